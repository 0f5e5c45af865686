set_option maxHeartbeats 4000000 in
set_option maxRecDepth 100000 in
theorem c_keepPolynomial {l : Launch} {dC : Nat → ClassId} {dI : Nat → Nat → Nat} {h0 : Nat} {ad : Nat → Nat} {cI cJ cB cZ : Nat} {F : Nat → Int} {ar : Nat → Int → Int} {sz : Nat} {mk q : Int} (t0 : 0 ≤ F 2) (t1 : F 2 ≤ 1000000) (m0 : 0 ≤ mk) (m1 : mk ≤ F 2) (b0 : 0 ≤ q) (b1 : q + 1 + ar 1 q < F 2) (e0 : -1 ≤ ar 1 q) (e1 : ar 1 q ≤ 12) (hk : hok (ar 1)) (hk5 : hok (ar 5)) (hk6 : hok (ar 6)) (pv : ∀ i : Int, 0 ≤ i → i ≤ ar 1 q → 0 ≤ ar 1 (q + 1 + i) ∧ ar 1 (q + 1 + i) + nsz (ar 1) (ar 1 (q + 1 + i)) < F 2 ∧ nsz (ar 1) (ar 1 (q + 1 + i)) ≤ 1000) : Met l yX12_keepPolynomial (Cond.code yX12_keepPolynomial cX12_keepPolynomial 3 (some .int) :: w0r) (rRm 4 92) (rPc dC dI h0 ad cI cJ cB cZ F ar sz [Iz (mk), Iz (q)]) (rQi dC dI h0 ad cI cJ cB cZ sz (fun z F' ar' => (∀ j : Nat, j ≠ 2 → F' j = F j) ∧ (∀ j : Nat, j ≠ 1 → j ≠ 5 → j ≠ 6 → ar' j = ar j) ∧ (∀ t : Int, t < mk → ar' 1 t = ar 1 t) ∧ hok (ar' 1) ∧ hok (ar' 5) ∧ hok (ar' 6) ∧ mk ≤ z ∧ F' 2 ≤ mk + 30000 ∧ z + 2 + ar' 1 (z) = F' 2 ∧ -1 ≤ ar' 1 (z) ∧ ar' 1 (z) ≤ ar 1 (q) ∧ (∀ i : Int, 0 ≤ i → i ≤ ar' 1 (z) → mk ≤ ar' 1 (z + 1 + i) ∧ ar' 1 (z + 1 + i) + nsz (ar' 1) (ar' 1 (z + 1 + i)) < z ∧ nsz (ar' 1) (ar' 1 (z + 1 + i)) = nsz (ar 1) (ar 1 (q + 1 + i))))) 0 0 (rA h0 ad sz) := by
  refine Met.ofW (cc := cX12_keepPolynomial) (maxL := 3) (ret := (some .int)) (by decide) rfl ?_
  intro p e s m args below meth c s₁ B hml hv
  obtain ⟨rfl, hsz, hP, hK, hD0⟩ := hv
  have hx := B.exec
  have hb := B.bytes
  have hr := B.returns
  have hts := atoms_spec (ws := Cond.code yX12_keepPolynomial cX12_keepPolynomial 3 (some .int) :: w0r) B.pre
  have hown : s.vm.findClass RX12 = some m.cls := findClass_of_methodNamed B.named
  have hlocks := B.notSynchronized
  have E : CallFix p m c cX12_keepPolynomial 3 s _ (Cond.code yX12_keepPolynomial cX12_keepPolynomial 3 (some .int) :: w0r) RX12 := ⟨hx, hb, hml, hown, hts⟩
  subst hsz
  have hD := rA_self s.heap.size hD0
  have hA : ∀ q : Nat, s.heap.size ≤ q → rA h0 ad s.heap.size q := fun q h => Or.inr h
  have hS : va_S (rA h0 ad s.heap.size) s.heap s.heap [] := va_S.rf
  have hl := lv_entry ([.ref h0, Iz (mk), Iz (q)]) (n := 3) (Nat.le_of_ble_eq_true rfl)
  rw [lg_entry_eq]
  generalize (lg_sl ([.ref h0, Iz (mk), Iz (q)]) ++ List.replicate (3 - (lg_sl ([.ref h0, Iz (mk), Iz (q)])).length) Slot.unset).toArray = ls at hl ⊢
  have hl : lv_has ls 3 [(0, .ref h0), (1, Iz (mk)), (2, Iz (q))] := hl
  refine lv_aload_n hx hb dX12_keepPolynomial_0 rfl (lv_at hl 0 rfl) ?_
  refine r_geti E hK hP (k := 5) (v := .ref (ad 5)) (by decide) mf_68 rfl rfl dX12_keepPolynomial_1 ?_
  refine lv_iconst (v := Int32.ofInt (0)) hx hb dX12_keepPolynomial_4 (by decide) ?_
  refine lv_iload_n hx hb dX12_keepPolynomial_5 rfl (lv_at hl 2 rfl) ?_
  refine g_iast (f := (ar 5)) hx hb hK hP hD hS 2 0 rfl rfl (by omega) (by omega) (by decide) dX12_keepPolynomial_6 (fun H locs hP hD hS => ?_)
  rw [sa_5] at hP hD
  refine lv_aload_n hx hb dX12_keepPolynomial_7 rfl (lv_at hl 0 rfl) ?_
  refine lv_iload_n hx hb dX12_keepPolynomial_8 rfl (lv_at hl 1 rfl) ?_
  refine lv_iconst (v := Int32.ofInt (1)) hx hb dX12_keepPolynomial_9 (by decide) ?_
  have e50 : aup ar 5 (iup (ar 5) 0 q) 5 0 = q := (show iup (ar 5) 0 q 0 = q from iup_self)
  refine r_callv (As := [Iz (mk), Iz (1)]) (rest := []) E (c_keepPolynomials (F := F) (ar := (aup ar 5 (iup (ar 5) 0 q))) (mk := mk) t0 t1 m0 m1 (by rw [e50]; exact b0) (by rw [e50]; exact b1) (by rw [e50]; exact e0) (by rw [e50]; exact e1) hk (hok_up hk5 (by omega) (by omega)) hk6 (by rw [e50]; exact pv)) (cwV 2 hts (rGood ml_95 mi_keepPolynomials ms_keepPolynomials mn_RX12 mc_keepPolynomials) rfl rfl rfl (by decide +kernel) ⟨Nat.le_of_ble_eq_true rfl, Nat.le_of_ble_eq_true rfl⟩) hK hP hD hS hA rfl hl.1 (Nat.le_of_ble_eq_true rfl) dX12_keepPolynomial_10 ⟨Nat.le_refl 0, Nat.le_refl 0⟩ (fun F10 ar10 H locs q10 hP hD hS => ?_)
  obtain ⟨d1, d2, d3, d4, d5, d6, d7, d8, d9, d10, d11, d12⟩ := q10
  rw [e50] at d11 d12
  refine lv_aload_n hx hb dX12_keepPolynomial_13 rfl (lv_at hl 0 rfl) ?_
  refine r_geti E hK hP (k := 5) (v := .ref (ad 5)) (by decide) mf_68 rfl rfl dX12_keepPolynomial_14 ?_
  refine lv_iconst (v := Int32.ofInt (0)) hx hb dX12_keepPolynomial_17 (by decide) ?_
  refine g_iald (f := (ar10 5)) hx hb hK hP 2 0 rfl rfl (by omega) (by omega) (by decide) dX12_keepPolynomial_18 ?_
  have hpost : (∀ j : Nat, j ≠ 2 → F10 j = F j) ∧ (∀ j : Nat, j ≠ 1 → j ≠ 5 → j ≠ 6 → ar10 j = ar j) ∧ (∀ t : Int, t < mk → ar10 1 t = ar 1 t) ∧ hok (ar10 1) ∧ hok (ar10 5) ∧ hok (ar10 6) ∧ mk ≤ ((ar10 5) 0 : Int) ∧ F10 2 ≤ mk + 30000 ∧ ((ar10 5) 0 : Int) + 2 + ar10 1 (((ar10 5) 0 : Int)) = F10 2 ∧ -1 ≤ ar10 1 (((ar10 5) 0 : Int)) ∧ ar10 1 (((ar10 5) 0 : Int)) ≤ ar 1 (q) ∧ (∀ i : Int, 0 ≤ i → i ≤ ar10 1 (((ar10 5) 0 : Int)) → mk ≤ ar10 1 (((ar10 5) 0 : Int) + 1 + i) ∧ ar10 1 (((ar10 5) 0 : Int) + 1 + i) + nsz (ar10 1) (ar10 1 (((ar10 5) 0 : Int) + 1 + i)) < ((ar10 5) 0 : Int) ∧ nsz (ar10 1) (ar10 1 (((ar10 5) 0 : Int) + 1 + i)) = nsz (ar 1) (ar 1 (q + 1 + i))) := ⟨d1, fun j h1 h5 h6 => (d2 j h1 h5 h6).trans (aup_ne _ _ h5), d3, d4, d5, d6, d7, d8, d9, d10, d11, d12⟩
  exact W.iret (v := Int32.ofInt ((ar10 5) 0)) hx hb hr (fun t ht hW => ⟨⟨_, (F10, ar10), rfl, ⟨_, rfl, hpost⟩, by rw [ht]; exact hP, va_K.moved hW.alike hK, hD⟩, hS.F ht⟩) hS.2.2 dX12_keepPolynomial_19
