set_option maxHeartbeats 4000000 in
set_option maxRecDepth 100000 in
theorem c_over {l : Launch} {dC : Nat → ClassId} {dI : Nat → Nat → Nat} {h0 : Nat} {ad : Nat → Nat} {cI cJ cB cZ : Nat} {F : Nat → Int} {ar : Nat → Int → Int} {sz : Nat} {a b : Int} (t0 : 0 ≤ F 2) (a0 : 0 ≤ a) (a1 : a + nsz (ar 1) a < F 2) (b0 : 0 ≤ b) (b1 : b + nsz (ar 1) b < F 2) (t1 : F 2 + 8 * nsz (ar 1) a + 40 < 6000000) (hk : hok (ar 1)) (na : nm (ar 1) a) (nb : nm (ar 1) b) (hb1 : 1 ≤ nsz (ar 1) b) : Met l yX12_over (Cond.code yX12_over cX12_over 3 (some .int) :: w0r) (rRm 4 125) (rPc dC dI h0 ad cI cJ cB cZ F ar sz [Iz (a), Iz (b)]) (rQi dC dI h0 ad cI cJ cB cZ sz (fun z F' ar' => dvP F F' ar ar' a b (8 * nsz (ar 1) a + 30) ∧ z = F' 3)) 0 0 (rA h0 ad sz) := by
  refine Met.ofW (cc := cX12_over) (maxL := 3) (ret := (some .int)) (by decide) rfl ?_
  intro p e s m args below meth c s₁ B hml hv
  obtain ⟨rfl, hsz, hP, hK, hD0⟩ := hv
  have hx := B.exec
  have hb := B.bytes
  have hr := B.returns
  have hts := atoms_spec (ws := Cond.code yX12_over cX12_over 3 (some .int) :: w0r) B.pre
  have hown : s.vm.findClass RX12 = some m.cls := findClass_of_methodNamed B.named
  have hlocks := B.notSynchronized
  have E : CallFix p m c cX12_over 3 s _ (Cond.code yX12_over cX12_over 3 (some .int) :: w0r) RX12 := ⟨hx, hb, hml, hown, hts⟩
  subst hsz
  have hD := rA_self s.heap.size hD0
  have hA : ∀ q : Nat, s.heap.size ≤ q → rA h0 ad s.heap.size q := fun q h => Or.inr h
  have hS : va_S (rA h0 ad s.heap.size) s.heap s.heap [] := va_S.rf
  have hl := lv_entry ([.ref h0, Iz (a), Iz (b)]) (n := 3) (Nat.le_of_ble_eq_true rfl)
  rw [lg_entry_eq]
  generalize (lg_sl ([.ref h0, Iz (a), Iz (b)]) ++ List.replicate (3 - (lg_sl ([.ref h0, Iz (a), Iz (b)])).length) Slot.unset).toArray = ls at hl ⊢
  have hl : lv_has ls 3 [(0, .ref h0), (1, Iz (a)), (2, Iz (b))] := hl
  refine lv_aload_n hx hb dX12_over_0 rfl (lv_at hl 0 rfl) ?_
  refine lv_iload_n hx hb dX12_over_1 rfl (lv_at hl 1 rfl) ?_
  refine lv_iload_n hx hb dX12_over_2 rfl (lv_at hl 2 rfl) ?_
  refine r_callv (As := [Iz (a), Iz (b)]) (rest := []) E (c_divide (F := F) (ar := ar) (a := a) (b := b) t0 a0 a1 b0 b1 t1 hk na nb hb1) (cwV 2 hts (rGood ml_62 mi_divide ms_divide mn_RX12 mc_divide) rfl rfl rfl (by decide +kernel) ⟨Nat.le_of_ble_eq_true rfl, Nat.le_of_ble_eq_true rfl⟩) hK hP hD hS hA rfl hl.1 (Nat.le_of_ble_eq_true rfl) dX12_over_3 ⟨Nat.le_refl 0, Nat.le_refl 0⟩ (fun F3 ar3 H locs q3 hP hD hS => ?_)
  refine lv_aload_n hx hb dX12_over_6 rfl (lv_at hl 0 rfl) ?_
  refine r_geti E hK hP (k := 3) (v := Iz (F3 3)) (by decide) mf_45 rfl rfl dX12_over_7 ?_
  have hpost : dvP F F3 ar ar3 a b (8 * nsz (ar 1) a + 30) ∧ (F3 3 : Int) = F3 3 := ⟨q3, rfl⟩
  exact W.iret (v := Int32.ofInt (F3 3)) hx hb hr (fun t ht hW => ⟨⟨_, (F3, ar3), rfl, ⟨_, rfl, hpost⟩, by rw [ht]; exact hP, va_K.moved hW.alike hK, hD⟩, hS.F ht⟩) hS.2.2 dX12_over_10
set_option maxHeartbeats 4000000 in
set_option maxRecDepth 100000 in
theorem c_bring {l : Launch} {dC : Nat → ClassId} {dI : Nat → Nat → Nat} {h0 : Nat} {ad : Nat → Nat} {cI cJ cB cZ : Nat} {F : Nat → Int} {ar : Nat → Int → Int} {sz : Nat} {mk fr : Int} (m0 : 0 ≤ mk) (m1 : mk ≤ fr) (m2 : fr ≤ F 2) (m3 : F 2 < 6000000) (hk : hok (ar 1)) : Met l yX12_bring (Cond.code yX12_bring cX12_bring 5 none :: w0r) (rRm 0 0) (rPc dC dI h0 ad cI cJ cB cZ F ar sz [Iz (mk), Iz (fr)]) (rQv dC dI h0 ad cI cJ cB cZ sz (fun F' ar' => F' = fup F 2 (mk + (F 2 - fr)) ∧ (∀ j : Nat, j ≠ 1 → ar' j = ar j) ∧ (∀ t : Int, t < mk → ar' 1 t = ar 1 t) ∧ (∀ t : Int, 0 ≤ t → t < F 2 - fr → ar' 1 (mk + t) = ar 1 (fr + t)) ∧ hok (ar' 1))) 0 0 (rA h0 ad sz) := by
  refine Met.ofW (cc := cX12_bring) (maxL := 5) (ret := none) (by decide) rfl ?_
  intro p e s m args below meth c s₁ B hml hv
  obtain ⟨rfl, hsz, hP, hK, hD0⟩ := hv
  have hx := B.exec
  have hb := B.bytes
  have hr := B.returns
  have hts := atoms_spec (ws := Cond.code yX12_bring cX12_bring 5 none :: w0r) B.pre
  have hown : s.vm.findClass RX12 = some m.cls := findClass_of_methodNamed B.named
  have hlocks := B.notSynchronized
  have E : CallFix p m c cX12_bring 5 s _ (Cond.code yX12_bring cX12_bring 5 none :: w0r) RX12 := ⟨hx, hb, hml, hown, hts⟩
  subst hsz
  have hD := rA_self s.heap.size hD0
  have hA : ∀ q : Nat, s.heap.size ≤ q → rA h0 ad s.heap.size q := fun q h => Or.inr h
  have hS : va_S (rA h0 ad s.heap.size) s.heap s.heap [] := va_S.rf
  have hl := lv_entry ([.ref h0, Iz (mk), Iz (fr)]) (n := 5) (Nat.le_of_ble_eq_true rfl)
  rw [lg_entry_eq]
  generalize (lg_sl ([.ref h0, Iz (mk), Iz (fr)]) ++ List.replicate (5 - (lg_sl ([.ref h0, Iz (mk), Iz (fr)])).length) Slot.unset).toArray = ls at hl ⊢
  have hl : lv_has ls 5 [(0, .ref h0), (1, Iz (mk)), (2, Iz (fr))] := hl
  refine lv_aload_n hx hb dX12_bring_0 rfl (lv_at hl 0 rfl) ?_
  refine r_geti E hK hP (k := 2) (v := Iz (F 2)) (by decide) mf_11 rfl rfl dX12_bring_1 ?_
  refine lv_iload_n hx hb dX12_bring_4 rfl (lv_at hl 2 rfl) ?_
  refine g_isub hx hb dX12_bring_5 ?_
  refine lv_istore_n (lv' := [(3, Iz ((F 2) - fr)), (0, .ref h0), (1, Iz (mk)), (2, Iz (fr))]) hx hb dX12_bring_6 rfl hl (by decide) rfl (fun ls hl => ?_)
  refine lv_iconst (v := Int32.ofInt (0)) hx hb dX12_bring_7 (by decide) ?_
  refine lv_istore (lv' := [(4, Iz (0)), (3, Iz ((F 2) - fr)), (0, .ref h0), (1, Iz (mk)), (2, Iz (fr))]) hx hb dX12_bring_8 hl (by decide) rfl (fun ls hl => ?_)
  refine r_loop (P := fun N_ H locs ls => ∃ (ar1 : Nat → Int → Int) (i : Int), N_ = (F 2 - fr - i).toNat ∧ (0 ≤ i) ∧ (i ≤ F 2 - fr) ∧ (∀ j : Nat, j ≠ 1 → ar1 j = ar j) ∧ (∀ t : Int, t < mk → ar1 1 t = ar 1 t) ∧ (∀ t : Int, mk + i ≤ t → ar1 1 t = ar 1 t) ∧ (∀ t : Int, 0 ≤ t → t < i → ar1 1 (mk + t) = ar 1 (fr + t)) ∧ (hok (ar1 1)) ∧ va_P (dC, dI) rcl (mW h0 ad cI cJ cB cZ F ar1) H ∧ va_D (rA h0 ad s.heap.size) (mW h0 ad cI cJ cB cZ F ar1) ∧ va_S (rA h0 ad s.heap.size) s.heap H locs ∧ lv_has ls 5 [(0, .ref h0), (1, Iz (mk)), (2, Iz (fr)), (3, Iz ((F 2) - fr)), (4, Iz (i))]) (g := fun ls => F0 m 10 ls []) (fun N_ H locs ls hI ih_10 => ?_) _ _ _ _ ⟨ar, 0, rfl, (Int.le_refl 0), (by omega), (fun _ _ => rfl), (fun _ _ => rfl), (fun _ _ => rfl), (fun t a b => by omega), (hk), hP, hD, hS, lv_sub hl [2, 3, 4, 1, 0] rfl⟩
  obtain ⟨ar1, i, rfl, i0, i1, q1, q2, q5, q3, q4, hP, hD, hS, hl⟩ := hI
  refine lv_iload hx hb dX12_bring_10 (lv_at hl 4 rfl) ?_
  refine lv_iload_n hx hb dX12_bring_12 rfl (lv_at hl 3 rfl) ?_
  refine g_icmp_ge (tgt := 40) hx hb ⟨by omega, by omega⟩ ⟨by omega, by omega⟩ dX12_bring_13 (by decide) (fun c_13 => ?_) (fun c_13 => ?_)
  · skip
    refine lv_aload_n hx hb dX12_bring_40 rfl (lv_at hl 0 rfl) ?_
    refine lv_iload_n hx hb dX12_bring_41 rfl (lv_at hl 1 rfl) ?_
    refine lv_iload_n hx hb dX12_bring_42 rfl (lv_at hl 3 rfl) ?_
    refine g_iadd hx hb dX12_bring_43 ?_
    refine r_puti E hK hP hD hS 2 (by decide) mf_11 rfl rfl (by decide +kernel) (sp_2 h0 ad cI cJ cB cZ _ _) dX12_bring_44 (fun H locs hP hD hS => ?_)
    have hpost : (fup F 2 (mk + ((F 2) - fr))) = fup F 2 (mk + (F 2 - fr)) ∧ (∀ j : Nat, j ≠ 1 → ar1 j = ar j) ∧ (∀ t : Int, t < mk → ar1 1 t = ar 1 t) ∧ (∀ t : Int, 0 ≤ t → t < F 2 - fr → ar1 1 (mk + t) = ar 1 (fr + t)) ∧ hok (ar1 1) := ⟨rfl, q1, q2, fun t h1 h2 => q3 t h1 (by omega), q4⟩
    exact W.vret hx hb hr (fun t ht hW => ⟨⟨((fup F 2 (mk + ((F 2) - fr))), ar1), rfl, hpost, by rw [ht]; exact hP, va_K.moved hW.alike hK, hD⟩, hS.F ht⟩) hS.2.2 dX12_bring_47
  · skip
    refine lv_aload_n hx hb dX12_bring_16 rfl (lv_at hl 0 rfl) ?_
    refine r_geti E hK hP (k := 1) (v := .ref (ad 1)) (by decide) mf_7 rfl rfl dX12_bring_17 ?_
    refine lv_iload_n hx hb dX12_bring_20 rfl (lv_at hl 1 rfl) ?_
    refine lv_iload hx hb dX12_bring_21 (lv_at hl 4 rfl) ?_
    refine g_iadd hx hb dX12_bring_23 ?_
    refine lv_aload_n hx hb dX12_bring_24 rfl (lv_at hl 0 rfl) ?_
    refine r_geti E hK hP (k := 1) (v := .ref (ad 1)) (by decide) mf_7 rfl rfl dX12_bring_25 ?_
    refine lv_iload_n hx hb dX12_bring_28 rfl (lv_at hl 2 rfl) ?_
    refine lv_iload hx hb dX12_bring_29 (lv_at hl 4 rfl) ?_
    refine g_iadd hx hb dX12_bring_31 ?_
    refine g_iald (f := (ar1 1)) hx hb hK hP 1 0 rfl rfl (by omega) (by omega) (by decide) dX12_bring_32 ?_
    refine g_iast (f := (ar1 1)) hx hb hK hP hD hS 1 0 rfl rfl (by omega) (by omega) (by decide) dX12_bring_33 (fun H locs hP hD hS => ?_)
    rw [sa_1] at hP hD
    refine g_iinc (k := 4) (z := i) (n := (1)) (lv' := [(4, Iz (i + 1)), (0, .ref h0), (1, Iz (mk)), (2, Iz (fr)), (3, Iz ((F 2) - fr))]) hx hb dX12_bring_34 hl rfl (by decide) rfl (fun ls hl => ?_)
    refine lv_goto (tgt := 10) hx hb dX12_bring_37 (by decide) ?_
    exact ih_10 _ (by omega) _ _ _ ⟨(aup ar1 1 (iup (ar1 1) (mk + i) ((ar1 1) (fr + i)))), (i + 1), rfl, (by omega), (by omega), (fun j hj => by rw [aup_ne _ _ hj]; exact q1 j hj), (fun t ht => by show iup _ _ _ t = _; rw [iup_ne (by omega)]; exact q2 t ht), (fun t ht => by show iup _ _ _ t = _; rw [iup_ne (by omega)]; exact q5 t (by omega)), (fun t h1 h2 => by show iup _ _ _ _ = _; by_cases e : t = i; (· rw [e, iup_self]; exact q5 _ (by omega)); (· rw [iup_ne (by omega)]; exact q3 t h1 (by omega))), (hok_up q4 (q4 _).1 (q4 _).2), hP, hD, hS, lv_sub hl [1, 2, 3, 4, 0] rfl⟩
