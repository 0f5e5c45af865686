theorem nsg_zero {h : Int → Int} {a : Int} : nsg h a = 0 ↔ nsz h a = 0 := by
  unfold nsg nsz
  split
  · omega
  · split <;> omega
theorem nsg_i (h : Int → Int) (a : Int) : g_i (nsg h a) := by
  unfold nsg g_i
  split
  · omega
  · split <;> omega
set_option maxHeartbeats 4000000 in
set_option maxRecDepth 100000 in
theorem c_keepNumber {l : Launch} {dC : Nat → ClassId} {dI : Nat → Nat → Nat} {h0 : Nat} {ad : Nat → Nat} {cI cJ cB cZ : Nat} {F : Nat → Int} {ar : Nat → Int → Int} {sz : Nat} {mk a : Int} (t0 : 0 ≤ F 2) (t1 : F 2 + 10002 < 6000000) (m0 : 0 ≤ mk) (m1 : mk ≤ F 2) (a0 : 0 ≤ a) (a1 : a + nsz (ar 1) a < F 2) (a2 : nsz (ar 1) a < 9999) (hk : hok (ar 1)) (hk5 : hok (ar 5)) : Met l yX12_keepNumber (Cond.code yX12_keepNumber cX12_keepNumber 3 (some .int) :: w0r) (rRm 3 69) (rPc dC dI h0 ad cI cJ cB cZ F ar sz [Iz (mk), Iz (a)]) (rQi dC dI h0 ad cI cJ cB cZ sz (fun z F' ar' => (∀ j : Nat, j ≠ 2 → F' j = F j) ∧ (∀ j : Nat, j ≠ 1 → j ≠ 5 → ar' j = ar j) ∧ (∀ t : Int, t < mk → ar' 1 t = ar 1 t) ∧ hok (ar' 1) ∧ hok (ar' 5) ∧ mk ≤ z ∧ z + nsz (ar 1) a < F' 2 ∧ F' 2 ≤ mk + 10000 ∧ (∀ u : Int, 0 ≤ u → u ≤ nsz (ar 1) a → ar' 1 (z + u) = ar 1 (a + u)))) 0 0 (rA h0 ad sz) := by
  refine Met.ofW (cc := cX12_keepNumber) (maxL := 3) (ret := (some .int)) (by decide) rfl ?_
  intro p e s m args below meth c s₁ B hml hv
  obtain ⟨rfl, hsz, hP, hK, hD0⟩ := hv
  have hx := B.exec
  have hb := B.bytes
  have hr := B.returns
  have hts := atoms_spec (ws := Cond.code yX12_keepNumber cX12_keepNumber 3 (some .int) :: w0r) B.pre
  have hown : s.vm.findClass RX12 = some m.cls := findClass_of_methodNamed B.named
  have hlocks := B.notSynchronized
  have E : CallFix p m c cX12_keepNumber 3 s _ (Cond.code yX12_keepNumber cX12_keepNumber 3 (some .int) :: w0r) RX12 := ⟨hx, hb, hml, hown, hts⟩
  subst hsz
  have hD := rA_self s.heap.size hD0
  have hA : ∀ q : Nat, s.heap.size ≤ q → rA h0 ad s.heap.size q := fun q h => Or.inr h
  have hS : va_S (rA h0 ad s.heap.size) s.heap s.heap [] := va_S.rf
  have hl := lv_entry ([.ref h0, Iz (mk), Iz (a)]) (n := 3) (Nat.le_of_ble_eq_true rfl)
  rw [lg_entry_eq]
  generalize (lg_sl ([.ref h0, Iz (mk), Iz (a)]) ++ List.replicate (3 - (lg_sl ([.ref h0, Iz (mk), Iz (a)])).length) Slot.unset).toArray = ls at hl ⊢
  have hl : lv_has ls 3 [(0, .ref h0), (1, Iz (mk)), (2, Iz (a))] := hl
  have s0 := nsz_nonneg (ar 1) a
  refine lv_aload_n hx hb dX12_keepNumber_0 rfl (lv_at hl 0 rfl) ?_
  refine r_geti E hK hP (k := 5) (v := .ref (ad 5)) (by decide) mf_68 rfl rfl dX12_keepNumber_1 ?_
  refine lv_iconst (v := Int32.ofInt (0)) hx hb dX12_keepNumber_4 (by decide) ?_
  refine lv_iload_n hx hb dX12_keepNumber_5 rfl (lv_at hl 2 rfl) ?_
  refine g_iast (f := (ar 5)) hx hb hK hP hD hS 2 0 rfl rfl (by omega) (by omega) (by decide) dX12_keepNumber_6 (fun H locs hP hD hS => ?_)
  rw [sa_5] at hP hD
  refine lv_aload_n hx hb dX12_keepNumber_7 rfl (lv_at hl 0 rfl) ?_
  refine lv_iload_n hx hb dX12_keepNumber_8 rfl (lv_at hl 1 rfl) ?_
  refine lv_iconst (v := Int32.ofInt (1)) hx hb dX12_keepNumber_9 (by decide) ?_
  have k5 : hok (iup (ar 5) 0 a) := hok_up hk5 (by omega) (by omega)
  have kk5 : ∀ t : Int, 0 ≤ t → t < 1 → 0 ≤ iup (ar 5) 0 a t ∧ iup (ar 5) 0 a t + nsz (ar 1) (iup (ar 5) 0 a t) < F 2 ∧ nsz (ar 1) (iup (ar 5) 0 a t) < 9999 := fun t h1 h2 => by
    have e : t = 0 := by omega
    rw [e, iup_self]; exact ⟨a0, a1, a2⟩
  refine r_callv (As := [Iz (mk), Iz (1)]) (rest := []) E (c_keepNumbers (F := F) (ar := (aup ar 5 (iup (ar 5) 0 a))) (mk := mk) (n := 1) t0 (by omega) (by omega) (by omega) m0 m1 hk k5 kk5) (cwV 2 hts (rGood ml_74 mi_keepNumbers ms_keepNumbers mn_RX12 mc_keepNumbers) rfl rfl rfl (by decide +kernel) ⟨Nat.le_of_ble_eq_true rfl, Nat.le_of_ble_eq_true rfl⟩) hK hP hD hS hA rfl hl.1 (Nat.le_of_ble_eq_true rfl) dX12_keepNumber_10 ⟨Nat.le_refl 0, Nat.le_refl 0⟩ (fun F10 ar10 H locs q10 hP hD hS => ?_)
  obtain ⟨d1, d2, d3, d4, d5, d6, d7, d8, d9⟩ := q10
  refine lv_aload_n hx hb dX12_keepNumber_13 rfl (lv_at hl 0 rfl) ?_
  refine r_geti E hK hP (k := 5) (v := .ref (ad 5)) (by decide) mf_68 rfl rfl dX12_keepNumber_14 ?_
  refine lv_iconst (v := Int32.ofInt (0)) hx hb dX12_keepNumber_17 (by decide) ?_
  refine g_iald (f := (ar10 5)) hx hb hK hP 2 0 rfl rfl (by omega) (by omega) (by decide) dX12_keepNumber_18 ?_
  have w := d9 0 (by omega) (by omega)
  have e0 : aup ar 5 (iup (ar 5) 0 a) 5 0 = a := (show iup (ar 5) 0 a 0 = a from iup_self)
  rw [e0] at w
  have hpost : (∀ j : Nat, j ≠ 2 → F10 j = F j) ∧ (∀ j : Nat, j ≠ 1 → j ≠ 5 → ar10 j = ar j) ∧ (∀ t : Int, t < mk → ar10 1 t = ar 1 t) ∧ hok (ar10 1) ∧ hok (ar10 5) ∧ mk ≤ ((ar10 5) 0 : Int) ∧ ((ar10 5) 0 : Int) + nsz (ar 1) a < F10 2 ∧ F10 2 ≤ mk + 10000 ∧ (∀ u : Int, 0 ≤ u → u ≤ nsz (ar 1) a → ar10 1 (((ar10 5) 0 : Int) + u) = ar 1 (a + u)) := ⟨d1, fun t h1 h5 => (d2 t h1 h5).trans (aup_ne _ _ h5), d3, d4, d5, w.1, w.2.1, by omega, w.2.2⟩
  exact W.iret (v := Int32.ofInt ((ar10 5) 0)) hx hb hr (fun t ht hW => ⟨⟨_, (F10, ar10), rfl, ⟨_, rfl, hpost⟩, by rw [ht]; exact hP, va_K.moved hW.alike hK, hD⟩, hS.F ht⟩) hS.2.2 dX12_keepNumber_19
set_option maxHeartbeats 4000000 in
set_option maxRecDepth 100000 in
theorem c_greatestDivisor {l : Launch} {dC : Nat → ClassId} {dI : Nat → Nat → Nat} {h0 : Nat} {ad : Nat → Nat} {cI cJ cB cZ : Nat} {F : Nat → Int} {ar : Nat → Int → Int} {sz : Nat} {a b : Int} (t0 : 0 ≤ F 2) (t1 : F 2 + 100000 < 6000000) (a0 : 0 ≤ a) (a1 : a + nsz (ar 1) a < F 2) (a2 : nsz (ar 1) a ≤ 1000) (b0 : 0 ≤ b) (b1 : b + nsz (ar 1) b < F 2) (b2 : nsz (ar 1) b ≤ 1000) (hk : hok (ar 1)) (hk5 : hok (ar 5)) (na : nm (ar 1) a) (nb : nm (ar 1) b) : Met l yX12_greatestDivisor (Cond.code yX12_greatestDivisor cX12_greatestDivisor 6 (some .int) :: w0r) (rRm 4 125) (rPc dC dI h0 ad cI cJ cB cZ F ar sz [Iz (a), Iz (b)]) (rQi dC dI h0 ad cI cJ cB cZ sz (fun z F' ar' => (∀ j : Nat, j ≠ 2 → j ≠ 3 → j ≠ 4 → F' j = F j) ∧ (∀ j : Nat, j ≠ 1 → j ≠ 5 → ar' j = ar j) ∧ (∀ t : Int, t < F 2 → ar' 1 t = ar 1 t) ∧ hok (ar' 1) ∧ hok (ar' 5) ∧ F 2 ≤ z ∧ z + nsz (ar' 1) z < F' 2 ∧ F' 2 ≤ F 2 + 10000 ∧ nm (ar' 1) z ∧ nsz (ar' 1) z ≤ 1000 ∧ ((nsz (ar 1) a ≠ 0 ∨ nsz (ar 1) b ≠ 0) → nsz (ar' 1) z ≠ 0))) 0 0 (rA h0 ad sz) := by
  refine Met.ofW (cc := cX12_greatestDivisor) (maxL := 6) (ret := (some .int)) (by decide) rfl ?_
  intro p e s m args below meth c s₁ B hml hv
  obtain ⟨rfl, hsz, hP, hK, hD0⟩ := hv
  have hx := B.exec
  have hb := B.bytes
  have hr := B.returns
  have hts := atoms_spec (ws := Cond.code yX12_greatestDivisor cX12_greatestDivisor 6 (some .int) :: w0r) B.pre
  have hown : s.vm.findClass RX12 = some m.cls := findClass_of_methodNamed B.named
  have hlocks := B.notSynchronized
  have E : CallFix p m c cX12_greatestDivisor 6 s _ (Cond.code yX12_greatestDivisor cX12_greatestDivisor 6 (some .int) :: w0r) RX12 := ⟨hx, hb, hml, hown, hts⟩
  subst hsz
  have hD := rA_self s.heap.size hD0
  have hA : ∀ q : Nat, s.heap.size ≤ q → rA h0 ad s.heap.size q := fun q h => Or.inr h
  have hS : va_S (rA h0 ad s.heap.size) s.heap s.heap [] := va_S.rf
  have hl := lv_entry ([.ref h0, Iz (a), Iz (b)]) (n := 6) (Nat.le_of_ble_eq_true rfl)
  rw [lg_entry_eq]
  generalize (lg_sl ([.ref h0, Iz (a), Iz (b)]) ++ List.replicate (6 - (lg_sl ([.ref h0, Iz (a), Iz (b)])).length) Slot.unset).toArray = ls at hl ⊢
  have hl : lv_has ls 6 [(0, .ref h0), (1, Iz (a)), (2, Iz (b))] := hl
  refine lv_aload_n hx hb dX12_greatestDivisor_0 rfl (lv_at hl 0 rfl) ?_
  refine r_geti E hK hP (k := 2) (v := Iz (F 2)) (by decide) mf_11 rfl rfl dX12_greatestDivisor_1 ?_
  refine lv_istore_n (lv' := [(3, Iz (F 2)), (0, .ref h0), (1, Iz (a)), (2, Iz (b))]) hx hb dX12_greatestDivisor_4 rfl hl (by decide) rfl (fun ls hl => ?_)
  refine lv_iload_n hx hb dX12_greatestDivisor_5 rfl (lv_at hl 2 rfl) ?_
  refine lv_istore (lv' := [(4, Iz (a)), (3, Iz (F 2)), (0, .ref h0), (1, Iz (a)), (2, Iz (b))]) hx hb dX12_greatestDivisor_6 hl (by decide) rfl (fun ls hl => ?_)
  refine lv_iload_n hx hb dX12_greatestDivisor_8 rfl (lv_at hl 4 rfl) ?_
  refine lv_istore (lv' := [(5, Iz (b)), (4, Iz (a)), (3, Iz (F 2)), (0, .ref h0), (1, Iz (a)), (2, Iz (b))]) hx hb dX12_greatestDivisor_9 hl (by decide) rfl (fun ls hl => ?_)
  refine r_loop (P := fun N_ H locs ls => ∃ (F1 : Nat → Int) (ar1 : Nat → Int → Int) (x : Int) (y : Int), N_ = (nv (ar1 1) y).toNat ∧ (∀ j : Nat, j ≠ 2 → j ≠ 3 → j ≠ 4 → F1 j = F j) ∧ (∀ j : Nat, j ≠ 1 → j ≠ 5 → ar1 j = ar j) ∧ (∀ t : Int, t < F 2 → ar1 1 t = ar 1 t) ∧ (hok (ar1 1)) ∧ (hok (ar1 5)) ∧ (F 2 ≤ F1 2) ∧ (F1 2 ≤ F 2 + 20000) ∧ (0 ≤ x) ∧ (x + nsz (ar1 1) x < F1 2) ∧ (nsz (ar1 1) x ≤ 1000) ∧ (nm (ar1 1) x) ∧ (0 ≤ y) ∧ (y + nsz (ar1 1) y < F1 2) ∧ (nsz (ar1 1) y ≤ 1000) ∧ (nm (ar1 1) y) ∧ ((nsz (ar 1) a ≠ 0 ∨ nsz (ar 1) b ≠ 0) → (nsz (ar1 1) x ≠ 0 ∨ nsz (ar1 1) y ≠ 0)) ∧ va_P (dC, dI) rcl (mW h0 ad cI cJ cB cZ F1 ar1) H ∧ va_D (rA h0 ad s.heap.size) (mW h0 ad cI cJ cB cZ F1 ar1) ∧ va_S (rA h0 ad s.heap.size) s.heap H locs ∧ lv_has ls 6 [(0, .ref h0), (1, Iz (a)), (2, Iz (b)), (3, Iz (F 2)), (4, Iz (x)), (5, Iz (y))]) (g := fun ls => F0 m 11 ls []) (fun N_ H locs ls hI ih_11 => ?_) _ _ _ _ ⟨F, ar, a, b, rfl, (fun _ _ _ _ => rfl), (fun _ _ _ => rfl), (fun _ _ => rfl), (hk), (hk5), (Int.le_refl _), (by omega), (a0), (a1), (a2), (na), (b0), (b1), (b2), (nb), (fun q => q), hP, hD, hS, lv_sub hl [3, 4, 5, 2, 1, 0] rfl⟩
  obtain ⟨F1, ar1, x, y, rfl, p1, p2, p3, p4, p4', p5, p6, x0, x1, x2, nx, y0, y1, y2, ny, hz, hP, hD, hS, hl⟩ := hI
  have sx := nsz_nonneg (ar1 1) x
  have sy := nsz_nonneg (ar1 1) y
  refine lv_aload_n hx hb dX12_greatestDivisor_11 rfl (lv_at hl 0 rfl) ?_
  refine lv_iload hx hb dX12_greatestDivisor_12 (lv_at hl 5 rfl) ?_
  refine r_calli (As := [Iz (y)]) (rest := []) E (c_signOf (F := F1) (ar := ar1) (a := y) (by omega) (by omega) p4) (cwV 1 hts (rGood ml_27 mi_signOf ms_signOf mn_RX12 mc_signOf) rfl rfl rfl (by decide +kernel) ⟨Nat.le_of_ble_eq_true rfl, Nat.le_of_ble_eq_true rfl⟩) hK hP hD hS hA rfl hl.1 (Nat.le_of_ble_eq_true rfl) dX12_greatestDivisor_14 ⟨Nat.le_refl 0, Nat.le_refl 0⟩ (fun z14 F14 ar14 H locs q14 hP hD hS => ?_)
  obtain ⟨e1_, e2_, e3_⟩ := q14
  obtain rfl := e1_.symm
  obtain rfl := e2_.symm
  obtain rfl := e3_.symm
  refine g_if_eq (tgt := 71) hx hb (nsg_i _ _) dX12_greatestDivisor_17 (by decide) (fun c_17 => ?_) (fun c_17 => ?_)
  · skip
    refine lv_aload_n hx hb dX12_greatestDivisor_71 rfl (lv_at hl 0 rfl) ?_
    refine lv_iload_n hx hb dX12_greatestDivisor_72 rfl (lv_at hl 3 rfl) ?_
    refine lv_iload hx hb dX12_greatestDivisor_73 (lv_at hl 4 rfl) ?_
    have xz : nsz (ar1 1) y = 0 := nsg_zero.mp c_17
    have hzz := hz
    refine r_calli (As := [Iz (F 2), Iz (x)]) (rest := []) E (c_keepNumber (F := F1) (ar := ar1) (mk := F 2) (a := x) (by omega) (by omega) t0 (by omega) x0 x1 (by omega) p4 p4') (cwV 2 hts (rGood ml_77 mi_keepNumber ms_keepNumber mn_RX12 mc_keepNumber) rfl rfl rfl (by decide +kernel) ⟨Nat.le_of_ble_eq_true rfl, Nat.le_of_ble_eq_true rfl⟩) hK hP hD hS hA rfl hl.1 (Nat.le_of_ble_eq_true rfl) dX12_greatestDivisor_75 ⟨Nat.le_refl 0, Nat.le_refl 0⟩ (fun z75 F75 ar75 H locs q75 hP hD hS => ?_)
    obtain ⟨d1, d2, d3, d4, d5, d6, d7, d8, d9⟩ := q75
    have mz := nm_move (h := ar1 1) (g := ar75 1) (a := x) (b := z75) d9
    refine lv_istore (lv' := [(4, Iz (z75)), (0, .ref h0), (1, Iz (a)), (2, Iz (b)), (3, Iz (F 2)), (5, Iz (y))]) hx hb dX12_greatestDivisor_78 hl (by decide) rfl (fun ls hl => ?_)
    refine lv_aload_n hx hb dX12_greatestDivisor_80 rfl (lv_at hl 1 rfl) ?_
    refine r_geti E hK hP (k := 1) (v := .ref (ad 1)) (by decide) mf_7 rfl rfl dX12_greatestDivisor_81 ?_
    refine lv_iload hx hb dX12_greatestDivisor_84 (lv_at hl 0 rfl) ?_
    refine lv_aload_n hx hb dX12_greatestDivisor_86 rfl (lv_at hl 1 rfl) ?_
    refine lv_iload hx hb dX12_greatestDivisor_87 (lv_at hl 0 rfl) ?_
    refine r_calli (As := [Iz (z75)]) (rest := [Iz (z75), .ref (ad 1)]) E (c_size (F := F75) (ar := ar75) (a := z75) (by omega) (by omega) d4) (cwV 1 hts (rGood ml_20 mi_size ms_size mn_RX12 mc_size) rfl rfl rfl (by decide +kernel) ⟨Nat.le_of_ble_eq_true rfl, Nat.le_of_ble_eq_true rfl⟩) hK hP hD hS hA rfl hl.1 (Nat.le_of_ble_eq_true rfl) dX12_greatestDivisor_89 ⟨Nat.le_refl 0, Nat.le_refl 0⟩ (fun z89 F89 ar89 H locs q89 hP hD hS => ?_)
    obtain ⟨e1_, e2_, e3_⟩ := q89
    obtain rfl := e1_.symm
    obtain rfl := e2_.symm
    obtain rfl := e3_.symm
    refine g_iast (f := (ar75 1)) hx hb hK hP hD hS 1 0 rfl rfl (by omega) (by omega) (by decide) dX12_greatestDivisor_92 (fun H locs hP hD hS => ?_)
    rw [sa_1] at hP hD
    refine lv_iload hx hb dX12_greatestDivisor_93 (lv_at hl 0 rfl) ?_
    have hz : nsz (iup (ar75 1) z75 (nsz (ar75 1) z75)) z75 = nsz (ar75 1) z75 := by have h := nsz_nonneg (ar75 1) z75; unfold nsz; rw [iup_self]; unfold nsz at h; split <;> split at * <;> omega
    have mv := nm_move' (h := ar75 1) (g := iup (ar75 1) z75 (nsz (ar75 1) z75)) (a := z75) (b := z75) hz (fun i h1 h2 => iup_ne (by omega))
    have s75 := nsz_nonneg (ar75 1) z75
    have m75 := mz.1
    have hpost : (∀ j : Nat, j ≠ 2 → j ≠ 3 → j ≠ 4 → F75 j = F j) ∧ (∀ j : Nat, j ≠ 1 → j ≠ 5 → (aup ar75 1 (iup (ar75 1) z75 (nsz (ar75 1) z75))) j = ar j) ∧ (∀ t : Int, t < F 2 → (aup ar75 1 (iup (ar75 1) z75 (nsz (ar75 1) z75))) 1 t = ar 1 t) ∧ hok ((aup ar75 1 (iup (ar75 1) z75 (nsz (ar75 1) z75))) 1) ∧ hok ((aup ar75 1 (iup (ar75 1) z75 (nsz (ar75 1) z75))) 5) ∧ F 2 ≤ (z75 : Int) ∧ (z75 : Int) + nsz ((aup ar75 1 (iup (ar75 1) z75 (nsz (ar75 1) z75))) 1) (z75 : Int) < F75 2 ∧ F75 2 ≤ F 2 + 10000 ∧ nm ((aup ar75 1 (iup (ar75 1) z75 (nsz (ar75 1) z75))) 1) (z75 : Int) ∧ nsz ((aup ar75 1 (iup (ar75 1) z75 (nsz (ar75 1) z75))) 1) (z75 : Int) ≤ 1000 ∧ ((nsz (ar 1) a ≠ 0 ∨ nsz (ar 1) b ≠ 0) → nsz ((aup ar75 1 (iup (ar75 1) z75 (nsz (ar75 1) z75))) 1) (z75 : Int) ≠ 0) := ⟨fun t h2 h3 h4 => (d1 t h2).trans (p1 t h2 h3 h4), fun t h1 h5 => (aup_ne _ _ h1).trans ((d2 t h1 h5).trans (p2 t h1 h5)), fun t ht => (iup_ne (by omega)).trans ((d3 t ht).trans (p3 t ht)), hok_up d4 (by omega) (nsz_lt d4 _), d5, d6, by show z75 + nsz (iup _ _ _) z75 < _; rw [hz]; omega, d8, mv.1 (mz.2.1 nx), by show nsz (iup _ _ _) z75 ≤ _; rw [hz]; omega, fun q => by show nsz (iup _ _ _) z75 ≠ 0; rw [hz, m75]; rcases hzz q with h | h; (· exact h); (· exact absurd xz h)⟩
    exact W.iret (v := Int32.ofInt (z75)) hx hb hr (fun t ht hW => ⟨⟨_, (F75, (aup ar75 1 (iup (ar75 1) z75 (nsz (ar75 1) z75)))), rfl, ⟨_, rfl, hpost⟩, by rw [ht]; exact hP, va_K.moved hW.alike hK, hD⟩, hS.F ht⟩) hS.2.2 dX12_greatestDivisor_95
  · skip
    have yz : nsz (ar1 1) y ≠ 0 := mt nsg_zero.mpr c_17
    refine lv_aload_n hx hb dX12_greatestDivisor_20 rfl (lv_at hl 0 rfl) ?_
    refine lv_iload hx hb dX12_greatestDivisor_21 (lv_at hl 4 rfl) ?_
    refine lv_iload hx hb dX12_greatestDivisor_23 (lv_at hl 5 rfl) ?_
    refine r_callv (As := [Iz (x), Iz (y)]) (rest := []) E (c_divide (F := F1) (ar := ar1) (a := x) (b := y) (by omega) x0 x1 y0 y1 (by omega) p4 nx ny (by omega)) (cwV 2 hts (rGood ml_62 mi_divide ms_divide mn_RX12 mc_divide) rfl rfl rfl (by decide +kernel) ⟨Nat.le_of_ble_eq_true rfl, Nat.le_of_ble_eq_true rfl⟩) hK hP hD hS hA rfl hl.1 (Nat.le_of_ble_eq_true rfl) dX12_greatestDivisor_25 ⟨Nat.le_refl 0, Nat.le_refl 0⟩ (fun F25 ar25 H locs q25 hP hD hS => ?_)
    obtain ⟨v1_, v2_, v3_, v4_, v5_, v6_, v7_, v8_, v9_, v10_, v11_, v12_, v13_⟩ := q25
    have sq := nsz_nonneg (ar25 1) (F25 3)
    have sl := nsz_nonneg (ar25 1) (F25 4)
    have ey : nsz (ar25 1) y = nsz (ar1 1) y := nsz_agree (v3_ y (by omega))
    have e5 : ar25 5 = ar1 5 := v2_ 5 (by decide)
    have ny25 : nm (ar25 1) y := nm_agree (fun i h1 h2 => v3_ i (by omega)) ny
    refine lv_aload_n hx hb dX12_greatestDivisor_28 rfl (lv_at hl 0 rfl) ?_
    refine r_geti E hK hP (k := 5) (v := .ref (ad 5)) (by decide) mf_68 rfl rfl dX12_greatestDivisor_29 ?_
    refine lv_iconst (v := Int32.ofInt (0)) hx hb dX12_greatestDivisor_32 (by decide) ?_
    refine lv_iload hx hb dX12_greatestDivisor_33 (lv_at hl 5 rfl) ?_
    refine g_iast (f := (ar25 5)) hx hb hK hP hD hS 2 0 rfl rfl (by omega) (by omega) (by decide) dX12_greatestDivisor_35 (fun H locs hP hD hS => ?_)
    rw [sa_5] at hP hD
    refine lv_aload_n hx hb dX12_greatestDivisor_36 rfl (lv_at hl 0 rfl) ?_
    refine r_geti E hK hP (k := 5) (v := .ref (ad 5)) (by decide) mf_68 rfl rfl dX12_greatestDivisor_37 ?_
    refine lv_iconst (v := Int32.ofInt (1)) hx hb dX12_greatestDivisor_40 (by decide) ?_
    refine lv_aload_n hx hb dX12_greatestDivisor_41 rfl (lv_at hl 0 rfl) ?_
    refine r_geti E hK hP (k := 4) (v := Iz (F25 4)) (by decide) mf_48 rfl rfl dX12_greatestDivisor_42 ?_
    refine g_iast (f := (iup (ar25 5) 0 y)) hx hb hK hP hD hS 2 0 rfl rfl (by omega) (by omega) (by decide) dX12_greatestDivisor_45 (fun H locs hP hD hS => ?_)
    rw [sa_5] at hP hD
    refine lv_aload_n hx hb dX12_greatestDivisor_46 rfl (lv_at hl 0 rfl) ?_
    refine lv_iload_n hx hb dX12_greatestDivisor_47 rfl (lv_at hl 3 rfl) ?_
    refine lv_iconst (v := Int32.ofInt (2)) hx hb dX12_greatestDivisor_48 (by decide) ?_
    have k5 : hok (iup (iup (ar25 5) 0 y) 1 (F25 4)) := hok_up (hok_up (by rw [e5]; exact p4') (by omega) (by omega)) (by omega) (by omega)
    have kk5 : ∀ t : Int, 0 ≤ t → t < 2 → 0 ≤ iup (iup (ar25 5) 0 y) 1 (F25 4) t ∧ iup (iup (ar25 5) 0 y) 1 (F25 4) t + nsz (ar25 1) (iup (iup (ar25 5) 0 y) 1 (F25 4) t) < F25 2 ∧ nsz (ar25 1) (iup (iup (ar25 5) 0 y) 1 (F25 4) t) < 9999 := fun t h1 h2 => by
      rcases (show t = 0 ∨ t = 1 by omega) with rfl | rfl
      · rw [iup_ne (by omega), iup_self, ey]; omega
      · rw [iup_self]; omega
    refine r_callv (As := [Iz (F 2), Iz (2)]) (rest := []) E (c_keepNumbers (F := F25) (ar := (aup (aup ar25 5 (iup (ar25 5) 0 y)) 5 (iup (iup (ar25 5) 0 y) 1 (F25 4)))) (mk := F 2) (n := 2) (by omega) (by omega) (by omega) (by omega) t0 (by omega) v4_ k5 kk5) (cwV 2 hts (rGood ml_74 mi_keepNumbers ms_keepNumbers mn_RX12 mc_keepNumbers) rfl rfl rfl (by decide +kernel) ⟨Nat.le_of_ble_eq_true rfl, Nat.le_of_ble_eq_true rfl⟩) hK hP hD hS hA rfl hl.1 (Nat.le_of_ble_eq_true rfl) dX12_greatestDivisor_49 ⟨Nat.le_refl 0, Nat.le_refl 0⟩ (fun F49 ar49 H locs q49 hP hD hS => ?_)
    obtain ⟨d1, d2, d3, d4, d5, d6, d7, d8, d9⟩ := q49
    have w0 := d9 0 (by omega) (by omega)
    have w1 := d9 1 (by omega) (by omega)
    have e0 : (aup (aup ar25 5 (iup (ar25 5) 0 y)) 5 (iup (iup (ar25 5) 0 y) 1 (F25 4))) 5 0 = y := (show iup (iup (ar25 5) 0 y) 1 (F25 4) 0 = y from (iup_ne (by omega)).trans iup_self)
    have e1 : (aup (aup ar25 5 (iup (ar25 5) 0 y)) 5 (iup (iup (ar25 5) 0 y) 1 (F25 4))) 5 1 = F25 4 := (show iup (iup (ar25 5) 0 y) 1 (F25 4) 1 = F25 4 from iup_self)
    rw [e0] at w0
    rw [e1] at w1
    have m0 := nm_move (h := ar25 1) (g := ar49 1) (a := y) (b := ar49 5 0) w0.2.2
    have m1 := nm_move (h := ar25 1) (g := ar49 1) (a := F25 4) (b := ar49 5 1) w1.2.2
    have nl := nv_nonneg v4_ v9_
    have g0 : nsz (ar49 1) (ar49 5 0) = nsz (ar25 1) y := m0.1
    have g1 : nsz (ar49 1) (ar49 5 1) = nsz (ar25 1) (F25 4) := m1.1
    have nw0 := w0.1
    have nw1 := w0.2.1
    have nw2 := w1.1
    have nw3 := w1.2.1
    clear w0 w1 d9
    refine lv_aload_n hx hb dX12_greatestDivisor_52 rfl (lv_at hl 0 rfl) ?_
    refine r_geti E hK hP (k := 5) (v := .ref (ad 5)) (by decide) mf_68 rfl rfl dX12_greatestDivisor_53 ?_
    refine lv_iconst (v := Int32.ofInt (0)) hx hb dX12_greatestDivisor_56 (by decide) ?_
    refine g_iald (f := (ar49 5)) hx hb hK hP 2 0 rfl rfl (by omega) (by omega) (by decide) dX12_greatestDivisor_57 ?_
    refine lv_istore (lv' := [(4, Iz ((ar49 5) 0)), (0, .ref h0), (1, Iz (a)), (2, Iz (b)), (3, Iz (F 2)), (5, Iz (y))]) hx hb dX12_greatestDivisor_58 hl (by decide) rfl (fun ls hl => ?_)
    refine lv_aload_n hx hb dX12_greatestDivisor_60 rfl (lv_at hl 1 rfl) ?_
    refine r_geti E hK hP (k := 5) (v := .ref (ad 5)) (by decide) mf_68 rfl rfl dX12_greatestDivisor_61 ?_
    refine lv_iconst (v := Int32.ofInt (1)) hx hb dX12_greatestDivisor_64 (by decide) ?_
    refine g_iald (f := (ar49 5)) hx hb hK hP 2 0 rfl rfl (by omega) (by omega) (by decide) dX12_greatestDivisor_65 ?_
    refine lv_istore (lv' := [(5, Iz ((ar49 5) 1)), (4, Iz ((ar49 5) 0)), (0, .ref h0), (1, Iz (a)), (2, Iz (b)), (3, Iz (F 2))]) hx hb dX12_greatestDivisor_66 hl (by decide) rfl (fun ls hl => ?_)
    refine lv_goto (tgt := 11) hx hb dX12_greatestDivisor_68 (by decide) ?_
    exact ih_11 _ (by rw [m1.2.2]; omega) _ _ _ ⟨F49, ar49, ((ar49 5) 0), ((ar49 5) 1), rfl, (fun t h2 h3 h4 => (d1 t h2).trans ((v1_ t h2 h3 h4).trans (p1 t h2 h3 h4))), (fun t h1 h5 => (d2 t h1 h5).trans ((aup_ne _ _ h5).trans ((aup_ne _ _ h5).trans ((v2_ t h1).trans (p2 t h1 h5))))), (fun t ht => (d3 t ht).trans ((v3_ t (by omega)).trans (p3 t ht))), (d4), (d5), (d6), (by omega), (by omega), (by rw [g0]; exact nw1), (by rw [g0]; omega), (m0.2.1 ny25), (by omega), (by rw [g1]; exact nw3), (by rw [g1]; omega), (m1.2.1 v9_), (fun _ => Or.inl (by rw [g0]; omega)), hP, hD, hS, lv_sub hl [2, 3, 4, 5, 1, 0] rfl⟩
