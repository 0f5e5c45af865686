set_option maxHeartbeats 4000000 in
set_option maxRecDepth 100000 in
theorem c_in {l : Launch} {v lo hi : Int} (v0 : -9223372036854775808 ≤ v) (v1 : v ≤ 9223372036854775807) (l0 : -9223372036854775808 ≤ lo) (l1 : lo ≤ 9223372036854775807) (i0 : -9223372036854775808 ≤ hi) (i1 : hi ≤ 9223372036854775807) : Met l yX12_in (Cond.code yX12_in cX12_in 6 (some .boolean) :: w0r) (rRm 0 0) (tPc [Jz (v), Jz (lo), Jz (hi)]) (tQi (fun z => z = (if lo ≤ v ∧ v ≤ hi then 1 else 0))) 0 0 (fun _ => False) := by
  refine Met.ofW (cc := cX12_in) (maxL := 6) (ret := (some .boolean)) (by decide) rfl ?_
  intro p e s m args below meth c s₁ B hml hv
  obtain ⟨rfl, -⟩ := hv
  have hx := B.exec
  have hb := B.bytes
  have hr := B.returns
  have hts := atoms_spec (ws := Cond.code yX12_in cX12_in 6 (some .boolean) :: w0r) B.pre
  have hown : s.vm.findClass RX12 = some m.cls := findClass_of_methodNamed B.named
  have hlocks := B.notSynchronized
  have E : CallFix p m c cX12_in 6 s _ (Cond.code yX12_in cX12_in 6 (some .boolean) :: w0r) RX12 := ⟨hx, hb, hml, hown, hts⟩
  have hS : va_S (fun _ => False) s.heap s.heap [] := va_S.rf
  have hl := lv_entry ([Jz (v), Jz (lo), Jz (hi)]) (n := 6) (Nat.le_of_ble_eq_true rfl)
  rw [lg_entry_eq]
  generalize (lg_sl ([Jz (v), Jz (lo), Jz (hi)]) ++ List.replicate (6 - (lg_sl ([Jz (v), Jz (lo), Jz (hi)])).length) Slot.unset).toArray = ls at hl ⊢
  have hl : lv_has ls 6 [(0, Jz (v)), (2, Jz (lo)), (4, Jz (hi))] := hl
  refine lv_lload_n hx hb dX12_in_0 rfl (lv_at hl 0 rfl) ?_
  refine lv_lload_n hx hb dX12_in_1 rfl (lv_at hl 1 rfl) ?_
  refine g_lcmp hx hb ⟨by omega, by omega⟩ ⟨by omega, by omega⟩ dX12_in_2 ?_
  have cg1 := g_cmp_lt (x := v) (y := lo)
  refine g_if_lt (tgt := 17) hx hb (g_cmp_i _ _) dX12_in_3 (by decide) (fun c_3 => ?_) (fun c_3 => ?_)
  · skip
    refine lv_iconst (v := Int32.ofInt (0)) hx hb dX12_in_17 (by decide) ?_
    have hpost : (0 : Int) = (if lo ≤ v ∧ v ≤ hi then 1 else 0) := by first | rw [if_pos ⟨by omega, by omega⟩] | rw [if_neg (fun q => by omega)]
    exact W.zret (v := Int32.ofInt (0)) hx hb hr rfl (fun t ht hW => ⟨⟨_, (), rfl, ⟨_, rfl, hpost⟩, trivial⟩, hS.F ht⟩) hS.2.2 dX12_in_18
  · skip
    refine lv_lload_n hx hb dX12_in_6 rfl (lv_at hl 0 rfl) ?_
    refine lv_lload hx hb dX12_in_7 (lv_at hl 2 rfl) ?_
    refine g_lcmp hx hb ⟨by omega, by omega⟩ ⟨by omega, by omega⟩ dX12_in_9 ?_
    have cg2 := g_cmp_gt (x := v) (y := hi)
    refine g_if_gt (tgt := 17) hx hb (g_cmp_i _ _) dX12_in_10 (by decide) (fun c_10 => ?_) (fun c_10 => ?_)
    · skip
      refine lv_iconst (v := Int32.ofInt (0)) hx hb dX12_in_17 (by decide) ?_
      have hpost : (0 : Int) = (if lo ≤ v ∧ v ≤ hi then 1 else 0) := by first | rw [if_pos ⟨by omega, by omega⟩] | rw [if_neg (fun q => by omega)]
      exact W.zret (v := Int32.ofInt (0)) hx hb hr rfl (fun t ht hW => ⟨⟨_, (), rfl, ⟨_, rfl, hpost⟩, trivial⟩, hS.F ht⟩) hS.2.2 dX12_in_18
    · skip
      refine lv_iconst (v := Int32.ofInt (1)) hx hb dX12_in_13 (by decide) ?_
      refine lv_goto (tgt := 18) hx hb dX12_in_14 (by decide) ?_
      have hpost : (1 : Int) = (if lo ≤ v ∧ v ≤ hi then 1 else 0) := by first | rw [if_pos ⟨by omega, by omega⟩] | rw [if_neg (fun q => by omega)]
      exact W.zret (v := Int32.ofInt (1)) hx hb hr rfl (fun t ht hW => ⟨⟨_, (), rfl, ⟨_, rfl, hpost⟩, trivial⟩, hS.F ht⟩) hS.2.2 dX12_in_18
set_option maxHeartbeats 4000000 in
set_option maxRecDepth 100000 in
theorem c_isNumber {l : Launch} {dC : Nat → ClassId} {dI : Nat → Nat → Nat} {h0 : Nat} {ad : Nat → Nat} {cI cJ cB cZ : Nat} {F : Nat → Int} {ar : Nat → Int → Int} {sz : Nat} {ia : Int} (ia0 : -2147483648 ≤ ia) (ia1 : ia ≤ 2147483647) (n0 : F 24 = 0) : Met l yX12_isNumber (Cond.code yX12_isNumber cX12_isNumber 2 (some .boolean) :: w0r) (rRm 2 60) (rPc dC dI h0 ad cI cJ cB cZ F ar sz [Iz (ia)]) (rQi dC dI h0 ad cI cJ cB cZ sz (fun z F' ar' => F' = F ∧ ar' = ar ∧ z = 0)) 0 0 (rA h0 ad sz) := by
  refine Met.ofW (cc := cX12_isNumber) (maxL := 2) (ret := (some .boolean)) (by decide) rfl ?_
  intro p e s m args below meth c s₁ B hml hv
  obtain ⟨rfl, hsz, hP, hK, hD0⟩ := hv
  have hx := B.exec
  have hb := B.bytes
  have hr := B.returns
  have hts := atoms_spec (ws := Cond.code yX12_isNumber cX12_isNumber 2 (some .boolean) :: w0r) B.pre
  have hown : s.vm.findClass RX12 = some m.cls := findClass_of_methodNamed B.named
  have hlocks := B.notSynchronized
  have E : CallFix p m c cX12_isNumber 2 s _ (Cond.code yX12_isNumber cX12_isNumber 2 (some .boolean) :: w0r) RX12 := ⟨hx, hb, hml, hown, hts⟩
  subst hsz
  have hD := rA_self s.heap.size hD0
  have hA : ∀ q : Nat, s.heap.size ≤ q → rA h0 ad s.heap.size q := fun q h => Or.inr h
  have hS : va_S (rA h0 ad s.heap.size) s.heap s.heap [] := va_S.rf
  have hl := lv_entry ([.ref h0, Iz (ia)]) (n := 2) (Nat.le_of_ble_eq_true rfl)
  rw [lg_entry_eq]
  generalize (lg_sl ([.ref h0, Iz (ia)]) ++ List.replicate (2 - (lg_sl ([.ref h0, Iz (ia)])).length) Slot.unset).toArray = ls at hl ⊢
  have hl : lv_has ls 2 [(0, .ref h0), (1, Iz (ia))] := hl
  refine lv_iload_n hx hb dX12_isNumber_0 rfl (lv_at hl 1 rfl) ?_
  refine g_i2l hx hb (by first | assumption | exact ⟨by omega, by omega⟩ | exact Hh _) dX12_isNumber_1 ?_
  refine lv_lconst (v := Int64.ofInt 0) hx hb dX12_isNumber_2 rfl ?_
  refine lv_aload_n hx hb dX12_isNumber_3 rfl (lv_at hl 0 rfl) ?_
  refine r_geti E hK hP (k := 24) (v := Iz (F 24)) (by decide) mf_568 rfl rfl dX12_isNumber_4 ?_
  rw [n0]
  refine lv_iconst (v := Int32.ofInt (1)) hx hb dX12_isNumber_7 (by decide) ?_
  refine g_isub hx hb dX12_isNumber_8 ?_
  refine g_i2l hx hb (by first | assumption | exact ⟨by omega, by omega⟩ | exact Hh _) dX12_isNumber_9 ?_
  refine r_callsi (As := [Jz (ia), Jz (0), Jz (0 - 1)]) (rest := []) E (c_in (by omega) (by omega) (by omega) (by omega) (by omega) (by omega)) (cwS 3 hts (rGoodS ml_571 mt_in mn_RX12 mc_in) rfl rfl rfl (by decide +kernel) ⟨Nat.le_of_ble_eq_true rfl, Nat.le_of_ble_eq_true rfl⟩) (B := va_P (dC, dI) rcl (mW h0 ad cI cJ cB cZ F ar)) (r_kept hP) hS rfl hl.1 (Nat.le_of_ble_eq_true rfl) dX12_isNumber_10 ⟨Nat.le_refl 0, Nat.le_refl 0⟩ (fun z10 H locs q10 hP hS => ?_)
  rw [if_neg (fun q => by omega)] at q10
  subst q10
  have hpost : F = F ∧ ar = ar ∧ (0 : Int) = 0 := ⟨rfl, rfl, rfl⟩
  exact W.zret (v := Int32.ofInt (0)) hx hb hr rfl (fun t ht hW => ⟨⟨_, (F, ar), rfl, ⟨_, rfl, hpost⟩, by rw [ht]; exact hP, va_K.moved hW.alike hK, hD⟩, hS.F ht⟩) hS.2.2 dX12_isNumber_13
set_option maxHeartbeats 4000000 in
set_option maxRecDepth 100000 in
theorem c_isPolynomial {l : Launch} {dC : Nat → ClassId} {dI : Nat → Nat → Nat} {h0 : Nat} {ad : Nat → Nat} {cI cJ cB cZ : Nat} {F : Nat → Int} {ar : Nat → Int → Int} {sz : Nat} {ia : Int} (ia0 : -2147483648 ≤ ia) (ia1 : ia ≤ 2147483647) (n0 : F 57 = 0) : Met l yX12_isPolynomial (Cond.code yX12_isPolynomial cX12_isPolynomial 2 (some .boolean) :: w0r) (rRm 2 60) (rPc dC dI h0 ad cI cJ cB cZ F ar sz [Iz (ia)]) (rQi dC dI h0 ad cI cJ cB cZ sz (fun z F' ar' => F' = F ∧ ar' = ar ∧ z = 0)) 0 0 (rA h0 ad sz) := by
  refine Met.ofW (cc := cX12_isPolynomial) (maxL := 2) (ret := (some .boolean)) (by decide) rfl ?_
  intro p e s m args below meth c s₁ B hml hv
  obtain ⟨rfl, hsz, hP, hK, hD0⟩ := hv
  have hx := B.exec
  have hb := B.bytes
  have hr := B.returns
  have hts := atoms_spec (ws := Cond.code yX12_isPolynomial cX12_isPolynomial 2 (some .boolean) :: w0r) B.pre
  have hown : s.vm.findClass RX12 = some m.cls := findClass_of_methodNamed B.named
  have hlocks := B.notSynchronized
  have E : CallFix p m c cX12_isPolynomial 2 s _ (Cond.code yX12_isPolynomial cX12_isPolynomial 2 (some .boolean) :: w0r) RX12 := ⟨hx, hb, hml, hown, hts⟩
  subst hsz
  have hD := rA_self s.heap.size hD0
  have hA : ∀ q : Nat, s.heap.size ≤ q → rA h0 ad s.heap.size q := fun q h => Or.inr h
  have hS : va_S (rA h0 ad s.heap.size) s.heap s.heap [] := va_S.rf
  have hl := lv_entry ([.ref h0, Iz (ia)]) (n := 2) (Nat.le_of_ble_eq_true rfl)
  rw [lg_entry_eq]
  generalize (lg_sl ([.ref h0, Iz (ia)]) ++ List.replicate (2 - (lg_sl ([.ref h0, Iz (ia)])).length) Slot.unset).toArray = ls at hl ⊢
  have hl : lv_has ls 2 [(0, .ref h0), (1, Iz (ia))] := hl
  refine lv_iload_n hx hb dX12_isPolynomial_0 rfl (lv_at hl 1 rfl) ?_
  refine g_i2l hx hb (by first | assumption | exact ⟨by omega, by omega⟩ | exact Hh _) dX12_isPolynomial_1 ?_
  refine lv_lconst (v := Int64.ofInt 0) hx hb dX12_isPolynomial_2 rfl ?_
  refine lv_aload_n hx hb dX12_isPolynomial_3 rfl (lv_at hl 0 rfl) ?_
  refine r_geti E hK hP (k := 57) (v := Iz (F 57)) (by decide) mf_575 rfl rfl dX12_isPolynomial_4 ?_
  rw [n0]
  refine lv_iconst (v := Int32.ofInt (1)) hx hb dX12_isPolynomial_7 (by decide) ?_
  refine g_isub hx hb dX12_isPolynomial_8 ?_
  refine g_i2l hx hb (by first | assumption | exact ⟨by omega, by omega⟩ | exact Hh _) dX12_isPolynomial_9 ?_
  refine r_callsi (As := [Jz (ia), Jz (0), Jz (0 - 1)]) (rest := []) E (c_in (by omega) (by omega) (by omega) (by omega) (by omega) (by omega)) (cwS 3 hts (rGoodS ml_571 mt_in mn_RX12 mc_in) rfl rfl rfl (by decide +kernel) ⟨Nat.le_of_ble_eq_true rfl, Nat.le_of_ble_eq_true rfl⟩) (B := va_P (dC, dI) rcl (mW h0 ad cI cJ cB cZ F ar)) (r_kept hP) hS rfl hl.1 (Nat.le_of_ble_eq_true rfl) dX12_isPolynomial_10 ⟨Nat.le_refl 0, Nat.le_refl 0⟩ (fun z10 H locs q10 hP hS => ?_)
  rw [if_neg (fun q => by omega)] at q10
  subst q10
  have hpost : F = F ∧ ar = ar ∧ (0 : Int) = 0 := ⟨rfl, rfl, rfl⟩
  exact W.zret (v := Int32.ofInt (0)) hx hb hr rfl (fun t ht hW => ⟨⟨_, (F, ar), rfl, ⟨_, rfl, hpost⟩, by rw [ht]; exact hP, va_K.moved hW.alike hK, hD⟩, hS.F ht⟩) hS.2.2 dX12_isPolynomial_13
set_option maxHeartbeats 4000000 in
set_option maxRecDepth 100000 in
theorem c_apply {l : Launch} {dC : Nat → ClassId} {dI : Nat → Nat → Nat} {h0 : Nat} {ad : Nat → Nat} {cI cJ cB cZ : Nat} {F : Nat → Int} {ar : Nat → Int → Int} {sz : Nat} {ic ia ib : Int} (n0 : F 24 = 0) (p0 : F 57 = 0) (ic0 : -2147483648 ≤ ic) (ic1 : ic ≤ 2147483647) (ia0 : -2147483648 ≤ ia) (ia1 : ia ≤ 2147483647) (ib0 : -2147483648 ≤ ib) (ib1 : ib ≤ 2147483647) : Met l yX12_apply (Cond.code yX12_apply cX12_apply 4 (some .int) :: w0r) (rRm 4 120) (rPc dC dI h0 ad cI cJ cB cZ F ar sz [Iz (ic), Iz (ia), Iz (ib)]) (rQi dC dI h0 ad cI cJ cB cZ sz (fun z F' ar' => z = -101 ∧ F' 0 = 0)) 0 0 (rA h0 ad sz) := by
  refine Met.ofW (cc := cX12_apply) (maxL := 4) (ret := (some .int)) (by decide) rfl ?_
  intro p e s m args below meth c s₁ B hml hv
  obtain ⟨rfl, hsz, hP, hK, hD0⟩ := hv
  have hx := B.exec
  have hb := B.bytes
  have hr := B.returns
  have hts := atoms_spec (ws := Cond.code yX12_apply cX12_apply 4 (some .int) :: w0r) B.pre
  have hown : s.vm.findClass RX12 = some m.cls := findClass_of_methodNamed B.named
  have hlocks := B.notSynchronized
  have E : CallFix p m c cX12_apply 4 s _ (Cond.code yX12_apply cX12_apply 4 (some .int) :: w0r) RX12 := ⟨hx, hb, hml, hown, hts⟩
  subst hsz
  have hD := rA_self s.heap.size hD0
  have hA : ∀ q : Nat, s.heap.size ≤ q → rA h0 ad s.heap.size q := fun q h => Or.inr h
  have hS : va_S (rA h0 ad s.heap.size) s.heap s.heap [] := va_S.rf
  have hl := lv_entry ([.ref h0, Iz (ic), Iz (ia), Iz (ib)]) (n := 4) (Nat.le_of_ble_eq_true rfl)
  rw [lg_entry_eq]
  generalize (lg_sl ([.ref h0, Iz (ic), Iz (ia), Iz (ib)]) ++ List.replicate (4 - (lg_sl ([.ref h0, Iz (ic), Iz (ia), Iz (ib)])).length) Slot.unset).toArray = ls at hl ⊢
  have hl : lv_has ls 4 [(0, .ref h0), (1, Iz (ic)), (2, Iz (ia)), (3, Iz (ib))] := hl
  refine lv_aload_n hx hb dX12_apply_0 rfl (lv_at hl 0 rfl) ?_
  refine lv_iconst (v := Int32.ofInt (0)) hx hb dX12_apply_1 (by decide) ?_
  refine r_puti E hK hP hD hS 0 (by decide) mf_1 rfl rfl (by decide +kernel) (sp_0 h0 ad cI cJ cB cZ _ _) dX12_apply_2 (fun H locs hP hD hS => ?_)
  refine lv_aload_n hx hb dX12_apply_5 rfl (lv_at hl 0 rfl) ?_
  refine lv_iload_n hx hb dX12_apply_6 rfl (lv_at hl 2 rfl) ?_
  refine r_calli (As := [Iz (ia)]) (rest := []) E (c_isNumber (F := (fup F 0 0)) (ar := ar) (ia := ia) (by omega) (by omega) ((fup_ne _ _ (by decide)).trans n0)) (cwV 1 hts (rGood ml_581 mi_isNumber ms_isNumber mn_RX12 mc_isNumber) rfl rfl rfl (by decide +kernel) ⟨Nat.le_of_ble_eq_true rfl, Nat.le_of_ble_eq_true rfl⟩) hK hP hD hS hA rfl hl.1 (Nat.le_of_ble_eq_true rfl) dX12_apply_7 ⟨Nat.le_refl 0, Nat.le_refl 0⟩ (fun z7 F7 ar7 H locs q7 hP hD hS => ?_)
  obtain ⟨e1_, e2_, e3_⟩ := q7
  obtain rfl := e1_.symm
  obtain rfl := e2_.symm
  obtain rfl := e3_.symm
  refine g_if_eq (tgt := 21) hx hb (by first | assumption | exact ⟨by omega, by omega⟩ | exact Hh _) dX12_apply_10 (by decide) (fun c_10 => ?_) (fun c_10 => ?_)
  · skip
    refine lv_bipush (v := Int32.ofInt (-101)) hx hb dX12_apply_21 (by decide) ?_
    have hpost : ((-101) : Int) = -101 ∧ (fup F 0 0) 0 = 0 := ⟨rfl, rfl⟩
    exact W.iret (v := Int32.ofInt ((-101))) hx hb hr (fun t ht hW => ⟨⟨_, ((fup F 0 0), ar), rfl, ⟨_, rfl, hpost⟩, by rw [ht]; exact hP, va_K.moved hW.alike hK, hD⟩, hS.F ht⟩) hS.2.2 dX12_apply_23
  · omega
set_option maxHeartbeats 4000000 in
set_option maxRecDepth 100000 in
theorem c_plain {l : Launch} {dC : Nat → ClassId} {dI : Nat → Nat → Nat} {h0 : Nat} {ad : Nat → Nat} {cI cJ cB cZ : Nat} {F : Nat → Int} {ar : Nat → Int → Int} {sz : Nat} {ia ib : Int} (n0 : F 24 = 0) (p0 : F 57 = 0) (ia0 : -2147483648 ≤ ia) (ia1 : ia ≤ 2147483647) (ib0 : -2147483648 ≤ ib) (ib1 : ib ≤ 2147483647) : Met l yX12_plain (Cond.code yX12_plain cX12_plain 3 (some .int) :: w0r) (rRm 4 120) (rPc dC dI h0 ad cI cJ cB cZ F ar sz [Iz (ia), Iz (ib)]) (rQi dC dI h0 ad cI cJ cB cZ sz (fun z F' ar' => z = -101 ∧ F' 0 = 0)) 0 0 (rA h0 ad sz) := by
  refine Met.ofW (cc := cX12_plain) (maxL := 3) (ret := (some .int)) (by decide) rfl ?_
  intro p e s m args below meth c s₁ B hml hv
  obtain ⟨rfl, hsz, hP, hK, hD0⟩ := hv
  have hx := B.exec
  have hb := B.bytes
  have hr := B.returns
  have hts := atoms_spec (ws := Cond.code yX12_plain cX12_plain 3 (some .int) :: w0r) B.pre
  have hown : s.vm.findClass RX12 = some m.cls := findClass_of_methodNamed B.named
  have hlocks := B.notSynchronized
  have E : CallFix p m c cX12_plain 3 s _ (Cond.code yX12_plain cX12_plain 3 (some .int) :: w0r) RX12 := ⟨hx, hb, hml, hown, hts⟩
  subst hsz
  have hD := rA_self s.heap.size hD0
  have hA : ∀ q : Nat, s.heap.size ≤ q → rA h0 ad s.heap.size q := fun q h => Or.inr h
  have hS : va_S (rA h0 ad s.heap.size) s.heap s.heap [] := va_S.rf
  have hl := lv_entry ([.ref h0, Iz (ia), Iz (ib)]) (n := 3) (Nat.le_of_ble_eq_true rfl)
  rw [lg_entry_eq]
  generalize (lg_sl ([.ref h0, Iz (ia), Iz (ib)]) ++ List.replicate (3 - (lg_sl ([.ref h0, Iz (ia), Iz (ib)])).length) Slot.unset).toArray = ls at hl ⊢
  have hl : lv_has ls 3 [(0, .ref h0), (1, Iz (ia)), (2, Iz (ib))] := hl
  refine lv_aload_n hx hb dX12_plain_0 rfl (lv_at hl 0 rfl) ?_
  refine lv_iconst (v := Int32.ofInt (0)) hx hb dX12_plain_1 (by decide) ?_
  refine r_puti E hK hP hD hS 0 (by decide) mf_1 rfl rfl (by decide +kernel) (sp_0 h0 ad cI cJ cB cZ _ _) dX12_plain_2 (fun H locs hP hD hS => ?_)
  refine lv_aload_n hx hb dX12_plain_5 rfl (lv_at hl 0 rfl) ?_
  refine lv_iload_n hx hb dX12_plain_6 rfl (lv_at hl 1 rfl) ?_
  refine r_calli (As := [Iz (ia)]) (rest := []) E (c_isNumber (F := (fup F 0 0)) (ar := ar) (ia := ia) (by omega) (by omega) ((fup_ne _ _ (by decide)).trans n0)) (cwV 1 hts (rGood ml_581 mi_isNumber ms_isNumber mn_RX12 mc_isNumber) rfl rfl rfl (by decide +kernel) ⟨Nat.le_of_ble_eq_true rfl, Nat.le_of_ble_eq_true rfl⟩) hK hP hD hS hA rfl hl.1 (Nat.le_of_ble_eq_true rfl) dX12_plain_7 ⟨Nat.le_refl 0, Nat.le_refl 0⟩ (fun z7 F7 ar7 H locs q7 hP hD hS => ?_)
  obtain ⟨e1_, e2_, e3_⟩ := q7
  obtain rfl := e1_.symm
  obtain rfl := e2_.symm
  obtain rfl := e3_.symm
  refine g_if_eq (tgt := 21) hx hb (by first | assumption | exact ⟨by omega, by omega⟩ | exact Hh _) dX12_plain_10 (by decide) (fun c_10 => ?_) (fun c_10 => ?_)
  · skip
    refine lv_bipush (v := Int32.ofInt (-101)) hx hb dX12_plain_21 (by decide) ?_
    have hpost : ((-101) : Int) = -101 ∧ (fup F 0 0) 0 = 0 := ⟨rfl, rfl⟩
    exact W.iret (v := Int32.ofInt ((-101))) hx hb hr (fun t ht hW => ⟨⟨_, ((fup F 0 0), ar), rfl, ⟨_, rfl, hpost⟩, by rw [ht]; exact hP, va_K.moved hW.alike hK, hD⟩, hS.F ht⟩) hS.2.2 dX12_plain_23
  · omega
set_option maxHeartbeats 4000000 in
set_option maxRecDepth 100000 in
theorem c_power {l : Launch} {dC : Nat → ClassId} {dI : Nat → Nat → Nat} {h0 : Nat} {ad : Nat → Nat} {cI cJ cB cZ : Nat} {F : Nat → Int} {ar : Nat → Int → Int} {sz : Nat} {ia ib : Int} (n0 : F 24 = 0) (p0 : F 57 = 0) (ia0 : -2147483648 ≤ ia) (ia1 : ia ≤ 2147483647) (ib0 : -2147483648 ≤ ib) (ib1 : ib ≤ 2147483647) : Met l yX12_power (Cond.code yX12_power cX12_power 3 (some .int) :: w0r) (rRm 4 120) (rPc dC dI h0 ad cI cJ cB cZ F ar sz [Iz (ia), Iz (ib)]) (rQi dC dI h0 ad cI cJ cB cZ sz (fun z F' ar' => z = -101 ∧ F' 0 = 0)) 0 0 (rA h0 ad sz) := by
  refine Met.ofW (cc := cX12_power) (maxL := 3) (ret := (some .int)) (by decide) rfl ?_
  intro p e s m args below meth c s₁ B hml hv
  obtain ⟨rfl, hsz, hP, hK, hD0⟩ := hv
  have hx := B.exec
  have hb := B.bytes
  have hr := B.returns
  have hts := atoms_spec (ws := Cond.code yX12_power cX12_power 3 (some .int) :: w0r) B.pre
  have hown : s.vm.findClass RX12 = some m.cls := findClass_of_methodNamed B.named
  have hlocks := B.notSynchronized
  have E : CallFix p m c cX12_power 3 s _ (Cond.code yX12_power cX12_power 3 (some .int) :: w0r) RX12 := ⟨hx, hb, hml, hown, hts⟩
  subst hsz
  have hD := rA_self s.heap.size hD0
  have hA : ∀ q : Nat, s.heap.size ≤ q → rA h0 ad s.heap.size q := fun q h => Or.inr h
  have hS : va_S (rA h0 ad s.heap.size) s.heap s.heap [] := va_S.rf
  have hl := lv_entry ([.ref h0, Iz (ia), Iz (ib)]) (n := 3) (Nat.le_of_ble_eq_true rfl)
  rw [lg_entry_eq]
  generalize (lg_sl ([.ref h0, Iz (ia), Iz (ib)]) ++ List.replicate (3 - (lg_sl ([.ref h0, Iz (ia), Iz (ib)])).length) Slot.unset).toArray = ls at hl ⊢
  have hl : lv_has ls 3 [(0, .ref h0), (1, Iz (ia)), (2, Iz (ib))] := hl
  refine lv_aload_n hx hb dX12_power_0 rfl (lv_at hl 0 rfl) ?_
  refine lv_iconst (v := Int32.ofInt (0)) hx hb dX12_power_1 (by decide) ?_
  refine r_puti E hK hP hD hS 0 (by decide) mf_1 rfl rfl (by decide +kernel) (sp_0 h0 ad cI cJ cB cZ _ _) dX12_power_2 (fun H locs hP hD hS => ?_)
  refine lv_aload_n hx hb dX12_power_5 rfl (lv_at hl 0 rfl) ?_
  refine lv_iload_n hx hb dX12_power_6 rfl (lv_at hl 1 rfl) ?_
  refine r_calli (As := [Iz (ia)]) (rest := []) E (c_isNumber (F := (fup F 0 0)) (ar := ar) (ia := ia) (by omega) (by omega) ((fup_ne _ _ (by decide)).trans n0)) (cwV 1 hts (rGood ml_581 mi_isNumber ms_isNumber mn_RX12 mc_isNumber) rfl rfl rfl (by decide +kernel) ⟨Nat.le_of_ble_eq_true rfl, Nat.le_of_ble_eq_true rfl⟩) hK hP hD hS hA rfl hl.1 (Nat.le_of_ble_eq_true rfl) dX12_power_7 ⟨Nat.le_refl 0, Nat.le_refl 0⟩ (fun z7 F7 ar7 H locs q7 hP hD hS => ?_)
  obtain ⟨e1_, e2_, e3_⟩ := q7
  obtain rfl := e1_.symm
  obtain rfl := e2_.symm
  obtain rfl := e3_.symm
  refine g_if_ne (tgt := 16) hx hb (by first | assumption | exact ⟨by omega, by omega⟩ | exact Hh _) dX12_power_10 (by decide) (fun c_10 => ?_) (fun c_10 => ?_)
  · omega
  · skip
    refine lv_bipush (v := Int32.ofInt (-101)) hx hb dX12_power_13 (by decide) ?_
    have hpost : ((-101) : Int) = -101 ∧ (fup F 0 0) 0 = 0 := ⟨rfl, rfl⟩
    exact W.iret (v := Int32.ofInt ((-101))) hx hb hr (fun t ht hW => ⟨⟨_, ((fup F 0 0), ar), rfl, ⟨_, rfl, hpost⟩, by rw [ht]; exact hP, va_K.moved hW.alike hK, hD⟩, hS.F ht⟩) hS.2.2 dX12_power_15
set_option maxHeartbeats 4000000 in
set_option maxRecDepth 100000 in
theorem c_root {l : Launch} {dC : Nat → ClassId} {dI : Nat → Nat → Nat} {h0 : Nat} {ad : Nat → Nat} {cI cJ cB cZ : Nat} {F : Nat → Int} {ar : Nat → Int → Int} {sz : Nat} {ia ib : Int} (n0 : F 24 = 0) (p0 : F 57 = 0) (ia0 : -2147483648 ≤ ia) (ia1 : ia ≤ 2147483647) (ib0 : -2147483648 ≤ ib) (ib1 : ib ≤ 2147483647) : Met l yX12_root (Cond.code yX12_root cX12_root 3 (some .int) :: w0r) (rRm 4 120) (rPc dC dI h0 ad cI cJ cB cZ F ar sz [Iz (ia), Iz (ib)]) (rQi dC dI h0 ad cI cJ cB cZ sz (fun z F' ar' => z = -101 ∧ F' 0 = 0)) 0 0 (rA h0 ad sz) := by
  refine Met.ofW (cc := cX12_root) (maxL := 3) (ret := (some .int)) (by decide) rfl ?_
  intro p e s m args below meth c s₁ B hml hv
  obtain ⟨rfl, hsz, hP, hK, hD0⟩ := hv
  have hx := B.exec
  have hb := B.bytes
  have hr := B.returns
  have hts := atoms_spec (ws := Cond.code yX12_root cX12_root 3 (some .int) :: w0r) B.pre
  have hown : s.vm.findClass RX12 = some m.cls := findClass_of_methodNamed B.named
  have hlocks := B.notSynchronized
  have E : CallFix p m c cX12_root 3 s _ (Cond.code yX12_root cX12_root 3 (some .int) :: w0r) RX12 := ⟨hx, hb, hml, hown, hts⟩
  subst hsz
  have hD := rA_self s.heap.size hD0
  have hA : ∀ q : Nat, s.heap.size ≤ q → rA h0 ad s.heap.size q := fun q h => Or.inr h
  have hS : va_S (rA h0 ad s.heap.size) s.heap s.heap [] := va_S.rf
  have hl := lv_entry ([.ref h0, Iz (ia), Iz (ib)]) (n := 3) (Nat.le_of_ble_eq_true rfl)
  rw [lg_entry_eq]
  generalize (lg_sl ([.ref h0, Iz (ia), Iz (ib)]) ++ List.replicate (3 - (lg_sl ([.ref h0, Iz (ia), Iz (ib)])).length) Slot.unset).toArray = ls at hl ⊢
  have hl : lv_has ls 3 [(0, .ref h0), (1, Iz (ia)), (2, Iz (ib))] := hl
  refine lv_aload_n hx hb dX12_root_0 rfl (lv_at hl 0 rfl) ?_
  refine lv_iconst (v := Int32.ofInt (0)) hx hb dX12_root_1 (by decide) ?_
  refine r_puti E hK hP hD hS 0 (by decide) mf_1 rfl rfl (by decide +kernel) (sp_0 h0 ad cI cJ cB cZ _ _) dX12_root_2 (fun H locs hP hD hS => ?_)
  refine lv_aload_n hx hb dX12_root_5 rfl (lv_at hl 0 rfl) ?_
  refine lv_iload_n hx hb dX12_root_6 rfl (lv_at hl 1 rfl) ?_
  refine r_calli (As := [Iz (ia)]) (rest := []) E (c_isNumber (F := (fup F 0 0)) (ar := ar) (ia := ia) (by omega) (by omega) ((fup_ne _ _ (by decide)).trans n0)) (cwV 1 hts (rGood ml_581 mi_isNumber ms_isNumber mn_RX12 mc_isNumber) rfl rfl rfl (by decide +kernel) ⟨Nat.le_of_ble_eq_true rfl, Nat.le_of_ble_eq_true rfl⟩) hK hP hD hS hA rfl hl.1 (Nat.le_of_ble_eq_true rfl) dX12_root_7 ⟨Nat.le_refl 0, Nat.le_refl 0⟩ (fun z7 F7 ar7 H locs q7 hP hD hS => ?_)
  obtain ⟨e1_, e2_, e3_⟩ := q7
  obtain rfl := e1_.symm
  obtain rfl := e2_.symm
  obtain rfl := e3_.symm
  refine g_if_ne (tgt := 16) hx hb (by first | assumption | exact ⟨by omega, by omega⟩ | exact Hh _) dX12_root_10 (by decide) (fun c_10 => ?_) (fun c_10 => ?_)
  · omega
  · skip
    refine lv_bipush (v := Int32.ofInt (-101)) hx hb dX12_root_13 (by decide) ?_
    have hpost : ((-101) : Int) = -101 ∧ (fup F 0 0) 0 = 0 := ⟨rfl, rfl⟩
    exact W.iret (v := Int32.ofInt ((-101))) hx hb hr (fun t ht hW => ⟨⟨_, ((fup F 0 0), ar), rfl, ⟨_, rfl, hpost⟩, by rw [ht]; exact hP, va_K.moved hW.alike hK, hD⟩, hS.F ht⟩) hS.2.2 dX12_root_15
set_option maxHeartbeats 4000000 in
set_option maxRecDepth 100000 in
theorem c_beside {l : Launch} {dC : Nat → ClassId} {dI : Nat → Nat → Nat} {h0 : Nat} {ad : Nat → Nat} {cI cJ cB cZ : Nat} {F : Nat → Int} {ar : Nat → Int → Int} {sz : Nat} {ia ib : Int} (n0 : F 24 = 0) (p0 : F 57 = 0) (ia0 : -2147483648 ≤ ia) (ia1 : ia ≤ 2147483647) (ib0 : -2147483648 ≤ ib) (ib1 : ib ≤ 2147483647) : Met l yX12_beside (Cond.code yX12_beside cX12_beside 3 (some .int) :: w0r) (rRm 4 120) (rPc dC dI h0 ad cI cJ cB cZ F ar sz [Iz (ia), Iz (ib)]) (rQi dC dI h0 ad cI cJ cB cZ sz (fun z F' ar' => z = -101 ∧ F' 0 = 0)) 0 0 (rA h0 ad sz) := by
  refine Met.ofW (cc := cX12_beside) (maxL := 3) (ret := (some .int)) (by decide) rfl ?_
  intro p e s m args below meth c s₁ B hml hv
  obtain ⟨rfl, hsz, hP, hK, hD0⟩ := hv
  have hx := B.exec
  have hb := B.bytes
  have hr := B.returns
  have hts := atoms_spec (ws := Cond.code yX12_beside cX12_beside 3 (some .int) :: w0r) B.pre
  have hown : s.vm.findClass RX12 = some m.cls := findClass_of_methodNamed B.named
  have hlocks := B.notSynchronized
  have E : CallFix p m c cX12_beside 3 s _ (Cond.code yX12_beside cX12_beside 3 (some .int) :: w0r) RX12 := ⟨hx, hb, hml, hown, hts⟩
  subst hsz
  have hD := rA_self s.heap.size hD0
  have hA : ∀ q : Nat, s.heap.size ≤ q → rA h0 ad s.heap.size q := fun q h => Or.inr h
  have hS : va_S (rA h0 ad s.heap.size) s.heap s.heap [] := va_S.rf
  have hl := lv_entry ([.ref h0, Iz (ia), Iz (ib)]) (n := 3) (Nat.le_of_ble_eq_true rfl)
  rw [lg_entry_eq]
  generalize (lg_sl ([.ref h0, Iz (ia), Iz (ib)]) ++ List.replicate (3 - (lg_sl ([.ref h0, Iz (ia), Iz (ib)])).length) Slot.unset).toArray = ls at hl ⊢
  have hl : lv_has ls 3 [(0, .ref h0), (1, Iz (ia)), (2, Iz (ib))] := hl
  refine lv_aload_n hx hb dX12_beside_0 rfl (lv_at hl 0 rfl) ?_
  refine lv_iconst (v := Int32.ofInt (0)) hx hb dX12_beside_1 (by decide) ?_
  refine r_puti E hK hP hD hS 0 (by decide) mf_1 rfl rfl (by decide +kernel) (sp_0 h0 ad cI cJ cB cZ _ _) dX12_beside_2 (fun H locs hP hD hS => ?_)
  refine lv_aload_n hx hb dX12_beside_5 rfl (lv_at hl 0 rfl) ?_
  refine lv_iload_n hx hb dX12_beside_6 rfl (lv_at hl 1 rfl) ?_
  refine r_calli (As := [Iz (ia)]) (rest := []) E (c_isNumber (F := (fup F 0 0)) (ar := ar) (ia := ia) (by omega) (by omega) ((fup_ne _ _ (by decide)).trans n0)) (cwV 1 hts (rGood ml_581 mi_isNumber ms_isNumber mn_RX12 mc_isNumber) rfl rfl rfl (by decide +kernel) ⟨Nat.le_of_ble_eq_true rfl, Nat.le_of_ble_eq_true rfl⟩) hK hP hD hS hA rfl hl.1 (Nat.le_of_ble_eq_true rfl) dX12_beside_7 ⟨Nat.le_refl 0, Nat.le_refl 0⟩ (fun z7 F7 ar7 H locs q7 hP hD hS => ?_)
  obtain ⟨e1_, e2_, e3_⟩ := q7
  obtain rfl := e1_.symm
  obtain rfl := e2_.symm
  obtain rfl := e3_.symm
  refine g_if_ne (tgt := 16) hx hb (by first | assumption | exact ⟨by omega, by omega⟩ | exact Hh _) dX12_beside_10 (by decide) (fun c_10 => ?_) (fun c_10 => ?_)
  · omega
  · skip
    refine lv_bipush (v := Int32.ofInt (-101)) hx hb dX12_beside_13 (by decide) ?_
    have hpost : ((-101) : Int) = -101 ∧ (fup F 0 0) 0 = 0 := ⟨rfl, rfl⟩
    exact W.iret (v := Int32.ofInt ((-101))) hx hb hr (fun t ht hW => ⟨⟨_, ((fup F 0 0), ar), rfl, ⟨_, rfl, hpost⟩, by rw [ht]; exact hP, va_K.moved hW.alike hK, hD⟩, hS.F ht⟩) hS.2.2 dX12_beside_15
set_option maxHeartbeats 4000000 in
set_option maxRecDepth 100000 in
theorem c_common {l : Launch} {dC : Nat → ClassId} {dI : Nat → Nat → Nat} {h0 : Nat} {ad : Nat → Nat} {cI cJ cB cZ : Nat} {F : Nat → Int} {ar : Nat → Int → Int} {sz : Nat} {ia ib : Int} (n0 : F 24 = 0) (p0 : F 57 = 0) (ia0 : -2147483648 ≤ ia) (ia1 : ia ≤ 2147483647) (ib0 : -2147483648 ≤ ib) (ib1 : ib ≤ 2147483647) : Met l yX12_common (Cond.code yX12_common cX12_common 4 (some .int) :: w0r) (rRm 4 120) (rPc dC dI h0 ad cI cJ cB cZ F ar sz [Iz (ia), Iz (ib)]) (rQi dC dI h0 ad cI cJ cB cZ sz (fun z F' ar' => z = -101 ∧ F' 0 = 0)) 0 0 (rA h0 ad sz) := by
  refine Met.ofW (cc := cX12_common) (maxL := 4) (ret := (some .int)) (by decide) rfl ?_
  intro p e s m args below meth c s₁ B hml hv
  obtain ⟨rfl, hsz, hP, hK, hD0⟩ := hv
  have hx := B.exec
  have hb := B.bytes
  have hr := B.returns
  have hts := atoms_spec (ws := Cond.code yX12_common cX12_common 4 (some .int) :: w0r) B.pre
  have hown : s.vm.findClass RX12 = some m.cls := findClass_of_methodNamed B.named
  have hlocks := B.notSynchronized
  have E : CallFix p m c cX12_common 4 s _ (Cond.code yX12_common cX12_common 4 (some .int) :: w0r) RX12 := ⟨hx, hb, hml, hown, hts⟩
  subst hsz
  have hD := rA_self s.heap.size hD0
  have hA : ∀ q : Nat, s.heap.size ≤ q → rA h0 ad s.heap.size q := fun q h => Or.inr h
  have hS : va_S (rA h0 ad s.heap.size) s.heap s.heap [] := va_S.rf
  have hl := lv_entry ([.ref h0, Iz (ia), Iz (ib)]) (n := 4) (Nat.le_of_ble_eq_true rfl)
  rw [lg_entry_eq]
  generalize (lg_sl ([.ref h0, Iz (ia), Iz (ib)]) ++ List.replicate (4 - (lg_sl ([.ref h0, Iz (ia), Iz (ib)])).length) Slot.unset).toArray = ls at hl ⊢
  have hl : lv_has ls 4 [(0, .ref h0), (1, Iz (ia)), (2, Iz (ib))] := hl
  refine lv_aload_n hx hb dX12_common_0 rfl (lv_at hl 0 rfl) ?_
  refine lv_iconst (v := Int32.ofInt (0)) hx hb dX12_common_1 (by decide) ?_
  refine r_puti E hK hP hD hS 0 (by decide) mf_1 rfl rfl (by decide +kernel) (sp_0 h0 ad cI cJ cB cZ _ _) dX12_common_2 (fun H locs hP hD hS => ?_)
  refine lv_aload_n hx hb dX12_common_5 rfl (lv_at hl 0 rfl) ?_
  refine lv_iload_n hx hb dX12_common_6 rfl (lv_at hl 1 rfl) ?_
  refine r_calli (As := [Iz (ia)]) (rest := []) E (c_isNumber (F := (fup F 0 0)) (ar := ar) (ia := ia) (by omega) (by omega) ((fup_ne _ _ (by decide)).trans n0)) (cwV 1 hts (rGood ml_581 mi_isNumber ms_isNumber mn_RX12 mc_isNumber) rfl rfl rfl (by decide +kernel) ⟨Nat.le_of_ble_eq_true rfl, Nat.le_of_ble_eq_true rfl⟩) hK hP hD hS hA rfl hl.1 (Nat.le_of_ble_eq_true rfl) dX12_common_7 ⟨Nat.le_refl 0, Nat.le_refl 0⟩ (fun z7 F7 ar7 H locs q7 hP hD hS => ?_)
  obtain ⟨e1_, e2_, e3_⟩ := q7
  obtain rfl := e1_.symm
  obtain rfl := e2_.symm
  obtain rfl := e3_.symm
  refine g_if_eq (tgt := 21) hx hb (by first | assumption | exact ⟨by omega, by omega⟩ | exact Hh _) dX12_common_10 (by decide) (fun c_10 => ?_) (fun c_10 => ?_)
  · skip
    refine lv_bipush (v := Int32.ofInt (-101)) hx hb dX12_common_21 (by decide) ?_
    have hpost : ((-101) : Int) = -101 ∧ (fup F 0 0) 0 = 0 := ⟨rfl, rfl⟩
    exact W.iret (v := Int32.ofInt ((-101))) hx hb hr (fun t ht hW => ⟨⟨_, ((fup F 0 0), ar), rfl, ⟨_, rfl, hpost⟩, by rw [ht]; exact hP, va_K.moved hW.alike hK, hD⟩, hS.F ht⟩) hS.2.2 dX12_common_23
  · omega
set_option maxHeartbeats 4000000 in
set_option maxRecDepth 100000 in
theorem c_about {l : Launch} {dC : Nat → ClassId} {dI : Nat → Nat → Nat} {h0 : Nat} {ad : Nat → Nat} {cI cJ cB cZ : Nat} {F : Nat → Int} {ar : Nat → Int → Int} {sz : Nat} {ia ib : Int} (n0 : F 24 = 0) (p0 : F 57 = 0) (ia0 : -2147483648 ≤ ia) (ia1 : ia ≤ 2147483647) (ib0 : -2147483648 ≤ ib) (ib1 : ib ≤ 2147483647) : Met l yX12_about (Cond.code yX12_about cX12_about 6 (some .int) :: w0r) (rRm 4 120) (rPc dC dI h0 ad cI cJ cB cZ F ar sz [Iz (ia), Iz (ib)]) (rQi dC dI h0 ad cI cJ cB cZ sz (fun z F' ar' => z = -101 ∧ F' 0 = 0)) 0 0 (rA h0 ad sz) := by
  refine Met.ofW (cc := cX12_about) (maxL := 6) (ret := (some .int)) (by decide) rfl ?_
  intro p e s m args below meth c s₁ B hml hv
  obtain ⟨rfl, hsz, hP, hK, hD0⟩ := hv
  have hx := B.exec
  have hb := B.bytes
  have hr := B.returns
  have hts := atoms_spec (ws := Cond.code yX12_about cX12_about 6 (some .int) :: w0r) B.pre
  have hown : s.vm.findClass RX12 = some m.cls := findClass_of_methodNamed B.named
  have hlocks := B.notSynchronized
  have E : CallFix p m c cX12_about 6 s _ (Cond.code yX12_about cX12_about 6 (some .int) :: w0r) RX12 := ⟨hx, hb, hml, hown, hts⟩
  subst hsz
  have hD := rA_self s.heap.size hD0
  have hA : ∀ q : Nat, s.heap.size ≤ q → rA h0 ad s.heap.size q := fun q h => Or.inr h
  have hS : va_S (rA h0 ad s.heap.size) s.heap s.heap [] := va_S.rf
  have hl := lv_entry ([.ref h0, Iz (ia), Iz (ib)]) (n := 6) (Nat.le_of_ble_eq_true rfl)
  rw [lg_entry_eq]
  generalize (lg_sl ([.ref h0, Iz (ia), Iz (ib)]) ++ List.replicate (6 - (lg_sl ([.ref h0, Iz (ia), Iz (ib)])).length) Slot.unset).toArray = ls at hl ⊢
  have hl : lv_has ls 6 [(0, .ref h0), (1, Iz (ia)), (2, Iz (ib))] := hl
  refine lv_aload_n hx hb dX12_about_0 rfl (lv_at hl 0 rfl) ?_
  refine lv_iconst (v := Int32.ofInt (0)) hx hb dX12_about_1 (by decide) ?_
  refine r_puti E hK hP hD hS 0 (by decide) mf_1 rfl rfl (by decide +kernel) (sp_0 h0 ad cI cJ cB cZ _ _) dX12_about_2 (fun H locs hP hD hS => ?_)
  refine lv_aload_n hx hb dX12_about_5 rfl (lv_at hl 0 rfl) ?_
  refine lv_iload_n hx hb dX12_about_6 rfl (lv_at hl 1 rfl) ?_
  refine r_calli (As := [Iz (ia)]) (rest := []) E (c_isNumber (F := (fup F 0 0)) (ar := ar) (ia := ia) (by omega) (by omega) ((fup_ne _ _ (by decide)).trans n0)) (cwV 1 hts (rGood ml_581 mi_isNumber ms_isNumber mn_RX12 mc_isNumber) rfl rfl rfl (by decide +kernel) ⟨Nat.le_of_ble_eq_true rfl, Nat.le_of_ble_eq_true rfl⟩) hK hP hD hS hA rfl hl.1 (Nat.le_of_ble_eq_true rfl) dX12_about_7 ⟨Nat.le_refl 0, Nat.le_refl 0⟩ (fun z7 F7 ar7 H locs q7 hP hD hS => ?_)
  obtain ⟨e1_, e2_, e3_⟩ := q7
  obtain rfl := e1_.symm
  obtain rfl := e2_.symm
  obtain rfl := e3_.symm
  refine g_if_ne (tgt := 16) hx hb (by first | assumption | exact ⟨by omega, by omega⟩ | exact Hh _) dX12_about_10 (by decide) (fun c_10 => ?_) (fun c_10 => ?_)
  · omega
  · skip
    refine lv_bipush (v := Int32.ofInt (-101)) hx hb dX12_about_13 (by decide) ?_
    have hpost : ((-101) : Int) = -101 ∧ (fup F 0 0) 0 = 0 := ⟨rfl, rfl⟩
    exact W.iret (v := Int32.ofInt ((-101))) hx hb hr (fun t ht hW => ⟨⟨_, ((fup F 0 0), ar), rfl, ⟨_, rfl, hpost⟩, by rw [ht]; exact hP, va_K.moved hW.alike hK, hD⟩, hS.F ht⟩) hS.2.2 dX12_about_15
set_option maxHeartbeats 4000000 in
set_option maxRecDepth 100000 in
theorem c_within {l : Launch} {dC : Nat → ClassId} {dI : Nat → Nat → Nat} {h0 : Nat} {ad : Nat → Nat} {cI cJ cB cZ : Nat} {F : Nat → Int} {ar : Nat → Int → Int} {sz : Nat} {ia ib : Int} (n0 : F 24 = 0) (p0 : F 57 = 0) (ia0 : -2147483648 ≤ ia) (ia1 : ia ≤ 2147483647) (ib0 : -2147483648 ≤ ib) (ib1 : ib ≤ 2147483647) : Met l yX12_within (Cond.code yX12_within cX12_within 6 (some .int) :: w0r) (rRm 4 120) (rPc dC dI h0 ad cI cJ cB cZ F ar sz [Iz (ia), Iz (ib)]) (rQi dC dI h0 ad cI cJ cB cZ sz (fun z F' ar' => z = -101 ∧ F' 0 = 0)) 0 0 (rA h0 ad sz) := by
  refine Met.ofW (cc := cX12_within) (maxL := 6) (ret := (some .int)) (by decide) rfl ?_
  intro p e s m args below meth c s₁ B hml hv
  obtain ⟨rfl, hsz, hP, hK, hD0⟩ := hv
  have hx := B.exec
  have hb := B.bytes
  have hr := B.returns
  have hts := atoms_spec (ws := Cond.code yX12_within cX12_within 6 (some .int) :: w0r) B.pre
  have hown : s.vm.findClass RX12 = some m.cls := findClass_of_methodNamed B.named
  have hlocks := B.notSynchronized
  have E : CallFix p m c cX12_within 6 s _ (Cond.code yX12_within cX12_within 6 (some .int) :: w0r) RX12 := ⟨hx, hb, hml, hown, hts⟩
  subst hsz
  have hD := rA_self s.heap.size hD0
  have hA : ∀ q : Nat, s.heap.size ≤ q → rA h0 ad s.heap.size q := fun q h => Or.inr h
  have hS : va_S (rA h0 ad s.heap.size) s.heap s.heap [] := va_S.rf
  have hl := lv_entry ([.ref h0, Iz (ia), Iz (ib)]) (n := 6) (Nat.le_of_ble_eq_true rfl)
  rw [lg_entry_eq]
  generalize (lg_sl ([.ref h0, Iz (ia), Iz (ib)]) ++ List.replicate (6 - (lg_sl ([.ref h0, Iz (ia), Iz (ib)])).length) Slot.unset).toArray = ls at hl ⊢
  have hl : lv_has ls 6 [(0, .ref h0), (1, Iz (ia)), (2, Iz (ib))] := hl
  refine lv_aload_n hx hb dX12_within_0 rfl (lv_at hl 0 rfl) ?_
  refine lv_iconst (v := Int32.ofInt (0)) hx hb dX12_within_1 (by decide) ?_
  refine r_puti E hK hP hD hS 0 (by decide) mf_1 rfl rfl (by decide +kernel) (sp_0 h0 ad cI cJ cB cZ _ _) dX12_within_2 (fun H locs hP hD hS => ?_)
  refine lv_aload_n hx hb dX12_within_5 rfl (lv_at hl 0 rfl) ?_
  refine lv_iload_n hx hb dX12_within_6 rfl (lv_at hl 1 rfl) ?_
  refine r_calli (As := [Iz (ia)]) (rest := []) E (c_isNumber (F := (fup F 0 0)) (ar := ar) (ia := ia) (by omega) (by omega) ((fup_ne _ _ (by decide)).trans n0)) (cwV 1 hts (rGood ml_581 mi_isNumber ms_isNumber mn_RX12 mc_isNumber) rfl rfl rfl (by decide +kernel) ⟨Nat.le_of_ble_eq_true rfl, Nat.le_of_ble_eq_true rfl⟩) hK hP hD hS hA rfl hl.1 (Nat.le_of_ble_eq_true rfl) dX12_within_7 ⟨Nat.le_refl 0, Nat.le_refl 0⟩ (fun z7 F7 ar7 H locs q7 hP hD hS => ?_)
  obtain ⟨e1_, e2_, e3_⟩ := q7
  obtain rfl := e1_.symm
  obtain rfl := e2_.symm
  obtain rfl := e3_.symm
  refine g_if_eq (tgt := 21) hx hb (by first | assumption | exact ⟨by omega, by omega⟩ | exact Hh _) dX12_within_10 (by decide) (fun c_10 => ?_) (fun c_10 => ?_)
  · skip
    refine lv_bipush (v := Int32.ofInt (-101)) hx hb dX12_within_21 (by decide) ?_
    have hpost : ((-101) : Int) = -101 ∧ (fup F 0 0) 0 = 0 := ⟨rfl, rfl⟩
    exact W.iret (v := Int32.ofInt ((-101))) hx hb hr (fun t ht hW => ⟨⟨_, ((fup F 0 0), ar), rfl, ⟨_, rfl, hpost⟩, by rw [ht]; exact hP, va_K.moved hW.alike hK, hD⟩, hS.F ht⟩) hS.2.2 dX12_within_23
  · omega
set_option maxHeartbeats 4000000 in
set_option maxRecDepth 100000 in
theorem c_write {l : Launch} {dC : Nat → ClassId} {dI : Nat → Nat → Nat} {h0 : Nat} {ad : Nat → Nat} {cI cJ cB cZ : Nat} {F : Nat → Int} {ar : Nat → Int → Int} {sz : Nat} {ia ib : Int} (n0 : F 24 = 0) (p0 : F 57 = 0) (ia0 : -2147483648 ≤ ia) (ia1 : ia ≤ 2147483647) (ib0 : -2147483648 ≤ ib) (ib1 : ib ≤ 2147483647) : Met l yX12_write (Cond.code yX12_write cX12_write 6 (some .int) :: w0r) (rRm 4 120) (rPc dC dI h0 ad cI cJ cB cZ F ar sz [Iz (ia), Iz (ib)]) (rQi dC dI h0 ad cI cJ cB cZ sz (fun z F' ar' => z = -101 ∧ F' 0 = 0)) 0 0 (rA h0 ad sz) := by
  refine Met.ofW (cc := cX12_write) (maxL := 6) (ret := (some .int)) (by decide) rfl ?_
  intro p e s m args below meth c s₁ B hml hv
  obtain ⟨rfl, hsz, hP, hK, hD0⟩ := hv
  have hx := B.exec
  have hb := B.bytes
  have hr := B.returns
  have hts := atoms_spec (ws := Cond.code yX12_write cX12_write 6 (some .int) :: w0r) B.pre
  have hown : s.vm.findClass RX12 = some m.cls := findClass_of_methodNamed B.named
  have hlocks := B.notSynchronized
  have E : CallFix p m c cX12_write 6 s _ (Cond.code yX12_write cX12_write 6 (some .int) :: w0r) RX12 := ⟨hx, hb, hml, hown, hts⟩
  subst hsz
  have hD := rA_self s.heap.size hD0
  have hA : ∀ q : Nat, s.heap.size ≤ q → rA h0 ad s.heap.size q := fun q h => Or.inr h
  have hS : va_S (rA h0 ad s.heap.size) s.heap s.heap [] := va_S.rf
  have hl := lv_entry ([.ref h0, Iz (ia), Iz (ib)]) (n := 6) (Nat.le_of_ble_eq_true rfl)
  rw [lg_entry_eq]
  generalize (lg_sl ([.ref h0, Iz (ia), Iz (ib)]) ++ List.replicate (6 - (lg_sl ([.ref h0, Iz (ia), Iz (ib)])).length) Slot.unset).toArray = ls at hl ⊢
  have hl : lv_has ls 6 [(0, .ref h0), (1, Iz (ia)), (2, Iz (ib))] := hl
  refine lv_aload_n hx hb dX12_write_0 rfl (lv_at hl 0 rfl) ?_
  refine lv_iconst (v := Int32.ofInt (0)) hx hb dX12_write_1 (by decide) ?_
  refine r_puti E hK hP hD hS 0 (by decide) mf_1 rfl rfl (by decide +kernel) (sp_0 h0 ad cI cJ cB cZ _ _) dX12_write_2 (fun H locs hP hD hS => ?_)
  refine lv_aload_n hx hb dX12_write_5 rfl (lv_at hl 0 rfl) ?_
  refine lv_iload_n hx hb dX12_write_6 rfl (lv_at hl 1 rfl) ?_
  refine r_calli (As := [Iz (ia)]) (rest := []) E (c_isNumber (F := (fup F 0 0)) (ar := ar) (ia := ia) (by omega) (by omega) ((fup_ne _ _ (by decide)).trans n0)) (cwV 1 hts (rGood ml_581 mi_isNumber ms_isNumber mn_RX12 mc_isNumber) rfl rfl rfl (by decide +kernel) ⟨Nat.le_of_ble_eq_true rfl, Nat.le_of_ble_eq_true rfl⟩) hK hP hD hS hA rfl hl.1 (Nat.le_of_ble_eq_true rfl) dX12_write_7 ⟨Nat.le_refl 0, Nat.le_refl 0⟩ (fun z7 F7 ar7 H locs q7 hP hD hS => ?_)
  obtain ⟨e1_, e2_, e3_⟩ := q7
  obtain rfl := e1_.symm
  obtain rfl := e2_.symm
  obtain rfl := e3_.symm
  refine g_if_ne (tgt := 16) hx hb (by first | assumption | exact ⟨by omega, by omega⟩ | exact Hh _) dX12_write_10 (by decide) (fun c_10 => ?_) (fun c_10 => ?_)
  · omega
  · skip
    refine lv_bipush (v := Int32.ofInt (-101)) hx hb dX12_write_13 (by decide) ?_
    have hpost : ((-101) : Int) = -101 ∧ (fup F 0 0) 0 = 0 := ⟨rfl, rfl⟩
    exact W.iret (v := Int32.ofInt ((-101))) hx hb hr (fun t ht hW => ⟨⟨_, ((fup F 0 0), ar), rfl, ⟨_, rfl, hpost⟩, by rw [ht]; exact hP, va_K.moved hW.alike hK, hD⟩, hS.F ht⟩) hS.2.2 dX12_write_15
set_option maxHeartbeats 4000000 in
set_option maxRecDepth 100000 in
theorem c_sign {l : Launch} {dC : Nat → ClassId} {dI : Nat → Nat → Nat} {h0 : Nat} {ad : Nat → Nat} {cI cJ cB cZ : Nat} {F : Nat → Int} {ar : Nat → Int → Int} {sz : Nat} {ia : Int} (n0 : F 24 = 0) (p0 : F 57 = 0) (ia0 : -2147483648 ≤ ia) (ia1 : ia ≤ 2147483647) : Met l yX12_sign (Cond.code yX12_sign cX12_sign 2 (some .int) :: w0r) (rRm 4 120) (rPc dC dI h0 ad cI cJ cB cZ F ar sz [Iz (ia)]) (rQi dC dI h0 ad cI cJ cB cZ sz (fun z F' ar' => z = -101 ∧ F' 0 = 0)) 0 0 (rA h0 ad sz) := by
  refine Met.ofW (cc := cX12_sign) (maxL := 2) (ret := (some .int)) (by decide) rfl ?_
  intro p e s m args below meth c s₁ B hml hv
  obtain ⟨rfl, hsz, hP, hK, hD0⟩ := hv
  have hx := B.exec
  have hb := B.bytes
  have hr := B.returns
  have hts := atoms_spec (ws := Cond.code yX12_sign cX12_sign 2 (some .int) :: w0r) B.pre
  have hown : s.vm.findClass RX12 = some m.cls := findClass_of_methodNamed B.named
  have hlocks := B.notSynchronized
  have E : CallFix p m c cX12_sign 2 s _ (Cond.code yX12_sign cX12_sign 2 (some .int) :: w0r) RX12 := ⟨hx, hb, hml, hown, hts⟩
  subst hsz
  have hD := rA_self s.heap.size hD0
  have hA : ∀ q : Nat, s.heap.size ≤ q → rA h0 ad s.heap.size q := fun q h => Or.inr h
  have hS : va_S (rA h0 ad s.heap.size) s.heap s.heap [] := va_S.rf
  have hl := lv_entry ([.ref h0, Iz (ia)]) (n := 2) (Nat.le_of_ble_eq_true rfl)
  rw [lg_entry_eq]
  generalize (lg_sl ([.ref h0, Iz (ia)]) ++ List.replicate (2 - (lg_sl ([.ref h0, Iz (ia)])).length) Slot.unset).toArray = ls at hl ⊢
  have hl : lv_has ls 2 [(0, .ref h0), (1, Iz (ia))] := hl
  refine lv_aload_n hx hb dX12_sign_0 rfl (lv_at hl 0 rfl) ?_
  refine lv_iconst (v := Int32.ofInt (0)) hx hb dX12_sign_1 (by decide) ?_
  refine r_puti E hK hP hD hS 0 (by decide) mf_1 rfl rfl (by decide +kernel) (sp_0 h0 ad cI cJ cB cZ _ _) dX12_sign_2 (fun H locs hP hD hS => ?_)
  refine lv_aload_n hx hb dX12_sign_5 rfl (lv_at hl 0 rfl) ?_
  refine lv_iload_n hx hb dX12_sign_6 rfl (lv_at hl 1 rfl) ?_
  refine r_calli (As := [Iz (ia)]) (rest := []) E (c_isNumber (F := (fup F 0 0)) (ar := ar) (ia := ia) (by omega) (by omega) ((fup_ne _ _ (by decide)).trans n0)) (cwV 1 hts (rGood ml_581 mi_isNumber ms_isNumber mn_RX12 mc_isNumber) rfl rfl rfl (by decide +kernel) ⟨Nat.le_of_ble_eq_true rfl, Nat.le_of_ble_eq_true rfl⟩) hK hP hD hS hA rfl hl.1 (Nat.le_of_ble_eq_true rfl) dX12_sign_7 ⟨Nat.le_refl 0, Nat.le_refl 0⟩ (fun z7 F7 ar7 H locs q7 hP hD hS => ?_)
  obtain ⟨e1_, e2_, e3_⟩ := q7
  obtain rfl := e1_.symm
  obtain rfl := e2_.symm
  obtain rfl := e3_.symm
  refine g_if_eq (tgt := 21) hx hb (by first | assumption | exact ⟨by omega, by omega⟩ | exact Hh _) dX12_sign_10 (by decide) (fun c_10 => ?_) (fun c_10 => ?_)
  · skip
    refine lv_bipush (v := Int32.ofInt (-101)) hx hb dX12_sign_21 (by decide) ?_
    have hpost : ((-101) : Int) = -101 ∧ (fup F 0 0) 0 = 0 := ⟨rfl, rfl⟩
    exact W.iret (v := Int32.ofInt ((-101))) hx hb hr (fun t ht hW => ⟨⟨_, ((fup F 0 0), ar), rfl, ⟨_, rfl, hpost⟩, by rw [ht]; exact hP, va_K.moved hW.alike hK, hD⟩, hS.F ht⟩) hS.2.2 dX12_sign_23
  · omega
set_option maxHeartbeats 4000000 in
set_option maxRecDepth 100000 in
theorem c_writeLeast {l : Launch} {dC : Nat → ClassId} {dI : Nat → Nat → Nat} {h0 : Nat} {ad : Nat → Nat} {cI cJ cB cZ : Nat} {F : Nat → Int} {ar : Nat → Int → Int} {sz : Nat} {ia : Int} (n0 : F 24 = 0) (p0 : F 57 = 0) (ia0 : -2147483648 ≤ ia) (ia1 : ia ≤ 2147483647) : Met l yX12_writeLeast (Cond.code yX12_writeLeast cX12_writeLeast 2 (some .int) :: w0r) (rRm 4 120) (rPc dC dI h0 ad cI cJ cB cZ F ar sz [Iz (ia)]) (rQi dC dI h0 ad cI cJ cB cZ sz (fun z F' ar' => z = -101 ∧ F' 0 = 0)) 0 0 (rA h0 ad sz) := by
  refine Met.ofW (cc := cX12_writeLeast) (maxL := 2) (ret := (some .int)) (by decide) rfl ?_
  intro p e s m args below meth c s₁ B hml hv
  obtain ⟨rfl, hsz, hP, hK, hD0⟩ := hv
  have hx := B.exec
  have hb := B.bytes
  have hr := B.returns
  have hts := atoms_spec (ws := Cond.code yX12_writeLeast cX12_writeLeast 2 (some .int) :: w0r) B.pre
  have hown : s.vm.findClass RX12 = some m.cls := findClass_of_methodNamed B.named
  have hlocks := B.notSynchronized
  have E : CallFix p m c cX12_writeLeast 2 s _ (Cond.code yX12_writeLeast cX12_writeLeast 2 (some .int) :: w0r) RX12 := ⟨hx, hb, hml, hown, hts⟩
  subst hsz
  have hD := rA_self s.heap.size hD0
  have hA : ∀ q : Nat, s.heap.size ≤ q → rA h0 ad s.heap.size q := fun q h => Or.inr h
  have hS : va_S (rA h0 ad s.heap.size) s.heap s.heap [] := va_S.rf
  have hl := lv_entry ([.ref h0, Iz (ia)]) (n := 2) (Nat.le_of_ble_eq_true rfl)
  rw [lg_entry_eq]
  generalize (lg_sl ([.ref h0, Iz (ia)]) ++ List.replicate (2 - (lg_sl ([.ref h0, Iz (ia)])).length) Slot.unset).toArray = ls at hl ⊢
  have hl : lv_has ls 2 [(0, .ref h0), (1, Iz (ia))] := hl
  refine lv_aload_n hx hb dX12_writeLeast_0 rfl (lv_at hl 0 rfl) ?_
  refine lv_iconst (v := Int32.ofInt (0)) hx hb dX12_writeLeast_1 (by decide) ?_
  refine r_puti E hK hP hD hS 0 (by decide) mf_1 rfl rfl (by decide +kernel) (sp_0 h0 ad cI cJ cB cZ _ _) dX12_writeLeast_2 (fun H locs hP hD hS => ?_)
  refine lv_aload_n hx hb dX12_writeLeast_5 rfl (lv_at hl 0 rfl) ?_
  refine lv_iload_n hx hb dX12_writeLeast_6 rfl (lv_at hl 1 rfl) ?_
  refine r_calli (As := [Iz (ia)]) (rest := []) E (c_isNumber (F := (fup F 0 0)) (ar := ar) (ia := ia) (by omega) (by omega) ((fup_ne _ _ (by decide)).trans n0)) (cwV 1 hts (rGood ml_581 mi_isNumber ms_isNumber mn_RX12 mc_isNumber) rfl rfl rfl (by decide +kernel) ⟨Nat.le_of_ble_eq_true rfl, Nat.le_of_ble_eq_true rfl⟩) hK hP hD hS hA rfl hl.1 (Nat.le_of_ble_eq_true rfl) dX12_writeLeast_7 ⟨Nat.le_refl 0, Nat.le_refl 0⟩ (fun z7 F7 ar7 H locs q7 hP hD hS => ?_)
  obtain ⟨e1_, e2_, e3_⟩ := q7
  obtain rfl := e1_.symm
  obtain rfl := e2_.symm
  obtain rfl := e3_.symm
  refine g_if_eq (tgt := 21) hx hb (by first | assumption | exact ⟨by omega, by omega⟩ | exact Hh _) dX12_writeLeast_10 (by decide) (fun c_10 => ?_) (fun c_10 => ?_)
  · skip
    refine lv_bipush (v := Int32.ofInt (-101)) hx hb dX12_writeLeast_21 (by decide) ?_
    have hpost : ((-101) : Int) = -101 ∧ (fup F 0 0) 0 = 0 := ⟨rfl, rfl⟩
    exact W.iret (v := Int32.ofInt ((-101))) hx hb hr (fun t ht hW => ⟨⟨_, ((fup F 0 0), ar), rfl, ⟨_, rfl, hpost⟩, by rw [ht]; exact hP, va_K.moved hW.alike hK, hD⟩, hS.F ht⟩) hS.2.2 dX12_writeLeast_23
  · omega
set_option maxHeartbeats 4000000 in
set_option maxRecDepth 100000 in
theorem c_compare {l : Launch} {dC : Nat → ClassId} {dI : Nat → Nat → Nat} {h0 : Nat} {ad : Nat → Nat} {cI cJ cB cZ : Nat} {F : Nat → Int} {ar : Nat → Int → Int} {sz : Nat} {ia ib : Int} (n0 : F 24 = 0) (p0 : F 57 = 0) (ia0 : -2147483648 ≤ ia) (ia1 : ia ≤ 2147483647) (ib0 : -2147483648 ≤ ib) (ib1 : ib ≤ 2147483647) : Met l yX12_compare (Cond.code yX12_compare cX12_compare 3 (some .int) :: w0r) (rRm 4 120) (rPc dC dI h0 ad cI cJ cB cZ F ar sz [Iz (ia), Iz (ib)]) (rQi dC dI h0 ad cI cJ cB cZ sz (fun z F' ar' => z = -2 ∧ F' 0 = 0)) 0 0 (rA h0 ad sz) := by
  refine Met.ofW (cc := cX12_compare) (maxL := 3) (ret := (some .int)) (by decide) rfl ?_
  intro p e s m args below meth c s₁ B hml hv
  obtain ⟨rfl, hsz, hP, hK, hD0⟩ := hv
  have hx := B.exec
  have hb := B.bytes
  have hr := B.returns
  have hts := atoms_spec (ws := Cond.code yX12_compare cX12_compare 3 (some .int) :: w0r) B.pre
  have hown : s.vm.findClass RX12 = some m.cls := findClass_of_methodNamed B.named
  have hlocks := B.notSynchronized
  have E : CallFix p m c cX12_compare 3 s _ (Cond.code yX12_compare cX12_compare 3 (some .int) :: w0r) RX12 := ⟨hx, hb, hml, hown, hts⟩
  subst hsz
  have hD := rA_self s.heap.size hD0
  have hA : ∀ q : Nat, s.heap.size ≤ q → rA h0 ad s.heap.size q := fun q h => Or.inr h
  have hS : va_S (rA h0 ad s.heap.size) s.heap s.heap [] := va_S.rf
  have hl := lv_entry ([.ref h0, Iz (ia), Iz (ib)]) (n := 3) (Nat.le_of_ble_eq_true rfl)
  rw [lg_entry_eq]
  generalize (lg_sl ([.ref h0, Iz (ia), Iz (ib)]) ++ List.replicate (3 - (lg_sl ([.ref h0, Iz (ia), Iz (ib)])).length) Slot.unset).toArray = ls at hl ⊢
  have hl : lv_has ls 3 [(0, .ref h0), (1, Iz (ia)), (2, Iz (ib))] := hl
  refine lv_aload_n hx hb dX12_compare_0 rfl (lv_at hl 0 rfl) ?_
  refine lv_iconst (v := Int32.ofInt (0)) hx hb dX12_compare_1 (by decide) ?_
  refine r_puti E hK hP hD hS 0 (by decide) mf_1 rfl rfl (by decide +kernel) (sp_0 h0 ad cI cJ cB cZ _ _) dX12_compare_2 (fun H locs hP hD hS => ?_)
  refine lv_aload_n hx hb dX12_compare_5 rfl (lv_at hl 0 rfl) ?_
  refine lv_iload_n hx hb dX12_compare_6 rfl (lv_at hl 1 rfl) ?_
  refine r_calli (As := [Iz (ia)]) (rest := []) E (c_isNumber (F := (fup F 0 0)) (ar := ar) (ia := ia) (by omega) (by omega) ((fup_ne _ _ (by decide)).trans n0)) (cwV 1 hts (rGood ml_581 mi_isNumber ms_isNumber mn_RX12 mc_isNumber) rfl rfl rfl (by decide +kernel) ⟨Nat.le_of_ble_eq_true rfl, Nat.le_of_ble_eq_true rfl⟩) hK hP hD hS hA rfl hl.1 (Nat.le_of_ble_eq_true rfl) dX12_compare_7 ⟨Nat.le_refl 0, Nat.le_refl 0⟩ (fun z7 F7 ar7 H locs q7 hP hD hS => ?_)
  obtain ⟨e1_, e2_, e3_⟩ := q7
  obtain rfl := e1_.symm
  obtain rfl := e2_.symm
  obtain rfl := e3_.symm
  refine g_if_eq (tgt := 21) hx hb (by first | assumption | exact ⟨by omega, by omega⟩ | exact Hh _) dX12_compare_10 (by decide) (fun c_10 => ?_) (fun c_10 => ?_)
  · skip
    refine lv_bipush (v := Int32.ofInt (-2)) hx hb dX12_compare_21 (by decide) ?_
    refine lv_goto (tgt := 32) hx hb dX12_compare_23 (by decide) ?_
    have hpost : ((-2) : Int) = -2 ∧ (fup F 0 0) 0 = 0 := ⟨rfl, rfl⟩
    exact W.iret (v := Int32.ofInt ((-2))) hx hb hr (fun t ht hW => ⟨⟨_, ((fup F 0 0), ar), rfl, ⟨_, rfl, hpost⟩, by rw [ht]; exact hP, va_K.moved hW.alike hK, hD⟩, hS.F ht⟩) hS.2.2 dX12_compare_32
  · omega
set_option maxHeartbeats 4000000 in
set_option maxRecDepth 100000 in
theorem c_value {l : Launch} {dC : Nat → ClassId} {dI : Nat → Nat → Nat} {h0 : Nat} {ad : Nat → Nat} {cI cJ cB cZ : Nat} {F : Nat → Int} {ar : Nat → Int → Int} {sz : Nat} {ia ib : Int} (n0 : F 24 = 0) (p0 : F 57 = 0) (ia0 : -2147483648 ≤ ia) (ia1 : ia ≤ 2147483647) (ib0 : -2147483648 ≤ ib) (ib1 : ib ≤ 2147483647) : Met l yX12_value (Cond.code yX12_value cX12_value 5 (some .int) :: w0r) (rRm 4 120) (rPc dC dI h0 ad cI cJ cB cZ F ar sz [Iz (ia), Iz (ib)]) (rQi dC dI h0 ad cI cJ cB cZ sz (fun z F' ar' => z = -101 ∧ F' 0 = 0)) 0 0 (rA h0 ad sz) := by
  refine Met.ofW (cc := cX12_value) (maxL := 5) (ret := (some .int)) (by decide) rfl ?_
  intro p e s m args below meth c s₁ B hml hv
  obtain ⟨rfl, hsz, hP, hK, hD0⟩ := hv
  have hx := B.exec
  have hb := B.bytes
  have hr := B.returns
  have hts := atoms_spec (ws := Cond.code yX12_value cX12_value 5 (some .int) :: w0r) B.pre
  have hown : s.vm.findClass RX12 = some m.cls := findClass_of_methodNamed B.named
  have hlocks := B.notSynchronized
  have E : CallFix p m c cX12_value 5 s _ (Cond.code yX12_value cX12_value 5 (some .int) :: w0r) RX12 := ⟨hx, hb, hml, hown, hts⟩
  subst hsz
  have hD := rA_self s.heap.size hD0
  have hA : ∀ q : Nat, s.heap.size ≤ q → rA h0 ad s.heap.size q := fun q h => Or.inr h
  have hS : va_S (rA h0 ad s.heap.size) s.heap s.heap [] := va_S.rf
  have hl := lv_entry ([.ref h0, Iz (ia), Iz (ib)]) (n := 5) (Nat.le_of_ble_eq_true rfl)
  rw [lg_entry_eq]
  generalize (lg_sl ([.ref h0, Iz (ia), Iz (ib)]) ++ List.replicate (5 - (lg_sl ([.ref h0, Iz (ia), Iz (ib)])).length) Slot.unset).toArray = ls at hl ⊢
  have hl : lv_has ls 5 [(0, .ref h0), (1, Iz (ia)), (2, Iz (ib))] := hl
  refine lv_aload_n hx hb dX12_value_0 rfl (lv_at hl 0 rfl) ?_
  refine lv_iconst (v := Int32.ofInt (0)) hx hb dX12_value_1 (by decide) ?_
  refine r_puti E hK hP hD hS 0 (by decide) mf_1 rfl rfl (by decide +kernel) (sp_0 h0 ad cI cJ cB cZ _ _) dX12_value_2 (fun H locs hP hD hS => ?_)
  refine lv_aload_n hx hb dX12_value_5 rfl (lv_at hl 0 rfl) ?_
  refine lv_iload_n hx hb dX12_value_6 rfl (lv_at hl 1 rfl) ?_
  refine r_calli (As := [Iz (ia)]) (rest := []) E (c_isPolynomial (F := (fup F 0 0)) (ar := ar) (ia := ia) (by omega) (by omega) ((fup_ne _ _ (by decide)).trans p0)) (cwV 1 hts (rGood ml_617 mi_isPolynomial ms_isPolynomial mn_RX12 mc_isPolynomial) rfl rfl rfl (by decide +kernel) ⟨Nat.le_of_ble_eq_true rfl, Nat.le_of_ble_eq_true rfl⟩) hK hP hD hS hA rfl hl.1 (Nat.le_of_ble_eq_true rfl) dX12_value_7 ⟨Nat.le_refl 0, Nat.le_refl 0⟩ (fun z7 F7 ar7 H locs q7 hP hD hS => ?_)
  obtain ⟨e1_, e2_, e3_⟩ := q7
  obtain rfl := e1_.symm
  obtain rfl := e2_.symm
  obtain rfl := e3_.symm
  refine g_if_eq (tgt := 21) hx hb (by first | assumption | exact ⟨by omega, by omega⟩ | exact Hh _) dX12_value_10 (by decide) (fun c_10 => ?_) (fun c_10 => ?_)
  · skip
    refine lv_bipush (v := Int32.ofInt (-101)) hx hb dX12_value_21 (by decide) ?_
    have hpost : ((-101) : Int) = -101 ∧ (fup F 0 0) 0 = 0 := ⟨rfl, rfl⟩
    exact W.iret (v := Int32.ofInt ((-101))) hx hb hr (fun t ht hW => ⟨⟨_, ((fup F 0 0), ar), rfl, ⟨_, rfl, hpost⟩, by rw [ht]; exact hP, va_K.moved hW.alike hK, hD⟩, hS.F ht⟩) hS.2.2 dX12_value_23
  · omega
set_option maxHeartbeats 4000000 in
set_option maxRecDepth 100000 in
theorem c_rootOf {l : Launch} {dC : Nat → ClassId} {dI : Nat → Nat → Nat} {h0 : Nat} {ad : Nat → Nat} {cI cJ cB cZ : Nat} {F : Nat → Int} {ar : Nat → Int → Int} {sz : Nat} {ia ib : Int} (n0 : F 24 = 0) (p0 : F 57 = 0) (ia0 : -2147483648 ≤ ia) (ia1 : ia ≤ 2147483647) (ib0 : -2147483648 ≤ ib) (ib1 : ib ≤ 2147483647) : Met l yX12_rootOf (Cond.code yX12_rootOf cX12_rootOf 7 (some .int) :: w0r) (rRm 4 120) (rPc dC dI h0 ad cI cJ cB cZ F ar sz [Iz (ia), Iz (ib)]) (rQi dC dI h0 ad cI cJ cB cZ sz (fun z F' ar' => z = -101 ∧ F' 0 = 0)) 0 0 (rA h0 ad sz) := by
  refine Met.ofW (cc := cX12_rootOf) (maxL := 7) (ret := (some .int)) (by decide) rfl ?_
  intro p e s m args below meth c s₁ B hml hv
  obtain ⟨rfl, hsz, hP, hK, hD0⟩ := hv
  have hx := B.exec
  have hb := B.bytes
  have hr := B.returns
  have hts := atoms_spec (ws := Cond.code yX12_rootOf cX12_rootOf 7 (some .int) :: w0r) B.pre
  have hown : s.vm.findClass RX12 = some m.cls := findClass_of_methodNamed B.named
  have hlocks := B.notSynchronized
  have E : CallFix p m c cX12_rootOf 7 s _ (Cond.code yX12_rootOf cX12_rootOf 7 (some .int) :: w0r) RX12 := ⟨hx, hb, hml, hown, hts⟩
  subst hsz
  have hD := rA_self s.heap.size hD0
  have hA : ∀ q : Nat, s.heap.size ≤ q → rA h0 ad s.heap.size q := fun q h => Or.inr h
  have hS : va_S (rA h0 ad s.heap.size) s.heap s.heap [] := va_S.rf
  have hl := lv_entry ([.ref h0, Iz (ia), Iz (ib)]) (n := 7) (Nat.le_of_ble_eq_true rfl)
  rw [lg_entry_eq]
  generalize (lg_sl ([.ref h0, Iz (ia), Iz (ib)]) ++ List.replicate (7 - (lg_sl ([.ref h0, Iz (ia), Iz (ib)])).length) Slot.unset).toArray = ls at hl ⊢
  have hl : lv_has ls 7 [(0, .ref h0), (1, Iz (ia)), (2, Iz (ib))] := hl
  refine lv_aload_n hx hb dX12_rootOf_0 rfl (lv_at hl 0 rfl) ?_
  refine lv_iconst (v := Int32.ofInt (0)) hx hb dX12_rootOf_1 (by decide) ?_
  refine r_puti E hK hP hD hS 0 (by decide) mf_1 rfl rfl (by decide +kernel) (sp_0 h0 ad cI cJ cB cZ _ _) dX12_rootOf_2 (fun H locs hP hD hS => ?_)
  refine lv_aload_n hx hb dX12_rootOf_5 rfl (lv_at hl 0 rfl) ?_
  refine lv_iload_n hx hb dX12_rootOf_6 rfl (lv_at hl 1 rfl) ?_
  refine r_calli (As := [Iz (ia)]) (rest := []) E (c_isPolynomial (F := (fup F 0 0)) (ar := ar) (ia := ia) (by omega) (by omega) ((fup_ne _ _ (by decide)).trans p0)) (cwV 1 hts (rGood ml_617 mi_isPolynomial ms_isPolynomial mn_RX12 mc_isPolynomial) rfl rfl rfl (by decide +kernel) ⟨Nat.le_of_ble_eq_true rfl, Nat.le_of_ble_eq_true rfl⟩) hK hP hD hS hA rfl hl.1 (Nat.le_of_ble_eq_true rfl) dX12_rootOf_7 ⟨Nat.le_refl 0, Nat.le_refl 0⟩ (fun z7 F7 ar7 H locs q7 hP hD hS => ?_)
  obtain ⟨e1_, e2_, e3_⟩ := q7
  obtain rfl := e1_.symm
  obtain rfl := e2_.symm
  obtain rfl := e3_.symm
  refine g_if_ne (tgt := 16) hx hb (by first | assumption | exact ⟨by omega, by omega⟩ | exact Hh _) dX12_rootOf_10 (by decide) (fun c_10 => ?_) (fun c_10 => ?_)
  · omega
  · skip
    refine lv_bipush (v := Int32.ofInt (-101)) hx hb dX12_rootOf_13 (by decide) ?_
    have hpost : ((-101) : Int) = -101 ∧ (fup F 0 0) 0 = 0 := ⟨rfl, rfl⟩
    exact W.iret (v := Int32.ofInt ((-101))) hx hb hr (fun t ht hW => ⟨⟨_, ((fup F 0 0), ar), rfl, ⟨_, rfl, hpost⟩, by rw [ht]; exact hP, va_K.moved hW.alike hK, hD⟩, hS.F ht⟩) hS.2.2 dX12_rootOf_15
set_option maxHeartbeats 4000000 in
set_option maxRecDepth 100000 in
theorem c_coefficient {l : Launch} {dC : Nat → ClassId} {dI : Nat → Nat → Nat} {h0 : Nat} {ad : Nat → Nat} {cI cJ cB cZ : Nat} {F : Nat → Int} {ar : Nat → Int → Int} {sz : Nat} {ia ib lc : Int} (n0 : F 24 = 0) (p0 : F 57 = 0) (ia0 : -2147483648 ≤ ia) (ia1 : ia ≤ 2147483647) (ib0 : -2147483648 ≤ ib) (ib1 : ib ≤ 2147483647) : Met l yX12_coefficient (Cond.code yX12_coefficient cX12_coefficient 5 (some .int) :: w0r) (rRm 4 120) (rPc dC dI h0 ad cI cJ cB cZ F ar sz [Iz (ia), Iz (ib), Jz (lc)]) (rQi dC dI h0 ad cI cJ cB cZ sz (fun z F' ar' => z = -101 ∧ F' 0 = 0)) 0 0 (rA h0 ad sz) := by
  refine Met.ofW (cc := cX12_coefficient) (maxL := 5) (ret := (some .int)) (by decide) rfl ?_
  intro p e s m args below meth c s₁ B hml hv
  obtain ⟨rfl, hsz, hP, hK, hD0⟩ := hv
  have hx := B.exec
  have hb := B.bytes
  have hr := B.returns
  have hts := atoms_spec (ws := Cond.code yX12_coefficient cX12_coefficient 5 (some .int) :: w0r) B.pre
  have hown : s.vm.findClass RX12 = some m.cls := findClass_of_methodNamed B.named
  have hlocks := B.notSynchronized
  have E : CallFix p m c cX12_coefficient 5 s _ (Cond.code yX12_coefficient cX12_coefficient 5 (some .int) :: w0r) RX12 := ⟨hx, hb, hml, hown, hts⟩
  subst hsz
  have hD := rA_self s.heap.size hD0
  have hA : ∀ q : Nat, s.heap.size ≤ q → rA h0 ad s.heap.size q := fun q h => Or.inr h
  have hS : va_S (rA h0 ad s.heap.size) s.heap s.heap [] := va_S.rf
  have hl := lv_entry ([.ref h0, Iz (ia), Iz (ib), Jz (lc)]) (n := 5) (Nat.le_of_ble_eq_true rfl)
  rw [lg_entry_eq]
  generalize (lg_sl ([.ref h0, Iz (ia), Iz (ib), Jz (lc)]) ++ List.replicate (5 - (lg_sl ([.ref h0, Iz (ia), Iz (ib), Jz (lc)])).length) Slot.unset).toArray = ls at hl ⊢
  have hl : lv_has ls 5 [(0, .ref h0), (1, Iz (ia)), (2, Iz (ib)), (3, Jz (lc))] := hl
  refine lv_aload_n hx hb dX12_coefficient_0 rfl (lv_at hl 0 rfl) ?_
  refine lv_iconst (v := Int32.ofInt (0)) hx hb dX12_coefficient_1 (by decide) ?_
  refine r_puti E hK hP hD hS 0 (by decide) mf_1 rfl rfl (by decide +kernel) (sp_0 h0 ad cI cJ cB cZ _ _) dX12_coefficient_2 (fun H locs hP hD hS => ?_)
  refine lv_aload_n hx hb dX12_coefficient_5 rfl (lv_at hl 0 rfl) ?_
  refine lv_iload_n hx hb dX12_coefficient_6 rfl (lv_at hl 1 rfl) ?_
  refine r_calli (As := [Iz (ia)]) (rest := []) E (c_isPolynomial (F := (fup F 0 0)) (ar := ar) (ia := ia) (by omega) (by omega) ((fup_ne _ _ (by decide)).trans p0)) (cwV 1 hts (rGood ml_617 mi_isPolynomial ms_isPolynomial mn_RX12 mc_isPolynomial) rfl rfl rfl (by decide +kernel) ⟨Nat.le_of_ble_eq_true rfl, Nat.le_of_ble_eq_true rfl⟩) hK hP hD hS hA rfl hl.1 (Nat.le_of_ble_eq_true rfl) dX12_coefficient_7 ⟨Nat.le_refl 0, Nat.le_refl 0⟩ (fun z7 F7 ar7 H locs q7 hP hD hS => ?_)
  obtain ⟨e1_, e2_, e3_⟩ := q7
  obtain rfl := e1_.symm
  obtain rfl := e2_.symm
  obtain rfl := e3_.symm
  refine g_if_ne (tgt := 16) hx hb (by first | assumption | exact ⟨by omega, by omega⟩ | exact Hh _) dX12_coefficient_10 (by decide) (fun c_10 => ?_) (fun c_10 => ?_)
  · omega
  · skip
    refine lv_bipush (v := Int32.ofInt (-101)) hx hb dX12_coefficient_13 (by decide) ?_
    have hpost : ((-101) : Int) = -101 ∧ (fup F 0 0) 0 = 0 := ⟨rfl, rfl⟩
    exact W.iret (v := Int32.ofInt ((-101))) hx hb hr (fun t ht hW => ⟨⟨_, ((fup F 0 0), ar), rfl, ⟨_, rfl, hpost⟩, by rw [ht]; exact hP, va_K.moved hW.alike hK, hD⟩, hS.F ht⟩) hS.2.2 dX12_coefficient_15
set_option maxHeartbeats 4000000 in
set_option maxRecDepth 100000 in
theorem c_roots {l : Launch} {dC : Nat → ClassId} {dI : Nat → Nat → Nat} {h0 : Nat} {ad : Nat → Nat} {cI cJ cB cZ : Nat} {F : Nat → Int} {ar : Nat → Int → Int} {sz : Nat} {ia : Int} (n0 : F 24 = 0) (p0 : F 57 = 0) (ia0 : -2147483648 ≤ ia) (ia1 : ia ≤ 2147483647) : Met l yX12_roots (Cond.code yX12_roots cX12_roots 3 (some .int) :: w0r) (rRm 4 120) (rPc dC dI h0 ad cI cJ cB cZ F ar sz [Iz (ia)]) (rQi dC dI h0 ad cI cJ cB cZ sz (fun z F' ar' => z = -101 ∧ F' 0 = 0)) 0 0 (rA h0 ad sz) := by
  refine Met.ofW (cc := cX12_roots) (maxL := 3) (ret := (some .int)) (by decide) rfl ?_
  intro p e s m args below meth c s₁ B hml hv
  obtain ⟨rfl, hsz, hP, hK, hD0⟩ := hv
  have hx := B.exec
  have hb := B.bytes
  have hr := B.returns
  have hts := atoms_spec (ws := Cond.code yX12_roots cX12_roots 3 (some .int) :: w0r) B.pre
  have hown : s.vm.findClass RX12 = some m.cls := findClass_of_methodNamed B.named
  have hlocks := B.notSynchronized
  have E : CallFix p m c cX12_roots 3 s _ (Cond.code yX12_roots cX12_roots 3 (some .int) :: w0r) RX12 := ⟨hx, hb, hml, hown, hts⟩
  subst hsz
  have hD := rA_self s.heap.size hD0
  have hA : ∀ q : Nat, s.heap.size ≤ q → rA h0 ad s.heap.size q := fun q h => Or.inr h
  have hS : va_S (rA h0 ad s.heap.size) s.heap s.heap [] := va_S.rf
  have hl := lv_entry ([.ref h0, Iz (ia)]) (n := 3) (Nat.le_of_ble_eq_true rfl)
  rw [lg_entry_eq]
  generalize (lg_sl ([.ref h0, Iz (ia)]) ++ List.replicate (3 - (lg_sl ([.ref h0, Iz (ia)])).length) Slot.unset).toArray = ls at hl ⊢
  have hl : lv_has ls 3 [(0, .ref h0), (1, Iz (ia))] := hl
  refine lv_aload_n hx hb dX12_roots_0 rfl (lv_at hl 0 rfl) ?_
  refine lv_iconst (v := Int32.ofInt (0)) hx hb dX12_roots_1 (by decide) ?_
  refine r_puti E hK hP hD hS 0 (by decide) mf_1 rfl rfl (by decide +kernel) (sp_0 h0 ad cI cJ cB cZ _ _) dX12_roots_2 (fun H locs hP hD hS => ?_)
  refine lv_aload_n hx hb dX12_roots_5 rfl (lv_at hl 0 rfl) ?_
  refine lv_iload_n hx hb dX12_roots_6 rfl (lv_at hl 1 rfl) ?_
  refine r_calli (As := [Iz (ia)]) (rest := []) E (c_isPolynomial (F := (fup F 0 0)) (ar := ar) (ia := ia) (by omega) (by omega) ((fup_ne _ _ (by decide)).trans p0)) (cwV 1 hts (rGood ml_617 mi_isPolynomial ms_isPolynomial mn_RX12 mc_isPolynomial) rfl rfl rfl (by decide +kernel) ⟨Nat.le_of_ble_eq_true rfl, Nat.le_of_ble_eq_true rfl⟩) hK hP hD hS hA rfl hl.1 (Nat.le_of_ble_eq_true rfl) dX12_roots_7 ⟨Nat.le_refl 0, Nat.le_refl 0⟩ (fun z7 F7 ar7 H locs q7 hP hD hS => ?_)
  obtain ⟨e1_, e2_, e3_⟩ := q7
  obtain rfl := e1_.symm
  obtain rfl := e2_.symm
  obtain rfl := e3_.symm
  refine g_if_ne (tgt := 16) hx hb (by first | assumption | exact ⟨by omega, by omega⟩ | exact Hh _) dX12_roots_10 (by decide) (fun c_10 => ?_) (fun c_10 => ?_)
  · omega
  · skip
    refine lv_bipush (v := Int32.ofInt (-101)) hx hb dX12_roots_13 (by decide) ?_
    have hpost : ((-101) : Int) = -101 ∧ (fup F 0 0) 0 = 0 := ⟨rfl, rfl⟩
    exact W.iret (v := Int32.ofInt ((-101))) hx hb hr (fun t ht hW => ⟨⟨_, ((fup F 0 0), ar), rfl, ⟨_, rfl, hpost⟩, by rw [ht]; exact hP, va_K.moved hW.alike hK, hD⟩, hS.F ht⟩) hS.2.2 dX12_roots_15
set_option maxHeartbeats 4000000 in
set_option maxRecDepth 100000 in
theorem c_between {l : Launch} {dC : Nat → ClassId} {dI : Nat → Nat → Nat} {h0 : Nat} {ad : Nat → Nat} {cI cJ cB cZ : Nat} {F : Nat → Int} {ar : Nat → Int → Int} {sz : Nat} {ia ib ic : Int} (n0 : F 24 = 0) (p0 : F 57 = 0) (ia0 : -2147483648 ≤ ia) (ia1 : ia ≤ 2147483647) (ib0 : -2147483648 ≤ ib) (ib1 : ib ≤ 2147483647) (ic0 : -2147483648 ≤ ic) (ic1 : ic ≤ 2147483647) : Met l yX12_between (Cond.code yX12_between cX12_between 6 (some .int) :: w0r) (rRm 4 120) (rPc dC dI h0 ad cI cJ cB cZ F ar sz [Iz (ia), Iz (ib), Iz (ic)]) (rQi dC dI h0 ad cI cJ cB cZ sz (fun z F' ar' => z = -101 ∧ F' 0 = 0)) 0 0 (rA h0 ad sz) := by
  refine Met.ofW (cc := cX12_between) (maxL := 6) (ret := (some .int)) (by decide) rfl ?_
  intro p e s m args below meth c s₁ B hml hv
  obtain ⟨rfl, hsz, hP, hK, hD0⟩ := hv
  have hx := B.exec
  have hb := B.bytes
  have hr := B.returns
  have hts := atoms_spec (ws := Cond.code yX12_between cX12_between 6 (some .int) :: w0r) B.pre
  have hown : s.vm.findClass RX12 = some m.cls := findClass_of_methodNamed B.named
  have hlocks := B.notSynchronized
  have E : CallFix p m c cX12_between 6 s _ (Cond.code yX12_between cX12_between 6 (some .int) :: w0r) RX12 := ⟨hx, hb, hml, hown, hts⟩
  subst hsz
  have hD := rA_self s.heap.size hD0
  have hA : ∀ q : Nat, s.heap.size ≤ q → rA h0 ad s.heap.size q := fun q h => Or.inr h
  have hS : va_S (rA h0 ad s.heap.size) s.heap s.heap [] := va_S.rf
  have hl := lv_entry ([.ref h0, Iz (ia), Iz (ib), Iz (ic)]) (n := 6) (Nat.le_of_ble_eq_true rfl)
  rw [lg_entry_eq]
  generalize (lg_sl ([.ref h0, Iz (ia), Iz (ib), Iz (ic)]) ++ List.replicate (6 - (lg_sl ([.ref h0, Iz (ia), Iz (ib), Iz (ic)])).length) Slot.unset).toArray = ls at hl ⊢
  have hl : lv_has ls 6 [(0, .ref h0), (1, Iz (ia)), (2, Iz (ib)), (3, Iz (ic))] := hl
  refine lv_aload_n hx hb dX12_between_0 rfl (lv_at hl 0 rfl) ?_
  refine lv_iconst (v := Int32.ofInt (0)) hx hb dX12_between_1 (by decide) ?_
  refine r_puti E hK hP hD hS 0 (by decide) mf_1 rfl rfl (by decide +kernel) (sp_0 h0 ad cI cJ cB cZ _ _) dX12_between_2 (fun H locs hP hD hS => ?_)
  refine lv_aload_n hx hb dX12_between_5 rfl (lv_at hl 0 rfl) ?_
  refine lv_iload_n hx hb dX12_between_6 rfl (lv_at hl 1 rfl) ?_
  refine r_calli (As := [Iz (ia)]) (rest := []) E (c_isPolynomial (F := (fup F 0 0)) (ar := ar) (ia := ia) (by omega) (by omega) ((fup_ne _ _ (by decide)).trans p0)) (cwV 1 hts (rGood ml_617 mi_isPolynomial ms_isPolynomial mn_RX12 mc_isPolynomial) rfl rfl rfl (by decide +kernel) ⟨Nat.le_of_ble_eq_true rfl, Nat.le_of_ble_eq_true rfl⟩) hK hP hD hS hA rfl hl.1 (Nat.le_of_ble_eq_true rfl) dX12_between_7 ⟨Nat.le_refl 0, Nat.le_refl 0⟩ (fun z7 F7 ar7 H locs q7 hP hD hS => ?_)
  obtain ⟨e1_, e2_, e3_⟩ := q7
  obtain rfl := e1_.symm
  obtain rfl := e2_.symm
  obtain rfl := e3_.symm
  refine g_if_eq (tgt := 29) hx hb (by first | assumption | exact ⟨by omega, by omega⟩ | exact Hh _) dX12_between_10 (by decide) (fun c_10 => ?_) (fun c_10 => ?_)
  · skip
    refine lv_bipush (v := Int32.ofInt (-101)) hx hb dX12_between_29 (by decide) ?_
    have hpost : ((-101) : Int) = -101 ∧ (fup F 0 0) 0 = 0 := ⟨rfl, rfl⟩
    exact W.iret (v := Int32.ofInt ((-101))) hx hb hr (fun t ht hW => ⟨⟨_, ((fup F 0 0), ar), rfl, ⟨_, rfl, hpost⟩, by rw [ht]; exact hP, va_K.moved hW.alike hK, hD⟩, hS.F ht⟩) hS.2.2 dX12_between_31
  · omega
set_option maxHeartbeats 4000000 in
set_option maxRecDepth 100000 in
theorem c_parts {l : Launch} {dC : Nat → ClassId} {dI : Nat → Nat → Nat} {h0 : Nat} {ad : Nat → Nat} {cI cJ cB cZ : Nat} {F : Nat → Int} {ar : Nat → Int → Int} {sz : Nat} {ia : Int} (n0 : F 24 = 0) (p0 : F 57 = 0) (ia0 : -2147483648 ≤ ia) (ia1 : ia ≤ 2147483647) : Met l yX12_parts (Cond.code yX12_parts cX12_parts 8 (some .int) :: w0r) (rRm 4 120) (rPc dC dI h0 ad cI cJ cB cZ F ar sz [Iz (ia)]) (rQi dC dI h0 ad cI cJ cB cZ sz (fun z F' ar' => z = -101 ∧ F' 0 = 0)) 0 0 (rA h0 ad sz) := by
  refine Met.ofW (cc := cX12_parts) (maxL := 8) (ret := (some .int)) (by decide) rfl ?_
  intro p e s m args below meth c s₁ B hml hv
  obtain ⟨rfl, hsz, hP, hK, hD0⟩ := hv
  have hx := B.exec
  have hb := B.bytes
  have hr := B.returns
  have hts := atoms_spec (ws := Cond.code yX12_parts cX12_parts 8 (some .int) :: w0r) B.pre
  have hown : s.vm.findClass RX12 = some m.cls := findClass_of_methodNamed B.named
  have hlocks := B.notSynchronized
  have E : CallFix p m c cX12_parts 8 s _ (Cond.code yX12_parts cX12_parts 8 (some .int) :: w0r) RX12 := ⟨hx, hb, hml, hown, hts⟩
  subst hsz
  have hD := rA_self s.heap.size hD0
  have hA : ∀ q : Nat, s.heap.size ≤ q → rA h0 ad s.heap.size q := fun q h => Or.inr h
  have hS : va_S (rA h0 ad s.heap.size) s.heap s.heap [] := va_S.rf
  have hl := lv_entry ([.ref h0, Iz (ia)]) (n := 8) (Nat.le_of_ble_eq_true rfl)
  rw [lg_entry_eq]
  generalize (lg_sl ([.ref h0, Iz (ia)]) ++ List.replicate (8 - (lg_sl ([.ref h0, Iz (ia)])).length) Slot.unset).toArray = ls at hl ⊢
  have hl : lv_has ls 8 [(0, .ref h0), (1, Iz (ia))] := hl
  refine lv_aload_n hx hb dX12_parts_0 rfl (lv_at hl 0 rfl) ?_
  refine lv_iconst (v := Int32.ofInt (0)) hx hb dX12_parts_1 (by decide) ?_
  refine r_puti E hK hP hD hS 0 (by decide) mf_1 rfl rfl (by decide +kernel) (sp_0 h0 ad cI cJ cB cZ _ _) dX12_parts_2 (fun H locs hP hD hS => ?_)
  refine lv_aload_n hx hb dX12_parts_5 rfl (lv_at hl 0 rfl) ?_
  refine lv_iload_n hx hb dX12_parts_6 rfl (lv_at hl 1 rfl) ?_
  refine r_calli (As := [Iz (ia)]) (rest := []) E (c_isPolynomial (F := (fup F 0 0)) (ar := ar) (ia := ia) (by omega) (by omega) ((fup_ne _ _ (by decide)).trans p0)) (cwV 1 hts (rGood ml_617 mi_isPolynomial ms_isPolynomial mn_RX12 mc_isPolynomial) rfl rfl rfl (by decide +kernel) ⟨Nat.le_of_ble_eq_true rfl, Nat.le_of_ble_eq_true rfl⟩) hK hP hD hS hA rfl hl.1 (Nat.le_of_ble_eq_true rfl) dX12_parts_7 ⟨Nat.le_refl 0, Nat.le_refl 0⟩ (fun z7 F7 ar7 H locs q7 hP hD hS => ?_)
  obtain ⟨e1_, e2_, e3_⟩ := q7
  obtain rfl := e1_.symm
  obtain rfl := e2_.symm
  obtain rfl := e3_.symm
  refine g_if_ne (tgt := 16) hx hb (by first | assumption | exact ⟨by omega, by omega⟩ | exact Hh _) dX12_parts_10 (by decide) (fun c_10 => ?_) (fun c_10 => ?_)
  · omega
  · skip
    refine lv_bipush (v := Int32.ofInt (-101)) hx hb dX12_parts_13 (by decide) ?_
    have hpost : ((-101) : Int) = -101 ∧ (fup F 0 0) 0 = 0 := ⟨rfl, rfl⟩
    exact W.iret (v := Int32.ofInt ((-101))) hx hb hr (fun t ht hW => ⟨⟨_, ((fup F 0 0), ar), rfl, ⟨_, rfl, hpost⟩, by rw [ht]; exact hP, va_K.moved hW.alike hK, hD⟩, hS.F ht⟩) hS.2.2 dX12_parts_15
set_option maxHeartbeats 4000000 in
set_option maxRecDepth 100000 in
theorem c_drop {l : Launch} {dC : Nat → ClassId} {dI : Nat → Nat → Nat} {h0 : Nat} {ad : Nat → Nat} {cI cJ cB cZ : Nat} {F : Nat → Int} {ar : Nat → Int → Int} {sz : Nat}  (n0 : F 24 = 0) (p0 : F 57 = 0) : Met l yX12_drop (Cond.code yX12_drop cX12_drop 1 (some .int) :: w0r) (rRm 4 120) (rPc dC dI h0 ad cI cJ cB cZ F ar sz []) (rQi dC dI h0 ad cI cJ cB cZ sz (fun z F' ar' => z = -106 ∧ F' 0 = 0)) 0 0 (rA h0 ad sz) := by
  refine Met.ofW (cc := cX12_drop) (maxL := 1) (ret := (some .int)) (by decide) rfl ?_
  intro p e s m args below meth c s₁ B hml hv
  obtain ⟨rfl, hsz, hP, hK, hD0⟩ := hv
  have hx := B.exec
  have hb := B.bytes
  have hr := B.returns
  have hts := atoms_spec (ws := Cond.code yX12_drop cX12_drop 1 (some .int) :: w0r) B.pre
  have hown : s.vm.findClass RX12 = some m.cls := findClass_of_methodNamed B.named
  have hlocks := B.notSynchronized
  have E : CallFix p m c cX12_drop 1 s _ (Cond.code yX12_drop cX12_drop 1 (some .int) :: w0r) RX12 := ⟨hx, hb, hml, hown, hts⟩
  subst hsz
  have hD := rA_self s.heap.size hD0
  have hA : ∀ q : Nat, s.heap.size ≤ q → rA h0 ad s.heap.size q := fun q h => Or.inr h
  have hS : va_S (rA h0 ad s.heap.size) s.heap s.heap [] := va_S.rf
  have hl := lv_entry ([.ref h0]) (n := 1) (Nat.le_of_ble_eq_true rfl)
  rw [lg_entry_eq]
  generalize (lg_sl ([.ref h0]) ++ List.replicate (1 - (lg_sl ([.ref h0])).length) Slot.unset).toArray = ls at hl ⊢
  have hl : lv_has ls 1 [(0, .ref h0)] := hl
  refine lv_aload_n hx hb dX12_drop_0 rfl (lv_at hl 0 rfl) ?_
  refine lv_iconst (v := Int32.ofInt (0)) hx hb dX12_drop_1 (by decide) ?_
  refine r_puti E hK hP hD hS 0 (by decide) mf_1 rfl rfl (by decide +kernel) (sp_0 h0 ad cI cJ cB cZ _ _) dX12_drop_2 (fun H locs hP hD hS => ?_)
  refine lv_aload_n hx hb dX12_drop_5 rfl (lv_at hl 0 rfl) ?_
  refine r_geti E hK hP (k := 24) (v := Iz (F 24)) (by decide) mf_568 rfl rfl dX12_drop_6 ?_
  rw [show (F 24) = 0 from n0]
  refine g_if_ne (tgt := 15) hx hb (by first | assumption | exact ⟨by omega, by omega⟩ | exact Hh _) dX12_drop_9 (by decide) (fun c_9 => ?_) (fun c_9 => ?_)
  · omega
  · skip
    refine lv_bipush (v := Int32.ofInt (-106)) hx hb dX12_drop_12 (by decide) ?_
    have hpost : ((-106) : Int) = -106 ∧ (fup F 0 0) 0 = 0 := ⟨rfl, rfl⟩
    exact W.iret (v := Int32.ofInt ((-106))) hx hb hr (fun t ht hW => ⟨⟨_, ((fup F 0 0), ar), rfl, ⟨_, rfl, hpost⟩, by rw [ht]; exact hP, va_K.moved hW.alike hK, hD⟩, hS.F ht⟩) hS.2.2 dX12_drop_14
set_option maxHeartbeats 4000000 in
set_option maxRecDepth 100000 in
theorem c_thrown {l : Launch} {dC : Nat → ClassId} {dI : Nat → Nat → Nat} {h0 : Nat} {ad : Nat → Nat} {cI cJ cB cZ : Nat} {F : Nat → Int} {ar : Nat → Int → Int} {sz : Nat}   : Met l yX12_thrown (Cond.code yX12_thrown cX12_thrown 1 (some .int) :: w0r) (rRm 0 0) (rPc dC dI h0 ad cI cJ cB cZ F ar sz []) (rQi dC dI h0 ad cI cJ cB cZ sz (fun z F' ar' => F' = F ∧ ar' = ar ∧ z = F 0)) 0 0 (rA h0 ad sz) := by
  refine Met.ofW (cc := cX12_thrown) (maxL := 1) (ret := (some .int)) (by decide) rfl ?_
  intro p e s m args below meth c s₁ B hml hv
  obtain ⟨rfl, hsz, hP, hK, hD0⟩ := hv
  have hx := B.exec
  have hb := B.bytes
  have hr := B.returns
  have hts := atoms_spec (ws := Cond.code yX12_thrown cX12_thrown 1 (some .int) :: w0r) B.pre
  have hown : s.vm.findClass RX12 = some m.cls := findClass_of_methodNamed B.named
  have hlocks := B.notSynchronized
  have E : CallFix p m c cX12_thrown 1 s _ (Cond.code yX12_thrown cX12_thrown 1 (some .int) :: w0r) RX12 := ⟨hx, hb, hml, hown, hts⟩
  subst hsz
  have hD := rA_self s.heap.size hD0
  have hA : ∀ q : Nat, s.heap.size ≤ q → rA h0 ad s.heap.size q := fun q h => Or.inr h
  have hS : va_S (rA h0 ad s.heap.size) s.heap s.heap [] := va_S.rf
  have hl := lv_entry ([.ref h0]) (n := 1) (Nat.le_of_ble_eq_true rfl)
  rw [lg_entry_eq]
  generalize (lg_sl ([.ref h0]) ++ List.replicate (1 - (lg_sl ([.ref h0])).length) Slot.unset).toArray = ls at hl ⊢
  have hl : lv_has ls 1 [(0, .ref h0)] := hl
  refine lv_aload_n hx hb dX12_thrown_0 rfl (lv_at hl 0 rfl) ?_
  refine r_geti E hK hP (k := 0) (v := Iz (F 0)) (by decide) mf_1 rfl rfl dX12_thrown_1 ?_
  have hpost : F = F ∧ ar = ar ∧ (F 0 : Int) = F 0 := ⟨rfl, rfl, rfl⟩
  exact W.iret (v := Int32.ofInt (F 0)) hx hb hr (fun t ht hW => ⟨⟨_, (F, ar), rfl, ⟨_, rfl, hpost⟩, by rw [ht]; exact hP, va_K.moved hW.alike hK, hD⟩, hS.F ht⟩) hS.2.2 dX12_thrown_4
set_option maxHeartbeats 4000000 in
set_option maxRecDepth 100000 in
theorem c_part {l : Launch} {dC : Nat → ClassId} {dI : Nat → Nat → Nat} {h0 : Nat} {ad : Nat → Nat} {cI cJ cB cZ : Nat} {F : Nat → Int} {ar : Nat → Int → Int} {sz : Nat} {ia ib : Int} (n0 : F 24 = 0) (p0 : F 57 = 0) (t0 : F 59 = 0) (ia0 : -2147483648 ≤ ia) (ia1 : ia ≤ 2147483647) (ib0 : -2147483648 ≤ ib) (ib1 : ib ≤ 2147483647) : Met l yX12_part (Cond.code yX12_part cX12_part 3 (some .int) :: w0r) (rRm 4 120) (rPc dC dI h0 ad cI cJ cB cZ F ar sz [Iz (ia), Iz (ib)]) (rQi dC dI h0 ad cI cJ cB cZ sz (fun z F' ar' => z = -102 ∧ F' 0 = 0)) 0 0 (rA h0 ad sz) := by
  refine Met.ofW (cc := cX12_part) (maxL := 3) (ret := (some .int)) (by decide) rfl ?_
  intro p e s m args below meth c s₁ B hml hv
  obtain ⟨rfl, hsz, hP, hK, hD0⟩ := hv
  have hx := B.exec
  have hb := B.bytes
  have hr := B.returns
  have hts := atoms_spec (ws := Cond.code yX12_part cX12_part 3 (some .int) :: w0r) B.pre
  have hown : s.vm.findClass RX12 = some m.cls := findClass_of_methodNamed B.named
  have hlocks := B.notSynchronized
  have E : CallFix p m c cX12_part 3 s _ (Cond.code yX12_part cX12_part 3 (some .int) :: w0r) RX12 := ⟨hx, hb, hml, hown, hts⟩
  subst hsz
  have hD := rA_self s.heap.size hD0
  have hA : ∀ q : Nat, s.heap.size ≤ q → rA h0 ad s.heap.size q := fun q h => Or.inr h
  have hS : va_S (rA h0 ad s.heap.size) s.heap s.heap [] := va_S.rf
  have hl := lv_entry ([.ref h0, Iz (ia), Iz (ib)]) (n := 3) (Nat.le_of_ble_eq_true rfl)
  rw [lg_entry_eq]
  generalize (lg_sl ([.ref h0, Iz (ia), Iz (ib)]) ++ List.replicate (3 - (lg_sl ([.ref h0, Iz (ia), Iz (ib)])).length) Slot.unset).toArray = ls at hl ⊢
  have hl : lv_has ls 3 [(0, .ref h0), (1, Iz (ia)), (2, Iz (ib))] := hl
  refine lv_aload_n hx hb dX12_part_0 rfl (lv_at hl 0 rfl) ?_
  refine lv_iconst (v := Int32.ofInt (0)) hx hb dX12_part_1 (by decide) ?_
  refine r_puti E hK hP hD hS 0 (by decide) mf_1 rfl rfl (by decide +kernel) (sp_0 h0 ad cI cJ cB cZ _ _) dX12_part_2 (fun H locs hP hD hS => ?_)
  refine lv_iload_n hx hb dX12_part_5 rfl (lv_at hl 1 rfl) ?_
  refine g_i2l hx hb (by first | assumption | exact ⟨by omega, by omega⟩ | exact Hh _) dX12_part_6 ?_
  refine lv_lconst (v := Int64.ofInt 0) hx hb dX12_part_7 rfl ?_
  refine lv_aload_n hx hb dX12_part_8 rfl (lv_at hl 0 rfl) ?_
  refine r_geti E hK hP (k := 59) (v := Iz (F 59)) (by decide) mf_644 rfl rfl dX12_part_9 ?_
  rw [t0]
  refine lv_iconst (v := Int32.ofInt (1)) hx hb dX12_part_12 (by decide) ?_
  refine g_isub hx hb dX12_part_13 ?_
  refine g_i2l hx hb (by first | assumption | exact ⟨by omega, by omega⟩ | exact Hh _) dX12_part_14 ?_
  refine r_callsi (As := [Jz (ia), Jz (0), Jz (0 - 1)]) (rest := []) E (c_in (by omega) (by omega) (by omega) (by omega) (by omega) (by omega)) (cwS 3 hts (rGoodS ml_571 mt_in mn_RX12 mc_in) rfl rfl rfl (by decide +kernel) ⟨Nat.le_of_ble_eq_true rfl, Nat.le_of_ble_eq_true rfl⟩) (B := va_P (dC, dI) rcl (mW h0 ad cI cJ cB cZ (fup F 0 0) ar)) (r_kept hP) hS rfl hl.1 (Nat.le_of_ble_eq_true rfl) dX12_part_15 ⟨Nat.le_refl 0, Nat.le_refl 0⟩ (fun z15 H locs q15 hP hS => ?_)
  rw [if_neg (fun q => by omega)] at q15
  subst q15
  refine g_if_eq (tgt := 31) hx hb (by first | assumption | exact ⟨by omega, by omega⟩ | exact Hh _) dX12_part_18 (by decide) (fun c_18 => ?_) (fun c_18 => ?_)
  · skip
    refine lv_bipush (v := Int32.ofInt (-102)) hx hb dX12_part_31 (by decide) ?_
    have hpost : ((-102) : Int) = -102 ∧ (fup F 0 0) 0 = 0 := ⟨rfl, rfl⟩
    exact W.iret (v := Int32.ofInt ((-102))) hx hb hr (fun t ht hW => ⟨⟨_, ((fup F 0 0), ar), rfl, ⟨_, rfl, hpost⟩, by rw [ht]; exact hP, va_K.moved hW.alike hK, hD⟩, hS.F ht⟩) hS.2.2 dX12_part_33
  · omega
set_option maxHeartbeats 4000000 in
set_option maxRecDepth 100000 in
theorem c_writePart {l : Launch} {dC : Nat → ClassId} {dI : Nat → Nat → Nat} {h0 : Nat} {ad : Nat → Nat} {cI cJ cB cZ : Nat} {F : Nat → Int} {ar : Nat → Int → Int} {sz : Nat} {ia : Int} (n0 : F 24 = 0) (p0 : F 57 = 0) (t0 : F 59 = 0) (ia0 : -2147483648 ≤ ia) (ia1 : ia ≤ 2147483647) : Met l yX12_writePart (Cond.code yX12_writePart cX12_writePart 2 (some .int) :: w0r) (rRm 4 120) (rPc dC dI h0 ad cI cJ cB cZ F ar sz [Iz (ia)]) (rQi dC dI h0 ad cI cJ cB cZ sz (fun z F' ar' => z = -102 ∧ F' 0 = 0)) 0 0 (rA h0 ad sz) := by
  refine Met.ofW (cc := cX12_writePart) (maxL := 2) (ret := (some .int)) (by decide) rfl ?_
  intro p e s m args below meth c s₁ B hml hv
  obtain ⟨rfl, hsz, hP, hK, hD0⟩ := hv
  have hx := B.exec
  have hb := B.bytes
  have hr := B.returns
  have hts := atoms_spec (ws := Cond.code yX12_writePart cX12_writePart 2 (some .int) :: w0r) B.pre
  have hown : s.vm.findClass RX12 = some m.cls := findClass_of_methodNamed B.named
  have hlocks := B.notSynchronized
  have E : CallFix p m c cX12_writePart 2 s _ (Cond.code yX12_writePart cX12_writePart 2 (some .int) :: w0r) RX12 := ⟨hx, hb, hml, hown, hts⟩
  subst hsz
  have hD := rA_self s.heap.size hD0
  have hA : ∀ q : Nat, s.heap.size ≤ q → rA h0 ad s.heap.size q := fun q h => Or.inr h
  have hS : va_S (rA h0 ad s.heap.size) s.heap s.heap [] := va_S.rf
  have hl := lv_entry ([.ref h0, Iz (ia)]) (n := 2) (Nat.le_of_ble_eq_true rfl)
  rw [lg_entry_eq]
  generalize (lg_sl ([.ref h0, Iz (ia)]) ++ List.replicate (2 - (lg_sl ([.ref h0, Iz (ia)])).length) Slot.unset).toArray = ls at hl ⊢
  have hl : lv_has ls 2 [(0, .ref h0), (1, Iz (ia))] := hl
  refine lv_aload_n hx hb dX12_writePart_0 rfl (lv_at hl 0 rfl) ?_
  refine lv_iconst (v := Int32.ofInt (0)) hx hb dX12_writePart_1 (by decide) ?_
  refine r_puti E hK hP hD hS 0 (by decide) mf_1 rfl rfl (by decide +kernel) (sp_0 h0 ad cI cJ cB cZ _ _) dX12_writePart_2 (fun H locs hP hD hS => ?_)
  refine lv_iload_n hx hb dX12_writePart_5 rfl (lv_at hl 1 rfl) ?_
  refine g_i2l hx hb (by first | assumption | exact ⟨by omega, by omega⟩ | exact Hh _) dX12_writePart_6 ?_
  refine lv_lconst (v := Int64.ofInt 0) hx hb dX12_writePart_7 rfl ?_
  refine lv_aload_n hx hb dX12_writePart_8 rfl (lv_at hl 0 rfl) ?_
  refine r_geti E hK hP (k := 59) (v := Iz (F 59)) (by decide) mf_644 rfl rfl dX12_writePart_9 ?_
  rw [t0]
  refine lv_iconst (v := Int32.ofInt (1)) hx hb dX12_writePart_12 (by decide) ?_
  refine g_isub hx hb dX12_writePart_13 ?_
  refine g_i2l hx hb (by first | assumption | exact ⟨by omega, by omega⟩ | exact Hh _) dX12_writePart_14 ?_
  refine r_callsi (As := [Jz (ia), Jz (0), Jz (0 - 1)]) (rest := []) E (c_in (by omega) (by omega) (by omega) (by omega) (by omega) (by omega)) (cwS 3 hts (rGoodS ml_571 mt_in mn_RX12 mc_in) rfl rfl rfl (by decide +kernel) ⟨Nat.le_of_ble_eq_true rfl, Nat.le_of_ble_eq_true rfl⟩) (B := va_P (dC, dI) rcl (mW h0 ad cI cJ cB cZ (fup F 0 0) ar)) (r_kept hP) hS rfl hl.1 (Nat.le_of_ble_eq_true rfl) dX12_writePart_15 ⟨Nat.le_refl 0, Nat.le_refl 0⟩ (fun z15 H locs q15 hP hS => ?_)
  rw [if_neg (fun q => by omega)] at q15
  subst q15
  refine g_if_eq (tgt := 33) hx hb (by first | assumption | exact ⟨by omega, by omega⟩ | exact Hh _) dX12_writePart_18 (by decide) (fun c_18 => ?_) (fun c_18 => ?_)
  · skip
    refine lv_bipush (v := Int32.ofInt (-102)) hx hb dX12_writePart_33 (by decide) ?_
    have hpost : ((-102) : Int) = -102 ∧ (fup F 0 0) 0 = 0 := ⟨rfl, rfl⟩
    exact W.iret (v := Int32.ofInt ((-102))) hx hb hr (fun t ht hW => ⟨⟨_, ((fup F 0 0), ar), rfl, ⟨_, rfl, hpost⟩, by rw [ht]; exact hP, va_K.moved hW.alike hK, hD⟩, hS.F ht⟩) hS.2.2 dX12_writePart_35
  · omega
set_option maxHeartbeats 4000000 in
set_option maxRecDepth 100000 in
theorem c_at {l : Launch} {dC : Nat → ClassId} {dI : Nat → Nat → Nat} {h0 : Nat} {ad : Nat → Nat} {cI cJ cB cZ : Nat} {F : Nat → Int} {ar : Nat → Int → Int} {sz : Nat} {ia : Int} (n0 : F 24 = 0) (p0 : F 57 = 0) (t0 : F 61 = 0) (ia0 : -2147483648 ≤ ia) (ia1 : ia ≤ 2147483647) : Met l yX12_at (Cond.code yX12_at cX12_at 2 (some .int) :: w0r) (rRm 4 120) (rPc dC dI h0 ad cI cJ cB cZ F ar sz [Iz (ia)]) (rQi dC dI h0 ad cI cJ cB cZ sz (fun z F' ar' => z = -1 ∧ F' 0 = 0)) 0 0 (rA h0 ad sz) := by
  refine Met.ofW (cc := cX12_at) (maxL := 2) (ret := (some .int)) (by decide) rfl ?_
  intro p e s m args below meth c s₁ B hml hv
  obtain ⟨rfl, hsz, hP, hK, hD0⟩ := hv
  have hx := B.exec
  have hb := B.bytes
  have hr := B.returns
  have hts := atoms_spec (ws := Cond.code yX12_at cX12_at 2 (some .int) :: w0r) B.pre
  have hown : s.vm.findClass RX12 = some m.cls := findClass_of_methodNamed B.named
  have hlocks := B.notSynchronized
  have E : CallFix p m c cX12_at 2 s _ (Cond.code yX12_at cX12_at 2 (some .int) :: w0r) RX12 := ⟨hx, hb, hml, hown, hts⟩
  subst hsz
  have hD := rA_self s.heap.size hD0
  have hA : ∀ q : Nat, s.heap.size ≤ q → rA h0 ad s.heap.size q := fun q h => Or.inr h
  have hS : va_S (rA h0 ad s.heap.size) s.heap s.heap [] := va_S.rf
  have hl := lv_entry ([.ref h0, Iz (ia)]) (n := 2) (Nat.le_of_ble_eq_true rfl)
  rw [lg_entry_eq]
  generalize (lg_sl ([.ref h0, Iz (ia)]) ++ List.replicate (2 - (lg_sl ([.ref h0, Iz (ia)])).length) Slot.unset).toArray = ls at hl ⊢
  have hl : lv_has ls 2 [(0, .ref h0), (1, Iz (ia))] := hl
  refine lv_aload_n hx hb dX12_at_0 rfl (lv_at hl 0 rfl) ?_
  refine lv_iconst (v := Int32.ofInt (0)) hx hb dX12_at_1 (by decide) ?_
  refine r_puti E hK hP hD hS 0 (by decide) mf_1 rfl rfl (by decide +kernel) (sp_0 h0 ad cI cJ cB cZ _ _) dX12_at_2 (fun H locs hP hD hS => ?_)
  refine lv_iload_n hx hb dX12_at_5 rfl (lv_at hl 1 rfl) ?_
  refine g_i2l hx hb (by first | assumption | exact ⟨by omega, by omega⟩ | exact Hh _) dX12_at_6 ?_
  refine lv_lconst (v := Int64.ofInt 0) hx hb dX12_at_7 rfl ?_
  refine lv_aload_n hx hb dX12_at_8 rfl (lv_at hl 0 rfl) ?_
  refine r_geti E hK hP (k := 61) (v := Iz (F 61)) (by decide) mf_650 rfl rfl dX12_at_9 ?_
  rw [t0]
  refine lv_iconst (v := Int32.ofInt (1)) hx hb dX12_at_12 (by decide) ?_
  refine g_isub hx hb dX12_at_13 ?_
  refine g_i2l hx hb (by first | assumption | exact ⟨by omega, by omega⟩ | exact Hh _) dX12_at_14 ?_
  refine r_callsi (As := [Jz (ia), Jz (0), Jz (0 - 1)]) (rest := []) E (c_in (by omega) (by omega) (by omega) (by omega) (by omega) (by omega)) (cwS 3 hts (rGoodS ml_571 mt_in mn_RX12 mc_in) rfl rfl rfl (by decide +kernel) ⟨Nat.le_of_ble_eq_true rfl, Nat.le_of_ble_eq_true rfl⟩) (B := va_P (dC, dI) rcl (mW h0 ad cI cJ cB cZ (fup F 0 0) ar)) (r_kept hP) hS rfl hl.1 (Nat.le_of_ble_eq_true rfl) dX12_at_15 ⟨Nat.le_refl 0, Nat.le_refl 0⟩ (fun z15 H locs q15 hP hS => ?_)
  rw [if_neg (fun q => by omega)] at q15
  subst q15
  refine g_if_eq (tgt := 34) hx hb (by first | assumption | exact ⟨by omega, by omega⟩ | exact Hh _) dX12_at_18 (by decide) (fun c_18 => ?_) (fun c_18 => ?_)
  · skip
    refine lv_iconst (v := Int32.ofInt (-1)) hx hb dX12_at_34 (by decide) ?_
    have hpost : ((-1) : Int) = -1 ∧ (fup F 0 0) 0 = 0 := ⟨rfl, rfl⟩
    exact W.iret (v := Int32.ofInt ((-1))) hx hb hr (fun t ht hW => ⟨⟨_, ((fup F 0 0), ar), rfl, ⟨_, rfl, hpost⟩, by rw [ht]; exact hP, va_K.moved hW.alike hK, hD⟩, hS.F ht⟩) hS.2.2 dX12_at_35
  · omega
set_option maxHeartbeats 4000000 in
set_option maxRecDepth 100000 in
theorem c_polynomial {l : Launch} {dC : Nat → ClassId} {dI : Nat → Nat → Nat} {h0 : Nat} {ad : Nat → Nat} {cI cJ cB cZ : Nat} {F : Nat → Int} {ar : Nat → Int → Int} {sz : Nat}  (p0 : F 57 = 0) : Met l yX12_polynomial (Cond.code yX12_polynomial cX12_polynomial 1 (some .int) :: w0r) (rRm 0 0) (rPc dC dI h0 ad cI cJ cB cZ F ar sz []) (rQi dC dI h0 ad cI cJ cB cZ sz (fun z F' ar' => z = 0 ∧ F' 0 = 0)) 0 0 (rA h0 ad sz) := by
  refine Met.ofW (cc := cX12_polynomial) (maxL := 1) (ret := (some .int)) (by decide) rfl ?_
  intro p e s m args below meth c s₁ B hml hv
  obtain ⟨rfl, hsz, hP, hK, hD0⟩ := hv
  have hx := B.exec
  have hb := B.bytes
  have hr := B.returns
  have hts := atoms_spec (ws := Cond.code yX12_polynomial cX12_polynomial 1 (some .int) :: w0r) B.pre
  have hown : s.vm.findClass RX12 = some m.cls := findClass_of_methodNamed B.named
  have hlocks := B.notSynchronized
  have E : CallFix p m c cX12_polynomial 1 s _ (Cond.code yX12_polynomial cX12_polynomial 1 (some .int) :: w0r) RX12 := ⟨hx, hb, hml, hown, hts⟩
  subst hsz
  have hD := rA_self s.heap.size hD0
  have hA : ∀ q : Nat, s.heap.size ≤ q → rA h0 ad s.heap.size q := fun q h => Or.inr h
  have hS : va_S (rA h0 ad s.heap.size) s.heap s.heap [] := va_S.rf
  have hl := lv_entry ([.ref h0]) (n := 1) (Nat.le_of_ble_eq_true rfl)
  rw [lg_entry_eq]
  generalize (lg_sl ([.ref h0]) ++ List.replicate (1 - (lg_sl ([.ref h0])).length) Slot.unset).toArray = ls at hl ⊢
  have hl : lv_has ls 1 [(0, .ref h0)] := hl
  refine lv_aload_n hx hb dX12_polynomial_0 rfl (lv_at hl 0 rfl) ?_
  refine lv_iconst (v := Int32.ofInt (0)) hx hb dX12_polynomial_1 (by decide) ?_
  refine r_puti E hK hP hD hS 0 (by decide) mf_1 rfl rfl (by decide +kernel) (sp_0 h0 ad cI cJ cB cZ _ _) dX12_polynomial_2 (fun H locs hP hD hS => ?_)
  refine lv_aload_n hx hb dX12_polynomial_5 rfl (lv_at hl 0 rfl) ?_
  refine r_geti E hK hP (k := 57) (v := Iz (F 57)) (by decide) mf_575 rfl rfl dX12_polynomial_6 ?_
  rw [p0]
  refine lv_bipush (v := Int32.ofInt (30)) hx hb dX12_polynomial_9 (by decide) ?_
  refine g_icmp_ne (tgt := 17) hx hb (by first | assumption | exact ⟨by omega, by omega⟩ | exact Hh _) (by first | assumption | exact ⟨by omega, by omega⟩ | exact Hh _) dX12_polynomial_11 (by decide) (fun c_11 => ?_) (fun c_11 => ?_)
  · skip
    refine lv_aload_n hx hb dX12_polynomial_17 rfl (lv_at hl 0 rfl) ?_
    refine lv_dup hx hb dX12_polynomial_18 rfl ?_
    refine r_geti E hK hP (k := 57) (v := Iz (F 57)) (by decide) mf_575 rfl rfl dX12_polynomial_19 ?_
    rw [p0]
    refine lv_iconst (v := Int32.ofInt (1)) hx hb dX12_polynomial_22 (by decide) ?_
    refine g_iadd hx hb dX12_polynomial_23 ?_
    refine r_puti E hK hP hD hS 57 (by decide) mf_575 rfl rfl (by decide +kernel) (sp_57 h0 ad cI cJ cB cZ _ _) dX12_polynomial_24 (fun H locs hP hD hS => ?_)
    refine lv_aload_n hx hb dX12_polynomial_27 rfl (lv_at hl 0 rfl) ?_
    refine r_geti E hK hP (k := 57) (v := Iz (0 + 1)) (by decide) mf_575 rfl rfl dX12_polynomial_28 ?_
    refine lv_iconst (v := Int32.ofInt (1)) hx hb dX12_polynomial_31 (by decide) ?_
    refine g_isub hx hb dX12_polynomial_32 ?_
    have hpost : ((0 + 1) - 1 : Int) = 0 ∧ (fup (fup F 0 0) 57 (0 + 1)) 0 = 0 := ⟨by omega, rfl⟩
    exact W.iret (v := Int32.ofInt ((0 + 1) - 1)) hx hb hr (fun t ht hW => ⟨⟨_, ((fup (fup F 0 0) 57 (0 + 1)), ar), rfl, ⟨_, rfl, hpost⟩, by rw [ht]; exact hP, va_K.moved hW.alike hK, hD⟩, hS.F ht⟩) hS.2.2 dX12_polynomial_33
  · omega
set_option maxHeartbeats 4000000 in
set_option maxRecDepth 100000 in
theorem c_endR {l : Launch} {dC : Nat → ClassId} {dI : Nat → Nat → Nat} {h0 : Nat} {ad : Nat → Nat} {cI cJ cB cZ : Nat} {F : Nat → Int} {ar : Nat → Int → Int} {sz : Nat} {ia : Int} (t0 : F 53 = 0) (ia0 : -2147483648 ≤ ia) (ia1 : ia ≤ 2147483647) : Met l yX12_end (Cond.code yX12_end cX12_end 2 none :: w0r) (rRm 2 80) (rPc dC dI h0 ad cI cJ cB cZ F ar sz [Iz (ia)]) (rQv dC dI h0 ad cI cJ cB cZ sz (fun F' ar' => F' 0 = (if ia = 0 then 0 else 1))) 0 0 (rA h0 ad sz) := by
  refine Met.ofW (cc := cX12_end) (maxL := 2) (ret := none) (by decide) rfl ?_
  intro p e s m args below meth c s₁ B hml hv
  obtain ⟨rfl, hsz, hP, hK, hD0⟩ := hv
  have hx := B.exec
  have hb := B.bytes
  have hr := B.returns
  have hts := atoms_spec (ws := Cond.code yX12_end cX12_end 2 none :: w0r) B.pre
  have hown : s.vm.findClass RX12 = some m.cls := findClass_of_methodNamed B.named
  have hlocks := B.notSynchronized
  have E : CallFix p m c cX12_end 2 s _ (Cond.code yX12_end cX12_end 2 none :: w0r) RX12 := ⟨hx, hb, hml, hown, hts⟩
  subst hsz
  have hD := rA_self s.heap.size hD0
  have hA : ∀ q : Nat, s.heap.size ≤ q → rA h0 ad s.heap.size q := fun q h => Or.inr h
  have hS : va_S (rA h0 ad s.heap.size) s.heap s.heap [] := va_S.rf
  have hl := lv_entry ([.ref h0, Iz (ia)]) (n := 2) (Nat.le_of_ble_eq_true rfl)
  rw [lg_entry_eq]
  generalize (lg_sl ([.ref h0, Iz (ia)]) ++ List.replicate (2 - (lg_sl ([.ref h0, Iz (ia)])).length) Slot.unset).toArray = ls at hl ⊢
  have hl : lv_has ls 2 [(0, .ref h0), (1, Iz (ia))] := hl
  refine lv_aload_n hx hb dX12_end_0 rfl (lv_at hl 0 rfl) ?_
  refine lv_iload_n hx hb dX12_end_1 rfl (lv_at hl 1 rfl) ?_
  refine g_i2l hx hb (by first | assumption | exact ⟨by omega, by omega⟩ | exact Hh _) dX12_end_2 ?_
  refine lv_lconst (v := Int64.ofInt 0) hx hb dX12_end_3 rfl ?_
  refine lv_aload_n hx hb dX12_end_4 rfl (lv_at hl 0 rfl) ?_
  refine r_geti E hK hP (k := 53) (v := Iz (F 53)) (by decide) mf_671 rfl rfl dX12_end_5 ?_
  rw [t0]
  refine g_i2l hx hb (by first | assumption | exact ⟨by omega, by omega⟩ | exact Hh _) dX12_end_8 ?_
  refine r_callsi (As := [Jz (ia), Jz (0), Jz (0)]) (rest := [.ref h0]) E (c_in (by omega) (by omega) (by omega) (by omega) (by omega) (by omega)) (cwS 3 hts (rGoodS ml_571 mt_in mn_RX12 mc_in) rfl rfl rfl (by decide +kernel) ⟨Nat.le_of_ble_eq_true rfl, Nat.le_of_ble_eq_true rfl⟩) (B := va_P (dC, dI) rcl (mW h0 ad cI cJ cB cZ F ar)) (r_kept hP) hS rfl hl.1 (Nat.le_of_ble_eq_true rfl) dX12_end_9 ⟨Nat.le_refl 0, Nat.le_refl 0⟩ (fun z9 H locs q9 hP hS => ?_)
  have b9 : (z9 = 1 ∧ ia = 0) ∨ (z9 = 0 ∧ ia ≠ 0) := by
      rw [q9]
      by_cases w : ia = 0
      · exact Or.inl ⟨if_pos ⟨by omega, by omega⟩, w⟩
      · exact Or.inr ⟨if_neg (fun q => by omega), w⟩
  refine g_if_eq (tgt := 19) hx hb (by first | assumption | exact ⟨by omega, by omega⟩ | exact Hh _) dX12_end_12 (by decide) (fun c_12 => ?_) (fun c_12 => ?_)
  · skip
    refine lv_iconst (v := Int32.ofInt (1)) hx hb dX12_end_19 (by decide) ?_
    refine r_puti E hK hP hD hS 0 (by decide) mf_1 rfl rfl (by decide +kernel) (sp_0 h0 ad cI cJ cB cZ _ _) dX12_end_20 (fun H locs hP hD hS => ?_)
    refine lv_aload_n hx hb dX12_end_23 rfl (lv_at hl 0 rfl) ?_
    refine lv_aload_n hx hb dX12_end_24 rfl (lv_at hl 0 rfl) ?_
    refine r_geti E hK hP (k := 0) (v := Iz (1)) (by decide) mf_1 rfl rfl dX12_end_25 ?_
    refine g_if_le (tgt := 38) hx hb (by first | assumption | exact ⟨by omega, by omega⟩ | exact Hh _) dX12_end_28 (by decide) (fun c_28 => ?_) (fun c_28 => ?_)
    · omega
    · skip
      refine lv_aload_n hx hb dX12_end_31 rfl (lv_at hl 0 rfl) ?_
      refine r_geti E hK hP (k := 53) (v := Iz (F 53)) (by decide) mf_671 rfl rfl dX12_end_32 ?_
      refine lv_goto (tgt := 39) hx hb dX12_end_35 (by decide) ?_
      refine r_puti E hK hP hD hS 53 (by decide) mf_671 rfl rfl (by decide +kernel) (sp_53 h0 ad cI cJ cB cZ _ _) dX12_end_39 (fun H locs hP hD hS => ?_)
      have hpost : (fup (fup F 0 1) 53 (F 53)) 0 = (if ia = 0 then 0 else 1) := by first | (rw [if_pos (by omega)]; rfl) | (rw [if_neg (by omega)]; rfl)
      exact W.vret hx hb hr (fun t ht hW => ⟨⟨((fup (fup F 0 1) 53 (F 53)), ar), rfl, hpost, by rw [ht]; exact hP, va_K.moved hW.alike hK, hD⟩, hS.F ht⟩) hS.2.2 dX12_end_42
  · skip
    refine lv_iconst (v := Int32.ofInt (0)) hx hb dX12_end_15 (by decide) ?_
    refine lv_goto (tgt := 20) hx hb dX12_end_16 (by decide) ?_
    refine r_puti E hK hP hD hS 0 (by decide) mf_1 rfl rfl (by decide +kernel) (sp_0 h0 ad cI cJ cB cZ _ _) dX12_end_20 (fun H locs hP hD hS => ?_)
    refine lv_aload_n hx hb dX12_end_23 rfl (lv_at hl 0 rfl) ?_
    refine lv_aload_n hx hb dX12_end_24 rfl (lv_at hl 0 rfl) ?_
    refine r_geti E hK hP (k := 0) (v := Iz (0)) (by decide) mf_1 rfl rfl dX12_end_25 ?_
    refine g_if_le (tgt := 38) hx hb (by first | assumption | exact ⟨by omega, by omega⟩ | exact Hh _) dX12_end_28 (by decide) (fun c_28 => ?_) (fun c_28 => ?_)
    · skip
      refine lv_iload_n hx hb dX12_end_38 rfl (lv_at hl 1 rfl) ?_
      refine r_puti E hK hP hD hS 53 (by decide) mf_671 rfl rfl (by decide +kernel) (sp_53 h0 ad cI cJ cB cZ _ _) dX12_end_39 (fun H locs hP hD hS => ?_)
      have hpost : (fup (fup F 0 0) 53 ia) 0 = (if ia = 0 then 0 else 1) := by first | (rw [if_pos (by omega)]; rfl) | (rw [if_neg (by omega)]; rfl)
      exact W.vret hx hb hr (fun t ht hW => ⟨⟨((fup (fup F 0 0) 53 ia), ar), rfl, hpost, by rw [ht]; exact hP, va_K.moved hW.alike hK, hD⟩, hS.F ht⟩) hS.2.2 dX12_end_42
    · omega
