/-- the numbers of Sturm: each its own, none of a polynomial's, none of Tools' -/
def uOK (LB LP : List Nat) (co : Nat → Nat → Nat) (ta tb tq tt tu ug uh uq ut uu : Nat) : Prop := (ug ∈ LB ∧ uh ∈ LB ∧ uq ∈ LB ∧ ut ∈ LB ∧ uu ∈ LB) ∧ (ug ≠ uh ∧ ug ≠ uq ∧ ug ≠ ut ∧ ug ≠ uu) ∧ (uh ≠ uq ∧ uh ≠ ut ∧ uh ≠ uu) ∧ (uq ≠ ut ∧ uq ≠ uu) ∧ ut ≠ uu ∧ (∀ p ∈ LP, ∀ i : Nat, i < 13 → co p i ≠ ug ∧ co p i ≠ uh ∧ co p i ≠ uq ∧ co p i ≠ ut ∧ co p i ≠ uu) ∧ ∀ x, x = ta ∨ x = tb ∨ x = tq ∨ x = tt ∨ x = tu → x ≠ ug ∧ x ≠ uh ∧ x ≠ uq ∧ x ≠ ut ∧ x ≠ uu
set_option maxHeartbeats 4000000 in
set_option maxRecDepth 100000 in
theorem k7_multiply {l : Launch} {dC : Nat → ClassId} {dI : Nat → Nat → Nat} {cx : Nat → Nat} {LB : List Nat} {LP : List Nat} {pc_ : Nat → Nat} {pd : Nat → Int} {co : Nat → Nat → Nat} {X : va_W} {dd : Nat → Nat} {nn ss : Nat → Int} {ll : Nat → Nat} {gg : Nat → Int → Int} {H0 : Heap} {v : Nat → Int} {a b : Nat} {k : Int} {t0 ta tb tq tt tu : Nat} {s0 ch ug uh uq ut uu : Nat} {sc_ sl_ sw_ : Int}  (hO : pOK LB LP co) (hN : cR LB nn ss ll gg v) (hSo : (s0, (.inr (7, [Iz sc_, .ref t0, .ref ch, Iz sl_, Iz sw_, .ref ug, .ref uh, .ref uq, .ref ut, .ref uu]) : va_E)) ∈ X) (hU : uOK LB LP co ta tb tq tt tu ug uh uq ut uu) (ma : a ∈ LB) (mb : b ∈ LB) (na : ut ≠ a) (nb : ut ≠ b) (nua : uu ≠ a) (nub : uu ≠ b) (k0 : 0 ≤ k) (k1 : k ≤ 1) (sA : ((v a).natAbs : Int) < 1073741824 ^ 80) (sB : ((v b).natAbs : Int) < 1073741824 ^ 80) : Met l yX7_multiply (Cond.code yX7_multiply cX7_multiply 5 none :: w0c) (cRm 2 61 LB ll) (cPc dC dI cx LB (pW cx LP pc_ pd co X) dd nn ss ll gg H0 [.ref s0, .ref a, .ref b, Iz (k)]) (cQv dC dI cx LB (va_A (bW (cx 0) LB dd nn ss ll gg (pW cx LP pc_ pd co X)) H0.size) ll H0 (fun X' dd' nn' ss' ll' gg' => ∃ v' : Nat → Int, X' = (pW cx LP pc_ pd co X) ∧ cR LB nn' ss' ll' gg' v' ∧ v' ut = v a * v b ^ k.toNat ∧ ∀ b_ : Nat, b_ ≠ ut → b_ ≠ uu → v' b_ = v b_)) (cMc LB ll) (2 * cMc LB ll) (va_A (bW (cx 0) LB dd nn ss ll gg (pW cx LP pc_ pd co X)) H0.size) := by
  refine Met.ofW (cc := cX7_multiply) (maxL := 5) (ret := none) (by decide) rfl ?_
  intro p e s m args below meth c s₁ B hml hv
  obtain ⟨rfl, hH0, hP, hK, hD0, hC0⟩ := hv
  have hx := B.exec
  have hb := B.bytes
  have hr := B.returns
  have hts := atoms_spec (ws := Cond.code yX7_multiply cX7_multiply 5 none :: w0c) B.pre
  have hown : s.vm.findClass RX7 = some m.cls := findClass_of_methodNamed B.named
  have hlocks := B.notSynchronized
  have E : CallFix p m c cX7_multiply 5 s _ (Cond.code yX7_multiply cX7_multiply 5 none :: w0c) RX7 := ⟨hx, hb, hml, hown, hts⟩
  subst hH0
  have hD := va_D.self (sz := s.heap.size) hD0
  have hA : ∀ q : Nat, s.heap.size ≤ q → va_A (bW (cx 0) LB dd nn ss ll gg (pW cx LP pc_ pd co X)) s.heap.size q := fun q h => Or.inr h
  have hV : cV dC dI cx LB (va_A (bW (cx 0) LB dd nn ss ll gg (pW cx LP pc_ pd co X)) s.heap.size) s.heap ll (pW cx LP pc_ pd co X) dd nn ss ll gg s.heap [] := ⟨hP, hD, va_S.rf, fun _ _ => Nat.le_refl _, hC0⟩
  have hR : (headSpec (Cond.code yX7_multiply cX7_multiply 5 none :: w0c) (cRm 2 61 LB ll)).room.cells = cMc LB ll ∧ (headSpec (Cond.code yX7_multiply cX7_multiply 5 none :: w0c) (cRm 2 61 LB ll)).room.slots = 2 * cMc LB ll := ⟨rfl, rfl⟩
  refine W.widen (k := cP LB ll - cP LB ll) (n := 2 * (cP LB ll - cP LB ll)) (Nat.zero_le _) (Nat.zero_le _) ?_
  have hl := lv_entry ([.ref s0, .ref a, .ref b, Iz (k)]) (n := 5) (Nat.le_of_ble_eq_true rfl)
  rw [lg_entry_eq]
  generalize (lg_sl ([.ref s0, .ref a, .ref b, Iz (k)]) ++ List.replicate (5 - (lg_sl ([.ref s0, .ref a, .ref b, Iz (k)])).length) Slot.unset).toArray = ls at hl ⊢
  have hl : lv_has ls 5 [(0, .ref s0), (1, .ref a), (2, .ref b), (3, Iz (k))] := hl
  obtain ⟨⟨mug, muh, muq, mUt, muu⟩, ⟨ngh, ngq, ngt, ngu⟩, ⟨nhq, nht, nhu⟩, ⟨nqt_, nqu_⟩, ntu_, ucA, utA⟩ := id hU
  have scg_ : ∀ p ∈ LP, ∀ i : Nat, i < 13 → co p i ≠ ug := fun p h i w => (ucA p h i w).1
  have sch_ : ∀ p ∈ LP, ∀ i : Nat, i < 13 → co p i ≠ uh := fun p h i w => (ucA p h i w).2.1
  have scq_ : ∀ p ∈ LP, ∀ i : Nat, i < 13 → co p i ≠ uq := fun p h i w => (ucA p h i w).2.2.1
  have sct_ : ∀ p ∈ LP, ∀ i : Nat, i < 13 → co p i ≠ ut := fun p h i w => (ucA p h i w).2.2.2.1
  have scu_ : ∀ p ∈ LP, ∀ i : Nat, i < 13 → co p i ≠ uu := fun p h i w => (ucA p h i w).2.2.2.2
  refine lv_aload_n hx hb dX7_multiply_0 rfl (lv_at hl 0 rfl) ?_
  refine x_get E hK hV (ci := 7) (C := RX7) (T := TX7) (N := 10) rfl w0c_in7 (pW_x hSo) 8 (by decide) rfl cf_7_28 rfl dX7_multiply_1 ?_
  refine lv_aload_n hx hb dX7_multiply_4 rfl (lv_at hl 1 rfl) ?_
  have s5 := num1_le (hN _ ma) sA
  refine c_callv (As := [.ref a]) (rest := []) E (k0_copy (v := v) (h0 := ut) (a := a) mUt hN ma na (by omega)) (cwV 1 hts (cGood cl_X7_72 ci_X0_copy cs_X0_copy cn_RX0 cc_X0_copy) rfl rfl rfl (by decide +kernel) ⟨Nat.le_of_ble_eq_true rfl, Nat.le_of_ble_eq_true rfl⟩) (b_recv hK hV mUt) hK hV hA hR rfl hl.1 (Nat.le_of_ble_eq_true rfl) dX7_multiply_5 (fun X5 dd5 nn5 ss5 ll5 gg5 H locs q5 hV hm5 => ?_)
  obtain ⟨e1_, hN⟩ := q5
  obtain rfl := e1_.symm
  refine lv_iconst (v := Int32.ofInt (0)) hx hb dX7_multiply_8 (by decide) ?_
  refine lv_istore (lv' := [(4, Iz (0)), (0, .ref s0), (1, .ref a), (2, .ref b), (3, Iz (k))]) hx hb dX7_multiply_9 hl (by decide) rfl (fun ls hl => ?_)
  refine r_loop2 (P := fun N_ ce sl H locs ls => ∃ dd_11 : Nat → Nat, ∃ nn_11 ss_11 : Nat → Int, ∃ ll_11 : Nat → Nat, ∃ gg_11 : Nat → Int → Int, ∃ v_11 : Nat → Int, ∃ i : Int, N_ = (2 - i).toNat ∧ ce = cP LB ll_11 - cP LB ll ∧ sl = 2 * (cP LB ll_11 - cP LB ll) ∧ cR LB nn_11 ss_11 ll_11 gg_11 v_11 ∧ (0 ≤ i) ∧ (i ≤ k) ∧ (v_11 ut = v a * v b ^ i.toNat) ∧ (∀ b_ : Nat, b_ ≠ ut → b_ ≠ uu → v_11 b_ = v b_) ∧ cV dC dI cx LB (va_A (bW (cx 0) LB dd nn ss ll gg (pW cx LP pc_ pd co X)) s.heap.size) s.heap ll (pW cx LP pc_ pd co X) dd_11 nn_11 ss_11 ll_11 gg_11 H locs ∧ lv_has ls 5 [(0, .ref s0), (1, .ref a), (2, .ref b), (3, Iz (k)), (4, Iz (i))]) (g := fun ls => F0 m 11 ls []) (fun N_ ce sl H locs ls hI ih_11 => ?_) _ _ _ _ _ _ ⟨_, _, _, _, _, (va_up v ut (v a)), 0, rfl, rfl, rfl, hN, (Int.le_refl 0), (k0), (by rw [va_up_self, show (0 : Int).toNat = 0 from rfl, Int.pow_zero, Int.mul_one]), (fun b_ h _ => va_up_ne _ _ h), hV, lv_sub hl [1, 2, 3, 4, 0] rfl⟩
  obtain ⟨dd_11, nn_11, ss_11, ll_11, gg_11, v_11, i, rfl, rfl, rfl, hN, i0, i1, c1, c2, hV, hl⟩ := hI
  refine lv_iload hx hb dX7_multiply_11 (lv_at hl 4 rfl) ?_
  refine lv_iload_n hx hb dX7_multiply_13 rfl (lv_at hl 3 rfl) ?_
  refine g_icmp_ge (tgt := 46) hx hb ⟨by omega, by omega⟩ ⟨by omega, by omega⟩ dX7_multiply_14 (by decide) (fun c_14 => ?_) (fun c_14 => ?_)
  · skip
    have hpost : ∃ v' : Nat → Int, (pW cx LP pc_ pd co X) = (pW cx LP pc_ pd co X) ∧ cR LB nn_11 ss_11 ll_11 gg_11 v' ∧ v' ut = v a * v b ^ k.toNat ∧ ∀ b_ : Nat, b_ ≠ ut → b_ ≠ uu → v' b_ = v b_ := ⟨_, rfl, hN, by rw [c1, show i.toNat = k.toNat by omega], c2⟩
    exact c_vret hx hb hr hK hV hpost dX7_multiply_46 hlocks
  · skip
    refine lv_aload_n hx hb dX7_multiply_17 rfl (lv_at hl 0 rfl) ?_
    refine x_get E hK hV (ci := 7) (C := RX7) (T := TX7) (N := 10) rfl w0c_in7 (pW_x hSo) 9 (by decide) rfl cf_7_31 rfl dX7_multiply_18 ?_
    refine lv_aload_n hx hb dX7_multiply_21 rfl (lv_at hl 0 rfl) ?_
    refine x_get E hK hV (ci := 7) (C := RX7) (T := TX7) (N := 10) rfl w0c_in7 (pW_x hSo) 8 (by decide) rfl cf_7_28 rfl dX7_multiply_22 ?_
    refine lv_aload_n hx hb dX7_multiply_25 rfl (lv_at hl 2 rfl) ?_
    have e26 : v_11 b = v b := c2 _ (Ne.symm nb) (Ne.symm nub)
    have ei26 : i = 0 := by omega
    have sf26 : ((v_11 ut).natAbs : Int) < 1073741824 ^ 80 := by rw [c1, ei26, show (0 : Int).toNat = 0 from rfl, Int.pow_zero, Int.mul_one]; exact sA
    have sg26 : ((v_11 b).natAbs : Int) < 1073741824 ^ 80 := by rw [e26]; exact sB
    have s26a := num1_le (hN _ mUt) sf26
    have s26b := num1_le (hN _ mb) sg26
    refine c_callv (As := [.ref ut, .ref b]) (rest := []) E (k0_times (v := v_11) (h0 := uu) (a := ut) (b := b) muu hN mUt mb (Ne.symm ntu_) nub (by omega)) (cwV 2 hts (cGood cl_X7_100 ci_X0_times cs_X0_times cn_RX0 cc_X0_times) rfl rfl rfl (by decide +kernel) ⟨Nat.le_of_ble_eq_true rfl, Nat.le_of_ble_eq_true rfl⟩) (b_recv hK hV muu) hK hV hA hR rfl hl.1 (Nat.le_of_ble_eq_true rfl) dX7_multiply_26 (fun X26 dd26 nn26 ss26 ll26 gg26 H locs q26 hV hm26 => ?_)
    obtain ⟨e1_, hN⟩ := q26
    obtain rfl := e1_.symm
    refine lv_aload_n hx hb dX7_multiply_29 rfl (lv_at hl 0 rfl) ?_
    refine x_get E hK hV (ci := 7) (C := RX7) (T := TX7) (N := 10) rfl w0c_in7 (pW_x hSo) 8 (by decide) rfl cf_7_28 rfl dX7_multiply_30 ?_
    refine lv_aload_n hx hb dX7_multiply_33 rfl (lv_at hl 0 rfl) ?_
    refine x_get E hK hV (ci := 7) (C := RX7) (T := TX7) (N := 10) rfl w0c_in7 (pW_x hSo) 9 (by decide) rfl cf_7_31 rfl dX7_multiply_34 ?_
    have s37 := num1_le (hN _ muu) (show (((va_up v_11 uu (v_11 ut * v_11 b)) uu).natAbs : Int) < 1073741824 ^ (80 + 80) by rw [va_up_self]; exact sz_mul sf26 sg26)
    refine c_callv (As := [.ref uu]) (rest := []) E (k0_copy (v := (va_up v_11 uu (v_11 ut * v_11 b))) (h0 := ut) (a := uu) mUt hN muu ntu_ (by omega)) (cwV 1 hts (cGood cl_X7_72 ci_X0_copy cs_X0_copy cn_RX0 cc_X0_copy) rfl rfl rfl (by decide +kernel) ⟨Nat.le_of_ble_eq_true rfl, Nat.le_of_ble_eq_true rfl⟩) (b_recv hK hV mUt) hK hV hA hR rfl hl.1 (Nat.le_of_ble_eq_true rfl) dX7_multiply_37 (fun X37 dd37 nn37 ss37 ll37 gg37 H locs q37 hV hm37 => ?_)
    obtain ⟨e1_, hN⟩ := q37
    obtain rfl := e1_.symm
    refine g_iinc (k := 4) (z := i) (n := (1)) (lv' := [(4, Iz (i + 1)), (0, .ref s0), (1, .ref a), (2, .ref b), (3, Iz (k))]) hx hb dX7_multiply_40 hl rfl (by decide) rfl (fun ls hl => ?_)
    refine lv_goto (tgt := 11) hx hb dX7_multiply_43 (by decide) ?_
    exact ih_11 _ (by omega) _ _ _ _ _ ⟨_, _, _, _, _, (va_up (va_up v_11 uu (v_11 ut * v_11 b)) ut ((va_up v_11 uu (v_11 ut * v_11 b)) uu)), (i + 1), rfl, rfl, rfl, hN, (by omega), (by omega), (by rw [va_up_self, va_up_self, c1, e26, show (i + 1).toNat = i.toNat + 1 by omega, Int.pow_succ, Int.mul_assoc]), (fun b_ h h2 => by rw [va_up_ne _ _ h, va_up_ne _ _ h2]; exact c2 b_ h h2), hV, lv_sub hl [1, 2, 3, 4, 0] rfl⟩
set_option maxHeartbeats 4000000 in
set_option maxRecDepth 100000 in
theorem k7_advance {l : Launch} {dC : Nat → ClassId} {dI : Nat → Nat → Nat} {cx : Nat → Nat} {LB : List Nat} {LP : List Nat} {pc_ : Nat → Nat} {pd : Nat → Int} {co : Nat → Nat → Nat} {X : va_W} {dd : Nat → Nat} {nn ss : Nat → Int} {ll : Nat → Nat} {gg : Nat → Int → Int} {H0 : Heap} {v : Nat → Int} {a : Nat} {k : Int} {t0 ta tb tq tt tu : Nat} {s0 ch ug uh uq ut uu : Nat} {sc_ sl_ sw_ : Int}  (hO : pOK LB LP co) (hN : cR LB nn ss ll gg v) (hSo : (s0, (.inr (7, [Iz sc_, .ref t0, .ref ch, Iz sl_, Iz sw_, .ref ug, .ref uh, .ref uq, .ref ut, .ref uu]) : va_E)) ∈ X) (hU : uOK LB LP co ta tb tq tt tu ug uh uq ut uu) (ma : a ∈ LB) (na : ug ≠ a) (k1 : k < 2) (k0 : 0 ≤ k) (sA : ((v a).natAbs : Int) < 1073741824 ^ 80) : Met l yX7_advance (Cond.code yX7_advance cX7_advance 3 none :: w0c) (cRm 4 131 LB ll) (cPc dC dI cx LB (pW cx LP pc_ pd co X) dd nn ss ll gg H0 [.ref s0, .ref a, Iz (k)]) (cQv dC dI cx LB (va_A (bW (cx 0) LB dd nn ss ll gg (pW cx LP pc_ pd co X)) H0.size) ll H0 (fun X' dd' nn' ss' ll' gg' => ∃ v' : Nat → Int, X' = (pW cx LP pc_ pd co X) ∧ cR LB nn' ss' ll' gg' v' ∧ v' ug = ((v a).natAbs : Int) ∧ v' uh = ((v a).natAbs : Int) ∧ ∀ b_ : Nat, b_ ≠ ug → b_ ≠ uh → v' b_ = v b_)) (cMc LB ll) (2 * cMc LB ll) (va_A (bW (cx 0) LB dd nn ss ll gg (pW cx LP pc_ pd co X)) H0.size) := by
  refine Met.ofW (cc := cX7_advance) (maxL := 3) (ret := none) (by decide) rfl ?_
  intro p e s m args below meth c s₁ B hml hv
  obtain ⟨rfl, hH0, hP, hK, hD0, hC0⟩ := hv
  have hx := B.exec
  have hb := B.bytes
  have hr := B.returns
  have hts := atoms_spec (ws := Cond.code yX7_advance cX7_advance 3 none :: w0c) B.pre
  have hown : s.vm.findClass RX7 = some m.cls := findClass_of_methodNamed B.named
  have hlocks := B.notSynchronized
  have E : CallFix p m c cX7_advance 3 s _ (Cond.code yX7_advance cX7_advance 3 none :: w0c) RX7 := ⟨hx, hb, hml, hown, hts⟩
  subst hH0
  have hD := va_D.self (sz := s.heap.size) hD0
  have hA : ∀ q : Nat, s.heap.size ≤ q → va_A (bW (cx 0) LB dd nn ss ll gg (pW cx LP pc_ pd co X)) s.heap.size q := fun q h => Or.inr h
  have hV : cV dC dI cx LB (va_A (bW (cx 0) LB dd nn ss ll gg (pW cx LP pc_ pd co X)) s.heap.size) s.heap ll (pW cx LP pc_ pd co X) dd nn ss ll gg s.heap [] := ⟨hP, hD, va_S.rf, fun _ _ => Nat.le_refl _, hC0⟩
  have hR : (headSpec (Cond.code yX7_advance cX7_advance 3 none :: w0c) (cRm 4 131 LB ll)).room.cells = cMc LB ll ∧ (headSpec (Cond.code yX7_advance cX7_advance 3 none :: w0c) (cRm 4 131 LB ll)).room.slots = 2 * cMc LB ll := ⟨rfl, rfl⟩
  refine W.widen (k := cP LB ll - cP LB ll) (n := 2 * (cP LB ll - cP LB ll)) (Nat.zero_le _) (Nat.zero_le _) ?_
  have hl := lv_entry ([.ref s0, .ref a, Iz (k)]) (n := 3) (Nat.le_of_ble_eq_true rfl)
  rw [lg_entry_eq]
  generalize (lg_sl ([.ref s0, .ref a, Iz (k)]) ++ List.replicate (3 - (lg_sl ([.ref s0, .ref a, Iz (k)])).length) Slot.unset).toArray = ls at hl ⊢
  have hl : lv_has ls 3 [(0, .ref s0), (1, .ref a), (2, Iz (k))] := hl
  obtain ⟨⟨mug, muh, muq, mUt, muu⟩, ⟨ngh, ngq, ngt, ngu⟩, ⟨nhq, nht, nhu⟩, ⟨nqt_, nqu_⟩, ntu_, ucA, utA⟩ := id hU
  have scg_ : ∀ p ∈ LP, ∀ i : Nat, i < 13 → co p i ≠ ug := fun p h i w => (ucA p h i w).1
  have sch_ : ∀ p ∈ LP, ∀ i : Nat, i < 13 → co p i ≠ uh := fun p h i w => (ucA p h i w).2.1
  have scq_ : ∀ p ∈ LP, ∀ i : Nat, i < 13 → co p i ≠ uq := fun p h i w => (ucA p h i w).2.2.1
  have sct_ : ∀ p ∈ LP, ∀ i : Nat, i < 13 → co p i ≠ ut := fun p h i w => (ucA p h i w).2.2.2.1
  have scu_ : ∀ p ∈ LP, ∀ i : Nat, i < 13 → co p i ≠ uu := fun p h i w => (ucA p h i w).2.2.2.2
  refine lv_aload_n hx hb dX7_advance_0 rfl (lv_at hl 0 rfl) ?_
  refine x_get E hK hV (ci := 7) (C := RX7) (T := TX7) (N := 10) rfl w0c_in7 (pW_x hSo) 5 (by decide) rfl cf_7_18 rfl dX7_advance_1 ?_
  refine lv_aload_n hx hb dX7_advance_4 rfl (lv_at hl 1 rfl) ?_
  have s5 := num1_le (hN _ ma) sA
  refine c_callv (As := [.ref a]) (rest := []) E (k0_copy (v := v) (h0 := ug) (a := a) mug hN ma na (by omega)) (cwV 1 hts (cGood cl_X7_72 ci_X0_copy cs_X0_copy cn_RX0 cc_X0_copy) rfl rfl rfl (by decide +kernel) ⟨Nat.le_of_ble_eq_true rfl, Nat.le_of_ble_eq_true rfl⟩) (b_recv hK hV mug) hK hV hA hR rfl hl.1 (Nat.le_of_ble_eq_true rfl) dX7_advance_5 (fun X5 dd5 nn5 ss5 ll5 gg5 H locs q5 hV hm5 => ?_)
  obtain ⟨e1_, hN⟩ := q5
  obtain rfl := e1_.symm
  refine lv_aload_n hx hb dX7_advance_8 rfl (lv_at hl 0 rfl) ?_
  refine x_get E hK hV (ci := 7) (C := RX7) (T := TX7) (N := 10) rfl w0c_in7 (pW_x hSo) 5 (by decide) rfl cf_7_18 rfl dX7_advance_9 ?_
  refine lv_aload_n hx hb dX7_advance_12 rfl (lv_at hl 0 rfl) ?_
  refine x_get E hK hV (ci := 7) (C := RX7) (T := TX7) (N := 10) rfl w0c_in7 (pW_x hSo) 5 (by decide) rfl cf_7_18 rfl dX7_advance_13 ?_
  refine t_gets E hK hV mug rfl cf_7_104 dX7_advance_16 ?_
  have sg16 := num1_sg (hN ug mug)
  rw [va_up_self] at sg16
  have sb16 := sg_bd (v a)
  refine g_abs E hl.1 cl_X7_107 (Nat.le_of_ble_eq_true rfl) (Nat.le_of_ble_eq_true rfl) (c_room hV hR).1 (c_room hV hR).2 ⟨by omega, by omega⟩ dX7_advance_19 ?_
  refine t_puts E hK hV mug rfl cf_7_104 dX7_advance_22 (fun H locs hV => ?_)
  have hN : cR LB nn5 (va_up ss5 ug (if 0 ≤ ss5 ug then ss5 ug else 0 - (ss5 ug))) ll5 gg5 (va_up v ug ((v a).natAbs : Int)) := by
    have h := cR_sign (s := (if 0 ≤ ss5 ug then ss5 ug else 0 - ss5 ug)) (V := ((v a).natAbs : Int)) hN mug (by rw [va_up_self, Int.natAbs_natCast]) (by rw [sg16]; unfold sg; split <;> (try split) <;> (try split) <;> (try split) <;> (try split) <;> omega)
    rw [va_up_up] at h
    exact h
  refine lv_iload_n hx hb dX7_advance_25 rfl (lv_at hl 2 rfl) ?_
  refine lv_iconst (v := Int32.ofInt (2)) hx hb dX7_advance_26 (by decide) ?_
  refine g_icmp_ge (tgt := 42) hx hb ⟨by omega, by omega⟩ ⟨by omega, by omega⟩ dX7_advance_27 (by decide) (fun c_27 => ?_) (fun c_27 => ?_)
  · omega
  · skip
    refine lv_aload_n hx hb dX7_advance_30 rfl (lv_at hl 0 rfl) ?_
    refine x_get E hK hV (ci := 7) (C := RX7) (T := TX7) (N := 10) rfl w0c_in7 (pW_x hSo) 6 (by decide) rfl cf_7_22 rfl dX7_advance_31 ?_
    refine lv_aload_n hx hb dX7_advance_34 rfl (lv_at hl 0 rfl) ?_
    refine x_get E hK hV (ci := 7) (C := RX7) (T := TX7) (N := 10) rfl w0c_in7 (pW_x hSo) 5 (by decide) rfl cf_7_18 rfl dX7_advance_35 ?_
    have s38 := num1_le (hN _ mug) (show ((va_up v ug ((v a).natAbs : Int) ug).natAbs : Int) < 1073741824 ^ 80 by rw [va_up_self, Int.natAbs_natCast]; exact sA)
    refine c_callv (As := [.ref ug]) (rest := []) E (k0_copy (v := va_up v ug ((v a).natAbs : Int)) (h0 := uh) (a := ug) muh hN mug (Ne.symm ngh) (by omega)) (cwV 1 hts (cGood cl_X7_72 ci_X0_copy cs_X0_copy cn_RX0 cc_X0_copy) rfl rfl rfl (by decide +kernel) ⟨Nat.le_of_ble_eq_true rfl, Nat.le_of_ble_eq_true rfl⟩) (b_recv hK hV muh) hK hV hA hR rfl hl.1 (Nat.le_of_ble_eq_true rfl) dX7_advance_38 (fun X38 dd38 nn38 ss38 ll38 gg38 H locs q38 hV hm38 => ?_)
    obtain ⟨e1_, hN⟩ := q38
    obtain rfl := e1_.symm
    have hpost : ∃ v' : Nat → Int, (pW cx LP pc_ pd co X) = (pW cx LP pc_ pd co X) ∧ cR LB nn38 ss38 ll38 gg38 v' ∧ v' ug = ((v a).natAbs : Int) ∧ v' uh = ((v a).natAbs : Int) ∧ ∀ b_ : Nat, b_ ≠ ug → b_ ≠ uh → v' b_ = v b_ := ⟨_, rfl, hN, by rw [va_up_ne _ _ ngh, va_up_self], by rw [va_up_self, va_up_self], fun b_ h h2 => by rw [va_up_ne _ _ h2, va_up_ne _ _ h]⟩
    exact c_vret hx hb hr hK hV hpost dX7_advance_41 hlocks
