set_option maxHeartbeats 4000000 in
set_option maxRecDepth 100000 in
theorem k7_locate {l : Launch} {dC : Nat → ClassId} {dI : Nat → Nat → Nat} {cx : Nat → Nat} {LB : List Nat} {LP : List Nat} {pc_ : Nat → Nat} {pd : Nat → Int} {co : Nat → Nat → Nat} {X : va_W} {dd : Nat → Nat} {nn ss : Nat → Int} {ll : Nat → Nat} {gg : Nat → Int → Int} {H0 : Heap} {v : Nat → Int} {cp : Nat → Nat} {n lo hi : Nat} {ii : Int} {C : Nat → Nat → Int} {t0 ta tb tq tt tu tw tm : Nat} {tf : Int}{s0 ch ug uh uq ut uu : Nat}  (hO : pOK LB LP co) (hN : cR LB nn ss ll gg v) (hSo : (s0, (.inr (7, [Iz (lowC n C - uppC n C), .ref t0, .ref ch, Iz ((n : Int) + 1), Iz (lowC n C), .ref ug, .ref uh, .ref uq, .ref ut, .ref uu]) : va_E)) ∈ X) (hU : uOK LB LP co ta tb tq tt tu ug uh uq ut uu) (hTo : (t0, (.inr (9, [.ref ta, .ref tb, .ref tq, .ref tt, .ref tu, .ref tw, .ref tm, Iz tf]) : va_E)) ∈ X) (hS : tOK LB LP co ta tb tq tt tu) (hch : (ch, (.inl (cx 3, 14, .inr (.inr (.inr (.inr (fun i => some (cp i)))))) : va_E)) ∈ X) (hcp : ∀ i : Nat, i < 14 → cp i ∈ LP) (hcj : ∀ i j : Nat, i < 14 → j < 14 → cp i = cp j → i = j) (hcd : ∀ j : Nat, j ≤ n → pd (cp j) = (n : Int) - j) (hcv : ∀ j k : Nat, j ≤ n → k ≤ n - j → v (co (cp j) k) = C j k) (hC : chOK n C) (hC200 : ∀ j k : Nat, j ≤ n → k ≤ n - j → ((C j k).natAbs : Int) < 2 ^ 200) (mlo : lo ∈ LB) (mhi : hi ∈ LB) (nlh : lo ≠ hi) (slo : LOK ta tb tq tt tu ug uh uq ut uu lo) (shi : LOK ta tb tq tt tu ug uh uq ut uu hi) (clo : ∀ p ∈ LP, ∀ i : Nat, i < 13 → co p i ≠ lo) (chi : ∀ p ∈ LP, ∀ i : Nat, i < 13 → co p i ≠ hi) (ii0 : 0 ≤ ii) (ii1 : ii ≤ 12) (hL : locP n C ii 60 (-(2 ^ (farF n (C 0) n).toNat)) (2 ^ (farF n (C 0) n).toNat) 0 0 (lowC n C - uppC n C)) : Met l yX7_locate (Cond.code yX7_locate cX7_locate 11 (some .int) :: w0c) (cRm 5 142 LB ll) (cPc dC dI cx LB (pW cx LP pc_ pd co X) dd nn ss ll gg H0 [.ref s0, Iz (ii), .ref lo, .ref hi]) (cQi dC dI cx LB (va_A (bW (cx 0) LB dd nn ss ll gg (pW cx LP pc_ pd co X)) H0.size) ll H0 (fun z X' dd' nn' ss' ll' gg' => ∃ v' : Nat → Int, X' = (pW cx LP pc_ pd co X) ∧ cR LB nn' ss' ll' gg' v' ∧ 0 ≤ z ∧ z ≤ 58 ∧ ((v' lo).natAbs : Int) < 2 ^ 58 ∧ ∀ b : Nat, b ≠ lo → b ≠ hi → b ≠ uu → b ≠ ut → b ≠ tt → b ≠ tu → v' b = v b)) (cMc LB ll) (2 * cMc LB ll) (va_A (bW (cx 0) LB dd nn ss ll gg (pW cx LP pc_ pd co X)) H0.size) := by
  refine Met.ofW (cc := cX7_locate) (maxL := 11) (ret := (some .int)) (by decide) rfl ?_
  intro p e s m args below meth c s₁ B hml hv
  obtain ⟨rfl, hH0, hP, hK, hD0, hC0⟩ := hv
  have hx := B.exec
  have hb := B.bytes
  have hr := B.returns
  have hts := atoms_spec (ws := Cond.code yX7_locate cX7_locate 11 (some .int) :: w0c) B.pre
  have hown : s.vm.findClass RX7 = some m.cls := findClass_of_methodNamed B.named
  have hlocks := B.notSynchronized
  have E : CallFix p m c cX7_locate 11 s _ (Cond.code yX7_locate cX7_locate 11 (some .int) :: w0c) RX7 := ⟨hx, hb, hml, hown, hts⟩
  subst hH0
  have hD := va_D.self (sz := s.heap.size) hD0
  have hA : ∀ q : Nat, s.heap.size ≤ q → va_A (bW (cx 0) LB dd nn ss ll gg (pW cx LP pc_ pd co X)) s.heap.size q := fun q h => Or.inr h
  have hV : cV dC dI cx LB (va_A (bW (cx 0) LB dd nn ss ll gg (pW cx LP pc_ pd co X)) s.heap.size) s.heap ll (pW cx LP pc_ pd co X) dd nn ss ll gg s.heap [] := ⟨hP, hD, va_S.rf, fun _ _ => Nat.le_refl _, hC0⟩
  have hR : (headSpec (Cond.code yX7_locate cX7_locate 11 (some .int) :: w0c) (cRm 5 142 LB ll)).room.cells = cMc LB ll ∧ (headSpec (Cond.code yX7_locate cX7_locate 11 (some .int) :: w0c) (cRm 5 142 LB ll)).room.slots = 2 * cMc LB ll := ⟨rfl, rfl⟩
  refine W.widen (k := cP LB ll - cP LB ll) (n := 2 * (cP LB ll - cP LB ll)) (Nat.zero_le _) (Nat.zero_le _) ?_
  have hl := lv_entry ([.ref s0, Iz (ii), .ref lo, .ref hi]) (n := 11) (Nat.le_of_ble_eq_true rfl)
  rw [lg_entry_eq]
  generalize (lg_sl ([.ref s0, Iz (ii), .ref lo, .ref hi]) ++ List.replicate (11 - (lg_sl ([.ref s0, Iz (ii), .ref lo, .ref hi])).length) Slot.unset).toArray = ls at hl ⊢
  have hl : lv_has ls 11 [(0, .ref s0), (1, Iz (ii)), (2, .ref lo), (3, .ref hi)] := hl
  obtain ⟨⟨mta, mtb, mtq, mtt, mtu⟩, ⟨nab, naq, nat_, nau⟩, ⟨nbq, nbt, nbu⟩, ⟨nqt, nqu⟩, ntu, scA⟩ := id hS
  have sca : ∀ p ∈ LP, ∀ i : Nat, i < 13 → co p i ≠ ta := fun p h i w => (scA p h i w).1
  have sct : ∀ p ∈ LP, ∀ i : Nat, i < 13 → co p i ≠ tt := fun p h i w => (scA p h i w).2.2.2.1
  have scu : ∀ p ∈ LP, ∀ i : Nat, i < 13 → co p i ≠ tu := fun p h i w => (scA p h i w).2.2.2.2
  obtain ⟨⟨mug, muh, muq, mUt, muu⟩, ⟨ngh, ngq, ngt, ngu⟩, ⟨nhq, nht, nhu⟩, ⟨nqt_, nqu_⟩, ntu_, ucA, utA⟩ := id hU
  have scg_ : ∀ p ∈ LP, ∀ i : Nat, i < 13 → co p i ≠ ug := fun p h i w => (ucA p h i w).1
  have sch_ : ∀ p ∈ LP, ∀ i : Nat, i < 13 → co p i ≠ uh := fun p h i w => (ucA p h i w).2.1
  have scq_ : ∀ p ∈ LP, ∀ i : Nat, i < 13 → co p i ≠ uq := fun p h i w => (ucA p h i w).2.2.1
  have sct_ : ∀ p ∈ LP, ∀ i : Nat, i < 13 → co p i ≠ ut := fun p h i w => (ucA p h i w).2.2.2.1
  have scu_ : ∀ p ∈ LP, ∀ i : Nat, i < 13 → co p i ≠ uu := fun p h i w => (ucA p h i w).2.2.2.2
  obtain ⟨hC1, hC2, hC3, hn0, hn1⟩ := id hC
  have hd0 : pd (cp 0) = n := by rw [hcd 0 (by omega)]; omega
  have hdg_ : ∀ j : Nat, (j : Int) < (n : Int) + 1 → 0 ≤ pd (cp j) ∧ pd (cp j) ≤ 12 := fun j hj => by rw [hcd j (by omega)]; omega
  have lw_ := chgS_bd (cfC n C 1) (n + 1)
  have lw0 : 0 ≤ lowC n C := lw_.1
  have lw1 : lowC n C ≤ 14 := by have : lowC n C ≤ ((n + 1 : Nat) : Int) := lw_.2; omega
  have up_ := chgS_bd (cfC n C 0) (n + 1)
  have up0 : 0 ≤ uppC n C := up_.1
  have up1 : uppC n C ≤ 14 := by have : uppC n C ≤ ((n + 1 : Nat) : Int) := up_.2; omega
  have szk : ∀ k : Nat, k ≤ n → ((v (co (cp 0) k)).natAbs : Int) < 2 ^ 200 := fun k hk => by rw [hcv 0 k (by omega) (by omega)]; exact hC200 0 k (by omega) (by omega)
  have blk : ∀ k : Nat, k ≤ n → 0 ≤ bl (C 0 k) ∧ bl (C 0 k) ≤ 200 := fun k hk => ⟨bl_nonneg _, bl_le (t := 200) (hC200 0 k (by omega) (by omega))⟩
  have utx : uu ≠ tt ∧ uu ≠ tu := ⟨fun q_ => (utA tt (Or.inr (Or.inr (Or.inr (Or.inl rfl))))).2.2.2.2 q_.symm, fun q_ => (utA tu (Or.inr (Or.inr (Or.inr (Or.inr rfl))))).2.2.2.2 q_.symm⟩
  refine lv_iconst (v := Int32.ofInt (0)) hx hb dX7_locate_0 (by decide) ?_
  refine lv_istore (lv' := [(4, Iz (0)), (0, .ref s0), (1, Iz (ii)), (2, .ref lo), (3, .ref hi)]) hx hb dX7_locate_1 hl (by decide) rfl (fun ls hl => ?_)
  refine lv_iconst (v := Int32.ofInt (0)) hx hb dX7_locate_3 (by decide) ?_
  refine lv_istore (lv' := [(5, Iz (0)), (4, Iz (0)), (0, .ref s0), (1, Iz (ii)), (2, .ref lo), (3, .ref hi)]) hx hb dX7_locate_4 hl (by decide) rfl (fun ls hl => ?_)
  refine lv_iconst (v := Int32.ofInt (0)) hx hb dX7_locate_6 (by decide) ?_
  refine lv_istore (lv' := [(6, Iz (0)), (5, Iz (0)), (4, Iz (0)), (0, .ref s0), (1, Iz (ii)), (2, .ref lo), (3, .ref hi)]) hx hb dX7_locate_7 hl (by decide) rfl (fun ls hl => ?_)
  refine lv_aload_n hx hb dX7_locate_9 rfl (lv_at hl 3 rfl) ?_
  refine x_get E hK hV (ci := 7) (C := RX7) (T := TX7) (N := 10) rfl w0c_in7 (pW_x hSo) 0 (by decide) rfl cf_7_97 rfl dX7_locate_10 ?_
  refine lv_istore (lv' := [(7, Iz (lowC n C - uppC n C)), (6, Iz (0)), (5, Iz (0)), (4, Iz (0)), (0, .ref s0), (1, Iz (ii)), (2, .ref lo), (3, .ref hi)]) hx hb dX7_locate_13 hl (by decide) rfl (fun ls hl => ?_)
  refine lv_aload_n hx hb dX7_locate_15 rfl (lv_at hl 4 rfl) ?_
  refine x_get E hK hV (ci := 7) (C := RX7) (T := TX7) (N := 10) rfl w0c_in7 (pW_x hSo) 2 (by decide) rfl cf_7_9 rfl dX7_locate_16 ?_
  refine lv_iconst (v := Int32.ofInt (0)) hx hb dX7_locate_19 (by decide) ?_
  refine y_aaldq hx hb hK hV (t0 := 3) rfl hch (by omega) (by omega) (by omega) dX7_locate_20 ?_
  refine lv_astore (lv' := [(8, .ref (cp 0)), (7, Iz (lowC n C - uppC n C)), (6, Iz (0)), (5, Iz (0)), (4, Iz (0)), (0, .ref s0), (1, Iz (ii)), (2, .ref lo), (3, .ref hi)]) hx hb dX7_locate_21 hl (by decide) rfl (fun ls hl => ?_)
  refine lv_iconst (v := Int32.ofInt (1)) hx hb dX7_locate_23 (by decide) ?_
  refine lv_istore (lv' := [(9, Iz (1)), (8, .ref (cp 0)), (7, Iz (lowC n C - uppC n C)), (6, Iz (0)), (5, Iz (0)), (4, Iz (0)), (0, .ref s0), (1, Iz (ii)), (2, .ref lo), (3, .ref hi)]) hx hb dX7_locate_24 hl (by decide) rfl (fun ls hl => ?_)
  refine r_loop (P := fun N_ H locs ls => ∃ k : Int, ∃ fr : Int, N_ = (20 - k).toNat ∧ (1 ≤ k) ∧ (k ≤ (n : Int) + 1) ∧ (0 ≤ fr) ∧ (fr ≤ 301) ∧ (fr = farF n (C 0) (k - 1).toNat) ∧ cV dC dI cx LB (va_A (bW (cx 0) LB dd nn ss ll gg (pW cx LP pc_ pd co X)) s.heap.size) s.heap ll (pW cx LP pc_ pd co X) dd nn ss ll gg H locs ∧ lv_has ls 11 [(0, .ref s0), (1, Iz (ii)), (2, .ref lo), (3, .ref hi), (4, Iz (fr)), (5, Iz (0)), (6, Iz (0)), (7, Iz (lowC n C - uppC n C)), (8, .ref (cp 0)), (9, Iz (k))]) (g := fun ls => F0 m 26 ls []) (fun N_ H locs ls hI ih_26 => ?_) _ _ _ _ ⟨1, 0, rfl, (by omega), (by omega), (by omega), (by omega), (rfl), hV, lv_sub hl [6, 7, 8, 9, 5, 4, 3, 2, 1, 0] rfl⟩
  obtain ⟨k, fr, rfl, k0, k1, f0, f1, fe, hV, hl⟩ := hI
  refine lv_iload hx hb dX7_locate_26 (lv_at hl 9 rfl) ?_
  refine lv_aload hx hb dX7_locate_28 (lv_at hl 8 rfl) ?_
  refine y_getdeg E hK hV (hcp 0 (by omega)) rfl cf_7_49 dX7_locate_30 ?_
  refine g_icmp_gt (tgt := 109) hx hb ⟨by omega, by omega⟩ ⟨by omega, by omega⟩ dX7_locate_33 (by decide) (fun c_33 => ?_) (fun c_33 => ?_)
  · skip
    refine lv_aload_n hx hb dX7_locate_109 rfl (lv_at hl 3 rfl) ?_
    refine lv_lconst (v := Int64.ofInt 1) hx hb dX7_locate_110 rfl ?_
    refine c_callv (As := [Jz (1)]) (rest := []) E (k0_put (v := v) (h0 := hi) (x := 1) mhi hN (by omega) (by omega)) (cwV 1 hts (cGood cl_X7_56 ci_X0_put cs_X0_put cn_RX0 cc_X0_put) rfl rfl rfl (by decide +kernel) ⟨Nat.le_of_ble_eq_true rfl, Nat.le_of_ble_eq_true rfl⟩) (b_recv hK hV mhi) hK hV hA hR rfl hl.1 (Nat.le_of_ble_eq_true rfl) dX7_locate_111 (fun X111 dd111 nn111 ss111 ll111 gg111 H locs q111 hV hm111 => ?_)
    obtain ⟨e1_, hN⟩ := q111
    obtain rfl := e1_.symm
    refine lv_aload_n hx hb dX7_locate_114 rfl (lv_at hl 3 rfl) ?_
    refine lv_aload_n hx hb dX7_locate_115 rfl (lv_at hl 3 rfl) ?_
    refine lv_iload hx hb dX7_locate_116 (lv_at hl 4 rfl) ?_
    have nz118 := num1_le (hN _ mhi) (t := 1) (show ((va_up v hi 1 hi).natAbs : Int) < 1073741824 ^ 1 by rw [va_up_self]; decide)
    refine c_callv (As := [.ref hi, Iz (fr)]) (rest := []) E (k0_raiseS (v := (va_up v hi 1)) (h0 := hi) (kk := fr) mhi hN (by omega) (by omega)) (cwV 2 hts (cGood cl_X7_128 ci_X0_raise cs_X0_raise cn_RX0 cc_X0_raise) rfl rfl rfl (by decide +kernel) ⟨Nat.le_of_ble_eq_true rfl, Nat.le_of_ble_eq_true rfl⟩) (b_recv hK hV mhi) hK hV hA hR rfl hl.1 (Nat.le_of_ble_eq_true rfl) dX7_locate_118 (fun X118 dd118 nn118 ss118 ll118 gg118 H locs q118 hV hm118 => ?_)
    obtain ⟨e1_, hN⟩ := q118
    obtain rfl := e1_.symm
    rw [va_up_up, va_up_self, Int.one_mul] at hN
    refine lv_aload_n hx hb dX7_locate_121 rfl (lv_at hl 2 rfl) ?_
    refine lv_aload_n hx hb dX7_locate_122 rfl (lv_at hl 3 rfl) ?_
    have fz123 : ((va_up v hi (2 ^ fr.toNat) hi).natAbs : Int) < 1073741824 ^ 20 := by
      rw [va_up_self, p30]
      have e9 : (((2 : Int) ^ fr.toNat).natAbs : Int) = 2 ^ fr.toNat := by have := i_p2 fr.toNat; omega
      rw [e9]
      exact p2_lt (by omega)
    have nz123 := num1_le (hN _ mhi) fz123
    refine c_callv (As := [.ref hi]) (rest := []) E (k0_copy (v := (va_up v hi (2 ^ fr.toNat))) (h0 := lo) (a := hi) mlo hN mhi nlh (by omega)) (cwV 1 hts (cGood cl_X7_72 ci_X0_copy cs_X0_copy cn_RX0 cc_X0_copy) rfl rfl rfl (by decide +kernel) ⟨Nat.le_of_ble_eq_true rfl, Nat.le_of_ble_eq_true rfl⟩) (b_recv hK hV mlo) hK hV hA hR rfl hl.1 (Nat.le_of_ble_eq_true rfl) dX7_locate_123 (fun X123 dd123 nn123 ss123 ll123 gg123 H locs q123 hV hm123 => ?_)
    obtain ⟨e1_, hN⟩ := q123
    obtain rfl := e1_.symm
    rw [va_up_self] at hN
    refine lv_aload_n hx hb dX7_locate_126 rfl (lv_at hl 2 rfl) ?_
    refine c_callv (As := []) (rest := []) E (k0_flip (v := (va_up (va_up v hi (2 ^ fr.toNat)) lo (2 ^ fr.toNat))) (h0 := lo) mlo hN) (cwV 0 hts (cGood cl_X7_79 ci_X0_flip cs_X0_flip cn_RX0 cc_X0_flip) rfl rfl rfl (by decide +kernel) ⟨Nat.le_of_ble_eq_true rfl, Nat.le_of_ble_eq_true rfl⟩) (b_recv hK hV mlo) hK hV hA hR rfl hl.1 (Nat.le_of_ble_eq_true rfl) dX7_locate_127 (fun X127 dd127 nn127 ss127 ll127 gg127 H locs q127 hV hm127 => ?_)
    obtain ⟨e1_, hN⟩ := q127
    obtain rfl := e1_.symm
    rw [va_up_up, va_up_self] at hN
    refine lv_iconst (v := Int32.ofInt (0)) hx hb dX7_locate_130 (by decide) ?_
    refine lv_istore (lv' := [(9, Iz (0)), (0, .ref s0), (1, Iz (ii)), (2, .ref lo), (3, .ref hi), (4, Iz (fr)), (5, Iz (0)), (6, Iz (0)), (7, Iz (lowC n C - uppC n C)), (8, .ref (cp 0))]) hx hb dX7_locate_131 hl (by decide) rfl (fun ls hl => ?_)
    refine r_loop2 (P := fun N_ ce sl H locs ls => ∃ dd_133 : Nat → Nat, ∃ nn_133 ss_133 : Nat → Int, ∃ ll_133 : Nat → Nat, ∃ gg_133 : Nat → Int → Int, ∃ v_133 : Nat → Int, ∃ t : Int, ∃ ee : Int, ∃ be : Int, ∃ up : Int, N_ = (100 - t).toNat ∧ ce = cP LB ll_133 - cP LB ll ∧ sl = 2 * (cP LB ll_133 - cP LB ll) ∧ cR LB nn_133 ss_133 ll_133 gg_133 v_133 ∧ (0 ≤ t) ∧ (t ≤ 60) ∧ (-20 ≤ be) ∧ (be ≤ 20) ∧ (-20 ≤ up) ∧ (up ≤ 20) ∧ (locP n C ii (60 - t).toNat (v_133 lo) (v_133 hi) ee be up) ∧ (∀ b : Nat, b ≠ lo → b ≠ hi → b ≠ uu → b ≠ ut → b ≠ tt → b ≠ tu → v_133 b = v b) ∧ cV dC dI cx LB (va_A (bW (cx 0) LB dd nn ss ll gg (pW cx LP pc_ pd co X)) s.heap.size) s.heap ll (pW cx LP pc_ pd co X) dd_133 nn_133 ss_133 ll_133 gg_133 H locs ∧ lv_has ls 11 [(0, .ref s0), (1, Iz (ii)), (2, .ref lo), (3, .ref hi), (5, Iz (ee)), (6, Iz (be)), (7, Iz (up)), (9, Iz (t))]) (g := fun ls => F0 m 133 ls []) (fun N_ ce sl H locs ls hI ih_133 => ?_) _ _ _ _ _ _ ⟨_, _, _, _, _, (va_up (va_up v hi (2 ^ fr.toNat)) lo (-(2 ^ fr.toNat))), 0, 0, 0, (lowC n C - uppC n C), rfl, rfl, rfl, hN, (by omega), (by omega), (by omega), (by omega), (by omega), (by omega), (by rw [va_up_self, va_up_ne _ _ (Ne.symm nlh), va_up_self, fe, show (k - 1).toNat = n by omega]; exact hL), (fun b h1 h2 _ _ _ _ => by rw [va_up_ne _ _ h1, va_up_ne _ _ h2]), hV, lv_sub hl [1, 2, 3, 4, 6, 7, 8, 0] rfl⟩
    obtain ⟨dd_133, nn_133, ss_133, ll_133, gg_133, v_133, t, ee, be, up, rfl, rfl, rfl, hN, t0_, t1_, be0, be1, up0_, up1_, hP_, cf, hV, hl⟩ := hI
    refine lv_iload hx hb dX7_locate_133 (lv_at hl 7 rfl) ?_
    refine lv_ldc (v := Int32.ofInt (100000)) hx hb hown (hts _ (List.mem_cons_of_mem _ ck_X7_131)) dX7_locate_135 ?_
    refine g_icmp_ge (tgt := 257) hx hb (by first | assumption | exact ⟨by omega, by omega⟩) (by first | assumption | exact ⟨by omega, by omega⟩) dX7_locate_137 (by decide) (fun c_137 => ?_) (fun c_137 => ?_)
    · omega
    · skip
      obtain ⟨m60, hm60⟩ : ∃ m60 : Nat, (60 - t).toNat = m60 + 1 := by
        rcases Nat.eq_zero_or_pos (60 - t).toNat with w | w
        · rw [w] at hP_; exact absurd hP_ (fun q_ => q_)
        · exact ⟨(60 - t).toNat - 1, by omega⟩
      rw [hm60] at hP_
      obtain ⟨⟨pe0, pe1, pL, pH⟩, hP2⟩ := hP_
      have m60e : (60 - (t + 1)).toNat = m60 := by omega
      have HCV : ∀ j k : Nat, j ≤ n → k ≤ n - j → v_133 (co (cp j) k) = C j k := fun j k hj hk => by rw [cf _ (clo _ (hcp j (by omega)) k (by omega)) (chi _ (hcp j (by omega)) k (by omega)) (scu_ _ (hcp j (by omega)) k (by omega)) (sct_ _ (hcp j (by omega)) k (by omega)) (sct _ (hcp j (by omega)) k (by omega)) (scu _ (hcp j (by omega)) k (by omega))]; exact hcv j k hj hk
      have s58 : (2 : Int) ^ 58 = 288230376151711744 := by decide
      have s60 : (2 : Int) ^ 60 = 1152921504606846976 := by decide
      refine r_cut (P := ¬ (be = ii ∧ up = ii + 1)) (g := F0 m 154 ls []) (fun h_154 => ?_) (fun k_154 => ?_)
      · skip
        have hJ := h_154
        refine lv_aload_n hx hb dX7_locate_154 rfl (lv_at hl 0 rfl) ?_
        refine x_get E hK hV (ci := 7) (C := RX7) (T := TX7) (N := 10) rfl w0c_in7 (pW_x hSo) 9 (by decide) rfl cf_7_31 rfl dX7_locate_155 ?_
        refine lv_aload_n hx hb dX7_locate_158 rfl (lv_at hl 2 rfl) ?_
        refine lv_aload_n hx hb dX7_locate_159 rfl (lv_at hl 3 rfl) ?_
        refine lv_iconst (v := Int32.ofInt (1)) hx hb dX7_locate_160 (by decide) ?_
        have nL := num1_le (hN _ mlo) (lt_B (b := 2) pL (by omega))
        have nH := num1_le (hN _ mhi) (lt_B (b := 2) pH (by omega))
        refine c_callv (As := [.ref lo, .ref hi, Iz (1)]) (rest := []) E (k0_join (v := v_133) (h0 := uu) (a := lo) (b := hi) (fac := 1) muu hN mlo mhi (Ne.symm slo.2.2.2.2.2) (Ne.symm shi.2.2.2.2.2) (by omega) (by omega) ⟨by decide, by decide⟩) (cwV 3 hts (cGood cl_X7_132 ci_X0_join cs_X0_join cn_RX0 cc_X0_join) rfl rfl rfl (by decide +kernel) ⟨Nat.le_of_ble_eq_true rfl, Nat.le_of_ble_eq_true rfl⟩) (b_recv hK hV muu) hK hV hA hR rfl hl.1 (Nat.le_of_ble_eq_true rfl) dX7_locate_161 (fun X161 dd161 nn161 ss161 ll161 gg161 H locs q161 hV hm161 => ?_)
        obtain ⟨e1_, hN⟩ := q161
        obtain rfl := e1_.symm
        rw [if_neg (by decide)] at hN
        refine lv_aload_n hx hb dX7_locate_164 rfl (lv_at hl 0 rfl) ?_
        refine x_get E hK hV (ci := 7) (C := RX7) (T := TX7) (N := 10) rfl w0c_in7 (pW_x hSo) 9 (by decide) rfl cf_7_31 rfl dX7_locate_165 ?_
        refine c_calli (As := []) (rest := []) E (k0_isOdd (v := (va_up v_133 uu (v_133 lo + v_133 hi))) (h0 := uu) muu hN) (cwV 0 hts (cGood cl_X7_135 ci_X0_isOdd cs_X0_isOdd cn_RX0 cc_X0_isOdd) rfl rfl rfl (by decide +kernel) ⟨Nat.le_of_ble_eq_true rfl, Nat.le_of_ble_eq_true rfl⟩) (b_recv hK hV muu) hK hV hA hR rfl hl.1 (Nat.le_of_ble_eq_true rfl) dX7_locate_168 (fun z168 X168 dd168 nn168 ss168 ll168 gg168 H locs q168 hV hm168 => ?_)
        obtain ⟨e1_, e2_, e3_, e4_, e5_, e6_, q168⟩ := q168
        obtain rfl := e1_.symm
        obtain rfl := e2_.symm
        obtain rfl := e3_.symm
        obtain rfl := e4_.symm
        obtain rfl := e5_.symm
        obtain rfl := e6_.symm
        rw [va_up_self] at q168
        subst q168
        refine g_if_eq (tgt := 192) hx hb ⟨by omega, by omega⟩ dX7_locate_171 (by decide) (fun c_171 => ?_) (fun c_171 => ?_)
        · skip
          exact k7_locate_a (l := l) (dC := dC) (dI := dI) (cx := cx) (pc_ := pc_) (pd := pd) (co := co) (dd := dd) (nn := nn) (ss := ss) (ll := ll) (gg := gg) (v := v) (cp := cp) (n := n) (lo := lo) (hi := hi) (ii := ii) (t0 := t0) (ta := ta) (tb := tb) (tq := tq) (tt := tt) (tu := tu) (tw := tw) (tm := tm) (tf := tf) (s0 := s0) (ch := ch) (ug := ug) (uh := uh) (uq := uq) (ut := ut) (uu := uu) (p := p) (e := e) (s := s) (m := m) (below := below) (meth := meth) (c := c) (s₁ := s₁) (k := k) (fr := fr) (dd111 := dd111) (nn111 := nn111) (ss111 := ss111) (ll111 := ll111) (gg111 := gg111) (dd118 := dd118) (nn118 := nn118) (ss118 := ss118) (ll118 := ll118) (gg118 := gg118) (dd123 := dd123) (nn123 := nn123) (ss123 := ss123) (ll123 := ll123) (gg123 := gg123) (dd127 := dd127) (nn127 := nn127) (ss127 := ss127) (ll127 := ll127) (gg127 := gg127) (ls := ls) (dd_133 := dd_133) (nn_133 := nn_133) (ss_133 := ss_133) (ll_133 := ll_133) (gg_133 := gg_133) (v_133 := v_133) (t := t) (ee := ee) (be := be) (up := up) (m60 := m60) (dd161 := dd161) (nn161 := nn161) (ss161 := ss161) (ll161 := ll161) (gg161 := gg161) (H := H) (locs := locs) LB LP X C hO hSo hU hTo hS hch hcp hcj hcd hcv hC hC200 mlo mhi nlh slo shi clo chi ii0 ii1 hL hml B hP hK hD0 hC0 hx hb hr hts hown hlocks E hD hA hR mta mtb mtq mtt mtu nab naq nat_ nau nbq nbt nbu nqt nqu ntu scA sca sct scu mug muh muq mUt muu ngh ngq ngt ngu nhq nht nhu nqt_ nqu_ ntu_ ucA utA scg_ sch_ scq_ sct_ scu_ hC1 hC2 hC3 hn0 hn1 hd0 hdg_ lw_ lw0 lw1 up_ up0 up1 szk blk utx k0 k1 f0 f1 fe c_33 hm111 nz118 hm118 fz123 nz123 hm123 hm127 ih_133 t0_ t1_ be0 be1 up0_ up1_ cf hl c_137 hm60 hP2 pe0 pe1 pL pH m60e HCV s58 s60 h_154 hJ nL nH hm161 hN e1_ e2_ e3_ e4_ hm168 e5_ e6_ hV c_171
        · skip
          refine lv_aload_n hx hb dX7_locate_174 rfl (lv_at hl 2 rfl) ?_
          refine lv_aload_n hx hb dX7_locate_175 rfl (lv_at hl 2 rfl) ?_
          refine lv_iconst (v := Int32.ofInt (1)) hx hb dX7_locate_176 (by decide) ?_
          have x177 : (va_up v_133 uu (v_133 lo + v_133 hi)) lo = v_133 lo := va_up_ne _ _ slo.2.2.2.2.2
          have n177 := num1_le (hN _ mlo) (t := 2) (by rw [x177]; exact lt_B pL (by omega))
          refine c_callv (As := [.ref lo, Iz (1)]) (rest := []) E (k0_raiseS (v := (va_up v_133 uu (v_133 lo + v_133 hi))) (h0 := lo) (kk := 1) mlo hN (by omega) (by omega)) (cwV 2 hts (cGood cl_X7_128 ci_X0_raise cs_X0_raise cn_RX0 cc_X0_raise) rfl rfl rfl (by decide +kernel) ⟨Nat.le_of_ble_eq_true rfl, Nat.le_of_ble_eq_true rfl⟩) (b_recv hK hV mlo) hK hV hA hR rfl hl.1 (Nat.le_of_ble_eq_true rfl) dX7_locate_177 (fun X177 dd177 nn177 ss177 ll177 gg177 H locs q177 hV hm177 => ?_)
          obtain ⟨e1_, hN⟩ := q177
          obtain rfl := e1_.symm
          rw [x177, show (2 : Int) ^ (1 : Int).toNat = 2 from rfl] at hN
          refine lv_aload_n hx hb dX7_locate_180 rfl (lv_at hl 3 rfl) ?_
          refine lv_aload_n hx hb dX7_locate_181 rfl (lv_at hl 3 rfl) ?_
          refine lv_iconst (v := Int32.ofInt (1)) hx hb dX7_locate_182 (by decide) ?_
          have x183 : (va_up (va_up v_133 uu (v_133 lo + v_133 hi)) lo (v_133 lo * 2)) hi = v_133 hi := by rw [va_up_ne _ _ (Ne.symm nlh), va_up_ne _ _ shi.2.2.2.2.2]
          have n183 := num1_le (hN _ mhi) (t := 2) (by rw [x183]; exact lt_B pH (by omega))
          refine c_callv (As := [.ref hi, Iz (1)]) (rest := []) E (k0_raiseS (v := (va_up (va_up v_133 uu (v_133 lo + v_133 hi)) lo (v_133 lo * 2))) (h0 := hi) (kk := 1) mhi hN (by omega) (by omega)) (cwV 2 hts (cGood cl_X7_128 ci_X0_raise cs_X0_raise cn_RX0 cc_X0_raise) rfl rfl rfl (by decide +kernel) ⟨Nat.le_of_ble_eq_true rfl, Nat.le_of_ble_eq_true rfl⟩) (b_recv hK hV mhi) hK hV hA hR rfl hl.1 (Nat.le_of_ble_eq_true rfl) dX7_locate_183 (fun X183 dd183 nn183 ss183 ll183 gg183 H locs q183 hV hm183 => ?_)
          obtain ⟨e1_, hN⟩ := q183
          obtain rfl := e1_.symm
          rw [x183, show (2 : Int) ^ (1 : Int).toNat = 2 from rfl] at hN
          have ev_ : (v_133 lo + v_133 hi) % 2 = 1 := by omega
          have hP3 := (hP2 hJ).1 ev_
          refine g_iinc (k := 4) (z := ee) (n := (1)) (lv' := [(5, Iz (ee + 1)), (0, .ref s0), (1, Iz (ii)), (2, .ref lo), (3, .ref hi), (6, Iz (be)), (7, Iz (up)), (9, Iz (t))]) hx hb dX7_locate_186 hl rfl (by decide) rfl (fun ls hl => ?_)
          refine lv_goto (tgt := 205) hx hb dX7_locate_189 (by decide) ?_
          refine lv_aload_n hx hb dX7_locate_205 rfl (lv_at hl 1 rfl) ?_
          refine lv_aload_n hx hb dX7_locate_206 rfl (lv_at hl 1 rfl) ?_
          refine x_get E hK hV (ci := 7) (C := RX7) (T := TX7) (N := 10) rfl w0c_in7 (pW_x hSo) 9 (by decide) rfl cf_7_31 rfl dX7_locate_207 ?_
          refine lv_null hx hb dX7_locate_210 ?_
          refine lv_iload hx hb dX7_locate_211 (lv_at hl 0 rfl) ?_
          have X213 : ∃ y : Int, (va_up (va_up (va_up v_133 uu (v_133 lo + v_133 hi)) lo (v_133 lo * 2)) hi (v_133 hi * 2)) uu = y ∧ (y.natAbs : Int) < 2 ^ 60 := ⟨_, rfl, by first | (rw [va_up_ne _ _ (Ne.symm shi.2.2.2.2.2), va_up_ne _ _ (Ne.symm slo.2.2.2.2.2), va_up_self]; omega) | (rw [va_up_self]; omega)⟩
          obtain ⟨y, hy, hy60⟩ := X213
          have H213 : ∀ j k : Nat, j ≤ n → k ≤ n - j → (va_up (va_up (va_up v_133 uu (v_133 lo + v_133 hi)) lo (v_133 lo * 2)) hi (v_133 hi * 2)) (co (cp j) k) = C j k := fun j k hj hk => by
            have z1 := clo _ (hcp j (by omega)) k (by omega)
            have z2 := chi _ (hcp j (by omega)) k (by omega)
            have z3 := scu_ _ (hcp j (by omega)) k (by omega)
            first
            | (rw [va_up_ne _ _ z2, va_up_ne _ _ z1, va_up_ne _ _ z3]; exact HCV j k hj hk)
            | (rw [va_up_ne _ _ z3]; exact HCV j k hj hk)
          refine c_calli (As := [.ref uu, .null, Iz (ee + 1)]) (rest := []) E (k7_upTo (v := (va_up (va_up (va_up v_133 uu (v_133 lo + v_133 hi)) lo (v_133 lo * 2)) hi (v_133 hi * 2))) (cp := cp) (x := uu) (ex_ := (ee + 1)) hO hN hSo hU hTo hS hch hcp hdg_ (by omega) (by omega) muu ntu_ (Ne.symm utx.1) (Ne.symm utx.2) (by omega) (by omega) lw0 lw1 (fun j hj m hm => by rw [hcd j (by omega), show ((n : Int) - j).toNat = n - j by omega] at hm ⊢; exact evP_80 (by rw [hy]; exact hy60) (by omega) (by omega) (fun k hk => by have h_ := hC200 j k (by omega) (by omega); rw [← H213 j k (by omega) (by omega)] at h_; exact h_) (by omega) m (by omega)) (lt_B (by rw [hy]; exact hy60) (by omega)) (fun j hj k hk => by rw [hcd j (by omega)] at hk; rw [H213 j k (by omega) (by omega)]; exact lt_B (hC200 j k (by omega) (by omega)) (by omega))) (cwV 3 hts (cGood cl_X7_143 ci_X7_upTo cs_X7_upTo cn_RX7 cc_X7_upTo) rfl rfl rfl (by decide +kernel) ⟨Nat.le_of_ble_eq_true rfl, Nat.le_of_ble_eq_true rfl⟩) (x_recv (q := (RX7, TX7, 10)) hK hV (ci := 7) rfl (pW_x hSo)) hK hV hA hR rfl hl.1 (Nat.le_of_ble_eq_true rfl) dX7_locate_213 (fun z213 X213 dd213 nn213 ss213 ll213 gg213 H locs q213 hV hm213 => ?_)
          obtain ⟨v213, e1_, hN, vz213, vo213⟩ := q213
          obtain rfl := e1_.symm
          rw [up_eq hcd H213, hy] at vz213
          have vu213 : v213 uu = y := (vo213 uu (Ne.symm ntu_) utx.1 utx.2).trans hy
          have hb213 := upV_bd n C y (ee + 1)
          rw [← vz213] at hb213
          have y3 : y = (if (v_133 lo + v_133 hi) % 2 = 1 then v_133 lo + v_133 hi else (v_133 lo + v_133 hi) / 2) := by
            rw [← hy]
            first
            | (rw [if_pos ev_, va_up_ne _ _ (Ne.symm shi.2.2.2.2.2), va_up_ne _ _ (Ne.symm slo.2.2.2.2.2), va_up_self]; done)
            | (rw [if_neg (by omega), va_up_self]; done)
          first | rw [if_pos ev_] at y3 | rw [if_neg (by omega)] at y3
          refine lv_istore (lv' := [(10, Iz (z213)), (5, Iz (ee + 1)), (0, .ref s0), (1, Iz (ii)), (2, .ref lo), (3, .ref hi), (6, Iz (be)), (7, Iz (up)), (9, Iz (t))]) hx hb dX7_locate_216 hl (by decide) rfl (fun ls hl => ?_)
          refine lv_iload hx hb dX7_locate_218 (lv_at hl 0 rfl) ?_
          refine lv_iload_n hx hb dX7_locate_220 rfl (lv_at hl 3 rfl) ?_
          refine g_icmp_le (tgt := 239) hx hb (by first | assumption | exact ⟨by omega, by omega⟩) (by first | assumption | exact ⟨by omega, by omega⟩) dX7_locate_221 (by decide) (fun c_221 => ?_) (fun c_221 => ?_)
          · skip
            refine lv_aload_n hx hb dX7_locate_239 rfl (lv_at hl 4 rfl) ?_
            refine lv_aload_n hx hb dX7_locate_240 rfl (lv_at hl 2 rfl) ?_
            refine x_get E hK hV (ci := 7) (C := RX7) (T := TX7) (N := 10) rfl w0c_in7 (pW_x hSo) 9 (by decide) rfl cf_7_31 rfl dX7_locate_241 ?_
            have n244 := num1_le (hN _ muu) (t := 2) (by rw [vu213]; exact lt_B hy60 (by omega))
            refine c_callv (As := [.ref uu]) (rest := []) E (k0_copy (v := v213) (h0 := lo) (a := uu) mlo hN muu slo.2.2.2.2.2 (by omega)) (cwV 1 hts (cGood cl_X7_72 ci_X0_copy cs_X0_copy cn_RX0 cc_X0_copy) rfl rfl rfl (by decide +kernel) ⟨Nat.le_of_ble_eq_true rfl, Nat.le_of_ble_eq_true rfl⟩) (b_recv hK hV mlo) hK hV hA hR rfl hl.1 (Nat.le_of_ble_eq_true rfl) dX7_locate_244 (fun X244 dd244 nn244 ss244 ll244 gg244 H locs q244 hV hm244 => ?_)
            obtain ⟨e1_, hN⟩ := q244
            obtain rfl := e1_.symm
            rw [vu213] at hN
            refine lv_iload hx hb dX7_locate_247 (lv_at hl 0 rfl) ?_
            refine lv_istore (lv' := [(6, Iz (z213)), (10, Iz (z213)), (5, Iz (ee + 1)), (0, .ref s0), (1, Iz (ii)), (2, .ref lo), (3, .ref hi), (7, Iz (up)), (9, Iz (t))]) hx hb dX7_locate_249 hl (by decide) rfl (fun ls hl => ?_)
            refine g_iinc (k := 8) (z := t) (n := (1)) (lv' := [(9, Iz (t + 1)), (6, Iz (z213)), (10, Iz (z213)), (5, Iz (ee + 1)), (0, .ref s0), (1, Iz (ii)), (2, .ref lo), (3, .ref hi), (7, Iz (up))]) hx hb dX7_locate_251 hl rfl (by decide) rfl (fun ls hl => ?_)
            refine lv_goto (tgt := 133) hx hb dX7_locate_254 (by decide) ?_
            exact ih_133 _ (by omega) _ _ _ _ _ ⟨_, _, _, _, _, (va_up v213 lo y), (t + 1), (ee + 1), z213, up, rfl, rfl, rfl, hN, (by omega), (by omega), (by omega), (by omega), (by omega), (by omega), (by
                      rw [m60e]
                      first
                      | (rw [va_up_self, va_up_ne _ _ nlh, vo213 lo slo.2.2.2.2.1 slo.1.2.2.2.1 slo.1.2.2.2.2, va_up_ne _ _ nlh, va_up_self, vz213, y3]; exact hP3.1 (by rw [← y3, ← vz213]; omega))
                      | (rw [va_up_self, va_up_ne _ _ (Ne.symm nlh), vo213 hi shi.2.2.2.2.1 shi.1.2.2.2.1 shi.1.2.2.2.2, va_up_self, vz213, y3]; exact hP3.2 (by rw [← y3, ← vz213]; omega))
                      | (rw [va_up_self, va_up_ne _ _ nlh, vo213 lo slo.2.2.2.2.1 slo.1.2.2.2.1 slo.1.2.2.2.2, va_up_ne _ _ slo.2.2.2.2.2, vz213, y3]; exact hP3.1 (by rw [← y3, ← vz213]; omega))
                      | (rw [va_up_self, va_up_ne _ _ (Ne.symm nlh), vo213 hi shi.2.2.2.2.1 shi.1.2.2.2.1 shi.1.2.2.2.2, va_up_ne _ _ shi.2.2.2.2.2, vz213, y3]; exact hP3.2 (by rw [← y3, ← vz213]; omega))), (fun b h1 h2 h3 h4 h5 h6 => by
                      first
                      | (rw [va_up_ne _ _ h2, vo213 b h4 h5 h6, va_up_ne _ _ h2, va_up_ne _ _ h1, va_up_ne _ _ h3]; exact cf b h1 h2 h3 h4 h5 h6)
                      | (rw [va_up_ne _ _ h1, vo213 b h4 h5 h6, va_up_ne _ _ h2, va_up_ne _ _ h1, va_up_ne _ _ h3]; exact cf b h1 h2 h3 h4 h5 h6)
                      | (rw [va_up_ne _ _ h2, vo213 b h4 h5 h6, va_up_ne _ _ h3]; exact cf b h1 h2 h3 h4 h5 h6)
                      | (rw [va_up_ne _ _ h1, vo213 b h4 h5 h6, va_up_ne _ _ h3]; exact cf b h1 h2 h3 h4 h5 h6)), hV, lv_sub hl [4, 5, 6, 7, 3, 1, 8, 0] rfl⟩
          · skip
            refine lv_aload_n hx hb dX7_locate_224 rfl (lv_at hl 5 rfl) ?_
            refine lv_aload_n hx hb dX7_locate_225 rfl (lv_at hl 2 rfl) ?_
            refine x_get E hK hV (ci := 7) (C := RX7) (T := TX7) (N := 10) rfl w0c_in7 (pW_x hSo) 9 (by decide) rfl cf_7_31 rfl dX7_locate_226 ?_
            have n229 := num1_le (hN _ muu) (t := 2) (by rw [vu213]; exact lt_B hy60 (by omega))
            refine c_callv (As := [.ref uu]) (rest := []) E (k0_copy (v := v213) (h0 := hi) (a := uu) mhi hN muu shi.2.2.2.2.2 (by omega)) (cwV 1 hts (cGood cl_X7_72 ci_X0_copy cs_X0_copy cn_RX0 cc_X0_copy) rfl rfl rfl (by decide +kernel) ⟨Nat.le_of_ble_eq_true rfl, Nat.le_of_ble_eq_true rfl⟩) (b_recv hK hV mhi) hK hV hA hR rfl hl.1 (Nat.le_of_ble_eq_true rfl) dX7_locate_229 (fun X229 dd229 nn229 ss229 ll229 gg229 H locs q229 hV hm229 => ?_)
            obtain ⟨e1_, hN⟩ := q229
            obtain rfl := e1_.symm
            rw [vu213] at hN
            refine lv_iload hx hb dX7_locate_232 (lv_at hl 0 rfl) ?_
            refine lv_istore (lv' := [(7, Iz (z213)), (10, Iz (z213)), (5, Iz (ee + 1)), (0, .ref s0), (1, Iz (ii)), (2, .ref lo), (3, .ref hi), (6, Iz (be)), (9, Iz (t))]) hx hb dX7_locate_234 hl (by decide) rfl (fun ls hl => ?_)
            refine lv_goto (tgt := 251) hx hb dX7_locate_236 (by decide) ?_
            refine g_iinc (k := 8) (z := t) (n := (1)) (lv' := [(9, Iz (t + 1)), (7, Iz (z213)), (10, Iz (z213)), (5, Iz (ee + 1)), (0, .ref s0), (1, Iz (ii)), (2, .ref lo), (3, .ref hi), (6, Iz (be))]) hx hb dX7_locate_251 hl rfl (by decide) rfl (fun ls hl => ?_)
            refine lv_goto (tgt := 133) hx hb dX7_locate_254 (by decide) ?_
            exact ih_133 _ (by omega) _ _ _ _ _ ⟨_, _, _, _, _, (va_up v213 hi y), (t + 1), (ee + 1), be, z213, rfl, rfl, rfl, hN, (by omega), (by omega), (by omega), (by omega), (by omega), (by omega), (by
                      rw [m60e]
                      first
                      | (rw [va_up_self, va_up_ne _ _ nlh, vo213 lo slo.2.2.2.2.1 slo.1.2.2.2.1 slo.1.2.2.2.2, va_up_ne _ _ nlh, va_up_self, vz213, y3]; exact hP3.1 (by rw [← y3, ← vz213]; omega))
                      | (rw [va_up_self, va_up_ne _ _ (Ne.symm nlh), vo213 hi shi.2.2.2.2.1 shi.1.2.2.2.1 shi.1.2.2.2.2, va_up_self, vz213, y3]; exact hP3.2 (by rw [← y3, ← vz213]; omega))
                      | (rw [va_up_self, va_up_ne _ _ nlh, vo213 lo slo.2.2.2.2.1 slo.1.2.2.2.1 slo.1.2.2.2.2, va_up_ne _ _ slo.2.2.2.2.2, vz213, y3]; exact hP3.1 (by rw [← y3, ← vz213]; omega))
                      | (rw [va_up_self, va_up_ne _ _ (Ne.symm nlh), vo213 hi shi.2.2.2.2.1 shi.1.2.2.2.1 shi.1.2.2.2.2, va_up_ne _ _ shi.2.2.2.2.2, vz213, y3]; exact hP3.2 (by rw [← y3, ← vz213]; omega))), (fun b h1 h2 h3 h4 h5 h6 => by
                      first
                      | (rw [va_up_ne _ _ h2, vo213 b h4 h5 h6, va_up_ne _ _ h2, va_up_ne _ _ h1, va_up_ne _ _ h3]; exact cf b h1 h2 h3 h4 h5 h6)
                      | (rw [va_up_ne _ _ h1, vo213 b h4 h5 h6, va_up_ne _ _ h2, va_up_ne _ _ h1, va_up_ne _ _ h3]; exact cf b h1 h2 h3 h4 h5 h6)
                      | (rw [va_up_ne _ _ h2, vo213 b h4 h5 h6, va_up_ne _ _ h3]; exact cf b h1 h2 h3 h4 h5 h6)
                      | (rw [va_up_ne _ _ h1, vo213 b h4 h5 h6, va_up_ne _ _ h3]; exact cf b h1 h2 h3 h4 h5 h6)), hV, lv_sub hl [4, 5, 6, 7, 3, 8, 1, 0] rfl⟩
      · skip
        refine lv_iload hx hb dX7_locate_140 (lv_at hl 5 rfl) ?_
        refine lv_iload_n hx hb dX7_locate_142 rfl (lv_at hl 1 rfl) ?_
        refine g_icmp_ne (tgt := 154) hx hb (by first | assumption | exact ⟨by omega, by omega⟩) (by first | assumption | exact ⟨by omega, by omega⟩) dX7_locate_143 (by decide) (fun c_143 => ?_) (fun c_143 => ?_)
        · skip
          exact k_154 (fun q_ => by omega)
        · skip
          refine lv_iload hx hb dX7_locate_146 (lv_at hl 6 rfl) ?_
          refine lv_iload_n hx hb dX7_locate_148 rfl (lv_at hl 1 rfl) ?_
          refine lv_iconst (v := Int32.ofInt (1)) hx hb dX7_locate_149 (by decide) ?_
          refine g_iadd hx hb dX7_locate_150 ?_
          refine g_icmp_eq (tgt := 257) hx hb (by first | assumption | exact ⟨by omega, by omega⟩) (by first | assumption | exact ⟨by omega, by omega⟩) dX7_locate_151 (by decide) (fun c_151 => ?_) (fun c_151 => ?_)
          · skip
            refine lv_iload hx hb dX7_locate_257 (lv_at hl 4 rfl) ?_
            have hpost : ∃ v' : Nat → Int, (pW cx LP pc_ pd co X) = (pW cx LP pc_ pd co X) ∧ cR LB nn_133 ss_133 ll_133 gg_133 v' ∧ 0 ≤ (ee : Int) ∧ (ee : Int) ≤ 58 ∧ ((v' lo).natAbs : Int) < 2 ^ 58 ∧ ∀ b : Nat, b ≠ lo → b ≠ hi → b ≠ uu → b ≠ ut → b ≠ tt → b ≠ tu → v' b = v b := ⟨_, rfl, hN, by omega, by omega, by omega, cf⟩
            exact c_iret hx hb hr hK hV hpost dX7_locate_259 hlocks
          · skip
            exact k_154 (fun q_ => by omega)
  · skip
    have k36 := blk (n - k.toNat) (by omega)
    have n36 := blk n (by omega)
    refine lv_aload hx hb dX7_locate_36 (lv_at hl 8 rfl) ?_
    refine y_getc E hK hV (hcp 0 (by omega)) cf_7_68 dX7_locate_38 ?_
    refine lv_aload hx hb dX7_locate_41 (lv_at hl 8 rfl) ?_
    refine y_getdeg E hK hV (hcp 0 (by omega)) rfl cf_7_49 dX7_locate_43 ?_
    refine lv_iload hx hb dX7_locate_46 (lv_at hl 9 rfl) ?_
    refine g_isub hx hb dX7_locate_48 ?_
    refine y_aald hx hb hK hV (hcp 0 (by omega)) (by omega) (by omega) dX7_locate_49 ?_
    refine c_calli (As := []) (rest := []) E (k0_size (v := v) (h0 := (co (cp 0) ((pd (cp 0)) - k).toNat)) (hO.1 (cp 0) (hcp 0 (by omega)) _ (by omega)) hN) (cwV 0 hts (cGood cl_X7_117 ci_X0_size cs_X0_size cn_RX0 cc_X0_size) rfl rfl rfl (by decide +kernel) ⟨Nat.le_of_ble_eq_true rfl, Nat.le_of_ble_eq_true rfl⟩) (b_recv hK hV (hO.1 (cp 0) (hcp 0 (by omega)) _ (by omega))) hK hV hA hR rfl hl.1 (Nat.le_of_ble_eq_true rfl) dX7_locate_50 (fun z50 X50 dd50 nn50 ss50 ll50 gg50 H locs q50 hV hm50 => ?_)
    obtain ⟨e1_, e2_, e3_, e4_, e5_, e6_, q50⟩ := q50
    obtain rfl := e1_.symm
    obtain rfl := e2_.symm
    obtain rfl := e3_.symm
    obtain rfl := e4_.symm
    obtain rfl := e5_.symm
    obtain rfl := e6_.symm
    rw [show (pd (cp 0) - k).toNat = n - k.toNat by omega, hcv 0 _ (by omega) (by omega)] at q50
    subst q50
    refine lv_aload hx hb dX7_locate_53 (lv_at hl 8 rfl) ?_
    refine c_callr (As := []) (rest := [Iz (bl (C 0 (n - k.toNat)))]) E (k4_lead (p0 := cp 0) (hcp 0 (by omega)) (by omega) (by omega)) (cwV 0 hts (cGood cl_X7_82 ci_X4_lead cs_X4_lead cn_RX4 cc_X4_lead) rfl rfl rfl (by decide +kernel) ⟨Nat.le_of_ble_eq_true rfl, Nat.le_of_ble_eq_true rfl⟩) (y_recv hK hV (hcp 0 (by omega))) hK hV hA hR rfl hl.1 (Nat.le_of_ble_eq_true rfl) dX7_locate_55 (fun a55 X55 dd55 nn55 ss55 ll55 gg55 H locs q55 hV hm55 => ?_)
    obtain ⟨e1_, e2_, e3_, e4_, e5_, e6_, q55⟩ := q55
    obtain rfl := e1_.symm
    obtain rfl := e2_.symm
    obtain rfl := e3_.symm
    obtain rfl := e4_.symm
    obtain rfl := e5_.symm
    obtain rfl := e6_.symm
    rw [hd0, Int.toNat_natCast] at q55
    subst q55
    refine c_calli (As := []) (rest := [Iz (bl (C 0 (n - k.toNat)))]) E (k0_size (v := v) (h0 := (co (cp 0) n)) (hO.1 (cp 0) (hcp 0 (by omega)) _ (by omega)) hN) (cwV 0 hts (cGood cl_X7_117 ci_X0_size cs_X0_size cn_RX0 cc_X0_size) rfl rfl rfl (by decide +kernel) ⟨Nat.le_of_ble_eq_true rfl, Nat.le_of_ble_eq_true rfl⟩) (b_recv hK hV (hO.1 (cp 0) (hcp 0 (by omega)) _ (by omega))) hK hV hA hR rfl hl.1 (Nat.le_of_ble_eq_true rfl) dX7_locate_58 (fun z58 X58 dd58 nn58 ss58 ll58 gg58 H locs q58 hV hm58 => ?_)
    obtain ⟨e1_, e2_, e3_, e4_, e5_, e6_, q58⟩ := q58
    obtain rfl := e1_.symm
    obtain rfl := e2_.symm
    obtain rfl := e3_.symm
    obtain rfl := e4_.symm
    obtain rfl := e5_.symm
    obtain rfl := e6_.symm
    rw [hcv 0 _ (by omega) (by omega)] at q58
    subst q58
    refine g_isub hx hb dX7_locate_61 ?_
    refine lv_iconst (v := Int32.ofInt (1)) hx hb dX7_locate_62 (by decide) ?_
    refine g_iadd hx hb dX7_locate_63 ?_
    refine lv_istore (lv' := [(10, Iz (((bl (C 0 (n - k.toNat))) - (bl (C 0 n))) + 1)), (0, .ref s0), (1, Iz (ii)), (2, .ref lo), (3, .ref hi), (4, Iz (fr)), (5, Iz (0)), (6, Iz (0)), (7, Iz (lowC n C - uppC n C)), (8, .ref (cp 0)), (9, Iz (k))]) hx hb dX7_locate_64 hl (by decide) rfl (fun ls hl => ?_)
    refine lv_aload hx hb dX7_locate_66 (lv_at hl 9 rfl) ?_
    refine y_getc E hK hV (hcp 0 (by omega)) cf_7_68 dX7_locate_68 ?_
    refine lv_aload hx hb dX7_locate_71 (lv_at hl 9 rfl) ?_
    refine y_getdeg E hK hV (hcp 0 (by omega)) rfl cf_7_49 dX7_locate_73 ?_
    refine lv_iload hx hb dX7_locate_76 (lv_at hl 10 rfl) ?_
    refine g_isub hx hb dX7_locate_78 ?_
    refine y_aald hx hb hK hV (hcp 0 (by omega)) (by omega) (by omega) dX7_locate_79 ?_
    refine t_gets E hK hV (hO.1 (cp 0) (hcp 0 (by omega)) _ (by omega)) rfl cf_7_104 dX7_locate_80 ?_
    have sg80 := (num1_sg (hN (co (cp 0) (pd (cp 0) - k).toNat) (hO.1 _ (hcp 0 (by omega)) _ (by omega)))).trans (congrArg sg (show v (co (cp 0) (pd (cp 0) - k).toNat) = C 0 (n - k.toNat) from by rw [show (pd (cp 0) - k).toNat = n - k.toNat by omega, hcv 0 _ (by omega) (by omega)]))
    have sb80 := sg_bd (C 0 (n - k.toNat))
    have sz80 := sg_zero (V := C 0 (n - k.toNat))
    refine g_if_eq (tgt := 103) hx hb ⟨by omega, by omega⟩ dX7_locate_83 (by decide) (fun c_83 => ?_) (fun c_83 => ?_)
    · skip
      refine g_iinc (k := 10) (z := k) (n := (1)) (lv' := [(9, Iz (k + 1)), (10, Iz (((bl (C 0 (n - k.toNat))) - (bl (C 0 n))) + 1)), (0, .ref s0), (1, Iz (ii)), (2, .ref lo), (3, .ref hi), (4, Iz (fr)), (5, Iz (0)), (6, Iz (0)), (7, Iz (lowC n C - uppC n C)), (8, .ref (cp 0))]) hx hb dX7_locate_103 hl rfl (by decide) rfl (fun ls hl => ?_)
      refine lv_goto (tgt := 26) hx hb dX7_locate_106 (by decide) ?_
      exact ih_26 _ (by omega) _ _ _ ⟨(k + 1), fr, rfl, (by omega), (by omega), (by first | omega | (rw [efr2]; split <;> omega)), (by first | omega | (rw [efr2]; split <;> omega)), (by
                rw [show (k + 1 - 1).toNat = (k - 1).toNat + 1 by omega]
                show _ = (if C 0 (n - ((k - 1).toNat + 1)) = 0 then farF n (C 0) (k - 1).toNat else if farF n (C 0) (k - 1).toNat < 1 - -(bl (C 0 (n - ((k - 1).toNat + 1))) - bl (C 0 n) + 1) / ((((k - 1).toNat : Nat) : Int) + 1) then 1 - -(bl (C 0 (n - ((k - 1).toNat + 1))) - bl (C 0 n) + 1) / ((((k - 1).toNat : Nat) : Int) + 1) else farF n (C 0) (k - 1).toNat)
                rw [show (k - 1).toNat + 1 = k.toNat by omega, show (((k - 1).toNat : Nat) : Int) + 1 = k by omega, ← fe]
                first
                | (rw [if_pos (sz80.mp (by omega))]; done)
                | (rw [if_neg (fun q_ => by have := sz80.mpr q_; omega)]; exact efr2)), hV, lv_sub hl [2, 3, 4, 5, 6, 7, 8, 9, 10, 0] rfl⟩
    · skip
      have dv := dv_bd (x := -(bl (C 0 (n - k.toNat)) - bl (C 0 n) + 1)) (k := k) (M := 300) (by omega) (by omega) (by omega) (by omega)
      refine lv_iload hx hb dX7_locate_86 (lv_at hl 5 rfl) ?_
      refine lv_iconst (v := Int32.ofInt (1)) hx hb dX7_locate_88 (by decide) ?_
      refine lv_iload hx hb dX7_locate_89 (lv_at hl 0 rfl) ?_
      refine g_ineg hx hb dX7_locate_91 ?_
      refine lv_iload hx hb dX7_locate_92 (lv_at hl 10 rfl) ?_
      refine c_callsi (As := [Iz (-(((bl (C 0 (n - k.toNat))) - (bl (C 0 n))) + 1)), Iz (k)]) (rest := [Iz (1), Iz (fr)]) E (kJ9_floorDiv_7cf53 (by omega) (by omega) (by omega) (by omega)) (c_cwS 2 hts cl_X7_121 ct_J9_floorDiv_7cf53 cn_RJ9 cc_J9_floorDiv_7cf53 rfl rfl (by decide +kernel) ⟨Nat.le_of_ble_eq_true rfl, Nat.le_of_ble_eq_true rfl⟩) hK hV hA hR rfl hl.1 (Nat.le_of_ble_eq_true rfl) dX7_locate_94 (fun z94 X94 dd94 nn94 ss94 ll94 gg94 H locs q94 hV hm94 => ?_)
      obtain ⟨e1_, e2_, e3_, e4_, e5_, e6_, q94⟩ := q94
      obtain rfl := e1_.symm
      obtain rfl := e2_.symm
      obtain rfl := e3_.symm
      obtain rfl := e4_.symm
      obtain rfl := e5_.symm
      obtain rfl := e6_.symm
      subst q94
      refine g_isub hx hb dX7_locate_97 ?_
      refine g_max E hl.1 cl_X7_125 (Nat.le_of_ble_eq_true rfl) (Nat.le_of_ble_eq_true rfl) (c_room hV hR).1 (c_room hV hR).2 (by first | assumption | exact ⟨by omega, by omega⟩) (by first | assumption | exact ⟨by omega, by omega⟩) dX7_locate_98 ?_
      obtain ⟨fr2, efr2⟩ : ∃ fr2 : Int, fr2 = (if fr < 1 - (-(bl (C 0 (n - k.toNat)) - bl (C 0 n) + 1) / k) then 1 - (-(bl (C 0 (n - k.toNat)) - bl (C 0 n) + 1) / k) else fr) := ⟨_, rfl⟩
      rw [← efr2]
      refine lv_istore (lv' := [(4, Iz (fr2)), (10, Iz (((bl (C 0 (n - k.toNat))) - (bl (C 0 n))) + 1)), (0, .ref s0), (1, Iz (ii)), (2, .ref lo), (3, .ref hi), (5, Iz (0)), (6, Iz (0)), (7, Iz (lowC n C - uppC n C)), (8, .ref (cp 0)), (9, Iz (k))]) hx hb dX7_locate_101 hl (by decide) rfl (fun ls hl => ?_)
      refine g_iinc (k := 10) (z := k) (n := (1)) (lv' := [(9, Iz (k + 1)), (4, Iz (fr2)), (10, Iz (((bl (C 0 (n - k.toNat))) - (bl (C 0 n))) + 1)), (0, .ref s0), (1, Iz (ii)), (2, .ref lo), (3, .ref hi), (5, Iz (0)), (6, Iz (0)), (7, Iz (lowC n C - uppC n C)), (8, .ref (cp 0))]) hx hb dX7_locate_103 hl rfl (by decide) rfl (fun ls hl => ?_)
      refine lv_goto (tgt := 26) hx hb dX7_locate_106 (by decide) ?_
      exact ih_26 _ (by omega) _ _ _ ⟨(k + 1), fr2, rfl, (by omega), (by omega), (by first | omega | (rw [efr2]; split <;> omega)), (by first | omega | (rw [efr2]; split <;> omega)), (by
                rw [show (k + 1 - 1).toNat = (k - 1).toNat + 1 by omega]
                show _ = (if C 0 (n - ((k - 1).toNat + 1)) = 0 then farF n (C 0) (k - 1).toNat else if farF n (C 0) (k - 1).toNat < 1 - -(bl (C 0 (n - ((k - 1).toNat + 1))) - bl (C 0 n) + 1) / ((((k - 1).toNat : Nat) : Int) + 1) then 1 - -(bl (C 0 (n - ((k - 1).toNat + 1))) - bl (C 0 n) + 1) / ((((k - 1).toNat : Nat) : Int) + 1) else farF n (C 0) (k - 1).toNat)
                rw [show (k - 1).toNat + 1 = k.toNat by omega, show (((k - 1).toNat : Nat) : Int) + 1 = k by omega, ← fe]
                first
                | (rw [if_pos (sz80.mp (by omega))]; done)
                | (rw [if_neg (fun q_ => by have := sz80.mpr q_; omega)]; exact efr2)), hV, lv_sub hl [3, 4, 5, 6, 1, 7, 8, 9, 10, 0] rfl⟩
