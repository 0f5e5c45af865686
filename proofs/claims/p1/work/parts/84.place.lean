set_option maxHeartbeats 4000000 in
set_option maxRecDepth 100000 in
theorem k11_finish {l : Launch} {dC : Nat → ClassId} {dI : Nat → Nat → Nat} {cx : Nat → Nat} {LB : List Nat} {LP : List Nat} {pc_ : Nat → Nat} {pd : Nat → Int} {co : Nat → Nat → Nat} {X : va_W} {dd : Nat → Nat} {nn ss : Nat → Int} {ll : Nat → Nat} {gg : Nat → Int → Int} {H0 : Heap} {v : Nat → Int} {cp : Nat → Nat} {n : Nat} {C : Nat → Nat → Int} {ar nu tol pi_ ti_ fr stk no pa zo tx bu bv bw bs le rl rh : Nat} {mo re rp_ rc rs : Int} {t0 ta tb tq tt tu tw tm : Nat} {tf : Int}{s0 ch ug uh uq ut uu : Nat}  (hAr : (ar, (.inr (11, [Iz (mo), .ref nu, Iz (0), .ref tol, Iz (0), .ref pi_, .ref ti_, Iz (0), .ref fr, .ref stk, .ref t0, .ref no, .ref pa, .ref s0, .ref zo, .ref tx, .ref bu, .ref bv, .ref bw, .ref bs]) : va_E)) ∈ X) (h_fr : (fr, (.inr (5, [.ref le, .ref rl, .ref rh, Iz re, Iz rp_, Iz rc, Iz rs]) : va_E)) ∈ X) (hO : pOK LB LP co) (hN : cR LB nn ss ll gg v) (h_s0 : (s0, (.inr (7, [Iz (lowC n C - uppC n C), .ref t0, .ref ch, Iz ((n : Int) + 1), Iz (lowC n C), .ref ug, .ref uh, .ref uq, .ref ut, .ref uu]) : va_E)) ∈ X) (hU : uOK LB LP co ta tb tq tt tu ug uh uq ut uu) (hTo : (t0, (.inr (9, [.ref ta, .ref tb, .ref tq, .ref tt, .ref tu, .ref tw, .ref tm, Iz tf]) : va_E)) ∈ X) (hS : tOK LB LP co ta tb tq tt tu) (h_ch : (ch, (.inl (cx 3, 14, .inr (.inr (.inr (.inr (fun i => some (cp i)))))) : va_E)) ∈ X) (hcp : ∀ i : Nat, i < 14 → cp i ∈ LP) (hcj : ∀ i j : Nat, i < 14 → j < 14 → cp i = cp j → i = j) (hcd : ∀ j : Nat, j ≤ n → pd (cp j) = (n : Int) - j) (hcv : ∀ j k : Nat, j ≤ n → k ≤ n - j → v (co (cp j) k) = C j k) (hC : chOK n C) (hC200 : ∀ j k : Nat, j ≤ n → k ≤ n - j → ((C j k).natAbs : Int) < 2 ^ 200) (mrl : rl ∈ LB) (srl : LOK ta tb tq tt tu ug uh uq ut uu rl) (crl : ∀ p ∈ LP, ∀ i : Nat, i < 13 → co p i ≠ rl) (mbu : bu ∈ LB) (sbu : LOK ta tb tq tt tu ug uh uq ut uu bu) (cbu : ∀ p ∈ LP, ∀ i : Nat, i < 13 → co p i ≠ bu) (re0 : 0 ≤ re) (re1 : re ≤ 58) (vlo : ((v rl).natAbs : Int) < 2 ^ 58) : Met l yX11_finish (Cond.code yX11_finish cX11_finish 1 none :: w0c) (eRm 5 142 LB ll 0 0) (cPc dC dI cx LB (pW cx LP pc_ pd co X) dd nn ss ll gg H0 [.ref ar]) (eQv dC dI cx LB (va_A (bW (cx 0) LB dd nn ss ll gg (pW cx LP pc_ pd co X)) H0.size) ll H0 0 0 (fun X' dd' nn' ss' ll' gg' => ∃ (v' : Nat → Int) (X2' : va_W) (a1 a2 a3 a4 : Int), X' = pW cx LP pc_ pd co X2' ∧ cR LB nn' ss' ll' gg' v' ∧ (fr, (.inr (5, [.ref le, .ref rl, .ref rh, Iz a1, Iz a2, Iz a3, Iz a4]) : va_E)) ∈ X2' ∧ (∀ q ∈ X, q.1 ≠ fr → q ∈ X2'))) (cMc LB ll + 0) (2 * cMc LB ll + 0) (va_A (bW (cx 0) LB dd nn ss ll gg (pW cx LP pc_ pd co X)) H0.size) := by
  refine Met.ofW (cc := cX11_finish) (maxL := 1) (ret := none) (by decide) rfl ?_
  intro p e s m args below meth c s₁ B hml hv
  obtain ⟨rfl, hH0, hP, hK, hD0, hC0⟩ := hv
  have hx := B.exec
  have hb := B.bytes
  have hr := B.returns
  have hts := atoms_spec (ws := Cond.code yX11_finish cX11_finish 1 none :: w0c) B.pre
  have hown : s.vm.findClass RX11 = some m.cls := findClass_of_methodNamed B.named
  have hlocks := B.notSynchronized
  have E : CallFix p m c cX11_finish 1 s _ (Cond.code yX11_finish cX11_finish 1 none :: w0c) RX11 := ⟨hx, hb, hml, hown, hts⟩
  subst hH0
  have hD := va_D.self (sz := s.heap.size) hD0
  have hA : ∀ q : Nat, s.heap.size ≤ q → va_A (bW (cx 0) LB dd nn ss ll gg (pW cx LP pc_ pd co X)) s.heap.size q := fun q h => Or.inr h
  have hV : cV dC dI cx LB (va_A (bW (cx 0) LB dd nn ss ll gg (pW cx LP pc_ pd co X)) s.heap.size) s.heap ll (pW cx LP pc_ pd co X) dd nn ss ll gg s.heap [] := ⟨hP, hD, va_S.rf, fun _ _ => Nat.le_refl _, hC0⟩
  have hR : (headSpec (Cond.code yX11_finish cX11_finish 1 none :: w0c) (eRm 5 142 LB ll 0 0)).room.cells = cMc LB ll + 0 ∧ (headSpec (Cond.code yX11_finish cX11_finish 1 none :: w0c) (eRm 5 142 LB ll 0 0)).room.slots = 2 * cMc LB ll + 0 := ⟨rfl, rfl⟩
  refine W.widen (k := cP LB ll - cP LB ll + 0) (n := 2 * (cP LB ll - cP LB ll) + 0) (Nat.zero_le _) (Nat.zero_le _) ?_
  have hl := lv_entry ([.ref ar]) (n := 1) (Nat.le_of_ble_eq_true rfl)
  rw [lg_entry_eq]
  generalize (lg_sl ([.ref ar]) ++ List.replicate (1 - (lg_sl ([.ref ar])).length) Slot.unset).toArray = ls at hl ⊢
  have hl : lv_has ls 1 [(0, .ref ar)] := hl
  obtain ⟨⟨mta, mtb, mtq, mtt, mtu⟩, ⟨nab, naq, nat_, nau⟩, ⟨nbq, nbt, nbu⟩, ⟨nqt, nqu⟩, ntu, scA⟩ := id hS
  have sca : ∀ p ∈ LP, ∀ i : Nat, i < 13 → co p i ≠ ta := fun p h i w => (scA p h i w).1
  have sct : ∀ p ∈ LP, ∀ i : Nat, i < 13 → co p i ≠ tt := fun p h i w => (scA p h i w).2.2.2.1
  have scu : ∀ p ∈ LP, ∀ i : Nat, i < 13 → co p i ≠ tu := fun p h i w => (scA p h i w).2.2.2.2
  obtain ⟨⟨mug, muh, muq, mUt, muu⟩, ⟨ngh, ngq, ngt, ngu⟩, ⟨nhq, nht, nhu⟩, ⟨nqt_, nqu_⟩, ntu_, ucA, utA⟩ := id hU
  have scg_ : ∀ p ∈ LP, ∀ i : Nat, i < 13 → co p i ≠ ug := fun p h i w => (ucA p h i w).1
  have sch_ : ∀ p ∈ LP, ∀ i : Nat, i < 13 → co p i ≠ uh := fun p h i w => (ucA p h i w).2.1
  have scq_ : ∀ p ∈ LP, ∀ i : Nat, i < 13 → co p i ≠ uq := fun p h i w => (ucA p h i w).2.2.1
  have sct_ : ∀ p ∈ LP, ∀ i : Nat, i < 13 → co p i ≠ ut := fun p h i w => (ucA p h i w).2.2.2.1
  have scu_ : ∀ p ∈ LP, ∀ i : Nat, i < 13 → co p i ≠ uu := fun p h i w => (ucA p h i w).2.2.2.2
  obtain ⟨hC1, hC2, hC3, hn0, hn1⟩ := id hC
  have hdg_ : ∀ j : Nat, (j : Int) < (n : Int) + 1 → 0 ≤ pd (cp j) ∧ pd (cp j) ≤ 12 := fun j hj => by rw [hcd j (by omega)]; omega
  have lw_ := chgS_bd (cfC n C 1) (n + 1)
  have lw0 : 0 ≤ lowC n C := lw_.1
  have lw1 : lowC n C ≤ 14 := by have : lowC n C ≤ ((n + 1 : Nat) : Int) := lw_.2; omega
  have up_ := chgS_bd (cfC n C 0) (n + 1)
  have up0 : 0 ≤ uppC n C := up_.1
  have up1 : uppC n C ≤ 14 := by have : uppC n C ≤ ((n + 1 : Nat) : Int) := up_.2; omega
  have s58 : (2 : Int) ^ 58 = 288230376151711744 := by decide
  have s60 : (2 : Int) ^ 60 = 1152921504606846976 := by decide
  have kpX : ∀ q ∈ X, q.1 ≠ fr → q ∈ X := fun _ h _ => h
  have n_ar_fr : ar ≠ fr := y_ne hV hAr h_fr (fun q => by injection q with q; injection q with q1 q2; exact absurd q1 (by decide))
  have n_t0_fr : t0 ≠ fr := y_ne hV hTo h_fr (fun q => by injection q with q; injection q with q1 q2; exact absurd q1 (by decide))
  have n_s0_fr : s0 ≠ fr := y_ne hV h_s0 h_fr (fun q => by injection q with q; injection q with q1 q2; exact absurd q1 (by decide))
  have n_ch_fr : ch ≠ fr := y_ne hV h_ch h_fr (fun q => nomatch q)
  refine lv_aload_n hx hb dX11_finish_0 rfl (lv_at hl 0 rfl) ?_
  refine x_get E hK hV (ci := 11) (C := RX11) (T := TX11) (N := 20) rfl w0c_in11 (pW_x (kpX _ hAr n_ar_fr)) 8 (by decide) rfl cf_11_29 rfl dX11_finish_1 ?_
  refine lv_aload_n hx hb dX11_finish_4 rfl (lv_at hl 0 rfl) ?_
  refine x_get E hK hV (ci := 11) (C := RX11) (T := TX11) (N := 20) rfl w0c_in11 (pW_x (kpX _ hAr n_ar_fr)) 13 (by decide) rfl cf_11_62 rfl dX11_finish_5 ?_
  refine x_get E hK hV (ci := 7) (C := RX7) (T := TX7) (N := 10) rfl w0c_in7 (pW_x (kpX _ h_s0 n_s0_fr)) 0 (by decide) rfl cf_11_203 rfl dX11_finish_8 ?_
  refine y_putV3 E hK hV (ci := 5) (C := RX5) (T := TX5) (N := 7) (ty := tyX5) rfl w0c_in5 tyX5_ok nmX5 h_fr 5 (by decide) (v := Iz (lowC n C - uppC n C)) (Nat.le_of_ble_eq_true rfl) rfl cf_11_158 rfl rfl rfl dX11_finish_11 (fun H locs X2_11 h__ kp_ hV => ?_)
  have kpX : ∀ q ∈ X, q.1 ≠ fr → q ∈ X2_11 := fun q h nk_fr => kp_ q (kpX q h nk_fr) nk_fr
  have h_fr : (fr, (.inr (5, [.ref le, .ref rl, .ref rh, Iz (re), Iz (rp_), Iz (lowC n C - uppC n C), Iz (rs)]) : va_E)) ∈ X2_11 := h__
  refine lv_aload_n hx hb dX11_finish_14 rfl (lv_at hl 0 rfl) ?_
  refine x_get E hK hV (ci := 11) (C := RX11) (T := TX11) (N := 20) rfl w0c_in11 (pW_x (kpX _ hAr n_ar_fr)) 8 (by decide) rfl cf_11_29 rfl dX11_finish_15 ?_
  refine lv_aload_n hx hb dX11_finish_18 rfl (lv_at hl 0 rfl) ?_
  refine x_get E hK hV (ci := 11) (C := RX11) (T := TX11) (N := 20) rfl w0c_in11 (pW_x (kpX _ hAr n_ar_fr)) 13 (by decide) rfl cf_11_62 rfl dX11_finish_19 ?_
  refine lv_aload_n hx hb dX11_finish_22 rfl (lv_at hl 0 rfl) ?_
  refine x_get E hK hV (ci := 11) (C := RX11) (T := TX11) (N := 20) rfl w0c_in11 (pW_x (kpX _ hAr n_ar_fr)) 8 (by decide) rfl cf_11_29 rfl dX11_finish_23 ?_
  refine x_get E hK hV (ci := 5) (C := RX5) (T := TX5) (N := 7) rfl w0c_in5 (pW_x h_fr) 1 (by decide) rfl cf_11_328 rfl dX11_finish_26 ?_
  refine lv_null hx hb dX11_finish_29 ?_
  refine lv_aload_n hx hb dX11_finish_30 rfl (lv_at hl 0 rfl) ?_
  refine x_get E hK hV (ci := 11) (C := RX11) (T := TX11) (N := 20) rfl w0c_in11 (pW_x (kpX _ hAr n_ar_fr)) 8 (by decide) rfl cf_11_29 rfl dX11_finish_31 ?_
  refine x_get E hK hV (ci := 5) (C := RX5) (T := TX5) (N := 7) rfl w0c_in5 (pW_x h_fr) 3 (by decide) rfl cf_11_321 rfl dX11_finish_34 ?_
  refine e_calli (k2 := 0) (n2 := 0) (f := 4) (kl := 116) (As := [.ref rl, .null, Iz (re)]) (rest := [.ref fr]) E (e0i (k7_upTo (v := v) (cp := cp) (x := rl) (ex_ := re) hO hN (kpX _ h_s0 n_s0_fr) hU (kpX _ hTo n_t0_fr) hS (kpX _ h_ch n_ch_fr) hcp hdg_ (by omega) (by omega) mrl (Ne.symm srl.2.2.2.2.1) (Ne.symm srl.1.2.2.2.1) (Ne.symm srl.1.2.2.2.2) (by omega) (by omega) lw0 lw1 (fun j hj m hm => by rw [hcd j (by omega), show ((n : Int) - j).toNat = n - j by omega] at hm ⊢; exact evP_80 (by omega) (by omega) (by omega) (fun k hk => by have h_ := hC200 j k (by omega) (by omega); rw [← hcv j k (by omega) (by omega)] at h_; exact h_) (by omega) m (by omega)) (lt_B (by omega) (by omega)) (fun j hj k hk => by rw [hcd j (by omega)] at hk; rw [hcv j k (by omega) (by omega)]; exact lt_B (hC200 j k (by omega) (by omega)) (by omega)))) (cwV 3 hts (cGood cl_X11_426 ci_X7_upTo cs_X7_upTo cn_RX7 cc_X7_upTo) rfl rfl rfl (by decide +kernel) ⟨Nat.le_of_ble_eq_true rfl, Nat.le_of_ble_eq_true rfl⟩) (x_recv (q := (RX7, TX7, 10)) hK hV (ci := 7) rfl (pW_x (kpX _ h_s0 n_s0_fr))) hK hV hA hR ⟨by decide, by decide⟩ rfl hl.1 (Nat.le_of_ble_eq_true rfl) dX11_finish_37 (fun z37 X37 dd37 nn37 ss37 ll37 gg37 H locs q37 hV hm37 => ?_)
  obtain ⟨v37, e1_, hN, vz37, vo37⟩ := q37
  obtain rfl := e1_.symm
  rw [up_eq hcd hcv] at vz37
  have hb37 := upV_bd n C (v rl) re
  rw [← vz37] at hb37
  have hc37 : ∀ j k : Nat, j ≤ n → k ≤ n - j → v37 (co (cp j) k) = C j k := fun j k hj hk => (vo37 _ (sct_ _ (hcp j (by omega)) k (by omega)) (sct _ (hcp j (by omega)) k (by omega)) (scu _ (hcp j (by omega)) k (by omega))).trans (hcv j k hj hk)
  refine W.widen (k := cP LB ll37 - cP LB ll + 0) (n := 2 * (cP LB ll37 - cP LB ll) + 0) (Nat.le_refl _) (Nat.le_refl _) ?_
  refine y_putV3 E hK hV (ci := 5) (C := RX5) (T := TX5) (N := 7) (ty := tyX5) rfl w0c_in5 tyX5_ok nmX5 h_fr 4 (by decide) (v := Iz (z37)) (Nat.le_of_ble_eq_true rfl) rfl cf_11_161 rfl rfl rfl dX11_finish_40 (fun H locs X2_40 h__ kp_ hV => ?_)
  have kpX : ∀ q ∈ X, q.1 ≠ fr → q ∈ X2_40 := fun q h nk_fr => kp_ q (kpX q h nk_fr) nk_fr
  have h_fr : (fr, (.inr (5, [.ref le, .ref rl, .ref rh, Iz (re), Iz (z37), Iz (lowC n C - uppC n C), Iz (rs)]) : va_E)) ∈ X2_40 := h__
  refine lv_aload_n hx hb dX11_finish_43 rfl (lv_at hl 0 rfl) ?_
  refine x_get E hK hV (ci := 11) (C := RX11) (T := TX11) (N := 20) rfl w0c_in11 (pW_x (kpX _ hAr n_ar_fr)) 16 (by decide) rfl cf_11_83 rfl dX11_finish_44 ?_
  refine e_callv (k2 := 0) (n2 := 0) (f := 0) (kl := 0) (As := []) (rest := []) E (e0v (k0_clear (v := v37) (h0 := bu) mbu hN)) (cwV 0 hts (cGood cl_X11_430 ci_X0_clear cs_X0_clear cn_RX0 cc_X0_clear) rfl rfl rfl (by decide +kernel) ⟨Nat.le_of_ble_eq_true rfl, Nat.le_of_ble_eq_true rfl⟩) (b_recv hK hV mbu) hK hV hA hR ⟨by decide, by decide⟩ rfl hl.1 (Nat.le_of_ble_eq_true rfl) dX11_finish_47 (fun X47 dd47 nn47 ss47 ll47 gg47 H locs q47 hV hm47 => ?_)
  obtain ⟨e1_, hN⟩ := q47
  obtain rfl := e1_.symm
  have hc47 : ∀ j k : Nat, j ≤ n → k ≤ n - j → va_up v37 bu 0 (co (cp j) k) = C j k := fun j k hj hk => by rw [va_up_ne _ _ (cbu _ (hcp j (by omega)) k (by omega))]; exact hc37 j k hj hk
  refine W.widen (k := cP LB ll47 - cP LB ll + 0) (n := 2 * (cP LB ll47 - cP LB ll) + 0) (Nat.le_refl _) (Nat.le_refl _) ?_
  refine lv_aload_n hx hb dX11_finish_50 rfl (lv_at hl 0 rfl) ?_
  refine x_get E hK hV (ci := 11) (C := RX11) (T := TX11) (N := 20) rfl w0c_in11 (pW_x (kpX _ hAr n_ar_fr)) 8 (by decide) rfl cf_11_29 rfl dX11_finish_51 ?_
  refine lv_aload_n hx hb dX11_finish_54 rfl (lv_at hl 0 rfl) ?_
  refine x_get E hK hV (ci := 11) (C := RX11) (T := TX11) (N := 20) rfl w0c_in11 (pW_x (kpX _ hAr n_ar_fr)) 8 (by decide) rfl cf_11_29 rfl dX11_finish_55 ?_
  refine x_get E hK hV (ci := 5) (C := RX5) (T := TX5) (N := 7) rfl w0c_in5 (pW_x h_fr) 4 (by decide) rfl cf_11_161 rfl dX11_finish_58 ?_
  refine lv_aload_n hx hb dX11_finish_61 rfl (lv_at hl 0 rfl) ?_
  refine x_get E hK hV (ci := 11) (C := RX11) (T := TX11) (N := 20) rfl w0c_in11 (pW_x (kpX _ hAr n_ar_fr)) 13 (by decide) rfl cf_11_62 rfl dX11_finish_62 ?_
  refine lv_aload_n hx hb dX11_finish_65 rfl (lv_at hl 0 rfl) ?_
  refine x_get E hK hV (ci := 11) (C := RX11) (T := TX11) (N := 20) rfl w0c_in11 (pW_x (kpX _ hAr n_ar_fr)) 16 (by decide) rfl cf_11_83 rfl dX11_finish_66 ?_
  refine lv_null hx hb dX11_finish_69 ?_
  refine lv_iconst (v := Int32.ofInt (0)) hx hb dX11_finish_70 (by decide) ?_
  refine e_calli (k2 := 0) (n2 := 0) (f := 4) (kl := 116) (As := [.ref bu, .null, Iz (0)]) (rest := [Iz (z37), .ref fr]) E (e0i (k7_upTo (v := (va_up v37 bu 0)) (cp := cp) (x := bu) (ex_ := 0) hO hN (kpX _ h_s0 n_s0_fr) hU (kpX _ hTo n_t0_fr) hS (kpX _ h_ch n_ch_fr) hcp hdg_ (by omega) (by omega) mbu (Ne.symm sbu.2.2.2.2.1) (Ne.symm sbu.1.2.2.2.1) (Ne.symm sbu.1.2.2.2.2) (by omega) (by omega) lw0 lw1 (fun j hj m hm => by rw [hcd j (by omega), show ((n : Int) - j).toNat = n - j by omega] at hm ⊢; exact evP_80 (show ((va_up v37 bu 0 bu).natAbs : Int) < 2 ^ 60 by rw [va_up_self]; decide) (by omega) (by omega) (fun k hk => by have h_ := hC200 j k (by omega) (by omega); rw [← hc47 j k (by omega) (by omega)] at h_; exact h_) (by omega) m (by omega)) (lt_B (show ((va_up v37 bu 0 bu).natAbs : Int) < 2 ^ 60 by rw [va_up_self]; decide) (by omega)) (fun j hj k hk => by rw [hcd j (by omega)] at hk; rw [hc47 j k (by omega) (by omega)]; exact lt_B (hC200 j k (by omega) (by omega)) (by omega)))) (cwV 3 hts (cGood cl_X11_426 ci_X7_upTo cs_X7_upTo cn_RX7 cc_X7_upTo) rfl rfl rfl (by decide +kernel) ⟨Nat.le_of_ble_eq_true rfl, Nat.le_of_ble_eq_true rfl⟩) (x_recv (q := (RX7, TX7, 10)) hK hV (ci := 7) rfl (pW_x (kpX _ h_s0 n_s0_fr))) hK hV hA hR ⟨by decide, by decide⟩ rfl hl.1 (Nat.le_of_ble_eq_true rfl) dX11_finish_71 (fun z71 X71 dd71 nn71 ss71 ll71 gg71 H locs q71 hV hm71 => ?_)
  obtain ⟨v71, e1_, hN, vz71, vo71⟩ := q71
  obtain rfl := e1_.symm
  rw [up_eq hcd hc47] at vz71
  have hb71 := upV_bd n C (va_up v37 bu 0 bu) 0
  rw [← vz71] at hb71
  refine W.widen (k := cP LB ll71 - cP LB ll + 0) (n := 2 * (cP LB ll71 - cP LB ll) + 0) (Nat.le_refl _) (Nat.le_refl _) ?_
  refine g_icmp_ge (tgt := 81) hx hb (by first | assumption | exact ⟨by omega, by omega⟩) (by first | assumption | exact ⟨by omega, by omega⟩) dX11_finish_74 (by decide) (fun c_74 => ?_) (fun c_74 => ?_)
  · skip
    refine lv_iconst (v := Int32.ofInt (1)) hx hb dX11_finish_81 (by decide) ?_
    refine y_putV3 E hK hV (ci := 5) (C := RX5) (T := TX5) (N := 7) (ty := tyX5) rfl w0c_in5 tyX5_ok nmX5 h_fr 6 (by decide) (v := Iz (1)) (Nat.le_of_ble_eq_true rfl) rfl cf_11_135 rfl rfl rfl dX11_finish_82 (fun H locs X2_82 h__ kp_ hV => ?_)
    have kpX : ∀ q ∈ X, q.1 ≠ fr → q ∈ X2_82 := fun q h nk_fr => kp_ q (kpX q h nk_fr) nk_fr
    have h_fr : (fr, (.inr (5, [.ref le, .ref rl, .ref rh, Iz (re), Iz (z37), Iz (lowC n C - uppC n C), Iz (1)]) : va_E)) ∈ X2_82 := h__
    have hpost : ∃ (v' : Nat → Int) (X2' : va_W) (a1 a2 a3 a4 : Int), (pW cx LP pc_ pd co X2_82) = pW cx LP pc_ pd co X2' ∧ cR LB nn71 ss71 ll71 gg71 v' ∧ (fr, (.inr (5, [.ref le, .ref rl, .ref rh, Iz a1, Iz a2, Iz a3, Iz a4]) : va_E)) ∈ X2' ∧ (∀ q ∈ X, q.1 ≠ fr → q ∈ X2') := ⟨_, _, _, _, _, _, rfl, hN, h_fr, kpX⟩
    exact e_vret hx hb hr hK hV ⟨by decide, by decide⟩ hpost dX11_finish_85 hlocks
  · skip
    refine lv_iconst (v := Int32.ofInt (-1)) hx hb dX11_finish_77 (by decide) ?_
    refine lv_goto (tgt := 82) hx hb dX11_finish_78 (by decide) ?_
    refine y_putV3 E hK hV (ci := 5) (C := RX5) (T := TX5) (N := 7) (ty := tyX5) rfl w0c_in5 tyX5_ok nmX5 h_fr 6 (by decide) (v := Iz ((-1))) (Nat.le_of_ble_eq_true rfl) rfl cf_11_135 rfl rfl rfl dX11_finish_82 (fun H locs X2_82 h__ kp_ hV => ?_)
    have kpX : ∀ q ∈ X, q.1 ≠ fr → q ∈ X2_82 := fun q h nk_fr => kp_ q (kpX q h nk_fr) nk_fr
    have h_fr : (fr, (.inr (5, [.ref le, .ref rl, .ref rh, Iz (re), Iz (z37), Iz (lowC n C - uppC n C), Iz ((-1))]) : va_E)) ∈ X2_82 := h__
    have hpost : ∃ (v' : Nat → Int) (X2' : va_W) (a1 a2 a3 a4 : Int), (pW cx LP pc_ pd co X2_82) = pW cx LP pc_ pd co X2' ∧ cR LB nn71 ss71 ll71 gg71 v' ∧ (fr, (.inr (5, [.ref le, .ref rl, .ref rh, Iz a1, Iz a2, Iz a3, Iz a4]) : va_E)) ∈ X2' ∧ (∀ q ∈ X, q.1 ≠ fr → q ∈ X2') := ⟨_, _, _, _, _, _, rfl, hN, h_fr, kpX⟩
    exact e_vret hx hb hr hK hV ⟨by decide, by decide⟩ hpost dX11_finish_85 hlocks
set_option maxHeartbeats 4000000 in
set_option maxRecDepth 100000 in
theorem k11_takePlace {l : Launch} {dC : Nat → ClassId} {dI : Nat → Nat → Nat} {cx : Nat → Nat} {LB : List Nat} {LP : List Nat} {pc_ : Nat → Nat} {pd : Nat → Int} {co : Nat → Nat → Nat} {X : va_W} {dd : Nat → Nat} {nn ss : Nat → Int} {ll : Nat → Nat} {gg : Nat → Int → Int} {H0 : Heap} {v : Nat → Int} {cp : Nat → Nat} {n : Nat} {C : Nat → Nat → Int} {ar nu tol pi_ ti_ fr stk no pa zo tx bu bv bw bs le rl rh : Nat} {mo re rp_ rc rs : Int} {t0 ta tb tq tt tu tw tm : Nat} {tf : Int}{s0 ch ug uh uq ut uu : Nat} {sc_ sl_ sw_ : Int}  (hAr : (ar, (.inr (11, [Iz (mo), .ref nu, Iz (0), .ref tol, Iz (0), .ref pi_, .ref ti_, Iz (0), .ref fr, .ref stk, .ref t0, .ref no, .ref pa, .ref s0, .ref zo, .ref tx, .ref bu, .ref bv, .ref bw, .ref bs]) : va_E)) ∈ X) (h_fr : (fr, (.inr (5, [.ref le, .ref rl, .ref rh, Iz re, Iz rp_, Iz rc, Iz rs]) : va_E)) ∈ X) (mle : le ∈ LP) (hO : pOK LB LP co) (hN : cR LB nn ss ll gg v) (h_s0 : (s0, (.inr (7, [Iz sc_, .ref t0, .ref ch, Iz sl_, Iz sw_, .ref ug, .ref uh, .ref uq, .ref ut, .ref uu]) : va_E)) ∈ X) (hU : uOK LB LP co ta tb tq tt tu ug uh uq ut uu) (hTo : (t0, (.inr (9, [.ref ta, .ref tb, .ref tq, .ref tt, .ref tu, .ref tw, .ref tm, Iz tf]) : va_E)) ∈ X) (hS : tOK LB LP co ta tb tq tt tu) (h_ch : (ch, (.inl (cx 3, 14, .inr (.inr (.inr (.inr (fun i => some (cp i)))))) : va_E)) ∈ X) (hcp : ∀ i : Nat, i < 14 → cp i ∈ LP) (hcj : ∀ i j : Nat, i < 14 → j < 14 → cp i = cp j → i = j) (mrl : rl ∈ LB) (srl : LOK ta tb tq tt tu ug uh uq ut uu rl) (crl : ∀ p ∈ LP, ∀ i : Nat, i < 13 → co p i ≠ rl) (mrh : rh ∈ LB) (srh : LOK ta tb tq tt tu ug uh uq ut uu rh) (crh : ∀ p ∈ LP, ∀ i : Nat, i < 13 → co p i ≠ rh) (mbu : bu ∈ LB) (sbu : LOK ta tb tq tt tu ug uh uq ut uu bu) (cbu : ∀ p ∈ LP, ∀ i : Nat, i < 13 → co p i ≠ bu) (nlh : rl ≠ rh) (hfc : ∀ i : Nat, i < 14 → le ≠ cp i) (hf0 : pd le = n) (hfC : ∀ k : Nat, k ≤ n → v (co le k) = C 0 k) (hC : chOK n C) (hC200 : ∀ j k : Nat, j ≤ n → k ≤ n - j → ((C j k).natAbs : Int) < 2 ^ 200) (ii0 : 0 ≤ rp_) (ii1 : rp_ ≤ 12) (hL : locP n C rp_ 60 (-(2 ^ (farF n (C 0) n).toNat)) (2 ^ (farF n (C 0) n).toNat) 0 0 (lowC n C - uppC n C)) : Met l yX11_takePlace (Cond.code yX11_takePlace cX11_takePlace 1 (some .int) :: w0c) (eRm 6 179 LB ll 0 0) (cPc dC dI cx LB (pW cx LP pc_ pd co X) dd nn ss ll gg H0 [.ref ar]) (eQi dC dI cx LB (va_A (bW (cx 0) LB dd nn ss ll gg (pW cx LP pc_ pd co X)) H0.size) ll H0 0 0 (fun z X' dd' nn' ss' ll' gg' => z = 0 ∧ ∃ (v' pd' : Nat → Int) (X2' : va_W) (a1 a2 a3 a4 : Int), X' = pW cx LP pc_ pd' co X2' ∧ cR LB nn' ss' ll' gg' v' ∧ (fr, (.inr (5, [.ref le, .ref rl, .ref rh, Iz a1, Iz a2, Iz a3, Iz a4]) : va_E)) ∈ X2' ∧ (∀ q ∈ X, q.1 ≠ fr → q.1 ≠ s0 → q ∈ X2'))) (cMc LB ll + 0) (2 * cMc LB ll + 0) (va_A (bW (cx 0) LB dd nn ss ll gg (pW cx LP pc_ pd co X)) H0.size) := by
  refine Met.ofW (cc := cX11_takePlace) (maxL := 1) (ret := (some .int)) (by decide) rfl ?_
  intro p e s m args below meth c s₁ B hml hv
  obtain ⟨rfl, hH0, hP, hK, hD0, hC0⟩ := hv
  have hx := B.exec
  have hb := B.bytes
  have hr := B.returns
  have hts := atoms_spec (ws := Cond.code yX11_takePlace cX11_takePlace 1 (some .int) :: w0c) B.pre
  have hown : s.vm.findClass RX11 = some m.cls := findClass_of_methodNamed B.named
  have hlocks := B.notSynchronized
  have E : CallFix p m c cX11_takePlace 1 s _ (Cond.code yX11_takePlace cX11_takePlace 1 (some .int) :: w0c) RX11 := ⟨hx, hb, hml, hown, hts⟩
  subst hH0
  have hD := va_D.self (sz := s.heap.size) hD0
  have hA : ∀ q : Nat, s.heap.size ≤ q → va_A (bW (cx 0) LB dd nn ss ll gg (pW cx LP pc_ pd co X)) s.heap.size q := fun q h => Or.inr h
  have hV : cV dC dI cx LB (va_A (bW (cx 0) LB dd nn ss ll gg (pW cx LP pc_ pd co X)) s.heap.size) s.heap ll (pW cx LP pc_ pd co X) dd nn ss ll gg s.heap [] := ⟨hP, hD, va_S.rf, fun _ _ => Nat.le_refl _, hC0⟩
  have hR : (headSpec (Cond.code yX11_takePlace cX11_takePlace 1 (some .int) :: w0c) (eRm 6 179 LB ll 0 0)).room.cells = cMc LB ll + 0 ∧ (headSpec (Cond.code yX11_takePlace cX11_takePlace 1 (some .int) :: w0c) (eRm 6 179 LB ll 0 0)).room.slots = 2 * cMc LB ll + 0 := ⟨rfl, rfl⟩
  refine W.widen (k := cP LB ll - cP LB ll + 0) (n := 2 * (cP LB ll - cP LB ll) + 0) (Nat.zero_le _) (Nat.zero_le _) ?_
  have hl := lv_entry ([.ref ar]) (n := 1) (Nat.le_of_ble_eq_true rfl)
  rw [lg_entry_eq]
  generalize (lg_sl ([.ref ar]) ++ List.replicate (1 - (lg_sl ([.ref ar])).length) Slot.unset).toArray = ls at hl ⊢
  have hl : lv_has ls 1 [(0, .ref ar)] := hl
  obtain ⟨⟨mta, mtb, mtq, mtt, mtu⟩, ⟨nab, naq, nat_, nau⟩, ⟨nbq, nbt, nbu⟩, ⟨nqt, nqu⟩, ntu, scA⟩ := id hS
  have sca : ∀ p ∈ LP, ∀ i : Nat, i < 13 → co p i ≠ ta := fun p h i w => (scA p h i w).1
  have sct : ∀ p ∈ LP, ∀ i : Nat, i < 13 → co p i ≠ tt := fun p h i w => (scA p h i w).2.2.2.1
  have scu : ∀ p ∈ LP, ∀ i : Nat, i < 13 → co p i ≠ tu := fun p h i w => (scA p h i w).2.2.2.2
  obtain ⟨⟨mug, muh, muq, mUt, muu⟩, ⟨ngh, ngq, ngt, ngu⟩, ⟨nhq, nht, nhu⟩, ⟨nqt_, nqu_⟩, ntu_, ucA, utA⟩ := id hU
  have scg_ : ∀ p ∈ LP, ∀ i : Nat, i < 13 → co p i ≠ ug := fun p h i w => (ucA p h i w).1
  have sch_ : ∀ p ∈ LP, ∀ i : Nat, i < 13 → co p i ≠ uh := fun p h i w => (ucA p h i w).2.1
  have scq_ : ∀ p ∈ LP, ∀ i : Nat, i < 13 → co p i ≠ uq := fun p h i w => (ucA p h i w).2.2.1
  have sct_ : ∀ p ∈ LP, ∀ i : Nat, i < 13 → co p i ≠ ut := fun p h i w => (ucA p h i w).2.2.2.1
  have scu_ : ∀ p ∈ LP, ∀ i : Nat, i < 13 → co p i ≠ uu := fun p h i w => (ucA p h i w).2.2.2.2
  have kpX : ∀ q ∈ X, q.1 ≠ fr → q.1 ≠ s0 → q ∈ X := fun _ h _ _ => h
  have n_ar_fr : ar ≠ fr := y_ne hV hAr h_fr (fun q => by injection q with q; injection q with q1 q2; exact absurd q1 (by decide))
  have n_ar_s0 : ar ≠ s0 := y_ne hV hAr h_s0 (fun q => by injection q with q; injection q with q1 q2; exact absurd q1 (by decide))
  have n_t0_fr : t0 ≠ fr := y_ne hV hTo h_fr (fun q => by injection q with q; injection q with q1 q2; exact absurd q1 (by decide))
  have n_t0_s0 : t0 ≠ s0 := y_ne hV hTo h_s0 (fun q => by injection q with q; injection q with q1 q2; exact absurd q1 (by decide))
  have n_ch_fr : ch ≠ fr := y_ne hV h_ch h_fr (fun q => nomatch q)
  have n_ch_s0 : ch ≠ s0 := y_ne hV h_ch h_s0 (fun q => nomatch q)
  have n_fr_s0 : fr ≠ s0 := y_ne hV h_fr h_s0 (fun q => by injection q with q; injection q with q1 q2; exact absurd q1 (by decide))
  refine lv_aload_n hx hb dX11_takePlace_0 rfl (lv_at hl 0 rfl) ?_
  refine x_get E hK hV (ci := 11) (C := RX11) (T := TX11) (N := 20) rfl w0c_in11 (pW_x (kpX _ hAr n_ar_fr n_ar_s0)) 13 (by decide) rfl cf_11_62 rfl dX11_takePlace_1 ?_
  refine lv_aload_n hx hb dX11_takePlace_4 rfl (lv_at hl 0 rfl) ?_
  refine x_get E hK hV (ci := 11) (C := RX11) (T := TX11) (N := 20) rfl w0c_in11 (pW_x (kpX _ hAr n_ar_fr n_ar_s0)) 8 (by decide) rfl cf_11_29 rfl dX11_takePlace_5 ?_
  refine x_get E hK hV (ci := 5) (C := RX5) (T := TX5) (N := 7) rfl w0c_in5 (pW_x h_fr) 0 (by decide) rfl cf_11_168 rfl dX11_takePlace_8 ?_
  refine e_callv (k2 := 0) (n2 := 0) (f := 5) (kl := 153) (As := [.ref le]) (rest := []) E (e0v (k7_build (v := v) (cp := cp) (f := le) (n := n) (C := C) mle hO hN h_s0 hU (kpX _ hTo n_t0_fr n_t0_s0) hS (kpX _ h_ch n_ch_fr n_ch_s0) hcp hcj hfc hf0 hfC hC)) (cwV 1 hts (cGood cl_X11_200 ci_X7_build cs_X7_build cn_RX7 cc_X7_build) rfl rfl rfl (by decide +kernel) ⟨Nat.le_of_ble_eq_true rfl, Nat.le_of_ble_eq_true rfl⟩) (x_recv (q := (RX7, TX7, 10)) hK hV (ci := 7) rfl (pW_x h_s0)) hK hV hA hR ⟨by decide, by decide⟩ rfl hl.1 (Nat.le_of_ble_eq_true rfl) dX11_takePlace_11 (fun X11 dd11 nn11 ss11 ll11 gg11 H locs q11 hV hm11 => ?_)
  obtain ⟨v11, pd11, e1_, hN, hcd11, hcv11, vo11, po11⟩ := q11
  obtain rfl := e1_.symm
  obtain ⟨X2_11, eX_, h__, kp_⟩ : ∃ X2_ : va_W, X2_ = wup X s0 (.inr (7, [Iz (lowC n C - uppC n C), .ref t0, .ref ch, Iz ((n : Int) + 1), Iz (lowC n C), .ref ug, .ref uh, .ref uq, .ref ut, .ref uu]) : va_E) ∧ (s0, (.inr (7, [Iz (lowC n C - uppC n C), .ref t0, .ref ch, Iz ((n : Int) + 1), Iz (lowC n C), .ref ug, .ref uh, .ref uq, .ref ut, .ref uu]) : va_E)) ∈ X2_ ∧ ∀ q ∈ X, q.1 ≠ s0 → q ∈ X2_ := ⟨_, rfl, wup_self h_s0, fun _ h n => wup_ne h n⟩
  replace hV := (show cV dC dI cx LB (va_A (bW (cx 0) LB dd nn ss ll gg (pW cx LP pc_ pd co X)) s.heap.size) s.heap ll (pW cx LP pc_ pd11 co (wup X s0 (.inr (7, [Iz (lowC n C - uppC n C), .ref t0, .ref ch, Iz ((n : Int) + 1), Iz (lowC n C), .ref ug, .ref uh, .ref uq, .ref ut, .ref uu]) : va_E))) dd11 nn11 ss11 ll11 gg11 H locs from hV)
  rw [← eX_] at hV
  have h_fr := kp_ _ h_fr n_fr_s0
  have kpX : ∀ q ∈ X, q.1 ≠ fr → q.1 ≠ s0 → q ∈ X2_11 := fun q h nk_fr nk_s0 => kp_ q (kpX q h nk_fr nk_s0) nk_s0
  have h_s0 := h__
  refine W.widen (k := cP LB ll11 - cP LB ll + 0) (n := 2 * (cP LB ll11 - cP LB ll) + 0) (Nat.le_refl _) (Nat.le_refl _) ?_
  refine lv_aload_n hx hb dX11_takePlace_14 rfl (lv_at hl 0 rfl) ?_
  refine x_get E hK hV (ci := 11) (C := RX11) (T := TX11) (N := 20) rfl w0c_in11 (pW_x (kpX _ hAr n_ar_fr n_ar_s0)) 8 (by decide) rfl cf_11_29 rfl dX11_takePlace_15 ?_
  refine lv_aload_n hx hb dX11_takePlace_18 rfl (lv_at hl 0 rfl) ?_
  refine x_get E hK hV (ci := 11) (C := RX11) (T := TX11) (N := 20) rfl w0c_in11 (pW_x (kpX _ hAr n_ar_fr n_ar_s0)) 13 (by decide) rfl cf_11_62 rfl dX11_takePlace_19 ?_
  refine lv_aload_n hx hb dX11_takePlace_22 rfl (lv_at hl 0 rfl) ?_
  refine x_get E hK hV (ci := 11) (C := RX11) (T := TX11) (N := 20) rfl w0c_in11 (pW_x (kpX _ hAr n_ar_fr n_ar_s0)) 8 (by decide) rfl cf_11_29 rfl dX11_takePlace_23 ?_
  refine x_get E hK hV (ci := 5) (C := RX5) (T := TX5) (N := 7) rfl w0c_in5 (pW_x h_fr) 4 (by decide) rfl cf_11_161 rfl dX11_takePlace_26 ?_
  refine lv_aload_n hx hb dX11_takePlace_29 rfl (lv_at hl 0 rfl) ?_
  refine x_get E hK hV (ci := 11) (C := RX11) (T := TX11) (N := 20) rfl w0c_in11 (pW_x (kpX _ hAr n_ar_fr n_ar_s0)) 8 (by decide) rfl cf_11_29 rfl dX11_takePlace_30 ?_
  refine x_get E hK hV (ci := 5) (C := RX5) (T := TX5) (N := 7) rfl w0c_in5 (pW_x h_fr) 1 (by decide) rfl cf_11_328 rfl dX11_takePlace_33 ?_
  refine lv_aload_n hx hb dX11_takePlace_36 rfl (lv_at hl 0 rfl) ?_
  refine x_get E hK hV (ci := 11) (C := RX11) (T := TX11) (N := 20) rfl w0c_in11 (pW_x (kpX _ hAr n_ar_fr n_ar_s0)) 8 (by decide) rfl cf_11_29 rfl dX11_takePlace_37 ?_
  refine x_get E hK hV (ci := 5) (C := RX5) (T := TX5) (N := 7) rfl w0c_in5 (pW_x h_fr) 2 (by decide) rfl cf_11_318 rfl dX11_takePlace_40 ?_
  refine e_calli (k2 := 0) (n2 := 0) (f := 5) (kl := 142) (As := [Iz (rp_), .ref rl, .ref rh]) (rest := [.ref fr]) E (e0i (k7_locate (v := v11) (cp := cp) (n := n) (lo := rl) (hi := rh) (ii := rp_) (C := C) hO hN h_s0 hU (kpX _ hTo n_t0_fr n_t0_s0) hS (kpX _ h_ch n_ch_fr n_ch_s0) hcp hcj hcd11 hcv11 hC hC200 mrl mrh nlh srl srh crl crh ii0 ii1 hL)) (cwV 3 hts (cGood cl_X11_419 ci_X7_locate cs_X7_locate cn_RX7 cc_X7_locate) rfl rfl rfl (by decide +kernel) ⟨Nat.le_of_ble_eq_true rfl, Nat.le_of_ble_eq_true rfl⟩) (x_recv (q := (RX7, TX7, 10)) hK hV (ci := 7) rfl (pW_x h_s0)) hK hV hA hR ⟨by decide, by decide⟩ rfl hl.1 (Nat.le_of_ble_eq_true rfl) dX11_takePlace_43 (fun z43 X43 dd43 nn43 ss43 ll43 gg43 H locs q43 hV hm43 => ?_)
  obtain ⟨v43, e1_, hN, ze0_, ze1_, vl43, vo43⟩ := q43
  obtain rfl := e1_.symm
  have hc43 : ∀ j k : Nat, j ≤ n → k ≤ n - j → v43 (co (cp j) k) = C j k := fun j k hj hk => (vo43 _ (crl _ (hcp j (by have := hC.2.2.2.2; omega)) k (by have := hC.2.2.2.2; omega)) (crh _ (hcp j (by have := hC.2.2.2.2; omega)) k (by have := hC.2.2.2.2; omega)) (scu_ _ (hcp j (by have := hC.2.2.2.2; omega)) k (by have := hC.2.2.2.2; omega)) (sct_ _ (hcp j (by have := hC.2.2.2.2; omega)) k (by have := hC.2.2.2.2; omega)) (sct _ (hcp j (by have := hC.2.2.2.2; omega)) k (by have := hC.2.2.2.2; omega)) (scu _ (hcp j (by have := hC.2.2.2.2; omega)) k (by have := hC.2.2.2.2; omega))).trans (hcv11 j k hj hk)
  refine W.widen (k := cP LB ll43 - cP LB ll + 0) (n := 2 * (cP LB ll43 - cP LB ll) + 0) (Nat.le_refl _) (Nat.le_refl _) ?_
  refine y_putV3 E hK hV (ci := 5) (C := RX5) (T := TX5) (N := 7) (ty := tyX5) rfl w0c_in5 tyX5_ok nmX5 h_fr 3 (by decide) (v := Iz (z43)) (Nat.le_of_ble_eq_true rfl) rfl cf_11_321 rfl rfl rfl dX11_takePlace_46 (fun H locs X2_46 h__ kp_ hV => ?_)
  have h_s0 := kp_ _ h_s0 (Ne.symm n_fr_s0)
  have kpX : ∀ q ∈ X, q.1 ≠ fr → q.1 ≠ s0 → q ∈ X2_46 := fun q h nk_fr nk_s0 => kp_ q (kpX q h nk_fr nk_s0) nk_fr
  have h_fr : (fr, (.inr (5, [.ref le, .ref rl, .ref rh, Iz (z43), Iz (rp_), Iz (rc), Iz (rs)]) : va_E)) ∈ X2_46 := h__
  refine lv_aload_n hx hb dX11_takePlace_49 rfl (lv_at hl 0 rfl) ?_
  refine e_callv (k2 := 0) (n2 := 0) (f := 5) (kl := 142) (As := []) (rest := []) E (k11_finish (v := v43) (cp := cp) (n := n) (C := C) (kpX _ hAr n_ar_fr n_ar_s0) h_fr hO hN h_s0 hU (kpX _ hTo n_t0_fr n_t0_s0) hS (kpX _ h_ch n_ch_fr n_ch_s0) hcp hcj hcd11 hc43 hC hC200 mrl srl crl mbu sbu cbu ze0_ ze1_ vl43) (cwV 0 hts (cGood cl_X11_423 ci_X11_finish cs_X11_finish cn_RX11 cc_X11_finish) rfl rfl rfl (by decide +kernel) ⟨Nat.le_of_ble_eq_true rfl, Nat.le_of_ble_eq_true rfl⟩) (x_recv (q := (RX11, TX11, 20)) hK hV (ci := 11) rfl (pW_x (kpX _ hAr n_ar_fr n_ar_s0))) hK hV hA hR ⟨by decide, by decide⟩ rfl hl.1 (Nat.le_of_ble_eq_true rfl) dX11_takePlace_50 (fun X50 dd50 nn50 ss50 ll50 gg50 H locs q50 hV hm50 => ?_)
  obtain ⟨v50, X250, a150, a250, a350, a450, e1_, hN, hf50, kp50⟩ := q50
  obtain rfl := e1_.symm
  have h_s0 := kp50 _ h_s0 (Ne.symm n_fr_s0)
  have kpX : ∀ q ∈ X, q.1 ≠ fr → q.1 ≠ s0 → q ∈ X250 := fun q h nk_fr nk_s0 => kp50 q (kpX q h nk_fr nk_s0) nk_fr
  have h_fr := hf50
  refine W.widen (k := cP LB ll50 - cP LB ll + 0) (n := 2 * (cP LB ll50 - cP LB ll) + 0) (Nat.le_refl _) (Nat.le_refl _) ?_
  refine lv_iconst (v := Int32.ofInt (0)) hx hb dX11_takePlace_53 (by decide) ?_
  have hpost : (0 : Int) = 0 ∧ ∃ (v' pd' : Nat → Int) (X2' : va_W) (a1 a2 a3 a4 : Int), (pW cx LP pc_ pd11 co X250) = pW cx LP pc_ pd' co X2' ∧ cR LB nn50 ss50 ll50 gg50 v' ∧ (fr, (.inr (5, [.ref le, .ref rl, .ref rh, Iz a1, Iz a2, Iz a3, Iz a4]) : va_E)) ∈ X2' ∧ (∀ q ∈ X, q.1 ≠ fr → q.1 ≠ s0 → q ∈ X2') := ⟨rfl, _, _, _, _, _, _, _, rfl, hN, h_fr, kpX⟩
  exact e_iret hx hb hr hK hV ⟨by decide, by decide⟩ hpost dX11_takePlace_54 hlocks
