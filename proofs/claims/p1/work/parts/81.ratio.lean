set_option maxHeartbeats 4000000 in
set_option maxRecDepth 100000 in
theorem k11_ratio {l : Launch} {dC : Nat → ClassId} {dI : Nat → Nat → Nat} {cx : Nat → Nat} {LB : List Nat} {LP : List Nat} {pc_ : Nat → Nat} {pd : Nat → Int} {co : Nat → Nat → Nat} {X : va_W} {dd : Nat → Nat} {nn ss : Nat → Int} {ll : Nat → Nat} {gg : Nat → Int → Int} {H0 : Heap} {v : Nat → Int} {up low : Int} {s0 : Nat} {ar nu tol pi_ ti_ fr stk no pa zo tx bu bv bw bs le rl rh : Nat} {mo re rp_ rc rs : Int} {t0 ta tb tq tt tu tw tm : Nat} {tf : Int} (hAr : (ar, (.inr (11, [Iz (mo), .ref nu, Iz (0), .ref tol, Iz (0), .ref pi_, .ref ti_, Iz (0), .ref fr, .ref stk, .ref t0, .ref no, .ref pa, .ref s0, .ref zo, .ref tx, .ref bu, .ref bv, .ref bw, .ref bs]) : va_E)) ∈ X) (h_fr : (fr, (.inr (5, [.ref le, .ref rl, .ref rh, Iz re, Iz rp_, Iz rc, Iz rs]) : va_E)) ∈ X) (mle : le ∈ LP) (hO : pOK LB LP co) (hN : cR LB nn ss ll gg v) (hTo : (t0, (.inr (9, [.ref ta, .ref tb, .ref tq, .ref tt, .ref tu, .ref tw, .ref tm, Iz tf]) : va_E)) ∈ X) (hS : tOK LB LP co ta tb tq tt tu) (u0 : -9223372036854775808 ≤ up) (u1 : up ≤ 9223372036854775807) (l0 : -9223372036854775808 ≤ low) (l1 : low ≤ 9223372036854775807) (lz : low ≠ 0) : Met l yX11_ratio (Cond.code yX11_ratio cX11_ratio 6 none :: w0c) (eRm 5 158 LB ll 0 0) (cPc dC dI cx LB (pW cx LP pc_ pd co X) dd nn ss ll gg H0 [.ref ar, Jz (up), Jz (low)]) (eQv dC dI cx LB (va_A (bW (cx 0) LB dd nn ss ll gg (pW cx LP pc_ pd co X)) H0.size) ll H0 0 0 (fun X' dd' nn' ss' ll' gg' => ∃ (v' : Nat → Int) (X2' : va_W) (a1 a2 a3 a4 : Int), X' = pW cx LP pc_ (va_up pd le 1) co X2' ∧ cR LB nn' ss' ll' gg' v' ∧ (fr, (.inr (5, [.ref le, .ref rl, .ref rh, Iz a1, Iz a2, Iz a3, Iz a4]) : va_E)) ∈ X2' ∧ (∀ q ∈ X, q.1 ≠ fr → q ∈ X2'))) (cMc LB ll + 0) (2 * cMc LB ll + 0) (va_A (bW (cx 0) LB dd nn ss ll gg (pW cx LP pc_ pd co X)) H0.size) := by
  refine Met.ofW (cc := cX11_ratio) (maxL := 6) (ret := none) (by decide) rfl ?_
  intro p e s m args below meth c s₁ B hml hv
  obtain ⟨rfl, hH0, hP, hK, hD0, hC0⟩ := hv
  have hx := B.exec
  have hb := B.bytes
  have hr := B.returns
  have hts := atoms_spec (ws := Cond.code yX11_ratio cX11_ratio 6 none :: w0c) B.pre
  have hown : s.vm.findClass RX11 = some m.cls := findClass_of_methodNamed B.named
  have hlocks := B.notSynchronized
  have E : CallFix p m c cX11_ratio 6 s _ (Cond.code yX11_ratio cX11_ratio 6 none :: w0c) RX11 := ⟨hx, hb, hml, hown, hts⟩
  subst hH0
  have hD := va_D.self (sz := s.heap.size) hD0
  have hA : ∀ q : Nat, s.heap.size ≤ q → va_A (bW (cx 0) LB dd nn ss ll gg (pW cx LP pc_ pd co X)) s.heap.size q := fun q h => Or.inr h
  have hV : cV dC dI cx LB (va_A (bW (cx 0) LB dd nn ss ll gg (pW cx LP pc_ pd co X)) s.heap.size) s.heap ll (pW cx LP pc_ pd co X) dd nn ss ll gg s.heap [] := ⟨hP, hD, va_S.rf, fun _ _ => Nat.le_refl _, hC0⟩
  have hR : (headSpec (Cond.code yX11_ratio cX11_ratio 6 none :: w0c) (eRm 5 158 LB ll 0 0)).room.cells = cMc LB ll + 0 ∧ (headSpec (Cond.code yX11_ratio cX11_ratio 6 none :: w0c) (eRm 5 158 LB ll 0 0)).room.slots = 2 * cMc LB ll + 0 := ⟨rfl, rfl⟩
  refine W.widen (k := cP LB ll - cP LB ll + 0) (n := 2 * (cP LB ll - cP LB ll) + 0) (Nat.zero_le _) (Nat.zero_le _) ?_
  have hl := lv_entry ([.ref ar, Jz (up), Jz (low)]) (n := 6) (Nat.le_of_ble_eq_true rfl)
  rw [lg_entry_eq]
  generalize (lg_sl ([.ref ar, Jz (up), Jz (low)]) ++ List.replicate (6 - (lg_sl ([.ref ar, Jz (up), Jz (low)])).length) Slot.unset).toArray = ls at hl ⊢
  have hl : lv_has ls 6 [(0, .ref ar), (1, Jz (up)), (3, Jz (low))] := hl
  obtain ⟨⟨mta, mtb, mtq, mtt, mtu⟩, ⟨nab, naq, nat_, nau⟩, ⟨nbq, nbt, nbu⟩, ⟨nqt, nqu⟩, ntu, scA⟩ := id hS
  have sca : ∀ p ∈ LP, ∀ i : Nat, i < 13 → co p i ≠ ta := fun p h i w => (scA p h i w).1
  have sct : ∀ p ∈ LP, ∀ i : Nat, i < 13 → co p i ≠ tt := fun p h i w => (scA p h i w).2.2.2.1
  have scu : ∀ p ∈ LP, ∀ i : Nat, i < 13 → co p i ≠ tu := fun p h i w => (scA p h i w).2.2.2.2
  have n10 : co le 1 ≠ co le 0 := fun q => by have := (hO.2 _ mle _ mle _ _ (by omega) (by omega) q).2; omega
  have b63 : (9223372036854775808 : Int) < 1073741824 ^ 80 := by decide +kernel
  have kpX : ∀ q ∈ X, q.1 ≠ fr → q ∈ X := fun _ h _ => h
  have n_ar_fr : ar ≠ fr := y_ne hV hAr h_fr (fun q => by injection q with q; injection q with q1 q2; exact absurd q1 (by decide))
  have n_t0_fr : t0 ≠ fr := y_ne hV hTo h_fr (fun q => by injection q with q; injection q with q1 q2; exact absurd q1 (by decide))
  refine lv_aload_n hx hb dX11_ratio_0 rfl (lv_at hl 0 rfl) ?_
  refine x_get E hK hV (ci := 11) (C := RX11) (T := TX11) (N := 20) rfl w0c_in11 (pW_x (kpX _ hAr n_ar_fr)) 8 (by decide) rfl cf_11_29 rfl dX11_ratio_1 ?_
  refine x_get E hK hV (ci := 5) (C := RX5) (T := TX5) (N := 7) rfl w0c_in5 (pW_x h_fr) 0 (by decide) rfl cf_11_168 rfl dX11_ratio_4 ?_
  refine lv_astore (lv' := [(5, .ref le), (0, .ref ar), (1, Jz (up)), (3, Jz (low))]) hx hb dX11_ratio_7 hl (by decide) rfl (fun ls hl => ?_)
  refine lv_aload hx hb dX11_ratio_9 (lv_at hl 0 rfl) ?_
  refine y_getc E hK hV mle cf_11_243 dX11_ratio_11 ?_
  refine lv_iconst (v := Int32.ofInt (1)) hx hb dX11_ratio_14 (by decide) ?_
  refine y_aald hx hb hK hV mle (by omega) (by omega) dX11_ratio_15 ?_
  refine lv_lload_n hx hb dX11_ratio_16 rfl (lv_at hl 3 rfl) ?_
  refine e_callv (k2 := 0) (n2 := 0) (f := 0) (kl := 0) (As := [Jz (low)]) (rest := []) E (e0v (k0_put (v := v) (h0 := (co le 1)) (x := low) (hO.1 le mle _ (by omega)) hN (by omega) (by omega))) (cwV 1 hts (cGood cl_X11_277 ci_X0_put cs_X0_put cn_RX0 cc_X0_put) rfl rfl rfl (by decide +kernel) ⟨Nat.le_of_ble_eq_true rfl, Nat.le_of_ble_eq_true rfl⟩) (b_recv hK hV (hO.1 le mle _ (by omega))) hK hV hA hR ⟨by decide, by decide⟩ rfl hl.1 (Nat.le_of_ble_eq_true rfl) dX11_ratio_17 (fun X17 dd17 nn17 ss17 ll17 gg17 H locs q17 hV hm17 => ?_)
  obtain ⟨e1_, hN⟩ := q17
  obtain rfl := e1_.symm
  refine W.widen (k := cP LB ll17 - cP LB ll + 0) (n := 2 * (cP LB ll17 - cP LB ll) + 0) (Nat.le_refl _) (Nat.le_refl _) ?_
  refine lv_aload hx hb dX11_ratio_20 (lv_at hl 0 rfl) ?_
  refine y_getc E hK hV mle cf_11_243 dX11_ratio_22 ?_
  refine lv_iconst (v := Int32.ofInt (0)) hx hb dX11_ratio_25 (by decide) ?_
  refine y_aald hx hb hK hV mle (by omega) (by omega) dX11_ratio_26 ?_
  refine lv_lload_n hx hb dX11_ratio_27 rfl (lv_at hl 2 rfl) ?_
  refine e_callv (k2 := 0) (n2 := 0) (f := 0) (kl := 0) (As := [Jz (up)]) (rest := []) E (e0v (k0_put (v := (va_up v (co le 1) low)) (h0 := (co le 0)) (x := up) (hO.1 le mle _ (by omega)) hN (by omega) (by omega))) (cwV 1 hts (cGood cl_X11_277 ci_X0_put cs_X0_put cn_RX0 cc_X0_put) rfl rfl rfl (by decide +kernel) ⟨Nat.le_of_ble_eq_true rfl, Nat.le_of_ble_eq_true rfl⟩) (b_recv hK hV (hO.1 le mle _ (by omega))) hK hV hA hR ⟨by decide, by decide⟩ rfl hl.1 (Nat.le_of_ble_eq_true rfl) dX11_ratio_28 (fun X28 dd28 nn28 ss28 ll28 gg28 H locs q28 hV hm28 => ?_)
  obtain ⟨e1_, hN⟩ := q28
  obtain rfl := e1_.symm
  refine W.widen (k := cP LB ll28 - cP LB ll + 0) (n := 2 * (cP LB ll28 - cP LB ll) + 0) (Nat.le_refl _) (Nat.le_refl _) ?_
  refine lv_aload hx hb dX11_ratio_31 (lv_at hl 0 rfl) ?_
  refine y_getc E hK hV mle cf_11_243 dX11_ratio_33 ?_
  refine lv_iconst (v := Int32.ofInt (0)) hx hb dX11_ratio_36 (by decide) ?_
  refine y_aald hx hb hK hV mle (by omega) (by omega) dX11_ratio_37 ?_
  refine e_callv (k2 := 0) (n2 := 0) (f := 0) (kl := 0) (As := []) (rest := []) E (e0v (k0_flip (v := (va_up (va_up v (co le 1) low) (co le 0) up)) (h0 := (co le 0)) (hO.1 le mle _ (by omega)) hN)) (cwV 0 hts (cGood cl_X11_306 ci_X0_flip cs_X0_flip cn_RX0 cc_X0_flip) rfl rfl rfl (by decide +kernel) ⟨Nat.le_of_ble_eq_true rfl, Nat.le_of_ble_eq_true rfl⟩) (b_recv hK hV (hO.1 le mle _ (by omega))) hK hV hA hR ⟨by decide, by decide⟩ rfl hl.1 (Nat.le_of_ble_eq_true rfl) dX11_ratio_38 (fun X38 dd38 nn38 ss38 ll38 gg38 H locs q38 hV hm38 => ?_)
  obtain ⟨e1_, hN⟩ := q38
  obtain rfl := e1_.symm
  refine W.widen (k := cP LB ll38 - cP LB ll + 0) (n := 2 * (cP LB ll38 - cP LB ll) + 0) (Nat.le_refl _) (Nat.le_refl _) ?_
  refine lv_aload hx hb dX11_ratio_41 (lv_at hl 0 rfl) ?_
  refine lv_iconst (v := Int32.ofInt (1)) hx hb dX11_ratio_43 (by decide) ?_
  have w1 : (va_up (va_up (va_up v (co le 1) low) (co le 0) up) (co le 0) (-((va_up (va_up v (co le 1) low) (co le 0) up) (co le 0)))) (co le 1) = low := by rw [va_up_ne _ _ n10, va_up_ne _ _ n10, va_up_self]
  have w0 : (va_up (va_up (va_up v (co le 1) low) (co le 0) up) (co le 0) (-((va_up (va_up v (co le 1) low) (co le 0) up) (co le 0)))) (co le 0) = -up := by rw [va_up_self, va_up_self]
  refine y_putdeg E hK hV mle rfl cf_11_191 dX11_ratio_44 (fun H locs hV => ?_)
  refine lv_aload_n hx hb dX11_ratio_47 rfl (lv_at hl 1 rfl) ?_
  refine x_get E hK hV (ci := 11) (C := RX11) (T := TX11) (N := 20) rfl w0c_in11 (pW_x (kpX _ hAr n_ar_fr)) 10 (by decide) rfl cf_11_39 rfl dX11_ratio_48 ?_
  refine lv_aload hx hb dX11_ratio_51 (lv_at hl 0 rfl) ?_
  refine e_callv (k2 := 0) (n2 := 0) (f := 4) (kl := 131) (As := [.ref le]) (rest := []) E (e0v (k9_tidy (v := (va_up (va_up (va_up v (co le 1) low) (co le 0) up) (co le 0) (-((va_up (va_up v (co le 1) low) (co le 0) up) (co le 0))))) (f := le) mle hO hN (kpX _ hTo n_t0_fr) hS (by rw [va_up_self]; omega) (by rw [va_up_self]; omega) (fun k hk => by
    rw [va_up_self] at hk
    rcases (by omega : k = 0 ∨ k = 1) with rfl | rfl
    · rw [w0]; omega
    · rw [w1]; omega) (by
    have e_ : (va_up pd le 1 le).toNat = 1 := by rw [va_up_self]; rfl
    rw [e_, w1]; exact lz))) (cwV 1 hts (cGood cl_X11_365 ci_X9_tidy cs_X9_tidy cn_RX9 cc_X9_tidy) rfl rfl rfl (by decide +kernel) ⟨Nat.le_of_ble_eq_true rfl, Nat.le_of_ble_eq_true rfl⟩) (x_recv (q := (RX9, TX9, 8)) hK hV (ci := 9) rfl (pW_x (kpX _ hTo n_t0_fr))) hK hV hA hR ⟨by decide, by decide⟩ rfl hl.1 (Nat.le_of_ble_eq_true rfl) dX11_ratio_53 (fun X53 dd53 nn53 ss53 ll53 gg53 H locs q53 hV hm53 => ?_)
  obtain ⟨v53, e1_, hN, vt53, vo53⟩ := q53
  obtain rfl := e1_.symm
  refine W.widen (k := cP LB ll53 - cP LB ll + 0) (n := 2 * (cP LB ll53 - cP LB ll) + 0) (Nat.le_refl _) (Nat.le_refl _) ?_
  refine lv_aload_n hx hb dX11_ratio_56 rfl (lv_at hl 1 rfl) ?_
  refine x_get E hK hV (ci := 11) (C := RX11) (T := TX11) (N := 20) rfl w0c_in11 (pW_x (kpX _ hAr n_ar_fr)) 8 (by decide) rfl cf_11_29 rfl dX11_ratio_57 ?_
  refine e_callv (k2 := 0) (n2 := 0) (f := 0) (kl := 0) (As := []) (rest := []) E (e0v (k5_single (v := v53) hO hN h_fr mle)) (cwV 0 hts (cGood cl_X11_368 ci_X5_single cs_X5_single cn_RX5 cc_X5_single) rfl rfl rfl (by decide +kernel) ⟨Nat.le_of_ble_eq_true rfl, Nat.le_of_ble_eq_true rfl⟩) (x_recv (q := (RX5, TX5, 7)) hK hV (ci := 5) rfl (pW_x h_fr)) hK hV hA hR ⟨by decide, by decide⟩ rfl hl.1 (Nat.le_of_ble_eq_true rfl) dX11_ratio_60 (fun X60 dd60 nn60 ss60 ll60 gg60 H locs q60 hV hm60 => ?_)
  obtain ⟨e1_, e2_, e3_, e4_, e5_, e6_⟩ := q60
  obtain rfl := e1_.symm
  obtain rfl := e2_.symm
  obtain rfl := e3_.symm
  obtain rfl := e4_.symm
  obtain rfl := e5_.symm
  obtain rfl := e6_.symm
  obtain ⟨X2_60, eX_, h__, kp_⟩ : ∃ X2_ : va_W, X2_ = wup X fr (.inr (5, [.ref le, .ref rl, .ref rh, Iz re, Iz 0, Iz 1, Iz (-(sg (v53 (co le 0))))]) : va_E) ∧ (fr, (.inr (5, [.ref le, .ref rl, .ref rh, Iz re, Iz 0, Iz 1, Iz (-(sg (v53 (co le 0))))]) : va_E)) ∈ X2_ ∧ ∀ q ∈ X, q.1 ≠ fr → q ∈ X2_ := ⟨_, rfl, wup_self h_fr, fun _ h n => wup_ne h n⟩
  replace hV := (show cV dC dI cx LB (va_A (bW (cx 0) LB dd nn ss ll gg (pW cx LP pc_ pd co X)) s.heap.size) s.heap ll (pW cx LP pc_ (va_up pd le 1) co (wup X fr (.inr (5, [.ref le, .ref rl, .ref rh, Iz re, Iz 0, Iz 1, Iz (-(sg (v53 (co le 0))))]) : va_E))) dd53 nn53 ss53 ll53 gg53 H locs from hV)
  rw [← eX_] at hV
  have kpX : ∀ q ∈ X, q.1 ≠ fr → q ∈ X2_60 := fun q h nk_fr => kp_ q (kpX q h nk_fr) nk_fr
  have h_fr := h__
  refine W.widen (k := cP LB ll53 - cP LB ll + 0) (n := 2 * (cP LB ll53 - cP LB ll) + 0) (Nat.le_refl _) (Nat.le_refl _) ?_
  have hpost : ∃ (v' : Nat → Int) (X2' : va_W) (a1 a2 a3 a4 : Int), (pW cx LP pc_ (va_up pd le 1) co X2_60) = pW cx LP pc_ (va_up pd le 1) co X2' ∧ cR LB nn53 ss53 ll53 gg53 v' ∧ (fr, (.inr (5, [.ref le, .ref rl, .ref rh, Iz a1, Iz a2, Iz a3, Iz a4]) : va_E)) ∈ X2' ∧ (∀ q ∈ X, q.1 ≠ fr → q ∈ X2') := ⟨_, _, _, _, _, _, rfl, hN, h_fr, kpX⟩
  exact e_vret hx hb hr hK hV ⟨by decide, by decide⟩ hpost dX11_ratio_63 hlocks
