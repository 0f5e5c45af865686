theorem g_cmp0 {x : Int} (h : g_cmp x 0 = 0) : x = 0 := by
  unfold g_cmp at h
  split at h <;> (try split at h) <;> omega
set_option maxHeartbeats 4000000 in
set_option maxRecDepth 100000 in
theorem k11_fraction {l : Launch} {dC : Nat → ClassId} {dI : Nat → Nat → Nat} {cx : Nat → Nat} {LB : List Nat} {LP : List Nat} {pc_ : Nat → Nat} {pd : Nat → Int} {co : Nat → Nat → Nat} {X : va_W} {dd : Nat → Nat} {nn ss : Nat → Int} {ll : Nat → Nat} {gg : Nat → Int → Int} {H0 : Heap} {v : Nat → Int} {up low : Int} {s0 : Nat} {ar nu tol pi_ ti_ fr stk no pa zo tx bu bv bw bs le rl rh : Nat} {mo re rp_ rc rs : Int} {t0 ta tb tq tt tu tw tm : Nat} {tf : Int} (h_ar : (ar, (.inr (11, [Iz (mo), .ref nu, Iz (0), .ref tol, Iz (0), .ref pi_, .ref ti_, Iz (0), .ref fr, .ref stk, .ref t0, .ref no, .ref pa, .ref s0, .ref zo, .ref tx, .ref bu, .ref bv, .ref bw, .ref bs]) : va_E)) ∈ X) (h_fr : (fr, (.inr (5, [.ref le, .ref rl, .ref rh, Iz re, Iz rp_, Iz rc, Iz rs]) : va_E)) ∈ X) (mle : le ∈ LP) (h_nu : (nu, (.inl (cx 4, 100, .inr (.inr (.inr (.inr (fun _ => none))))) : va_E)) ∈ X) (hO : pOK LB LP co) (hN : cR LB nn ss ll gg v) (hTo : (t0, (.inr (9, [.ref ta, .ref tb, .ref tq, .ref tt, .ref tu, .ref tw, .ref tm, Iz tf]) : va_E)) ∈ X) (hS : tOK LB LP co ta tb tq tt tu) (u0 : -9223372036854775808 ≤ up) (u1 : up ≤ 9223372036854775807) (l0 : -9223372036854775808 ≤ low) (l1 : low ≤ 9223372036854775807) (lz : low ≠ 0) : Met l yX11_fraction (Cond.code yX11_fraction cX11_fraction 5 (some .int) :: w0c) (eRm 6 183 LB ll 91 307) (cPn dC dI cx LB (pW cx LP pc_ pd co X) dd nn ss ll gg H0 [.ref ar, Jz (up), Jz (low)]) (eQi dC dI cx LB (va_A (bW (cx 0) LB dd nn ss ll gg (pW cx LP pc_ pd co X)) H0.size) ll H0 91 307 (fun z X' dd' nn' ss' ll' gg' => z = 0)) (cMc LB ll + 91) (2 * cMc LB ll + 307) (va_A (bW (cx 0) LB dd nn ss ll gg (pW cx LP pc_ pd co X)) H0.size) := by
  refine Met.ofW (cc := cX11_fraction) (maxL := 5) (ret := (some .int)) (by decide) rfl ?_
  intro p e s m args below meth c s₁ B hml hv
  obtain ⟨rfl, hH0, hP, hK, hD0, hC0, hC⟩ := hv
  have hx := B.exec
  have hb := B.bytes
  have hr := B.returns
  have hts := atoms_spec (ws := Cond.code yX11_fraction cX11_fraction 5 (some .int) :: w0c) B.pre
  have hown : s.vm.findClass RX11 = some m.cls := findClass_of_methodNamed B.named
  have hlocks := B.notSynchronized
  have E : CallFix p m c cX11_fraction 5 s _ (Cond.code yX11_fraction cX11_fraction 5 (some .int) :: w0c) RX11 := ⟨hx, hb, hml, hown, hts⟩
  subst hH0
  have hD := va_D.self (sz := s.heap.size) hD0
  have hA : ∀ q : Nat, s.heap.size ≤ q → va_A (bW (cx 0) LB dd nn ss ll gg (pW cx LP pc_ pd co X)) s.heap.size q := fun q h => Or.inr h
  have hV : cV dC dI cx LB (va_A (bW (cx 0) LB dd nn ss ll gg (pW cx LP pc_ pd co X)) s.heap.size) s.heap ll (pW cx LP pc_ pd co X) dd nn ss ll gg s.heap [] := ⟨hP, hD, va_S.rf, fun _ _ => Nat.le_refl _, hC0⟩
  have hR : (headSpec (Cond.code yX11_fraction cX11_fraction 5 (some .int) :: w0c) (eRm 6 183 LB ll 91 307)).room.cells = cMc LB ll + 91 ∧ (headSpec (Cond.code yX11_fraction cX11_fraction 5 (some .int) :: w0c) (eRm 6 183 LB ll 91 307)).room.slots = 2 * cMc LB ll + 307 := ⟨rfl, rfl⟩
  refine W.widen (k := cP LB ll - cP LB ll + 0) (n := 2 * (cP LB ll - cP LB ll) + 0) (Nat.zero_le _) (Nat.zero_le _) ?_
  have hl := lv_entry ([.ref ar, Jz (up), Jz (low)]) (n := 5) (Nat.le_of_ble_eq_true rfl)
  rw [lg_entry_eq]
  generalize (lg_sl ([.ref ar, Jz (up), Jz (low)]) ++ List.replicate (5 - (lg_sl ([.ref ar, Jz (up), Jz (low)])).length) Slot.unset).toArray = ls at hl ⊢
  have hl : lv_has ls 5 [(0, .ref ar), (1, Jz (up)), (3, Jz (low))] := hl
  have kpX : ∀ q ∈ X, q.1 ≠ ar → q.1 ≠ nu → q.1 ≠ fr → q ∈ X := fun _ h _ _ _ => h
  have n_t0_ar : t0 ≠ ar := y_ne hV hTo h_ar (fun q => by injection q with q; injection q with q1 q2; exact absurd q1 (by decide))
  have n_t0_nu : t0 ≠ nu := y_ne hV hTo h_nu (fun q => nomatch q)
  have n_t0_fr : t0 ≠ fr := y_ne hV hTo h_fr (fun q => by injection q with q; injection q with q1 q2; exact absurd q1 (by decide))
  have n_ar_nu : ar ≠ nu := y_ne hV h_ar h_nu (fun q => nomatch q)
  have n_ar_fr : ar ≠ fr := y_ne hV h_ar h_fr (fun q => by injection q with q; injection q with q1 q2; exact absurd q1 (by decide))
  have n_nu_fr : nu ≠ fr := y_ne hV h_nu h_fr (fun q => nomatch q)
  refine lv_lload_n hx hb dX11_fraction_0 rfl (lv_at hl 2 rfl) ?_
  refine lv_lconst (v := Int64.ofInt 0) hx hb dX11_fraction_1 rfl ?_
  refine g_lcmp hx hb (by first | assumption | exact ⟨by omega, by omega⟩) (by first | assumption | exact ⟨by omega, by omega⟩) dX11_fraction_2 ?_
  refine g_if_ne (tgt := 14) hx hb (g_cmp_i low 0) dX11_fraction_3 (by decide) (fun c_3 => ?_) (fun c_3 => ?_)
  · skip
    refine lv_aload_n hx hb dX11_fraction_14 rfl (lv_at hl 0 rfl) ?_
    refine lv_lload_n hx hb dX11_fraction_15 rfl (lv_at hl 1 rfl) ?_
    refine lv_lload_n hx hb dX11_fraction_16 rfl (lv_at hl 2 rfl) ?_
    refine e_callv (k2 := 0) (n2 := 0) (f := 5) (kl := 158) (As := [Jz (up), Jz (low)]) (rest := []) E (k11_ratio (v := v) (up := up) (low := low) h_ar h_fr mle hO hN (kpX _ hTo n_t0_ar n_t0_nu n_t0_fr) hS u0 u1 l0 l1 lz) (cwV 2 hts (cGood cl_X11_112 ci_X11_ratio cs_X11_ratio cn_RX11 cc_X11_ratio) rfl rfl rfl (by decide +kernel) ⟨Nat.le_of_ble_eq_true rfl, Nat.le_of_ble_eq_true rfl⟩) (x_recv (q := (RX11, TX11, 20)) hK hV (ci := 11) rfl (pW_x h_ar)) hK hV hA hR ⟨by decide, by decide⟩ rfl hl.1 (Nat.le_of_ble_eq_true rfl) dX11_fraction_17 (fun X17 dd17 nn17 ss17 ll17 gg17 H locs q17 hV hm17 => ?_)
    obtain ⟨v17, X217, a117, a217, a317, a417, e1_, hN, hf17, kp17⟩ := q17
    obtain rfl := e1_.symm
    have h_ar := kp17 _ h_ar n_ar_fr
    have h_nu := kp17 _ h_nu n_nu_fr
    have kpX : ∀ q ∈ X, q.1 ≠ ar → q.1 ≠ nu → q.1 ≠ fr → q ∈ X217 := fun q h nk_ar nk_nu nk_fr => kp17 q (kpX q h nk_ar nk_nu nk_fr) nk_fr
    have h_fr := hf17
    refine W.widen (k := cP LB ll17 - cP LB ll + 0) (n := 2 * (cP LB ll17 - cP LB ll) + 0) (Nat.le_refl _) (Nat.le_refl _) ?_
    refine lv_aload_n hx hb dX11_fraction_20 rfl (lv_at hl 0 rfl) ?_
    refine e_calliC (k2 := 91) (n2 := 307) (f := 4) (kl := 130) (As := []) (rest := []) E (k11_keep h_ar h_fr h_nu) (cwV 0 hts (cGood cl_X11_116 ci_X11_keep cs_X11_keep cn_RX11 cc_X11_keep) rfl rfl rfl (by decide +kernel) ⟨Nat.le_of_ble_eq_true rfl, Nat.le_of_ble_eq_true rfl⟩) (x_recv (q := (RX11, TX11, 20)) hK hV (ci := 11) rfl (pW_x h_ar)) hK hC hV hA hR ⟨by decide, by decide⟩ rfl hl.1 (Nat.le_of_ble_eq_true rfl) dX11_fraction_21 (fun z21 X21 dd21 nn21 ss21 ll21 gg21 H locs q21 hV hm21 => ?_)
    obtain rfl := q21
    refine W.widen (k := cP LB ll21 - cP LB ll + 91) (n := 2 * (cP LB ll21 - cP LB ll) + 307) (Nat.le_refl _) (Nat.le_refl _) ?_
    have hpost : (0 : Int) = 0 := rfl
    exact e_iret hx hb hr hK hV ⟨by decide, by decide⟩ hpost dX11_fraction_24 hlocks
  · (exfalso; have := g_cmp0 (x := low) c_3; omega)
set_option maxHeartbeats 4000000 in
set_option maxRecDepth 100000 in
theorem k11_end {l : Launch} {dC : Nat → ClassId} {dI : Nat → Nat → Nat} {cx : Nat → Nat} {LB : List Nat} {LP : List Nat} {pc_ : Nat → Nat} {pd : Nat → Int} {co : Nat → Nat → Nat} {X : va_W} {dd : Nat → Nat} {nn ss : Nat → Int} {ll : Nat → Nat} {gg : Nat → Int → Int} {H0 : Heap} {ar nu tol pi_ ti_ fr stk no pa zo tx bu bv bw bs : Nat} {mo : Int} {s0 t0 : Nat} {xp xw xk xf xs xb : Nat} {lng sp_ ps tok pla nm wr hd_ : Int} {ia : Int}  (hAr : (ar, (.inr (11, [Iz (mo), .ref nu, Iz (0), .ref tol, Iz (0), .ref pi_, .ref ti_, Iz (0), .ref fr, .ref stk, .ref t0, .ref no, .ref pa, .ref s0, .ref zo, .ref tx, .ref bu, .ref bv, .ref bw, .ref bs]) : va_E)) ∈ X) (h_tx : (tx, (.inr (8, [.ref xp, .ref xw, Iz (0), Iz (lng), Iz (sp_), .ref xk, .ref xf, .ref xs, Iz (ps), Iz (tok), Iz (pla), Iz (nm), Iz (wr), Iz (hd_), .ref xb]) : va_E)) ∈ X) (e0 : ia = 0) (ia0_ : -2147483648 ≤ ia) (ia1_ : ia ≤ 2147483647) : Met l yX11_end (Cond.code yX11_end cX11_end 2 none :: w0c) (eRm 0 0 LB ll 0 0) (cPc dC dI cx LB (pW cx LP pc_ pd co X) dd nn ss ll gg H0 [.ref ar, Iz (ia)]) (eQv dC dI cx LB (va_A (bW (cx 0) LB dd nn ss ll gg (pW cx LP pc_ pd co X)) H0.size) ll H0 0 0 (fun X' dd' nn' ss' ll' gg' => True)) (cMc LB ll + 0) (2 * cMc LB ll + 0) (va_A (bW (cx 0) LB dd nn ss ll gg (pW cx LP pc_ pd co X)) H0.size) := by
  refine Met.ofW (cc := cX11_end) (maxL := 2) (ret := none) (by decide) rfl ?_
  intro p e s m args below meth c s₁ B hml hv
  obtain ⟨rfl, hH0, hP, hK, hD0, hC0⟩ := hv
  have hx := B.exec
  have hb := B.bytes
  have hr := B.returns
  have hts := atoms_spec (ws := Cond.code yX11_end cX11_end 2 none :: w0c) B.pre
  have hown : s.vm.findClass RX11 = some m.cls := findClass_of_methodNamed B.named
  have hlocks := B.notSynchronized
  have E : CallFix p m c cX11_end 2 s _ (Cond.code yX11_end cX11_end 2 none :: w0c) RX11 := ⟨hx, hb, hml, hown, hts⟩
  subst hH0
  have hD := va_D.self (sz := s.heap.size) hD0
  have hA : ∀ q : Nat, s.heap.size ≤ q → va_A (bW (cx 0) LB dd nn ss ll gg (pW cx LP pc_ pd co X)) s.heap.size q := fun q h => Or.inr h
  have hV : cV dC dI cx LB (va_A (bW (cx 0) LB dd nn ss ll gg (pW cx LP pc_ pd co X)) s.heap.size) s.heap ll (pW cx LP pc_ pd co X) dd nn ss ll gg s.heap [] := ⟨hP, hD, va_S.rf, fun _ _ => Nat.le_refl _, hC0⟩
  have hR : (headSpec (Cond.code yX11_end cX11_end 2 none :: w0c) (eRm 0 0 LB ll 0 0)).room.cells = cMc LB ll + 0 ∧ (headSpec (Cond.code yX11_end cX11_end 2 none :: w0c) (eRm 0 0 LB ll 0 0)).room.slots = 2 * cMc LB ll + 0 := ⟨rfl, rfl⟩
  refine W.widen (k := cP LB ll - cP LB ll + 0) (n := 2 * (cP LB ll - cP LB ll) + 0) (Nat.zero_le _) (Nat.zero_le _) ?_
  have hl := lv_entry ([.ref ar, Iz (ia)]) (n := 2) (Nat.le_of_ble_eq_true rfl)
  rw [lg_entry_eq]
  generalize (lg_sl ([.ref ar, Iz (ia)]) ++ List.replicate (2 - (lg_sl ([.ref ar, Iz (ia)])).length) Slot.unset).toArray = ls at hl ⊢
  have hl : lv_has ls 2 [(0, .ref ar), (1, Iz (ia))] := hl
  have kpX : ∀ q ∈ X, q.1 ≠ tx → q ∈ X := fun _ h _ => h
  have n_ar_tx : ar ≠ tx := y_ne hV hAr h_tx (fun q => by injection q with q; injection q with q1 q2; exact absurd q1 (by decide))
  refine lv_iload_n hx hb dX11_end_0 rfl (lv_at hl 1 rfl) ?_
  refine g_if_lt (tgt := 15) hx hb (by first | assumption | exact ⟨by omega, by omega⟩) dX11_end_1 (by decide) (fun c_1 => ?_) (fun c_1 => ?_)
  · omega
  · skip
    refine lv_iload_n hx hb dX11_end_4 rfl (lv_at hl 1 rfl) ?_
    refine lv_aload_n hx hb dX11_end_5 rfl (lv_at hl 0 rfl) ?_
    refine x_get E hK hV (ci := 11) (C := RX11) (T := TX11) (N := 20) rfl w0c_in11 (pW_x (kpX _ hAr n_ar_tx)) 15 (by decide) rfl cf_11_76 rfl dX11_end_6 ?_
    refine x_get E hK hV (ci := 8) (C := RX8) (T := TX8) (N := 15) rfl w0c_in8 (pW_x h_tx) 2 (by decide) rfl cf_11_352 rfl dX11_end_9 ?_
    refine g_icmp_le (tgt := 23) hx hb (by first | assumption | exact ⟨by omega, by omega⟩) (by first | assumption | exact ⟨by omega, by omega⟩) dX11_end_12 (by decide) (fun c_12 => ?_) (fun c_12 => ?_)
    · skip
      refine lv_aload_n hx hb dX11_end_23 rfl (lv_at hl 0 rfl) ?_
      refine x_get E hK hV (ci := 11) (C := RX11) (T := TX11) (N := 20) rfl w0c_in11 (pW_x (kpX _ hAr n_ar_tx)) 15 (by decide) rfl cf_11_76 rfl dX11_end_24 ?_
      refine lv_iload_n hx hb dX11_end_27 rfl (lv_at hl 1 rfl) ?_
      refine y_putV3 E hK hV (ci := 8) (C := RX8) (T := TX8) (N := 15) (ty := tyX8) rfl w0c_in8 tyX8_ok nmX8 h_tx 2 (by decide) (v := Iz (ia)) (Nat.le_of_ble_eq_true rfl) rfl cf_11_352 rfl rfl rfl dX11_end_28 (fun H locs X2_28 h__ kp_ hV => ?_)
      have kpX : ∀ q ∈ X, q.1 ≠ tx → q ∈ X2_28 := fun q h nk_tx => kp_ q (kpX q h nk_tx) nk_tx
      have h_tx : (tx, (.inr (8, [.ref xp, .ref xw, Iz (ia), Iz (lng), Iz (sp_), .ref xk, .ref xf, .ref xs, Iz (ps), Iz (tok), Iz (pla), Iz (nm), Iz (wr), Iz (hd_), .ref xb]) : va_E)) ∈ X2_28 := h__
      have hpost : True := trivial
      exact e_vret hx hb hr hK hV ⟨by decide, by decide⟩ hpost dX11_end_31 hlocks
    · omega
