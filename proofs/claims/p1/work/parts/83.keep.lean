set_option maxHeartbeats 4000000 in
set_option maxRecDepth 100000 in
theorem k11_keep {l : Launch} {dC : Nat → ClassId} {dI : Nat → Nat → Nat} {cx : Nat → Nat} {LB : List Nat} {LP : List Nat} {pc_ : Nat → Nat} {pd : Nat → Int} {co : Nat → Nat → Nat} {X : va_W} {dd : Nat → Nat} {nn ss : Nat → Int} {ll : Nat → Nat} {gg : Nat → Int → Int} {H0 : Heap} {s0 t0 : Nat} {ar nu tol pi_ ti_ fr stk no pa zo tx bu bv bw bs le rl rh : Nat} {mo re rp_ rc rs : Int}  (h_ar : (ar, (.inr (11, [Iz (mo), .ref nu, Iz (0), .ref tol, Iz (0), .ref pi_, .ref ti_, Iz (0), .ref fr, .ref stk, .ref t0, .ref no, .ref pa, .ref s0, .ref zo, .ref tx, .ref bu, .ref bv, .ref bw, .ref bs]) : va_E)) ∈ X) (h_fr : (fr, (.inr (5, [.ref le, .ref rl, .ref rh, Iz re, Iz rp_, Iz rc, Iz rs]) : va_E)) ∈ X) (h_nu : (nu, (.inl (cx 4, 100, .inr (.inr (.inr (.inr (fun _ => none))))) : va_E)) ∈ X) : Met l yX11_keep (Cond.code yX11_keep cX11_keep 2 (some .int) :: w0c) (eRm 4 130 LB ll 91 307) (cPn dC dI cx LB (pW cx LP pc_ pd co X) dd nn ss ll gg H0 [.ref ar]) (eQi dC dI cx LB (va_A (bW (cx 0) LB dd nn ss ll gg (pW cx LP pc_ pd co X)) H0.size) ll H0 91 307 (fun z X' dd' nn' ss' ll' gg' => z = 0)) (cMc LB ll + 91) (2 * cMc LB ll + 307) (va_A (bW (cx 0) LB dd nn ss ll gg (pW cx LP pc_ pd co X)) H0.size) := by
  refine Met.ofW (cc := cX11_keep) (maxL := 2) (ret := (some .int)) (by decide) rfl ?_
  intro p e s m args below meth c s₁ B hml hv
  obtain ⟨rfl, hH0, hP, hK, hD0, hC0, hC⟩ := hv
  have hx := B.exec
  have hb := B.bytes
  have hr := B.returns
  have hts := atoms_spec (ws := Cond.code yX11_keep cX11_keep 2 (some .int) :: w0c) B.pre
  have hown : s.vm.findClass RX11 = some m.cls := findClass_of_methodNamed B.named
  have hlocks := B.notSynchronized
  have E : CallFix p m c cX11_keep 2 s _ (Cond.code yX11_keep cX11_keep 2 (some .int) :: w0c) RX11 := ⟨hx, hb, hml, hown, hts⟩
  subst hH0
  have hD := va_D.self (sz := s.heap.size) hD0
  have hA : ∀ q : Nat, s.heap.size ≤ q → va_A (bW (cx 0) LB dd nn ss ll gg (pW cx LP pc_ pd co X)) s.heap.size q := fun q h => Or.inr h
  have hV : cV dC dI cx LB (va_A (bW (cx 0) LB dd nn ss ll gg (pW cx LP pc_ pd co X)) s.heap.size) s.heap ll (pW cx LP pc_ pd co X) dd nn ss ll gg s.heap [] := ⟨hP, hD, va_S.rf, fun _ _ => Nat.le_refl _, hC0⟩
  have hR : (headSpec (Cond.code yX11_keep cX11_keep 2 (some .int) :: w0c) (eRm 4 130 LB ll 91 307)).room.cells = cMc LB ll + 91 ∧ (headSpec (Cond.code yX11_keep cX11_keep 2 (some .int) :: w0c) (eRm 4 130 LB ll 91 307)).room.slots = 2 * cMc LB ll + 307 := ⟨rfl, rfl⟩
  refine W.widen (k := cP LB ll - cP LB ll + 0) (n := 2 * (cP LB ll - cP LB ll) + 0) (Nat.zero_le _) (Nat.zero_le _) ?_
  have hl := lv_entry ([.ref ar]) (n := 2) (Nat.le_of_ble_eq_true rfl)
  rw [lg_entry_eq]
  generalize (lg_sl ([.ref ar]) ++ List.replicate (2 - (lg_sl ([.ref ar])).length) Slot.unset).toArray = ls at hl ⊢
  have hl : lv_has ls 2 [(0, .ref ar)] := hl
  have kpX : ∀ q ∈ X, q.1 ≠ ar → q.1 ≠ nu → q.1 ≠ fr → q ∈ X := fun _ h _ _ _ => h
  have n_ar_nu : ar ≠ nu := y_ne hV h_ar h_nu (fun q => nomatch q)
  have n_ar_fr : ar ≠ fr := y_ne hV h_ar h_fr (fun q => by injection q with q; injection q with q1 q2; exact absurd q1 (by decide))
  have n_nu_fr : nu ≠ fr := y_ne hV h_nu h_fr (fun q => nomatch q)
  refine lv_aload_n hx hb dX11_keep_0 rfl (lv_at hl 0 rfl) ?_
  refine x_get E hK hV (ci := 11) (C := RX11) (T := TX11) (N := 20) rfl w0c_in11 (pW_x h_ar) 2 (by decide) rfl cf_11_208 rfl dX11_keep_1 ?_
  refine lv_bipush (v := Int32.ofInt (100)) hx hb dX11_keep_4 (by decide) ?_
  refine g_icmp_lt (tgt := 12) hx hb (by first | assumption | exact ⟨by omega, by omega⟩) (by first | assumption | exact ⟨by omega, by omega⟩) dX11_keep_6 (by decide) (fun c_6 => ?_) (fun c_6 => ?_)
  · skip
    refine lv_aload_n hx hb dX11_keep_12 rfl (lv_at hl 0 rfl) ?_
    refine x_get E hK hV (ci := 11) (C := RX11) (T := TX11) (N := 20) rfl w0c_in11 (pW_x h_ar) 1 (by decide) rfl cf_11_11 rfl dX11_keep_13 ?_
    refine lv_aload_n hx hb dX11_keep_16 rfl (lv_at hl 0 rfl) ?_
    refine x_get E hK hV (ci := 11) (C := RX11) (T := TX11) (N := 20) rfl w0c_in11 (pW_x h_ar) 2 (by decide) rfl cf_11_208 rfl dX11_keep_17 ?_
    refine x_aald hx hb hK hV (t0 := 4) rfl (pW_x h_nu) (by omega) (by omega) (by decide) (v := .null) rfl dX11_keep_20 ?_
    refine lv_astore_nN (lv' := [(1, .null), (0, .ref ar)]) hx hb dX11_keep_21 rfl hl (by decide) rfl (fun ls hl => ?_)
    refine lv_aload_n hx hb dX11_keep_22 rfl (lv_at hl 1 rfl) ?_
    refine x_get E hK hV (ci := 11) (C := RX11) (T := TX11) (N := 20) rfl w0c_in11 (pW_x h_ar) 1 (by decide) rfl cf_11_11 rfl dX11_keep_23 ?_
    refine lv_aload_n hx hb dX11_keep_26 rfl (lv_at hl 1 rfl) ?_
    refine x_get E hK hV (ci := 11) (C := RX11) (T := TX11) (N := 20) rfl w0c_in11 (pW_x h_ar) 2 (by decide) rfl cf_11_208 rfl dX11_keep_27 ?_
    refine lv_aload_n hx hb dX11_keep_30 rfl (lv_at hl 1 rfl) ?_
    refine x_get E hK hV (ci := 11) (C := RX11) (T := TX11) (N := 20) rfl w0c_in11 (pW_x h_ar) 8 (by decide) rfl cf_11_29 rfl dX11_keep_31 ?_
    refine y_astq3 hx hb hK hV h_nu (t0 := 4) rfl (pW_x h_fr) rfl (z := 0) (by omega) (by omega) (by decide) dX11_keep_34 (fun H locs X2_34 h__ kp_ hV => ?_)
    have h_ar := kp_ _ h_ar n_ar_nu
    have h_fr := kp_ _ h_fr (Ne.symm n_nu_fr)
    have kpX : ∀ q ∈ X, q.1 ≠ ar → q.1 ≠ nu → q.1 ≠ fr → q ∈ X2_34 := fun q h nk_ar nk_nu nk_fr => kp_ q (kpX q h nk_ar nk_nu nk_fr) nk_nu
    clear h_nu h__
    refine lv_aload_n hx hb dX11_keep_35 rfl (lv_at hl 1 rfl) ?_
    refine lv_aload_nN hx hb dX11_keep_36 rfl (lv_at hl 0 rfl) ?_
    refine lv_ifnonnullN hx hb dX11_keep_37 ?_
    refine y_newo E hK hV hA (ci := 5) (C := RX5) (T := TX5) (N := 7) (ty := tyX5) rfl w0c_in5 tyX5_ok ca_X11_9 cw_X5 cn_RX5 (fs := [.null, .null, .null, Iz 0, Iz 0, Iz 0, Iz 0]) bl_ok5 (e_room (k1 := 1) (n1 := 7) hV hR ⟨by decide, by decide⟩).1 (e_room (k1 := 1) (n1 := 7) hV hR ⟨by decide, by decide⟩).2 dX11_keep_40 (fun q40 H hV => ?_)
    refine W.widen (k := cP LB ll - cP LB ll + 1) (n := 2 * (cP LB ll - cP LB ll) + 7) (Nat.le_refl _) (Nat.le_refl _) ?_
    refine lv_dup hx hb dX11_keep_43 rfl ?_
    refine y_callN (As := []) (rest := [.ref q40, .ref ar]) E (n5_init ) (n_cwN 0 hts hC (by decide +kernel) ci_X5_init cn_RX5 cc_X5_init rfl rfl rfl (by decide +kernel) ⟨Nat.le_of_ble_eq_true rfl, Nat.le_of_ble_eq_true rfl⟩) hK hC hV hA rfl hl.1 (Nat.le_of_ble_eq_true rfl) dX11_keep_44 ⟨(e_room (k1 := 91) (n1 := 307) hV hR ⟨by decide, by decide⟩).1, (e_room (k1 := 91) (n1 := 307) hV hR ⟨by decide, by decide⟩).2⟩ (fun H locs hV => ?_)
    refine W.widen (k := cP LB ll - cP LB ll + 91) (n := 2 * (cP LB ll - cP LB ll) + 307) (Nat.le_refl _) (Nat.le_refl _) ?_
    refine lv_goto (tgt := 51) hx hb dX11_keep_47 (by decide) ?_
    refine y_putV3 E hK hV (ci := 11) (C := RX11) (T := TX11) (N := 20) (ty := tyX11) rfl w0c_in11 tyX11_ok nmX11 h_ar 8 (by decide) (v := .ref q40) (Nat.le_of_ble_eq_true rfl) rfl cf_11_29 rfl rfl rfl dX11_keep_51 (fun H locs X2_51 h__ kp_ hV => ?_)
    have h_fr := kp_ _ h_fr (Ne.symm n_ar_fr)
    have kpX : ∀ q ∈ X, q.1 ≠ ar → q.1 ≠ nu → q.1 ≠ fr → q ∈ X2_51 := fun q h nk_ar nk_nu nk_fr => kp_ q (kpX q h nk_ar nk_nu nk_fr) nk_ar
    have h_ar : (ar, (.inr (11, [Iz (mo), .ref nu, Iz (0), .ref tol, Iz (0), .ref pi_, .ref ti_, Iz (0), .ref q40, .ref stk, .ref t0, .ref no, .ref pa, .ref s0, .ref zo, .ref tx, .ref bu, .ref bv, .ref bw, .ref bs]) : va_E)) ∈ X2_51 := h__
    refine lv_aload_n hx hb dX11_keep_54 rfl (lv_at hl 1 rfl) ?_
    refine lv_dup hx hb dX11_keep_55 rfl ?_
    refine x_get E hK hV (ci := 11) (C := RX11) (T := TX11) (N := 20) rfl w0c_in11 (pW_x h_ar) 2 (by decide) rfl cf_11_208 rfl dX11_keep_56 ?_
    refine lv_dup_x1 hx hb dX11_keep_59 rfl rfl ?_
    refine lv_iconst (v := Int32.ofInt (1)) hx hb dX11_keep_60 (by decide) ?_
    refine g_iadd hx hb dX11_keep_61 ?_
    refine y_putV3 E hK hV (ci := 11) (C := RX11) (T := TX11) (N := 20) (ty := tyX11) rfl w0c_in11 tyX11_ok nmX11 h_ar 2 (by decide) (v := Iz (0 + 1)) (Nat.le_of_ble_eq_true rfl) rfl cf_11_208 rfl rfl rfl dX11_keep_62 (fun H locs X2_62 h__ kp_ hV => ?_)
    have h_fr := kp_ _ h_fr (Ne.symm n_ar_fr)
    have kpX : ∀ q ∈ X, q.1 ≠ ar → q.1 ≠ nu → q.1 ≠ fr → q ∈ X2_62 := fun q h nk_ar nk_nu nk_fr => kp_ q (kpX q h nk_ar nk_nu nk_fr) nk_ar
    have h_ar : (ar, (.inr (11, [Iz (mo), .ref nu, Iz (0 + 1), .ref tol, Iz (0), .ref pi_, .ref ti_, Iz (0), .ref q40, .ref stk, .ref t0, .ref no, .ref pa, .ref s0, .ref zo, .ref tx, .ref bu, .ref bv, .ref bw, .ref bs]) : va_E)) ∈ X2_62 := h__
    have hpost : (0 : Int) = 0 := rfl
    exact e_iret hx hb hr hK hV ⟨by decide, by decide⟩ hpost dX11_keep_65 hlocks
  · omega
