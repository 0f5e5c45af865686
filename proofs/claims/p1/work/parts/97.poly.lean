set_option maxHeartbeats 4000000 in
set_option maxRecDepth 100000 in
theorem k11_polynomial {l : Launch} {dC : Nat → ClassId} {dI : Nat → Nat → Nat} {cx : Nat → Nat} {LB : List Nat} {LP : List Nat} {pc_ : Nat → Nat} {pd : Nat → Int} {co : Nat → Nat → Nat} {X : va_W} {dd : Nat → Nat} {nn ss : Nat → Int} {ll : Nat → Nat} {gg : Nat → Int → Int} {H0 : Heap} {ar nu tol pi_ ti_ fr stk no pa zo tx bu bv bw bs : Nat} {mo : Int} {s0 t0 : Nat}  (h_ar : (ar, (.inr (11, [Iz (mo), .ref nu, Iz (0), .ref tol, Iz (0), .ref pi_, .ref ti_, Iz (0), .ref fr, .ref stk, .ref t0, .ref no, .ref pa, .ref s0, .ref zo, .ref tx, .ref bu, .ref bv, .ref bw, .ref bs]) : va_E)) ∈ X) (h_tol : (tol, (.inl (cx 3, 30, .inr (.inr (.inr (.inr (fun _ => none))))) : va_E)) ∈ X) : Met l yX11_polynomial (Cond.code yX11_polynomial cX11_polynomial 1 (some .int) :: w0c) (eRm 4 130 LB ll 71 202) (cPn dC dI cx LB (pW cx LP pc_ pd co X) dd nn ss ll gg H0 [.ref ar]) (eQi dC dI cx LB (va_A (bW (cx 0) LB dd nn ss ll gg (pW cx LP pc_ pd co X)) H0.size) ll H0 71 202 (fun z X' dd' nn' ss' ll' gg' => z = 0)) (cMc LB ll + 71) (2 * cMc LB ll + 202) (va_A (bW (cx 0) LB dd nn ss ll gg (pW cx LP pc_ pd co X)) H0.size) := by
  refine Met.ofW (cc := cX11_polynomial) (maxL := 1) (ret := (some .int)) (by decide) rfl ?_
  intro p e s m args below meth c s₁ B hml hv
  obtain ⟨rfl, hH0, hP, hK, hD0, hC0, hC⟩ := hv
  have hx := B.exec
  have hb := B.bytes
  have hr := B.returns
  have hts := atoms_spec (ws := Cond.code yX11_polynomial cX11_polynomial 1 (some .int) :: w0c) B.pre
  have hown : s.vm.findClass RX11 = some m.cls := findClass_of_methodNamed B.named
  have hlocks := B.notSynchronized
  have E : CallFix p m c cX11_polynomial 1 s _ (Cond.code yX11_polynomial cX11_polynomial 1 (some .int) :: w0c) RX11 := ⟨hx, hb, hml, hown, hts⟩
  subst hH0
  have hD := va_D.self (sz := s.heap.size) hD0
  have hA : ∀ q : Nat, s.heap.size ≤ q → va_A (bW (cx 0) LB dd nn ss ll gg (pW cx LP pc_ pd co X)) s.heap.size q := fun q h => Or.inr h
  have hV : cV dC dI cx LB (va_A (bW (cx 0) LB dd nn ss ll gg (pW cx LP pc_ pd co X)) s.heap.size) s.heap ll (pW cx LP pc_ pd co X) dd nn ss ll gg s.heap [] := ⟨hP, hD, va_S.rf, fun _ _ => Nat.le_refl _, hC0⟩
  have hR : (headSpec (Cond.code yX11_polynomial cX11_polynomial 1 (some .int) :: w0c) (eRm 4 130 LB ll 71 202)).room.cells = cMc LB ll + 71 ∧ (headSpec (Cond.code yX11_polynomial cX11_polynomial 1 (some .int) :: w0c) (eRm 4 130 LB ll 71 202)).room.slots = 2 * cMc LB ll + 202 := ⟨rfl, rfl⟩
  refine W.widen (k := cP LB ll - cP LB ll + 0) (n := 2 * (cP LB ll - cP LB ll) + 0) (Nat.zero_le _) (Nat.zero_le _) ?_
  have hl := lv_entry ([.ref ar]) (n := 1) (Nat.le_of_ble_eq_true rfl)
  rw [lg_entry_eq]
  generalize (lg_sl ([.ref ar]) ++ List.replicate (1 - (lg_sl ([.ref ar])).length) Slot.unset).toArray = ls at hl ⊢
  have hl : lv_has ls 1 [(0, .ref ar)] := hl
  have kpX : ∀ q ∈ X, q.1 ≠ ar → q.1 ≠ tol → q ∈ X := fun _ h _ _ => h
  have n_ar_tol : ar ≠ tol := y_ne hV h_ar h_tol (fun q => nomatch q)
  refine lv_aload_n hx hb dX11_polynomial_0 rfl (lv_at hl 0 rfl) ?_
  refine x_get E hK hV (ci := 11) (C := RX11) (T := TX11) (N := 20) rfl w0c_in11 (pW_x h_ar) 4 (by decide) rfl cf_11_273 rfl dX11_polynomial_1 ?_
  refine lv_bipush (v := Int32.ofInt (30)) hx hb dX11_polynomial_4 (by decide) ?_
  refine g_icmp_lt (tgt := 12) hx hb (by first | assumption | exact ⟨by omega, by omega⟩) (by first | assumption | exact ⟨by omega, by omega⟩) dX11_polynomial_6 (by decide) (fun c_6 => ?_) (fun c_6 => ?_)
  · skip
    refine lv_aload_n hx hb dX11_polynomial_12 rfl (lv_at hl 0 rfl) ?_
    refine x_get E hK hV (ci := 11) (C := RX11) (T := TX11) (N := 20) rfl w0c_in11 (pW_x h_ar) 3 (by decide) rfl cf_11_17 rfl dX11_polynomial_13 ?_
    refine lv_aload_n hx hb dX11_polynomial_16 rfl (lv_at hl 0 rfl) ?_
    refine x_get E hK hV (ci := 11) (C := RX11) (T := TX11) (N := 20) rfl w0c_in11 (pW_x h_ar) 4 (by decide) rfl cf_11_273 rfl dX11_polynomial_17 ?_
    refine y_newo E hK hV hA (ci := 4) (C := RX4) (T := TX4) (N := 2) (ty := tyX4) rfl w0c_in4 tyX4_ok ca_X11_15 cw_X4 cn_RX4 (fs := [.null, Iz 0]) bl_ok4 (e_room (k1 := 1) (n1 := 2) hV hR ⟨by decide, by decide⟩).1 (e_room (k1 := 1) (n1 := 2) hV hR ⟨by decide, by decide⟩).2 dX11_polynomial_20 (fun q20 H hV => ?_)
    refine W.widen (k := cP LB ll - cP LB ll + 1) (n := 2 * (cP LB ll - cP LB ll) + 2) (Nat.le_refl _) (Nat.le_refl _) ?_
    refine lv_dup hx hb dX11_polynomial_23 rfl ?_
    refine y_callI (As := []) (rest := [.ref q20, Iz (0), .ref tol]) E (n4_init ) (n_cwI 0 hts cl_X11_276 (by decide +kernel) cn_RX4 cc_X4_init rfl rfl rfl (by decide +kernel) ⟨Nat.le_of_ble_eq_true rfl, Nat.le_of_ble_eq_true rfl⟩) hK hC hV hA rfl hl.1 (Nat.le_of_ble_eq_true rfl) dX11_polynomial_24 ⟨(e_room (k1 := 71) (n1 := 202) hV hR ⟨by decide, by decide⟩).1, (e_room (k1 := 71) (n1 := 202) hV hR ⟨by decide, by decide⟩).2⟩ (T := fun e1 => ∃ vs, e1 = .inr (4, vs)) (fun Qs2 Ps2 X2 hP => ?_) (fun e1_ H locs hT_ hV => ?_)
    · obtain ⟨k_, ek_, rfl, rfl, rfl⟩ := hP
      exact ⟨_, ⟨_, rfl⟩, gW_p2 List.mem_cons_self ek_⟩
    obtain ⟨vs_, rfl⟩ := hT_
    refine W.widen (k := cP LB ll - cP LB ll + 71) (n := 2 * (cP LB ll - cP LB ll) + 202) (Nat.le_refl _) (Nat.le_refl _) ?_
    obtain ⟨X2_24, eX_, h_q, kp_⟩ : ∃ X2_ : va_W, X2_ = X ++ [(q20, (.inr (4, vs_) : va_E))] ∧ (q20, (.inr (4, vs_) : va_E)) ∈ X2_ ∧ ∀ q_ ∈ X, q_ ∈ X2_ := ⟨_, rfl, List.mem_append_right _ List.mem_cons_self, fun _ h => List.mem_append_left _ h⟩
    rw [← eX_] at hV
    have h_ar := kp_ _ h_ar
    have h_tol := kp_ _ h_tol
    have kpX : ∀ q ∈ X, q.1 ≠ ar → q.1 ≠ tol → q ∈ X2_24 := fun q h nk_ar nk_tol => kp_ q (kpX q h nk_ar nk_tol)
    refine y_astq3 hx hb hK hV h_tol (t0 := 3) rfl (pW_x h_q) rfl (z := 0) (by omega) (by omega) (by decide) dX11_polynomial_27 (fun H locs X2_27 h__ kp_ hV => ?_)
    have h_ar := kp_ _ h_ar n_ar_tol
    have kpX : ∀ q ∈ X, q.1 ≠ ar → q.1 ≠ tol → q ∈ X2_27 := fun q h nk_ar nk_tol => kp_ q (kpX q h nk_ar nk_tol) nk_tol
    clear h_tol h__
    refine lv_aload_n hx hb dX11_polynomial_28 rfl (lv_at hl 0 rfl) ?_
    refine lv_dup hx hb dX11_polynomial_29 rfl ?_
    refine x_get E hK hV (ci := 11) (C := RX11) (T := TX11) (N := 20) rfl w0c_in11 (pW_x h_ar) 4 (by decide) rfl cf_11_273 rfl dX11_polynomial_30 ?_
    refine lv_dup_x1 hx hb dX11_polynomial_33 rfl rfl ?_
    refine lv_iconst (v := Int32.ofInt (1)) hx hb dX11_polynomial_34 (by decide) ?_
    refine g_iadd hx hb dX11_polynomial_35 ?_
    refine y_putV3 E hK hV (ci := 11) (C := RX11) (T := TX11) (N := 20) (ty := tyX11) rfl w0c_in11 tyX11_ok nmX11 h_ar 4 (by decide) (v := Iz (0 + 1)) (Nat.le_of_ble_eq_true rfl) rfl cf_11_273 rfl rfl rfl dX11_polynomial_36 (fun H locs X2_36 h__ kp_ hV => ?_)
    have kpX : ∀ q ∈ X, q.1 ≠ ar → q.1 ≠ tol → q ∈ X2_36 := fun q h nk_ar nk_tol => kp_ q (kpX q h nk_ar nk_tol) nk_ar
    have h_ar : (ar, (.inr (11, [Iz (mo), .ref nu, Iz (0), .ref tol, Iz (0 + 1), .ref pi_, .ref ti_, Iz (0), .ref fr, .ref stk, .ref t0, .ref no, .ref pa, .ref s0, .ref zo, .ref tx, .ref bu, .ref bv, .ref bw, .ref bs]) : va_E)) ∈ X2_36 := h__
    have hpost : (0 : Int) = 0 := rfl
    exact e_iret hx hb hr hK hV ⟨by decide, by decide⟩ hpost dX11_polynomial_39 hlocks
  · omega
