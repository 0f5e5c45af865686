set_option maxHeartbeats 4000000 in
set_option maxRecDepth 100000 in
theorem k11_apply {l : Launch} {dC : Nat → ClassId} {dI : Nat → Nat → Nat} {cx : Nat → Nat} {LB : List Nat} {LP : List Nat} {pc_ : Nat → Nat} {pd : Nat → Int} {co : Nat → Nat → Nat} {X : va_W} {dd : Nat → Nat} {nn ss : Nat → Int} {ll : Nat → Nat} {gg : Nat → Int → Int} {H0 : Heap} {ar nu tol pi_ ti_ fr stk no pa zo tx bu bv bw bs : Nat} {mo : Int} {s0 t0 : Nat} {ic : Int} {ia : Int} {ib : Int}  (hAr : (ar, (.inr (11, [Iz (mo), .ref nu, Iz (0), .ref tol, Iz (0), .ref pi_, .ref ti_, Iz (0), .ref fr, .ref stk, .ref t0, .ref no, .ref pa, .ref s0, .ref zo, .ref tx, .ref bu, .ref bv, .ref bw, .ref bs]) : va_E)) ∈ X) (h_nu : (nu, (.inl (cx 4, 100, .inr (.inr (.inr (.inr (fun _ => none))))) : va_E)) ∈ X) (h_tol : (tol, (.inl (cx 3, 30, .inr (.inr (.inr (.inr (fun _ => none))))) : va_E)) ∈ X) (ic0_ : -2147483648 ≤ ic) (ic1_ : ic ≤ 2147483647) (ia0_ : -2147483648 ≤ ia) (ia1_ : ia ≤ 2147483647) (ib0_ : -2147483648 ≤ ib) (ib1_ : ib ≤ 2147483647) : Met l yX11_apply (Cond.code yX11_apply cX11_apply 5 (some .int) :: w0c) (eRm 5 151 LB ll 0 0) (cPc dC dI cx LB (pW cx LP pc_ pd co X) dd nn ss ll gg H0 [.ref ar, Iz (ic), Iz (ia), Iz (ib)]) (eQi dC dI cx LB (va_A (bW (cx 0) LB dd nn ss ll gg (pW cx LP pc_ pd co X)) H0.size) ll H0 0 0 (fun z X' dd' nn' ss' ll' gg' => z = (-101))) (cMc LB ll + 0) (2 * cMc LB ll + 0) (va_A (bW (cx 0) LB dd nn ss ll gg (pW cx LP pc_ pd co X)) H0.size) := by
  refine Met.ofW (cc := cX11_apply) (maxL := 5) (ret := (some .int)) (by decide) rfl ?_
  intro p e s m args below meth c s₁ B hml hv
  obtain ⟨rfl, hH0, hP, hK, hD0, hC0⟩ := hv
  have hx := B.exec
  have hb := B.bytes
  have hr := B.returns
  have hts := atoms_spec (ws := Cond.code yX11_apply cX11_apply 5 (some .int) :: w0c) B.pre
  have hown : s.vm.findClass RX11 = some m.cls := findClass_of_methodNamed B.named
  have hlocks := B.notSynchronized
  have E : CallFix p m c cX11_apply 5 s _ (Cond.code yX11_apply cX11_apply 5 (some .int) :: w0c) RX11 := ⟨hx, hb, hml, hown, hts⟩
  subst hH0
  have hD := va_D.self (sz := s.heap.size) hD0
  have hA : ∀ q : Nat, s.heap.size ≤ q → va_A (bW (cx 0) LB dd nn ss ll gg (pW cx LP pc_ pd co X)) s.heap.size q := fun q h => Or.inr h
  have hV : cV dC dI cx LB (va_A (bW (cx 0) LB dd nn ss ll gg (pW cx LP pc_ pd co X)) s.heap.size) s.heap ll (pW cx LP pc_ pd co X) dd nn ss ll gg s.heap [] := ⟨hP, hD, va_S.rf, fun _ _ => Nat.le_refl _, hC0⟩
  have hR : (headSpec (Cond.code yX11_apply cX11_apply 5 (some .int) :: w0c) (eRm 5 151 LB ll 0 0)).room.cells = cMc LB ll + 0 ∧ (headSpec (Cond.code yX11_apply cX11_apply 5 (some .int) :: w0c) (eRm 5 151 LB ll 0 0)).room.slots = 2 * cMc LB ll + 0 := ⟨rfl, rfl⟩
  refine W.widen (k := cP LB ll - cP LB ll + 0) (n := 2 * (cP LB ll - cP LB ll) + 0) (Nat.zero_le _) (Nat.zero_le _) ?_
  have hl := lv_entry ([.ref ar, Iz (ic), Iz (ia), Iz (ib)]) (n := 5) (Nat.le_of_ble_eq_true rfl)
  rw [lg_entry_eq]
  generalize (lg_sl ([.ref ar, Iz (ic), Iz (ia), Iz (ib)]) ++ List.replicate (5 - (lg_sl ([.ref ar, Iz (ic), Iz (ia), Iz (ib)])).length) Slot.unset).toArray = ls at hl ⊢
  have hl : lv_has ls 5 [(0, .ref ar), (1, Iz (ic)), (2, Iz (ia)), (3, Iz (ib))] := hl
  refine lv_aload_n hx hb dX11_apply_0 rfl (lv_at hl 0 rfl) ?_
  refine lv_iload_n hx hb dX11_apply_1 rfl (lv_at hl 2 rfl) ?_
  refine e_calli (k2 := 0) (n2 := 0) (f := 0) (kl := 0) (As := [Iz (ia)]) (rest := []) E (e0i (k11_isNone (fn := fun _ => none) (nb := fun _ => 0) (ft := fun _ => none) (tb_ := fun _ => 0) hAr h_nu (fun i h => by omega) (by omega) (by omega) (by omega) (by omega))) (cwV 1 hts (cGood cl_X11_120 ci_X11_isNone cs_X11_isNone cn_RX11 cc_X11_isNone) rfl rfl rfl (by decide +kernel) ⟨Nat.le_of_ble_eq_true rfl, Nat.le_of_ble_eq_true rfl⟩) (x_recv (q := (RX11, TX11, 20)) hK hV (ci := 11) rfl (pW_x hAr)) hK hV hA hR ⟨by decide, by decide⟩ rfl hl.1 (Nat.le_of_ble_eq_true rfl) dX11_apply_2 (fun z2 X2 dd2 nn2 ss2 ll2 gg2 H locs q2 hV hm2 => ?_)
  obtain ⟨e1_, e2_, e3_, e4_, e5_, e6_, q2⟩ := q2
  obtain rfl := e1_.symm
  obtain rfl := e2_.symm
  obtain rfl := e3_.symm
  obtain rfl := e4_.symm
  obtain rfl := e5_.symm
  obtain rfl := e6_.symm
  rw [if_pos (by omega)] at q2
  subst q2
  refine W.widen (k := cP LB ll - cP LB ll + 0) (n := 2 * (cP LB ll - cP LB ll) + 0) (Nat.le_refl _) (Nat.le_refl _) ?_
  refine g_if_ne (tgt := 16) hx hb (by first | assumption | exact ⟨by omega, by omega⟩) dX11_apply_5 (by decide) (fun c_5 => ?_) (fun c_5 => ?_)
  · skip
    refine lv_bipush (v := Int32.ofInt (-101)) hx hb dX11_apply_16 (by decide) ?_
    have hpost : ((-101) : Int) = (-101) := rfl
    exact e_iret hx hb hr hK hV ⟨by decide, by decide⟩ hpost dX11_apply_18 hlocks
  · omega
set_option maxHeartbeats 4000000 in
set_option maxRecDepth 100000 in
theorem k11_plain {l : Launch} {dC : Nat → ClassId} {dI : Nat → Nat → Nat} {cx : Nat → Nat} {LB : List Nat} {LP : List Nat} {pc_ : Nat → Nat} {pd : Nat → Int} {co : Nat → Nat → Nat} {X : va_W} {dd : Nat → Nat} {nn ss : Nat → Int} {ll : Nat → Nat} {gg : Nat → Int → Int} {H0 : Heap} {ar nu tol pi_ ti_ fr stk no pa zo tx bu bv bw bs : Nat} {mo : Int} {s0 t0 : Nat} {ia : Int} {ib : Int}  (hAr : (ar, (.inr (11, [Iz (mo), .ref nu, Iz (0), .ref tol, Iz (0), .ref pi_, .ref ti_, Iz (0), .ref fr, .ref stk, .ref t0, .ref no, .ref pa, .ref s0, .ref zo, .ref tx, .ref bu, .ref bv, .ref bw, .ref bs]) : va_E)) ∈ X) (h_nu : (nu, (.inl (cx 4, 100, .inr (.inr (.inr (.inr (fun _ => none))))) : va_E)) ∈ X) (h_tol : (tol, (.inl (cx 3, 30, .inr (.inr (.inr (.inr (fun _ => none))))) : va_E)) ∈ X) (ia0_ : -2147483648 ≤ ia) (ia1_ : ia ≤ 2147483647) (ib0_ : -2147483648 ≤ ib) (ib1_ : ib ≤ 2147483647) : Met l yX11_plain (Cond.code yX11_plain cX11_plain 4 (some .int) :: w0c) (eRm 5 151 LB ll 0 0) (cPc dC dI cx LB (pW cx LP pc_ pd co X) dd nn ss ll gg H0 [.ref ar, Iz (ia), Iz (ib)]) (eQi dC dI cx LB (va_A (bW (cx 0) LB dd nn ss ll gg (pW cx LP pc_ pd co X)) H0.size) ll H0 0 0 (fun z X' dd' nn' ss' ll' gg' => z = (-101))) (cMc LB ll + 0) (2 * cMc LB ll + 0) (va_A (bW (cx 0) LB dd nn ss ll gg (pW cx LP pc_ pd co X)) H0.size) := by
  refine Met.ofW (cc := cX11_plain) (maxL := 4) (ret := (some .int)) (by decide) rfl ?_
  intro p e s m args below meth c s₁ B hml hv
  obtain ⟨rfl, hH0, hP, hK, hD0, hC0⟩ := hv
  have hx := B.exec
  have hb := B.bytes
  have hr := B.returns
  have hts := atoms_spec (ws := Cond.code yX11_plain cX11_plain 4 (some .int) :: w0c) B.pre
  have hown : s.vm.findClass RX11 = some m.cls := findClass_of_methodNamed B.named
  have hlocks := B.notSynchronized
  have E : CallFix p m c cX11_plain 4 s _ (Cond.code yX11_plain cX11_plain 4 (some .int) :: w0c) RX11 := ⟨hx, hb, hml, hown, hts⟩
  subst hH0
  have hD := va_D.self (sz := s.heap.size) hD0
  have hA : ∀ q : Nat, s.heap.size ≤ q → va_A (bW (cx 0) LB dd nn ss ll gg (pW cx LP pc_ pd co X)) s.heap.size q := fun q h => Or.inr h
  have hV : cV dC dI cx LB (va_A (bW (cx 0) LB dd nn ss ll gg (pW cx LP pc_ pd co X)) s.heap.size) s.heap ll (pW cx LP pc_ pd co X) dd nn ss ll gg s.heap [] := ⟨hP, hD, va_S.rf, fun _ _ => Nat.le_refl _, hC0⟩
  have hR : (headSpec (Cond.code yX11_plain cX11_plain 4 (some .int) :: w0c) (eRm 5 151 LB ll 0 0)).room.cells = cMc LB ll + 0 ∧ (headSpec (Cond.code yX11_plain cX11_plain 4 (some .int) :: w0c) (eRm 5 151 LB ll 0 0)).room.slots = 2 * cMc LB ll + 0 := ⟨rfl, rfl⟩
  refine W.widen (k := cP LB ll - cP LB ll + 0) (n := 2 * (cP LB ll - cP LB ll) + 0) (Nat.zero_le _) (Nat.zero_le _) ?_
  have hl := lv_entry ([.ref ar, Iz (ia), Iz (ib)]) (n := 4) (Nat.le_of_ble_eq_true rfl)
  rw [lg_entry_eq]
  generalize (lg_sl ([.ref ar, Iz (ia), Iz (ib)]) ++ List.replicate (4 - (lg_sl ([.ref ar, Iz (ia), Iz (ib)])).length) Slot.unset).toArray = ls at hl ⊢
  have hl : lv_has ls 4 [(0, .ref ar), (1, Iz (ia)), (2, Iz (ib))] := hl
  refine lv_aload_n hx hb dX11_plain_0 rfl (lv_at hl 0 rfl) ?_
  refine lv_iload_n hx hb dX11_plain_1 rfl (lv_at hl 1 rfl) ?_
  refine e_calli (k2 := 0) (n2 := 0) (f := 0) (kl := 0) (As := [Iz (ia)]) (rest := []) E (e0i (k11_isNone (fn := fun _ => none) (nb := fun _ => 0) (ft := fun _ => none) (tb_ := fun _ => 0) hAr h_nu (fun i h => by omega) (by omega) (by omega) (by omega) (by omega))) (cwV 1 hts (cGood cl_X11_120 ci_X11_isNone cs_X11_isNone cn_RX11 cc_X11_isNone) rfl rfl rfl (by decide +kernel) ⟨Nat.le_of_ble_eq_true rfl, Nat.le_of_ble_eq_true rfl⟩) (x_recv (q := (RX11, TX11, 20)) hK hV (ci := 11) rfl (pW_x hAr)) hK hV hA hR ⟨by decide, by decide⟩ rfl hl.1 (Nat.le_of_ble_eq_true rfl) dX11_plain_2 (fun z2 X2 dd2 nn2 ss2 ll2 gg2 H locs q2 hV hm2 => ?_)
  obtain ⟨e1_, e2_, e3_, e4_, e5_, e6_, q2⟩ := q2
  obtain rfl := e1_.symm
  obtain rfl := e2_.symm
  obtain rfl := e3_.symm
  obtain rfl := e4_.symm
  obtain rfl := e5_.symm
  obtain rfl := e6_.symm
  rw [if_pos (by omega)] at q2
  subst q2
  refine W.widen (k := cP LB ll - cP LB ll + 0) (n := 2 * (cP LB ll - cP LB ll) + 0) (Nat.le_refl _) (Nat.le_refl _) ?_
  refine g_if_ne (tgt := 16) hx hb (by first | assumption | exact ⟨by omega, by omega⟩) dX11_plain_5 (by decide) (fun c_5 => ?_) (fun c_5 => ?_)
  · skip
    refine lv_bipush (v := Int32.ofInt (-101)) hx hb dX11_plain_16 (by decide) ?_
    have hpost : ((-101) : Int) = (-101) := rfl
    exact e_iret hx hb hr hK hV ⟨by decide, by decide⟩ hpost dX11_plain_18 hlocks
  · omega
set_option maxHeartbeats 4000000 in
set_option maxRecDepth 100000 in
theorem k11_power {l : Launch} {dC : Nat → ClassId} {dI : Nat → Nat → Nat} {cx : Nat → Nat} {LB : List Nat} {LP : List Nat} {pc_ : Nat → Nat} {pd : Nat → Int} {co : Nat → Nat → Nat} {X : va_W} {dd : Nat → Nat} {nn ss : Nat → Int} {ll : Nat → Nat} {gg : Nat → Int → Int} {H0 : Heap} {ar nu tol pi_ ti_ fr stk no pa zo tx bu bv bw bs : Nat} {mo : Int} {s0 t0 : Nat} {ia : Int} {ib : Int}  (hAr : (ar, (.inr (11, [Iz (mo), .ref nu, Iz (0), .ref tol, Iz (0), .ref pi_, .ref ti_, Iz (0), .ref fr, .ref stk, .ref t0, .ref no, .ref pa, .ref s0, .ref zo, .ref tx, .ref bu, .ref bv, .ref bw, .ref bs]) : va_E)) ∈ X) (h_nu : (nu, (.inl (cx 4, 100, .inr (.inr (.inr (.inr (fun _ => none))))) : va_E)) ∈ X) (h_tol : (tol, (.inl (cx 3, 30, .inr (.inr (.inr (.inr (fun _ => none))))) : va_E)) ∈ X) (ia0_ : -2147483648 ≤ ia) (ia1_ : ia ≤ 2147483647) (ib0_ : -2147483648 ≤ ib) (ib1_ : ib ≤ 2147483647) : Met l yX11_power (Cond.code yX11_power cX11_power 4 (some .int) :: w0c) (eRm 5 151 LB ll 0 0) (cPc dC dI cx LB (pW cx LP pc_ pd co X) dd nn ss ll gg H0 [.ref ar, Iz (ia), Iz (ib)]) (eQi dC dI cx LB (va_A (bW (cx 0) LB dd nn ss ll gg (pW cx LP pc_ pd co X)) H0.size) ll H0 0 0 (fun z X' dd' nn' ss' ll' gg' => z = (-101))) (cMc LB ll + 0) (2 * cMc LB ll + 0) (va_A (bW (cx 0) LB dd nn ss ll gg (pW cx LP pc_ pd co X)) H0.size) := by
  refine Met.ofW (cc := cX11_power) (maxL := 4) (ret := (some .int)) (by decide) rfl ?_
  intro p e s m args below meth c s₁ B hml hv
  obtain ⟨rfl, hH0, hP, hK, hD0, hC0⟩ := hv
  have hx := B.exec
  have hb := B.bytes
  have hr := B.returns
  have hts := atoms_spec (ws := Cond.code yX11_power cX11_power 4 (some .int) :: w0c) B.pre
  have hown : s.vm.findClass RX11 = some m.cls := findClass_of_methodNamed B.named
  have hlocks := B.notSynchronized
  have E : CallFix p m c cX11_power 4 s _ (Cond.code yX11_power cX11_power 4 (some .int) :: w0c) RX11 := ⟨hx, hb, hml, hown, hts⟩
  subst hH0
  have hD := va_D.self (sz := s.heap.size) hD0
  have hA : ∀ q : Nat, s.heap.size ≤ q → va_A (bW (cx 0) LB dd nn ss ll gg (pW cx LP pc_ pd co X)) s.heap.size q := fun q h => Or.inr h
  have hV : cV dC dI cx LB (va_A (bW (cx 0) LB dd nn ss ll gg (pW cx LP pc_ pd co X)) s.heap.size) s.heap ll (pW cx LP pc_ pd co X) dd nn ss ll gg s.heap [] := ⟨hP, hD, va_S.rf, fun _ _ => Nat.le_refl _, hC0⟩
  have hR : (headSpec (Cond.code yX11_power cX11_power 4 (some .int) :: w0c) (eRm 5 151 LB ll 0 0)).room.cells = cMc LB ll + 0 ∧ (headSpec (Cond.code yX11_power cX11_power 4 (some .int) :: w0c) (eRm 5 151 LB ll 0 0)).room.slots = 2 * cMc LB ll + 0 := ⟨rfl, rfl⟩
  refine W.widen (k := cP LB ll - cP LB ll + 0) (n := 2 * (cP LB ll - cP LB ll) + 0) (Nat.zero_le _) (Nat.zero_le _) ?_
  have hl := lv_entry ([.ref ar, Iz (ia), Iz (ib)]) (n := 4) (Nat.le_of_ble_eq_true rfl)
  rw [lg_entry_eq]
  generalize (lg_sl ([.ref ar, Iz (ia), Iz (ib)]) ++ List.replicate (4 - (lg_sl ([.ref ar, Iz (ia), Iz (ib)])).length) Slot.unset).toArray = ls at hl ⊢
  have hl : lv_has ls 4 [(0, .ref ar), (1, Iz (ia)), (2, Iz (ib))] := hl
  refine lv_aload_n hx hb dX11_power_0 rfl (lv_at hl 0 rfl) ?_
  refine lv_iload_n hx hb dX11_power_1 rfl (lv_at hl 1 rfl) ?_
  refine e_calli (k2 := 0) (n2 := 0) (f := 0) (kl := 0) (As := [Iz (ia)]) (rest := []) E (e0i (k11_isNone (fn := fun _ => none) (nb := fun _ => 0) (ft := fun _ => none) (tb_ := fun _ => 0) hAr h_nu (fun i h => by omega) (by omega) (by omega) (by omega) (by omega))) (cwV 1 hts (cGood cl_X11_120 ci_X11_isNone cs_X11_isNone cn_RX11 cc_X11_isNone) rfl rfl rfl (by decide +kernel) ⟨Nat.le_of_ble_eq_true rfl, Nat.le_of_ble_eq_true rfl⟩) (x_recv (q := (RX11, TX11, 20)) hK hV (ci := 11) rfl (pW_x hAr)) hK hV hA hR ⟨by decide, by decide⟩ rfl hl.1 (Nat.le_of_ble_eq_true rfl) dX11_power_2 (fun z2 X2 dd2 nn2 ss2 ll2 gg2 H locs q2 hV hm2 => ?_)
  obtain ⟨e1_, e2_, e3_, e4_, e5_, e6_, q2⟩ := q2
  obtain rfl := e1_.symm
  obtain rfl := e2_.symm
  obtain rfl := e3_.symm
  obtain rfl := e4_.symm
  obtain rfl := e5_.symm
  obtain rfl := e6_.symm
  rw [if_pos (by omega)] at q2
  subst q2
  refine W.widen (k := cP LB ll - cP LB ll + 0) (n := 2 * (cP LB ll - cP LB ll) + 0) (Nat.le_refl _) (Nat.le_refl _) ?_
  refine g_if_eq (tgt := 11) hx hb (by first | assumption | exact ⟨by omega, by omega⟩) dX11_power_5 (by decide) (fun c_5 => ?_) (fun c_5 => ?_)
  · omega
  · skip
    refine lv_bipush (v := Int32.ofInt (-101)) hx hb dX11_power_8 (by decide) ?_
    have hpost : ((-101) : Int) = (-101) := rfl
    exact e_iret hx hb hr hK hV ⟨by decide, by decide⟩ hpost dX11_power_10 hlocks
set_option maxHeartbeats 4000000 in
set_option maxRecDepth 100000 in
theorem k11_root {l : Launch} {dC : Nat → ClassId} {dI : Nat → Nat → Nat} {cx : Nat → Nat} {LB : List Nat} {LP : List Nat} {pc_ : Nat → Nat} {pd : Nat → Int} {co : Nat → Nat → Nat} {X : va_W} {dd : Nat → Nat} {nn ss : Nat → Int} {ll : Nat → Nat} {gg : Nat → Int → Int} {H0 : Heap} {ar nu tol pi_ ti_ fr stk no pa zo tx bu bv bw bs : Nat} {mo : Int} {s0 t0 : Nat} {ia : Int} {ib : Int}  (hAr : (ar, (.inr (11, [Iz (mo), .ref nu, Iz (0), .ref tol, Iz (0), .ref pi_, .ref ti_, Iz (0), .ref fr, .ref stk, .ref t0, .ref no, .ref pa, .ref s0, .ref zo, .ref tx, .ref bu, .ref bv, .ref bw, .ref bs]) : va_E)) ∈ X) (h_nu : (nu, (.inl (cx 4, 100, .inr (.inr (.inr (.inr (fun _ => none))))) : va_E)) ∈ X) (h_tol : (tol, (.inl (cx 3, 30, .inr (.inr (.inr (.inr (fun _ => none))))) : va_E)) ∈ X) (ia0_ : -2147483648 ≤ ia) (ia1_ : ia ≤ 2147483647) (ib0_ : -2147483648 ≤ ib) (ib1_ : ib ≤ 2147483647) : Met l yX11_root (Cond.code yX11_root cX11_root 4 (some .int) :: w0c) (eRm 5 151 LB ll 0 0) (cPc dC dI cx LB (pW cx LP pc_ pd co X) dd nn ss ll gg H0 [.ref ar, Iz (ia), Iz (ib)]) (eQi dC dI cx LB (va_A (bW (cx 0) LB dd nn ss ll gg (pW cx LP pc_ pd co X)) H0.size) ll H0 0 0 (fun z X' dd' nn' ss' ll' gg' => z = (-101))) (cMc LB ll + 0) (2 * cMc LB ll + 0) (va_A (bW (cx 0) LB dd nn ss ll gg (pW cx LP pc_ pd co X)) H0.size) := by
  refine Met.ofW (cc := cX11_root) (maxL := 4) (ret := (some .int)) (by decide) rfl ?_
  intro p e s m args below meth c s₁ B hml hv
  obtain ⟨rfl, hH0, hP, hK, hD0, hC0⟩ := hv
  have hx := B.exec
  have hb := B.bytes
  have hr := B.returns
  have hts := atoms_spec (ws := Cond.code yX11_root cX11_root 4 (some .int) :: w0c) B.pre
  have hown : s.vm.findClass RX11 = some m.cls := findClass_of_methodNamed B.named
  have hlocks := B.notSynchronized
  have E : CallFix p m c cX11_root 4 s _ (Cond.code yX11_root cX11_root 4 (some .int) :: w0c) RX11 := ⟨hx, hb, hml, hown, hts⟩
  subst hH0
  have hD := va_D.self (sz := s.heap.size) hD0
  have hA : ∀ q : Nat, s.heap.size ≤ q → va_A (bW (cx 0) LB dd nn ss ll gg (pW cx LP pc_ pd co X)) s.heap.size q := fun q h => Or.inr h
  have hV : cV dC dI cx LB (va_A (bW (cx 0) LB dd nn ss ll gg (pW cx LP pc_ pd co X)) s.heap.size) s.heap ll (pW cx LP pc_ pd co X) dd nn ss ll gg s.heap [] := ⟨hP, hD, va_S.rf, fun _ _ => Nat.le_refl _, hC0⟩
  have hR : (headSpec (Cond.code yX11_root cX11_root 4 (some .int) :: w0c) (eRm 5 151 LB ll 0 0)).room.cells = cMc LB ll + 0 ∧ (headSpec (Cond.code yX11_root cX11_root 4 (some .int) :: w0c) (eRm 5 151 LB ll 0 0)).room.slots = 2 * cMc LB ll + 0 := ⟨rfl, rfl⟩
  refine W.widen (k := cP LB ll - cP LB ll + 0) (n := 2 * (cP LB ll - cP LB ll) + 0) (Nat.zero_le _) (Nat.zero_le _) ?_
  have hl := lv_entry ([.ref ar, Iz (ia), Iz (ib)]) (n := 4) (Nat.le_of_ble_eq_true rfl)
  rw [lg_entry_eq]
  generalize (lg_sl ([.ref ar, Iz (ia), Iz (ib)]) ++ List.replicate (4 - (lg_sl ([.ref ar, Iz (ia), Iz (ib)])).length) Slot.unset).toArray = ls at hl ⊢
  have hl : lv_has ls 4 [(0, .ref ar), (1, Iz (ia)), (2, Iz (ib))] := hl
  refine lv_aload_n hx hb dX11_root_0 rfl (lv_at hl 0 rfl) ?_
  refine lv_iload_n hx hb dX11_root_1 rfl (lv_at hl 1 rfl) ?_
  refine e_calli (k2 := 0) (n2 := 0) (f := 0) (kl := 0) (As := [Iz (ia)]) (rest := []) E (e0i (k11_isNone (fn := fun _ => none) (nb := fun _ => 0) (ft := fun _ => none) (tb_ := fun _ => 0) hAr h_nu (fun i h => by omega) (by omega) (by omega) (by omega) (by omega))) (cwV 1 hts (cGood cl_X11_120 ci_X11_isNone cs_X11_isNone cn_RX11 cc_X11_isNone) rfl rfl rfl (by decide +kernel) ⟨Nat.le_of_ble_eq_true rfl, Nat.le_of_ble_eq_true rfl⟩) (x_recv (q := (RX11, TX11, 20)) hK hV (ci := 11) rfl (pW_x hAr)) hK hV hA hR ⟨by decide, by decide⟩ rfl hl.1 (Nat.le_of_ble_eq_true rfl) dX11_root_2 (fun z2 X2 dd2 nn2 ss2 ll2 gg2 H locs q2 hV hm2 => ?_)
  obtain ⟨e1_, e2_, e3_, e4_, e5_, e6_, q2⟩ := q2
  obtain rfl := e1_.symm
  obtain rfl := e2_.symm
  obtain rfl := e3_.symm
  obtain rfl := e4_.symm
  obtain rfl := e5_.symm
  obtain rfl := e6_.symm
  rw [if_pos (by omega)] at q2
  subst q2
  refine W.widen (k := cP LB ll - cP LB ll + 0) (n := 2 * (cP LB ll - cP LB ll) + 0) (Nat.le_refl _) (Nat.le_refl _) ?_
  refine g_if_eq (tgt := 11) hx hb (by first | assumption | exact ⟨by omega, by omega⟩) dX11_root_5 (by decide) (fun c_5 => ?_) (fun c_5 => ?_)
  · omega
  · skip
    refine lv_bipush (v := Int32.ofInt (-101)) hx hb dX11_root_8 (by decide) ?_
    have hpost : ((-101) : Int) = (-101) := rfl
    exact e_iret hx hb hr hK hV ⟨by decide, by decide⟩ hpost dX11_root_10 hlocks
set_option maxHeartbeats 4000000 in
set_option maxRecDepth 100000 in
theorem k11_beside {l : Launch} {dC : Nat → ClassId} {dI : Nat → Nat → Nat} {cx : Nat → Nat} {LB : List Nat} {LP : List Nat} {pc_ : Nat → Nat} {pd : Nat → Int} {co : Nat → Nat → Nat} {X : va_W} {dd : Nat → Nat} {nn ss : Nat → Int} {ll : Nat → Nat} {gg : Nat → Int → Int} {H0 : Heap} {ar nu tol pi_ ti_ fr stk no pa zo tx bu bv bw bs : Nat} {mo : Int} {s0 t0 : Nat} {ia : Int} {ib : Int}  (hAr : (ar, (.inr (11, [Iz (mo), .ref nu, Iz (0), .ref tol, Iz (0), .ref pi_, .ref ti_, Iz (0), .ref fr, .ref stk, .ref t0, .ref no, .ref pa, .ref s0, .ref zo, .ref tx, .ref bu, .ref bv, .ref bw, .ref bs]) : va_E)) ∈ X) (h_nu : (nu, (.inl (cx 4, 100, .inr (.inr (.inr (.inr (fun _ => none))))) : va_E)) ∈ X) (h_tol : (tol, (.inl (cx 3, 30, .inr (.inr (.inr (.inr (fun _ => none))))) : va_E)) ∈ X) (ia0_ : -2147483648 ≤ ia) (ia1_ : ia ≤ 2147483647) (ib0_ : -2147483648 ≤ ib) (ib1_ : ib ≤ 2147483647) : Met l yX11_beside (Cond.code yX11_beside cX11_beside 3 (some .int) :: w0c) (eRm 7 199 LB ll 0 0) (cPc dC dI cx LB (pW cx LP pc_ pd co X) dd nn ss ll gg H0 [.ref ar, Iz (ia), Iz (ib)]) (eQi dC dI cx LB (va_A (bW (cx 0) LB dd nn ss ll gg (pW cx LP pc_ pd co X)) H0.size) ll H0 0 0 (fun z X' dd' nn' ss' ll' gg' => z = (-101))) (cMc LB ll + 0) (2 * cMc LB ll + 0) (va_A (bW (cx 0) LB dd nn ss ll gg (pW cx LP pc_ pd co X)) H0.size) := by
  refine Met.ofW (cc := cX11_beside) (maxL := 3) (ret := (some .int)) (by decide) rfl ?_
  intro p e s m args below meth c s₁ B hml hv
  obtain ⟨rfl, hH0, hP, hK, hD0, hC0⟩ := hv
  have hx := B.exec
  have hb := B.bytes
  have hr := B.returns
  have hts := atoms_spec (ws := Cond.code yX11_beside cX11_beside 3 (some .int) :: w0c) B.pre
  have hown : s.vm.findClass RX11 = some m.cls := findClass_of_methodNamed B.named
  have hlocks := B.notSynchronized
  have E : CallFix p m c cX11_beside 3 s _ (Cond.code yX11_beside cX11_beside 3 (some .int) :: w0c) RX11 := ⟨hx, hb, hml, hown, hts⟩
  subst hH0
  have hD := va_D.self (sz := s.heap.size) hD0
  have hA : ∀ q : Nat, s.heap.size ≤ q → va_A (bW (cx 0) LB dd nn ss ll gg (pW cx LP pc_ pd co X)) s.heap.size q := fun q h => Or.inr h
  have hV : cV dC dI cx LB (va_A (bW (cx 0) LB dd nn ss ll gg (pW cx LP pc_ pd co X)) s.heap.size) s.heap ll (pW cx LP pc_ pd co X) dd nn ss ll gg s.heap [] := ⟨hP, hD, va_S.rf, fun _ _ => Nat.le_refl _, hC0⟩
  have hR : (headSpec (Cond.code yX11_beside cX11_beside 3 (some .int) :: w0c) (eRm 7 199 LB ll 0 0)).room.cells = cMc LB ll + 0 ∧ (headSpec (Cond.code yX11_beside cX11_beside 3 (some .int) :: w0c) (eRm 7 199 LB ll 0 0)).room.slots = 2 * cMc LB ll + 0 := ⟨rfl, rfl⟩
  refine W.widen (k := cP LB ll - cP LB ll + 0) (n := 2 * (cP LB ll - cP LB ll) + 0) (Nat.zero_le _) (Nat.zero_le _) ?_
  have hl := lv_entry ([.ref ar, Iz (ia), Iz (ib)]) (n := 3) (Nat.le_of_ble_eq_true rfl)
  rw [lg_entry_eq]
  generalize (lg_sl ([.ref ar, Iz (ia), Iz (ib)]) ++ List.replicate (3 - (lg_sl ([.ref ar, Iz (ia), Iz (ib)])).length) Slot.unset).toArray = ls at hl ⊢
  have hl : lv_has ls 3 [(0, .ref ar), (1, Iz (ia)), (2, Iz (ib))] := hl
  refine lv_aload_n hx hb dX11_beside_0 rfl (lv_at hl 0 rfl) ?_
  refine lv_iload_n hx hb dX11_beside_1 rfl (lv_at hl 1 rfl) ?_
  refine e_calli (k2 := 0) (n2 := 0) (f := 0) (kl := 0) (As := [Iz (ia)]) (rest := []) E (e0i (k11_isNone (fn := fun _ => none) (nb := fun _ => 0) (ft := fun _ => none) (tb_ := fun _ => 0) hAr h_nu (fun i h => by omega) (by omega) (by omega) (by omega) (by omega))) (cwV 1 hts (cGood cl_X11_120 ci_X11_isNone cs_X11_isNone cn_RX11 cc_X11_isNone) rfl rfl rfl (by decide +kernel) ⟨Nat.le_of_ble_eq_true rfl, Nat.le_of_ble_eq_true rfl⟩) (x_recv (q := (RX11, TX11, 20)) hK hV (ci := 11) rfl (pW_x hAr)) hK hV hA hR ⟨by decide, by decide⟩ rfl hl.1 (Nat.le_of_ble_eq_true rfl) dX11_beside_2 (fun z2 X2 dd2 nn2 ss2 ll2 gg2 H locs q2 hV hm2 => ?_)
  obtain ⟨e1_, e2_, e3_, e4_, e5_, e6_, q2⟩ := q2
  obtain rfl := e1_.symm
  obtain rfl := e2_.symm
  obtain rfl := e3_.symm
  obtain rfl := e4_.symm
  obtain rfl := e5_.symm
  obtain rfl := e6_.symm
  rw [if_pos (by omega)] at q2
  subst q2
  refine W.widen (k := cP LB ll - cP LB ll + 0) (n := 2 * (cP LB ll - cP LB ll) + 0) (Nat.le_refl _) (Nat.le_refl _) ?_
  refine g_if_eq (tgt := 11) hx hb (by first | assumption | exact ⟨by omega, by omega⟩) dX11_beside_5 (by decide) (fun c_5 => ?_) (fun c_5 => ?_)
  · omega
  · skip
    refine lv_bipush (v := Int32.ofInt (-101)) hx hb dX11_beside_8 (by decide) ?_
    have hpost : ((-101) : Int) = (-101) := rfl
    exact e_iret hx hb hr hK hV ⟨by decide, by decide⟩ hpost dX11_beside_10 hlocks
set_option maxHeartbeats 4000000 in
set_option maxRecDepth 100000 in
theorem k11_value {l : Launch} {dC : Nat → ClassId} {dI : Nat → Nat → Nat} {cx : Nat → Nat} {LB : List Nat} {LP : List Nat} {pc_ : Nat → Nat} {pd : Nat → Int} {co : Nat → Nat → Nat} {X : va_W} {dd : Nat → Nat} {nn ss : Nat → Int} {ll : Nat → Nat} {gg : Nat → Int → Int} {H0 : Heap} {ar nu tol pi_ ti_ fr stk no pa zo tx bu bv bw bs : Nat} {mo : Int} {s0 t0 : Nat} {ia : Int} {ib : Int}  (hAr : (ar, (.inr (11, [Iz (mo), .ref nu, Iz (0), .ref tol, Iz (0), .ref pi_, .ref ti_, Iz (0), .ref fr, .ref stk, .ref t0, .ref no, .ref pa, .ref s0, .ref zo, .ref tx, .ref bu, .ref bv, .ref bw, .ref bs]) : va_E)) ∈ X) (h_nu : (nu, (.inl (cx 4, 100, .inr (.inr (.inr (.inr (fun _ => none))))) : va_E)) ∈ X) (h_tol : (tol, (.inl (cx 3, 30, .inr (.inr (.inr (.inr (fun _ => none))))) : va_E)) ∈ X) (ia0_ : -2147483648 ≤ ia) (ia1_ : ia ≤ 2147483647) (ib0_ : -2147483648 ≤ ib) (ib1_ : ib ≤ 2147483647) : Met l yX11_value (Cond.code yX11_value cX11_value 4 (some .int) :: w0c) (eRm 5 151 LB ll 0 0) (cPc dC dI cx LB (pW cx LP pc_ pd co X) dd nn ss ll gg H0 [.ref ar, Iz (ia), Iz (ib)]) (eQi dC dI cx LB (va_A (bW (cx 0) LB dd nn ss ll gg (pW cx LP pc_ pd co X)) H0.size) ll H0 0 0 (fun z X' dd' nn' ss' ll' gg' => z = (-101))) (cMc LB ll + 0) (2 * cMc LB ll + 0) (va_A (bW (cx 0) LB dd nn ss ll gg (pW cx LP pc_ pd co X)) H0.size) := by
  refine Met.ofW (cc := cX11_value) (maxL := 4) (ret := (some .int)) (by decide) rfl ?_
  intro p e s m args below meth c s₁ B hml hv
  obtain ⟨rfl, hH0, hP, hK, hD0, hC0⟩ := hv
  have hx := B.exec
  have hb := B.bytes
  have hr := B.returns
  have hts := atoms_spec (ws := Cond.code yX11_value cX11_value 4 (some .int) :: w0c) B.pre
  have hown : s.vm.findClass RX11 = some m.cls := findClass_of_methodNamed B.named
  have hlocks := B.notSynchronized
  have E : CallFix p m c cX11_value 4 s _ (Cond.code yX11_value cX11_value 4 (some .int) :: w0c) RX11 := ⟨hx, hb, hml, hown, hts⟩
  subst hH0
  have hD := va_D.self (sz := s.heap.size) hD0
  have hA : ∀ q : Nat, s.heap.size ≤ q → va_A (bW (cx 0) LB dd nn ss ll gg (pW cx LP pc_ pd co X)) s.heap.size q := fun q h => Or.inr h
  have hV : cV dC dI cx LB (va_A (bW (cx 0) LB dd nn ss ll gg (pW cx LP pc_ pd co X)) s.heap.size) s.heap ll (pW cx LP pc_ pd co X) dd nn ss ll gg s.heap [] := ⟨hP, hD, va_S.rf, fun _ _ => Nat.le_refl _, hC0⟩
  have hR : (headSpec (Cond.code yX11_value cX11_value 4 (some .int) :: w0c) (eRm 5 151 LB ll 0 0)).room.cells = cMc LB ll + 0 ∧ (headSpec (Cond.code yX11_value cX11_value 4 (some .int) :: w0c) (eRm 5 151 LB ll 0 0)).room.slots = 2 * cMc LB ll + 0 := ⟨rfl, rfl⟩
  refine W.widen (k := cP LB ll - cP LB ll + 0) (n := 2 * (cP LB ll - cP LB ll) + 0) (Nat.zero_le _) (Nat.zero_le _) ?_
  have hl := lv_entry ([.ref ar, Iz (ia), Iz (ib)]) (n := 4) (Nat.le_of_ble_eq_true rfl)
  rw [lg_entry_eq]
  generalize (lg_sl ([.ref ar, Iz (ia), Iz (ib)]) ++ List.replicate (4 - (lg_sl ([.ref ar, Iz (ia), Iz (ib)])).length) Slot.unset).toArray = ls at hl ⊢
  have hl : lv_has ls 4 [(0, .ref ar), (1, Iz (ia)), (2, Iz (ib))] := hl
  refine lv_aload_n hx hb dX11_value_0 rfl (lv_at hl 0 rfl) ?_
  refine lv_iload_n hx hb dX11_value_1 rfl (lv_at hl 1 rfl) ?_
  refine e_calli (k2 := 0) (n2 := 0) (f := 0) (kl := 0) (As := [Iz (ia)]) (rest := []) E (e0i (k11_isUntold (fn := fun _ => none) (nb := fun _ => 0) (ft := fun _ => none) (tb_ := fun _ => 0) hAr h_tol (fun i h => by omega) (by omega) (by omega) (by omega) (by omega))) (cwV 1 hts (cGood cl_X11_175 ci_X11_isUntold cs_X11_isUntold cn_RX11 cc_X11_isUntold) rfl rfl rfl (by decide +kernel) ⟨Nat.le_of_ble_eq_true rfl, Nat.le_of_ble_eq_true rfl⟩) (x_recv (q := (RX11, TX11, 20)) hK hV (ci := 11) rfl (pW_x hAr)) hK hV hA hR ⟨by decide, by decide⟩ rfl hl.1 (Nat.le_of_ble_eq_true rfl) dX11_value_2 (fun z2 X2 dd2 nn2 ss2 ll2 gg2 H locs q2 hV hm2 => ?_)
  obtain ⟨e1_, e2_, e3_, e4_, e5_, e6_, q2⟩ := q2
  obtain rfl := e1_.symm
  obtain rfl := e2_.symm
  obtain rfl := e3_.symm
  obtain rfl := e4_.symm
  obtain rfl := e5_.symm
  obtain rfl := e6_.symm
  rw [if_pos (by omega)] at q2
  subst q2
  refine W.widen (k := cP LB ll - cP LB ll + 0) (n := 2 * (cP LB ll - cP LB ll) + 0) (Nat.le_refl _) (Nat.le_refl _) ?_
  refine g_if_ne (tgt := 16) hx hb (by first | assumption | exact ⟨by omega, by omega⟩) dX11_value_5 (by decide) (fun c_5 => ?_) (fun c_5 => ?_)
  · skip
    refine lv_bipush (v := Int32.ofInt (-101)) hx hb dX11_value_16 (by decide) ?_
    have hpost : ((-101) : Int) = (-101) := rfl
    exact e_iret hx hb hr hK hV ⟨by decide, by decide⟩ hpost dX11_value_18 hlocks
  · omega
set_option maxHeartbeats 4000000 in
set_option maxRecDepth 100000 in
theorem k11_rootOf {l : Launch} {dC : Nat → ClassId} {dI : Nat → Nat → Nat} {cx : Nat → Nat} {LB : List Nat} {LP : List Nat} {pc_ : Nat → Nat} {pd : Nat → Int} {co : Nat → Nat → Nat} {X : va_W} {dd : Nat → Nat} {nn ss : Nat → Int} {ll : Nat → Nat} {gg : Nat → Int → Int} {H0 : Heap} {ar nu tol pi_ ti_ fr stk no pa zo tx bu bv bw bs : Nat} {mo : Int} {s0 t0 : Nat} {ia : Int} {ib : Int}  (hAr : (ar, (.inr (11, [Iz (mo), .ref nu, Iz (0), .ref tol, Iz (0), .ref pi_, .ref ti_, Iz (0), .ref fr, .ref stk, .ref t0, .ref no, .ref pa, .ref s0, .ref zo, .ref tx, .ref bu, .ref bv, .ref bw, .ref bs]) : va_E)) ∈ X) (h_nu : (nu, (.inl (cx 4, 100, .inr (.inr (.inr (.inr (fun _ => none))))) : va_E)) ∈ X) (h_tol : (tol, (.inl (cx 3, 30, .inr (.inr (.inr (.inr (fun _ => none))))) : va_E)) ∈ X) (ia0_ : -2147483648 ≤ ia) (ia1_ : ia ≤ 2147483647) (ib0_ : -2147483648 ≤ ib) (ib1_ : ib ≤ 2147483647) : Met l yX11_rootOf (Cond.code yX11_rootOf cX11_rootOf 4 (some .int) :: w0c) (eRm 6 179 LB ll 0 0) (cPc dC dI cx LB (pW cx LP pc_ pd co X) dd nn ss ll gg H0 [.ref ar, Iz (ia), Iz (ib)]) (eQi dC dI cx LB (va_A (bW (cx 0) LB dd nn ss ll gg (pW cx LP pc_ pd co X)) H0.size) ll H0 0 0 (fun z X' dd' nn' ss' ll' gg' => z = (-101))) (cMc LB ll + 0) (2 * cMc LB ll + 0) (va_A (bW (cx 0) LB dd nn ss ll gg (pW cx LP pc_ pd co X)) H0.size) := by
  refine Met.ofW (cc := cX11_rootOf) (maxL := 4) (ret := (some .int)) (by decide) rfl ?_
  intro p e s m args below meth c s₁ B hml hv
  obtain ⟨rfl, hH0, hP, hK, hD0, hC0⟩ := hv
  have hx := B.exec
  have hb := B.bytes
  have hr := B.returns
  have hts := atoms_spec (ws := Cond.code yX11_rootOf cX11_rootOf 4 (some .int) :: w0c) B.pre
  have hown : s.vm.findClass RX11 = some m.cls := findClass_of_methodNamed B.named
  have hlocks := B.notSynchronized
  have E : CallFix p m c cX11_rootOf 4 s _ (Cond.code yX11_rootOf cX11_rootOf 4 (some .int) :: w0c) RX11 := ⟨hx, hb, hml, hown, hts⟩
  subst hH0
  have hD := va_D.self (sz := s.heap.size) hD0
  have hA : ∀ q : Nat, s.heap.size ≤ q → va_A (bW (cx 0) LB dd nn ss ll gg (pW cx LP pc_ pd co X)) s.heap.size q := fun q h => Or.inr h
  have hV : cV dC dI cx LB (va_A (bW (cx 0) LB dd nn ss ll gg (pW cx LP pc_ pd co X)) s.heap.size) s.heap ll (pW cx LP pc_ pd co X) dd nn ss ll gg s.heap [] := ⟨hP, hD, va_S.rf, fun _ _ => Nat.le_refl _, hC0⟩
  have hR : (headSpec (Cond.code yX11_rootOf cX11_rootOf 4 (some .int) :: w0c) (eRm 6 179 LB ll 0 0)).room.cells = cMc LB ll + 0 ∧ (headSpec (Cond.code yX11_rootOf cX11_rootOf 4 (some .int) :: w0c) (eRm 6 179 LB ll 0 0)).room.slots = 2 * cMc LB ll + 0 := ⟨rfl, rfl⟩
  refine W.widen (k := cP LB ll - cP LB ll + 0) (n := 2 * (cP LB ll - cP LB ll) + 0) (Nat.zero_le _) (Nat.zero_le _) ?_
  have hl := lv_entry ([.ref ar, Iz (ia), Iz (ib)]) (n := 4) (Nat.le_of_ble_eq_true rfl)
  rw [lg_entry_eq]
  generalize (lg_sl ([.ref ar, Iz (ia), Iz (ib)]) ++ List.replicate (4 - (lg_sl ([.ref ar, Iz (ia), Iz (ib)])).length) Slot.unset).toArray = ls at hl ⊢
  have hl : lv_has ls 4 [(0, .ref ar), (1, Iz (ia)), (2, Iz (ib))] := hl
  refine lv_aload_n hx hb dX11_rootOf_0 rfl (lv_at hl 0 rfl) ?_
  refine lv_iload_n hx hb dX11_rootOf_1 rfl (lv_at hl 1 rfl) ?_
  refine e_calli (k2 := 0) (n2 := 0) (f := 0) (kl := 0) (As := [Iz (ia)]) (rest := []) E (e0i (k11_isUntold (fn := fun _ => none) (nb := fun _ => 0) (ft := fun _ => none) (tb_ := fun _ => 0) hAr h_tol (fun i h => by omega) (by omega) (by omega) (by omega) (by omega))) (cwV 1 hts (cGood cl_X11_175 ci_X11_isUntold cs_X11_isUntold cn_RX11 cc_X11_isUntold) rfl rfl rfl (by decide +kernel) ⟨Nat.le_of_ble_eq_true rfl, Nat.le_of_ble_eq_true rfl⟩) (x_recv (q := (RX11, TX11, 20)) hK hV (ci := 11) rfl (pW_x hAr)) hK hV hA hR ⟨by decide, by decide⟩ rfl hl.1 (Nat.le_of_ble_eq_true rfl) dX11_rootOf_2 (fun z2 X2 dd2 nn2 ss2 ll2 gg2 H locs q2 hV hm2 => ?_)
  obtain ⟨e1_, e2_, e3_, e4_, e5_, e6_, q2⟩ := q2
  obtain rfl := e1_.symm
  obtain rfl := e2_.symm
  obtain rfl := e3_.symm
  obtain rfl := e4_.symm
  obtain rfl := e5_.symm
  obtain rfl := e6_.symm
  rw [if_pos (by omega)] at q2
  subst q2
  refine W.widen (k := cP LB ll - cP LB ll + 0) (n := 2 * (cP LB ll - cP LB ll) + 0) (Nat.le_refl _) (Nat.le_refl _) ?_
  refine g_if_eq (tgt := 11) hx hb (by first | assumption | exact ⟨by omega, by omega⟩) dX11_rootOf_5 (by decide) (fun c_5 => ?_) (fun c_5 => ?_)
  · omega
  · skip
    refine lv_bipush (v := Int32.ofInt (-101)) hx hb dX11_rootOf_8 (by decide) ?_
    have hpost : ((-101) : Int) = (-101) := rfl
    exact e_iret hx hb hr hK hV ⟨by decide, by decide⟩ hpost dX11_rootOf_10 hlocks
set_option maxHeartbeats 4000000 in
set_option maxRecDepth 100000 in
theorem k11_common {l : Launch} {dC : Nat → ClassId} {dI : Nat → Nat → Nat} {cx : Nat → Nat} {LB : List Nat} {LP : List Nat} {pc_ : Nat → Nat} {pd : Nat → Int} {co : Nat → Nat → Nat} {X : va_W} {dd : Nat → Nat} {nn ss : Nat → Int} {ll : Nat → Nat} {gg : Nat → Int → Int} {H0 : Heap} {ar nu tol pi_ ti_ fr stk no pa zo tx bu bv bw bs : Nat} {mo : Int} {s0 t0 : Nat} {ia : Int} {ib : Int}  (hAr : (ar, (.inr (11, [Iz (mo), .ref nu, Iz (0), .ref tol, Iz (0), .ref pi_, .ref ti_, Iz (0), .ref fr, .ref stk, .ref t0, .ref no, .ref pa, .ref s0, .ref zo, .ref tx, .ref bu, .ref bv, .ref bw, .ref bs]) : va_E)) ∈ X) (h_nu : (nu, (.inl (cx 4, 100, .inr (.inr (.inr (.inr (fun _ => none))))) : va_E)) ∈ X) (h_tol : (tol, (.inl (cx 3, 30, .inr (.inr (.inr (.inr (fun _ => none))))) : va_E)) ∈ X) (ia0_ : -2147483648 ≤ ia) (ia1_ : ia ≤ 2147483647) (ib0_ : -2147483648 ≤ ib) (ib1_ : ib ≤ 2147483647) : Met l yX11_common (Cond.code yX11_common cX11_common 4 (some .int) :: w0c) (eRm 5 151 LB ll 0 0) (cPc dC dI cx LB (pW cx LP pc_ pd co X) dd nn ss ll gg H0 [.ref ar, Iz (ia), Iz (ib)]) (eQi dC dI cx LB (va_A (bW (cx 0) LB dd nn ss ll gg (pW cx LP pc_ pd co X)) H0.size) ll H0 0 0 (fun z X' dd' nn' ss' ll' gg' => z = (-101))) (cMc LB ll + 0) (2 * cMc LB ll + 0) (va_A (bW (cx 0) LB dd nn ss ll gg (pW cx LP pc_ pd co X)) H0.size) := by
  refine Met.ofW (cc := cX11_common) (maxL := 4) (ret := (some .int)) (by decide) rfl ?_
  intro p e s m args below meth c s₁ B hml hv
  obtain ⟨rfl, hH0, hP, hK, hD0, hC0⟩ := hv
  have hx := B.exec
  have hb := B.bytes
  have hr := B.returns
  have hts := atoms_spec (ws := Cond.code yX11_common cX11_common 4 (some .int) :: w0c) B.pre
  have hown : s.vm.findClass RX11 = some m.cls := findClass_of_methodNamed B.named
  have hlocks := B.notSynchronized
  have E : CallFix p m c cX11_common 4 s _ (Cond.code yX11_common cX11_common 4 (some .int) :: w0c) RX11 := ⟨hx, hb, hml, hown, hts⟩
  subst hH0
  have hD := va_D.self (sz := s.heap.size) hD0
  have hA : ∀ q : Nat, s.heap.size ≤ q → va_A (bW (cx 0) LB dd nn ss ll gg (pW cx LP pc_ pd co X)) s.heap.size q := fun q h => Or.inr h
  have hV : cV dC dI cx LB (va_A (bW (cx 0) LB dd nn ss ll gg (pW cx LP pc_ pd co X)) s.heap.size) s.heap ll (pW cx LP pc_ pd co X) dd nn ss ll gg s.heap [] := ⟨hP, hD, va_S.rf, fun _ _ => Nat.le_refl _, hC0⟩
  have hR : (headSpec (Cond.code yX11_common cX11_common 4 (some .int) :: w0c) (eRm 5 151 LB ll 0 0)).room.cells = cMc LB ll + 0 ∧ (headSpec (Cond.code yX11_common cX11_common 4 (some .int) :: w0c) (eRm 5 151 LB ll 0 0)).room.slots = 2 * cMc LB ll + 0 := ⟨rfl, rfl⟩
  refine W.widen (k := cP LB ll - cP LB ll + 0) (n := 2 * (cP LB ll - cP LB ll) + 0) (Nat.zero_le _) (Nat.zero_le _) ?_
  have hl := lv_entry ([.ref ar, Iz (ia), Iz (ib)]) (n := 4) (Nat.le_of_ble_eq_true rfl)
  rw [lg_entry_eq]
  generalize (lg_sl ([.ref ar, Iz (ia), Iz (ib)]) ++ List.replicate (4 - (lg_sl ([.ref ar, Iz (ia), Iz (ib)])).length) Slot.unset).toArray = ls at hl ⊢
  have hl : lv_has ls 4 [(0, .ref ar), (1, Iz (ia)), (2, Iz (ib))] := hl
  refine lv_aload_n hx hb dX11_common_0 rfl (lv_at hl 0 rfl) ?_
  refine lv_iload_n hx hb dX11_common_1 rfl (lv_at hl 1 rfl) ?_
  refine e_calli (k2 := 0) (n2 := 0) (f := 0) (kl := 0) (As := [Iz (ia)]) (rest := []) E (e0i (k11_isNone (fn := fun _ => none) (nb := fun _ => 0) (ft := fun _ => none) (tb_ := fun _ => 0) hAr h_nu (fun i h => by omega) (by omega) (by omega) (by omega) (by omega))) (cwV 1 hts (cGood cl_X11_120 ci_X11_isNone cs_X11_isNone cn_RX11 cc_X11_isNone) rfl rfl rfl (by decide +kernel) ⟨Nat.le_of_ble_eq_true rfl, Nat.le_of_ble_eq_true rfl⟩) (x_recv (q := (RX11, TX11, 20)) hK hV (ci := 11) rfl (pW_x hAr)) hK hV hA hR ⟨by decide, by decide⟩ rfl hl.1 (Nat.le_of_ble_eq_true rfl) dX11_common_2 (fun z2 X2 dd2 nn2 ss2 ll2 gg2 H locs q2 hV hm2 => ?_)
  obtain ⟨e1_, e2_, e3_, e4_, e5_, e6_, q2⟩ := q2
  obtain rfl := e1_.symm
  obtain rfl := e2_.symm
  obtain rfl := e3_.symm
  obtain rfl := e4_.symm
  obtain rfl := e5_.symm
  obtain rfl := e6_.symm
  rw [if_pos (by omega)] at q2
  subst q2
  refine W.widen (k := cP LB ll - cP LB ll + 0) (n := 2 * (cP LB ll - cP LB ll) + 0) (Nat.le_refl _) (Nat.le_refl _) ?_
  refine g_if_ne (tgt := 16) hx hb (by first | assumption | exact ⟨by omega, by omega⟩) dX11_common_5 (by decide) (fun c_5 => ?_) (fun c_5 => ?_)
  · skip
    refine lv_bipush (v := Int32.ofInt (-101)) hx hb dX11_common_16 (by decide) ?_
    have hpost : ((-101) : Int) = (-101) := rfl
    exact e_iret hx hb hr hK hV ⟨by decide, by decide⟩ hpost dX11_common_18 hlocks
  · omega
set_option maxHeartbeats 4000000 in
set_option maxRecDepth 100000 in
theorem k11_drop {l : Launch} {dC : Nat → ClassId} {dI : Nat → Nat → Nat} {cx : Nat → Nat} {LB : List Nat} {LP : List Nat} {pc_ : Nat → Nat} {pd : Nat → Int} {co : Nat → Nat → Nat} {X : va_W} {dd : Nat → Nat} {nn ss : Nat → Int} {ll : Nat → Nat} {gg : Nat → Int → Int} {H0 : Heap} {ar nu tol pi_ ti_ fr stk no pa zo tx bu bv bw bs : Nat} {mo : Int} {s0 t0 : Nat}  (hAr : (ar, (.inr (11, [Iz (mo), .ref nu, Iz (0), .ref tol, Iz (0), .ref pi_, .ref ti_, Iz (0), .ref fr, .ref stk, .ref t0, .ref no, .ref pa, .ref s0, .ref zo, .ref tx, .ref bu, .ref bv, .ref bw, .ref bs]) : va_E)) ∈ X) (h_nu : (nu, (.inl (cx 4, 100, .inr (.inr (.inr (.inr (fun _ => none))))) : va_E)) ∈ X) (h_tol : (tol, (.inl (cx 3, 30, .inr (.inr (.inr (.inr (fun _ => none))))) : va_E)) ∈ X) : Met l yX11_drop (Cond.code yX11_drop cX11_drop 1 (some .int) :: w0c) (eRm 0 0 LB ll 0 0) (cPc dC dI cx LB (pW cx LP pc_ pd co X) dd nn ss ll gg H0 [.ref ar]) (eQi dC dI cx LB (va_A (bW (cx 0) LB dd nn ss ll gg (pW cx LP pc_ pd co X)) H0.size) ll H0 0 0 (fun z X' dd' nn' ss' ll' gg' => z = (-106))) (cMc LB ll + 0) (2 * cMc LB ll + 0) (va_A (bW (cx 0) LB dd nn ss ll gg (pW cx LP pc_ pd co X)) H0.size) := by
  refine Met.ofW (cc := cX11_drop) (maxL := 1) (ret := (some .int)) (by decide) rfl ?_
  intro p e s m args below meth c s₁ B hml hv
  obtain ⟨rfl, hH0, hP, hK, hD0, hC0⟩ := hv
  have hx := B.exec
  have hb := B.bytes
  have hr := B.returns
  have hts := atoms_spec (ws := Cond.code yX11_drop cX11_drop 1 (some .int) :: w0c) B.pre
  have hown : s.vm.findClass RX11 = some m.cls := findClass_of_methodNamed B.named
  have hlocks := B.notSynchronized
  have E : CallFix p m c cX11_drop 1 s _ (Cond.code yX11_drop cX11_drop 1 (some .int) :: w0c) RX11 := ⟨hx, hb, hml, hown, hts⟩
  subst hH0
  have hD := va_D.self (sz := s.heap.size) hD0
  have hA : ∀ q : Nat, s.heap.size ≤ q → va_A (bW (cx 0) LB dd nn ss ll gg (pW cx LP pc_ pd co X)) s.heap.size q := fun q h => Or.inr h
  have hV : cV dC dI cx LB (va_A (bW (cx 0) LB dd nn ss ll gg (pW cx LP pc_ pd co X)) s.heap.size) s.heap ll (pW cx LP pc_ pd co X) dd nn ss ll gg s.heap [] := ⟨hP, hD, va_S.rf, fun _ _ => Nat.le_refl _, hC0⟩
  have hR : (headSpec (Cond.code yX11_drop cX11_drop 1 (some .int) :: w0c) (eRm 0 0 LB ll 0 0)).room.cells = cMc LB ll + 0 ∧ (headSpec (Cond.code yX11_drop cX11_drop 1 (some .int) :: w0c) (eRm 0 0 LB ll 0 0)).room.slots = 2 * cMc LB ll + 0 := ⟨rfl, rfl⟩
  refine W.widen (k := cP LB ll - cP LB ll + 0) (n := 2 * (cP LB ll - cP LB ll) + 0) (Nat.zero_le _) (Nat.zero_le _) ?_
  have hl := lv_entry ([.ref ar]) (n := 1) (Nat.le_of_ble_eq_true rfl)
  rw [lg_entry_eq]
  generalize (lg_sl ([.ref ar]) ++ List.replicate (1 - (lg_sl ([.ref ar])).length) Slot.unset).toArray = ls at hl ⊢
  have hl : lv_has ls 1 [(0, .ref ar)] := hl
  refine lv_aload_n hx hb dX11_drop_0 rfl (lv_at hl 0 rfl) ?_
  refine x_get E hK hV (ci := 11) (C := RX11) (T := TX11) (N := 20) rfl w0c_in11 (pW_x hAr) 2 (by decide) rfl cf_11_208 rfl dX11_drop_1 ?_
  refine g_if_ne (tgt := 10) hx hb (by first | assumption | exact ⟨by omega, by omega⟩) dX11_drop_4 (by decide) (fun c_4 => ?_) (fun c_4 => ?_)
  · omega
  · skip
    refine lv_bipush (v := Int32.ofInt (-106)) hx hb dX11_drop_7 (by decide) ?_
    have hpost : ((-106) : Int) = (-106) := rfl
    exact e_iret hx hb hr hK hV ⟨by decide, by decide⟩ hpost dX11_drop_9 hlocks
set_option maxHeartbeats 4000000 in
set_option maxRecDepth 100000 in
theorem k11_compare {l : Launch} {dC : Nat → ClassId} {dI : Nat → Nat → Nat} {cx : Nat → Nat} {LB : List Nat} {LP : List Nat} {pc_ : Nat → Nat} {pd : Nat → Int} {co : Nat → Nat → Nat} {X : va_W} {dd : Nat → Nat} {nn ss : Nat → Int} {ll : Nat → Nat} {gg : Nat → Int → Int} {H0 : Heap} {ar nu tol pi_ ti_ fr stk no pa zo tx bu bv bw bs : Nat} {mo : Int} {s0 t0 : Nat} {ia : Int} {ib : Int}  (hAr : (ar, (.inr (11, [Iz (mo), .ref nu, Iz (0), .ref tol, Iz (0), .ref pi_, .ref ti_, Iz (0), .ref fr, .ref stk, .ref t0, .ref no, .ref pa, .ref s0, .ref zo, .ref tx, .ref bu, .ref bv, .ref bw, .ref bs]) : va_E)) ∈ X) (h_nu : (nu, (.inl (cx 4, 100, .inr (.inr (.inr (.inr (fun _ => none))))) : va_E)) ∈ X) (h_tol : (tol, (.inl (cx 3, 30, .inr (.inr (.inr (.inr (fun _ => none))))) : va_E)) ∈ X) (ia0_ : -2147483648 ≤ ia) (ia1_ : ia ≤ 2147483647) (ib0_ : -2147483648 ≤ ib) (ib1_ : ib ≤ 2147483647) : Met l yX11_compare (Cond.code yX11_compare cX11_compare 6 (some .int) :: w0c) (eRm 2 53 LB ll 0 0) (cPc dC dI cx LB (pW cx LP pc_ pd co X) dd nn ss ll gg H0 [.ref ar, Iz (ia), Iz (ib)]) (eQi dC dI cx LB (va_A (bW (cx 0) LB dd nn ss ll gg (pW cx LP pc_ pd co X)) H0.size) ll H0 0 0 (fun z X' dd' nn' ss' ll' gg' => z = (-2))) (cMc LB ll + 0) (2 * cMc LB ll + 0) (va_A (bW (cx 0) LB dd nn ss ll gg (pW cx LP pc_ pd co X)) H0.size) := by
  refine Met.ofW (cc := cX11_compare) (maxL := 6) (ret := (some .int)) (by decide) rfl ?_
  intro p e s m args below meth c s₁ B hml hv
  obtain ⟨rfl, hH0, hP, hK, hD0, hC0⟩ := hv
  have hx := B.exec
  have hb := B.bytes
  have hr := B.returns
  have hts := atoms_spec (ws := Cond.code yX11_compare cX11_compare 6 (some .int) :: w0c) B.pre
  have hown : s.vm.findClass RX11 = some m.cls := findClass_of_methodNamed B.named
  have hlocks := B.notSynchronized
  have E : CallFix p m c cX11_compare 6 s _ (Cond.code yX11_compare cX11_compare 6 (some .int) :: w0c) RX11 := ⟨hx, hb, hml, hown, hts⟩
  subst hH0
  have hD := va_D.self (sz := s.heap.size) hD0
  have hA : ∀ q : Nat, s.heap.size ≤ q → va_A (bW (cx 0) LB dd nn ss ll gg (pW cx LP pc_ pd co X)) s.heap.size q := fun q h => Or.inr h
  have hV : cV dC dI cx LB (va_A (bW (cx 0) LB dd nn ss ll gg (pW cx LP pc_ pd co X)) s.heap.size) s.heap ll (pW cx LP pc_ pd co X) dd nn ss ll gg s.heap [] := ⟨hP, hD, va_S.rf, fun _ _ => Nat.le_refl _, hC0⟩
  have hR : (headSpec (Cond.code yX11_compare cX11_compare 6 (some .int) :: w0c) (eRm 2 53 LB ll 0 0)).room.cells = cMc LB ll + 0 ∧ (headSpec (Cond.code yX11_compare cX11_compare 6 (some .int) :: w0c) (eRm 2 53 LB ll 0 0)).room.slots = 2 * cMc LB ll + 0 := ⟨rfl, rfl⟩
  refine W.widen (k := cP LB ll - cP LB ll + 0) (n := 2 * (cP LB ll - cP LB ll) + 0) (Nat.zero_le _) (Nat.zero_le _) ?_
  have hl := lv_entry ([.ref ar, Iz (ia), Iz (ib)]) (n := 6) (Nat.le_of_ble_eq_true rfl)
  rw [lg_entry_eq]
  generalize (lg_sl ([.ref ar, Iz (ia), Iz (ib)]) ++ List.replicate (6 - (lg_sl ([.ref ar, Iz (ia), Iz (ib)])).length) Slot.unset).toArray = ls at hl ⊢
  have hl : lv_has ls 6 [(0, .ref ar), (1, Iz (ia)), (2, Iz (ib))] := hl
  refine lv_aload_n hx hb dX11_compare_0 rfl (lv_at hl 0 rfl) ?_
  refine lv_iload_n hx hb dX11_compare_1 rfl (lv_at hl 1 rfl) ?_
  refine e_calli (k2 := 0) (n2 := 0) (f := 0) (kl := 0) (As := [Iz (ia)]) (rest := []) E (e0i (k11_isNone (fn := fun _ => none) (nb := fun _ => 0) (ft := fun _ => none) (tb_ := fun _ => 0) hAr h_nu (fun i h => by omega) (by omega) (by omega) (by omega) (by omega))) (cwV 1 hts (cGood cl_X11_120 ci_X11_isNone cs_X11_isNone cn_RX11 cc_X11_isNone) rfl rfl rfl (by decide +kernel) ⟨Nat.le_of_ble_eq_true rfl, Nat.le_of_ble_eq_true rfl⟩) (x_recv (q := (RX11, TX11, 20)) hK hV (ci := 11) rfl (pW_x hAr)) hK hV hA hR ⟨by decide, by decide⟩ rfl hl.1 (Nat.le_of_ble_eq_true rfl) dX11_compare_2 (fun z2 X2 dd2 nn2 ss2 ll2 gg2 H locs q2 hV hm2 => ?_)
  obtain ⟨e1_, e2_, e3_, e4_, e5_, e6_, q2⟩ := q2
  obtain rfl := e1_.symm
  obtain rfl := e2_.symm
  obtain rfl := e3_.symm
  obtain rfl := e4_.symm
  obtain rfl := e5_.symm
  obtain rfl := e6_.symm
  rw [if_pos (by omega)] at q2
  subst q2
  refine W.widen (k := cP LB ll - cP LB ll + 0) (n := 2 * (cP LB ll - cP LB ll) + 0) (Nat.le_refl _) (Nat.le_refl _) ?_
  refine g_if_ne (tgt := 16) hx hb (by first | assumption | exact ⟨by omega, by omega⟩) dX11_compare_5 (by decide) (fun c_5 => ?_) (fun c_5 => ?_)
  · skip
    refine lv_bipush (v := Int32.ofInt (-2)) hx hb dX11_compare_16 (by decide) ?_
    have hpost : ((-2) : Int) = (-2) := rfl
    exact e_iret hx hb hr hK hV ⟨by decide, by decide⟩ hpost dX11_compare_18 hlocks
  · omega
set_option maxHeartbeats 4000000 in
set_option maxRecDepth 100000 in
theorem k11_sign {l : Launch} {dC : Nat → ClassId} {dI : Nat → Nat → Nat} {cx : Nat → Nat} {LB : List Nat} {LP : List Nat} {pc_ : Nat → Nat} {pd : Nat → Int} {co : Nat → Nat → Nat} {X : va_W} {dd : Nat → Nat} {nn ss : Nat → Int} {ll : Nat → Nat} {gg : Nat → Int → Int} {H0 : Heap} {ar nu tol pi_ ti_ fr stk no pa zo tx bu bv bw bs : Nat} {mo : Int} {s0 t0 : Nat} {ia : Int}  (hAr : (ar, (.inr (11, [Iz (mo), .ref nu, Iz (0), .ref tol, Iz (0), .ref pi_, .ref ti_, Iz (0), .ref fr, .ref stk, .ref t0, .ref no, .ref pa, .ref s0, .ref zo, .ref tx, .ref bu, .ref bv, .ref bw, .ref bs]) : va_E)) ∈ X) (h_nu : (nu, (.inl (cx 4, 100, .inr (.inr (.inr (.inr (fun _ => none))))) : va_E)) ∈ X) (h_tol : (tol, (.inl (cx 3, 30, .inr (.inr (.inr (.inr (fun _ => none))))) : va_E)) ∈ X) (ia0_ : -2147483648 ≤ ia) (ia1_ : ia ≤ 2147483647) : Met l yX11_sign (Cond.code yX11_sign cX11_sign 2 (some .int) :: w0c) (eRm 1 21 LB ll 0 0) (cPc dC dI cx LB (pW cx LP pc_ pd co X) dd nn ss ll gg H0 [.ref ar, Iz (ia)]) (eQi dC dI cx LB (va_A (bW (cx 0) LB dd nn ss ll gg (pW cx LP pc_ pd co X)) H0.size) ll H0 0 0 (fun z X' dd' nn' ss' ll' gg' => z = (-101))) (cMc LB ll + 0) (2 * cMc LB ll + 0) (va_A (bW (cx 0) LB dd nn ss ll gg (pW cx LP pc_ pd co X)) H0.size) := by
  refine Met.ofW (cc := cX11_sign) (maxL := 2) (ret := (some .int)) (by decide) rfl ?_
  intro p e s m args below meth c s₁ B hml hv
  obtain ⟨rfl, hH0, hP, hK, hD0, hC0⟩ := hv
  have hx := B.exec
  have hb := B.bytes
  have hr := B.returns
  have hts := atoms_spec (ws := Cond.code yX11_sign cX11_sign 2 (some .int) :: w0c) B.pre
  have hown : s.vm.findClass RX11 = some m.cls := findClass_of_methodNamed B.named
  have hlocks := B.notSynchronized
  have E : CallFix p m c cX11_sign 2 s _ (Cond.code yX11_sign cX11_sign 2 (some .int) :: w0c) RX11 := ⟨hx, hb, hml, hown, hts⟩
  subst hH0
  have hD := va_D.self (sz := s.heap.size) hD0
  have hA : ∀ q : Nat, s.heap.size ≤ q → va_A (bW (cx 0) LB dd nn ss ll gg (pW cx LP pc_ pd co X)) s.heap.size q := fun q h => Or.inr h
  have hV : cV dC dI cx LB (va_A (bW (cx 0) LB dd nn ss ll gg (pW cx LP pc_ pd co X)) s.heap.size) s.heap ll (pW cx LP pc_ pd co X) dd nn ss ll gg s.heap [] := ⟨hP, hD, va_S.rf, fun _ _ => Nat.le_refl _, hC0⟩
  have hR : (headSpec (Cond.code yX11_sign cX11_sign 2 (some .int) :: w0c) (eRm 1 21 LB ll 0 0)).room.cells = cMc LB ll + 0 ∧ (headSpec (Cond.code yX11_sign cX11_sign 2 (some .int) :: w0c) (eRm 1 21 LB ll 0 0)).room.slots = 2 * cMc LB ll + 0 := ⟨rfl, rfl⟩
  refine W.widen (k := cP LB ll - cP LB ll + 0) (n := 2 * (cP LB ll - cP LB ll) + 0) (Nat.zero_le _) (Nat.zero_le _) ?_
  have hl := lv_entry ([.ref ar, Iz (ia)]) (n := 2) (Nat.le_of_ble_eq_true rfl)
  rw [lg_entry_eq]
  generalize (lg_sl ([.ref ar, Iz (ia)]) ++ List.replicate (2 - (lg_sl ([.ref ar, Iz (ia)])).length) Slot.unset).toArray = ls at hl ⊢
  have hl : lv_has ls 2 [(0, .ref ar), (1, Iz (ia))] := hl
  refine lv_aload_n hx hb dX11_sign_0 rfl (lv_at hl 0 rfl) ?_
  refine lv_iload_n hx hb dX11_sign_1 rfl (lv_at hl 1 rfl) ?_
  refine e_calli (k2 := 0) (n2 := 0) (f := 0) (kl := 0) (As := [Iz (ia)]) (rest := []) E (e0i (k11_isNone (fn := fun _ => none) (nb := fun _ => 0) (ft := fun _ => none) (tb_ := fun _ => 0) hAr h_nu (fun i h => by omega) (by omega) (by omega) (by omega) (by omega))) (cwV 1 hts (cGood cl_X11_120 ci_X11_isNone cs_X11_isNone cn_RX11 cc_X11_isNone) rfl rfl rfl (by decide +kernel) ⟨Nat.le_of_ble_eq_true rfl, Nat.le_of_ble_eq_true rfl⟩) (x_recv (q := (RX11, TX11, 20)) hK hV (ci := 11) rfl (pW_x hAr)) hK hV hA hR ⟨by decide, by decide⟩ rfl hl.1 (Nat.le_of_ble_eq_true rfl) dX11_sign_2 (fun z2 X2 dd2 nn2 ss2 ll2 gg2 H locs q2 hV hm2 => ?_)
  obtain ⟨e1_, e2_, e3_, e4_, e5_, e6_, q2⟩ := q2
  obtain rfl := e1_.symm
  obtain rfl := e2_.symm
  obtain rfl := e3_.symm
  obtain rfl := e4_.symm
  obtain rfl := e5_.symm
  obtain rfl := e6_.symm
  rw [if_pos (by omega)] at q2
  subst q2
  refine W.widen (k := cP LB ll - cP LB ll + 0) (n := 2 * (cP LB ll - cP LB ll) + 0) (Nat.le_refl _) (Nat.le_refl _) ?_
  refine g_if_eq (tgt := 13) hx hb (by first | assumption | exact ⟨by omega, by omega⟩) dX11_sign_5 (by decide) (fun c_5 => ?_) (fun c_5 => ?_)
  · omega
  · skip
    refine lv_bipush (v := Int32.ofInt (-101)) hx hb dX11_sign_8 (by decide) ?_
    refine lv_goto (tgt := 22) hx hb dX11_sign_10 (by decide) ?_
    have hpost : ((-101) : Int) = (-101) := rfl
    exact e_iret hx hb hr hK hV ⟨by decide, by decide⟩ hpost dX11_sign_22 hlocks
set_option maxHeartbeats 4000000 in
set_option maxRecDepth 100000 in
theorem k11_about {l : Launch} {dC : Nat → ClassId} {dI : Nat → Nat → Nat} {cx : Nat → Nat} {LB : List Nat} {LP : List Nat} {pc_ : Nat → Nat} {pd : Nat → Int} {co : Nat → Nat → Nat} {X : va_W} {dd : Nat → Nat} {nn ss : Nat → Int} {ll : Nat → Nat} {gg : Nat → Int → Int} {H0 : Heap} {ar nu tol pi_ ti_ fr stk no pa zo tx bu bv bw bs : Nat} {mo : Int} {s0 t0 : Nat} {ia : Int} {ib : Int}  (hAr : (ar, (.inr (11, [Iz (mo), .ref nu, Iz (0), .ref tol, Iz (0), .ref pi_, .ref ti_, Iz (0), .ref fr, .ref stk, .ref t0, .ref no, .ref pa, .ref s0, .ref zo, .ref tx, .ref bu, .ref bv, .ref bw, .ref bs]) : va_E)) ∈ X) (h_nu : (nu, (.inl (cx 4, 100, .inr (.inr (.inr (.inr (fun _ => none))))) : va_E)) ∈ X) (h_tol : (tol, (.inl (cx 3, 30, .inr (.inr (.inr (.inr (fun _ => none))))) : va_E)) ∈ X) (ia0_ : -2147483648 ≤ ia) (ia1_ : ia ≤ 2147483647) (ib0_ : -2147483648 ≤ ib) (ib1_ : ib ≤ 2147483647) : Met l yX11_about (Cond.code yX11_about cX11_about 3 (some .int) :: w0c) (eRm 1 21 LB ll 0 0) (cPc dC dI cx LB (pW cx LP pc_ pd co X) dd nn ss ll gg H0 [.ref ar, Iz (ia), Iz (ib)]) (eQi dC dI cx LB (va_A (bW (cx 0) LB dd nn ss ll gg (pW cx LP pc_ pd co X)) H0.size) ll H0 0 0 (fun z X' dd' nn' ss' ll' gg' => z = (-101))) (cMc LB ll + 0) (2 * cMc LB ll + 0) (va_A (bW (cx 0) LB dd nn ss ll gg (pW cx LP pc_ pd co X)) H0.size) := by
  refine Met.ofW (cc := cX11_about) (maxL := 3) (ret := (some .int)) (by decide) rfl ?_
  intro p e s m args below meth c s₁ B hml hv
  obtain ⟨rfl, hH0, hP, hK, hD0, hC0⟩ := hv
  have hx := B.exec
  have hb := B.bytes
  have hr := B.returns
  have hts := atoms_spec (ws := Cond.code yX11_about cX11_about 3 (some .int) :: w0c) B.pre
  have hown : s.vm.findClass RX11 = some m.cls := findClass_of_methodNamed B.named
  have hlocks := B.notSynchronized
  have E : CallFix p m c cX11_about 3 s _ (Cond.code yX11_about cX11_about 3 (some .int) :: w0c) RX11 := ⟨hx, hb, hml, hown, hts⟩
  subst hH0
  have hD := va_D.self (sz := s.heap.size) hD0
  have hA : ∀ q : Nat, s.heap.size ≤ q → va_A (bW (cx 0) LB dd nn ss ll gg (pW cx LP pc_ pd co X)) s.heap.size q := fun q h => Or.inr h
  have hV : cV dC dI cx LB (va_A (bW (cx 0) LB dd nn ss ll gg (pW cx LP pc_ pd co X)) s.heap.size) s.heap ll (pW cx LP pc_ pd co X) dd nn ss ll gg s.heap [] := ⟨hP, hD, va_S.rf, fun _ _ => Nat.le_refl _, hC0⟩
  have hR : (headSpec (Cond.code yX11_about cX11_about 3 (some .int) :: w0c) (eRm 1 21 LB ll 0 0)).room.cells = cMc LB ll + 0 ∧ (headSpec (Cond.code yX11_about cX11_about 3 (some .int) :: w0c) (eRm 1 21 LB ll 0 0)).room.slots = 2 * cMc LB ll + 0 := ⟨rfl, rfl⟩
  refine W.widen (k := cP LB ll - cP LB ll + 0) (n := 2 * (cP LB ll - cP LB ll) + 0) (Nat.zero_le _) (Nat.zero_le _) ?_
  have hl := lv_entry ([.ref ar, Iz (ia), Iz (ib)]) (n := 3) (Nat.le_of_ble_eq_true rfl)
  rw [lg_entry_eq]
  generalize (lg_sl ([.ref ar, Iz (ia), Iz (ib)]) ++ List.replicate (3 - (lg_sl ([.ref ar, Iz (ia), Iz (ib)])).length) Slot.unset).toArray = ls at hl ⊢
  have hl : lv_has ls 3 [(0, .ref ar), (1, Iz (ia)), (2, Iz (ib))] := hl
  refine lv_aload_n hx hb dX11_about_0 rfl (lv_at hl 0 rfl) ?_
  refine lv_iload_n hx hb dX11_about_1 rfl (lv_at hl 1 rfl) ?_
  refine e_calli (k2 := 0) (n2 := 0) (f := 0) (kl := 0) (As := [Iz (ia)]) (rest := []) E (e0i (k11_isNone (fn := fun _ => none) (nb := fun _ => 0) (ft := fun _ => none) (tb_ := fun _ => 0) hAr h_nu (fun i h => by omega) (by omega) (by omega) (by omega) (by omega))) (cwV 1 hts (cGood cl_X11_120 ci_X11_isNone cs_X11_isNone cn_RX11 cc_X11_isNone) rfl rfl rfl (by decide +kernel) ⟨Nat.le_of_ble_eq_true rfl, Nat.le_of_ble_eq_true rfl⟩) (x_recv (q := (RX11, TX11, 20)) hK hV (ci := 11) rfl (pW_x hAr)) hK hV hA hR ⟨by decide, by decide⟩ rfl hl.1 (Nat.le_of_ble_eq_true rfl) dX11_about_2 (fun z2 X2 dd2 nn2 ss2 ll2 gg2 H locs q2 hV hm2 => ?_)
  obtain ⟨e1_, e2_, e3_, e4_, e5_, e6_, q2⟩ := q2
  obtain rfl := e1_.symm
  obtain rfl := e2_.symm
  obtain rfl := e3_.symm
  obtain rfl := e4_.symm
  obtain rfl := e5_.symm
  obtain rfl := e6_.symm
  rw [if_pos (by omega)] at q2
  subst q2
  refine W.widen (k := cP LB ll - cP LB ll + 0) (n := 2 * (cP LB ll - cP LB ll) + 0) (Nat.le_refl _) (Nat.le_refl _) ?_
  refine g_if_eq (tgt := 11) hx hb (by first | assumption | exact ⟨by omega, by omega⟩) dX11_about_5 (by decide) (fun c_5 => ?_) (fun c_5 => ?_)
  · omega
  · skip
    refine lv_bipush (v := Int32.ofInt (-101)) hx hb dX11_about_8 (by decide) ?_
    have hpost : ((-101) : Int) = (-101) := rfl
    exact e_iret hx hb hr hK hV ⟨by decide, by decide⟩ hpost dX11_about_10 hlocks
set_option maxHeartbeats 4000000 in
set_option maxRecDepth 100000 in
theorem k11_within {l : Launch} {dC : Nat → ClassId} {dI : Nat → Nat → Nat} {cx : Nat → Nat} {LB : List Nat} {LP : List Nat} {pc_ : Nat → Nat} {pd : Nat → Int} {co : Nat → Nat → Nat} {X : va_W} {dd : Nat → Nat} {nn ss : Nat → Int} {ll : Nat → Nat} {gg : Nat → Int → Int} {H0 : Heap} {ar nu tol pi_ ti_ fr stk no pa zo tx bu bv bw bs : Nat} {mo : Int} {s0 t0 : Nat} {ia : Int} {ib : Int}  (hAr : (ar, (.inr (11, [Iz (mo), .ref nu, Iz (0), .ref tol, Iz (0), .ref pi_, .ref ti_, Iz (0), .ref fr, .ref stk, .ref t0, .ref no, .ref pa, .ref s0, .ref zo, .ref tx, .ref bu, .ref bv, .ref bw, .ref bs]) : va_E)) ∈ X) (h_nu : (nu, (.inl (cx 4, 100, .inr (.inr (.inr (.inr (fun _ => none))))) : va_E)) ∈ X) (h_tol : (tol, (.inl (cx 3, 30, .inr (.inr (.inr (.inr (fun _ => none))))) : va_E)) ∈ X) (ia0_ : -2147483648 ≤ ia) (ia1_ : ia ≤ 2147483647) (ib0_ : -2147483648 ≤ ib) (ib1_ : ib ≤ 2147483647) : Met l yX11_within (Cond.code yX11_within cX11_within 5 (some .int) :: w0c) (eRm 1 21 LB ll 0 0) (cPc dC dI cx LB (pW cx LP pc_ pd co X) dd nn ss ll gg H0 [.ref ar, Iz (ia), Iz (ib)]) (eQi dC dI cx LB (va_A (bW (cx 0) LB dd nn ss ll gg (pW cx LP pc_ pd co X)) H0.size) ll H0 0 0 (fun z X' dd' nn' ss' ll' gg' => z = (-101))) (cMc LB ll + 0) (2 * cMc LB ll + 0) (va_A (bW (cx 0) LB dd nn ss ll gg (pW cx LP pc_ pd co X)) H0.size) := by
  refine Met.ofW (cc := cX11_within) (maxL := 5) (ret := (some .int)) (by decide) rfl ?_
  intro p e s m args below meth c s₁ B hml hv
  obtain ⟨rfl, hH0, hP, hK, hD0, hC0⟩ := hv
  have hx := B.exec
  have hb := B.bytes
  have hr := B.returns
  have hts := atoms_spec (ws := Cond.code yX11_within cX11_within 5 (some .int) :: w0c) B.pre
  have hown : s.vm.findClass RX11 = some m.cls := findClass_of_methodNamed B.named
  have hlocks := B.notSynchronized
  have E : CallFix p m c cX11_within 5 s _ (Cond.code yX11_within cX11_within 5 (some .int) :: w0c) RX11 := ⟨hx, hb, hml, hown, hts⟩
  subst hH0
  have hD := va_D.self (sz := s.heap.size) hD0
  have hA : ∀ q : Nat, s.heap.size ≤ q → va_A (bW (cx 0) LB dd nn ss ll gg (pW cx LP pc_ pd co X)) s.heap.size q := fun q h => Or.inr h
  have hV : cV dC dI cx LB (va_A (bW (cx 0) LB dd nn ss ll gg (pW cx LP pc_ pd co X)) s.heap.size) s.heap ll (pW cx LP pc_ pd co X) dd nn ss ll gg s.heap [] := ⟨hP, hD, va_S.rf, fun _ _ => Nat.le_refl _, hC0⟩
  have hR : (headSpec (Cond.code yX11_within cX11_within 5 (some .int) :: w0c) (eRm 1 21 LB ll 0 0)).room.cells = cMc LB ll + 0 ∧ (headSpec (Cond.code yX11_within cX11_within 5 (some .int) :: w0c) (eRm 1 21 LB ll 0 0)).room.slots = 2 * cMc LB ll + 0 := ⟨rfl, rfl⟩
  refine W.widen (k := cP LB ll - cP LB ll + 0) (n := 2 * (cP LB ll - cP LB ll) + 0) (Nat.zero_le _) (Nat.zero_le _) ?_
  have hl := lv_entry ([.ref ar, Iz (ia), Iz (ib)]) (n := 5) (Nat.le_of_ble_eq_true rfl)
  rw [lg_entry_eq]
  generalize (lg_sl ([.ref ar, Iz (ia), Iz (ib)]) ++ List.replicate (5 - (lg_sl ([.ref ar, Iz (ia), Iz (ib)])).length) Slot.unset).toArray = ls at hl ⊢
  have hl : lv_has ls 5 [(0, .ref ar), (1, Iz (ia)), (2, Iz (ib))] := hl
  refine lv_aload_n hx hb dX11_within_0 rfl (lv_at hl 0 rfl) ?_
  refine lv_iload_n hx hb dX11_within_1 rfl (lv_at hl 1 rfl) ?_
  refine e_calli (k2 := 0) (n2 := 0) (f := 0) (kl := 0) (As := [Iz (ia)]) (rest := []) E (e0i (k11_isNone (fn := fun _ => none) (nb := fun _ => 0) (ft := fun _ => none) (tb_ := fun _ => 0) hAr h_nu (fun i h => by omega) (by omega) (by omega) (by omega) (by omega))) (cwV 1 hts (cGood cl_X11_120 ci_X11_isNone cs_X11_isNone cn_RX11 cc_X11_isNone) rfl rfl rfl (by decide +kernel) ⟨Nat.le_of_ble_eq_true rfl, Nat.le_of_ble_eq_true rfl⟩) (x_recv (q := (RX11, TX11, 20)) hK hV (ci := 11) rfl (pW_x hAr)) hK hV hA hR ⟨by decide, by decide⟩ rfl hl.1 (Nat.le_of_ble_eq_true rfl) dX11_within_2 (fun z2 X2 dd2 nn2 ss2 ll2 gg2 H locs q2 hV hm2 => ?_)
  obtain ⟨e1_, e2_, e3_, e4_, e5_, e6_, q2⟩ := q2
  obtain rfl := e1_.symm
  obtain rfl := e2_.symm
  obtain rfl := e3_.symm
  obtain rfl := e4_.symm
  obtain rfl := e5_.symm
  obtain rfl := e6_.symm
  rw [if_pos (by omega)] at q2
  subst q2
  refine W.widen (k := cP LB ll - cP LB ll + 0) (n := 2 * (cP LB ll - cP LB ll) + 0) (Nat.le_refl _) (Nat.le_refl _) ?_
  refine g_if_ne (tgt := 16) hx hb (by first | assumption | exact ⟨by omega, by omega⟩) dX11_within_5 (by decide) (fun c_5 => ?_) (fun c_5 => ?_)
  · skip
    refine lv_bipush (v := Int32.ofInt (-101)) hx hb dX11_within_16 (by decide) ?_
    have hpost : ((-101) : Int) = (-101) := rfl
    exact e_iret hx hb hr hK hV ⟨by decide, by decide⟩ hpost dX11_within_18 hlocks
  · omega
set_option maxHeartbeats 4000000 in
set_option maxRecDepth 100000 in
theorem k11_coefficient {l : Launch} {dC : Nat → ClassId} {dI : Nat → Nat → Nat} {cx : Nat → Nat} {LB : List Nat} {LP : List Nat} {pc_ : Nat → Nat} {pd : Nat → Int} {co : Nat → Nat → Nat} {X : va_W} {dd : Nat → Nat} {nn ss : Nat → Int} {ll : Nat → Nat} {gg : Nat → Int → Int} {H0 : Heap} {ar nu tol pi_ ti_ fr stk no pa zo tx bu bv bw bs : Nat} {mo : Int} {s0 t0 : Nat} {ia : Int} {ib : Int} {lc : Int}  (hAr : (ar, (.inr (11, [Iz (mo), .ref nu, Iz (0), .ref tol, Iz (0), .ref pi_, .ref ti_, Iz (0), .ref fr, .ref stk, .ref t0, .ref no, .ref pa, .ref s0, .ref zo, .ref tx, .ref bu, .ref bv, .ref bw, .ref bs]) : va_E)) ∈ X) (h_nu : (nu, (.inl (cx 4, 100, .inr (.inr (.inr (.inr (fun _ => none))))) : va_E)) ∈ X) (h_tol : (tol, (.inl (cx 3, 30, .inr (.inr (.inr (.inr (fun _ => none))))) : va_E)) ∈ X) (ia0_ : -2147483648 ≤ ia) (ia1_ : ia ≤ 2147483647) (ib0_ : -2147483648 ≤ ib) (ib1_ : ib ≤ 2147483647) : Met l yX11_coefficient (Cond.code yX11_coefficient cX11_coefficient 5 (some .int) :: w0c) (eRm 2 44 LB ll 0 0) (cPc dC dI cx LB (pW cx LP pc_ pd co X) dd nn ss ll gg H0 [.ref ar, Iz (ia), Iz (ib), Jz (lc)]) (eQi dC dI cx LB (va_A (bW (cx 0) LB dd nn ss ll gg (pW cx LP pc_ pd co X)) H0.size) ll H0 0 0 (fun z X' dd' nn' ss' ll' gg' => z = (-101))) (cMc LB ll + 0) (2 * cMc LB ll + 0) (va_A (bW (cx 0) LB dd nn ss ll gg (pW cx LP pc_ pd co X)) H0.size) := by
  refine Met.ofW (cc := cX11_coefficient) (maxL := 5) (ret := (some .int)) (by decide) rfl ?_
  intro p e s m args below meth c s₁ B hml hv
  obtain ⟨rfl, hH0, hP, hK, hD0, hC0⟩ := hv
  have hx := B.exec
  have hb := B.bytes
  have hr := B.returns
  have hts := atoms_spec (ws := Cond.code yX11_coefficient cX11_coefficient 5 (some .int) :: w0c) B.pre
  have hown : s.vm.findClass RX11 = some m.cls := findClass_of_methodNamed B.named
  have hlocks := B.notSynchronized
  have E : CallFix p m c cX11_coefficient 5 s _ (Cond.code yX11_coefficient cX11_coefficient 5 (some .int) :: w0c) RX11 := ⟨hx, hb, hml, hown, hts⟩
  subst hH0
  have hD := va_D.self (sz := s.heap.size) hD0
  have hA : ∀ q : Nat, s.heap.size ≤ q → va_A (bW (cx 0) LB dd nn ss ll gg (pW cx LP pc_ pd co X)) s.heap.size q := fun q h => Or.inr h
  have hV : cV dC dI cx LB (va_A (bW (cx 0) LB dd nn ss ll gg (pW cx LP pc_ pd co X)) s.heap.size) s.heap ll (pW cx LP pc_ pd co X) dd nn ss ll gg s.heap [] := ⟨hP, hD, va_S.rf, fun _ _ => Nat.le_refl _, hC0⟩
  have hR : (headSpec (Cond.code yX11_coefficient cX11_coefficient 5 (some .int) :: w0c) (eRm 2 44 LB ll 0 0)).room.cells = cMc LB ll + 0 ∧ (headSpec (Cond.code yX11_coefficient cX11_coefficient 5 (some .int) :: w0c) (eRm 2 44 LB ll 0 0)).room.slots = 2 * cMc LB ll + 0 := ⟨rfl, rfl⟩
  refine W.widen (k := cP LB ll - cP LB ll + 0) (n := 2 * (cP LB ll - cP LB ll) + 0) (Nat.zero_le _) (Nat.zero_le _) ?_
  have hl := lv_entry ([.ref ar, Iz (ia), Iz (ib), Jz (lc)]) (n := 5) (Nat.le_of_ble_eq_true rfl)
  rw [lg_entry_eq]
  generalize (lg_sl ([.ref ar, Iz (ia), Iz (ib), Jz (lc)]) ++ List.replicate (5 - (lg_sl ([.ref ar, Iz (ia), Iz (ib), Jz (lc)])).length) Slot.unset).toArray = ls at hl ⊢
  have hl : lv_has ls 5 [(0, .ref ar), (1, Iz (ia)), (2, Iz (ib)), (3, Jz (lc))] := hl
  refine lv_aload_n hx hb dX11_coefficient_0 rfl (lv_at hl 0 rfl) ?_
  refine lv_iload_n hx hb dX11_coefficient_1 rfl (lv_at hl 1 rfl) ?_
  refine e_calli (k2 := 0) (n2 := 0) (f := 0) (kl := 0) (As := [Iz (ia)]) (rest := []) E (e0i (k11_isUntold (fn := fun _ => none) (nb := fun _ => 0) (ft := fun _ => none) (tb_ := fun _ => 0) hAr h_tol (fun i h => by omega) (by omega) (by omega) (by omega) (by omega))) (cwV 1 hts (cGood cl_X11_175 ci_X11_isUntold cs_X11_isUntold cn_RX11 cc_X11_isUntold) rfl rfl rfl (by decide +kernel) ⟨Nat.le_of_ble_eq_true rfl, Nat.le_of_ble_eq_true rfl⟩) (x_recv (q := (RX11, TX11, 20)) hK hV (ci := 11) rfl (pW_x hAr)) hK hV hA hR ⟨by decide, by decide⟩ rfl hl.1 (Nat.le_of_ble_eq_true rfl) dX11_coefficient_2 (fun z2 X2 dd2 nn2 ss2 ll2 gg2 H locs q2 hV hm2 => ?_)
  obtain ⟨e1_, e2_, e3_, e4_, e5_, e6_, q2⟩ := q2
  obtain rfl := e1_.symm
  obtain rfl := e2_.symm
  obtain rfl := e3_.symm
  obtain rfl := e4_.symm
  obtain rfl := e5_.symm
  obtain rfl := e6_.symm
  rw [if_pos (by omega)] at q2
  subst q2
  refine W.widen (k := cP LB ll - cP LB ll + 0) (n := 2 * (cP LB ll - cP LB ll) + 0) (Nat.le_refl _) (Nat.le_refl _) ?_
  refine g_if_eq (tgt := 11) hx hb (by first | assumption | exact ⟨by omega, by omega⟩) dX11_coefficient_5 (by decide) (fun c_5 => ?_) (fun c_5 => ?_)
  · omega
  · skip
    refine lv_bipush (v := Int32.ofInt (-101)) hx hb dX11_coefficient_8 (by decide) ?_
    have hpost : ((-101) : Int) = (-101) := rfl
    exact e_iret hx hb hr hK hV ⟨by decide, by decide⟩ hpost dX11_coefficient_10 hlocks
set_option maxHeartbeats 4000000 in
set_option maxRecDepth 100000 in
theorem k11_roots {l : Launch} {dC : Nat → ClassId} {dI : Nat → Nat → Nat} {cx : Nat → Nat} {LB : List Nat} {LP : List Nat} {pc_ : Nat → Nat} {pd : Nat → Int} {co : Nat → Nat → Nat} {X : va_W} {dd : Nat → Nat} {nn ss : Nat → Int} {ll : Nat → Nat} {gg : Nat → Int → Int} {H0 : Heap} {ar nu tol pi_ ti_ fr stk no pa zo tx bu bv bw bs : Nat} {mo : Int} {s0 t0 : Nat} {ia : Int}  (hAr : (ar, (.inr (11, [Iz (mo), .ref nu, Iz (0), .ref tol, Iz (0), .ref pi_, .ref ti_, Iz (0), .ref fr, .ref stk, .ref t0, .ref no, .ref pa, .ref s0, .ref zo, .ref tx, .ref bu, .ref bv, .ref bw, .ref bs]) : va_E)) ∈ X) (h_nu : (nu, (.inl (cx 4, 100, .inr (.inr (.inr (.inr (fun _ => none))))) : va_E)) ∈ X) (h_tol : (tol, (.inl (cx 3, 30, .inr (.inr (.inr (.inr (fun _ => none))))) : va_E)) ∈ X) (ia0_ : -2147483648 ≤ ia) (ia1_ : ia ≤ 2147483647) : Met l yX11_roots (Cond.code yX11_roots cX11_roots 2 (some .int) :: w0c) (eRm 6 179 LB ll 0 0) (cPc dC dI cx LB (pW cx LP pc_ pd co X) dd nn ss ll gg H0 [.ref ar, Iz (ia)]) (eQi dC dI cx LB (va_A (bW (cx 0) LB dd nn ss ll gg (pW cx LP pc_ pd co X)) H0.size) ll H0 0 0 (fun z X' dd' nn' ss' ll' gg' => z = (-101))) (cMc LB ll + 0) (2 * cMc LB ll + 0) (va_A (bW (cx 0) LB dd nn ss ll gg (pW cx LP pc_ pd co X)) H0.size) := by
  refine Met.ofW (cc := cX11_roots) (maxL := 2) (ret := (some .int)) (by decide) rfl ?_
  intro p e s m args below meth c s₁ B hml hv
  obtain ⟨rfl, hH0, hP, hK, hD0, hC0⟩ := hv
  have hx := B.exec
  have hb := B.bytes
  have hr := B.returns
  have hts := atoms_spec (ws := Cond.code yX11_roots cX11_roots 2 (some .int) :: w0c) B.pre
  have hown : s.vm.findClass RX11 = some m.cls := findClass_of_methodNamed B.named
  have hlocks := B.notSynchronized
  have E : CallFix p m c cX11_roots 2 s _ (Cond.code yX11_roots cX11_roots 2 (some .int) :: w0c) RX11 := ⟨hx, hb, hml, hown, hts⟩
  subst hH0
  have hD := va_D.self (sz := s.heap.size) hD0
  have hA : ∀ q : Nat, s.heap.size ≤ q → va_A (bW (cx 0) LB dd nn ss ll gg (pW cx LP pc_ pd co X)) s.heap.size q := fun q h => Or.inr h
  have hV : cV dC dI cx LB (va_A (bW (cx 0) LB dd nn ss ll gg (pW cx LP pc_ pd co X)) s.heap.size) s.heap ll (pW cx LP pc_ pd co X) dd nn ss ll gg s.heap [] := ⟨hP, hD, va_S.rf, fun _ _ => Nat.le_refl _, hC0⟩
  have hR : (headSpec (Cond.code yX11_roots cX11_roots 2 (some .int) :: w0c) (eRm 6 179 LB ll 0 0)).room.cells = cMc LB ll + 0 ∧ (headSpec (Cond.code yX11_roots cX11_roots 2 (some .int) :: w0c) (eRm 6 179 LB ll 0 0)).room.slots = 2 * cMc LB ll + 0 := ⟨rfl, rfl⟩
  refine W.widen (k := cP LB ll - cP LB ll + 0) (n := 2 * (cP LB ll - cP LB ll) + 0) (Nat.zero_le _) (Nat.zero_le _) ?_
  have hl := lv_entry ([.ref ar, Iz (ia)]) (n := 2) (Nat.le_of_ble_eq_true rfl)
  rw [lg_entry_eq]
  generalize (lg_sl ([.ref ar, Iz (ia)]) ++ List.replicate (2 - (lg_sl ([.ref ar, Iz (ia)])).length) Slot.unset).toArray = ls at hl ⊢
  have hl : lv_has ls 2 [(0, .ref ar), (1, Iz (ia))] := hl
  refine lv_aload_n hx hb dX11_roots_0 rfl (lv_at hl 0 rfl) ?_
  refine lv_iload_n hx hb dX11_roots_1 rfl (lv_at hl 1 rfl) ?_
  refine e_calli (k2 := 0) (n2 := 0) (f := 0) (kl := 0) (As := [Iz (ia)]) (rest := []) E (e0i (k11_isUntold (fn := fun _ => none) (nb := fun _ => 0) (ft := fun _ => none) (tb_ := fun _ => 0) hAr h_tol (fun i h => by omega) (by omega) (by omega) (by omega) (by omega))) (cwV 1 hts (cGood cl_X11_175 ci_X11_isUntold cs_X11_isUntold cn_RX11 cc_X11_isUntold) rfl rfl rfl (by decide +kernel) ⟨Nat.le_of_ble_eq_true rfl, Nat.le_of_ble_eq_true rfl⟩) (x_recv (q := (RX11, TX11, 20)) hK hV (ci := 11) rfl (pW_x hAr)) hK hV hA hR ⟨by decide, by decide⟩ rfl hl.1 (Nat.le_of_ble_eq_true rfl) dX11_roots_2 (fun z2 X2 dd2 nn2 ss2 ll2 gg2 H locs q2 hV hm2 => ?_)
  obtain ⟨e1_, e2_, e3_, e4_, e5_, e6_, q2⟩ := q2
  obtain rfl := e1_.symm
  obtain rfl := e2_.symm
  obtain rfl := e3_.symm
  obtain rfl := e4_.symm
  obtain rfl := e5_.symm
  obtain rfl := e6_.symm
  rw [if_pos (by omega)] at q2
  subst q2
  refine W.widen (k := cP LB ll - cP LB ll + 0) (n := 2 * (cP LB ll - cP LB ll) + 0) (Nat.le_refl _) (Nat.le_refl _) ?_
  refine g_if_eq (tgt := 11) hx hb (by first | assumption | exact ⟨by omega, by omega⟩) dX11_roots_5 (by decide) (fun c_5 => ?_) (fun c_5 => ?_)
  · omega
  · skip
    refine lv_bipush (v := Int32.ofInt (-101)) hx hb dX11_roots_8 (by decide) ?_
    have hpost : ((-101) : Int) = (-101) := rfl
    exact e_iret hx hb hr hK hV ⟨by decide, by decide⟩ hpost dX11_roots_10 hlocks
set_option maxHeartbeats 4000000 in
set_option maxRecDepth 100000 in
theorem k11_between {l : Launch} {dC : Nat → ClassId} {dI : Nat → Nat → Nat} {cx : Nat → Nat} {LB : List Nat} {LP : List Nat} {pc_ : Nat → Nat} {pd : Nat → Int} {co : Nat → Nat → Nat} {X : va_W} {dd : Nat → Nat} {nn ss : Nat → Int} {ll : Nat → Nat} {gg : Nat → Int → Int} {H0 : Heap} {ar nu tol pi_ ti_ fr stk no pa zo tx bu bv bw bs : Nat} {mo : Int} {s0 t0 : Nat} {ia : Int} {ib : Int} {ic : Int}  (hAr : (ar, (.inr (11, [Iz (mo), .ref nu, Iz (0), .ref tol, Iz (0), .ref pi_, .ref ti_, Iz (0), .ref fr, .ref stk, .ref t0, .ref no, .ref pa, .ref s0, .ref zo, .ref tx, .ref bu, .ref bv, .ref bw, .ref bs]) : va_E)) ∈ X) (h_nu : (nu, (.inl (cx 4, 100, .inr (.inr (.inr (.inr (fun _ => none))))) : va_E)) ∈ X) (h_tol : (tol, (.inl (cx 3, 30, .inr (.inr (.inr (.inr (fun _ => none))))) : va_E)) ∈ X) (ia0_ : -2147483648 ≤ ia) (ia1_ : ia ≤ 2147483647) (ib0_ : -2147483648 ≤ ib) (ib1_ : ib ≤ 2147483647) (ic0_ : -2147483648 ≤ ic) (ic1_ : ic ≤ 2147483647) : Met l yX11_between (Cond.code yX11_between cX11_between 4 (some .int) :: w0c) (eRm 6 179 LB ll 0 0) (cPc dC dI cx LB (pW cx LP pc_ pd co X) dd nn ss ll gg H0 [.ref ar, Iz (ia), Iz (ib), Iz (ic)]) (eQi dC dI cx LB (va_A (bW (cx 0) LB dd nn ss ll gg (pW cx LP pc_ pd co X)) H0.size) ll H0 0 0 (fun z X' dd' nn' ss' ll' gg' => z = (-101))) (cMc LB ll + 0) (2 * cMc LB ll + 0) (va_A (bW (cx 0) LB dd nn ss ll gg (pW cx LP pc_ pd co X)) H0.size) := by
  refine Met.ofW (cc := cX11_between) (maxL := 4) (ret := (some .int)) (by decide) rfl ?_
  intro p e s m args below meth c s₁ B hml hv
  obtain ⟨rfl, hH0, hP, hK, hD0, hC0⟩ := hv
  have hx := B.exec
  have hb := B.bytes
  have hr := B.returns
  have hts := atoms_spec (ws := Cond.code yX11_between cX11_between 4 (some .int) :: w0c) B.pre
  have hown : s.vm.findClass RX11 = some m.cls := findClass_of_methodNamed B.named
  have hlocks := B.notSynchronized
  have E : CallFix p m c cX11_between 4 s _ (Cond.code yX11_between cX11_between 4 (some .int) :: w0c) RX11 := ⟨hx, hb, hml, hown, hts⟩
  subst hH0
  have hD := va_D.self (sz := s.heap.size) hD0
  have hA : ∀ q : Nat, s.heap.size ≤ q → va_A (bW (cx 0) LB dd nn ss ll gg (pW cx LP pc_ pd co X)) s.heap.size q := fun q h => Or.inr h
  have hV : cV dC dI cx LB (va_A (bW (cx 0) LB dd nn ss ll gg (pW cx LP pc_ pd co X)) s.heap.size) s.heap ll (pW cx LP pc_ pd co X) dd nn ss ll gg s.heap [] := ⟨hP, hD, va_S.rf, fun _ _ => Nat.le_refl _, hC0⟩
  have hR : (headSpec (Cond.code yX11_between cX11_between 4 (some .int) :: w0c) (eRm 6 179 LB ll 0 0)).room.cells = cMc LB ll + 0 ∧ (headSpec (Cond.code yX11_between cX11_between 4 (some .int) :: w0c) (eRm 6 179 LB ll 0 0)).room.slots = 2 * cMc LB ll + 0 := ⟨rfl, rfl⟩
  refine W.widen (k := cP LB ll - cP LB ll + 0) (n := 2 * (cP LB ll - cP LB ll) + 0) (Nat.zero_le _) (Nat.zero_le _) ?_
  have hl := lv_entry ([.ref ar, Iz (ia), Iz (ib), Iz (ic)]) (n := 4) (Nat.le_of_ble_eq_true rfl)
  rw [lg_entry_eq]
  generalize (lg_sl ([.ref ar, Iz (ia), Iz (ib), Iz (ic)]) ++ List.replicate (4 - (lg_sl ([.ref ar, Iz (ia), Iz (ib), Iz (ic)])).length) Slot.unset).toArray = ls at hl ⊢
  have hl : lv_has ls 4 [(0, .ref ar), (1, Iz (ia)), (2, Iz (ib)), (3, Iz (ic))] := hl
  refine lv_aload_n hx hb dX11_between_0 rfl (lv_at hl 0 rfl) ?_
  refine lv_iload_n hx hb dX11_between_1 rfl (lv_at hl 1 rfl) ?_
  refine e_calli (k2 := 0) (n2 := 0) (f := 0) (kl := 0) (As := [Iz (ia)]) (rest := []) E (e0i (k11_isUntold (fn := fun _ => none) (nb := fun _ => 0) (ft := fun _ => none) (tb_ := fun _ => 0) hAr h_tol (fun i h => by omega) (by omega) (by omega) (by omega) (by omega))) (cwV 1 hts (cGood cl_X11_175 ci_X11_isUntold cs_X11_isUntold cn_RX11 cc_X11_isUntold) rfl rfl rfl (by decide +kernel) ⟨Nat.le_of_ble_eq_true rfl, Nat.le_of_ble_eq_true rfl⟩) (x_recv (q := (RX11, TX11, 20)) hK hV (ci := 11) rfl (pW_x hAr)) hK hV hA hR ⟨by decide, by decide⟩ rfl hl.1 (Nat.le_of_ble_eq_true rfl) dX11_between_2 (fun z2 X2 dd2 nn2 ss2 ll2 gg2 H locs q2 hV hm2 => ?_)
  obtain ⟨e1_, e2_, e3_, e4_, e5_, e6_, q2⟩ := q2
  obtain rfl := e1_.symm
  obtain rfl := e2_.symm
  obtain rfl := e3_.symm
  obtain rfl := e4_.symm
  obtain rfl := e5_.symm
  obtain rfl := e6_.symm
  rw [if_pos (by omega)] at q2
  subst q2
  refine W.widen (k := cP LB ll - cP LB ll + 0) (n := 2 * (cP LB ll - cP LB ll) + 0) (Nat.le_refl _) (Nat.le_refl _) ?_
  refine g_if_ne (tgt := 24) hx hb (by first | assumption | exact ⟨by omega, by omega⟩) dX11_between_5 (by decide) (fun c_5 => ?_) (fun c_5 => ?_)
  · skip
    refine lv_bipush (v := Int32.ofInt (-101)) hx hb dX11_between_24 (by decide) ?_
    have hpost : ((-101) : Int) = (-101) := rfl
    exact e_iret hx hb hr hK hV ⟨by decide, by decide⟩ hpost dX11_between_26 hlocks
  · omega
set_option maxHeartbeats 4000000 in
set_option maxRecDepth 100000 in
theorem k11_parts {l : Launch} {dC : Nat → ClassId} {dI : Nat → Nat → Nat} {cx : Nat → Nat} {LB : List Nat} {LP : List Nat} {pc_ : Nat → Nat} {pd : Nat → Int} {co : Nat → Nat → Nat} {X : va_W} {dd : Nat → Nat} {nn ss : Nat → Int} {ll : Nat → Nat} {gg : Nat → Int → Int} {H0 : Heap} {ar nu tol pi_ ti_ fr stk no pa zo tx bu bv bw bs : Nat} {mo : Int} {s0 t0 : Nat} {ia : Int}  (hAr : (ar, (.inr (11, [Iz (mo), .ref nu, Iz (0), .ref tol, Iz (0), .ref pi_, .ref ti_, Iz (0), .ref fr, .ref stk, .ref t0, .ref no, .ref pa, .ref s0, .ref zo, .ref tx, .ref bu, .ref bv, .ref bw, .ref bs]) : va_E)) ∈ X) (h_nu : (nu, (.inl (cx 4, 100, .inr (.inr (.inr (.inr (fun _ => none))))) : va_E)) ∈ X) (h_tol : (tol, (.inl (cx 3, 30, .inr (.inr (.inr (.inr (fun _ => none))))) : va_E)) ∈ X) (ia0_ : -2147483648 ≤ ia) (ia1_ : ia ≤ 2147483647) : Met l yX11_parts (Cond.code yX11_parts cX11_parts 3 (some .int) :: w0c) (eRm 1 21 LB ll 0 0) (cPc dC dI cx LB (pW cx LP pc_ pd co X) dd nn ss ll gg H0 [.ref ar, Iz (ia)]) (eQi dC dI cx LB (va_A (bW (cx 0) LB dd nn ss ll gg (pW cx LP pc_ pd co X)) H0.size) ll H0 0 0 (fun z X' dd' nn' ss' ll' gg' => z = (-101))) (cMc LB ll + 0) (2 * cMc LB ll + 0) (va_A (bW (cx 0) LB dd nn ss ll gg (pW cx LP pc_ pd co X)) H0.size) := by
  refine Met.ofW (cc := cX11_parts) (maxL := 3) (ret := (some .int)) (by decide) rfl ?_
  intro p e s m args below meth c s₁ B hml hv
  obtain ⟨rfl, hH0, hP, hK, hD0, hC0⟩ := hv
  have hx := B.exec
  have hb := B.bytes
  have hr := B.returns
  have hts := atoms_spec (ws := Cond.code yX11_parts cX11_parts 3 (some .int) :: w0c) B.pre
  have hown : s.vm.findClass RX11 = some m.cls := findClass_of_methodNamed B.named
  have hlocks := B.notSynchronized
  have E : CallFix p m c cX11_parts 3 s _ (Cond.code yX11_parts cX11_parts 3 (some .int) :: w0c) RX11 := ⟨hx, hb, hml, hown, hts⟩
  subst hH0
  have hD := va_D.self (sz := s.heap.size) hD0
  have hA : ∀ q : Nat, s.heap.size ≤ q → va_A (bW (cx 0) LB dd nn ss ll gg (pW cx LP pc_ pd co X)) s.heap.size q := fun q h => Or.inr h
  have hV : cV dC dI cx LB (va_A (bW (cx 0) LB dd nn ss ll gg (pW cx LP pc_ pd co X)) s.heap.size) s.heap ll (pW cx LP pc_ pd co X) dd nn ss ll gg s.heap [] := ⟨hP, hD, va_S.rf, fun _ _ => Nat.le_refl _, hC0⟩
  have hR : (headSpec (Cond.code yX11_parts cX11_parts 3 (some .int) :: w0c) (eRm 1 21 LB ll 0 0)).room.cells = cMc LB ll + 0 ∧ (headSpec (Cond.code yX11_parts cX11_parts 3 (some .int) :: w0c) (eRm 1 21 LB ll 0 0)).room.slots = 2 * cMc LB ll + 0 := ⟨rfl, rfl⟩
  refine W.widen (k := cP LB ll - cP LB ll + 0) (n := 2 * (cP LB ll - cP LB ll) + 0) (Nat.zero_le _) (Nat.zero_le _) ?_
  have hl := lv_entry ([.ref ar, Iz (ia)]) (n := 3) (Nat.le_of_ble_eq_true rfl)
  rw [lg_entry_eq]
  generalize (lg_sl ([.ref ar, Iz (ia)]) ++ List.replicate (3 - (lg_sl ([.ref ar, Iz (ia)])).length) Slot.unset).toArray = ls at hl ⊢
  have hl : lv_has ls 3 [(0, .ref ar), (1, Iz (ia))] := hl
  refine lv_aload_n hx hb dX11_parts_0 rfl (lv_at hl 0 rfl) ?_
  refine lv_iload_n hx hb dX11_parts_1 rfl (lv_at hl 1 rfl) ?_
  refine e_calli (k2 := 0) (n2 := 0) (f := 0) (kl := 0) (As := [Iz (ia)]) (rest := []) E (e0i (k11_isUntold (fn := fun _ => none) (nb := fun _ => 0) (ft := fun _ => none) (tb_ := fun _ => 0) hAr h_tol (fun i h => by omega) (by omega) (by omega) (by omega) (by omega))) (cwV 1 hts (cGood cl_X11_175 ci_X11_isUntold cs_X11_isUntold cn_RX11 cc_X11_isUntold) rfl rfl rfl (by decide +kernel) ⟨Nat.le_of_ble_eq_true rfl, Nat.le_of_ble_eq_true rfl⟩) (x_recv (q := (RX11, TX11, 20)) hK hV (ci := 11) rfl (pW_x hAr)) hK hV hA hR ⟨by decide, by decide⟩ rfl hl.1 (Nat.le_of_ble_eq_true rfl) dX11_parts_2 (fun z2 X2 dd2 nn2 ss2 ll2 gg2 H locs q2 hV hm2 => ?_)
  obtain ⟨e1_, e2_, e3_, e4_, e5_, e6_, q2⟩ := q2
  obtain rfl := e1_.symm
  obtain rfl := e2_.symm
  obtain rfl := e3_.symm
  obtain rfl := e4_.symm
  obtain rfl := e5_.symm
  obtain rfl := e6_.symm
  rw [if_pos (by omega)] at q2
  subst q2
  refine W.widen (k := cP LB ll - cP LB ll + 0) (n := 2 * (cP LB ll - cP LB ll) + 0) (Nat.le_refl _) (Nat.le_refl _) ?_
  refine g_if_eq (tgt := 11) hx hb (by first | assumption | exact ⟨by omega, by omega⟩) dX11_parts_5 (by decide) (fun c_5 => ?_) (fun c_5 => ?_)
  · omega
  · skip
    refine lv_bipush (v := Int32.ofInt (-101)) hx hb dX11_parts_8 (by decide) ?_
    have hpost : ((-101) : Int) = (-101) := rfl
    exact e_iret hx hb hr hK hV ⟨by decide, by decide⟩ hpost dX11_parts_10 hlocks
set_option maxHeartbeats 4000000 in
set_option maxRecDepth 100000 in
theorem k11_part {l : Launch} {dC : Nat → ClassId} {dI : Nat → Nat → Nat} {cx : Nat → Nat} {LB : List Nat} {LP : List Nat} {pc_ : Nat → Nat} {pd : Nat → Int} {co : Nat → Nat → Nat} {X : va_W} {dd : Nat → Nat} {nn ss : Nat → Int} {ll : Nat → Nat} {gg : Nat → Int → Int} {H0 : Heap} {ar nu tol pi_ ti_ fr stk no pa zo tx bu bv bw bs : Nat} {mo : Int} {s0 t0 : Nat} {ia : Int} {ib : Int}  (hAr : (ar, (.inr (11, [Iz (mo), .ref nu, Iz (0), .ref tol, Iz (0), .ref pi_, .ref ti_, Iz (0), .ref fr, .ref stk, .ref t0, .ref no, .ref pa, .ref s0, .ref zo, .ref tx, .ref bu, .ref bv, .ref bw, .ref bs]) : va_E)) ∈ X) (h_nu : (nu, (.inl (cx 4, 100, .inr (.inr (.inr (.inr (fun _ => none))))) : va_E)) ∈ X) (h_tol : (tol, (.inl (cx 3, 30, .inr (.inr (.inr (.inr (fun _ => none))))) : va_E)) ∈ X) (ia0_ : -2147483648 ≤ ia) (ia1_ : ia ≤ 2147483647) (ib0_ : -2147483648 ≤ ib) (ib1_ : ib ≤ 2147483647) : Met l yX11_part (Cond.code yX11_part cX11_part 3 (some .int) :: w0c) (eRm 0 0 LB ll 0 0) (cPc dC dI cx LB (pW cx LP pc_ pd co X) dd nn ss ll gg H0 [.ref ar, Iz (ia), Iz (ib)]) (eQi dC dI cx LB (va_A (bW (cx 0) LB dd nn ss ll gg (pW cx LP pc_ pd co X)) H0.size) ll H0 0 0 (fun z X' dd' nn' ss' ll' gg' => z = (-102))) (cMc LB ll + 0) (2 * cMc LB ll + 0) (va_A (bW (cx 0) LB dd nn ss ll gg (pW cx LP pc_ pd co X)) H0.size) := by
  refine Met.ofW (cc := cX11_part) (maxL := 3) (ret := (some .int)) (by decide) rfl ?_
  intro p e s m args below meth c s₁ B hml hv
  obtain ⟨rfl, hH0, hP, hK, hD0, hC0⟩ := hv
  have hx := B.exec
  have hb := B.bytes
  have hr := B.returns
  have hts := atoms_spec (ws := Cond.code yX11_part cX11_part 3 (some .int) :: w0c) B.pre
  have hown : s.vm.findClass RX11 = some m.cls := findClass_of_methodNamed B.named
  have hlocks := B.notSynchronized
  have E : CallFix p m c cX11_part 3 s _ (Cond.code yX11_part cX11_part 3 (some .int) :: w0c) RX11 := ⟨hx, hb, hml, hown, hts⟩
  subst hH0
  have hD := va_D.self (sz := s.heap.size) hD0
  have hA : ∀ q : Nat, s.heap.size ≤ q → va_A (bW (cx 0) LB dd nn ss ll gg (pW cx LP pc_ pd co X)) s.heap.size q := fun q h => Or.inr h
  have hV : cV dC dI cx LB (va_A (bW (cx 0) LB dd nn ss ll gg (pW cx LP pc_ pd co X)) s.heap.size) s.heap ll (pW cx LP pc_ pd co X) dd nn ss ll gg s.heap [] := ⟨hP, hD, va_S.rf, fun _ _ => Nat.le_refl _, hC0⟩
  have hR : (headSpec (Cond.code yX11_part cX11_part 3 (some .int) :: w0c) (eRm 0 0 LB ll 0 0)).room.cells = cMc LB ll + 0 ∧ (headSpec (Cond.code yX11_part cX11_part 3 (some .int) :: w0c) (eRm 0 0 LB ll 0 0)).room.slots = 2 * cMc LB ll + 0 := ⟨rfl, rfl⟩
  refine W.widen (k := cP LB ll - cP LB ll + 0) (n := 2 * (cP LB ll - cP LB ll) + 0) (Nat.zero_le _) (Nat.zero_le _) ?_
  have hl := lv_entry ([.ref ar, Iz (ia), Iz (ib)]) (n := 3) (Nat.le_of_ble_eq_true rfl)
  rw [lg_entry_eq]
  generalize (lg_sl ([.ref ar, Iz (ia), Iz (ib)]) ++ List.replicate (3 - (lg_sl ([.ref ar, Iz (ia), Iz (ib)])).length) Slot.unset).toArray = ls at hl ⊢
  have hl : lv_has ls 3 [(0, .ref ar), (1, Iz (ia)), (2, Iz (ib))] := hl
  refine lv_iload_n hx hb dX11_part_0 rfl (lv_at hl 1 rfl) ?_
  refine g_if_lt (tgt := 30) hx hb (by first | assumption | exact ⟨by omega, by omega⟩) dX11_part_1 (by decide) (fun c_1 => ?_) (fun c_1 => ?_)
  · skip
    refine lv_bipush (v := Int32.ofInt (-102)) hx hb dX11_part_30 (by decide) ?_
    have hpost : ((-102) : Int) = (-102) := rfl
    exact e_iret hx hb hr hK hV ⟨by decide, by decide⟩ hpost dX11_part_32 hlocks
  · skip
    refine lv_iload_n hx hb dX11_part_4 rfl (lv_at hl 1 rfl) ?_
    refine lv_aload_n hx hb dX11_part_5 rfl (lv_at hl 0 rfl) ?_
    refine x_get E hK hV (ci := 11) (C := RX11) (T := TX11) (N := 20) rfl w0c_in11 (pW_x hAr) 7 (by decide) rfl cf_11_291 rfl dX11_part_6 ?_
    refine g_icmp_ge (tgt := 30) hx hb (by first | assumption | exact ⟨by omega, by omega⟩) (by first | assumption | exact ⟨by omega, by omega⟩) dX11_part_9 (by decide) (fun c_9 => ?_) (fun c_9 => ?_)
    · skip
      refine lv_bipush (v := Int32.ofInt (-102)) hx hb dX11_part_30 (by decide) ?_
      have hpost : ((-102) : Int) = (-102) := rfl
      exact e_iret hx hb hr hK hV ⟨by decide, by decide⟩ hpost dX11_part_32 hlocks
    · omega
set_option maxHeartbeats 4000000 in
set_option maxRecDepth 100000 in
theorem k11_write {l : Launch} {dC : Nat → ClassId} {dI : Nat → Nat → Nat} {cx : Nat → Nat} {LB : List Nat} {LP : List Nat} {pc_ : Nat → Nat} {pd : Nat → Int} {co : Nat → Nat → Nat} {X : va_W} {dd : Nat → Nat} {nn ss : Nat → Int} {ll : Nat → Nat} {gg : Nat → Int → Int} {H0 : Heap} {ar nu tol pi_ ti_ fr stk no pa zo tx bu bv bw bs : Nat} {mo : Int} {s0 t0 : Nat} {ia : Int} {ib : Int}  (hAr : (ar, (.inr (11, [Iz (mo), .ref nu, Iz (0), .ref tol, Iz (0), .ref pi_, .ref ti_, Iz (0), .ref fr, .ref stk, .ref t0, .ref no, .ref pa, .ref s0, .ref zo, .ref tx, .ref bu, .ref bv, .ref bw, .ref bs]) : va_E)) ∈ X) (h_nu : (nu, (.inl (cx 4, 100, .inr (.inr (.inr (.inr (fun _ => none))))) : va_E)) ∈ X) (h_tol : (tol, (.inl (cx 3, 30, .inr (.inr (.inr (.inr (fun _ => none))))) : va_E)) ∈ X) (ia0_ : -2147483648 ≤ ia) (ia1_ : ia ≤ 2147483647) (ib0_ : -2147483648 ≤ ib) (ib1_ : ib ≤ 2147483647) : Met l yX11_write (Cond.code yX11_write cX11_write 5 (some .int) :: w0c) (eRm 3 91 LB ll 0 0) (cPc dC dI cx LB (pW cx LP pc_ pd co X) dd nn ss ll gg H0 [.ref ar, Iz (ia), Iz (ib)]) (eQi dC dI cx LB (va_A (bW (cx 0) LB dd nn ss ll gg (pW cx LP pc_ pd co X)) H0.size) ll H0 0 0 (fun z X' dd' nn' ss' ll' gg' => z = (-101))) (cMc LB ll + 0) (2 * cMc LB ll + 0) (va_A (bW (cx 0) LB dd nn ss ll gg (pW cx LP pc_ pd co X)) H0.size) := by
  refine Met.ofW (cc := cX11_write) (maxL := 5) (ret := (some .int)) (by decide) rfl ?_
  intro p e s m args below meth c s₁ B hml hv
  obtain ⟨rfl, hH0, hP, hK, hD0, hC0⟩ := hv
  have hx := B.exec
  have hb := B.bytes
  have hr := B.returns
  have hts := atoms_spec (ws := Cond.code yX11_write cX11_write 5 (some .int) :: w0c) B.pre
  have hown : s.vm.findClass RX11 = some m.cls := findClass_of_methodNamed B.named
  have hlocks := B.notSynchronized
  have E : CallFix p m c cX11_write 5 s _ (Cond.code yX11_write cX11_write 5 (some .int) :: w0c) RX11 := ⟨hx, hb, hml, hown, hts⟩
  subst hH0
  have hD := va_D.self (sz := s.heap.size) hD0
  have hA : ∀ q : Nat, s.heap.size ≤ q → va_A (bW (cx 0) LB dd nn ss ll gg (pW cx LP pc_ pd co X)) s.heap.size q := fun q h => Or.inr h
  have hV : cV dC dI cx LB (va_A (bW (cx 0) LB dd nn ss ll gg (pW cx LP pc_ pd co X)) s.heap.size) s.heap ll (pW cx LP pc_ pd co X) dd nn ss ll gg s.heap [] := ⟨hP, hD, va_S.rf, fun _ _ => Nat.le_refl _, hC0⟩
  have hR : (headSpec (Cond.code yX11_write cX11_write 5 (some .int) :: w0c) (eRm 3 91 LB ll 0 0)).room.cells = cMc LB ll + 0 ∧ (headSpec (Cond.code yX11_write cX11_write 5 (some .int) :: w0c) (eRm 3 91 LB ll 0 0)).room.slots = 2 * cMc LB ll + 0 := ⟨rfl, rfl⟩
  refine W.widen (k := cP LB ll - cP LB ll + 0) (n := 2 * (cP LB ll - cP LB ll) + 0) (Nat.zero_le _) (Nat.zero_le _) ?_
  have hl := lv_entry ([.ref ar, Iz (ia), Iz (ib)]) (n := 5) (Nat.le_of_ble_eq_true rfl)
  rw [lg_entry_eq]
  generalize (lg_sl ([.ref ar, Iz (ia), Iz (ib)]) ++ List.replicate (5 - (lg_sl ([.ref ar, Iz (ia), Iz (ib)])).length) Slot.unset).toArray = ls at hl ⊢
  have hl : lv_has ls 5 [(0, .ref ar), (1, Iz (ia)), (2, Iz (ib))] := hl
  refine lv_aload_n hx hb dX11_write_0 rfl (lv_at hl 0 rfl) ?_
  refine lv_iload_n hx hb dX11_write_1 rfl (lv_at hl 1 rfl) ?_
  refine e_calli (k2 := 0) (n2 := 0) (f := 0) (kl := 0) (As := [Iz (ia)]) (rest := []) E (e0i (k11_isNone (fn := fun _ => none) (nb := fun _ => 0) (ft := fun _ => none) (tb_ := fun _ => 0) hAr h_nu (fun i h => by omega) (by omega) (by omega) (by omega) (by omega))) (cwV 1 hts (cGood cl_X11_120 ci_X11_isNone cs_X11_isNone cn_RX11 cc_X11_isNone) rfl rfl rfl (by decide +kernel) ⟨Nat.le_of_ble_eq_true rfl, Nat.le_of_ble_eq_true rfl⟩) (x_recv (q := (RX11, TX11, 20)) hK hV (ci := 11) rfl (pW_x hAr)) hK hV hA hR ⟨by decide, by decide⟩ rfl hl.1 (Nat.le_of_ble_eq_true rfl) dX11_write_2 (fun z2 X2 dd2 nn2 ss2 ll2 gg2 H locs q2 hV hm2 => ?_)
  obtain ⟨e1_, e2_, e3_, e4_, e5_, e6_, q2⟩ := q2
  obtain rfl := e1_.symm
  obtain rfl := e2_.symm
  obtain rfl := e3_.symm
  obtain rfl := e4_.symm
  obtain rfl := e5_.symm
  obtain rfl := e6_.symm
  rw [if_pos (by omega)] at q2
  subst q2
  refine W.widen (k := cP LB ll - cP LB ll + 0) (n := 2 * (cP LB ll - cP LB ll) + 0) (Nat.le_refl _) (Nat.le_refl _) ?_
  refine g_if_eq (tgt := 11) hx hb (by first | assumption | exact ⟨by omega, by omega⟩) dX11_write_5 (by decide) (fun c_5 => ?_) (fun c_5 => ?_)
  · omega
  · skip
    refine lv_bipush (v := Int32.ofInt (-101)) hx hb dX11_write_8 (by decide) ?_
    have hpost : ((-101) : Int) = (-101) := rfl
    exact e_iret hx hb hr hK hV ⟨by decide, by decide⟩ hpost dX11_write_10 hlocks
set_option maxHeartbeats 4000000 in
set_option maxRecDepth 100000 in
theorem k11_writeLeast {l : Launch} {dC : Nat → ClassId} {dI : Nat → Nat → Nat} {cx : Nat → Nat} {LB : List Nat} {LP : List Nat} {pc_ : Nat → Nat} {pd : Nat → Int} {co : Nat → Nat → Nat} {X : va_W} {dd : Nat → Nat} {nn ss : Nat → Int} {ll : Nat → Nat} {gg : Nat → Int → Int} {H0 : Heap} {ar nu tol pi_ ti_ fr stk no pa zo tx bu bv bw bs : Nat} {mo : Int} {s0 t0 : Nat} {ia : Int}  (hAr : (ar, (.inr (11, [Iz (mo), .ref nu, Iz (0), .ref tol, Iz (0), .ref pi_, .ref ti_, Iz (0), .ref fr, .ref stk, .ref t0, .ref no, .ref pa, .ref s0, .ref zo, .ref tx, .ref bu, .ref bv, .ref bw, .ref bs]) : va_E)) ∈ X) (h_nu : (nu, (.inl (cx 4, 100, .inr (.inr (.inr (.inr (fun _ => none))))) : va_E)) ∈ X) (h_tol : (tol, (.inl (cx 3, 30, .inr (.inr (.inr (.inr (fun _ => none))))) : va_E)) ∈ X) (ia0_ : -2147483648 ≤ ia) (ia1_ : ia ≤ 2147483647) : Met l yX11_writeLeast (Cond.code yX11_writeLeast cX11_writeLeast 2 (some .int) :: w0c) (eRm 1 21 LB ll 0 0) (cPc dC dI cx LB (pW cx LP pc_ pd co X) dd nn ss ll gg H0 [.ref ar, Iz (ia)]) (eQi dC dI cx LB (va_A (bW (cx 0) LB dd nn ss ll gg (pW cx LP pc_ pd co X)) H0.size) ll H0 0 0 (fun z X' dd' nn' ss' ll' gg' => z = (-101))) (cMc LB ll + 0) (2 * cMc LB ll + 0) (va_A (bW (cx 0) LB dd nn ss ll gg (pW cx LP pc_ pd co X)) H0.size) := by
  refine Met.ofW (cc := cX11_writeLeast) (maxL := 2) (ret := (some .int)) (by decide) rfl ?_
  intro p e s m args below meth c s₁ B hml hv
  obtain ⟨rfl, hH0, hP, hK, hD0, hC0⟩ := hv
  have hx := B.exec
  have hb := B.bytes
  have hr := B.returns
  have hts := atoms_spec (ws := Cond.code yX11_writeLeast cX11_writeLeast 2 (some .int) :: w0c) B.pre
  have hown : s.vm.findClass RX11 = some m.cls := findClass_of_methodNamed B.named
  have hlocks := B.notSynchronized
  have E : CallFix p m c cX11_writeLeast 2 s _ (Cond.code yX11_writeLeast cX11_writeLeast 2 (some .int) :: w0c) RX11 := ⟨hx, hb, hml, hown, hts⟩
  subst hH0
  have hD := va_D.self (sz := s.heap.size) hD0
  have hA : ∀ q : Nat, s.heap.size ≤ q → va_A (bW (cx 0) LB dd nn ss ll gg (pW cx LP pc_ pd co X)) s.heap.size q := fun q h => Or.inr h
  have hV : cV dC dI cx LB (va_A (bW (cx 0) LB dd nn ss ll gg (pW cx LP pc_ pd co X)) s.heap.size) s.heap ll (pW cx LP pc_ pd co X) dd nn ss ll gg s.heap [] := ⟨hP, hD, va_S.rf, fun _ _ => Nat.le_refl _, hC0⟩
  have hR : (headSpec (Cond.code yX11_writeLeast cX11_writeLeast 2 (some .int) :: w0c) (eRm 1 21 LB ll 0 0)).room.cells = cMc LB ll + 0 ∧ (headSpec (Cond.code yX11_writeLeast cX11_writeLeast 2 (some .int) :: w0c) (eRm 1 21 LB ll 0 0)).room.slots = 2 * cMc LB ll + 0 := ⟨rfl, rfl⟩
  refine W.widen (k := cP LB ll - cP LB ll + 0) (n := 2 * (cP LB ll - cP LB ll) + 0) (Nat.zero_le _) (Nat.zero_le _) ?_
  have hl := lv_entry ([.ref ar, Iz (ia)]) (n := 2) (Nat.le_of_ble_eq_true rfl)
  rw [lg_entry_eq]
  generalize (lg_sl ([.ref ar, Iz (ia)]) ++ List.replicate (2 - (lg_sl ([.ref ar, Iz (ia)])).length) Slot.unset).toArray = ls at hl ⊢
  have hl : lv_has ls 2 [(0, .ref ar), (1, Iz (ia))] := hl
  refine lv_aload_n hx hb dX11_writeLeast_0 rfl (lv_at hl 0 rfl) ?_
  refine lv_iload_n hx hb dX11_writeLeast_1 rfl (lv_at hl 1 rfl) ?_
  refine e_calli (k2 := 0) (n2 := 0) (f := 0) (kl := 0) (As := [Iz (ia)]) (rest := []) E (e0i (k11_isNone (fn := fun _ => none) (nb := fun _ => 0) (ft := fun _ => none) (tb_ := fun _ => 0) hAr h_nu (fun i h => by omega) (by omega) (by omega) (by omega) (by omega))) (cwV 1 hts (cGood cl_X11_120 ci_X11_isNone cs_X11_isNone cn_RX11 cc_X11_isNone) rfl rfl rfl (by decide +kernel) ⟨Nat.le_of_ble_eq_true rfl, Nat.le_of_ble_eq_true rfl⟩) (x_recv (q := (RX11, TX11, 20)) hK hV (ci := 11) rfl (pW_x hAr)) hK hV hA hR ⟨by decide, by decide⟩ rfl hl.1 (Nat.le_of_ble_eq_true rfl) dX11_writeLeast_2 (fun z2 X2 dd2 nn2 ss2 ll2 gg2 H locs q2 hV hm2 => ?_)
  obtain ⟨e1_, e2_, e3_, e4_, e5_, e6_, q2⟩ := q2
  obtain rfl := e1_.symm
  obtain rfl := e2_.symm
  obtain rfl := e3_.symm
  obtain rfl := e4_.symm
  obtain rfl := e5_.symm
  obtain rfl := e6_.symm
  rw [if_pos (by omega)] at q2
  subst q2
  refine W.widen (k := cP LB ll - cP LB ll + 0) (n := 2 * (cP LB ll - cP LB ll) + 0) (Nat.le_refl _) (Nat.le_refl _) ?_
  refine g_if_eq (tgt := 13) hx hb (by first | assumption | exact ⟨by omega, by omega⟩) dX11_writeLeast_5 (by decide) (fun c_5 => ?_) (fun c_5 => ?_)
  · omega
  · skip
    refine lv_bipush (v := Int32.ofInt (-101)) hx hb dX11_writeLeast_8 (by decide) ?_
    refine lv_goto (tgt := 29) hx hb dX11_writeLeast_10 (by decide) ?_
    have hpost : ((-101) : Int) = (-101) := rfl
    exact e_iret hx hb hr hK hV ⟨by decide, by decide⟩ hpost dX11_writeLeast_29 hlocks
set_option maxHeartbeats 4000000 in
set_option maxRecDepth 100000 in
theorem k11_writePart {l : Launch} {dC : Nat → ClassId} {dI : Nat → Nat → Nat} {cx : Nat → Nat} {LB : List Nat} {LP : List Nat} {pc_ : Nat → Nat} {pd : Nat → Int} {co : Nat → Nat → Nat} {X : va_W} {dd : Nat → Nat} {nn ss : Nat → Int} {ll : Nat → Nat} {gg : Nat → Int → Int} {H0 : Heap} {ar nu tol pi_ ti_ fr stk no pa zo tx bu bv bw bs : Nat} {mo : Int} {s0 t0 : Nat} {ia : Int}  (hAr : (ar, (.inr (11, [Iz (mo), .ref nu, Iz (0), .ref tol, Iz (0), .ref pi_, .ref ti_, Iz (0), .ref fr, .ref stk, .ref t0, .ref no, .ref pa, .ref s0, .ref zo, .ref tx, .ref bu, .ref bv, .ref bw, .ref bs]) : va_E)) ∈ X) (h_nu : (nu, (.inl (cx 4, 100, .inr (.inr (.inr (.inr (fun _ => none))))) : va_E)) ∈ X) (h_tol : (tol, (.inl (cx 3, 30, .inr (.inr (.inr (.inr (fun _ => none))))) : va_E)) ∈ X) (ia0_ : -2147483648 ≤ ia) (ia1_ : ia ≤ 2147483647) : Met l yX11_writePart (Cond.code yX11_writePart cX11_writePart 2 (some .int) :: w0c) (eRm 0 0 LB ll 0 0) (cPc dC dI cx LB (pW cx LP pc_ pd co X) dd nn ss ll gg H0 [.ref ar, Iz (ia)]) (eQi dC dI cx LB (va_A (bW (cx 0) LB dd nn ss ll gg (pW cx LP pc_ pd co X)) H0.size) ll H0 0 0 (fun z X' dd' nn' ss' ll' gg' => z = (-102))) (cMc LB ll + 0) (2 * cMc LB ll + 0) (va_A (bW (cx 0) LB dd nn ss ll gg (pW cx LP pc_ pd co X)) H0.size) := by
  refine Met.ofW (cc := cX11_writePart) (maxL := 2) (ret := (some .int)) (by decide) rfl ?_
  intro p e s m args below meth c s₁ B hml hv
  obtain ⟨rfl, hH0, hP, hK, hD0, hC0⟩ := hv
  have hx := B.exec
  have hb := B.bytes
  have hr := B.returns
  have hts := atoms_spec (ws := Cond.code yX11_writePart cX11_writePart 2 (some .int) :: w0c) B.pre
  have hown : s.vm.findClass RX11 = some m.cls := findClass_of_methodNamed B.named
  have hlocks := B.notSynchronized
  have E : CallFix p m c cX11_writePart 2 s _ (Cond.code yX11_writePart cX11_writePart 2 (some .int) :: w0c) RX11 := ⟨hx, hb, hml, hown, hts⟩
  subst hH0
  have hD := va_D.self (sz := s.heap.size) hD0
  have hA : ∀ q : Nat, s.heap.size ≤ q → va_A (bW (cx 0) LB dd nn ss ll gg (pW cx LP pc_ pd co X)) s.heap.size q := fun q h => Or.inr h
  have hV : cV dC dI cx LB (va_A (bW (cx 0) LB dd nn ss ll gg (pW cx LP pc_ pd co X)) s.heap.size) s.heap ll (pW cx LP pc_ pd co X) dd nn ss ll gg s.heap [] := ⟨hP, hD, va_S.rf, fun _ _ => Nat.le_refl _, hC0⟩
  have hR : (headSpec (Cond.code yX11_writePart cX11_writePart 2 (some .int) :: w0c) (eRm 0 0 LB ll 0 0)).room.cells = cMc LB ll + 0 ∧ (headSpec (Cond.code yX11_writePart cX11_writePart 2 (some .int) :: w0c) (eRm 0 0 LB ll 0 0)).room.slots = 2 * cMc LB ll + 0 := ⟨rfl, rfl⟩
  refine W.widen (k := cP LB ll - cP LB ll + 0) (n := 2 * (cP LB ll - cP LB ll) + 0) (Nat.zero_le _) (Nat.zero_le _) ?_
  have hl := lv_entry ([.ref ar, Iz (ia)]) (n := 2) (Nat.le_of_ble_eq_true rfl)
  rw [lg_entry_eq]
  generalize (lg_sl ([.ref ar, Iz (ia)]) ++ List.replicate (2 - (lg_sl ([.ref ar, Iz (ia)])).length) Slot.unset).toArray = ls at hl ⊢
  have hl : lv_has ls 2 [(0, .ref ar), (1, Iz (ia))] := hl
  refine lv_iload_n hx hb dX11_writePart_0 rfl (lv_at hl 1 rfl) ?_
  refine g_if_lt (tgt := 21) hx hb (by first | assumption | exact ⟨by omega, by omega⟩) dX11_writePart_1 (by decide) (fun c_1 => ?_) (fun c_1 => ?_)
  · skip
    refine lv_bipush (v := Int32.ofInt (-102)) hx hb dX11_writePart_21 (by decide) ?_
    refine lv_goto (tgt := 39) hx hb dX11_writePart_23 (by decide) ?_
    have hpost : ((-102) : Int) = (-102) := rfl
    exact e_iret hx hb hr hK hV ⟨by decide, by decide⟩ hpost dX11_writePart_39 hlocks
  · skip
    refine lv_iload_n hx hb dX11_writePart_4 rfl (lv_at hl 1 rfl) ?_
    refine lv_aload_n hx hb dX11_writePart_5 rfl (lv_at hl 0 rfl) ?_
    refine x_get E hK hV (ci := 11) (C := RX11) (T := TX11) (N := 20) rfl w0c_in11 (pW_x hAr) 7 (by decide) rfl cf_11_291 rfl dX11_writePart_6 ?_
    refine g_icmp_ge (tgt := 21) hx hb (by first | assumption | exact ⟨by omega, by omega⟩) (by first | assumption | exact ⟨by omega, by omega⟩) dX11_writePart_9 (by decide) (fun c_9 => ?_) (fun c_9 => ?_)
    · skip
      refine lv_bipush (v := Int32.ofInt (-102)) hx hb dX11_writePart_21 (by decide) ?_
      refine lv_goto (tgt := 39) hx hb dX11_writePart_23 (by decide) ?_
      have hpost : ((-102) : Int) = (-102) := rfl
      exact e_iret hx hb hr hK hV ⟨by decide, by decide⟩ hpost dX11_writePart_39 hlocks
    · omega
