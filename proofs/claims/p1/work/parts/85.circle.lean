/-- up / low of a turn, or its sine's, in lowest terms -/
def dnN (up low sn : Int) : Int := if sn = 0 then up % low else (low - 4 * (up % low)) % (4 * low)
def dnD (low sn : Int) : Int := if sn = 0 then low else 4 * low
def dnm (up low sn : Int) : Int := dnD low sn / ((gd (dnN up low sn) (dnD low sn) : Nat) : Int)
def nmr (up low sn : Int) : Int := dnN up low sn / ((gd (dnN up low sn) (dnD low sn) : Nat) : Int)
def hfO (d : Int) : Int := if d < 3 then 1 else unN d (d - 1).toNat / 2
/-- what the table of the cosines' polynomials shows -/
def tabF : Prop := ∀ d : Int, 3 ≤ d → d ≤ 480 → 1 ≤ hfO d ∧ (hfO d ≤ 10 → (∀ k : Nat, (k : Int) ≤ hfO d → ((cosF d (hfO d).toNat k).natAbs : Int) < 2 ^ 60) ∧ cosF d (hfO d).toNat (hfO d).toNat ≠ 0)
theorem gd_q {x y g : Int} (hx : 0 ≤ x) (hy : x < y) (hg : g = ((gd x y : Nat) : Int)) : 1 ≤ g ∧ g ≤ y ∧ 0 ≤ x / g ∧ x / g < y / g ∧ 1 ≤ y / g ∧ y / g ≤ y ∧ (x / g = 0 → y / g = 1) := by
  have hp : 0 < gd x y := Nat.gcd_pos_of_pos_right _ (by omega)
  have hle : gd x y ≤ y.toNat := Nat.gcd_le_right _ (by omega)
  obtain ⟨a, ha⟩ : gd x y ∣ x.toNat := Nat.gcd_dvd_left _ _
  obtain ⟨b, hb⟩ : gd x y ∣ y.toNat := Nat.gcd_dvd_right _ _
  have ex : x = g * (a : Int) := by rw [hg]; have := congrArg (fun n : Nat => (n : Int)) ha; push_cast at this; omega
  have ey : y = g * (b : Int) := by rw [hg]; have := congrArg (fun n : Nat => (n : Int)) hb; push_cast at this; omega
  have g1 : 1 ≤ g := by omega
  have qx : x / g = a := by rw [ex]; exact Int.mul_ediv_cancel_left _ (by omega)
  have qy : y / g = b := by rw [ey]; exact Int.mul_ediv_cancel_left _ (by omega)
  have hab : (a : Int) < b := by
    rcases Int.lt_or_le (a : Int) b with h | h
    · exact h
    · have := Int.mul_le_mul_of_nonneg_left h (show 0 ≤ g by omega)
      omega
  refine ⟨g1, by omega, by rw [qx]; omega, by rw [qx, qy]; exact hab, by rw [qy]; omega, Int.ediv_le_self _ (by omega), fun h => ?_⟩
  have a0 : (a : Int) = 0 := by rw [← qx]; exact h
  have x0 : x = 0 := by rw [ex, a0, Int.mul_zero]
  have e : gd x y = y.toNat := by unfold gd; rw [x0]; exact Nat.gcd_zero_left _
  rw [hg, e, show ((y.toNat : Nat) : Int) = y by omega]
  exact Int.ediv_self (by omega)
set_option maxHeartbeats 4000000 in
set_option maxRecDepth 100000 in
theorem k11_circle {l : Launch} {dC : Nat → ClassId} {dI : Nat → Nat → Nat} {cx : Nat → Nat} {LB : List Nat} {LP : List Nat} {pc_ : Nat → Nat} {pd : Nat → Int} {co : Nat → Nat → Nat} {X : va_W} {dd : Nat → Nat} {nn ss : Nat → Int} {ll : Nat → Nat} {gg : Nat → Int → Int} {H0 : Heap} {v : Nat → Int} {up low sn : Int} {s0 : Nat} {ar nu tol pi_ ti_ fr stk pa zo tx bu bv bw bs le rl rh : Nat} {mo re rp_ rc rs : Int} {t0 ta tb tq tt tu tw tm : Nat} {tf : Int}{no ra rp rq : Nat} {xs : Nat → Value} {f0 f1 f2 : Int → Int}  (hAr : (ar, (.inr (11, [Iz (mo), .ref nu, Iz (0), .ref tol, Iz (0), .ref pi_, .ref ti_, Iz (0), .ref fr, .ref stk, .ref t0, .ref no, .ref pa, .ref s0, .ref zo, .ref tx, .ref bu, .ref bv, .ref bw, .ref bs]) : va_E)) ∈ X) (h_fr : (fr, (.inr (5, [.ref le, .ref rl, .ref rh, Iz re, Iz rp_, Iz rc, Iz rs]) : va_E)) ∈ X) (mle : le ∈ LP) (hO : pOK LB LP co) (hN : cR LB nn ss ll gg v) (hTo : (t0, (.inr (9, [.ref ta, .ref tb, .ref tq, .ref tt, .ref tu, .ref tw, .ref tm, Iz tf]) : va_E)) ∈ X) (hS : tOK LB LP co ta tb tq tt tu) (hNo : (no, (.inr (2, [(xs 0), (xs 1), (xs 2), (xs 3), (xs 4), .ref t0, (xs 6), (xs 7), (xs 8), (xs 9), (xs 10), .ref rp, .ref rq, .ref ra, (xs 14), (xs 15), (xs 16), (xs 17), (xs 18)]) : va_E)) ∈ X) (h_ra : (ra, (.inl (cx 1, 14, .inr (.inl (jm f0))) : va_E)) ∈ X) (h_rp : (rp, (.inl (cx 1, 14, .inr (.inl (jm f1))) : va_E)) ∈ X) (h_rq : (rq, (.inl (cx 1, 14, .inr (.inl (jm f2))) : va_E)) ∈ X) (nap : ra ≠ rp) (naq_ : ra ≠ rq) (npq : rp ≠ rq) (u0 : -9223372036854775808 ≤ up) (u1 : up ≤ 9223372036854775807) (l0 : 1 ≤ low) (l1 : low ≤ 120) (s0_ : -2147483648 ≤ sn) (s1_ : sn ≤ 2147483647) (m10 : mo ≤ 10) (m1 : 1 ≤ mo) (hT : tabF) : Met l yX11_circle (Cond.code yX11_circle cX11_circle 10 (some .int) :: w0c) (eRm 6 187 LB ll 1 14) (cPc dC dI cx LB (pW cx LP pc_ pd co X) dd nn ss ll gg H0 [.ref ar, Jz (up), Iz (low), Iz (sn)]) (eQi dC dI cx LB (va_A (bW (cx 0) LB dd nn ss ll gg (pW cx LP pc_ pd co X)) H0.size) ll H0 1 14 (fun z X' dd' nn' ss' ll' gg' => ∃ (v' pd' : Nat → Int) (X2' : va_W) (a1 a2 a3 a4 : Int), X' = pW cx LP pc_ pd' co X2' ∧ cR LB nn' ss' ll' gg' v' ∧ (fr, (.inr (5, [.ref le, .ref rl, .ref rh, Iz a1, Iz a2, Iz a3, Iz a4]) : va_E)) ∈ X2' ∧ (∀ q ∈ X, q.1 ≠ fr → q.1 ≠ ra → q.1 ≠ rp → q.1 ≠ rq → q ∈ X2') ∧ z = (if mo < hfO (dnm up low sn) then -105 else if hfO (dnm up low sn) = 1 then 0 else 3) ∧ (z = 3 → pd' le = hfO (dnm up low sn) ∧ (∀ k : Nat, (k : Int) ≤ hfO (dnm up low sn) → v' (co le k) = cosC (dnm up low sn) (hfO (dnm up low sn)).toNat k) ∧ a2 = hfO (dnm up low sn) - unN (dnm up low sn) (if dnm up low sn - nmr up low sn < nmr up low sn then dnm up low sn - nmr up low sn else nmr up low sn).toNat))) (cMc LB ll + 1) (2 * cMc LB ll + 14) (va_A (bW (cx 0) LB dd nn ss ll gg (pW cx LP pc_ pd co X)) H0.size) := by
  refine Met.ofW (cc := cX11_circle) (maxL := 10) (ret := (some .int)) (by decide) rfl ?_
  intro p e s m args below meth c s₁ B hml hv
  obtain ⟨rfl, hH0, hP, hK, hD0, hC0⟩ := hv
  have hx := B.exec
  have hb := B.bytes
  have hr := B.returns
  have hts := atoms_spec (ws := Cond.code yX11_circle cX11_circle 10 (some .int) :: w0c) B.pre
  have hown : s.vm.findClass RX11 = some m.cls := findClass_of_methodNamed B.named
  have hlocks := B.notSynchronized
  have E : CallFix p m c cX11_circle 10 s _ (Cond.code yX11_circle cX11_circle 10 (some .int) :: w0c) RX11 := ⟨hx, hb, hml, hown, hts⟩
  subst hH0
  have hD := va_D.self (sz := s.heap.size) hD0
  have hA : ∀ q : Nat, s.heap.size ≤ q → va_A (bW (cx 0) LB dd nn ss ll gg (pW cx LP pc_ pd co X)) s.heap.size q := fun q h => Or.inr h
  have hV : cV dC dI cx LB (va_A (bW (cx 0) LB dd nn ss ll gg (pW cx LP pc_ pd co X)) s.heap.size) s.heap ll (pW cx LP pc_ pd co X) dd nn ss ll gg s.heap [] := ⟨hP, hD, va_S.rf, fun _ _ => Nat.le_refl _, hC0⟩
  have hR : (headSpec (Cond.code yX11_circle cX11_circle 10 (some .int) :: w0c) (eRm 6 187 LB ll 1 14)).room.cells = cMc LB ll + 1 ∧ (headSpec (Cond.code yX11_circle cX11_circle 10 (some .int) :: w0c) (eRm 6 187 LB ll 1 14)).room.slots = 2 * cMc LB ll + 14 := ⟨rfl, rfl⟩
  refine W.widen (k := cP LB ll - cP LB ll + 0) (n := 2 * (cP LB ll - cP LB ll) + 0) (Nat.zero_le _) (Nat.zero_le _) ?_
  have hl := lv_entry ([.ref ar, Jz (up), Iz (low), Iz (sn)]) (n := 10) (Nat.le_of_ble_eq_true rfl)
  rw [lg_entry_eq]
  generalize (lg_sl ([.ref ar, Jz (up), Iz (low), Iz (sn)]) ++ List.replicate (10 - (lg_sl ([.ref ar, Jz (up), Iz (low), Iz (sn)])).length) Slot.unset).toArray = ls at hl ⊢
  have hl : lv_has ls 10 [(0, .ref ar), (1, Jz (up)), (3, Iz (low)), (4, Iz (sn))] := hl
  obtain ⟨⟨mta, mtb, mtq, mtt, mtu⟩, ⟨nab, naq, nat_, nau⟩, ⟨nbq, nbt, nbu⟩, ⟨nqt, nqu⟩, ntu, scA⟩ := id hS
  have sca : ∀ p ∈ LP, ∀ i : Nat, i < 13 → co p i ≠ ta := fun p h i w => (scA p h i w).1
  have sct : ∀ p ∈ LP, ∀ i : Nat, i < 13 → co p i ≠ tt := fun p h i w => (scA p h i w).2.2.2.1
  have scu : ∀ p ∈ LP, ∀ i : Nat, i < 13 → co p i ≠ tu := fun p h i w => (scA p h i w).2.2.2.2
  have t0_ := Int.emod_nonneg up (show low ≠ 0 by omega)
  have t1_ := Int.emod_lt_of_pos up (show 0 < low by omega)
  have kpX : ∀ q ∈ X, q.1 ≠ fr → q.1 ≠ ra → q.1 ≠ rp → q.1 ≠ rq → q ∈ X := fun _ h _ _ _ _ => h
  have n_ar_fr : ar ≠ fr := y_ne hV hAr h_fr (fun q => by injection q with q; injection q with q1 q2; exact absurd q1 (by decide))
  have n_ar_ra : ar ≠ ra := y_ne hV hAr h_ra (fun q => nomatch q)
  have n_ar_rp : ar ≠ rp := y_ne hV hAr h_rp (fun q => nomatch q)
  have n_ar_rq : ar ≠ rq := y_ne hV hAr h_rq (fun q => nomatch q)
  have n_t0_fr : t0 ≠ fr := y_ne hV hTo h_fr (fun q => by injection q with q; injection q with q1 q2; exact absurd q1 (by decide))
  have n_t0_ra : t0 ≠ ra := y_ne hV hTo h_ra (fun q => nomatch q)
  have n_t0_rp : t0 ≠ rp := y_ne hV hTo h_rp (fun q => nomatch q)
  have n_t0_rq : t0 ≠ rq := y_ne hV hTo h_rq (fun q => nomatch q)
  have n_no_fr : no ≠ fr := y_ne hV hNo h_fr (fun q => by injection q with q; injection q with q1 q2; exact absurd q1 (by decide))
  have n_no_ra : no ≠ ra := y_ne hV hNo h_ra (fun q => nomatch q)
  have n_no_rp : no ≠ rp := y_ne hV hNo h_rp (fun q => nomatch q)
  have n_no_rq : no ≠ rq := y_ne hV hNo h_rq (fun q => nomatch q)
  have n_fr_ra : fr ≠ ra := y_ne hV h_fr h_ra (fun q => nomatch q)
  have n_fr_rp : fr ≠ rp := y_ne hV h_fr h_rp (fun q => nomatch q)
  have n_fr_rq : fr ≠ rq := y_ne hV h_fr h_rq (fun q => nomatch q)
  refine lv_lload_n hx hb dX11_circle_0 rfl (lv_at hl 1 rfl) ?_
  refine lv_iload_n hx hb dX11_circle_1 rfl (lv_at hl 2 rfl) ?_
  refine g_i2l hx hb (by first | assumption | exact ⟨by omega, by omega⟩) dX11_circle_2 ?_
  refine e_callsl (k2 := 0) (n2 := 0) (f := 0) (kl := 0) (As := [Jz (up), Jz (low)]) (rest := []) E (e0l (kJ9_floorMod_f86c9 (by omega) (by omega) (by omega) (by omega))) (c_cwS 2 hts cl_X11_401 ct_J9_floorMod_f86c9 cn_RJ9 cc_J9_floorMod_f86c9 rfl rfl (by decide +kernel) ⟨Nat.le_of_ble_eq_true rfl, Nat.le_of_ble_eq_true rfl⟩) hK hV hA hR ⟨by decide, by decide⟩ rfl hl.1 (Nat.le_of_ble_eq_true rfl) dX11_circle_3 (fun z3 X3 dd3 nn3 ss3 ll3 gg3 H locs q3 hV hm3 => ?_)
  obtain ⟨e1_, e2_, e3_, e4_, e5_, e6_, q3⟩ := q3
  obtain rfl := e1_.symm
  obtain rfl := e2_.symm
  obtain rfl := e3_.symm
  obtain rfl := e4_.symm
  obtain rfl := e5_.symm
  obtain rfl := e6_.symm
  refine W.widen (k := cP LB ll - cP LB ll + 0) (n := 2 * (cP LB ll - cP LB ll) + 0) (Nat.le_refl _) (Nat.le_refl _) ?_
  refine g_l2i hx hb dX11_circle_6 ?_
  refine lv_istore (lv' := [(5, Iz (z3)), (0, .ref ar), (1, Jz (up)), (3, Iz (low)), (4, Iz (sn))]) hx hb dX11_circle_7 hl (by decide) rfl (fun ls hl => ?_)
  refine r_cutZ (P := fun nv ce sl H locs => ce = cP LB ll - cP LB ll + 0 ∧ sl = 2 * (cP LB ll - cP LB ll) + 0 ∧ (nv = dnN up low sn) ∧ (0 ≤ nv) ∧ (nv < dnD low sn) ∧ cV dC dI cx LB (va_A (bW (cx 0) LB dd nn ss ll gg (pW cx LP pc_ pd co X)) s.heap.size) s.heap ll (pW cx LP pc_ pd co X) dd nn ss ll gg H locs) (g := fun nv => F0 m 31 ls [Iz nv]) (fun nv ce sl H locs hI => ?_) (fun k_31 => ?_)
  · skip
    obtain ⟨rfl, rfl, hnv, n0_, n1_, hV⟩ := hI
    refine lv_istore (lv' := [(6, Iz (nv)), (5, Iz (z3)), (0, .ref ar), (1, Jz (up)), (3, Iz (low)), (4, Iz (sn))]) hx hb dX11_circle_31 hl (by decide) rfl (fun ls hl => ?_)
    refine r_join (P := fun z : Int => z = dnD low sn) (g := fun z => F0 m 45 ls [Iz z]) (fun dv hdv => ?_) (fun k_45 => ?_)
    · skip
      have d0_ : 1 ≤ dv := by rw [hdv]; unfold dnD; split <;> omega
      have d1_ : dv ≤ 480 := by rw [hdv]; unfold dnD; split <;> omega
      refine lv_istore (lv' := [(7, Iz (dv)), (6, Iz (nv)), (5, Iz (z3)), (0, .ref ar), (1, Jz (up)), (3, Iz (low)), (4, Iz (sn))]) hx hb dX11_circle_45 hl (by decide) rfl (fun ls hl => ?_)
      refine lv_iload hx hb dX11_circle_47 (lv_at hl 1 rfl) ?_
      refine lv_iload hx hb dX11_circle_49 (lv_at hl 0 rfl) ?_
      refine e_callsi (k2 := 0) (n2 := 0) (f := 1) (kl := 23) (As := [Iz (nv), Iz (dv)]) (rest := []) E (e0i (k6_shared (by omega) (by omega) (by omega) (by omega))) (c_cwS 2 hts cl_X11_407 ct_X6_shared cn_RX6 cc_X6_shared rfl rfl (by decide +kernel) ⟨Nat.le_of_ble_eq_true rfl, Nat.le_of_ble_eq_true rfl⟩) hK hV hA hR ⟨by decide, by decide⟩ rfl hl.1 (Nat.le_of_ble_eq_true rfl) dX11_circle_51 (fun z51 X51 dd51 nn51 ss51 ll51 gg51 H locs q51 hV hm51 => ?_)
      obtain ⟨e1_, e2_, e3_, e4_, e5_, e6_, q51⟩ := q51
      obtain rfl := e1_.symm
      obtain rfl := e2_.symm
      obtain rfl := e3_.symm
      obtain rfl := e4_.symm
      obtain rfl := e5_.symm
      obtain rfl := e6_.symm
      refine W.widen (k := cP LB ll - cP LB ll + 0) (n := 2 * (cP LB ll - cP LB ll) + 0) (Nat.le_refl _) (Nat.le_refl _) ?_
      obtain ⟨g1_, g2_, nq0, nqd, dq0, dq1, nqz⟩ := gd_q n0_ (show nv < dv by omega) q51
      refine lv_istore (lv' := [(8, Iz (z51)), (7, Iz (dv)), (6, Iz (nv)), (5, Iz (z3)), (0, .ref ar), (1, Jz (up)), (3, Iz (low)), (4, Iz (sn))]) hx hb dX11_circle_54 hl (by decide) rfl (fun ls hl => ?_)
      refine lv_iload hx hb dX11_circle_56 (lv_at hl 2 rfl) ?_
      refine lv_iconst (v := Int32.ofInt (1)) hx hb dX11_circle_58 (by decide) ?_
      refine lv_iload hx hb dX11_circle_59 (lv_at hl 0 rfl) ?_
      refine g_max E hl.1 cl_X11_102 (Nat.le_of_ble_eq_true rfl) (Nat.le_of_ble_eq_true rfl) (e_room (k1 := 0) (n1 := 0) hV hR ⟨by decide, by decide⟩).1 (e_room (k1 := 0) (n1 := 0) hV hR ⟨by decide, by decide⟩).2 (by first | assumption | exact ⟨by omega, by omega⟩) (by first | assumption | exact ⟨by omega, by omega⟩) dX11_circle_61 ?_
      obtain ⟨g1, eg1⟩ : ∃ g1 : Int, g1 = (if 1 < z51 then z51 else 1) := ⟨_, rfl⟩
      rw [← eg1]
      have g1e : g1 = z51 := by rw [eg1]; split <;> omega
      refine g_idiv hx hb (by omega) (by omega) (by omega) (by omega) dX11_circle_64 ?_
      rw [g1e]
      obtain ⟨nq, enq⟩ : ∃ y : Int, y = nv / z51 := ⟨_, rfl⟩
      rw [← enq]
      rw [← enq] at nq0 nqd nqz
      refine lv_istore (lv' := [(6, Iz (nq)), (8, Iz (z51)), (7, Iz (dv)), (5, Iz (z3)), (0, .ref ar), (1, Jz (up)), (3, Iz (low)), (4, Iz (sn))]) hx hb dX11_circle_65 hl (by decide) rfl (fun ls hl => ?_)
      refine lv_iload hx hb dX11_circle_67 (lv_at hl 2 rfl) ?_
      refine lv_iconst (v := Int32.ofInt (1)) hx hb dX11_circle_69 (by decide) ?_
      refine lv_iload hx hb dX11_circle_70 (lv_at hl 1 rfl) ?_
      refine g_max E hl.1 cl_X11_102 (Nat.le_of_ble_eq_true rfl) (Nat.le_of_ble_eq_true rfl) (e_room (k1 := 0) (n1 := 0) hV hR ⟨by decide, by decide⟩).1 (e_room (k1 := 0) (n1 := 0) hV hR ⟨by decide, by decide⟩).2 (by first | assumption | exact ⟨by omega, by omega⟩) (by first | assumption | exact ⟨by omega, by omega⟩) dX11_circle_72 ?_
      obtain ⟨g2, eg2⟩ : ∃ g2 : Int, g2 = (if 1 < z51 then z51 else 1) := ⟨_, rfl⟩
      rw [← eg2]
      have g2e : g2 = z51 := by rw [eg2]; split <;> omega
      refine g_idiv hx hb (by omega) (by omega) (by omega) (by omega) dX11_circle_75 ?_
      rw [g2e]
      obtain ⟨dq, edq⟩ : ∃ y : Int, y = dv / z51 := ⟨_, rfl⟩
      rw [← edq]
      rw [← edq] at dq0 dq1 nqd nqz
      have eD : dq = dnm up low sn := by unfold dnm; rw [edq, q51, hnv, hdv]
      have eN : nq = nmr up low sn := by unfold nmr; rw [enq, q51, hnv, hdv]
      refine lv_istore (lv' := [(7, Iz (dq)), (6, Iz (nq)), (8, Iz (z51)), (5, Iz (z3)), (0, .ref ar), (1, Jz (up)), (3, Iz (low)), (4, Iz (sn))]) hx hb dX11_circle_76 hl (by decide) rfl (fun ls hl => ?_)
      refine r_cutZ (P := fun hv ce sl H locs => ce = cP LB ll - cP LB ll + 0 ∧ sl = 2 * (cP LB ll - cP LB ll) + 0 ∧ (hv = hfO dq) ∧ (0 ≤ hv) ∧ (hv ≤ 480) ∧ cV dC dI cx LB (va_A (bW (cx 0) LB dd nn ss ll gg (pW cx LP pc_ pd co X)) s.heap.size) s.heap ll (pW cx LP pc_ pd co X) dd nn ss ll gg H locs) (g := fun hv => F0 m 97 ls [Iz hv]) (fun hv ce sl H locs hI => ?_) (fun k_97 => ?_)
      · skip
        obtain ⟨rfl, rfl, hhv, hv0, hv1, hV⟩ := hI
        refine lv_istore (lv' := [(9, Iz (hv)), (7, Iz (dq)), (6, Iz (nq)), (8, Iz (z51)), (5, Iz (z3)), (0, .ref ar), (1, Jz (up)), (3, Iz (low)), (4, Iz (sn))]) hx hb dX11_circle_97 hl (by decide) rfl (fun ls hl => ?_)
        refine lv_iload hx hb dX11_circle_99 (lv_at hl 0 rfl) ?_
        refine lv_aload_n hx hb dX11_circle_101 rfl (lv_at hl 5 rfl) ?_
        refine x_get E hK hV (ci := 11) (C := RX11) (T := TX11) (N := 20) rfl w0c_in11 (pW_x (kpX _ hAr n_ar_fr n_ar_ra n_ar_rp n_ar_rq)) 0 (by decide) rfl cf_11_105 rfl dX11_circle_102 ?_
        refine g_icmp_le (tgt := 111) hx hb (by first | assumption | exact ⟨by omega, by omega⟩) (by first | assumption | exact ⟨by omega, by omega⟩) dX11_circle_105 (by decide) (fun c_105 => ?_) (fun c_105 => ?_)
        · skip
          refine lv_aload_n hx hb dX11_circle_111 rfl (lv_at hl 5 rfl) ?_
          refine x_get E hK hV (ci := 11) (C := RX11) (T := TX11) (N := 20) rfl w0c_in11 (pW_x (kpX _ hAr n_ar_fr n_ar_ra n_ar_rp n_ar_rq)) 11 (by decide) rfl cf_11_48 rfl dX11_circle_112 ?_
          refine lv_iload hx hb dX11_circle_115 (lv_at hl 1 rfl) ?_
          refine lv_iload hx hb dX11_circle_117 (lv_at hl 0 rfl) ?_
          refine lv_aload_n hx hb dX11_circle_119 rfl (lv_at hl 5 rfl) ?_
          refine x_get E hK hV (ci := 11) (C := RX11) (T := TX11) (N := 20) rfl w0c_in11 (pW_x (kpX _ hAr n_ar_fr n_ar_ra n_ar_rp n_ar_rq)) 8 (by decide) rfl cf_11_29 rfl dX11_circle_120 ?_
          refine x_get E hK hV (ci := 5) (C := RX5) (T := TX5) (N := 7) rfl w0c_in5 (pW_x h_fr) 0 (by decide) rfl cf_11_168 rfl dX11_circle_123 ?_
          have hT3 : 3 ≤ dq → 1 ≤ hv ∧ ((∀ k : Nat, (k : Int) ≤ hv → ((cosF dq hv.toNat k).natAbs : Int) < 2 ^ 60) ∧ cosF dq hv.toNat hv.toNat ≠ 0) := fun h => by
            have t := hT dq h (by omega)
            rw [← hhv] at t
            exact ⟨t.1, t.2 (by omega)⟩
          have hT1 : dq < 3 → hv = 1 := fun h => by rw [hhv]; unfold hfO; rw [if_pos h]
          have hT0 : 1 ≤ hv := by
            by_cases w : dq < 3
            · rw [hT1 w]; decide
            · exact (hT3 (by omega)).1
          refine e_callv (k2 := 1) (n2 := 14) (f := 5) (kl := 158) (As := [Iz (dq), Iz (hv), .ref le]) (rest := []) E (k2_cosines (v := v) (fo := le) (da := dq) (ha := hv) (xs := xs) mle hO hN (kpX _ hTo n_t0_fr n_t0_ra n_t0_rp n_t0_rq) hS (kpX _ hNo n_no_fr n_no_ra n_no_rp n_no_rq) h_ra h_rp h_rq nap naq_ npq (by omega) (by omega) hT0 (by omega) hT1 (fun h => (hT3 h).2)) (cwV 3 hts (cGood cl_X11_415 ci_X2_cosines cs_X2_cosines cn_RX2 cc_X2_cosines) rfl rfl rfl (by decide +kernel) ⟨Nat.le_of_ble_eq_true rfl, Nat.le_of_ble_eq_true rfl⟩) (x_recv (q := (RX2, TX2, 19)) hK hV (ci := 2) rfl (pW_x (kpX _ hNo n_no_fr n_no_ra n_no_rp n_no_rq))) hK hV hA hR ⟨by decide, by decide⟩ rfl hl.1 (Nat.le_of_ble_eq_true rfl) dX11_circle_126 (fun X126 dd126 nn126 ss126 ll126 gg126 H locs q126 hV hm126 => ?_)
          obtain ⟨v126, X2126, e1_, hN, kp126, vc126, vo126⟩ := q126
          obtain rfl := e1_.symm
          have h_fr := kp126 _ h_fr n_fr_ra n_fr_rp n_fr_rq
          have kpX : ∀ q ∈ X, q.1 ≠ fr → q.1 ≠ ra → q.1 ≠ rp → q.1 ≠ rq → q ∈ X2126 := fun q h nk_fr nk_ra nk_rp nk_rq => kp126 q (kpX q h nk_fr nk_ra nk_rp nk_rq) nk_ra nk_rp nk_rq
          refine W.widen (k := cP LB ll126 - cP LB ll + 1) (n := 2 * (cP LB ll126 - cP LB ll) + 14) (Nat.le_refl _) (Nat.le_refl _) ?_
          refine lv_iload hx hb dX11_circle_129 (lv_at hl 0 rfl) ?_
          refine lv_iconst (v := Int32.ofInt (1)) hx hb dX11_circle_131 (by decide) ?_
          refine g_icmp_ne (tgt := 144) hx hb (by first | assumption | exact ⟨by omega, by omega⟩) (by first | assumption | exact ⟨by omega, by omega⟩) dX11_circle_132 (by decide) (fun c_132 => ?_) (fun c_132 => ?_)
          · skip
            refine lv_aload_n hx hb dX11_circle_144 rfl (lv_at hl 5 rfl) ?_
            refine x_get E hK hV (ci := 11) (C := RX11) (T := TX11) (N := 20) rfl w0c_in11 (pW_x (kpX _ hAr n_ar_fr n_ar_ra n_ar_rp n_ar_rq)) 8 (by decide) rfl cf_11_29 rfl dX11_circle_145 ?_
            refine lv_iload hx hb dX11_circle_148 (lv_at hl 0 rfl) ?_
            refine lv_iload hx hb dX11_circle_150 (lv_at hl 1 rfl) ?_
            refine lv_iload hx hb dX11_circle_152 (lv_at hl 2 rfl) ?_
            refine lv_iload hx hb dX11_circle_154 (lv_at hl 1 rfl) ?_
            refine lv_iload hx hb dX11_circle_156 (lv_at hl 2 rfl) ?_
            refine g_isub hx hb dX11_circle_158 ?_
            refine g_min E hl.1 cl_X11_96 (Nat.le_of_ble_eq_true rfl) (Nat.le_of_ble_eq_true rfl) (e_room (k1 := 1) (n1 := 14) hV hR ⟨by decide, by decide⟩).1 (e_room (k1 := 1) (n1 := 14) hV hR ⟨by decide, by decide⟩).2 (by first | assumption | exact ⟨by omega, by omega⟩) (by first | assumption | exact ⟨by omega, by omega⟩) dX11_circle_159 ?_
            obtain ⟨mn, emn⟩ : ∃ mn : Int, mn = (if dq - nq < nq then dq - nq else nq) := ⟨_, rfl⟩
            rw [← emn]
            have mn0 : 0 ≤ mn := by rw [emn]; split <;> omega
            have mn1 : mn ≤ dq := by rw [emn]; split <;> omega
            refine lv_iconst (v := Int32.ofInt (1)) hx hb dX11_circle_162 (by decide) ?_
            refine g_iadd hx hb dX11_circle_163 ?_
            refine e_callsi (k2 := 0) (n2 := 0) (f := 2) (kl := 46) (As := [Iz (dq), Iz (mn + 1)]) (rest := [Iz (hv), .ref fr]) E (e0i (k6_units (by omega) (by omega) (by omega) (by omega))) (c_cwS 2 hts cl_X11_412 ct_X6_units cn_RX6 cc_X6_units rfl rfl (by decide +kernel) ⟨Nat.le_of_ble_eq_true rfl, Nat.le_of_ble_eq_true rfl⟩) hK hV hA hR ⟨by decide, by decide⟩ rfl hl.1 (Nat.le_of_ble_eq_true rfl) dX11_circle_164 (fun z164 X164 dd164 nn164 ss164 ll164 gg164 H locs q164 hV hm164 => ?_)
            obtain ⟨e1_, e2_, e3_, e4_, e5_, e6_, q164⟩ := q164
            obtain rfl := e1_.symm
            obtain rfl := e2_.symm
            obtain rfl := e3_.symm
            obtain rfl := e4_.symm
            obtain rfl := e5_.symm
            obtain rfl := e6_.symm
            refine W.widen (k := cP LB ll126 - cP LB ll + 1) (n := 2 * (cP LB ll126 - cP LB ll) + 14) (Nat.le_refl _) (Nat.le_refl _) ?_
            have ub2_ := unN_bd dq (mn + 1 - 1).toNat
            rw [← q164] at ub2_
            refine g_isub hx hb dX11_circle_167 ?_
            refine y_putV3 E hK hV (ci := 5) (C := RX5) (T := TX5) (N := 7) (ty := tyX5) rfl w0c_in5 tyX5_ok nmX5 h_fr 4 (by decide) (v := Iz (hv - z164)) (Nat.le_of_ble_eq_true rfl) rfl cf_11_161 rfl rfl rfl dX11_circle_168 (fun H locs X2_168 h__ kp_ hV => ?_)
            have kpX : ∀ q ∈ X, q.1 ≠ fr → q.1 ≠ ra → q.1 ≠ rp → q.1 ≠ rq → q ∈ X2_168 := fun q h nk_fr nk_ra nk_rp nk_rq => kp_ q (kpX q h nk_fr nk_ra nk_rp nk_rq) nk_fr
            have h_fr : (fr, (.inr (5, [.ref le, .ref rl, .ref rh, Iz (re), Iz (hv - z164), Iz (rc), Iz (rs)]) : va_E)) ∈ X2_168 := h__
            refine lv_iconst (v := Int32.ofInt (3)) hx hb dX11_circle_171 (by decide) ?_
            have hpost : ∃ (v' pd' : Nat → Int) (X2' : va_W) (a1 a2 a3 a4 : Int), (pW cx LP pc_ (va_up pd le hv) co X2_168) = pW cx LP pc_ pd' co X2' ∧ cR LB nn126 ss126 ll126 gg126 v' ∧ (fr, (.inr (5, [.ref le, .ref rl, .ref rh, Iz a1, Iz a2, Iz a3, Iz a4]) : va_E)) ∈ X2' ∧ (∀ q ∈ X, q.1 ≠ fr → q.1 ≠ ra → q.1 ≠ rp → q.1 ≠ rq → q ∈ X2') ∧ (3 : Int) = (if mo < hfO (dnm up low sn) then -105 else if hfO (dnm up low sn) = 1 then 0 else 3) ∧ ((3 : Int) = 3 → pd' le = hfO (dnm up low sn) ∧ (∀ k : Nat, (k : Int) ≤ hfO (dnm up low sn) → v' (co le k) = cosC (dnm up low sn) (hfO (dnm up low sn)).toNat k) ∧ a2 = hfO (dnm up low sn) - unN (dnm up low sn) (if dnm up low sn - nmr up low sn < nmr up low sn then dnm up low sn - nmr up low sn else nmr up low sn).toNat) := ⟨_, _, _, _, _, _, _, rfl, hN, h_fr, kpX, by rw [← eD, ← hhv, if_neg (by omega), if_neg (by omega)], fun _ => ⟨by rw [va_up_self, ← eD, ← hhv], fun k hk => by rw [← eD, ← hhv] at hk ⊢; exact vc126 (by omega) k hk, by rw [← eD, ← eN, ← hhv, q164, emn, show ∀ x : Int, x + 1 - 1 = x from fun x => by omega]⟩⟩
            exact e_iret hx hb hr hK hV ⟨by decide, by decide⟩ hpost dX11_circle_172 hlocks
          · skip
            refine lv_aload_n hx hb dX11_circle_135 rfl (lv_at hl 5 rfl) ?_
            refine x_get E hK hV (ci := 11) (C := RX11) (T := TX11) (N := 20) rfl w0c_in11 (pW_x (kpX _ hAr n_ar_fr n_ar_ra n_ar_rp n_ar_rq)) 8 (by decide) rfl cf_11_29 rfl dX11_circle_136 ?_
            refine e_callv (k2 := 0) (n2 := 0) (f := 0) (kl := 0) (As := []) (rest := []) E (e0v (k5_single (v := v126) hO hN h_fr mle)) (cwV 0 hts (cGood cl_X11_368 ci_X5_single cs_X5_single cn_RX5 cc_X5_single) rfl rfl rfl (by decide +kernel) ⟨Nat.le_of_ble_eq_true rfl, Nat.le_of_ble_eq_true rfl⟩) (x_recv (q := (RX5, TX5, 7)) hK hV (ci := 5) rfl (pW_x h_fr)) hK hV hA hR ⟨by decide, by decide⟩ rfl hl.1 (Nat.le_of_ble_eq_true rfl) dX11_circle_139 (fun X139 dd139 nn139 ss139 ll139 gg139 H locs q139 hV hm139 => ?_)
            obtain ⟨e1_, e2_, e3_, e4_, e5_, e6_⟩ := q139
            obtain rfl := e1_.symm
            obtain rfl := e2_.symm
            obtain rfl := e3_.symm
            obtain rfl := e4_.symm
            obtain rfl := e5_.symm
            obtain rfl := e6_.symm
            obtain ⟨X2_139, eX_, h__, kp_⟩ : ∃ X2_ : va_W, X2_ = wup X2126 fr (.inr (5, [.ref le, .ref rl, .ref rh, Iz re, Iz 0, Iz 1, Iz (-(sg (v126 (co le 0))))]) : va_E) ∧ (fr, (.inr (5, [.ref le, .ref rl, .ref rh, Iz re, Iz 0, Iz 1, Iz (-(sg (v126 (co le 0))))]) : va_E)) ∈ X2_ ∧ ∀ q ∈ X2126, q.1 ≠ fr → q ∈ X2_ := ⟨_, rfl, wup_self h_fr, fun _ h n => wup_ne h n⟩
            replace hV := (show cV dC dI cx LB (va_A (bW (cx 0) LB dd nn ss ll gg (pW cx LP pc_ pd co X)) s.heap.size) s.heap ll (pW cx LP pc_ (va_up pd le hv) co (wup X2126 fr (.inr (5, [.ref le, .ref rl, .ref rh, Iz re, Iz 0, Iz 1, Iz (-(sg (v126 (co le 0))))]) : va_E))) dd126 nn126 ss126 ll126 gg126 H locs from hV)
            rw [← eX_] at hV
            have kpX : ∀ q ∈ X, q.1 ≠ fr → q.1 ≠ ra → q.1 ≠ rp → q.1 ≠ rq → q ∈ X2_139 := fun q h nk_fr nk_ra nk_rp nk_rq => kp_ q (kpX q h nk_fr nk_ra nk_rp nk_rq) nk_fr
            have h_fr := h__
            refine W.widen (k := cP LB ll126 - cP LB ll + 1) (n := 2 * (cP LB ll126 - cP LB ll) + 14) (Nat.le_refl _) (Nat.le_refl _) ?_
            refine lv_iconst (v := Int32.ofInt (0)) hx hb dX11_circle_142 (by decide) ?_
            have hpost : ∃ (v' pd' : Nat → Int) (X2' : va_W) (a1 a2 a3 a4 : Int), (pW cx LP pc_ (va_up pd le hv) co X2_139) = pW cx LP pc_ pd' co X2' ∧ cR LB nn126 ss126 ll126 gg126 v' ∧ (fr, (.inr (5, [.ref le, .ref rl, .ref rh, Iz a1, Iz a2, Iz a3, Iz a4]) : va_E)) ∈ X2' ∧ (∀ q ∈ X, q.1 ≠ fr → q.1 ≠ ra → q.1 ≠ rp → q.1 ≠ rq → q ∈ X2') ∧ (0 : Int) = (if mo < hfO (dnm up low sn) then -105 else if hfO (dnm up low sn) = 1 then 0 else 3) ∧ ((0 : Int) = 3 → pd' le = hfO (dnm up low sn) ∧ (∀ k : Nat, (k : Int) ≤ hfO (dnm up low sn) → v' (co le k) = cosC (dnm up low sn) (hfO (dnm up low sn)).toNat k) ∧ a2 = hfO (dnm up low sn) - unN (dnm up low sn) (if dnm up low sn - nmr up low sn < nmr up low sn then dnm up low sn - nmr up low sn else nmr up low sn).toNat) := ⟨_, _, _, _, _, _, _, rfl, hN, h_fr, kpX, by rw [← eD, ← hhv, if_neg (by omega), if_pos (by omega)], fun h => absurd h (by decide)⟩
            exact e_iret hx hb hr hK hV ⟨by decide, by decide⟩ hpost dX11_circle_143 hlocks
        · skip
          refine lv_bipush (v := Int32.ofInt (-105)) hx hb dX11_circle_108 (by decide) ?_
          have hpost : ∃ (v' pd' : Nat → Int) (X2' : va_W) (a1 a2 a3 a4 : Int), (pW cx LP pc_ pd co X) = pW cx LP pc_ pd' co X2' ∧ cR LB nn ss ll gg v' ∧ (fr, (.inr (5, [.ref le, .ref rl, .ref rh, Iz a1, Iz a2, Iz a3, Iz a4]) : va_E)) ∈ X2' ∧ (∀ q ∈ X, q.1 ≠ fr → q.1 ≠ ra → q.1 ≠ rp → q.1 ≠ rq → q ∈ X2') ∧ ((-105) : Int) = (if mo < hfO (dnm up low sn) then -105 else if hfO (dnm up low sn) = 1 then 0 else 3) ∧ (((-105) : Int) = 3 → pd' le = hfO (dnm up low sn) ∧ (∀ k : Nat, (k : Int) ≤ hfO (dnm up low sn) → v' (co le k) = cosC (dnm up low sn) (hfO (dnm up low sn)).toNat k) ∧ a2 = hfO (dnm up low sn) - unN (dnm up low sn) (if dnm up low sn - nmr up low sn < nmr up low sn then dnm up low sn - nmr up low sn else nmr up low sn).toNat) := ⟨_, _, _, _, _, _, _, rfl, hN, h_fr, kpX, by rw [← eD, ← hhv, if_pos (by omega)], fun h => absurd h (by decide)⟩
          exact e_iret hx hb hr hK hV ⟨by decide, by decide⟩ hpost dX11_circle_110 hlocks
      · skip
        refine lv_iload hx hb dX11_circle_78 (lv_at hl 0 rfl) ?_
        refine lv_iconst (v := Int32.ofInt (3)) hx hb dX11_circle_80 (by decide) ?_
        refine g_icmp_ge (tgt := 88) hx hb (by first | assumption | exact ⟨by omega, by omega⟩) (by first | assumption | exact ⟨by omega, by omega⟩) dX11_circle_81 (by decide) (fun c_81 => ?_) (fun c_81 => ?_)
        · skip
          refine lv_iload hx hb dX11_circle_88 (lv_at hl 0 rfl) ?_
          refine lv_iload hx hb dX11_circle_90 (lv_at hl 0 rfl) ?_
          refine e_callsi (k2 := 0) (n2 := 0) (f := 2) (kl := 46) (As := [Iz (dq), Iz (dq)]) (rest := []) E (e0i (k6_units (by omega) (by omega) (by omega) (by omega))) (c_cwS 2 hts cl_X11_412 ct_X6_units cn_RX6 cc_X6_units rfl rfl (by decide +kernel) ⟨Nat.le_of_ble_eq_true rfl, Nat.le_of_ble_eq_true rfl⟩) hK hV hA hR ⟨by decide, by decide⟩ rfl hl.1 (Nat.le_of_ble_eq_true rfl) dX11_circle_92 (fun z92 X92 dd92 nn92 ss92 ll92 gg92 H locs q92 hV hm92 => ?_)
          obtain ⟨e1_, e2_, e3_, e4_, e5_, e6_, q92⟩ := q92
          obtain rfl := e1_.symm
          obtain rfl := e2_.symm
          obtain rfl := e3_.symm
          obtain rfl := e4_.symm
          obtain rfl := e5_.symm
          obtain rfl := e6_.symm
          refine W.widen (k := cP LB ll - cP LB ll + 0) (n := 2 * (cP LB ll - cP LB ll) + 0) (Nat.le_refl _) (Nat.le_refl _) ?_
          have ub_ := unN_bd dq (dq - 1).toNat
          rw [← q92] at ub_
          refine lv_iconst (v := Int32.ofInt (2)) hx hb dX11_circle_95 (by decide) ?_
          refine g_idiv hx hb (by omega) (by omega) (by omega) (by omega) dX11_circle_96 ?_
          exact k_97 _ _ _ _ _ ⟨rfl, rfl, (by unfold hfO; first | (rw [if_pos (by omega)]; done) | (rw [if_neg (by omega), ← q92])), (by omega), (by omega), hV⟩
        · skip
          refine lv_iconst (v := Int32.ofInt (1)) hx hb dX11_circle_84 (by decide) ?_
          refine lv_goto (tgt := 97) hx hb dX11_circle_85 (by decide) ?_
          exact k_97 _ _ _ _ _ ⟨rfl, rfl, (by unfold hfO; first | (rw [if_pos (by omega)]; done) | (rw [if_neg (by omega), ← q92])), (by omega), (by omega), hV⟩
    · skip
      refine lv_iload hx hb dX11_circle_33 (lv_at hl 5 rfl) ?_
      refine g_if_eq (tgt := 44) hx hb (by first | assumption | exact ⟨by omega, by omega⟩) dX11_circle_35 (by decide) (fun c_35 => ?_) (fun c_35 => ?_)
      · skip
        refine lv_iload_n hx hb dX11_circle_44 rfl (lv_at hl 4 rfl) ?_
        exact k_45 _ (by unfold dnD; first | (rw [if_pos (by omega)]; done) | (rw [if_neg (by omega)]; done))
      · skip
        refine lv_iconst (v := Int32.ofInt (4)) hx hb dX11_circle_38 (by decide) ?_
        refine lv_iload_n hx hb dX11_circle_39 rfl (lv_at hl 4 rfl) ?_
        refine g_imul hx hb dX11_circle_40 ?_
        refine lv_goto (tgt := 45) hx hb dX11_circle_41 (by decide) ?_
        exact k_45 _ (by unfold dnD; first | (rw [if_pos (by omega)]; done) | (rw [if_neg (by omega)]; done))
  · skip
    refine lv_iload hx hb dX11_circle_9 (lv_at hl 4 rfl) ?_
    refine g_if_eq (tgt := 29) hx hb (by first | assumption | exact ⟨by omega, by omega⟩) dX11_circle_11 (by decide) (fun c_11 => ?_) (fun c_11 => ?_)
    · skip
      refine lv_iload hx hb dX11_circle_29 (lv_at hl 0 rfl) ?_
      exact k_31 _ _ _ _ _ ⟨rfl, rfl, (by unfold dnN; first | (rw [if_pos (by omega)]; exact q3) | (rw [if_neg (by omega), ← q3]; exact q23)), (by omega), (by unfold dnD; split <;> omega), hV⟩
    · skip
      have m0_ := Int.emod_nonneg (low - 4 * z3) (show 4 * low ≠ 0 by omega)
      have m1_ := Int.emod_lt_of_pos (low - 4 * z3) (show 0 < 4 * low by omega)
      refine lv_iload_n hx hb dX11_circle_14 rfl (lv_at hl 3 rfl) ?_
      refine lv_iconst (v := Int32.ofInt (4)) hx hb dX11_circle_15 (by decide) ?_
      refine lv_iload hx hb dX11_circle_16 (lv_at hl 0 rfl) ?_
      refine g_imul hx hb dX11_circle_18 ?_
      refine g_isub hx hb dX11_circle_19 ?_
      refine lv_iconst (v := Int32.ofInt (4)) hx hb dX11_circle_20 (by decide) ?_
      refine lv_iload_n hx hb dX11_circle_21 rfl (lv_at hl 3 rfl) ?_
      refine g_imul hx hb dX11_circle_22 ?_
      refine e_callsi (k2 := 0) (n2 := 0) (f := 0) (kl := 0) (As := [Iz (low - (4 * z3)), Iz (4 * low)]) (rest := []) E (e0i (kJ9_floorMod_7cf53 (by omega) (by omega) (by omega) (by omega))) (c_cwS 2 hts cl_X11_405 ct_J9_floorMod_7cf53 cn_RJ9 cc_J9_floorMod_7cf53 rfl rfl (by decide +kernel) ⟨Nat.le_of_ble_eq_true rfl, Nat.le_of_ble_eq_true rfl⟩) hK hV hA hR ⟨by decide, by decide⟩ rfl hl.1 (Nat.le_of_ble_eq_true rfl) dX11_circle_23 (fun z23 X23 dd23 nn23 ss23 ll23 gg23 H locs q23 hV hm23 => ?_)
      obtain ⟨e1_, e2_, e3_, e4_, e5_, e6_, q23⟩ := q23
      obtain rfl := e1_.symm
      obtain rfl := e2_.symm
      obtain rfl := e3_.symm
      obtain rfl := e4_.symm
      obtain rfl := e5_.symm
      obtain rfl := e6_.symm
      refine W.widen (k := cP LB ll - cP LB ll + 0) (n := 2 * (cP LB ll - cP LB ll) + 0) (Nat.le_refl _) (Nat.le_refl _) ?_
      refine lv_goto (tgt := 31) hx hb dX11_circle_26 (by decide) ?_
      exact k_31 _ _ _ _ _ ⟨rfl, rfl, (by unfold dnN; first | (rw [if_pos (by omega)]; exact q3) | (rw [if_neg (by omega), ← q3]; exact q23)), (by omega), (by unfold dnD; split <;> omega), hV⟩
