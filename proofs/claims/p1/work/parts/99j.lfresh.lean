section LFresh
variable {dC : Nat → ClassId} {dI : Nat → Nat → Nat} {cx : Nat → Nat}
/-- a new object of the class, all of whose cells lie from n0 on, below n1 -/
def FW (dC : Nat → ClassId) (dI : Nat → Nat → Nat) (cx : Nat → Nat) (n0 n1 : Nat) (H : Heap) (ar : Nat) (mo : Int) : Prop :=
  ∃ (LB LP : List Nat) (pc_ : Nat → Nat) (pd : Nat → Int) (co : Nat → Nat → Nat) (X : va_W) (dd : Nat → Nat) (nn ss : Nat → Int) (ll : Nat → Nat) (gg : Nat → Int → Int) (v : Nat → Int) (cp : Nat → Nat) (vs : Nat → Value) (nu tol pi_ ti_ fr stk t0 no pa s0 zo tx bu bv bw bs le rl rh ta tb tq tt tu tw tm ch ug uh uq ut uu ra rp rq xp xw xk xf xy xb : Nat),
    va_P (dC, dI) ccl (bW (cx 0) LB dd nn ss ll gg (pW cx LP pc_ pd co X)) H ∧ va_D (fun q => n0 ≤ q ∧ q < n1) (bW (cx 0) LB dd nn ss ll gg (pW cx LP pc_ pd co X)) ∧ (∀ b ∈ LB, 5 ≤ ll b ∧ ll b ≤ 400) ∧ cMc LB ll ≤ 89600 ∧
    (ar, (.inr (11, [Iz mo, .ref nu, Iz 0, .ref tol, Iz 0, .ref pi_, .ref ti_, Iz 0, .ref fr, .ref stk, .ref t0, .ref no, .ref pa, .ref s0, .ref zo, .ref tx, .ref bu, .ref bv, .ref bw, .ref bs]) : va_E)) ∈ X ∧
    (fr, (.inr (5, [.ref le, .ref rl, .ref rh, Iz 0, Iz 0, Iz 0, Iz 0]) : va_E)) ∈ X ∧
    le ∈ LP ∧
    (nu, (.inl (cx 4, 100, .inr (.inr (.inr (.inr (fun _ => none))))) : va_E)) ∈ X ∧
    (tol, (.inl (cx 3, 30, .inr (.inr (.inr (.inr (fun _ => none))))) : va_E)) ∈ X ∧
    pOK LB LP co ∧
    cR LB nn ss ll gg v ∧
    (s0, (.inr (7, [Iz 0, .ref t0, .ref ch, Iz 0, Iz 0, .ref ug, .ref uh, .ref uq, .ref ut, .ref uu]) : va_E)) ∈ X ∧
    uOK LB LP co ta tb tq tt tu ug uh uq ut uu ∧
    (t0, (.inr (9, [.ref ta, .ref tb, .ref tq, .ref tt, .ref tu, .ref tw, .ref tm, Iz 0]) : va_E)) ∈ X ∧
    tOK LB LP co ta tb tq tt tu ∧
    (no, (.inr (2, [(vs 0), (vs 1), (vs 2), (vs 3), (vs 4), .ref t0, (vs 6), (vs 7), (vs 8), (vs 9), (vs 10), .ref rp, .ref rq, .ref ra, (vs 14), (vs 15), (vs 16), (vs 17), (vs 18)]) : va_E)) ∈ X ∧
    (ra, (.inl (cx 1, 14, .inr (.inl (jm (fun _ => 0)))) : va_E)) ∈ X ∧
    (rp, (.inl (cx 1, 14, .inr (.inl (jm (fun _ => 0)))) : va_E)) ∈ X ∧
    (rq, (.inl (cx 1, 14, .inr (.inl (jm (fun _ => 0)))) : va_E)) ∈ X ∧
    ra ≠ rp ∧
    ra ≠ rq ∧
    rp ≠ rq ∧
    (ch, (.inl (cx 3, 14, .inr (.inr (.inr (.inr (fun i => some (cp i)))))) : va_E)) ∈ X ∧
    (∀ i : Nat, i < 14 → cp i ∈ LP) ∧
    (∀ i j : Nat, i < 14 → j < 14 → cp i = cp j → i = j) ∧
    rl ∈ LB ∧
    LOK ta tb tq tt tu ug uh uq ut uu rl ∧
    (∀ p ∈ LP, ∀ i : Nat, i < 13 → co p i ≠ rl) ∧
    rh ∈ LB ∧
    LOK ta tb tq tt tu ug uh uq ut uu rh ∧
    (∀ p ∈ LP, ∀ i : Nat, i < 13 → co p i ≠ rh) ∧
    bu ∈ LB ∧
    LOK ta tb tq tt tu ug uh uq ut uu bu ∧
    (∀ p ∈ LP, ∀ i : Nat, i < 13 → co p i ≠ bu) ∧
    rl ≠ rh ∧
    (∀ i : Nat, i < 14 → le ≠ cp i) ∧
    (tx, (.inr (8, [.ref xp, .ref xw, Iz 0, Iz 0, Iz 0, .ref xk, .ref xf, .ref xy, Iz 0, Iz 0, Iz 0, Iz 0, Iz 0, Iz 0, .ref xb]) : va_E)) ∈ X ∧
    (xp, (.inl (cx 0, 300, .inl (im (fun _ => 0))) : va_E)) ∈ X
set_option maxRecDepth 100000 in
theorem gLB_len {q0 qw : nQt} {qf : Nat → nQt} {b : Nat → Nat × Nat} : (gLB (zQ q0 qw qf) (zP b)).length = 224 := rfl
set_option maxHeartbeats 4000000 in
set_option maxRecDepth 100000 in
theorem FW.of {n0 h0 : Nat} {mo : Int} {H : Heap} {q0 qw : nQt} {qf : Nat → nQt} {b : Nat → Nat × Nat} {vs : Nat → Value} {nu tol pi_ ti_ fr stk t0 tm no rp rq ra pa s0 ch zo tx tp tw tk tf ts tb : Nat} (hP : va_P (dC, dI) ccl (gW cx (zQ q0 qw qf) (zP b) [(h0, .inr (11, [Iz (mo), .ref nu, Iz 0, .ref tol, Iz 0, .ref pi_, .ref ti_, Iz 0, .ref fr, .ref stk, .ref t0, .ref no, .ref pa, .ref s0, .ref zo, .ref tx, .ref (b 12).1, .ref (b 13).1, .ref (b 14).1, .ref (b 15).1])), (nu, .inl (cx 4, 100, .inr (.inr (.inr (.inr (fun _ => none)))))), (tol, .inl (cx 3, 30, .inr (.inr (.inr (.inr (fun _ => none)))))), (pi_, .inl (cx 3, 12, .inr (.inr (.inr (.inr (fun _ => none)))))), (ti_, .inl (cx 0, 12, .inl (im (fun _ => 0)))), (fr, .inr (5, [.ref q0.1, .ref (b 0).1, .ref (b 1).1, Iz 0, Iz 0, Iz 0, Iz 0])), (stk, .inl (cx 4, 40, .inr (.inr (.inr (.inr (fun _ => none)))))), (t0, .inr (9, [.ref (b 2).1, .ref (b 3).1, .ref (b 4).1, .ref (b 5).1, .ref (b 6).1, .ref qw.1, .ref tm, Iz 0])), (no, .inr (2, [(vs 0), (vs 1), (vs 2), (vs 3), (vs 4), .ref t0, (vs 6), (vs 7), (vs 8), (vs 9), (vs 10), .ref rp, .ref rq, .ref ra, (vs 14), (vs 15), (vs 16), (vs 17), (vs 18)])), (rp, .inl (cx 1, 14, .inr (.inl (jm (fun _ => 0))))), (rq, .inl (cx 1, 14, .inr (.inl (jm (fun _ => 0))))), (ra, .inl (cx 1, 14, .inr (.inl (jm (fun _ => 0))))), (s0, .inr (7, [Iz 0, .ref t0, .ref ch, Iz 0, Iz 0, .ref (b 7).1, .ref (b 8).1, .ref (b 9).1, .ref (b 10).1, .ref (b 11).1])), (ch, .inl (cx 3, 14, .inr (.inr (.inr (.inr (fun i => some (qf i).1)))))), (tx, .inr (8, [.ref tp, .ref tw, Iz 0, Iz 0, Iz 0, .ref tk, .ref tf, .ref ts, Iz 0, Iz 0, Iz 0, Iz 0, Iz 0, Iz 0, .ref tb])), (tp, .inl (cx 0, 300, .inl (im (fun _ => 0))))]) H) (hD : va_D (fun q => n0 ≤ q) (gW cx (zQ q0 qw qf) (zP b) [(h0, .inr (11, [Iz (mo), .ref nu, Iz 0, .ref tol, Iz 0, .ref pi_, .ref ti_, Iz 0, .ref fr, .ref stk, .ref t0, .ref no, .ref pa, .ref s0, .ref zo, .ref tx, .ref (b 12).1, .ref (b 13).1, .ref (b 14).1, .ref (b 15).1])), (nu, .inl (cx 4, 100, .inr (.inr (.inr (.inr (fun _ => none)))))), (tol, .inl (cx 3, 30, .inr (.inr (.inr (.inr (fun _ => none)))))), (pi_, .inl (cx 3, 12, .inr (.inr (.inr (.inr (fun _ => none)))))), (ti_, .inl (cx 0, 12, .inl (im (fun _ => 0)))), (fr, .inr (5, [.ref q0.1, .ref (b 0).1, .ref (b 1).1, Iz 0, Iz 0, Iz 0, Iz 0])), (stk, .inl (cx 4, 40, .inr (.inr (.inr (.inr (fun _ => none)))))), (t0, .inr (9, [.ref (b 2).1, .ref (b 3).1, .ref (b 4).1, .ref (b 5).1, .ref (b 6).1, .ref qw.1, .ref tm, Iz 0])), (no, .inr (2, [(vs 0), (vs 1), (vs 2), (vs 3), (vs 4), .ref t0, (vs 6), (vs 7), (vs 8), (vs 9), (vs 10), .ref rp, .ref rq, .ref ra, (vs 14), (vs 15), (vs 16), (vs 17), (vs 18)])), (rp, .inl (cx 1, 14, .inr (.inl (jm (fun _ => 0))))), (rq, .inl (cx 1, 14, .inr (.inl (jm (fun _ => 0))))), (ra, .inl (cx 1, 14, .inr (.inl (jm (fun _ => 0))))), (s0, .inr (7, [Iz 0, .ref t0, .ref ch, Iz 0, Iz 0, .ref (b 7).1, .ref (b 8).1, .ref (b 9).1, .ref (b 10).1, .ref (b 11).1])), (ch, .inl (cx 3, 14, .inr (.inr (.inr (.inr (fun i => some (qf i).1)))))), (tx, .inr (8, [.ref tp, .ref tw, Iz 0, Iz 0, Iz 0, .ref tk, .ref tf, .ref ts, Iz 0, Iz 0, Iz 0, Iz 0, Iz 0, Iz 0, .ref tb])), (tp, .inl (cx 0, 300, .inl (im (fun _ => 0))))])) : FW dC dI cx n0 H.size H h0 mo := by
  obtain ⟨o1, o2, o3, o4, o5, o6, o7, o8⟩ := fresh_ok hD
  have hp := gW_bW hD
  have hP' := va_P_perm hP hp
  have hD' := va_D_perm hD hp
  have hc : cMc (gLB (zQ q0 qw qf) (zP b)) (fun _ => 5) ≤ 89600 := by
    have h1 : (gLB (zQ q0 qw qf) (zP b)).length = 224 := gLB_len
    show (gLB (zQ q0 qw qf) (zP b)).length * 400 - cP (gLB (zQ q0 qw qf) (zP b)) (fun _ => 5) ≤ 89600
    omega
  refine ⟨gLB (zQ q0 qw qf) (zP b), gLP (zQ q0 qw qf), gpc (zQ q0 qw qf), fun _ => -1, gco (zQ q0 qw qf), [(h0, .inr (11, [Iz (mo), .ref nu, Iz 0, .ref tol, Iz 0, .ref pi_, .ref ti_, Iz 0, .ref fr, .ref stk, .ref t0, .ref no, .ref pa, .ref s0, .ref zo, .ref tx, .ref (b 12).1, .ref (b 13).1, .ref (b 14).1, .ref (b 15).1])), (nu, .inl (cx 4, 100, .inr (.inr (.inr (.inr (fun _ => none)))))), (tol, .inl (cx 3, 30, .inr (.inr (.inr (.inr (fun _ => none)))))), (pi_, .inl (cx 3, 12, .inr (.inr (.inr (.inr (fun _ => none)))))), (ti_, .inl (cx 0, 12, .inl (im (fun _ => 0)))), (fr, .inr (5, [.ref q0.1, .ref (b 0).1, .ref (b 1).1, Iz 0, Iz 0, Iz 0, Iz 0])), (stk, .inl (cx 4, 40, .inr (.inr (.inr (.inr (fun _ => none)))))), (t0, .inr (9, [.ref (b 2).1, .ref (b 3).1, .ref (b 4).1, .ref (b 5).1, .ref (b 6).1, .ref qw.1, .ref tm, Iz 0])), (no, .inr (2, [(vs 0), (vs 1), (vs 2), (vs 3), (vs 4), .ref t0, (vs 6), (vs 7), (vs 8), (vs 9), (vs 10), .ref rp, .ref rq, .ref ra, (vs 14), (vs 15), (vs 16), (vs 17), (vs 18)])), (rp, .inl (cx 1, 14, .inr (.inl (jm (fun _ => 0))))), (rq, .inl (cx 1, 14, .inr (.inl (jm (fun _ => 0))))), (ra, .inl (cx 1, 14, .inr (.inl (jm (fun _ => 0))))), (s0, .inr (7, [Iz 0, .ref t0, .ref ch, Iz 0, Iz 0, .ref (b 7).1, .ref (b 8).1, .ref (b 9).1, .ref (b 10).1, .ref (b 11).1])), (ch, .inl (cx 3, 14, .inr (.inr (.inr (.inr (fun i => some (qf i).1)))))), (tx, .inr (8, [.ref tp, .ref tw, Iz 0, Iz 0, Iz 0, .ref tk, .ref tf, .ref ts, Iz 0, Iz 0, Iz 0, Iz 0, Iz 0, Iz 0, .ref tb])), (tp, .inl (cx 0, 300, .inl (im (fun _ => 0))))], lkP (gL (zQ q0 qw qf) (zP b)), fun _ => 0, fun _ => 0, fun _ => 5, fun _ _ => 0, fun _ => 0, fun i => (qf i).1, vs, nu, tol, pi_, ti_, fr, stk, t0, no, pa, s0, zo, tx, (b 12).1, (b 13).1, (b 14).1, (b 15).1, q0.1, (b 0).1, (b 1).1, (b 2).1, (b 3).1, (b 4).1, (b 5).1, (b 6).1, qw.1, tm, ch, (b 7).1, (b 8).1, (b 9).1, (b 10).1, (b 11).1, ra, rp, rq, tp, tw, tk, tf, ts, tb, hP', va_D_iff.mpr ⟨(va_D_iff.mp hD').1, fun q hq => ⟨(va_D_iff.mp hD').2 q hq, (va_P_iff.mp hP' q hq).lt⟩⟩, fun _ _ => ⟨Nat.le_refl 5, Nat.le_of_ble_eq_true rfl⟩, hc, ?_⟩
  refine ⟨List.mem_of_getElem? (i := 0) rfl, List.mem_of_getElem? (i := 5) rfl, o4.1, List.mem_of_getElem? (i := 1) rfl, List.mem_of_getElem? (i := 2) rfl, o1, g_cR, List.mem_of_getElem? (i := 12) rfl, o3, List.mem_of_getElem? (i := 7) rfl, o2, List.mem_of_getElem? (i := 8) rfl, List.mem_of_getElem? (i := 11) rfl, List.mem_of_getElem? (i := 9) rfl, List.mem_of_getElem? (i := 10) rfl, fun h => absurd (hD.1 11 9 _ _ (n_at rfl) (n_at rfl) h) (by decide), fun h => absurd (hD.1 11 10 _ _ (n_at rfl) (n_at rfl) h) (by decide), fun h => absurd (hD.1 9 10 _ _ (n_at rfl) (n_at rfl) h) (by decide), List.mem_of_getElem? (i := 13) rfl, o4.2.1, o4.2.2.1, o5 0 (by decide), o6 0 (by decide) (by decide), o7 0 (by decide), o5 1 (by decide), o6 1 (by decide) (by decide), o7 1 (by decide), o5 12 (by decide), o6 12 (by decide) (by decide), o7 12 (by decide), o8, o4.2.2.2, List.mem_of_getElem? (i := 14) rfl, List.mem_of_getElem? (i := 15) rfl⟩
theorem FW.kept {n0 n1 n2 ar : Nat} {mo : Int} {H H1 : Heap} (h : FW dC dI cx n0 n1 H ar mo) (hk : ∀ q : Nat, n0 ≤ q → q < n1 → q < H.size → H1[q]? = H[q]?) : FW dC dI cx n0 n1 H1 ar mo := by
  obtain ⟨LB, LP, pc_, pd, co, X, dd, nn, ss, ll, gg, v, cp, vs, nu, tol, pi_, ti_, fr, stk, t0, no, pa, s0, zo, tx, bu, bv, bw, bs, le, rl, rh, ta, tb, tq, tt, tu, tw, tm, ch, ug, uh, uq, ut, uu, ra, rp, rq, xp, xw, xk, xf, xy, xb, hP, hD, h⟩ := h
  exact ⟨LB, LP, pc_, pd, co, X, dd, nn, ss, ll, gg, v, cp, vs, nu, tol, pi_, ti_, fr, stk, t0, no, pa, s0, zo, tx, bu, bv, bw, bs, le, rl, rh, ta, tb, tq, tt, tu, tw, tm, ch, ug, uh, uq, ut, uu, ra, rp, rq, xp, xw, xk, xf, xy, xb, va_P_iff.mpr fun q hq => (va_P_iff.mp hP q hq).kept (hk q.1 ((va_D_iff.mp hD).2 q hq).1 ((va_D_iff.mp hD).2 q hq).2 (va_P_iff.mp hP q hq).lt), hD, h⟩
set_option maxHeartbeats 4000000 in
theorem FW.elim {n0 n1 ar : Nat} {mo : Int} {H : Heap} {G : Prop} (h : FW dC dI cx n0 n1 H ar mo) (k : ∀ (LB LP : List Nat) (pc_ : Nat → Nat) (pd : Nat → Int) (co : Nat → Nat → Nat) (X : va_W) (dd : Nat → Nat) (nn ss : Nat → Int) (ll : Nat → Nat) (gg : Nat → Int → Int) (v : Nat → Int) (cp : Nat → Nat) (vs : Nat → Value) (nu tol pi_ ti_ fr stk t0 no pa s0 zo tx bu bv bw bs le rl rh ta tb tq tt tu tw tm ch ug uh uq ut uu ra rp rq xp xw xk xf xy xb : Nat), va_P (dC, dI) ccl (bW (cx 0) LB dd nn ss ll gg (pW cx LP pc_ pd co X)) H → va_D (fun q => n0 ≤ q ∧ q < n1) (bW (cx 0) LB dd nn ss ll gg (pW cx LP pc_ pd co X)) → (∀ b ∈ LB, 5 ≤ ll b ∧ ll b ≤ 400) → cMc LB ll ≤ 89600 → (ar, (.inr (11, [Iz mo, .ref nu, Iz 0, .ref tol, Iz 0, .ref pi_, .ref ti_, Iz 0, .ref fr, .ref stk, .ref t0, .ref no, .ref pa, .ref s0, .ref zo, .ref tx, .ref bu, .ref bv, .ref bw, .ref bs]) : va_E)) ∈ X → (fr, (.inr (5, [.ref le, .ref rl, .ref rh, Iz 0, Iz 0, Iz 0, Iz 0]) : va_E)) ∈ X → le ∈ LP → (nu, (.inl (cx 4, 100, .inr (.inr (.inr (.inr (fun _ => none))))) : va_E)) ∈ X → (tol, (.inl (cx 3, 30, .inr (.inr (.inr (.inr (fun _ => none))))) : va_E)) ∈ X → pOK LB LP co → cR LB nn ss ll gg v → (s0, (.inr (7, [Iz 0, .ref t0, .ref ch, Iz 0, Iz 0, .ref ug, .ref uh, .ref uq, .ref ut, .ref uu]) : va_E)) ∈ X → uOK LB LP co ta tb tq tt tu ug uh uq ut uu → (t0, (.inr (9, [.ref ta, .ref tb, .ref tq, .ref tt, .ref tu, .ref tw, .ref tm, Iz 0]) : va_E)) ∈ X → tOK LB LP co ta tb tq tt tu → (no, (.inr (2, [(vs 0), (vs 1), (vs 2), (vs 3), (vs 4), .ref t0, (vs 6), (vs 7), (vs 8), (vs 9), (vs 10), .ref rp, .ref rq, .ref ra, (vs 14), (vs 15), (vs 16), (vs 17), (vs 18)]) : va_E)) ∈ X → (ra, (.inl (cx 1, 14, .inr (.inl (jm (fun _ => 0)))) : va_E)) ∈ X → (rp, (.inl (cx 1, 14, .inr (.inl (jm (fun _ => 0)))) : va_E)) ∈ X → (rq, (.inl (cx 1, 14, .inr (.inl (jm (fun _ => 0)))) : va_E)) ∈ X → ra ≠ rp → ra ≠ rq → rp ≠ rq → (ch, (.inl (cx 3, 14, .inr (.inr (.inr (.inr (fun i => some (cp i)))))) : va_E)) ∈ X → (∀ i : Nat, i < 14 → cp i ∈ LP) → (∀ i j : Nat, i < 14 → j < 14 → cp i = cp j → i = j) → rl ∈ LB → LOK ta tb tq tt tu ug uh uq ut uu rl → (∀ p ∈ LP, ∀ i : Nat, i < 13 → co p i ≠ rl) → rh ∈ LB → LOK ta tb tq tt tu ug uh uq ut uu rh → (∀ p ∈ LP, ∀ i : Nat, i < 13 → co p i ≠ rh) → bu ∈ LB → LOK ta tb tq tt tu ug uh uq ut uu bu → (∀ p ∈ LP, ∀ i : Nat, i < 13 → co p i ≠ bu) → rl ≠ rh → (∀ i : Nat, i < 14 → le ≠ cp i) → (tx, (.inr (8, [.ref xp, .ref xw, Iz 0, Iz 0, Iz 0, .ref xk, .ref xf, .ref xy, Iz 0, Iz 0, Iz 0, Iz 0, Iz 0, Iz 0, .ref xb]) : va_E)) ∈ X → (xp, (.inl (cx 0, 300, .inl (im (fun _ => 0))) : va_E)) ∈ X → G) : G :=
  match h with
  | ⟨LB, LP, pc_, pd, co, X, dd, nn, ss, ll, gg, v, cp, vs, nu, tol, pi_, ti_, fr, stk, t0, no, pa, s0, zo, tx, bu, bv, bw, bs, le, rl, rh, ta, tb, tq, tt, tu, tw, tm, ch, ug, uh, uq, ut, uu, ra, rp, rq, xp, xw, xk, xf, xy, xb, hP, hD, hll, hM, h_ar, h_fr, mle, h_nu, h_tol, hO, hN, h_s0, hU, hTo, hSt, hNo, h_ra, h_rp, h_rq, nap, naq_, npq, h_ch, hcp, hcj, mrl, srl, crl, mrh, srh, crh, mbu, sbu, cbu, nlh, hfc, h_tx, h_xp⟩ => k LB LP pc_ pd co X dd nn ss ll gg v cp vs nu tol pi_ ti_ fr stk t0 no pa s0 zo tx bu bv bw bs le rl rh ta tb tq tt tu tw tm ch ug uh uq ut uu ra rp rq xp xw xk xf xy xb hP hD hll hM h_ar h_fr mle h_nu h_tol hO hN h_s0 hU hTo hSt hNo h_ra h_rp h_rq nap naq_ npq h_ch hcp hcj mrl srl crl mrh srh crh mbu sbu cbu nlh hfc h_tx h_xp
/-- a new object of the reference, all of whose cells lie from n1 on, below n2 -/
def RW (eC : Nat → ClassId) (eI : Nat → Nat → Nat) (cI cJ cB cZ : Nat) (n1 n2 : Nat) (H : Heap) (h1 : Nat) (mo : Int) : Prop :=
  ∃ ad : Nat → Nat, va_P (eC, eI) rcl (mW h1 ad cI cJ cB cZ (fup (fun _ => 0) 25 mo) (fun _ _ => 0)) H ∧ va_D (fun q => n1 ≤ q ∧ q < n2) (mW h1 ad cI cJ cB cZ (fup (fun _ => 0) 25 mo) (fun _ _ => 0))
variable {eC : Nat → ClassId} {eI : Nat → Nat → Nat} {cI cJ cB cZ : Nat}
theorem RW.of {n1 h1 : Nat} {ad : Nat → Nat} {mo : Int} {H : Heap} (hP : va_P (eC, eI) rcl (mW h1 ad cI cJ cB cZ (fup (fun _ => 0) 25 mo) (fun _ _ => 0)) H) (hD : va_D (fun q => n1 ≤ q) (mW h1 ad cI cJ cB cZ (fup (fun _ => 0) 25 mo) (fun _ _ => 0))) : RW eC eI cI cJ cB cZ n1 H.size H h1 mo :=
  ⟨ad, hP, va_D_iff.mpr ⟨(va_D_iff.mp hD).1, fun q hq => ⟨(va_D_iff.mp hD).2 q hq, (va_P_iff.mp hP q hq).lt⟩⟩⟩
theorem RW.kept {n1 n2 h1 : Nat} {mo : Int} {H H1 : Heap} (h : RW eC eI cI cJ cB cZ n1 n2 H h1 mo) (hk : ∀ q : Nat, n1 ≤ q → q < H.size → H1[q]? = H[q]?) : RW eC eI cI cJ cB cZ n1 n2 H1 h1 mo := by
  obtain ⟨ad, hP, hD⟩ := h
  exact ⟨ad, va_P_iff.mpr fun q hq => (va_P_iff.mp hP q hq).kept (hk q.1 ((va_D_iff.mp hD).2 q hq).1 (va_P_iff.mp hP q hq).lt), hD⟩
/-- the law's row of one long -/
abbrev oW (cx : Nat → Nat) (q3 : Nat) (f : Int → Int) : va_W := [(q3, .inl (cx 1, 1, .inr (.inl (jm f))))]
theorem oW.kept {q3 : Nat} {f : Int → Int} {H H1 : Heap} (h : va_P (dC, dI) ccl (oW cx q3 f) H) (hk : q3 < H.size → H1[q3]? = H[q3]?) : va_P (dC, dI) ccl (oW cx q3 f) H1 :=
  va_P_iff.mpr fun q hq => by
    have e : q = (q3, .inl (cx 1, 1, .inr (.inl (jm f)))) := List.mem_singleton.mp hq
    have h1 := va_P_iff.mp h q hq
    subst e
    exact h1.kept (hk h1.lt)
theorem oW.lt {q3 : Nat} {f : Int → Int} {H : Heap} (h : va_P (dC, dI) ccl (oW cx q3 f) H) : q3 < H.size := (h 0 _ rfl).lt
theorem oW.d {q3 : Nat} {f : Int → Int} {A : Nat → Prop} (h : A q3) : va_D A (oW cx q3 f) :=
  va_D_iff.mpr ⟨List.nodup_cons.mpr ⟨List.not_mem_nil, List.nodup_nil⟩, fun q hq => by rw [List.mem_singleton.mp hq]; exact h⟩
end LFresh
