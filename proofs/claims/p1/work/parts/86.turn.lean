/-- the places of the turns' roots; how far they stand -/
def tabU : Prop := ∀ d : Int, 3 ≤ d → d ≤ 480 → hfO d ≤ 10 → unN d (d / 2).toNat ≤ hfO d
def tabP : Prop := ∀ d : Int, 3 ≤ d → d ≤ 480 → 2 ≤ hfO d → hfO d ≤ 10 → ∃ C : Nat → Nat → Int, (∀ k : Nat, k ≤ (hfO d).toNat → C 0 k = cosC d (hfO d).toNat k) ∧ chOK (hfO d).toNat C ∧ (∀ j k : Nat, j ≤ (hfO d).toNat → k ≤ (hfO d).toNat - j → ((C j k).natAbs : Int) < 2 ^ 200) ∧
  ∀ ii : Int, 0 ≤ ii → ii < hfO d → locP (hfO d).toNat C ii 60 (-(2 ^ (farF (hfO d).toNat (C 0) (hfO d).toNat).toNat)) (2 ^ (farF (hfO d).toNat (C 0) (hfO d).toNat).toNat) 0 0 (lowC (hfO d).toNat C - uppC (hfO d).toNat C)
theorem unN_mono (d : Int) {a : Nat} : ∀ {b : Nat}, a ≤ b → unN d a ≤ unN d b
  | 0, h => by rw [Nat.le_zero.mp h]; exact Int.le_refl _
  | b + 1, h => by
      rcases Nat.lt_or_ge b a with w | w
      · rw [show a = b + 1 by omega]; exact Int.le_refl _
      · have i := unN_mono d w
        have e : unN d (b + 1) = unN d b + if gd ((b : Int) + 1) d = 1 then 1 else 0 := rfl
        rw [e]
        split <;> omega
theorem unN_one {d : Int} : ∀ {k : Nat}, 1 ≤ k → 1 ≤ unN d k
  | 0, h => absurd h (by decide)
  | k + 1, _ => by
      unfold unN
      rcases Nat.eq_zero_or_pos k with w | w
      · subst w
        rw [if_pos (by unfold gd; rw [show (((0 : Nat) : Int) + 1).toNat = 1 from rfl]; exact Nat.gcd_one_left _)]
        exact Int.le_refl 1
      · have := unN_one (d := d) w
        split <;> omega
theorem dnN_bd {up low sn : Int} (l0 : 1 ≤ low) : 0 ≤ dnN up low sn ∧ dnN up low sn < dnD low sn := by
  unfold dnN dnD
  split
  · exact ⟨Int.emod_nonneg up (by omega), Int.emod_lt_of_pos up (by omega)⟩
  · exact ⟨Int.emod_nonneg _ (by omega), Int.emod_lt_of_pos _ (by omega)⟩
theorem dnm_bd {up low sn : Int} (l0 : 1 ≤ low) (l1 : low ≤ 120) : 0 ≤ nmr up low sn ∧ nmr up low sn < dnm up low sn ∧ dnm up low sn ≤ 480 ∧ (nmr up low sn = 0 → dnm up low sn = 1) := by
  have b := dnN_bd (up := up) (sn := sn) l0
  obtain ⟨-, -, q0, q1, -, q2, q3⟩ := gd_q b.1 b.2 rfl
  have hd : dnD low sn ≤ 480 := by unfold dnD; split <;> omega
  exact ⟨q0, q1, Int.le_trans q2 hd, q3⟩
theorem place_bd {up low sn : Int} (hT : tabF) (hU : tabU) (l0 : 1 ≤ low) (l1 : low ≤ 120) (h1 : hfO (dnm up low sn) ≠ 1) (h10 : hfO (dnm up low sn) ≤ 10) : 3 ≤ dnm up low sn ∧ dnm up low sn ≤ 480 ∧ 2 ≤ hfO (dnm up low sn) ∧
    0 ≤ hfO (dnm up low sn) - unN (dnm up low sn) (if dnm up low sn - nmr up low sn < nmr up low sn then dnm up low sn - nmr up low sn else nmr up low sn).toNat ∧
    hfO (dnm up low sn) - unN (dnm up low sn) (if dnm up low sn - nmr up low sn < nmr up low sn then dnm up low sn - nmr up low sn else nmr up low sn).toNat < hfO (dnm up low sn) := by
  obtain ⟨b0, b1, b2, b3⟩ := dnm_bd (up := up) (sn := sn) l0 l1
  have d3 : 3 ≤ dnm up low sn := by
    rcases Int.lt_or_le (dnm up low sn) 3 with w | w
    · exact absurd (by unfold hfO; rw [if_pos w]) h1
    · exact w
  have t := (hT _ d3 b2).1
  have u := hU _ d3 b2 h10
  obtain ⟨mn, emn⟩ : ∃ mn : Int, mn = (if dnm up low sn - nmr up low sn < nmr up low sn then dnm up low sn - nmr up low sn else nmr up low sn) := ⟨_, rfl⟩
  rw [← emn]
  have m1 : 1 ≤ mn ∧ mn ≤ dnm up low sn / 2 := by
    rw [emn]
    have : nmr up low sn ≠ 0 := fun w => by have := b3 w; omega
    split <;> omega
  have c1 := unN_one (d := dnm up low sn) (k := mn.toNat) (by omega)
  have c2 := unN_mono (dnm up low sn) (a := mn.toNat) (b := (dnm up low sn / 2).toNat) (by omega)
  exact ⟨d3, b2, by omega, by omega, by omega⟩
set_option maxHeartbeats 4000000 in
set_option maxRecDepth 100000 in
theorem k11_turn {l : Launch} {dC : Nat → ClassId} {dI : Nat → Nat → Nat} {cx : Nat → Nat} {LB : List Nat} {LP : List Nat} {pc_ : Nat → Nat} {pd : Nat → Int} {co : Nat → Nat → Nat} {X : va_W} {dd : Nat → Nat} {nn ss : Nat → Int} {ll : Nat → Nat} {gg : Nat → Int → Int} {H0 : Heap} {v : Nat → Int} {cp : Nat → Nat} {up low sn : Int} {ar nu tol pi_ ti_ fr stk pa zo tx bu bv bw bs le rl rh : Nat} {mo re rp_ rc rs : Int} {t0 ta tb tq tt tu tw tm : Nat} {tf : Int}{s0 ch ug uh uq ut uu : Nat} {sc_ sl_ sw_ : Int} {no ra rp rq : Nat} {xs : Nat → Value} {f0 f1 f2 : Int → Int}  (h_ar : (ar, (.inr (11, [Iz (mo), .ref nu, Iz (0), .ref tol, Iz (0), .ref pi_, .ref ti_, Iz (0), .ref fr, .ref stk, .ref t0, .ref no, .ref pa, .ref s0, .ref zo, .ref tx, .ref bu, .ref bv, .ref bw, .ref bs]) : va_E)) ∈ X) (h_fr : (fr, (.inr (5, [.ref le, .ref rl, .ref rh, Iz re, Iz rp_, Iz rc, Iz rs]) : va_E)) ∈ X) (mle : le ∈ LP) (h_nu : (nu, (.inl (cx 4, 100, .inr (.inr (.inr (.inr (fun _ => none))))) : va_E)) ∈ X) (hO : pOK LB LP co) (hN : cR LB nn ss ll gg v) (h_s0 : (s0, (.inr (7, [Iz sc_, .ref t0, .ref ch, Iz sl_, Iz sw_, .ref ug, .ref uh, .ref uq, .ref ut, .ref uu]) : va_E)) ∈ X) (hU : uOK LB LP co ta tb tq tt tu ug uh uq ut uu) (hTo : (t0, (.inr (9, [.ref ta, .ref tb, .ref tq, .ref tt, .ref tu, .ref tw, .ref tm, Iz tf]) : va_E)) ∈ X) (hS : tOK LB LP co ta tb tq tt tu) (hNo : (no, (.inr (2, [(xs 0), (xs 1), (xs 2), (xs 3), (xs 4), .ref t0, (xs 6), (xs 7), (xs 8), (xs 9), (xs 10), .ref rp, .ref rq, .ref ra, (xs 14), (xs 15), (xs 16), (xs 17), (xs 18)]) : va_E)) ∈ X) (h_ra : (ra, (.inl (cx 1, 14, .inr (.inl (jm f0))) : va_E)) ∈ X) (h_rp : (rp, (.inl (cx 1, 14, .inr (.inl (jm f1))) : va_E)) ∈ X) (h_rq : (rq, (.inl (cx 1, 14, .inr (.inl (jm f2))) : va_E)) ∈ X) (nap : ra ≠ rp) (naq_ : ra ≠ rq) (npq : rp ≠ rq) (h_ch : (ch, (.inl (cx 3, 14, .inr (.inr (.inr (.inr (fun i => some (cp i)))))) : va_E)) ∈ X) (hcp : ∀ i : Nat, i < 14 → cp i ∈ LP) (hcj : ∀ i j : Nat, i < 14 → j < 14 → cp i = cp j → i = j) (mrl : rl ∈ LB) (srl : LOK ta tb tq tt tu ug uh uq ut uu rl) (crl : ∀ p ∈ LP, ∀ i : Nat, i < 13 → co p i ≠ rl) (mrh : rh ∈ LB) (srh : LOK ta tb tq tt tu ug uh uq ut uu rh) (crh : ∀ p ∈ LP, ∀ i : Nat, i < 13 → co p i ≠ rh) (mbu : bu ∈ LB) (sbu : LOK ta tb tq tt tu ug uh uq ut uu bu) (cbu : ∀ p ∈ LP, ∀ i : Nat, i < 13 → co p i ≠ bu) (nlh : rl ≠ rh) (hfc : ∀ i : Nat, i < 14 → le ≠ cp i) (u0 : -9223372036854775808 ≤ up) (u1 : up ≤ 9223372036854775807) (l0 : -2147483648 ≤ low) (l1 : low ≤ 2147483647) (s0_ : -2147483648 ≤ sn) (s1_ : sn ≤ 2147483647) (m10 : mo ≤ 10) (m1 : 1 ≤ mo) (hTF : tabF) (hTU : tabU) (hTP : tabP) : Met l yX11_turn (Cond.code yX11_turn cX11_turn 6 (some .int) :: w0c) (eRm 7 216 LB ll 92 321) (cPn dC dI cx LB (pW cx LP pc_ pd co X) dd nn ss ll gg H0 [.ref ar, Jz (up), Iz (low), Iz (sn)]) (eQi dC dI cx LB (va_A (bW (cx 0) LB dd nn ss ll gg (pW cx LP pc_ pd co X)) H0.size) ll H0 92 321 (fun z X' dd' nn' ss' ll' gg' => z = (if low < 1 ∨ 120 < low then -102 else if mo < hfO (dnm up low sn) then -105 else 0))) (cMc LB ll + 92) (2 * cMc LB ll + 321) (va_A (bW (cx 0) LB dd nn ss ll gg (pW cx LP pc_ pd co X)) H0.size) := by
  refine Met.ofW (cc := cX11_turn) (maxL := 6) (ret := (some .int)) (by decide) rfl ?_
  intro p e s m args below meth c s₁ B hml hv
  obtain ⟨rfl, hH0, hP, hK, hD0, hC0, hC⟩ := hv
  have hx := B.exec
  have hb := B.bytes
  have hr := B.returns
  have hts := atoms_spec (ws := Cond.code yX11_turn cX11_turn 6 (some .int) :: w0c) B.pre
  have hown : s.vm.findClass RX11 = some m.cls := findClass_of_methodNamed B.named
  have hlocks := B.notSynchronized
  have E : CallFix p m c cX11_turn 6 s _ (Cond.code yX11_turn cX11_turn 6 (some .int) :: w0c) RX11 := ⟨hx, hb, hml, hown, hts⟩
  subst hH0
  have hD := va_D.self (sz := s.heap.size) hD0
  have hA : ∀ q : Nat, s.heap.size ≤ q → va_A (bW (cx 0) LB dd nn ss ll gg (pW cx LP pc_ pd co X)) s.heap.size q := fun q h => Or.inr h
  have hV : cV dC dI cx LB (va_A (bW (cx 0) LB dd nn ss ll gg (pW cx LP pc_ pd co X)) s.heap.size) s.heap ll (pW cx LP pc_ pd co X) dd nn ss ll gg s.heap [] := ⟨hP, hD, va_S.rf, fun _ _ => Nat.le_refl _, hC0⟩
  have hR : (headSpec (Cond.code yX11_turn cX11_turn 6 (some .int) :: w0c) (eRm 7 216 LB ll 92 321)).room.cells = cMc LB ll + 92 ∧ (headSpec (Cond.code yX11_turn cX11_turn 6 (some .int) :: w0c) (eRm 7 216 LB ll 92 321)).room.slots = 2 * cMc LB ll + 321 := ⟨rfl, rfl⟩
  refine W.widen (k := cP LB ll - cP LB ll + 0) (n := 2 * (cP LB ll - cP LB ll) + 0) (Nat.zero_le _) (Nat.zero_le _) ?_
  have hl := lv_entry ([.ref ar, Jz (up), Iz (low), Iz (sn)]) (n := 6) (Nat.le_of_ble_eq_true rfl)
  rw [lg_entry_eq]
  generalize (lg_sl ([.ref ar, Jz (up), Iz (low), Iz (sn)]) ++ List.replicate (6 - (lg_sl ([.ref ar, Jz (up), Iz (low), Iz (sn)])).length) Slot.unset).toArray = ls at hl ⊢
  have hl : lv_has ls 6 [(0, .ref ar), (1, Jz (up)), (3, Iz (low)), (4, Iz (sn))] := hl
  obtain ⟨⟨mta, mtb, mtq, mtt, mtu⟩, ⟨nab, naq, nat_, nau⟩, ⟨nbq, nbt, nbu⟩, ⟨nqt, nqu⟩, ntu, scA⟩ := id hS
  have sca : ∀ p ∈ LP, ∀ i : Nat, i < 13 → co p i ≠ ta := fun p h i w => (scA p h i w).1
  have sct : ∀ p ∈ LP, ∀ i : Nat, i < 13 → co p i ≠ tt := fun p h i w => (scA p h i w).2.2.2.1
  have scu : ∀ p ∈ LP, ∀ i : Nat, i < 13 → co p i ≠ tu := fun p h i w => (scA p h i w).2.2.2.2
  obtain ⟨⟨mug, muh, muq, mUt, muu⟩, ⟨ngh, ngq, ngt, ngu⟩, ⟨nhq, nht, nhu⟩, ⟨nqt_, nqu_⟩, ntu_, ucA, utA⟩ := id hU
  have scg_ : ∀ p ∈ LP, ∀ i : Nat, i < 13 → co p i ≠ ug := fun p h i w => (ucA p h i w).1
  have sch_ : ∀ p ∈ LP, ∀ i : Nat, i < 13 → co p i ≠ uh := fun p h i w => (ucA p h i w).2.1
  have scq_ : ∀ p ∈ LP, ∀ i : Nat, i < 13 → co p i ≠ uq := fun p h i w => (ucA p h i w).2.2.1
  have sct_ : ∀ p ∈ LP, ∀ i : Nat, i < 13 → co p i ≠ ut := fun p h i w => (ucA p h i w).2.2.2.1
  have scu_ : ∀ p ∈ LP, ∀ i : Nat, i < 13 → co p i ≠ uu := fun p h i w => (ucA p h i w).2.2.2.2
  have kpX : ∀ q ∈ X, q.1 ≠ fr → q.1 ≠ ra → q.1 ≠ rp → q.1 ≠ rq → q.1 ≠ s0 → q.1 ≠ ar → q.1 ≠ nu → q ∈ X := fun _ h _ _ _ _ _ _ _ => h
  have n_t0_fr : t0 ≠ fr := y_ne hV hTo h_fr (fun q => by injection q with q; injection q with q1 q2; exact absurd q1 (by decide))
  have n_t0_ra : t0 ≠ ra := y_ne hV hTo h_ra (fun q => nomatch q)
  have n_t0_rp : t0 ≠ rp := y_ne hV hTo h_rp (fun q => nomatch q)
  have n_t0_rq : t0 ≠ rq := y_ne hV hTo h_rq (fun q => nomatch q)
  have n_t0_s0 : t0 ≠ s0 := y_ne hV hTo h_s0 (fun q => by injection q with q; injection q with q1 q2; exact absurd q1 (by decide))
  have n_t0_ar : t0 ≠ ar := y_ne hV hTo h_ar (fun q => by injection q with q; injection q with q1 q2; exact absurd q1 (by decide))
  have n_t0_nu : t0 ≠ nu := y_ne hV hTo h_nu (fun q => nomatch q)
  have n_no_fr : no ≠ fr := y_ne hV hNo h_fr (fun q => by injection q with q; injection q with q1 q2; exact absurd q1 (by decide))
  have n_no_ra : no ≠ ra := y_ne hV hNo h_ra (fun q => nomatch q)
  have n_no_rp : no ≠ rp := y_ne hV hNo h_rp (fun q => nomatch q)
  have n_no_rq : no ≠ rq := y_ne hV hNo h_rq (fun q => nomatch q)
  have n_no_s0 : no ≠ s0 := y_ne hV hNo h_s0 (fun q => by injection q with q; injection q with q1 q2; exact absurd q1 (by decide))
  have n_no_ar : no ≠ ar := y_ne hV hNo h_ar (fun q => by injection q with q; injection q with q1 q2; exact absurd q1 (by decide))
  have n_no_nu : no ≠ nu := y_ne hV hNo h_nu (fun q => nomatch q)
  have n_ch_fr : ch ≠ fr := y_ne hV h_ch h_fr (fun q => nomatch q)
  have n_ch_ra : ch ≠ ra := y_ne hV h_ch h_ra (fun q => by injection q with q; injection q with q1 q2; injection q2 with q3 q4; first | exact absurd q3 (by decide) | (injection q4 with q5; cases q5))
  have n_ch_rp : ch ≠ rp := y_ne hV h_ch h_rp (fun q => by injection q with q; injection q with q1 q2; injection q2 with q3 q4; first | exact absurd q3 (by decide) | (injection q4 with q5; cases q5))
  have n_ch_rq : ch ≠ rq := y_ne hV h_ch h_rq (fun q => by injection q with q; injection q with q1 q2; injection q2 with q3 q4; first | exact absurd q3 (by decide) | (injection q4 with q5; cases q5))
  have n_ch_s0 : ch ≠ s0 := y_ne hV h_ch h_s0 (fun q => nomatch q)
  have n_ch_ar : ch ≠ ar := y_ne hV h_ch h_ar (fun q => nomatch q)
  have n_ch_nu : ch ≠ nu := y_ne hV h_ch h_nu (fun q => by injection q with q; injection q with q1 q2; injection q2 with q3 q4; first | exact absurd q3 (by decide) | (injection q4 with q5; cases q5))
  have n_fr_ra : fr ≠ ra := y_ne hV h_fr h_ra (fun q => nomatch q)
  have n_fr_rp : fr ≠ rp := y_ne hV h_fr h_rp (fun q => nomatch q)
  have n_fr_rq : fr ≠ rq := y_ne hV h_fr h_rq (fun q => nomatch q)
  have n_fr_s0 : fr ≠ s0 := y_ne hV h_fr h_s0 (fun q => by injection q with q; injection q with q1 q2; exact absurd q1 (by decide))
  have n_fr_ar : fr ≠ ar := y_ne hV h_fr h_ar (fun q => by injection q with q; injection q with q1 q2; exact absurd q1 (by decide))
  have n_fr_nu : fr ≠ nu := y_ne hV h_fr h_nu (fun q => nomatch q)
  have n_ra_s0 : ra ≠ s0 := y_ne hV h_ra h_s0 (fun q => nomatch q)
  have n_ra_ar : ra ≠ ar := y_ne hV h_ra h_ar (fun q => nomatch q)
  have n_ra_nu : ra ≠ nu := y_ne hV h_ra h_nu (fun q => by injection q with q; injection q with q1 q2; injection q2 with q3 q4; first | exact absurd q3 (by decide) | (injection q4 with q5; cases q5))
  have n_rp_s0 : rp ≠ s0 := y_ne hV h_rp h_s0 (fun q => nomatch q)
  have n_rp_ar : rp ≠ ar := y_ne hV h_rp h_ar (fun q => nomatch q)
  have n_rp_nu : rp ≠ nu := y_ne hV h_rp h_nu (fun q => by injection q with q; injection q with q1 q2; injection q2 with q3 q4; first | exact absurd q3 (by decide) | (injection q4 with q5; cases q5))
  have n_rq_s0 : rq ≠ s0 := y_ne hV h_rq h_s0 (fun q => nomatch q)
  have n_rq_ar : rq ≠ ar := y_ne hV h_rq h_ar (fun q => nomatch q)
  have n_rq_nu : rq ≠ nu := y_ne hV h_rq h_nu (fun q => by injection q with q; injection q with q1 q2; injection q2 with q3 q4; first | exact absurd q3 (by decide) | (injection q4 with q5; cases q5))
  have n_s0_ar : s0 ≠ ar := y_ne hV h_s0 h_ar (fun q => by injection q with q; injection q with q1 q2; exact absurd q1 (by decide))
  have n_s0_nu : s0 ≠ nu := y_ne hV h_s0 h_nu (fun q => nomatch q)
  have n_ar_nu : ar ≠ nu := y_ne hV h_ar h_nu (fun q => nomatch q)
  refine lv_iload_n hx hb dX11_turn_0 rfl (lv_at hl 2 rfl) ?_
  refine lv_iconst (v := Int32.ofInt (1)) hx hb dX11_turn_1 (by decide) ?_
  refine g_icmp_lt (tgt := 11) hx hb (by first | assumption | exact ⟨by omega, by omega⟩) (by first | assumption | exact ⟨by omega, by omega⟩) dX11_turn_2 (by decide) (fun c_2 => ?_) (fun c_2 => ?_)
  · skip
    refine lv_bipush (v := Int32.ofInt (-102)) hx hb dX11_turn_11 (by decide) ?_
    have hpost : ((-102) : Int) = (if low < 1 ∨ 120 < low then -102 else if mo < hfO (dnm up low sn) then -105 else 0) := by rw [if_pos (by omega)]
    exact e_iret hx hb hr hK hV ⟨by decide, by decide⟩ hpost dX11_turn_13 hlocks
  · skip
    refine lv_iload_n hx hb dX11_turn_5 rfl (lv_at hl 2 rfl) ?_
    refine lv_bipush (v := Int32.ofInt (120)) hx hb dX11_turn_6 (by decide) ?_
    refine g_icmp_le (tgt := 14) hx hb (by first | assumption | exact ⟨by omega, by omega⟩) (by first | assumption | exact ⟨by omega, by omega⟩) dX11_turn_8 (by decide) (fun c_8 => ?_) (fun c_8 => ?_)
    · skip
      refine lv_aload_n hx hb dX11_turn_14 rfl (lv_at hl 0 rfl) ?_
      refine lv_lload_n hx hb dX11_turn_15 rfl (lv_at hl 1 rfl) ?_
      refine lv_iload_n hx hb dX11_turn_16 rfl (lv_at hl 2 rfl) ?_
      refine lv_iload hx hb dX11_turn_17 (lv_at hl 3 rfl) ?_
      refine e_calli (k2 := 1) (n2 := 14) (f := 6) (kl := 187) (As := [Jz (up), Iz (low), Iz (sn)]) (rest := []) E (k11_circle (v := v) (xs := xs) (up := up) (low := low) (sn := sn) h_ar h_fr mle hO hN (kpX _ hTo n_t0_fr n_t0_ra n_t0_rp n_t0_rq n_t0_s0 n_t0_ar n_t0_nu) hS (kpX _ hNo n_no_fr n_no_ra n_no_rp n_no_rq n_no_s0 n_no_ar n_no_nu) h_ra h_rp h_rq nap naq_ npq u0 u1 (by omega) (by omega) s0_ s1_ m10 m1 hTF) (cwV 3 hts (cGood cl_X11_151 ci_X11_circle cs_X11_circle cn_RX11 cc_X11_circle) rfl rfl rfl (by decide +kernel) ⟨Nat.le_of_ble_eq_true rfl, Nat.le_of_ble_eq_true rfl⟩) (x_recv (q := (RX11, TX11, 20)) hK hV (ci := 11) rfl (pW_x h_ar)) hK hV hA hR ⟨by decide, by decide⟩ rfl hl.1 (Nat.le_of_ble_eq_true rfl) dX11_turn_19 (fun z19 X19 dd19 nn19 ss19 ll19 gg19 H locs q19 hV hm19 => ?_)
      obtain ⟨v19, pd19, X219, a119, a219, a319, a419, e1_, hN, hf19, kp19, hz19, h319⟩ := q19
      obtain rfl := e1_.symm
      have h_s0 := kp19 _ h_s0 (Ne.symm n_fr_s0) (Ne.symm n_ra_s0) (Ne.symm n_rp_s0) (Ne.symm n_rq_s0)
      have h_ar := kp19 _ h_ar (Ne.symm n_fr_ar) (Ne.symm n_ra_ar) (Ne.symm n_rp_ar) (Ne.symm n_rq_ar)
      have h_nu := kp19 _ h_nu (Ne.symm n_fr_nu) (Ne.symm n_ra_nu) (Ne.symm n_rp_nu) (Ne.symm n_rq_nu)
      have kpX : ∀ q ∈ X, q.1 ≠ fr → q.1 ≠ ra → q.1 ≠ rp → q.1 ≠ rq → q.1 ≠ s0 → q.1 ≠ ar → q.1 ≠ nu → q ∈ X219 := fun q h nk_fr nk_ra nk_rp nk_rq nk_s0 nk_ar nk_nu => kp19 q (kpX q h nk_fr nk_ra nk_rp nk_rq nk_s0 nk_ar nk_nu) nk_fr nk_ra nk_rp nk_rq
      have h_fr := hf19
      refine W.widen (k := cP LB ll19 - cP LB ll + 1) (n := 2 * (cP LB ll19 - cP LB ll) + 14) (Nat.le_refl _) (Nat.le_refl _) ?_
      refine lv_istore (lv' := [(5, Iz (z19)), (0, .ref ar), (1, Jz (up)), (3, Iz (low)), (4, Iz (sn))]) hx hb dX11_turn_22 hl (by decide) rfl (fun ls hl => ?_)
      refine lv_iload hx hb dX11_turn_24 (lv_at hl 0 rfl) ?_
      refine lv_iconst (v := Int32.ofInt (3)) hx hb dX11_turn_26 (by decide) ?_
      refine g_icmp_ne (tgt := 36) hx hb (by first | assumption | exact ⟨by omega, by omega⟩) (by first | assumption | exact ⟨by omega, by omega⟩) dX11_turn_27 (by decide) (fun c_27 => ?_) (fun c_27 => ?_)
      · skip
        refine lv_iload hx hb dX11_turn_36 (lv_at hl 0 rfl) ?_
        refine g_if_eq (tgt := 46) hx hb (by first | assumption | exact ⟨by omega, by omega⟩) dX11_turn_38 (by decide) (fun c_38 => ?_) (fun c_38 => ?_)
        · skip
          refine lv_aload_n hx hb dX11_turn_46 rfl (lv_at hl 1 rfl) ?_
          refine e_calliC (k2 := 91) (n2 := 307) (f := 4) (kl := 130) (As := []) (rest := []) E (k11_keep h_ar h_fr h_nu) (cwV 0 hts (cGood cl_X11_116 ci_X11_keep cs_X11_keep cn_RX11 cc_X11_keep) rfl rfl rfl (by decide +kernel) ⟨Nat.le_of_ble_eq_true rfl, Nat.le_of_ble_eq_true rfl⟩) (x_recv (q := (RX11, TX11, 20)) hK hV (ci := 11) rfl (pW_x h_ar)) hK hC hV hA hR ⟨by decide, by decide⟩ rfl hl.1 (Nat.le_of_ble_eq_true rfl) dX11_turn_47 (fun z47 X47 dd47 nn47 ss47 ll47 gg47 H locs q47 hV hm47 => ?_)
          obtain rfl := q47
          refine W.widen (k := cP LB ll47 - cP LB ll + 92) (n := 2 * (cP LB ll47 - cP LB ll) + 321) (Nat.le_refl _) (Nat.le_refl _) ?_
          have hpost : (0 : Int) = (if low < 1 ∨ 120 < low then -102 else if mo < hfO (dnm up low sn) then -105 else 0) := by
            rw [if_neg (by omega)]
            by_cases w : mo < hfO (dnm up low sn)
            · rw [if_pos w] at hz19 ⊢; omega
            · rw [if_neg w] at hz19
              refine Eq.trans ?_ (if_neg w).symm
              by_cases w2 : hfO (dnm up low sn) = 1
              · (rw [if_pos w2] at hz19) <;> omega
              · (rw [if_neg w2] at hz19) <;> omega
          exact e_iret hx hb hr hK hV ⟨by decide, by decide⟩ hpost dX11_turn_50 hlocks
        · skip
          refine lv_iload hx hb dX11_turn_41 (lv_at hl 0 rfl) ?_
          refine lv_goto (tgt := 50) hx hb dX11_turn_43 (by decide) ?_
          have hpost : (z19 : Int) = (if low < 1 ∨ 120 < low then -102 else if mo < hfO (dnm up low sn) then -105 else 0) := by
            rw [if_neg (by omega)]
            by_cases w : mo < hfO (dnm up low sn)
            · rw [if_pos w] at hz19 ⊢; omega
            · rw [if_neg w] at hz19
              refine Eq.trans ?_ (if_neg w).symm
              by_cases w2 : hfO (dnm up low sn) = 1
              · (rw [if_pos w2] at hz19) <;> omega
              · (rw [if_neg w2] at hz19) <;> omega
          exact e_iret hx hb hr hK hV ⟨by decide, by decide⟩ hpost dX11_turn_50 hlocks
      · skip
        refine lv_aload_n hx hb dX11_turn_30 rfl (lv_at hl 1 rfl) ?_
        obtain ⟨tp1, tp2, tp3⟩ := h319 (by omega)
        have hw10 : hfO (dnm up low sn) ≠ 1 ∧ hfO (dnm up low sn) ≤ 10 := by
          by_cases w : mo < hfO (dnm up low sn)
          · rw [if_pos w] at hz19; omega
          · rw [if_neg w] at hz19
            by_cases w2 : hfO (dnm up low sn) = 1
            · rw [if_pos w2] at hz19; omega
            · exact ⟨w2, by omega⟩
        obtain ⟨pb1, pb2, pb3, pb4, pb5⟩ := place_bd (up := up) (sn := sn) hTF hTU (by omega) (by omega) hw10.1 hw10.2
        obtain ⟨C, hC0_, hCk, hC200, hCL⟩ := hTP (dnm up low sn) pb1 pb2 pb3 hw10.2
        refine e_calli (k2 := 0) (n2 := 0) (f := 6) (kl := 179) (As := []) (rest := []) E (k11_takePlace (v := v19) (cp := cp) (n := (hfO (dnm up low sn)).toNat) (C := C) h_ar h_fr mle hO hN h_s0 hU (kpX _ hTo n_t0_fr n_t0_ra n_t0_rp n_t0_rq n_t0_s0 n_t0_ar n_t0_nu) hS (kpX _ h_ch n_ch_fr n_ch_ra n_ch_rp n_ch_rq n_ch_s0 n_ch_ar n_ch_nu) hcp hcj mrl srl crl mrh srh crh mbu sbu cbu nlh hfc (by rw [tp1]; omega) (fun k hk => (tp2 k (by omega)).trans (hC0_ k hk).symm) hCk hC200 (by rw [tp3]; exact pb4) (by rw [tp3]; omega) (by rw [tp3]; exact hCL _ pb4 pb5)) (cwV 0 hts (cGood cl_X11_155 ci_X11_takePlace cs_X11_takePlace cn_RX11 cc_X11_takePlace) rfl rfl rfl (by decide +kernel) ⟨Nat.le_of_ble_eq_true rfl, Nat.le_of_ble_eq_true rfl⟩) (x_recv (q := (RX11, TX11, 20)) hK hV (ci := 11) rfl (pW_x h_ar)) hK hV hA hR ⟨by decide, by decide⟩ rfl hl.1 (Nat.le_of_ble_eq_true rfl) dX11_turn_31 (fun z31 X31 dd31 nn31 ss31 ll31 gg31 H locs q31 hV hm31 => ?_)
        obtain ⟨rfl, v31, pd31, X231, a131, a231, a331, a431, e1_, hN, hf31, kp31⟩ := q31
        obtain rfl := e1_.symm
        have h_ar := kp31 _ h_ar (Ne.symm n_fr_ar) (Ne.symm n_s0_ar)
        have h_nu := kp31 _ h_nu (Ne.symm n_fr_nu) (Ne.symm n_s0_nu)
        have kpX : ∀ q ∈ X, q.1 ≠ fr → q.1 ≠ ra → q.1 ≠ rp → q.1 ≠ rq → q.1 ≠ s0 → q.1 ≠ ar → q.1 ≠ nu → q ∈ X231 := fun q h nk_fr nk_ra nk_rp nk_rq nk_s0 nk_ar nk_nu => kp31 q (kpX q h nk_fr nk_ra nk_rp nk_rq nk_s0 nk_ar nk_nu) nk_fr nk_s0
        have h_fr := hf31
        refine W.widen (k := cP LB ll31 - cP LB ll + 1) (n := 2 * (cP LB ll31 - cP LB ll) + 14) (Nat.le_refl _) (Nat.le_refl _) ?_
        refine lv_istore (lv' := [(5, Iz (0)), (0, .ref ar), (1, Jz (up)), (3, Iz (low)), (4, Iz (sn))]) hx hb dX11_turn_34 hl (by decide) rfl (fun ls hl => ?_)
        refine lv_iload hx hb dX11_turn_36 (lv_at hl 0 rfl) ?_
        refine g_if_eq (tgt := 46) hx hb (by first | assumption | exact ⟨by omega, by omega⟩) dX11_turn_38 (by decide) (fun c_38 => ?_) (fun c_38 => ?_)
        · skip
          refine lv_aload_n hx hb dX11_turn_46 rfl (lv_at hl 1 rfl) ?_
          refine e_calliC (k2 := 91) (n2 := 307) (f := 4) (kl := 130) (As := []) (rest := []) E (k11_keep h_ar h_fr h_nu) (cwV 0 hts (cGood cl_X11_116 ci_X11_keep cs_X11_keep cn_RX11 cc_X11_keep) rfl rfl rfl (by decide +kernel) ⟨Nat.le_of_ble_eq_true rfl, Nat.le_of_ble_eq_true rfl⟩) (x_recv (q := (RX11, TX11, 20)) hK hV (ci := 11) rfl (pW_x h_ar)) hK hC hV hA hR ⟨by decide, by decide⟩ rfl hl.1 (Nat.le_of_ble_eq_true rfl) dX11_turn_47 (fun z47 X47 dd47 nn47 ss47 ll47 gg47 H locs q47 hV hm47 => ?_)
          obtain rfl := q47
          refine W.widen (k := cP LB ll47 - cP LB ll + 92) (n := 2 * (cP LB ll47 - cP LB ll) + 321) (Nat.le_refl _) (Nat.le_refl _) ?_
          have hpost : (0 : Int) = (if low < 1 ∨ 120 < low then -102 else if mo < hfO (dnm up low sn) then -105 else 0) := by
            rw [if_neg (by omega)]
            by_cases w : mo < hfO (dnm up low sn)
            · rw [if_pos w] at hz19 ⊢; omega
            · rw [if_neg w] at hz19
              refine Eq.trans ?_ (if_neg w).symm
              by_cases w2 : hfO (dnm up low sn) = 1
              · (rw [if_pos w2] at hz19) <;> omega
              · (rw [if_neg w2] at hz19) <;> omega
          exact e_iret hx hb hr hK hV ⟨by decide, by decide⟩ hpost dX11_turn_50 hlocks
        · omega
    · skip
      refine lv_bipush (v := Int32.ofInt (-102)) hx hb dX11_turn_11 (by decide) ?_
      have hpost : ((-102) : Int) = (if low < 1 ∨ 120 < low then -102 else if mo < hfO (dnm up low sn) then -105 else 0) := by rw [if_pos (by omega)]
      exact e_iret hx hb hr hK hV ⟨by decide, by decide⟩ hpost dX11_turn_13 hlocks
