theorem evP_congr {F G : Nat → Int} {X e : Int} {dg : Nat} (h : ∀ j, j ≤ dg → F j = G j) : ∀ m, evP F X e dg m = evP G X e dg m
  | 0 => h dg (Nat.le_refl _)
  | m + 1 => by
      show evP F X e dg m * X + F (dg - (m + 1)) * _ = evP G X e dg m * X + G (dg - (m + 1)) * _
      rw [evP_congr h m, h _ (Nat.sub_le _ _)]
def upS (cp : Nat → Nat) (pd : Nat → Int) (co : Nat → Nat → Nat) (v : Nat → Int) (X e : Int) (i : Nat) : Int := sg (evP (fun j => v (co (cp i) j)) X e (pd (cp i)).toNat (pd (cp i)).toNat)
set_option maxHeartbeats 4000000 in
set_option maxRecDepth 100000 in
theorem k7_upTo {l : Launch} {dC : Nat → ClassId} {dI : Nat → Nat → Nat} {cx : Nat → Nat} {LB : List Nat} {LP : List Nat} {pc_ : Nat → Nat} {pd : Nat → Int} {co : Nat → Nat → Nat} {X : va_W} {dd : Nat → Nat} {nn ss : Nat → Int} {ll : Nat → Nat} {gg : Nat → Int → Int} {H0 : Heap} {v : Nat → Int} {cp : Nat → Nat} {x : Nat} {ex_ : Int} {t0 ta tb tq tt tu tw tm : Nat} {tf : Int}{s0 ch ug uh uq ut uu : Nat} {sc_ sl_ sw_ : Int}  (hO : pOK LB LP co) (hN : cR LB nn ss ll gg v) (hSo : (s0, (.inr (7, [Iz sc_, .ref t0, .ref ch, Iz sl_, Iz sw_, .ref ug, .ref uh, .ref uq, .ref ut, .ref uu]) : va_E)) ∈ X) (hU : uOK LB LP co ta tb tq tt tu ug uh uq ut uu) (hTo : (t0, (.inr (9, [.ref ta, .ref tb, .ref tq, .ref tt, .ref tu, .ref tw, .ref tm, Iz tf]) : va_E)) ∈ X) (hS : tOK LB LP co ta tb tq tt tu) (hch : (ch, (.inl (cx 3, 14, .inr (.inr (.inr (.inr (fun i => some (cp i)))))) : va_E)) ∈ X) (hcp : ∀ i : Nat, i < 14 → cp i ∈ LP) (hdg : ∀ i : Nat, (i : Int) < sl_ → 0 ≤ pd (cp i) ∧ pd (cp i) ≤ 12) (sl0 : 0 ≤ sl_) (sl1 : sl_ ≤ 14) (mx : x ∈ LB) (nutx : ut ≠ x) (nttx : tt ≠ x) (ntux : tu ≠ x) (e0 : 0 ≤ ex_) (e1_ : ex_ ≤ 250) (sw0 : 0 ≤ sw_) (sw1 : sw_ ≤ 14) (sE : ∀ i : Nat, (i : Int) < sl_ → ∀ m : Nat, m ≤ (pd (cp i)).toNat → ((evP (fun j => v (co (cp i) j)) (v x) ex_ (pd (cp i)).toNat m).natAbs : Int) < 1073741824 ^ 80) (sX : ((v x).natAbs : Int) < 1073741824 ^ 80) (sF : ∀ i : Nat, (i : Int) < sl_ → ∀ j : Nat, (j : Int) ≤ pd (cp i) → ((v (co (cp i) j)).natAbs : Int) < 1073741824 ^ 80) : Met l yX7_upTo (Cond.code yX7_upTo cX7_upTo 7 (some .int) :: w0c) (cRm 4 116 LB ll) (cPc dC dI cx LB (pW cx LP pc_ pd co X) dd nn ss ll gg H0 [.ref s0, .ref x, .null, Iz (ex_)]) (cQi dC dI cx LB (va_A (bW (cx 0) LB dd nn ss ll gg (pW cx LP pc_ pd co X)) H0.size) ll H0 (fun z X' dd' nn' ss' ll' gg' => ∃ v' : Nat → Int, X' = (pW cx LP pc_ pd co X) ∧ cR LB nn' ss' ll' gg' v' ∧ z = sw_ - (chgS (upS cp pd co v (v x) ex_) sl_.toNat).1 ∧ ∀ b : Nat, b ≠ ut → b ≠ tt → b ≠ tu → v' b = v b)) (cMc LB ll) (2 * cMc LB ll) (va_A (bW (cx 0) LB dd nn ss ll gg (pW cx LP pc_ pd co X)) H0.size) := by
  refine Met.ofW (cc := cX7_upTo) (maxL := 7) (ret := (some .int)) (by decide) rfl ?_
  intro p e s m args below meth c s₁ B hml hv
  obtain ⟨rfl, hH0, hP, hK, hD0, hC0⟩ := hv
  have hx := B.exec
  have hb := B.bytes
  have hr := B.returns
  have hts := atoms_spec (ws := Cond.code yX7_upTo cX7_upTo 7 (some .int) :: w0c) B.pre
  have hown : s.vm.findClass RX7 = some m.cls := findClass_of_methodNamed B.named
  have hlocks := B.notSynchronized
  have E : CallFix p m c cX7_upTo 7 s _ (Cond.code yX7_upTo cX7_upTo 7 (some .int) :: w0c) RX7 := ⟨hx, hb, hml, hown, hts⟩
  subst hH0
  have hD := va_D.self (sz := s.heap.size) hD0
  have hA : ∀ q : Nat, s.heap.size ≤ q → va_A (bW (cx 0) LB dd nn ss ll gg (pW cx LP pc_ pd co X)) s.heap.size q := fun q h => Or.inr h
  have hV : cV dC dI cx LB (va_A (bW (cx 0) LB dd nn ss ll gg (pW cx LP pc_ pd co X)) s.heap.size) s.heap ll (pW cx LP pc_ pd co X) dd nn ss ll gg s.heap [] := ⟨hP, hD, va_S.rf, fun _ _ => Nat.le_refl _, hC0⟩
  have hR : (headSpec (Cond.code yX7_upTo cX7_upTo 7 (some .int) :: w0c) (cRm 4 116 LB ll)).room.cells = cMc LB ll ∧ (headSpec (Cond.code yX7_upTo cX7_upTo 7 (some .int) :: w0c) (cRm 4 116 LB ll)).room.slots = 2 * cMc LB ll := ⟨rfl, rfl⟩
  refine W.widen (k := cP LB ll - cP LB ll) (n := 2 * (cP LB ll - cP LB ll)) (Nat.zero_le _) (Nat.zero_le _) ?_
  have hl := lv_entry ([.ref s0, .ref x, .null, Iz (ex_)]) (n := 7) (Nat.le_of_ble_eq_true rfl)
  rw [lg_entry_eq]
  generalize (lg_sl ([.ref s0, .ref x, .null, Iz (ex_)]) ++ List.replicate (7 - (lg_sl ([.ref s0, .ref x, .null, Iz (ex_)])).length) Slot.unset).toArray = ls at hl ⊢
  have hl : lv_has ls 7 [(0, .ref s0), (1, .ref x), (2, .null), (3, Iz (ex_))] := hl
  obtain ⟨⟨mta, mtb, mtq, mtt, mtu⟩, ⟨nab, naq, nat_, nau⟩, ⟨nbq, nbt, nbu⟩, ⟨nqt, nqu⟩, ntu, scA⟩ := id hS
  have sca : ∀ p ∈ LP, ∀ i : Nat, i < 13 → co p i ≠ ta := fun p h i w => (scA p h i w).1
  have sct : ∀ p ∈ LP, ∀ i : Nat, i < 13 → co p i ≠ tt := fun p h i w => (scA p h i w).2.2.2.1
  have scu : ∀ p ∈ LP, ∀ i : Nat, i < 13 → co p i ≠ tu := fun p h i w => (scA p h i w).2.2.2.2
  obtain ⟨⟨mug, muh, muq, mUt, muu⟩, ⟨ngh, ngq, ngt, ngu⟩, ⟨nhq, nht, nhu⟩, ⟨nqt_, nqu_⟩, ntu_, ucA, utA⟩ := id hU
  have scg_ : ∀ p ∈ LP, ∀ i : Nat, i < 13 → co p i ≠ ug := fun p h i w => (ucA p h i w).1
  have sch_ : ∀ p ∈ LP, ∀ i : Nat, i < 13 → co p i ≠ uh := fun p h i w => (ucA p h i w).2.1
  have scq_ : ∀ p ∈ LP, ∀ i : Nat, i < 13 → co p i ≠ uq := fun p h i w => (ucA p h i w).2.2.1
  have sct_ : ∀ p ∈ LP, ∀ i : Nat, i < 13 → co p i ≠ ut := fun p h i w => (ucA p h i w).2.2.2.1
  have scu_ : ∀ p ∈ LP, ∀ i : Nat, i < 13 → co p i ≠ uu := fun p h i w => (ucA p h i w).2.2.2.2
  refine lv_iconst (v := Int32.ofInt (0)) hx hb dX7_upTo_0 (by decide) ?_
  refine lv_istore (lv' := [(4, Iz (0)), (0, .ref s0), (1, .ref x), (2, .null), (3, Iz (ex_))]) hx hb dX7_upTo_1 hl (by decide) rfl (fun ls hl => ?_)
  refine lv_iconst (v := Int32.ofInt (0)) hx hb dX7_upTo_3 (by decide) ?_
  refine lv_istore (lv' := [(5, Iz (0)), (4, Iz (0)), (0, .ref s0), (1, .ref x), (2, .null), (3, Iz (ex_))]) hx hb dX7_upTo_4 hl (by decide) rfl (fun ls hl => ?_)
  refine lv_iconst (v := Int32.ofInt (0)) hx hb dX7_upTo_6 (by decide) ?_
  refine lv_istore (lv' := [(6, Iz (0)), (5, Iz (0)), (4, Iz (0)), (0, .ref s0), (1, .ref x), (2, .null), (3, Iz (ex_))]) hx hb dX7_upTo_7 hl (by decide) rfl (fun ls hl => ?_)
  refine r_loop2 (P := fun N_ ce sl H locs ls => ∃ dd_9 : Nat → Nat, ∃ nn_9 ss_9 : Nat → Int, ∃ ll_9 : Nat → Nat, ∃ gg_9 : Nat → Int → Int, ∃ v_9 : Nat → Int, ∃ cg : Int, ∃ la : Int, ∃ i : Int, N_ = (sl_ - i).toNat ∧ ce = cP LB ll_9 - cP LB ll ∧ sl = 2 * (cP LB ll_9 - cP LB ll) ∧ cR LB nn_9 ss_9 ll_9 gg_9 v_9 ∧ (0 ≤ i) ∧ (i ≤ sl_) ∧ (cg = (chgS (upS cp pd co v (v x) ex_) i.toNat).1) ∧ (la = (chgS (upS cp pd co v (v x) ex_) i.toNat).2) ∧ (0 ≤ cg) ∧ (cg ≤ i) ∧ (-1 ≤ la) ∧ (la ≤ 1) ∧ (∀ b : Nat, b ≠ ut → b ≠ tt → b ≠ tu → v_9 b = v b) ∧ cV dC dI cx LB (va_A (bW (cx 0) LB dd nn ss ll gg (pW cx LP pc_ pd co X)) s.heap.size) s.heap ll (pW cx LP pc_ pd co X) dd_9 nn_9 ss_9 ll_9 gg_9 H locs ∧ lv_has ls 7 [(0, .ref s0), (1, .ref x), (2, .null), (3, Iz (ex_)), (4, Iz (cg)), (5, Iz (la)), (6, Iz (i))]) (g := fun ls => F0 m 9 ls []) (fun N_ ce sl H locs ls hI ih_9 => ?_) _ _ _ _ _ _ ⟨_, _, _, _, _, v, 0, 0, 0, rfl, rfl, rfl, hN, (Int.le_refl 0), (sl0), (rfl), (rfl), (by omega), (by omega), (by omega), (by omega), (fun b _ _ _ => rfl), hV, lv_sub hl [3, 4, 5, 6, 2, 1, 0] rfl⟩
  obtain ⟨dd_9, nn_9, ss_9, ll_9, gg_9, v_9, cg, la, i, rfl, rfl, rfl, hN, i0, i1, f1, f2, b1, b2, b3, b4, c2, hV, hl⟩ := hI
  refine lv_iload hx hb dX7_upTo_9 (lv_at hl 6 rfl) ?_
  refine lv_aload_n hx hb dX7_upTo_11 rfl (lv_at hl 0 rfl) ?_
  refine x_get E hK hV (ci := 7) (C := RX7) (T := TX7) (N := 10) rfl w0c_in7 (pW_x hSo) 3 (by decide) rfl cf_7_53 rfl dX7_upTo_12 ?_
  refine g_icmp_ge (tgt := 80) hx hb (by first | assumption | exact ⟨by omega, by omega⟩) (by first | assumption | exact ⟨by omega, by omega⟩) dX7_upTo_15 (by decide) (fun c_15 => ?_) (fun c_15 => ?_)
  · skip
    refine lv_aload_n hx hb dX7_upTo_80 rfl (lv_at hl 0 rfl) ?_
    refine x_get E hK hV (ci := 7) (C := RX7) (T := TX7) (N := 10) rfl w0c_in7 (pW_x hSo) 4 (by decide) rfl cf_7_94 rfl dX7_upTo_81 ?_
    refine lv_iload hx hb dX7_upTo_84 (lv_at hl 4 rfl) ?_
    refine g_isub hx hb dX7_upTo_86 ?_
    have hpost : ∃ v' : Nat → Int, (pW cx LP pc_ pd co X) = (pW cx LP pc_ pd co X) ∧ cR LB nn_9 ss_9 ll_9 gg_9 v' ∧ (sw_ - cg : Int) = sw_ - (chgS (upS cp pd co v (v x) ex_) sl_.toNat).1 ∧ ∀ b : Nat, b ≠ ut → b ≠ tt → b ≠ tu → v' b = v b := ⟨_, rfl, hN, by rw [f1, show i = sl_ by omega], c2⟩
    exact c_iret hx hb hr hK hV hpost dX7_upTo_87 hlocks
  · skip
    have hd_ := hdg i.toNat (by omega)
    have x9 : v_9 x = v x := c2 x (Ne.symm nutx) (Ne.symm nttx) (Ne.symm ntux)
    have c9 : ∀ j : Nat, j ≤ (pd (cp i.toNat)).toNat → v_9 (co (cp i.toNat) j) = v (co (cp i.toNat) j) := fun j hj => c2 _ (sct_ _ (hcp _ (by omega)) _ (by omega)) (sct _ (hcp _ (by omega)) _ (by omega)) (scu _ (hcp _ (by omega)) _ (by omega))
    have ev9 : ∀ m : Nat, evP (fun j => v_9 (co (cp i.toNat) j)) (v_9 x) ex_ (pd (cp i.toNat)).toNat m = evP (fun j => v (co (cp i.toNat) j)) (v x) ex_ (pd (cp i.toNat)).toNat m := fun m => by rw [x9]; exact evP_congr c9 m
    refine lv_aload_n hx hb dX7_upTo_18 rfl (lv_at hl 0 rfl) ?_
    refine x_get E hK hV (ci := 7) (C := RX7) (T := TX7) (N := 10) rfl w0c_in7 (pW_x hSo) 1 (by decide) rfl cf_7_34 rfl dX7_upTo_19 ?_
    refine lv_aload_n hx hb dX7_upTo_22 rfl (lv_at hl 0 rfl) ?_
    refine x_get E hK hV (ci := 7) (C := RX7) (T := TX7) (N := 10) rfl w0c_in7 (pW_x hSo) 2 (by decide) rfl cf_7_9 rfl dX7_upTo_23 ?_
    refine lv_iload hx hb dX7_upTo_26 (lv_at hl 6 rfl) ?_
    refine y_aaldq hx hb hK hV (t0 := 3) rfl hch (by omega) (by omega) (by omega) dX7_upTo_28 ?_
    refine lv_aload_n hx hb dX7_upTo_29 rfl (lv_at hl 1 rfl) ?_
    refine lv_aload_nN hx hb dX7_upTo_30 rfl (lv_at hl 2 rfl) ?_
    refine lv_iload_n hx hb dX7_upTo_31 rfl (lv_at hl 3 rfl) ?_
    refine lv_aload_n hx hb dX7_upTo_32 rfl (lv_at hl 0 rfl) ?_
    refine x_get E hK hV (ci := 7) (C := RX7) (T := TX7) (N := 10) rfl w0c_in7 (pW_x hSo) 8 (by decide) rfl cf_7_28 rfl dX7_upTo_33 ?_
    refine c_callv (As := [.ref (cp i.toNat), .ref x, .null, Iz (ex_), .ref ut]) (rest := []) E (k9_eval (v := v_9) (f := cp i.toNat) (x := x) (ou := ut) (ex_ := ex_) (hcp _ (by omega)) hO hN hTo hS mx mUt nutx nttx (utA tt (Or.inr (Or.inr (Or.inr (Or.inl rfl))))).2.2.2.1 (utA tu (Or.inr (Or.inr (Or.inr (Or.inr rfl))))).2.2.2.1 ntux sct_ hd_.1 hd_.2 e0 e1_ (fun m hm => by rw [ev9 m]; exact sE i.toNat (by omega) m hm) (by rw [x9]; exact sX) (fun j hj => by rw [c9 j (by omega)]; exact sF i.toNat (by omega) j hj)) (cwV 5 hts (cGood cl_X7_113 ci_X9_eval cs_X9_eval cn_RX9 cc_X9_eval) rfl rfl rfl (by decide +kernel) ⟨Nat.le_of_ble_eq_true rfl, Nat.le_of_ble_eq_true rfl⟩) (x_recv (q := (RX9, TX9, 8)) hK hV (ci := 9) rfl (pW_x hTo)) hK hV hA hR rfl hl.1 (Nat.le_of_ble_eq_true rfl) dX7_upTo_36 (fun X36 dd36 nn36 ss36 ll36 gg36 H locs q36 hV hm36 => ?_)
    obtain ⟨v36, e9_, hN, ve36, vo36⟩ := q36
    obtain rfl := e9_.symm
    have sgt := num1_sg (hN ut mUt)
    have eS : ss36 ut = (upS cp pd co v (v x) ex_) i.toNat := by rw [sgt, ve36, ev9]; rfl
    have sb36 := sg_bd (v36 ut)
    have ms := mul1 (x := ss36 ut) (y := la) (by omega) (by omega) (by omega) (by omega)
    refine lv_aload_n hx hb dX7_upTo_39 rfl (lv_at hl 0 rfl) ?_
    refine x_get E hK hV (ci := 7) (C := RX7) (T := TX7) (N := 10) rfl w0c_in7 (pW_x hSo) 8 (by decide) rfl cf_7_28 rfl dX7_upTo_40 ?_
    refine t_gets E hK hV mUt rfl cf_7_104 dX7_upTo_43 ?_
    refine lv_iload hx hb dX7_upTo_46 (lv_at hl 5 rfl) ?_
    refine g_imul hx hb dX7_upTo_48 ?_
    refine g_if_ge (tgt := 55) hx hb ⟨by omega, by omega⟩ dX7_upTo_49 (by decide) (fun c_49 => ?_) (fun c_49 => ?_)
    · skip
      refine lv_aload_n hx hb dX7_upTo_55 rfl (lv_at hl 0 rfl) ?_
      refine x_get E hK hV (ci := 7) (C := RX7) (T := TX7) (N := 10) rfl w0c_in7 (pW_x hSo) 8 (by decide) rfl cf_7_28 rfl dX7_upTo_56 ?_
      refine t_gets E hK hV mUt rfl cf_7_104 dX7_upTo_59 ?_
      refine g_if_eq (tgt := 74) hx hb ⟨by omega, by omega⟩ dX7_upTo_62 (by decide) (fun c_62 => ?_) (fun c_62 => ?_)
      · skip
        refine g_iinc (k := 6) (z := i) (n := (1)) (lv' := [(6, Iz (i + 1)), (0, .ref s0), (1, .ref x), (2, .null), (3, Iz (ex_)), (4, Iz (cg)), (5, Iz (la))]) hx hb dX7_upTo_74 hl rfl (by decide) rfl (fun ls hl => ?_)
        refine lv_goto (tgt := 9) hx hb dX7_upTo_77 (by decide) ?_
        exact ih_9 _ (by omega) _ _ _ _ _ ⟨_, _, _, _, _, v36, cg, la, (i + 1), rfl, rfl, rfl, hN, (by omega), (by omega), (by rw [show (i + 1).toNat = i.toNat + 1 by omega]; show _ = (chgS _ i.toNat).1 + (if _ * (chgS _ i.toNat).2 < 0 then 1 else 0); rw [← f1, ← f2, ← eS]; first | rw [if_pos (by omega)] | (rw [if_neg (by omega), Int.add_zero])), (by rw [show (i + 1).toNat = i.toNat + 1 by omega]; show _ = (if _ = 0 then (chgS _ i.toNat).2 else _); rw [← f2, ← eS]; first | rw [if_pos (by omega)] | rw [if_neg (by omega)]), (by omega), (by omega), (by omega), (by omega), (fun b h1 h2 h3 => (vo36 b h1 h2 h3).trans (c2 b h1 h2 h3)), hV, lv_sub hl [1, 2, 3, 4, 5, 6, 0] rfl⟩
      · skip
        refine lv_aload_n hx hb dX7_upTo_65 rfl (lv_at hl 0 rfl) ?_
        refine x_get E hK hV (ci := 7) (C := RX7) (T := TX7) (N := 10) rfl w0c_in7 (pW_x hSo) 8 (by decide) rfl cf_7_28 rfl dX7_upTo_66 ?_
        refine t_gets E hK hV mUt rfl cf_7_104 dX7_upTo_69 ?_
        refine lv_istore (lv' := [(5, Iz (ss36 ut)), (0, .ref s0), (1, .ref x), (2, .null), (3, Iz (ex_)), (4, Iz (cg)), (6, Iz (i))]) hx hb dX7_upTo_72 hl (by decide) rfl (fun ls hl => ?_)
        refine g_iinc (k := 6) (z := i) (n := (1)) (lv' := [(6, Iz (i + 1)), (5, Iz (ss36 ut)), (0, .ref s0), (1, .ref x), (2, .null), (3, Iz (ex_)), (4, Iz (cg))]) hx hb dX7_upTo_74 hl rfl (by decide) rfl (fun ls hl => ?_)
        refine lv_goto (tgt := 9) hx hb dX7_upTo_77 (by decide) ?_
        exact ih_9 _ (by omega) _ _ _ _ _ ⟨_, _, _, _, _, v36, cg, (ss36 ut), (i + 1), rfl, rfl, rfl, hN, (by omega), (by omega), (by rw [show (i + 1).toNat = i.toNat + 1 by omega]; show _ = (chgS _ i.toNat).1 + (if _ * (chgS _ i.toNat).2 < 0 then 1 else 0); rw [← f1, ← f2, ← eS]; first | rw [if_pos (by omega)] | (rw [if_neg (by omega), Int.add_zero])), (by rw [show (i + 1).toNat = i.toNat + 1 by omega]; show _ = (if _ = 0 then (chgS _ i.toNat).2 else _); rw [← f2, ← eS]; first | rw [if_pos (by omega)] | rw [if_neg (by omega)]), (by omega), (by omega), (by omega), (by omega), (fun b h1 h2 h3 => (vo36 b h1 h2 h3).trans (c2 b h1 h2 h3)), hV, lv_sub hl [2, 3, 4, 5, 6, 1, 0] rfl⟩
    · skip
      refine g_iinc (k := 4) (z := cg) (n := (1)) (lv' := [(4, Iz (cg + 1)), (0, .ref s0), (1, .ref x), (2, .null), (3, Iz (ex_)), (5, Iz (la)), (6, Iz (i))]) hx hb dX7_upTo_52 hl rfl (by decide) rfl (fun ls hl => ?_)
      refine lv_aload_n hx hb dX7_upTo_55 rfl (lv_at hl 1 rfl) ?_
      refine x_get E hK hV (ci := 7) (C := RX7) (T := TX7) (N := 10) rfl w0c_in7 (pW_x hSo) 8 (by decide) rfl cf_7_28 rfl dX7_upTo_56 ?_
      refine t_gets E hK hV mUt rfl cf_7_104 dX7_upTo_59 ?_
      refine g_if_eq (tgt := 74) hx hb ⟨by omega, by omega⟩ dX7_upTo_62 (by decide) (fun c_62 => ?_) (fun c_62 => ?_)
      · skip
        refine g_iinc (k := 6) (z := i) (n := (1)) (lv' := [(6, Iz (i + 1)), (4, Iz (cg + 1)), (0, .ref s0), (1, .ref x), (2, .null), (3, Iz (ex_)), (5, Iz (la))]) hx hb dX7_upTo_74 hl rfl (by decide) rfl (fun ls hl => ?_)
        refine lv_goto (tgt := 9) hx hb dX7_upTo_77 (by decide) ?_
        exact ih_9 _ (by omega) _ _ _ _ _ ⟨_, _, _, _, _, v36, (cg + 1), la, (i + 1), rfl, rfl, rfl, hN, (by omega), (by omega), (by rw [show (i + 1).toNat = i.toNat + 1 by omega]; show _ = (chgS _ i.toNat).1 + (if _ * (chgS _ i.toNat).2 < 0 then 1 else 0); rw [← f1, ← f2, ← eS]; first | rw [if_pos (by omega)] | (rw [if_neg (by omega), Int.add_zero])), (by rw [show (i + 1).toNat = i.toNat + 1 by omega]; show _ = (if _ = 0 then (chgS _ i.toNat).2 else _); rw [← f2, ← eS]; first | rw [if_pos (by omega)] | rw [if_neg (by omega)]), (by omega), (by omega), (by omega), (by omega), (fun b h1 h2 h3 => (vo36 b h1 h2 h3).trans (c2 b h1 h2 h3)), hV, lv_sub hl [2, 3, 4, 5, 1, 6, 0] rfl⟩
      · skip
        refine lv_aload_n hx hb dX7_upTo_65 rfl (lv_at hl 1 rfl) ?_
        refine x_get E hK hV (ci := 7) (C := RX7) (T := TX7) (N := 10) rfl w0c_in7 (pW_x hSo) 8 (by decide) rfl cf_7_28 rfl dX7_upTo_66 ?_
        refine t_gets E hK hV mUt rfl cf_7_104 dX7_upTo_69 ?_
        refine lv_istore (lv' := [(5, Iz (ss36 ut)), (4, Iz (cg + 1)), (0, .ref s0), (1, .ref x), (2, .null), (3, Iz (ex_)), (6, Iz (i))]) hx hb dX7_upTo_72 hl (by decide) rfl (fun ls hl => ?_)
        refine g_iinc (k := 6) (z := i) (n := (1)) (lv' := [(6, Iz (i + 1)), (5, Iz (ss36 ut)), (4, Iz (cg + 1)), (0, .ref s0), (1, .ref x), (2, .null), (3, Iz (ex_))]) hx hb dX7_upTo_74 hl rfl (by decide) rfl (fun ls hl => ?_)
        refine lv_goto (tgt := 9) hx hb dX7_upTo_77 (by decide) ?_
        exact ih_9 _ (by omega) _ _ _ _ _ ⟨_, _, _, _, _, v36, (cg + 1), (ss36 ut), (i + 1), rfl, rfl, rfl, hN, (by omega), (by omega), (by rw [show (i + 1).toNat = i.toNat + 1 by omega]; show _ = (chgS _ i.toNat).1 + (if _ * (chgS _ i.toNat).2 < 0 then 1 else 0); rw [← f1, ← f2, ← eS]; first | rw [if_pos (by omega)] | (rw [if_neg (by omega), Int.add_zero])), (by rw [show (i + 1).toNat = i.toNat + 1 by omega]; show _ = (if _ = 0 then (chgS _ i.toNat).2 else _); rw [← f2, ← eS]; first | rw [if_pos (by omega)] | rw [if_neg (by omega)]), (by omega), (by omega), (by omega), (by omega), (fun b h1 h2 h3 => (vo36 b h1 h2 h3).trans (c2 b h1 h2 h3)), hV, lv_sub hl [3, 4, 5, 6, 2, 1, 0] rfl⟩
