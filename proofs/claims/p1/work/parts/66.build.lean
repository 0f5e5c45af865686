/-- Sturm's chain as build() makes it: of the degrees n, n - 1 .. -/
def chG (n : Nat) (C : Nat → Nat → Int) (i : Nat) : Int := if i ≤ 2 then 1 else ((C (i - 2) (n - (i - 2))).natAbs : Int)
def chL (n : Nat) (C : Nat → Nat → Int) (i m : Nat) : Nat → Int := lvP (C (i - 1)) (n - (i - 1)) 1 (C (i - 2)) m
def chOK (n : Nat) (C : Nat → Nat → Int) : Prop :=
  (∀ i, 2 ≤ i → i ≤ n → (∀ m, m ≤ 2 → ∀ k, k ≤ n - (i - 2) → ((chL n C i m k).natAbs : Int) < 1073741824 ^ 80) ∧ chL n C i 2 (n - i) ≠ 0 ∧ ∀ k, k ≤ n - i → C i k = -((chL n C i 2 k).tdiv (chG n C i * chG n C i ^ 1))) ∧
  (∀ i, i ≤ n → C i (n - i) ≠ 0 ∧ ∀ k, k ≤ n - i → ((C i k).natAbs : Int) < 1073741824 ^ 80) ∧ (∀ k, k < n → C 1 k = C 0 (k + 1) * ((k : Int) + 1)) ∧ 2 ≤ n ∧ n ≤ 10
def stN (ta tt tu ug uh uq ut uu b : Nat) : Prop := b ≠ ta ∧ b ≠ tt ∧ b ≠ tu ∧ b ≠ ug ∧ b ≠ uh ∧ b ≠ uq ∧ b ≠ ut ∧ b ≠ uu
def cfC (n : Nat) (C : Nat → Nat → Int) (bl : Int) (i : Nat) : Int := if bl ≠ 0 ∧ ((n : Int) - i) % 2 ≠ 0 then -(sg (C i (n - i))) else sg (C i (n - i))
def lowC (n : Nat) (C : Nat → Nat → Int) : Int := (chgS (cfC n C 1) (n + 1)).1
def uppC (n : Nat) (C : Nat → Nat → Int) : Int := (chgS (cfC n C 0) (n + 1)).1
theorem chgS_congr {S S' : Nat → Int} : ∀ {m : Nat}, (∀ i, i < m → S i = S' i) → chgS S m = chgS S' m
  | 0, _ => rfl
  | m + 1, h => by
      have e := chgS_congr (m := m) (fun i hi => h i (by omega))
      show ((chgS S m).1 + (if S m * (chgS S m).2 < 0 then 1 else 0), if S m = 0 then (chgS S m).2 else S m) = _
      rw [e, h m (by omega)]
      rfl
theorem chG_sz {n : Nat} {C : Nat → Nat → Int} (h : chOK n C) {i : Nat} (h2 : i ≤ n + 1) : ((chG n C i).natAbs : Int) < 1073741824 ^ 80 := by
  unfold chG
  by_cases w : i ≤ 2
  · rw [if_pos w]; decide
  · rw [if_neg w, Int.natAbs_natCast]; exact (h.2.1 (i - 2) (by omega)).2 _ (by omega)
set_option maxHeartbeats 4000000 in
set_option maxRecDepth 100000 in
theorem k7_build {l : Launch} {dC : Nat → ClassId} {dI : Nat → Nat → Nat} {cx : Nat → Nat} {LB : List Nat} {LP : List Nat} {pc_ : Nat → Nat} {pd : Nat → Int} {co : Nat → Nat → Nat} {X : va_W} {dd : Nat → Nat} {nn ss : Nat → Int} {ll : Nat → Nat} {gg : Nat → Int → Int} {H0 : Heap} {v : Nat → Int} {cp : Nat → Nat} {f n : Nat} {C : Nat → Nat → Int} {t0 ta tb tq tt tu tw tm : Nat} {tf : Int}{s0 ch ug uh uq ut uu : Nat} {sc_ sl_ sw_ : Int}  (mf : f ∈ LP) (hO : pOK LB LP co) (hN : cR LB nn ss ll gg v) (hSo : (s0, (.inr (7, [Iz sc_, .ref t0, .ref ch, Iz sl_, Iz sw_, .ref ug, .ref uh, .ref uq, .ref ut, .ref uu]) : va_E)) ∈ X) (hU : uOK LB LP co ta tb tq tt tu ug uh uq ut uu) (hTo : (t0, (.inr (9, [.ref ta, .ref tb, .ref tq, .ref tt, .ref tu, .ref tw, .ref tm, Iz tf]) : va_E)) ∈ X) (hS : tOK LB LP co ta tb tq tt tu) (hch : (ch, (.inl (cx 3, 14, .inr (.inr (.inr (.inr (fun i => some (cp i)))))) : va_E)) ∈ X) (hcp : ∀ i : Nat, i < 14 → cp i ∈ LP) (hcj : ∀ i j : Nat, i < 14 → j < 14 → cp i = cp j → i = j) (hfc_f : ∀ i : Nat, i < 14 → f ≠ cp i) (hf0 : pd f = n) (hfC : ∀ k : Nat, k ≤ n → v (co f k) = C 0 k) (hC : chOK n C) : Met l yX7_build (Cond.code yX7_build cX7_build 7 none :: w0c) (cRm 5 153 LB ll) (cPc dC dI cx LB (pW cx LP pc_ pd co X) dd nn ss ll gg H0 [.ref s0, .ref f]) (cQv dC dI cx LB (va_A (bW (cx 0) LB dd nn ss ll gg (pW cx LP pc_ pd co X)) H0.size) ll H0 (fun X' dd' nn' ss' ll' gg' => ∃ (v' pd' : Nat → Int), X' = pW cx LP pc_ pd' co (wup X s0 (.inr (7, [Iz (lowC n C - uppC n C), .ref t0, .ref ch, Iz ((n : Int) + 1), Iz (lowC n C), .ref ug, .ref uh, .ref uq, .ref ut, .ref uu]))) ∧ cR LB nn' ss' ll' gg' v' ∧ (∀ j : Nat, j ≤ n → pd' (cp j) = (n : Int) - j) ∧ (∀ j k : Nat, j ≤ n → k ≤ n - j → v' (co (cp j) k) = C j k) ∧ (∀ b : Nat, (∀ j k : Nat, j < 14 → k < 13 → b ≠ co (cp j) k) → stN ta tt tu ug uh uq ut uu b → v' b = v b) ∧ (∀ p : Nat, (∀ j : Nat, j < 14 → p ≠ cp j) → pd' p = pd p))) (cMc LB ll) (2 * cMc LB ll) (va_A (bW (cx 0) LB dd nn ss ll gg (pW cx LP pc_ pd co X)) H0.size) := by
  refine Met.ofW (cc := cX7_build) (maxL := 7) (ret := none) (by decide) rfl ?_
  intro p e s m args below meth c s₁ B hml hv
  obtain ⟨rfl, hH0, hP, hK, hD0, hC0⟩ := hv
  have hx := B.exec
  have hb := B.bytes
  have hr := B.returns
  have hts := atoms_spec (ws := Cond.code yX7_build cX7_build 7 none :: w0c) B.pre
  have hown : s.vm.findClass RX7 = some m.cls := findClass_of_methodNamed B.named
  have hlocks := B.notSynchronized
  have E : CallFix p m c cX7_build 7 s _ (Cond.code yX7_build cX7_build 7 none :: w0c) RX7 := ⟨hx, hb, hml, hown, hts⟩
  subst hH0
  have hD := va_D.self (sz := s.heap.size) hD0
  have hA : ∀ q : Nat, s.heap.size ≤ q → va_A (bW (cx 0) LB dd nn ss ll gg (pW cx LP pc_ pd co X)) s.heap.size q := fun q h => Or.inr h
  have hV : cV dC dI cx LB (va_A (bW (cx 0) LB dd nn ss ll gg (pW cx LP pc_ pd co X)) s.heap.size) s.heap ll (pW cx LP pc_ pd co X) dd nn ss ll gg s.heap [] := ⟨hP, hD, va_S.rf, fun _ _ => Nat.le_refl _, hC0⟩
  have hR : (headSpec (Cond.code yX7_build cX7_build 7 none :: w0c) (cRm 5 153 LB ll)).room.cells = cMc LB ll ∧ (headSpec (Cond.code yX7_build cX7_build 7 none :: w0c) (cRm 5 153 LB ll)).room.slots = 2 * cMc LB ll := ⟨rfl, rfl⟩
  refine W.widen (k := cP LB ll - cP LB ll) (n := 2 * (cP LB ll - cP LB ll)) (Nat.zero_le _) (Nat.zero_le _) ?_
  have hl := lv_entry ([.ref s0, .ref f]) (n := 7) (Nat.le_of_ble_eq_true rfl)
  rw [lg_entry_eq]
  generalize (lg_sl ([.ref s0, .ref f]) ++ List.replicate (7 - (lg_sl ([.ref s0, .ref f])).length) Slot.unset).toArray = ls at hl ⊢
  have hl : lv_has ls 7 [(0, .ref s0), (1, .ref f)] := hl
  obtain ⟨⟨mta, mtb, mtq, mtt, mtu⟩, ⟨nab, naq, nat_, nau⟩, ⟨nbq, nbt, nbu⟩, ⟨nqt, nqu⟩, ntu, scA⟩ := id hS
  have sca : ∀ p ∈ LP, ∀ i : Nat, i < 13 → co p i ≠ ta := fun p h i w => (scA p h i w).1
  have sct : ∀ p ∈ LP, ∀ i : Nat, i < 13 → co p i ≠ tt := fun p h i w => (scA p h i w).2.2.2.1
  have scu : ∀ p ∈ LP, ∀ i : Nat, i < 13 → co p i ≠ tu := fun p h i w => (scA p h i w).2.2.2.2
  obtain ⟨⟨mug, muh, muq, mUt, muu⟩, ⟨ngh, ngq, ngt, ngu⟩, ⟨nhq, nht, nhu⟩, ⟨nqt_, nqu_⟩, ntu_, ucA, utA⟩ := id hU
  have scg_ : ∀ p ∈ LP, ∀ i : Nat, i < 13 → co p i ≠ ug := fun p h i w => (ucA p h i w).1
  have sch_ : ∀ p ∈ LP, ∀ i : Nat, i < 13 → co p i ≠ uh := fun p h i w => (ucA p h i w).2.1
  have scq_ : ∀ p ∈ LP, ∀ i : Nat, i < 13 → co p i ≠ uq := fun p h i w => (ucA p h i w).2.2.1
  have sct_ : ∀ p ∈ LP, ∀ i : Nat, i < 13 → co p i ≠ ut := fun p h i w => (ucA p h i w).2.2.2.1
  have scu_ : ∀ p ∈ LP, ∀ i : Nat, i < 13 → co p i ≠ uu := fun p h i w => (ucA p h i w).2.2.2.2
  obtain ⟨hC1, hC2, hC3, hn0, hn1⟩ := id hC
  have nchs : ch ≠ s0 := y_ne hV hch hSo (fun q => nomatch q)
  have nts : t0 ≠ s0 := y_ne hV hTo hSo (fun q => by injection q with q; injection q with q1 q2; exact absurd q1 (by decide))
  have stC : ∀ p ∈ LP, ∀ k : Nat, k < 13 → stN ta tt tu ug uh uq ut uu (co p k) := fun p h k hk => ⟨sca p h k hk, sct p h k hk, scu p h k hk, scg_ p h k hk, sch_ p h k hk, scq_ p h k hk, sct_ p h k hk, scu_ p h k hk⟩
  have sz0 : ∀ k : Nat, (k : Int) ≤ pd f → ((v (co f k)).natAbs : Int) < 1073741824 ^ 80 := fun k hk => by rw [hfC k (by omega)]; exact (hC2 0 (by omega)).2 k (by omega)
  have ne_c : ∀ j j_ k k_ : Nat, j < 14 → j_ < 14 → k < 13 → k_ < 13 → j ≠ j_ → co (cp j) k ≠ co (cp j_) k_ := fun j j_ k k_ a b c d h q_ => h (hcj j j_ a b (hO.2 _ (hcp j a) _ (hcp j_ b) _ _ c d q_).1)
  have ne_f : ∀ j k k_ : Nat, j < 14 → k < 13 → k_ < 13 → co (cp j) k ≠ co f k_ := fun j k k_ a c d q_ => hfc_f j a ((hO.2 _ (hcp j a) _ mf _ _ c d q_).1.symm)
  have uga : ug ≠ ta := fun q_ => (utA ta (Or.inl rfl)).1 q_.symm
  have ugt : ug ≠ tt := fun q_ => (utA tt (Or.inr (Or.inr (Or.inr (Or.inl rfl))))).1 q_.symm
  have ugu : ug ≠ tu := fun q_ => (utA tu (Or.inr (Or.inr (Or.inr (Or.inr rfl))))).1 q_.symm
  have uha : uh ≠ ta := fun q_ => (utA ta (Or.inl rfl)).2.1 q_.symm
  have uht : uh ≠ tt := fun q_ => (utA tt (Or.inr (Or.inr (Or.inr (Or.inl rfl))))).2.1 q_.symm
  have uhu : uh ≠ tu := fun q_ => (utA tu (Or.inr (Or.inr (Or.inr (Or.inr rfl))))).2.1 q_.symm
  refine lv_aload_n hx hb dX7_build_0 rfl (lv_at hl 0 rfl) ?_
  refine x_get E hK hV (ci := 7) (C := RX7) (T := TX7) (N := 10) rfl w0c_in7 (pW_x hSo) 2 (by decide) rfl cf_7_9 rfl dX7_build_1 ?_
  refine lv_iconst (v := Int32.ofInt (0)) hx hb dX7_build_4 (by decide) ?_
  refine y_aaldq hx hb hK hV (t0 := 3) rfl hch (by omega) (by omega) (by omega) dX7_build_5 ?_
  refine lv_aload_n hx hb dX7_build_6 rfl (lv_at hl 1 rfl) ?_
  refine c_callv (As := [.ref f]) (rest := []) E (k4_copy (v := v) (p0 := cp 0) (pa := f) (hcp 0 (by omega)) mf (Ne.symm (hfc_f 0 (by omega))) hO hN (by omega) (by omega) sz0) (cwV 1 hts (cGood cl_X7_39 ci_X4_copy cs_X4_copy cn_RX4 cc_X4_copy) rfl rfl rfl (by decide +kernel) ⟨Nat.le_of_ble_eq_true rfl, Nat.le_of_ble_eq_true rfl⟩) (y_recv hK hV (hcp 0 (by omega))) hK hV hA hR rfl hl.1 (Nat.le_of_ble_eq_true rfl) dX7_build_7 (fun X7 dd7 nn7 ss7 ll7 gg7 H locs q7 hV hm7 => ?_)
  obtain ⟨v7, e1_, hN, cp7, cq7⟩ := q7
  obtain rfl := e1_.symm
  refine lv_aload_n hx hb dX7_build_10 rfl (lv_at hl 0 rfl) ?_
  refine x_get E hK hV (ci := 7) (C := RX7) (T := TX7) (N := 10) rfl w0c_in7 (pW_x hSo) 1 (by decide) rfl cf_7_34 rfl dX7_build_11 ?_
  refine lv_aload_n hx hb dX7_build_14 rfl (lv_at hl 1 rfl) ?_
  refine lv_aload_n hx hb dX7_build_15 rfl (lv_at hl 0 rfl) ?_
  refine x_get E hK hV (ci := 7) (C := RX7) (T := TX7) (N := 10) rfl w0c_in7 (pW_x hSo) 2 (by decide) rfl cf_7_9 rfl dX7_build_16 ?_
  refine lv_iconst (v := Int32.ofInt (1)) hx hb dX7_build_19 (by decide) ?_
  refine y_aaldq hx hb hK hV (t0 := 3) rfl hch (by omega) (by omega) (by omega) dX7_build_20 ?_
  refine c_callv (As := [.ref f, .ref (cp 1)]) (rest := []) E (k9_slope (v := v7) (f := f) (g := cp 1) mf (hcp 1 (by omega)) (hfc_f 1 (by omega)) hO hN (by rw [va_up_ne _ _ (hfc_f 0 (by omega))]; omega) (by rw [va_up_ne _ _ (hfc_f 0 (by omega))]; omega) (fun k hk => by rw [va_up_ne _ _ (hfc_f 0 (by omega))] at hk; rw [cq7 _ (fun a _ q_ => by exact ne_f 0 a k (by omega) (by omega) (by omega) q_.symm)]; exact sz0 k hk)) (cwV 2 hts (cGood cl_X7_43 ci_X9_slope cs_X9_slope cn_RX9 cc_X9_slope) rfl rfl rfl (by decide +kernel) ⟨Nat.le_of_ble_eq_true rfl, Nat.le_of_ble_eq_true rfl⟩) (x_recv (q := (RX9, TX9, 8)) hK hV (ci := 9) rfl (pW_x hTo)) hK hV hA hR rfl hl.1 (Nat.le_of_ble_eq_true rfl) dX7_build_21 (fun X21 dd21 nn21 ss21 ll21 gg21 H locs q21 hV hm21 => ?_)
  obtain ⟨v21, e1_, hN, cp21, cq21⟩ := q21
  obtain rfl := e1_.symm
  rw [va_up_ne _ _ (hfc_f 0 (by omega))] at cp21 cq21 hV
  refine lv_aload_n hx hb dX7_build_24 rfl (lv_at hl 0 rfl) ?_
  refine lv_aload_n hx hb dX7_build_25 rfl (lv_at hl 1 rfl) ?_
  refine y_getdeg E hK hV mf ((va_up_ne _ _ (hfc_f 1 (by omega))).trans ((va_up_ne _ _ (hfc_f 0 (by omega))).trans rfl)) cf_7_49 dX7_build_26 ?_
  refine lv_iconst (v := Int32.ofInt (1)) hx hb dX7_build_29 (by decide) ?_
  refine g_icmp_ge (tgt := 37) hx hb (by first | assumption | exact ⟨by omega, by omega⟩) (by first | assumption | exact ⟨by omega, by omega⟩) dX7_build_30 (by decide) (fun c_30 => ?_) (fun c_30 => ?_)
  · skip
    refine lv_iconst (v := Int32.ofInt (2)) hx hb dX7_build_37 (by decide) ?_
    refine y_puto E hK hV (ci := 7) (C := RX7) (T := TX7) (N := 10) (ty := tyX7) rfl w0c_in7 tyX7_ok nmX7 hSo 3 (by decide) (Nat.le_of_ble_eq_true rfl) (tyX7_ok 3 (by decide)) rfl cf_7_53 rfl (X2 := wup X s0 (.inr (7, [Iz (sc_), .ref t0, .ref ch, Iz (2), Iz (sw_), .ref ug, .ref uh, .ref uq, .ref ut, .ref uu]))) rfl dX7_build_38 (fun H locs hV => ?_)
    refine lv_aload_n hx hb dX7_build_41 rfl (lv_at hl 0 rfl) ?_
    refine x_get E hK hV (ci := 7) (C := RX7) (T := TX7) (N := 10) rfl w0c_in7 (pW_x (wup_self hSo)) 5 (by decide) rfl cf_7_18 rfl dX7_build_42 ?_
    refine lv_lconst (v := Int64.ofInt 1) hx hb dX7_build_45 rfl ?_
    refine c_callv (As := [Jz (1)]) (rest := []) E (k0_put (v := v21) (h0 := ug) (x := 1) mug hN (by omega) (by omega)) (cwV 1 hts (cGood cl_X7_56 ci_X0_put cs_X0_put cn_RX0 cc_X0_put) rfl rfl rfl (by decide +kernel) ⟨Nat.le_of_ble_eq_true rfl, Nat.le_of_ble_eq_true rfl⟩) (b_recv hK hV mug) hK hV hA hR rfl hl.1 (Nat.le_of_ble_eq_true rfl) dX7_build_46 (fun X46 dd46 nn46 ss46 ll46 gg46 H locs q46 hV hm46 => ?_)
    obtain ⟨e1_, hN⟩ := q46
    obtain rfl := e1_.symm
    refine lv_aload_n hx hb dX7_build_49 rfl (lv_at hl 0 rfl) ?_
    refine x_get E hK hV (ci := 7) (C := RX7) (T := TX7) (N := 10) rfl w0c_in7 (pW_x (wup_self hSo)) 6 (by decide) rfl cf_7_22 rfl dX7_build_50 ?_
    refine lv_lconst (v := Int64.ofInt 1) hx hb dX7_build_53 rfl ?_
    refine c_callv (As := [Jz (1)]) (rest := []) E (k0_put (v := (va_up v21 ug 1)) (h0 := uh) (x := 1) muh hN (by omega) (by omega)) (cwV 1 hts (cGood cl_X7_56 ci_X0_put cs_X0_put cn_RX0 cc_X0_put) rfl rfl rfl (by decide +kernel) ⟨Nat.le_of_ble_eq_true rfl, Nat.le_of_ble_eq_true rfl⟩) (b_recv hK hV muh) hK hV hA hR rfl hl.1 (Nat.le_of_ble_eq_true rfl) dX7_build_54 (fun X54 dd54 nn54 ss54 ll54 gg54 H locs q54 hV hm54 => ?_)
    obtain ⟨e1_, hN⟩ := q54
    obtain rfl := e1_.symm
    refine lv_iconst (v := Int32.ofInt (2)) hx hb dX7_build_57 (by decide) ?_
    refine lv_istore_n (lv' := [(2, Iz (2)), (0, .ref s0), (1, .ref f)]) hx hb dX7_build_58 rfl hl (by decide) rfl (fun ls hl => ?_)
    refine r_loop2 (P := fun N_ ce sl H locs ls => ∃ dd_59 : Nat → Nat, ∃ nn_59 ss_59 : Nat → Int, ∃ ll_59 : Nat → Nat, ∃ gg_59 : Nat → Int → Int, ∃ v_59 : Nat → Int, ∃ pd_59 : Nat → Int, ∃ i : Int, N_ = (20 - i).toNat ∧ ce = cP LB ll_59 - cP LB ll ∧ sl = 2 * (cP LB ll_59 - cP LB ll) ∧ cR LB nn_59 ss_59 ll_59 gg_59 v_59 ∧ (2 ≤ i) ∧ (i ≤ (n : Int) + 1) ∧ (∀ j : Nat, (j : Int) < i → pd_59 (cp j) = (n : Int) - j) ∧ (∀ j k : Nat, (j : Int) < i → k ≤ n - j → v_59 (co (cp j) k) = C j k) ∧ (v_59 ug = chG n C i.toNat) ∧ (v_59 uh = chG n C i.toNat) ∧ (∀ b : Nat, (∀ j k : Nat, j < 14 → k < 13 → b ≠ co (cp j) k) → stN ta tt tu ug uh uq ut uu b → v_59 b = v b) ∧ (∀ p : Nat, (∀ j : Nat, j < 14 → p ≠ cp j) → pd_59 p = pd p) ∧ cV dC dI cx LB (va_A (bW (cx 0) LB dd nn ss ll gg (pW cx LP pc_ pd co X)) s.heap.size) s.heap ll (pW cx LP pc_ pd_59 co (wup X s0 (.inr (7, [Iz (sc_), .ref t0, .ref ch, Iz (i), Iz (sw_), .ref ug, .ref uh, .ref uq, .ref ut, .ref uu])))) dd_59 nn_59 ss_59 ll_59 gg_59 H locs ∧ lv_has ls 7 [(0, .ref s0), (1, .ref f), (2, Iz (i))]) (g := fun ls => F0 m 59 ls []) (fun N_ ce sl H locs ls hI ih_59 => ?_) _ _ _ _ _ _ ⟨_, _, _, _, _, (va_up (va_up v21 ug 1) uh 1), (va_up (va_up pd (cp 0) (pd f)) (cp 1) (pd f - 1)), 2, rfl, rfl, rfl, hN, (by omega), (by omega), (fun j hj => by
              rcases (show j = 0 ∨ j = 1 by omega) with w | w <;> subst w
              · rw [va_up_ne _ _ (fun q_ => by have := hcj 0 1 (by omega) (by omega) q_; omega), va_up_self, hf0]; omega
              · rw [va_up_self, hf0]; omega), (fun j k hj hk => by
              rw [va_up_ne _ _ (sch_ _ (hcp _ (by omega)) _ (by omega)), va_up_ne _ _ (scg_ _ (hcp _ (by omega)) _ (by omega))]
              rcases (show j = 0 ∨ j = 1 by omega) with w | w <;> subst w
              · rw [cq21 _ (fun a _ => ne_c _ _ _ _ (by omega) (by omega) (by omega) (by omega) (by omega)), cp7 k (by omega), hfC k (by omega)]
              · rw [cp21 k (by omega), cq7 _ (fun a _ q_ => ne_f 0 a (k + 1) (by omega) (by omega) (by omega) q_.symm), hfC _ (by omega), hC3 k (by omega)]), (by rw [va_up_ne _ _ ngh, va_up_self]; rfl), (by rw [va_up_self]; rfl), (fun b h q => by rw [va_up_ne _ _ q.2.2.2.2.1, va_up_ne _ _ q.2.2.2.1, cq21 b (fun k _ => h 1 k (by omega) (by omega)), cq7 b (fun k _ => h 0 k (by omega) (by omega))]), (fun p h => by rw [va_up_ne _ _ (h 1 (by omega)), va_up_ne _ _ (h 0 (by omega))]), hV, lv_sub hl [1, 2, 0] rfl⟩
    obtain ⟨dd_59, nn_59, ss_59, ll_59, gg_59, v_59, pd_59, i, rfl, rfl, rfl, hN, i0, i1, c1, c2, c3, c4, c5, c6, hV, hl⟩ := hI
    refine lv_iload_n hx hb dX7_build_59 rfl (lv_at hl 2 rfl) ?_
    refine lv_aload_n hx hb dX7_build_60 rfl (lv_at hl 0 rfl) ?_
    refine x_get E hK hV (ci := 7) (C := RX7) (T := TX7) (N := 10) rfl w0c_in7 (pW_x (wup_self hSo)) 2 (by decide) rfl cf_7_9 rfl dX7_build_61 ?_
    refine y_alen hx hb hK hV (t0 := 3) rfl (pW_x (wup_ne hch nchs)) dX7_build_64 ?_
    refine g_icmp_ge (tgt := 278) hx hb (by first | assumption | exact ⟨by omega, by omega⟩) (by first | assumption | exact ⟨by omega, by omega⟩) dX7_build_65 (by decide) (fun c_65 => ?_) (fun c_65 => ?_)
    · omega
    · skip
      refine lv_iload_n hx hb dX7_build_68 rfl (lv_at hl 2 rfl) ?_
      refine lv_aload_n hx hb dX7_build_69 rfl (lv_at hl 0 rfl) ?_
      refine x_get E hK hV (ci := 7) (C := RX7) (T := TX7) (N := 10) rfl w0c_in7 (pW_x (wup_self hSo)) 3 (by decide) rfl cf_7_53 rfl dX7_build_70 ?_
      refine g_icmp_ne (tgt := 278) hx hb (by first | assumption | exact ⟨by omega, by omega⟩) (by first | assumption | exact ⟨by omega, by omega⟩) dX7_build_73 (by decide) (fun c_73 => ?_) (fun c_73 => ?_)
      · omega
      · skip
        refine lv_aload_n hx hb dX7_build_76 rfl (lv_at hl 0 rfl) ?_
        refine x_get E hK hV (ci := 7) (C := RX7) (T := TX7) (N := 10) rfl w0c_in7 (pW_x (wup_self hSo)) 2 (by decide) rfl cf_7_9 rfl dX7_build_77 ?_
        refine lv_iload_n hx hb dX7_build_80 rfl (lv_at hl 2 rfl) ?_
        refine lv_iconst (v := Int32.ofInt (1)) hx hb dX7_build_81 (by decide) ?_
        refine g_isub hx hb dX7_build_82 ?_
        refine y_aaldq hx hb hK hV (t0 := 3) rfl (wup_ne hch nchs) (by omega) (by omega) (by omega) dX7_build_83 ?_
        refine y_getdeg E hK hV (hcp (i - 1).toNat (by omega)) rfl cf_7_49 dX7_build_84 ?_
        have d87 : pd_59 (cp (i - 1).toNat) = (n : Int) - i + 1 := by rw [c1 _ (by omega)]; omega
        refine g_if_le (tgt := 278) hx hb (by first | assumption | exact ⟨by omega, by omega⟩) dX7_build_87 (by decide) (fun c_87 => ?_) (fun c_87 => ?_)
        · skip
          have hi : i = (n : Int) + 1 := by have e_ := c1 (i - 1).toNat (by omega); omega
          have dg278 : ∀ j : Nat, (j : Int) < i → 0 ≤ pd_59 (cp j) ∧ pd_59 (cp j) ≤ 12 := fun j hj => by rw [c1 j hj]; omega
          have cf278 : ∀ (b : Int), (chgS (cfS cp pd_59 co v_59 b) i.toNat).1 = (chgS (cfC n C b) (n + 1)).1 := fun b => by
            rw [show i.toNat = n + 1 by omega, chgS_congr (S' := cfC n C b) (fun j hj => ?_)]
            unfold cfS cfC
            rw [c1 j (by omega), show ((n : Int) - j).toNat = n - j by omega, c2 j (n - j) (by omega) (by omega)]
          refine lv_aload_n hx hb dX7_build_278 rfl (lv_at hl 0 rfl) ?_
          refine lv_aload_n hx hb dX7_build_279 rfl (lv_at hl 0 rfl) ?_
          refine lv_iconst (v := Int32.ofInt (1)) hx hb dX7_build_280 (by decide) ?_
          refine c_calli (As := [Iz (1)]) (rest := [.ref s0]) E (k7_changesFar (v := v_59) (cp := cp) (bl := 1) hO hN (wup_self hSo) (wup_ne hch nchs) hcp dg278 (by omega) (by omega) (by omega) (by omega)) (cwV 1 hts (cGood cl_X7_90 ci_X7_changesFar cs_X7_changesFar cn_RX7 cc_X7_changesFar) rfl rfl rfl (by decide +kernel) ⟨Nat.le_of_ble_eq_true rfl, Nat.le_of_ble_eq_true rfl⟩) (x_recv (q := (RX7, TX7, 10)) hK hV (ci := 7) rfl (pW_x (wup_self hSo))) hK hV hA hR rfl hl.1 (Nat.le_of_ble_eq_true rfl) dX7_build_281 (fun z281 X281 dd281 nn281 ss281 ll281 gg281 H locs q281 hV hm281 => ?_)
          obtain ⟨e1_, e2_, e3_, e4_, e5_, e6_, q281⟩ := q281
          obtain rfl := e1_.symm
          obtain rfl := e2_.symm
          obtain rfl := e3_.symm
          obtain rfl := e4_.symm
          obtain rfl := e5_.symm
          obtain rfl := e6_.symm
          rw [cf278] at q281
          rw [show (chgS (cfC n C 1) (n + 1)).1 = lowC n C from rfl] at q281
          subst q281
          refine y_puto E hK hV (ci := 7) (C := RX7) (T := TX7) (N := 10) (ty := tyX7) rfl w0c_in7 tyX7_ok nmX7 (wup_self hSo) 4 (by decide) (Nat.le_of_ble_eq_true rfl) (tyX7_ok 4 (by decide)) rfl cf_7_94 rfl (X2 := wup X s0 (.inr (7, [Iz (sc_), .ref t0, .ref ch, Iz (i), Iz (lowC n C), .ref ug, .ref uh, .ref uq, .ref ut, .ref uu]))) wup_up dX7_build_284 (fun H locs hV => ?_)
          refine lv_aload_n hx hb dX7_build_287 rfl (lv_at hl 0 rfl) ?_
          refine lv_aload_n hx hb dX7_build_288 rfl (lv_at hl 0 rfl) ?_
          refine x_get E hK hV (ci := 7) (C := RX7) (T := TX7) (N := 10) rfl w0c_in7 (pW_x (wup_self hSo)) 4 (by decide) rfl cf_7_94 rfl dX7_build_289 ?_
          refine lv_aload_n hx hb dX7_build_292 rfl (lv_at hl 0 rfl) ?_
          refine lv_iconst (v := Int32.ofInt (0)) hx hb dX7_build_293 (by decide) ?_
          refine c_calli (As := [Iz (0)]) (rest := [Iz (lowC n C), .ref s0]) E (k7_changesFar (v := v_59) (cp := cp) (bl := 0) hO hN (wup_self hSo) (wup_ne hch nchs) hcp dg278 (by omega) (by omega) (by omega) (by omega)) (cwV 1 hts (cGood cl_X7_90 ci_X7_changesFar cs_X7_changesFar cn_RX7 cc_X7_changesFar) rfl rfl rfl (by decide +kernel) ⟨Nat.le_of_ble_eq_true rfl, Nat.le_of_ble_eq_true rfl⟩) (x_recv (q := (RX7, TX7, 10)) hK hV (ci := 7) rfl (pW_x (wup_self hSo))) hK hV hA hR rfl hl.1 (Nat.le_of_ble_eq_true rfl) dX7_build_294 (fun z294 X294 dd294 nn294 ss294 ll294 gg294 H locs q294 hV hm294 => ?_)
          obtain ⟨e1_, e2_, e3_, e4_, e5_, e6_, q294⟩ := q294
          obtain rfl := e1_.symm
          obtain rfl := e2_.symm
          obtain rfl := e3_.symm
          obtain rfl := e4_.symm
          obtain rfl := e5_.symm
          obtain rfl := e6_.symm
          rw [cf278] at q294
          rw [show (chgS (cfC n C 0) (n + 1)).1 = uppC n C from rfl] at q294
          subst q294
          refine g_isub hx hb dX7_build_297 ?_
          refine y_puto E hK hV (ci := 7) (C := RX7) (T := TX7) (N := 10) (ty := tyX7) rfl w0c_in7 tyX7_ok nmX7 (wup_self hSo) 0 (by decide) (Nat.le_of_ble_eq_true rfl) (tyX7_ok 0 (by decide)) rfl cf_7_97 rfl (X2 := wup X s0 (.inr (7, [Iz ((lowC n C) - (uppC n C)), .ref t0, .ref ch, Iz (i), Iz (lowC n C), .ref ug, .ref uh, .ref uq, .ref ut, .ref uu]))) wup_up dX7_build_298 (fun H locs hV => ?_)
          have hpost : ∃ (v' pd' : Nat → Int), (pW cx LP pc_ pd_59 co (wup X s0 (.inr (7, [Iz ((lowC n C) - (uppC n C)), .ref t0, .ref ch, Iz (i), Iz (lowC n C), .ref ug, .ref uh, .ref uq, .ref ut, .ref uu])))) = pW cx LP pc_ pd' co (wup X s0 (.inr (7, [Iz (lowC n C - uppC n C), .ref t0, .ref ch, Iz ((n : Int) + 1), Iz (lowC n C), .ref ug, .ref uh, .ref uq, .ref ut, .ref uu]))) ∧ cR LB nn_59 ss_59 ll_59 gg_59 v' ∧ (∀ j : Nat, j ≤ n → pd' (cp j) = (n : Int) - j) ∧ (∀ j k : Nat, j ≤ n → k ≤ n - j → v' (co (cp j) k) = C j k) ∧ (∀ b : Nat, (∀ j k : Nat, j < 14 → k < 13 → b ≠ co (cp j) k) → stN ta tt tu ug uh uq ut uu b → v' b = v b) ∧ (∀ p : Nat, (∀ j : Nat, j < 14 → p ≠ cp j) → pd' p = pd p) := ⟨v_59, pd_59, by rw [hi], hN, fun j hj => c1 j (by omega), fun j k hj hk => c2 j k (by omega) hk, c5, c6⟩
          exact c_vret hx hb hr hK hV hpost dX7_build_301 hlocks
        · skip
          refine lv_aload_n hx hb dX7_build_90 rfl (lv_at hl 0 rfl) ?_
          refine x_get E hK hV (ci := 7) (C := RX7) (T := TX7) (N := 10) rfl w0c_in7 (pW_x (wup_self hSo)) 2 (by decide) rfl cf_7_9 rfl dX7_build_91 ?_
          refine lv_iload_n hx hb dX7_build_94 rfl (lv_at hl 2 rfl) ?_
          refine y_aaldq hx hb hK hV (t0 := 3) rfl (wup_ne hch nchs) (by omega) (by omega) (by omega) dX7_build_95 ?_
          refine lv_astore_n (lv' := [(3, .ref (cp i.toNat)), (0, .ref s0), (1, .ref f), (2, Iz (i))]) hx hb dX7_build_96 rfl hl (by decide) rfl (fun ls hl => ?_)
          refine lv_aload_n hx hb dX7_build_97 rfl (lv_at hl 1 rfl) ?_
          refine x_get E hK hV (ci := 7) (C := RX7) (T := TX7) (N := 10) rfl w0c_in7 (pW_x (wup_self hSo)) 2 (by decide) rfl cf_7_9 rfl dX7_build_98 ?_
          refine lv_iload_n hx hb dX7_build_101 rfl (lv_at hl 3 rfl) ?_
          refine lv_iconst (v := Int32.ofInt (2)) hx hb dX7_build_102 (by decide) ?_
          refine g_isub hx hb dX7_build_103 ?_
          refine y_aaldq hx hb hK hV (t0 := 3) rfl (wup_ne hch nchs) (by omega) (by omega) (by omega) dX7_build_104 ?_
          refine y_getdeg E hK hV (hcp (i - 2).toNat (by omega)) rfl cf_7_49 dX7_build_105 ?_
          refine lv_aload_n hx hb dX7_build_108 rfl (lv_at hl 1 rfl) ?_
          refine x_get E hK hV (ci := 7) (C := RX7) (T := TX7) (N := 10) rfl w0c_in7 (pW_x (wup_self hSo)) 2 (by decide) rfl cf_7_9 rfl dX7_build_109 ?_
          refine lv_iload_n hx hb dX7_build_112 rfl (lv_at hl 3 rfl) ?_
          refine lv_iconst (v := Int32.ofInt (1)) hx hb dX7_build_113 (by decide) ?_
          refine g_isub hx hb dX7_build_114 ?_
          refine y_aaldq hx hb hK hV (t0 := 3) rfl (wup_ne hch nchs) (by omega) (by omega) (by omega) dX7_build_115 ?_
          refine y_getdeg E hK hV (hcp (i - 1).toNat (by omega)) rfl cf_7_49 dX7_build_116 ?_
          refine g_isub hx hb dX7_build_119 ?_
          rw [show pd_59 (cp (i - 2).toNat) - pd_59 (cp (i - 1).toNat) = 1 from by rw [c1 (i - 2).toNat (by omega), c1 (i - 1).toNat (by omega)]; omega]
          refine lv_istore (lv' := [(4, Iz (1)), (3, .ref (cp i.toNat)), (0, .ref s0), (1, .ref f), (2, Iz (i))]) hx hb dX7_build_120 hl (by decide) rfl (fun ls hl => ?_)
          refine lv_aload_n hx hb dX7_build_122 rfl (lv_at hl 1 rfl) ?_
          refine lv_aload_n hx hb dX7_build_123 rfl (lv_at hl 2 rfl) ?_
          refine x_get E hK hV (ci := 7) (C := RX7) (T := TX7) (N := 10) rfl w0c_in7 (pW_x (wup_self hSo)) 2 (by decide) rfl cf_7_9 rfl dX7_build_124 ?_
          refine lv_iload_n hx hb dX7_build_127 rfl (lv_at hl 4 rfl) ?_
          refine lv_iconst (v := Int32.ofInt (2)) hx hb dX7_build_128 (by decide) ?_
          refine g_isub hx hb dX7_build_129 ?_
          refine y_aaldq hx hb hK hV (t0 := 3) rfl (wup_ne hch nchs) (by omega) (by omega) (by omega) dX7_build_130 ?_
          refine c_callv (As := [.ref (cp (i - 2).toNat)]) (rest := []) E (k4_copy (v := v_59) (p0 := (cp i.toNat)) (pa := (cp (i - 2).toNat)) (hcp _ (by omega)) (hcp _ (by omega)) (fun q_ => by have := hcj i.toNat (i - 2).toNat (by omega) (by omega) q_; omega) hO hN (by rw [c1 _ (by omega)]; omega) (by rw [c1 _ (by omega)]; omega) (fun k hk => by rw [c1 _ (by omega)] at hk; rw [c2 _ _ (by omega) (by omega)]; exact (hC2 _ (by omega)).2 _ (by omega))) (cwV 1 hts (cGood cl_X7_39 ci_X4_copy cs_X4_copy cn_RX4 cc_X4_copy) rfl rfl rfl (by decide +kernel) ⟨Nat.le_of_ble_eq_true rfl, Nat.le_of_ble_eq_true rfl⟩) (y_recv hK hV (hcp i.toNat (by omega))) hK hV hA hR rfl hl.1 (Nat.le_of_ble_eq_true rfl) dX7_build_131 (fun X131 dd131 nn131 ss131 ll131 gg131 H locs q131 hV hm131 => ?_)
          obtain ⟨v131, e1_, hN, cp131, cq131⟩ := q131
          obtain rfl := e1_.symm
          have pA : (va_up pd_59 (cp i.toNat) (pd_59 (cp (i - 2).toNat))) (cp i.toNat) = (n : Int) - i + 2 := by rw [va_up_self, c1 _ (by omega)]; omega
          have pB : (va_up pd_59 (cp i.toNat) (pd_59 (cp (i - 2).toNat))) (cp (i - 1).toNat) = (n : Int) - i + 1 := by rw [va_up_ne _ _ (fun q_ => by have := hcj (i - 1).toNat i.toNat (by omega) (by omega) q_; omega), c1 _ (by omega)]; omega
          have fr131 : ∀ b : Nat, (∀ k : Nat, k < 13 → b ≠ co (cp i.toNat) k) → v131 b = v_59 b := fun b h => cq131 b (fun k hk => h k (by rw [c1 _ (by omega)] at hk; omega))
          have w131 : ∀ k : Nat, k ≤ n - (i.toNat - 2) → v131 (co (cp i.toNat) k) = C (i.toNat - 2) k := fun k hk => by rw [cp131 k (by rw [c1 _ (by omega)]; omega), c2 _ _ (by omega) (by omega), show (i - 2).toNat = i.toNat - 2 by omega]
          have x131 : ∀ k : Nat, k ≤ n - (i.toNat - 1) → v131 (co (cp (i - 1).toNat) k) = C (i.toNat - 1) k := fun k hk => by rw [fr131 _ (fun k_ hk_ => ne_c _ _ _ _ (by omega) (by omega) (by omega) hk_ (by omega)), c2 _ _ (by omega) (by omega), show (i - 1).toNat = i.toNat - 1 by omega]
          have eL : ∀ m k : Nat, k ≤ n - (i.toNat - 2) → lvP (fun j => v131 (co (cp (i - 1).toNat) j)) ((va_up pd_59 (cp i.toNat) (pd_59 (cp (i - 2).toNat))) (cp (i - 1).toNat)).toNat ((va_up pd_59 (cp i.toNat) (pd_59 (cp (i - 2).toNat))) (cp i.toNat) - (va_up pd_59 (cp i.toNat) (pd_59 (cp (i - 2).toNat))) (cp (i - 1).toNat)).toNat (fun j => v131 (co (cp i.toNat) j)) m k = chL n C i.toNat m k := fun m k hk => by
            rw [pA, pB, show ((n : Int) - i + 2 - ((n : Int) - i + 1)).toNat = 1 by omega, show ((n : Int) - i + 1).toNat = n - (i.toNat - 1) by omega]
            exact lvP_congr (df := n - (i.toNat - 2)) (by omega) w131 x131 m k hk
          obtain ⟨hS1, hS2, hS3⟩ := hC1 i.toNat (by omega) (by omega)
          refine lv_aload_n hx hb dX7_build_134 rfl (lv_at hl 2 rfl) ?_
          refine x_get E hK hV (ci := 7) (C := RX7) (T := TX7) (N := 10) rfl w0c_in7 (pW_x (wup_self hSo)) 1 (by decide) rfl cf_7_34 rfl dX7_build_135 ?_
          refine lv_aload_n hx hb dX7_build_138 rfl (lv_at hl 1 rfl) ?_
          refine lv_aload_n hx hb dX7_build_139 rfl (lv_at hl 2 rfl) ?_
          refine x_get E hK hV (ci := 7) (C := RX7) (T := TX7) (N := 10) rfl w0c_in7 (pW_x (wup_self hSo)) 2 (by decide) rfl cf_7_9 rfl dX7_build_140 ?_
          refine lv_iload_n hx hb dX7_build_143 rfl (lv_at hl 4 rfl) ?_
          refine lv_iconst (v := Int32.ofInt (1)) hx hb dX7_build_144 (by decide) ?_
          refine g_isub hx hb dX7_build_145 ?_
          refine y_aaldq hx hb hK hV (t0 := 3) rfl (wup_ne hch nchs) (by omega) (by omega) (by omega) dX7_build_146 ?_
          refine c_calli (As := [.ref (cp i.toNat), .ref (cp (i - 1).toNat)]) (rest := []) E (k9_leave (v := v131) (f := (cp i.toNat)) (g := (cp (i - 1).toNat)) (hcp _ (by omega)) (hcp _ (by omega)) (fun q_ => by have := hcj i.toNat (i - 1).toNat (by omega) (by omega) q_; omega) hO hN (wup_ne hTo nts) hS (by rw [pB]; omega) (by rw [pA, pB]; omega) (by rw [pA]; omega) (fun m hm k hk => by rw [pA, pB] at hm; rw [pA] at hk; rw [eL m k (by omega)]; exact hS1 m (by omega) k (by omega)) (fun k hk => by rw [pB] at hk; rw [x131 k (by omega)]; exact (hC2 _ (by omega)).2 _ (by omega))) (cwV 2 hts (cGood cl_X7_60 ci_X9_leave cs_X9_leave cn_RX9 cc_X9_leave) rfl rfl rfl (by decide +kernel) ⟨Nat.le_of_ble_eq_true rfl, Nat.le_of_ble_eq_true rfl⟩) (x_recv (q := (RX9, TX9, 8)) hK hV (ci := 9) rfl (pW_x (wup_ne hTo nts))) hK hV hA hR rfl hl.1 (Nat.le_of_ble_eq_true rfl) dX7_build_147 (fun z147 X147 dd147 nn147 ss147 ll147 gg147 H locs q147 hV hm147 => ?_)
          obtain ⟨v147, k147, e1_, hN, lk147, ll147_, ln147, lz147, lv147, lo147, lq147⟩ := q147
          obtain rfl := e1_.symm
          have z0_ : z147 = 0 := by rw [lq147, pA, pB, if_neg (fun q_ => by have := q_.2; omega)]
          subst z0_
          rw [pB] at ll147_ lz147
          have w147 : ∀ k : Nat, k ≤ n - (i.toNat - 2) → v147 (co (cp i.toNat) k) = chL n C i.toNat 2 k := fun k hk => by rw [lv147 k (by rw [pA]; omega), eL _ k hk, show ((va_up pd_59 (cp i.toNat) (pd_59 (cp (i - 2).toNat))) (cp i.toNat) - (va_up pd_59 (cp i.toNat) (pd_59 (cp (i - 2).toNat))) (cp (i - 1).toNat)).toNat + 1 = 2 by rw [pA, pB]; omega]
          have kE : k147 = (n : Int) - i := by
            rcases Int.lt_or_le k147 ((n : Int) - i) with w | w
            · exfalso
              have e_ := lz147 ((n : Int) - i) w (by omega)
              rw [w147 _ (by omega), show ((n : Int) - i).toNat = n - i.toNat by omega] at e_
              exact hS2 e_
            · omega
          subst kE
          have fr147 : ∀ b : Nat, (∀ k : Nat, k < 13 → b ≠ co (cp i.toNat) k) → stN ta tt tu ug uh uq ut uu b → v147 b = v_59 b := fun b h q => (lo147 b (fun k hk => h k (by rw [pA] at hk; omega)) q.1 q.2.1 q.2.2.1).trans (fr131 b h)
          rw [va_up_up] at hV
          refine lv_istore (lv' := [(5, Iz (0)), (4, Iz (1)), (3, .ref (cp i.toNat)), (0, .ref s0), (1, .ref f), (2, Iz (i))]) hx hb dX7_build_150 hl (by decide) rfl (fun ls hl => ?_)
          refine lv_aload_n hx hb dX7_build_152 rfl (lv_at hl 2 rfl) ?_
          refine y_getdeg E hK hV (hcp i.toNat (by omega)) (va_up_self _ _ _) cf_7_49 dX7_build_153 ?_
          refine g_if_ge (tgt := 162) hx hb (by first | assumption | exact ⟨by omega, by omega⟩) dX7_build_156 (by decide) (fun c_156 => ?_) (fun c_156 => ?_)
          · skip
            refine lv_aload_n hx hb dX7_build_162 rfl (lv_at hl 3 rfl) ?_
            refine lv_aload_n hx hb dX7_build_163 rfl (lv_at hl 3 rfl) ?_
            refine x_get E hK hV (ci := 7) (C := RX7) (T := TX7) (N := 10) rfl w0c_in7 (pW_x (wup_self hSo)) 5 (by decide) rfl cf_7_18 rfl dX7_build_164 ?_
            refine lv_aload_n hx hb dX7_build_167 rfl (lv_at hl 3 rfl) ?_
            refine x_get E hK hV (ci := 7) (C := RX7) (T := TX7) (N := 10) rfl w0c_in7 (pW_x (wup_self hSo)) 6 (by decide) rfl cf_7_22 rfl dX7_build_168 ?_
            refine lv_iload hx hb dX7_build_171 (lv_at hl 1 rfl) ?_
            have g173 : v147 ug = chG n C i.toNat := by rw [lo147 ug (fun k hk => Ne.symm (scg_ _ (hcp _ (by omega)) k (by rw [pA] at hk; omega))) uga ugt ugu, fr131 ug (fun k hk => Ne.symm (scg_ _ (hcp _ (by omega)) k hk))]; exact c3
            have h173 : v147 uh = chG n C i.toNat := by rw [lo147 uh (fun k hk => Ne.symm (sch_ _ (hcp _ (by omega)) k (by rw [pA] at hk; omega))) uha uht uhu, fr131 uh (fun k hk => Ne.symm (sch_ _ (hcp _ (by omega)) k hk))]; exact c4
            refine c_callv (As := [.ref ug, .ref uh, Iz (1)]) (rest := []) E (k7_multiply (v := v147) (a := ug) (b := uh) (k := 1) hO hN (wup_self hSo) hU mug muh (Ne.symm ngt) (Ne.symm nht) (Ne.symm ngu) (Ne.symm nhu) (by omega) (by omega) (by rw [g173]; exact chG_sz hC (by omega)) (by rw [h173]; exact chG_sz hC (by omega))) (cwV 3 hts (cGood cl_X7_64 ci_X7_multiply cs_X7_multiply cn_RX7 cc_X7_multiply) rfl rfl rfl (by decide +kernel) ⟨Nat.le_of_ble_eq_true rfl, Nat.le_of_ble_eq_true rfl⟩) (x_recv (q := (RX7, TX7, 10)) hK hV (ci := 7) rfl (pW_x (wup_self hSo))) hK hV hA hR rfl hl.1 (Nat.le_of_ble_eq_true rfl) dX7_build_173 (fun X173 dd173 nn173 ss173 ll173 gg173 H locs q173 hV hm173 => ?_)
            obtain ⟨v173, e1_, hN, ve173, vo173⟩ := q173
            obtain rfl := e1_.symm
            have t173 : v173 ut = chG n C i.toNat * chG n C i.toNat ^ 1 := by rw [ve173, g173, h173]; rfl
            have w173 : ∀ k : Nat, k ≤ n - (i.toNat - 2) → v173 (co (cp i.toNat) k) = chL n C i.toNat 2 k := fun k hk => (vo173 _ (sct_ _ (hcp _ (by omega)) k (by omega)) (scu_ _ (hcp _ (by omega)) k (by omega))).trans (w147 k hk)
            have fr173 : ∀ b : Nat, (∀ k : Nat, k < 13 → b ≠ co (cp i.toNat) k) → stN ta tt tu ug uh uq ut uu b → v173 b = v_59 b := fun b h q => (vo173 b q.2.2.2.2.2.2.1 q.2.2.2.2.2.2.2).trans (fr147 b h q)
            refine lv_iconst (v := Int32.ofInt (0)) hx hb dX7_build_176 (by decide) ?_
            refine lv_istore (lv' := [(6, Iz (0)), (5, Iz (0)), (4, Iz (1)), (3, .ref (cp i.toNat)), (0, .ref s0), (1, .ref f), (2, Iz (i))]) hx hb dX7_build_177 hl (by decide) rfl (fun ls hl => ?_)
            refine r_loop2 (P := fun N_ ce sl H locs ls => ∃ dd_179 : Nat → Nat, ∃ nn_179 ss_179 : Nat → Int, ∃ ll_179 : Nat → Nat, ∃ gg_179 : Nat → Int → Int, ∃ v_179 : Nat → Int, ∃ j : Int, N_ = (14 - j).toNat ∧ ce = cP LB ll_179 - cP LB ll ∧ sl = 2 * (cP LB ll_179 - cP LB ll) ∧ cR LB nn_179 ss_179 ll_179 gg_179 v_179 ∧ (0 ≤ j) ∧ (j ≤ (n : Int) - i + 1) ∧ (∀ k : Nat, (k : Int) < j → v_179 (co (cp i.toNat) k) = C i.toNat k) ∧ (∀ k : Nat, j ≤ (k : Int) → (k : Int) ≤ (n : Int) - i → v_179 (co (cp i.toNat) k) = chL n C i.toNat 2 k) ∧ (v_179 ut = chG n C i.toNat * chG n C i.toNat ^ 1) ∧ (∀ b : Nat, (∀ k : Nat, k < 13 → b ≠ co (cp i.toNat) k) → b ≠ uq → b ≠ uu → v_179 b = v173 b) ∧ cV dC dI cx LB (va_A (bW (cx 0) LB dd nn ss ll gg (pW cx LP pc_ pd co X)) s.heap.size) s.heap ll (pW cx LP pc_ (va_up pd_59 (cp i.toNat) ((n : Int) - i)) co (wup X s0 (.inr (7, [Iz (sc_), .ref t0, .ref ch, Iz (i), Iz (sw_), .ref ug, .ref uh, .ref uq, .ref ut, .ref uu])))) dd_179 nn_179 ss_179 ll_179 gg_179 H locs ∧ lv_has ls 7 [(0, .ref s0), (1, .ref f), (2, Iz (i)), (3, .ref (cp i.toNat)), (4, Iz (1)), (5, Iz (0)), (6, Iz (j))]) (g := fun ls => F0 m 179 ls []) (fun N_ ce sl H locs ls hI ih_179 => ?_) _ _ _ _ _ _ ⟨_, _, _, _, _, v173, 0, rfl, rfl, rfl, hN, (Int.le_refl 0), (by omega), (fun k hk => by omega), (fun k _ hk => w173 k (by omega)), (t173), (fun b _ _ _ => rfl), hV, lv_sub hl [4, 5, 6, 3, 2, 1, 0] rfl⟩
            obtain ⟨dd_179, nn_179, ss_179, ll_179, gg_179, v_179, j, rfl, rfl, rfl, hN, j0, j1, e1, e2, e3, e4, hV, hl⟩ := hI
            refine lv_iload hx hb dX7_build_179 (lv_at hl 6 rfl) ?_
            refine lv_aload_n hx hb dX7_build_181 rfl (lv_at hl 3 rfl) ?_
            refine y_getdeg E hK hV (hcp i.toNat (by omega)) (va_up_self _ _ _) cf_7_49 dX7_build_182 ?_
            refine g_icmp_gt (tgt := 245) hx hb ⟨by omega, by omega⟩ ⟨by omega, by omega⟩ dX7_build_185 (by decide) (fun c_185 => ?_) (fun c_185 => ?_)
            · skip
              refine lv_aload_n hx hb dX7_build_245 rfl (lv_at hl 0 rfl) ?_
              refine lv_aload_n hx hb dX7_build_246 rfl (lv_at hl 0 rfl) ?_
              refine x_get E hK hV (ci := 7) (C := RX7) (T := TX7) (N := 10) rfl w0c_in7 (pW_x (wup_self hSo)) 2 (by decide) rfl cf_7_9 rfl dX7_build_247 ?_
              refine lv_iload_n hx hb dX7_build_250 rfl (lv_at hl 2 rfl) ?_
              refine lv_iconst (v := Int32.ofInt (1)) hx hb dX7_build_251 (by decide) ?_
              refine g_isub hx hb dX7_build_252 ?_
              refine y_aaldq hx hb hK hV (t0 := 3) rfl (wup_ne hch nchs) (by omega) (by omega) (by omega) dX7_build_253 ?_
              refine c_callr (As := []) (rest := [.ref s0]) E (k4_lead (p0 := (cp (i - 1).toNat)) (hcp _ (by omega)) (by rw [va_up_ne _ _ (fun q_ => by have := hcj (i - 1).toNat i.toNat (by omega) (by omega) q_; omega), c1 _ (by omega)]; omega) (by rw [va_up_ne _ _ (fun q_ => by have := hcj (i - 1).toNat i.toNat (by omega) (by omega) q_; omega), c1 _ (by omega)]; omega)) (cwV 0 hts (cGood cl_X7_82 ci_X4_lead cs_X4_lead cn_RX4 cc_X4_lead) rfl rfl rfl (by decide +kernel) ⟨Nat.le_of_ble_eq_true rfl, Nat.le_of_ble_eq_true rfl⟩) (y_recv hK hV (hcp (i - 1).toNat (by omega))) hK hV hA hR rfl hl.1 (Nat.le_of_ble_eq_true rfl) dX7_build_254 (fun a254 X254 dd254 nn254 ss254 ll254 gg254 H locs q254 hV hm254 => ?_)
              obtain ⟨e1_, e2_, e3_, e4_, e5_, e6_, q254⟩ := q254
              obtain rfl := e1_.symm
              obtain rfl := e2_.symm
              obtain rfl := e3_.symm
              obtain rfl := e4_.symm
              obtain rfl := e5_.symm
              obtain rfl := e6_.symm
              rw [va_up_ne _ _ (fun q_ => by have := hcj (i - 1).toNat i.toNat (by omega) (by omega) q_; omega), c1 _ (by omega), show ((n : Int) - (((i - 1).toNat : Nat) : Int)).toNat = n - (i.toNat - 1) by omega] at q254
              subst q254
              refine lv_iload hx hb dX7_build_257 (lv_at hl 4 rfl) ?_
              have f259 : ∀ b : Nat, (∀ k : Nat, k < 13 → b ≠ co (cp i.toNat) k) → stN ta tt tu ug uh uq ut uu b → v_179 b = v_59 b := fun b h q => (e4 b h q.2.2.2.2.2.1 q.2.2.2.2.2.2.2).trans (fr173 b h q)
              have a259 : v_179 (co (cp (i - 1).toNat) (n - (i.toNat - 1))) = C (i.toNat - 1) (n - (i.toNat - 1)) := by rw [f259 _ (fun k_ hk_ => ne_c _ _ _ _ (by omega) (by omega) (by omega) hk_ (by omega)) (stC _ (hcp _ (by omega)) _ (by omega)), c2 _ _ (by omega) (by omega), show (i - 1).toNat = i.toNat - 1 by omega]
              refine c_callv (As := [.ref (co (cp (i - 1).toNat) (n - (i.toNat - 1))), Iz (1)]) (rest := []) E (k7_advance (v := v_179) (a := (co (cp (i - 1).toNat) (n - (i.toNat - 1)))) (k := 1) hO hN (wup_self hSo) hU (hO.1 (cp (i - 1).toNat) (hcp (i - 1).toNat (by omega)) _ (by omega)) (Ne.symm (scg_ _ (hcp _ (by omega)) _ (by omega))) (by omega) (by omega) (by rw [a259]; exact (hC2 _ (by omega)).2 _ (by omega))) (cwV 2 hts (cGood cl_X7_86 ci_X7_advance cs_X7_advance cn_RX7 cc_X7_advance) rfl rfl rfl (by decide +kernel) ⟨Nat.le_of_ble_eq_true rfl, Nat.le_of_ble_eq_true rfl⟩) (x_recv (q := (RX7, TX7, 10)) hK hV (ci := 7) rfl (pW_x (wup_self hSo))) hK hV hA hR rfl hl.1 (Nat.le_of_ble_eq_true rfl) dX7_build_259 (fun X259 dd259 nn259 ss259 ll259 gg259 H locs q259 hV hm259 => ?_)
              obtain ⟨v259, e1_, hN, vg259, vh259, vo259⟩ := q259
              obtain rfl := e1_.symm
              have g259 : ((v_179 (co (cp (i - 1).toNat) (n - (i.toNat - 1)))).natAbs : Int) = chG n C (i + 1).toNat := by rw [a259]; unfold chG; rw [if_neg (by omega), show (i + 1).toNat - 2 = i.toNat - 1 by omega]
              have fr259 : ∀ b : Nat, (∀ k : Nat, k < 13 → b ≠ co (cp i.toNat) k) → stN ta tt tu ug uh uq ut uu b → v259 b = v_59 b := fun b h q => (vo259 b q.2.2.2.1 q.2.2.2.2.1).trans (f259 b h q)
              refine lv_aload_n hx hb dX7_build_262 rfl (lv_at hl 0 rfl) ?_
              refine lv_dup hx hb dX7_build_263 rfl ?_
              refine x_get E hK hV (ci := 7) (C := RX7) (T := TX7) (N := 10) rfl w0c_in7 (pW_x (wup_self hSo)) 3 (by decide) rfl cf_7_53 rfl dX7_build_264 ?_
              refine lv_iconst (v := Int32.ofInt (1)) hx hb dX7_build_267 (by decide) ?_
              refine g_iadd hx hb dX7_build_268 ?_
              refine y_puto E hK hV (ci := 7) (C := RX7) (T := TX7) (N := 10) (ty := tyX7) rfl w0c_in7 tyX7_ok nmX7 (wup_self hSo) 3 (by decide) (Nat.le_of_ble_eq_true rfl) (tyX7_ok 3 (by decide)) rfl cf_7_53 rfl (X2 := wup X s0 (.inr (7, [Iz (sc_), .ref t0, .ref ch, Iz (i + 1), Iz (sw_), .ref ug, .ref uh, .ref uq, .ref ut, .ref uu]))) wup_up dX7_build_269 (fun H locs hV => ?_)
              refine g_iinc (k := 2) (z := i) (n := (1)) (lv' := [(2, Iz (i + 1)), (0, .ref s0), (1, .ref f), (3, .ref (cp i.toNat)), (4, Iz (1)), (5, Iz (0)), (6, Iz (j))]) hx hb dX7_build_272 hl rfl (by decide) rfl (fun ls hl => ?_)
              refine lv_goto (tgt := 59) hx hb dX7_build_275 (by decide) ?_
              exact ih_59 _ (by omega) _ _ _ _ _ ⟨_, _, _, _, _, v259, (va_up pd_59 (cp i.toNat) ((n : Int) - i)), (i + 1), rfl, rfl, rfl, hN, (by omega), (by omega), (fun j hj => by
                        by_cases w : j = i.toNat
                        · rw [w, va_up_self]; omega
                        · rw [va_up_ne _ _ (fun q_ => w (hcj _ _ (by omega) (by omega) q_))]; exact c1 j (by omega)), (fun j k hj hk => by
                        by_cases w : j = i.toNat
                        · rw [w, vo259 _ (scg_ _ (hcp _ (by omega)) _ (by omega)) (sch_ _ (hcp _ (by omega)) _ (by omega))]; exact e1 k (by omega)
                        · rw [fr259 _ (fun k_ hk_ => ne_c _ _ _ _ (by omega) (by omega) (by omega) hk_ w) (stC _ (hcp _ (by omega)) _ (by omega))]; exact c2 j k (by omega) hk), (by rw [vg259, g259]), (by rw [vh259, g259]), (fun b h q => (fr259 b (fun k hk => h _ k (by omega) hk) q).trans (c5 b h q)), (fun p h => by rw [va_up_ne _ _ (h _ (by omega))]; exact c6 p h), hV, lv_sub hl [1, 2, 0] rfl⟩
            · skip
              refine lv_aload_n hx hb dX7_build_188 rfl (lv_at hl 0 rfl) ?_
              refine x_get E hK hV (ci := 7) (C := RX7) (T := TX7) (N := 10) rfl w0c_in7 (pW_x (wup_self hSo)) 9 (by decide) rfl cf_7_31 rfl dX7_build_189 ?_
              refine lv_aload_n hx hb dX7_build_192 rfl (lv_at hl 3 rfl) ?_
              refine y_getc E hK hV (hcp i.toNat (by omega)) cf_7_68 dX7_build_193 ?_
              refine lv_iload hx hb dX7_build_196 (lv_at hl 6 rfl) ?_
              refine y_aald hx hb hK hV (hcp i.toNat (by omega)) (by omega) (by omega) dX7_build_198 ?_
              have a199 : v_179 (co (cp i.toNat) (j).toNat) = chL n C i.toNat 2 j.toNat := e2 _ (by omega) (by omega)
              have s199 : ((v_179 (co (cp i.toNat) (j).toNat)).natAbs : Int) < 1073741824 ^ 80 := by rw [a199]; exact hS1 2 (by omega) _ (by omega)
              have l199 := num1_le (hN _ (hO.1 (cp i.toNat) (hcp i.toNat (by omega)) _ (by omega))) s199
              refine c_callv (As := [.ref (co (cp i.toNat) (j).toNat)]) (rest := []) E (k0_copy (v := v_179) (h0 := uu) (a := (co (cp i.toNat) (j).toNat)) muu hN (hO.1 (cp i.toNat) (hcp i.toNat (by omega)) _ (by omega)) (Ne.symm (scu_ (cp i.toNat) (hcp i.toNat (by omega)) _ (by omega))) (by omega)) (cwV 1 hts (cGood cl_X7_72 ci_X0_copy cs_X0_copy cn_RX0 cc_X0_copy) rfl rfl rfl (by decide +kernel) ⟨Nat.le_of_ble_eq_true rfl, Nat.le_of_ble_eq_true rfl⟩) (b_recv hK hV muu) hK hV hA hR rfl hl.1 (Nat.le_of_ble_eq_true rfl) dX7_build_199 (fun X199 dd199 nn199 ss199 ll199 gg199 H locs q199 hV hm199 => ?_)
              obtain ⟨e1_, hN⟩ := q199
              obtain rfl := e1_.symm
              refine lv_aload_n hx hb dX7_build_202 rfl (lv_at hl 0 rfl) ?_
              refine x_get E hK hV (ci := 7) (C := RX7) (T := TX7) (N := 10) rfl w0c_in7 (pW_x (wup_self hSo)) 7 (by decide) rfl cf_7_25 rfl dX7_build_203 ?_
              refine lv_aload_n hx hb dX7_build_206 rfl (lv_at hl 0 rfl) ?_
              refine x_get E hK hV (ci := 7) (C := RX7) (T := TX7) (N := 10) rfl w0c_in7 (pW_x (wup_self hSo)) 9 (by decide) rfl cf_7_31 rfl dX7_build_207 ?_
              refine lv_aload_n hx hb dX7_build_210 rfl (lv_at hl 0 rfl) ?_
              refine x_get E hK hV (ci := 7) (C := RX7) (T := TX7) (N := 10) rfl w0c_in7 (pW_x (wup_self hSo)) 8 (by decide) rfl cf_7_28 rfl dX7_build_211 ?_
              refine lv_aload_n hx hb dX7_build_214 rfl (lv_at hl 3 rfl) ?_
              refine y_getc E hK hV (hcp i.toNat (by omega)) cf_7_68 dX7_build_215 ?_
              refine lv_iload hx hb dX7_build_218 (lv_at hl 6 rfl) ?_
              refine y_aald hx hb hK hV (hcp i.toNat (by omega)) (by omega) (by omega) dX7_build_220 ?_
              have a221 : (va_up v_179 uu (v_179 (co (cp i.toNat) (j).toNat))) uu = chL n C i.toNat 2 j.toNat := by rw [va_up_self, a199]
              have b221 : (va_up v_179 uu (v_179 (co (cp i.toNat) (j).toNat))) ut = chG n C i.toNat * chG n C i.toNat ^ 1 := by rw [va_up_ne _ _ ntu_]; exact e3
              have l221 := num1_le (hN _ muu) (show (((va_up v_179 uu (v_179 (co (cp i.toNat) (j).toNat))) uu).natAbs : Int) < 1073741824 ^ 80 by rw [a221]; exact hS1 2 (by omega) _ (by omega))
              refine c_callv (As := [.ref uu, .ref ut, .ref (co (cp i.toNat) (j).toNat)]) (rest := []) E (k0_rest (v := (va_up v_179 uu (v_179 (co (cp i.toNat) (j).toNat)))) (h0 := uq) (a := uu) (b := ut) (qq := (co (cp i.toNat) (j).toNat)) muq hN muu mUt (hO.1 (cp i.toNat) (hcp i.toNat (by omega)) _ (by omega)) nqu_ nqt_ (Ne.symm (scq_ (cp i.toNat) (hcp i.toNat (by omega)) _ (by omega))) (Ne.symm (scu_ _ (hcp _ (by omega)) _ (by omega))) (Ne.symm (sct_ _ (hcp _ (by omega)) _ (by omega))) (by omega)) (cwV 3 hts (cGood cl_X7_75 ci_X0_rest cs_X0_rest cn_RX0 cc_X0_rest) rfl rfl rfl (by decide +kernel) ⟨Nat.le_of_ble_eq_true rfl, Nat.le_of_ble_eq_true rfl⟩) (b_recv hK hV muq) hK hV hA hR rfl hl.1 (Nat.le_of_ble_eq_true rfl) dX7_build_221 (fun X221 dd221 nn221 ss221 ll221 gg221 H locs q221 hV hm221 => ?_)
              obtain ⟨e1_, hN⟩ := q221
              obtain rfl := e1_.symm
              rw [a221, b221] at hN
              refine lv_iload hx hb dX7_build_224 (lv_at hl 5 rfl) ?_
              refine g_if_ne (tgt := 239) hx hb ⟨by omega, by omega⟩ dX7_build_226 (by decide) (fun c_226 => ?_) (fun c_226 => ?_)
              · omega
              · skip
                refine lv_aload_n hx hb dX7_build_229 rfl (lv_at hl 3 rfl) ?_
                refine y_getc E hK hV (hcp i.toNat (by omega)) cf_7_68 dX7_build_230 ?_
                refine lv_iload hx hb dX7_build_233 (lv_at hl 6 rfl) ?_
                refine y_aald hx hb hK hV (hcp i.toNat (by omega)) (by omega) (by omega) dX7_build_235 ?_
                refine c_callv (As := []) (rest := []) E (k0_flip (v := (va_up (va_up (va_up v_179 uu (v_179 (co (cp i.toNat) (j).toNat))) uq ((chL n C i.toNat 2 j.toNat).tmod (chG n C i.toNat * chG n C i.toNat ^ 1))) (co (cp i.toNat) (j).toNat) ((chL n C i.toNat 2 j.toNat).tdiv (chG n C i.toNat * chG n C i.toNat ^ 1)))) (h0 := (co (cp i.toNat) (j).toNat)) (hO.1 (cp i.toNat) (hcp i.toNat (by omega)) _ (by omega)) hN) (cwV 0 hts (cGood cl_X7_79 ci_X0_flip cs_X0_flip cn_RX0 cc_X0_flip) rfl rfl rfl (by decide +kernel) ⟨Nat.le_of_ble_eq_true rfl, Nat.le_of_ble_eq_true rfl⟩) (b_recv hK hV (hO.1 (cp i.toNat) (hcp i.toNat (by omega)) _ (by omega))) hK hV hA hR rfl hl.1 (Nat.le_of_ble_eq_true rfl) dX7_build_236 (fun X236 dd236 nn236 ss236 ll236 gg236 H locs q236 hV hm236 => ?_)
                obtain ⟨e1_, hN⟩ := q236
                obtain rfl := e1_.symm
                refine g_iinc (k := 6) (z := j) (n := (1)) (lv' := [(6, Iz (j + 1)), (0, .ref s0), (1, .ref f), (2, Iz (i)), (3, .ref (cp i.toNat)), (4, Iz (1)), (5, Iz (0))]) hx hb dX7_build_239 hl rfl (by decide) rfl (fun ls hl => ?_)
                refine lv_goto (tgt := 179) hx hb dX7_build_242 (by decide) ?_
                exact ih_179 _ (by omega) _ _ _ _ _ ⟨_, _, _, _, _, (va_up (va_up (va_up (va_up v_179 uu (v_179 (co (cp i.toNat) (j).toNat))) uq ((chL n C i.toNat 2 j.toNat).tmod (chG n C i.toNat * chG n C i.toNat ^ 1))) (co (cp i.toNat) (j).toNat) ((chL n C i.toNat 2 j.toNat).tdiv (chG n C i.toNat * chG n C i.toNat ^ 1))) (co (cp i.toNat) (j).toNat) (-((va_up (va_up (va_up v_179 uu (v_179 (co (cp i.toNat) (j).toNat))) uq ((chL n C i.toNat 2 j.toNat).tmod (chG n C i.toNat * chG n C i.toNat ^ 1))) (co (cp i.toNat) (j).toNat) ((chL n C i.toNat 2 j.toNat).tdiv (chG n C i.toNat * chG n C i.toNat ^ 1))) (co (cp i.toNat) (j).toNat)))), (j + 1), rfl, rfl, rfl, hN, (by omega), (by omega), (fun k hk => by
                          by_cases w : k = j.toNat
                          · rw [w, va_up_self, va_up_self]; exact (hS3 _ (by omega)).symm
                          · have w2 : co (cp i.toNat) k ≠ co (cp i.toNat) j.toNat := fun q_ => w (hO.2 _ (hcp _ (by omega)) _ (hcp _ (by omega)) _ _ (by omega) (by omega) q_).2
                            rw [va_up_ne _ _ w2, va_up_ne _ _ w2, va_up_ne _ _ (scq_ _ (hcp _ (by omega)) _ (by omega)), va_up_ne _ _ (scu_ _ (hcp _ (by omega)) _ (by omega))]; exact e1 k (by omega)), (fun k hk hk2 => by
                          have w2 : co (cp i.toNat) k ≠ co (cp i.toNat) j.toNat := fun q_ => by have := (hO.2 _ (hcp _ (by omega)) _ (hcp _ (by omega)) _ _ (by omega) (by omega) q_).2; omega
                          rw [va_up_ne _ _ w2, va_up_ne _ _ w2, va_up_ne _ _ (scq_ _ (hcp _ (by omega)) _ (by omega)), va_up_ne _ _ (scu_ _ (hcp _ (by omega)) _ (by omega))]; exact e2 k (by omega) hk2), (by
                          have w2 : ut ≠ co (cp i.toNat) j.toNat := Ne.symm (sct_ _ (hcp _ (by omega)) _ (by omega))
                          rw [va_up_ne _ _ w2, va_up_ne _ _ w2, va_up_ne _ _ (Ne.symm nqt_), va_up_ne _ _ ntu_]; exact e3), (fun b h q1 q2 => by rw [va_up_ne _ _ (h _ (by omega)), va_up_ne _ _ (h _ (by omega)), va_up_ne _ _ q1, va_up_ne _ _ q2]; exact e4 b h q1 q2), hV, lv_sub hl [1, 2, 3, 4, 5, 6, 0] rfl⟩
          · omega
  · omega
