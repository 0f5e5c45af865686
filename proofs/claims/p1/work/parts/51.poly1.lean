/-- the numbers of Tools: each its own, none of a polynomial's -/
def tOK (LB LP : List Nat) (co : Nat → Nat → Nat) (ta tb tq tt tu : Nat) : Prop := (ta ∈ LB ∧ tb ∈ LB ∧ tq ∈ LB ∧ tt ∈ LB ∧ tu ∈ LB) ∧ (ta ≠ tb ∧ ta ≠ tq ∧ ta ≠ tt ∧ ta ≠ tu) ∧ (tb ≠ tq ∧ tb ≠ tt ∧ tb ≠ tu) ∧ (tq ≠ tt ∧ tq ≠ tu) ∧ tt ≠ tu ∧ ∀ p ∈ LP, ∀ i : Nat, i < 13 → co p i ≠ ta ∧ co p i ≠ tb ∧ co p i ≠ tq ∧ co p i ≠ tt ∧ co p i ≠ tu
set_option maxHeartbeats 4000000 in
set_option maxRecDepth 100000 in
theorem k4_lead {l : Launch} {dC : Nat → ClassId} {dI : Nat → Nat → Nat} {cx : Nat → Nat} {LB : List Nat} {LP : List Nat} {pc_ : Nat → Nat} {pd : Nat → Int} {co : Nat → Nat → Nat} {X : va_W} {dd : Nat → Nat} {nn ss : Nat → Int} {ll : Nat → Nat} {gg : Nat → Int → Int} {H0 : Heap} {p0 : Nat} (mp : p0 ∈ LP) (d0 : 0 ≤ pd p0) (d1 : pd p0 ≤ 12) : Met l yX4_lead (Cond.code yX4_lead cX4_lead 1 (some (.object "AlgebraicReals$Big")) :: w0c) (cRm 1 23 LB ll) (cPc dC dI cx LB (pW cx LP pc_ pd co X) dd nn ss ll gg H0 [.ref p0]) (cQr dC dI cx LB (va_A (bW (cx 0) LB dd nn ss ll gg (pW cx LP pc_ pd co X)) H0.size) ll H0 (fun z X' dd' nn' ss' ll' gg' => X' = (pW cx LP pc_ pd co X) ∧ dd' = dd ∧ nn' = nn ∧ ss' = ss ∧ ll' = ll ∧ gg' = gg ∧ z = co p0 (pd p0).toNat)) (cMc LB ll) (2 * cMc LB ll) (va_A (bW (cx 0) LB dd nn ss ll gg (pW cx LP pc_ pd co X)) H0.size) := by
  refine Met.ofW (cc := cX4_lead) (maxL := 1) (ret := (some (.object "AlgebraicReals$Big"))) (by decide) rfl ?_
  intro p e s m args below meth c s₁ B hml hv
  obtain ⟨rfl, hH0, hP, hK, hD0, hC0⟩ := hv
  have hx := B.exec
  have hb := B.bytes
  have hr := B.returns
  have hts := atoms_spec (ws := Cond.code yX4_lead cX4_lead 1 (some (.object "AlgebraicReals$Big")) :: w0c) B.pre
  have hown : s.vm.findClass RX4 = some m.cls := findClass_of_methodNamed B.named
  have hlocks := B.notSynchronized
  have E : CallFix p m c cX4_lead 1 s _ (Cond.code yX4_lead cX4_lead 1 (some (.object "AlgebraicReals$Big")) :: w0c) RX4 := ⟨hx, hb, hml, hown, hts⟩
  subst hH0
  have hD := va_D.self (sz := s.heap.size) hD0
  have hA : ∀ q : Nat, s.heap.size ≤ q → va_A (bW (cx 0) LB dd nn ss ll gg (pW cx LP pc_ pd co X)) s.heap.size q := fun q h => Or.inr h
  have hV : cV dC dI cx LB (va_A (bW (cx 0) LB dd nn ss ll gg (pW cx LP pc_ pd co X)) s.heap.size) s.heap ll (pW cx LP pc_ pd co X) dd nn ss ll gg s.heap [] := ⟨hP, hD, va_S.rf, fun _ _ => Nat.le_refl _, hC0⟩
  have hR : (headSpec (Cond.code yX4_lead cX4_lead 1 (some (.object "AlgebraicReals$Big")) :: w0c) (cRm 1 23 LB ll)).room.cells = cMc LB ll ∧ (headSpec (Cond.code yX4_lead cX4_lead 1 (some (.object "AlgebraicReals$Big")) :: w0c) (cRm 1 23 LB ll)).room.slots = 2 * cMc LB ll := ⟨rfl, rfl⟩
  refine W.widen (k := cP LB ll - cP LB ll) (n := 2 * (cP LB ll - cP LB ll)) (Nat.zero_le _) (Nat.zero_le _) ?_
  have hl := lv_entry ([.ref p0]) (n := 1) (Nat.le_of_ble_eq_true rfl)
  rw [lg_entry_eq]
  generalize (lg_sl ([.ref p0]) ++ List.replicate (1 - (lg_sl ([.ref p0])).length) Slot.unset).toArray = ls at hl ⊢
  have hl : lv_has ls 1 [(0, .ref p0)] := hl
  refine lv_aload_n hx hb dX4_lead_0 rfl (lv_at hl 0 rfl) ?_
  refine y_getc E hK hV mp cf_4_11 dX4_lead_1 ?_
  refine lv_iconst (v := Int32.ofInt (0)) hx hb dX4_lead_4 (by decide) ?_
  refine lv_aload_n hx hb dX4_lead_5 rfl (lv_at hl 0 rfl) ?_
  refine y_getdeg E hK hV mp rfl cf_4_15 dX4_lead_6 ?_
  refine lv_bipush (v := Int32.ofInt (12)) hx hb dX4_lead_9 (by decide) ?_
  refine g_min E hl.1 cl_X4_24 (Nat.le_of_ble_eq_true rfl) (Nat.le_of_ble_eq_true rfl) (c_room hV hR).1 (c_room hV hR).2 ⟨by omega, by omega⟩ ⟨by omega, by omega⟩ dX4_lead_11 ?_
  obtain ⟨mn, emn⟩ : ∃ mn : Int, mn = (if 12 < pd p0 then 12 else pd p0) := ⟨_, rfl⟩
  rw [← emn]
  have emn2 : mn = pd p0 := by rw [emn]; split <;> omega
  refine g_max E hl.1 cl_X4_33 (Nat.le_of_ble_eq_true rfl) (Nat.le_of_ble_eq_true rfl) (c_room hV hR).1 (c_room hV hR).2 ⟨by omega, by omega⟩ ⟨by omega, by omega⟩ dX4_lead_14 ?_
  obtain ⟨mz, emz⟩ : ∃ mz : Int, mz = (if 0 < mn then mn else 0) := ⟨_, rfl⟩
  rw [← emz]
  have emz2 : mz = pd p0 := by rw [emz]; split <;> omega
  refine y_aald hx hb hK hV mp (by omega) (by omega) dX4_lead_17 ?_
  have hpost : (pW cx LP pc_ pd co X) = (pW cx LP pc_ pd co X) ∧ dd = dd ∧ nn = nn ∧ ss = ss ∧ ll = ll ∧ gg = gg ∧ ((co p0 (mz).toNat) : Nat) = co p0 (pd p0).toNat := ⟨rfl, rfl, rfl, rfl, rfl, rfl, by rw [emz2]⟩
  exact c_aret hx hb hr (Or.inl ⟨_, rfl⟩) hK hV hpost dX4_lead_18 hlocks
set_option maxHeartbeats 4000000 in
set_option maxRecDepth 100000 in
theorem k4_copy {l : Launch} {dC : Nat → ClassId} {dI : Nat → Nat → Nat} {cx : Nat → Nat} {LB : List Nat} {LP : List Nat} {pc_ : Nat → Nat} {pd : Nat → Int} {co : Nat → Nat → Nat} {X : va_W} {dd : Nat → Nat} {nn ss : Nat → Int} {ll : Nat → Nat} {gg : Nat → Int → Int} {H0 : Heap} {v : Nat → Int} {p0 pa : Nat} (mp : p0 ∈ LP) (mq : pa ∈ LP) (np : p0 ≠ pa) (hO : pOK LB LP co) (hN : cR LB nn ss ll gg v) (a0 : -1 ≤ pd pa) (a1 : pd pa ≤ 12) (sz : ∀ i : Nat, (i : Int) ≤ pd pa → ((v (co pa i)).natAbs : Int) < 1073741824 ^ 80) : Met l yX4_copy (Cond.code yX4_copy cX4_copy 3 none :: w0c) (cRm 2 61 LB ll) (cPc dC dI cx LB (pW cx LP pc_ pd co X) dd nn ss ll gg H0 [.ref p0, .ref pa]) (cQv dC dI cx LB (va_A (bW (cx 0) LB dd nn ss ll gg (pW cx LP pc_ pd co X)) H0.size) ll H0 (fun X' dd' nn' ss' ll' gg' => ∃ v' : Nat → Int, X' = pW cx LP pc_ (va_up pd p0 (pd pa)) co X ∧ cR LB nn' ss' ll' gg' v' ∧ (∀ i : Nat, (i : Int) ≤ pd pa → v' (co p0 i) = v (co pa i)) ∧ ∀ b : Nat, (∀ i : Nat, (i : Int) ≤ pd pa → b ≠ co p0 i) → v' b = v b)) (cMc LB ll) (2 * cMc LB ll) (va_A (bW (cx 0) LB dd nn ss ll gg (pW cx LP pc_ pd co X)) H0.size) := by
  refine Met.ofW (cc := cX4_copy) (maxL := 3) (ret := none) (by decide) rfl ?_
  intro p e s m args below meth c s₁ B hml hv
  obtain ⟨rfl, hH0, hP, hK, hD0, hC0⟩ := hv
  have hx := B.exec
  have hb := B.bytes
  have hr := B.returns
  have hts := atoms_spec (ws := Cond.code yX4_copy cX4_copy 3 none :: w0c) B.pre
  have hown : s.vm.findClass RX4 = some m.cls := findClass_of_methodNamed B.named
  have hlocks := B.notSynchronized
  have E : CallFix p m c cX4_copy 3 s _ (Cond.code yX4_copy cX4_copy 3 none :: w0c) RX4 := ⟨hx, hb, hml, hown, hts⟩
  subst hH0
  have hD := va_D.self (sz := s.heap.size) hD0
  have hA : ∀ q : Nat, s.heap.size ≤ q → va_A (bW (cx 0) LB dd nn ss ll gg (pW cx LP pc_ pd co X)) s.heap.size q := fun q h => Or.inr h
  have hV : cV dC dI cx LB (va_A (bW (cx 0) LB dd nn ss ll gg (pW cx LP pc_ pd co X)) s.heap.size) s.heap ll (pW cx LP pc_ pd co X) dd nn ss ll gg s.heap [] := ⟨hP, hD, va_S.rf, fun _ _ => Nat.le_refl _, hC0⟩
  have hR : (headSpec (Cond.code yX4_copy cX4_copy 3 none :: w0c) (cRm 2 61 LB ll)).room.cells = cMc LB ll ∧ (headSpec (Cond.code yX4_copy cX4_copy 3 none :: w0c) (cRm 2 61 LB ll)).room.slots = 2 * cMc LB ll := ⟨rfl, rfl⟩
  refine W.widen (k := cP LB ll - cP LB ll) (n := 2 * (cP LB ll - cP LB ll)) (Nat.zero_le _) (Nat.zero_le _) ?_
  have hl := lv_entry ([.ref p0, .ref pa]) (n := 3) (Nat.le_of_ble_eq_true rfl)
  rw [lg_entry_eq]
  generalize (lg_sl ([.ref p0, .ref pa]) ++ List.replicate (3 - (lg_sl ([.ref p0, .ref pa])).length) Slot.unset).toArray = ls at hl ⊢
  have hl : lv_has ls 3 [(0, .ref p0), (1, .ref pa)] := hl
  refine lv_aload_n hx hb dX4_copy_0 rfl (lv_at hl 0 rfl) ?_
  refine lv_aload_n hx hb dX4_copy_1 rfl (lv_at hl 1 rfl) ?_
  refine y_getdeg E hK hV mq rfl cf_4_15 dX4_copy_2 ?_
  refine y_putdeg E hK hV mp rfl cf_4_15 dX4_copy_5 (fun H locs hV => ?_)
  refine lv_iconst (v := Int32.ofInt (0)) hx hb dX4_copy_8 (by decide) ?_
  refine lv_istore_n (lv' := [(2, Iz (0)), (0, .ref p0), (1, .ref pa)]) hx hb dX4_copy_9 rfl hl (by decide) rfl (fun ls hl => ?_)
  refine r_loop2 (P := fun N_ ce sl H locs ls => ∃ dd_10 : Nat → Nat, ∃ nn_10 ss_10 : Nat → Int, ∃ ll_10 : Nat → Nat, ∃ gg_10 : Nat → Int → Int, ∃ v_10 : Nat → Int, ∃ i : Int, N_ = (13 - i).toNat ∧ ce = cP LB ll_10 - cP LB ll ∧ sl = 2 * (cP LB ll_10 - cP LB ll) ∧ cR LB nn_10 ss_10 ll_10 gg_10 v_10 ∧ (0 ≤ i) ∧ (i ≤ pd pa + 1) ∧ (∀ j : Nat, (j : Int) < i → v_10 (co p0 j) = v (co pa j)) ∧ (∀ b : Nat, (∀ j : Nat, (j : Int) ≤ pd pa → b ≠ co p0 j) → v_10 b = v b) ∧ cV dC dI cx LB (va_A (bW (cx 0) LB dd nn ss ll gg (pW cx LP pc_ pd co X)) s.heap.size) s.heap ll (pW cx LP pc_ (va_up pd p0 (pd pa)) co X) dd_10 nn_10 ss_10 ll_10 gg_10 H locs ∧ lv_has ls 3 [(0, .ref p0), (1, .ref pa), (2, Iz (i))]) (g := fun ls => F0 m 10 ls []) (fun N_ ce sl H locs ls hI ih_10 => ?_) _ _ _ _ _ _ ⟨_, _, _, _, _, v, 0, rfl, rfl, rfl, hN, (Int.le_refl 0), (by omega), (fun j h => by omega), (fun b h => rfl), hV, lv_sub hl [1, 2, 0] rfl⟩
  obtain ⟨dd_10, nn_10, ss_10, ll_10, gg_10, v_10, i, rfl, rfl, rfl, hN, i0, i1, c1, c2, hV, hl⟩ := hI
  refine lv_iload_n hx hb dX4_copy_10 rfl (lv_at hl 2 rfl) ?_
  refine lv_aload_n hx hb dX4_copy_11 rfl (lv_at hl 0 rfl) ?_
  refine y_getdeg E hK hV mp (va_up_self _ _ _) cf_4_15 dX4_copy_12 ?_
  refine g_icmp_gt (tgt := 45) hx hb ⟨by omega, by omega⟩ ⟨by omega, by omega⟩ dX4_copy_15 (by decide) (fun c_15 => ?_) (fun c_15 => ?_)
  · skip
    have hpost : ∃ v' : Nat → Int, (pW cx LP pc_ (va_up pd p0 (pd pa)) co X) = pW cx LP pc_ (va_up pd p0 (pd pa)) co X ∧ cR LB nn_10 ss_10 ll_10 gg_10 v' ∧ (∀ i : Nat, (i : Int) ≤ pd pa → v' (co p0 i) = v (co pa i)) ∧ ∀ b : Nat, (∀ i : Nat, (i : Int) ≤ pd pa → b ≠ co p0 i) → v' b = v b := ⟨_, rfl, hN, fun j h => c1 j (by omega), c2⟩
    exact c_vret hx hb hr hK hV hpost dX4_copy_45 hlocks
  · skip
    refine lv_iload_n hx hb dX4_copy_18 rfl (lv_at hl 2 rfl) ?_
    refine lv_bipush (v := Int32.ofInt (12)) hx hb dX4_copy_19 (by decide) ?_
    refine g_icmp_gt (tgt := 45) hx hb ⟨by omega, by omega⟩ ⟨by omega, by omega⟩ dX4_copy_21 (by decide) (fun c_21 => ?_) (fun c_21 => ?_)
    · skip
      have hpost : ∃ v' : Nat → Int, (pW cx LP pc_ (va_up pd p0 (pd pa)) co X) = pW cx LP pc_ (va_up pd p0 (pd pa)) co X ∧ cR LB nn_10 ss_10 ll_10 gg_10 v' ∧ (∀ i : Nat, (i : Int) ≤ pd pa → v' (co p0 i) = v (co pa i)) ∧ ∀ b : Nat, (∀ i : Nat, (i : Int) ≤ pd pa → b ≠ co p0 i) → v' b = v b := ⟨_, rfl, hN, fun j h => c1 j (by omega), c2⟩
      exact c_vret hx hb hr hK hV hpost dX4_copy_45 hlocks
    · skip
      refine lv_aload_n hx hb dX4_copy_24 rfl (lv_at hl 0 rfl) ?_
      refine y_getc E hK hV mp cf_4_11 dX4_copy_25 ?_
      refine lv_iload_n hx hb dX4_copy_28 rfl (lv_at hl 2 rfl) ?_
      refine y_aald hx hb hK hV mp (by omega) (by omega) dX4_copy_29 ?_
      refine lv_aload_n hx hb dX4_copy_30 rfl (lv_at hl 1 rfl) ?_
      refine y_getc E hK hV mq cf_4_11 dX4_copy_31 ?_
      refine lv_iload_n hx hb dX4_copy_34 rfl (lv_at hl 2 rfl) ?_
      refine y_aald hx hb hK hV mq (by omega) (by omega) dX4_copy_35 ?_
      have e36 : v_10 (co pa i.toNat) = v (co pa i.toNat) := c2 _ (fun j h q_ => np (hO.2 _ mq _ mp _ _ (by omega) (by omega) q_).1.symm)
      have s36 := num1_le (hN _ (hO.1 pa mq _ (by omega))) (show ((v_10 (co pa (i).toNat)).natAbs : Int) < 1073741824 ^ 80 by rw [e36]; exact sz _ (by omega))
      refine c_callv (As := [.ref (co pa (i).toNat)]) (rest := []) E (k0_copy (v := v_10) (h0 := (co p0 (i).toNat)) (a := (co pa (i).toNat)) (hO.1 p0 mp _ (by omega)) hN (hO.1 pa mq _ (by omega)) (fun q_ => np (hO.2 _ mp _ mq _ _ (by omega) (by omega) q_).1) (by omega)) (cwV 1 hts (cGood cl_X4_20 ci_X0_copy cs_X0_copy cn_RX0 cc_X0_copy) rfl rfl rfl (by decide +kernel) ⟨Nat.le_of_ble_eq_true rfl, Nat.le_of_ble_eq_true rfl⟩) (b_recv hK hV (hO.1 p0 mp _ (by omega))) hK hV hA hR rfl hl.1 (Nat.le_of_ble_eq_true rfl) dX4_copy_36 (fun X36 dd36 nn36 ss36 ll36 gg36 H locs q36 hV hm36 => ?_)
      obtain ⟨e1_, hN⟩ := q36
      obtain rfl := e1_.symm
      refine g_iinc (k := 2) (z := i) (n := (1)) (lv' := [(2, Iz (i + 1)), (0, .ref p0), (1, .ref pa)]) hx hb dX4_copy_39 hl rfl (by decide) rfl (fun ls hl => ?_)
      refine lv_goto (tgt := 10) hx hb dX4_copy_42 (by decide) ?_
      exact ih_10 _ (by omega) _ _ _ _ _ ⟨_, _, _, _, _, (va_up v_10 (co p0 (i).toNat) (v_10 (co pa (i).toNat))), (i + 1), rfl, rfl, rfl, hN, (by omega), (by omega), (fun j h => by
                by_cases w : j = i.toNat
                · rw [w, va_up_self]; exact e36
                · rw [va_up_ne _ _ (fun q_ => w (hO.2 _ mp _ mp _ _ (by omega) (by omega) q_).2)]; exact c1 j (by omega)), (fun b h => by rw [va_up_ne _ _ (h i.toNat (by omega))]; exact c2 b h), hV, lv_sub hl [1, 2, 0] rfl⟩
set_option maxHeartbeats 4000000 in
set_option maxRecDepth 100000 in
theorem k4_trim {l : Launch} {dC : Nat → ClassId} {dI : Nat → Nat → Nat} {cx : Nat → Nat} {LB : List Nat} {LP : List Nat} {pc_ : Nat → Nat} {pd : Nat → Int} {co : Nat → Nat → Nat} {X : va_W} {dd : Nat → Nat} {nn ss : Nat → Int} {ll : Nat → Nat} {gg : Nat → Int → Int} {H0 : Heap} {v : Nat → Int} {p0 : Nat} {top : Int} (mp : p0 ∈ LP) (hO : pOK LB LP co) (hN : cR LB nn ss ll gg v) (t0 : -1 ≤ top) (t1 : top ≤ 12) : Met l yX4_trim (Cond.code yX4_trim cX4_trim 2 none :: w0c) (cRm 1 23 LB ll) (cPc dC dI cx LB (pW cx LP pc_ pd co X) dd nn ss ll gg H0 [.ref p0, Iz (top)]) (cQv dC dI cx LB (va_A (bW (cx 0) LB dd nn ss ll gg (pW cx LP pc_ pd co X)) H0.size) ll H0 (fun X' dd' nn' ss' ll' gg' => dd' = dd ∧ nn' = nn ∧ ss' = ss ∧ ll' = ll ∧ gg' = gg ∧ ∃ kr : Int, X' = pW cx LP pc_ (va_up pd p0 kr) co X ∧ -1 ≤ kr ∧ kr ≤ top ∧ (0 ≤ kr → v (co p0 kr.toNat) ≠ 0) ∧ ∀ j : Int, kr < j → j ≤ top → v (co p0 j.toNat) = 0)) (cMc LB ll) (2 * cMc LB ll) (va_A (bW (cx 0) LB dd nn ss ll gg (pW cx LP pc_ pd co X)) H0.size) := by
  refine Met.ofW (cc := cX4_trim) (maxL := 2) (ret := none) (by decide) rfl ?_
  intro p e s m args below meth c s₁ B hml hv
  obtain ⟨rfl, hH0, hP, hK, hD0, hC0⟩ := hv
  have hx := B.exec
  have hb := B.bytes
  have hr := B.returns
  have hts := atoms_spec (ws := Cond.code yX4_trim cX4_trim 2 none :: w0c) B.pre
  have hown : s.vm.findClass RX4 = some m.cls := findClass_of_methodNamed B.named
  have hlocks := B.notSynchronized
  have E : CallFix p m c cX4_trim 2 s _ (Cond.code yX4_trim cX4_trim 2 none :: w0c) RX4 := ⟨hx, hb, hml, hown, hts⟩
  subst hH0
  have hD := va_D.self (sz := s.heap.size) hD0
  have hA : ∀ q : Nat, s.heap.size ≤ q → va_A (bW (cx 0) LB dd nn ss ll gg (pW cx LP pc_ pd co X)) s.heap.size q := fun q h => Or.inr h
  have hV : cV dC dI cx LB (va_A (bW (cx 0) LB dd nn ss ll gg (pW cx LP pc_ pd co X)) s.heap.size) s.heap ll (pW cx LP pc_ pd co X) dd nn ss ll gg s.heap [] := ⟨hP, hD, va_S.rf, fun _ _ => Nat.le_refl _, hC0⟩
  have hR : (headSpec (Cond.code yX4_trim cX4_trim 2 none :: w0c) (cRm 1 23 LB ll)).room.cells = cMc LB ll ∧ (headSpec (Cond.code yX4_trim cX4_trim 2 none :: w0c) (cRm 1 23 LB ll)).room.slots = 2 * cMc LB ll := ⟨rfl, rfl⟩
  refine W.widen (k := cP LB ll - cP LB ll) (n := 2 * (cP LB ll - cP LB ll)) (Nat.zero_le _) (Nat.zero_le _) ?_
  have hl := lv_entry ([.ref p0, Iz (top)]) (n := 2) (Nat.le_of_ble_eq_true rfl)
  rw [lg_entry_eq]
  generalize (lg_sl ([.ref p0, Iz (top)]) ++ List.replicate (2 - (lg_sl ([.ref p0, Iz (top)])).length) Slot.unset).toArray = ls at hl ⊢
  have hl : lv_has ls 2 [(0, .ref p0), (1, Iz (top))] := hl
  refine lv_aload_n hx hb dX4_trim_0 rfl (lv_at hl 0 rfl) ?_
  refine lv_iload_n hx hb dX4_trim_1 rfl (lv_at hl 1 rfl) ?_
  refine lv_bipush (v := Int32.ofInt (12)) hx hb dX4_trim_2 (by decide) ?_
  refine g_min E hl.1 cl_X4_24 (Nat.le_of_ble_eq_true rfl) (Nat.le_of_ble_eq_true rfl) (c_room hV hR).1 (c_room hV hR).2 ⟨by omega, by omega⟩ ⟨by omega, by omega⟩ dX4_trim_4 ?_
  obtain ⟨mn, emn⟩ : ∃ mn : Int, mn = (if 12 < top then 12 else top) := ⟨_, rfl⟩
  rw [← emn]
  have emn2 : mn = top := by rw [emn]; split <;> omega
  refine y_putdeg E hK hV mp rfl cf_4_15 dX4_trim_7 (fun H locs hV => ?_)
  refine r_loop (P := fun N_ H locs ls => ∃ k : Int, N_ = (k + 1).toNat ∧ (-1 ≤ k) ∧ (k ≤ top) ∧ (∀ j : Int, k < j → j ≤ top → v (co p0 j.toNat) = 0) ∧ cV dC dI cx LB (va_A (bW (cx 0) LB dd nn ss ll gg (pW cx LP pc_ pd co X)) s.heap.size) s.heap ll (pW cx LP pc_ (va_up pd p0 k) co X) dd nn ss ll gg H locs ∧ lv_has ls 2 [(0, .ref p0), (1, Iz (top))]) (g := fun ls => F0 m 10 ls []) (fun N_ H locs ls hI ih_10 => ?_) _ _ _ _ ⟨mn, rfl, (by omega), (by omega), (fun j p q => by omega), hV, lv_sub hl [0, 1] rfl⟩
  obtain ⟨k, rfl, k0, k1, kz, hV, hl⟩ := hI
  refine lv_aload_n hx hb dX4_trim_10 rfl (lv_at hl 0 rfl) ?_
  refine y_getdeg E hK hV mp (va_up_self _ _ _) cf_4_15 dX4_trim_11 ?_
  refine g_if_lt (tgt := 45) hx hb ⟨by omega, by omega⟩ dX4_trim_14 (by decide) (fun c_14 => ?_) (fun c_14 => ?_)
  · skip
    have hpost : dd = dd ∧ nn = nn ∧ ss = ss ∧ ll = ll ∧ gg = gg ∧ ∃ kr : Int, (pW cx LP pc_ (va_up pd p0 k) co X) = pW cx LP pc_ (va_up pd p0 kr) co X ∧ -1 ≤ kr ∧ kr ≤ top ∧ (0 ≤ kr → v (co p0 kr.toNat) ≠ 0) ∧ ∀ j : Int, kr < j → j ≤ top → v (co p0 j.toNat) = 0 := ⟨rfl, rfl, rfl, rfl, rfl, k, rfl, k0, k1, fun h => by first | (exfalso; omega) | exact fun q => c_29 (sgk.trans (sg_zero.mpr q)), kz⟩
    exact c_vret hx hb hr hK hV hpost dX4_trim_45 hlocks
  · skip
    refine lv_aload_n hx hb dX4_trim_17 rfl (lv_at hl 0 rfl) ?_
    refine y_getc E hK hV mp cf_4_11 dX4_trim_18 ?_
    refine lv_aload_n hx hb dX4_trim_21 rfl (lv_at hl 0 rfl) ?_
    refine y_getdeg E hK hV mp (va_up_self _ _ _) cf_4_15 dX4_trim_22 ?_
    refine y_aald hx hb hK hV mp (by omega) (by omega) dX4_trim_25 ?_
    refine t_gets E hK hV (hO.1 p0 mp _ (by omega)) rfl cf_4_30 dX4_trim_26 ?_
    have sgk := num1_sg (hN (co p0 k.toNat) (hO.1 p0 mp _ (by omega)))
    have sgb := sg_bd (v (co p0 k.toNat))
    refine g_if_ne (tgt := 45) hx hb ⟨by omega, by omega⟩ dX4_trim_29 (by decide) (fun c_29 => ?_) (fun c_29 => ?_)
    · skip
      have hpost : dd = dd ∧ nn = nn ∧ ss = ss ∧ ll = ll ∧ gg = gg ∧ ∃ kr : Int, (pW cx LP pc_ (va_up pd p0 k) co X) = pW cx LP pc_ (va_up pd p0 kr) co X ∧ -1 ≤ kr ∧ kr ≤ top ∧ (0 ≤ kr → v (co p0 kr.toNat) ≠ 0) ∧ ∀ j : Int, kr < j → j ≤ top → v (co p0 j.toNat) = 0 := ⟨rfl, rfl, rfl, rfl, rfl, k, rfl, k0, k1, fun h => by first | (exfalso; omega) | exact fun q => c_29 (sgk.trans (sg_zero.mpr q)), kz⟩
      exact c_vret hx hb hr hK hV hpost dX4_trim_45 hlocks
    · skip
      refine lv_aload_n hx hb dX4_trim_32 rfl (lv_at hl 0 rfl) ?_
      refine lv_dup hx hb dX4_trim_33 rfl ?_
      refine y_getdeg E hK hV mp (va_up_self _ _ _) cf_4_15 dX4_trim_34 ?_
      refine lv_iconst (v := Int32.ofInt (1)) hx hb dX4_trim_37 (by decide) ?_
      refine g_isub hx hb dX4_trim_38 ?_
      refine y_putdeg E hK hV mp (va_up_up _ _ _ _) cf_4_15 dX4_trim_39 (fun H locs hV => ?_)
      refine lv_goto (tgt := 10) hx hb dX4_trim_42 (by decide) ?_
      exact ih_10 _ (by omega) _ _ _ ⟨(k - 1), rfl, (by omega), (by omega), (fun j p q => by rcases Int.lt_or_le k j with w | w; (· exact kz j w q); (· rw [show j = k by omega]; exact sg_zero.mp (sgk.symm.trans c_29))), hV, lv_sub hl [0, 1] rfl⟩
set_option maxHeartbeats 4000000 in
set_option maxRecDepth 100000 in
theorem k4_monomial {l : Launch} {dC : Nat → ClassId} {dI : Nat → Nat → Nat} {cx : Nat → Nat} {LB : List Nat} {LP : List Nat} {pc_ : Nat → Nat} {pd : Nat → Int} {co : Nat → Nat → Nat} {X : va_W} {dd : Nat → Nat} {nn ss : Nat → Int} {ll : Nat → Nat} {gg : Nat → Int → Int} {H0 : Heap} {v : Nat → Int} {p0 : Nat} {k : Int} (mp : p0 ∈ LP) (hO : pOK LB LP co) (hN : cR LB nn ss ll gg v) (k0 : 0 ≤ k) (k1 : k ≤ 12) : Met l yX4_monomial (Cond.code yX4_monomial cX4_monomial 3 none :: w0c) (cRm 1 25 LB ll) (cPc dC dI cx LB (pW cx LP pc_ pd co X) dd nn ss ll gg H0 [.ref p0, Iz (k)]) (cQv dC dI cx LB (va_A (bW (cx 0) LB dd nn ss ll gg (pW cx LP pc_ pd co X)) H0.size) ll H0 (fun X' dd' nn' ss' ll' gg' => ∃ v' : Nat → Int, X' = pW cx LP pc_ (va_up pd p0 k) co X ∧ cR LB nn' ss' ll' gg' v' ∧ (∀ i : Nat, (i : Int) < k → v' (co p0 i) = 0) ∧ v' (co p0 k.toNat) = 1 ∧ ∀ b : Nat, (∀ i : Nat, (i : Int) ≤ k → b ≠ co p0 i) → v' b = v b)) (cMc LB ll) (2 * cMc LB ll) (va_A (bW (cx 0) LB dd nn ss ll gg (pW cx LP pc_ pd co X)) H0.size) := by
  refine Met.ofW (cc := cX4_monomial) (maxL := 3) (ret := none) (by decide) rfl ?_
  intro p e s m args below meth c s₁ B hml hv
  obtain ⟨rfl, hH0, hP, hK, hD0, hC0⟩ := hv
  have hx := B.exec
  have hb := B.bytes
  have hr := B.returns
  have hts := atoms_spec (ws := Cond.code yX4_monomial cX4_monomial 3 none :: w0c) B.pre
  have hown : s.vm.findClass RX4 = some m.cls := findClass_of_methodNamed B.named
  have hlocks := B.notSynchronized
  have E : CallFix p m c cX4_monomial 3 s _ (Cond.code yX4_monomial cX4_monomial 3 none :: w0c) RX4 := ⟨hx, hb, hml, hown, hts⟩
  subst hH0
  have hD := va_D.self (sz := s.heap.size) hD0
  have hA : ∀ q : Nat, s.heap.size ≤ q → va_A (bW (cx 0) LB dd nn ss ll gg (pW cx LP pc_ pd co X)) s.heap.size q := fun q h => Or.inr h
  have hV : cV dC dI cx LB (va_A (bW (cx 0) LB dd nn ss ll gg (pW cx LP pc_ pd co X)) s.heap.size) s.heap ll (pW cx LP pc_ pd co X) dd nn ss ll gg s.heap [] := ⟨hP, hD, va_S.rf, fun _ _ => Nat.le_refl _, hC0⟩
  have hR : (headSpec (Cond.code yX4_monomial cX4_monomial 3 none :: w0c) (cRm 1 25 LB ll)).room.cells = cMc LB ll ∧ (headSpec (Cond.code yX4_monomial cX4_monomial 3 none :: w0c) (cRm 1 25 LB ll)).room.slots = 2 * cMc LB ll := ⟨rfl, rfl⟩
  refine W.widen (k := cP LB ll - cP LB ll) (n := 2 * (cP LB ll - cP LB ll)) (Nat.zero_le _) (Nat.zero_le _) ?_
  have hl := lv_entry ([.ref p0, Iz (k)]) (n := 3) (Nat.le_of_ble_eq_true rfl)
  rw [lg_entry_eq]
  generalize (lg_sl ([.ref p0, Iz (k)]) ++ List.replicate (3 - (lg_sl ([.ref p0, Iz (k)])).length) Slot.unset).toArray = ls at hl ⊢
  have hl : lv_has ls 3 [(0, .ref p0), (1, Iz (k))] := hl
  refine lv_aload_n hx hb dX4_monomial_0 rfl (lv_at hl 0 rfl) ?_
  refine lv_iconst (v := Int32.ofInt (0)) hx hb dX4_monomial_1 (by decide) ?_
  refine lv_iload_n hx hb dX4_monomial_2 rfl (lv_at hl 1 rfl) ?_
  refine lv_bipush (v := Int32.ofInt (12)) hx hb dX4_monomial_3 (by decide) ?_
  refine g_min E hl.1 cl_X4_24 (Nat.le_of_ble_eq_true rfl) (Nat.le_of_ble_eq_true rfl) (c_room hV hR).1 (c_room hV hR).2 ⟨by omega, by omega⟩ ⟨by omega, by omega⟩ dX4_monomial_5 ?_
  obtain ⟨mn, emn⟩ : ∃ mn : Int, mn = (if 12 < k then 12 else k) := ⟨_, rfl⟩
  rw [← emn]
  have emn2 : mn = k := by rw [emn]; split <;> omega
  refine g_max E hl.1 cl_X4_33 (Nat.le_of_ble_eq_true rfl) (Nat.le_of_ble_eq_true rfl) (c_room hV hR).1 (c_room hV hR).2 ⟨by omega, by omega⟩ ⟨by omega, by omega⟩ dX4_monomial_8 ?_
  obtain ⟨mz, emz⟩ : ∃ mz : Int, mz = (if 0 < mn then mn else 0) := ⟨_, rfl⟩
  rw [← emz]
  have emz2 : mz = k := by rw [emz]; split <;> omega
  refine y_putdeg E hK hV mp rfl cf_4_15 dX4_monomial_11 (fun H locs hV => ?_)
  refine lv_iconst (v := Int32.ofInt (0)) hx hb dX4_monomial_14 (by decide) ?_
  refine lv_istore_n (lv' := [(2, Iz (0)), (0, .ref p0), (1, Iz (k))]) hx hb dX4_monomial_15 rfl hl (by decide) rfl (fun ls hl => ?_)
  refine r_loop2 (P := fun N_ ce sl H locs ls => ∃ dd_16 : Nat → Nat, ∃ nn_16 ss_16 : Nat → Int, ∃ ll_16 : Nat → Nat, ∃ gg_16 : Nat → Int → Int, ∃ v_16 : Nat → Int, ∃ i : Int, N_ = (13 - i).toNat ∧ ce = cP LB ll_16 - cP LB ll ∧ sl = 2 * (cP LB ll_16 - cP LB ll) ∧ cR LB nn_16 ss_16 ll_16 gg_16 v_16 ∧ (0 ≤ i) ∧ (i ≤ k) ∧ (∀ j : Nat, (j : Int) < i → v_16 (co p0 j) = 0) ∧ (∀ b : Nat, (∀ j : Nat, (j : Int) ≤ k → b ≠ co p0 j) → v_16 b = v b) ∧ cV dC dI cx LB (va_A (bW (cx 0) LB dd nn ss ll gg (pW cx LP pc_ pd co X)) s.heap.size) s.heap ll (pW cx LP pc_ (va_up pd p0 mz) co X) dd_16 nn_16 ss_16 ll_16 gg_16 H locs ∧ lv_has ls 3 [(0, .ref p0), (2, Iz (i))]) (g := fun ls => F0 m 16 ls []) (fun N_ ce sl H locs ls hI ih_16 => ?_) _ _ _ _ _ _ ⟨_, _, _, _, _, v, 0, rfl, rfl, rfl, hN, (Int.le_refl 0), (k0), (fun j h => by omega), (fun b h => rfl), hV, lv_sub hl [1, 0] rfl⟩
  obtain ⟨dd_16, nn_16, ss_16, ll_16, gg_16, v_16, i, rfl, rfl, rfl, hN, i0, i1, c1, c2, hV, hl⟩ := hI
  refine lv_iload_n hx hb dX4_monomial_16 rfl (lv_at hl 1 rfl) ?_
  refine lv_aload_n hx hb dX4_monomial_17 rfl (lv_at hl 0 rfl) ?_
  refine y_getdeg E hK hV mp (va_up_self _ _ _) cf_4_15 dX4_monomial_18 ?_
  refine g_icmp_ge (tgt := 39) hx hb ⟨by omega, by omega⟩ ⟨by omega, by omega⟩ dX4_monomial_21 (by decide) (fun c_21 => ?_) (fun c_21 => ?_)
  · skip
    refine lv_aload_n hx hb dX4_monomial_39 rfl (lv_at hl 0 rfl) ?_
    refine y_getc E hK hV mp cf_4_11 dX4_monomial_40 ?_
    refine lv_aload_n hx hb dX4_monomial_43 rfl (lv_at hl 0 rfl) ?_
    refine y_getdeg E hK hV mp (va_up_self _ _ _) cf_4_15 dX4_monomial_44 ?_
    refine y_aald hx hb hK hV mp (by omega) (by omega) dX4_monomial_47 ?_
    refine lv_lconst (v := Int64.ofInt 1) hx hb dX4_monomial_48 rfl ?_
    refine c_callv (As := [Jz (1)]) (rest := []) E (k0_put (v := v_16) (h0 := (co p0 (mz).toNat)) (x := 1) (hO.1 p0 mp _ (by omega)) hN (by omega) (by omega)) (cwV 1 hts (cGood cl_X4_58 ci_X0_put cs_X0_put cn_RX0 cc_X0_put) rfl rfl rfl (by decide +kernel) ⟨Nat.le_of_ble_eq_true rfl, Nat.le_of_ble_eq_true rfl⟩) (b_recv hK hV (hO.1 p0 mp _ (by omega))) hK hV hA hR rfl hl.1 (Nat.le_of_ble_eq_true rfl) dX4_monomial_49 (fun X49 dd49 nn49 ss49 ll49 gg49 H locs q49 hV hm49 => ?_)
    obtain ⟨e1_, hN⟩ := q49
    obtain rfl := e1_.symm
    have hpost : ∃ v' : Nat → Int, (pW cx LP pc_ (va_up pd p0 mz) co X) = pW cx LP pc_ (va_up pd p0 k) co X ∧ cR LB nn49 ss49 ll49 gg49 v' ∧ (∀ i : Nat, (i : Int) < k → v' (co p0 i) = 0) ∧ v' (co p0 k.toNat) = 1 ∧ ∀ b : Nat, (∀ i : Nat, (i : Int) ≤ k → b ≠ co p0 i) → v' b = v b := ⟨_, by rw [emz2], hN, fun j h => by rw [emz2, va_up_ne _ _ (fun q_ => by have := (hO.2 _ mp _ mp _ _ (by omega) (by omega) q_).2; omega)]; exact c1 j (by omega), by rw [emz2, va_up_self], fun b h => by rw [emz2, va_up_ne _ _ (h k.toNat (by omega))]; exact c2 b h⟩
    exact c_vret hx hb hr hK hV hpost dX4_monomial_52 hlocks
  · skip
    refine lv_aload_n hx hb dX4_monomial_24 rfl (lv_at hl 0 rfl) ?_
    refine y_getc E hK hV mp cf_4_11 dX4_monomial_25 ?_
    refine lv_iload_n hx hb dX4_monomial_28 rfl (lv_at hl 1 rfl) ?_
    refine y_aald hx hb hK hV mp (by omega) (by omega) dX4_monomial_29 ?_
    refine c_callv (As := []) (rest := []) E (k0_clear (v := v_16) (h0 := (co p0 (i).toNat)) (hO.1 p0 mp _ (by omega)) hN) (cwV 0 hts (cGood cl_X4_55 ci_X0_clear cs_X0_clear cn_RX0 cc_X0_clear) rfl rfl rfl (by decide +kernel) ⟨Nat.le_of_ble_eq_true rfl, Nat.le_of_ble_eq_true rfl⟩) (b_recv hK hV (hO.1 p0 mp _ (by omega))) hK hV hA hR rfl hl.1 (Nat.le_of_ble_eq_true rfl) dX4_monomial_30 (fun X30 dd30 nn30 ss30 ll30 gg30 H locs q30 hV hm30 => ?_)
    obtain ⟨e1_, hN⟩ := q30
    obtain rfl := e1_.symm
    refine g_iinc (k := 1) (z := i) (n := (1)) (lv' := [(2, Iz (i + 1)), (0, .ref p0)]) hx hb dX4_monomial_33 hl rfl (by decide) rfl (fun ls hl => ?_)
    refine lv_goto (tgt := 16) hx hb dX4_monomial_36 (by decide) ?_
    exact ih_16 _ (by omega) _ _ _ _ _ ⟨_, _, _, _, _, (va_up v_16 (co p0 (i).toNat) 0), (i + 1), rfl, rfl, rfl, hN, (by omega), (by omega), (fun j h => by
              by_cases w : j = i.toNat
              · rw [w, va_up_self]
              · rw [va_up_ne _ _ (fun q_ => w (hO.2 _ mp _ mp _ _ (by omega) (by omega) q_).2)]; exact c1 j (by omega)), (fun b h => by rw [va_up_ne _ _ (h i.toNat (by omega))]; exact c2 b h), hV, lv_sub hl [1, 0] rfl⟩
set_option maxHeartbeats 4000000 in
set_option maxRecDepth 100000 in
theorem k9_slope {l : Launch} {dC : Nat → ClassId} {dI : Nat → Nat → Nat} {cx : Nat → Nat} {LB : List Nat} {LP : List Nat} {pc_ : Nat → Nat} {pd : Nat → Int} {co : Nat → Nat → Nat} {X : va_W} {dd : Nat → Nat} {nn ss : Nat → Int} {ll : Nat → Nat} {gg : Nat → Int → Int} {H0 : Heap} {v : Nat → Int} {t0 f g : Nat} (mf : f ∈ LP) (mg : g ∈ LP) (nfg : f ≠ g) (hO : pOK LB LP co) (hN : cR LB nn ss ll gg v) (d0 : 0 ≤ pd f) (d1 : pd f ≤ 12) (sz : ∀ i : Nat, (i : Int) ≤ pd f → ((v (co f i)).natAbs : Int) < 1073741824 ^ 80) : Met l yX9_slope (Cond.code yX9_slope cX9_slope 5 none :: w0c) (cRm 3 91 LB ll) (cPc dC dI cx LB (pW cx LP pc_ pd co X) dd nn ss ll gg H0 [.ref t0, .ref f, .ref g]) (cQv dC dI cx LB (va_A (bW (cx 0) LB dd nn ss ll gg (pW cx LP pc_ pd co X)) H0.size) ll H0 (fun X' dd' nn' ss' ll' gg' => ∃ v' : Nat → Int, X' = pW cx LP pc_ (va_up pd g (pd f - 1)) co X ∧ cR LB nn' ss' ll' gg' v' ∧ (∀ i : Nat, (i : Int) < pd f → v' (co g i) = v (co f (i + 1)) * ((i : Int) + 1)) ∧ ∀ b : Nat, (∀ i : Nat, (i : Int) < pd f → b ≠ co g i) → v' b = v b)) (cMc LB ll) (2 * cMc LB ll) (va_A (bW (cx 0) LB dd nn ss ll gg (pW cx LP pc_ pd co X)) H0.size) := by
  refine Met.ofW (cc := cX9_slope) (maxL := 5) (ret := none) (by decide) rfl ?_
  intro p e s m args below meth c s₁ B hml hv
  obtain ⟨rfl, hH0, hP, hK, hD0, hC0⟩ := hv
  have hx := B.exec
  have hb := B.bytes
  have hr := B.returns
  have hts := atoms_spec (ws := Cond.code yX9_slope cX9_slope 5 none :: w0c) B.pre
  have hown : s.vm.findClass RX9 = some m.cls := findClass_of_methodNamed B.named
  have hlocks := B.notSynchronized
  have E : CallFix p m c cX9_slope 5 s _ (Cond.code yX9_slope cX9_slope 5 none :: w0c) RX9 := ⟨hx, hb, hml, hown, hts⟩
  subst hH0
  have hD := va_D.self (sz := s.heap.size) hD0
  have hA : ∀ q : Nat, s.heap.size ≤ q → va_A (bW (cx 0) LB dd nn ss ll gg (pW cx LP pc_ pd co X)) s.heap.size q := fun q h => Or.inr h
  have hV : cV dC dI cx LB (va_A (bW (cx 0) LB dd nn ss ll gg (pW cx LP pc_ pd co X)) s.heap.size) s.heap ll (pW cx LP pc_ pd co X) dd nn ss ll gg s.heap [] := ⟨hP, hD, va_S.rf, fun _ _ => Nat.le_refl _, hC0⟩
  have hR : (headSpec (Cond.code yX9_slope cX9_slope 5 none :: w0c) (cRm 3 91 LB ll)).room.cells = cMc LB ll ∧ (headSpec (Cond.code yX9_slope cX9_slope 5 none :: w0c) (cRm 3 91 LB ll)).room.slots = 2 * cMc LB ll := ⟨rfl, rfl⟩
  refine W.widen (k := cP LB ll - cP LB ll) (n := 2 * (cP LB ll - cP LB ll)) (Nat.zero_le _) (Nat.zero_le _) ?_
  have hl := lv_entry ([.ref t0, .ref f, .ref g]) (n := 5) (Nat.le_of_ble_eq_true rfl)
  rw [lg_entry_eq]
  generalize (lg_sl ([.ref t0, .ref f, .ref g]) ++ List.replicate (5 - (lg_sl ([.ref t0, .ref f, .ref g])).length) Slot.unset).toArray = ls at hl ⊢
  have hl : lv_has ls 5 [(0, .ref t0), (1, .ref f), (2, .ref g)] := hl
  refine lv_aload_n hx hb dX9_slope_0 rfl (lv_at hl 1 rfl) ?_
  refine y_getdeg E hK hV mf rfl cf_9_59 dX9_slope_1 ?_
  refine lv_istore_n (lv' := [(3, Iz (pd f)), (0, .ref t0), (1, .ref f), (2, .ref g)]) hx hb dX9_slope_4 rfl hl (by decide) rfl (fun ls hl => ?_)
  refine lv_aload_n hx hb dX9_slope_5 rfl (lv_at hl 3 rfl) ?_
  refine lv_iload_n hx hb dX9_slope_6 rfl (lv_at hl 0 rfl) ?_
  refine lv_iconst (v := Int32.ofInt (1)) hx hb dX9_slope_7 (by decide) ?_
  refine g_isub hx hb dX9_slope_8 ?_
  refine y_putdeg E hK hV mg rfl cf_9_59 dX9_slope_9 (fun H locs hV => ?_)
  refine lv_iconst (v := Int32.ofInt (1)) hx hb dX9_slope_12 (by decide) ?_
  refine lv_istore (lv' := [(4, Iz (1)), (3, Iz (pd f)), (0, .ref t0), (1, .ref f), (2, .ref g)]) hx hb dX9_slope_13 hl (by decide) rfl (fun ls hl => ?_)
  refine r_loop2 (P := fun N_ ce sl H locs ls => ∃ dd_15 : Nat → Nat, ∃ nn_15 ss_15 : Nat → Int, ∃ ll_15 : Nat → Nat, ∃ gg_15 : Nat → Int → Int, ∃ v_15 : Nat → Int, ∃ i : Int, N_ = (14 - i).toNat ∧ ce = cP LB ll_15 - cP LB ll ∧ sl = 2 * (cP LB ll_15 - cP LB ll) ∧ cR LB nn_15 ss_15 ll_15 gg_15 v_15 ∧ (1 ≤ i) ∧ (i ≤ pd f + 1) ∧ (∀ j : Nat, (j : Int) + 1 < i → v_15 (co g j) = v (co f (j + 1)) * ((j : Int) + 1)) ∧ (∀ b : Nat, (∀ j : Nat, (j : Int) < pd f → b ≠ co g j) → v_15 b = v b) ∧ cV dC dI cx LB (va_A (bW (cx 0) LB dd nn ss ll gg (pW cx LP pc_ pd co X)) s.heap.size) s.heap ll (pW cx LP pc_ (va_up pd g ((pd f) - 1)) co X) dd_15 nn_15 ss_15 ll_15 gg_15 H locs ∧ lv_has ls 5 [(0, .ref t0), (1, .ref f), (2, .ref g), (3, Iz (pd f)), (4, Iz (i))]) (g := fun ls => F0 m 15 ls []) (fun N_ ce sl H locs ls hI ih_15 => ?_) _ _ _ _ _ _ ⟨_, _, _, _, _, v, 1, rfl, rfl, rfl, hN, (Int.le_refl 1), (by omega), (fun j h => by omega), (fun b h => rfl), hV, lv_sub hl [2, 3, 4, 1, 0] rfl⟩
  obtain ⟨dd_15, nn_15, ss_15, ll_15, gg_15, v_15, i, rfl, rfl, rfl, hN, i0, i1, c1, c2, hV, hl⟩ := hI
  refine lv_iload hx hb dX9_slope_15 (lv_at hl 4 rfl) ?_
  refine lv_iload_n hx hb dX9_slope_17 rfl (lv_at hl 3 rfl) ?_
  refine g_icmp_gt (tgt := 49) hx hb ⟨by omega, by omega⟩ ⟨by omega, by omega⟩ dX9_slope_18 (by decide) (fun c_18 => ?_) (fun c_18 => ?_)
  · skip
    have hpost : ∃ v' : Nat → Int, (pW cx LP pc_ (va_up pd g ((pd f) - 1)) co X) = pW cx LP pc_ (va_up pd g (pd f - 1)) co X ∧ cR LB nn_15 ss_15 ll_15 gg_15 v' ∧ (∀ i : Nat, (i : Int) < pd f → v' (co g i) = v (co f (i + 1)) * ((i : Int) + 1)) ∧ ∀ b : Nat, (∀ i : Nat, (i : Int) < pd f → b ≠ co g i) → v' b = v b := ⟨_, rfl, hN, fun j h => c1 j (by omega), c2⟩
    exact c_vret hx hb hr hK hV hpost dX9_slope_49 hlocks
  · skip
    refine lv_aload_n hx hb dX9_slope_21 rfl (lv_at hl 2 rfl) ?_
    refine y_getc E hK hV mg cf_9_74 dX9_slope_22 ?_
    refine lv_iload hx hb dX9_slope_25 (lv_at hl 4 rfl) ?_
    refine lv_iconst (v := Int32.ofInt (1)) hx hb dX9_slope_27 (by decide) ?_
    refine g_isub hx hb dX9_slope_28 ?_
    refine y_aald hx hb hK hV mg (by omega) (by omega) dX9_slope_29 ?_
    refine lv_aload_n hx hb dX9_slope_30 rfl (lv_at hl 1 rfl) ?_
    refine y_getc E hK hV mf cf_9_74 dX9_slope_31 ?_
    refine lv_iload hx hb dX9_slope_34 (lv_at hl 4 rfl) ?_
    refine y_aald hx hb hK hV mf (by omega) (by omega) dX9_slope_36 ?_
    refine lv_iload hx hb dX9_slope_37 (lv_at hl 4 rfl) ?_
    refine g_i2l hx hb ⟨by omega, by omega⟩ dX9_slope_39 ?_
    have e40 : v_15 (co f i.toNat) = v (co f i.toNat) := c2 _ (fun j h q_ => nfg (hO.2 _ mf _ mg _ _ (by omega) (by omega) q_).1)
    have s40 := num1_le (hN _ (hO.1 f mf _ (by omega))) (show ((v_15 (co f (i).toNat)).natAbs : Int) < 1073741824 ^ 80 by rw [e40]; exact sz _ (by omega))
    refine c_callv (As := [.ref (co f (i).toNat), Jz (i)]) (rest := []) E (k0_scale (v := v_15) (h0 := (co g (i - 1).toNat)) (a := (co f (i).toNat)) (mm := i) (hO.1 g mg _ (by omega)) hN (hO.1 f mf _ (by omega)) (fun q_ => (Ne.symm nfg) (hO.2 _ mg _ mf _ _ (by omega) (by omega) q_).1) (by omega) (by omega) (by omega)) (cwV 2 hts (cGood cl_X9_107 ci_X0_scale cs_X0_scale cn_RX0 cc_X0_scale) rfl rfl rfl (by decide +kernel) ⟨Nat.le_of_ble_eq_true rfl, Nat.le_of_ble_eq_true rfl⟩) (b_recv hK hV (hO.1 g mg _ (by omega))) hK hV hA hR rfl hl.1 (Nat.le_of_ble_eq_true rfl) dX9_slope_40 (fun X40 dd40 nn40 ss40 ll40 gg40 H locs q40 hV hm40 => ?_)
    obtain ⟨e1_, hN⟩ := q40
    obtain rfl := e1_.symm
    refine g_iinc (k := 4) (z := i) (n := (1)) (lv' := [(4, Iz (i + 1)), (0, .ref t0), (1, .ref f), (2, .ref g), (3, Iz (pd f))]) hx hb dX9_slope_43 hl rfl (by decide) rfl (fun ls hl => ?_)
    refine lv_goto (tgt := 15) hx hb dX9_slope_46 (by decide) ?_
    exact ih_15 _ (by omega) _ _ _ _ _ ⟨_, _, _, _, _, (va_up v_15 (co g (i - 1).toNat) (v_15 (co f (i).toNat) * i)), (i + 1), rfl, rfl, rfl, hN, (by omega), (by omega), (fun j h => by
              by_cases w : j = (i - 1).toNat
              · rw [w, va_up_self, e40, show (i - 1).toNat + 1 = i.toNat by omega, show (((i - 1).toNat : Nat) : Int) + 1 = i by omega]
              · rw [va_up_ne _ _ (fun q_ => w (hO.2 _ mg _ mg _ _ (by omega) (by omega) q_).2)]; exact c1 j (by omega)), (fun b h => by rw [va_up_ne _ _ (h (i - 1).toNat (by omega))]; exact c2 b h), hV, lv_sub hl [1, 2, 3, 4, 0] rfl⟩
