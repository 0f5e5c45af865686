set_option maxHeartbeats 4000000 in
set_option maxRecDepth 100000 in
theorem k4_lead {l : Launch} {dC : Nat → ClassId} {dI : Nat → Nat → Nat} {cx : Nat → Nat} {LB : List Nat} {LP : List Nat} {pc_ : Nat → Nat} {pd : Nat → Int} {co : Nat → Nat → Nat} {X : va_W} {dd : Nat → Nat} {nn ss : Nat → Int} {ll : Nat → Nat} {gg : Nat → Int → Int} {H0 : Heap} {p0 : Nat} (mp : p0 ∈ LP) (d0 : 0 ≤ pd p0) (d1 : pd p0 ≤ 12) : Met l yX4_lead (Cond.code yX4_lead cX4_lead 1 (some (.object "AlgebraicReals$Big")) :: w0c) (cRm 1 23 LB ll) (cPc dC dI cx LB (pW cx LP pc_ pd co X) dd nn ss ll gg H0 [.ref p0]) (cQr dC dI cx LB (va_A (bW (cx 0) LB dd nn ss ll gg (pW cx LP pc_ pd co X)) H0.size) ll H0 (fun z X' dd' nn' ss' ll' gg' => X' = (pW cx LP pc_ pd co X) ∧ dd' = dd ∧ nn' = nn ∧ ss' = ss ∧ ll' = ll ∧ gg' = gg ∧ z = co p0 (pd p0).toNat)) (cMc LB ll) (2 * cMc LB ll) (va_A (bW (cx 0) LB dd nn ss ll gg (pW cx LP pc_ pd co X)) H0.size) := by
  refine Met.ofW (cc := cX4_lead) (maxL := 1) (ret := (some (.object "AlgebraicReals$Big"))) (by decide) rfl ?_
  intro p e s m args below meth c s₁ B hml hv
  obtain ⟨rfl, hH0, hP, hK, hD0, hC0⟩ := hv
  have hx := B.exec
  have hb := B.bytes
  have hr := B.returns
  have hts := atoms_spec (ws := Cond.code yX4_lead cX4_lead 1 (some (.object "AlgebraicReals$Big")) :: w0c) B.pre
  have hown : s.vm.findClass RX4 = some m.cls := findClass_of_methodNamed B.named
  have hlocks := B.notSynchronized
  have E : CallFix p m c cX4_lead 1 s _ (Cond.code yX4_lead cX4_lead 1 (some (.object "AlgebraicReals$Big")) :: w0c) RX4 := ⟨hx, hb, hml, hown, hts⟩
  subst hH0
  have hD := va_D.self (sz := s.heap.size) hD0
  have hA : ∀ q : Nat, s.heap.size ≤ q → va_A (bW (cx 0) LB dd nn ss ll gg (pW cx LP pc_ pd co X)) s.heap.size q := fun q h => Or.inr h
  have hV : cV dC dI cx LB (va_A (bW (cx 0) LB dd nn ss ll gg (pW cx LP pc_ pd co X)) s.heap.size) s.heap ll (pW cx LP pc_ pd co X) dd nn ss ll gg s.heap [] := ⟨hP, hD, va_S.rf, fun _ _ => Nat.le_refl _, hC0⟩
  have hR : (headSpec (Cond.code yX4_lead cX4_lead 1 (some (.object "AlgebraicReals$Big")) :: w0c) (cRm 1 23 LB ll)).room.cells = cMc LB ll ∧ (headSpec (Cond.code yX4_lead cX4_lead 1 (some (.object "AlgebraicReals$Big")) :: w0c) (cRm 1 23 LB ll)).room.slots = 2 * cMc LB ll := ⟨rfl, rfl⟩
  refine W.widen (k := cP LB ll - cP LB ll) (n := 2 * (cP LB ll - cP LB ll)) (Nat.zero_le _) (Nat.zero_le _) ?_
  have hl := lv_entry ([.ref p0]) (n := 1) (Nat.le_of_ble_eq_true rfl)
  rw [lg_entry_eq]
  generalize (lg_sl ([.ref p0]) ++ List.replicate (1 - (lg_sl ([.ref p0])).length) Slot.unset).toArray = ls at hl ⊢
  have hl : lv_has ls 1 [(0, .ref p0)] := hl
  refine lv_aload_n hx hb dX4_lead_0 rfl (lv_at hl 0 rfl) ?_
  refine y_getc E hK hV mp cf_4_11 dX4_lead_1 ?_
  refine lv_iconst (v := Int32.ofInt (0)) hx hb dX4_lead_4 (by decide) ?_
  refine lv_aload_n hx hb dX4_lead_5 rfl (lv_at hl 0 rfl) ?_
  refine y_getdeg E hK hV mp rfl cf_4_15 dX4_lead_6 ?_
  refine lv_bipush (v := Int32.ofInt (12)) hx hb dX4_lead_9 (by decide) ?_
  refine g_min E hl.1 cl_X4_24 (Nat.le_of_ble_eq_true rfl) (Nat.le_of_ble_eq_true rfl) (c_room hV hR).1 (c_room hV hR).2 ⟨by omega, by omega⟩ ⟨by omega, by omega⟩ dX4_lead_11 ?_
  obtain ⟨mn, emn⟩ : ∃ mn : Int, mn = (if 12 < pd p0 then 12 else pd p0) := ⟨_, rfl⟩
  rw [← emn]
  have emn2 : mn = pd p0 := by rw [emn]; split <;> omega
  refine g_max E hl.1 cl_X4_33 (Nat.le_of_ble_eq_true rfl) (Nat.le_of_ble_eq_true rfl) (c_room hV hR).1 (c_room hV hR).2 ⟨by omega, by omega⟩ ⟨by omega, by omega⟩ dX4_lead_14 ?_
  obtain ⟨mz, emz⟩ : ∃ mz : Int, mz = (if 0 < mn then mn else 0) := ⟨_, rfl⟩
  rw [← emz]
  have emz2 : mz = pd p0 := by rw [emz]; split <;> omega
  refine y_aald hx hb hK hV mp (by omega) (by omega) dX4_lead_17 ?_
  have hpost : (pW cx LP pc_ pd co X) = (pW cx LP pc_ pd co X) ∧ dd = dd ∧ nn = nn ∧ ss = ss ∧ ll = ll ∧ gg = gg ∧ ((co p0 (mz).toNat) : Nat) = co p0 (pd p0).toNat := ⟨rfl, rfl, rfl, rfl, rfl, rfl, by rw [emz2]⟩
  exact c_aret hx hb hr (Or.inl ⟨_, rfl⟩) hK hV hpost dX4_lead_18 hlocks
set_option maxHeartbeats 4000000 in
set_option maxRecDepth 100000 in
theorem k4_copy {l : Launch} {dC : Nat → ClassId} {dI : Nat → Nat → Nat} {cx : Nat → Nat} {LB : List Nat} {LP : List Nat} {pc_ : Nat → Nat} {pd : Nat → Int} {co : Nat → Nat → Nat} {X : va_W} {dd : Nat → Nat} {nn ss : Nat → Int} {ll : Nat → Nat} {gg : Nat → Int → Int} {H0 : Heap} {v : Nat → Int} {p0 pa : Nat} (mp : p0 ∈ LP) (mq : pa ∈ LP) (np : p0 ≠ pa) (hO : pOK LB LP co) (hN : cR LB nn ss ll gg v) (a0 : -1 ≤ pd pa) (a1 : pd pa ≤ 12) (sz : ∀ i : Nat, (i : Int) ≤ pd pa → ((v (co pa i)).natAbs : Int) < 1073741824 ^ 80) : Met l yX4_copy (Cond.code yX4_copy cX4_copy 3 none :: w0c) (cRm 2 61 LB ll) (cPc dC dI cx LB (pW cx LP pc_ pd co X) dd nn ss ll gg H0 [.ref p0, .ref pa]) (cQv dC dI cx LB (va_A (bW (cx 0) LB dd nn ss ll gg (pW cx LP pc_ pd co X)) H0.size) ll H0 (fun X' dd' nn' ss' ll' gg' => ∃ v' : Nat → Int, X' = pW cx LP pc_ (va_up pd p0 (pd pa)) co X ∧ cR LB nn' ss' ll' gg' v' ∧ (∀ i : Nat, (i : Int) ≤ pd pa → v' (co p0 i) = v (co pa i)) ∧ ∀ b : Nat, (∀ i : Nat, (i : Int) ≤ pd pa → b ≠ co p0 i) → v' b = v b)) (cMc LB ll) (2 * cMc LB ll) (va_A (bW (cx 0) LB dd nn ss ll gg (pW cx LP pc_ pd co X)) H0.size) := by
  refine Met.ofW (cc := cX4_copy) (maxL := 3) (ret := none) (by decide) rfl ?_
  intro p e s m args below meth c s₁ B hml hv
  obtain ⟨rfl, hH0, hP, hK, hD0, hC0⟩ := hv
  have hx := B.exec
  have hb := B.bytes
  have hr := B.returns
  have hts := atoms_spec (ws := Cond.code yX4_copy cX4_copy 3 none :: w0c) B.pre
  have hown : s.vm.findClass RX4 = some m.cls := findClass_of_methodNamed B.named
  have hlocks := B.notSynchronized
  have E : CallFix p m c cX4_copy 3 s _ (Cond.code yX4_copy cX4_copy 3 none :: w0c) RX4 := ⟨hx, hb, hml, hown, hts⟩
  subst hH0
  have hD := va_D.self (sz := s.heap.size) hD0
  have hA : ∀ q : Nat, s.heap.size ≤ q → va_A (bW (cx 0) LB dd nn ss ll gg (pW cx LP pc_ pd co X)) s.heap.size q := fun q h => Or.inr h
  have hV : cV dC dI cx LB (va_A (bW (cx 0) LB dd nn ss ll gg (pW cx LP pc_ pd co X)) s.heap.size) s.heap ll (pW cx LP pc_ pd co X) dd nn ss ll gg s.heap [] := ⟨hP, hD, va_S.rf, fun _ _ => Nat.le_refl _, hC0⟩
  have hR : (headSpec (Cond.code yX4_copy cX4_copy 3 none :: w0c) (cRm 2 61 LB ll)).room.cells = cMc LB ll ∧ (headSpec (Cond.code yX4_copy cX4_copy 3 none :: w0c) (cRm 2 61 LB ll)).room.slots = 2 * cMc LB ll := ⟨rfl, rfl⟩
  refine W.widen (k := cP LB ll - cP LB ll) (n := 2 * (cP LB ll - cP LB ll)) (Nat.zero_le _) (Nat.zero_le _) ?_
  have hl := lv_entry ([.ref p0, .ref pa]) (n := 3) (Nat.le_of_ble_eq_true rfl)
  rw [lg_entry_eq]
  generalize (lg_sl ([.ref p0, .ref pa]) ++ List.replicate (3 - (lg_sl ([.ref p0, .ref pa])).length) Slot.unset).toArray = ls at hl ⊢
  have hl : lv_has ls 3 [(0, .ref p0), (1, .ref pa)] := hl
  refine lv_aload_n hx hb dX4_copy_0 rfl (lv_at hl 0 rfl) ?_
  refine lv_aload_n hx hb dX4_copy_1 rfl (lv_at hl 1 rfl) ?_
  refine y_getdeg E hK hV mq rfl cf_4_15 dX4_copy_2 ?_
  refine y_putdeg E hK hV mp rfl cf_4_15 dX4_copy_5 (fun H locs hV => ?_)
  refine lv_iconst (v := Int32.ofInt (0)) hx hb dX4_copy_8 (by decide) ?_
  refine lv_istore_n (lv' := [(2, Iz (0)), (0, .ref p0), (1, .ref pa)]) hx hb dX4_copy_9 rfl hl (by decide) rfl (fun ls hl => ?_)
  refine r_loop2 (P := fun N_ ce sl H locs ls => ∃ dd_10 : Nat → Nat, ∃ nn_10 ss_10 : Nat → Int, ∃ ll_10 : Nat → Nat, ∃ gg_10 : Nat → Int → Int, ∃ v_10 : Nat → Int, ∃ i : Int, N_ = (13 - i).toNat ∧ ce = cP LB ll_10 - cP LB ll ∧ sl = 2 * (cP LB ll_10 - cP LB ll) ∧ cR LB nn_10 ss_10 ll_10 gg_10 v_10 ∧ (0 ≤ i) ∧ (i ≤ pd pa + 1) ∧ (∀ j : Nat, (j : Int) < i → v_10 (co p0 j) = v (co pa j)) ∧ (∀ b : Nat, (∀ j : Nat, (j : Int) ≤ pd pa → b ≠ co p0 j) → v_10 b = v b) ∧ cV dC dI cx LB (va_A (bW (cx 0) LB dd nn ss ll gg (pW cx LP pc_ pd co X)) s.heap.size) s.heap ll (pW cx LP pc_ (va_up pd p0 (pd pa)) co X) dd_10 nn_10 ss_10 ll_10 gg_10 H locs ∧ lv_has ls 3 [(0, .ref p0), (1, .ref pa), (2, Iz (i))]) (g := fun ls => F0 m 10 ls []) (fun N_ ce sl H locs ls hI ih_10 => ?_) _ _ _ _ _ _ ⟨_, _, _, _, _, v, 0, rfl, rfl, rfl, hN, (Int.le_refl 0), (by omega), (fun j h => by omega), (fun b h => rfl), hV, lv_sub hl [1, 2, 0] rfl⟩
  obtain ⟨dd_10, nn_10, ss_10, ll_10, gg_10, v_10, i, rfl, rfl, rfl, hN, i0, i1, c1, c2, hV, hl⟩ := hI
  refine lv_iload_n hx hb dX4_copy_10 rfl (lv_at hl 2 rfl) ?_
  refine lv_aload_n hx hb dX4_copy_11 rfl (lv_at hl 0 rfl) ?_
  refine y_getdeg E hK hV mp (va_up_self _ _ _) cf_4_15 dX4_copy_12 ?_
  refine g_icmp_gt (tgt := 45) hx hb ⟨by omega, by omega⟩ ⟨by omega, by omega⟩ dX4_copy_15 (by decide) (fun c_15 => ?_) (fun c_15 => ?_)
  · skip
    have hpost : ∃ v' : Nat → Int, (pW cx LP pc_ (va_up pd p0 (pd pa)) co X) = pW cx LP pc_ (va_up pd p0 (pd pa)) co X ∧ cR LB nn_10 ss_10 ll_10 gg_10 v' ∧ (∀ i : Nat, (i : Int) ≤ pd pa → v' (co p0 i) = v (co pa i)) ∧ ∀ b : Nat, (∀ i : Nat, (i : Int) ≤ pd pa → b ≠ co p0 i) → v' b = v b := ⟨_, rfl, hN, fun j h => c1 j (by omega), c2⟩
    exact c_vret hx hb hr hK hV hpost dX4_copy_45 hlocks
  · skip
    refine lv_iload_n hx hb dX4_copy_18 rfl (lv_at hl 2 rfl) ?_
    refine lv_bipush (v := Int32.ofInt (12)) hx hb dX4_copy_19 (by decide) ?_
    refine g_icmp_gt (tgt := 45) hx hb ⟨by omega, by omega⟩ ⟨by omega, by omega⟩ dX4_copy_21 (by decide) (fun c_21 => ?_) (fun c_21 => ?_)
    · skip
      have hpost : ∃ v' : Nat → Int, (pW cx LP pc_ (va_up pd p0 (pd pa)) co X) = pW cx LP pc_ (va_up pd p0 (pd pa)) co X ∧ cR LB nn_10 ss_10 ll_10 gg_10 v' ∧ (∀ i : Nat, (i : Int) ≤ pd pa → v' (co p0 i) = v (co pa i)) ∧ ∀ b : Nat, (∀ i : Nat, (i : Int) ≤ pd pa → b ≠ co p0 i) → v' b = v b := ⟨_, rfl, hN, fun j h => c1 j (by omega), c2⟩
      exact c_vret hx hb hr hK hV hpost dX4_copy_45 hlocks
    · skip
      refine lv_aload_n hx hb dX4_copy_24 rfl (lv_at hl 0 rfl) ?_
      refine y_getc E hK hV mp cf_4_11 dX4_copy_25 ?_
      refine lv_iload_n hx hb dX4_copy_28 rfl (lv_at hl 2 rfl) ?_
      refine y_aald hx hb hK hV mp (by omega) (by omega) dX4_copy_29 ?_
      refine lv_aload_n hx hb dX4_copy_30 rfl (lv_at hl 1 rfl) ?_
      refine y_getc E hK hV mq cf_4_11 dX4_copy_31 ?_
      refine lv_iload_n hx hb dX4_copy_34 rfl (lv_at hl 2 rfl) ?_
      refine y_aald hx hb hK hV mq (by omega) (by omega) dX4_copy_35 ?_
      have e36 : v_10 (co pa i.toNat) = v (co pa i.toNat) := c2 _ (fun j h q_ => np (hO.2 _ mq _ mp _ _ (by omega) (by omega) q_).1.symm)
      have s36 := num1_le (hN _ (hO.1 pa mq _ (by omega))) (show ((v_10 (co pa (i).toNat)).natAbs : Int) < 1073741824 ^ 80 by rw [e36]; exact sz _ (by omega))
      refine c_callv (As := [.ref (co pa (i).toNat)]) (rest := []) E (k0_copy (v := v_10) (h0 := (co p0 (i).toNat)) (a := (co pa (i).toNat)) (hO.1 p0 mp _ (by omega)) hN (hO.1 pa mq _ (by omega)) (fun q_ => np (hO.2 _ mp _ mq _ _ (by omega) (by omega) q_).1) (by omega)) (cwV 1 hts (cGood cl_X4_20 ci_X0_copy cs_X0_copy cn_RX0 cc_X0_copy) rfl rfl rfl (by decide +kernel) ⟨Nat.le_of_ble_eq_true rfl, Nat.le_of_ble_eq_true rfl⟩) (b_recv hK hV (hO.1 p0 mp _ (by omega))) hK hV hA hR rfl hl.1 (Nat.le_of_ble_eq_true rfl) dX4_copy_36 (fun X36 dd36 nn36 ss36 ll36 gg36 H locs q36 hV hm36 => ?_)
      obtain ⟨e1_, hN⟩ := q36
      obtain rfl := e1_.symm
      refine g_iinc (k := 2) (z := i) (n := (1)) (lv' := [(2, Iz (i + 1)), (0, .ref p0), (1, .ref pa)]) hx hb dX4_copy_39 hl rfl (by decide) rfl (fun ls hl => ?_)
      refine lv_goto (tgt := 10) hx hb dX4_copy_42 (by decide) ?_
      exact ih_10 _ (by omega) _ _ _ _ _ ⟨_, _, _, _, _, (va_up v_10 (co p0 (i).toNat) (v_10 (co pa (i).toNat))), (i + 1), rfl, rfl, rfl, hN, (by omega), (by omega), (fun j h => by
                by_cases w : j = i.toNat
                · rw [w, va_up_self]; exact e36
                · rw [va_up_ne _ _ (fun q_ => w (hO.2 _ mp _ mp _ _ (by omega) (by omega) q_).2)]; exact c1 j (by omega)), (fun b h => by rw [va_up_ne _ _ (h i.toNat (by omega))]; exact c2 b h), hV, lv_sub hl [1, 2, 0] rfl⟩
