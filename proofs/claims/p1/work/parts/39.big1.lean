set_option maxHeartbeats 4000000 in
set_option maxRecDepth 100000 in
theorem k0_clear {l : Launch} {dC : Nat → ClassId} {dI : Nat → Nat → Nat} {cx : Nat → Nat} {LB : List Nat} {X : va_W} {dd : Nat → Nat} {nn ss : Nat → Int} {ll : Nat → Nat} {gg : Nat → Int → Int} {H0 : Heap} {v : Nat → Int} {h0 : Nat} (m0 : h0 ∈ LB) (hN : cR LB nn ss ll gg v) : Met l yX0_clear (Cond.code yX0_clear cX0_clear 1 none :: w0c) (cRm 0 0 LB ll) (cPc dC dI cx LB X dd nn ss ll gg H0 [.ref h0]) (cQv dC dI cx LB (va_A (bW (cx 0) LB dd nn ss ll gg X) H0.size) ll H0 (fun X' dd' nn' ss' ll' gg' => X' = X ∧ cR LB nn' ss' ll' gg' (va_up v h0 0))) (cMc LB ll) (2 * cMc LB ll) (va_A (bW (cx 0) LB dd nn ss ll gg X) H0.size) := by
  refine Met.ofW (cc := cX0_clear) (maxL := 1) (ret := none) (by decide) rfl ?_
  intro p e s m args below meth c s₁ B hml hv
  obtain ⟨rfl, hH0, hP, hK, hD0, hC0⟩ := hv
  have hx := B.exec
  have hb := B.bytes
  have hr := B.returns
  have hts := atoms_spec (ws := Cond.code yX0_clear cX0_clear 1 none :: w0c) B.pre
  have hown : s.vm.findClass RX0 = some m.cls := findClass_of_methodNamed B.named
  have hlocks := B.notSynchronized
  have E : CallFix p m c cX0_clear 1 s _ (Cond.code yX0_clear cX0_clear 1 none :: w0c) RX0 := ⟨hx, hb, hml, hown, hts⟩
  subst hH0
  have hD := va_D.self (sz := s.heap.size) hD0
  have hA : ∀ q : Nat, s.heap.size ≤ q → va_A (bW (cx 0) LB dd nn ss ll gg X) s.heap.size q := fun q h => Or.inr h
  have hV : cV dC dI cx LB (va_A (bW (cx 0) LB dd nn ss ll gg X) s.heap.size) s.heap ll X dd nn ss ll gg s.heap [] := ⟨hP, hD, va_S.rf, fun _ _ => Nat.le_refl _, hC0⟩
  have hR : (headSpec (Cond.code yX0_clear cX0_clear 1 none :: w0c) (cRm 0 0 LB ll)).room.cells = cMc LB ll ∧ (headSpec (Cond.code yX0_clear cX0_clear 1 none :: w0c) (cRm 0 0 LB ll)).room.slots = 2 * cMc LB ll := ⟨rfl, rfl⟩
  refine W.widen (k := cP LB ll - cP LB ll) (n := 2 * (cP LB ll - cP LB ll)) (Nat.zero_le _) (Nat.zero_le _) ?_
  have hl := lv_entry ([.ref h0]) (n := 1) (Nat.le_of_ble_eq_true rfl)
  rw [lg_entry_eq]
  generalize (lg_sl ([.ref h0]) ++ List.replicate (1 - (lg_sl ([.ref h0])).length) Slot.unset).toArray = ls at hl ⊢
  have hl : lv_has ls 1 [(0, .ref h0)] := hl
  refine lv_aload_n hx hb dX0_clear_0 rfl (lv_at hl 0 rfl) ?_
  refine lv_iconst (v := Int32.ofInt (0)) hx hb dX0_clear_1 (by decide) ?_
  refine t_putn E hK hV m0 rfl cf_0_13 dX0_clear_2 (fun H locs hV => ?_)
  refine lv_aload_n hx hb dX0_clear_5 rfl (lv_at hl 0 rfl) ?_
  refine lv_iconst (v := Int32.ofInt (0)) hx hb dX0_clear_6 (by decide) ?_
  refine t_puts E hK hV m0 rfl cf_0_17 dX0_clear_7 (fun H locs hV => ?_)
  have hpost : X = X ∧ cR LB (va_up nn h0 0) (va_up ss h0 0) ll gg (va_up v h0 0) := ⟨rfl, by have h := cR_up (h0 := h0) hN (show num1 0 0 (ll h0) (gg h0) 0 from ⟨Int.le_refl 0, by omega, (hN h0 m0).2.2.1, fun i h0 h1 => by exfalso; have : ((0 : Int).toNat : Int) = 0 := rfl; omega, fun h => absurd h (by decide), rfl, rfl⟩); rw [va_up_id, va_up_id] at h; exact h⟩
  exact c_vret hx hb hr hK hV hpost dX0_clear_10 hlocks
set_option maxHeartbeats 4000000 in
set_option maxRecDepth 100000 in
theorem k0_flip {l : Launch} {dC : Nat → ClassId} {dI : Nat → Nat → Nat} {cx : Nat → Nat} {LB : List Nat} {X : va_W} {dd : Nat → Nat} {nn ss : Nat → Int} {ll : Nat → Nat} {gg : Nat → Int → Int} {H0 : Heap} {v : Nat → Int} {h0 : Nat} (m0 : h0 ∈ LB) (hN : cR LB nn ss ll gg v) : Met l yX0_flip (Cond.code yX0_flip cX0_flip 1 none :: w0c) (cRm 0 0 LB ll) (cPc dC dI cx LB X dd nn ss ll gg H0 [.ref h0]) (cQv dC dI cx LB (va_A (bW (cx 0) LB dd nn ss ll gg X) H0.size) ll H0 (fun X' dd' nn' ss' ll' gg' => X' = X ∧ cR LB nn' ss' ll' gg' (va_up v h0 (-(v h0))))) (cMc LB ll) (2 * cMc LB ll) (va_A (bW (cx 0) LB dd nn ss ll gg X) H0.size) := by
  refine Met.ofW (cc := cX0_flip) (maxL := 1) (ret := none) (by decide) rfl ?_
  intro p e s m args below meth c s₁ B hml hv
  obtain ⟨rfl, hH0, hP, hK, hD0, hC0⟩ := hv
  have hx := B.exec
  have hb := B.bytes
  have hr := B.returns
  have hts := atoms_spec (ws := Cond.code yX0_flip cX0_flip 1 none :: w0c) B.pre
  have hown : s.vm.findClass RX0 = some m.cls := findClass_of_methodNamed B.named
  have hlocks := B.notSynchronized
  have E : CallFix p m c cX0_flip 1 s _ (Cond.code yX0_flip cX0_flip 1 none :: w0c) RX0 := ⟨hx, hb, hml, hown, hts⟩
  subst hH0
  have hD := va_D.self (sz := s.heap.size) hD0
  have hA : ∀ q : Nat, s.heap.size ≤ q → va_A (bW (cx 0) LB dd nn ss ll gg X) s.heap.size q := fun q h => Or.inr h
  have hV : cV dC dI cx LB (va_A (bW (cx 0) LB dd nn ss ll gg X) s.heap.size) s.heap ll X dd nn ss ll gg s.heap [] := ⟨hP, hD, va_S.rf, fun _ _ => Nat.le_refl _, hC0⟩
  have hR : (headSpec (Cond.code yX0_flip cX0_flip 1 none :: w0c) (cRm 0 0 LB ll)).room.cells = cMc LB ll ∧ (headSpec (Cond.code yX0_flip cX0_flip 1 none :: w0c) (cRm 0 0 LB ll)).room.slots = 2 * cMc LB ll := ⟨rfl, rfl⟩
  refine W.widen (k := cP LB ll - cP LB ll) (n := 2 * (cP LB ll - cP LB ll)) (Nat.zero_le _) (Nat.zero_le _) ?_
  have hl := lv_entry ([.ref h0]) (n := 1) (Nat.le_of_ble_eq_true rfl)
  rw [lg_entry_eq]
  generalize (lg_sl ([.ref h0]) ++ List.replicate (1 - (lg_sl ([.ref h0])).length) Slot.unset).toArray = ls at hl ⊢
  have hl : lv_has ls 1 [(0, .ref h0)] := hl
  refine lv_aload_n hx hb dX0_flip_0 rfl (lv_at hl 0 rfl) ?_
  refine lv_aload_n hx hb dX0_flip_1 rfl (lv_at hl 0 rfl) ?_
  refine t_gets E hK hV m0 rfl cf_0_17 dX0_flip_2 ?_
  refine g_ineg hx hb dX0_flip_5 ?_
  refine t_puts E hK hV m0 rfl cf_0_17 dX0_flip_6 (fun H locs hV => ?_)
  have hpost : X = X ∧ cR LB nn (va_up ss h0 (-(ss h0))) ll gg (va_up v h0 (-(v h0))) := ⟨rfl, by have h := cR_up (h0 := h0) hN (show num1 (nn h0) (-(ss h0)) (ll h0) (gg h0) (-(v h0)) from by obtain ⟨a1, a2, a3, a4, a5, a6, a7⟩ := hN h0 m0; exact ⟨a1, a2, a3, a4, a5, by rw [a6]; unfold sg; split <;> (try split) <;> (try split) <;> (try split) <;> omega, by rw [Int.natAbs_neg]; exact a7⟩); rw [va_up_id, va_up_id, va_up_id] at h; exact h⟩
  exact c_vret hx hb hr hK hV hpost dX0_flip_9 hlocks
set_option maxHeartbeats 4000000 in
set_option maxRecDepth 100000 in
theorem k0_isOne {l : Launch} {dC : Nat → ClassId} {dI : Nat → Nat → Nat} {cx : Nat → Nat} {LB : List Nat} {X : va_W} {dd : Nat → Nat} {nn ss : Nat → Int} {ll : Nat → Nat} {gg : Nat → Int → Int} {H0 : Heap} {v : Nat → Int} {h0 : Nat} (m0 : h0 ∈ LB) (hN : cR LB nn ss ll gg v) : Met l yX0_isOne (Cond.code yX0_isOne cX0_isOne 1 (some .boolean) :: w0c) (cRm 0 0 LB ll) (cPc dC dI cx LB X dd nn ss ll gg H0 [.ref h0]) (cQi dC dI cx LB (va_A (bW (cx 0) LB dd nn ss ll gg X) H0.size) ll H0 (fun z X' dd' nn' ss' ll' gg' => X' = X ∧ dd' = dd ∧ nn' = nn ∧ ss' = ss ∧ ll' = ll ∧ gg' = gg ∧ z = (if (v h0).natAbs = 1 then 1 else 0))) (cMc LB ll) (2 * cMc LB ll) (va_A (bW (cx 0) LB dd nn ss ll gg X) H0.size) := by
  refine Met.ofW (cc := cX0_isOne) (maxL := 1) (ret := (some .boolean)) (by decide) rfl ?_
  intro p e s m args below meth c s₁ B hml hv
  obtain ⟨rfl, hH0, hP, hK, hD0, hC0⟩ := hv
  have hx := B.exec
  have hb := B.bytes
  have hr := B.returns
  have hts := atoms_spec (ws := Cond.code yX0_isOne cX0_isOne 1 (some .boolean) :: w0c) B.pre
  have hown : s.vm.findClass RX0 = some m.cls := findClass_of_methodNamed B.named
  have hlocks := B.notSynchronized
  have E : CallFix p m c cX0_isOne 1 s _ (Cond.code yX0_isOne cX0_isOne 1 (some .boolean) :: w0c) RX0 := ⟨hx, hb, hml, hown, hts⟩
  subst hH0
  have hD := va_D.self (sz := s.heap.size) hD0
  have hA : ∀ q : Nat, s.heap.size ≤ q → va_A (bW (cx 0) LB dd nn ss ll gg X) s.heap.size q := fun q h => Or.inr h
  have hV : cV dC dI cx LB (va_A (bW (cx 0) LB dd nn ss ll gg X) s.heap.size) s.heap ll X dd nn ss ll gg s.heap [] := ⟨hP, hD, va_S.rf, fun _ _ => Nat.le_refl _, hC0⟩
  have hR : (headSpec (Cond.code yX0_isOne cX0_isOne 1 (some .boolean) :: w0c) (cRm 0 0 LB ll)).room.cells = cMc LB ll ∧ (headSpec (Cond.code yX0_isOne cX0_isOne 1 (some .boolean) :: w0c) (cRm 0 0 LB ll)).room.slots = 2 * cMc LB ll := ⟨rfl, rfl⟩
  refine W.widen (k := cP LB ll - cP LB ll) (n := 2 * (cP LB ll - cP LB ll)) (Nat.zero_le _) (Nat.zero_le _) ?_
  have hl := lv_entry ([.ref h0]) (n := 1) (Nat.le_of_ble_eq_true rfl)
  rw [lg_entry_eq]
  generalize (lg_sl ([.ref h0]) ++ List.replicate (1 - (lg_sl ([.ref h0])).length) Slot.unset).toArray = ls at hl ⊢
  have hl : lv_has ls 1 [(0, .ref h0)] := hl
  have N0 := hN h0 m0
  obtain ⟨n0_, n1_, k5_, dg_, tp_, sg_, vl_⟩ := hN h0 m0
  have c4_ := (hC0 h0 m0).2
  have sb_ := sg_bd (v h0)
  refine lv_aload_n hx hb dX0_isOne_0 rfl (lv_at hl 0 rfl) ?_
  refine t_getn E hK hV m0 rfl cf_0_13 dX0_isOne_1 ?_
  refine lv_iconst (v := Int32.ofInt (1)) hx hb dX0_isOne_4 (by decide) ?_
  refine g_icmp_ne (tgt := 22) hx hb ⟨by omega, by omega⟩ ⟨by omega, by omega⟩ dX0_isOne_5 (by decide) (fun c_5 => ?_) (fun c_5 => ?_)
  · skip
    refine lv_iconst (v := Int32.ofInt (0)) hx hb dX0_isOne_22 (by decide) ?_
    have hpost : X = X ∧ dd = dd ∧ nn = nn ∧ ss = ss ∧ ll = ll ∧ gg = gg ∧ (0 : Int) = (if (v h0).natAbs = 1 then 1 else 0) := ⟨rfl, rfl, rfl, rfl, rfl, rfl, by have q := num1_one N0; split <;> omega⟩
    exact c_zret hx hb hr hK hV rfl hpost dX0_isOne_23 hlocks
  · skip
    refine lv_aload_n hx hb dX0_isOne_8 rfl (lv_at hl 0 rfl) ?_
    refine t_getd E hK hV m0 rfl cf_0_9 dX0_isOne_9 ?_
    refine lv_iconst (v := Int32.ofInt (0)) hx hb dX0_isOne_12 (by decide) ?_
    refine t_ald (z := 0) (v := gg h0 0) hx hb hK hV m0 rfl rfl rfl (by omega) (by omega) dX0_isOne_13 ?_
    refine lv_iconst (v := Int32.ofInt (1)) hx hb dX0_isOne_14 (by decide) ?_
    refine g_icmp_ne (tgt := 22) hx hb ⟨by have := (dg_ 0 (by omega) (by omega)).1; omega, by have := (dg_ 0 (by omega) (by omega)).2; omega⟩ ⟨by decide, by decide⟩ dX0_isOne_15 (by decide) (fun c_15 => ?_) (fun c_15 => ?_)
    · skip
      refine lv_iconst (v := Int32.ofInt (0)) hx hb dX0_isOne_22 (by decide) ?_
      have hpost : X = X ∧ dd = dd ∧ nn = nn ∧ ss = ss ∧ ll = ll ∧ gg = gg ∧ (0 : Int) = (if (v h0).natAbs = 1 then 1 else 0) := ⟨rfl, rfl, rfl, rfl, rfl, rfl, by have q := num1_one N0; split <;> omega⟩
      exact c_zret hx hb hr hK hV rfl hpost dX0_isOne_23 hlocks
    · skip
      refine lv_iconst (v := Int32.ofInt (1)) hx hb dX0_isOne_18 (by decide) ?_
      refine lv_goto (tgt := 23) hx hb dX0_isOne_19 (by decide) ?_
      have hpost : X = X ∧ dd = dd ∧ nn = nn ∧ ss = ss ∧ ll = ll ∧ gg = gg ∧ (1 : Int) = (if (v h0).natAbs = 1 then 1 else 0) := ⟨rfl, rfl, rfl, rfl, rfl, rfl, by have q := num1_one N0; split <;> omega⟩
      exact c_zret hx hb hr hK hV rfl hpost dX0_isOne_23 hlocks
set_option maxHeartbeats 4000000 in
set_option maxRecDepth 100000 in
theorem k0_isOdd {l : Launch} {dC : Nat → ClassId} {dI : Nat → Nat → Nat} {cx : Nat → Nat} {LB : List Nat} {X : va_W} {dd : Nat → Nat} {nn ss : Nat → Int} {ll : Nat → Nat} {gg : Nat → Int → Int} {H0 : Heap} {v : Nat → Int} {h0 : Nat} (m0 : h0 ∈ LB) (hN : cR LB nn ss ll gg v) : Met l yX0_isOdd (Cond.code yX0_isOdd cX0_isOdd 1 (some .boolean) :: w0c) (cRm 0 0 LB ll) (cPc dC dI cx LB X dd nn ss ll gg H0 [.ref h0]) (cQi dC dI cx LB (va_A (bW (cx 0) LB dd nn ss ll gg X) H0.size) ll H0 (fun z X' dd' nn' ss' ll' gg' => X' = X ∧ dd' = dd ∧ nn' = nn ∧ ss' = ss ∧ ll' = ll ∧ gg' = gg ∧ z = v h0 % 2)) (cMc LB ll) (2 * cMc LB ll) (va_A (bW (cx 0) LB dd nn ss ll gg X) H0.size) := by
  refine Met.ofW (cc := cX0_isOdd) (maxL := 1) (ret := (some .boolean)) (by decide) rfl ?_
  intro p e s m args below meth c s₁ B hml hv
  obtain ⟨rfl, hH0, hP, hK, hD0, hC0⟩ := hv
  have hx := B.exec
  have hb := B.bytes
  have hr := B.returns
  have hts := atoms_spec (ws := Cond.code yX0_isOdd cX0_isOdd 1 (some .boolean) :: w0c) B.pre
  have hown : s.vm.findClass RX0 = some m.cls := findClass_of_methodNamed B.named
  have hlocks := B.notSynchronized
  have E : CallFix p m c cX0_isOdd 1 s _ (Cond.code yX0_isOdd cX0_isOdd 1 (some .boolean) :: w0c) RX0 := ⟨hx, hb, hml, hown, hts⟩
  subst hH0
  have hD := va_D.self (sz := s.heap.size) hD0
  have hA : ∀ q : Nat, s.heap.size ≤ q → va_A (bW (cx 0) LB dd nn ss ll gg X) s.heap.size q := fun q h => Or.inr h
  have hV : cV dC dI cx LB (va_A (bW (cx 0) LB dd nn ss ll gg X) s.heap.size) s.heap ll X dd nn ss ll gg s.heap [] := ⟨hP, hD, va_S.rf, fun _ _ => Nat.le_refl _, hC0⟩
  have hR : (headSpec (Cond.code yX0_isOdd cX0_isOdd 1 (some .boolean) :: w0c) (cRm 0 0 LB ll)).room.cells = cMc LB ll ∧ (headSpec (Cond.code yX0_isOdd cX0_isOdd 1 (some .boolean) :: w0c) (cRm 0 0 LB ll)).room.slots = 2 * cMc LB ll := ⟨rfl, rfl⟩
  refine W.widen (k := cP LB ll - cP LB ll) (n := 2 * (cP LB ll - cP LB ll)) (Nat.zero_le _) (Nat.zero_le _) ?_
  have hl := lv_entry ([.ref h0]) (n := 1) (Nat.le_of_ble_eq_true rfl)
  rw [lg_entry_eq]
  generalize (lg_sl ([.ref h0]) ++ List.replicate (1 - (lg_sl ([.ref h0])).length) Slot.unset).toArray = ls at hl ⊢
  have hl : lv_has ls 1 [(0, .ref h0)] := hl
  have N0 := hN h0 m0
  obtain ⟨n0_, n1_, k5_, dg_, tp_, sg_, vl_⟩ := hN h0 m0
  have c4_ := (hC0 h0 m0).2
  have sb_ := sg_bd (v h0)
  refine lv_aload_n hx hb dX0_isOdd_0 rfl (lv_at hl 0 rfl) ?_
  refine t_getn E hK hV m0 rfl cf_0_13 dX0_isOdd_1 ?_
  refine g_if_le (tgt := 22) hx hb ⟨by omega, by omega⟩ dX0_isOdd_4 (by decide) (fun c_4 => ?_) (fun c_4 => ?_)
  · skip
    refine lv_iconst (v := Int32.ofInt (0)) hx hb dX0_isOdd_22 (by decide) ?_
    have hpost : X = X ∧ dd = dd ∧ nn = nn ∧ ss = ss ∧ ll = ll ∧ gg = gg ∧ (0 : Int) = v h0 % 2 := ⟨rfl, rfl, rfl, rfl, rfl, rfl, by have q := num1_odd N0; split at q <;> omega⟩
    exact c_zret hx hb hr hK hV rfl hpost dX0_isOdd_23 hlocks
  · skip
    refine lv_aload_n hx hb dX0_isOdd_7 rfl (lv_at hl 0 rfl) ?_
    refine t_getd E hK hV m0 rfl cf_0_9 dX0_isOdd_8 ?_
    refine lv_iconst (v := Int32.ofInt (0)) hx hb dX0_isOdd_11 (by decide) ?_
    refine t_ald (z := 0) (v := gg h0 0) hx hb hK hV m0 rfl rfl rfl (by omega) (by omega) dX0_isOdd_12 ?_
    refine lv_iconst (v := Int32.ofInt (1)) hx hb dX0_isOdd_13 (by decide) ?_
    refine g_iand1 hx hb dX0_isOdd_14 ?_
    refine g_if_eq (tgt := 22) hx hb ⟨by omega, by omega⟩ dX0_isOdd_15 (by decide) (fun c_15 => ?_) (fun c_15 => ?_)
    · skip
      refine lv_iconst (v := Int32.ofInt (0)) hx hb dX0_isOdd_22 (by decide) ?_
      have hpost : X = X ∧ dd = dd ∧ nn = nn ∧ ss = ss ∧ ll = ll ∧ gg = gg ∧ (0 : Int) = v h0 % 2 := ⟨rfl, rfl, rfl, rfl, rfl, rfl, by have q := num1_odd N0; split at q <;> omega⟩
      exact c_zret hx hb hr hK hV rfl hpost dX0_isOdd_23 hlocks
    · skip
      refine lv_iconst (v := Int32.ofInt (1)) hx hb dX0_isOdd_18 (by decide) ?_
      refine lv_goto (tgt := 23) hx hb dX0_isOdd_19 (by decide) ?_
      have hpost : X = X ∧ dd = dd ∧ nn = nn ∧ ss = ss ∧ ll = ll ∧ gg = gg ∧ (1 : Int) = v h0 % 2 := ⟨rfl, rfl, rfl, rfl, rfl, rfl, by have q := num1_odd N0; split at q <;> omega⟩
      exact c_zret hx hb hr hK hV rfl hpost dX0_isOdd_23 hlocks
set_option maxHeartbeats 4000000 in
set_option maxRecDepth 100000 in
theorem k0_trim {l : Launch} {dC : Nat → ClassId} {dI : Nat → Nat → Nat} {cx : Nat → Nat} {LB : List Nat} {X : va_W} {dd : Nat → Nat} {nn ss : Nat → Int} {ll : Nat → Nat} {gg : Nat → Int → Int} {H0 : Heap} {h0 : Nat} {top : Int} (m0 : h0 ∈ LB) (t0 : 0 ≤ top) (t1 : top ≤ ll h0) (td : kb_d (gg h0) top.toNat) : Met l yX0_trim (Cond.code yX0_trim cX0_trim 2 none :: w0c) (cRm 0 0 LB ll) (cPc dC dI cx LB X dd nn ss ll gg H0 [.ref h0, Iz (top)]) (cQv dC dI cx LB (va_A (bW (cx 0) LB dd nn ss ll gg X) H0.size) ll H0 (fun X' dd' nn' ss' ll' gg' => X' = X ∧ dd' = dd ∧ ll' = ll ∧ gg' = gg ∧ ∃ n1 : Int, nn' = va_up nn h0 n1 ∧ ss' = va_up ss h0 (if n1 = 0 then 0 else ss h0) ∧ 0 ≤ n1 ∧ n1 ≤ top ∧ (0 < n1 → gg h0 (n1 - 1) ≠ 0) ∧ ∀ i : Int, n1 ≤ i → i < top → gg h0 i = 0)) (cMc LB ll) (2 * cMc LB ll) (va_A (bW (cx 0) LB dd nn ss ll gg X) H0.size) := by
  refine Met.ofW (cc := cX0_trim) (maxL := 2) (ret := none) (by decide) rfl ?_
  intro p e s m args below meth c s₁ B hml hv
  obtain ⟨rfl, hH0, hP, hK, hD0, hC0⟩ := hv
  have hx := B.exec
  have hb := B.bytes
  have hr := B.returns
  have hts := atoms_spec (ws := Cond.code yX0_trim cX0_trim 2 none :: w0c) B.pre
  have hown : s.vm.findClass RX0 = some m.cls := findClass_of_methodNamed B.named
  have hlocks := B.notSynchronized
  have E : CallFix p m c cX0_trim 2 s _ (Cond.code yX0_trim cX0_trim 2 none :: w0c) RX0 := ⟨hx, hb, hml, hown, hts⟩
  subst hH0
  have hD := va_D.self (sz := s.heap.size) hD0
  have hA : ∀ q : Nat, s.heap.size ≤ q → va_A (bW (cx 0) LB dd nn ss ll gg X) s.heap.size q := fun q h => Or.inr h
  have hV : cV dC dI cx LB (va_A (bW (cx 0) LB dd nn ss ll gg X) s.heap.size) s.heap ll X dd nn ss ll gg s.heap [] := ⟨hP, hD, va_S.rf, fun _ _ => Nat.le_refl _, hC0⟩
  have hR : (headSpec (Cond.code yX0_trim cX0_trim 2 none :: w0c) (cRm 0 0 LB ll)).room.cells = cMc LB ll ∧ (headSpec (Cond.code yX0_trim cX0_trim 2 none :: w0c) (cRm 0 0 LB ll)).room.slots = 2 * cMc LB ll := ⟨rfl, rfl⟩
  refine W.widen (k := cP LB ll - cP LB ll) (n := 2 * (cP LB ll - cP LB ll)) (Nat.zero_le _) (Nat.zero_le _) ?_
  have hl := lv_entry ([.ref h0, Iz (top)]) (n := 2) (Nat.le_of_ble_eq_true rfl)
  rw [lg_entry_eq]
  generalize (lg_sl ([.ref h0, Iz (top)]) ++ List.replicate (2 - (lg_sl ([.ref h0, Iz (top)])).length) Slot.unset).toArray = ls at hl ⊢
  have hl : lv_has ls 2 [(0, .ref h0), (1, Iz (top))] := hl
  have c4_ := (hC0 h0 m0).2
  refine lv_aload_n hx hb dX0_trim_0 rfl (lv_at hl 0 rfl) ?_
  refine r_join (P := fun z : Int => z = top) (g := fun z => F0 m 19 ls [Iz z, .ref h0]) (fun n9 hn9 => ?_) (fun k_19 => ?_)
  · skip
    obtain rfl := hn9.symm
    refine t_putn E hK hV m0 rfl cf_0_13 dX0_trim_19 (fun H locs hV => ?_)
    refine r_loop (P := fun N_ H locs ls => ∃ k : Int, N_ = k.toNat ∧ (0 ≤ k) ∧ (k ≤ top) ∧ (∀ i : Int, k ≤ i → i < top → gg h0 i = 0) ∧ cV dC dI cx LB (va_A (bW (cx 0) LB dd nn ss ll gg X) s.heap.size) s.heap ll X dd (va_up nn h0 k) ss ll gg H locs ∧ lv_has ls 2 [(0, .ref h0), (1, Iz (top))]) (g := fun ls => F0 m 22 ls []) (fun N_ H locs ls hI ih_22 => ?_) _ _ _ _ ⟨top, rfl, (t0), (Int.le_refl _), (fun i a b => by omega), hV, lv_sub hl [0, 1] rfl⟩
    obtain ⟨k, rfl, k0, k1, kz, hV, hl⟩ := hI
    refine lv_aload_n hx hb dX0_trim_22 rfl (lv_at hl 0 rfl) ?_
    refine t_getn E hK hV m0 (va_up_self _ _ _) cf_0_13 dX0_trim_23 ?_
    refine g_if_le (tgt := 56) hx hb ⟨by omega, by omega⟩ dX0_trim_26 (by decide) (fun c_26 => ?_) (fun c_26 => ?_)
    · skip
      refine lv_aload_n hx hb dX0_trim_56 rfl (lv_at hl 0 rfl) ?_
      refine t_getn E hK hV m0 (va_up_self _ _ _) cf_0_13 dX0_trim_57 ?_
      refine g_if_ne (tgt := 68) hx hb ⟨by omega, by omega⟩ dX0_trim_60 (by decide) (fun c_60 => ?_) (fun c_60 => ?_)
      · skip
        have hpost : X = X ∧ dd = dd ∧ ll = ll ∧ gg = gg ∧ ∃ n1 : Int, (va_up nn h0 k) = va_up nn h0 n1 ∧ ss = va_up ss h0 (if n1 = 0 then 0 else ss h0) ∧ 0 ≤ n1 ∧ n1 ≤ top ∧ (0 < n1 → gg h0 (n1 - 1) ≠ 0) ∧ ∀ i : Int, n1 ≤ i → i < top → gg h0 i = 0 := by
            refine ⟨rfl, rfl, rfl, rfl, k, rfl, ?_, k0, k1, ?_, kz⟩
            · first
              | (exfalso; omega)
              | rw [if_pos (by omega)]
              | (rw [if_neg (by omega), va_up_id])
            · first
              | (intro h; exfalso; omega)
              | (intro h; exact c_40)
        exact c_vret hx hb hr hK hV hpost dX0_trim_68 hlocks
      · skip
        refine lv_aload_n hx hb dX0_trim_63 rfl (lv_at hl 0 rfl) ?_
        refine lv_iconst (v := Int32.ofInt (0)) hx hb dX0_trim_64 (by decide) ?_
        refine t_puts E hK hV m0 rfl cf_0_17 dX0_trim_65 (fun H locs hV => ?_)
        have hpost : X = X ∧ dd = dd ∧ ll = ll ∧ gg = gg ∧ ∃ n1 : Int, (va_up nn h0 k) = va_up nn h0 n1 ∧ (va_up ss h0 0) = va_up ss h0 (if n1 = 0 then 0 else ss h0) ∧ 0 ≤ n1 ∧ n1 ≤ top ∧ (0 < n1 → gg h0 (n1 - 1) ≠ 0) ∧ ∀ i : Int, n1 ≤ i → i < top → gg h0 i = 0 := by
            refine ⟨rfl, rfl, rfl, rfl, k, rfl, ?_, k0, k1, ?_, kz⟩
            · first
              | (exfalso; omega)
              | rw [if_pos (by omega)]
              | (rw [if_neg (by omega), va_up_id])
            · first
              | (intro h; exfalso; omega)
              | (intro h; exact c_40)
        exact c_vret hx hb hr hK hV hpost dX0_trim_68 hlocks
    · skip
      refine lv_aload_n hx hb dX0_trim_29 rfl (lv_at hl 0 rfl) ?_
      refine t_getd E hK hV m0 rfl cf_0_9 dX0_trim_30 ?_
      refine lv_aload_n hx hb dX0_trim_33 rfl (lv_at hl 0 rfl) ?_
      refine t_getn E hK hV m0 (va_up_self _ _ _) cf_0_13 dX0_trim_34 ?_
      refine lv_iconst (v := Int32.ofInt (1)) hx hb dX0_trim_37 (by decide) ?_
      refine g_isub hx hb dX0_trim_38 ?_
      refine t_ald (z := (k - 1)) (v := gg h0 (k - 1)) hx hb hK hV m0 rfl rfl rfl (by omega) (by omega) dX0_trim_39 ?_
      refine g_if_ne (tgt := 56) hx hb ⟨by have := (td (k - 1) (by omega) (by omega)).1; omega, by have := (td (k - 1) (by omega) (by omega)).2; omega⟩ dX0_trim_40 (by decide) (fun c_40 => ?_) (fun c_40 => ?_)
      · skip
        refine lv_aload_n hx hb dX0_trim_56 rfl (lv_at hl 0 rfl) ?_
        refine t_getn E hK hV m0 (va_up_self _ _ _) cf_0_13 dX0_trim_57 ?_
        refine g_if_ne (tgt := 68) hx hb ⟨by omega, by omega⟩ dX0_trim_60 (by decide) (fun c_60 => ?_) (fun c_60 => ?_)
        · skip
          have hpost : X = X ∧ dd = dd ∧ ll = ll ∧ gg = gg ∧ ∃ n1 : Int, (va_up nn h0 k) = va_up nn h0 n1 ∧ ss = va_up ss h0 (if n1 = 0 then 0 else ss h0) ∧ 0 ≤ n1 ∧ n1 ≤ top ∧ (0 < n1 → gg h0 (n1 - 1) ≠ 0) ∧ ∀ i : Int, n1 ≤ i → i < top → gg h0 i = 0 := by
              refine ⟨rfl, rfl, rfl, rfl, k, rfl, ?_, k0, k1, ?_, kz⟩
              · first
                | (exfalso; omega)
                | rw [if_pos (by omega)]
                | (rw [if_neg (by omega), va_up_id])
              · first
                | (intro h; exfalso; omega)
                | (intro h; exact c_40)
          exact c_vret hx hb hr hK hV hpost dX0_trim_68 hlocks
        · skip
          refine lv_aload_n hx hb dX0_trim_63 rfl (lv_at hl 0 rfl) ?_
          refine lv_iconst (v := Int32.ofInt (0)) hx hb dX0_trim_64 (by decide) ?_
          refine t_puts E hK hV m0 rfl cf_0_17 dX0_trim_65 (fun H locs hV => ?_)
          have hpost : X = X ∧ dd = dd ∧ ll = ll ∧ gg = gg ∧ ∃ n1 : Int, (va_up nn h0 k) = va_up nn h0 n1 ∧ (va_up ss h0 0) = va_up ss h0 (if n1 = 0 then 0 else ss h0) ∧ 0 ≤ n1 ∧ n1 ≤ top ∧ (0 < n1 → gg h0 (n1 - 1) ≠ 0) ∧ ∀ i : Int, n1 ≤ i → i < top → gg h0 i = 0 := by
              refine ⟨rfl, rfl, rfl, rfl, k, rfl, ?_, k0, k1, ?_, kz⟩
              · first
                | (exfalso; omega)
                | rw [if_pos (by omega)]
                | (rw [if_neg (by omega), va_up_id])
              · first
                | (intro h; exfalso; omega)
                | (intro h; exact c_40)
          exact c_vret hx hb hr hK hV hpost dX0_trim_68 hlocks
      · skip
        refine lv_aload_n hx hb dX0_trim_43 rfl (lv_at hl 0 rfl) ?_
        refine lv_dup hx hb dX0_trim_44 rfl ?_
        refine t_getn E hK hV m0 (va_up_self _ _ _) cf_0_13 dX0_trim_45 ?_
        refine lv_iconst (v := Int32.ofInt (1)) hx hb dX0_trim_48 (by decide) ?_
        refine g_isub hx hb dX0_trim_49 ?_
        refine t_putn E hK hV m0 (va_up_up _ _ _ _) cf_0_13 dX0_trim_50 (fun H locs hV => ?_)
        refine lv_goto (tgt := 22) hx hb dX0_trim_53 (by decide) ?_
        exact ih_22 _ (by omega) _ _ _ ⟨(k - 1), rfl, (by omega), (by omega), (fun i a b => by rcases Int.lt_or_le i k with q | q; (· rw [show i = k - 1 by omega]; exact c_40); (· exact kz i q b)), hV, lv_sub hl [0, 1] rfl⟩
  · skip
    refine lv_iload_n hx hb dX0_trim_1 rfl (lv_at hl 1 rfl) ?_
    refine lv_aload_n hx hb dX0_trim_2 rfl (lv_at hl 0 rfl) ?_
    refine t_getd E hK hV m0 rfl cf_0_9 dX0_trim_3 ?_
    refine t_len hx hb hK hV m0 rfl rfl dX0_trim_6 ?_
    refine g_icmp_ge (tgt := 14) hx hb ⟨by omega, by omega⟩ ⟨by omega, by omega⟩ dX0_trim_7 (by decide) (fun c_7 => ?_) (fun c_7 => ?_)
    · skip
      refine lv_aload_n hx hb dX0_trim_14 rfl (lv_at hl 0 rfl) ?_
      refine t_getd E hK hV m0 rfl cf_0_9 dX0_trim_15 ?_
      refine t_len hx hb hK hV m0 rfl rfl dX0_trim_18 ?_
      exact k_19 _ (by omega)
    · skip
      refine lv_iload_n hx hb dX0_trim_10 rfl (lv_at hl 1 rfl) ?_
      refine lv_goto (tgt := 19) hx hb dX0_trim_11 (by decide) ?_
      exact k_19 _ (by omega)
set_option maxHeartbeats 4000000 in
set_option maxRecDepth 100000 in
theorem k0_size {l : Launch} {dC : Nat → ClassId} {dI : Nat → Nat → Nat} {cx : Nat → Nat} {LB : List Nat} {X : va_W} {dd : Nat → Nat} {nn ss : Nat → Int} {ll : Nat → Nat} {gg : Nat → Int → Int} {H0 : Heap} {v : Nat → Int} {h0 : Nat} (m0 : h0 ∈ LB) (hN : cR LB nn ss ll gg v) : Met l yX0_size (Cond.code yX0_size cX0_size 3 (some .int) :: w0c) (cRm 0 0 LB ll) (cPc dC dI cx LB X dd nn ss ll gg H0 [.ref h0]) (cQi dC dI cx LB (va_A (bW (cx 0) LB dd nn ss ll gg X) H0.size) ll H0 (fun z X' dd' nn' ss' ll' gg' => X' = X ∧ dd' = dd ∧ nn' = nn ∧ ss' = ss ∧ ll' = ll ∧ gg' = gg ∧ z = bl (v h0))) (cMc LB ll) (2 * cMc LB ll) (va_A (bW (cx 0) LB dd nn ss ll gg X) H0.size) := by
  refine Met.ofW (cc := cX0_size) (maxL := 3) (ret := (some .int)) (by decide) rfl ?_
  intro p e s m args below meth c s₁ B hml hv
  obtain ⟨rfl, hH0, hP, hK, hD0, hC0⟩ := hv
  have hx := B.exec
  have hb := B.bytes
  have hr := B.returns
  have hts := atoms_spec (ws := Cond.code yX0_size cX0_size 3 (some .int) :: w0c) B.pre
  have hown : s.vm.findClass RX0 = some m.cls := findClass_of_methodNamed B.named
  have hlocks := B.notSynchronized
  have E : CallFix p m c cX0_size 3 s _ (Cond.code yX0_size cX0_size 3 (some .int) :: w0c) RX0 := ⟨hx, hb, hml, hown, hts⟩
  subst hH0
  have hD := va_D.self (sz := s.heap.size) hD0
  have hA : ∀ q : Nat, s.heap.size ≤ q → va_A (bW (cx 0) LB dd nn ss ll gg X) s.heap.size q := fun q h => Or.inr h
  have hV : cV dC dI cx LB (va_A (bW (cx 0) LB dd nn ss ll gg X) s.heap.size) s.heap ll X dd nn ss ll gg s.heap [] := ⟨hP, hD, va_S.rf, fun _ _ => Nat.le_refl _, hC0⟩
  have hR : (headSpec (Cond.code yX0_size cX0_size 3 (some .int) :: w0c) (cRm 0 0 LB ll)).room.cells = cMc LB ll ∧ (headSpec (Cond.code yX0_size cX0_size 3 (some .int) :: w0c) (cRm 0 0 LB ll)).room.slots = 2 * cMc LB ll := ⟨rfl, rfl⟩
  refine W.widen (k := cP LB ll - cP LB ll) (n := 2 * (cP LB ll - cP LB ll)) (Nat.zero_le _) (Nat.zero_le _) ?_
  have hl := lv_entry ([.ref h0]) (n := 3) (Nat.le_of_ble_eq_true rfl)
  rw [lg_entry_eq]
  generalize (lg_sl ([.ref h0]) ++ List.replicate (3 - (lg_sl ([.ref h0])).length) Slot.unset).toArray = ls at hl ⊢
  have hl : lv_has ls 3 [(0, .ref h0)] := hl
  have N0 := hN h0 m0
  obtain ⟨n0_, n1_, k5_, dg_, tp_, sg_, vl_⟩ := hN h0 m0
  have c4_ := (hC0 h0 m0).2
  have sb_ := sg_bd (v h0)
  refine lv_aload_n hx hb dX0_size_0 rfl (lv_at hl 0 rfl) ?_
  refine t_getn E hK hV m0 rfl cf_0_13 dX0_size_1 ?_
  refine g_if_ne (tgt := 9) hx hb ⟨by omega, by omega⟩ dX0_size_4 (by decide) (fun c_4 => ?_) (fun c_4 => ?_)
  · skip
    refine lv_aload_n hx hb dX0_size_9 rfl (lv_at hl 0 rfl) ?_
    refine t_getn E hK hV m0 rfl cf_0_13 dX0_size_10 ?_
    refine lv_iconst (v := Int32.ofInt (1)) hx hb dX0_size_13 (by decide) ?_
    refine g_isub hx hb dX0_size_14 ?_
    refine lv_bipush (v := Int32.ofInt (30)) hx hb dX0_size_15 (by decide) ?_
    refine g_imul hx hb dX0_size_17 ?_
    refine lv_istore_n (lv' := [(1, Iz (((nn h0) - 1) * 30)), (0, .ref h0)]) hx hb dX0_size_18 rfl hl (by decide) rfl (fun ls hl => ?_)
    refine lv_iconst (v := Int32.ofInt (0)) hx hb dX0_size_19 (by decide) ?_
    refine lv_istore_n (lv' := [(2, Iz (0)), (1, Iz (((nn h0) - 1) * 30)), (0, .ref h0)]) hx hb dX0_size_20 rfl hl (by decide) rfl (fun ls hl => ?_)
    refine r_loop (P := fun N_ H locs ls => ∃ bi : Int, ∃ k : Int, N_ = (30 - k).toNat ∧ (0 ≤ k) ∧ (k ≤ 30) ∧ (bi = (nn h0 - 1) * 30 + k) ∧ (k = 0 ∨ gg h0 (nn h0 - 1) / 2 ^ (k - 1).toNat ≠ 0) ∧ cV dC dI cx LB (va_A (bW (cx 0) LB dd nn ss ll gg X) s.heap.size) s.heap ll X dd nn ss ll gg H locs ∧ lv_has ls 3 [(0, .ref h0), (1, Iz (bi)), (2, Iz (k))]) (g := fun ls => F0 m 21 ls []) (fun N_ H locs ls hI ih_21 => ?_) _ _ _ _ ⟨(((nn h0) - 1) * 30), 0, rfl, (Int.le_refl 0), (by omega), (by omega), (Or.inl rfl), hV, lv_sub hl [2, 1, 0] rfl⟩
    obtain ⟨bi, k, rfl, k0, k1, kb, kt, hV, hl⟩ := hI
    refine lv_iload_n hx hb dX0_size_21 rfl (lv_at hl 2 rfl) ?_
    refine lv_bipush (v := Int32.ofInt (30)) hx hb dX0_size_22 (by decide) ?_
    refine g_icmp_ge (tgt := 52) hx hb ⟨by omega, by omega⟩ ⟨by omega, by omega⟩ dX0_size_24 (by decide) (fun c_24 => ?_) (fun c_24 => ?_)
    · skip
      refine lv_iload_n hx hb dX0_size_52 rfl (lv_at hl 1 rfl) ?_
      have hpost : X = X ∧ dd = dd ∧ nn = nn ∧ ss = ss ∧ ll = ll ∧ gg = gg ∧ (bi : Int) = bl (v h0) := ⟨rfl, rfl, rfl, rfl, rfl, rfl, by rw [kb]; exact num1_bits N0 (by omega) k0 k1 kt (by first | exact Or.inr c_40 | exact Or.inl (by omega))⟩
      exact c_iret hx hb hr hK hV hpost dX0_size_53 hlocks
    · skip
      refine lv_aload_n hx hb dX0_size_27 rfl (lv_at hl 0 rfl) ?_
      refine t_getd E hK hV m0 rfl cf_0_9 dX0_size_28 ?_
      refine lv_aload_n hx hb dX0_size_31 rfl (lv_at hl 0 rfl) ?_
      refine t_getn E hK hV m0 rfl cf_0_13 dX0_size_32 ?_
      refine lv_iconst (v := Int32.ofInt (1)) hx hb dX0_size_35 (by decide) ?_
      refine g_isub hx hb dX0_size_36 ?_
      refine t_ald (z := ((nn h0) - 1)) (v := gg h0 ((nn h0) - 1)) hx hb hK hV m0 rfl rfl rfl (by omega) (by omega) dX0_size_37 ?_
      refine lv_iload_n hx hb dX0_size_38 rfl (lv_at hl 2 rfl) ?_
      refine g_iushr hx hb (by have := (dg_ (nn h0 - 1) (by omega) (by omega)).1; omega) (by have := (dg_ (nn h0 - 1) (by omega) (by omega)).2; omega) (by omega) (by omega) dX0_size_39 ?_
      refine g_if_eq (tgt := 52) hx hb (by
            have u := dg_ (nn h0 - 1) (by omega) (by omega)
            have u1 := Int.ediv_nonneg u.1 (Int.le_of_lt (i_p2 k.toNat))
            have u2 := Int.ediv_le_self (2 ^ k.toNat) u.1
            exact ⟨by omega, by omega⟩) dX0_size_40 (by decide) (fun c_40 => ?_) (fun c_40 => ?_)
      · skip
        refine lv_iload_n hx hb dX0_size_52 rfl (lv_at hl 1 rfl) ?_
        have hpost : X = X ∧ dd = dd ∧ nn = nn ∧ ss = ss ∧ ll = ll ∧ gg = gg ∧ (bi : Int) = bl (v h0) := ⟨rfl, rfl, rfl, rfl, rfl, rfl, by rw [kb]; exact num1_bits N0 (by omega) k0 k1 kt (by first | exact Or.inr c_40 | exact Or.inl (by omega))⟩
        exact c_iret hx hb hr hK hV hpost dX0_size_53 hlocks
      · skip
        refine g_iinc (k := 1) (z := bi) (n := (1)) (lv' := [(1, Iz (bi + 1)), (0, .ref h0), (2, Iz (k))]) hx hb dX0_size_43 hl rfl (by decide) rfl (fun ls hl => ?_)
        refine g_iinc (k := 2) (z := k) (n := (1)) (lv' := [(2, Iz (k + 1)), (1, Iz (bi + 1)), (0, .ref h0)]) hx hb dX0_size_46 hl rfl (by decide) rfl (fun ls hl => ?_)
        refine lv_goto (tgt := 21) hx hb dX0_size_49 (by decide) ?_
        exact ih_21 _ (by omega) _ _ _ ⟨(bi + 1), (k + 1), rfl, (by omega), (by omega), (by omega), (Or.inr (by rw [show k + 1 - 1 = k by omega]; exact c_40)), hV, lv_sub hl [2, 1, 0] rfl⟩
  · skip
    refine lv_iconst (v := Int32.ofInt (0)) hx hb dX0_size_7 (by decide) ?_
    have hpost : X = X ∧ dd = dd ∧ nn = nn ∧ ss = ss ∧ ll = ll ∧ gg = gg ∧ (0 : Int) = bl (v h0) := ⟨rfl, rfl, rfl, rfl, rfl, rfl, by have q := num1_zero N0; unfold bl; rw [if_pos (q.mp c_4)]⟩
    exact c_iret hx hb hr hK hV hpost dX0_size_8 hlocks
set_option maxHeartbeats 4000000 in
set_option maxRecDepth 100000 in
theorem k0_against {l : Launch} {dC : Nat → ClassId} {dI : Nat → Nat → Nat} {cx : Nat → Nat} {LB : List Nat} {X : va_W} {dd : Nat → Nat} {nn ss : Nat → Int} {ll : Nat → Nat} {gg : Nat → Int → Int} {H0 : Heap} {v : Nat → Int} {h0 : Nat} {a : Nat} (m0 : h0 ∈ LB) (hN : cR LB nn ss ll gg v) (ma : a ∈ LB) : Met l yX0_against (Cond.code yX0_against cX0_against 3 (some .int) :: w0c) (cRm 0 0 LB ll) (cPc dC dI cx LB X dd nn ss ll gg H0 [.ref h0, .ref a]) (cQi dC dI cx LB (va_A (bW (cx 0) LB dd nn ss ll gg X) H0.size) ll H0 (fun z X' dd' nn' ss' ll' gg' => X' = X ∧ dd' = dd ∧ nn' = nn ∧ ss' = ss ∧ ll' = ll ∧ gg' = gg ∧ z = g_cmp (v h0).natAbs (v a).natAbs)) (cMc LB ll) (2 * cMc LB ll) (va_A (bW (cx 0) LB dd nn ss ll gg X) H0.size) := by
  refine Met.ofW (cc := cX0_against) (maxL := 3) (ret := (some .int)) (by decide) rfl ?_
  intro p e s m args below meth c s₁ B hml hv
  obtain ⟨rfl, hH0, hP, hK, hD0, hC0⟩ := hv
  have hx := B.exec
  have hb := B.bytes
  have hr := B.returns
  have hts := atoms_spec (ws := Cond.code yX0_against cX0_against 3 (some .int) :: w0c) B.pre
  have hown : s.vm.findClass RX0 = some m.cls := findClass_of_methodNamed B.named
  have hlocks := B.notSynchronized
  have E : CallFix p m c cX0_against 3 s _ (Cond.code yX0_against cX0_against 3 (some .int) :: w0c) RX0 := ⟨hx, hb, hml, hown, hts⟩
  subst hH0
  have hD := va_D.self (sz := s.heap.size) hD0
  have hA : ∀ q : Nat, s.heap.size ≤ q → va_A (bW (cx 0) LB dd nn ss ll gg X) s.heap.size q := fun q h => Or.inr h
  have hV : cV dC dI cx LB (va_A (bW (cx 0) LB dd nn ss ll gg X) s.heap.size) s.heap ll X dd nn ss ll gg s.heap [] := ⟨hP, hD, va_S.rf, fun _ _ => Nat.le_refl _, hC0⟩
  have hR : (headSpec (Cond.code yX0_against cX0_against 3 (some .int) :: w0c) (cRm 0 0 LB ll)).room.cells = cMc LB ll ∧ (headSpec (Cond.code yX0_against cX0_against 3 (some .int) :: w0c) (cRm 0 0 LB ll)).room.slots = 2 * cMc LB ll := ⟨rfl, rfl⟩
  refine W.widen (k := cP LB ll - cP LB ll) (n := 2 * (cP LB ll - cP LB ll)) (Nat.zero_le _) (Nat.zero_le _) ?_
  have hl := lv_entry ([.ref h0, .ref a]) (n := 3) (Nat.le_of_ble_eq_true rfl)
  rw [lg_entry_eq]
  generalize (lg_sl ([.ref h0, .ref a]) ++ List.replicate (3 - (lg_sl ([.ref h0, .ref a])).length) Slot.unset).toArray = ls at hl ⊢
  have hl : lv_has ls 3 [(0, .ref h0), (1, .ref a)] := hl
  have N0 := hN h0 m0
  obtain ⟨n0_, n1_, k5_, dg_, tp_, sg_, vl_⟩ := hN h0 m0
  have c4_ := (hC0 h0 m0).2
  have sb_ := sg_bd (v h0)
  have NA := hN a ma
  obtain ⟨n0a, n1a, k5a, dga, tpa, sga, vla⟩ := hN a ma
  have c4a := (hC0 a ma).2
  have sba := sg_bd (v a)
  refine lv_aload_n hx hb dX0_against_0 rfl (lv_at hl 0 rfl) ?_
  refine t_getn E hK hV m0 rfl cf_0_13 dX0_against_1 ?_
  refine lv_aload_n hx hb dX0_against_4 rfl (lv_at hl 1 rfl) ?_
  refine t_getn E hK hV ma rfl cf_0_13 dX0_against_5 ?_
  refine g_icmp_eq (tgt := 28) hx hb ⟨by omega, by omega⟩ ⟨by omega, by omega⟩ dX0_against_8 (by decide) (fun c_8 => ?_) (fun c_8 => ?_)
  · skip
    refine lv_aload_n hx hb dX0_against_28 rfl (lv_at hl 0 rfl) ?_
    refine t_getn E hK hV m0 rfl cf_0_13 dX0_against_29 ?_
    refine lv_iconst (v := Int32.ofInt (1)) hx hb dX0_against_32 (by decide) ?_
    refine g_isub hx hb dX0_against_33 ?_
    refine lv_istore_n (lv' := [(2, Iz ((nn h0) - 1)), (0, .ref h0), (1, .ref a)]) hx hb dX0_against_34 rfl hl (by decide) rfl (fun ls hl => ?_)
    refine r_loop (P := fun N_ H locs ls => ∃ i : Int, N_ = (i + 1).toNat ∧ (-1 ≤ i) ∧ (i < nn h0) ∧ (∀ j : Int, i < j → j < nn h0 → gg h0 j = gg a j) ∧ cV dC dI cx LB (va_A (bW (cx 0) LB dd nn ss ll gg X) s.heap.size) s.heap ll X dd nn ss ll gg H locs ∧ lv_has ls 3 [(0, .ref h0), (1, .ref a), (2, Iz (i))]) (g := fun ls => F0 m 35 ls []) (fun N_ H locs ls hI ih_35 => ?_) _ _ _ _ ⟨((nn h0) - 1), rfl, (by omega), (by omega), (fun j p q => by omega), hV, lv_sub hl [1, 2, 0] rfl⟩
    obtain ⟨i, rfl, i0, i1, ie, hV, hl⟩ := hI
    refine lv_iload_n hx hb dX0_against_35 rfl (lv_at hl 2 rfl) ?_
    refine g_if_lt (tgt := 81) hx hb ⟨by omega, by omega⟩ dX0_against_36 (by decide) (fun c_36 => ?_) (fun c_36 => ?_)
    · skip
      refine lv_iconst (v := Int32.ofInt (0)) hx hb dX0_against_81 (by decide) ?_
      have hpost : X = X ∧ dd = dd ∧ nn = nn ∧ ss = ss ∧ ll = ll ∧ gg = gg ∧ (0 : Int) = g_cmp (v h0).natAbs (v a).natAbs := ⟨rfl, rfl, rfl, rfl, rfl, rfl, by rw [num1_same N0 NA (by omega) (fun j p q => ie j (by omega) (by omega)), g_cmp_self]⟩
      exact c_iret hx hb hr hK hV hpost dX0_against_82 hlocks
    · skip
      refine lv_aload_n hx hb dX0_against_39 rfl (lv_at hl 0 rfl) ?_
      refine t_getd E hK hV m0 rfl cf_0_9 dX0_against_40 ?_
      refine lv_iload_n hx hb dX0_against_43 rfl (lv_at hl 2 rfl) ?_
      refine t_ald (z := i) (v := gg h0 i) hx hb hK hV m0 rfl rfl rfl (by omega) (by omega) dX0_against_44 ?_
      refine lv_aload_n hx hb dX0_against_45 rfl (lv_at hl 1 rfl) ?_
      refine t_getd E hK hV ma rfl cf_0_9 dX0_against_46 ?_
      refine lv_iload_n hx hb dX0_against_49 rfl (lv_at hl 2 rfl) ?_
      refine t_ald (z := i) (v := gg a i) hx hb hK hV ma rfl rfl rfl (by omega) (by omega) dX0_against_50 ?_
      refine g_icmp_eq (tgt := 75) hx hb ⟨by have := (dg_ i (by omega) (by omega)).1; omega, by have := (dg_ i (by omega) (by omega)).2; omega⟩ ⟨by have := (dga i (by omega) (by omega)).1; omega, by have := (dga i (by omega) (by omega)).2; omega⟩ dX0_against_51 (by decide) (fun c_51 => ?_) (fun c_51 => ?_)
      · skip
        refine g_iinc (k := 2) (z := i) (n := (-1)) (lv' := [(2, Iz (i + (-1))), (0, .ref h0), (1, .ref a)]) hx hb dX0_against_75 hl rfl (by decide) rfl (fun ls hl => ?_)
        refine lv_goto (tgt := 35) hx hb dX0_against_78 (by decide) ?_
        exact ih_35 _ (by omega) _ _ _ ⟨(i + (-1)), rfl, (by omega), (by omega), (fun j p q => by rcases Int.lt_or_le i j with w | w; (· exact ie j w q); (· rw [show j = i by omega]; exact c_51)), hV, lv_sub hl [1, 2, 0] rfl⟩
      · skip
        refine lv_aload_n hx hb dX0_against_54 rfl (lv_at hl 0 rfl) ?_
        refine t_getd E hK hV m0 rfl cf_0_9 dX0_against_55 ?_
        refine lv_iload_n hx hb dX0_against_58 rfl (lv_at hl 2 rfl) ?_
        refine t_ald (z := i) (v := gg h0 i) hx hb hK hV m0 rfl rfl rfl (by omega) (by omega) dX0_against_59 ?_
        refine lv_aload_n hx hb dX0_against_60 rfl (lv_at hl 1 rfl) ?_
        refine t_getd E hK hV ma rfl cf_0_9 dX0_against_61 ?_
        refine lv_iload_n hx hb dX0_against_64 rfl (lv_at hl 2 rfl) ?_
        refine t_ald (z := i) (v := gg a i) hx hb hK hV ma rfl rfl rfl (by omega) (by omega) dX0_against_65 ?_
        refine g_icmp_ge (tgt := 73) hx hb ⟨by have := (dg_ i (by omega) (by omega)).1; omega, by have := (dg_ i (by omega) (by omega)).2; omega⟩ ⟨by have := (dga i (by omega) (by omega)).1; omega, by have := (dga i (by omega) (by omega)).2; omega⟩ dX0_against_66 (by decide) (fun c_66 => ?_) (fun c_66 => ?_)
        · skip
          refine lv_iconst (v := Int32.ofInt (1)) hx hb dX0_against_73 (by decide) ?_
          have hpost : X = X ∧ dd = dd ∧ nn = nn ∧ ss = ss ∧ ll = ll ∧ gg = gg ∧ (1 : Int) = g_cmp (v h0).natAbs (v a).natAbs := ⟨rfl, rfl, rfl, rfl, rfl, rfl, by
                first
                | exact (g_cmp_of_lt (num1_digit_lt N0 NA (by omega) (by omega) (by omega) ie (by omega))).symm
                | exact (g_cmp_of_gt (num1_digit_lt NA N0 (by omega) (by omega) (by omega) (fun j p q => (ie j p (by omega)).symm) (by omega))).symm⟩
          exact c_iret hx hb hr hK hV hpost dX0_against_74 hlocks
        · skip
          refine lv_iconst (v := Int32.ofInt (-1)) hx hb dX0_against_69 (by decide) ?_
          refine lv_goto (tgt := 74) hx hb dX0_against_70 (by decide) ?_
          have hpost : X = X ∧ dd = dd ∧ nn = nn ∧ ss = ss ∧ ll = ll ∧ gg = gg ∧ ((-1) : Int) = g_cmp (v h0).natAbs (v a).natAbs := ⟨rfl, rfl, rfl, rfl, rfl, rfl, by
                first
                | exact (g_cmp_of_lt (num1_digit_lt N0 NA (by omega) (by omega) (by omega) ie (by omega))).symm
                | exact (g_cmp_of_gt (num1_digit_lt NA N0 (by omega) (by omega) (by omega) (fun j p q => (ie j p (by omega)).symm) (by omega))).symm⟩
          exact c_iret hx hb hr hK hV hpost dX0_against_74 hlocks
  · skip
    refine lv_aload_n hx hb dX0_against_11 rfl (lv_at hl 0 rfl) ?_
    refine t_getn E hK hV m0 rfl cf_0_13 dX0_against_12 ?_
    refine lv_aload_n hx hb dX0_against_15 rfl (lv_at hl 1 rfl) ?_
    refine t_getn E hK hV ma rfl cf_0_13 dX0_against_16 ?_
    refine g_icmp_ge (tgt := 26) hx hb ⟨by omega, by omega⟩ ⟨by omega, by omega⟩ dX0_against_19 (by decide) (fun c_19 => ?_) (fun c_19 => ?_)
    · skip
      refine lv_iconst (v := Int32.ofInt (1)) hx hb dX0_against_26 (by decide) ?_
      have hpost : X = X ∧ dd = dd ∧ nn = nn ∧ ss = ss ∧ ll = ll ∧ gg = gg ∧ (1 : Int) = g_cmp (v h0).natAbs (v a).natAbs := ⟨rfl, rfl, rfl, rfl, rfl, rfl, by
            first
            | exact (g_cmp_of_lt (num1_size_lt N0 NA (by omega))).symm
            | exact (g_cmp_of_gt (num1_size_lt NA N0 (by omega))).symm⟩
      exact c_iret hx hb hr hK hV hpost dX0_against_27 hlocks
    · skip
      refine lv_iconst (v := Int32.ofInt (-1)) hx hb dX0_against_22 (by decide) ?_
      refine lv_goto (tgt := 27) hx hb dX0_against_23 (by decide) ?_
      have hpost : X = X ∧ dd = dd ∧ nn = nn ∧ ss = ss ∧ ll = ll ∧ gg = gg ∧ ((-1) : Int) = g_cmp (v h0).natAbs (v a).natAbs := ⟨rfl, rfl, rfl, rfl, rfl, rfl, by
            first
            | exact (g_cmp_of_lt (num1_size_lt N0 NA (by omega))).symm
            | exact (g_cmp_of_gt (num1_size_lt NA N0 (by omega))).symm⟩
      exact c_iret hx hb hr hK hV hpost dX0_against_27 hlocks
