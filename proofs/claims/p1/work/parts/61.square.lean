/-- square() from k on -/
def sqf : Nat → Int → Int → Int → Int
  | 0, _, _, so => so
  | f + 1, k, n, so => if n < k then so else if n % k = 0 then (if n / k % k = 0 then 0 else sqf f (k + 1) (n / k) (-so)) else sqf f (k + 1) n so
set_option maxHeartbeats 4000000 in
set_option maxRecDepth 100000 in
theorem k2_square {l : Launch} {dC : Nat → ClassId} {dI : Nat → Nat → Nat} {cx : Nat → Nat} {LB : List Nat} {X : va_W} {dd : Nat → Nat} {nn ss : Nat → Int} {ll : Nat → Nat} {gg : Nat → Int → Int} {H0 : Heap} {na : Int} (a0 : 1 ≤ na) (a1 : na ≤ 999) : Met l yX2_square (Cond.code yX2_square cX2_square 3 (some .int) :: w0c) (cRm 0 0 LB ll) (cPc dC dI cx LB X dd nn ss ll gg H0 [Iz (na)]) (cQi dC dI cx LB (va_A (bW (cx 0) LB dd nn ss ll gg X) H0.size) ll H0 (fun z X' dd' nn' ss' ll' gg' => X' = X ∧ dd' = dd ∧ nn' = nn ∧ ss' = ss ∧ ll' = ll ∧ gg' = gg ∧ z = sqf 999 2 na 1)) (cMc LB ll) (2 * cMc LB ll) (va_A (bW (cx 0) LB dd nn ss ll gg X) H0.size) := by
  refine Met.ofW (cc := cX2_square) (maxL := 3) (ret := (some .int)) (by decide) rfl ?_
  intro p e s m args below meth c s₁ B hml hv
  obtain ⟨rfl, hH0, hP, hK, hD0, hC0⟩ := hv
  have hx := B.exec
  have hb := B.bytes
  have hr := B.returns
  have hts := atoms_spec (ws := Cond.code yX2_square cX2_square 3 (some .int) :: w0c) B.pre
  have hown : s.vm.findClass RX2 = some m.cls := findClass_of_methodNamed B.named
  have hlocks := B.notSynchronized
  have E : CallFix p m c cX2_square 3 s _ (Cond.code yX2_square cX2_square 3 (some .int) :: w0c) RX2 := ⟨hx, hb, hml, hown, hts⟩
  subst hH0
  have hD := va_D.self (sz := s.heap.size) hD0
  have hA : ∀ q : Nat, s.heap.size ≤ q → va_A (bW (cx 0) LB dd nn ss ll gg X) s.heap.size q := fun q h => Or.inr h
  have hV : cV dC dI cx LB (va_A (bW (cx 0) LB dd nn ss ll gg X) s.heap.size) s.heap ll X dd nn ss ll gg s.heap [] := ⟨hP, hD, va_S.rf, fun _ _ => Nat.le_refl _, hC0⟩
  have hR : (headSpec (Cond.code yX2_square cX2_square 3 (some .int) :: w0c) (cRm 0 0 LB ll)).room.cells = cMc LB ll ∧ (headSpec (Cond.code yX2_square cX2_square 3 (some .int) :: w0c) (cRm 0 0 LB ll)).room.slots = 2 * cMc LB ll := ⟨rfl, rfl⟩
  refine W.widen (k := cP LB ll - cP LB ll) (n := 2 * (cP LB ll - cP LB ll)) (Nat.zero_le _) (Nat.zero_le _) ?_
  have hl := lv_entry ([Iz (na)]) (n := 3) (Nat.le_of_ble_eq_true rfl)
  rw [lg_entry_eq]
  generalize (lg_sl ([Iz (na)]) ++ List.replicate (3 - (lg_sl ([Iz (na)])).length) Slot.unset).toArray = ls at hl ⊢
  have hl : lv_has ls 3 [(0, Iz (na))] := hl
  refine lv_iconst (v := Int32.ofInt (1)) hx hb dX2_square_0 (by decide) ?_
  refine lv_istore_n (lv' := [(1, Iz (1)), (0, Iz (na))]) hx hb dX2_square_1 rfl hl (by decide) rfl (fun ls hl => ?_)
  refine lv_iconst (v := Int32.ofInt (2)) hx hb dX2_square_2 (by decide) ?_
  refine lv_istore_n (lv' := [(2, Iz (2)), (1, Iz (1)), (0, Iz (na))]) hx hb dX2_square_3 rfl hl (by decide) rfl (fun ls hl => ?_)
  refine r_loop (P := fun N_ H locs ls => ∃ so : Int, ∃ k : Int, ∃ nv : Int, N_ = (1001 - k).toNat ∧ (2 ≤ k) ∧ (k ≤ 1000) ∧ (0 ≤ nv) ∧ (nv ≤ 999) ∧ (-1 ≤ so) ∧ (so ≤ 1) ∧ (sqf (1001 - k).toNat k nv so = sqf 999 2 na 1) ∧ cV dC dI cx LB (va_A (bW (cx 0) LB dd nn ss ll gg X) s.heap.size) s.heap ll X dd nn ss ll gg H locs ∧ lv_has ls 3 [(0, Iz (nv)), (1, Iz (so)), (2, Iz (k))]) (g := fun ls => F0 m 4 ls []) (fun N_ H locs ls hI ih_4 => ?_) _ _ _ _ ⟨1, 2, na, rfl, (by omega), (by omega), (by omega), (by omega), (by omega), (by omega), (rfl), hV, lv_sub hl [2, 1, 0] rfl⟩
  obtain ⟨so, k, nv, rfl, k0, k1, v0, v1, s0, s1, eq_, hV, hl⟩ := hI
  refine lv_iload_n hx hb dX2_square_4 rfl (lv_at hl 2 rfl) ?_
  refine lv_iload_n hx hb dX2_square_5 rfl (lv_at hl 0 rfl) ?_
  refine g_icmp_gt (tgt := 39) hx hb ⟨by omega, by omega⟩ ⟨by omega, by omega⟩ dX2_square_6 (by decide) (fun c_6 => ?_) (fun c_6 => ?_)
  · skip
    refine lv_iload_n hx hb dX2_square_39 rfl (lv_at hl 1 rfl) ?_
    have hpost : X = X ∧ dd = dd ∧ nn = nn ∧ ss = ss ∧ ll = ll ∧ gg = gg ∧ (so : Int) = sqf 999 2 na 1 := ⟨rfl, rfl, rfl, rfl, rfl, rfl, by rw [← eq_, show (1001 - k).toNat = (1001 - (k + 1)).toNat + 1 by omega]; show _ = (if nv < k then so else if nv % k = 0 then (if nv / k % k = 0 then 0 else sqf (1001 - (k + 1)).toNat (k + 1) (nv / k) (-so)) else sqf (1001 - (k + 1)).toNat (k + 1) nv so); rw [if_pos (by omega)]⟩
    exact c_iret hx hb hr hK hV hpost dX2_square_40 hlocks
  · skip
    have m0_ := Int.emod_nonneg nv (show k ≠ 0 by omega)
    have m1_ := Int.emod_lt_of_pos nv (show 0 < k by omega)
    refine lv_iload_n hx hb dX2_square_9 rfl (lv_at hl 0 rfl) ?_
    refine lv_iload_n hx hb dX2_square_10 rfl (lv_at hl 2 rfl) ?_
    refine g_irem hx hb (by omega) (by omega) (by omega) (by omega) dX2_square_11 ?_
    refine g_if_eq (tgt := 18) hx hb (by first | assumption | exact ⟨by omega, by omega⟩) dX2_square_12 (by decide) (fun c_12 => ?_) (fun c_12 => ?_)
    · skip
      refine lv_iload_n hx hb dX2_square_18 rfl (lv_at hl 0 rfl) ?_
      refine lv_iload_n hx hb dX2_square_19 rfl (lv_at hl 2 rfl) ?_
      refine g_idiv hx hb (by omega) (by omega) (by omega) (by omega) dX2_square_20 ?_
      refine lv_istore_n (lv' := [(0, Iz (nv / k)), (1, Iz (so)), (2, Iz (k))]) hx hb dX2_square_21 rfl hl (by decide) rfl (fun ls hl => ?_)
      have q0 := Int.ediv_nonneg (show 0 ≤ nv by omega) (show 0 ≤ k by omega)
      have q1 := Int.ediv_le_self k (show 0 ≤ nv by omega)
      refine lv_iload_n hx hb dX2_square_22 rfl (lv_at hl 0 rfl) ?_
      refine lv_iload_n hx hb dX2_square_23 rfl (lv_at hl 2 rfl) ?_
      refine g_irem hx hb (by omega) (by omega) (by omega) (by omega) dX2_square_24 ?_
      have m2_ := Int.emod_nonneg (nv / k) (show k ≠ 0 by omega)
      have m3_ := Int.emod_lt_of_pos (nv / k) (show 0 < k by omega)
      refine g_if_ne (tgt := 30) hx hb (by first | assumption | exact ⟨by omega, by omega⟩) dX2_square_25 (by decide) (fun c_25 => ?_) (fun c_25 => ?_)
      · skip
        refine lv_iload_n hx hb dX2_square_30 rfl (lv_at hl 1 rfl) ?_
        refine g_ineg hx hb dX2_square_31 ?_
        refine lv_istore_n (lv' := [(1, Iz (-so)), (0, Iz (nv / k)), (2, Iz (k))]) hx hb dX2_square_32 rfl hl (by decide) rfl (fun ls hl => ?_)
        refine g_iinc (k := 2) (z := k) (n := (1)) (lv' := [(2, Iz (k + 1)), (1, Iz (-so)), (0, Iz (nv / k))]) hx hb dX2_square_33 hl rfl (by decide) rfl (fun ls hl => ?_)
        refine lv_goto (tgt := 4) hx hb dX2_square_36 (by decide) ?_
        exact ih_4 _ (by omega) _ _ _ ⟨(-so), (k + 1), (nv / k), rfl, (by omega), (by omega), (by omega), (by omega), (by omega), (by omega), (by rw [← eq_, show (1001 - k).toNat = (1001 - (k + 1)).toNat + 1 by omega]; show _ = (if nv < k then so else if nv % k = 0 then (if nv / k % k = 0 then 0 else sqf (1001 - (k + 1)).toNat (k + 1) (nv / k) (-so)) else sqf (1001 - (k + 1)).toNat (k + 1) nv so); first | (rw [if_neg (by omega), if_neg (by omega)]; done) | (rw [if_neg (by omega), if_pos (by omega), if_neg (by omega)]; done)), hV, lv_sub hl [2, 1, 0] rfl⟩
      · skip
        refine lv_iconst (v := Int32.ofInt (0)) hx hb dX2_square_28 (by decide) ?_
        have hpost : X = X ∧ dd = dd ∧ nn = nn ∧ ss = ss ∧ ll = ll ∧ gg = gg ∧ (0 : Int) = sqf 999 2 na 1 := ⟨rfl, rfl, rfl, rfl, rfl, rfl, by rw [← eq_, show (1001 - k).toNat = (1001 - (k + 1)).toNat + 1 by omega]; show _ = (if nv < k then so else if nv % k = 0 then (if nv / k % k = 0 then 0 else sqf (1001 - (k + 1)).toNat (k + 1) (nv / k) (-so)) else sqf (1001 - (k + 1)).toNat (k + 1) nv so); rw [if_neg (by omega), if_pos (by omega), if_pos (by omega)]⟩
        exact c_iret hx hb hr hK hV hpost dX2_square_29 hlocks
    · skip
      refine lv_goto (tgt := 33) hx hb dX2_square_15 (by decide) ?_
      refine g_iinc (k := 2) (z := k) (n := (1)) (lv' := [(2, Iz (k + 1)), (0, Iz (nv)), (1, Iz (so))]) hx hb dX2_square_33 hl rfl (by decide) rfl (fun ls hl => ?_)
      refine lv_goto (tgt := 4) hx hb dX2_square_36 (by decide) ?_
      exact ih_4 _ (by omega) _ _ _ ⟨so, (k + 1), nv, rfl, (by omega), (by omega), (by omega), (by omega), (by omega), (by omega), (by rw [← eq_, show (1001 - k).toNat = (1001 - (k + 1)).toNat + 1 by omega]; show _ = (if nv < k then so else if nv % k = 0 then (if nv / k % k = 0 then 0 else sqf (1001 - (k + 1)).toNat (k + 1) (nv / k) (-so)) else sqf (1001 - (k + 1)).toNat (k + 1) nv so); first | (rw [if_neg (by omega), if_neg (by omega)]; done) | (rw [if_neg (by omega), if_pos (by omega), if_neg (by omega)]; done)), hV, lv_sub hl [1, 2, 0] rfl⟩
