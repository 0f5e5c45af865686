theorem gcs {x y i K : Int} (hx : 0 ≤ x) (hy : 0 < y) (hi : 0 ≤ i) (hb : y * y ≤ K) (h : i = 0 ∨ (y < x ∧ x * y * 2 ^ (i - 1).toNat ≤ K)) : x % y < y ∧ y * (x % y) * 2 ^ (i + 1 - 1).toNat ≤ K := by
  have r0 := Int.emod_nonneg x (Int.ne_of_gt hy)
  have r1 := Int.emod_lt_of_pos x hy
  refine ⟨r1, ?_⟩
  rcases h with h | ⟨h1, h2⟩
  · subst h
    rw [show (0 + 1 - 1 : Int).toNat = 0 from rfl, Int.pow_zero, Int.mul_one]
    exact Int.le_trans (Int.mul_le_mul_of_nonneg_left (Int.le_of_lt r1) (Int.le_of_lt hy)) hb
  · by_cases w : i = 0
    · subst w
      rw [show (0 + 1 - 1 : Int).toNat = 0 from rfl, Int.pow_zero, Int.mul_one]
      exact Int.le_trans (Int.mul_le_mul_of_nonneg_left (Int.le_of_lt r1) (Int.le_of_lt hy)) hb
    · have q1 : 1 ≤ x / y := Int.le_ediv_of_mul_le hy (by omega)
      have e := Int.emod_add_mul_ediv x y
      have q2 := Int.mul_le_mul_of_nonneg_left q1 (Int.le_of_lt hy)
      have e2 : 2 * (x % y) ≤ x := by omega
      rw [show (i + 1 - 1).toNat = (i - 1).toNat + 1 by omega, Int.pow_succ]
      have p : (0 : Int) ≤ 2 ^ (i - 1).toNat := Int.le_of_lt (Int.pow_pos (by omega))
      have f := Int.mul_le_mul_of_nonneg_right (Int.mul_le_mul_of_nonneg_left e2 (Int.le_of_lt hy)) p
      rw [show y * (x % y) * (2 ^ (i - 1).toNat * 2) = y * (2 * (x % y)) * 2 ^ (i - 1).toNat by rw [Int.mul_left_comm y 2, Int.mul_comm _ (2 : Int), ← Int.mul_assoc, Int.mul_comm _ (2 : Int), ← Int.mul_assoc]]
      exact Int.le_trans f (by rw [Int.mul_comm y x]; exact h2)
theorem gce {x y K : Int} {n : Nat} (hy : 0 ≤ y) (h : y < x ∧ x * y * 2 ^ n ≤ K) (hK : K < 2 ^ n) : y = 0 := by
  apply Classical.byContradiction
  intro w
  have q : 0 < x * y := Int.mul_pos (by omega) (by omega)
  have p : (0 : Int) ≤ 2 ^ n := Int.le_of_lt (Int.pow_pos (by omega))
  have f := Int.mul_le_mul_of_nonneg_right (show 1 ≤ x * y by omega) p
  rw [Int.one_mul] at f
  omega
theorem gcz {x y i K : Int} (n : Nat) (hy : 0 ≤ y) (h : i = 0 ∨ (y < x ∧ x * y * 2 ^ (i - 1).toNat ≤ K)) (hi : i = (n : Int) + 1) (hK : K < 2 ^ n) : y = 0 := by
  subst hi
  rw [show ((n : Int) + 1 - 1).toNat = n by omega] at h
  exact gce hy (h.resolve_left (by omega)) hK
def gd (x y : Int) : Nat := Nat.gcd x.toNat y.toNat
theorem gd_st {x y : Int} (hx : 0 ≤ x) (hy : 0 < y) : gd y (x % y) = gd x y := by
  unfold gd
  rw [Int.toNat_emod hx (Int.le_of_lt hy), Nat.gcd_comm x.toNat y.toNat, Nat.gcd_rec y.toNat x.toNat, Nat.gcd_comm]
theorem gd_0 {x y : Int} (hx : 0 ≤ x) (hy : y = 0) : ((gd x y : Nat) : Int) = x := by
  subst hy
  unfold gd
  rw [show (0 : Int).toNat = 0 from rfl, Nat.gcd_zero_right]
  omega
/-- how many of 1 .. k share nothing with d -/
def unN (d : Int) : Nat → Int
  | 0 => 0
  | k + 1 => unN d k + if gd ((k : Int) + 1) d = 1 then 1 else 0
theorem unN_bd (d : Int) : ∀ k : Nat, 0 ≤ unN d k ∧ unN d k ≤ k
  | 0 => ⟨Int.le_refl 0, Int.le_refl 0⟩
  | k + 1 => by
      have h := unN_bd d k
      unfold unN
      split <;> omega
set_option maxHeartbeats 4000000 in
set_option maxRecDepth 100000 in
theorem k6_shared {l : Launch} {dC : Nat → ClassId} {dI : Nat → Nat → Nat} {cx : Nat → Nat} {LB : List Nat} {X : va_W} {dd : Nat → Nat} {nn ss : Nat → Int} {ll : Nat → Nat} {gg : Nat → Int → Int} {H0 : Heap} {xa ya : Int} (x0 : 0 ≤ xa) (x1 : xa < 1073741824) (y0 : 0 ≤ ya) (y1 : ya < 1073741824) : Met l yX6_shared (Cond.code yX6_shared cX6_shared 4 (some .int) :: w0c) (cRm 1 23 LB ll) (cPc dC dI cx LB X dd nn ss ll gg H0 [Iz (xa), Iz (ya)]) (cQi dC dI cx LB (va_A (bW (cx 0) LB dd nn ss ll gg X) H0.size) ll H0 (fun z X' dd' nn' ss' ll' gg' => X' = X ∧ dd' = dd ∧ nn' = nn ∧ ss' = ss ∧ ll' = ll ∧ gg' = gg ∧ z = ((gd xa ya : Nat) : Int))) (cMc LB ll) (2 * cMc LB ll) (va_A (bW (cx 0) LB dd nn ss ll gg X) H0.size) := by
  refine Met.ofW (cc := cX6_shared) (maxL := 4) (ret := (some .int)) (by decide) rfl ?_
  intro p e s m args below meth c s₁ B hml hv
  obtain ⟨rfl, hH0, hP, hK, hD0, hC0⟩ := hv
  have hx := B.exec
  have hb := B.bytes
  have hr := B.returns
  have hts := atoms_spec (ws := Cond.code yX6_shared cX6_shared 4 (some .int) :: w0c) B.pre
  have hown : s.vm.findClass RX6 = some m.cls := findClass_of_methodNamed B.named
  have hlocks := B.notSynchronized
  have E : CallFix p m c cX6_shared 4 s _ (Cond.code yX6_shared cX6_shared 4 (some .int) :: w0c) RX6 := ⟨hx, hb, hml, hown, hts⟩
  subst hH0
  have hD := va_D.self (sz := s.heap.size) hD0
  have hA : ∀ q : Nat, s.heap.size ≤ q → va_A (bW (cx 0) LB dd nn ss ll gg X) s.heap.size q := fun q h => Or.inr h
  have hV : cV dC dI cx LB (va_A (bW (cx 0) LB dd nn ss ll gg X) s.heap.size) s.heap ll X dd nn ss ll gg s.heap [] := ⟨hP, hD, va_S.rf, fun _ _ => Nat.le_refl _, hC0⟩
  have hR : (headSpec (Cond.code yX6_shared cX6_shared 4 (some .int) :: w0c) (cRm 1 23 LB ll)).room.cells = cMc LB ll ∧ (headSpec (Cond.code yX6_shared cX6_shared 4 (some .int) :: w0c) (cRm 1 23 LB ll)).room.slots = 2 * cMc LB ll := ⟨rfl, rfl⟩
  refine W.widen (k := cP LB ll - cP LB ll) (n := 2 * (cP LB ll - cP LB ll)) (Nat.zero_le _) (Nat.zero_le _) ?_
  have hl := lv_entry ([Iz (xa), Iz (ya)]) (n := 4) (Nat.le_of_ble_eq_true rfl)
  rw [lg_entry_eq]
  generalize (lg_sl ([Iz (xa), Iz (ya)]) ++ List.replicate (4 - (lg_sl ([Iz (xa), Iz (ya)])).length) Slot.unset).toArray = ls at hl ⊢
  have hl : lv_has ls 4 [(0, Iz (xa)), (1, Iz (ya))] := hl
  refine lv_iconst (v := Int32.ofInt (0)) hx hb dX6_shared_0 (by decide) ?_
  refine lv_istore_n (lv' := [(2, Iz (0)), (0, Iz (xa)), (1, Iz (ya))]) hx hb dX6_shared_1 rfl hl (by decide) rfl (fun ls hl => ?_)
  refine r_loop (P := fun N_ H locs ls => ∃ i : Int, ∃ x : Int, ∃ y : Int, N_ = (101 - i).toNat ∧ (0 ≤ i) ∧ (i ≤ 100) ∧ (0 ≤ x) ∧ (x < 1073741824) ∧ (0 ≤ y) ∧ (y < 1073741824) ∧ (gd x y = gd xa ya) ∧ (i = 0 ∨ (y < x ∧ x * y * 2 ^ (i - 1).toNat ≤ 1073741824 * 1073741824)) ∧ cV dC dI cx LB (va_A (bW (cx 0) LB dd nn ss ll gg X) s.heap.size) s.heap ll X dd nn ss ll gg H locs ∧ lv_has ls 4 [(0, Iz (x)), (1, Iz (y)), (2, Iz (i))]) (g := fun ls => F0 m 2 ls []) (fun N_ H locs ls hI ih_2 => ?_) _ _ _ _ ⟨0, xa, ya, rfl, (Int.le_refl 0), (by omega), (x0), (x1), (y0), (y1), (rfl), (Or.inl rfl), hV, lv_sub hl [1, 2, 0] rfl⟩
  obtain ⟨i, x, y, rfl, i0, i1, xx0, xx1, yy0, yy1, eg, kk_, hV, hl⟩ := hI
  refine lv_iload_n hx hb dX6_shared_2 rfl (lv_at hl 2 rfl) ?_
  refine lv_bipush (v := Int32.ofInt (100)) hx hb dX6_shared_3 (by decide) ?_
  refine g_icmp_ge (tgt := 26) hx hb (by first | assumption | exact ⟨by omega, by omega⟩) (by first | assumption | exact ⟨by omega, by omega⟩) dX6_shared_5 (by decide) (fun c_5 => ?_) (fun c_5 => ?_)
  · skip
    have yz : y = 0 := by first | omega | exact gcz 99 yy0 kk_ (by omega) (by decide)
    refine lv_iload_n hx hb dX6_shared_26 rfl (lv_at hl 0 rfl) ?_
    refine g_abs E hl.1 cl_X6_17 (Nat.le_of_ble_eq_true rfl) (Nat.le_of_ble_eq_true rfl) (c_room hV hR).1 (c_room hV hR).2 (by first | assumption | exact ⟨by omega, by omega⟩) dX6_shared_27 ?_
    have hpost : X = X ∧ dd = dd ∧ nn = nn ∧ ss = ss ∧ ll = ll ∧ gg = gg ∧ (if 0 ≤ x then x else 0 - x : Int) = ((gd xa ya : Nat) : Int) := ⟨rfl, rfl, rfl, rfl, rfl, rfl, by rw [if_pos xx0, ← eg]; exact (gd_0 xx0 yz).symm⟩
    exact c_iret hx hb hr hK hV hpost dX6_shared_30 hlocks
  · skip
    refine lv_iload_n hx hb dX6_shared_8 rfl (lv_at hl 1 rfl) ?_
    refine g_if_eq (tgt := 26) hx hb (by first | assumption | exact ⟨by omega, by omega⟩) dX6_shared_9 (by decide) (fun c_9 => ?_) (fun c_9 => ?_)
    · skip
      have yz : y = 0 := by first | omega | exact gcz 99 yy0 kk_ (by omega) (by decide)
      refine lv_iload_n hx hb dX6_shared_26 rfl (lv_at hl 0 rfl) ?_
      refine g_abs E hl.1 cl_X6_17 (Nat.le_of_ble_eq_true rfl) (Nat.le_of_ble_eq_true rfl) (c_room hV hR).1 (c_room hV hR).2 (by first | assumption | exact ⟨by omega, by omega⟩) dX6_shared_27 ?_
      have hpost : X = X ∧ dd = dd ∧ nn = nn ∧ ss = ss ∧ ll = ll ∧ gg = gg ∧ (if 0 ≤ x then x else 0 - x : Int) = ((gd xa ya : Nat) : Int) := ⟨rfl, rfl, rfl, rfl, rfl, rfl, by rw [if_pos xx0, ← eg]; exact (gd_0 xx0 yz).symm⟩
      exact c_iret hx hb hr hK hV hpost dX6_shared_30 hlocks
    · skip
      refine lv_iload_n hx hb dX6_shared_12 rfl (lv_at hl 0 rfl) ?_
      refine lv_iload_n hx hb dX6_shared_13 rfl (lv_at hl 1 rfl) ?_
      refine g_irem hx hb (by omega) (by omega) (by omega) (by omega) dX6_shared_14 ?_
      refine lv_istore_n (lv' := [(3, Iz (x % y)), (0, Iz (x)), (1, Iz (y)), (2, Iz (i))]) hx hb dX6_shared_15 rfl hl (by decide) rfl (fun ls hl => ?_)
      refine lv_iload_n hx hb dX6_shared_16 rfl (lv_at hl 2 rfl) ?_
      refine lv_istore_n (lv' := [(0, Iz (y)), (3, Iz (x % y)), (1, Iz (y)), (2, Iz (i))]) hx hb dX6_shared_17 rfl hl (by decide) rfl (fun ls hl => ?_)
      refine lv_iload_n hx hb dX6_shared_18 rfl (lv_at hl 1 rfl) ?_
      refine lv_istore_n (lv' := [(1, Iz (x % y)), (0, Iz (y)), (3, Iz (x % y)), (2, Iz (i))]) hx hb dX6_shared_19 rfl hl (by decide) rfl (fun ls hl => ?_)
      refine g_iinc (k := 3) (z := i) (n := (1)) (lv' := [(2, Iz (i + 1)), (1, Iz (x % y)), (0, Iz (y)), (3, Iz (x % y))]) hx hb dX6_shared_20 hl rfl (by decide) rfl (fun ls hl => ?_)
      refine lv_goto (tgt := 2) hx hb dX6_shared_23 (by decide) ?_
      exact ih_2 _ (by omega) _ _ _ ⟨(i + 1), y, (x % y), rfl, (by omega), (by omega), (by omega), (by omega), (Int.emod_nonneg x (by omega)), (by have := Int.emod_lt_of_pos x (show 0 < y by omega); omega), (by rw [← eg]; exact gd_st xx0 (by omega)), (Or.inr (gcs xx0 (by omega) i0 (Int.mul_le_mul (by omega) (by omega) yy0 (by omega)) kk_)), hV, lv_sub hl [2, 1, 0] rfl⟩
set_option maxHeartbeats 4000000 in
set_option maxRecDepth 100000 in
theorem k6_units {l : Launch} {dC : Nat → ClassId} {dI : Nat → Nat → Nat} {cx : Nat → Nat} {LB : List Nat} {X : va_W} {dd : Nat → Nat} {nn ss : Nat → Int} {ll : Nat → Nat} {gg : Nat → Int → Int} {H0 : Heap} {da en : Int} (d0 : 0 ≤ da) (d1 : da < 1073741824) (en0 : 1 ≤ en) (en1 : en < 1073741824) : Met l yX6_units (Cond.code yX6_units cX6_units 4 (some .int) :: w0c) (cRm 2 46 LB ll) (cPc dC dI cx LB X dd nn ss ll gg H0 [Iz (da), Iz (en)]) (cQi dC dI cx LB (va_A (bW (cx 0) LB dd nn ss ll gg X) H0.size) ll H0 (fun z X' dd' nn' ss' ll' gg' => X' = X ∧ dd' = dd ∧ nn' = nn ∧ ss' = ss ∧ ll' = ll ∧ gg' = gg ∧ z = unN da (en - 1).toNat)) (cMc LB ll) (2 * cMc LB ll) (va_A (bW (cx 0) LB dd nn ss ll gg X) H0.size) := by
  refine Met.ofW (cc := cX6_units) (maxL := 4) (ret := (some .int)) (by decide) rfl ?_
  intro p e s m args below meth c s₁ B hml hv
  obtain ⟨rfl, hH0, hP, hK, hD0, hC0⟩ := hv
  have hx := B.exec
  have hb := B.bytes
  have hr := B.returns
  have hts := atoms_spec (ws := Cond.code yX6_units cX6_units 4 (some .int) :: w0c) B.pre
  have hown : s.vm.findClass RX6 = some m.cls := findClass_of_methodNamed B.named
  have hlocks := B.notSynchronized
  have E : CallFix p m c cX6_units 4 s _ (Cond.code yX6_units cX6_units 4 (some .int) :: w0c) RX6 := ⟨hx, hb, hml, hown, hts⟩
  subst hH0
  have hD := va_D.self (sz := s.heap.size) hD0
  have hA : ∀ q : Nat, s.heap.size ≤ q → va_A (bW (cx 0) LB dd nn ss ll gg X) s.heap.size q := fun q h => Or.inr h
  have hV : cV dC dI cx LB (va_A (bW (cx 0) LB dd nn ss ll gg X) s.heap.size) s.heap ll X dd nn ss ll gg s.heap [] := ⟨hP, hD, va_S.rf, fun _ _ => Nat.le_refl _, hC0⟩
  have hR : (headSpec (Cond.code yX6_units cX6_units 4 (some .int) :: w0c) (cRm 2 46 LB ll)).room.cells = cMc LB ll ∧ (headSpec (Cond.code yX6_units cX6_units 4 (some .int) :: w0c) (cRm 2 46 LB ll)).room.slots = 2 * cMc LB ll := ⟨rfl, rfl⟩
  refine W.widen (k := cP LB ll - cP LB ll) (n := 2 * (cP LB ll - cP LB ll)) (Nat.zero_le _) (Nat.zero_le _) ?_
  have hl := lv_entry ([Iz (da), Iz (en)]) (n := 4) (Nat.le_of_ble_eq_true rfl)
  rw [lg_entry_eq]
  generalize (lg_sl ([Iz (da), Iz (en)]) ++ List.replicate (4 - (lg_sl ([Iz (da), Iz (en)])).length) Slot.unset).toArray = ls at hl ⊢
  have hl : lv_has ls 4 [(0, Iz (da)), (1, Iz (en))] := hl
  refine lv_iconst (v := Int32.ofInt (0)) hx hb dX6_units_0 (by decide) ?_
  refine lv_istore_n (lv' := [(2, Iz (0)), (0, Iz (da)), (1, Iz (en))]) hx hb dX6_units_1 rfl hl (by decide) rfl (fun ls hl => ?_)
  refine lv_iconst (v := Int32.ofInt (1)) hx hb dX6_units_2 (by decide) ?_
  refine lv_istore_n (lv' := [(3, Iz (1)), (2, Iz (0)), (0, Iz (da)), (1, Iz (en))]) hx hb dX6_units_3 rfl hl (by decide) rfl (fun ls hl => ?_)
  refine r_loop (P := fun N_ H locs ls => ∃ f : Int, ∃ k : Int, N_ = (en - k).toNat ∧ (1 ≤ k) ∧ (k ≤ en) ∧ (f = unN da (k - 1).toNat) ∧ cV dC dI cx LB (va_A (bW (cx 0) LB dd nn ss ll gg X) s.heap.size) s.heap ll X dd nn ss ll gg H locs ∧ lv_has ls 4 [(0, Iz (da)), (1, Iz (en)), (2, Iz (f)), (3, Iz (k))]) (g := fun ls => F0 m 4 ls []) (fun N_ H locs ls hI ih_4 => ?_) _ _ _ _ ⟨0, 1, rfl, (Int.le_refl 1), (en0), (rfl), hV, lv_sub hl [2, 3, 1, 0] rfl⟩
  obtain ⟨f, k, rfl, k0, k1, ef, hV, hl⟩ := hI
  refine lv_iload_n hx hb dX6_units_4 rfl (lv_at hl 3 rfl) ?_
  refine lv_iload_n hx hb dX6_units_5 rfl (lv_at hl 1 rfl) ?_
  refine g_icmp_ge (tgt := 27) hx hb (by first | assumption | exact ⟨by omega, by omega⟩) (by first | assumption | exact ⟨by omega, by omega⟩) dX6_units_6 (by decide) (fun c_6 => ?_) (fun c_6 => ?_)
  · skip
    refine lv_iload_n hx hb dX6_units_27 rfl (lv_at hl 2 rfl) ?_
    have hpost : X = X ∧ dd = dd ∧ nn = nn ∧ ss = ss ∧ ll = ll ∧ gg = gg ∧ (f : Int) = unN da (en - 1).toNat := ⟨rfl, rfl, rfl, rfl, rfl, rfl, by rw [ef, show k = en by omega]⟩
    exact c_iret hx hb hr hK hV hpost dX6_units_28 hlocks
  · skip
    refine lv_iload_n hx hb dX6_units_9 rfl (lv_at hl 3 rfl) ?_
    refine lv_iload_n hx hb dX6_units_10 rfl (lv_at hl 0 rfl) ?_
    have gb : gd k da ≤ k.toNat := Nat.gcd_le_left _ (by omega)
    refine c_callsi (As := [Iz (k), Iz (da)]) (rest := []) E (k6_shared (xa := k) (ya := da) (by omega) (by omega) d0 d1) (c_cwS 2 hts cl_X6_23 ct_X6_shared cn_RX6 cc_X6_shared rfl rfl (by decide +kernel) ⟨Nat.le_of_ble_eq_true rfl, Nat.le_of_ble_eq_true rfl⟩) hK hV hA hR rfl hl.1 (Nat.le_of_ble_eq_true rfl) dX6_units_11 (fun z11 X11 dd11 nn11 ss11 ll11 gg11 H locs q11 hV hm11 => ?_)
    obtain ⟨e1_, e2_, e3_, e4_, e5_, e6_, q11⟩ := q11
    obtain rfl := e1_.symm
    obtain rfl := e2_.symm
    obtain rfl := e3_.symm
    obtain rfl := e4_.symm
    obtain rfl := e5_.symm
    obtain rfl := e6_.symm
    refine lv_iconst (v := Int32.ofInt (1)) hx hb dX6_units_14 (by decide) ?_
    refine g_icmp_ne (tgt := 21) hx hb (by first | assumption | exact ⟨by omega, by omega⟩) (by first | assumption | exact ⟨by omega, by omega⟩) dX6_units_15 (by decide) (fun c_15 => ?_) (fun c_15 => ?_)
    · skip
      refine g_iinc (k := 3) (z := k) (n := (1)) (lv' := [(3, Iz (k + 1)), (0, Iz (da)), (1, Iz (en)), (2, Iz (f))]) hx hb dX6_units_21 hl rfl (by decide) rfl (fun ls hl => ?_)
      refine lv_goto (tgt := 4) hx hb dX6_units_24 (by decide) ?_
      exact ih_4 _ (by omega) _ _ _ ⟨f, (k + 1), rfl, (by omega), (by omega), (by rw [show (k + 1 - 1).toNat = (k - 1).toNat + 1 by omega]; unfold unN; rw [show (((k - 1).toNat : Nat) : Int) + 1 = k by omega]; first | (rw [if_pos (by omega)]; omega) | (rw [if_neg (by omega)]; omega)), hV, lv_sub hl [1, 2, 3, 0] rfl⟩
    · skip
      refine g_iinc (k := 2) (z := f) (n := (1)) (lv' := [(2, Iz (f + 1)), (0, Iz (da)), (1, Iz (en)), (3, Iz (k))]) hx hb dX6_units_18 hl rfl (by decide) rfl (fun ls hl => ?_)
      refine g_iinc (k := 3) (z := k) (n := (1)) (lv' := [(3, Iz (k + 1)), (2, Iz (f + 1)), (0, Iz (da)), (1, Iz (en))]) hx hb dX6_units_21 hl rfl (by decide) rfl (fun ls hl => ?_)
      refine lv_goto (tgt := 4) hx hb dX6_units_24 (by decide) ?_
      exact ih_4 _ (by omega) _ _ _ ⟨(f + 1), (k + 1), rfl, (by omega), (by omega), (by rw [show (k + 1 - 1).toNat = (k - 1).toNat + 1 by omega]; unfold unN; rw [show (((k - 1).toNat : Nat) : Int) + 1 = k by omega]; first | (rw [if_pos (by omega)]; omega) | (rw [if_neg (by omega)]; omega)), hV, lv_sub hl [2, 3, 1, 0] rfl⟩
set_option maxHeartbeats 4000000 in
set_option maxRecDepth 100000 in
theorem k9_shared {l : Launch} {dC : Nat → ClassId} {dI : Nat → Nat → Nat} {cx : Nat → Nat} {LB : List Nat} {X : va_W} {dd : Nat → Nat} {nn ss : Nat → Int} {ll : Nat → Nat} {gg : Nat → Int → Int} {H0 : Heap} {xa ya : Int} (x0 : 0 ≤ xa) (x1 : xa < 1152921504606846976) (y0 : 0 ≤ ya) (y1 : ya < 1152921504606846976) : Met l yX9_shared (Cond.code yX9_shared cX9_shared 7 (some .long) :: w0c) (cRm 0 0 LB ll) (cPc dC dI cx LB X dd nn ss ll gg H0 [Jz (xa), Jz (ya)]) (cQl dC dI cx LB (va_A (bW (cx 0) LB dd nn ss ll gg X) H0.size) ll H0 (fun z X' dd' nn' ss' ll' gg' => X' = X ∧ dd' = dd ∧ nn' = nn ∧ ss' = ss ∧ ll' = ll ∧ gg' = gg ∧ z = ((gd xa ya : Nat) : Int))) (cMc LB ll) (2 * cMc LB ll) (va_A (bW (cx 0) LB dd nn ss ll gg X) H0.size) := by
  refine Met.ofW (cc := cX9_shared) (maxL := 7) (ret := (some .long)) (by decide) rfl ?_
  intro p e s m args below meth c s₁ B hml hv
  obtain ⟨rfl, hH0, hP, hK, hD0, hC0⟩ := hv
  have hx := B.exec
  have hb := B.bytes
  have hr := B.returns
  have hts := atoms_spec (ws := Cond.code yX9_shared cX9_shared 7 (some .long) :: w0c) B.pre
  have hown : s.vm.findClass RX9 = some m.cls := findClass_of_methodNamed B.named
  have hlocks := B.notSynchronized
  have E : CallFix p m c cX9_shared 7 s _ (Cond.code yX9_shared cX9_shared 7 (some .long) :: w0c) RX9 := ⟨hx, hb, hml, hown, hts⟩
  subst hH0
  have hD := va_D.self (sz := s.heap.size) hD0
  have hA : ∀ q : Nat, s.heap.size ≤ q → va_A (bW (cx 0) LB dd nn ss ll gg X) s.heap.size q := fun q h => Or.inr h
  have hV : cV dC dI cx LB (va_A (bW (cx 0) LB dd nn ss ll gg X) s.heap.size) s.heap ll X dd nn ss ll gg s.heap [] := ⟨hP, hD, va_S.rf, fun _ _ => Nat.le_refl _, hC0⟩
  have hR : (headSpec (Cond.code yX9_shared cX9_shared 7 (some .long) :: w0c) (cRm 0 0 LB ll)).room.cells = cMc LB ll ∧ (headSpec (Cond.code yX9_shared cX9_shared 7 (some .long) :: w0c) (cRm 0 0 LB ll)).room.slots = 2 * cMc LB ll := ⟨rfl, rfl⟩
  refine W.widen (k := cP LB ll - cP LB ll) (n := 2 * (cP LB ll - cP LB ll)) (Nat.zero_le _) (Nat.zero_le _) ?_
  have hl := lv_entry ([Jz (xa), Jz (ya)]) (n := 7) (Nat.le_of_ble_eq_true rfl)
  rw [lg_entry_eq]
  generalize (lg_sl ([Jz (xa), Jz (ya)]) ++ List.replicate (7 - (lg_sl ([Jz (xa), Jz (ya)])).length) Slot.unset).toArray = ls at hl ⊢
  have hl : lv_has ls 7 [(0, Jz (xa)), (2, Jz (ya))] := hl
  refine lv_iconst (v := Int32.ofInt (0)) hx hb dX9_shared_0 (by decide) ?_
  refine lv_istore (lv' := [(4, Iz (0)), (0, Jz (xa)), (2, Jz (ya))]) hx hb dX9_shared_1 hl (by decide) rfl (fun ls hl => ?_)
  refine r_loop (P := fun N_ H locs ls => ∃ i : Int, ∃ x : Int, ∃ y : Int, N_ = (201 - i).toNat ∧ (0 ≤ i) ∧ (i ≤ 200) ∧ (0 ≤ x) ∧ (x < 1152921504606846976) ∧ (0 ≤ y) ∧ (y < 1152921504606846976) ∧ (gd x y = gd xa ya) ∧ (i = 0 ∨ (y < x ∧ x * y * 2 ^ (i - 1).toNat ≤ (1152921504606846976 * 1152921504606846976))) ∧ cV dC dI cx LB (va_A (bW (cx 0) LB dd nn ss ll gg X) s.heap.size) s.heap ll X dd nn ss ll gg H locs ∧ lv_has ls 7 [(0, Jz (x)), (2, Jz (y)), (4, Iz (i))]) (g := fun ls => F0 m 3 ls []) (fun N_ H locs ls hI ih_3 => ?_) _ _ _ _ ⟨0, xa, ya, rfl, (Int.le_refl 0), (by omega), (x0), (x1), (y0), (y1), (rfl), (Or.inl rfl), hV, lv_sub hl [1, 2, 0] rfl⟩
  obtain ⟨i, x, y, rfl, i0, i1, xx0, xx1, yy0, yy1, eg, kk_, hV, hl⟩ := hI
  refine lv_iload hx hb dX9_shared_3 (lv_at hl 2 rfl) ?_
  refine lv_sipush (v := Int32.ofInt (200)) hx hb dX9_shared_5 (by decide) ?_
  refine g_icmp_ge (tgt := 33) hx hb (by first | assumption | exact ⟨by omega, by omega⟩) (by first | assumption | exact ⟨by omega, by omega⟩) dX9_shared_8 (by decide) (fun c_8 => ?_) (fun c_8 => ?_)
  · skip
    have yz : y = 0 := by first | exact g_cmp_eq.mp c_14 | exact gcz 199 yy0 kk_ (by omega) (by decide)
    refine lv_lload_n hx hb dX9_shared_33 rfl (lv_at hl 0 rfl) ?_
    have hpost : X = X ∧ dd = dd ∧ nn = nn ∧ ss = ss ∧ ll = ll ∧ gg = gg ∧ (x : Int) = ((gd xa ya : Nat) : Int) := ⟨rfl, rfl, rfl, rfl, rfl, rfl, by rw [← eg]; exact (gd_0 xx0 yz).symm⟩
    exact c_lret hx hb hr hK hV hpost dX9_shared_34 hlocks
  · skip
    refine lv_lload_n hx hb dX9_shared_11 rfl (lv_at hl 1 rfl) ?_
    refine lv_lconst (v := Int64.ofInt 0) hx hb dX9_shared_12 rfl ?_
    refine g_lcmp hx hb (by first | assumption | exact ⟨by omega, by omega⟩) (by first | assumption | exact ⟨by omega, by omega⟩) dX9_shared_13 ?_
    refine g_if_eq (tgt := 33) hx hb (g_cmp_i _ _) dX9_shared_14 (by decide) (fun c_14 => ?_) (fun c_14 => ?_)
    · skip
      have yz : y = 0 := by first | exact g_cmp_eq.mp c_14 | exact gcz 199 yy0 kk_ (by omega) (by decide)
      refine lv_lload_n hx hb dX9_shared_33 rfl (lv_at hl 0 rfl) ?_
      have hpost : X = X ∧ dd = dd ∧ nn = nn ∧ ss = ss ∧ ll = ll ∧ gg = gg ∧ (x : Int) = ((gd xa ya : Nat) : Int) := ⟨rfl, rfl, rfl, rfl, rfl, rfl, by rw [← eg]; exact (gd_0 xx0 yz).symm⟩
      exact c_lret hx hb hr hK hV hpost dX9_shared_34 hlocks
    · skip
      have yn : y ≠ 0 := fun w => c_14 (g_cmp_eq.mpr w)
      refine lv_lload_n hx hb dX9_shared_17 rfl (lv_at hl 0 rfl) ?_
      refine lv_lload_n hx hb dX9_shared_18 rfl (lv_at hl 1 rfl) ?_
      refine g_lrem hx hb (by omega) (by omega) (by omega) (by omega) dX9_shared_19 ?_
      refine lv_lstore (lv' := [(5, Jz (x % y)), (0, Jz (x)), (2, Jz (y)), (4, Iz (i))]) hx hb dX9_shared_20 hl (by decide) rfl (fun ls hl => ?_)
      refine lv_lload_n hx hb dX9_shared_22 rfl (lv_at hl 2 rfl) ?_
      refine lv_lstore_n (lv' := [(0, Jz (y)), (5, Jz (x % y)), (2, Jz (y)), (4, Iz (i))]) hx hb dX9_shared_23 rfl hl (by decide) rfl (fun ls hl => ?_)
      refine lv_lload hx hb dX9_shared_24 (lv_at hl 1 rfl) ?_
      refine lv_lstore_n (lv' := [(2, Jz (x % y)), (0, Jz (y)), (5, Jz (x % y)), (4, Iz (i))]) hx hb dX9_shared_26 rfl hl (by decide) rfl (fun ls hl => ?_)
      refine g_iinc (k := 3) (z := i) (n := (1)) (lv' := [(4, Iz (i + 1)), (2, Jz (x % y)), (0, Jz (y)), (5, Jz (x % y))]) hx hb dX9_shared_27 hl rfl (by decide) rfl (fun ls hl => ?_)
      refine lv_goto (tgt := 3) hx hb dX9_shared_30 (by decide) ?_
      exact ih_3 _ (by omega) _ _ _ ⟨(i + 1), y, (x % y), rfl, (by omega), (by omega), (by omega), (by omega), (Int.emod_nonneg x (by omega)), (by have := Int.emod_lt_of_pos x (show 0 < y by omega); omega), (by rw [← eg]; exact gd_st xx0 (by omega)), (Or.inr (gcs xx0 (by omega) i0 (Int.mul_le_mul (by omega) (by omega) yy0 (by omega)) kk_)), hV, lv_sub hl [2, 1, 0] rfl⟩
set_option maxHeartbeats 4000000 in
set_option maxRecDepth 100000 in
theorem k9_low {l : Launch} {dC : Nat → ClassId} {dI : Nat → Nat → Nat} {cx : Nat → Nat} {LB : List Nat} {X : va_W} {dd : Nat → Nat} {nn ss : Nat → Int} {ll : Nat → Nat} {gg : Nat → Int → Int} {H0 : Heap} {x : Nat} {V : Int} (mx : x ∈ LB) (NX : num1 (nn x) (ss x) (ll x) (gg x) V) (n2 : nn x ≤ 2) : Met l yX9_low (Cond.code yX9_low cX9_low 1 (some .long) :: w0c) (cRm 0 0 LB ll) (cPc dC dI cx LB X dd nn ss ll gg H0 [.ref x]) (cQl dC dI cx LB (va_A (bW (cx 0) LB dd nn ss ll gg X) H0.size) ll H0 (fun z X' dd' nn' ss' ll' gg' => X' = X ∧ dd' = dd ∧ nn' = nn ∧ ss' = ss ∧ ll' = ll ∧ gg' = gg ∧ z = (V.natAbs : Int))) (cMc LB ll) (2 * cMc LB ll) (va_A (bW (cx 0) LB dd nn ss ll gg X) H0.size) := by
  refine Met.ofW (cc := cX9_low) (maxL := 1) (ret := (some .long)) (by decide) rfl ?_
  intro p e s m args below meth c s₁ B hml hv
  obtain ⟨rfl, hH0, hP, hK, hD0, hC0⟩ := hv
  have hx := B.exec
  have hb := B.bytes
  have hr := B.returns
  have hts := atoms_spec (ws := Cond.code yX9_low cX9_low 1 (some .long) :: w0c) B.pre
  have hown : s.vm.findClass RX9 = some m.cls := findClass_of_methodNamed B.named
  have hlocks := B.notSynchronized
  have E : CallFix p m c cX9_low 1 s _ (Cond.code yX9_low cX9_low 1 (some .long) :: w0c) RX9 := ⟨hx, hb, hml, hown, hts⟩
  subst hH0
  have hD := va_D.self (sz := s.heap.size) hD0
  have hA : ∀ q : Nat, s.heap.size ≤ q → va_A (bW (cx 0) LB dd nn ss ll gg X) s.heap.size q := fun q h => Or.inr h
  have hV : cV dC dI cx LB (va_A (bW (cx 0) LB dd nn ss ll gg X) s.heap.size) s.heap ll X dd nn ss ll gg s.heap [] := ⟨hP, hD, va_S.rf, fun _ _ => Nat.le_refl _, hC0⟩
  have hR : (headSpec (Cond.code yX9_low cX9_low 1 (some .long) :: w0c) (cRm 0 0 LB ll)).room.cells = cMc LB ll ∧ (headSpec (Cond.code yX9_low cX9_low 1 (some .long) :: w0c) (cRm 0 0 LB ll)).room.slots = 2 * cMc LB ll := ⟨rfl, rfl⟩
  refine W.widen (k := cP LB ll - cP LB ll) (n := 2 * (cP LB ll - cP LB ll)) (Nat.zero_le _) (Nat.zero_le _) ?_
  have hl := lv_entry ([.ref x]) (n := 1) (Nat.le_of_ble_eq_true rfl)
  rw [lg_entry_eq]
  generalize (lg_sl ([.ref x]) ++ List.replicate (1 - (lg_sl ([.ref x])).length) Slot.unset).toArray = ls at hl ⊢
  have hl : lv_has ls 1 [(0, .ref x)] := hl
  obtain ⟨n0x, n1x, k5x, dgx, tpx, sgx, vlx⟩ := id NX
  have c4x := (hC0 x mx).2
  refine lv_aload_n hx hb dX9_low_0 rfl (lv_at hl 0 rfl) ?_
  refine t_getn E hK hV mx rfl cf_9_82 dX9_low_1 ?_
  refine g_if_ne (tgt := 11) hx hb (by first | assumption | exact ⟨by omega, by omega⟩) dX9_low_4 (by decide) (fun c_4 => ?_) (fun c_4 => ?_)
  · skip
    refine lv_aload_n hx hb dX9_low_11 rfl (lv_at hl 0 rfl) ?_
    refine t_getn E hK hV mx rfl cf_9_82 dX9_low_12 ?_
    refine lv_iconst (v := Int32.ofInt (1)) hx hb dX9_low_15 (by decide) ?_
    refine g_icmp_ne (tgt := 29) hx hb (by first | assumption | exact ⟨by omega, by omega⟩) (by first | assumption | exact ⟨by omega, by omega⟩) dX9_low_16 (by decide) (fun c_16 => ?_) (fun c_16 => ?_)
    · skip
      have w1_ := dgx 0 (by omega) (by omega)
      have w2_ := dgx 1 (by omega) (by omega)
      refine lv_aload_n hx hb dX9_low_29 rfl (lv_at hl 0 rfl) ?_
      refine t_getd E hK hV mx rfl cf_9_104 dX9_low_30 ?_
      refine lv_iconst (v := Int32.ofInt (1)) hx hb dX9_low_33 (by decide) ?_
      refine t_ald (z := 1) (v := gg x 1) hx hb hK hV mx rfl rfl rfl (by omega) (by omega) dX9_low_34 ?_
      refine g_i2l hx hb (by first | assumption | exact ⟨by omega, by omega⟩) dX9_low_35 ?_
      refine lv_bipush (v := Int32.ofInt (30)) hx hb dX9_low_36 (by decide) ?_
      refine g_lshl hx hb (by omega) (by omega) dX9_low_38 ?_
      rw [show (2 : Int) ^ (30 : Int).toNat = 1073741824 from rfl]
      refine lv_aload_n hx hb dX9_low_39 rfl (lv_at hl 0 rfl) ?_
      refine t_getd E hK hV mx rfl cf_9_104 dX9_low_40 ?_
      refine lv_iconst (v := Int32.ofInt (0)) hx hb dX9_low_43 (by decide) ?_
      refine t_ald (z := 0) (v := gg x 0) hx hb hK hV mx rfl rfl rfl (by omega) (by omega) dX9_low_44 ?_
      refine g_i2l hx hb (by first | assumption | exact ⟨by omega, by omega⟩) dX9_low_45 ?_
      refine g_lor hx hb (lm_or30 w2_.1 (by omega) w1_.1 w1_.2) dX9_low_46 ?_
      have ez : (V.natAbs : Int) = (((gg x 1) * 1073741824) + (gg x 0)) := by
        rw [← vlx]
        first
          | (rw [show nn x = 0 by omega]; rfl)
          | (rw [show nn x = 1 by omega]; show (0 : Int) + gg x 0 * 1 = _; omega)
          | (rw [show nn x = 2 by omega]; show (0 : Int) + gg x 0 * 1 + gg x 1 * 1073741824 = _; omega)
      have hpost : X = X ∧ dd = dd ∧ nn = nn ∧ ss = ss ∧ ll = ll ∧ gg = gg ∧ (((gg x 1) * 1073741824) + (gg x 0) : Int) = (V.natAbs : Int) := ⟨rfl, rfl, rfl, rfl, rfl, rfl, ez.symm⟩
      exact c_lret hx hb hr hK hV hpost dX9_low_47 hlocks
    · skip
      have w1_ := dgx 0 (by omega) (by omega)
      refine lv_aload_n hx hb dX9_low_19 rfl (lv_at hl 0 rfl) ?_
      refine t_getd E hK hV mx rfl cf_9_104 dX9_low_20 ?_
      refine lv_iconst (v := Int32.ofInt (0)) hx hb dX9_low_23 (by decide) ?_
      refine t_ald (z := 0) (v := gg x 0) hx hb hK hV mx rfl rfl rfl (by omega) (by omega) dX9_low_24 ?_
      refine g_i2l hx hb (by first | assumption | exact ⟨by omega, by omega⟩) dX9_low_25 ?_
      refine lv_goto (tgt := 47) hx hb dX9_low_26 (by decide) ?_
      have ez : (V.natAbs : Int) = (gg x 0) := by
        rw [← vlx]
        first
          | (rw [show nn x = 0 by omega]; rfl)
          | (rw [show nn x = 1 by omega]; show (0 : Int) + gg x 0 * 1 = _; omega)
          | (rw [show nn x = 2 by omega]; show (0 : Int) + gg x 0 * 1 + gg x 1 * 1073741824 = _; omega)
      have hpost : X = X ∧ dd = dd ∧ nn = nn ∧ ss = ss ∧ ll = ll ∧ gg = gg ∧ (gg x 0 : Int) = (V.natAbs : Int) := ⟨rfl, rfl, rfl, rfl, rfl, rfl, ez.symm⟩
      exact c_lret hx hb hr hK hV hpost dX9_low_47 hlocks
  · skip
    refine lv_lconst (v := Int64.ofInt 0) hx hb dX9_low_7 rfl ?_
    refine lv_goto (tgt := 47) hx hb dX9_low_8 (by decide) ?_
    have ez : (V.natAbs : Int) = 0 := by
      rw [← vlx]
      first
        | (rw [show nn x = 0 by omega]; rfl)
        | (rw [show nn x = 1 by omega]; show (0 : Int) + gg x 0 * 1 = _; omega)
        | (rw [show nn x = 2 by omega]; show (0 : Int) + gg x 0 * 1 + gg x 1 * 1073741824 = _; omega)
    have hpost : X = X ∧ dd = dd ∧ nn = nn ∧ ss = ss ∧ ll = ll ∧ gg = gg ∧ (0 : Int) = (V.natAbs : Int) := ⟨rfl, rfl, rfl, rfl, rfl, rfl, ez.symm⟩
    exact c_lret hx hb hr hK hV hpost dX9_low_47 hlocks
