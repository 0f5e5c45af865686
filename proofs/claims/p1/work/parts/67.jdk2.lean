section CJdk2
variable {p : Program} {l : Launch} {e : Env} {R : Room} {s : State} {m : MethodId} {args : Array Value} {below : List Frame} {meth : Method} {c : Code} {H : Heap} {locs : List Loc} {cells slots : Nat} {Q : State → Prop}
variable {cc : ByteArray} {pc nL : Nat} {ls : Array Slot} {rest : List Value}
/-- the sign of an exclusive or -/
theorem g_ixorS (hx : p.tables.exec = Jvm.exec) (hb : c.code = cc) {x y : Int} (h1 : g_i x) (h2 : g_i y) (hd : decode cc pc = .ok (.ixor, 1)) (k : ∀ w : Int, g_i w → (w < 0 ↔ (x < 0 ↔ ¬ y < 0)) → W p l e R s m args below meth c H locs cells slots Q (F0 m (pc + 1) ls (Iz w :: rest))) : W p l e R s m args below meth c H locs cells slots Q (F0 m pc ls (Iz y :: Iz x :: rest)) := by
  refine lv_ixor hx hb hd ?_
  have e1 : Int32.ofInt x ^^^ Int32.ofInt y = Int32.ofInt (Int32.ofInt x ^^^ Int32.ofInt y).toInt := (Int32.ofInt_toInt _).symm
  have q0 := Int32.le_toInt (Int32.ofInt x ^^^ Int32.ofInt y)
  have q1 := Int32.toInt_lt (Int32.ofInt x ^^^ Int32.ofInt y)
  have hm : (Int32.ofInt x ^^^ Int32.ofInt y).toInt < 0 ↔ (x < 0 ↔ ¬ y < 0) := by
    have s1 := BitVec.msb_eq_toInt (x := (Int32.ofInt x ^^^ Int32.ofInt y).toBitVec)
    have s2 := BitVec.msb_eq_toInt (x := (Int32.ofInt x).toBitVec)
    have s3 := BitVec.msb_eq_toInt (x := (Int32.ofInt y).toBitVec)
    rw [Int32.toBitVec_xor, BitVec.msb_xor, s2, s3] at s1
    rw [Int32.toInt_toBitVec, g_toInt h1] at s1
    rw [Int32.toInt_toBitVec, g_toInt h2] at s1
    rw [← Int32.toBitVec_xor, Int32.toInt_toBitVec] at s1
    by_cases a : x < 0 <;> by_cases b : y < 0 <;> simp only [a, b, decide_true, decide_false] at s1 ⊢ <;> simp_all
  rw [e1]
  generalize (Int32.ofInt x ^^^ Int32.ofInt y).toInt = w at *
  exact k w ⟨by omega, by omega⟩ hm
theorem g_lxorS (hx : p.tables.exec = Jvm.exec) (hb : c.code = cc) {x y : Int} (h1 : g_j x) (h2 : g_j y) (hd : decode cc pc = .ok (.lxor, 1)) (k : ∀ w : Int, g_j w → (w < 0 ↔ (x < 0 ↔ ¬ y < 0)) → W p l e R s m args below meth c H locs cells slots Q (F0 m (pc + 1) ls (Jz w :: rest))) : W p l e R s m args below meth c H locs cells slots Q (F0 m pc ls (Jz y :: Jz x :: rest)) := by
  refine lv_lxor hx hb hd ?_
  have e1 : Int64.ofInt x ^^^ Int64.ofInt y = Int64.ofInt (Int64.ofInt x ^^^ Int64.ofInt y).toInt := (Int64.ofInt_toInt _).symm
  have q0 := Int64.le_toInt (Int64.ofInt x ^^^ Int64.ofInt y)
  have q1 := Int64.toInt_lt (Int64.ofInt x ^^^ Int64.ofInt y)
  have hm : (Int64.ofInt x ^^^ Int64.ofInt y).toInt < 0 ↔ (x < 0 ↔ ¬ y < 0) := by
    have s1 := BitVec.msb_eq_toInt (x := (Int64.ofInt x ^^^ Int64.ofInt y).toBitVec)
    have s2 := BitVec.msb_eq_toInt (x := (Int64.ofInt x).toBitVec)
    have s3 := BitVec.msb_eq_toInt (x := (Int64.ofInt y).toBitVec)
    rw [Int64.toBitVec_xor, BitVec.msb_xor, s2, s3] at s1
    rw [Int64.toInt_toBitVec, g_toIntL h1] at s1
    rw [Int64.toInt_toBitVec, g_toIntL h2] at s1
    rw [← Int64.toBitVec_xor, Int64.toInt_toBitVec] at s1
    by_cases a : x < 0 <;> by_cases b : y < 0 <;> simp only [a, b, decide_true, decide_false] at s1 ⊢ <;> simp_all
  rw [e1]
  generalize (Int64.ofInt x ^^^ Int64.ofInt y).toInt = w at *
  exact k w ⟨by omega, by omega⟩ hm
/-- quotients and rests of any sign by a number above 0 -/
theorem im_tdiv {x y : Int} (hx : g_i x) (hy : 0 < y) (hy1 : y < 2147483648) : Int32.ofInt x / Int32.ofInt y = Int32.ofInt (x.tdiv y) := by
  apply Int32.toInt_inj.mp
  have h2 : g_i y := ⟨by omega, hy1⟩
  obtain ⟨x0, x1⟩ := id hx
  have h3 : (x.tdiv y).natAbs ≤ x.natAbs := by
    rw [Int.natAbs_tdiv]
    exact Nat.div_le_self _ _
  have h4 : g_i (x.tdiv y) := by
    refine ⟨by omega, ?_⟩
    rcases Int.lt_or_le x 0 with w | w
    · have h5 : x.tdiv y ≤ 0 := by
        have h6 : 0 ≤ (-x).tdiv y := Int.tdiv_nonneg (by omega) (by omega)
        rw [Int.neg_tdiv] at h6
        omega
      omega
    · omega
  rw [Int32.toInt_div_of_ne_right _ _ (fun q => by
    have q2 := congrArg Int32.toInt q
    rw [g_toInt h2] at q2
    have q3 : Int32.toInt (-1) = -1 := by decide
    omega), g_toInt hx, g_toInt h2, g_toInt h4]
theorem g_idivT (hx : p.tables.exec = Jvm.exec) (hb : c.code = cc) {x y : Int} (h0 : g_i x) (h1 : 0 < y) (h3 : y < 2147483648) (hd : decode cc pc = .ok (.idiv, 1)) (k : W p l e R s m args below meth c H locs cells slots Q (F0 m (pc + 1) ls (Iz (x.tdiv y) :: rest))) : W p l e R s m args below meth c H locs cells slots Q (F0 m pc ls (Iz y :: Iz x :: rest)) :=
  lv_idiv hx hb hd (fun q => by
    have q2 := (g_inj (y := 0) ⟨by omega, h3⟩ g_0).mp q
    omega) (by rw [im_tdiv h0 h1 h3]; exact k)
theorem g_iremT (hx : p.tables.exec = Jvm.exec) (hb : c.code = cc) {x y : Int} (h0 : g_i x) (h1 : 0 < y) (h3 : y < 2147483648) (hd : decode cc pc = .ok (.irem, 1)) (k : W p l e R s m args below meth c H locs cells slots Q (F0 m (pc + 1) ls (Iz (x.tmod y) :: rest))) : W p l e R s m args below meth c H locs cells slots Q (F0 m pc ls (Iz y :: Iz x :: rest)) :=
  lv_irem hx hb hd (fun q => by
    have q2 := (g_inj (y := 0) ⟨by omega, h3⟩ g_0).mp q
    omega) (by
    rw [im_tdiv h0 h1 h3, ← Int32.ofInt_mul, ← Int32.ofInt_sub]
    have e : x - x.tdiv y * y = x.tmod y := by have := Int.mul_tdiv_add_tmod x y; have := Int.mul_comm y (x.tdiv y); omega
    rw [e]; exact k)
theorem lm_tdiv {x y : Int} (hx : g_j x) (hy : 0 < y) (hy1 : y < 9223372036854775808) : Int64.ofInt x / Int64.ofInt y = Int64.ofInt (x.tdiv y) := by
  apply Int64.toInt_inj.mp
  have h2 : g_j y := ⟨by omega, hy1⟩
  obtain ⟨x0, x1⟩ := id hx
  have h3 : (x.tdiv y).natAbs ≤ x.natAbs := by
    rw [Int.natAbs_tdiv]
    exact Nat.div_le_self _ _
  have h4 : g_j (x.tdiv y) := by
    refine ⟨by omega, ?_⟩
    rcases Int.lt_or_le x 0 with w | w
    · have h5 : x.tdiv y ≤ 0 := by
        have h6 : 0 ≤ (-x).tdiv y := Int.tdiv_nonneg (by omega) (by omega)
        rw [Int.neg_tdiv] at h6
        omega
      omega
    · omega
  rw [Int64.toInt_div_of_ne_right _ _ (fun q => by
    have q2 := congrArg Int64.toInt q
    rw [g_toIntL h2] at q2
    have q3 : Int64.toInt (-1) = -1 := by decide
    omega), g_toIntL hx, g_toIntL h2, g_toIntL h4]
theorem g_lremT (hx : p.tables.exec = Jvm.exec) (hb : c.code = cc) {x y : Int} (h0 : g_j x) (h1 : 0 < y) (h3 : y < 9223372036854775808) (hd : decode cc pc = .ok (.lrem, 1)) (k : W p l e R s m args below meth c H locs cells slots Q (F0 m (pc + 1) ls (Jz (x.tmod y) :: rest))) : W p l e R s m args below meth c H locs cells slots Q (F0 m pc ls (Jz y :: Jz x :: rest)) :=
  lv_lrem hx hb hd (fun q => by
    have q2 := (g_injL (y := 0) ⟨by omega, h3⟩ ⟨by decide, by decide⟩).mp q
    omega) (by
    rw [lm_tdiv h0 h1 h3, ← Int64.ofInt_mul, ← Int64.ofInt_sub]
    have e : x - x.tdiv y * y = x.tmod y := by have := Int.mul_tdiv_add_tmod x y; have := Int.mul_comm y (x.tdiv y); omega
    rw [e]; exact k)
end CJdk2
theorem td_pos {x y : Int} (hy : 0 < y) (hx : 0 ≤ x) : x.tdiv y = x / y := Int.tdiv_eq_ediv_of_nonneg hx
theorem td_neg {x y : Int} (hy : 0 < y) (hx : x < 0) : x / y = (if x.tdiv y * y = x then x.tdiv y else x.tdiv y - 1) ∧ x % y = (if x.tmod y = 0 then x.tmod y else x.tmod y + y) := by
  have a1 := Int.mul_tdiv_add_tmod x y
  have a2 := Int.mul_comm y (x.tdiv y)
  have a3 := Int.mul_ediv_add_emod x y
  have a4 := Int.mul_comm y (x / y)
  have a5 := Int.emod_nonneg x (show y ≠ 0 by omega)
  have a6 := Int.emod_lt_of_pos x hy
  have a7 : x.tmod y ≤ 0 := by
    have h : 0 ≤ (-x).tmod y := Int.tmod_nonneg _ (by omega)
    rw [Int.neg_tmod] at h
    omega
  have a8 : -y < x.tmod y := by
    have h : (-x).tmod y < y := Int.tmod_lt_of_pos _ hy
    rw [Int.neg_tmod] at h
    omega
  by_cases w : x.tmod y = 0
  · rw [if_pos (by omega), if_pos w]
    have key : (x / y - x.tdiv y) * y + x % y = 0 := by rw [Int.sub_mul]; omega
    have k0 : x / y - x.tdiv y = 0 := by
      rcases Int.lt_trichotomy (x / y - x.tdiv y) 0 with q | q | q
      · have h := Int.mul_le_mul_of_nonneg_right (show x / y - x.tdiv y ≤ -1 by omega) (show 0 ≤ y by omega); omega
      · exact q
      · have h := Int.mul_le_mul_of_nonneg_right (show 1 ≤ x / y - x.tdiv y by omega) (show 0 ≤ y by omega); omega
    rw [k0] at key
    omega
  · rw [if_neg (by omega), if_neg w]
    have key : (x / y - x.tdiv y) * y + (x % y - x.tmod y) = 0 := by rw [Int.sub_mul]; omega
    have k0 : x / y - x.tdiv y = -1 := by
      rcases Int.lt_trichotomy (x / y - x.tdiv y) (-1) with q | q | q
      · have h := Int.mul_le_mul_of_nonneg_right (show x / y - x.tdiv y ≤ -2 by omega) (show 0 ≤ y by omega); omega
      · exact q
      · have h := Int.mul_le_mul_of_nonneg_right (show 0 ≤ x / y - x.tdiv y by omega) (show 0 ≤ y by omega); omega
    rw [k0] at key
    omega
theorem tm_bd {x y : Int} (hy : 0 < y) : -y < x.tmod y ∧ x.tmod y < y := by
  constructor
  · have h : (-x).tmod y < y := Int.tmod_lt_of_pos _ hy
    rw [Int.neg_tmod] at h
    omega
  · exact Int.tmod_lt_of_pos _ hy
set_option maxHeartbeats 4000000 in
set_option maxRecDepth 100000 in
theorem kJ9_floorDiv_7cf53 {l : Launch} {dC : Nat → ClassId} {dI : Nat → Nat → Nat} {cx : Nat → Nat} {LB : List Nat} {X : va_W} {dd : Nat → Nat} {nn ss : Nat → Int} {ll : Nat → Nat} {gg : Nat → Int → Int} {H0 : Heap} {xa ya : Int} (x0 : -2147483647 ≤ xa) (x1 : xa < 2147483648) (y0 : 0 < ya) (y1 : ya < 2147483648) : Met l yJ9_floorDiv_7cf53 (Cond.code yJ9_floorDiv_7cf53 cJ9_floorDiv_7cf53 3 (some .int) :: w0c) (cRm 0 0 LB ll) (cPc dC dI cx LB X dd nn ss ll gg H0 [Iz (xa), Iz (ya)]) (cQi dC dI cx LB (va_A (bW (cx 0) LB dd nn ss ll gg X) H0.size) ll H0 (fun z X' dd' nn' ss' ll' gg' => X' = X ∧ dd' = dd ∧ nn' = nn ∧ ss' = ss ∧ ll' = ll ∧ gg' = gg ∧ z = xa / ya)) (cMc LB ll) (2 * cMc LB ll) (va_A (bW (cx 0) LB dd nn ss ll gg X) H0.size) := by
  refine va_MetF (cc := cJ9_floorDiv_7cf53) (maxL := 3) (ret := (some .int)) (by decide +kernel) rfl ?_
  intro p e s m args below meth c s₁ B hml hv
  obtain ⟨rfl, hH0, hP, hK, hD0, hC0⟩ := hv
  have hx := B.exec
  have hb := B.bytes
  have hr := B.returns
  have hts := atoms_spec (ws := Cond.code yJ9_floorDiv_7cf53 cJ9_floorDiv_7cf53 3 (some .int) :: w0c) B.pre
  have hown : s.vm.findClass RJ9 = some m.cls := findClass_of_methodNamed B.named
  have hlocks := B.notSynchronized
  have E : CallFix p m c cJ9_floorDiv_7cf53 3 s _ (Cond.code yJ9_floorDiv_7cf53 cJ9_floorDiv_7cf53 3 (some .int) :: w0c) RJ9 := ⟨hx, hb, hml, hown, hts⟩
  subst hH0
  have hD := va_D.self (sz := s.heap.size) hD0
  have hA : ∀ q : Nat, s.heap.size ≤ q → va_A (bW (cx 0) LB dd nn ss ll gg X) s.heap.size q := fun q h => Or.inr h
  have hV : cV dC dI cx LB (va_A (bW (cx 0) LB dd nn ss ll gg X) s.heap.size) s.heap ll X dd nn ss ll gg s.heap [] := ⟨hP, hD, va_S.rf, fun _ _ => Nat.le_refl _, hC0⟩
  have hR : (headSpec (Cond.code yJ9_floorDiv_7cf53 cJ9_floorDiv_7cf53 3 (some .int) :: w0c) (cRm 0 0 LB ll)).room.cells = cMc LB ll ∧ (headSpec (Cond.code yJ9_floorDiv_7cf53 cJ9_floorDiv_7cf53 3 (some .int) :: w0c) (cRm 0 0 LB ll)).room.slots = 2 * cMc LB ll := ⟨rfl, rfl⟩
  refine W.widen (k := cP LB ll - cP LB ll) (n := 2 * (cP LB ll - cP LB ll)) (Nat.zero_le _) (Nat.zero_le _) ?_
  have hl := lv_entry ([Iz (xa), Iz (ya)]) (n := 3) (Nat.le_of_ble_eq_true rfl)
  rw [lg_entry_eq]
  generalize (lg_sl ([Iz (xa), Iz (ya)]) ++ List.replicate (3 - (lg_sl ([Iz (xa), Iz (ya)])).length) Slot.unset).toArray = ls at hl ⊢
  have hl : lv_has ls 3 [(0, Iz (xa)), (1, Iz (ya))] := hl
  refine lv_iload_n hx hb dJ9_floorDiv_7cf53_0 rfl (lv_at hl 0 rfl) ?_
  refine lv_iload_n hx hb dJ9_floorDiv_7cf53_1 rfl (lv_at hl 1 rfl) ?_
  refine g_idivT hx hb (by first | assumption | exact ⟨by omega, by omega⟩) (by omega) (by omega) dJ9_floorDiv_7cf53_2 ?_
  refine lv_istore_n (lv' := [(2, Iz (xa.tdiv ya)), (0, Iz (xa)), (1, Iz (ya))]) hx hb dJ9_floorDiv_7cf53_3 rfl hl (by decide) rfl (fun ls hl => ?_)
  refine lv_iload_n hx hb dJ9_floorDiv_7cf53_4 rfl (lv_at hl 1 rfl) ?_
  refine lv_iload_n hx hb dJ9_floorDiv_7cf53_5 rfl (lv_at hl 2 rfl) ?_
  refine g_ixorS hx hb (by first | assumption | exact ⟨by omega, by omega⟩) (by first | assumption | exact ⟨by omega, by omega⟩) dJ9_floorDiv_7cf53_6 (fun w_6 b_6 h_6 => ?_)
  refine g_if_ge (tgt := 21) hx hb (by first | assumption | exact ⟨by omega, by omega⟩) dJ9_floorDiv_7cf53_7 (by decide) (fun c_7 => ?_) (fun c_7 => ?_)
  · skip
    refine lv_iload_n hx hb dJ9_floorDiv_7cf53_21 rfl (lv_at hl 0 rfl) ?_
    have hpost : X = X ∧ dd = dd ∧ nn = nn ∧ ss = ss ∧ ll = ll ∧ gg = gg ∧ (xa.tdiv ya : Int) = xa / ya := ⟨rfl, rfl, rfl, rfl, rfl, rfl, by first | (rw [(td_neg y0 (by omega)).1, if_pos c_14]; done) | exact td_pos y0 (by omega)⟩
    exact c_iret hx hb hr hK hV hpost dJ9_floorDiv_7cf53_22 hlocks
  · skip
    refine lv_iload_n hx hb dJ9_floorDiv_7cf53_10 rfl (lv_at hl 0 rfl) ?_
    refine lv_iload_n hx hb dJ9_floorDiv_7cf53_11 rfl (lv_at hl 2 rfl) ?_
    refine g_imul hx hb dJ9_floorDiv_7cf53_12 ?_
    refine lv_iload_n hx hb dJ9_floorDiv_7cf53_13 rfl (lv_at hl 1 rfl) ?_
    have tb := td_le xa ya
    have tb2 : xa.tdiv ya ≤ 0 := by
      have h6 : 0 ≤ (-xa).tdiv ya := Int.tdiv_nonneg (by omega) (by omega)
      rw [Int.neg_tdiv] at h6
      omega
    have tb3 : xa ≤ xa.tdiv ya * ya ∧ xa.tdiv ya * ya ≤ 0 := by
      have h7 := Int.mul_tdiv_add_tmod xa ya
      have h8 := Int.mul_comm ya (xa.tdiv ya)
      have h9 : 0 ≤ (-xa).tmod ya := Int.tmod_nonneg _ (by omega)
      rw [Int.neg_tmod] at h9
      have h10 := Int.mul_le_mul_of_nonneg_right tb2 (show 0 ≤ ya by omega)
      omega
    refine g_icmp_eq (tgt := 21) hx hb (by first | assumption | exact ⟨by omega, by omega⟩) (by first | assumption | exact ⟨by omega, by omega⟩) dJ9_floorDiv_7cf53_14 (by decide) (fun c_14 => ?_) (fun c_14 => ?_)
    · skip
      refine lv_iload_n hx hb dJ9_floorDiv_7cf53_21 rfl (lv_at hl 0 rfl) ?_
      have hpost : X = X ∧ dd = dd ∧ nn = nn ∧ ss = ss ∧ ll = ll ∧ gg = gg ∧ (xa.tdiv ya : Int) = xa / ya := ⟨rfl, rfl, rfl, rfl, rfl, rfl, by first | (rw [(td_neg y0 (by omega)).1, if_pos c_14]; done) | exact td_pos y0 (by omega)⟩
      exact c_iret hx hb hr hK hV hpost dJ9_floorDiv_7cf53_22 hlocks
    · skip
      refine lv_iload_n hx hb dJ9_floorDiv_7cf53_17 rfl (lv_at hl 0 rfl) ?_
      refine lv_iconst (v := Int32.ofInt (1)) hx hb dJ9_floorDiv_7cf53_18 (by decide) ?_
      refine g_isub hx hb dJ9_floorDiv_7cf53_19 ?_
      have hpost : X = X ∧ dd = dd ∧ nn = nn ∧ ss = ss ∧ ll = ll ∧ gg = gg ∧ ((xa.tdiv ya) - 1 : Int) = xa / ya := ⟨rfl, rfl, rfl, rfl, rfl, rfl, by rw [(td_neg y0 (by omega)).1, if_neg c_14]⟩
      exact c_iret hx hb hr hK hV hpost dJ9_floorDiv_7cf53_20 hlocks
set_option maxHeartbeats 4000000 in
set_option maxRecDepth 100000 in
theorem kJ9_floorMod_7cf53 {l : Launch} {dC : Nat → ClassId} {dI : Nat → Nat → Nat} {cx : Nat → Nat} {LB : List Nat} {X : va_W} {dd : Nat → Nat} {nn ss : Nat → Int} {ll : Nat → Nat} {gg : Nat → Int → Int} {H0 : Heap} {xa ya : Int} (x0 : -2147483648 ≤ xa) (x1 : xa < 2147483648) (y0 : 0 < ya) (y1 : ya < 2147483648) : Met l yJ9_floorMod_7cf53 (Cond.code yJ9_floorMod_7cf53 cJ9_floorMod_7cf53 3 (some .int) :: w0c) (cRm 0 0 LB ll) (cPc dC dI cx LB X dd nn ss ll gg H0 [Iz (xa), Iz (ya)]) (cQi dC dI cx LB (va_A (bW (cx 0) LB dd nn ss ll gg X) H0.size) ll H0 (fun z X' dd' nn' ss' ll' gg' => X' = X ∧ dd' = dd ∧ nn' = nn ∧ ss' = ss ∧ ll' = ll ∧ gg' = gg ∧ z = xa % ya)) (cMc LB ll) (2 * cMc LB ll) (va_A (bW (cx 0) LB dd nn ss ll gg X) H0.size) := by
  refine va_MetF (cc := cJ9_floorMod_7cf53) (maxL := 3) (ret := (some .int)) (by decide +kernel) rfl ?_
  intro p e s m args below meth c s₁ B hml hv
  obtain ⟨rfl, hH0, hP, hK, hD0, hC0⟩ := hv
  have hx := B.exec
  have hb := B.bytes
  have hr := B.returns
  have hts := atoms_spec (ws := Cond.code yJ9_floorMod_7cf53 cJ9_floorMod_7cf53 3 (some .int) :: w0c) B.pre
  have hown : s.vm.findClass RJ9 = some m.cls := findClass_of_methodNamed B.named
  have hlocks := B.notSynchronized
  have E : CallFix p m c cJ9_floorMod_7cf53 3 s _ (Cond.code yJ9_floorMod_7cf53 cJ9_floorMod_7cf53 3 (some .int) :: w0c) RJ9 := ⟨hx, hb, hml, hown, hts⟩
  subst hH0
  have hD := va_D.self (sz := s.heap.size) hD0
  have hA : ∀ q : Nat, s.heap.size ≤ q → va_A (bW (cx 0) LB dd nn ss ll gg X) s.heap.size q := fun q h => Or.inr h
  have hV : cV dC dI cx LB (va_A (bW (cx 0) LB dd nn ss ll gg X) s.heap.size) s.heap ll X dd nn ss ll gg s.heap [] := ⟨hP, hD, va_S.rf, fun _ _ => Nat.le_refl _, hC0⟩
  have hR : (headSpec (Cond.code yJ9_floorMod_7cf53 cJ9_floorMod_7cf53 3 (some .int) :: w0c) (cRm 0 0 LB ll)).room.cells = cMc LB ll ∧ (headSpec (Cond.code yJ9_floorMod_7cf53 cJ9_floorMod_7cf53 3 (some .int) :: w0c) (cRm 0 0 LB ll)).room.slots = 2 * cMc LB ll := ⟨rfl, rfl⟩
  refine W.widen (k := cP LB ll - cP LB ll) (n := 2 * (cP LB ll - cP LB ll)) (Nat.zero_le _) (Nat.zero_le _) ?_
  have hl := lv_entry ([Iz (xa), Iz (ya)]) (n := 3) (Nat.le_of_ble_eq_true rfl)
  rw [lg_entry_eq]
  generalize (lg_sl ([Iz (xa), Iz (ya)]) ++ List.replicate (3 - (lg_sl ([Iz (xa), Iz (ya)])).length) Slot.unset).toArray = ls at hl ⊢
  have hl : lv_has ls 3 [(0, Iz (xa)), (1, Iz (ya))] := hl
  refine lv_iload_n hx hb dJ9_floorMod_7cf53_0 rfl (lv_at hl 0 rfl) ?_
  refine lv_iload_n hx hb dJ9_floorMod_7cf53_1 rfl (lv_at hl 1 rfl) ?_
  refine g_iremT hx hb (by first | assumption | exact ⟨by omega, by omega⟩) (by omega) (by omega) dJ9_floorMod_7cf53_2 ?_
  refine lv_istore_n (lv' := [(2, Iz (xa.tmod ya)), (0, Iz (xa)), (1, Iz (ya))]) hx hb dJ9_floorMod_7cf53_3 rfl hl (by decide) rfl (fun ls hl => ?_)
  refine lv_iload_n hx hb dJ9_floorMod_7cf53_4 rfl (lv_at hl 1 rfl) ?_
  refine lv_iload_n hx hb dJ9_floorMod_7cf53_5 rfl (lv_at hl 2 rfl) ?_
  refine g_ixorS hx hb (by first | assumption | exact ⟨by omega, by omega⟩) (by first | assumption | exact ⟨by omega, by omega⟩) dJ9_floorMod_7cf53_6 (fun w_6 b_6 h_6 => ?_)
  refine g_if_ge (tgt := 18) hx hb (by first | assumption | exact ⟨by omega, by omega⟩) dJ9_floorMod_7cf53_7 (by decide) (fun c_7 => ?_) (fun c_7 => ?_)
  · skip
    refine lv_iload_n hx hb dJ9_floorMod_7cf53_18 rfl (lv_at hl 0 rfl) ?_
    have hpost : X = X ∧ dd = dd ∧ nn = nn ∧ ss = ss ∧ ll = ll ∧ gg = gg ∧ (xa.tmod ya : Int) = xa % ya := ⟨rfl, rfl, rfl, rfl, rfl, rfl, by first | (rw [(td_neg y0 (by omega)).2, if_pos c_11]; done) | exact Int.tmod_eq_emod_of_nonneg (by omega)⟩
    exact c_iret hx hb hr hK hV hpost dJ9_floorMod_7cf53_19 hlocks
  · skip
    refine lv_iload_n hx hb dJ9_floorMod_7cf53_10 rfl (lv_at hl 0 rfl) ?_
    have tb := tm_bd (x := xa) y0
    refine g_if_eq (tgt := 18) hx hb (by first | assumption | exact ⟨by omega, by omega⟩) dJ9_floorMod_7cf53_11 (by decide) (fun c_11 => ?_) (fun c_11 => ?_)
    · skip
      refine lv_iload_n hx hb dJ9_floorMod_7cf53_18 rfl (lv_at hl 0 rfl) ?_
      have hpost : X = X ∧ dd = dd ∧ nn = nn ∧ ss = ss ∧ ll = ll ∧ gg = gg ∧ (xa.tmod ya : Int) = xa % ya := ⟨rfl, rfl, rfl, rfl, rfl, rfl, by first | (rw [(td_neg y0 (by omega)).2, if_pos c_11]; done) | exact Int.tmod_eq_emod_of_nonneg (by omega)⟩
      exact c_iret hx hb hr hK hV hpost dJ9_floorMod_7cf53_19 hlocks
    · skip
      refine lv_iload_n hx hb dJ9_floorMod_7cf53_14 rfl (lv_at hl 0 rfl) ?_
      refine lv_iload_n hx hb dJ9_floorMod_7cf53_15 rfl (lv_at hl 2 rfl) ?_
      refine g_iadd hx hb dJ9_floorMod_7cf53_16 ?_
      have hpost : X = X ∧ dd = dd ∧ nn = nn ∧ ss = ss ∧ ll = ll ∧ gg = gg ∧ ((xa.tmod ya) + ya : Int) = xa % ya := ⟨rfl, rfl, rfl, rfl, rfl, rfl, by rw [(td_neg y0 (by omega)).2, if_neg c_11]⟩
      exact c_iret hx hb hr hK hV hpost dJ9_floorMod_7cf53_17 hlocks
set_option maxHeartbeats 4000000 in
set_option maxRecDepth 100000 in
theorem kJ9_floorMod_f86c9 {l : Launch} {dC : Nat → ClassId} {dI : Nat → Nat → Nat} {cx : Nat → Nat} {LB : List Nat} {X : va_W} {dd : Nat → Nat} {nn ss : Nat → Int} {ll : Nat → Nat} {gg : Nat → Int → Int} {H0 : Heap} {xa ya : Int} (x0 : -9223372036854775808 ≤ xa) (x1 : xa < 9223372036854775808) (y0 : 0 < ya) (y1 : ya < 9223372036854775808) : Met l yJ9_floorMod_f86c9 (Cond.code yJ9_floorMod_f86c9 cJ9_floorMod_f86c9 6 (some .long) :: w0c) (cRm 0 0 LB ll) (cPc dC dI cx LB X dd nn ss ll gg H0 [Jz (xa), Jz (ya)]) (cQl dC dI cx LB (va_A (bW (cx 0) LB dd nn ss ll gg X) H0.size) ll H0 (fun z X' dd' nn' ss' ll' gg' => X' = X ∧ dd' = dd ∧ nn' = nn ∧ ss' = ss ∧ ll' = ll ∧ gg' = gg ∧ z = xa % ya)) (cMc LB ll) (2 * cMc LB ll) (va_A (bW (cx 0) LB dd nn ss ll gg X) H0.size) := by
  refine va_MetF (cc := cJ9_floorMod_f86c9) (maxL := 6) (ret := (some .long)) (by decide +kernel) rfl ?_
  intro p e s m args below meth c s₁ B hml hv
  obtain ⟨rfl, hH0, hP, hK, hD0, hC0⟩ := hv
  have hx := B.exec
  have hb := B.bytes
  have hr := B.returns
  have hts := atoms_spec (ws := Cond.code yJ9_floorMod_f86c9 cJ9_floorMod_f86c9 6 (some .long) :: w0c) B.pre
  have hown : s.vm.findClass RJ9 = some m.cls := findClass_of_methodNamed B.named
  have hlocks := B.notSynchronized
  have E : CallFix p m c cJ9_floorMod_f86c9 6 s _ (Cond.code yJ9_floorMod_f86c9 cJ9_floorMod_f86c9 6 (some .long) :: w0c) RJ9 := ⟨hx, hb, hml, hown, hts⟩
  subst hH0
  have hD := va_D.self (sz := s.heap.size) hD0
  have hA : ∀ q : Nat, s.heap.size ≤ q → va_A (bW (cx 0) LB dd nn ss ll gg X) s.heap.size q := fun q h => Or.inr h
  have hV : cV dC dI cx LB (va_A (bW (cx 0) LB dd nn ss ll gg X) s.heap.size) s.heap ll X dd nn ss ll gg s.heap [] := ⟨hP, hD, va_S.rf, fun _ _ => Nat.le_refl _, hC0⟩
  have hR : (headSpec (Cond.code yJ9_floorMod_f86c9 cJ9_floorMod_f86c9 6 (some .long) :: w0c) (cRm 0 0 LB ll)).room.cells = cMc LB ll ∧ (headSpec (Cond.code yJ9_floorMod_f86c9 cJ9_floorMod_f86c9 6 (some .long) :: w0c) (cRm 0 0 LB ll)).room.slots = 2 * cMc LB ll := ⟨rfl, rfl⟩
  refine W.widen (k := cP LB ll - cP LB ll) (n := 2 * (cP LB ll - cP LB ll)) (Nat.zero_le _) (Nat.zero_le _) ?_
  have hl := lv_entry ([Jz (xa), Jz (ya)]) (n := 6) (Nat.le_of_ble_eq_true rfl)
  rw [lg_entry_eq]
  generalize (lg_sl ([Jz (xa), Jz (ya)]) ++ List.replicate (6 - (lg_sl ([Jz (xa), Jz (ya)])).length) Slot.unset).toArray = ls at hl ⊢
  have hl : lv_has ls 6 [(0, Jz (xa)), (2, Jz (ya))] := hl
  refine lv_lload_n hx hb dJ9_floorMod_f86c9_0 rfl (lv_at hl 0 rfl) ?_
  refine lv_lload_n hx hb dJ9_floorMod_f86c9_1 rfl (lv_at hl 1 rfl) ?_
  refine g_lremT hx hb (by first | assumption | exact ⟨by omega, by omega⟩) (by omega) (by omega) dJ9_floorMod_f86c9_2 ?_
  refine lv_lstore (lv' := [(4, Jz (xa.tmod ya)), (0, Jz (xa)), (2, Jz (ya))]) hx hb dJ9_floorMod_f86c9_3 hl (by decide) rfl (fun ls hl => ?_)
  refine lv_lload_n hx hb dJ9_floorMod_f86c9_5 rfl (lv_at hl 1 rfl) ?_
  refine lv_lload_n hx hb dJ9_floorMod_f86c9_6 rfl (lv_at hl 2 rfl) ?_
  refine g_lxorS hx hb (by first | assumption | exact ⟨by omega, by omega⟩) (by first | assumption | exact ⟨by omega, by omega⟩) dJ9_floorMod_f86c9_7 (fun w_7 b_7 h_7 => ?_)
  refine lv_lconst (v := Int64.ofInt 0) hx hb dJ9_floorMod_f86c9_8 rfl ?_
  refine g_lcmp hx hb (by first | assumption | exact ⟨by omega, by omega⟩) (by first | assumption | exact ⟨by omega, by omega⟩) dJ9_floorMod_f86c9_9 ?_
  refine g_if_ge (tgt := 25) hx hb (g_cmp_i _ _) dJ9_floorMod_f86c9_10 (by decide) (fun c_10 => ?_) (fun c_10 => ?_)
  · skip
    skip
    refine lv_lload hx hb dJ9_floorMod_f86c9_25 (lv_at hl 0 rfl) ?_
    have hpost : X = X ∧ dd = dd ∧ nn = nn ∧ ss = ss ∧ ll = ll ∧ gg = gg ∧ (xa.tmod ya : Int) = xa % ya := ⟨rfl, rfl, rfl, rfl, rfl, rfl, by first | (rw [(td_neg y0 (by omega)).2, if_pos (g_cmp_eq.mp c_17)]; done) | exact Int.tmod_eq_emod_of_nonneg (by have := mt g_cmp_lt.mpr (show ¬ g_cmp w_7 0 < 0 by omega); omega)⟩
    exact c_lret hx hb hr hK hV hpost dJ9_floorMod_f86c9_27 hlocks
  · skip
    have tb := tm_bd (x := xa) y0
    have c10 : w_7 < 0 := g_cmp_lt.mp c_10
    refine lv_lload hx hb dJ9_floorMod_f86c9_13 (lv_at hl 0 rfl) ?_
    refine lv_lconst (v := Int64.ofInt 0) hx hb dJ9_floorMod_f86c9_15 rfl ?_
    refine g_lcmp hx hb (by first | assumption | exact ⟨by omega, by omega⟩) (by first | assumption | exact ⟨by omega, by omega⟩) dJ9_floorMod_f86c9_16 ?_
    refine g_if_eq (tgt := 25) hx hb (g_cmp_i _ _) dJ9_floorMod_f86c9_17 (by decide) (fun c_17 => ?_) (fun c_17 => ?_)
    · skip
      skip
      refine lv_lload hx hb dJ9_floorMod_f86c9_25 (lv_at hl 0 rfl) ?_
      have hpost : X = X ∧ dd = dd ∧ nn = nn ∧ ss = ss ∧ ll = ll ∧ gg = gg ∧ (xa.tmod ya : Int) = xa % ya := ⟨rfl, rfl, rfl, rfl, rfl, rfl, by first | (rw [(td_neg y0 (by omega)).2, if_pos (g_cmp_eq.mp c_17)]; done) | exact Int.tmod_eq_emod_of_nonneg (by have := mt g_cmp_lt.mpr (show ¬ g_cmp w_7 0 < 0 by omega); omega)⟩
      exact c_lret hx hb hr hK hV hpost dJ9_floorMod_f86c9_27 hlocks
    · skip
      refine lv_lload hx hb dJ9_floorMod_f86c9_20 (lv_at hl 0 rfl) ?_
      refine lv_lload_n hx hb dJ9_floorMod_f86c9_22 rfl (lv_at hl 2 rfl) ?_
      refine g_ladd hx hb dJ9_floorMod_f86c9_23 ?_
      have hpost : X = X ∧ dd = dd ∧ nn = nn ∧ ss = ss ∧ ll = ll ∧ gg = gg ∧ ((xa.tmod ya) + ya : Int) = xa % ya := ⟨rfl, rfl, rfl, rfl, rfl, rfl, by rw [(td_neg y0 (by omega)).2, if_neg (fun q_ => c_17 (g_cmp_eq.mpr q_))]⟩
      exact c_lret hx hb hr hK hV hpost dJ9_floorMod_f86c9_24 hlocks
