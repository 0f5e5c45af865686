section CTRows
theorem im_mask {x : Int} {k : Nat} (hk : k ≤ 31) : Int32.ofInt x &&& Int32.ofInt (2 ^ k - 1) = Int32.ofInt (x % 2 ^ k) := by
  apply Int32.toBitVec_inj.mp
  apply BitVec.eq_of_toNat_eq
  simp only [Int32.toBitVec_and, Int32.toBitVec_ofInt, BitVec.toNat_and, BitVec.toNat_ofInt]
  have hp : (2 : Nat) ^ k ≤ 2 ^ 31 := Nat.pow_le_pow_right (by decide) hk
  have hq : 1 ≤ (2 : Nat) ^ k := Nat.one_le_two_pow
  have e0 : ((2 : Int) ^ k) = ((2 ^ k : Nat) : Int) := by rw [Int.natCast_pow]; rfl
  have h2 : ((2 ^ 32 : Nat) : Int) = 4294967296 := by decide
  have h3 : (2 ^ 31 : Nat) = 2147483648 := by decide
  have h1 : (((2 : Int) ^ k - 1) % ((2 ^ 32 : Nat) : Int)).toNat = 2 ^ k - 1 := by
    rw [e0, h2, Int.emod_eq_of_lt (by omega) (by omega)]
    omega
  rw [h1, Nat.and_two_pow_sub_one_eq_mod, e0]
  have e1 : (((x % ((2 ^ 32 : Nat) : Int)).toNat % 2 ^ k : Nat) : Int) = x % ((2 ^ k : Nat) : Int) := by
    rw [Int.natCast_emod, Int.toNat_of_nonneg (Int.emod_nonneg _ (by rw [h2]; decide))]
    apply Int.emod_emod_of_dvd
    have : (2 ^ 32 : Nat) = 2 ^ k * 2 ^ (32 - k) := by rw [← Nat.pow_add]; congr 1; omega
    rw [this, Int.natCast_mul]
    exact Int.dvd_mul_right _ _
  have e2 : 0 ≤ x % ((2 ^ k : Nat) : Int) := Int.emod_nonneg _ (by omega)
  have e3 : x % ((2 ^ k : Nat) : Int) < ((2 ^ k : Nat) : Int) := Int.emod_lt_of_pos _ (by omega)
  rw [Int.emod_eq_of_lt e2 (by rw [h2]; omega)]
  omega
theorem lm_mask' {x : Int} : Int64.ofInt x &&& Int64.ofInt 1073741823 = Int64.ofInt (x % 1073741824) := by
  apply Int64.toBitVec_inj.mp
  apply BitVec.eq_of_toNat_eq
  simp only [Int64.toBitVec_and, Int64.toBitVec_ofInt, BitVec.toNat_and, BitVec.toNat_ofInt]
  have h1 : ((1073741823 : Int) % ((2 ^ 64 : Nat) : Int)).toNat = 2 ^ 30 - 1 := by decide
  rw [h1, Nat.and_two_pow_sub_one_eq_mod]
  have h2 : ((2 ^ 64 : Nat) : Int) = 18446744073709551616 := by decide
  have h3 : (2 ^ 30 : Nat) = 1073741824 := by decide
  rw [h2, h3]
  omega
theorem im_ushr {x k : Int} (hx0 : 0 ≤ x) (hx1 : x < 2147483648) (h0 : 0 ≤ k) (h1 : k < 32) : ((Int32.ofInt x).toUInt32 >>> ((Int32.ofInt k).toUInt32 &&& Int32.toUInt32 31)).toInt32 = Int32.ofInt (x / 2 ^ k.toNat) := by
  apply Int32.toBitVec_inj.mp
  apply BitVec.eq_of_toNat_eq
  have hs : ∀ j : Fin 32, ((Int32.ofInt (j.val : Int)).toUInt32 &&& Int32.toUInt32 31) = UInt32.ofNat j.val := by decide +kernel
  have hk : ((Int32.ofInt k).toUInt32 &&& Int32.toUInt32 31) = UInt32.ofNat k.toNat := by
    have h := hs ⟨k.toNat, by omega⟩
    have e : ((k.toNat : Nat) : Int) = k := Int.toNat_of_nonneg h0
    simpa [e] using h
  rw [hk]
  show ((Int32.ofInt x).toUInt32 >>> UInt32.ofNat k.toNat).toNat = (BitVec.ofInt 32 (x / 2 ^ k.toNat)).toNat
  rw [UInt32.toNat_shiftRight]
  have e1 : (Int32.ofInt x).toUInt32.toNat = x.toNat := by
    show (BitVec.ofInt 32 x).toNat = _
    rw [BitVec.toNat_ofInt]
    have h2 : ((2 ^ 32 : Nat) : Int) = 4294967296 := by decide
    rw [h2, Int.emod_eq_of_lt hx0 (by omega)]
  have e2 : (UInt32.ofNat k.toNat).toNat % 32 = k.toNat := by
    rw [UInt32.toNat_ofNat']
    have : k.toNat < 32 := by omega
    rw [Nat.mod_eq_of_lt (Nat.lt_of_lt_of_le this (by decide : 32 ≤ 2 ^ 32)), Nat.mod_eq_of_lt this]
  rw [e1, e2, Nat.shiftRight_eq_div_pow, BitVec.toNat_ofInt]
  have h2 : ((2 ^ 32 : Nat) : Int) = 4294967296 := by decide
  have hp : (0 : Int) < 2 ^ k.toNat := Int.pow_pos (by decide)
  have h4 : 0 ≤ x / 2 ^ k.toNat := Int.ediv_nonneg hx0 (by omega)
  have h5 : x / 2 ^ k.toNat ≤ x := Int.ediv_le_self _ hx0
  rw [h2, Int.emod_eq_of_lt h4 (by omega)]
  have e3 : ((x.toNat / 2 ^ k.toNat : Nat) : Int) = x / 2 ^ k.toNat := by
    rw [Int.natCast_ediv, Int.toNat_of_nonneg hx0, Int.natCast_pow]; rfl
  rw [← e3]; rfl
theorem im_or {a b : Int} {k : Nat} (ha0 : 0 ≤ a) (ha : a < 2 ^ k) (hb0 : 0 ≤ b) (hm : b % 2 ^ k = 0) (hs : a + b < 4294967296) : Int32.ofInt a ||| Int32.ofInt b = Int32.ofInt (a + b) := by
  apply Int32.toBitVec_inj.mp
  apply BitVec.eq_of_toNat_eq
  simp only [Int32.toBitVec_or, Int32.toBitVec_ofInt, BitVec.toNat_or, BitVec.toNat_ofInt]
  have h2 : ((2 ^ 32 : Nat) : Int) = 4294967296 := by decide
  rw [h2, Int.emod_eq_of_lt ha0 (by omega), Int.emod_eq_of_lt hb0 (by omega), Int.emod_eq_of_lt (by omega) hs]
  obtain ⟨c, hc⟩ : ∃ c : Int, b = 2 ^ k * c := Int.dvd_of_emod_eq_zero hm
  have hp : (0 : Int) < 2 ^ k := Int.pow_pos (by decide)
  have hc0 : 0 ≤ c := by
    rcases Int.lt_or_le c 0 with q | q
    · have : 2 ^ k * c < 0 := Int.mul_neg_of_pos_of_neg hp q
      omega
    · exact q
  have e1 : b.toNat = 2 ^ k * c.toNat := by
    have : (b.toNat : Int) = ((2 ^ k * c.toNat : Nat) : Int) := by
      rw [Int.toNat_of_nonneg hb0, Int.natCast_mul, Int.toNat_of_nonneg hc0, Int.natCast_pow, hc]; rfl
    exact Int.ofNat.inj this
  have e2 : a.toNat < 2 ^ k := by
    have : (a.toNat : Int) < ((2 ^ k : Nat) : Int) := by
      rw [Int.toNat_of_nonneg ha0, Int.natCast_pow]; exact ha
    exact Int.ofNat_lt.mp this
  rw [e1, Nat.or_comm, ← Nat.two_pow_add_eq_or_of_lt e2]
  omega
variable {p : Program} {l : Launch} {e : Env} {R : Room} {s : State} {m : MethodId} {args : Array Value} {below : List Frame} {meth : Method} {c : Code} {H : Heap} {locs : List Loc} {cells slots : Nat} {Q : State → Prop}
variable {cc : ByteArray} {pc nL : Nat} {ls : Array Slot} {rest : List Value} {dC : Nat → ClassId} {dI : Nat → Nat → Nat} {cx : Nat → Nat} {LB : List Nat} {A : Nat → Prop} {H0 : Heap} {ll0 : Nat → Nat} {X : va_W} {dd : Nat → Nat} {nn ss : Nat → Int} {ll : Nat → Nat} {gg : Nat → Int → Int} {c0 : Cond} {own : String} {b index : Nat}
theorem g_iand30 (hx : p.tables.exec = Jvm.exec) (hb : c.code = cc) {x : Int} (hd : decode cc pc = .ok (.iand, 1)) (k : W p l e R s m args below meth c H locs cells slots Q (F0 m (pc + 1) ls (Iz (x % 1073741824) :: rest))) : W p l e R s m args below meth c H locs cells slots Q (F0 m pc ls (Iz 1073741823 :: Iz x :: rest)) :=
  lv_iand hx hb hd (by
    have h : Int32.ofInt x &&& Int32.ofInt 1073741823 = Int32.ofInt (x % 1073741824) := im_mask (x := x) (k := 30) (by decide)
    rw [h]; exact k)
theorem g_iand1 (hx : p.tables.exec = Jvm.exec) (hb : c.code = cc) {x : Int} (hd : decode cc pc = .ok (.iand, 1)) (k : W p l e R s m args below meth c H locs cells slots Q (F0 m (pc + 1) ls (Iz (x % 2) :: rest))) : W p l e R s m args below meth c H locs cells slots Q (F0 m pc ls (Iz 1 :: Iz x :: rest)) :=
  lv_iand hx hb hd (by
    have h : Int32.ofInt x &&& Int32.ofInt 1 = Int32.ofInt (x % 2) := im_mask (x := x) (k := 1) (by decide)
    rw [h]; exact k)
theorem g_iandK (hx : p.tables.exec = Jvm.exec) (hb : c.code = cc) {x y : Int} {j : Nat} (hj : j ≤ 31) (hy : y = 2 ^ j - 1) (hd : decode cc pc = .ok (.iand, 1)) (k : W p l e R s m args below meth c H locs cells slots Q (F0 m (pc + 1) ls (Iz (x % 2 ^ j) :: rest))) : W p l e R s m args below meth c H locs cells slots Q (F0 m pc ls (Iz y :: Iz x :: rest)) :=
  lv_iand hx hb hd (by rw [hy, im_mask hj]; exact k)
theorem g_land30 (hx : p.tables.exec = Jvm.exec) (hb : c.code = cc) {x : Int} (hd : decode cc pc = .ok (.land, 1)) (k : W p l e R s m args below meth c H locs cells slots Q (F0 m (pc + 1) ls (Jz (x % 1073741824) :: rest))) : W p l e R s m args below meth c H locs cells slots Q (F0 m pc ls (Jz 1073741823 :: Jz x :: rest)) :=
  lv_land hx hb hd (by rw [lm_mask']; exact k)
theorem g_iushr (hx : p.tables.exec = Jvm.exec) (hb : c.code = cc) {x y : Int} (hx0 : 0 ≤ x) (hx1 : x < 2147483648) (h0 : 0 ≤ y) (h1 : y < 32) (hd : decode cc pc = .ok (.iushr, 1)) (k : W p l e R s m args below meth c H locs cells slots Q (F0 m (pc + 1) ls (Iz (x / 2 ^ y.toNat) :: rest))) : W p l e R s m args below meth c H locs cells slots Q (F0 m pc ls (Iz y :: Iz x :: rest)) :=
  lv_iushr hx hb hd (im_ushr hx0 hx1 h0 h1) k
theorem g_ior (hx : p.tables.exec = Jvm.exec) (hb : c.code = cc) {x y : Int} (h : Int32.ofInt x ||| Int32.ofInt y = Int32.ofInt (x + y)) (hd : decode cc pc = .ok (.ior, 1)) (k : W p l e R s m args below meth c H locs cells slots Q (F0 m (pc + 1) ls (Iz (x + y) :: rest))) : W p l e R s m args below meth c H locs cells slots Q (F0 m pc ls (Iz y :: Iz x :: rest)) :=
  lv_ior hx hb hd (by rw [h]; exact k)
theorem g_ineg (hx : p.tables.exec = Jvm.exec) (hb : c.code = cc) {x : Int} (hd : decode cc pc = .ok (.ineg, 1)) (k : W p l e R s m args below meth c H locs cells slots Q (F0 m (pc + 1) ls (Iz (-x) :: rest))) : W p l e R s m args below meth c H locs cells slots Q (F0 m pc ls (Iz x :: rest)) :=
  lv_ineg hx hb hd (by
    have h : -Int32.ofInt x = Int32.ofInt (-x) := (Int32.ofInt_neg x).symm
    rw [h]; exact k)
theorem g_lneg (hx : p.tables.exec = Jvm.exec) (hb : c.code = cc) {x : Int} (hd : decode cc pc = .ok (.lneg, 1)) (k : W p l e R s m args below meth c H locs cells slots Q (F0 m (pc + 1) ls (Jz (-x) :: rest))) : W p l e R s m args below meth c H locs cells slots Q (F0 m pc ls (Jz x :: rest)) :=
  lv_lneg hx hb hd (by
    have h : -Int64.ofInt x = Int64.ofInt (-x) := (Int64.ofInt_neg x).symm
    rw [h]; exact k)
theorem g_max (E : CallFix p m c cc nL s args (c0 :: w0c) own) (hls : ls.size = nL) (hlink : Cond.methodLink own index Lib.Math.max.name ∈ w0c) (hfr : 1 ≤ R.frames) (hlo : (rest.map fun v => v.category).sum + 13 ≤ R.locals) (hc : cells ≤ R.cells) (hs : slots ≤ R.slots) {x y : Int} (hx : g_i x) (hy : g_i y) (hd : decode cc pc = .ok (.invokestatic index, 3)) (kk : W p l e R s m args below meth c H locs cells slots Q (F0 m (pc + 3) ls (Iz (if x < y then y else x) :: rest))) : W p l e R s m args below meth c H locs cells slots Q (F0 m pc ls (Iz y :: Iz x :: rest)) := by
  have hw : ∀ w ∈ w0c, w.before args s = true := fun w h => E.2.2.2.2 w (List.mem_cons_of_mem _ h)
  refine va_mmax E.1 E.2.1 (E.2.2.1.trans hls.symm) E.2.2.2.1 (hw _ hlink) (hw _ ct_Lib_Math_max_name) (hw _ cn_java_lang_Math) (hw _ cc_Lib_Math_max_name) hfr hlo hc hs hd ?_
  have h : (if Int32.ofInt x < Int32.ofInt y then Int32.ofInt y else Int32.ofInt x) = Int32.ofInt (if x < y then y else x) := by
    by_cases q : x < y
    · rw [if_pos q, if_pos ((g_lt hx hy).mpr q)]
    · rw [if_neg q, if_neg (fun z => q ((g_lt hx hy).mp z))]
  rw [h]
  exact kk
theorem g_min (E : CallFix p m c cc nL s args (c0 :: w0c) own) (hls : ls.size = nL) (hlink : Cond.methodLink own index Lib.Math.min.name ∈ w0c) (hfr : 1 ≤ R.frames) (hlo : (rest.map fun v => v.category).sum + 13 ≤ R.locals) (hc : cells ≤ R.cells) (hs : slots ≤ R.slots) {x y : Int} (hx : g_i x) (hy : g_i y) (hd : decode cc pc = .ok (.invokestatic index, 3)) (kk : W p l e R s m args below meth c H locs cells slots Q (F0 m (pc + 3) ls (Iz (if y < x then y else x) :: rest))) : W p l e R s m args below meth c H locs cells slots Q (F0 m pc ls (Iz y :: Iz x :: rest)) := by
  have hw : ∀ w ∈ w0c, w.before args s = true := fun w h => E.2.2.2.2 w (List.mem_cons_of_mem _ h)
  refine va_mmin E.1 E.2.1 (E.2.2.1.trans hls.symm) E.2.2.2.1 (hw _ hlink) (hw _ ct_Lib_Math_min_name) (hw _ cn_java_lang_Math) (hw _ cc_Lib_Math_min_name) hfr hlo hc hs hd ?_
  have h : (if Int32.ofInt y < Int32.ofInt x then Int32.ofInt y else Int32.ofInt x) = Int32.ofInt (if y < x then y else x) := by
    by_cases q : y < x
    · rw [if_pos q, if_pos ((g_lt hy hx).mpr q)]
    · rw [if_neg q, if_neg (fun z => q ((g_lt hy hx).mp z))]
  rw [h]
  exact kk
theorem g_abs (E : CallFix p m c cc nL s args (c0 :: w0c) own) (hls : ls.size = nL) (hlink : Cond.methodLink own index Lib.Math.abs.name ∈ w0c) (hfr : 1 ≤ R.frames) (hlo : (rest.map fun v => v.category).sum + 13 ≤ R.locals) (hc : cells ≤ R.cells) (hs : slots ≤ R.slots) {x : Int} (hx : g_i x) (hd : decode cc pc = .ok (.invokestatic index, 3)) (kk : W p l e R s m args below meth c H locs cells slots Q (F0 m (pc + 3) ls (Iz (if 0 ≤ x then x else 0 - x) :: rest))) : W p l e R s m args below meth c H locs cells slots Q (F0 m pc ls (Iz x :: rest)) := by
  have hw : ∀ w ∈ w0c, w.before args s = true := fun w h => E.2.2.2.2 w (List.mem_cons_of_mem _ h)
  refine va_mabs E.1 E.2.1 (E.2.2.1.trans hls.symm) E.2.2.2.1 (hw _ hlink) (hw _ ct_Lib_Math_abs_name) (hw _ cn_java_lang_Math) (hw _ cc_Lib_Math_abs_name) hfr hlo hc hs hd ?_
  have h : (if 0 ≤ Int32.ofInt x then Int32.ofInt x else 0 - Int32.ofInt x) = Int32.ofInt (if 0 ≤ x then x else 0 - x) := by
    show (if Int32.ofInt 0 ≤ Int32.ofInt x then Int32.ofInt x else Int32.ofInt 0 - Int32.ofInt x) = _
    by_cases q : 0 ≤ x
    · rw [if_pos q, if_pos ((g_le g_0 hx).mpr q)]
    · rw [if_neg q, if_neg (fun z => q ((g_le g_0 hx).mp z)), Int32.ofInt_sub]
  rw [h]
  exact kk
theorem g_minL (E : CallFix p m c cc nL s args (c0 :: w0c) own) (hls : ls.size = nL) (hlink : Cond.methodLink own index Lib.MathLoose.min_long.x ∈ w0c) (hfr : 1 ≤ R.frames) (hlo : (rest.map fun v => v.category).sum + 15 ≤ R.locals) (hc : cells ≤ R.cells) (hs : slots ≤ R.slots) {x y : Int} (hx : g_j x) (hy : g_j y) (hd : decode cc pc = .ok (.invokestatic index, 3)) (kk : W p l e R s m args below meth c H locs cells slots Q (F0 m (pc + 3) ls (Jz (if y < x then y else x) :: rest))) : W p l e R s m args below meth c H locs cells slots Q (F0 m pc ls (Jz y :: Jz x :: rest)) := by
  have hw : ∀ w ∈ w0c, w.before args s = true := fun w h => E.2.2.2.2 w (List.mem_cons_of_mem _ h)
  refine va_mmin_long E.1 E.2.1 (E.2.2.1.trans hls.symm) E.2.2.2.1 (hw _ hlink) (hw _ ct_Lib_MathLoose_min_long_x) (hw _ cn_java_lang_Math) (hw _ cc_Lib_MathLoose_min_long_x) hfr hlo hc hs hd ?_
  have h : (if Int64.ofInt y < Int64.ofInt x then Int64.ofInt y else Int64.ofInt x) = Int64.ofInt (if y < x then y else x) := by
    by_cases q : y < x
    · rw [if_pos q, if_pos ((g_ltL hy hx).mpr q)]
    · rw [if_neg q, if_neg (fun z => q ((g_ltL hy hx).mp z))]
  rw [h]
  exact kk
/-- 0 or less room: what a row of Math asks -/
theorem c_room (hV : cV dC dI cx LB A H0 ll0 X dd nn ss ll gg H locs) (hR : R.cells = cMc LB ll0 ∧ R.slots = 2 * cMc LB ll0) : cP LB ll - cP LB ll0 ≤ R.cells ∧ 2 * (cP LB ll - cP LB ll0) ≤ R.slots := by
  have h5 := cV_bd hV
  rw [hR.1, hR.2]
  unfold cMc
  omega
-- the numbers' rows, the world told anew
theorem t_getd (E : CallFix p m c cc nL s args (c0 :: w0c) own) (hK : va_K (dC, dI) ccl (cty cx) s) (hV : cV dC dI cx LB A H0 ll0 X dd nn ss ll gg H locs) (hb : b ∈ LB) {v : Nat} (he : dd b = v) (hlink : Cond.fieldLink own index RX0 "d" "[I" ∈ w0c) (hd : decode cc pc = .ok (.getfield index, 3)) (kk : W p l e R s m args below meth c H locs cells slots Q (F0 m (pc + 3) ls (.ref v :: rest))) : W p l e R s m args below meth c H locs cells slots Q (F0 m pc ls (.ref b :: rest)) := b_getd E hK hV hb hlink hd (by rw [he]; exact kk)
theorem t_getn (E : CallFix p m c cc nL s args (c0 :: w0c) own) (hK : va_K (dC, dI) ccl (cty cx) s) (hV : cV dC dI cx LB A H0 ll0 X dd nn ss ll gg H locs) (hb : b ∈ LB) {v : Int} (he : nn b = v) (hlink : Cond.fieldLink own index RX0 "n" "I" ∈ w0c) (hd : decode cc pc = .ok (.getfield index, 3)) (kk : W p l e R s m args below meth c H locs cells slots Q (F0 m (pc + 3) ls (Iz v :: rest))) : W p l e R s m args below meth c H locs cells slots Q (F0 m pc ls (.ref b :: rest)) := b_getn E hK hV hb hlink hd (by rw [he]; exact kk)
theorem t_gets (E : CallFix p m c cc nL s args (c0 :: w0c) own) (hK : va_K (dC, dI) ccl (cty cx) s) (hV : cV dC dI cx LB A H0 ll0 X dd nn ss ll gg H locs) (hb : b ∈ LB) {v : Int} (he : ss b = v) (hlink : Cond.fieldLink own index RX0 "s" "I" ∈ w0c) (hd : decode cc pc = .ok (.getfield index, 3)) (kk : W p l e R s m args below meth c H locs cells slots Q (F0 m (pc + 3) ls (Iz v :: rest))) : W p l e R s m args below meth c H locs cells slots Q (F0 m pc ls (.ref b :: rest)) := b_gets E hK hV hb hlink hd (by rw [he]; exact kk)
theorem t_putn (E : CallFix p m c cc nL s args (c0 :: w0c) own) (hK : va_K (dC, dI) ccl (cty cx) s) (hV : cV dC dI cx LB A H0 ll0 X dd nn ss ll gg H locs) (hb : b ∈ LB) {v : Int} {nf : Nat → Int} (he : va_up nn b v = nf) (hlink : Cond.fieldLink own index RX0 "n" "I" ∈ w0c) (hd : decode cc pc = .ok (.putfield index, 3)) (kk : ∀ (H1 : Heap) (locs1 : List Loc), cV dC dI cx LB A H0 ll0 X dd nf ss ll gg H1 locs1 → W p l e R s m args below meth c H1 locs1 cells slots Q (F0 m (pc + 3) ls rest)) : W p l e R s m args below meth c H locs cells slots Q (F0 m pc ls (Iz v :: .ref b :: rest)) := by
  subst he
  exact b_putn E hK hV hb hlink hd kk
theorem t_puts (E : CallFix p m c cc nL s args (c0 :: w0c) own) (hK : va_K (dC, dI) ccl (cty cx) s) (hV : cV dC dI cx LB A H0 ll0 X dd nn ss ll gg H locs) (hb : b ∈ LB) {v : Int} {nf : Nat → Int} (he : va_up ss b v = nf) (hlink : Cond.fieldLink own index RX0 "s" "I" ∈ w0c) (hd : decode cc pc = .ok (.putfield index, 3)) (kk : ∀ (H1 : Heap) (locs1 : List Loc), cV dC dI cx LB A H0 ll0 X dd nn nf ll gg H1 locs1 → W p l e R s m args below meth c H1 locs1 cells slots Q (F0 m (pc + 3) ls rest)) : W p l e R s m args below meth c H locs cells slots Q (F0 m pc ls (Iz v :: .ref b :: rest)) := by
  subst he
  exact b_puts E hK hV hb hlink hd kk
theorem t_putd (E : CallFix p m c cc nL s args (c0 :: w0c) own) (hK : va_K (dC, dI) ccl (cty cx) s) {q0 N : Nat} {f : Int → Int} (hV : cV dC dI cx LB A H0 ll0 (X ++ [(q0, .inl (cx 0, N, .inl (im f)))]) dd nn ss ll gg H locs) (hb : b ∈ LB) {df : Nat → Nat} {lf : Nat → Nat} {gf : Nat → Int → Int} (h1 : va_up dd b q0 = df) (h2 : va_up ll b N = lf) (h3 : va_up gg b f = gf) (hN : 2 * ll b ≤ N) (hM : N ≤ 400) (hlink : Cond.fieldLink own index RX0 "d" "[I" ∈ w0c) (hd : decode cc pc = .ok (.putfield index, 3)) (kk : ∀ (H1 : Heap) (locs1 : List Loc), cV dC dI cx LB A H0 ll0 X df nn ss lf gf H1 locs1 → W p l e R s m args below meth c H1 locs1 (cP LB lf - cP LB ll0) (2 * (cP LB lf - cP LB ll0)) Q (F0 m (pc + 3) ls rest)) : W p l e R s m args below meth c H locs (cP LB ll - cP LB ll0 + 1) (2 * (cP LB ll - cP LB ll0) + N) Q (F0 m pc ls (.ref q0 :: .ref b :: rest)) := by
  subst h1; subst h2; subst h3
  exact b_putd E hK hV hb hN hM hlink hd kk
theorem t_ald (hx : p.tables.exec = Jvm.exec) (hc : c.code = cc) (hK : va_K (dC, dI) ccl (cty cx) s) (hV : cV dC dI cx LB A H0 ll0 X dd nn ss ll gg H locs) (hb : b ∈ LB) {d : Nat} {z v : Int} (he : dd b = d) (hv : gg b z = v) {kb : Nat} (el : ll b = kb) (h0 : 0 ≤ z) (h1 : z < kb) (hd : decode cc pc = .ok (.iaload, 1)) (kk : W p l e R s m args below meth c H locs cells slots Q (F0 m (pc + 1) ls (Iz v :: rest))) : W p l e R s m args below meth c H locs cells slots Q (F0 m pc ls (Iz z :: .ref d :: rest)) := by
  subst he; subst el
  exact b_ald hx hc hK hV hb h0 h1 hd (by rw [hv]; exact kk)
theorem t_ast (hx : p.tables.exec = Jvm.exec) (hc : c.code = cc) (hK : va_K (dC, dI) ccl (cty cx) s) (hV : cV dC dI cx LB A H0 ll0 X dd nn ss ll gg H locs) (hb : b ∈ LB) {d : Nat} {z v : Int} {gf : Nat → Int → Int} (he : dd b = d) (hg : va_up gg b (iup (gg b) z v) = gf) {kb : Nat} (el : ll b = kb) (h0 : 0 ≤ z) (h1 : z < kb) (hd : decode cc pc = .ok (.iastore, 1)) (kk : ∀ (H1 : Heap) (locs1 : List Loc), cV dC dI cx LB A H0 ll0 X dd nn ss ll gf H1 locs1 → W p l e R s m args below meth c H1 locs1 cells slots Q (F0 m (pc + 1) ls rest)) : W p l e R s m args below meth c H locs cells slots Q (F0 m pc ls (Iz v :: Iz z :: .ref d :: rest)) := by
  subst he; subst hg; subst el
  exact b_ast hx hc hK hV hb h0 h1 hd kk
theorem t_len (hx : p.tables.exec = Jvm.exec) (hc : c.code = cc) (hK : va_K (dC, dI) ccl (cty cx) s) (hV : cV dC dI cx LB A H0 ll0 X dd nn ss ll gg H locs) (hb : b ∈ LB) {d n : Nat} (he : dd b = d) (hn : ll b = n) (hd : decode cc pc = .ok (.arraylength, 1)) (kk : W p l e R s m args below meth c H locs cells slots Q (F0 m (pc + 1) ls (Iz (n : Int) :: rest))) : W p l e R s m args below meth c H locs cells slots Q (F0 m pc ls (.ref d :: rest)) := by
  subst he; subst hn
  exact b_len hx hc hK hV hb hd kk
theorem t_new (E : CallFix p m c cc nL s args (c0 :: w0c) own) (hK : va_K (dC, dI) ccl (cty cx) s) (hV : cV dC dI cx LB A s.heap ll0 X dd nn ss ll gg H locs) (hA : ∀ q, s.heap.size ≤ q → A q) (hR : R.cells = cMc LB ll0 ∧ R.slots = 2 * cMc LB ll0) (b : Nat) (hb : b ∈ LB) {z : Int} (h0 : 2 * (ll b : Int) ≤ z) (h1 : z ≤ 400) (hd : decode cc pc = .ok (.newarray .int, 2)) (kk : ∀ (q0 : Nat) (H1 : Heap), cV dC dI cx LB A s.heap ll0 (X ++ [(q0, .inl (cx 0, z.toNat, .inl (im (fun _ => 0))))]) dd nn ss ll gg H1 locs → W p l e R s m args below meth c H1 locs (cP LB ll - cP LB ll0 + 1) (2 * (cP LB ll - cP LB ll0) + z.toNat) Q (F0 m (pc + 2) ls (.ref q0 :: rest))) : W p l e R s m args below meth c H locs (cP LB ll - cP LB ll0) (2 * (cP LB ll - cP LB ll0)) Q (F0 m pc ls (Iz z :: rest)) := by
  have h2 := cP_up (ll := ll) (N := z.toNat) (cV_nd hV) hb
  have h3 := (hV.2.2.2.2 b hb).1
  have h4 : cP LB (va_up ll b z.toNat) ≤ LB.length * 400 := cP_le fun x hx => by
    by_cases q : x = b
    · subst q; rw [va_up_self]; omega
    · rw [va_up_ne _ _ q]; exact (hV.2.2.2.2 x hx).2
  have h5 := cV_bd hV
  refine b_new E hK hV hA (by omega) h1 (by rw [hR.1]; unfold cMc; omega) (by rw [hR.2]; unfold cMc; omega) hd kk
end CTRows
