section GBits
theorem lm_mask (x : Int) : Int64.ofInt x &&& Int64.ofInt 2147483647 = Int64.ofInt (x % 2147483648) := by
  apply Int64.toBitVec_inj.mp
  apply BitVec.eq_of_toNat_eq
  simp only [Int64.toBitVec_and, Int64.toBitVec_ofInt, BitVec.toNat_and, BitVec.toNat_ofInt]
  have h1 : ((2147483647 : Int) % ((2 ^ 64 : Nat) : Int)).toNat = 2 ^ 31 - 1 := by decide
  rw [h1, Nat.and_two_pow_sub_one_eq_mod]
  have h2 : ((2 ^ 64 : Nat) : Int) = 18446744073709551616 := by decide
  have h3 : (2 ^ 31 : Nat) = 2147483648 := by decide
  rw [h2, h3]
  omega
theorem lm_sm : ∀ k : Fin 64, ((((Int32.ofInt (k.val : Int)).toInt64 &&& 63).toBitVec).smod 64) = BitVec.ofNat 64 k.val := by decide +kernel
theorem lm_sm' {k : Int} (h0 : 0 ≤ k) (h1 : k < 64) : ((((Int32.ofInt k).toInt64 &&& 63).toBitVec).smod 64) = BitVec.ofNat 64 k.toNat := by
  have h := lm_sm ⟨k.toNat, by omega⟩
  have e : ((k.toNat : Nat) : Int) = k := Int.toNat_of_nonneg h0
  simpa [e] using h
theorem lm_shr {x k : Int} (h : g_j x) (h0 : 0 ≤ k) (h1 : k < 64) : Int64.ofInt x >>> ((Int32.ofInt k).toInt64 &&& 63) = Int64.ofInt (x / 2 ^ k.toNat) := by
  have hp : (0 : Int) < 2 ^ k.toNat := Int.pow_pos (by decide)
  have hb : g_j (x / 2 ^ k.toNat) := by
    constructor
    · rcases Int.lt_or_le x 0 with q | q
      · have h2 : x ≤ x / 2 ^ k.toNat := by
          apply Int.le_ediv_of_mul_le hp
          have : x * 2 ^ k.toNat ≤ x * 1 := Int.mul_le_mul_of_nonpos_left (by omega) (by omega)
          omega
        have := h.1; omega
      · have h2 : 0 ≤ x / 2 ^ k.toNat := Int.ediv_nonneg q (by omega)
        omega
    · have h2 : x / 2 ^ k.toNat < 9223372036854775808 := by
        apply Int.ediv_lt_of_lt_mul hp
        have h3 : (9223372036854775808 : Int) * 1 ≤ 9223372036854775808 * 2 ^ k.toNat := Int.mul_le_mul_of_nonneg_left (by omega) (by omega)
        have := h.2; omega
      exact h2
  apply Int64.toInt_inj.mp
  rw [g_toIntL hb]
  show ((BitVec.ofInt 64 x).sshiftRight' ((((Int32.ofInt k).toInt64 &&& 63).toBitVec).smod 64)).toInt = _
  rw [lm_sm' h0 h1]
  show ((BitVec.ofInt 64 x).sshiftRight (BitVec.ofNat 64 k.toNat).toNat).toInt = _
  rw [BitVec.toInt_sshiftRight]
  have e1 : (BitVec.ofInt 64 x).toInt = x := g_toIntL h
  have e2 : (BitVec.ofNat 64 k.toNat).toNat = k.toNat := by
    rw [BitVec.toNat_ofNat]
    exact Nat.mod_eq_of_lt (Nat.lt_of_lt_of_le (show k.toNat < 64 by omega) (by decide))
  rw [e1, e2, Int.shiftRight_eq_div_pow]
  simp
theorem lm_shl {x k : Int} (h0 : 0 ≤ k) (h1 : k < 64) : Int64.ofInt x <<< ((Int32.ofInt k).toInt64 &&& 63) = Int64.ofInt (x * 2 ^ k.toNat) := by
  apply Int64.toBitVec_inj.mp
  show (BitVec.ofInt 64 x) <<< ((((Int32.ofInt k).toInt64 &&& 63).toBitVec).smod 64) = BitVec.ofInt 64 (x * 2 ^ k.toNat)
  rw [lm_sm' h0 h1]
  apply BitVec.eq_of_toNat_eq
  have e2 : (BitVec.ofNat 64 k.toNat).toNat = k.toNat := by
    rw [BitVec.toNat_ofNat]
    exact Nat.mod_eq_of_lt (Nat.lt_of_lt_of_le (show k.toNat < 64 by omega) (by decide))
  rw [BitVec.shiftLeft_eq', BitVec.toNat_shiftLeft, e2, BitVec.toNat_ofInt, BitVec.toNat_ofInt, Nat.shiftLeft_eq]
  have hM : (0 : Int) < ((2 ^ 64 : Nat) : Int) := by decide
  have e3 : ((((x % ((2 ^ 64 : Nat) : Int)).toNat * 2 ^ k.toNat) % 2 ^ 64 : Nat) : Int) = x * 2 ^ k.toNat % ((2 ^ 64 : Nat) : Int) := by
    rw [Int.natCast_emod, Int.natCast_mul, Int.toNat_of_nonneg (Int.emod_nonneg _ (by omega)), Int.natCast_pow]
    rw [Int.mul_emod, Int.emod_emod, ← Int.mul_emod]
    rfl
  rw [← e3]
  rfl
theorem lm_ushr {x k : Int} (hx0 : 0 ≤ x) (hx1 : x < 18446744073709551616) (h0 : 0 ≤ k) (h1 : k < 64) : ((Int64.ofInt x).toUInt64 >>> ((Int32.ofInt k).toInt64.toUInt64 &&& Int64.toUInt64 63)).toInt64 = Int64.ofInt (x / 2 ^ k.toNat) := by
  apply Int64.toBitVec_inj.mp
  apply BitVec.eq_of_toNat_eq
  have hs : ∀ j : Fin 64, ((Int32.ofInt (j.val : Int)).toInt64.toUInt64 &&& Int64.toUInt64 63) = UInt64.ofNat j.val := by decide +kernel
  have hk : ((Int32.ofInt k).toInt64.toUInt64 &&& Int64.toUInt64 63) = UInt64.ofNat k.toNat := by
    have h := hs ⟨k.toNat, by omega⟩
    have e : ((k.toNat : Nat) : Int) = k := Int.toNat_of_nonneg h0
    simpa [e] using h
  rw [hk]
  show ((Int64.ofInt x).toUInt64 >>> UInt64.ofNat k.toNat).toNat = (BitVec.ofInt 64 (x / 2 ^ k.toNat)).toNat
  rw [UInt64.toNat_shiftRight]
  have e1 : (Int64.ofInt x).toUInt64.toNat = x.toNat := by
    show (BitVec.ofInt 64 x).toNat = _
    rw [BitVec.toNat_ofInt]
    have h2 : ((2 ^ 64 : Nat) : Int) = 18446744073709551616 := by decide
    rw [h2, Int.emod_eq_of_lt hx0 hx1]
  have e2 : (UInt64.ofNat k.toNat).toNat % 64 = k.toNat := by
    rw [UInt64.toNat_ofNat']
    have : k.toNat < 64 := by omega
    rw [Nat.mod_eq_of_lt (Nat.lt_of_lt_of_le this (by decide : 64 ≤ 2 ^ 64)), Nat.mod_eq_of_lt this]
  rw [e1, e2, Nat.shiftRight_eq_div_pow, BitVec.toNat_ofInt]
  have h2 : ((2 ^ 64 : Nat) : Int) = 18446744073709551616 := by decide
  have hp : (0 : Int) < 2 ^ k.toNat := Int.pow_pos (by decide)
  have h4 : 0 ≤ x / 2 ^ k.toNat := Int.ediv_nonneg hx0 (by omega)
  have h5 : x / 2 ^ k.toNat ≤ x := Int.ediv_le_self _ hx0
  rw [h2, Int.emod_eq_of_lt h4 (by omega)]
  have e3 : ((x.toNat / 2 ^ k.toNat : Nat) : Int) = x / 2 ^ k.toNat := by
    rw [Int.natCast_ediv, Int.toNat_of_nonneg hx0, Int.natCast_pow]; rfl
  rw [← e3]; rfl
theorem lm_or {a b : Int} {k : Nat} (ha0 : 0 ≤ a) (ha : a < 2 ^ k) (hb0 : 0 ≤ b) (hm : b % 2 ^ k = 0) (hs : a + b < 18446744073709551616) : Int64.ofInt a ||| Int64.ofInt b = Int64.ofInt (a + b) := by
  apply Int64.toBitVec_inj.mp
  apply BitVec.eq_of_toNat_eq
  simp only [Int64.toBitVec_or, Int64.toBitVec_ofInt, BitVec.toNat_or, BitVec.toNat_ofInt]
  have h2 : ((2 ^ 64 : Nat) : Int) = 18446744073709551616 := by decide
  rw [h2, Int.emod_eq_of_lt ha0 (by omega), Int.emod_eq_of_lt hb0 (by omega), Int.emod_eq_of_lt (by omega) hs]
  obtain ⟨c, hc⟩ : ∃ c : Int, b = 2 ^ k * c := Int.dvd_of_emod_eq_zero hm
  have hp : (0 : Int) < 2 ^ k := Int.pow_pos (by decide)
  have hc0 : 0 ≤ c := by
    rcases Int.lt_or_le c 0 with q | q
    · have : 2 ^ k * c < 0 := Int.mul_neg_of_pos_of_neg hp q
      omega
    · exact q
  have e1 : b.toNat = 2 ^ k * c.toNat := by
    have : (b.toNat : Int) = ((2 ^ k * c.toNat : Nat) : Int) := by
      rw [Int.toNat_of_nonneg hb0, Int.natCast_mul, Int.toNat_of_nonneg hc0, Int.natCast_pow, hc]; rfl
    exact Int.ofNat.inj this
  have e2 : a.toNat < 2 ^ k := by
    have : (a.toNat : Int) < ((2 ^ k : Nat) : Int) := by
      rw [Int.toNat_of_nonneg ha0, Int.natCast_pow]; exact ha
    exact Int.ofNat_lt.mp this
  rw [e1, Nat.or_comm, ← Nat.two_pow_add_eq_or_of_lt e2]
  omega
variable {p : Program} {l : Launch} {e : Env} {R : Room} {s : State} {m : MethodId} {args : Array Value} {below : List Frame} {meth : Method} {c : Code} {H : Heap} {locs : List Loc} {cells slots : Nat} {Q : State → Prop}
variable {cc : ByteArray} {pc : Nat} {ls : Array Slot} {rest : List Value}
theorem g_landM (hx : p.tables.exec = Jvm.exec) (hb : c.code = cc) {x : Int} (hd : decode cc pc = .ok (.land, 1)) (k : W p l e R s m args below meth c H locs cells slots Q (F0 m (pc + 1) ls (Jz (x % 2147483648) :: rest))) : W p l e R s m args below meth c H locs cells slots Q (F0 m pc ls (Jz 2147483647 :: Jz x :: rest)) :=
  lv_land hx hb hd (by rw [lm_mask]; exact k)
theorem g_lshr (hx : p.tables.exec = Jvm.exec) (hb : c.code = cc) {x y : Int} (h : g_j x) (h0 : 0 ≤ y) (h1 : y < 64) (hd : decode cc pc = .ok (.lshr, 1)) (k : W p l e R s m args below meth c H locs cells slots Q (F0 m (pc + 1) ls (Jz (x / 2 ^ y.toNat) :: rest))) : W p l e R s m args below meth c H locs cells slots Q (F0 m pc ls (Iz y :: Jz x :: rest)) :=
  lv_lshr hx hb hd (lm_shr h h0 h1) k
theorem g_lushr (hx : p.tables.exec = Jvm.exec) (hb : c.code = cc) {x y : Int} (hx0 : 0 ≤ x) (hx1 : x < 18446744073709551616) (h0 : 0 ≤ y) (h1 : y < 64) (hd : decode cc pc = .ok (.lushr, 1)) (k : W p l e R s m args below meth c H locs cells slots Q (F0 m (pc + 1) ls (Jz (x / 2 ^ y.toNat) :: rest))) : W p l e R s m args below meth c H locs cells slots Q (F0 m pc ls (Iz y :: Jz x :: rest)) :=
  lv_lushr hx hb hd (lm_ushr hx0 hx1 h0 h1) k
theorem g_lshl (hx : p.tables.exec = Jvm.exec) (hb : c.code = cc) {x y : Int} (h0 : 0 ≤ y) (h1 : y < 64) (hd : decode cc pc = .ok (.lshl, 1)) (k : W p l e R s m args below meth c H locs cells slots Q (F0 m (pc + 1) ls (Jz (x * 2 ^ y.toNat) :: rest))) : W p l e R s m args below meth c H locs cells slots Q (F0 m pc ls (Iz y :: Jz x :: rest)) :=
  lv_lshl hx hb hd (lm_shl h0 h1) k
theorem g_lor (hx : p.tables.exec = Jvm.exec) (hb : c.code = cc) {x y : Int} (h : Int64.ofInt x ||| Int64.ofInt y = Int64.ofInt (x + y)) (hd : decode cc pc = .ok (.lor, 1)) (k : W p l e R s m args below meth c H locs cells slots Q (F0 m (pc + 1) ls (Jz (x + y) :: rest))) : W p l e R s m args below meth c H locs cells slots Q (F0 m pc ls (Jz y :: Jz x :: rest)) :=
  lv_lor hx hb hd (by rw [h]; exact k)
/-- a long's quotient and rest -/
theorem lm_div {x y : Int} (hx : 0 ≤ x) (hy : 0 < y) (hx1 : x < 9223372036854775808) (hy1 : y < 9223372036854775808) : Int64.ofInt x / Int64.ofInt y = Int64.ofInt (x / y) := by
  apply Int64.toInt_inj.mp
  have h1 : g_j x := ⟨by omega, hx1⟩
  have h2 : g_j y := ⟨by omega, hy1⟩
  have h5 : x / y ≤ x := Int.ediv_le_self _ hx
  have h6 : 0 ≤ x / y := Int.ediv_nonneg hx (Int.le_of_lt hy)
  rw [Int64.toInt_div_of_ne_right _ _ (fun q => by
    have q2 := congrArg Int64.toInt q
    rw [g_toIntL h2] at q2
    have q3 : Int64.toInt (-1) = -1 := by decide
    omega), g_toIntL h1, g_toIntL h2, g_toIntL ⟨by omega, by omega⟩, Int.tdiv_eq_ediv_of_nonneg hx]
theorem g_ldiv (hx : p.tables.exec = Jvm.exec) (hb : c.code = cc) {x y : Int} (h0 : 0 ≤ x) (h1 : 0 < y) (h2 : x < 9223372036854775808) (h3 : y < 9223372036854775808) (hd : decode cc pc = .ok (.ldiv, 1)) (k : W p l e R s m args below meth c H locs cells slots Q (F0 m (pc + 1) ls (Jz (x / y) :: rest))) : W p l e R s m args below meth c H locs cells slots Q (F0 m pc ls (Jz y :: Jz x :: rest)) :=
  lv_ldiv hx hb hd (fun q => by
    have q2 := (g_injL (y := 0) ⟨by omega, h3⟩ ⟨by decide, by decide⟩).mp q
    omega) (by rw [lm_div h0 h1 h2 h3]; exact k)
theorem g_lrem (hx : p.tables.exec = Jvm.exec) (hb : c.code = cc) {x y : Int} (h0 : 0 ≤ x) (h1 : 0 < y) (h2 : x < 9223372036854775808) (h3 : y < 9223372036854775808) (hd : decode cc pc = .ok (.lrem, 1)) (k : W p l e R s m args below meth c H locs cells slots Q (F0 m (pc + 1) ls (Jz (x % y) :: rest))) : W p l e R s m args below meth c H locs cells slots Q (F0 m pc ls (Jz y :: Jz x :: rest)) :=
  lv_lrem hx hb hd (fun q => by
    have q2 := (g_injL (y := 0) ⟨by omega, h3⟩ ⟨by decide, by decide⟩).mp q
    omega) (by
    rw [lm_div h0 h1 h2 h3, ← Int64.ofInt_mul, ← Int64.ofInt_sub]
    have e : x - x / y * y = x % y := by have := Int.mul_ediv_add_emod x y; have := Int.mul_comm y (x / y); omega
    rw [e]; exact k)
/-- an int's quotient and rest -/
theorem im_div {x y : Int} (hx : 0 ≤ x) (hy : 0 < y) (hx1 : x < 2147483648) (hy1 : y < 2147483648) : Int32.ofInt x / Int32.ofInt y = Int32.ofInt (x / y) := by
  apply Int32.toInt_inj.mp
  have h1 : g_i x := ⟨by omega, hx1⟩
  have h2 : g_i y := ⟨by omega, hy1⟩
  have h5 : x / y ≤ x := Int.ediv_le_self _ hx
  have h6 : 0 ≤ x / y := Int.ediv_nonneg hx (Int.le_of_lt hy)
  rw [Int32.toInt_div_of_ne_right _ _ (fun q => by
    have q2 := congrArg Int32.toInt q
    rw [g_toInt h2] at q2
    have q3 : Int32.toInt (-1) = -1 := by decide
    omega), g_toInt h1, g_toInt h2, g_toInt ⟨by omega, by omega⟩, Int.tdiv_eq_ediv_of_nonneg hx]
theorem g_idiv (hx : p.tables.exec = Jvm.exec) (hb : c.code = cc) {x y : Int} (h0 : 0 ≤ x) (h1 : 0 < y) (h2 : x < 2147483648) (h3 : y < 2147483648) (hd : decode cc pc = .ok (.idiv, 1)) (k : W p l e R s m args below meth c H locs cells slots Q (F0 m (pc + 1) ls (Iz (x / y) :: rest))) : W p l e R s m args below meth c H locs cells slots Q (F0 m pc ls (Iz y :: Iz x :: rest)) :=
  lv_idiv hx hb hd (fun q => by
    have q2 := (g_inj (y := 0) ⟨by omega, h3⟩ g_0).mp q
    omega) (by rw [im_div h0 h1 h2 h3]; exact k)
theorem g_irem (hx : p.tables.exec = Jvm.exec) (hb : c.code = cc) {x y : Int} (h0 : 0 ≤ x) (h1 : 0 < y) (h2 : x < 2147483648) (h3 : y < 2147483648) (hd : decode cc pc = .ok (.irem, 1)) (k : W p l e R s m args below meth c H locs cells slots Q (F0 m (pc + 1) ls (Iz (x % y) :: rest))) : W p l e R s m args below meth c H locs cells slots Q (F0 m pc ls (Iz y :: Iz x :: rest)) :=
  lv_irem hx hb hd (fun q => by
    have q2 := (g_inj (y := 0) ⟨by omega, h3⟩ g_0).mp q
    omega) (by
    rw [im_div h0 h1 h2 h3, ← Int32.ofInt_mul, ← Int32.ofInt_sub]
    have e : x - x / y * y = x % y := by have := Int.mul_ediv_add_emod x y; have := Int.mul_comm y (x / y); omega
    rw [e]; exact k)
end GBits
