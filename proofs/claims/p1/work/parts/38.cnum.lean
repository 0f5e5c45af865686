theorem kb_v_low {f : Int → Int} (n : Nat) : kb_v f (n + 1) = f 0 + kb_v (fun i => f (1 + i)) n * 1073741824 := by
  have h := kb_v_split (f := f) (k := 1) (n := n)
  rw [Nat.add_comm 1 n] at h
  rw [h]
  have e1 : kb_v f 1 = 0 + f ((0 : Nat) : Int) * 1073741824 ^ 0 := rfl
  have e2 : (1073741824 : Int) ^ 1 = 1073741824 := by decide
  rw [e1, e2, Int.pow_zero]
  simp
theorem kb_v_one {f : Int → Int} : kb_v f 1 = f 0 := by
  have e1 : kb_v f 1 = 0 + f ((0 : Nat) : Int) * 1073741824 ^ 0 := rfl
  rw [e1, Int.pow_zero]
  simp
theorem num1_one {n s : Int} {k : Nat} {f : Int → Int} {V : Int} (h : num1 n s k f V) : V.natAbs = 1 ↔ n = 1 ∧ f 0 = 1 := by
  have hz := num1_zero h
  obtain ⟨h0, h1, h2, h3, h4, h5, h6⟩ := h
  constructor
  · intro q
    rw [q] at h6
    obtain ⟨j, hj⟩ : ∃ j : Nat, n.toNat = j + 1 := ⟨n.toNat - 1, by omega⟩
    rw [hj] at h3 h6
    have h7 := kb_v_lo h3 (by have := h4 (by omega); rw [show n - 1 = (j : Int) by omega] at this; exact this)
    have hj0 : j = 0 := by
      rcases Nat.eq_zero_or_pos j with z | z
      · exact z
      · have h8 := kb_pow_mono z
        have e2 : (1073741824 : Int) ^ 1 = 1073741824 := by decide
        rw [show (0 : Nat).succ = 1 from rfl, e2] at h8
        omega
    subst hj0
    rw [kb_v_one] at h6
    exact ⟨by omega, by omega⟩
  · rintro ⟨q1, q2⟩
    subst q1
    rw [show ((1 : Int).toNat) = 1 from rfl, kb_v_one, q2] at h6
    omega
theorem num1_odd {n s : Int} {k : Nat} {f : Int → Int} {V : Int} (h : num1 n s k f V) : V % 2 = if 0 < n then f 0 % 2 else 0 := by
  have hz := num1_zero h
  obtain ⟨h0, h1, h2, h3, h4, h5, h6⟩ := h
  by_cases q : 0 < n
  · rw [if_pos q]
    obtain ⟨j, hj⟩ : ∃ j : Nat, n.toNat = j + 1 := ⟨n.toNat - 1, by omega⟩
    rw [hj, kb_v_low] at h6
    omega
  · rw [if_neg q]
    have : V = 0 := hz.mp (by omega)
    omega
/-- how many bits a number's size has -/
def bl (V : Int) : Int := if V = 0 then 0 else (V.natAbs.log2 : Int) + 1
theorem bl_of {V z : Int} (h0 : V ≠ 0) (hz : 1 ≤ z) (h1 : (2 : Int) ^ (z - 1).toNat ≤ (V.natAbs : Int)) (h2 : (V.natAbs : Int) < 2 ^ z.toNat) : z = bl V := by
  unfold bl
  rw [if_neg h0]
  have hn : V.natAbs ≠ 0 := by omega
  have e1 : 2 ^ (z - 1).toNat ≤ V.natAbs := by
    have : (((2 ^ (z - 1).toNat : Nat)) : Int) ≤ (V.natAbs : Int) := by rw [Int.natCast_pow]; exact h1
    exact Int.ofNat_le.mp this
  have e2 : V.natAbs < 2 ^ z.toNat := by
    have : (V.natAbs : Int) < (((2 ^ z.toNat : Nat)) : Int) := by rw [Int.natCast_pow]; exact h2
    exact Int.ofNat_lt.mp this
  have e3 := (Nat.le_log2 hn).mpr e1
  have e4 := (Nat.log2_lt hn).mpr e2
  omega
theorem bl_bd {V : Int} (h0 : V ≠ 0) : 1 ≤ bl V ∧ (2 : Int) ^ (bl V - 1).toNat ≤ (V.natAbs : Int) ∧ (V.natAbs : Int) < 2 ^ (bl V).toNat := by
  have hn : V.natAbs ≠ 0 := by omega
  have e : bl V = (V.natAbs.log2 : Int) + 1 := by unfold bl; rw [if_neg h0]
  rw [e]
  refine ⟨by omega, ?_, ?_⟩
  · rw [show ((V.natAbs.log2 : Int) + 1 - 1).toNat = V.natAbs.log2 by omega]
    have := Nat.log2_self_le hn
    have h : ((2 ^ V.natAbs.log2 : Nat) : Int) ≤ (V.natAbs : Int) := Int.ofNat_le.mpr this
    rw [Int.natCast_pow] at h
    exact h
  · rw [show ((V.natAbs.log2 : Int) + 1).toNat = V.natAbs.log2 + 1 by omega]
    have := Nat.lt_log2_self (n := V.natAbs)
    have h : (V.natAbs : Int) < ((2 ^ (V.natAbs.log2 + 1) : Nat) : Int) := Int.ofNat_lt.mpr this
    rw [Int.natCast_pow] at h
    exact h
theorem bl_nonneg (V : Int) : 0 ≤ bl V := by unfold bl; split <;> omega
theorem p30 (n : Nat) : (1073741824 : Int) ^ n = 2 ^ (30 * n) := by
  rw [Int.pow_mul]
  rfl
theorem i_p2 (k : Nat) : (0 : Int) < 2 ^ k := Int.pow_pos (by decide)
theorem num1_bits {n s : Int} {k : Nat} {f : Int → Int} {V i : Int} (h : num1 n s k f V) (hn : 0 < n) (i0 : 0 ≤ i) (i1 : i ≤ 30) (q1 : i = 0 ∨ f (n - 1) / 2 ^ (i - 1).toNat ≠ 0) (q2 : i = 30 ∨ f (n - 1) / 2 ^ i.toNat = 0) : (n - 1) * 30 + i = bl V := by
  have hz := num1_zero h
  obtain ⟨h0, h1, h2, h3, h4, h5, h6⟩ := h
  obtain ⟨j, hj⟩ : ∃ j : Nat, n.toNat = j + 1 := ⟨n.toNat - 1, by omega⟩
  have t0 := h4 hn
  have tb := h3 (n - 1) (by omega) (by omega)
  rw [show n - 1 = (j : Int) by omega] at t0 tb q1 q2 ⊢
  rw [hj] at h3 h6
  have hv : kb_v f (j + 1) = kb_v f j + f (j : Int) * 1073741824 ^ j := rfl
  have l0 := kb_v_nonneg (kb_d_of_le h3 (Nat.le_succ j))
  have l1 := kb_v_lt (kb_d_of_le h3 (Nat.le_succ j))
  have pp := kb_pow_pos j
  have u : f (j : Int) < 2 ^ i.toNat := by
    rcases q2 with q | q
    · subst q
      have : (2 : Int) ^ (30 : Int).toNat = 1073741824 := by decide
      omega
    · rcases Int.lt_or_le (f (j : Int)) (2 ^ i.toNat) with z | z
      · exact z
      · have h9 : 1 ≤ f (j : Int) / 2 ^ i.toNat := Int.le_ediv_of_mul_le (i_p2 i.toNat) (by omega)
        omega
  have hi : 1 ≤ i := by
    rcases Int.lt_or_le i 1 with z | z
    · have : i = 0 := by omega
      subst this
      have : (2 : Int) ^ (0 : Int).toNat = 1 := by decide
      omega
    · exact z
  have lo : 2 ^ (i - 1).toNat ≤ f (j : Int) := by
    rcases q1 with q | q
    · omega
    · rcases Int.lt_or_le (f (j : Int)) (2 ^ (i - 1).toNat) with z | z
      · exact absurd (Int.ediv_eq_zero_of_lt (by omega) z) q
      · exact z
  have a1 : (2 : Int) ^ (i - 1).toNat * 1073741824 ^ j ≤ f (j : Int) * 1073741824 ^ j := Int.mul_le_mul_of_nonneg_right lo (by omega)
  have a2 : (f (j : Int) + 1) * 1073741824 ^ j ≤ 2 ^ i.toNat * 1073741824 ^ j := Int.mul_le_mul_of_nonneg_right (by omega) (by omega)
  have a3 : (f (j : Int) + 1) * 1073741824 ^ j = f (j : Int) * 1073741824 ^ j + 1073741824 ^ j := by rw [Int.add_mul, Int.one_mul]
  refine bl_of (fun q => by have := hz.mpr q; omega) (by omega) ?_ ?_
  · rw [show ((j : Int) * 30 + i - 1).toNat = (i - 1).toNat + 30 * j by omega, Int.pow_add, ← p30]
    omega
  · rw [show ((j : Int) * 30 + i).toNat = i.toNat + 30 * j by omega, Int.pow_add, ← p30]
    omega
theorem bl_le {V : Int} {t : Nat} (h : (V.natAbs : Int) < 2 ^ t) : bl V ≤ t := by
  by_cases q : V = 0
  · subst q; unfold bl; rw [if_pos rfl]; omega
  · have h1 := (bl_bd q).2.1
    have h2 : (2 : Int) ^ (bl V - 1).toNat < 2 ^ t := Int.lt_of_le_of_lt h1 h
    have h3 : (bl V - 1).toNat < t := by
      rcases Nat.lt_or_ge (bl V - 1).toNat t with z | z
      · exact z
      · have : (2 : Int) ^ t ≤ 2 ^ (bl V - 1).toNat := by
          obtain ⟨d, hd⟩ := Nat.exists_eq_add_of_le z
          rw [hd, Int.pow_add]
          have := i_p2 d
          have h9 : (2 : Int) ^ t * 1 ≤ 2 ^ t * 2 ^ d := Int.mul_le_mul_of_nonneg_left (by omega) (Int.le_of_lt (i_p2 t))
          omega
        omega
    have := bl_nonneg V
    omega
theorem num1_size_lt {n s n' s' : Int} {k k' : Nat} {f f' : Int → Int} {V V' : Int} (h : num1 n s k f V) (h' : num1 n' s' k' f' V') (q : n < n') : (V.natAbs : Int) < (V'.natAbs : Int) := by
  have h1 := num1_lt h
  have h0 := h.1
  have h2 := num1_ge h' (by omega)
  have h3 := kb_pow_mono (n := n.toNat) (m := (n' - 1).toNat) (by omega)
  omega
theorem num1_digit_lt {n s n' s' : Int} {k k' : Nat} {f f' : Int → Int} {V V' i : Int} (h : num1 n s k f V) (h' : num1 n' s' k' f' V') (e : n = n') (i0 : 0 ≤ i) (i1 : i < n) (he : ∀ j : Int, i < j → j < n → f j = f' j) (q : f i < f' i) : (V.natAbs : Int) < (V'.natAbs : Int) := by
  obtain ⟨h0, h1, h2, h3, h4, h5, h6⟩ := h
  obtain ⟨h0', h1', h2', h3', h4', h5', h6'⟩ := h'
  subst e
  rw [← h6, ← h6']
  exact kb_lt h3 h3' i i0 (by omega) (fun j a b => he j a (by omega)) q
theorem num1_same {n s n' s' : Int} {k k' : Nat} {f f' : Int → Int} {V V' : Int} (h : num1 n s k f V) (h' : num1 n' s' k' f' V') (e : n = n') (he : ∀ j : Int, 0 ≤ j → j < n → f j = f' j) : (V.natAbs : Int) = (V'.natAbs : Int) := by
  obtain ⟨h0, h1, h2, h3, h4, h5, h6⟩ := h
  obtain ⟨h0', h1', h2', h3', h4', h5', h6'⟩ := h'
  subst e
  rw [← h6, ← h6']
  exact kb_v_congr (fun j a b => he j a (by omega))
theorem g_cmp_self (x : Int) : g_cmp x x = 0 := by unfold g_cmp; rw [if_neg (by omega), if_neg (by omega)]
theorem g_cmp_of_lt {x y : Int} (h : x < y) : g_cmp x y = -1 := by unfold g_cmp; rw [if_neg (by omega), if_pos h]
theorem g_cmp_of_gt {x y : Int} (h : y < x) : g_cmp x y = 1 := by unfold g_cmp; rw [if_pos h]
/-- what a number is, by its digits -/
theorem num1_of {n s top : Int} {k : Nat} {f : Int → Int} {V : Int} (h0 : 0 ≤ n) (h1 : n ≤ top) (h2 : top ≤ k) (h3 : 5 ≤ k) (h4 : kb_d f top.toNat) (h5 : 0 < n → f (n - 1) ≠ 0) (h6 : ∀ i : Int, n ≤ i → i < top → f i = 0) (h7 : s = sg V) (h8 : kb_v f top.toNat = (V.natAbs : Int)) : num1 n s k f V := by
  refine ⟨h0, by omega, h3, kb_d_of_le h4 (by omega), h5, h7, ?_⟩
  rw [← h8]
  exact (kb_v_zero (by omega) (fun i a b => h6 i (by omega) (by omega))).symm
