/-- a number's digits, 0 behind them -/
def ldx (h : Int → Int) (a t : Int) : Int := if t < nsz h a then h (a + 1 + t) else 0
theorem ld_digit {x y P M : Int} (hP : 0 < P) (hM : 0 < M) (hB : P * M = 2147483648) (x0 : 0 ≤ x) (x1 : x < 2147483648) : ((x + y * 2147483648) / P % 2147483648) * P + x % P = x + (y % P) * 2147483648 := by
  have e1 : (x + y * 2147483648) / P = x / P + M * y := by
    rw [← hB, show y * (P * M) = P * (M * y) by grind]
    exact Int.add_mul_ediv_left _ _ (by omega)
  have e2 : x / P + M * y = (x / P + M * (y % P)) + 2147483648 * (y / P) := by
    have h := Int.mul_ediv_add_emod y P
    rw [← hB]
    grind
  have h1 : x / P < M := Int.ediv_lt_of_lt_mul hP (by rw [Int.mul_comm, hB]; exact x1)
  have h2 : 0 ≤ x / P := Int.ediv_nonneg x0 (Int.le_of_lt hP)
  have h3 : 0 ≤ y % P := Int.emod_nonneg _ (by omega)
  have h4 : y % P < P := Int.emod_lt_of_pos _ hP
  have h5 : M * (y % P) ≤ M * (P - 1) := Int.mul_le_mul_of_nonneg_left (by omega) (by omega)
  have h6 : 0 ≤ M * (y % P) := Int.mul_nonneg (by omega) h3
  have h7 : M * (P - 1) = 2147483648 - M := by rw [← hB]; grind
  rw [e1, e2, Int.add_mul_emod_self_left, Int.emod_eq_of_lt (by omega) (by omega)]
  have h8 := Int.mul_ediv_add_emod x P
  have h9 : (x / P + M * (y % P)) * P = P * (x / P) + (y % P) * 2147483648 := by rw [← hB]; grind
  omega
theorem ld_step {V P r A mm Q d x w : Int} (e : V * P + r = A + mm * Q) (hd : d * P + mm = x + w * 2147483648) : (V + d * Q) * P + r = (A + x * Q) + w * (Q * 2147483648) := by
  grind
theorem p2_m {s : Int} (h0 : 0 ≤ s) (h1 : s < 31) : ∃ M : Int, 0 < M ∧ (2 : Int) ^ s.toNat * M = 2147483648 := by
  refine ⟨2 ^ (31 - s.toNat), Int.pow_pos (by decide), ?_⟩
  rw [← Int.pow_add, show s.toNat + (31 - s.toNat) = 31 by omega]
  rfl
theorem lm_or' {a b : Int} {k : Nat} (ha0 : 0 ≤ a) (ha : a < 2 ^ k) (hb0 : 0 ≤ b) (hm : b % 2 ^ k = 0) (hs : a + b < 18446744073709551616) : Int64.ofInt b ||| Int64.ofInt a = Int64.ofInt (b + a) := by
  rw [Int64.or_comm, Int.add_comm]; exact lm_or ha0 ha hb0 hm hs
theorem ldx_d {h : Int → Int} {a : Int} (hk : hok h) (hn : nm h a) (t : Int) (t0 : 0 ≤ t) : 0 ≤ ldx h a t ∧ ldx h a t < 2147483648 := by
  unfold ldx
  split
  · have := hn.1 (1 + t) (by omega) (by omega)
    rw [show a + (1 + t) = a + 1 + t by omega] at this
    exact ⟨this, (hk _).2⟩
  · omega
theorem ldx_nv {h : Int → Int} {a : Int} : kn_v (ldx h a) (nsz h a).toNat = nv h a := by
  have h0 := nsz_nonneg h a
  unfold nv
  exact kn_v_congr (fun i h1 h2 => by unfold ldx; rw [if_pos (by omega)])
