theorem rs_step {V c A d c' x P Q : Int} (e : V + c * Q = A * P) (hd : d + c' * 2147483648 = c + x * P) : (V + d * Q) + c' * (Q * 2147483648) = (A + x * Q) * P := by
  grind
theorem rs_room {c x P : Int} (c0 : 0 ≤ c) (c1 : c < P) (x0 : 0 ≤ x) (x1 : x < 2147483648) (hP : P ≤ 1073741824) : 0 ≤ x * P ∧ x * P ≤ 2147483647 * P ∧ c + x * P < 2305843009213693952 ∧ (c + x * P) / 2147483648 < P ∧ 0 ≤ (c + x * P) / 2147483648 := by
  have h1 : 0 ≤ x * P := Int.mul_nonneg x0 (by omega)
  have h2 : x * P ≤ 2147483647 * P := Int.mul_le_mul_of_nonneg_right (by omega) (by omega)
  omega
theorem p2_bd {s : Int} (h0 : 0 ≤ s) (h1 : s < 31) : 1 ≤ (2 : Int) ^ s.toNat ∧ (2 : Int) ^ s.toNat ≤ 1073741824 := by
  have h : ∀ k : Fin 31, 1 ≤ (2 : Int) ^ k.val ∧ (2 : Int) ^ k.val ≤ 1073741824 := by decide +kernel
  exact h ⟨s.toNat, by omega⟩
theorem kn_v_up {f g : Int → Int} {n : Nat} {d : Int} (h : ∀ i : Int, 0 ≤ i → i < n → g i = f i) (hd : g (n : Int) = d) : kn_v g (n + 1) = kn_v f n + d * 2147483648 ^ n := by
  show kn_v g n + g (n : Int) * 2147483648 ^ n = _
  rw [hd, kn_v_congr h]
