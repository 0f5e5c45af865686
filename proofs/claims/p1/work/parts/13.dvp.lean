/-- what a division leaves: a quotient (its place in field 3), a rest (its place in field 4) less than the divisor, all else below the old top as it was -/
def dvP (F F' : Nat → Int) (ar ar' : Nat → Int → Int) (a b lim : Int) : Prop :=
  (∀ j : Nat, j ≠ 2 → j ≠ 3 → j ≠ 4 → F' j = F j) ∧ (∀ j : Nat, j ≠ 1 → ar' j = ar j) ∧ (∀ t : Int, t < F 2 → ar' 1 t = ar 1 t) ∧ hok (ar' 1) ∧ F 2 ≤ F' 3 ∧ nm (ar' 1) (F' 3) ∧ nsz (ar' 1) (F' 3) ≤ nsz (ar 1) a ∧ F' 3 + nsz (ar' 1) (F' 3) < F' 4 ∧ nm (ar' 1) (F' 4) ∧ F' 4 + nsz (ar' 1) (F' 4) < F' 2 ∧ nv (ar' 1) (F' 4) < nv (ar 1) b ∧ nsz (ar' 1) (F' 4) ≤ nsz (ar 1) b ∧ F' 2 ≤ F 2 + lim
theorem nsz_le_of_nv {h g : Int → Int} {a b : Int} (hk : hok h) (gk : hok g) (ha : nm h a) (hb : nm g b) (q : nv h a < nv g b) : nsz h a ≤ nsz g b := by
  rcases Int.lt_or_le (nsz g b) (nsz h a) with q2 | q2
  · have := nv_lt_size gk hk hb ha q2
    omega
  · exact q2
theorem nv_one {h : Int → Int} {b : Int} (q : nsz h b = 1) : nv h b = h (b + 1) := by
  unfold nv
  rw [q]
  show 0 + h (b + 1 + 0) * 1 = h (b + 1)
  rw [Int.add_zero, Int.mul_one, Int.zero_add]
