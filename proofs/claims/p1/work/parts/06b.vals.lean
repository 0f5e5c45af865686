/-- the same digits elsewhere -/
theorem nm_move {h g : Int → Int} {a b : Int} (q : ∀ i : Int, 0 ≤ i → i ≤ nsz h a → g (b + i) = h (a + i)) : nsz g b = nsz h a ∧ (nm h a → nm g b) ∧ nv g b = nv h a := by
  have h0 := nsz_nonneg h a
  have e0 : g b = h a := by
    have := q 0 (Int.le_refl 0) h0
    rw [Int.add_zero, Int.add_zero] at this
    exact this
  have e : nsz g b = nsz h a := by unfold nsz; rw [e0]
  refine ⟨e, fun hn => ⟨fun i h1 h2 => ?_, fun h1 => ?_⟩, ?_⟩
  · rw [e] at h2; rw [q i (by omega) h2]; exact hn.1 i h1 h2
  · rw [e] at h1 ⊢; rw [q _ h0 (Int.le_refl _)]; exact hn.2 h1
  · unfold nv
    rw [e]
    exact kn_v_congr (fun i h1 h2 => by
      have := q (1 + i) (by omega) (by omega)
      rw [show b + (1 + i) = b + 1 + i by omega, show a + (1 + i) = a + 1 + i by omega] at this
      exact this)
/-- the same digits elsewhere, the sign apart -/
theorem nm_move' {h g : Int → Int} {a b : Int} (q0 : nsz g b = nsz h a) (q : ∀ i : Int, 1 ≤ i → i ≤ nsz h a → g (b + i) = h (a + i)) : (nm h a → nm g b) ∧ nv g b = nv h a := by
  have h0 := nsz_nonneg h a
  refine ⟨fun hn => ⟨fun i h1 h2 => ?_, fun h1 => ?_⟩, ?_⟩
  · rw [q0] at h2; rw [q i h1 h2]; exact hn.1 i h1 h2
  · rw [q0] at h1 ⊢; rw [q _ (by omega) (Int.le_refl _)]; exact hn.2 h1
  · unfold nv
    rw [q0]
    exact kn_v_congr (fun i h1 h2 => by
      have := q (1 + i) (by omega) (by omega)
      rw [show b + (1 + i) = b + 1 + i by omega, show a + (1 + i) = a + 1 + i by omega] at this
      exact this)
theorem kn_v_lo {f : Int → Int} {n : Nat} (h : kn_d f (n + 1)) (ht : f (n : Int) ≠ 0) : 2147483648 ^ n ≤ kn_v f (n + 1) := by
  have h1 := kn_v_nonneg (kn_d_of_le h (Nat.le_succ n))
  have h2 := (h (n : Int) (by omega) (by omega)).1
  have h3 : 1 * 2147483648 ^ n ≤ f (n : Int) * 2147483648 ^ n := Int.mul_le_mul_of_nonneg_right (by omega) (Int.le_of_lt (kn_pow_pos n))
  show 2147483648 ^ n ≤ kn_v f n + f (n : Int) * 2147483648 ^ n
  omega
theorem kn_pow_mono {n m : Nat} (h : n ≤ m) : (2147483648 : Int) ^ n ≤ 2147483648 ^ m := by
  induction h with
  | refl => exact Int.le_refl _
  | step _ ih =>
    rename_i k _
    rw [kn_pow_succ]
    have := kn_pow_pos k
    omega
theorem kn_lt {f g : Int → Int} : ∀ {n : Nat}, kn_d f n → kn_d g n → ∀ i : Int, 0 ≤ i → i < n → (∀ j : Int, i < j → j < n → f j = g j) → f i < g i → kn_v f n < kn_v g n
  | 0, _, _, i, h0, h1, _, _ => by omega
  | n + 1, hf, hg, i, h0, h1, he, hlt => by
    have e1 : kn_v f (n + 1) = kn_v f n + f (n : Int) * 2147483648 ^ n := rfl
    have e2 : kn_v g (n + 1) = kn_v g n + g (n : Int) * 2147483648 ^ n := rfl
    by_cases q : i = (n : Int)
    · have h2 := kn_v_lt (kn_d_of_le hf (Nat.le_succ n))
      have h3 := kn_v_nonneg (kn_d_of_le hg (Nat.le_succ n))
      rw [q] at hlt
      have h4 : (f (n : Int) + 1) * 2147483648 ^ n ≤ g (n : Int) * 2147483648 ^ n := Int.mul_le_mul_of_nonneg_right (by omega) (Int.le_of_lt (kn_pow_pos n))
      rw [Int.add_mul, Int.one_mul] at h4
      rw [e1, e2]; omega
    · have ih := kn_lt (kn_d_of_le hf (Nat.le_succ n)) (kn_d_of_le hg (Nat.le_succ n)) i h0 (by omega) (fun j a b => he j a (by omega)) hlt
      rw [e1, e2, he (n : Int) (by omega) (by omega)]; omega
theorem nm_d {h : Int → Int} {a : Int} (hk : hok h) (hn : nm h a) : kn_d (fun i => h (a + 1 + i)) (nsz h a).toNat := fun i h0 h1 => by
  have := hn.1 (1 + i) (by omega) (by have := nsz_nonneg h a; omega)
  rw [show a + (1 + i) = a + 1 + i by omega] at this
  exact ⟨this, (hk _).2⟩
/-- fewer digits, less -/
theorem nv_lt_size {h g : Int → Int} {a b : Int} (hk : hok h) (gk : hok g) (ha : nm h a) (hb : nm g b) (q : nsz h a < nsz g b) : nv h a < nv g b := by
  have h0 := nsz_nonneg h a
  obtain ⟨n, hn⟩ : ∃ n : Nat, nsz g b = (n : Int) + 1 := ⟨(nsz g b - 1).toNat, by omega⟩
  have h1 := kn_v_lt (nm_d hk ha)
  have e : (nsz g b).toNat = n + 1 := by omega
  have hd := nm_d gk hb
  rw [e] at hd
  have h2 := kn_v_lo hd (by
    have := hb.2 (by omega)
    rw [hn, show b + ((n : Int) + 1) = b + 1 + (n : Int) by omega] at this
    exact this)
  have h3 := kn_pow_mono (show (nsz h a).toNat ≤ n by omega)
  unfold nv
  rw [e]
  omega
theorem nv_nonneg {h : Int → Int} {a : Int} (hk : hok h) (hn : nm h a) : 0 ≤ nv h a := kn_v_nonneg (nm_d hk hn)
theorem nv_lt_digit {h : Int → Int} {a b i : Int} (hk : hok h) (ha : nm h a) (hb : nm h b) (e : nsz h a = nsz h b) (h0 : 1 ≤ i) (h1 : i ≤ nsz h a) (he : ∀ j : Int, i < j → j ≤ nsz h a → h (a + j) = h (b + j)) (hlt : h (a + i) < h (b + i)) : nv h a < nv h b := by
  have hd1 := nm_d hk ha
  have hd2 := nm_d hk hb
  unfold nv
  rw [← e] at hd2 ⊢
  refine kn_lt hd1 hd2 (i - 1) (by omega) (by omega) (fun j q1 q2 => ?_) ?_
  · have := he (j + 1) (by omega) (by omega)
    rw [show a + (j + 1) = a + 1 + j by omega, show b + (j + 1) = b + 1 + j by omega] at this
    exact this
  · show h (a + 1 + (i - 1)) < h (b + 1 + (i - 1))
    rw [show a + 1 + (i - 1) = a + i by omega, show b + 1 + (i - 1) = b + i by omega]
    exact hlt
