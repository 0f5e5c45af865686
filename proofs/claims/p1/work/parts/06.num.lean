/-- a number at a place: its digits, the highest one not 0 -/
def nm (h : Int → Int) (a : Int) : Prop := (∀ i : Int, 1 ≤ i → i ≤ nsz h a → 0 ≤ h (a + i)) ∧ (0 < nsz h a → h (a + nsz h a) ≠ 0)
/-- its size as a value -/
def nv (h : Int → Int) (a : Int) : Int := kn_v (fun i => h (a + 1 + i)) (nsz h a).toNat
theorem nsz_agree {h g : Int → Int} {a : Int} (q : g a = h a) : nsz g a = nsz h a := by unfold nsz; rw [q]
theorem nm_agree {h g : Int → Int} {a : Int} (q : ∀ i : Int, a ≤ i → i ≤ a + nsz h a → g i = h i) (hn : nm h a) : nm g a := by
  have h0 := nsz_nonneg h a
  have e := nsz_agree (q a (Int.le_refl a) (by omega))
  refine ⟨fun i h1 h2 => ?_, fun h1 => ?_⟩
  · rw [e] at h2; rw [q (a + i) (by omega) (by omega)]; exact hn.1 i h1 h2
  · rw [e] at h1 ⊢; rw [q _ (by omega) (by omega)]; exact hn.2 h1
theorem nv_agree {h g : Int → Int} {a : Int} (q : ∀ i : Int, a ≤ i → i ≤ a + nsz h a → g i = h i) : nv g a = nv h a := by
  have h0 := nsz_nonneg h a
  have e := nsz_agree (q a (Int.le_refl a) (by omega))
  unfold nv
  rw [e]
  exact kn_v_congr (fun i h1 h2 => q _ (by omega) (by omega))
theorem kn_v_zero {f : Int → Int} {k : Nat} : ∀ {n : Nat}, k ≤ n → (∀ i : Int, (k : Int) ≤ i → i < n → f i = 0) → kn_v f n = kn_v f k
  | 0, h, _ => by rw [Nat.le_zero.mp h]
  | n + 1, h, q => by
    rcases Nat.lt_or_ge k (n + 1) with h1 | h1
    · have h2 : kn_v f (n + 1) = kn_v f n + f (n : Int) * 2147483648 ^ n := rfl
      rw [h2, q (n : Int) (by omega) (by omega), Int.zero_mul, Int.add_zero]
      exact kn_v_zero (by omega) (fun i a b => q i a (by omega))
    · rw [Nat.le_antisymm h h1]
/-- only the row of limbs, above its top, and the top changed -/
def nK (F F' : Nat → Int) (ar ar' : Nat → Int → Int) : Prop := (∀ j : Nat, j ≠ 2 → F' j = F j) ∧ (∀ j : Nat, j ≠ 1 → ar' j = ar j) ∧ (∀ i : Int, i < F 2 → ar' 1 i = ar 1 i) ∧ hok (ar' 1)
theorem shut_facts {h : Int → Int} {a n k mi : Int} (k0 : 0 ≤ k) (k1 : k ≤ n) (kt : 0 < k → h (a + k) ≠ 0) (kz : ∀ i : Int, k < i → i ≤ n → h (a + i) = 0) (hd : ∀ i : Int, 1 ≤ i → i ≤ n → 0 ≤ h (a + i)) :
    nsz (iup h a (if mi = 0 then k else 0 - k)) a = k ∧ nm (iup h a (if mi = 0 then k else 0 - k)) a ∧ nv (iup h a (if mi = 0 then k else 0 - k)) a = kn_v (fun i => h (a + 1 + i)) n.toNat := by
  have e : nsz (iup h a (if mi = 0 then k else 0 - k)) a = k := by
    unfold nsz
    rw [iup_self]
    by_cases q : mi = 0
    · rw [if_pos q]; split <;> omega
    · rw [if_neg q]; split <;> omega
  refine ⟨e, ⟨fun i h1 h2 => ?_, fun h1 => ?_⟩, ?_⟩
  · rw [e] at h2; rw [iup_ne (by omega)]; exact hd i h1 (by omega)
  · rw [e] at h1 ⊢; rw [iup_ne (by omega)]; exact kt h1
  · unfold nv
    rw [e, kn_v_congr (g := fun i => h (a + 1 + i)) (fun i h1 h2 => iup_ne (by omega))]
    exact (kn_v_zero (by omega) (fun i h1 h2 => by
      have := kz (1 + i) (by omega) (by omega)
      rw [show a + (1 + i) = a + 1 + i by omega] at this
      exact this)).symm
theorem nsz_lt {h : Int → Int} (q : hok h) (a : Int) : nsz h a < 2147483648 := by
  unfold nsz
  have := q a
  split <;> omega
theorem aup_ne (ar : Nat → Int → Int) {k j : Nat} (g : Int → Int) (h : j ≠ k) : aup ar k g j = ar j := by
  unfold aup
  cases hq : Nat.beq j k with
  | true => exact absurd (Nat.eq_of_beq_eq_true hq) h
  | false => rfl
