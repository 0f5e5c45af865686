/-- how far the roots reach, as locate() finds it -/
def farF (n : Nat) (F : Nat → Int) : Nat → Int
  | 0 => 0
  | k + 1 => if F (n - (k + 1)) = 0 then farF n F k else if farF n F k < 1 - -(bl (F (n - (k + 1))) - bl (F n) + 1) / ((k : Int) + 1) then 1 - -(bl (F (n - (k + 1))) - bl (F n) + 1) / ((k : Int) + 1) else farF n F k
def upV (n : Nat) (C : Nat → Nat → Int) (X e : Int) : Int := lowC n C - (chgS (fun i => sg (evP (C i) X e (n - i) (n - i))) (n + 1)).1
/-- locate()'s road, to its end -/
def locP (n : Nat) (C : Nat → Nat → Int) (i : Int) : Nat → Int → Int → Int → Int → Int → Prop
  | 0, _, _, _, _, _ => False
  | m + 1, L, H, e, be, up => (0 ≤ e ∧ e ≤ 58 ∧ (L.natAbs : Int) < 2 ^ 58 ∧ (H.natAbs : Int) < 2 ^ 58) ∧ (¬ (be = i ∧ up = i + 1) →
      ((L + H) % 2 = 1 → (i < upV n C (L + H) (e + 1) → locP n C i m (L * 2) (L + H) (e + 1) be (upV n C (L + H) (e + 1))) ∧ (¬ i < upV n C (L + H) (e + 1) → locP n C i m (L + H) (H * 2) (e + 1) (upV n C (L + H) (e + 1)) up)) ∧
      ((L + H) % 2 = 0 → (i < upV n C ((L + H) / 2) e → locP n C i m L ((L + H) / 2) e be (upV n C ((L + H) / 2) e)) ∧ (¬ i < upV n C ((L + H) / 2) e → locP n C i m ((L + H) / 2) H e (upV n C ((L + H) / 2) e) up)))
theorem chgS_bd (S : Nat → Int) : ∀ m, 0 ≤ (chgS S m).1 ∧ (chgS S m).1 ≤ m
  | 0 => ⟨Int.le_refl 0, Int.le_refl 0⟩
  | m + 1 => by
      have h := chgS_bd S m
      show 0 ≤ (chgS S m).1 + (if S m * (chgS S m).2 < 0 then 1 else 0) ∧ (chgS S m).1 + (if S m * (chgS S m).2 < 0 then 1 else 0) ≤ ((m + 1 : Nat) : Int)
      split <;> omega
theorem upV_bd (n : Nat) (C : Nat → Nat → Int) (X e : Int) : -(n : Int) - 1 ≤ upV n C X e ∧ upV n C X e ≤ (n : Int) + 1 := by
  have h1 := chgS_bd (cfC n C 1) (n + 1)
  have h2 := chgS_bd (fun i => sg (evP (C i) X e (n - i) (n - i))) (n + 1)
  unfold upV lowC
  omega
theorem dv_bd {x k M : Int} (hk : 0 < k) (h0 : -M ≤ x) (h1 : x ≤ M) (hM : 0 ≤ M) : -M ≤ x / k ∧ x / k ≤ M := by
  have a3 := Int.mul_ediv_add_emod x k
  have a5 := Int.emod_nonneg x (show k ≠ 0 by omega)
  have a6 := Int.emod_lt_of_pos x hk
  constructor
  · rcases Int.lt_or_le (x / k) (-M) with w | w
    · exfalso
      have h := Int.mul_le_mul_of_nonneg_left (show x / k ≤ -M - 1 by omega) (show 0 ≤ k by omega)
      have h2 := Int.mul_le_mul_of_nonneg_right (show 1 ≤ k by omega) (show 0 ≤ M + 1 by omega)
      have h3 : k * (-M - 1) = -(k * (M + 1)) := by rw [← Int.mul_neg]; congr 1; omega
      have h4 : k * (M + 1) = k * M + k := by rw [Int.mul_add, Int.mul_one]
      have h5 := Int.mul_le_mul_of_nonneg_right (show 1 ≤ k by omega) (show 0 ≤ M by omega)
      omega
    · exact w
  · rcases Int.lt_or_le M (x / k) with w | w
    · exfalso
      have h := Int.mul_le_mul_of_nonneg_left (show M + 1 ≤ x / k by omega) (show 0 ≤ k by omega)
      have h4 : k * (M + 1) = k * M + k := by rw [Int.mul_add, Int.mul_one]
      have h5 := Int.mul_le_mul_of_nonneg_right (show 1 ≤ k by omega) (show 0 ≤ M by omega)
      omega
    · exact w
theorem p2_le {a b : Nat} (h : a ≤ b) : (2 : Int) ^ a ≤ 2 ^ b := by
  obtain ⟨d, hd⟩ := Nat.exists_eq_add_of_le h
  rw [hd, Int.pow_add]
  have h1 := i_p2 d
  have h2 := i_p2 a
  have h9 : (2 : Int) ^ a * 1 ≤ 2 ^ a * 2 ^ d := Int.mul_le_mul_of_nonneg_left (by omega) (by omega)
  omega
theorem na_mul {x y : Int} {a b : Nat} (hx : (x.natAbs : Int) < 2 ^ a) (hy : (y.natAbs : Int) ≤ 2 ^ b) : ((x * y).natAbs : Int) < 2 ^ (a + b) := by
  rw [Int.natAbs_mul, Int.natCast_mul, Int.pow_add]
  have p1 := i_p2 a
  have p2 := i_p2 b
  have h1 : (x.natAbs : Int) * (y.natAbs : Int) ≤ (2 ^ a - 1) * (y.natAbs : Int) := Int.mul_le_mul_of_nonneg_right (by omega) (by omega)
  have h2 : ((2 : Int) ^ a - 1) * (y.natAbs : Int) ≤ (2 ^ a - 1) * 2 ^ b := Int.mul_le_mul_of_nonneg_left (by omega) (by omega)
  have h3 : ((2 : Int) ^ a - 1) * 2 ^ b = 2 ^ a * 2 ^ b - 2 ^ b := by rw [Int.sub_mul, Int.one_mul]
  omega
theorem evP_sz {F : Nat → Int} {X e : Int} {dg : Nat} (hX : (X.natAbs : Int) < 2 ^ 60) (he0 : 0 ≤ e) (he : e ≤ 60) (hF : ∀ k, k ≤ dg → ((F k).natAbs : Int) < 2 ^ 200) : ∀ m, m ≤ dg → ((evP F X e dg m).natAbs : Int) < 2 ^ (200 + 61 * m)
  | 0, _ => hF dg (Nat.le_refl _)
  | m + 1, hm => by
      have h := evP_sz hX he0 he hF m (by omega)
      have h1 : ((evP F X e dg m * X).natAbs : Int) < 2 ^ (200 + 61 * m + 60) := na_mul h (Int.le_of_lt hX)
      have hp : (((2 : Int) ^ (e * ((m : Int) + 1)).toNat).natAbs : Int) ≤ 2 ^ (60 * (m + 1)) := by
        have e9 : (((2 : Int) ^ (e * ((m : Int) + 1)).toNat).natAbs : Int) = 2 ^ (e * ((m : Int) + 1)).toNat := by have := i_p2 (e * ((m : Int) + 1)).toNat; omega
        rw [e9]
        apply p2_le
        have h5 := Int.mul_le_mul_of_nonneg_right he (show (0 : Int) ≤ (m : Int) + 1 by omega)
        omega
      have h2 : ((F (dg - (m + 1)) * 2 ^ (e * ((m : Int) + 1)).toNat).natAbs : Int) < 2 ^ (200 + 60 * (m + 1)) := na_mul (hF _ (Nat.sub_le _ _)) hp
      show ((evP F X e dg m * X + F (dg - (m + 1)) * 2 ^ (e * ((m : Int) + 1)).toNat).natAbs : Int) < _
      have h3 : (2 : Int) ^ (200 + 60 * (m + 1)) ≤ 2 ^ (200 + 61 * m + 60) := p2_le (by omega)
      have h4 : (2 : Int) ^ (200 + 61 * (m + 1)) = 2 ^ (200 + 61 * m + 60) * 2 := by rw [show 200 + 61 * (m + 1) = 200 + 61 * m + 60 + 1 by omega, Int.pow_succ]
      rw [h4]
      have h5 := Int.natAbs_add_le (evP F X e dg m * X) (F (dg - (m + 1)) * 2 ^ (e * ((m : Int) + 1)).toNat)
      omega
theorem evP_80 {F : Nat → Int} {X e : Int} {dg : Nat} (hX : (X.natAbs : Int) < 2 ^ 60) (he0 : 0 ≤ e) (he : e ≤ 60) (hF : ∀ k, k ≤ dg → ((F k).natAbs : Int) < 2 ^ 200) (hd : dg ≤ 12) (m : Nat) (hm : m ≤ dg) : ((evP F X e dg m).natAbs : Int) < 1073741824 ^ 80 := by
  have h := evP_sz hX he0 he hF m hm
  have h2 : (2 : Int) ^ (200 + 61 * m) < 2 ^ (30 * 80) := p2_lt (by omega)
  rw [p30]
  omega
theorem lt_B {x : Int} {a b : Nat} (h : (x.natAbs : Int) < 2 ^ a) (hab : a ≤ 30 * b) : (x.natAbs : Int) < 1073741824 ^ b := by
  have h2 : (2 : Int) ^ a ≤ 2 ^ (30 * b) := p2_le hab
  rw [p30]
  omega
/-- a number that is none of Tools' nor of Sturm's -/
def LOK (ta tb tq tt tu ug uh uq ut uu b : Nat) : Prop := (b ≠ ta ∧ b ≠ tb ∧ b ≠ tq ∧ b ≠ tt ∧ b ≠ tu) ∧ b ≠ ug ∧ b ≠ uh ∧ b ≠ uq ∧ b ≠ ut ∧ b ≠ uu
theorem up_eq {n : Nat} {C : Nat → Nat → Int} {cp : Nat → Nat} {pd : Nat → Int} {co : Nat → Nat → Nat} {w : Nat → Int} {X e : Int} (hcd : ∀ j : Nat, j ≤ n → pd (cp j) = (n : Int) - j) (hcv : ∀ j k : Nat, j ≤ n → k ≤ n - j → w (co (cp j) k) = C j k) : lowC n C - (chgS (upS cp pd co w X e) ((n : Int) + 1).toNat).1 = upV n C X e := by
  unfold upV
  rw [show ((n : Int) + 1).toNat = n + 1 by omega, chgS_congr (S' := fun i => sg (evP (C i) X e (n - i) (n - i))) (fun j hj => ?_)]
  unfold upS
  rw [hcd j (by omega), show ((n : Int) - j).toNat = n - j by omega, evP_congr (fun k hk => hcv j k (by omega) hk)]
