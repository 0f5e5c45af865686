section KnuthMath
/-- the value of the first n digits (base 2^31), the lowest first -/
def kn_v (f : Int → Int) : Nat → Int
  | 0 => 0
  | n + 1 => kn_v f n + f (n : Int) * 2147483648 ^ n
theorem kn_pow_pos (n : Nat) : (0 : Int) < 2147483648 ^ n := Int.pow_pos (by decide)
theorem kn_pow_succ (n : Nat) : (2147483648 : Int) ^ (n + 1) = 2147483648 ^ n * 2147483648 := Int.pow_succ _ _
/-- digits, so many -/
def kn_d (f : Int → Int) (n : Nat) : Prop := ∀ i : Int, 0 ≤ i → i < n → 0 ≤ f i ∧ f i < 2147483648
theorem kn_d_of_le {f : Int → Int} {n k : Nat} (h : kn_d f n) (hk : k ≤ n) : kn_d f k := fun i h0 h1 => h i h0 (by omega)
theorem kn_v_nonneg {f : Int → Int} : ∀ {n : Nat}, kn_d f n → 0 ≤ kn_v f n
  | 0, _ => Int.le_refl 0
  | n + 1, h => by
    have h1 := kn_v_nonneg (kn_d_of_le h (Nat.le_succ n))
    have h2 := (h (n : Int) (by omega) (by omega)).1
    have h3 := Int.mul_nonneg h2 (Int.le_of_lt (kn_pow_pos n))
    show 0 ≤ kn_v f n + f (n : Int) * 2147483648 ^ n
    omega
theorem kn_v_lt {f : Int → Int} : ∀ {n : Nat}, kn_d f n → kn_v f n < 2147483648 ^ n
  | 0, _ => by show (0 : Int) < 2147483648 ^ 0; decide
  | n + 1, h => by
    have h1 := kn_v_lt (kn_d_of_le h (Nat.le_succ n))
    have h2 := (h (n : Int) (by omega) (by omega)).2
    have h3 : f (n : Int) * 2147483648 ^ n ≤ 2147483647 * 2147483648 ^ n := Int.mul_le_mul_of_nonneg_right (by omega) (Int.le_of_lt (kn_pow_pos n))
    have h4 := kn_pow_succ n
    show kn_v f n + f (n : Int) * 2147483648 ^ n < 2147483648 ^ (n + 1)
    omega
theorem kn_v_congr {f g : Int → Int} : ∀ {n : Nat}, (∀ i : Int, 0 ≤ i → i < n → f i = g i) → kn_v f n = kn_v g n
  | 0, _ => rfl
  | n + 1, h => by
    show kn_v f n + f (n : Int) * 2147483648 ^ n = kn_v g n + g (n : Int) * 2147483648 ^ n
    rw [kn_v_congr (fun i h0 h1 => h i h0 (by omega)), h (n : Int) (by omega) (by omega)]
/-- split at a place: the lower digits, and the upper ones moved down -/
theorem kn_v_split {f : Int → Int} {k : Nat} : ∀ {n : Nat}, kn_v f (k + n) = kn_v f k + kn_v (fun i => f ((k : Int) + i)) n * 2147483648 ^ k
  | 0 => by show kn_v f k = kn_v f k + 0 * _; omega
  | n + 1 => by
    have h := kn_v_split (f := f) (k := k) (n := n)
    have h1 : (2147483648 : Int) ^ (k + n) = 2147483648 ^ n * 2147483648 ^ k := by rw [Nat.add_comm, Int.pow_add]
    have h2 : kn_v f (k + (n + 1)) = kn_v f (k + n) + f ((k + n : Nat) : Int) * 2147483648 ^ (k + n) := rfl
    have h3 : kn_v (fun i => f ((k : Int) + i)) (n + 1) = kn_v (fun i => f ((k : Int) + i)) n + f ((k : Int) + (n : Int)) * 2147483648 ^ n := rfl
    have h4 : ((k + n : Nat) : Int) = (k : Int) + (n : Int) := by omega
    rw [h2, h, h3, h1, h4, Int.add_mul, Int.mul_assoc, Int.add_assoc]
theorem kn_a {T K P G u v : Int} (hT : T + 1 ≤ G * K) (hP : 0 < P) (hu : u < P) (hv : 0 ≤ v) (hG : 0 ≤ G) : T * P + u < G * (K * P + v) := by
  have h1 : (T + 1) * P ≤ (G * K) * P := Int.mul_le_mul_of_nonneg_right hT (Int.le_of_lt hP)
  have h2 : (T + 1) * P = T * P + P := by rw [Int.add_mul, Int.one_mul]
  have h3 : G * (K * P + v) = (G * K) * P + G * v := by rw [Int.mul_add, ← Int.mul_assoc]
  have h4 : 0 ≤ G * v := Int.mul_nonneg hG hv
  omega
theorem kn_b {T K P G u v : Int} (hGK : G * K ≤ T) (hP : 0 ≤ P) (hu : 0 ≤ u) (hv0 : 0 ≤ v) (hv : v ≤ P) (hG : 0 ≤ G) (hGB : G ≤ K) : G * (K * P + v) ≤ (T * P + u) + (K * P + v) := by
  have h1 : G * (K * P + v) = (G * K) * P + G * v := by rw [Int.mul_add, ← Int.mul_assoc]
  have h2 : (G * K) * P ≤ T * P := Int.mul_le_mul_of_nonneg_right hGK hP
  have h3 : G * v ≤ G * P := Int.mul_le_mul_of_nonneg_left hv hG
  have h4 : G * P ≤ K * P := Int.mul_le_mul_of_nonneg_right hGB hP
  omega
/-- the guess at first: one more of it is too much -/
theorem kn_first {v1 v2 u2 u1 u0 P u v : Int} (hv1 : 0 < v1) (hv2 : 0 ≤ v2) (hu : 0 ≤ u2 * 2147483648 + u1) (hu0 : u0 < 2147483648) (hP : 0 < P) (hul : u < P) (hvl : 0 ≤ v) :
    ((u2 * 2147483648 + u1) * 2147483648 + u0) * P + u < ((u2 * 2147483648 + u1) / v1 + 1) * ((v1 * 2147483648 + v2) * P + v) := by
  have h1 := Int.emod_lt_of_pos (u2 * 2147483648 + u1) hv1
  have h2 := Int.mul_ediv_add_emod (u2 * 2147483648 + u1) v1
  have h0 : 0 ≤ (u2 * 2147483648 + u1) / v1 := Int.ediv_nonneg hu (Int.le_of_lt hv1)
  generalize hg : (u2 * 2147483648 + u1) / v1 = g at *
  refine kn_a ?_ hP hul hvl (by omega)
  have h3 : (g + 1) * (v1 * 2147483648 + v2) = (g * v1) * 2147483648 + v1 * 2147483648 + (g + 1) * v2 := by
    rw [Int.mul_add, Int.add_mul, Int.one_mul, Int.mul_assoc]
  have h4 : 0 ≤ (g + 1) * v2 := Int.mul_nonneg (by omega) hv2
  have h5 : v1 * g = g * v1 := Int.mul_comm _ _
  omega
/-- a guess that the test lowers -/
theorem kn_lower {g r v1 v2 u2 u1 u0 P u v : Int} (hi : g * v1 + r = u2 * 2147483648 + u1) (ht : r * 2147483648 + u0 < g * v2) (hg : 0 ≤ g) (hP : 0 < P) (hul : u < P) (hvl : 0 ≤ v) :
    ((u2 * 2147483648 + u1) * 2147483648 + u0) * P + u < g * ((v1 * 2147483648 + v2) * P + v) := by
  refine kn_a ?_ hP hul hvl hg
  have h3 : g * (v1 * 2147483648 + v2) = (g * v1) * 2147483648 + g * v2 := by rw [Int.mul_add, Int.mul_assoc]
  omega
/-- a guess that the test leaves: at most one too much -/
theorem kn_left {g r v1 v2 u2 u1 u0 P u v : Int} (hi : g * v1 + r = u2 * 2147483648 + u1) (ht : g * v2 ≤ r * 2147483648 + u0) (hg : 0 ≤ g) (hgB : g < 2147483648) (hv1 : 0 < v1) (hv2 : 0 ≤ v2) (hP : 0 < P) (hu : 0 ≤ u) (hv0 : 0 ≤ v) (hvl : v < P) :
    g * ((v1 * 2147483648 + v2) * P + v) ≤ (((u2 * 2147483648 + u1) * 2147483648 + u0) * P + u) + ((v1 * 2147483648 + v2) * P + v) := by
  refine kn_b ?_ (Int.le_of_lt hP) hu hv0 (Int.le_of_lt hvl) hg (by omega)
  have h3 : g * (v1 * 2147483648 + v2) = (g * v1) * 2147483648 + g * v2 := by rw [Int.mul_add, Int.mul_assoc]
  omega
end KnuthMath
