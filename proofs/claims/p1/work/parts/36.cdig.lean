def kb_v (f : Int → Int) : Nat → Int
  | 0 => 0
  | n + 1 => kb_v f n + f (n : Int) * 1073741824 ^ n
theorem kb_pow_pos (n : Nat) : (0 : Int) < 1073741824 ^ n := Int.pow_pos (by decide)
theorem kb_pow_succ (n : Nat) : (1073741824 : Int) ^ (n + 1) = 1073741824 ^ n * 1073741824 := Int.pow_succ _ _
def kb_d (f : Int → Int) (n : Nat) : Prop := ∀ i : Int, 0 ≤ i → i < n → 0 ≤ f i ∧ f i < 1073741824
theorem kb_d_of_le {f : Int → Int} {n k : Nat} (h : kb_d f n) (hk : k ≤ n) : kb_d f k := fun i h0 h1 => h i h0 (by omega)
theorem kb_v_nonneg {f : Int → Int} : ∀ {n : Nat}, kb_d f n → 0 ≤ kb_v f n
  | 0, _ => Int.le_refl 0
  | n + 1, h => by
    have h1 := kb_v_nonneg (kb_d_of_le h (Nat.le_succ n))
    have h2 := (h (n : Int) (by omega) (by omega)).1
    have h3 := Int.mul_nonneg h2 (Int.le_of_lt (kb_pow_pos n))
    show 0 ≤ kb_v f n + f (n : Int) * 1073741824 ^ n
    omega
theorem kb_v_lt {f : Int → Int} : ∀ {n : Nat}, kb_d f n → kb_v f n < 1073741824 ^ n
  | 0, _ => by show (0 : Int) < 1073741824 ^ 0; decide
  | n + 1, h => by
    have h1 := kb_v_lt (kb_d_of_le h (Nat.le_succ n))
    have h2 := (h (n : Int) (by omega) (by omega)).2
    have h3 : f (n : Int) * 1073741824 ^ n ≤ 1073741823 * 1073741824 ^ n := Int.mul_le_mul_of_nonneg_right (by omega) (Int.le_of_lt (kb_pow_pos n))
    have h4 := kb_pow_succ n
    show kb_v f n + f (n : Int) * 1073741824 ^ n < 1073741824 ^ (n + 1)
    omega
theorem kb_v_congr {f g : Int → Int} : ∀ {n : Nat}, (∀ i : Int, 0 ≤ i → i < n → f i = g i) → kb_v f n = kb_v g n
  | 0, _ => rfl
  | n + 1, h => by
    show kb_v f n + f (n : Int) * 1073741824 ^ n = kb_v g n + g (n : Int) * 1073741824 ^ n
    rw [kb_v_congr (fun i h0 h1 => h i h0 (by omega)), h (n : Int) (by omega) (by omega)]
theorem kb_v_split {f : Int → Int} {k : Nat} : ∀ {n : Nat}, kb_v f (k + n) = kb_v f k + kb_v (fun i => f ((k : Int) + i)) n * 1073741824 ^ k
  | 0 => by show kb_v f k = kb_v f k + 0 * _; omega
  | n + 1 => by
    have h := kb_v_split (f := f) (k := k) (n := n)
    have h1 : (1073741824 : Int) ^ (k + n) = 1073741824 ^ n * 1073741824 ^ k := by rw [Nat.add_comm, Int.pow_add]
    have h2 : kb_v f (k + (n + 1)) = kb_v f (k + n) + f ((k + n : Nat) : Int) * 1073741824 ^ (k + n) := rfl
    have h3 : kb_v (fun i => f ((k : Int) + i)) (n + 1) = kb_v (fun i => f ((k : Int) + i)) n + f ((k : Int) + (n : Int)) * 1073741824 ^ n := rfl
    have h4 : ((k + n : Nat) : Int) = (k : Int) + (n : Int) := by omega
    rw [h2, h, h3, h1, h4, Int.add_mul, Int.mul_assoc, Int.add_assoc]
theorem kb_a {T K P G u v : Int} (hT : T + 1 ≤ G * K) (hP : 0 < P) (hu : u < P) (hv : 0 ≤ v) (hG : 0 ≤ G) : T * P + u < G * (K * P + v) := by
  have h1 : (T + 1) * P ≤ (G * K) * P := Int.mul_le_mul_of_nonneg_right hT (Int.le_of_lt hP)
  have h2 : (T + 1) * P = T * P + P := by rw [Int.add_mul, Int.one_mul]
  have h3 : G * (K * P + v) = (G * K) * P + G * v := by rw [Int.mul_add, ← Int.mul_assoc]
  have h4 : 0 ≤ G * v := Int.mul_nonneg hG hv
  omega
theorem kb_b {T K P G u v : Int} (hGK : G * K ≤ T) (hP : 0 ≤ P) (hu : 0 ≤ u) (hv0 : 0 ≤ v) (hv : v ≤ P) (hG : 0 ≤ G) (hGB : G ≤ K) : G * (K * P + v) ≤ (T * P + u) + (K * P + v) := by
  have h1 : G * (K * P + v) = (G * K) * P + G * v := by rw [Int.mul_add, ← Int.mul_assoc]
  have h2 : (G * K) * P ≤ T * P := Int.mul_le_mul_of_nonneg_right hGK hP
  have h3 : G * v ≤ G * P := Int.mul_le_mul_of_nonneg_left hv hG
  have h4 : G * P ≤ K * P := Int.mul_le_mul_of_nonneg_right hGB hP
  omega
theorem kb_first {v1 v2 u2 u1 u0 P u v : Int} (hv1 : 0 < v1) (hv2 : 0 ≤ v2) (hu : 0 ≤ u2 * 1073741824 + u1) (hu0 : u0 < 1073741824) (hP : 0 < P) (hul : u < P) (hvl : 0 ≤ v) :
    ((u2 * 1073741824 + u1) * 1073741824 + u0) * P + u < ((u2 * 1073741824 + u1) / v1 + 1) * ((v1 * 1073741824 + v2) * P + v) := by
  have h1 := Int.emod_lt_of_pos (u2 * 1073741824 + u1) hv1
  have h2 := Int.mul_ediv_add_emod (u2 * 1073741824 + u1) v1
  have h0 : 0 ≤ (u2 * 1073741824 + u1) / v1 := Int.ediv_nonneg hu (Int.le_of_lt hv1)
  generalize hg : (u2 * 1073741824 + u1) / v1 = g at *
  refine kb_a ?_ hP hul hvl (by omega)
  have h3 : (g + 1) * (v1 * 1073741824 + v2) = (g * v1) * 1073741824 + v1 * 1073741824 + (g + 1) * v2 := by
    rw [Int.mul_add, Int.add_mul, Int.one_mul, Int.mul_assoc]
  have h4 : 0 ≤ (g + 1) * v2 := Int.mul_nonneg (by omega) hv2
  have h5 : v1 * g = g * v1 := Int.mul_comm _ _
  omega
theorem kb_lower {g r v1 v2 u2 u1 u0 P u v : Int} (hi : g * v1 + r = u2 * 1073741824 + u1) (ht : r * 1073741824 + u0 < g * v2) (hg : 0 ≤ g) (hP : 0 < P) (hul : u < P) (hvl : 0 ≤ v) :
    ((u2 * 1073741824 + u1) * 1073741824 + u0) * P + u < g * ((v1 * 1073741824 + v2) * P + v) := by
  refine kb_a ?_ hP hul hvl hg
  have h3 : g * (v1 * 1073741824 + v2) = (g * v1) * 1073741824 + g * v2 := by rw [Int.mul_add, Int.mul_assoc]
  omega
theorem kb_left {g r v1 v2 u2 u1 u0 P u v : Int} (hi : g * v1 + r = u2 * 1073741824 + u1) (ht : g * v2 ≤ r * 1073741824 + u0) (hg : 0 ≤ g) (hgB : g < 1073741824) (hv1 : 0 < v1) (hv2 : 0 ≤ v2) (hP : 0 < P) (hu : 0 ≤ u) (hv0 : 0 ≤ v) (hvl : v < P) :
    g * ((v1 * 1073741824 + v2) * P + v) ≤ (((u2 * 1073741824 + u1) * 1073741824 + u0) * P + u) + ((v1 * 1073741824 + v2) * P + v) := by
  refine kb_b ?_ (Int.le_of_lt hP) hu hv0 (Int.le_of_lt hvl) hg (by omega)
  have h3 : g * (v1 * 1073741824 + v2) = (g * v1) * 1073741824 + g * v2 := by rw [Int.mul_add, Int.mul_assoc]
  omega
theorem kb_v_zero {f : Int → Int} {k : Nat} : ∀ {n : Nat}, k ≤ n → (∀ i : Int, (k : Int) ≤ i → i < n → f i = 0) → kb_v f n = kb_v f k
  | 0, h, _ => by rw [Nat.le_zero.mp h]
  | n + 1, h, q => by
    rcases Nat.lt_or_ge k (n + 1) with h1 | h1
    · have h2 : kb_v f (n + 1) = kb_v f n + f (n : Int) * 1073741824 ^ n := rfl
      rw [h2, q (n : Int) (by omega) (by omega), Int.zero_mul, Int.add_zero]
      exact kb_v_zero (by omega) (fun i a b => q i a (by omega))
    · rw [Nat.le_antisymm h h1]
theorem kb_v_lo {f : Int → Int} {n : Nat} (h : kb_d f (n + 1)) (ht : f (n : Int) ≠ 0) : 1073741824 ^ n ≤ kb_v f (n + 1) := by
  have h1 := kb_v_nonneg (kb_d_of_le h (Nat.le_succ n))
  have h2 := (h (n : Int) (by omega) (by omega)).1
  have h3 : 1 * 1073741824 ^ n ≤ f (n : Int) * 1073741824 ^ n := Int.mul_le_mul_of_nonneg_right (by omega) (Int.le_of_lt (kb_pow_pos n))
  show 1073741824 ^ n ≤ kb_v f n + f (n : Int) * 1073741824 ^ n
  omega
theorem kb_pow_mono {n m : Nat} (h : n ≤ m) : (1073741824 : Int) ^ n ≤ 1073741824 ^ m := by
  induction h with
  | refl => exact Int.le_refl _
  | step _ ih =>
    rename_i k _
    rw [kb_pow_succ]
    have := kb_pow_pos k
    omega
theorem kb_lt {f g : Int → Int} : ∀ {n : Nat}, kb_d f n → kb_d g n → ∀ i : Int, 0 ≤ i → i < n → (∀ j : Int, i < j → j < n → f j = g j) → f i < g i → kb_v f n < kb_v g n
  | 0, _, _, i, h0, h1, _, _ => by omega
  | n + 1, hf, hg, i, h0, h1, he, hlt => by
    have e1 : kb_v f (n + 1) = kb_v f n + f (n : Int) * 1073741824 ^ n := rfl
    have e2 : kb_v g (n + 1) = kb_v g n + g (n : Int) * 1073741824 ^ n := rfl
    by_cases q : i = (n : Int)
    · have h2 := kb_v_lt (kb_d_of_le hf (Nat.le_succ n))
      have h3 := kb_v_nonneg (kb_d_of_le hg (Nat.le_succ n))
      rw [q] at hlt
      have h4 : (f (n : Int) + 1) * 1073741824 ^ n ≤ g (n : Int) * 1073741824 ^ n := Int.mul_le_mul_of_nonneg_right (by omega) (Int.le_of_lt (kb_pow_pos n))
      rw [Int.add_mul, Int.one_mul] at h4
      rw [e1, e2]; omega
    · have ih := kb_lt (kb_d_of_le hf (Nat.le_succ n)) (kb_d_of_le hg (Nat.le_succ n)) i h0 (by omega) (fun j a b => he j a (by omega)) hlt
      rw [e1, e2, he (n : Int) (by omega) (by omega)]; omega
theorem db_ms {A0 Y R g cy bo Q w y cq cr d bo' : Int} (e : R = A0 - g * Y + (cy - bo) * Q) (hc : cq * 1073741824 + cr = cy + g * y) (hb : d + bo' * 1073741824 = bo + w - cr) : R + d * Q = (A0 + w * Q) - g * (Y + y * Q) + (cq - bo') * (Q * 1073741824) := by
  grind
theorem db_ab {R0 Y R cy Q w y d cy' : Int} (e : R + cy * Q = R0 + Y) (hd : d + cy' * 1073741824 = cy + w + y) : (R + d * Q) + cy' * (Q * 1073741824) = (R0 + w * Q) + (Y + y * Q) := by
  grind
theorem db_end0 {R b g U V PN : Int} (e : U - g * V = R + b * PN) (R0 : 0 ≤ R) (hV : V ≤ PN) (hP : 0 < PN) (hU : U < (g + 1) * V) (hb : 0 ≤ b) : R < V := by
  have h1 : (g + 1) * V = g * V + V := by rw [Int.add_mul, Int.one_mul]
  rcases Int.lt_or_le 0 b with q | q
  · have h2 : 1 * PN ≤ b * PN := Int.mul_le_mul_of_nonneg_right (by omega) (Int.le_of_lt hP)
    omega
  · have : b = 0 := by omega
    rw [this, Int.zero_mul] at e
    omega
theorem db_end1 {R R' b cf g U V PN : Int} (e : U - g * V = R + b * PN) (eR : R' + cf * PN = R + V) (R1 : R < PN) (R0' : 0 ≤ R') (R1' : R' < PN) (hV : V ≤ PN) (hP : 0 < PN) (hU : g * V ≤ U + V) (hb : b < 0) : R' < V := by
  have h1 : b * PN ≤ (-1) * PN := Int.mul_le_mul_of_nonneg_right (by omega) (Int.le_of_lt hP)
  have h2 : U - g * V + V = R' + (b + cf) * PN := by rw [Int.add_mul]; omega
  rcases Int.lt_or_le 0 (b + cf) with q | q
  · have h3 : 1 * PN ≤ (b + cf) * PN := Int.mul_le_mul_of_nonneg_right (by omega) (Int.le_of_lt hP)
    omega
  · rcases Int.lt_or_le (b + cf) 0 with q2 | q2
    · have h3 : (b + cf) * PN ≤ (-1) * PN := Int.mul_le_mul_of_nonneg_right (by omega) (Int.le_of_lt hP)
      omega
    · have : b + cf = 0 := by omega
      rw [this, Int.zero_mul] at h2
      omega
theorem db_top3 {f : Int → Int} (n : Nat) : kb_v f (n + 3) = ((f ((n + 2 : Nat) : Int) * 1073741824 + f ((n + 1 : Nat) : Int)) * 1073741824 + f (n : Int)) * 1073741824 ^ n + kb_v f n := by
  show ((kb_v f n + f (n : Int) * 1073741824 ^ n) + f ((n + 1 : Nat) : Int) * 1073741824 ^ (n + 1)) + f ((n + 2 : Nat) : Int) * 1073741824 ^ (n + 2) = _
  have h1 := kb_pow_succ n
  have h2 := kb_pow_succ (n + 1)
  grind
theorem db_top2 {f : Int → Int} (n : Nat) : kb_v f (n + 2) = (f ((n + 1 : Nat) : Int) * 1073741824 + f (n : Int)) * 1073741824 ^ n + kb_v f n := by
  show (kb_v f n + f (n : Int) * 1073741824 ^ n) + f ((n + 1 : Nat) : Int) * 1073741824 ^ (n + 1) = _
  have h1 := kb_pow_succ n
  grind
theorem db_tot {U K u2 Q R g V cy bo bb : Int} (h1 : U = K + u2 * Q) (h2 : R = K - g * V + (cy - bo) * Q) (h3 : bb = bo + u2 - cy) : U - g * V = R + bb * Q := by
  grind
theorem kb_v_up {f g : Int → Int} {n : Nat} {d : Int} (h : ∀ i : Int, 0 ≤ i → i < n → g i = f i) (hd : g (n : Int) = d) : kb_v g (n + 1) = kb_v f n + d * 1073741824 ^ n := by
  show kb_v g n + g (n : Int) * 1073741824 ^ n = _
  rw [hd, kb_v_congr h]

theorem bld_digit {x y P M : Int} (hP : 0 < P) (hM : 0 < M) (hB : P * M = 1073741824) (x0 : 0 ≤ x) (x1 : x < 1073741824) : ((x + y * 1073741824) / P % 1073741824) * P + x % P = x + (y % P) * 1073741824 := by
  have e1 : (x + y * 1073741824) / P = x / P + M * y := by
    rw [← hB, show y * (P * M) = P * (M * y) by grind]
    exact Int.add_mul_ediv_left _ _ (by omega)
  have e2 : x / P + M * y = (x / P + M * (y % P)) + 1073741824 * (y / P) := by
    have h := Int.mul_ediv_add_emod y P
    rw [← hB]
    grind
  have h1 : x / P < M := Int.ediv_lt_of_lt_mul hP (by rw [Int.mul_comm, hB]; exact x1)
  have h2 : 0 ≤ x / P := Int.ediv_nonneg x0 (Int.le_of_lt hP)
  have h3 : 0 ≤ y % P := Int.emod_nonneg _ (by omega)
  have h4 : y % P < P := Int.emod_lt_of_pos _ hP
  have h5 : M * (y % P) ≤ M * (P - 1) := Int.mul_le_mul_of_nonneg_left (by omega) (by omega)
  have h6 : 0 ≤ M * (y % P) := Int.mul_nonneg (by omega) h3
  have h7 : M * (P - 1) = 1073741824 - M := by rw [← hB]; grind
  rw [e1, e2, Int.add_mul_emod_self_left, Int.emod_eq_of_lt (by omega) (by omega)]
  have h8 := Int.mul_ediv_add_emod x P
  have h9 : (x / P + M * (y % P)) * P = P * (x / P) + (y % P) * 1073741824 := by rw [← hB]; grind
  omega
theorem bld_step {V P r A mm Q d x w : Int} (e : V * P + r = A + mm * Q) (hd : d * P + mm = x + w * 1073741824) : (V + d * Q) * P + r = (A + x * Q) + w * (Q * 1073741824) := by
  grind
/-- the sign of a number -/
def sg (V : Int) : Int := if 0 < V then 1 else if V < 0 then -1 else 0
theorem sg_bd (V : Int) : -1 ≤ sg V ∧ sg V ≤ 1 := by unfold sg; split <;> (try split) <;> omega
theorem sg_zero {V : Int} : sg V = 0 ↔ V = 0 := by unfold sg; split <;> (try split) <;> omega
theorem sg_pos {V : Int} : sg V = 1 ↔ 0 < V := by unfold sg; split <;> (try split) <;> omega
theorem sg_neg {V : Int} : sg V = -1 ↔ V < 0 := by unfold sg; split <;> (try split) <;> omega
/-- a number in its cells: so many digits, its sign, room for so many, the digits -/
def num1 (n s : Int) (k : Nat) (f : Int → Int) (V : Int) : Prop := 0 ≤ n ∧ n ≤ k ∧ 5 ≤ k ∧ kb_d f n.toNat ∧ (0 < n → f (n - 1) ≠ 0) ∧ s = sg V ∧ kb_v f n.toNat = (V.natAbs : Int)
def cR (LB : List Nat) (nn ss : Nat → Int) (ll : Nat → Nat) (gg : Nat → Int → Int) (v : Nat → Int) : Prop := ∀ b ∈ LB, num1 (nn b) (ss b) (ll b) (gg b) (v b)
theorem va_up_up {α : Type} (f : Nat → α) (k : Nat) (v w : α) : va_up (va_up f k v) k w = va_up f k w := by
  funext j
  unfold va_up
  split <;> rfl
theorem va_up_id {α : Type} (f : Nat → α) (k : Nat) : va_up f k (f k) = f := by
  funext j
  unfold va_up
  split
  · next h => rw [h]
  · rfl
theorem va_up_in {α : Type} (f : Nat → α) {k q : Nat} (h : k ≠ q) (v w u : α) : va_up (va_up (va_up f k v) q w) k u = va_up (va_up f k u) q w := by
  funext j
  unfold va_up
  by_cases h1 : j = k
  · rw [if_pos h1, if_neg (fun z => h (h1.symm.trans z)), if_pos h1]
  · rw [if_neg h1]
    by_cases h2 : j = q
    · rw [if_pos h2, if_pos h2]
    · rw [if_neg h2, if_neg h2, if_neg h1, if_neg h1]
theorem cR_up {LB : List Nat} {nn ss : Nat → Int} {ll : Nat → Nat} {gg : Nat → Int → Int} {v : Nat → Int} {h0 : Nat} {n s : Int} {k : Nat} {f : Int → Int} {V : Int} (h : cR LB nn ss ll gg v) (h1 : num1 n s k f V) : cR LB (va_up nn h0 n) (va_up ss h0 s) (va_up ll h0 k) (va_up gg h0 f) (va_up v h0 V) := by
  intro b hb
  by_cases q : b = h0
  · subst q; rw [va_up_self, va_up_self, va_up_self, va_up_self, va_up_self]; exact h1
  · rw [va_up_ne _ _ q, va_up_ne _ _ q, va_up_ne _ _ q, va_up_ne _ _ q, va_up_ne _ _ q]; exact h b hb
theorem kb_pow_lt {n m : Nat} (h : (1073741824 : Int) ^ n < 1073741824 ^ m) : n < m := by
  rcases Nat.lt_or_ge n m with q | q
  · exact q
  · have := kb_pow_mono q
    omega
theorem num1_zero {n s : Int} {k : Nat} {f : Int → Int} {V : Int} (h : num1 n s k f V) : n = 0 ↔ V = 0 := by
  obtain ⟨h0, h1, h2, h3, h4, h5, h6⟩ := h
  constructor
  · intro q
    subst q
    have : kb_v f (0 : Int).toNat = 0 := rfl
    omega
  · intro q
    subst q
    rcases Int.lt_or_le 0 n with z | z
    · obtain ⟨j, hj⟩ : ∃ j : Nat, n.toNat = j + 1 := ⟨n.toNat - 1, by omega⟩
      rw [hj] at h3 h6
      have h7 := kb_v_lo h3 (by have := h4 z; rw [show n - 1 = (j : Int) by omega] at this; exact this)
      have h8 := kb_pow_pos j
      have : ((0 : Int).natAbs : Int) = 0 := rfl
      omega
    · omega
/-- so many digits, by its size -/
theorem num1_lt {n s : Int} {k : Nat} {f : Int → Int} {V : Int} (h : num1 n s k f V) : (V.natAbs : Int) < 1073741824 ^ n.toNat := by
  obtain ⟨h0, h1, h2, h3, h4, h5, h6⟩ := h
  rw [← h6]
  exact kb_v_lt h3
theorem num1_ge {n s : Int} {k : Nat} {f : Int → Int} {V : Int} (h : num1 n s k f V) (hn : 0 < n) : 1073741824 ^ (n - 1).toNat ≤ (V.natAbs : Int) := by
  obtain ⟨h0, h1, h2, h3, h4, h5, h6⟩ := h
  obtain ⟨j, hj⟩ : ∃ j : Nat, n.toNat = j + 1 := ⟨n.toNat - 1, by omega⟩
  rw [← h6, hj]
  rw [hj] at h3
  rw [show (n - 1).toNat = j by omega]
  exact kb_v_lo h3 (by have := h4 hn; rw [show n - 1 = (j : Int) by omega] at this; exact this)
theorem num1_le {n s : Int} {k : Nat} {f : Int → Int} {V : Int} (h : num1 n s k f V) {t : Nat} (q : (V.natAbs : Int) < 1073741824 ^ t) : n ≤ t := by
  rcases Int.lt_or_le 0 n with z | z
  · have h1 := num1_ge h z
    have := kb_pow_lt (Int.lt_of_le_of_lt h1 q)
    omega
  · omega
theorem num1_sg {n s : Int} {k : Nat} {f : Int → Int} {V : Int} (h : num1 n s k f V) : s = sg V := h.2.2.2.2.2.1
