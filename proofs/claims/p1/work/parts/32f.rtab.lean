/-- moebius(), upwards with an accumulator -/
def mobL : Nat → Nat → Int → Int → Int × Int
  | 0, _, a, s => (a, s)
  | f + 1, k, a, s => if a % ((k : Int) + 2) = 0 then mobL f (k + 1) (a / ((k : Int) + 2)) (if a / ((k : Int) + 2) % ((k : Int) + 2) = 0 then 0 else 0 - s) else mobL f (k + 1) a s
theorem mobL_mobs (n : Int) : ∀ f k : Nat, mobL f k (mobs n k).1 (mobs n k).2 = mobs n (k + f)
  | 0, k => rfl
  | f + 1, k => by
      rw [show k + (f + 1) = k + 1 + f by omega, ← mobL_mobs n f (k + 1)]
      have e : mobs n (k + 1) = (if (mobs n k).1 % ((k : Int) + 2) = 0 then ((mobs n k).1 / ((k : Int) + 2), if (mobs n k).1 / ((k : Int) + 2) % ((k : Int) + 2) = 0 then 0 else 0 - (mobs n k).2) else mobs n k) := rfl
      show (if (mobs n k).1 % ((k : Int) + 2) = 0 then mobL f (k + 1) ((mobs n k).1 / ((k : Int) + 2)) (if (mobs n k).1 / ((k : Int) + 2) % ((k : Int) + 2) = 0 then 0 else 0 - (mobs n k).2) else mobL f (k + 1) (mobs n k).1 (mobs n k).2) = _
      rw [e]
      split <;> rfl
def mobQ (n : Int) : Int := (mobL (n - 1).toNat 0 n 1).2
theorem mobQ_mob (n : Int) : mobQ n = mob n := by
  have h := mobL_mobs n (n - 1).toNat 0
  rw [Nat.zero_add] at h
  unfold mobQ mob
  exact congrArg Prod.snd h
/-- that the degrees of makeCycle() stay within 0 .. 139 -/
def cyB (s d n : Int) : Nat → Nat → Int → Bool
  | 0, _, acc => decide (0 ≤ acc) && decide (acc ≤ 139)
  | f + 1, k, acc => (decide (0 ≤ acc) && decide (acc ≤ 139)) && cyB s d n f (k + 1) (if n % ((k : Int) + 1) = 0 then (if mobQ (n / ((k : Int) + 1)) = s then acc + d * ((k : Int) + 1) else acc) else acc)
theorem cy0_step (n : Int) (k : Nat) : cyc0 n (k + 1) = (if n % ((k : Int) + 1) = 0 then (if mobQ (n / ((k : Int) + 1)) = 1 then cyc0 n k + 1 * ((k : Int) + 1) else cyc0 n k) else cyc0 n k) := by
  have e : cyc0 n (k + 1) = (if n % ((k : Int) + 1) = 0 ∧ mob (n / ((k : Int) + 1)) = 1 then cyc0 n k + ((k : Int) + 1) else cyc0 n k) := rfl
  rw [e, mobQ_mob]
  by_cases a : n % ((k : Int) + 1) = 0
  · by_cases b : mob (n / ((k : Int) + 1)) = 1
    · rw [if_pos ⟨a, b⟩, if_pos a, if_pos b]; omega
    · rw [if_neg (fun q => b q.2), if_pos a, if_neg b]
  · rw [if_neg (fun q => a q.1), if_neg a]
theorem cy1_step (n : Int) (k : Nat) : cyc1 n (k + 1) = (if n % ((k : Int) + 1) = 0 then (if mobQ (n / ((k : Int) + 1)) = -1 then cyc1 n k + (-1) * ((k : Int) + 1) else cyc1 n k) else cyc1 n k) := by
  have e : cyc1 n (k + 1) = (if n % ((k : Int) + 1) = 0 ∧ mob (n / ((k : Int) + 1)) = -1 then cyc1 n k - ((k : Int) + 1) else cyc1 n k) := rfl
  rw [e, mobQ_mob]
  by_cases a : n % ((k : Int) + 1) = 0
  · by_cases b : mob (n / ((k : Int) + 1)) = -1
    · rw [if_pos ⟨a, b⟩, if_pos a, if_pos b]; omega
    · rw [if_neg (fun q => b q.2), if_pos a, if_neg b]
  · rw [if_neg (fun q => a q.1), if_neg a]
theorem cyB_ok {s d n : Int} {C : Nat → Int} (hs : ∀ k : Nat, C (k + 1) = (if n % ((k : Int) + 1) = 0 then (if mobQ (n / ((k : Int) + 1)) = s then C k + d * ((k : Int) + 1) else C k) else C k)) : ∀ (f k : Nat), cyB s d n f k (C k) = true → ∀ j : Nat, k ≤ j → j ≤ k + f → 0 ≤ C j ∧ C j ≤ 139
  | 0, k, h, j, h1, h2 => by
      unfold cyB at h
      rw [Bool.and_eq_true, decide_eq_true_eq, decide_eq_true_eq] at h
      rw [show j = k by omega]
      exact h
  | f + 1, k, h, j, h1, h2 => by
      unfold cyB at h
      rw [Bool.and_eq_true, Bool.and_eq_true, decide_eq_true_eq, decide_eq_true_eq, ← hs k] at h
      by_cases e : j = k
      · rw [e]; exact h.1
      · exact cyB_ok hs f (k + 1) h.2 j (by omega) (by omega)
def cyF (n : Int) : Nat → Nat → Int → Int
  | 0, _, acc => acc
  | f + 1, k, acc => cyF n f (k + 1) (if n % ((k : Int) + 1) = 0 then (if mobQ (n / ((k : Int) + 1)) = 1 then acc + 1 * ((k : Int) + 1) else acc) else acc)
theorem cyF_ok (n : Int) : ∀ f k : Nat, cyF n f k (cyc0 n k) = cyc0 n (k + f)
  | 0, k => rfl
  | f + 1, k => by
      rw [show k + (f + 1) = k + 1 + f by omega, ← cyF_ok n f (k + 1), cy0_step n k]
      rfl
def DSR : List Nat := [3, 4, 6, 5, 7, 8, 9, 10, 11, 12, 13, 14, 15, 16, 17, 18, 19, 20, 21, 22, 24, 25, 26, 27, 28, 30, 32, 33, 34, 36, 38, 40, 42, 44, 48, 50, 54, 60, 66]
set_option maxRecDepth 100000 in
theorem cy0_all : DSR.all (fun n => cyB 1 1 (n : Int) n 0 0) = true := by decide +kernel
set_option maxRecDepth 100000 in
theorem cy1_all : DSR.all (fun n => cyB (-1) (-1) (n : Int) n 0 (cyF (n : Int) n 0 0)) = true := by decide +kernel
def okN (n : Nat) : Bool := decide (n < 3) || (decide (10 < copn n n / 2) || DSR.contains n)
set_option maxRecDepth 100000 in
theorem okN_all : (List.range 481).all okN = true := by decide +kernel
/-- what makeCycle() asks of its argument, for every turn that is not refused -/
theorem cyc_ok {n : Int} (h3 : 3 ≤ n) (h4 : n ≤ 480) (h10 : copn n.toNat n.toNat / 2 ≤ 10) : (∀ k : Nat, (k : Int) ≤ n → 0 ≤ cyc0 n k ∧ cyc0 n k ≤ 139) ∧ ∀ k : Nat, (k : Int) ≤ n → 0 ≤ cyc1 n k ∧ cyc1 n k ≤ 139 := by
  have t := List.all_eq_true.mp okN_all n.toNat (List.mem_range.mpr (by omega))
  unfold okN at t
  rw [Bool.or_eq_true, decide_eq_true_eq, Bool.or_eq_true, decide_eq_true_eq, List.contains_iff_mem] at t
  have hm := (t.resolve_left (by omega)).resolve_left (by omega)
  have en : ((n.toNat : Nat) : Int) = n := by omega
  have a := List.all_eq_true.mp cy0_all n.toNat hm
  have b := List.all_eq_true.mp cy1_all n.toNat hm
  rw [en] at a b
  have ev : cyF n n.toNat 0 0 = cyc1 n 0 := (cyF_ok n n.toNat 0).trans (by rw [Nat.zero_add]; rfl)
  rw [ev] at b
  refine ⟨fun k hk => cyB_ok (C := cyc0 n) (cy0_step n) n.toNat 0 a k (Nat.zero_le _) (by omega), fun k hk => cyB_ok (C := cyc1 n) (cy1_step n) n.toNat 0 b k (Nat.zero_le _) (by omega)⟩
