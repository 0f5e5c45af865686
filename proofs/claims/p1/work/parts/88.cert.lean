section CCert
def okCi (Ls : List (List Int)) (n i : Nat) : Bool := (List.range 3).all (fun m => (List.range (n - (i - 2) + 1)).all fun k => decide ((chL n (cL Ls) i m k).natAbs < 1073741824 ^ 80)) && (decide (chL n (cL Ls) i 2 (n - i) ≠ 0) && (List.range (n - i + 1)).all fun k => decide (cL Ls i k = -((chL n (cL Ls) i 2 k).tdiv (chG n (cL Ls) i * chG n (cL Ls) i ^ 1))))
def okC (Ls : List (List Int)) (n : Nat) : Bool := decide (2 ≤ n) && (decide (n ≤ 10) && ((List.range (n + 1)).all (fun i => (decide (i < 2) || okCi Ls n i) && (decide (cL Ls i (n - i) ≠ 0) && (List.range (n - i + 1)).all fun k => decide ((cL Ls i k).natAbs < 2 ^ 200))) && (List.range n).all fun k => decide (cL Ls 1 k = cL Ls 0 (k + 1) * ((k : Int) + 1))))
theorem nat80 {x : Int} (h : x.natAbs < 1073741824 ^ 80) : (x.natAbs : Int) < 1073741824 ^ 80 := by
  have := Int.ofNat_lt.mpr h
  rw [Int.natCast_pow] at this
  exact this
theorem nat200 {x : Int} (h : x.natAbs < 2 ^ 200) : (x.natAbs : Int) < 2 ^ 200 := by
  have := Int.ofNat_lt.mpr h
  rw [Int.natCast_pow] at this
  exact this
theorem okC_ok {Ls : List (List Int)} {n : Nat} (h : okC Ls n = true) : chOK n (cL Ls) ∧ ∀ j k : Nat, j ≤ n → k ≤ n - j → ((cL Ls j k).natAbs : Int) < 2 ^ 200 := by
  unfold okC at h
  rw [Bool.and_eq_true, Bool.and_eq_true, Bool.and_eq_true, decide_eq_true_eq, decide_eq_true_eq, List.all_eq_true, List.all_eq_true] at h
  obtain ⟨n2, n10, h1, h2⟩ := h
  have a1 : ∀ i, i ≤ n → (i < 2 ∨ okCi Ls n i = true) ∧ cL Ls i (n - i) ≠ 0 ∧ ∀ k, k ≤ n - i → ((cL Ls i k).natAbs : Int) < 2 ^ 200 := fun i hi => by
    have t := h1 i (List.mem_range.mpr (by omega))
    rw [Bool.and_eq_true, Bool.and_eq_true, Bool.or_eq_true, decide_eq_true_eq, decide_eq_true_eq, List.all_eq_true] at t
    exact ⟨t.1, t.2.1, fun k hk => nat200 (of_decide_eq_true (t.2.2 k (List.mem_range.mpr (by omega))))⟩
  refine ⟨⟨fun i i2 hi => ?_, fun i hi => ⟨(a1 i hi).2.1, fun k hk => lt_B ((a1 i hi).2.2 k hk) (by decide)⟩, fun k hk => of_decide_eq_true (h2 k (List.mem_range.mpr hk)), n2, n10⟩, fun j k hj hk => (a1 j hj).2.2 k hk⟩
  have t := (a1 i hi).1.resolve_left (by omega)
  unfold okCi at t
  rw [Bool.and_eq_true, Bool.and_eq_true, List.all_eq_true, decide_eq_true_eq, List.all_eq_true] at t
  obtain ⟨t1, t2, t3⟩ := t
  refine ⟨fun m hm k hk => ?_, t2, fun k hk => of_decide_eq_true (t3 k (List.mem_range.mpr (by omega)))⟩
  have u := t1 m (List.mem_range.mpr (by omega))
  rw [List.all_eq_true] at u
  exact nat80 (of_decide_eq_true (u k (List.mem_range.mpr (by omega))))
def fS (S : List Int) (k : Nat) : Int := lg S k * 2 ^ k
def cS (S : List Int) (h k : Nat) : Int := if fS S h < 0 then -((fS S k).tdiv ((cgN (fS S) h h : Nat) : Int)) else (fS S k).tdiv ((cgN (fS S) h h : Nat) : Int)
theorem cosF_S {d : Int} {h : Nat} {S : List Int} (hS : cosS d h = S) : cosF d h = fS S := funext fun k => by unfold cosF fS; rw [hS]
theorem cosC_S {d : Int} {h : Nat} {S : List Int} (hS : cosS d h = S) (k : Nat) : cosC d h k = cS S h k := by unfold cosC cS; rw [cosF_S hS]
/-- the whole table's entry for d -/
def okD (h : Nat) (S : List Int) (Ls : List (List Int)) (Rd : List (List rdT)) (r : Nat) (lo up : Int) : Bool :=
  okC Ls h && (decide (farF h (cL Ls 0) h = (r : Int)) && (decide (lowC h (cL Ls) = lo) && (decide (uppC h (cL Ls) = up) && ((List.range h).all (fun ii => decide ((Rd.getD ii []).length < 60) && okR Ls h lo (ii : Int) (Rd.getD ii []) (-(2 ^ r)) (2 ^ r) 0 0 (lo - up)) && (List.range (h + 1)).all fun k => decide (cL Ls 0 k = cS S h k)))))
def tabD (d : Int) : Prop := ∃ C : Nat → Nat → Int, (∀ k : Nat, k ≤ (hfO d).toNat → C 0 k = cosC d (hfO d).toNat k) ∧ chOK (hfO d).toNat C ∧ (∀ j k : Nat, j ≤ (hfO d).toNat → k ≤ (hfO d).toNat - j → ((C j k).natAbs : Int) < 2 ^ 200) ∧
  ∀ ii : Int, 0 ≤ ii → ii < hfO d → locP (hfO d).toNat C ii 60 (-(2 ^ (farF (hfO d).toNat (C 0) (hfO d).toNat).toNat)) (2 ^ (farF (hfO d).toNat (C 0) (hfO d).toNat).toNat) 0 0 (lowC (hfO d).toNat C - uppC (hfO d).toNat C)
theorem cert_ok {d : Int} {h : Nat} {S : List Int} {Ls : List (List Int)} {Rd : List (List rdT)} {r : Nat} {lo up : Int} (hh : hfO d = (h : Int)) (hS : cosS d h = S) (hc : okD h S Ls Rd r lo up = true) : tabD d := by
  unfold okD at hc
  rw [Bool.and_eq_true, Bool.and_eq_true, Bool.and_eq_true, Bool.and_eq_true, Bool.and_eq_true, decide_eq_true_eq, decide_eq_true_eq, decide_eq_true_eq, List.all_eq_true, List.all_eq_true] at hc
  obtain ⟨h1, h2, h3, h4, h5, h6⟩ := hc
  obtain ⟨k1, k2⟩ := okC_ok h1
  unfold tabD
  rw [hh, Int.toNat_natCast]
  refine ⟨cL Ls, fun k hk => (of_decide_eq_true (h6 k (List.mem_range.mpr (by omega)))).trans (cosC_S hS k).symm, k1, k2, fun ii i0 i1 => ?_⟩
  have t := h5 ii.toNat (List.mem_range.mpr (by omega))
  rw [Bool.and_eq_true, decide_eq_true_eq, show ((ii.toNat : Nat) : Int) = ii by omega, ← h3] at t
  rw [h2, Int.toNat_natCast, h4]
  exact okR_loc _ _ _ 0 _ _ 60 t.1 t.2
end CCert
