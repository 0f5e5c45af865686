set_option maxRecDepth 100000
set_option maxHeartbeats 4000000
def okF (h : Nat) (S : List Int) : Bool := (List.range (h + 1)).all (fun k => decide ((fS S k).natAbs < 2 ^ 60)) && decide (fS S h ≠ 0)
def tabFD (d : Int) : Prop := (∀ k : Nat, (k : Int) ≤ hfO d → ((cosF d (hfO d).toNat k).natAbs : Int) < 2 ^ 60) ∧ cosF d (hfO d).toNat (hfO d).toNat ≠ 0
theorem certF_ok {d : Int} {h : Nat} {S : List Int} (hh : hfO d = (h : Int)) (hS : cosS d h = S) (hc : okF h S = true) : tabFD d := by
  unfold okF at hc
  rw [Bool.and_eq_true, decide_eq_true_eq, List.all_eq_true] at hc
  unfold tabFD
  rw [hh, Int.toNat_natCast, cosF_S hS]
  refine ⟨fun k hk => ?_, hc.2⟩
  have := Int.ofNat_lt.mpr (of_decide_eq_true (hc.1 k (List.mem_range.mpr (by omega))))
  rw [Int.natCast_pow] at this
  exact this
theorem tabFD_3 : tabFD 3 := certF_ok (h := 1) (S := [1, 1, 0, 0, 0, 0, 0, 0, 0, 0, 0, 0, 0, 0]) (by decide +kernel) (by decide +kernel) (by decide +kernel)
theorem tabFD_4 : tabFD 4 := certF_ok (h := 1) (S := [0, 1, 0, 0, 0, 0, 0, 0, 0, 0, 0, 0, 0, 0]) (by decide +kernel) (by decide +kernel) (by decide +kernel)
theorem tabFD_6 : tabFD 6 := certF_ok (h := 1) (S := [(-1), 1, 0, 0, 0, 0, 0, 0, 0, 0, 0, 0, 0, 0]) (by decide +kernel) (by decide +kernel) (by decide +kernel)
theorem tabFD_5 : tabFD 5 := certF_ok (h := 2) (S := [(-1), 1, 1, 0, 0, 0, 0, 0, 0, 0, 0, 0, 0, 0]) (by decide +kernel) (by decide +kernel) (by decide +kernel)
theorem tabFD_7 : tabFD 7 := certF_ok (h := 3) (S := [(-1), (-2), 1, 1, 0, 0, 0, 0, 0, 0, 0, 0, 0, 0]) (by decide +kernel) (by decide +kernel) (by decide +kernel)
theorem tabFD_8 : tabFD 8 := certF_ok (h := 2) (S := [(-2), 0, 1, 0, 0, 0, 0, 0, 0, 0, 0, 0, 0, 0]) (by decide +kernel) (by decide +kernel) (by decide +kernel)
theorem tabFD_9 : tabFD 9 := certF_ok (h := 3) (S := [1, (-3), 0, 1, 0, 0, 0, 0, 0, 0, 0, 0, 0, 0]) (by decide +kernel) (by decide +kernel) (by decide +kernel)
theorem tabFD_10 : tabFD 10 := certF_ok (h := 2) (S := [(-1), (-1), 1, 0, 0, 0, 0, 0, 0, 0, 0, 0, 0, 0]) (by decide +kernel) (by decide +kernel) (by decide +kernel)
theorem tabFD_11 : tabFD 11 := certF_ok (h := 5) (S := [1, 3, (-3), (-4), 1, 1, 0, 0, 0, 0, 0, 0, 0, 0]) (by decide +kernel) (by decide +kernel) (by decide +kernel)
theorem tabFD_12 : tabFD 12 := certF_ok (h := 2) (S := [(-3), 0, 1, 0, 0, 0, 0, 0, 0, 0, 0, 0, 0, 0]) (by decide +kernel) (by decide +kernel) (by decide +kernel)
theorem tabFD_13 : tabFD 13 := certF_ok (h := 6) (S := [(-1), 3, 6, (-4), (-5), 1, 1, 0, 0, 0, 0, 0, 0, 0]) (by decide +kernel) (by decide +kernel) (by decide +kernel)
theorem tabFD_14 : tabFD 14 := certF_ok (h := 3) (S := [1, (-2), (-1), 1, 0, 0, 0, 0, 0, 0, 0, 0, 0, 0]) (by decide +kernel) (by decide +kernel) (by decide +kernel)
theorem tabFD_15 : tabFD 15 := certF_ok (h := 4) (S := [1, 4, (-4), (-1), 1, 0, 0, 0, 0, 0, 0, 0, 0, 0]) (by decide +kernel) (by decide +kernel) (by decide +kernel)
theorem tabFD_16 : tabFD 16 := certF_ok (h := 4) (S := [2, 0, (-4), 0, 1, 0, 0, 0, 0, 0, 0, 0, 0, 0]) (by decide +kernel) (by decide +kernel) (by decide +kernel)
theorem tabFD_17 : tabFD 17 := certF_ok (h := 8) (S := [1, (-4), (-10), 10, 15, (-6), (-7), 1, 1, 0, 0, 0, 0, 0]) (by decide +kernel) (by decide +kernel) (by decide +kernel)
theorem tabFD_18 : tabFD 18 := certF_ok (h := 3) (S := [(-1), (-3), 0, 1, 0, 0, 0, 0, 0, 0, 0, 0, 0, 0]) (by decide +kernel) (by decide +kernel) (by decide +kernel)
theorem tabFD_19 : tabFD 19 := certF_ok (h := 9) (S := [1, 5, (-10), (-20), 15, 21, (-7), (-8), 1, 1, 0, 0, 0, 0]) (by decide +kernel) (by decide +kernel) (by decide +kernel)
theorem tabFD_20 : tabFD 20 := certF_ok (h := 4) (S := [5, 0, (-5), 0, 1, 0, 0, 0, 0, 0, 0, 0, 0, 0]) (by decide +kernel) (by decide +kernel) (by decide +kernel)
theorem tabFD_21 : tabFD 21 := certF_ok (h := 6) (S := [1, (-8), 8, 6, (-6), (-1), 1, 0, 0, 0, 0, 0, 0, 0]) (by decide +kernel) (by decide +kernel) (by decide +kernel)
theorem tabFD_22 : tabFD 22 := certF_ok (h := 5) (S := [(-1), 3, 3, (-4), (-1), 1, 0, 0, 0, 0, 0, 0, 0, 0]) (by decide +kernel) (by decide +kernel) (by decide +kernel)
theorem tabFD_24 : tabFD 24 := certF_ok (h := 4) (S := [1, 0, (-4), 0, 1, 0, 0, 0, 0, 0, 0, 0, 0, 0]) (by decide +kernel) (by decide +kernel) (by decide +kernel)
theorem tabFD_25 : tabFD 25 := certF_ok (h := 10) (S := [(-1), 5, 25, (-5), (-50), 1, 35, 0, (-10), 0, 1, 0, 0, 0]) (by decide +kernel) (by decide +kernel) (by decide +kernel)
theorem tabFD_26 : tabFD 26 := certF_ok (h := 6) (S := [(-1), (-3), 6, 4, (-5), (-1), 1, 0, 0, 0, 0, 0, 0, 0]) (by decide +kernel) (by decide +kernel) (by decide +kernel)
theorem tabFD_27 : tabFD 27 := certF_ok (h := 9) (S := [1, 9, 0, (-30), 0, 27, 0, (-9), 0, 1, 0, 0, 0, 0]) (by decide +kernel) (by decide +kernel) (by decide +kernel)
theorem tabFD_28 : tabFD 28 := certF_ok (h := 6) (S := [(-7), 0, 14, 0, (-7), 0, 1, 0, 0, 0, 0, 0, 0, 0]) (by decide +kernel) (by decide +kernel) (by decide +kernel)
theorem tabFD_30 : tabFD 30 := certF_ok (h := 4) (S := [1, (-4), (-4), 1, 1, 0, 0, 0, 0, 0, 0, 0, 0, 0]) (by decide +kernel) (by decide +kernel) (by decide +kernel)
theorem tabFD_32 : tabFD 32 := certF_ok (h := 8) (S := [2, 0, (-16), 0, 20, 0, (-8), 0, 1, 0, 0, 0, 0, 0]) (by decide +kernel) (by decide +kernel) (by decide +kernel)
theorem tabFD_33 : tabFD 33 := certF_ok (h := 10) (S := [1, (-12), 12, 43, (-43), (-34), 34, 10, (-10), (-1), 1, 0, 0, 0]) (by decide +kernel) (by decide +kernel) (by decide +kernel)
theorem tabFD_34 : tabFD 34 := certF_ok (h := 8) (S := [1, 4, (-10), (-10), 15, 6, (-7), (-1), 1, 0, 0, 0, 0, 0]) (by decide +kernel) (by decide +kernel) (by decide +kernel)
theorem tabFD_36 : tabFD 36 := certF_ok (h := 6) (S := [(-3), 0, 9, 0, (-6), 0, 1, 0, 0, 0, 0, 0, 0, 0]) (by decide +kernel) (by decide +kernel) (by decide +kernel)
theorem tabFD_38 : tabFD 38 := certF_ok (h := 9) (S := [(-1), 5, 10, (-20), (-15), 21, 7, (-8), (-1), 1, 0, 0, 0, 0]) (by decide +kernel) (by decide +kernel) (by decide +kernel)
theorem tabFD_40 : tabFD 40 := certF_ok (h := 8) (S := [1, 0, (-12), 0, 19, 0, (-8), 0, 1, 0, 0, 0, 0, 0]) (by decide +kernel) (by decide +kernel) (by decide +kernel)
theorem tabFD_42 : tabFD 42 := certF_ok (h := 6) (S := [1, 8, 8, (-6), (-6), 1, 1, 0, 0, 0, 0, 0, 0, 0]) (by decide +kernel) (by decide +kernel) (by decide +kernel)
theorem tabFD_44 : tabFD 44 := certF_ok (h := 10) (S := [(-11), 0, 55, 0, (-77), 0, 44, 0, (-11), 0, 1, 0, 0, 0]) (by decide +kernel) (by decide +kernel) (by decide +kernel)
theorem tabFD_48 : tabFD 48 := certF_ok (h := 8) (S := [1, 0, (-16), 0, 20, 0, (-8), 0, 1, 0, 0, 0, 0, 0]) (by decide +kernel) (by decide +kernel) (by decide +kernel)
theorem tabFD_50 : tabFD 50 := certF_ok (h := 10) (S := [(-1), (-5), 25, 5, (-50), (-1), 35, 0, (-10), 0, 1, 0, 0, 0]) (by decide +kernel) (by decide +kernel) (by decide +kernel)
theorem tabFD_54 : tabFD 54 := certF_ok (h := 9) (S := [(-1), 9, 0, (-30), 0, 27, 0, (-9), 0, 1, 0, 0, 0, 0]) (by decide +kernel) (by decide +kernel) (by decide +kernel)
theorem tabFD_60 : tabFD 60 := certF_ok (h := 8) (S := [1, 0, (-8), 0, 14, 0, (-7), 0, 1, 0, 0, 0, 0, 0]) (by decide +kernel) (by decide +kernel) (by decide +kernel)
theorem tabFD_66 : tabFD 66 := certF_ok (h := 10) (S := [1, 12, 12, (-43), (-43), 34, 34, (-10), (-10), 1, 1, 0, 0, 0]) (by decide +kernel) (by decide +kernel) (by decide +kernel)
def DSL : List Nat := [5, 7, 8, 9, 10, 11, 12, 13, 14, 15, 16, 17, 18, 19, 20, 21, 22, 24, 25, 26, 27, 28, 30, 32, 33, 34, 36, 38, 40, 42, 44, 48, 50, 54, 60, 66]
def okU (d : Nat) : Bool := decide (d < 3) || (decide (1 ≤ hfO (d : Int)) && (decide (10 < hfO (d : Int)) || (decide (unN (d : Int) (d / 2) ≤ hfO (d : Int)) && (d == 3 || d == 4 || d == 6 || DSL.contains d))))
theorem okU_all : (List.range 481).all okU = true := by decide +kernel
theorem okU_at {d : Int} (h3 : 3 ≤ d) (h4 : d ≤ 480) : 1 ≤ hfO d ∧ (10 < hfO d ∨ (unN d (d / 2).toNat ≤ hfO d ∧ (d = 3 ∨ d = 4 ∨ d = 6 ∨ d.toNat ∈ DSL))) := by
  have t := List.all_eq_true.mp okU_all d.toNat (List.mem_range.mpr (by omega))
  unfold okU at t
  rw [Bool.or_eq_true, decide_eq_true_eq, Bool.and_eq_true, decide_eq_true_eq, Bool.or_eq_true, decide_eq_true_eq, Bool.and_eq_true, decide_eq_true_eq, show ((d.toNat : Nat) : Int) = d by omega, show d.toNat / 2 = (d / 2).toNat by omega] at t
  have t := t.resolve_left (by omega)
  refine ⟨t.1, t.2.imp id fun u => ⟨u.1, ?_⟩⟩
  have v := u.2
  rw [Bool.or_eq_true, Bool.or_eq_true, Bool.or_eq_true, beq_iff_eq, beq_iff_eq, beq_iff_eq, List.contains_iff_mem] at v
  rcases v with ((v | v) | v) | v
  · exact Or.inl (by omega)
  · exact Or.inr (Or.inl (by omega))
  · exact Or.inr (Or.inr (Or.inl (by omega)))
  · exact Or.inr (Or.inr (Or.inr v))
theorem tabU_ok : tabU := fun d h3 h4 h10 => ((okU_at h3 h4).2.resolve_left (by omega)).1
theorem DSL_all {P : Int → Prop} (h : ∀ n ∈ DSL, P (n : Int)) {d : Int} (h3 : 3 ≤ d) (hd : d.toNat ∈ DSL) : P d := by
  have := h _ hd
  rwa [show ((d.toNat : Nat) : Int) = d by omega] at this
theorem tabD_all : ∀ n ∈ DSL, tabD (n : Int) := by
  unfold DSL
  simp only [List.forall_mem_cons]
  exact ⟨tabD_5, tabD_7, tabD_8, tabD_9, tabD_10, tabD_11, tabD_12, tabD_13, tabD_14, tabD_15, tabD_16, tabD_17, tabD_18, tabD_19, tabD_20, tabD_21, tabD_22, tabD_24, tabD_25, tabD_26, tabD_27, tabD_28, tabD_30, tabD_32, tabD_33, tabD_34, tabD_36, tabD_38, tabD_40, tabD_42, tabD_44, tabD_48, tabD_50, tabD_54, tabD_60, tabD_66, fun _ h => absurd h List.not_mem_nil⟩
theorem tabFD_all : ∀ n ∈ DSL, tabFD (n : Int) := by
  unfold DSL
  simp only [List.forall_mem_cons]
  exact ⟨tabFD_5, tabFD_7, tabFD_8, tabFD_9, tabFD_10, tabFD_11, tabFD_12, tabFD_13, tabFD_14, tabFD_15, tabFD_16, tabFD_17, tabFD_18, tabFD_19, tabFD_20, tabFD_21, tabFD_22, tabFD_24, tabFD_25, tabFD_26, tabFD_27, tabFD_28, tabFD_30, tabFD_32, tabFD_33, tabFD_34, tabFD_36, tabFD_38, tabFD_40, tabFD_42, tabFD_44, tabFD_48, tabFD_50, tabFD_54, tabFD_60, tabFD_66, fun _ h => absurd h List.not_mem_nil⟩
theorem tabF_ok : tabF := fun d h3 h4 => by
  obtain ⟨a, b⟩ := okU_at h3 h4
  refine ⟨a, fun h10 => ?_⟩
  obtain ⟨-, b⟩ := b.resolve_left (by omega)
  rcases b with rfl | rfl | rfl | b
  · exact tabFD_3
  · exact tabFD_4
  · exact tabFD_6
  · exact DSL_all tabFD_all h3 b
theorem hf346 : hfO 3 = 1 ∧ hfO 4 = 1 ∧ hfO 6 = 1 := by decide +kernel
theorem tabP_ok : tabP := fun d h3 h4 h2 h10 => by
  obtain ⟨-, b⟩ := (okU_at h3 h4).2.resolve_left (by omega)
  have e := hf346
  rcases b with rfl | rfl | rfl | b
  · omega
  · omega
  · omega
  · exact DSL_all tabD_all h3 b
