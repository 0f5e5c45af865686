section CFresh
variable {cx : Nat → Nat} {q0 qw : nQt} {qf : Nat → nQt} {b : Nat → Nat × Nat} {X : va_W} {A : Nat → Prop}
abbrev zQ (q0 qw : nQt) (qf : Nat → nQt) : List nQt := q0 :: qw :: (List.range 14).map qf
abbrev zP (b : Nat → Nat × Nat) : List (Nat × Nat) := [b 0, b 1, b 2, b 3, b 4, b 5, b 6, b 7, b 8, b 9, b 10, b 11, b 12, b 13, b 14, b 15]
theorem zP_r : zP b = (List.range 16).map b := rfl
/-- what a new object's cells are to one another, as the calls' contracts ask it -/
theorem fresh_ok (hD : va_D A (gW cx (zQ q0 qw qf) (zP b) X)) :
    pOK (gLB (zQ q0 qw qf) (zP b)) (gLP (zQ q0 qw qf)) (gco (zQ q0 qw qf)) ∧
    tOK (gLB (zQ q0 qw qf) (zP b)) (gLP (zQ q0 qw qf)) (gco (zQ q0 qw qf)) (b 2).1 (b 3).1 (b 4).1 (b 5).1 (b 6).1 ∧
    uOK (gLB (zQ q0 qw qf) (zP b)) (gLP (zQ q0 qw qf)) (gco (zQ q0 qw qf)) (b 2).1 (b 3).1 (b 4).1 (b 5).1 (b 6).1 (b 7).1 (b 8).1 (b 9).1 (b 10).1 (b 11).1 ∧
    (q0.1 ∈ gLP (zQ q0 qw qf) ∧ (∀ i : Nat, i < 14 → (qf i).1 ∈ gLP (zQ q0 qw qf)) ∧ (∀ i j : Nat, i < 14 → j < 14 → (qf i).1 = (qf j).1 → i = j) ∧ ∀ i : Nat, i < 14 → q0.1 ≠ (qf i).1) ∧
    (∀ k : Nat, k < 16 → (b k).1 ∈ gLB (zQ q0 qw qf) (zP b)) ∧
    (∀ k : Nat, (k < 2 ∨ 11 < k) → k < 16 → LOK (b 2).1 (b 3).1 (b 4).1 (b 5).1 (b 6).1 (b 7).1 (b 8).1 (b 9).1 (b 10).1 (b 11).1 (b k).1) ∧
    (∀ k : Nat, k < 16 → ∀ p ∈ gLP (zQ q0 qw qf), ∀ i : Nat, i < 13 → gco (zQ q0 qw qf) p i ≠ (b k).1) ∧ (b 0).1 ≠ (b 1).1 := by
  obtain ⟨o1, o2, o3, o4⟩ := g_ok hD
  obtain ⟨-, hq⟩ := g_nodup hD
  have mem : ∀ k : Nat, k < 16 → b k ∈ zP b := fun k hk => by rw [zP_r]; exact List.mem_map_of_mem (List.mem_range.mpr hk)
  have M : ∀ k : Nat, k < 16 → (b k).1 ∈ gLB (zQ q0 qw qf) (zP b) := fun k hk => o2 _ (mem k hk)
  have N : ∀ i j : Nat, i < 16 → j < 16 → i ≠ j → (b i).1 ≠ (b j).1 := fun i j hi hj hne he => by
    rw [zP_r, List.map_map] at o3
    exact hne (map_inj_of_nodup (f := fun k => (b k).1) o3 i (List.mem_range.mpr hi) j (List.mem_range.mpr hj) he)
  have C : ∀ k : Nat, k < 16 → ∀ p ∈ gLP (zQ q0 qw qf), ∀ i : Nat, i < 13 → gco (zQ q0 qw qf) p i ≠ (b k).1 := fun k hk p hp i hi => o4 _ (mem k hk) p hp i hi
  have hq' : (q0.1 :: qw.1 :: ((List.range 14).map qf).map Prod.fst).Nodup := hq
  rw [List.map_map, List.nodup_cons, List.nodup_cons] at hq'
  obtain ⟨r1, r2, r3⟩ := hq'
  refine ⟨o1, ?_, ?_, ⟨List.mem_cons_self, fun i hi => ?_, fun i j hi hj he => ?_, fun i hi he => ?_⟩, M, fun k h1 hk => ?_, C, N 0 1 (by decide) (by decide) (by decide)⟩
  · unfold tOK
    and_intros
    all_goals first
      | exact M _ (by decide)
      | exact N _ _ (by decide) (by decide) (by decide)
      | exact fun p hp i hi => ⟨C _ (by decide) p hp i hi, C _ (by decide) p hp i hi, C _ (by decide) p hp i hi, C _ (by decide) p hp i hi, C _ (by decide) p hp i hi⟩
  · unfold uOK
    and_intros
    all_goals first
      | exact M _ (by decide)
      | exact N _ _ (by decide) (by decide) (by decide)
      | exact fun p hp i hi => ⟨C _ (by decide) p hp i hi, C _ (by decide) p hp i hi, C _ (by decide) p hp i hi, C _ (by decide) p hp i hi, C _ (by decide) p hp i hi⟩
      | (intro x hx
         rcases hx with rfl | rfl | rfl | rfl | rfl <;> exact ⟨N _ _ (by decide) (by decide) (by decide), N _ _ (by decide) (by decide) (by decide), N _ _ (by decide) (by decide) (by decide), N _ _ (by decide) (by decide) (by decide), N _ _ (by decide) (by decide) (by decide)⟩)
  · show (qf i).1 ∈ (zQ q0 qw qf).map Prod.fst
    exact List.mem_map_of_mem (List.mem_cons_of_mem _ (List.mem_cons_of_mem _ (List.mem_map_of_mem (List.mem_range.mpr hi))))
  · exact map_inj_of_nodup (f := fun k => (qf k).1) r3 i (List.mem_range.mpr hi) j (List.mem_range.mpr hj) he
  · exact r1 (List.mem_cons_of_mem _ (by rw [he]; exact List.mem_map_of_mem (f := Prod.fst ∘ qf) (List.mem_range.mpr hi)))
  · unfold LOK
    and_intros <;> exact N _ _ hk (by decide) (by omega)
end CFresh
