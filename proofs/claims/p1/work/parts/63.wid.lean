theorem nd_inj : ∀ {X : va_W}, (X.map Prod.fst).Nodup → ∀ {p q : Nat × va_E}, p ∈ X → q ∈ X → p.1 = q.1 → p = q
  | [], _, _, _, h, _, _ => absurd h List.not_mem_nil
  | x :: X, hn, p, q, hp, hq, e => by
      rw [List.map_cons, List.nodup_cons] at hn
      rcases List.mem_cons.mp hp with h | h <;> rcases List.mem_cons.mp hq with h2 | h2
      · rw [h, h2]
      · exact absurd (List.mem_map_of_mem (f := Prod.fst) h2) (by rw [← e, h]; exact hn.1)
      · exact absurd (List.mem_map_of_mem (f := Prod.fst) h) (by rw [e, h2]; exact hn.1)
      · exact nd_inj hn.2 h h2 e
theorem wup_id {X : va_W} {a : Nat} {e : va_E} (hn : (X.map Prod.fst).Nodup) (h : (a, e) ∈ X) : wup X a e = X := by
  have k : X.map (fun q => if q.1 = a then (a, e) else q) = X.map id := by
    apply List.map_congr_left
    intro q hq
    by_cases w : q.1 = a
    · rw [if_pos w]; exact nd_inj hn h hq w.symm
    · rw [if_neg w]; rfl
  rw [List.map_id] at k
  exact k
/-- a cell told anew as it is -/
theorem y_same {H H0 : Heap} {locs : List Loc} {dC : Nat → ClassId} {dI : Nat → Nat → Nat} {cx : Nat → Nat} {LB : List Nat} {A : Nat → Prop} {ll0 : Nat → Nat} {X : va_W} {dd : Nat → Nat} {nn ss : Nat → Int} {ll : Nat → Nat} {gg : Nat → Int → Int} {LP : List Nat} {pc_ : Nat → Nat} {pd : Nat → Int} {co : Nat → Nat → Nat} (hV : cV dC dI cx LB A H0 ll0 (pW cx LP pc_ pd co X) dd nn ss ll gg H locs) {a : Nat} {e : va_E} (h : (a, e) ∈ X) : cV dC dI cx LB A H0 ll0 (pW cx LP pc_ pd co (wup X a e)) dd nn ss ll gg H locs := by
  have hD := (va_D_iff.mp hV.2.1).1
  rw [bW_fst, List.nodup_append, List.nodup_append, pW_fst, List.nodup_append, List.nodup_append] at hD
  obtain ⟨-, ⟨-, ⟨hp, ⟨hp1, hp2, hp3⟩, hp4⟩, -⟩, -⟩ := hD
  rw [wup_id (by assumption) h]
  exact hV
