section ARWorld
theorem find_nd {α : Type} {k : α → Nat} : ∀ {L : List α}, (L.map k).Nodup → ∀ {q : α}, q ∈ L → (L.find? fun x => k x == k q) = some q
  | [], _, _, h => absurd h List.not_mem_nil
  | x :: L, hn, q, h => by
    rw [List.map_cons, List.nodup_cons] at hn
    rw [List.find?_cons]
    rcases List.mem_cons.mp h with rfl | h
    · rw [show (k q == k q) = true from beq_self_eq_true _]
    · have hne : k x ≠ k q := fun e => hn.1 (by rw [e]; exact List.mem_map_of_mem h)
      rw [show (k x == k q) = false from beq_eq_false_iff_ne.mpr hne]
      exact find_nd hn.2 h
/-- what stands behind an address -/
def lkP (L : List (Nat × Nat)) (b : Nat) : Nat := ((L.find? fun q => q.1 == b).map Prod.snd).getD 0
def lkQ (L : List nQt) (p : Nat) : nQt := (L.find? fun q => q.1 == p).getD (0, 0, (fun _ => 0), (fun _ => 0))
theorem lkP_of {L : List (Nat × Nat)} (hn : (L.map Prod.fst).Nodup) {q : Nat × Nat} (h : q ∈ L) : lkP L q.1 = q.2 := by
  unfold lkP
  rw [find_nd (k := Prod.fst) hn h]
  rfl
theorem lkQ_of {L : List nQt} (hn : (L.map Prod.fst).Nodup) {q : nQt} (h : q ∈ L) : lkQ L q.1 = q := by
  unfold lkQ
  rw [find_nd (k := Prod.fst) hn h]
  rfl
theorem flat2 {α β : Type} (A B : α → β) : ∀ L : List α, (L.flatMap fun q => [A q, B q]).Perm (L.map A ++ L.map B)
  | [] => List.Perm.refl _
  | x :: L => by
    show (A x :: B x :: (L.flatMap fun q => [A q, B q])).Perm (A x :: (L.map A ++ B x :: L.map B))
    exact List.Perm.cons _ ((List.Perm.cons _ (flat2 A B L)).trans List.perm_middle.symm)
theorem flat3 {α β : Type} (A B : α → β) (C : α → List β) : ∀ L : List α, (L.flatMap fun q => A q :: B q :: C q).Perm (L.map A ++ (L.map B ++ L.flatMap C))
  | [] => List.Perm.refl _
  | x :: L => by
    show (A x :: B x :: (C x ++ L.flatMap fun q => A q :: B q :: C q)).Perm (A x :: (L.map A ++ (B x :: (L.map B ++ (x :: L).flatMap C))))
    rw [List.flatMap_cons]
    refine List.Perm.cons _ ((List.Perm.cons _ ?_).trans List.perm_middle.symm)
    refine (List.Perm.append_left _ (flat3 A B C L)).trans ?_
    refine (List.perm_append_comm_assoc _ _ _).trans (List.Perm.append_left _ ?_)
    exact List.perm_append_comm_assoc _ _ _
abbrev gL (Qs : List nQt) (Ps : List (Nat × Nat)) : List (Nat × Nat) := Ps ++ Qs.flatMap fun q => nPr q 13
abbrev gLB (Qs : List nQt) (Ps : List (Nat × Nat)) : List Nat := (gL Qs Ps).map Prod.fst
abbrev gLP (Qs : List nQt) : List Nat := Qs.map Prod.fst
abbrev gpc (Qs : List nQt) : Nat → Nat := fun p => (lkQ Qs p).2.1
abbrev gco (Qs : List nQt) : Nat → Nat → Nat := fun p i => (lkQ Qs p).2.2.1 i
def gA (q : Nat × Nat) : Nat × va_E := (q.1, .inr (0, [.ref q.2, Iz 0, Iz 0]))
def gB (cx : Nat → Nat) (q : Nat × Nat) : Nat × va_E := (q.2, .inl (cx 0, 5, .inl (im (fun _ => 0))))
def gC (q : nQt) : Nat × va_E := (q.1, .inr (4, [.ref q.2.1, Iz (-1)]))
def gD (cx : Nat → Nat) (q : nQt) : Nat × va_E := (q.2.1, .inl (cx 2, 13, .inr (.inr (.inr (.inr (fun i => some (q.2.2.1 i)))))))
variable {cx : Nat → Nat} {Qs : List nQt} {Ps : List (Nat × Nat)} {X : va_W} {A : Nat → Prop}
theorem gW_flat : (((gL Qs Ps).map gA ++ (gL Qs Ps).map (gB cx)) ++ (Qs.map gC ++ (Qs.map (gD cx) ++ X))).Perm (gW cx Qs Ps X) := by
  have e1 : ((gL Qs Ps).map gA ++ (gL Qs Ps).map (gB cx)).Perm (Ps.flatMap (nB cx) ++ Qs.flatMap fun q => (nPr q 13).flatMap (nB cx)) := by
    refine (flat2 gA (gB cx) (gL Qs Ps)).symm.trans ?_
    show ((Ps ++ Qs.flatMap fun q => nPr q 13).flatMap (nB cx)).Perm _
    rw [List.flatMap_append, List.flatMap_assoc]
  have e2 : (Qs.flatMap (nP cx)).Perm (Qs.map gC ++ (Qs.map (gD cx) ++ Qs.flatMap fun q => (nPr q 13).flatMap (nB cx))) := flat3 gC (gD cx) (fun q => (nPr q 13).flatMap (nB cx)) Qs
  unfold gW
  generalize (Qs.flatMap fun q => (nPr q 13).flatMap (nB cx)) = FQ at e1 e2
  refine (List.Perm.append_right _ e1).trans (List.Perm.trans ?_ (List.Perm.append_left X (List.Perm.append_right _ e2)).symm)
  refine List.Perm.trans ?_ List.perm_append_comm
  refine List.Perm.trans ?_ (List.Perm.append_right X (List.perm_append_comm (l₁ := Ps.flatMap (nB cx))))
  rw [List.append_assoc, List.append_assoc, List.append_assoc, List.append_assoc]
  refine List.Perm.append_left _ ?_
  exact (List.perm_append_comm_assoc _ _ _).trans (List.Perm.append_left _ (List.perm_append_comm_assoc _ _ _))
theorem g_nodup (hD : va_D A (gW cx Qs Ps X)) : (gLB Qs Ps).Nodup ∧ (gLP Qs).Nodup := by
  have h := (va_D_iff.mp (va_D_perm hD gW_flat)).1
  have key : ∀ L : List (Nat × Nat), (((L.map gA ++ L.map (gB cx)) ++ (Qs.map gC ++ (Qs.map (gD cx) ++ X))).map Prod.fst).Nodup → (L.map Prod.fst).Nodup ∧ (Qs.map Prod.fst).Nodup := fun L h => by
    rw [List.map_append, List.nodup_append] at h
    obtain ⟨h1, h2, -⟩ := h
    rw [List.map_append, List.nodup_append] at h1 h2
    have h1 := h1.1
    have h2 := h2.1
    rw [List.map_map] at h1 h2
    exact ⟨h1, h2⟩
  exact key _ h
/-- the world of the class's contracts, out of one that grew -/
theorem gW_bW (hD : va_D A (gW cx Qs Ps X)) : (bW (cx 0) (gLB Qs Ps) (lkP (gL Qs Ps)) (fun _ => 0) (fun _ => 0) (fun _ => 5) (fun _ _ => 0) (pW cx (gLP Qs) (gpc Qs) (fun _ => -1) (gco Qs) X)).Perm (gW cx Qs Ps X) := by
  obtain ⟨n1, n2⟩ := g_nodup hD
  have a1 : bO (gLB Qs Ps) (lkP (gL Qs Ps)) (fun _ => 0) (fun _ => 0) = (gL Qs Ps).map gA := by
    unfold bO
    rw [List.map_map]
    apply List.map_congr_left
    intro q hq
    show (q.1, (.inr (0, [.ref (lkP (gL Qs Ps) q.1), Iz 0, Iz 0]) : va_E)) = gA q
    rw [lkP_of n1 hq]
    rfl
  have a2 : bR (cx 0) (gLB Qs Ps) (lkP (gL Qs Ps)) (fun _ => 5) (fun _ _ => 0) = (gL Qs Ps).map (gB cx) := by
    unfold bR
    rw [List.map_map]
    apply List.map_congr_left
    intro q hq
    show (lkP (gL Qs Ps) q.1, (.inl (cx 0, 5, .inl (im (fun _ => 0))) : va_E)) = gB cx q
    rw [lkP_of n1 hq]
    rfl
  have a3 : pW cx (gLP Qs) (gpc Qs) (fun _ => -1) (gco Qs) X = Qs.map gC ++ (Qs.map (gD cx) ++ X) := by
    unfold pW
    rw [List.map_map, List.map_map]
    congr 1
    · apply List.map_congr_left
      intro q hq
      show (q.1, (.inr (4, [.ref (lkQ Qs q.1).2.1, Iz (-1)]) : va_E)) = gC q
      rw [lkQ_of n2 hq]
      rfl
    · congr 1
      apply List.map_congr_left
      intro q hq
      show ((lkQ Qs q.1).2.1, (.inl (cx 2, 13, .inr (.inr (.inr (.inr (fun i => some ((lkQ Qs q.1).2.2.1 i)))))) : va_E)) = gD cx q
      rw [lkQ_of n2 hq]
      rfl
  unfold bW
  rw [a1, a2, a3, ← List.append_assoc]
  exact gW_flat
theorem flat_nd {α : Type} {f : α → List Nat} : ∀ {L : List α}, (L.flatMap f).Nodup → (∀ q ∈ L, (f q).Nodup) ∧ ∀ q ∈ L, ∀ q' ∈ L, ∀ x, x ∈ f q → x ∈ f q' → q = q'
  | [], _ => ⟨fun q h => absurd h List.not_mem_nil, fun q h => absurd h List.not_mem_nil⟩
  | y :: L, hn => by
    rw [List.flatMap_cons, List.nodup_append] at hn
    obtain ⟨h1, h2, h3⟩ := hn
    obtain ⟨i1, i2⟩ := flat_nd h2
    refine ⟨fun q hq => ?_, fun q hq q' hq' x hx hx' => ?_⟩
    · rcases List.mem_cons.mp hq with rfl | h
      · exact h1
      · exact i1 q h
    · rcases List.mem_cons.mp hq with rfl | h <;> rcases List.mem_cons.mp hq' with rfl | h'
      · rfl
      · exact absurd rfl (h3 x hx x (List.mem_flatMap.mpr ⟨q', h', hx'⟩))
      · exact absurd rfl (h3 x hx' x (List.mem_flatMap.mpr ⟨q, h, hx⟩))
      · exact i2 q h q' h' x hx hx'
theorem g_ok (hD : va_D A (gW cx Qs Ps X)) : pOK (gLB Qs Ps) (gLP Qs) (gco Qs) ∧ (∀ q ∈ Ps, q.1 ∈ gLB Qs Ps) ∧ (Ps.map Prod.fst).Nodup ∧ ∀ q ∈ Ps, ∀ p ∈ gLP Qs, ∀ i : Nat, i < 13 → gco Qs p i ≠ q.1 := by
  obtain ⟨n1, n2⟩ := g_nodup hD
  have n1' : ((Ps ++ Qs.flatMap fun q => nPr q 13).map Prod.fst).Nodup := n1
  rw [List.map_append, List.nodup_append, List.map_flatMap] at n1'
  obtain ⟨m1, m2, m3⟩ := n1'
  obtain ⟨f1, f2⟩ := flat_nd m2
  have hin : ∀ q ∈ Qs, ∀ i : Nat, i < 13 → q.2.2.1 i ∈ (nPr q 13).map Prod.fst := fun q _ i hi => List.mem_map.mpr ⟨(q.2.2.1 i, q.2.2.2 i), List.mem_map.mpr ⟨i, List.mem_range.mpr hi, rfl⟩, rfl⟩
  have hco : ∀ q ∈ Qs, ∀ i : Nat, gco Qs q.1 i = q.2.2.1 i := fun q hq i => by
    show (lkQ Qs q.1).2.2.1 i = _
    rw [lkQ_of n2 hq]
  refine ⟨⟨fun p hp i hi => ?_, fun p hp p' hp' i i' hi hi' he => ?_⟩, fun q hq => List.mem_map_of_mem (List.mem_append_left _ hq), m1, fun q hq p hp i hi he => ?_⟩
  · obtain ⟨q, hq, rfl⟩ := List.mem_map.mp hp
    rw [hco q hq i]
    show q.2.2.1 i ∈ (Ps ++ Qs.flatMap fun q => nPr q 13).map Prod.fst
    rw [List.map_append]
    refine List.mem_append_right _ ?_
    rw [List.map_flatMap]
    exact List.mem_flatMap.mpr ⟨q, hq, hin q hq i hi⟩
  · obtain ⟨q, hq, rfl⟩ := List.mem_map.mp hp
    obtain ⟨q', hq', rfl⟩ := List.mem_map.mp hp'
    rw [hco q hq i, hco q' hq' i'] at he
    have e1 := f2 q hq q' hq' (q.2.2.1 i) (hin q hq i hi) (by rw [he]; exact hin q' hq' i' hi')
    subst e1
    refine ⟨rfl, ?_⟩
    have nd := f1 q hq
    unfold nPr at nd
    rw [List.map_map] at nd
    exact map_inj_of_nodup nd i (List.mem_range.mpr hi) i' (List.mem_range.mpr hi') he
  · obtain ⟨q', hq', rfl⟩ := List.mem_map.mp hp
    rw [hco q' hq' i] at he
    exact m3 q.1 (List.mem_map_of_mem hq) (q'.2.2.1 i) (List.mem_flatMap.mpr ⟨q', hq', hin q' hq' i hi⟩) he.symm
theorem num1_0 : num1 0 0 5 (fun _ => 0) 0 := ⟨Int.le_refl 0, by decide, by decide, fun i h0 h1 => by exfalso; have h1 : i < (((0 : Int).toNat : Nat) : Int) := h1; have : (((0 : Int).toNat : Nat) : Int) = 0 := rfl; omega, fun h => by omega, rfl, rfl⟩
theorem g_cR : cR (gLB Qs Ps) (fun _ => 0) (fun _ => 0) (fun _ => 5) (fun _ _ => 0) (fun _ => 0) := fun b _ => num1_0
end ARWorld
