section CBase
variable {p : Program} {l : Launch} {e : Env} {R : Room} {s : State} {m : MethodId} {args : Array Value} {below : List Frame} {meth : Method} {c : Code} {H : Heap} {locs : List Loc} {cells slots : Nat} {Q : State → Prop}
/-- how many places the cells have that lie behind a place -/
def hpl (H : Heap) (k : Nat) : Nat := ((H.toList.drop k).map (·.slots.size)).sum
/-- so many new cells, of so many places; no old cell has another size -/
def cG (H0 H : Heap) (k n : Nat) : Prop := H0.size ≤ H.size ∧ H.size ≤ H0.size + k ∧ hpl H H0.size ≤ n ∧ ∀ (a : Nat) (x : Cell), H0[a]? = some x → ∃ y : Cell, H[a]? = some y ∧ y.slots.size = x.slots.size
theorem W.know {g : JFrame} (k : cG s.heap H cells slots → W p l e R s m args below meth c H locs cells slots Q g) : W p l e R s m args below meth c H locs cells slots Q g := by
  intro T hT X
  have h := X.same
  refine k ⟨?_, ?_, ?_, ?_⟩ T hT X
  · rw [← hT]; exact h.2.1
  · rw [← hT]; exact h.2.2.1
  · rw [← hT]; exact h.2.2.2.2.1
  · intro a x hx
    obtain ⟨c', h1, -, h3, -⟩ := h.2.2.2.2.2 a x hx
    exact ⟨c', by rw [← hT]; exact h1, h3⟩
theorem W.retake {g : JFrame} {k n : Nat} (h : cG s.heap H k n) (kk : W p l e R s m args below meth c H locs k n Q g) : W p l e R s m args below meth c H locs cells slots Q g := by
  intro T hT X
  have e := X.same
  refine kk T hT { X with same := ⟨e.1, e.2.1, ?_, e.2.2.2.1, ?_, e.2.2.2.2.2⟩ }
  · have h1 := h.2.1
    rw [← hT] at h1
    exact h1
  · have h1 := h.2.2.1
    rw [← hT] at h1
    exact h1
theorem cG_rf {H : Heap} : cG H H 0 0 := by
  refine ⟨Nat.le_refl _, Nat.le_refl _, ?_, fun a x hx => ⟨x, hx, rfl⟩⟩
  unfold hpl
  rw [show H.toList.drop H.size = [] from List.drop_eq_nil_of_le (by rw [Array.length_toList]; exact Nat.le_refl _)]
  exact Nat.le_refl _
theorem cG_le {H0 H : Heap} {k n k' n' : Nat} (h : cG H0 H k n) (h1 : k ≤ k') (h2 : n ≤ n') : cG H0 H k' n' := ⟨h.1, Nat.le_trans h.2.1 (Nat.add_le_add_left h1 _), Nat.le_trans h.2.2.1 h2, h.2.2.2⟩
theorem cG_tr {H0 H1 H2 : Heap} {a b c d : Nat} (h : cG H0 H1 a b) (g : cG H1 H2 c d) : cG H0 H2 (a + c) (b + d) := by
  obtain ⟨h1, h2, h3, h4⟩ := h
  obtain ⟨g1, g2, g3, g4⟩ := g
  refine ⟨Nat.le_trans h1 g1, by omega, ?_, fun q x hx => ?_⟩
  · have key : (H2.toList.drop H0.size).map (·.slots.size) = (H1.toList.drop H0.size).map (·.slots.size) ++ (H2.toList.drop H1.size).map (·.slots.size) := by
      apply List.ext_getElem?
      intro j
      have hl : ((H1.toList.drop H0.size).map (·.slots.size)).length = H1.size - H0.size := by rw [List.length_map, List.length_drop, Array.length_toList]
      by_cases hj : j < H1.size - H0.size
      · rw [List.getElem?_append_left (by rw [hl]; exact hj)]
        simp only [List.getElem?_map, List.getElem?_drop, Array.getElem?_toList]
        have hx : H0.size + j < H1.size := by omega
        obtain ⟨y, e1, e2⟩ := g4 (H0.size + j) _ (Array.getElem?_eq_getElem hx)
        rw [e1, Array.getElem?_eq_getElem hx]
        exact congrArg some e2
      · rw [List.getElem?_append_right (by rw [hl]; omega), hl]
        simp only [List.getElem?_map, List.getElem?_drop, Array.getElem?_toList]
        rw [show H1.size + (j - (H1.size - H0.size)) = H0.size + j by omega]
    unfold hpl at h3 g3 ⊢
    rw [key, List.sum_append]
    omega
  · obtain ⟨y, e1, e2⟩ := h4 q x hx
    obtain ⟨z, e3, e4⟩ := g4 q y e1
    exact ⟨z, e3, e4.trans e2⟩
/-- worlds by their lists of cells -/
theorem va_D_iff {A : Nat → Prop} {ws : va_W} : va_D A ws ↔ (ws.map Prod.fst).Nodup ∧ ∀ q ∈ ws, A q.1 := by
  constructor
  · intro h
    refine ⟨?_, fun q hq => ?_⟩
    · unfold List.Nodup
      rw [List.pairwise_iff_getElem]
      intro i j hi hj hij hq
      rw [List.length_map] at hi hj
      rw [List.getElem_map, List.getElem_map] at hq
      have := h.1 i j _ _ (List.getElem?_eq_getElem hi) (List.getElem?_eq_getElem hj) hq
      omega
    · obtain ⟨k, hk⟩ := List.getElem?_of_mem hq
      exact h.2 k q hk
  · intro h
    refine ⟨fun i j x y hi hj hxy => ?_, fun k q hk => h.2 q (List.mem_of_getElem? hk)⟩
    have h1 := h.1
    unfold List.Nodup at h1
    rw [List.pairwise_iff_getElem] at h1
    obtain ⟨li, ei⟩ := List.getElem?_eq_some_iff.mp hi
    obtain ⟨lj, ej⟩ := List.getElem?_eq_some_iff.mp hj
    rcases Nat.lt_trichotomy i j with q | q | q
    · refine absurd ?_ (h1 i j (by rw [List.length_map]; exact li) (by rw [List.length_map]; exact lj) q)
      rw [List.getElem_map, List.getElem_map, ei, ej]
      exact hxy
    · exact q
    · refine absurd ?_ (h1 j i (by rw [List.length_map]; exact lj) (by rw [List.length_map]; exact li) q)
      rw [List.getElem_map, List.getElem_map, ei, ej]
      exact hxy.symm
theorem va_P_iff {D : va_G} {cl : List vw_C} {ws : va_W} {H : Heap} : va_P D cl ws H ↔ ∀ q ∈ ws, va_at D cl q H := by
  constructor
  · intro h q hq
    obtain ⟨k, hk⟩ := List.getElem?_of_mem hq
    exact h k q hk
  · exact fun h k q hk => h q (List.mem_of_getElem? hk)
theorem w_in_set {ws : va_W} {k a : Nat} {e0 e : va_E} (hk : ws[k]? = some (a, e0)) {q : Nat × va_E} (hq : q = (a, e) ∨ q ∈ ws ∧ q.1 ≠ a) : q ∈ ws.set k (a, e) := by
  have hl := (List.getElem?_eq_some_iff.mp hk).1
  rcases hq with rfl | ⟨hq, hn⟩
  · exact List.mem_of_getElem? (List.getElem?_set_self hl)
  · obtain ⟨j, hj⟩ := List.getElem?_of_mem hq
    by_cases hjk : j = k
    · subst hjk
      rw [hk] at hj
      cases hj
      exact absurd rfl hn
    · exact List.mem_of_getElem? (by rw [List.getElem?_set_ne (Ne.symm hjk)]; exact hj)
theorem w_set {D : va_G} {cl : List vw_C} {A : Nat → Prop} {ws ws' : va_W} {H1 : Heap} {k a : Nat} {e0 e : va_E} (hk : ws[k]? = some (a, e0)) (hP : va_P D cl (ws.set k (a, e)) H1) (hD : va_D A ws) (hm : ws'.map Prod.fst = ws.map Prod.fst) (hw : ∀ q ∈ ws', q = (a, e) ∨ q ∈ ws ∧ q.1 ≠ a) : va_P D cl ws' H1 ∧ va_D A ws' := by
  refine ⟨va_P_iff.mpr fun q hq => va_P_iff.mp hP q (w_in_set hk (hw q hq)), va_D_iff.mpr ⟨by rw [hm]; exact (va_D_iff.mp hD).1, fun q hq => ?_⟩⟩
  have h1 : q.1 ∈ ws.map Prod.fst := by rw [← hm]; exact List.mem_map_of_mem hq
  obtain ⟨x, hx, e⟩ := List.mem_map.mp h1
  rw [← e]
  exact (va_D_iff.mp hD).2 x hx
/-- the numbers (Big) of the class: their objects, and their rows of digits -/
def bO (LB : List Nat) (dd : Nat → Nat) (nn ss : Nat → Int) : va_W := LB.map fun b => (b, .inr (0, [.ref (dd b), Iz (nn b), Iz (ss b)]))
def bR (cI : Nat) (LB : List Nat) (dd ll : Nat → Nat) (gg : Nat → Int → Int) : va_W := LB.map fun b => (dd b, .inl (cI, ll b, .inl (im (gg b))))
def bW (cI : Nat) (LB : List Nat) (dd : Nat → Nat) (nn ss : Nat → Int) (ll : Nat → Nat) (gg : Nat → Int → Int) (X : va_W) : va_W := bO LB dd nn ss ++ (bR cI LB dd ll gg ++ X)
theorem bO_fst {LB : List Nat} {dd : Nat → Nat} {nn ss : Nat → Int} : (bO LB dd nn ss).map Prod.fst = LB := by
  unfold bO
  rw [List.map_map]
  exact List.map_id _
theorem bR_fst {cI : Nat} {LB : List Nat} {dd ll : Nat → Nat} {gg : Nat → Int → Int} : (bR cI LB dd ll gg).map Prod.fst = LB.map dd := by
  unfold bR
  rw [List.map_map]
  rfl
theorem bW_fst {cI : Nat} {LB : List Nat} {dd : Nat → Nat} {nn ss : Nat → Int} {ll : Nat → Nat} {gg : Nat → Int → Int} {X : va_W} : (bW cI LB dd nn ss ll gg X).map Prod.fst = LB ++ (LB.map dd ++ X.map Prod.fst) := by
  unfold bW
  rw [List.map_append, List.map_append, bO_fst, bR_fst]
theorem bW_o {cI : Nat} {LB : List Nat} {dd : Nat → Nat} {nn ss : Nat → Int} {ll : Nat → Nat} {gg : Nat → Int → Int} {X : va_W} {b : Nat} (h : b ∈ LB) : (b, (.inr (0, [.ref (dd b), Iz (nn b), Iz (ss b)]) : va_E)) ∈ bW cI LB dd nn ss ll gg X :=
  List.mem_append_left _ (List.mem_map.mpr ⟨b, h, rfl⟩)
theorem bW_r {cI : Nat} {LB : List Nat} {dd : Nat → Nat} {nn ss : Nat → Int} {ll : Nat → Nat} {gg : Nat → Int → Int} {X : va_W} {b : Nat} (h : b ∈ LB) : (dd b, (.inl (cI, ll b, .inl (im (gg b))) : va_E)) ∈ bW cI LB dd nn ss ll gg X :=
  List.mem_append_right _ (List.mem_append_left _ (List.mem_map.mpr ⟨b, h, rfl⟩))
theorem bW_x {cI : Nat} {LB : List Nat} {dd : Nat → Nat} {nn ss : Nat → Int} {ll : Nat → Nat} {gg : Nat → Int → Int} {X : va_W} {q : Nat × va_E} (h : q ∈ X) : q ∈ bW cI LB dd nn ss ll gg X :=
  List.mem_append_right _ (List.mem_append_right _ h)
theorem bW_cases {cI : Nat} {LB : List Nat} {dd : Nat → Nat} {nn ss : Nat → Int} {ll : Nat → Nat} {gg : Nat → Int → Int} {X : va_W} {q : Nat × va_E} (h : q ∈ bW cI LB dd nn ss ll gg X) : (∃ b ∈ LB, q = (b, .inr (0, [.ref (dd b), Iz (nn b), Iz (ss b)]))) ∨ (∃ b ∈ LB, q = (dd b, .inl (cI, ll b, .inl (im (gg b))))) ∨ q ∈ X := by
  rcases List.mem_append.mp h with h | h
  · obtain ⟨b, hb, e⟩ := List.mem_map.mp h
    exact Or.inl ⟨b, hb, e.symm⟩
  · rcases List.mem_append.mp h with h | h
    · obtain ⟨b, hb, e⟩ := List.mem_map.mp h
      exact Or.inr (Or.inl ⟨b, hb, e.symm⟩)
    · exact Or.inr (Or.inr h)
/-- that all lie apart -/
def bAp (LB : List Nat) (dd : Nat → Nat) (X : va_W) : Prop := LB.Nodup ∧ (∀ b ∈ LB, ∀ b' ∈ LB, dd b' ≠ b) ∧ (∀ b ∈ LB, ∀ b' ∈ LB, dd b = dd b' → b = b') ∧ ∀ q ∈ X, ∀ b ∈ LB, q.1 ≠ b ∧ q.1 ≠ dd b
theorem map_inj_of_nodup {f : Nat → Nat} : ∀ {L : List Nat}, (L.map f).Nodup → ∀ a ∈ L, ∀ b ∈ L, f a = f b → a = b
  | [], _, a, ha, _, _, _ => absurd ha List.not_mem_nil
  | x :: L, h, a, ha0, b, hb0, q => by
    rw [List.map_cons, List.nodup_cons] at h
    rcases List.mem_cons.mp ha0 with rfl | ha
    · rcases List.mem_cons.mp hb0 with rfl | hb
      · rfl
      · exact absurd (by rw [q]; exact List.mem_map_of_mem hb) h.1
    · rcases List.mem_cons.mp hb0 with rfl | hb
      · exact absurd (by rw [← q]; exact List.mem_map_of_mem ha) h.1
      · exact map_inj_of_nodup h.2 a ha b hb q
theorem bW_ap {cI : Nat} {LB : List Nat} {dd : Nat → Nat} {nn ss : Nat → Int} {ll : Nat → Nat} {gg : Nat → Int → Int} {X : va_W} {A : Nat → Prop} (hD : va_D A (bW cI LB dd nn ss ll gg X)) : bAp LB dd X := by
  have h := (va_D_iff.mp hD).1
  rw [bW_fst, List.nodup_append] at h
  obtain ⟨h1, h2, h3⟩ := h
  rw [List.nodup_append] at h2
  obtain ⟨h4, h5, h6⟩ := h2
  refine ⟨h1, fun b hb b' hb' q => ?_, fun b hb b' hb' q => map_inj_of_nodup h4 b hb b' hb' q, fun q hq b hb => ⟨fun z => ?_, fun z => ?_⟩⟩
  · exact h3 b hb (dd b') (List.mem_append_left _ (List.mem_map_of_mem hb')) q.symm
  · exact h3 b hb q.1 (List.mem_append_right _ (List.mem_map_of_mem hq)) z.symm
  · exact h6 (dd b) (List.mem_map_of_mem hb) q.1 (List.mem_map_of_mem hq) z.symm
theorem bW_putO {D : va_G} {cl : List vw_C} {cI : Nat} {LB : List Nat} {dd : Nat → Nat} {nn ss : Nat → Int} {ll : Nat → Nat} {gg : Nat → Int → Int} {X : va_W} {A : Nat → Prop} {H1 : Heap} {b k : Nat} {e0 : va_E} {nn' ss' : Nat → Int} (hk : (bW cI LB dd nn ss ll gg X)[k]? = some (b, e0)) (hP : va_P D cl ((bW cI LB dd nn ss ll gg X).set k (b, .inr (0, [.ref (dd b), Iz (nn' b), Iz (ss' b)]))) H1) (hD : va_D A (bW cI LB dd nn ss ll gg X)) (hb : b ∈ LB) (hn : ∀ x, x ≠ b → nn' x = nn x) (hs : ∀ x, x ≠ b → ss' x = ss x) : va_P D cl (bW cI LB dd nn' ss' ll gg X) H1 ∧ va_D A (bW cI LB dd nn' ss' ll gg X) := by
  have ap := bW_ap hD
  refine w_set hk hP hD (by rw [bW_fst, bW_fst]) (fun q hq => ?_)
  rcases bW_cases hq with ⟨x, hx, rfl⟩ | ⟨x, hx, rfl⟩ | h
  · by_cases hxb : x = b
    · subst hxb; exact Or.inl rfl
    · exact Or.inr ⟨by rw [hn x hxb, hs x hxb]; exact bW_o hx, hxb⟩
  · exact Or.inr ⟨bW_r hx, ap.2.1 b hb x hx⟩
  · exact Or.inr ⟨bW_x h, (ap.2.2.2 q h b hb).1⟩
theorem bW_putR {D : va_G} {cl : List vw_C} {cI : Nat} {LB : List Nat} {dd : Nat → Nat} {nn ss : Nat → Int} {ll : Nat → Nat} {gg : Nat → Int → Int} {X : va_W} {A : Nat → Prop} {H1 : Heap} {b k : Nat} {e0 : va_E} {gg' : Nat → Int → Int} (hk : (bW cI LB dd nn ss ll gg X)[k]? = some (dd b, e0)) (hP : va_P D cl ((bW cI LB dd nn ss ll gg X).set k (dd b, .inl (cI, ll b, .inl (im (gg' b))))) H1) (hD : va_D A (bW cI LB dd nn ss ll gg X)) (hb : b ∈ LB) (hg : ∀ x, x ≠ b → gg' x = gg x) : va_P D cl (bW cI LB dd nn ss ll gg' X) H1 ∧ va_D A (bW cI LB dd nn ss ll gg' X) := by
  have ap := bW_ap hD
  refine w_set hk hP hD (by rw [bW_fst, bW_fst]) (fun q hq => ?_)
  rcases bW_cases hq with ⟨x, hx, rfl⟩ | ⟨x, hx, rfl⟩ | h
  · exact Or.inr ⟨bW_o hx, fun z => ap.2.1 x hx b hb z.symm⟩
  · by_cases hxb : x = b
    · subst hxb; exact Or.inl rfl
    · exact Or.inr ⟨by rw [hg x hxb]; exact bW_r hx, fun z => hxb (ap.2.2.1 x hx b hb z)⟩
  · exact Or.inr ⟨bW_x h, (ap.2.2.2 q h b hb).2⟩
/-- another cell than the numbers' -/
theorem bW_putX {D : va_G} {cl : List vw_C} {cI : Nat} {LB : List Nat} {dd : Nat → Nat} {nn ss : Nat → Int} {ll : Nat → Nat} {gg : Nat → Int → Int} {X X' : va_W} {A : Nat → Prop} {H1 : Heap} {a k : Nat} {e0 e : va_E} (hk : (bW cI LB dd nn ss ll gg X)[k]? = some (a, e0)) (hP : va_P D cl ((bW cI LB dd nn ss ll gg X).set k (a, e)) H1) (hD : va_D A (bW cI LB dd nn ss ll gg X)) (hx : (a, e0) ∈ X) (hm : X'.map Prod.fst = X.map Prod.fst) (hw : ∀ q ∈ X', q = (a, e) ∨ q ∈ X ∧ q.1 ≠ a) : va_P D cl (bW cI LB dd nn ss ll gg X') H1 ∧ va_D A (bW cI LB dd nn ss ll gg X') := by
  have ap := bW_ap hD
  refine w_set hk hP hD (by rw [bW_fst, bW_fst, hm]) (fun q hq => ?_)
  rcases bW_cases hq with ⟨x, hx', rfl⟩ | ⟨x, hx', rfl⟩ | h
  · exact Or.inr ⟨bW_o hx', fun z => (ap.2.2.2 _ hx x hx').1 z.symm⟩
  · exact Or.inr ⟨bW_r hx', fun z => (ap.2.2.2 _ hx x hx').2 z.symm⟩
  · rcases hw q h with h | ⟨h1, h2⟩
    · exact Or.inl h
    · exact Or.inr ⟨bW_x h1, h2⟩
/-- a number gets another row, a new cell -/
theorem bW_putD {D : va_G} {cl : List vw_C} {cI : Nat} {LB : List Nat} {dd : Nat → Nat} {nn ss : Nat → Int} {ll : Nat → Nat} {gg : Nat → Int → Int} {X : va_W} {A : Nat → Prop} {H1 : Heap} {b k q0 N : Nat} {f : Int → Int} {e0 : va_E} (hk : (bW cI LB dd nn ss ll gg (X ++ [(q0, .inl (cI, N, .inl (im f)))]))[k]? = some (b, e0)) (hP : va_P D cl ((bW cI LB dd nn ss ll gg (X ++ [(q0, .inl (cI, N, .inl (im f)))])).set k (b, .inr (0, [.ref q0, Iz (nn b), Iz (ss b)]))) H1) (hD : va_D A (bW cI LB dd nn ss ll gg (X ++ [(q0, .inl (cI, N, .inl (im f)))]))) (hb : b ∈ LB) : va_P D cl (bW cI LB (va_up dd b q0) nn ss (va_up ll b N) (va_up gg b f) X) H1 ∧ va_D A (bW cI LB (va_up dd b q0) nn ss (va_up ll b N) (va_up gg b f) X) := by
  have ap := bW_ap hD
  have hq : (q0, (.inl (cI, N, .inl (im f)) : va_E)) ∈ X ++ [(q0, .inl (cI, N, .inl (im f)))] := List.mem_append_right _ List.mem_cons_self
  have hA := (va_D_iff.mp hD).2
  have key : ∀ x ∈ bW cI LB (va_up dd b q0) nn ss (va_up ll b N) (va_up gg b f) X, x = (b, .inr (0, [.ref q0, Iz (nn b), Iz (ss b)])) ∨ x ∈ bW cI LB dd nn ss ll gg (X ++ [(q0, .inl (cI, N, .inl (im f)))]) ∧ x.1 ≠ b := by
    intro x hx
    rcases bW_cases hx with ⟨y, hy, rfl⟩ | ⟨y, hy, rfl⟩ | h
    · by_cases hyb : y = b
      · subst hyb; rw [va_up_self]; exact Or.inl rfl
      · rw [va_up_ne _ _ hyb]; exact Or.inr ⟨bW_o hy, hyb⟩
    · by_cases hyb : y = b
      · subst hyb; rw [va_up_self, va_up_self, va_up_self]; exact Or.inr ⟨bW_x hq, (ap.2.2.2 _ hq y hy).1⟩
      · rw [va_up_ne _ _ hyb, va_up_ne _ _ hyb, va_up_ne _ _ hyb]; exact Or.inr ⟨bW_r hy, ap.2.1 b hb y hy⟩
    · exact Or.inr ⟨bW_x (List.mem_append_left _ h), (ap.2.2.2 x (List.mem_append_left _ h) b hb).1⟩
  refine ⟨va_P_iff.mpr fun x hx => va_P_iff.mp hP x (w_in_set hk (key x hx)), va_D_iff.mpr ⟨?_, fun x hx => ?_⟩⟩
  · have h := (va_D_iff.mp hD).1
    rw [bW_fst, List.nodup_append, List.nodup_append, List.map_append, List.nodup_append] at h
    obtain ⟨h1, ⟨h2, ⟨h3, -, h4⟩, h5⟩, h6⟩ := h
    rw [bW_fst, List.nodup_append, List.nodup_append]
    have hdd : ∀ y ∈ LB.map (va_up dd b q0), y = q0 ∨ y ∈ LB.map dd := by
      intro y hy
      obtain ⟨z, hz, rfl⟩ := List.mem_map.mp hy
      by_cases hzb : z = b
      · subst hzb; rw [va_up_self]; exact Or.inl rfl
      · rw [va_up_ne _ _ hzb]; exact Or.inr (List.mem_map_of_mem hz)
    have hqs : q0 ∈ List.map Prod.fst [((q0, .inl (cI, N, .inl (im f))) : Nat × va_E)] := List.mem_cons_self
    refine ⟨h1, ⟨?_, h3, fun y hy z hz => ?_⟩, fun y hy z hz => ?_⟩
    · unfold List.Nodup at h1 ⊢
      rw [List.pairwise_map]
      refine List.Pairwise.imp_of_mem (R := fun a b => a ≠ b) (fun {y z} hy hz hne hq => ?_) h1
      by_cases hyb : y = b
      · subst hyb
        rw [va_up_self, va_up_ne _ _ (Ne.symm hne)] at hq
        exact (ap.2.2.2 _ (List.mem_append_right _ List.mem_cons_self) z hz).2 hq
      · rw [va_up_ne _ _ hyb] at hq
        by_cases hzb : z = b
        · subst hzb
          rw [va_up_self] at hq
          exact (ap.2.2.2 _ (List.mem_append_right _ List.mem_cons_self) y hy).2 hq.symm
        · rw [va_up_ne _ _ hzb] at hq
          exact hne (ap.2.2.1 y hy z hz hq)
    · rcases hdd y hy with rfl | hy
      · exact fun q => h4 z hz y (by exact List.mem_cons_self) q.symm
      · exact h5 y hy z (List.mem_append_left _ hz)
    · rcases List.mem_append.mp hz with hz | hz
      · rcases hdd z hz with rfl | hz
        · exact fun q => (ap.2.2.2 _ (List.mem_append_right _ List.mem_cons_self) y hy).1 q.symm
        · exact h6 y hy z (List.mem_append_left _ hz)
      · exact h6 y hy z (List.mem_append_right _ (List.mem_append_left _ hz))
  · rcases key x hx with rfl | ⟨h, -⟩
    · exact hA (b, .inr (0, [.ref (dd b), Iz (nn b), Iz (ss b)])) (bW_o hb)
    · exact hA x h
/-- the room that the rows of the numbers take -/
def cP (LB : List Nat) (ll : Nat → Nat) : Nat := (LB.map ll).sum
theorem cP_mono {ll ll' : Nat → Nat} : ∀ {LB : List Nat}, (∀ b ∈ LB, ll b ≤ ll' b) → cP LB ll ≤ cP LB ll'
  | [], _ => Nat.le_refl _
  | x :: L, h => by
    have h1 := cP_mono (LB := L) (fun b hb => h b (List.mem_cons_of_mem _ hb))
    have h2 := h x List.mem_cons_self
    show (ll x :: L.map ll).sum ≤ (ll' x :: L.map ll').sum
    rw [List.sum_cons, List.sum_cons]
    exact Nat.add_le_add h2 h1
theorem cP_le {ll : Nat → Nat} {C : Nat} : ∀ {LB : List Nat}, (∀ b ∈ LB, ll b ≤ C) → cP LB ll ≤ LB.length * C
  | [], _ => Nat.zero_le _
  | x :: L, h => by
    have h1 := cP_le (LB := L) (fun b hb => h b (List.mem_cons_of_mem _ hb))
    have h2 := h x List.mem_cons_self
    show (ll x :: L.map ll).sum ≤ (L.length + 1) * C
    rw [List.sum_cons, Nat.add_mul, Nat.one_mul]
    unfold cP at h1
    omega
theorem cP_same {ll ll' : Nat → Nat} : ∀ {LB : List Nat}, (∀ b ∈ LB, ll b = ll' b) → cP LB ll = cP LB ll' := fun h => Nat.le_antisymm (cP_mono fun b hb => Nat.le_of_eq (h b hb)) (cP_mono fun b hb => Nat.le_of_eq (h b hb).symm)
theorem cP_up {ll : Nat → Nat} {b N : Nat} : ∀ {LB : List Nat}, LB.Nodup → b ∈ LB → cP LB (va_up ll b N) + ll b = cP LB ll + N
  | [], _, h => absurd h List.not_mem_nil
  | x :: L, hn, h => by
    rw [List.nodup_cons] at hn
    show ((va_up ll b N) x :: L.map (va_up ll b N)).sum + ll b = (ll x :: L.map ll).sum + N
    rw [List.sum_cons, List.sum_cons]
    rcases List.mem_cons.mp h with rfl | h
    · have h1 : cP L (va_up ll b N) = cP L ll := cP_same fun y hy => va_up_ne _ _ (fun q => hn.1 (q ▸ hy))
      unfold cP at h1
      rw [h1, va_up_self]
      omega
    · have h1 := cP_up (ll := ll) (N := N) hn.2 h
      rw [va_up_ne ll N (show x ≠ b from fun q => hn.1 (by rw [q]; exact h))]
      unfold cP at h1
      omega
end CBase
