section NGrow
/-- a number just made: its object and its row; a polynomial just made -/
def nB (cx : Nat → Nat) (q : Nat × Nat) : va_W := [(q.1, .inr (0, [.ref q.2, Iz 0, Iz 0])), (q.2, .inl (cx 0, 5, .inl (im (fun _ => 0))))]
abbrev nQt : Type := Nat × Nat × (Nat → Nat) × (Nat → Nat)
def nPr (q : nQt) (n : Nat) : List (Nat × Nat) := (List.range n).map fun i => (q.2.2.1 i, q.2.2.2 i)
def nP (cx : Nat → Nat) (q : nQt) : va_W := (q.1, .inr (4, [.ref q.2.1, Iz (-1)])) :: (q.2.1, .inl (cx 2, 13, .inr (.inr (.inr (.inr (fun i => some (q.2.2.1 i))))))) :: (nPr q 13).flatMap (nB cx)
/-- a world that grows: cells told one by one, polynomials, numbers -/
def gW (cx : Nat → Nat) (Qs : List nQt) (Ps : List (Nat × Nat)) (X : va_W) : va_W := X ++ (Qs.flatMap (nP cx) ++ Ps.flatMap (nB cx))
theorem perm4 {α : Type} (x y a b : List α) : ((x ++ y) ++ (a ++ b)).Perm ((x ++ a) ++ (y ++ b)) := by
  rw [List.append_assoc, List.append_assoc]
  exact List.Perm.append_left x (List.perm_append_comm_assoc y a b)
theorem gW_app {cx : Nat → Nat} {Qs Qs2 : List nQt} {Ps Ps2 : List (Nat × Nat)} {X X2 : va_W} : (gW cx (Qs ++ Qs2) (Ps ++ Ps2) (X ++ X2)).Perm (gW cx Qs Ps X ++ gW cx Qs2 Ps2 X2) := by
  unfold gW
  rw [List.flatMap_append, List.flatMap_append]
  exact (List.Perm.append_left _ (perm4 _ _ _ _)).trans (perm4 _ _ _ _)
theorem va_P_perm {D : va_G} {cl : List vw_C} {ws ws' : va_W} {H : Heap} (h : va_P D cl ws H) (hp : ws'.Perm ws) : va_P D cl ws' H := va_P_iff.mpr fun q hq => va_P_iff.mp h q (hp.mem_iff.mp hq)
theorem va_D_perm {A : Nat → Prop} {ws ws' : va_W} (h : va_D A ws) (hp : ws'.Perm ws) : va_D A ws' := va_D_iff.mpr ⟨((hp.map Prod.fst).nodup_iff).mpr (va_D_iff.mp h).1, fun q hq => (va_D_iff.mp h).2 q (hp.mem_iff.mp hq)⟩
/-- where a constructor's walk stands -/
def nV (dC : Nat → ClassId) (dI : Nat → Nat → Nat) (cx : Nat → Nat) (A : Nat → Prop) (H0 : Heap) (Qs : List nQt) (Ps : List (Nat × Nat)) (X : va_W) (H : Heap) (locs : List Loc) : Prop :=
  va_P (dC, dI) ccl (gW cx Qs Ps X) H ∧ va_D A (gW cx Qs Ps X) ∧ va_S A H0 H locs
/-- words of nests and of rows of references, which no callee may ask for by its words -/
def nestL : List (String × Nat × MethodName) := [(RX11, 28, yX5_init), (RX11, 38, yX9_init), (RX11, 75, yX8_init), (RX11, 82, yX0_init), (RX1, 17, yX6_init), (RX2, 32, yX6_init), (RX2, 61, yX0_init), (RX3, 37, yX6_init), (RX3, 63, yX0_init), (RX4, 19, yX0_init), (RX5, 18, yX0_init), (RX7, 17, yX0_init), (RX8, 29, yX0_init), (RX9, 11, yX0_init), (RX10, 28, yX0_init)]
def nAO (t : FieldType) (U : State) : Prop := (Cond.arrayOver t).before #[] U = true
def CN (U : State) : Prop := (∀ w ∈ nestL, va_Nw (.methodLinkNest w.1 w.2.1 w.2.2 RX11) U) ∧ va_AO RX0 U ∧ va_AO RX4 U ∧ va_AO RX5 U ∧ va_AO RX6 U ∧ nAO (.array .long) U
theorem nAO.moved {t : FieldType} {u U : State} (hvm : u.vm.Alike U.vm) (h : nAO (.array t) u) : nAO (.array t) U := by
  obtain ⟨comp, c, k, h1, h2, h3, h4, h5⟩ := arrayOverA_spec h
  obtain ⟨k', hk', he⟩ := hvm.2.2 _ _ h3
  have hi : (U.vm.classes.findIdx? fun (x : Class) => match x.kind with | .array component _ => component == comp | _ => false) = some c := by
    rw [hvm.findIdx?_eq _ (fun _ => rfl)]; exact h2
  have hkind : k'.kind = .array comp (.array t) := by rw [he]; exact h4
  have f1 : U.vm.findClass (FieldType.array t).toString = some comp := by rw [hvm.findClass]; exact h1
  have f2 : U.vm.findClass ("[" ++ (FieldType.array t).toString) = some c := by rw [hvm.findClass]; exact h5
  unfold nAO Cond.before Cond.holds
  simp only [Cond.value]
  rw [f1, Option.bind_some]
  refine (congrArg (fun o : Option Nat => (o.bind (fun c => (U.vm.classes[c]?).map fun (k : Class) => match k.kind with | .array _ ty => decide (ty = FieldType.array t) && decide (U.vm.findClass ("[" ++ (FieldType.array t).toString) = some c) | _ => false) == some true)) hi).trans ?_
  simp [hk', hkind, f2]
theorem CN.moved {s U : State} (hW : s.WarmedH U.vm) (h : CN s) : CN U :=
  ⟨fun w hw => va_Nw.warmM hW (h.1 w hw), h.2.1.moved hW.alike, h.2.2.1.moved hW.alike, h.2.2.2.1.moved hW.alike, h.2.2.2.2.1.moved hW.alike, h.2.2.2.2.2.moved hW.alike⟩
theorem CN.same {u U : State} (e : u.vm = U.vm) (h : CN u) : CN U := by
  have hal : u.vm.Alike U.vm := by rw [e]; exact Vm.Alike.refl _
  exact ⟨fun w hw => va_Nw.same rfl e (h.1 w hw), h.2.1.moved hal, h.2.2.1.moved hal, h.2.2.2.1.moved hal, h.2.2.2.2.1.moved hal, h.2.2.2.2.2.moved hal⟩
/-- a constructor's contract -/
abbrev nPc (dC : Nat → ClassId) (dI : Nat → Nat → Nat) (cx : Nat → Nat) (b : Nat) (e0 : va_E) (H0 : Heap) (As : List Value) : Array Value → State → Prop :=
  va_Pc (.ref b :: As) (fun U => U.heap = H0 ∧ va_P (dC, dI) ccl [(b, e0)] U.heap ∧ va_K (dC, dI) ccl (cty cx) U ∧ CN U)
abbrev nQv (dC : Nat → ClassId) (dI : Nat → Nat → Nat) (cx : Nat → Nat) (b : Nat) (e0 : va_E) (H0 : Heap) (P : List nQt → List (Nat × Nat) → va_W → Prop) : Array Value → State → Outcome → State → Prop :=
  va_Qv (fun (u : List nQt × List (Nat × Nat) × va_W) => P u.1 u.2.1 u.2.2) (fun u t => va_P (dC, dI) ccl (gW cx u.1 u.2.1 u.2.2) t.heap ∧ va_K (dC, dI) ccl (cty cx) t ∧ va_D (va_A [(b, e0)] H0.size) (gW cx u.1 u.2.1 u.2.2)) (va_A [(b, e0)] H0.size)
abbrev nRm (f k c s : Nat) : Room := { frames := f, cells := c, slots := s, locals := k }
variable {p : Program} {l : Launch} {e : Env} {R : Room} {s : State} {m : MethodId} {args : Array Value} {below : List Frame} {meth : Method} {c : Code} {H : Heap} {locs : List Loc} {cells slots : Nat} {Q : State → Prop}
variable {cc : ByteArray} {pc nL : Nat} {ls : Array Slot} {rest : List Value} {dC : Nat → ClassId} {dI : Nat → Nat → Nat} {cx : Nat → Nat} {A : Nat → Prop} {H0 : Heap} {c0 : Cond} {own : String} {a index : Nat} {Qs : List nQt} {Ps : List (Nat × Nat)} {X : va_W}
theorem n_blind {b : Nat} {e0 : va_E} {As : List Value} {H1 : Heap} : FrameBlind (nPc dC dI cx b e0 H1 As) := fun v U g mk q => by
  obtain ⟨q0, q1, qP, qK, qC⟩ := q
  exact ⟨q0, q1, qP, va_K.moved (u := U) (U := U.calling g mk v) (Vm.Alike.refl U.vm) qK, CN.same (u := U) (U := U.calling g mk v) rfl qC⟩
/-- one more cell, told last among the cells told one by one -/
theorem gW_snoc {x : Nat × va_E} : (gW cx Qs Ps (X ++ [x])).Perm (gW cx Qs Ps X ++ [x]) := by
  unfold gW
  rw [List.append_assoc, List.append_assoc]
  exact List.Perm.append_left X List.perm_append_comm
theorem n_snoc {x : Nat × va_E} (h1 : va_P (dC, dI) ccl (gW cx Qs Ps X ++ [x]) H) (h2 : va_D A (gW cx Qs Ps X ++ [x])) (h3 : va_S A H0 H locs) : nV dC dI cx A H0 Qs Ps (X ++ [x]) H locs := ⟨va_P_perm h1 gW_snoc, va_D_perm h2 gW_snoc, h3⟩
/-- a cell told anew, by its place -/
theorem n_set {k : Nat} {e1 e2 : va_E} {q0 : Nat} (hx : X[k]? = some (a, e1)) (hq : (gW cx Qs Ps X)[q0]? = some (a, e1)) (h1 : va_P (dC, dI) ccl ((gW cx Qs Ps X).set q0 (a, e2)) H) (h2 : va_D A (gW cx Qs Ps X)) (h3 : va_S A H0 H locs) : nV dC dI cx A H0 Qs Ps (X.set k (a, e2)) H locs := by
  have hk : k < X.length := (List.getElem?_eq_some_iff.mp hx).1
  have e : (gW cx Qs Ps X)[k]? = some (a, e1) := by unfold gW; rw [List.getElem?_append_left hk]; exact hx
  have ek : q0 = k := h2.1 q0 k _ _ hq e rfl
  subst ek
  have es : (gW cx Qs Ps X).set q0 (a, e2) = gW cx Qs Ps (X.set q0 (a, e2)) := by unfold gW; rw [List.set_append_left _ _ hk]
  rw [es] at h1
  refine ⟨h1, va_D_iff.mpr ⟨?_, fun q hq => ?_⟩, h3⟩
  · have ef : (gW cx Qs Ps (X.set q0 (a, e2))).map Prod.fst = (gW cx Qs Ps X).map Prod.fst := by
      rw [← es, List.map_set]
      apply List.ext_getElem?
      intro j
      by_cases w : q0 = j
      · subst w
        rw [List.getElem?_set_self (by rw [List.length_map]; exact (List.getElem?_eq_some_iff.mp hq).1), List.getElem?_map, hq]; rfl
      · rw [List.getElem?_set_ne w]
    rw [ef]; exact (va_D_iff.mp h2).1
  · rw [← es] at hq
    rcases List.mem_or_eq_of_mem_set hq with h | h
    · exact (va_D_iff.mp h2).2 q h
    · rw [h]; exact h2.2 q0 (a, e1) e
theorem n_at {k : Nat} {x : Nat × va_E} (hx : X[k]? = some x) : (gW cx Qs Ps X)[k]? = some x := by
  unfold gW; rw [List.getElem?_append_left (List.getElem?_eq_some_iff.mp hx).1]; exact hx
end NGrow
