section NHelp
variable {p : Program} {l : Launch} {e : Env} {R : Room} {s : State} {m : MethodId} {args : Array Value} {below : List Frame} {meth : Method} {c : Code} {H : Heap} {locs : List Loc} {cells slots : Nat} {Q : State → Prop}
variable {cc : ByteArray} {pc nL : Nat} {ls : Array Slot} {rest : List Value} {dC : Nat → ClassId} {dI : Nat → Nat → Nat} {cx : Nat → Nat} {A : Nat → Prop} {H0 : Heap} {c0 : Cond} {own : String} {a index : Nat} {Qs : List nQt} {Ps : List (Nat × Nat)} {X : va_W}
theorem bl_ok0 : ∀ j : Nat, j < 3 → defaultValue (tyX0 j) = vp_V [.null, Iz 0, Iz 0] j := fun j hj => by
  rcases (show j = 0 ∨ j = 1 ∨ j = 2 by omega) with rfl | rfl | rfl <;> rfl
theorem bl_ok1 : ∀ j : Nat, j < 9 → defaultValue (tyX1 j) = vp_V [.null, Iz 0, .null, .null, .null, .null, .null, .null, .null] j := fun j hj => by
  rcases (show j = 0 ∨ j = 1 ∨ j = 2 ∨ j = 3 ∨ j = 4 ∨ j = 5 ∨ j = 6 ∨ j = 7 ∨ j = 8 by omega) with rfl | rfl | rfl | rfl | rfl | rfl | rfl | rfl | rfl <;> rfl
theorem bl_ok2 : ∀ j : Nat, j < 19 → defaultValue (tyX2 j) = vp_V [.null, .null, .null, .null, .null, .null, .null, .null, .null, .null, .null, .null, .null, .null, .null, .null, Iz 0, Iz 0, Jz 0] j := fun j hj => by
  rcases (show j = 0 ∨ j = 1 ∨ j = 2 ∨ j = 3 ∨ j = 4 ∨ j = 5 ∨ j = 6 ∨ j = 7 ∨ j = 8 ∨ j = 9 ∨ j = 10 ∨ j = 11 ∨ j = 12 ∨ j = 13 ∨ j = 14 ∨ j = 15 ∨ j = 16 ∨ j = 17 ∨ j = 18 by omega) with rfl | rfl | rfl | rfl | rfl | rfl | rfl | rfl | rfl | rfl | rfl | rfl | rfl | rfl | rfl | rfl | rfl | rfl | rfl <;> rfl
theorem bl_ok3 : ∀ j : Nat, j < 19 → defaultValue (tyX3 j) = vp_V [.null, Iz 0, .null, .null, .null, .null, .null, .null, .null, .null, .null, .null, .null, .null, .null, .null, .null, .null, .null] j := fun j hj => by
  rcases (show j = 0 ∨ j = 1 ∨ j = 2 ∨ j = 3 ∨ j = 4 ∨ j = 5 ∨ j = 6 ∨ j = 7 ∨ j = 8 ∨ j = 9 ∨ j = 10 ∨ j = 11 ∨ j = 12 ∨ j = 13 ∨ j = 14 ∨ j = 15 ∨ j = 16 ∨ j = 17 ∨ j = 18 by omega) with rfl | rfl | rfl | rfl | rfl | rfl | rfl | rfl | rfl | rfl | rfl | rfl | rfl | rfl | rfl | rfl | rfl | rfl | rfl <;> rfl
theorem bl_ok4 : ∀ j : Nat, j < 2 → defaultValue (tyX4 j) = vp_V [.null, Iz 0] j := fun j hj => by
  rcases (show j = 0 ∨ j = 1 by omega) with rfl | rfl <;> rfl
theorem bl_ok5 : ∀ j : Nat, j < 7 → defaultValue (tyX5 j) = vp_V [.null, .null, .null, Iz 0, Iz 0, Iz 0, Iz 0] j := fun j hj => by
  rcases (show j = 0 ∨ j = 1 ∨ j = 2 ∨ j = 3 ∨ j = 4 ∨ j = 5 ∨ j = 6 by omega) with rfl | rfl | rfl | rfl | rfl | rfl | rfl <;> rfl
theorem bl_ok6 : ∀ j : Nat, j < 2 → defaultValue (tyX6 j) = vp_V [.null, Iz 0] j := fun j hj => by
  rcases (show j = 0 ∨ j = 1 by omega) with rfl | rfl <;> rfl
theorem bl_ok7 : ∀ j : Nat, j < 10 → defaultValue (tyX7 j) = vp_V [Iz 0, .null, .null, Iz 0, Iz 0, .null, .null, .null, .null, .null] j := fun j hj => by
  rcases (show j = 0 ∨ j = 1 ∨ j = 2 ∨ j = 3 ∨ j = 4 ∨ j = 5 ∨ j = 6 ∨ j = 7 ∨ j = 8 ∨ j = 9 by omega) with rfl | rfl | rfl | rfl | rfl | rfl | rfl | rfl | rfl | rfl <;> rfl
theorem bl_ok8 : ∀ j : Nat, j < 15 → defaultValue (tyX8 j) = vp_V [.null, .null, Iz 0, Iz 0, Iz 0, .null, .null, .null, Iz 0, Iz 0, Iz 0, Iz 0, Iz 0, Iz 0, .null] j := fun j hj => by
  rcases (show j = 0 ∨ j = 1 ∨ j = 2 ∨ j = 3 ∨ j = 4 ∨ j = 5 ∨ j = 6 ∨ j = 7 ∨ j = 8 ∨ j = 9 ∨ j = 10 ∨ j = 11 ∨ j = 12 ∨ j = 13 ∨ j = 14 by omega) with rfl | rfl | rfl | rfl | rfl | rfl | rfl | rfl | rfl | rfl | rfl | rfl | rfl | rfl | rfl <;> rfl
theorem bl_ok9 : ∀ j : Nat, j < 8 → defaultValue (tyX9 j) = vp_V [.null, .null, .null, .null, .null, .null, .null, Iz 0] j := fun j hj => by
  rcases (show j = 0 ∨ j = 1 ∨ j = 2 ∨ j = 3 ∨ j = 4 ∨ j = 5 ∨ j = 6 ∨ j = 7 by omega) with rfl | rfl | rfl | rfl | rfl | rfl | rfl | rfl <;> rfl
theorem bl_ok10 : ∀ j : Nat, j < 21 → defaultValue (tyX10 j) = vp_V [Iz 0, Iz 0, Iz 0, Iz 0, .null, .null, .null, .null, .null, .null, .null, .null, .null, .null, .null, .null, .null, .null, .null, .null, .null] j := fun j hj => by
  rcases (show j = 0 ∨ j = 1 ∨ j = 2 ∨ j = 3 ∨ j = 4 ∨ j = 5 ∨ j = 6 ∨ j = 7 ∨ j = 8 ∨ j = 9 ∨ j = 10 ∨ j = 11 ∨ j = 12 ∨ j = 13 ∨ j = 14 ∨ j = 15 ∨ j = 16 ∨ j = 17 ∨ j = 18 ∨ j = 19 ∨ j = 20 by omega) with rfl | rfl | rfl | rfl | rfl | rfl | rfl | rfl | rfl | rfl | rfl | rfl | rfl | rfl | rfl | rfl | rfl | rfl | rfl | rfl | rfl <;> rfl
theorem bl_ok11 : ∀ j : Nat, j < 20 → defaultValue (tyX11 j) = vp_V [Iz 0, .null, Iz 0, .null, Iz 0, .null, .null, Iz 0, .null, .null, .null, .null, .null, .null, .null, .null, .null, .null, .null, .null] j := fun j hj => by
  rcases (show j = 0 ∨ j = 1 ∨ j = 2 ∨ j = 3 ∨ j = 4 ∨ j = 5 ∨ j = 6 ∨ j = 7 ∨ j = 8 ∨ j = 9 ∨ j = 10 ∨ j = 11 ∨ j = 12 ∨ j = 13 ∨ j = 14 ∨ j = 15 ∨ j = 16 ∨ j = 17 ∨ j = 18 ∨ j = 19 by omega) with rfl | rfl | rfl | rfl | rfl | rfl | rfl | rfl | rfl | rfl | rfl | rfl | rfl | rfl | rfl | rfl | rfl | rfl | rfl | rfl <;> rfl
theorem n_start {b : Nat} {e0 : va_E} (hP : va_P (dC, dI) ccl [(b, e0)] H) : nV dC dI cx (va_A [(b, e0)] H.size) H [] [] [(b, e0)] H [] :=
  ⟨hP, va_D_iff.mpr ⟨List.nodup_cons.mpr ⟨List.not_mem_nil, List.nodup_nil⟩, fun q hq => by
    have hq' : q ∈ [(b, e0)] := hq
    rw [List.mem_singleton.mp hq']
    exact Or.inl ⟨0, e0, rfl⟩⟩, va_S.rf⟩
theorem n_ret (hx : p.tables.exec = Jvm.exec) (hb : c.code = cc) (hr : meth.sig.returnType = none) {b mc ms : Nat} {e0 : va_E} {P : List nQt → List (Nat × Nat) → va_W → Prop} (hK : va_K (dC, dI) ccl (cty cx) s) (hV : nV dC dI cx (va_A [(b, e0)] s.heap.size) s.heap Qs Ps X H locs) (hp : P Qs Ps X) (hd : decode cc pc = .ok (.return_, 1)) (hlocks : meth.locks = false) : W p l e R s m args below meth c H locs mc ms (MQ below (nQv dC dI cx b e0 s.heap P) args s mc ms (va_A [(b, e0)] s.heap.size)) (F0 m pc ls []) :=
  W.vret hx hb hr (fun t ht hW => ⟨⟨(Qs, Ps, X), rfl, hp, by rw [ht]; exact hV.1, va_K.moved hW.alike hK, hV.2.1⟩, hV.2.2.F ht⟩) hV.2.2.2.2 hd hlocks
theorem n_kept {H1 : Heap} {k : Nat} (hV : nV dC dI cx A H0 Qs Ps X H locs) (hz : H1.size = H.size + k) (ho : ∀ q : Nat, q < H.size → H1[q]? = H[q]?) : nV dC dI cx A H0 Qs Ps X H1 locs :=
  ⟨va_P_iff.mpr fun q hq => (va_P_iff.mp hV.1 q hq).kept (ho q.1 (va_P_iff.mp hV.1 q hq).lt), hV.2.1, ⟨by rw [hz]; exact Nat.le_trans hV.2.2.1 (Nat.le_add_right _ _), fun q h1 h2 => (ho q (Nat.lt_of_lt_of_le h1 hV.2.2.1)).trans (hV.2.2.2.1 q h1 h2), hV.2.2.2.2⟩⟩
theorem n_subX {X' : va_W} (hV : nV dC dI cx A H0 Qs Ps X H locs) (h : X'.Sublist X) : nV dC dI cx A H0 Qs Ps X' H locs := by
  have hs : (gW cx Qs Ps X').Sublist (gW cx Qs Ps X) := List.Sublist.append h (List.Sublist.refl _)
  exact ⟨va_P_iff.mpr fun q hq => va_P_iff.mp hV.1 q (hs.subset hq), va_D_iff.mpr ⟨(va_D_iff.mp hV.2.1).1.sublist (hs.map Prod.fst), fun q hq => (va_D_iff.mp hV.2.1).2 q (hs.subset hq)⟩, hV.2.2⟩
theorem gW_b {q : Nat × Nat} (h : q ∈ Ps) : (q.1, (.inr (0, [.ref q.2, Iz 0, Iz 0]) : va_E)) ∈ gW cx Qs Ps X := List.mem_append_right _ (List.mem_append_right _ (List.mem_flatMap.mpr ⟨q, h, List.mem_cons_self⟩))
theorem gW_p {q : nQt} (h : q ∈ Qs) : (q.1, (.inr (4, [.ref q.2.1, Iz (-1)]) : va_E)) ∈ gW cx Qs Ps X := List.mem_append_right _ (List.mem_append_left _ (List.mem_flatMap.mpr ⟨q, h, List.mem_cons_self⟩))
theorem gW_x {q : Nat × va_E} (h : q ∈ X) : q ∈ gW cx Qs Ps X := List.mem_append_left _ h
theorem nPr_up {a0 c1 n b r : Nat} {co dd : Nat → Nat} : nPr (a0, c1, va_up co n b, va_up dd n r) (n + 1) = nPr (a0, c1, co, dd) n ++ [(b, r)] := by
  unfold nPr
  rw [List.range_succ, List.map_append]
  congr 1
  · apply List.map_congr_left
    intro i hi
    have := List.mem_range.mp hi
    show (va_up co n b i, va_up dd n r i) = (co i, dd i)
    rw [va_up_ne _ _ (by omega), va_up_ne _ _ (by omega)]
  · show [(va_up co n b n, va_up dd n r n)] = _
    rw [va_up_self, va_up_self]
theorem range_up {α : Type} {n : Nat} {f : Nat → α} {x : α} : (List.range (n + 1)).map (va_up f n x) = (List.range n).map f ++ [x] := by
  rw [List.range_succ, List.map_append]
  congr 1
  · apply List.map_congr_left
    intro i hi
    have := List.mem_range.mp hi
    exact va_up_ne _ _ (by omega)
  · show [va_up f n x n] = _
    rw [va_up_self]
theorem cell_congr {cA : ClassId} {n : Nat} {f g : Nat → Option Nat} (h : ∀ j, j < n → f j = g j) : vp_cell cA (n, .inr (.inr (.inr (.inr f)))) = vp_cell cA (n, .inr (.inr (.inr (.inr g)))) := by
  rw [vp_cell_q, vp_cell_q]
  unfold arrV
  congr 2
  funext j
  exact congrArg va_rf (h j.val j.isLt)
theorem n_refs {k b n : Nat} {cA : ClassId} {f g : Nat → Option Nat} (hV : nV dC dI cx A H0 Qs Ps X H locs) (hx : X[k]? = some (b, .inl (cA, n, .inr (.inr (.inr (.inr f)))))) (h : ∀ j, j < n → f j = g j) : nV dC dI cx A H0 Qs Ps (X.set k (b, .inl (cA, n, .inr (.inr (.inr (.inr g)))))) H locs := by
  refine n_set hx (n_at hx) (va_P_iff.mpr fun q hq => ?_) hV.2.1 hV.2.2
  rcases List.mem_or_eq_of_mem_set hq with w | w
  · exact va_P_iff.mp hV.1 q w
  · rw [w]
    have e := va_P_iff.mp hV.1 _ (List.mem_of_getElem? (n_at (cx := cx) (Qs := Qs) (Ps := Ps) hx))
    exact e.trans (congrArg some (cell_congr h))
theorem n_poly {b c1 : Nat} {co dd : Nat → Nat} {f : Nat → Option Nat} (hV : nV dC dI cx A H0 [] (nPr (0, 0, co, dd) 13) [(b, .inr (4, [.ref c1, Iz (-1)])), (c1, .inl (cx 2, 13, .inr (.inr (.inr (.inr f)))))] H locs) (hf : ∀ j : Nat, j < 13 → f j = some (co j)) : nV dC dI cx A H0 [(b, c1, co, dd)] [] [] H locs := by
  have h := n_refs (k := 1) hV rfl hf
  have e : gW cx [(b, c1, co, dd)] [] [] = gW cx [] (nPr (0, 0, co, dd) 13) [(b, .inr (4, [.ref c1, Iz (-1)])), (c1, .inl (cx 2, 13, .inr (.inr (.inr (.inr (fun j => some (co j)))))))] := by
    unfold gW
    show [] ++ ((nP cx (b, c1, co, dd) ++ []) ++ []) = _
    rw [List.append_nil, List.append_nil]
    rfl
  unfold nV at h ⊢
  rw [e]
  exact h
end NHelp
