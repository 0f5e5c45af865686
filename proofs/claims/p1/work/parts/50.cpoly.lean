section CPoly
/-- the polynomials: their objects, their rows of numbers; X: all else -/
def pW (cx : Nat → Nat) (LP : List Nat) (pc_ : Nat → Nat) (pd : Nat → Int) (co : Nat → Nat → Nat) (X : va_W) : va_W := (LP.map fun p => (p, (.inr (4, [.ref (pc_ p), Iz (pd p)]) : va_E))) ++ ((LP.map fun p => (pc_ p, (.inl (cx 2, 13, .inr (.inr (.inr (.inr (fun i => some (co p i)))))) : va_E))) ++ X)
theorem pW_o {cx : Nat → Nat} {LP : List Nat} {pc_ : Nat → Nat} {pd : Nat → Int} {co : Nat → Nat → Nat} {X : va_W} {p : Nat} (h : p ∈ LP) : (p, (.inr (4, [.ref (pc_ p), Iz (pd p)]) : va_E)) ∈ pW cx LP pc_ pd co X := List.mem_append_left _ (List.mem_map.mpr ⟨p, h, rfl⟩)
theorem pW_c {cx : Nat → Nat} {LP : List Nat} {pc_ : Nat → Nat} {pd : Nat → Int} {co : Nat → Nat → Nat} {X : va_W} {p : Nat} (h : p ∈ LP) : (pc_ p, (.inl (cx 2, 13, .inr (.inr (.inr (.inr (fun i => some (co p i)))))) : va_E)) ∈ pW cx LP pc_ pd co X := List.mem_append_right _ (List.mem_append_left _ (List.mem_map.mpr ⟨p, h, rfl⟩))
theorem pW_x {cx : Nat → Nat} {LP : List Nat} {pc_ : Nat → Nat} {pd : Nat → Int} {co : Nat → Nat → Nat} {X : va_W} {q : Nat × va_E} (h : q ∈ X) : q ∈ pW cx LP pc_ pd co X := List.mem_append_right _ (List.mem_append_right _ h)
theorem pW_cases {cx : Nat → Nat} {LP : List Nat} {pc_ : Nat → Nat} {pd : Nat → Int} {co : Nat → Nat → Nat} {X : va_W} {q : Nat × va_E} (h : q ∈ pW cx LP pc_ pd co X) : (∃ p ∈ LP, q = (p, .inr (4, [.ref (pc_ p), Iz (pd p)]))) ∨ (∃ p ∈ LP, q = (pc_ p, .inl (cx 2, 13, .inr (.inr (.inr (.inr (fun i => some (co p i)))))))) ∨ q ∈ X := by
  rcases List.mem_append.mp h with h | h
  · obtain ⟨b, hb, e⟩ := List.mem_map.mp h
    exact Or.inl ⟨b, hb, e.symm⟩
  · rcases List.mem_append.mp h with h | h
    · obtain ⟨b, hb, e⟩ := List.mem_map.mp h
      exact Or.inr (Or.inl ⟨b, hb, e.symm⟩)
    · exact Or.inr (Or.inr h)
theorem pW_fst {cx : Nat → Nat} {LP : List Nat} {pc_ : Nat → Nat} {pd : Nat → Int} {co : Nat → Nat → Nat} {X : va_W} : (pW cx LP pc_ pd co X).map Prod.fst = LP ++ (LP.map pc_ ++ X.map Prod.fst) := by
  unfold pW
  rw [List.map_append, List.map_append, List.map_map, List.map_map]
  congr 1
  exact List.map_id _
/-- a cell's contents made anew -/
def wup (X : va_W) (a : Nat) (e : va_E) : va_W := X.map fun q => if q.1 = a then (a, e) else q
theorem wup_fst {X : va_W} {a : Nat} {e : va_E} : (wup X a e).map Prod.fst = X.map Prod.fst := by
  unfold wup
  rw [List.map_map]
  apply List.map_congr_left
  intro q _
  show (if q.1 = a then (a, e) else q).1 = q.1
  split
  · next h => exact h.symm
  · rfl
theorem wup_cases {X : va_W} {a : Nat} {e : va_E} {q : Nat × va_E} (h : q ∈ wup X a e) : q = (a, e) ∨ q ∈ X ∧ q.1 ≠ a := by
  obtain ⟨x, hx, rfl⟩ := List.mem_map.mp h
  by_cases w : x.1 = a
  · exact Or.inl (if_pos w)
  · rw [if_neg w]; exact Or.inr ⟨hx, w⟩
theorem wup_ne {X : va_W} {a b : Nat} {e e' : va_E} (h : (b, e') ∈ X) (hn : b ≠ a) : (b, e') ∈ wup X a e := List.mem_map.mpr ⟨_, h, if_neg hn⟩
theorem wup_self {X : va_W} {a : Nat} {e e' : va_E} (h : (a, e') ∈ X) : (a, e) ∈ wup X a e := List.mem_map.mpr ⟨_, h, if_pos rfl⟩
variable {p : Program} {l : Launch} {e : Env} {R : Room} {s : State} {m : MethodId} {args : Array Value} {below : List Frame} {meth : Method} {c : Code} {H : Heap} {locs : List Loc} {cells slots : Nat} {Q : State → Prop}
variable {cc : ByteArray} {pc nL : Nat} {ls : Array Slot} {rest : List Value} {dC : Nat → ClassId} {dI : Nat → Nat → Nat} {cx : Nat → Nat} {LB : List Nat} {A : Nat → Prop} {H0 : Heap} {ll0 : Nat → Nat} {X : va_W} {dd : Nat → Nat} {nn ss : Nat → Int} {ll : Nat → Nat} {gg : Nat → Int → Int} {c0 : Cond} {own : String} {b index : Nat}
variable {LP : List Nat} {pc_ : Nat → Nat} {pd : Nat → Int} {co : Nat → Nat → Nat}
theorem cV_ne (hV : cV dC dI cx LB A H0 ll0 X dd nn ss ll gg H locs) {a b : Nat} {e1 e2 : va_E} (h1 : (a, e1) ∈ X) (h2 : (b, e2) ∈ X) (hn : e1 ≠ e2) : a ≠ b := by
  intro q
  subst q
  have h := (va_D_iff.mp hV.2.1).1
  rw [bW_fst, List.nodup_append, List.nodup_append] at h
  have hx := h.2.1.2.1
  obtain ⟨i, hi⟩ := List.getElem?_of_mem h1
  obtain ⟨j, hj⟩ := List.getElem?_of_mem h2
  have hd : va_D (fun _ => True) X := va_D_iff.mpr ⟨hx, fun _ _ => trivial⟩
  have := hd.1 i j _ _ hi hj rfl
  subst this
  rw [hi] at hj
  exact hn (congrArg Prod.snd (Option.some.inj hj))
/-- a field of another cell -/
theorem x_get (E : CallFix p m c cc nL s args (c0 :: w0c) own) (hK : va_K (dC, dI) ccl (cty cx) s) (hV : cV dC dI cx LB A H0 ll0 X dd nn ss ll gg H locs) {a ci : Nat} {fs : List Value} {C : String} {T : u_T} {N : Nat} (hc : ccl[ci]? = some (C, T, N)) (hin : ∀ w ∈ u_ws C T N, w ∈ w0c) (hx : (a, (.inr (ci, fs) : va_E)) ∈ X) (k : Nat) (hk : k < N) {v : Value} (hv : fs[k]? = some v) (hlink : Cond.fieldLink own index C (T k).2.1 (T k).2.2.1 ∈ w0c) (ho : (T k).1 = C) (hd : decode cc pc = .ok (.getfield index, 3)) (kk : W p l e R s m args below meth c H locs cells slots Q (F0 m (pc + 3) ls (v :: rest))) : W p l e R s m args below meth c H locs cells slots Q (F0 m pc ls (.ref a :: rest)) := by
  obtain ⟨q, hq⟩ := List.getElem?_of_mem (bW_x (cI := cx 0) (LB := LB) (dd := dd) (nn := nn) (ss := ss) (ll := ll) (gg := gg) hx)
  exact va_get (D := (dC, dI)) (ci := ci) (C := C) (T := T) (N := N) E.1 E.2.1 E.2.2.2.2 (fun w h => List.mem_cons_of_mem _ (hin w h)) E.2.2.2.1 hK hV.1 q hq hc k hk (E.2.2.2.2 _ (List.mem_cons_of_mem _ hlink)) (by rw [ho]; exact fun _ h9 => h9) hv hd kk
/-- an int field of another cell made anew: X' is X but for that cell -/
theorem x_puti (E : CallFix p m c cc nL s args (c0 :: w0c) own) (hK : va_K (dC, dI) ccl (cty cx) s) (hV : cV dC dI cx LB A H0 ll0 X dd nn ss ll gg H locs) {a ci : Nat} {fs : List Value} {C : String} {T : u_T} {N : Nat} {ty : Nat → FieldType} (hc : ccl[ci]? = some (C, T, N)) (hin : ∀ w ∈ u_ws C T N, w ∈ w0c) (hty : ∀ k, k < N → parseFieldDescriptor (T k).2.2.1 = some (ty k)) (hnm : ∀ a, a < N → ∀ b, b < N → a ≠ b → (T a).2.1 ≠ (T b).2.1) (hx : (a, (.inr (ci, fs) : va_E)) ∈ X) (k : Nat) (hk : k < N) {v : Int} (hl : k < fs.length) (hdesc : parseFieldDescriptor (T k).2.2.1 = some .int) (hfin : (T k).2.2.2 = false) (hlink : Cond.fieldLink own index C (T k).2.1 (T k).2.2.1 ∈ w0c) (ho : (T k).1 = C) {X' : va_W} (hm : X'.map Prod.fst = X.map Prod.fst) (hw : ∀ q ∈ X', q = (a, .inr (ci, fs.set k (Iz v))) ∨ q ∈ X ∧ q.1 ≠ a) (hd : decode cc pc = .ok (.putfield index, 3)) (kk : ∀ (H1 : Heap) (locs1 : List Loc), cV dC dI cx LB A H0 ll0 X' dd nn ss ll gg H1 locs1 → W p l e R s m args below meth c H1 locs1 cells slots Q (F0 m (pc + 3) ls rest)) : W p l e R s m args below meth c H locs cells slots Q (F0 m pc ls (Iz v :: .ref a :: rest)) := by
  obtain ⟨q, hq⟩ := List.getElem?_of_mem (bW_x (cI := cx 0) (LB := LB) (dd := dd) (nn := nn) (ss := ss) (ll := ll) (gg := gg) hx)
  refine va_put (D := (dC, dI)) (ci := ci) (C := C) (T := T) (N := N) (v := Iz v) (ty := .int) E.1 E.2.1 E.2.2.2.2 (fun w h => List.mem_cons_of_mem _ (hin w h)) ty hty hnm E.2.2.2.1 hK hV.1 hV.2.1 hV.2.2.1 q hq hc k hk (E.2.2.2.2 _ (List.mem_cons_of_mem _ hlink)) (by rw [ho]; exact fun _ h9 => h9) hfin hdesc rfl rfl hl hd (fun H1 locs1 q1 q2 q3 => ?_)
  obtain ⟨p1, p2⟩ := bW_putX (X' := X') hq q1 hV.2.1 hx hm hw
  exact kk H1 locs1 ⟨p1, p2, q3, hV.2.2.2⟩
/-- an entry of a row of references -/
theorem x_aald (hx : p.tables.exec = Jvm.exec) (hc : c.code = cc) (hK : va_K (dC, dI) ccl (cty cx) s) (hV : cV dC dI cx LB A H0 ll0 X dd nn ss ll gg H locs) {a t0 n : Nat} {cA : ClassId} {C : String} {f : Nat → Option Nat} (ht : (cty cx)[t0]? = some (cA, .object C)) (hm : (a, (.inl (cA, n, .inr (.inr (.inr (.inr f)))) : va_E)) ∈ X) {z : Int} (h0 : 0 ≤ z) (h1 : z < n) (hn : n ≤ 2147483648) {v : Value} (hv : va_rf (f z.toNat) = v) (hd : decode cc pc = .ok (.aaload, 1)) (kk : W p l e R s m args below meth c H locs cells slots Q (F0 m (pc + 1) ls (v :: rest))) : W p l e R s m args below meth c H locs cells slots Q (F0 m pc ls (Iz z :: .ref a :: rest)) := by
  obtain ⟨q, hq⟩ := List.getElem?_of_mem (bW_x (cI := cx 0) (LB := LB) (dd := dd) (nn := nn) (ss := ss) (ll := ll) (gg := gg) hm)
  refine va_aldq hx hc hK hV.1 q t0 hq ht (g_in h0 h1 hn) hd ?_
  rw [g_nat h0 (by omega), hv]
  exact kk
theorem y_getdeg (E : CallFix p m c cc nL s args (c0 :: w0c) own) (hK : va_K (dC, dI) ccl (cty cx) s) (hV : cV dC dI cx LB A H0 ll0 (pW cx LP pc_ pd co X) dd nn ss ll gg H locs) (hb : b ∈ LP) {v : Int} (he : pd b = v) (hlink : Cond.fieldLink own index RX4 "deg" "I" ∈ w0c) (hd : decode cc pc = .ok (.getfield index, 3)) (kk : W p l e R s m args below meth c H locs cells slots Q (F0 m (pc + 3) ls (Iz v :: rest))) : W p l e R s m args below meth c H locs cells slots Q (F0 m pc ls (.ref b :: rest)) :=
  x_get E hK hV (ci := 4) (C := RX4) (T := TX4) (N := 2) rfl w0c_in4 (pW_o hb) 1 (by decide) rfl hlink rfl hd (by rw [he]; exact kk)
theorem y_getc (E : CallFix p m c cc nL s args (c0 :: w0c) own) (hK : va_K (dC, dI) ccl (cty cx) s) (hV : cV dC dI cx LB A H0 ll0 (pW cx LP pc_ pd co X) dd nn ss ll gg H locs) (hb : b ∈ LP) (hlink : Cond.fieldLink own index RX4 "c" "[LAlgebraicReals$Big;" ∈ w0c) (hd : decode cc pc = .ok (.getfield index, 3)) (kk : W p l e R s m args below meth c H locs cells slots Q (F0 m (pc + 3) ls (.ref (pc_ b) :: rest))) : W p l e R s m args below meth c H locs cells slots Q (F0 m pc ls (.ref b :: rest)) :=
  x_get E hK hV (ci := 4) (C := RX4) (T := TX4) (N := 2) rfl w0c_in4 (pW_o hb) 0 (by decide) rfl hlink rfl hd kk
theorem y_aald (hx : p.tables.exec = Jvm.exec) (hc : c.code = cc) (hK : va_K (dC, dI) ccl (cty cx) s) (hV : cV dC dI cx LB A H0 ll0 (pW cx LP pc_ pd co X) dd nn ss ll gg H locs) (hb : b ∈ LP) {z : Int} (h0 : 0 ≤ z) (h1 : z < 13) (hd : decode cc pc = .ok (.aaload, 1)) (kk : W p l e R s m args below meth c H locs cells slots Q (F0 m (pc + 1) ls (.ref (co b z.toNat) :: rest))) : W p l e R s m args below meth c H locs cells slots Q (F0 m pc ls (Iz z :: .ref (pc_ b) :: rest)) :=
  x_aald hx hc hK hV (t0 := 2) rfl (pW_c hb) h0 h1 (by decide) rfl hd kk
theorem y_putdeg (E : CallFix p m c cc nL s args (c0 :: w0c) own) (hK : va_K (dC, dI) ccl (cty cx) s) (hV : cV dC dI cx LB A H0 ll0 (pW cx LP pc_ pd co X) dd nn ss ll gg H locs) (hb : b ∈ LP) {v : Int} {pf : Nat → Int} (he : va_up pd b v = pf) (hlink : Cond.fieldLink own index RX4 "deg" "I" ∈ w0c) (hd : decode cc pc = .ok (.putfield index, 3)) (kk : ∀ (H1 : Heap) (locs1 : List Loc), cV dC dI cx LB A H0 ll0 (pW cx LP pc_ pf co X) dd nn ss ll gg H1 locs1 → W p l e R s m args below meth c H1 locs1 cells slots Q (F0 m (pc + 3) ls rest)) : W p l e R s m args below meth c H locs cells slots Q (F0 m pc ls (Iz v :: .ref b :: rest)) := by
  subst he
  have hD := (va_D_iff.mp hV.2.1).1
  rw [bW_fst, List.nodup_append, List.nodup_append, pW_fst, List.nodup_append, List.nodup_append] at hD
  obtain ⟨-, ⟨-, ⟨hp, ⟨hp1, hp2, hp3⟩, hp4⟩, -⟩, -⟩ := hD
  refine x_puti E hK hV (ci := 4) (C := RX4) (T := TX4) (N := 2) (ty := tyX4) rfl w0c_in4 tyX4_ok nmX4 (pW_o hb) 1 (by decide) (Nat.le_of_ble_eq_true rfl) (by decide +kernel) rfl hlink rfl (X' := pW cx LP pc_ (va_up pd b v) co X) (by rw [pW_fst, pW_fst]) (fun q hq => ?_) hd kk
  rcases pW_cases hq with ⟨x, hx, rfl⟩ | ⟨x, hx, rfl⟩ | h
  · by_cases w : x = b
    · subst w; rw [va_up_self]; exact Or.inl rfl
    · rw [va_up_ne _ _ w]; exact Or.inr ⟨pW_o hx, w⟩
  · exact Or.inr ⟨pW_c hx, fun z => hp4 b hb (pc_ x) (List.mem_append_left _ (List.mem_map_of_mem hx)) z.symm⟩
  · exact Or.inr ⟨pW_x h, fun z => hp4 b hb q.1 (List.mem_append_right _ (List.mem_map_of_mem h)) z.symm⟩
theorem y_recv (hK : va_K (dC, dI) ccl (cty cx) s) (hV : cV dC dI cx LB A H0 ll0 (pW cx LP pc_ pd co X) dd nn ss ll gg H locs) (hb : b ∈ LP) : ∃ cell : Cell, H[b]? = some cell ∧ cell.vm.isStatics = false ∧ s.vm.findClass RX4 = some cell.cls := x_recv (q := (RX4, TX4, 2)) hK hV (ci := 4) rfl (pW_o hb)
theorem r_loop2 {P : Nat → Nat → Nat → Heap → List Loc → Array Slot → Prop} {g : Array Slot → JFrame} (step : ∀ (n ce sl : Nat) (H : Heap) (locs : List Loc) (ls : Array Slot), P n ce sl H locs ls → (∀ n' : Nat, n' < n → ∀ (ce' sl' : Nat) (H' : Heap) (locs' : List Loc) (ls' : Array Slot), P n' ce' sl' H' locs' ls' → W p l e R s m args below meth c H' locs' ce' sl' Q (g ls')) → W p l e R s m args below meth c H locs ce sl Q (g ls)) : ∀ (n ce sl : Nat) (H : Heap) (locs : List Loc) (ls : Array Slot), P n ce sl H locs ls → W p l e R s m args below meth c H locs ce sl Q (g ls) := by
  intro n
  induction n using Nat.strongRecOn with
  | _ n ih => exact fun ce sl H locs ls h => step n ce sl H locs ls h (fun n' hn' => ih n' hn')
end CPoly
/-- the polynomials' numbers: each its own -/
def pOK (LB LP : List Nat) (co : Nat → Nat → Nat) : Prop := (∀ p ∈ LP, ∀ i : Nat, i < 13 → co p i ∈ LB) ∧ ∀ p ∈ LP, ∀ p' ∈ LP, ∀ i i' : Nat, i < 13 → i' < 13 → co p i = co p' i' → p = p' ∧ i = i'
