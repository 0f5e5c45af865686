section CObj
theorem wup_up {X : va_W} {a : Nat} {e e' : va_E} : wup (wup X a e) a e' = wup X a e' := by
  unfold wup
  rw [List.map_map]
  apply List.map_congr_left
  intro q _
  show (if (if q.1 = a then (a, e) else q).1 = a then (a, e') else (if q.1 = a then (a, e) else q)) = _
  by_cases w : q.1 = a
  · rw [if_pos w, if_pos rfl, if_pos w]
  · rw [if_neg w, if_neg w]
variable {p : Program} {l : Launch} {e : Env} {R : Room} {s : State} {m : MethodId} {args : Array Value} {below : List Frame} {meth : Method} {c : Code} {H : Heap} {locs : List Loc} {cells slots : Nat} {Q : State → Prop}
variable {cc : ByteArray} {pc nL : Nat} {ls : Array Slot} {rest : List Value} {dC : Nat → ClassId} {dI : Nat → Nat → Nat} {cx : Nat → Nat} {LB : List Nat} {A : Nat → Prop} {H0 : Heap} {ll0 : Nat → Nat} {X : va_W} {dd : Nat → Nat} {nn ss : Nat → Int} {ll : Nat → Nat} {gg : Nat → Int → Int} {c0 : Cond} {own : String} {b index : Nat}
variable {LP : List Nat} {pc_ : Nat → Nat} {pd : Nat → Int} {co : Nat → Nat → Nat}
theorem y_ne (hV : cV dC dI cx LB A H0 ll0 (pW cx LP pc_ pd co X) dd nn ss ll gg H locs) {a b : Nat} {e1 e2 : va_E} (h1 : (a, e1) ∈ X) (h2 : (b, e2) ∈ X) (hn : e1 ≠ e2) : a ≠ b := cV_ne hV (pW_x h1) (pW_x h2) hn
theorem y_puto (E : CallFix p m c cc nL s args (c0 :: w0c) own) (hK : va_K (dC, dI) ccl (cty cx) s) (hV : cV dC dI cx LB A H0 ll0 (pW cx LP pc_ pd co X) dd nn ss ll gg H locs) {a ci : Nat} {fs : List Value} {C : String} {T : u_T} {N : Nat} {ty : Nat → FieldType} (hc : ccl[ci]? = some (C, T, N)) (hin : ∀ w ∈ u_ws C T N, w ∈ w0c) (hty : ∀ k, k < N → parseFieldDescriptor (T k).2.2.1 = some (ty k)) (hnm : ∀ a, a < N → ∀ b, b < N → a ≠ b → (T a).2.1 ≠ (T b).2.1) (hx : (a, (.inr (ci, fs) : va_E)) ∈ X) (k : Nat) (hk : k < N) {v : Int} (hl : k < fs.length) (hdesc : parseFieldDescriptor (T k).2.2.1 = some .int) (hfin : (T k).2.2.2 = false) (hlink : Cond.fieldLink own index C (T k).2.1 (T k).2.2.1 ∈ w0c) (ho : (T k).1 = C) {X2 : va_W} (hX : wup X a (.inr (ci, fs.set k (Iz v))) = X2) (hd : decode cc pc = .ok (.putfield index, 3)) (kk : ∀ (H1 : Heap) (locs1 : List Loc), cV dC dI cx LB A H0 ll0 (pW cx LP pc_ pd co X2) dd nn ss ll gg H1 locs1 → W p l e R s m args below meth c H1 locs1 cells slots Q (F0 m (pc + 3) ls rest)) : W p l e R s m args below meth c H locs cells slots Q (F0 m pc ls (Iz v :: .ref a :: rest)) := by
  subst hX
  have hD := (va_D_iff.mp hV.2.1).1
  rw [bW_fst, List.nodup_append, List.nodup_append, pW_fst, List.nodup_append, List.nodup_append] at hD
  obtain ⟨-, ⟨-, ⟨hp, ⟨hp1, hp2, hp3⟩, hp4⟩, -⟩, -⟩ := hD
  refine x_puti E hK hV (ci := ci) (C := C) (T := T) (N := N) (ty := ty) hc hin hty hnm (pW_x hx) k hk hl hdesc hfin hlink ho (X' := pW cx LP pc_ pd co (wup X a (.inr (ci, fs.set k (Iz v))))) (by rw [pW_fst, pW_fst, wup_fst]) (fun q hq => ?_) hd kk
  have ha : a ∈ X.map Prod.fst := List.mem_map_of_mem (f := Prod.fst) hx
  rcases pW_cases hq with ⟨x, hx', rfl⟩ | ⟨x, hx', rfl⟩ | h
  · exact Or.inr ⟨pW_o hx', fun z => hp4 x hx' a (List.mem_append_right _ ha) z⟩
  · exact Or.inr ⟨pW_c hx', fun z => hp3 (pc_ x) (List.mem_map_of_mem hx') a ha z⟩
  · rcases wup_cases h with h | ⟨h1, h2⟩
    · exact Or.inl h
    · exact Or.inr ⟨pW_x h1, h2⟩
theorem y_aaldq (hx : p.tables.exec = Jvm.exec) (hc : c.code = cc) (hK : va_K (dC, dI) ccl (cty cx) s) (hV : cV dC dI cx LB A H0 ll0 (pW cx LP pc_ pd co X) dd nn ss ll gg H locs) {a t0 n : Nat} {cA : ClassId} {C : String} {f : Nat → Nat} (ht : (cty cx)[t0]? = some (cA, .object C)) (hm : (a, (.inl (cA, n, .inr (.inr (.inr (.inr (fun i => some (f i)))))) : va_E)) ∈ X) {z : Int} (h0 : 0 ≤ z) (h1 : z < n) (hn : n ≤ 2147483648) (hd : decode cc pc = .ok (.aaload, 1)) (kk : W p l e R s m args below meth c H locs cells slots Q (F0 m (pc + 1) ls (.ref (f z.toNat) :: rest))) : W p l e R s m args below meth c H locs cells slots Q (F0 m pc ls (Iz z :: .ref a :: rest)) :=
  x_aald hx hc hK hV ht (pW_x hm) h0 h1 hn rfl hd kk
theorem y_alen (hx : p.tables.exec = Jvm.exec) (hc : c.code = cc) (hK : va_K (dC, dI) ccl (cty cx) s) (hV : cV dC dI cx LB A H0 ll0 X dd nn ss ll gg H locs) {a t0 : Nat} {cA : ClassId} {x : vp_A} {ty : FieldType} (ht : (cty cx)[t0]? = some (cA, ty)) (hm : (a, (.inl (cA, x) : va_E)) ∈ X) (hd : decode cc pc = .ok (.arraylength, 1)) (kk : W p l e R s m args below meth c H locs cells slots Q (F0 m (pc + 1) ls (Iz (x.1 : Int) :: rest))) : W p l e R s m args below meth c H locs cells slots Q (F0 m pc ls (.ref a :: rest)) := by
  obtain ⟨q, hq⟩ := List.getElem?_of_mem (bW_x (cI := cx 0) (LB := LB) (dd := dd) (nn := nn) (ss := ss) (ll := ll) (gg := gg) hm)
  exact va_alen hx hc hK hV.1 q t0 hq ht (v := Int32.ofInt (x.1 : Int)) (by exact (Int32.ofInt_eq_ofNat).symm) hd kk
end CObj
/-- a list's entry, 0 behind its end -/
def lg (L : List Int) : Nat → Int := fun i => L.getD i 0
theorem lvStep_congr {G G' F F' : Nat → Int} {dg k df : Nat} (hk : dg + k ≤ df) (hF : ∀ i, i ≤ df → F i = F' i) (hG : ∀ i, i ≤ dg → G i = G' i) : ∀ i, i ≤ df → lvStep G dg k F i = lvStep G' dg k F' i := by
  intro i hi
  unfold lvStep
  rw [hF i hi, hG dg (Nat.le_refl _), hF (dg + k) hk]
  by_cases w : i < dg + k
  · rw [if_pos w, if_pos w]
    by_cases w2 : k ≤ i
    · rw [if_pos w2, if_pos w2, hG (i - k) (by omega)]
    · rw [if_neg w2, if_neg w2]
  · rw [if_neg w, if_neg w]
theorem lvP_congr {G G' F F' : Nat → Int} {dg sp df : Nat} (hk : dg + sp ≤ df) (hF : ∀ i, i ≤ df → F i = F' i) (hG : ∀ i, i ≤ dg → G i = G' i) : ∀ m i, i ≤ df → lvP G dg sp F m i = lvP G' dg sp F' m i
  | 0, i, hi => hF i hi
  | m + 1, i, hi => lvStep_congr (by omega) (fun j hj => lvP_congr hk hF hG m j hj) hG i hi
