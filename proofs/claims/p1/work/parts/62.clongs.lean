section CLongs
variable {p : Program} {l : Launch} {e : Env} {R : Room} {s : State} {m : MethodId} {args : Array Value} {below : List Frame} {meth : Method} {c : Code} {H : Heap} {locs : List Loc} {cells slots : Nat} {Q : State → Prop}
variable {cc : ByteArray} {pc nL : Nat} {ls : Array Slot} {rest : List Value} {dC : Nat → ClassId} {dI : Nat → Nat → Nat} {cx : Nat → Nat} {LB : List Nat} {A : Nat → Prop} {H0 : Heap} {ll0 : Nat → Nat} {X : va_W} {dd : Nat → Nat} {nn ss : Nat → Int} {ll : Nat → Nat} {gg : Nat → Int → Int} {c0 : Cond} {own : String} {b index : Nat}
variable {LP : List Nat} {pc_ : Nat → Nat} {pd : Nat → Int} {co : Nat → Nat → Nat}
/-- an entry of a row of longs -/
theorem y_lald (hx : p.tables.exec = Jvm.exec) (hc : c.code = cc) (hK : va_K (dC, dI) ccl (cty cx) s) (hV : cV dC dI cx LB A H0 ll0 (pW cx LP pc_ pd co X) dd nn ss ll gg H locs) {a n : Nat} {f : Int → Int} (hm : (a, (.inl (cx 1, n, .inr (.inl (jm f))) : va_E)) ∈ X) {z : Int} (h0 : 0 ≤ z) (h1 : z < n) (hn : n ≤ 2147483648) (hd : decode cc pc = .ok (.laload, 1)) (kk : W p l e R s m args below meth c H locs cells slots Q (F0 m (pc + 1) ls (Jz (f z) :: rest))) : W p l e R s m args below meth c H locs cells slots Q (F0 m pc ls (Iz z :: .ref a :: rest)) := by
  obtain ⟨q, hq⟩ := List.getElem?_of_mem (bW_x (cI := cx 0) (LB := LB) (dd := dd) (nn := nn) (ss := ss) (ll := ll) (gg := gg) (pW_x hm))
  exact g_lald hx hc hK hV.1 q 1 hq rfl h0 h1 hn hd kk
/-- a new entry of a row of longs -/
theorem y_last (hx : p.tables.exec = Jvm.exec) (hc : c.code = cc) (hK : va_K (dC, dI) ccl (cty cx) s) (hV : cV dC dI cx LB A H0 ll0 (pW cx LP pc_ pd co X) dd nn ss ll gg H locs) {a n : Nat} {f : Int → Int} (hm : (a, (.inl (cx 1, n, .inr (.inl (jm f))) : va_E)) ∈ X) {z v : Int} (h0 : 0 ≤ z) (h1 : z < n) (hn : n ≤ 2147483648) {X2 : va_W} (hX : wup X a (.inl (cx 1, n, .inr (.inl (jm (iup f z v))))) = X2) (hd : decode cc pc = .ok (.lastore, 1)) (kk : ∀ (H1 : Heap) (locs1 : List Loc), cV dC dI cx LB A H0 ll0 (pW cx LP pc_ pd co X2) dd nn ss ll gg H1 locs1 → W p l e R s m args below meth c H1 locs1 cells slots Q (F0 m (pc + 1) ls rest)) : W p l e R s m args below meth c H locs cells slots Q (F0 m pc ls (Jz v :: Iz z :: .ref a :: rest)) := by
  subst hX
  have hD := (va_D_iff.mp hV.2.1).1
  rw [bW_fst, List.nodup_append, List.nodup_append, pW_fst, List.nodup_append, List.nodup_append] at hD
  obtain ⟨-, ⟨-, ⟨hp, ⟨hp1, hp2, hp3⟩, hp4⟩, -⟩, -⟩ := hD
  obtain ⟨q, hq⟩ := List.getElem?_of_mem (bW_x (cI := cx 0) (LB := LB) (dd := dd) (nn := nn) (ss := ss) (ll := ll) (gg := gg) (pW_x (cx := cx) (LP := LP) (pc_ := pc_) (pd := pd) (co := co) hm))
  refine g_last hx hc hK hV.1 hV.2.1 hV.2.2.1 q 1 hq rfl h0 h1 hn hd (fun H1 locs1 q1 q2 q3 => ?_)
  obtain ⟨p1, p2⟩ := bW_putX (X' := pW cx LP pc_ pd co (wup X a (.inl (cx 1, n, .inr (.inl (jm (iup f z v))))))) hq q1 hV.2.1 (pW_x hm) (by rw [pW_fst, pW_fst, wup_fst]) (fun q hq => by
    have ha : a ∈ X.map Prod.fst := List.mem_map_of_mem (f := Prod.fst) hm
    rcases pW_cases hq with ⟨x, hx', rfl⟩ | ⟨x, hx', rfl⟩ | h
    · exact Or.inr ⟨pW_o hx', fun z => hp4 x hx' a (List.mem_append_right _ ha) z⟩
    · exact Or.inr ⟨pW_c hx', fun z => hp3 (pc_ x) (List.mem_map_of_mem hx') a ha z⟩
    · rcases wup_cases h with h | ⟨h1, h2⟩
      · exact Or.inl h
      · exact Or.inr ⟨pW_x h1, h2⟩)
  exact kk H1 locs1 ⟨p1, p2, q3, hV.2.2.2⟩
end CLongs
