section CTexts
variable {p : Program} {l : Launch} {e : Env} {R : Room} {s : State} {m : MethodId} {args : Array Value} {below : List Frame} {meth : Method} {c : Code} {H : Heap} {locs : List Loc} {cells slots : Nat} {Q : State → Prop}
variable {cc : ByteArray} {pc nL : Nat} {ls : Array Slot} {rest : List Value} {dC : Nat → ClassId} {dI : Nat → Nat → Nat} {cx : Nat → Nat} {LB : List Nat} {A : Nat → Prop} {H0 : Heap} {ll0 : Nat → Nat} {X : va_W} {dd : Nat → Nat} {nn ss : Nat → Int} {ll : Nat → Nat} {gg : Nat → Int → Int} {c0 : Cond} {own : String} {a index : Nat}
variable {LP : List Nat} {pc_ : Nat → Nat} {pd : Nat → Int} {co : Nat → Nat → Nat} {k1 n1 K N : Nat}
/-- an entry of a row of ints set -/
theorem y_iast3 (hx : p.tables.exec = Jvm.exec) (hc : c.code = cc) (hK : va_K (dC, dI) ccl (cty cx) s) (hV : cV dC dI cx LB A H0 ll0 (pW cx LP pc_ pd co X) dd nn ss ll gg H locs) {a n : Nat} {f : Int → Int} (hm : (a, (.inl (cx 0, n, .inl (im f)) : va_E)) ∈ X) {z v : Int} (h0 : 0 ≤ z) (h1 : z < n) (hn : n ≤ 2147483648) (hd : decode cc pc = .ok (.iastore, 1)) (kk : ∀ (H1 : Heap) (locs1 : List Loc) (X3 : va_W), (a, (.inl (cx 0, n, .inl (im (iup f z v))) : va_E)) ∈ X3 → (∀ q ∈ X, q.1 ≠ a → q ∈ X3) → cV dC dI cx LB A H0 ll0 (pW cx LP pc_ pd co X3) dd nn ss ll gg H1 locs1 → W p l e R s m args below meth c H1 locs1 cells slots Q (F0 m (pc + 1) ls rest)) : W p l e R s m args below meth c H locs cells slots Q (F0 m pc ls (Iz v :: Iz z :: .ref a :: rest)) := by
  obtain ⟨q, hq⟩ := List.getElem?_of_mem (bW_x (cI := cx 0) (LB := LB) (dd := dd) (nn := nn) (ss := ss) (ll := ll) (gg := gg) (pW_x (cx := cx) (LP := LP) (pc_ := pc_) (pd := pd) (co := co) hm))
  refine g_iast hx hc hK hV.1 hV.2.1 hV.2.2.1 q 0 hq rfl h0 h1 hn hd (fun H1 locs1 q1 q2 q3 => ?_)
  obtain ⟨p1, p2⟩ := bW_putX (X' := pW cx LP pc_ pd co (wup X a (.inl (cx 0, n, .inl (im (iup f z v)))))) hq q1 hV.2.1 (pW_x hm) (by rw [pW_fst, pW_fst, wup_fst]) (pW_wup hV.2.1 hm)
  exact kk H1 locs1 _ (wup_self hm) (fun _ hq hne => wup_ne hq hne) ⟨p1, p2, q3, hV.2.2.2⟩
theorem iz_all {P : Value → Prop} (h : ∀ z : Int, P (Iz z)) (v : Int32) : P (.int v) := by
  have t := h v.toInt
  rwa [show Iz v.toInt = .int v from congrArg Value.int (Int32.ofInt_toInt v)] at t
/-- a shift of any int -/
theorem g_iushrX (hx : p.tables.exec = Jvm.exec) (hb : c.code = cc) {x y : Int} (hd : decode cc pc = .ok (.iushr, 1)) (k : ∀ z : Int, W p l e R s m args below meth c H locs cells slots Q (F0 m (pc + 1) ls (Iz z :: rest))) : W p l e R s m args below meth c H locs cells slots Q (F0 m pc ls (Iz y :: Iz x :: rest)) :=
  lv_iushr hx hb hd rfl (iz_all (P := fun v => W p l e R s m args below meth c H locs cells slots Q (F0 m (pc + 1) ls (v :: rest))) k _)
theorem e_zret (hx : p.tables.exec = Jvm.exec) (hb : c.code = cc) (hr : meth.sig.returnType = some .boolean) {P : Int → va_W → (Nat → Nat) → (Nat → Int) → (Nat → Int) → (Nat → Nat) → (Nat → Int → Int) → Prop} (hK : va_K (dC, dI) ccl (cty cx) s) (hV : cV dC dI cx LB A s.heap ll0 X dd nn ss ll gg H locs) (hkn : k1 ≤ K ∧ n1 ≤ N) {z : Int} (hn : narrow .boolean (.int (Int32.ofInt z)) = .int (Int32.ofInt z)) (hp : P z X dd nn ss ll gg) (hd : decode cc pc = .ok (.ireturn, 1)) (hlocks : meth.locks = false) : W p l e R s m args below meth c H locs (cP LB ll - cP LB ll0 + k1) (2 * (cP LB ll - cP LB ll0) + n1) (MQ below (eQi dC dI cx LB A ll0 s.heap K N P) args s (cMc LB ll0 + K) (2 * cMc LB ll0 + N) A) (F0 m pc ls [Iz z]) := by
  refine W.know fun hG => ?_
  have h1 := cV_bd hV
  refine W.widen (k := cMc LB ll0 + K) (n := 2 * cMc LB ll0 + N) (by unfold cMc; omega) (by unfold cMc; omega) ?_
  exact W.zret (v := Int32.ofInt z) hx hb hr hn (fun t ht hW => ⟨⟨_, (X, dd, nn, ss, ll, gg), rfl, ⟨z, rfl, hp⟩, e_end hK hV hG hkn ht hW⟩, hV.2.2.1.F ht⟩) hV.2.2.1.2.2 hd hlocks
end CTexts
