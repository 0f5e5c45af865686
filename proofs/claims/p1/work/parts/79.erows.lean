section CERows
variable {p : Program} {l : Launch} {e : Env} {R : Room} {s : State} {m : MethodId} {args : Array Value} {below : List Frame} {meth : Method} {c : Code} {H : Heap} {locs : List Loc} {cells slots : Nat} {Q : State → Prop}
variable {cc : ByteArray} {pc nL : Nat} {ls : Array Slot} {rest : List Value} {dC : Nat → ClassId} {dI : Nat → Nat → Nat} {cx : Nat → Nat} {LB : List Nat} {A : Nat → Prop} {H0 : Heap} {ll0 : Nat → Nat} {X : va_W} {dd : Nat → Nat} {nn ss : Nat → Int} {ll : Nat → Nat} {gg : Nat → Int → Int} {c0 : Cond} {own : String} {a index : Nat}
variable {LP : List Nat} {pc_ : Nat → Nat} {pd : Nat → Int} {co : Nat → Nat → Nat}
theorem pW_wup {B : Nat → Prop} (hD : va_D B (bW (cx 0) LB dd nn ss ll gg (pW cx LP pc_ pd co X))) {e1 e2 : va_E} (hx : (a, e1) ∈ X) : ∀ q ∈ pW cx LP pc_ pd co (wup X a e2), q = (a, e2) ∨ q ∈ pW cx LP pc_ pd co X ∧ q.1 ≠ a := fun q hq => by
  have hD := (va_D_iff.mp hD).1
  rw [bW_fst, List.nodup_append, List.nodup_append, pW_fst, List.nodup_append, List.nodup_append] at hD
  obtain ⟨-, ⟨-, ⟨hp, ⟨hp1, hp2, hp3⟩, hp4⟩, -⟩, -⟩ := hD
  have ha : a ∈ X.map Prod.fst := List.mem_map_of_mem (f := Prod.fst) hx
  rcases pW_cases hq with ⟨x, hx', rfl⟩ | ⟨x, hx', rfl⟩ | h
  · exact Or.inr ⟨pW_o hx', fun z => hp4 x hx' a (List.mem_append_right _ ha) z⟩
  · exact Or.inr ⟨pW_c hx', fun z => hp3 (pc_ x) (List.mem_map_of_mem hx') a ha z⟩
  · rcases wup_cases h with h | ⟨h1, h2⟩
    · exact Or.inl h
    · exact Or.inr ⟨pW_x h1, h2⟩
/-- a field of an object, of any kind; all else told by what stays -/
theorem y_putV3 (E : CallFix p m c cc nL s args (c0 :: w0c) own) (hK : va_K (dC, dI) ccl (cty cx) s) (hV : cV dC dI cx LB A H0 ll0 (pW cx LP pc_ pd co X) dd nn ss ll gg H locs) {ci : Nat} {fs : List Value} {C : String} {T : u_T} {N : Nat} {ty : Nat → FieldType} (hc : ccl[ci]? = some (C, T, N)) (hin : ∀ w ∈ u_ws C T N, w ∈ w0c) (hty : ∀ k, k < N → parseFieldDescriptor (T k).2.2.1 = some (ty k)) (hnm : ∀ a, a < N → ∀ b, b < N → a ≠ b → (T a).2.1 ≠ (T b).2.1) (hx : (a, (.inr (ci, fs) : va_E)) ∈ X) (k : Nat) (hk : k < N) {v : Value} (hl : k < fs.length) (hfin : (T k).2.2.2 = false) (hlink : Cond.fieldLink own index C (T k).2.1 (T k).2.2.1 ∈ w0c) (ho : (T k).1 = C) (hn : narrow (ty k) v = v) (hfit : fits (ty k) v = true) (hd : decode cc pc = .ok (.putfield index, 3)) (kk : ∀ (H1 : Heap) (locs1 : List Loc) (X3 : va_W), (a, (.inr (ci, fs.set k v) : va_E)) ∈ X3 → (∀ q ∈ X, q.1 ≠ a → q ∈ X3) → cV dC dI cx LB A H0 ll0 (pW cx LP pc_ pd co X3) dd nn ss ll gg H1 locs1 → W p l e R s m args below meth c H1 locs1 cells slots Q (F0 m (pc + 3) ls rest)) : W p l e R s m args below meth c H locs cells slots Q (F0 m pc ls (v :: .ref a :: rest)) := by
  obtain ⟨q, hq⟩ := List.getElem?_of_mem (bW_x (cI := cx 0) (LB := LB) (dd := dd) (nn := nn) (ss := ss) (ll := ll) (gg := gg) (pW_x (cx := cx) (LP := LP) (pc_ := pc_) (pd := pd) (co := co) hx))
  refine va_put (D := (dC, dI)) (ci := ci) (C := C) (T := T) (N := N) (ty := ty k) E.1 E.2.1 E.2.2.2.2 (fun w h => List.mem_cons_of_mem _ (hin w h)) ty hty hnm E.2.2.2.1 hK hV.1 hV.2.1 hV.2.2.1 q hq hc k hk (E.2.2.2.2 _ (List.mem_cons_of_mem _ hlink)) (by rw [ho]; exact fun _ h9 => h9) hfin (hty k hk) hn hfit hl hd (fun H1 locs1 q1 q2 q3 => ?_)
  obtain ⟨p1, p2⟩ := bW_putX (X' := pW cx LP pc_ pd co (wup X a (.inr (ci, fs.set k v)))) hq q1 hV.2.1 (pW_x hx) (by rw [pW_fst, pW_fst, wup_fst]) (pW_wup hV.2.1 hx)
  exact kk H1 locs1 _ (wup_self hx) (fun _ hq hne => wup_ne hq hne) ⟨p1, p2, q3, hV.2.2.2⟩
/-- an entry of a row of references set -/
theorem y_astq3 (hx : p.tables.exec = Jvm.exec) (hc : c.code = cc) (hK : va_K (dC, dI) ccl (cty cx) s) (hV : cV dC dI cx LB A H0 ll0 (pW cx LP pc_ pd co X) dd nn ss ll gg H locs) {t0 ci n v : Nat} {cA : ClassId} {r : vw_C} {vs : List Value} {f : Nat → Option Nat} (ha : (a, (.inl (cA, n, .inr (.inr (.inr (.inr f)))) : va_E)) ∈ X) (ht : (cty cx)[t0]? = some (cA, .object r.1)) (hv : (v, (.inr (ci, vs) : va_E)) ∈ pW cx LP pc_ pd co X) (hcc : ccl[ci]? = some r) {z : Int} (h0 : 0 ≤ z) (h1 : z < n) (hn : n ≤ 2147483648) (hd : decode cc pc = .ok (.aastore, 1))
    (kk : ∀ (H1 : Heap) (locs1 : List Loc) (X3 : va_W), (a, (.inl (cA, n, .inr (.inr (.inr (.inr (va_up f z.toNat (some v)))))) : va_E)) ∈ X3 → (∀ q ∈ X, q.1 ≠ a → q ∈ X3) → cV dC dI cx LB A H0 ll0 (pW cx LP pc_ pd co X3) dd nn ss ll gg H1 locs1 → W p l e R s m args below meth c H1 locs1 cells slots Q (F0 m (pc + 1) ls rest)) : W p l e R s m args below meth c H locs cells slots Q (F0 m pc ls (.ref v :: Iz z :: .ref a :: rest)) := by
  obtain ⟨q, hq⟩ := List.getElem?_of_mem (bW_x (cI := cx 0) (LB := LB) (dd := dd) (nn := nn) (ss := ss) (ll := ll) (gg := gg) (pW_x (cx := cx) (LP := LP) (pc_ := pc_) (pd := pd) (co := co) ha))
  obtain ⟨qk, hqk⟩ := List.getElem?_of_mem (bW_x (cI := cx 0) (LB := LB) (dd := dd) (nn := nn) (ss := ss) (ll := ll) (gg := gg) hv)
  refine va_astq (D := (dC, dI)) hx hc hK hV.1 hV.2.1 hV.2.2.1 q t0 qk ci hq ht hqk hcc (g_in h0 h1 hn) hd (fun H1 locs1 q1 q2 q3 => ?_)
  rw [g_nat h0 (by omega)] at q1
  obtain ⟨p1, p2⟩ := bW_putX (X' := pW cx LP pc_ pd co (wup X a (.inl (cA, n, .inr (.inr (.inr (.inr (va_up f z.toNat (some v))))))))) hq q1 hV.2.1 (pW_x ha) (by rw [pW_fst, pW_fst, wup_fst]) (pW_wup hV.2.1 ha)
  exact kk H1 locs1 _ (wup_self ha) (fun _ hq hne => wup_ne hq hne) ⟨p1, p2, q3, hV.2.2.2⟩
theorem ap_end {x : Nat × va_E} : bW (cx 0) LB dd nn ss ll gg (pW cx LP pc_ pd co (X ++ [x])) = bW (cx 0) LB dd nn ss ll gg (pW cx LP pc_ pd co X) ++ [x] := by
  unfold bW pW
  rw [List.append_assoc, List.append_assoc, List.append_assoc, List.append_assoc]
/-- a new object, told last -/
theorem y_newo (E : CallFix p m c cc nL s args (c0 :: w0c) own) (hK : va_K (dC, dI) ccl (cty cx) s) (hV : cV dC dI cx LB A s.heap ll0 (pW cx LP pc_ pd co X) dd nn ss ll gg H locs) (hA : ∀ q, s.heap.size ≤ q → A q) {ci : Nat} {C : String} {T : u_T} {N : Nat} {ty : Nat → FieldType} (hc : ccl[ci]? = some (C, T, N)) (hin : ∀ w ∈ u_ws C T N, w ∈ w0c) (hty : ∀ k, k < N → parseFieldDescriptor (T k).2.2.1 = some (ty k)) (hcl : Cond.classLink own index C ∈ w0c) (hinst : Cond.instantiable C N ∈ w0c) (hini : Cond.initialized C ∈ w0c) {fs : List Value} (hfs : ∀ j, j < N → defaultValue (ty j) = vp_V fs j) (hcells : cells + 1 ≤ R.cells) (hslots : slots + N ≤ R.slots) (hd : decode cc pc = .ok (.new index, 3))
    (kk : ∀ (q : Nat) (H1 : Heap), cV dC dI cx LB A s.heap ll0 (pW cx LP pc_ pd co (X ++ [(q, .inr (ci, fs))])) dd nn ss ll gg H1 locs → W p l e R s m args below meth c H1 locs (cells + 1) (slots + N) Q (F0 m (pc + 3) ls (.ref q :: rest))) : W p l e R s m args below meth c H locs cells slots Q (F0 m pc ls rest) :=
  va_new (D := (dC, dI)) E.1 E.2.1 E.2.2.2.2 (fun w h => List.mem_cons_of_mem _ (hin w h)) ty hty E.2.2.2.1 (E.2.2.2.2 _ (List.mem_cons_of_mem _ hcl)) (E.2.2.2.2 _ (List.mem_cons_of_mem _ hinst)) (E.2.2.2.2 _ (List.mem_cons_of_mem _ hini)) hK hV.1 hV.2.1 hV.2.2.1 hA hc hfs hcells hslots hd (fun q H1 h1 h2 h3 => kk q H1 ⟨by rw [ap_end]; exact h1, by rw [ap_end]; exact h2, h3, hV.2.2.2⟩)
/-- a constructor called on an object just made, of which nothing is told any more -/
theorem y_callN (E : CallFix p m c cc nL s args (c0 :: w0c) own) {y : MethodName} {bytes : ByteArray} {maxL n f kl mc ms q : Nat} {e0 : va_E} {As : List Value} {P : List nQt → List (Nat × Nat) → va_W → Prop}
    (hM : Met l y (Cond.code y bytes maxL none :: w0c) (nRm f kl mc ms) (nPc dC dI cx q e0 H As) (nQv dC dI cx q e0 H P) mc ms (va_A [(q, e0)] H.size)) (cw : va_CN R s args own index y RX11 bytes maxL none (Cond.code y bytes maxL none :: w0c) (nRm f kl mc ms) mc ms n ∧ y.name = "<init>" ∧ (Cond.instanceMethod y).before args s = true)
    (hK : va_K (dC, dI) ccl (cty cx) s) (hC : CN s) (hV : cV dC dI cx LB A s.heap ll0 (pW cx LP pc_ pd co (X ++ [(q, e0)])) dd nn ss ll gg H locs) (hA : ∀ q, s.heap.size ≤ q → A q) (hn : As.length = n) (hl : ls.size = nL) (hW : (rest.map fun v => v.category).sum ≤ 8) (hd : decode cc pc = .ok (.invokespecial index, 3)) (hroom : cells + mc ≤ R.cells ∧ slots + ms ≤ R.slots)
    (kk : ∀ (H1 : Heap) (locs1 : List Loc), cV dC dI cx LB A s.heap ll0 (pW cx LP pc_ pd co X) dd nn ss ll gg H1 locs1 → W p l e R s m args below meth c H1 locs1 (cells + mc) (slots + ms) Q (F0 m (pc + 3) ls rest)) : W p l e R s m args below meth c H locs cells slots Q (F0 m pc ls (As.reverse ++ .ref q :: rest)) := by
  have hP0 := hV.1
  have hD0 := hV.2.1
  rw [ap_end] at hP0 hD0
  have nd := (va_D_iff.mp hD0).1
  rw [List.map_append, List.nodup_append] at nd
  have hlast : va_P (dC, dI) ccl [(q, e0)] H := va_P_iff.mpr fun x hx => va_P_iff.mp hP0 x (List.mem_append_right _ hx)
  have hfree : ∀ x, va_A [(q, e0)] H.size x → A x := fun x w => by
    rcases w with ⟨k, ee, hk⟩ | w
    · have := List.mem_of_getElem? hk
      rw [List.mem_singleton] at this
      rw [show x = q from congrArg Prod.fst this]
      exact (va_D_iff.mp hD0).2 (q, e0) (List.mem_append_right _ List.mem_cons_self)
    · exact hA x (Nat.le_trans hV.2.2.1.1 w)
  refine va_callv (va_runIN (As := As) (rest := rest) E hM cw ⟨n_blind, fun U hU hW => ⟨rfl, hU, by rw [hU]; exact hlast, va_K.moved hW.alike hK, CN.moved hW hC⟩⟩ rfl hn hl rfl (lv_room hW) hd hroom) hV.2.2.1 (fun x _ h => hfree x h) hfree (fun u t H1 locs1 ht hvm hw hB hz1 hk1 hS1 => ?_)
  refine kk H1 locs1 ⟨va_P_iff.mpr fun x hx => (va_P_iff.mp hP0 x (List.mem_append_left _ hx)).kept (hk1 x.1 (va_P_iff.mp hP0 x (List.mem_append_left _ hx)).lt (fun w => ?_)), va_D_iff.mpr ⟨nd.1, fun x hx => (va_D_iff.mp hD0).2 x (List.mem_append_left _ hx)⟩, hS1, hV.2.2.2⟩
  rcases w with ⟨k, ee, hk⟩ | w
  · have := List.mem_of_getElem? hk
    rw [List.mem_singleton] at this
    exact nd.2.2 x.1 (List.mem_map_of_mem hx) q List.mem_cons_self (congrArg Prod.fst this)
  · have := (va_P_iff.mp hP0 x (List.mem_append_left _ hx)).lt; omega
end CERows
