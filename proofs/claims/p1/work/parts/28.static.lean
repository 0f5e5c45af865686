section RStatic
variable {p : Program} {l : Launch} {e : Env} {R : Room} {s : State} {m : MethodId} {args : Array Value} {below : List Frame} {meth : Method} {c : Code} {H : Heap} {locs : List Loc} {cells slots : Nat} {Q : State → Prop}
variable {cc : ByteArray} {pc nL : Nat} {ls : Array Slot} {rest : List Value} {A : Nat → Prop} {H0 : Heap} {c0 : Cond}
/-- a static method that looks at no cell: an int, or a long -/
abbrev tPc (As : List Value) : Array Value → State → Prop := va_Pc As (fun _ => True)
abbrev tQi (P : Int → Prop) : Array Value → State → Outcome → State → Prop := va_Qi (fun (r : Int32) (_ : Unit) => ∃ z : Int, r = Int32.ofInt z ∧ P z) (fun _ _ => True) (fun _ => False)
abbrev tQl (P : Int → Prop) : Array Value → State → Outcome → State → Prop := va_Ql (fun (r : Int64) (_ : Unit) => ∃ z : Int, r = Int64.ofInt z ∧ P z) (fun _ _ => True) (fun _ => False)
theorem r_callsi (E : CallFix p m c cc nL s args (c0 :: w0r) RX12) {y : MethodName} {bytes : ByteArray} {maxL index n : Nat} {ret : Option FieldType} {rm : Room} {As : List Value} {P : Int → Prop} {B : Heap → Prop}
    (hM : Met l y (Cond.code y bytes maxL ret :: w0r) rm (tPc As) (tQi P) 0 0 (fun _ => False)) (cw : CallB R s args RX12 index y bytes maxL ret (Cond.code y bytes maxL ret :: w0r) rm 0 0 n ∧ (Cond.static y).before args s = true)
    (hB : ∀ H1 : Heap, (∀ q : Nat, q < H.size → H1[q]? = H[q]?) → B H1) (hS : va_S A H0 H locs) (hn : As.length = n) (hl : ls.size = nL) (hW : (rest.map fun v => v.category).sum ≤ 8) (hd : decode cc pc = .ok (.invokestatic index, 3)) (hf : cells + 0 ≤ R.cells ∧ slots + 0 ≤ R.slots)
    (kk : ∀ (z : Int) (H1 : Heap) (locs1 : List Loc), P z → B H1 → va_S A H0 H1 locs1 → W p l e R s m args below meth c H1 locs1 cells slots Q (F0 m (pc + 3) ls (Iz z :: rest))) : W p l e R s m args below meth c H locs cells slots Q (F0 m pc ls (As.reverse ++ rest)) := by
  refine va_calli (va_runS (As := As) (rest := rest) E hM cw ⟨fun a U g mk q => ⟨q.1, trivial⟩, fun U hU hW => ⟨rfl, trivial⟩⟩ rfl hn hl rfl (lv_room hW) hd hf) hS (fun q _ h => h.elim) (fun q h => h.elim) (fun r u t H1 locs1 ht hvm hw hB1 hz1 hk1 hS1 => ?_)
  obtain ⟨z, rfl, hp⟩ := hw
  exact kk z H1 locs1 hp (hB H1 (fun q hq => hk1 q hq (fun h => h))) hS1
theorem r_callsl (E : CallFix p m c cc nL s args (c0 :: w0r) RX12) {y : MethodName} {bytes : ByteArray} {maxL index n : Nat} {ret : Option FieldType} {rm : Room} {As : List Value} {P : Int → Prop} {B : Heap → Prop}
    (hM : Met l y (Cond.code y bytes maxL ret :: w0r) rm (tPc As) (tQl P) 0 0 (fun _ => False)) (cw : CallB R s args RX12 index y bytes maxL ret (Cond.code y bytes maxL ret :: w0r) rm 0 0 n ∧ (Cond.static y).before args s = true)
    (hB : ∀ H1 : Heap, (∀ q : Nat, q < H.size → H1[q]? = H[q]?) → B H1) (hS : va_S A H0 H locs) (hn : As.length = n) (hl : ls.size = nL) (hW : (rest.map fun v => v.category).sum ≤ 8) (hd : decode cc pc = .ok (.invokestatic index, 3)) (hf : cells + 0 ≤ R.cells ∧ slots + 0 ≤ R.slots)
    (kk : ∀ (z : Int) (H1 : Heap) (locs1 : List Loc), P z → B H1 → va_S A H0 H1 locs1 → W p l e R s m args below meth c H1 locs1 cells slots Q (F0 m (pc + 3) ls (Jz z :: rest))) : W p l e R s m args below meth c H locs cells slots Q (F0 m pc ls (As.reverse ++ rest)) := by
  refine va_calll (va_runS (As := As) (rest := rest) E hM cw ⟨fun a U g mk q => ⟨q.1, trivial⟩, fun U hU hW => ⟨rfl, trivial⟩⟩ rfl hn hl rfl (lv_room hW) hd hf) hS (fun q _ h => h.elim) (fun q h => h.elim) (fun r u t H1 locs1 ht hvm hw hB1 hz1 hk1 hS1 => ?_)
  obtain ⟨z, rfl, hp⟩ := hw
  exact kk z H1 locs1 hp (hB H1 (fun q hq => hk1 q hq (fun h => h))) hS1
theorem r_kept {dC : Nat → ClassId} {dI : Nat → Nat → Nat} {ws : va_W} (hP : va_P (dC, dI) rcl ws H) : ∀ H1 : Heap, (∀ q : Nat, q < H.size → H1[q]? = H[q]?) → va_P (dC, dI) rcl ws H1 := fun H1 h k q hq => (hP k q hq).kept (h _ (hP k q hq).lt)
end RStatic
