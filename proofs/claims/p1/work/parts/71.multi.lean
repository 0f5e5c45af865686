section CMultiA
variable {E : CtlPost} {e : Env} {d : Bool} {acts : List Action} {s : State}
/-- a new array of default values, its class known -/
theorem nA_wp {c comp : ClassId} {k : Class} {ty : FieldType} {n : Nat} {Q : Addr → Pre} (hk : s.vm.classes[c]? = some k) (hkind : k.kind = .array comp ty) (hlimit : ¬ n > e.platform.arrayLengthLimit) (hheap : ¬ n * componentBytes ty > e.platform.maxHeapBytes) (h1 : s.heap.size < e.platform.maxCells) (h2 : s.slotsUsed + n ≤ e.platform.maxSlots)
    (hq : ∀ (d' : Bool) (acts' : List Action), Q s.heap.size d' acts' (s.pushCell { cls := c, slots := Array.replicate n (defaultValue ty), vm := .none })) : wp (Jvm.newArray c n (defaultValue ty)) Q E e d acts s := by
  have hfit : ∀ i v, (Array.replicate n (defaultValue ty))[i]? = some v → s.fitsSlot c .none i v = true := by
    intro i v hv
    simp only [Array.getElem?_replicate] at hv
    split at hv
    · cases hv; simp [State.fitsSlot, State.slotType?, hk, hkind, fits_default]
    · cases hv
  simp only [Jvm.newArray, Jvm.arrayFits, wp_bind', W.ask, hlimit, if_false, W.theClass, hk, hkind, hheap, W.alloc, W.stop, W.ite, wp_pure', Option.some.injEq, exists_eq_left', Array.size_replicate]
  rw [if_neg (by omega)]
  exact ⟨h1, h2, hfit, hq _ _⟩
end CMultiA
/-- behind j rows of a new grid of 13 rows of 13 longs -/
def mlC (T : State) (cA : ClassId) : Nat → Cell
  | 0 => { cls := cA, slots := Array.replicate 13 .null, vm := .none }
  | j + 1 => (mlC T cA j).setSlot j (.ref (T.heap.size + 1 + j))
def mlT (T : State) (cA cB : ClassId) : Nat → State
  | 0 => T.pushCell { cls := cA, slots := Array.replicate 13 (defaultValue (.array .long)), vm := .none }
  | j + 1 => ((mlT T cA cB j).pushCell { cls := cB, slots := Array.replicate 13 (defaultValue .long), vm := .none }).setCell T.heap.size (mlC T cA (j + 1))
def mlL (T : State) (locs : List Loc) : Nat → List Loc
  | 0 => locs
  | j + 1 => mlL T locs j ++ [⟨T.heap.size, j⟩]
theorem mlC_ok (T : State) (cA : ClassId) : ∀ j, (mlC T cA j).cls = cA ∧ (mlC T cA j).vm = .none ∧ (mlC T cA j).slots.size = 13
  | 0 => ⟨rfl, rfl, by show (Array.replicate 13 Value.null).size = 13; rw [Array.size_replicate]⟩
  | j + 1 => by
      obtain ⟨h1, h2, h3⟩ := mlC_ok T cA j
      refine ⟨h1, h2, ?_⟩
      show ((mlC T cA j).slots.setIfInBounds j _).size = 13
      rw [Array.size_setIfInBounds]; exact h3
theorem mlT_ok (T : State) (cA cB : ClassId) : ∀ j, (mlT T cA cB j).heap.size = T.heap.size + 1 + j ∧ (mlT T cA cB j).heap[T.heap.size]? = some (mlC T cA j) ∧ (∀ q : Nat, q < T.heap.size → (mlT T cA cB j).heap[q]? = T.heap[q]?) ∧ (mlT T cA cB j).vm = T.vm ∧ (mlT T cA cB j).slotsUsed = T.slotsUsed + 13 + 13 * j ∧ (mlT T cA cB j).topJava? = T.topJava?
  | 0 => by
      refine ⟨?_, ?_, fun q hq => ?_, rfl, ?_, rfl⟩
      · show (T.heap.push _).size = _; rw [Array.size_push]
      · show (T.heap.push _)[T.heap.size]? = _; rw [Array.getElem?_push_size]; rfl
      · show (T.heap.push _)[q]? = _; rw [Array.getElem?_push, if_neg (Nat.ne_of_lt hq)]
      · show T.slotsUsed + (Array.replicate 13 _).size = _; rw [Array.size_replicate]
  | j + 1 => by
      obtain ⟨h1, h2, h3, h4, h5, h6⟩ := mlT_ok T cA cB j
      refine ⟨?_, ?_, fun q hq => ?_, h4, ?_, h6⟩
      · show (((mlT T cA cB j).heap.push _).setIfInBounds _ _).size = _
        rw [Array.size_setIfInBounds, Array.size_push, h1]; omega
      · show (((mlT T cA cB j).heap.push _).setIfInBounds _ _)[T.heap.size]? = _
        rw [Array.getElem?_setIfInBounds_self_of_lt (by rw [Array.size_push, h1]; omega)]
      · show (((mlT T cA cB j).heap.push _).setIfInBounds _ _)[q]? = _
        rw [Array.getElem?_setIfInBounds_ne (by omega), Array.getElem?_push, if_neg (by omega)]
        exact h3 q hq
      · show (mlT T cA cB j).slotsUsed + (Array.replicate 13 _).size = _
        rw [Array.size_replicate, h5]; omega
section CMultiB
variable {p : Program} {l : Launch} {e : Env} {R : Room} {s : State} {m : MethodId} {args : Array Value} {below : List Frame} {meth : Method} {c : Code} {locs : List Loc} {cells slots : Nat}
theorem mlT_stand {T : State} {cA cB : ClassId} (X : Stand p l e R s m args below meth c T locs cells slots) : ∀ j, Stand p l e R s m args below meth c (mlT T cA cB j) (mlL T locs j) (cells + 1 + j) (slots + 13 + 13 * j)
  | 0 => by
      have h := X.pushed { cls := cA, slots := Array.replicate 13 (defaultValue (.array .long)), vm := .none }
      rw [Array.size_replicate] at h
      exact h
  | j + 1 => by
      have h0 := mlT_stand (cA := cA) (cB := cB) X j
      have h1 := h0.pushed { cls := cB, slots := Array.replicate 13 (defaultValue .long), vm := .none }
      rw [Array.size_replicate] at h1
      obtain ⟨z1, z2, -⟩ := mlT_ok T cA cB j
      have h2 := h1.stored (a := T.heap.size) (cell := mlC T cA j) (by
        show ((mlT T cA cB j).heap.push _)[T.heap.size]? = _
        rw [Array.getElem?_push, if_neg (by omega)]; exact z2) j (.ref (T.heap.size + 1 + j))
      have e1 : cells + 1 + j + 1 = cells + 1 + (j + 1) := by omega
      have e2 : slots + 13 + 13 * j + 13 = slots + 13 + 13 * (j + 1) := by omega
      rw [e1, e2] at h2
      exact h2
theorem mlL_new {T : State} (h : s.heap.size ≤ T.heap.size) : ∀ j, ∃ L, mlL T locs j = locs ++ L ∧ ∀ q ∈ L, s.heap.size ≤ q.base
  | 0 => ⟨[], (List.append_nil _).symm, fun q hq => absurd hq List.not_mem_nil⟩
  | j + 1 => by
      obtain ⟨L, e, hL⟩ := mlL_new h j
      refine ⟨L ++ [⟨T.heap.size, j⟩], by show mlL T locs j ++ _ = _; rw [e, List.append_assoc], fun q hq => ?_⟩
      rcases List.mem_append.mp hq with hq | hq
      · exact hL q hq
      · rw [List.mem_singleton.mp hq]; exact h
end CMultiB
section CMultiW
variable {E : CtlPost} {e : Env} {d : Bool} {acts : List Action} {s : State}
theorem make_wp {T : State} {f1 : JFrame} {cA cB comp : ClassId} {kA kB : Class} {Q : Addr → Pre} (hkA : T.vm.classes[cA]? = some kA) (hkindA : kA.kind = .array cB (.array .long)) (hkB : T.vm.classes[cB]? = some kB) (hkindB : kB.kind = .array comp .long)
    (hlimit : ¬ 13 > e.platform.arrayLengthLimit) (hheap : ¬ 13 * 8 > e.platform.maxHeapBytes) (h1 : T.heap.size + 14 ≤ e.platform.maxCells) (h2 : T.slotsUsed + 182 ≤ e.platform.maxSlots)
    (hq : ∀ (d' : Bool) (acts' : List Action), Q T.heap.size d' acts' ((mlT T cA cB 13).setTop f1)) : wp (Op.multianewarray.make cA [13, 13]) Q E e d acts (T.setTop f1) := by
  have hn : ((13 : Int32)).toNatClampNeg = 13 := by decide
  have hlt : ¬ ((13 : Int32) < 0) := by decide
  have hz : ¬ (((13 : Int32) == 0) = true) := by decide
  unfold Op.multianewarray.make
  simp only [wp_bind', W.ite, hlt, if_false, wp_pure', W.theClass, State.vm_setTop, hkA, hkindA, Option.some.injEq, exists_eq_left', hn]
  refine nA_wp (ty := .array .long) (k := kA) (comp := cB) hkA hkindA hlimit (by show ¬ 13 * 4 > _; omega) (by show T.heap.size < _; omega) (by show T.slotsUsed + 13 ≤ _; omega) (fun d1 acts1 => ?_)
  simp only [hz, if_false, wp_pure', Bool.false_eq_true]
  rw [wp_bind', Std.Legacy.Range.forIn_eq_forIn_range']
  refine wp_forIn_inv (fun rest s' => ∃ j, rest = List.range' j (13 - j) ∧ j ≤ 13 ∧ s' = (mlT T cA cB j).setTop f1) _ _ ⟨0, rfl, by omega, rfl⟩ ?_ ?_
  · rintro x rest s' d' acts' Q' ⟨j, hr, hj, rfl⟩ hnext
    have hj2 : j < 13 := by
      rcases Nat.lt_or_ge j 13 with w | w
      · exact w
      · rw [show 13 - j = 0 by omega] at hr; exact absurd hr (List.cons_ne_nil _ _)
    rw [show 13 - j = (13 - (j + 1)) + 1 by omega, List.range'_succ] at hr
    obtain ⟨rfl, rfl⟩ := List.cons.inj hr
    obtain ⟨z1, z2, z3, z4, z5, z6⟩ := mlT_ok T cA cB x
    obtain ⟨y1, y2, y3⟩ := mlC_ok T cA x
    have hkB' : (mlT T cA cB x).vm.classes[cB]? = some kB := by rw [z4]; exact hkB
    have hkA' : (mlT T cA cB x).vm.classes[cA]? = some kA := by rw [z4]; exact hkA
    rw [wp_bind']
    unfold Op.multianewarray.make
    simp only [wp_bind', W.ite, hlt, if_false, wp_pure', W.theClass, State.vm_setTop, hkB', hkindB, Option.some.injEq, exists_eq_left', hn]
    refine nA_wp (ty := .long) (k := kB) (comp := comp) hkB' hkindB hlimit hheap (by show (mlT T cA cB x).heap.size < _; omega) (by show (mlT T cA cB x).slotsUsed + 13 ≤ _; omega) (fun d1 acts1 => ?_)
    simp only [wp_bind', W.writeLoc, wp_pure']
    refine ⟨mlC T cA x, ?_, (by rw [y2]; intro h; cases h), (by rw [y3]; exact hj2), ?_, ?_⟩
    · show ((mlT T cA cB x).heap.push _)[T.heap.size]? = _
      rw [Array.getElem?_push, if_neg (by omega)]; exact z2
    · rw [y1, y2]
      show State.fitsSlot ((mlT T cA cB x).setTop f1 |>.pushCell _) cA .none x _ = true
      simp [State.fitsSlot, State.slotType?, hkA', hkindA, fits]
    · refine hnext _ _ _ ⟨x + 1, rfl, by omega, ?_⟩
      show _ = (((mlT T cA cB x).pushCell _).setCell T.heap.size ((mlC T cA x).setSlot x (.ref (T.heap.size + 1 + x)))).setTop f1
      rw [← z1]
      rfl
  · rintro s' d' acts' ⟨j, hr, hj, rfl⟩
    have hj2 : j = 13 := by
      rcases Nat.lt_or_ge j 13 with w | w
      · rw [show 13 - j = (13 - (j + 1)) + 1 by omega, List.range'_succ] at hr; exact absurd hr.symm (List.cons_ne_nil _ _)
      · omega
    subst hj2
    exact hq _ _
theorem multi_wp {T : State} {f : JFrame} {index : Nat} {cA cB comp : ClassId} {kA kB : Class} {rest : List Value} {Q : Unit → Pre} (hs : T.topJava?.isSome) (hr : T.vm.classReady f.method.cls index cA) (hkA : T.vm.classes[cA]? = some kA) (hkindA : kA.kind = .array cB (.array .long)) (hkB : T.vm.classes[cB]? = some kB) (hkindB : kB.kind = .array comp .long)
    (hstack : f.stack = .int 13 :: .int 13 :: rest) (hlimit : ¬ 13 > e.platform.arrayLengthLimit) (hheap : ¬ 13 * 8 > e.platform.maxHeapBytes) (h1 : T.heap.size + 14 ≤ e.platform.maxCells) (h2 : T.slotsUsed + 182 ≤ e.platform.maxSlots)
    (hq : ∀ (d' : Bool) (acts' : List Action), Q () d' acts' ((mlT T cA cB 13).setTop { f with stack := .ref T.heap.size :: rest })) : wp (Op.multianewarray.sem index 2) Q E e d acts (T.setTop f) := by
  unfold Op.multianewarray.sem
  simp only [wp_bind', W.resolveClassAt_ready (State.method?_setTop f hs) hr, Jvm.popN, W.pop, State.topJava?_setTop' _ hs, Option.some.injEq, exists_eq_left', hstack, List.cons.injEq, exists_cons_eq, State.setTop_setTop, wp_pure', List.nil_append, List.cons_append, List.mapM_cons, List.mapM_nil]
  refine make_wp hkA hkindA hkB hkindB hlimit hheap h1 h2 (fun d1 acts1 => ?_)
  obtain ⟨z1, z2, z3, z4, z5, z6⟩ := mlT_ok T cA cB 13
  have hs2 : (mlT T cA cB 13).topJava?.isSome := by rw [z6]; exact hs
  show wp (do Jvm.mark "op.multianewarray"; Jvm.pushRef T.heap.size) Q E e d1 acts1 _
  rw [wp_bind', W.mark, W.pushRef]
  refine ⟨_, State.topJava?_setTop' _ hs2, ?_⟩
  rw [State.setTop_setTop]
  exact hq _ _
end CMultiW
section CMultiS
variable {p : Program} {l : Launch} {e : Env} {R : Room} {s : State} {m : MethodId} {args : Array Value} {below : List Frame} {meth : Method} {c : Code} {H : Heap} {locs : List Loc} {cells slots : Nat} {Q : State → Prop}
theorem multi_cold {E : CtlPost} {e : Env} {d : Bool} {acts : List Action} {s : State} {f : JFrame} {Q : Unit → Pre} {index c : Nat} {vm' : Vm} (hs : s.topJava?.isSome) (hg : (Jvm.resolveClass f.method.cls index).Gives e.toSetting s.vm (.ok c) vm') (hr : vm'.classReady f.method.cls index c)
    (hsz : vm'.classes.size ≤ s.vm.classes.size := by no_record) :
    wp (Op.multianewarray.sem index 2) Q E e d acts (s.setTop f) ↔ wp (Op.multianewarray.sem index 2) Q E e d acts ((s.setVm vm').setTop f) := by
  simp only [Op.multianewarray.sem, wp_bind']
  exact W.resolveClassAt_transfer (s := s.setTop f) (State.method?_setTop f hs) hg hr
theorem multi22 {T : State} (X : Stand p l e R s m args below meth c T locs cells slots) (hexec : p.tables.exec = Jvm.exec) {own : String} {index : Nat} (hown : s.vm.findClass own = some m.cls) (hclink : (Cond.classLink own index "[[J").before args s = true) (hover : (Cond.arrayOver (.array .long)).before args s = true) (harr : (Cond.arrayClass .long).before args s = true)
    {g : JFrame} (hg : g.method = m) (hdg : decode c.code g.pc = .ok (.multianewarray index 2, 4)) {rest : List Value} (hstack : g.stack = .int 13 :: .int 13 :: rest) (hcells : cells + 14 ≤ R.cells) (hslots : slots + 182 ≤ R.slots) :
    ∃ (T' : State) (L : List Loc), Stand p l e R s m args below meth c T' (locs ++ L) (cells + 14) (slots + 182) ∧ (∀ q ∈ L, s.heap.size ≤ q.base) ∧ T'.heap.size = T.heap.size + 14 ∧ (∀ q : Nat, q < T.heap.size → T'.heap[q]? = T.heap[q]?) ∧
      ∀ target, Steps p.tables e below (T'.setTop { g with pc := g.pc + 4, stack := .ref T.heap.size :: rest }) target → Steps p.tables e below (T.setTop g) target := by
  subst hg
  have hpl : e.platform.magicAccessors = ({} : Platform).magicAccessors := by rw [X.admits.platform]
  obtain ⟨cB, cA, kA, hcB, hidx, hkA, hkindA, hnameA⟩ := arrayOverA_spec hover
  obtain ⟨cB', kB, comp, hnameB, hkB, hkindB⟩ := Cond.arrayClass_spec harr
  have eB : cB' = cB := Option.some.inj (hnameB.symm.trans (show s.vm.findClass ("[" ++ (FieldType.long).toString) = some cB from hcB))
  subst eB
  obtain ⟨cc, hfcc, hcl⟩ := Cond.classLink_spec hown hclink e.platform hpl
  have eA : cc = cA := Option.some.inj (hfcc.symm.trans (show s.vm.findClass "[[J" = some cA from hnameA))
  subst eA
  obtain ⟨hg₁, hwarm₁, hready₁⟩ := State.classEntry (e := e) X.warmed hcl
  generalize T.vm.noted g.method.cls index (.cls cc) = vm₁ at hg₁ hwarm₁ hready₁
  have hal : s.vm.Alike vm₁ := hwarm₁.alike
  obtain ⟨kA₁, hkA₁, heA⟩ := hal.2.2 _ _ hkA
  have hkindA₁ : kA₁.kind = .array cB' (.array .long) := by rw [heA]; exact hkindA
  obtain ⟨kB₁, hkB₁, heB⟩ := hal.2.2 _ _ hkB
  have hkindB₁ : kB₁.kind = .array comp .long := by rw [heB]; exact hkindB
  have hlimit : ¬ 13 > e.platform.arrayLengthLimit := by rw [Launch.admits_arrayLengthLimit X.admits]; decide
  have hheap : ¬ 13 * 8 > e.platform.maxHeapBytes := by rw [Launch.admits_maxHeapBytes X.admits]; decide
  have X₁ := X.noted hwarm₁
  obtain ⟨hr1, hr2⟩ := X.roomAbove hcells hslots
  have X₂ := mlT_stand (cA := cc) (cB := cB') X₁ 13
  obtain ⟨L, eL, hL⟩ := mlL_new (s := s) (locs := locs) (T := T.setVm vm₁) (X₁.same.2.1) 13
  rw [eL] at X₂
  obtain ⟨z1, z2, z3, z4, z5, z6⟩ := mlT_ok (T.setVm vm₁) cc cB' 13
  refine ⟨mlT (T.setVm vm₁) cc cB' 13, L, X₂, hL, z1, z3, fun target hrest => ?_⟩
  jvm_step X.here [hexec, hdg, multi_cold (e := e) (s := T) (f := g) X.here.top hg₁ hready₁]
  refine multi_wp (T := T.setVm vm₁) (f := g) X.here.top hready₁ hkA₁ hkindA₁ hkB₁ hkindB₁ hstack hlimit hheap hr1 hr2 (fun d1 acts1 => ?_)
  intro a2
  have hs2 : (mlT (T.setVm vm₁) cc cB' 13).topJava?.isSome := by rw [z6]; exact X.here.top
  simp [jvm, State.topJava?_setTop' _ hs2]
  exact hrest
/-- a new grid of 13 rows of 13 longs, of which nothing is told -/
theorem W.multi (hexec : p.tables.exec = Jvm.exec) {cc : ByteArray} (hb : c.code = cc) {own : String} {index : Nat} (hown : s.vm.findClass own = some m.cls) (hclink : (Cond.classLink own index "[[J").before args s = true) (hover : (Cond.arrayOver (.array .long)).before args s = true) (harr : (Cond.arrayClass .long).before args s = true)
    {g : JFrame} (hg : g.method = m) (hdg : decode cc g.pc = .ok (.multianewarray index 2, 4)) {rest : List Value} (hstack : g.stack = .int 13 :: .int 13 :: rest) (hcells : cells + 14 ≤ R.cells) (hslots : slots + 182 ≤ R.slots)
    (kk : ∀ (H1 : Heap) (L : List Loc), (∀ q ∈ L, s.heap.size ≤ q.base) → H1.size = H.size + 14 → (∀ q : Nat, q < H.size → H1[q]? = H[q]?) → W p l e R s m args below meth c H1 (locs ++ L) (cells + 14) (slots + 182) Q { g with pc := g.pc + 4, stack := .ref H.size :: rest }) : W p l e R s m args below meth c H locs cells slots Q g := by
  intro T hT X
  subst hT; subst hb
  obtain ⟨T', L, X', h1, h2, h3, st⟩ := multi22 X hexec hown hclink hover harr hg hdg hstack hcells hslots
  obtain ⟨t, a1, b1⟩ := kk T'.heap L h1 h2 h3 T' rfl X'
  exact ⟨t, st t a1, b1⟩
end CMultiS
