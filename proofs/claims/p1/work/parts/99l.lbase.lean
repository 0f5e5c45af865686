/-! THE CLAIM OUT OF ONE WALK OF THE LAW'S BODY. Your part is whole_start (and what it stands on); all else here is the same for every law, but numbers. -/
def R_law : String := "AlgebraicRealsLaw"
def lw_P (b : Addr) (xs : List Int32) (args : Array Value) (s : State) : Prop := args = #[.ref b] ∧ s.IntsAt b xs ∧ xs.length ≤ 7 ∧ (Jvm.Cond.and given_1 narrow_1).before args s = true
def lw_Q (_ : Array Value) (s : State) (o : Outcome) (t : State) : Prop := o = .returned (some (.int 1)) ∧ Framed s o t [] 193330 8521466
def lw_Z (below : List Frame) (a : Array Value) (s : State) : State → Prop := fun t => ∃ o, t.status = .running ∧ Ended t below o ∧ lw_Q a s o t
/-- the law's own end, with 1 on the stack, nothing written that was there before, its room as the claim has it -/
theorem lw_ret {p : Program} {l : Launch} {e : Env} {s : State} {m : MethodId} {below : List Frame} {meth : Method} {c : Code} {b : Nat} (hx : p.tables.exec = Jvm.exec) (hb : c.code = code) (hr : meth.sig.returnType = ret) (hlocks : meth.locks = false) {pc : Nat} {H : Heap} {ls : Array Slot} (hdg : decode code pc = .ok (.ireturn, 1)) : W p l e room_1 s m #[Value.ref b] below meth c H [] 193330 8521466 (lw_Z below #[Value.ref b] s) (F0 m pc ls [.int 1]) := by
  intro T hT X
  obtain ⟨fs, hret, hrun, hended, hW, hframe⟩ := X.leave (v := some (.int 1)) (hlocks := hlocks) (fun h => by rw [hr] at h; cases h)
  have hmeth' : T.vm.method? m = some meth := X.method'
  refine ⟨T.setFrames fs, ?_, .returned (some (.int 1)), hrun, hended, rfl, ⟨_, rfl⟩, hW, hframe⟩
  jvm_step X.here [X.here.top, hx, hb, hdg, hmeth', hr, ret, narrow_b1]
  (try refine ⟨rfl, ?_⟩); (try refine ⟨rfl, ?_⟩)
  first | (intro acts; rw [hret _ acts rfl rfl rfl]) | rw [hret _ _ rfl rfl rfl]
  exact Steps.refl _
/-- what holds at the law's entry: the machine, the code, the tables' words (any of lw_tbl by 'hts w (by decide +kernel)'), the script of L ints xs at the cell b, what the Statement gives of the start (any of its parts by flat_of_before) -/
def lw_At (p : Program) (s : State) (m : MethodId) (meth : Method) (c : Code) (b L : Nat) (xs : Nat → Int32) : Prop :=
  p.tables.exec = Jvm.exec ∧ c.code = code ∧ meth.sig.returnType = ret ∧ c.maxLocals = 7 ∧ s.vm.findClass R_law = some m.cls ∧ (∀ w ∈ lw_tbl, w.before #[Value.ref b] s = true) ∧ va_X b L xs s s.heap ∧ b < s.heap.size ∧ meth.locks = false ∧ (Jvm.Cond.and given_1 narrow_1).before #[Value.ref b] s = true
section LBase
/-- what stands throughout the law's run: the machine, its code, the words, the script of seven ints, the classes -/
def LA (p : Program) (l : Launch) (s : State) (m : MethodId) (c : Code) (b : Nat) (xs : Nat → Int32) (dC : Nat → ClassId) (dI : Nat → Nat → Nat) (cx : Nat → Nat) (eC : Nat → ClassId) (eI : Nat → Nat → Nat) (cI cJ cB cZ : Nat) : Prop :=
  p.tables.exec = Jvm.exec ∧ c.code = code ∧ c.maxLocals = 7 ∧ s.vm.findClass RL = some m.cls ∧ (∀ w ∈ lw_tbl, w.before #[Value.ref b] s = true) ∧ va_X b 7 xs s s.heap ∧ b < s.heap.size ∧ va_K (dC, dI) ccl (cty cx) s ∧ va_K (eC, eI) rcl (rty cI cJ cB cZ) s ∧ CN s ∧ CX s ∧ CY s ∧ CZ (fun q => s.heap.size ≤ q) s s.heap ∧ l.stackTraces = false
/-- where the law stands ahead of its switch: both objects new, its row of one long 0 -/
def LZ (dC : Nat → ClassId) (dI : Nat → Nat → Nat) (cx : Nat → Nat) (eC : Nat → ClassId) (eI : Nat → Nat → Nat) (cI cJ cB cZ : Nat) (s : State) (b : Nat) (H : Heap) (locs : List Loc) (ls : Array Slot) (h0 h1 q3 n1 n2 : Nat) (mo : Int) : Prop :=
  va_S (fun q => s.heap.size ≤ q) s.heap H locs ∧ lv_has ls 7 [(0, .ref b), (1, .ref h0), (2, .ref h1), (3, .ref q3), (4, .int 1)] ∧ FW dC dI cx s.heap.size n1 H h0 mo ∧ RW eC eI cI cJ cB cZ n1 n2 H h1 mo ∧ va_P (dC, dI) ccl (oW cx q3 (fun _ => 0)) H ∧ n2 ≤ q3 ∧ s.heap.size ≤ n1 ∧ n1 ≤ n2 ∧ 1 ≤ mo ∧ mo ≤ 10
/-- the way from a case's end to the law's own end -/
abbrev LT (p : Program) (l : Launch) (e : Env) (s : State) (m : MethodId) (below : List Frame) (meth : Method) (c : Code) (b : Nat) : Prop :=
  ∀ (H : Heap) (locs : List Loc) (ls : Array Slot), va_S (fun q => s.heap.size ≤ q) s.heap H locs → lv_has ls 7 [(0, .ref b), (4, .int 1)] → W p l e room_1 s m #[Value.ref b] below meth c H locs 100000 6400000 (lw_Z below #[Value.ref b] s) (F0 m 1388 ls [])
theorem hok_0 : hok (fun _ => 0) := fun _ => (show (-2147483648 : Int) < 0 ∧ (0 : Int) < 2147483648 from ⟨by decide, by decide⟩)
theorem b01_lo {q : Prop} [Decidable q] : -2147483648 ≤ (if q then (0 : Int) else 1) := by split <;> decide
theorem b01_hi {q : Prop} [Decidable q] : (if q then (0 : Int) else 1) ≤ 2147483647 := by split <;> decide
theorem mW_D {A : Nat → Prop} {h1 : Nat} {ad : Nat → Nat} {cI cJ cB cZ : Nat} {F F' : Nat → Int} {ar ar' : Nat → Int → Int} (h : va_D A (mW h1 ad cI cJ cB cZ F ar)) : va_D A (mW h1 ad cI cJ cB cZ F' ar') := by
  have h2 := va_D_iff.mp h
  refine va_D_iff.mpr ⟨by rw [mA_map, ← mA_map h1 ad cI cJ cB cZ F ar]; exact h2.1, fun q hq => ?_⟩
  have h3 : q.1 ∈ (mW h1 ad cI cJ cB cZ F ar).map Prod.fst := by
    rw [mA_map, ← mA_map h1 ad cI cJ cB cZ F' ar']
    exact List.mem_map_of_mem hq
  obtain ⟨x, hx, ex⟩ := List.mem_map.mp h3
  rw [← ex]
  exact h2.2 x hx
theorem rA_not {n1 n2 sz q h1 : Nat} {ad : Nat → Nat} {cI cJ cB cZ : Nat} {F : Nat → Int} {ar : Nat → Int → Int} (h : va_D (fun q => n1 ≤ q ∧ q < n2) (mW h1 ad cI cJ cB cZ F ar)) (hq : n2 ≤ q) (hs : q < sz) : ¬ rA h1 ad sz q := fun z => by
  rcases z with z | z
  · rw [← mA_map h1 ad cI cJ cB cZ F ar] at z
    obtain ⟨x, hx, rfl⟩ := List.mem_map.mp z
    have := ((va_D_iff.mp h).2 x hx).2
    omega
  · omega
end LBase
theorem la_0 : Cond.initialized RX11 ∈ lw_tbl := (w0L_gd _ ln_RX11).1
theorem w1S_t : ∀ w ∈ w1S, w ∈ lw_tbl := List.forall_mem_cons.mpr ⟨(w0L_gd _ ln_RX11).1, List.forall_mem_cons.mpr ⟨(w0L_gd _ la_13).1, List.forall_mem_cons.mpr ⟨(w0L_gd _ la_29).1, List.forall_mem_cons.mpr ⟨(w0L_gd _ ll_7).1, List.forall_mem_cons.mpr ⟨(wT_gd _ ti_X11_fraction).1, List.forall_mem_cons.mpr ⟨(wT_gd _ te_X11_fraction).1, List.forall_mem_cons.mpr ⟨(w0L_gd _ ll_15).1, List.forall_mem_cons.mpr ⟨(wT_gd _ ti_X11_plain).1, List.forall_mem_cons.mpr ⟨(wT_gd _ te_X11_plain).1, List.forall_mem_cons.mpr ⟨(w0L_gd _ ll_19).1, List.forall_mem_cons.mpr ⟨(wT_gd _ ti_X11_feed).1, List.forall_mem_cons.mpr ⟨(wT_gd _ te_X11_feed).1, List.forall_mem_cons.mpr ⟨(w0L_gd _ ll_25).1, List.forall_mem_cons.mpr ⟨(wT_gd _ ti_X11_end).1, List.forall_mem_cons.mpr ⟨(wT_gd _ te_X11_end).1, fun _ h => absurd h List.not_mem_nil⟩⟩⟩⟩⟩⟩⟩⟩⟩⟩⟩⟩⟩⟩⟩
theorem w1S_gd : GoodIn lw_tbl w1S := fun w h => ⟨w1S_t w h, good_of_word (List.all_eq_true.mp w1S_good w h)⟩
theorem w0S_gd : GoodIn lw_tbl w0S := fun w h => (List.mem_append.mp h).elim (w1S_gd w) (w0c_gd w)
theorem lgS {y : MethodName} {bytes : ByteArray} {maxL idx : Nat} {ret : Option FieldType} {hh : List (Nat × Nat × Nat × Nat)} (h1 : Cond.methodLink RL idx y ∈ lw_tbl) (h2 : Cond.static y ∈ lw_tbl) (h3 : Cond.initialized y.cls ∈ lw_tbl) (h4 : Cond.codeWith y bytes maxL ret hh ∈ lw_tbl) : GoodIn lw_tbl (va_wsS RL idx y (Cond.codeWith y bytes maxL ret hh :: w0S)) := by
  intro w h
  unfold va_wsS at h
  simp only [List.cons_append, List.nil_append, List.mem_cons] at h
  rcases h with rfl | rfl | rfl | rfl | h
  · exact ⟨h1, good_of_word rfl⟩
  · exact ⟨h2, good_of_word rfl⟩
  · exact ⟨h3, good_of_word rfl⟩
  · exact ⟨h4, good_of_word rfl⟩
  · exact w0S_gd _ h
theorem gS_fraction : GoodIn lw_tbl (va_wsS RL 44 yL_fraction (Cond.codeWith yL_fraction cL_fraction 7 (some .int) [(0, 11, 14, 13)] :: w0S)) := lgS (w0L_gd _ ll_44).1 (w0L_gd _ lt_L_fraction).1 (w0L_gd _ ln_RL).1 (w0L_gd _ lcd_L_fraction).1
theorem gS_plain : GoodIn lw_tbl (va_wsS RL 57 yL_plain (Cond.codeWith yL_plain cL_plain 5 (some .int) [(0, 10, 13, 13)] :: w0S)) := lgS (w0L_gd _ ll_57).1 (w0L_gd _ lt_L_plain).1 (w0L_gd _ ln_RL).1 (w0L_gd _ lcd_L_plain).1
theorem gS_feed : GoodIn lw_tbl (va_wsS RL 156 yL_feed (Cond.codeWith yL_feed cL_feed 8 (some .int) [(0, 16, 19, 23)] :: w0S)) := lgS (w0L_gd _ ll_156).1 (w0L_gd _ lt_L_feed).1 (w0L_gd _ ln_RL).1 (w0L_gd _ lcd_L_feed).1
theorem gS_end : GoodIn lw_tbl (va_wsS RL 160 yL_end (Cond.codeWith yL_end cL_end 3 (some .int) [(0, 5, 8, 29)] :: w0S)) := lgS (w0L_gd _ ll_160).1 (w0L_gd _ lt_L_end).1 (w0L_gd _ ln_RL).1 (w0L_gd _ lcd_L_end).1
