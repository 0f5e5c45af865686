section CRows
abbrev ccl : List vw_C := [(RX0, TX0, 3), (RX1, TX1, 9), (RX2, TX2, 19), (RX3, TX3, 19), (RX4, TX4, 2), (RX5, TX5, 7), (RX6, TX6, 2), (RX7, TX7, 10), (RX8, TX8, 15), (RX9, TX9, 8), (RX10, TX10, 21), (RX11, TX11, 20)]
abbrev cty (cx : Nat → Nat) : List (ClassId × FieldType) := [(cx 0, .int), (cx 1, .long), (cx 2, .object RX0), (cx 3, .object RX4), (cx 4, .object RX5), (cx 5, .object RX6)]
/-- where a walk of the class stands -/
def cV (dC : Nat → ClassId) (dI : Nat → Nat → Nat) (cx : Nat → Nat) (LB : List Nat) (A : Nat → Prop) (H0 : Heap) (ll0 : Nat → Nat) (X : va_W) (dd : Nat → Nat) (nn ss : Nat → Int) (ll : Nat → Nat) (gg : Nat → Int → Int) (H : Heap) (locs : List Loc) : Prop :=
  va_P (dC, dI) ccl (bW (cx 0) LB dd nn ss ll gg X) H ∧ va_D A (bW (cx 0) LB dd nn ss ll gg X) ∧ va_S A H0 H locs ∧ (∀ b ∈ LB, ll0 b ≤ ll b) ∧ ∀ b ∈ LB, 5 ≤ ll b ∧ ll b ≤ 400
abbrev cMc (LB : List Nat) (ll : Nat → Nat) : Nat := LB.length * 400 - cP LB ll
abbrev cRm (f k : Nat) (LB : List Nat) (ll : Nat → Nat) : Room := { frames := f, cells := cMc LB ll, slots := 2 * cMc LB ll, locals := k }
abbrev cPc (dC : Nat → ClassId) (dI : Nat → Nat → Nat) (cx : Nat → Nat) (LB : List Nat) (X : va_W) (dd : Nat → Nat) (nn ss : Nat → Int) (ll : Nat → Nat) (gg : Nat → Int → Int) (H0 : Heap) (As : List Value) : Array Value → State → Prop :=
  va_Pc As (fun U => U.heap = H0 ∧ va_P (dC, dI) ccl (bW (cx 0) LB dd nn ss ll gg X) U.heap ∧ va_K (dC, dI) ccl (cty cx) U ∧ va_D (fun _ => True) (bW (cx 0) LB dd nn ss ll gg X) ∧ ∀ b ∈ LB, 5 ≤ ll b ∧ ll b ≤ 400)
abbrev cS6 : Type := va_W × (Nat → Nat) × (Nat → Int) × (Nat → Int) × (Nat → Nat) × (Nat → Int → Int)
abbrev cBk (dC : Nat → ClassId) (dI : Nat → Nat → Nat) (cx : Nat → Nat) (LB : List Nat) (A : Nat → Prop) (ll : Nat → Nat) (H0 : Heap) (u : cS6) (t : State) : Prop :=
  va_P (dC, dI) ccl (bW (cx 0) LB u.2.1 u.2.2.1 u.2.2.2.1 u.2.2.2.2.1 u.2.2.2.2.2 u.1) t.heap ∧ va_K (dC, dI) ccl (cty cx) t ∧ va_D A (bW (cx 0) LB u.2.1 u.2.2.1 u.2.2.2.1 u.2.2.2.2.1 u.2.2.2.2.2 u.1) ∧ (∀ b ∈ LB, ll b ≤ u.2.2.2.2.1 b ∧ u.2.2.2.2.1 b ≤ 400) ∧ cG H0 t.heap (cP LB u.2.2.2.2.1 - cP LB ll) (2 * (cP LB u.2.2.2.2.1 - cP LB ll))
abbrev cQi (dC : Nat → ClassId) (dI : Nat → Nat → Nat) (cx : Nat → Nat) (LB : List Nat) (A : Nat → Prop) (ll : Nat → Nat) (H0 : Heap) (P : Int → va_W → (Nat → Nat) → (Nat → Int) → (Nat → Int) → (Nat → Nat) → (Nat → Int → Int) → Prop) : Array Value → State → Outcome → State → Prop :=
  va_Qi (fun (r : Int32) (u : cS6) => ∃ z : Int, r = Int32.ofInt z ∧ P z u.1 u.2.1 u.2.2.1 u.2.2.2.1 u.2.2.2.2.1 u.2.2.2.2.2) (fun u t => cBk dC dI cx LB A ll H0 u t) A
abbrev cQl (dC : Nat → ClassId) (dI : Nat → Nat → Nat) (cx : Nat → Nat) (LB : List Nat) (A : Nat → Prop) (ll : Nat → Nat) (H0 : Heap) (P : Int → va_W → (Nat → Nat) → (Nat → Int) → (Nat → Int) → (Nat → Nat) → (Nat → Int → Int) → Prop) : Array Value → State → Outcome → State → Prop :=
  va_Ql (fun (r : Int64) (u : cS6) => ∃ z : Int, r = Int64.ofInt z ∧ P z u.1 u.2.1 u.2.2.1 u.2.2.2.1 u.2.2.2.2.1 u.2.2.2.2.2) (fun u t => cBk dC dI cx LB A ll H0 u t) A
abbrev cQv (dC : Nat → ClassId) (dI : Nat → Nat → Nat) (cx : Nat → Nat) (LB : List Nat) (A : Nat → Prop) (ll : Nat → Nat) (H0 : Heap) (P : va_W → (Nat → Nat) → (Nat → Int) → (Nat → Int) → (Nat → Nat) → (Nat → Int → Int) → Prop) : Array Value → State → Outcome → State → Prop :=
  va_Qv (fun (u : cS6) => P u.1 u.2.1 u.2.2.1 u.2.2.2.1 u.2.2.2.2.1 u.2.2.2.2.2) (fun u t => cBk dC dI cx LB A ll H0 u t) A
abbrev cQr (dC : Nat → ClassId) (dI : Nat → Nat → Nat) (cx : Nat → Nat) (LB : List Nat) (A : Nat → Prop) (ll : Nat → Nat) (H0 : Heap) (P : Nat → va_W → (Nat → Nat) → (Nat → Int) → (Nat → Int) → (Nat → Nat) → (Nat → Int → Int) → Prop) : Array Value → State → Outcome → State → Prop :=
  va_Qr (fun (_ : cS6) => True) (fun u a t => cBk dC dI cx LB A ll H0 u t ∧ P a u.1 u.2.1 u.2.2.1 u.2.2.2.1 u.2.2.2.2.1 u.2.2.2.2.2) A
theorem cGood {c0 : Cond} {own C : String} {idx maxL : Nat} {y : MethodName} {bytes : ByteArray} {ret : Option FieldType} (h1 : Cond.methodLink own idx y ∈ w0c) (h2 : Cond.instanceMethod y ∈ w0c) (h3 : Cond.selects C y y ∈ w0c) (h4 : Cond.initialized C ∈ w0c) (h5 : Cond.code y bytes maxL ret ∈ w0c) : GoodIn (c0 :: w0c) (wsV own idx C y (Cond.code y bytes maxL ret :: w0c)) := by
  intro w h
  have hw : w ∈ w0c := by
    unfold wsV at h
    simp only [List.cons_append, List.nil_append, List.mem_cons] at h
    rcases h with rfl | rfl | rfl | rfl | rfl | h
    · exact h1
    · exact h2
    · exact h3
    · exact h4
    · exact h5
    · exact h
  exact ⟨List.mem_cons_of_mem _ hw, good_of_word (List.all_eq_true.mp w0c_good w hw)⟩
theorem cGoodS {c0 : Cond} {own : String} {idx maxL : Nat} {y : MethodName} {bytes : ByteArray} {ret : Option FieldType} (h1 : Cond.methodLink own idx y ∈ w0c) (h2 : Cond.static y ∈ w0c) (h4 : Cond.initialized own ∈ w0c) (h5 : Cond.code y bytes maxL ret ∈ w0c) : GoodIn (c0 :: w0c) (wsS own idx y (Cond.code y bytes maxL ret :: w0c)) := by
  intro w h
  have hw : w ∈ w0c := by
    unfold wsS at h
    simp only [List.cons_append, List.nil_append, List.mem_cons] at h
    rcases h with rfl | rfl | rfl | rfl | h
    · exact h1
    · exact h2
    · exact h4
    · exact h5
    · exact h
  exact ⟨List.mem_cons_of_mem _ hw, good_of_word (List.all_eq_true.mp w0c_good w hw)⟩
variable {p : Program} {l : Launch} {e : Env} {R : Room} {s : State} {m : MethodId} {args : Array Value} {below : List Frame} {meth : Method} {c : Code} {H : Heap} {locs : List Loc} {cells slots : Nat} {Q : State → Prop}
variable {cc : ByteArray} {pc nL : Nat} {ls : Array Slot} {rest : List Value} {dC : Nat → ClassId} {dI : Nat → Nat → Nat} {cx : Nat → Nat} {LB : List Nat} {A : Nat → Prop} {H0 : Heap} {ll0 : Nat → Nat} {X : va_W} {dd : Nat → Nat} {nn ss : Nat → Int} {ll : Nat → Nat} {gg : Nat → Int → Int} {c0 : Cond} {own : String} {b index : Nat}
theorem cV_nd (hV : cV dC dI cx LB A H0 ll0 X dd nn ss ll gg H locs) : LB.Nodup := (bW_ap hV.2.1).1
theorem cV_bd (hV : cV dC dI cx LB A H0 ll0 X dd nn ss ll gg H locs) : cP LB ll0 ≤ cP LB ll ∧ cP LB ll ≤ LB.length * 400 := ⟨cP_mono hV.2.2.2.1, cP_le fun b hb => (hV.2.2.2.2 b hb).2⟩
theorem b_getd (E : CallFix p m c cc nL s args (c0 :: w0c) own) (hK : va_K (dC, dI) ccl (cty cx) s) (hV : cV dC dI cx LB A H0 ll0 X dd nn ss ll gg H locs) (hb : b ∈ LB) (hlink : Cond.fieldLink own index RX0 "d" "[I" ∈ w0c) (hd : decode cc pc = .ok (.getfield index, 3)) (kk : W p l e R s m args below meth c H locs cells slots Q (F0 m (pc + 3) ls (.ref (dd b) :: rest))) : W p l e R s m args below meth c H locs cells slots Q (F0 m pc ls (.ref b :: rest)) := by
  obtain ⟨k, hk⟩ := List.getElem?_of_mem (bW_o (cI := cx 0) (dd := dd) (nn := nn) (ss := ss) (ll := ll) (gg := gg) (X := X) hb)
  exact va_get (D := (dC, dI)) (ci := 0) (C := RX0) (T := TX0) (N := 3) E.1 E.2.1 E.2.2.2.2 (fun w h => List.mem_cons_of_mem _ (w0c_in0 w h)) E.2.2.2.1 hK hV.1 k hk rfl 0 (by decide) (E.2.2.2.2 _ (List.mem_cons_of_mem _ hlink)) (fun _ h9 => h9) rfl hd kk
theorem b_getn (E : CallFix p m c cc nL s args (c0 :: w0c) own) (hK : va_K (dC, dI) ccl (cty cx) s) (hV : cV dC dI cx LB A H0 ll0 X dd nn ss ll gg H locs) (hb : b ∈ LB) (hlink : Cond.fieldLink own index RX0 "n" "I" ∈ w0c) (hd : decode cc pc = .ok (.getfield index, 3)) (kk : W p l e R s m args below meth c H locs cells slots Q (F0 m (pc + 3) ls (Iz (nn b) :: rest))) : W p l e R s m args below meth c H locs cells slots Q (F0 m pc ls (.ref b :: rest)) := by
  obtain ⟨k, hk⟩ := List.getElem?_of_mem (bW_o (cI := cx 0) (dd := dd) (nn := nn) (ss := ss) (ll := ll) (gg := gg) (X := X) hb)
  exact va_get (D := (dC, dI)) (ci := 0) (C := RX0) (T := TX0) (N := 3) E.1 E.2.1 E.2.2.2.2 (fun w h => List.mem_cons_of_mem _ (w0c_in0 w h)) E.2.2.2.1 hK hV.1 k hk rfl 1 (by decide) (E.2.2.2.2 _ (List.mem_cons_of_mem _ hlink)) (fun _ h9 => h9) rfl hd kk
theorem b_gets (E : CallFix p m c cc nL s args (c0 :: w0c) own) (hK : va_K (dC, dI) ccl (cty cx) s) (hV : cV dC dI cx LB A H0 ll0 X dd nn ss ll gg H locs) (hb : b ∈ LB) (hlink : Cond.fieldLink own index RX0 "s" "I" ∈ w0c) (hd : decode cc pc = .ok (.getfield index, 3)) (kk : W p l e R s m args below meth c H locs cells slots Q (F0 m (pc + 3) ls (Iz (ss b) :: rest))) : W p l e R s m args below meth c H locs cells slots Q (F0 m pc ls (.ref b :: rest)) := by
  obtain ⟨k, hk⟩ := List.getElem?_of_mem (bW_o (cI := cx 0) (dd := dd) (nn := nn) (ss := ss) (ll := ll) (gg := gg) (X := X) hb)
  exact va_get (D := (dC, dI)) (ci := 0) (C := RX0) (T := TX0) (N := 3) E.1 E.2.1 E.2.2.2.2 (fun w h => List.mem_cons_of_mem _ (w0c_in0 w h)) E.2.2.2.1 hK hV.1 k hk rfl 2 (by decide) (E.2.2.2.2 _ (List.mem_cons_of_mem _ hlink)) (fun _ h9 => h9) rfl hd kk
theorem b_putn (E : CallFix p m c cc nL s args (c0 :: w0c) own) (hK : va_K (dC, dI) ccl (cty cx) s) (hV : cV dC dI cx LB A H0 ll0 X dd nn ss ll gg H locs) (hb : b ∈ LB) {v : Int} (hlink : Cond.fieldLink own index RX0 "n" "I" ∈ w0c) (hd : decode cc pc = .ok (.putfield index, 3)) (kk : ∀ (H1 : Heap) (locs1 : List Loc), cV dC dI cx LB A H0 ll0 X dd (va_up nn b v) ss ll gg H1 locs1 → W p l e R s m args below meth c H1 locs1 cells slots Q (F0 m (pc + 3) ls rest)) : W p l e R s m args below meth c H locs cells slots Q (F0 m pc ls (Iz v :: .ref b :: rest)) := by
  obtain ⟨k, hk⟩ := List.getElem?_of_mem (bW_o (cI := cx 0) (dd := dd) (nn := nn) (ss := ss) (ll := ll) (gg := gg) (X := X) hb)
  refine va_put (D := (dC, dI)) (ci := 0) (C := RX0) (T := TX0) (N := 3) (v := Iz v) (ty := .int) E.1 E.2.1 E.2.2.2.2 (fun w h => List.mem_cons_of_mem _ (w0c_in0 w h)) tyX0 tyX0_ok nmX0 E.2.2.2.1 hK hV.1 hV.2.1 hV.2.2.1 k hk rfl 1 (by decide) (E.2.2.2.2 _ (List.mem_cons_of_mem _ hlink)) (fun _ h9 => h9) rfl (by decide +kernel) rfl rfl (Nat.le_of_ble_eq_true rfl) hd (fun H1 locs1 q1 q2 q3 => ?_)
  obtain ⟨p1, p2⟩ := bW_putO (nn' := va_up nn b v) (ss' := ss) hk (by rw [va_up_self]; exact q1) hV.2.1 hb (fun x h => va_up_ne _ _ h) (fun _ _ => rfl)
  exact kk H1 locs1 ⟨p1, p2, q3, hV.2.2.2⟩
theorem b_puts (E : CallFix p m c cc nL s args (c0 :: w0c) own) (hK : va_K (dC, dI) ccl (cty cx) s) (hV : cV dC dI cx LB A H0 ll0 X dd nn ss ll gg H locs) (hb : b ∈ LB) {v : Int} (hlink : Cond.fieldLink own index RX0 "s" "I" ∈ w0c) (hd : decode cc pc = .ok (.putfield index, 3)) (kk : ∀ (H1 : Heap) (locs1 : List Loc), cV dC dI cx LB A H0 ll0 X dd nn (va_up ss b v) ll gg H1 locs1 → W p l e R s m args below meth c H1 locs1 cells slots Q (F0 m (pc + 3) ls rest)) : W p l e R s m args below meth c H locs cells slots Q (F0 m pc ls (Iz v :: .ref b :: rest)) := by
  obtain ⟨k, hk⟩ := List.getElem?_of_mem (bW_o (cI := cx 0) (dd := dd) (nn := nn) (ss := ss) (ll := ll) (gg := gg) (X := X) hb)
  refine va_put (D := (dC, dI)) (ci := 0) (C := RX0) (T := TX0) (N := 3) (v := Iz v) (ty := .int) E.1 E.2.1 E.2.2.2.2 (fun w h => List.mem_cons_of_mem _ (w0c_in0 w h)) tyX0 tyX0_ok nmX0 E.2.2.2.1 hK hV.1 hV.2.1 hV.2.2.1 k hk rfl 2 (by decide) (E.2.2.2.2 _ (List.mem_cons_of_mem _ hlink)) (fun _ h9 => h9) rfl (by decide +kernel) rfl rfl (Nat.le_of_ble_eq_true rfl) hd (fun H1 locs1 q1 q2 q3 => ?_)
  obtain ⟨p1, p2⟩ := bW_putO (nn' := nn) (ss' := va_up ss b v) hk (by rw [va_up_self]; exact q1) hV.2.1 hb (fun _ _ => rfl) (fun x h => va_up_ne _ _ h)
  exact kk H1 locs1 ⟨p1, p2, q3, hV.2.2.2⟩
/-- a new row comes into a number: the room is told by what the rows take -/
theorem b_putd (E : CallFix p m c cc nL s args (c0 :: w0c) own) (hK : va_K (dC, dI) ccl (cty cx) s) {q0 N : Nat} {f : Int → Int} (hV : cV dC dI cx LB A H0 ll0 (X ++ [(q0, .inl (cx 0, N, .inl (im f)))]) dd nn ss ll gg H locs) (hb : b ∈ LB) (hN : 2 * ll b ≤ N) (hM : N ≤ 400) (hlink : Cond.fieldLink own index RX0 "d" "[I" ∈ w0c) (hd : decode cc pc = .ok (.putfield index, 3)) (kk : ∀ (H1 : Heap) (locs1 : List Loc), cV dC dI cx LB A H0 ll0 X (va_up dd b q0) nn ss (va_up ll b N) (va_up gg b f) H1 locs1 → W p l e R s m args below meth c H1 locs1 (cP LB (va_up ll b N) - cP LB ll0) (2 * (cP LB (va_up ll b N) - cP LB ll0)) Q (F0 m (pc + 3) ls rest)) : W p l e R s m args below meth c H locs (cP LB ll - cP LB ll0 + 1) (2 * (cP LB ll - cP LB ll0) + N) Q (F0 m pc ls (.ref q0 :: .ref b :: rest)) := by
  obtain ⟨k, hk⟩ := List.getElem?_of_mem (bW_o (cI := cx 0) (dd := dd) (nn := nn) (ss := ss) (ll := ll) (gg := gg) (X := X ++ [(q0, .inl (cx 0, N, .inl (im f)))]) hb)
  have h1 := cV_bd hV
  have h2 := cP_up (ll := ll) (N := N) (cV_nd hV) hb
  have h3 := (hV.2.2.2.2 b hb).1
  refine W.widen (k := cP LB (va_up ll b N) - cP LB ll0) (n := 2 * (cP LB (va_up ll b N) - cP LB ll0)) (by omega) (by omega) ?_
  refine va_put (D := (dC, dI)) (ci := 0) (C := RX0) (T := TX0) (N := 3) (v := .ref q0) (ty := .array .int) E.1 E.2.1 E.2.2.2.2 (fun w h => List.mem_cons_of_mem _ (w0c_in0 w h)) tyX0 tyX0_ok nmX0 E.2.2.2.1 hK hV.1 hV.2.1 hV.2.2.1 k hk rfl 0 (by decide) (E.2.2.2.2 _ (List.mem_cons_of_mem _ hlink)) (fun _ h9 => h9) rfl (by decide +kernel) rfl rfl (Nat.le_of_ble_eq_true rfl) hd (fun H1 locs1 q1 q2 q3 => ?_)
  obtain ⟨p1, p2⟩ := bW_putD hk q1 hV.2.1 hb
  refine kk H1 locs1 ⟨p1, p2, q3, fun x hx => ?_, fun x hx => ?_⟩
  · by_cases hxb : x = b
    · subst hxb; rw [va_up_self]; have := hV.2.2.2.1 x hx; omega
    · rw [va_up_ne _ _ hxb]; exact hV.2.2.2.1 x hx
  · by_cases hxb : x = b
    · subst hxb; rw [va_up_self]; omega
    · rw [va_up_ne _ _ hxb]; exact hV.2.2.2.2 x hx
theorem b_ald (hx : p.tables.exec = Jvm.exec) (hc : c.code = cc) (hK : va_K (dC, dI) ccl (cty cx) s) (hV : cV dC dI cx LB A H0 ll0 X dd nn ss ll gg H locs) (hb : b ∈ LB) {z : Int} (h0 : 0 ≤ z) (h1 : z < ll b) (hd : decode cc pc = .ok (.iaload, 1)) (kk : W p l e R s m args below meth c H locs cells slots Q (F0 m (pc + 1) ls (Iz (gg b z) :: rest))) : W p l e R s m args below meth c H locs cells slots Q (F0 m pc ls (Iz z :: .ref (dd b) :: rest)) := by
  obtain ⟨k, hk⟩ := List.getElem?_of_mem (bW_r (cI := cx 0) (dd := dd) (nn := nn) (ss := ss) (ll := ll) (gg := gg) (X := X) hb)
  exact g_iald (f := gg b) hx hc hK hV.1 k 0 hk rfl h0 h1 (by have := (hV.2.2.2.2 b hb).2; omega) hd kk
theorem b_ast (hx : p.tables.exec = Jvm.exec) (hc : c.code = cc) (hK : va_K (dC, dI) ccl (cty cx) s) (hV : cV dC dI cx LB A H0 ll0 X dd nn ss ll gg H locs) (hb : b ∈ LB) {z v : Int} (h0 : 0 ≤ z) (h1 : z < ll b) (hd : decode cc pc = .ok (.iastore, 1)) (kk : ∀ (H1 : Heap) (locs1 : List Loc), cV dC dI cx LB A H0 ll0 X dd nn ss ll (va_up gg b (iup (gg b) z v)) H1 locs1 → W p l e R s m args below meth c H1 locs1 cells slots Q (F0 m (pc + 1) ls rest)) : W p l e R s m args below meth c H locs cells slots Q (F0 m pc ls (Iz v :: Iz z :: .ref (dd b) :: rest)) := by
  obtain ⟨k, hk⟩ := List.getElem?_of_mem (bW_r (cI := cx 0) (dd := dd) (nn := nn) (ss := ss) (ll := ll) (gg := gg) (X := X) hb)
  refine g_iast (f := gg b) hx hc hK hV.1 hV.2.1 hV.2.2.1 k 0 hk rfl h0 h1 (by have := (hV.2.2.2.2 b hb).2; omega) hd (fun H1 locs1 q1 q2 q3 => ?_)
  obtain ⟨p1, p2⟩ := bW_putR (gg' := va_up gg b (iup (gg b) z v)) hk (by rw [va_up_self]; exact q1) hV.2.1 hb (fun x h => va_up_ne _ _ h)
  exact kk H1 locs1 ⟨p1, p2, q3, hV.2.2.2⟩
theorem b_len (hx : p.tables.exec = Jvm.exec) (hc : c.code = cc) (hK : va_K (dC, dI) ccl (cty cx) s) (hV : cV dC dI cx LB A H0 ll0 X dd nn ss ll gg H locs) (hb : b ∈ LB) (hd : decode cc pc = .ok (.arraylength, 1)) (kk : W p l e R s m args below meth c H locs cells slots Q (F0 m (pc + 1) ls (Iz (ll b : Int) :: rest))) : W p l e R s m args below meth c H locs cells slots Q (F0 m pc ls (.ref (dd b) :: rest)) := by
  obtain ⟨k, hk⟩ := List.getElem?_of_mem (bW_r (cI := cx 0) (dd := dd) (nn := nn) (ss := ss) (ll := ll) (gg := gg) (X := X) hb)
  exact va_alen hx hc hK hV.1 k 0 hk rfl (v := Int32.ofInt (ll b : Int)) (by exact (Int32.ofInt_eq_ofNat).symm) hd kk
/-- a new row of ints: there is one class of them -/
theorem b_new (E : CallFix p m c cc nL s args (c0 :: w0c) own) (hK : va_K (dC, dI) ccl (cty cx) s) (hV : cV dC dI cx LB A s.heap ll0 X dd nn ss ll gg H locs) (hA : ∀ q, s.heap.size ≤ q → A q) {z : Int} (h0 : 0 ≤ z) (h1 : z ≤ 400) (hcells : cells + 1 ≤ R.cells) (hslots : slots + z.toNat ≤ R.slots) (hd : decode cc pc = .ok (.newarray .int, 2)) (kk : ∀ (q0 : Nat) (H1 : Heap), cV dC dI cx LB A s.heap ll0 (X ++ [(q0, .inl (cx 0, z.toNat, .inl (im (fun _ => 0))))]) dd nn ss ll gg H1 locs → W p l e R s m args below meth c H1 locs (cells + 1) (slots + z.toNat) Q (F0 m (pc + 2) ls (.ref q0 :: rest))) : W p l e R s m args below meth c H locs cells slots Q (F0 m pc ls (Iz z :: rest)) := by
  have hz : (Int32.ofInt z).toNatClampNeg = z.toNat := g_nat h0 (by omega)
  have hneg : ¬ Int32.ofInt z < 0 := fun q => by
    have h3 : Int32.ofInt z < Int32.ofInt 0 := q
    rw [g_lt ⟨by omega, by omega⟩ ⟨by decide, by decide⟩] at h3
    omega
  refine va_newa (atype := .int) (ty := .int) (N' := z.toNat) (a0 := (z.toNat, .inl (im (fun _ => 0)))) E.1 E.2.1 (E.2.2.2.2 _ (List.mem_cons_of_mem _ car_int)) rfl hK hV.1 hV.2.1 hV.2.2.1 hA (fun cA => ?_) hneg hz (by show z.toNat * 4 ≤ 536870912; omega) hcells hslots hd (fun q0 cA H1 k1 k2 k3 k4 => ?_)
  · exact rfl
  · have e1 := (k1.2 6 (cA, .int) rfl).2
    have e2 := (hK.2 0 (cx 0, .int) rfl).2
    have e3 : cA = cx 0 := Option.some.inj ((show s.vm.findClass ("[" ++ FieldType.int.toString) = some cA from e1).symm.trans e2)
    subst e3
    have ew : bW (cx 0) LB dd nn ss ll gg (X ++ [(q0, .inl (cx 0, z.toNat, .inl (im (fun _ => 0))))]) = bW (cx 0) LB dd nn ss ll gg X ++ [(q0, .inl (cx 0, z.toNat, .inl (im (fun _ => 0))))] := by
      unfold bW
      rw [List.append_assoc, List.append_assoc]
    exact kk q0 H1 ⟨by rw [ew]; exact k2, by rw [ew]; exact k3, k4, hV.2.2.2⟩
/-- the receiver of a call -/
theorem b_recv (hK : va_K (dC, dI) ccl (cty cx) s) (hV : cV dC dI cx LB A H0 ll0 X dd nn ss ll gg H locs) (hb : b ∈ LB) : ∃ cell : Cell, H[b]? = some cell ∧ cell.vm.isStatics = false ∧ s.vm.findClass RX0 = some cell.cls := by
  obtain ⟨k, hk⟩ := List.getElem?_of_mem (bW_o (cI := cx 0) (dd := dd) (nn := nn) (ss := ss) (ll := ll) (gg := gg) (X := X) hb)
  exact va_recv hK hV.1 (ci := 0) (q0 := k) rfl hk
theorem x_recv (hK : va_K (dC, dI) ccl (cty cx) s) (hV : cV dC dI cx LB A H0 ll0 X dd nn ss ll gg H locs) {a ci : Nat} {fs : List Value} {q : vw_C} (hc : ccl[ci]? = some q) (hx : (a, (.inr (ci, fs) : va_E)) ∈ X) : ∃ cell : Cell, H[a]? = some cell ∧ cell.vm.isStatics = false ∧ s.vm.findClass q.1 = some cell.cls := by
  obtain ⟨k, hk⟩ := List.getElem?_of_mem (bW_x (cI := cx 0) (LB := LB) (dd := dd) (nn := nn) (ss := ss) (ll := ll) (gg := gg) hx)
  exact va_recv hK hV.1 (q0 := k) hc hk
theorem c_sub (hV : cV dC dI cx LB A s.heap ll0 X dd nn ss ll gg H locs) (hA : ∀ q, s.heap.size ≤ q → A q) (q : Nat) (h : va_A (bW (cx 0) LB dd nn ss ll gg X) H.size q) : A q := by
  rcases h with ⟨k, e, h⟩ | h
  · exact hV.2.1.2 k _ h
  · exact hA q (Nat.le_trans hV.2.2.1.1 h)
theorem c_blind {As : List Value} {H1 : Heap} : FrameBlind (cPc dC dI cx LB X dd nn ss ll gg H1 As) := fun a U g mk q => by
  obtain ⟨q0, q1, qP, qK, qD⟩ := q
  exact ⟨q0, q1, qP, va_K.moved (u := U) (U := U.calling g mk a) (Vm.Alike.refl U.vm) qK, qD⟩
theorem c_back {k1 : Nat} {X' : va_W} {dd' : Nat → Nat} {nn' ss' : Nat → Int} {ll' : Nat → Nat} {gg' : Nat → Int → Int} {H1 : Heap} {locs1 : List Loc} {t : State} (hG : cG s.heap H (cP LB ll - cP LB ll0) (2 * (cP LB ll - cP LB ll0))) (hV : cV dC dI cx LB A s.heap ll0 X dd nn ss ll gg H locs) (hA : ∀ q, s.heap.size ≤ q → A q) (ht : t.heap = H1) (hS1 : va_S A s.heap H1 locs1) (hB : cBk dC dI cx LB (va_A (bW (cx 0) LB dd nn ss ll gg X) H.size) ll H (X', dd', nn', ss', ll', gg') t) :
    cV dC dI cx LB A s.heap ll0 X' dd' nn' ss' ll' gg' H1 locs1 ∧ (∀ b ∈ LB, ll b ≤ ll' b) ∧ cG s.heap H1 (cP LB ll' - cP LB ll0) (2 * (cP LB ll' - cP LB ll0)) := by
  obtain ⟨h1, h2, h3, h4, h5⟩ := hB
  rw [ht] at h1 h5
  dsimp only at h1 h2 h3 h4 h5
  have hm : cP LB ll ≤ cP LB ll' := cP_mono fun b hb => (h4 b hb).1
  have hb := cV_bd hV
  refine ⟨⟨h1, h3.weaken (fun k q _ h => c_sub hV hA q.1 h), hS1, fun b hb => Nat.le_trans (hV.2.2.2.1 b hb) (h4 b hb).1, fun b hb => ⟨Nat.le_trans (hV.2.2.2.2 b hb).1 (h4 b hb).1, (h4 b hb).2⟩⟩, fun b hb => (h4 b hb).1, cG_le (cG_tr hG h5) (by omega) (by omega)⟩
theorem c_calli (E : CallFix p m c cc nL s args (c0 :: w0c) own) {y : MethodName} {bytes : ByteArray} {maxL n h f kl : Nat} {ret : Option FieldType} {Cn : String} {As : List Value} {P : Int → va_W → (Nat → Nat) → (Nat → Int) → (Nat → Int) → (Nat → Nat) → (Nat → Int → Int) → Prop}
    (hM : Met l y (Cond.code y bytes maxL ret :: w0c) (cRm f kl LB ll) (cPc dC dI cx LB X dd nn ss ll gg H (.ref h :: As)) (cQi dC dI cx LB (va_A (bW (cx 0) LB dd nn ss ll gg X) H.size) ll H P) (cMc LB ll) (2 * cMc LB ll) (va_A (bW (cx 0) LB dd nn ss ll gg X) H.size)) (cw : CallW R s args own Cn index y bytes maxL ret (Cond.code y bytes maxL ret :: w0c) (cRm f kl LB ll) (cMc LB ll) (2 * cMc LB ll) n) (hrecv : ∃ cell : Cell, H[h]? = some cell ∧ cell.vm.isStatics = false ∧ s.vm.findClass Cn = some cell.cls)
    (hK : va_K (dC, dI) ccl (cty cx) s) (hV : cV dC dI cx LB A s.heap ll0 X dd nn ss ll gg H locs) (hA : ∀ q, s.heap.size ≤ q → A q) (hR : R.cells = cMc LB ll0 ∧ R.slots = 2 * cMc LB ll0) (hn : As.length = n) (hl : ls.size = nL) (hW : (rest.map fun v => v.category).sum ≤ 8) (hd : decode cc pc = .ok (.invokevirtual index, 3))
    (kk : ∀ (z : Int) (X' : va_W) (dd' : Nat → Nat) (nn' ss' : Nat → Int) (ll' : Nat → Nat) (gg' : Nat → Int → Int) (H1 : Heap) (locs1 : List Loc), P z X' dd' nn' ss' ll' gg' → cV dC dI cx LB A s.heap ll0 X' dd' nn' ss' ll' gg' H1 locs1 → (∀ b ∈ LB, ll b ≤ ll' b) → W p l e R s m args below meth c H1 locs1 (cP LB ll' - cP LB ll0) (2 * (cP LB ll' - cP LB ll0)) Q (F0 m (pc + 3) ls (Iz z :: rest))) : W p l e R s m args below meth c H locs (cP LB ll - cP LB ll0) (2 * (cP LB ll - cP LB ll0)) Q (F0 m pc ls (As.reverse ++ .ref h :: rest)) := by
  refine W.know fun hG => ?_
  have hb := cV_bd hV
  refine va_calli (va_runV (As := As) (rest := rest) E hM cw ⟨c_blind, hrecv, fun U hU hW => ⟨rfl, hU, by rw [hU]; exact hV.1, va_K.moved hW.alike hK, hV.2.1.weaken (fun _ _ _ _ => trivial), hV.2.2.2.2⟩⟩ rfl hn hl rfl (lv_room hW) hd (by rw [hR.1, hR.2]; unfold cMc; omega)) hV.2.2.1 (fun q _ h => c_sub hV hA q h) (c_sub hV hA) (fun r u t H1 locs1 ht hvm hw hB hz1 hk1 hS1 => ?_)
  obtain ⟨X', dd', nn', ss', ll', gg'⟩ := u
  obtain ⟨z, rfl, hp⟩ := hw
  obtain ⟨g1, g2, g3⟩ := c_back (k1 := 0) hG hV hA ht hS1 hB
  exact W.retake g3 (kk z X' dd' nn' ss' ll' gg' H1 locs1 hp g1 g2)
theorem c_calll (E : CallFix p m c cc nL s args (c0 :: w0c) own) {y : MethodName} {bytes : ByteArray} {maxL n h f kl : Nat} {ret : Option FieldType} {Cn : String} {As : List Value} {P : Int → va_W → (Nat → Nat) → (Nat → Int) → (Nat → Int) → (Nat → Nat) → (Nat → Int → Int) → Prop}
    (hM : Met l y (Cond.code y bytes maxL ret :: w0c) (cRm f kl LB ll) (cPc dC dI cx LB X dd nn ss ll gg H (.ref h :: As)) (cQl dC dI cx LB (va_A (bW (cx 0) LB dd nn ss ll gg X) H.size) ll H P) (cMc LB ll) (2 * cMc LB ll) (va_A (bW (cx 0) LB dd nn ss ll gg X) H.size)) (cw : CallW R s args own Cn index y bytes maxL ret (Cond.code y bytes maxL ret :: w0c) (cRm f kl LB ll) (cMc LB ll) (2 * cMc LB ll) n) (hrecv : ∃ cell : Cell, H[h]? = some cell ∧ cell.vm.isStatics = false ∧ s.vm.findClass Cn = some cell.cls)
    (hK : va_K (dC, dI) ccl (cty cx) s) (hV : cV dC dI cx LB A s.heap ll0 X dd nn ss ll gg H locs) (hA : ∀ q, s.heap.size ≤ q → A q) (hR : R.cells = cMc LB ll0 ∧ R.slots = 2 * cMc LB ll0) (hn : As.length = n) (hl : ls.size = nL) (hW : (rest.map fun v => v.category).sum ≤ 8) (hd : decode cc pc = .ok (.invokevirtual index, 3))
    (kk : ∀ (z : Int) (X' : va_W) (dd' : Nat → Nat) (nn' ss' : Nat → Int) (ll' : Nat → Nat) (gg' : Nat → Int → Int) (H1 : Heap) (locs1 : List Loc), P z X' dd' nn' ss' ll' gg' → cV dC dI cx LB A s.heap ll0 X' dd' nn' ss' ll' gg' H1 locs1 → (∀ b ∈ LB, ll b ≤ ll' b) → W p l e R s m args below meth c H1 locs1 (cP LB ll' - cP LB ll0) (2 * (cP LB ll' - cP LB ll0)) Q (F0 m (pc + 3) ls (Jz z :: rest))) : W p l e R s m args below meth c H locs (cP LB ll - cP LB ll0) (2 * (cP LB ll - cP LB ll0)) Q (F0 m pc ls (As.reverse ++ .ref h :: rest)) := by
  refine W.know fun hG => ?_
  have hb := cV_bd hV
  refine va_calll (va_runV (As := As) (rest := rest) E hM cw ⟨c_blind, hrecv, fun U hU hW => ⟨rfl, hU, by rw [hU]; exact hV.1, va_K.moved hW.alike hK, hV.2.1.weaken (fun _ _ _ _ => trivial), hV.2.2.2.2⟩⟩ rfl hn hl rfl (lv_room hW) hd (by rw [hR.1, hR.2]; unfold cMc; omega)) hV.2.2.1 (fun q _ h => c_sub hV hA q h) (c_sub hV hA) (fun r u t H1 locs1 ht hvm hw hB hz1 hk1 hS1 => ?_)
  obtain ⟨X', dd', nn', ss', ll', gg'⟩ := u
  obtain ⟨z, rfl, hp⟩ := hw
  obtain ⟨g1, g2, g3⟩ := c_back (k1 := 0) hG hV hA ht hS1 hB
  exact W.retake g3 (kk z X' dd' nn' ss' ll' gg' H1 locs1 hp g1 g2)
theorem c_callv (E : CallFix p m c cc nL s args (c0 :: w0c) own) {y : MethodName} {bytes : ByteArray} {maxL n h f kl : Nat} {ret : Option FieldType} {Cn : String} {As : List Value} {P : va_W → (Nat → Nat) → (Nat → Int) → (Nat → Int) → (Nat → Nat) → (Nat → Int → Int) → Prop}
    (hM : Met l y (Cond.code y bytes maxL ret :: w0c) (cRm f kl LB ll) (cPc dC dI cx LB X dd nn ss ll gg H (.ref h :: As)) (cQv dC dI cx LB (va_A (bW (cx 0) LB dd nn ss ll gg X) H.size) ll H P) (cMc LB ll) (2 * cMc LB ll) (va_A (bW (cx 0) LB dd nn ss ll gg X) H.size)) (cw : CallW R s args own Cn index y bytes maxL ret (Cond.code y bytes maxL ret :: w0c) (cRm f kl LB ll) (cMc LB ll) (2 * cMc LB ll) n) (hrecv : ∃ cell : Cell, H[h]? = some cell ∧ cell.vm.isStatics = false ∧ s.vm.findClass Cn = some cell.cls)
    (hK : va_K (dC, dI) ccl (cty cx) s) (hV : cV dC dI cx LB A s.heap ll0 X dd nn ss ll gg H locs) (hA : ∀ q, s.heap.size ≤ q → A q) (hR : R.cells = cMc LB ll0 ∧ R.slots = 2 * cMc LB ll0) (hn : As.length = n) (hl : ls.size = nL) (hW : (rest.map fun v => v.category).sum ≤ 8) (hd : decode cc pc = .ok (.invokevirtual index, 3))
    (kk : ∀ (X' : va_W) (dd' : Nat → Nat) (nn' ss' : Nat → Int) (ll' : Nat → Nat) (gg' : Nat → Int → Int) (H1 : Heap) (locs1 : List Loc), P X' dd' nn' ss' ll' gg' → cV dC dI cx LB A s.heap ll0 X' dd' nn' ss' ll' gg' H1 locs1 → (∀ b ∈ LB, ll b ≤ ll' b) → W p l e R s m args below meth c H1 locs1 (cP LB ll' - cP LB ll0) (2 * (cP LB ll' - cP LB ll0)) Q (F0 m (pc + 3) ls rest)) : W p l e R s m args below meth c H locs (cP LB ll - cP LB ll0) (2 * (cP LB ll - cP LB ll0)) Q (F0 m pc ls (As.reverse ++ .ref h :: rest)) := by
  refine W.know fun hG => ?_
  have hb := cV_bd hV
  refine va_callv (va_runV (As := As) (rest := rest) E hM cw ⟨c_blind, hrecv, fun U hU hW => ⟨rfl, hU, by rw [hU]; exact hV.1, va_K.moved hW.alike hK, hV.2.1.weaken (fun _ _ _ _ => trivial), hV.2.2.2.2⟩⟩ rfl hn hl rfl (lv_room hW) hd (by rw [hR.1, hR.2]; unfold cMc; omega)) hV.2.2.1 (fun q _ h => c_sub hV hA q h) (c_sub hV hA) (fun u t H1 locs1 ht hvm hw hB hz1 hk1 hS1 => ?_)
  obtain ⟨X', dd', nn', ss', ll', gg'⟩ := u
  obtain ⟨g1, g2, g3⟩ := c_back (k1 := 0) hG hV hA ht hS1 hB
  exact W.retake g3 (kk X' dd' nn' ss' ll' gg' H1 locs1 hw g1 g2)
theorem c_callr (E : CallFix p m c cc nL s args (c0 :: w0c) own) {y : MethodName} {bytes : ByteArray} {maxL n h f kl : Nat} {ret : Option FieldType} {Cn : String} {As : List Value} {P : Nat → va_W → (Nat → Nat) → (Nat → Int) → (Nat → Int) → (Nat → Nat) → (Nat → Int → Int) → Prop}
    (hM : Met l y (Cond.code y bytes maxL ret :: w0c) (cRm f kl LB ll) (cPc dC dI cx LB X dd nn ss ll gg H (.ref h :: As)) (cQr dC dI cx LB (va_A (bW (cx 0) LB dd nn ss ll gg X) H.size) ll H P) (cMc LB ll) (2 * cMc LB ll) (va_A (bW (cx 0) LB dd nn ss ll gg X) H.size)) (cw : CallW R s args own Cn index y bytes maxL ret (Cond.code y bytes maxL ret :: w0c) (cRm f kl LB ll) (cMc LB ll) (2 * cMc LB ll) n) (hrecv : ∃ cell : Cell, H[h]? = some cell ∧ cell.vm.isStatics = false ∧ s.vm.findClass Cn = some cell.cls)
    (hK : va_K (dC, dI) ccl (cty cx) s) (hV : cV dC dI cx LB A s.heap ll0 X dd nn ss ll gg H locs) (hA : ∀ q, s.heap.size ≤ q → A q) (hR : R.cells = cMc LB ll0 ∧ R.slots = 2 * cMc LB ll0) (hn : As.length = n) (hl : ls.size = nL) (hW : (rest.map fun v => v.category).sum ≤ 8) (hd : decode cc pc = .ok (.invokevirtual index, 3))
    (kk : ∀ (a : Nat) (X' : va_W) (dd' : Nat → Nat) (nn' ss' : Nat → Int) (ll' : Nat → Nat) (gg' : Nat → Int → Int) (H1 : Heap) (locs1 : List Loc), P a X' dd' nn' ss' ll' gg' → cV dC dI cx LB A s.heap ll0 X' dd' nn' ss' ll' gg' H1 locs1 → (∀ b ∈ LB, ll b ≤ ll' b) → W p l e R s m args below meth c H1 locs1 (cP LB ll' - cP LB ll0) (2 * (cP LB ll' - cP LB ll0)) Q (F0 m (pc + 3) ls (.ref a :: rest))) : W p l e R s m args below meth c H locs (cP LB ll - cP LB ll0) (2 * (cP LB ll - cP LB ll0)) Q (F0 m pc ls (As.reverse ++ .ref h :: rest)) := by
  refine W.know fun hG => ?_
  have hb := cV_bd hV
  refine va_callr (va_runV (As := As) (rest := rest) E hM cw ⟨c_blind, hrecv, fun U hU hW => ⟨rfl, hU, by rw [hU]; exact hV.1, va_K.moved hW.alike hK, hV.2.1.weaken (fun _ _ _ _ => trivial), hV.2.2.2.2⟩⟩ rfl hn hl rfl (lv_room hW) hd (by rw [hR.1, hR.2]; unfold cMc; omega)) hV.2.2.1 (fun q _ h => c_sub hV hA q h) (c_sub hV hA) (fun u a t H1 locs1 ht hvm hw hB hz1 hk1 hS1 => ?_)
  obtain ⟨X', dd', nn', ss', ll', gg'⟩ := u
  obtain ⟨hB, hp⟩ := hB
  obtain ⟨g1, g2, g3⟩ := c_back (k1 := 0) hG hV hA ht hS1 hB
  exact W.retake g3 (kk a X' dd' nn' ss' ll' gg' H1 locs1 hp g1 g2)
/-- static methods that see the world -/
theorem c_callsi (E : CallFix p m c cc nL s args (c0 :: w0c) own) {y : MethodName} {bytes : ByteArray} {maxL n f kl : Nat} {ret : Option FieldType} {As : List Value} {P : Int → va_W → (Nat → Nat) → (Nat → Int) → (Nat → Int) → (Nat → Nat) → (Nat → Int → Int) → Prop}
    (hM : Met l y (Cond.code y bytes maxL ret :: w0c) (cRm f kl LB ll) (cPc dC dI cx LB X dd nn ss ll gg H As) (cQi dC dI cx LB (va_A (bW (cx 0) LB dd nn ss ll gg X) H.size) ll H P) (cMc LB ll) (2 * cMc LB ll) (va_A (bW (cx 0) LB dd nn ss ll gg X) H.size)) (cw : CallB R s args own index y bytes maxL ret (Cond.code y bytes maxL ret :: w0c) (cRm f kl LB ll) (cMc LB ll) (2 * cMc LB ll) n ∧ (Cond.static y).before args s = true)
    (hK : va_K (dC, dI) ccl (cty cx) s) (hV : cV dC dI cx LB A s.heap ll0 X dd nn ss ll gg H locs) (hA : ∀ q, s.heap.size ≤ q → A q) (hR : R.cells = cMc LB ll0 ∧ R.slots = 2 * cMc LB ll0) (hn : As.length = n) (hl : ls.size = nL) (hW : (rest.map fun v => v.category).sum ≤ 8) (hd : decode cc pc = .ok (.invokestatic index, 3))
    (kk : ∀ (z : Int) (X' : va_W) (dd' : Nat → Nat) (nn' ss' : Nat → Int) (ll' : Nat → Nat) (gg' : Nat → Int → Int) (H1 : Heap) (locs1 : List Loc), P z X' dd' nn' ss' ll' gg' → cV dC dI cx LB A s.heap ll0 X' dd' nn' ss' ll' gg' H1 locs1 → (∀ b ∈ LB, ll b ≤ ll' b) → W p l e R s m args below meth c H1 locs1 (cP LB ll' - cP LB ll0) (2 * (cP LB ll' - cP LB ll0)) Q (F0 m (pc + 3) ls (Iz z :: rest))) : W p l e R s m args below meth c H locs (cP LB ll - cP LB ll0) (2 * (cP LB ll - cP LB ll0)) Q (F0 m pc ls (As.reverse ++ rest)) := by
  refine W.know fun hG => ?_
  have hb := cV_bd hV
  refine va_calli (va_runS (As := As) (rest := rest) E hM cw ⟨c_blind, fun U hU hW => ⟨rfl, hU, by rw [hU]; exact hV.1, va_K.moved hW.alike hK, hV.2.1.weaken (fun _ _ _ _ => trivial), hV.2.2.2.2⟩⟩ rfl hn hl rfl (lv_room hW) hd (by rw [hR.1, hR.2]; unfold cMc; omega)) hV.2.2.1 (fun q _ h => c_sub hV hA q h) (c_sub hV hA) (fun r u t H1 locs1 ht hvm hw hB hz1 hk1 hS1 => ?_)
  obtain ⟨X', dd', nn', ss', ll', gg'⟩ := u
  obtain ⟨z, rfl, hp⟩ := hw
  obtain ⟨g1, g2, g3⟩ := c_back (k1 := 0) hG hV hA ht hS1 hB
  exact W.retake g3 (kk z X' dd' nn' ss' ll' gg' H1 locs1 hp g1 g2)
/-- the ends of a method -/
theorem c_end (hK : va_K (dC, dI) ccl (cty cx) s) (hV : cV dC dI cx LB A s.heap ll0 X dd nn ss ll gg H locs) (hG : cG s.heap H (cP LB ll - cP LB ll0) (2 * (cP LB ll - cP LB ll0))) {t : State} (ht : t.heap = H) (hW : s.WarmedH t.vm) : cBk dC dI cx LB A ll0 s.heap (X, dd, nn, ss, ll, gg) t :=
  ⟨by rw [ht]; exact hV.1, va_K.moved hW.alike hK, hV.2.1, fun b hb => ⟨hV.2.2.2.1 b hb, (hV.2.2.2.2 b hb).2⟩, by rw [ht]; exact hG⟩
theorem c_vret (hx : p.tables.exec = Jvm.exec) (hb : c.code = cc) (hr : meth.sig.returnType = none) {P : va_W → (Nat → Nat) → (Nat → Int) → (Nat → Int) → (Nat → Nat) → (Nat → Int → Int) → Prop} (hK : va_K (dC, dI) ccl (cty cx) s) (hV : cV dC dI cx LB A s.heap ll0 X dd nn ss ll gg H locs) (hp : P X dd nn ss ll gg) (hd : decode cc pc = .ok (.return_, 1)) (hlocks : meth.locks = false) : W p l e R s m args below meth c H locs (cP LB ll - cP LB ll0) (2 * (cP LB ll - cP LB ll0)) (MQ below (cQv dC dI cx LB A ll0 s.heap P) args s (cMc LB ll0) (2 * cMc LB ll0) A) (F0 m pc ls []) := by
  refine W.know fun hG => ?_
  have h1 := cV_bd hV
  refine W.widen (k := cMc LB ll0) (n := 2 * cMc LB ll0) (by unfold cMc; omega) (by unfold cMc; omega) ?_
  exact W.vret hx hb hr (fun t ht hW => ⟨⟨(X, dd, nn, ss, ll, gg), rfl, hp, c_end hK hV hG ht hW⟩, hV.2.2.1.F ht⟩) hV.2.2.1.2.2 hd hlocks
theorem c_iret (hx : p.tables.exec = Jvm.exec) (hb : c.code = cc) (hr : meth.sig.returnType = some .int) {P : Int → va_W → (Nat → Nat) → (Nat → Int) → (Nat → Int) → (Nat → Nat) → (Nat → Int → Int) → Prop} (hK : va_K (dC, dI) ccl (cty cx) s) (hV : cV dC dI cx LB A s.heap ll0 X dd nn ss ll gg H locs) {z : Int} (hp : P z X dd nn ss ll gg) (hd : decode cc pc = .ok (.ireturn, 1)) (hlocks : meth.locks = false) : W p l e R s m args below meth c H locs (cP LB ll - cP LB ll0) (2 * (cP LB ll - cP LB ll0)) (MQ below (cQi dC dI cx LB A ll0 s.heap P) args s (cMc LB ll0) (2 * cMc LB ll0) A) (F0 m pc ls [Iz z]) := by
  refine W.know fun hG => ?_
  have h1 := cV_bd hV
  refine W.widen (k := cMc LB ll0) (n := 2 * cMc LB ll0) (by unfold cMc; omega) (by unfold cMc; omega) ?_
  exact W.iret (v := Int32.ofInt z) hx hb hr (fun t ht hW => ⟨⟨_, (X, dd, nn, ss, ll, gg), rfl, ⟨z, rfl, hp⟩, c_end hK hV hG ht hW⟩, hV.2.2.1.F ht⟩) hV.2.2.1.2.2 hd hlocks
theorem c_zret (hx : p.tables.exec = Jvm.exec) (hb : c.code = cc) (hr : meth.sig.returnType = some .boolean) {P : Int → va_W → (Nat → Nat) → (Nat → Int) → (Nat → Int) → (Nat → Nat) → (Nat → Int → Int) → Prop} (hK : va_K (dC, dI) ccl (cty cx) s) (hV : cV dC dI cx LB A s.heap ll0 X dd nn ss ll gg H locs) {z : Int} (hn : narrow .boolean (.int (Int32.ofInt z)) = .int (Int32.ofInt z)) (hp : P z X dd nn ss ll gg) (hd : decode cc pc = .ok (.ireturn, 1)) (hlocks : meth.locks = false) : W p l e R s m args below meth c H locs (cP LB ll - cP LB ll0) (2 * (cP LB ll - cP LB ll0)) (MQ below (cQi dC dI cx LB A ll0 s.heap P) args s (cMc LB ll0) (2 * cMc LB ll0) A) (F0 m pc ls [Iz z]) := by
  refine W.know fun hG => ?_
  have h1 := cV_bd hV
  refine W.widen (k := cMc LB ll0) (n := 2 * cMc LB ll0) (by unfold cMc; omega) (by unfold cMc; omega) ?_
  exact W.zret (v := Int32.ofInt z) hx hb hr hn (fun t ht hW => ⟨⟨_, (X, dd, nn, ss, ll, gg), rfl, ⟨z, rfl, hp⟩, c_end hK hV hG ht hW⟩, hV.2.2.1.F ht⟩) hV.2.2.1.2.2 hd hlocks
theorem c_lret (hx : p.tables.exec = Jvm.exec) (hb : c.code = cc) (hr : meth.sig.returnType = some .long) {P : Int → va_W → (Nat → Nat) → (Nat → Int) → (Nat → Int) → (Nat → Nat) → (Nat → Int → Int) → Prop} (hK : va_K (dC, dI) ccl (cty cx) s) (hV : cV dC dI cx LB A s.heap ll0 X dd nn ss ll gg H locs) {z : Int} (hp : P z X dd nn ss ll gg) (hd : decode cc pc = .ok (.lreturn, 1)) (hlocks : meth.locks = false) : W p l e R s m args below meth c H locs (cP LB ll - cP LB ll0) (2 * (cP LB ll - cP LB ll0)) (MQ below (cQl dC dI cx LB A ll0 s.heap P) args s (cMc LB ll0) (2 * cMc LB ll0) A) (F0 m pc ls [Jz z]) := by
  refine W.know fun hG => ?_
  have h1 := cV_bd hV
  refine W.widen (k := cMc LB ll0) (n := 2 * cMc LB ll0) (by unfold cMc; omega) (by unfold cMc; omega) ?_
  exact W.lret (v := Int64.ofInt z) hx hb hr (fun t ht hW => ⟨⟨_, (X, dd, nn, ss, ll, gg), rfl, ⟨z, rfl, hp⟩, c_end hK hV hG ht hW⟩, hV.2.2.1.F ht⟩) hV.2.2.1.2.2 hd hlocks
theorem c_aret (hx : p.tables.exec = Jvm.exec) (hb : c.code = cc) {rt : FieldType} (hr : meth.sig.returnType = some rt) (hrt : (∃ n, rt = .object n) ∨ ∃ t, rt = .array t) {P : Nat → va_W → (Nat → Nat) → (Nat → Int) → (Nat → Int) → (Nat → Nat) → (Nat → Int → Int) → Prop} (hK : va_K (dC, dI) ccl (cty cx) s) (hV : cV dC dI cx LB A s.heap ll0 X dd nn ss ll gg H locs) {a : Nat} (hp : P a X dd nn ss ll gg) (hd : decode cc pc = .ok (.areturn, 1)) (hlocks : meth.locks = false) : W p l e R s m args below meth c H locs (cP LB ll - cP LB ll0) (2 * (cP LB ll - cP LB ll0)) (MQ below (cQr dC dI cx LB A ll0 s.heap P) args s (cMc LB ll0) (2 * cMc LB ll0) A) (F0 m pc ls [.ref a]) := by
  refine W.know fun hG => ?_
  have h1 := cV_bd hV
  refine W.widen (k := cMc LB ll0) (n := 2 * cMc LB ll0) (by unfold cMc; omega) (by unfold cMc; omega) ?_
  exact W.aret (v := .ref a) hx hb hr hrt (Or.inr ⟨a, rfl⟩) (fun t ht hW => ⟨⟨(X, dd, nn, ss, ll, gg), a, rfl, trivial, c_end hK hV hG ht hW, hp⟩, hV.2.2.1.F ht⟩) hV.2.2.1.2.2 hd hlocks
end CRows
