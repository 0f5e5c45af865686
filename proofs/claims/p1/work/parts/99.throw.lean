section CThrow
abbrev exNs : List String := ["java/lang/RuntimeException", "java/lang/Exception"]
/-- the words of the two throws of the class on its road -/
abbrev exA : List Cond := Cond.classLink RX11 109 "java/lang/ArithmeticException" :: Cond.initialized "java/lang/ArithmeticException" :: vx_at0 RX11 111 "java/lang/ArithmeticException" exNs
abbrev exI : List Cond := Cond.classLink RX11 362 "java/lang/IllegalArgumentException" :: Cond.initialized "java/lang/IllegalArgumentException" :: vx_at0 RX11 364 "java/lang/IllegalArgumentException" exNs
theorem exA_ot : ∀ w ∈ exA, vx_ot w = true := List.all_eq_true.mp (by decide +kernel)
theorem exI_ot : ∀ w ∈ exI, vx_ot w = true := List.all_eq_true.mp (by decide +kernel)
/-- they hold; carried as a fact about the state, for some of them no callee may ask by its words -/
def CX (U : State) : Prop := (∀ w ∈ exA, w.before #[] U = true) ∧ ∀ w ∈ exI, w.before #[] U = true
theorem CX.at1 {s : State} {args : Array Value} (h : CX s) : ∀ w ∈ exA, w.before args s = true := fun w hw => vx_ot_at (args := #[]) (State.WarmedH.refl s) rfl (exA_ot w hw) (h.1 w hw)
theorem CX.at2 {s : State} {args : Array Value} (h : CX s) : ∀ w ∈ exI, w.before args s = true := fun w hw => vx_ot_at (args := #[]) (State.WarmedH.refl s) rfl (exI_ot w hw) (h.2 w hw)
/-- the two statics that a throw reads -/
def CZ (A : Nat → Prop) (U : State) (H : Heap) : Prop := vx_Zq Bundle.tN "UNASSIGNED_STACK" Bundle.steD A U H ∧ vx_Zq Bundle.tN "SUPPRESSED_SENTINEL" Bundle.listD A U H
set_option maxHeartbeats 4000000 in
set_option maxRecDepth 100000 in
/-- fraction() of a low that is 0 throws -/
theorem x11_fraction0 {l : Launch} (hlt : l.stackTraces = false) {ar : Nat} {up : Int} {H0 : Heap} : vx_Met l yX11_fraction (Cond.code yX11_fraction cX11_fraction 5 (some .int) :: w0c) (nRm 6 100 1 6) (va_Pc [.ref ar, Jz up, Jz 0] (fun U => U.heap = H0 ∧ CX U ∧ CZ (fun q => H0.size ≤ q) U U.heap)) (va_Qi (fun (_ : Int32) (_ : Unit) => False) (fun _ _ => True) (fun q => H0.size ≤ q)) (vx_X (fun (_ : Unit) => True) (fun E _ _ => E = "java/lang/ArithmeticException") (fun q => H0.size ≤ q)) 1 6 (fun q => H0.size ≤ q) := by
  refine vx_ofW (cc := cX11_fraction) (maxL := 5) (ret := (some .int)) (by decide) rfl (fun p e s m args below meth c s₁ B hml ht hv => ?_)
  obtain ⟨rfl, hH0, hX, hZ⟩ := hv
  have hx := B.exec
  have hb := B.bytes
  have hown : s.vm.findClass RX11 = some m.cls := findClass_of_methodNamed B.named
  have hlocks := B.notSynchronized
  subst hH0
  have hl := lv_entry ([.ref ar, Jz up, Jz 0]) (n := 5) (Nat.le_of_ble_eq_true rfl)
  rw [lg_entry_eq]
  generalize (lg_sl ([.ref ar, Jz up, Jz 0]) ++ List.replicate (5 - (lg_sl ([.ref ar, Jz up, Jz 0])).length) Slot.unset).toArray = ls at hl ⊢
  have hl : lv_has ls 5 [(0, .ref ar), (1, Jz up), (3, Jz 0)] := hl
  refine lv_lload_n hx hb dX11_fraction_0 rfl (lv_at hl 2 rfl) ?_
  refine lv_lconst (v := Int64.ofInt 0) hx hb dX11_fraction_1 rfl ?_
  refine g_lcmp hx hb ⟨by decide, by decide⟩ ⟨by decide, by decide⟩ dX11_fraction_2 ?_
  refine g_if_ne (tgt := 14) hx hb (g_cmp_i 0 0) dX11_fraction_3 (by decide) (fun c_3 => absurd (by decide) c_3) (fun c_3 => ?_)
  have hA := hX.at1 (args := #[.ref ar, Jz up, Jz 0])
  exact vx_throw0 (names := exNs) (A := fun q => s.heap.size ≤ q) hx hb hlt hown (by decide +kernel) (by decide +kernel) (hA _ List.mem_cons_self) (hA _ (List.mem_cons_of_mem _ List.mem_cons_self)) (fun w hw => hA w (List.mem_cons_of_mem _ (List.mem_cons_of_mem _ hw))) exA_ot hZ.1 hZ.2 va_S.rf (hl.1.trans hml.symm) dX11_fraction_6 dX11_fraction_9 dX11_fraction_10 dX11_fraction_13 (fun x hx => (ht x hx).elim) (Nat.le_of_ble_eq_true rfl) (Nat.le_of_ble_eq_true rfl) (Nat.le_of_ble_eq_true rfl) (Nat.le_of_ble_eq_true rfl) hlocks (fun t _ h1 h2 => ⟨(), trivial, rfl, h1, fun q hq _ => h2 q hq⟩) (fun z hz => nomatch hz) (Nat.le_refl _) (Nat.le_refl _)
set_option maxHeartbeats 4000000 in
set_option maxRecDepth 100000 in
/-- end() of a number that is not 0 throws while nothing was fed -/
theorem x11_end1 {l : Launch} (hlt : l.stackTraces = false) {dC : Nat → ClassId} {dI : Nat → Nat → Nat} {cx : Nat → Nat} {ar nu tol pi_ ti_ fr stk t0 no pa s0 zo tx bu bv bw bs xp xw xk xf xs xb : Nat} {mo lng sp_ ps tok pla nm wr hd_ ia : Int} {H0 : Heap} (i0 : -2147483648 ≤ ia) (i1 : ia ≤ 2147483647) (iz : ia ≠ 0) : vx_Met l yX11_end (Cond.code yX11_end cX11_end 2 none :: w0c) (nRm 6 100 1 6) (va_Pc [.ref ar, Iz ia] (fun U => U.heap = H0 ∧ va_P (dC, dI) ccl [(ar, .inr (11, [Iz mo, .ref nu, Iz 0, .ref tol, Iz 0, .ref pi_, .ref ti_, Iz 0, .ref fr, .ref stk, .ref t0, .ref no, .ref pa, .ref s0, .ref zo, .ref tx, .ref bu, .ref bv, .ref bw, .ref bs])), (tx, .inr (8, [.ref xp, .ref xw, Iz 0, Iz lng, Iz sp_, .ref xk, .ref xf, .ref xs, Iz ps, Iz tok, Iz pla, Iz nm, Iz wr, Iz hd_, .ref xb]))] U.heap ∧ va_K (dC, dI) ccl (cty cx) U ∧ CX U ∧ CZ (fun q => H0.size ≤ q) U U.heap)) (va_Qv (fun (_ : Unit) => False) (fun _ _ => True) (fun q => H0.size ≤ q)) (vx_X (fun (_ : Unit) => True) (fun E _ _ => E = "java/lang/IllegalArgumentException") (fun q => H0.size ≤ q)) 1 6 (fun q => H0.size ≤ q) := by
  refine vx_ofW (cc := cX11_end) (maxL := 2) (ret := none) (by decide) rfl (fun p e s m args below meth c s₁ B hml ht hv => ?_)
  obtain ⟨rfl, hH0, hP, hK, hX, hZ⟩ := hv
  have hx := B.exec
  have hb := B.bytes
  have hts := atoms_spec (ws := Cond.code yX11_end cX11_end 2 none :: w0c) B.pre
  have hown : s.vm.findClass RX11 = some m.cls := findClass_of_methodNamed B.named
  have hlocks := B.notSynchronized
  subst hH0
  have hl := lv_entry ([.ref ar, Iz ia]) (n := 2) (Nat.le_of_ble_eq_true rfl)
  rw [lg_entry_eq]
  generalize (lg_sl ([.ref ar, Iz ia]) ++ List.replicate (2 - (lg_sl ([.ref ar, Iz ia])).length) Slot.unset).toArray = ls at hl ⊢
  have hl : lv_has ls 2 [(0, .ref ar), (1, Iz ia)] := hl
  have hA := hX.at2 (args := #[.ref ar, Iz ia])
  refine lv_iload_n hx hb dX11_end_0 rfl (lv_at hl 1 rfl) ?_
  refine g_if_lt (tgt := 15) hx hb ⟨by omega, by omega⟩ dX11_end_1 (by decide) (fun c_1 => ?_) (fun c_1 => ?_)
  · exact vx_throw0 (names := exNs) (A := fun q => s.heap.size ≤ q) hx hb hlt hown (by decide +kernel) (by decide +kernel) (hA _ List.mem_cons_self) (hA _ (List.mem_cons_of_mem _ List.mem_cons_self)) (fun w hw => hA w (List.mem_cons_of_mem _ (List.mem_cons_of_mem _ hw))) exI_ot hZ.1 hZ.2 va_S.rf (hl.1.trans hml.symm) dX11_end_15 dX11_end_18 dX11_end_19 dX11_end_22 (fun x hx => (ht x hx).elim) (Nat.le_of_ble_eq_true rfl) (Nat.le_of_ble_eq_true rfl) (Nat.le_of_ble_eq_true rfl) (Nat.le_of_ble_eq_true rfl) hlocks (fun t _ h1 h2 => ⟨(), trivial, rfl, h1, fun q hq _ => h2 q hq⟩) (fun z hz => nomatch hz) (Nat.le_refl _) (Nat.le_refl _)
  · refine lv_iload_n hx hb dX11_end_4 rfl (lv_at hl 1 rfl) ?_
    refine lv_aload_n hx hb dX11_end_5 rfl (lv_at hl 0 rfl) ?_
    refine va_get (D := (dC, dI)) (ci := 11) (C := RX11) (T := TX11) (N := 20) hx hb hts (fun w h => List.mem_cons_of_mem _ (w0c_in11 w h)) hown hK hP 0 rfl rfl 15 (by decide) (hts _ (List.mem_cons_of_mem _ cf_11_76)) (fun _ h9 => h9) rfl dX11_end_6 ?_
    refine va_get (D := (dC, dI)) (ci := 8) (C := RX8) (T := TX8) (N := 15) hx hb hts (fun w h => List.mem_cons_of_mem _ (w0c_in8 w h)) hown hK hP 1 rfl rfl 2 (by decide) (hts _ (List.mem_cons_of_mem _ cf_11_352)) (fun _ h9 => h9) rfl dX11_end_9 ?_
    refine g_icmp_le (tgt := 23) hx hb ⟨by omega, by omega⟩ ⟨by decide, by decide⟩ dX11_end_12 (by decide) (fun c_2 => by omega) (fun c_2 => ?_)
    exact vx_throw0 (names := exNs) (A := fun q => s.heap.size ≤ q) hx hb hlt hown (by decide +kernel) (by decide +kernel) (hA _ List.mem_cons_self) (hA _ (List.mem_cons_of_mem _ List.mem_cons_self)) (fun w hw => hA w (List.mem_cons_of_mem _ (List.mem_cons_of_mem _ hw))) exI_ot hZ.1 hZ.2 va_S.rf (hl.1.trans hml.symm) dX11_end_15 dX11_end_18 dX11_end_19 dX11_end_22 (fun x hx => (ht x hx).elim) (Nat.le_of_ble_eq_true rfl) (Nat.le_of_ble_eq_true rfl) (Nat.le_of_ble_eq_true rfl) (Nat.le_of_ble_eq_true rfl) hlocks (fun t _ h1 h2 => ⟨(), trivial, rfl, h1, fun q hq _ => h2 q hq⟩) (fun z hz => nomatch hz) (Nat.le_refl _) (Nat.le_refl _)
end CThrow
