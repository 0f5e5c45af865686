section LStart
theorem ka_p {s : State} {args : Array Value} {ty : FieldType} (h : (Cond.arrayClass ty).before args s = true) : ∃ cA : Nat, ArrOfT s cA ty ∧ s.vm.findClass ("[" ++ ty.toString) = some cA := by
  obtain ⟨cA, kA, comp, h1, h2, h3⟩ := Cond.arrayClass_spec h
  exact ⟨cA, fun n z => ⟨fun k h => (by cases h), kA, h2, comp, h3⟩, h1⟩
theorem ka_o {s : State} {C : String} (h : va_AO C s) : ∃ cA : Nat, ArrOfT s cA (.object C) ∧ va_RA s cA (.object C) := by
  obtain ⟨comp, c, k, h1, h2, h3, h4, h5⟩ := Cond.arrayOver_spec h
  exact ⟨c, fun n z => ⟨fun k h => (by cases h), k, h3, comp, h4⟩, k, comp, h3, h4, h1, h5⟩
/-- words of the start that no callee may ask for: by the tables' own pieces -/
theorem nest_t : ∀ w ∈ nestL.map (fun w => Cond.methodLinkNest w.1 w.2.1 w.2.2 RX11), w ∈ lw_tbl := by decide +kernel
theorem ao_t : ∀ w ∈ [Cond.arrayOver (.object RX0), Cond.arrayOver (.object RX4), Cond.arrayOver (.object RX5), Cond.arrayOver (.object RX6), Cond.arrayOver (.array .long), Cond.castable "java/lang/ArithmeticException" "java/lang/ArithmeticException", Cond.castable "java/lang/IllegalArgumentException" "java/lang/IllegalArgumentException", Cond.initialized Bundle.tN, Cond.laysStatic Bundle.tN "UNASSIGNED_STACK" Bundle.steD, Cond.laysStatic Bundle.tN "SUPPRESSED_SENTINEL" Bundle.listD], w ∈ lw_tbl := by decide +kernel
theorem exA_t : ∀ w ∈ exA, w ∈ tables_1_11 ∨ w ∈ tables_1_1 ∨ w ∈ lw_tbl := by decide +kernel
theorem exI_t : ∀ w ∈ exI, w ∈ tables_1_11 ∨ w ∈ tables_1_1 ∨ w ∈ lw_tbl := by decide +kernel
theorem ex_tbl {w : Cond} (h : w ∈ tables_1_11 ∨ w ∈ tables_1_1 ∨ w ∈ lw_tbl) : w ∈ lw_tbl := h.elim (fun h => lwT_in 11 w h) fun h => h.elim (fun h => lwT_in 1 w h) id
variable {s : State} {b : Nat}
theorem st_CN (hts : ∀ w ∈ lw_tbl, w.before #[Value.ref b] s = true) : CN s :=
  ⟨fun w hw => va_Nw.of rfl (hts _ (nest_t _ (List.mem_map_of_mem hw))), va_AO.of (hts _ (ao_t _ (List.mem_of_getElem? (i := 0) rfl))), va_AO.of (hts _ (ao_t _ (List.mem_of_getElem? (i := 1) rfl))), va_AO.of (hts _ (ao_t _ (List.mem_of_getElem? (i := 2) rfl))), va_AO.of (hts _ (ao_t _ (List.mem_of_getElem? (i := 3) rfl))), hts _ (ao_t _ (List.mem_of_getElem? (i := 4) rfl))⟩
theorem st_CX (hts : ∀ w ∈ lw_tbl, w.before #[Value.ref b] s = true) : CX s :=
  ⟨fun w hw => vx_ot_at (State.WarmedH.refl s) rfl (exA_ot w hw) (hts w (ex_tbl (exA_t w hw))), fun w hw => vx_ot_at (State.WarmedH.refl s) rfl (exI_ot w hw) (hts w (ex_tbl (exI_t w hw)))⟩
theorem st_CY (hts : ∀ w ∈ lw_tbl, w.before #[Value.ref b] s = true) : CY s :=
  ⟨va_Nw.of rfl (hts _ (ao_t _ (List.mem_of_getElem? (i := 5) rfl))), va_Nw.of rfl (hts _ (ao_t _ (List.mem_of_getElem? (i := 6) rfl)))⟩
theorem st_CZ (hts : ∀ w ∈ lw_tbl, w.before #[Value.ref b] s = true) (hgv : (Jvm.Cond.and given_1 narrow_1).before #[Value.ref b] s = true) : CZ (fun q => s.heap.size ≤ q) s s.heap :=
  ⟨vx_Zqof (hts _ (ao_t _ (List.mem_of_getElem? (i := 8) rfl))) (hts _ (ao_t _ (List.mem_of_getElem? (i := 7) rfl))) (flat_of_before _ hgv _ (by decide +kernel)) (fun a h => Nat.not_le.mpr h), vx_Zqof (hts _ (ao_t _ (List.mem_of_getElem? (i := 9) rfl))) (hts _ (ao_t _ (List.mem_of_getElem? (i := 7) rfl))) (flat_of_before _ hgv _ (by decide +kernel)) (fun a h => Nat.not_le.mpr h)⟩
theorem st_lt {l : Launch} (h : l.flags = flags0) : l.stackTraces = false := by
  unfold Launch.stackTraces
  rw [h]
  decide +kernel
set_option maxHeartbeats 4000000 in
/-- the class's classes and rows, as the start has them -/
theorem st_K (hts : ∀ w ∈ lw_tbl, w.before #[Value.ref b] s = true) : ∃ (dC : Nat → ClassId) (dI : Nat → Nat → Nat) (cx : Nat → Nat), va_K (dC, dI) ccl (cty cx) s := by
  have key : ∀ k : Nat, ∃ (cC : ClassId) (iS : Nat → Nat), ∀ q : vw_C, ccl[k]? = some q → u_Kn s q.1 q.2.1 q.2.2 cC iS := by
    intro k
    match k with
    | 0 => obtain ⟨c, i, h⟩ := u_known (C := RX0) (T := TX0) (N := 3) (n := 3) hts wsX00_t (hts _ (w0c_gd _ cw_X0).1); exact ⟨c, i, fun q h9 => by cases h9; exact h⟩
    | 1 => obtain ⟨c, i, h⟩ := u_known (C := RX1) (T := TX1) (N := 9) (n := 9) hts wsX10_t (hts _ (w0c_gd _ cw_X1).1); exact ⟨c, i, fun q h9 => by cases h9; exact h⟩
    | 2 => obtain ⟨c, i, h⟩ := u_known (C := RX2) (T := TX2) (N := 19) (n := 19) hts wsX20_t (hts _ (w0c_gd _ cw_X2).1); exact ⟨c, i, fun q h9 => by cases h9; exact h⟩
    | 3 => obtain ⟨c, i, h⟩ := u_known (C := RX3) (T := TX3) (N := 19) (n := 19) hts wsX30_t (hts _ (w0c_gd _ cw_X3).1); exact ⟨c, i, fun q h9 => by cases h9; exact h⟩
    | 4 => obtain ⟨c, i, h⟩ := u_known (C := RX4) (T := TX4) (N := 2) (n := 2) hts wsX40_t (hts _ (w0c_gd _ cw_X4).1); exact ⟨c, i, fun q h9 => by cases h9; exact h⟩
    | 5 => obtain ⟨c, i, h⟩ := u_known (C := RX5) (T := TX5) (N := 7) (n := 7) hts wsX50_t (hts _ (w0c_gd _ cw_X5).1); exact ⟨c, i, fun q h9 => by cases h9; exact h⟩
    | 6 => obtain ⟨c, i, h⟩ := u_known (C := RX6) (T := TX6) (N := 2) (n := 2) hts wsX60_t (hts _ (w0c_gd _ cw_X6).1); exact ⟨c, i, fun q h9 => by cases h9; exact h⟩
    | 7 => obtain ⟨c, i, h⟩ := u_known (C := RX7) (T := TX7) (N := 10) (n := 10) hts wsX70_t (hts _ (w0c_gd _ cw_X7).1); exact ⟨c, i, fun q h9 => by cases h9; exact h⟩
    | 8 => obtain ⟨c, i, h⟩ := u_known (C := RX8) (T := TX8) (N := 15) (n := 15) hts wsX80_t (hts _ (w0c_gd _ cw_X8).1); exact ⟨c, i, fun q h9 => by cases h9; exact h⟩
    | 9 => obtain ⟨c, i, h⟩ := u_known (C := RX9) (T := TX9) (N := 8) (n := 8) hts wsX90_t (hts _ (w0c_gd _ cw_X9).1); exact ⟨c, i, fun q h9 => by cases h9; exact h⟩
    | 10 => obtain ⟨c, i, h⟩ := u_known (C := RX10) (T := TX10) (N := 21) (n := 21) hts wsX100_t (hts _ (w0c_gd _ cw_X10).1); exact ⟨c, i, fun q h9 => by cases h9; exact h⟩
    | 11 => obtain ⟨c, i, h⟩ := u_known (C := RX11) (T := TX11) (N := 20) (n := 20) hts wsX110_t (hts _ (w0L_gd _ lw_RX11).1); exact ⟨c, i, fun q h9 => by cases h9; exact h⟩
    | k + 12 => exact ⟨0, fun _ => 0, fun q h9 => by simp [ccl] at h9⟩
  have hN := st_CN hts
  obtain ⟨x0, a0, b0⟩ := ka_p (ty := .int) (hts _ (w0c_gd _ car_int).1)
  obtain ⟨x1, a1, b1⟩ := ka_p (ty := .long) (hts _ (w0c_gd _ car_long).1)
  obtain ⟨x2, a2, b2⟩ := ka_o hN.2.1
  obtain ⟨x3, a3, b3⟩ := ka_o hN.2.2.1
  obtain ⟨x4, a4, b4⟩ := ka_o hN.2.2.2.1
  obtain ⟨x5, a5, b5⟩ := ka_o hN.2.2.2.2.1
  refine ⟨fun k => Classical.choose (key k), fun k => Classical.choose (Classical.choose_spec (key k)), fun k => match k with | 0 => x0 | 1 => x1 | 2 => x2 | 3 => x3 | 4 => x4 | _ => x5, fun k q h => Classical.choose_spec (Classical.choose_spec (key k)) q h, fun k q hk => ?_⟩
  match k, hk with
  | 0, hk => cases hk; exact ⟨a0, b0⟩
  | 1, hk => cases hk; exact ⟨a1, b1⟩
  | 2, hk => cases hk; exact ⟨a2, b2⟩
  | 3, hk => cases hk; exact ⟨a3, b3⟩
  | 4, hk => cases hk; exact ⟨a4, b4⟩
  | 5, hk => cases hk; exact ⟨a5, b5⟩
  | k + 6, hk => simp [cty] at hk
theorem st_Kr (hts : ∀ w ∈ lw_tbl, w.before #[Value.ref b] s = true) : ∃ (eC : Nat → ClassId) (eI : Nat → Nat → Nat) (cI cJ cB cZ : Nat), va_K (eC, eI) rcl (rty cI cJ cB cZ) s := by
  obtain ⟨c, i, h⟩ := u_known (C := RX12) (T := TX12) (N := 81) (n := 81) hts wsX120_t (hts _ (w0L_gd _ lw_RX12).1)
  obtain ⟨x0, a0, b0⟩ := ka_p (ty := .int) (hts _ (w0r_gd _ mar_int).1)
  obtain ⟨x1, a1, b1⟩ := ka_p (ty := .long) (hts _ (w0r_gd _ mar_long).1)
  obtain ⟨x2, a2, b2⟩ := ka_p (ty := .byte) (hts _ (w0r_gd _ mar_byte).1)
  obtain ⟨x3, a3, b3⟩ := ka_p (ty := .boolean) (hts _ (w0r_gd _ mar_boolean).1)
  refine ⟨fun _ => c, fun _ => i, x0, x1, x2, x3, fun k q hk => ?_, fun k q hk => ?_⟩
  · match k, hk with
    | 0, hk => cases hk; exact h
    | k + 1, hk => simp [rcl] at hk
  · match k, hk with
    | 0, hk => cases hk; exact ⟨a0, b0⟩
    | 1, hk => cases hk; exact ⟨a1, b1⟩
    | 2, hk => cases hk; exact ⟨a2, b2⟩
    | 3, hk => cases hk; exact ⟨a3, b3⟩
    | k + 4, hk => simp [rty] at hk
end LStart
