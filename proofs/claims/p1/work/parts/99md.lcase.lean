set_option maxHeartbeats 4000000 in
set_option maxRecDepth 100000 in
theorem lc_power {p : Program} {l : Launch} {e : Env} {s : State} {m : MethodId} {below : List Frame} {meth : Method} {c : Code} {b : Nat} {xs : Nat → Int32} {dC : Nat → ClassId} {dI : Nat → Nat → Nat} {cx : Nat → Nat} {eC : Nat → ClassId} {eI : Nat → Nat → Nat} {cI cJ cB cZ : Nat} {H : Heap} {locs : List Loc} {ls : Array Slot} {h0 h1 q3 n1 n2 : Nat} {mo : Int} (C : LA p l s m c b xs dC dI cx eC eI cI cJ cB cZ) (Z : LZ dC dI cx eC eI cI cJ cB cZ s b H locs ls h0 h1 q3 n1 n2 mo) (T : LT p l e s m below meth c b) : W p l e room_1 s m #[Value.ref b] below meth c H locs 5000 6200000 (lw_Z below #[Value.ref b] s) (F0 m 425 ls []) := by
  obtain ⟨hx, hb, hml, hown, hts, hXs, hbl, hK, hKr, hC, hCX, hCY, hCZ, hlt⟩ := C
  obtain ⟨hS, hl, hF, hR, hP3, hn3, hn1, hn2, hm1, hm2⟩ := Z
  refine hF.elim (fun LB LP pc_ pd co X dd nn ss ll gg v cp vs nu tol pi_ ti_ fr stk t0 no pa s0 zo tx bu bv bw bs le rl rh ta tb tq tt tu tw tm ch ug uh uq ut uu ra rp rq xp xw xk xf xy xb hP hD hll hM h_ar h_fr mle h_nu h_tol hO hN h_s0 hU hTo hSt hNo h_ra h_rp h_rq nap naq_ npq h_ch hcp hcj mrl srl crl mrh srh crh mbu sbu cbu nlh hfc h_tx h_xp => ?_)
  have hsub : ∀ q, va_A (bW (cx 0) LB dd nn ss ll gg (pW cx LP pc_ pd co X)) H.size q → (fun q : Nat => s.heap.size ≤ q) q := fun q h => by
    rcases h with ⟨k, e0, h⟩ | h
    · exact (hD.2 k _ h).1
    · exact Nat.le_trans hS.1 h
  have hkeep : ∀ q, n1 ≤ q → q < H.size → ¬ va_A (bW (cx 0) LB dd nn ss ll gg (pW cx LP pc_ pd co X)) H.size q := fun q h1 h2 h => by
    rcases h with ⟨k, e0, h⟩ | h
    · have := (hD.2 k _ h).2; dsimp only at this; omega
    · omega
  obtain ⟨ad, hPr, hDr⟩ := hR
  have hDw : va_D (fun q : Nat => s.heap.size ≤ q) (mW h1 ad cI cJ cB cZ (fup (fun _ => 0) 25 mo) (fun _ _ => 0)) := hDr.weaken (fun k q _ h => Nat.le_trans hn1 h.1)
  have hbA : ¬ (fun q : Nat => s.heap.size ≤ q) b := Nat.not_le.mpr hbl
  have hA : ∀ q : Nat, s.heap.size ≤ q → (fun q : Nat => s.heap.size ≤ q) q := fun _ h => h
  refine lv_aload_n hx hb dL_law_425 rfl (lv_at hl 1 rfl) ?_
  refine L_ld (j := 2) (v := 1) (w := 2) hx hb hXs hbl hbA hS (lv_sub hl [0, 4] rfl) dL_law_426 dL_law_427 dL_law_429 dL_law_430 dL_law_431 rfl (by decide) (by unfold vp_in; decide) (by decide) ?_
  refine L_ld (j := 3) (v := 2) (w := 3) hx hb hXs hbl hbA hS (lv_sub hl [0, 4] rfl) dL_law_432 dL_law_433 dL_law_435 dL_law_436 dL_law_437 rfl (by decide) (by unfold vp_in; decide) (by decide) ?_
  refine L_calli (As := [Iz (xs 2).toInt, Iz (xs 3).toInt]) (rest := []) ⟨hx, hb, hml, hown, hts⟩ (k11_power (l := l) (dC := dC) (dI := dI) (cx := cx) (ia := (xs 2).toInt) (ib := (xs 3).toInt) h_ar h_nu h_tol ((i32_lo _)) ((i32_hi _)) ((i32_lo _)) ((i32_hi _))) (cwV 2 hts (lgV w0c_gd (w0L_gd _ ll_61).1 (wT_gd _ ti_X11_power).1 (wT_gd _ te_X11_power).1 (w0L_gd _ ln_RX11).1 cc_X11_power) rfl rfl rfl (by decide +kernel) ⟨Nat.le_of_ble_eq_true rfl, Nat.le_of_ble_eq_true rfl⟩) (L_preC hK hP hD hll (pW_x h_ar) _) hS hsub rfl hl.1 (Nat.le_of_ble_eq_true rfl) dL_law_438 ⟨(show 5000 + (cMc LB ll + 0) ≤ 193330 by omega), (show 6200000 + (2 * cMc LB ll + 0) ≤ 8521466 by omega)⟩ (fun z1 H1 locs1 hz1 hsz hk1 hS => ?_)
  obtain ⟨-, -, -, -, -, -, rfl⟩ := hz1
  have hPr : va_P (eC, eI) rcl (mW h1 ad cI cJ cB cZ (fup (fun _ => 0) 25 mo) (fun _ _ => 0)) H1 := va_P_iff.mpr fun q hq => (va_P_iff.mp hPr q hq).kept (hk1 q.1 (va_P_iff.mp hPr q hq).lt (hkeep q.1 ((va_D_iff.mp hDr).2 q hq).1 (va_P_iff.mp hPr q hq).lt))
  refine W.widen (k := 100000) (n := 6400000) (by omega) (by omega) ?_
  refine lv_aload_n hx hb dL_law_441 rfl (lv_at hl 2 rfl) ?_
  refine L_ld (j := 2) (v := 1) (w := 2) hx hb hXs hbl hbA hS (lv_sub hl [0, 4] rfl) dL_law_442 dL_law_443 dL_law_445 dL_law_446 dL_law_447 rfl (by decide) (by unfold vp_in; decide) (by decide) ?_
  refine L_ld (j := 3) (v := 2) (w := 3) hx hb hXs hbl hbA hS (lv_sub hl [0, 4] rfl) dL_law_448 dL_law_449 dL_law_451 dL_law_452 dL_law_453 rfl (by decide) (by unfold vp_in; decide) (by decide) ?_
  refine R_calli (As := [Iz (xs 2).toInt, Iz (xs 3).toInt]) (rest := [Iz _]) ⟨hx, hb, hml, hown, hts⟩ (c_power (l := l) (dC := eC) (dI := eI) (cI := cI) (cJ := cJ) (cB := cB) (cZ := cZ) (h0 := h1) (ad := ad) (F := (fup (fun _ => 0) 25 mo)) (ar := (fun _ _ => 0)) (ia := (xs 2).toInt) (ib := (xs 3).toInt) rfl rfl (i32_lo _) (i32_hi _) (i32_lo _) (i32_hi _)) (cwV 2 hts (lgV w0r_gd (w0L_gd _ ll_64).1 (wT_gd _ ti_X12_power).1 (wT_gd _ te_X12_power).1 (w0L_gd _ ln_RX12).1 mc_power) rfl rfl rfl (by decide +kernel) ⟨Nat.le_of_ble_eq_true rfl, Nat.le_of_ble_eq_true rfl⟩) hKr hPr hDw hS hA rfl hl.1 (Nat.le_of_ble_eq_true rfl) dL_law_454 ⟨Nat.le_of_ble_eq_true rfl, Nat.le_of_ble_eq_true rfl⟩ (fun z2 F2 ar2 H2 locs2 hz2 hPr2 hsz2 hk2 hS2 => ?_)
  obtain ⟨rfl, -⟩ := hz2
  refine lv_icmp_eq (tgt := 1388) hx hb dL_law_457 (by decide) (fun _ => ?_) (fun q => absurd rfl q)
  exact T H2 locs2 ls hS2 (lv_sub hl [0, 4] rfl)
set_option maxHeartbeats 4000000 in
set_option maxRecDepth 100000 in
theorem lc_value {p : Program} {l : Launch} {e : Env} {s : State} {m : MethodId} {below : List Frame} {meth : Method} {c : Code} {b : Nat} {xs : Nat → Int32} {dC : Nat → ClassId} {dI : Nat → Nat → Nat} {cx : Nat → Nat} {eC : Nat → ClassId} {eI : Nat → Nat → Nat} {cI cJ cB cZ : Nat} {H : Heap} {locs : List Loc} {ls : Array Slot} {h0 h1 q3 n1 n2 : Nat} {mo : Int} (C : LA p l s m c b xs dC dI cx eC eI cI cJ cB cZ) (Z : LZ dC dI cx eC eI cI cJ cB cZ s b H locs ls h0 h1 q3 n1 n2 mo) (T : LT p l e s m below meth c b) : W p l e room_1 s m #[Value.ref b] below meth c H locs 5000 6200000 (lw_Z below #[Value.ref b] s) (F0 m 633 ls []) := by
  obtain ⟨hx, hb, hml, hown, hts, hXs, hbl, hK, hKr, hC, hCX, hCY, hCZ, hlt⟩ := C
  obtain ⟨hS, hl, hF, hR, hP3, hn3, hn1, hn2, hm1, hm2⟩ := Z
  refine hF.elim (fun LB LP pc_ pd co X dd nn ss ll gg v cp vs nu tol pi_ ti_ fr stk t0 no pa s0 zo tx bu bv bw bs le rl rh ta tb tq tt tu tw tm ch ug uh uq ut uu ra rp rq xp xw xk xf xy xb hP hD hll hM h_ar h_fr mle h_nu h_tol hO hN h_s0 hU hTo hSt hNo h_ra h_rp h_rq nap naq_ npq h_ch hcp hcj mrl srl crl mrh srh crh mbu sbu cbu nlh hfc h_tx h_xp => ?_)
  have hsub : ∀ q, va_A (bW (cx 0) LB dd nn ss ll gg (pW cx LP pc_ pd co X)) H.size q → (fun q : Nat => s.heap.size ≤ q) q := fun q h => by
    rcases h with ⟨k, e0, h⟩ | h
    · exact (hD.2 k _ h).1
    · exact Nat.le_trans hS.1 h
  have hkeep : ∀ q, n1 ≤ q → q < H.size → ¬ va_A (bW (cx 0) LB dd nn ss ll gg (pW cx LP pc_ pd co X)) H.size q := fun q h1 h2 h => by
    rcases h with ⟨k, e0, h⟩ | h
    · have := (hD.2 k _ h).2; dsimp only at this; omega
    · omega
  obtain ⟨ad, hPr, hDr⟩ := hR
  have hDw : va_D (fun q : Nat => s.heap.size ≤ q) (mW h1 ad cI cJ cB cZ (fup (fun _ => 0) 25 mo) (fun _ _ => 0)) := hDr.weaken (fun k q _ h => Nat.le_trans hn1 h.1)
  have hbA : ¬ (fun q : Nat => s.heap.size ≤ q) b := Nat.not_le.mpr hbl
  have hA : ∀ q : Nat, s.heap.size ≤ q → (fun q : Nat => s.heap.size ≤ q) q := fun _ h => h
  refine lv_aload_n hx hb dL_law_633 rfl (lv_at hl 1 rfl) ?_
  refine L_ld (j := 2) (v := 1) (w := 2) hx hb hXs hbl hbA hS (lv_sub hl [0, 4] rfl) dL_law_634 dL_law_635 dL_law_637 dL_law_638 dL_law_639 rfl (by decide) (by unfold vp_in; decide) (by decide) ?_
  refine L_ld (j := 3) (v := 2) (w := 3) hx hb hXs hbl hbA hS (lv_sub hl [0, 4] rfl) dL_law_640 dL_law_641 dL_law_643 dL_law_644 dL_law_645 rfl (by decide) (by unfold vp_in; decide) (by decide) ?_
  refine L_calli (As := [Iz (xs 2).toInt, Iz (xs 3).toInt]) (rest := []) ⟨hx, hb, hml, hown, hts⟩ (k11_value (l := l) (dC := dC) (dI := dI) (cx := cx) (ia := (xs 2).toInt) (ib := (xs 3).toInt) h_ar h_nu h_tol ((i32_lo _)) ((i32_hi _)) ((i32_lo _)) ((i32_hi _))) (cwV 2 hts (lgV w0c_gd (w0L_gd _ ll_78).1 (wT_gd _ ti_X11_value).1 (wT_gd _ te_X11_value).1 (w0L_gd _ ln_RX11).1 cc_X11_value) rfl rfl rfl (by decide +kernel) ⟨Nat.le_of_ble_eq_true rfl, Nat.le_of_ble_eq_true rfl⟩) (L_preC hK hP hD hll (pW_x h_ar) _) hS hsub rfl hl.1 (Nat.le_of_ble_eq_true rfl) dL_law_646 ⟨(show 5000 + (cMc LB ll + 0) ≤ 193330 by omega), (show 6200000 + (2 * cMc LB ll + 0) ≤ 8521466 by omega)⟩ (fun z1 H1 locs1 hz1 hsz hk1 hS => ?_)
  obtain ⟨-, -, -, -, -, -, rfl⟩ := hz1
  have hPr : va_P (eC, eI) rcl (mW h1 ad cI cJ cB cZ (fup (fun _ => 0) 25 mo) (fun _ _ => 0)) H1 := va_P_iff.mpr fun q hq => (va_P_iff.mp hPr q hq).kept (hk1 q.1 (va_P_iff.mp hPr q hq).lt (hkeep q.1 ((va_D_iff.mp hDr).2 q hq).1 (va_P_iff.mp hPr q hq).lt))
  refine W.widen (k := 100000) (n := 6400000) (by omega) (by omega) ?_
  refine lv_aload_n hx hb dL_law_649 rfl (lv_at hl 2 rfl) ?_
  refine L_ld (j := 2) (v := 1) (w := 2) hx hb hXs hbl hbA hS (lv_sub hl [0, 4] rfl) dL_law_650 dL_law_651 dL_law_653 dL_law_654 dL_law_655 rfl (by decide) (by unfold vp_in; decide) (by decide) ?_
  refine L_ld (j := 3) (v := 2) (w := 3) hx hb hXs hbl hbA hS (lv_sub hl [0, 4] rfl) dL_law_656 dL_law_657 dL_law_659 dL_law_660 dL_law_661 rfl (by decide) (by unfold vp_in; decide) (by decide) ?_
  refine R_calli (As := [Iz (xs 2).toInt, Iz (xs 3).toInt]) (rest := [Iz _]) ⟨hx, hb, hml, hown, hts⟩ (c_value (l := l) (dC := eC) (dI := eI) (cI := cI) (cJ := cJ) (cB := cB) (cZ := cZ) (h0 := h1) (ad := ad) (F := (fup (fun _ => 0) 25 mo)) (ar := (fun _ _ => 0)) (ia := (xs 2).toInt) (ib := (xs 3).toInt) rfl rfl (i32_lo _) (i32_hi _) (i32_lo _) (i32_hi _)) (cwV 2 hts (lgV w0r_gd (w0L_gd _ ll_81).1 (wT_gd _ ti_X12_value).1 (wT_gd _ te_X12_value).1 (w0L_gd _ ln_RX12).1 mc_value) rfl rfl rfl (by decide +kernel) ⟨Nat.le_of_ble_eq_true rfl, Nat.le_of_ble_eq_true rfl⟩) hKr hPr hDw hS hA rfl hl.1 (Nat.le_of_ble_eq_true rfl) dL_law_662 ⟨Nat.le_of_ble_eq_true rfl, Nat.le_of_ble_eq_true rfl⟩ (fun z2 F2 ar2 H2 locs2 hz2 hPr2 hsz2 hk2 hS2 => ?_)
  obtain ⟨rfl, -⟩ := hz2
  refine lv_icmp_eq (tgt := 1388) hx hb dL_law_665 (by decide) (fun _ => ?_) (fun q => absurd rfl q)
  exact T H2 locs2 ls hS2 (lv_sub hl [0, 4] rfl)
set_option maxHeartbeats 4000000 in
set_option maxRecDepth 100000 in
theorem lc_drop {p : Program} {l : Launch} {e : Env} {s : State} {m : MethodId} {below : List Frame} {meth : Method} {c : Code} {b : Nat} {xs : Nat → Int32} {dC : Nat → ClassId} {dI : Nat → Nat → Nat} {cx : Nat → Nat} {eC : Nat → ClassId} {eI : Nat → Nat → Nat} {cI cJ cB cZ : Nat} {H : Heap} {locs : List Loc} {ls : Array Slot} {h0 h1 q3 n1 n2 : Nat} {mo : Int} (C : LA p l s m c b xs dC dI cx eC eI cI cJ cB cZ) (Z : LZ dC dI cx eC eI cI cJ cB cZ s b H locs ls h0 h1 q3 n1 n2 mo) (T : LT p l e s m below meth c b) : W p l e room_1 s m #[Value.ref b] below meth c H locs 5000 6200000 (lw_Z below #[Value.ref b] s) (F0 m 757 ls []) := by
  obtain ⟨hx, hb, hml, hown, hts, hXs, hbl, hK, hKr, hC, hCX, hCY, hCZ, hlt⟩ := C
  obtain ⟨hS, hl, hF, hR, hP3, hn3, hn1, hn2, hm1, hm2⟩ := Z
  refine hF.elim (fun LB LP pc_ pd co X dd nn ss ll gg v cp vs nu tol pi_ ti_ fr stk t0 no pa s0 zo tx bu bv bw bs le rl rh ta tb tq tt tu tw tm ch ug uh uq ut uu ra rp rq xp xw xk xf xy xb hP hD hll hM h_ar h_fr mle h_nu h_tol hO hN h_s0 hU hTo hSt hNo h_ra h_rp h_rq nap naq_ npq h_ch hcp hcj mrl srl crl mrh srh crh mbu sbu cbu nlh hfc h_tx h_xp => ?_)
  have hsub : ∀ q, va_A (bW (cx 0) LB dd nn ss ll gg (pW cx LP pc_ pd co X)) H.size q → (fun q : Nat => s.heap.size ≤ q) q := fun q h => by
    rcases h with ⟨k, e0, h⟩ | h
    · exact (hD.2 k _ h).1
    · exact Nat.le_trans hS.1 h
  have hkeep : ∀ q, n1 ≤ q → q < H.size → ¬ va_A (bW (cx 0) LB dd nn ss ll gg (pW cx LP pc_ pd co X)) H.size q := fun q h1 h2 h => by
    rcases h with ⟨k, e0, h⟩ | h
    · have := (hD.2 k _ h).2; dsimp only at this; omega
    · omega
  obtain ⟨ad, hPr, hDr⟩ := hR
  have hDw : va_D (fun q : Nat => s.heap.size ≤ q) (mW h1 ad cI cJ cB cZ (fup (fun _ => 0) 25 mo) (fun _ _ => 0)) := hDr.weaken (fun k q _ h => Nat.le_trans hn1 h.1)
  have hbA : ¬ (fun q : Nat => s.heap.size ≤ q) b := Nat.not_le.mpr hbl
  have hA : ∀ q : Nat, s.heap.size ≤ q → (fun q : Nat => s.heap.size ≤ q) q := fun _ h => h
  refine lv_aload_n hx hb dL_law_757 rfl (lv_at hl 1 rfl) ?_
  refine L_calli (As := []) (rest := []) ⟨hx, hb, hml, hown, hts⟩ (k11_drop (l := l) (dC := dC) (dI := dI) (cx := cx)  h_ar h_nu h_tol) (cwV 0 hts (lgV w0c_gd (w0L_gd _ ll_94).1 (wT_gd _ ti_X11_drop).1 (wT_gd _ te_X11_drop).1 (w0L_gd _ ln_RX11).1 cc_X11_drop) rfl rfl rfl (by decide +kernel) ⟨Nat.le_of_ble_eq_true rfl, Nat.le_of_ble_eq_true rfl⟩) (L_preC hK hP hD hll (pW_x h_ar) _) hS hsub rfl hl.1 (Nat.le_of_ble_eq_true rfl) dL_law_758 ⟨(show 5000 + (cMc LB ll + 0) ≤ 193330 by omega), (show 6200000 + (2 * cMc LB ll + 0) ≤ 8521466 by omega)⟩ (fun z1 H1 locs1 hz1 hsz hk1 hS => ?_)
  obtain ⟨-, -, -, -, -, -, rfl⟩ := hz1
  have hPr : va_P (eC, eI) rcl (mW h1 ad cI cJ cB cZ (fup (fun _ => 0) 25 mo) (fun _ _ => 0)) H1 := va_P_iff.mpr fun q hq => (va_P_iff.mp hPr q hq).kept (hk1 q.1 (va_P_iff.mp hPr q hq).lt (hkeep q.1 ((va_D_iff.mp hDr).2 q hq).1 (va_P_iff.mp hPr q hq).lt))
  refine W.widen (k := 100000) (n := 6400000) (by omega) (by omega) ?_
  refine lv_aload_n hx hb dL_law_761 rfl (lv_at hl 2 rfl) ?_
  refine R_calli (As := []) (rest := [Iz _]) ⟨hx, hb, hml, hown, hts⟩ (c_drop (l := l) (dC := eC) (dI := eI) (cI := cI) (cJ := cJ) (cB := cB) (cZ := cZ) (h0 := h1) (ad := ad) (F := (fup (fun _ => 0) 25 mo)) (ar := (fun _ _ => 0))  rfl rfl) (cwV 0 hts (lgV w0r_gd (w0L_gd _ ll_97).1 (wT_gd _ ti_X12_drop).1 (wT_gd _ te_X12_drop).1 (w0L_gd _ ln_RX12).1 mc_drop) rfl rfl rfl (by decide +kernel) ⟨Nat.le_of_ble_eq_true rfl, Nat.le_of_ble_eq_true rfl⟩) hKr hPr hDw hS hA rfl hl.1 (Nat.le_of_ble_eq_true rfl) dL_law_762 ⟨Nat.le_of_ble_eq_true rfl, Nat.le_of_ble_eq_true rfl⟩ (fun z2 F2 ar2 H2 locs2 hz2 hPr2 hsz2 hk2 hS2 => ?_)
  obtain ⟨rfl, -⟩ := hz2
  refine lv_icmp_eq (tgt := 1388) hx hb dL_law_765 (by decide) (fun _ => ?_) (fun q => absurd rfl q)
  exact T H2 locs2 ls hS2 (lv_sub hl [0, 4] rfl)
set_option maxHeartbeats 4000000 in
set_option maxRecDepth 100000 in
theorem lc_within {p : Program} {l : Launch} {e : Env} {s : State} {m : MethodId} {below : List Frame} {meth : Method} {c : Code} {b : Nat} {xs : Nat → Int32} {dC : Nat → ClassId} {dI : Nat → Nat → Nat} {cx : Nat → Nat} {eC : Nat → ClassId} {eI : Nat → Nat → Nat} {cI cJ cB cZ : Nat} {H : Heap} {locs : List Loc} {ls : Array Slot} {h0 h1 q3 n1 n2 : Nat} {mo : Int} (C : LA p l s m c b xs dC dI cx eC eI cI cJ cB cZ) (Z : LZ dC dI cx eC eI cI cJ cB cZ s b H locs ls h0 h1 q3 n1 n2 mo) (T : LT p l e s m below meth c b) : W p l e room_1 s m #[Value.ref b] below meth c H locs 5000 6200000 (lw_Z below #[Value.ref b] s) (F0 m 869 ls []) := by
  obtain ⟨hx, hb, hml, hown, hts, hXs, hbl, hK, hKr, hC, hCX, hCY, hCZ, hlt⟩ := C
  obtain ⟨hS, hl, hF, hR, hP3, hn3, hn1, hn2, hm1, hm2⟩ := Z
  refine hF.elim (fun LB LP pc_ pd co X dd nn ss ll gg v cp vs nu tol pi_ ti_ fr stk t0 no pa s0 zo tx bu bv bw bs le rl rh ta tb tq tt tu tw tm ch ug uh uq ut uu ra rp rq xp xw xk xf xy xb hP hD hll hM h_ar h_fr mle h_nu h_tol hO hN h_s0 hU hTo hSt hNo h_ra h_rp h_rq nap naq_ npq h_ch hcp hcj mrl srl crl mrh srh crh mbu sbu cbu nlh hfc h_tx h_xp => ?_)
  have hsub : ∀ q, va_A (bW (cx 0) LB dd nn ss ll gg (pW cx LP pc_ pd co X)) H.size q → (fun q : Nat => s.heap.size ≤ q) q := fun q h => by
    rcases h with ⟨k, e0, h⟩ | h
    · exact (hD.2 k _ h).1
    · exact Nat.le_trans hS.1 h
  have hkeep : ∀ q, n1 ≤ q → q < H.size → ¬ va_A (bW (cx 0) LB dd nn ss ll gg (pW cx LP pc_ pd co X)) H.size q := fun q h1 h2 h => by
    rcases h with ⟨k, e0, h⟩ | h
    · have := (hD.2 k _ h).2; dsimp only at this; omega
    · omega
  obtain ⟨ad, hPr, hDr⟩ := hR
  have hDw : va_D (fun q : Nat => s.heap.size ≤ q) (mW h1 ad cI cJ cB cZ (fup (fun _ => 0) 25 mo) (fun _ _ => 0)) := hDr.weaken (fun k q _ h => Nat.le_trans hn1 h.1)
  have hbA : ¬ (fun q : Nat => s.heap.size ≤ q) b := Nat.not_le.mpr hbl
  have hA : ∀ q : Nat, s.heap.size ≤ q → (fun q : Nat => s.heap.size ≤ q) q := fun _ h => h
  refine lv_aload_n hx hb dL_law_869 rfl (lv_at hl 1 rfl) ?_
  refine L_ld (j := 2) (v := 1) (w := 2) hx hb hXs hbl hbA hS (lv_sub hl [0, 4] rfl) dL_law_870 dL_law_871 dL_law_873 dL_law_874 dL_law_875 rfl (by decide) (by unfold vp_in; decide) (by decide) ?_
  refine L_ld (j := 3) (v := 2) (w := 3) hx hb hXs hbl hbA hS (lv_sub hl [0, 4] rfl) dL_law_876 dL_law_877 dL_law_879 dL_law_880 dL_law_881 rfl (by decide) (by unfold vp_in; decide) (by decide) ?_
  refine L_calli (As := [Iz (xs 2).toInt, Iz (xs 3).toInt]) (rest := []) ⟨hx, hb, hml, hown, hts⟩ (k11_within (l := l) (dC := dC) (dI := dI) (cx := cx) (ia := (xs 2).toInt) (ib := (xs 3).toInt) h_ar h_nu h_tol ((i32_lo _)) ((i32_hi _)) ((i32_lo _)) ((i32_hi _))) (cwV 2 hts (lgV w0c_gd (w0L_gd _ ll_111).1 (wT_gd _ ti_X11_within).1 (wT_gd _ te_X11_within).1 (w0L_gd _ ln_RX11).1 cc_X11_within) rfl rfl rfl (by decide +kernel) ⟨Nat.le_of_ble_eq_true rfl, Nat.le_of_ble_eq_true rfl⟩) (L_preC hK hP hD hll (pW_x h_ar) _) hS hsub rfl hl.1 (Nat.le_of_ble_eq_true rfl) dL_law_882 ⟨(show 5000 + (cMc LB ll + 0) ≤ 193330 by omega), (show 6200000 + (2 * cMc LB ll + 0) ≤ 8521466 by omega)⟩ (fun z1 H1 locs1 hz1 hsz hk1 hS => ?_)
  obtain ⟨-, -, -, -, -, -, rfl⟩ := hz1
  have hPr : va_P (eC, eI) rcl (mW h1 ad cI cJ cB cZ (fup (fun _ => 0) 25 mo) (fun _ _ => 0)) H1 := va_P_iff.mpr fun q hq => (va_P_iff.mp hPr q hq).kept (hk1 q.1 (va_P_iff.mp hPr q hq).lt (hkeep q.1 ((va_D_iff.mp hDr).2 q hq).1 (va_P_iff.mp hPr q hq).lt))
  refine W.widen (k := 100000) (n := 6400000) (by omega) (by omega) ?_
  refine lv_aload_n hx hb dL_law_885 rfl (lv_at hl 2 rfl) ?_
  refine L_ld (j := 2) (v := 1) (w := 2) hx hb hXs hbl hbA hS (lv_sub hl [0, 4] rfl) dL_law_886 dL_law_887 dL_law_889 dL_law_890 dL_law_891 rfl (by decide) (by unfold vp_in; decide) (by decide) ?_
  refine L_ld (j := 3) (v := 2) (w := 3) hx hb hXs hbl hbA hS (lv_sub hl [0, 4] rfl) dL_law_892 dL_law_893 dL_law_895 dL_law_896 dL_law_897 rfl (by decide) (by unfold vp_in; decide) (by decide) ?_
  refine R_calli (As := [Iz (xs 2).toInt, Iz (xs 3).toInt]) (rest := [Iz _]) ⟨hx, hb, hml, hown, hts⟩ (c_within (l := l) (dC := eC) (dI := eI) (cI := cI) (cJ := cJ) (cB := cB) (cZ := cZ) (h0 := h1) (ad := ad) (F := (fup (fun _ => 0) 25 mo)) (ar := (fun _ _ => 0)) (ia := (xs 2).toInt) (ib := (xs 3).toInt) rfl rfl (i32_lo _) (i32_hi _) (i32_lo _) (i32_hi _)) (cwV 2 hts (lgV w0r_gd (w0L_gd _ ll_114).1 (wT_gd _ ti_X12_within).1 (wT_gd _ te_X12_within).1 (w0L_gd _ ln_RX12).1 mc_within) rfl rfl rfl (by decide +kernel) ⟨Nat.le_of_ble_eq_true rfl, Nat.le_of_ble_eq_true rfl⟩) hKr hPr hDw hS hA rfl hl.1 (Nat.le_of_ble_eq_true rfl) dL_law_898 ⟨Nat.le_of_ble_eq_true rfl, Nat.le_of_ble_eq_true rfl⟩ (fun z2 F2 ar2 H2 locs2 hz2 hPr2 hsz2 hk2 hS2 => ?_)
  obtain ⟨rfl, -⟩ := hz2
  refine lv_icmp_eq (tgt := 1388) hx hb dL_law_901 (by decide) (fun _ => ?_) (fun q => absurd rfl q)
  exact T H2 locs2 ls hS2 (lv_sub hl [0, 4] rfl)
set_option maxHeartbeats 4000000 in
set_option maxRecDepth 100000 in
theorem lc_between {p : Program} {l : Launch} {e : Env} {s : State} {m : MethodId} {below : List Frame} {meth : Method} {c : Code} {b : Nat} {xs : Nat → Int32} {dC : Nat → ClassId} {dI : Nat → Nat → Nat} {cx : Nat → Nat} {eC : Nat → ClassId} {eI : Nat → Nat → Nat} {cI cJ cB cZ : Nat} {H : Heap} {locs : List Loc} {ls : Array Slot} {h0 h1 q3 n1 n2 : Nat} {mo : Int} (C : LA p l s m c b xs dC dI cx eC eI cI cJ cB cZ) (Z : LZ dC dI cx eC eI cI cJ cB cZ s b H locs ls h0 h1 q3 n1 n2 mo) (T : LT p l e s m below meth c b) : W p l e room_1 s m #[Value.ref b] below meth c H locs 5000 6200000 (lw_Z below #[Value.ref b] s) (F0 m 1025 ls []) := by
  obtain ⟨hx, hb, hml, hown, hts, hXs, hbl, hK, hKr, hC, hCX, hCY, hCZ, hlt⟩ := C
  obtain ⟨hS, hl, hF, hR, hP3, hn3, hn1, hn2, hm1, hm2⟩ := Z
  refine hF.elim (fun LB LP pc_ pd co X dd nn ss ll gg v cp vs nu tol pi_ ti_ fr stk t0 no pa s0 zo tx bu bv bw bs le rl rh ta tb tq tt tu tw tm ch ug uh uq ut uu ra rp rq xp xw xk xf xy xb hP hD hll hM h_ar h_fr mle h_nu h_tol hO hN h_s0 hU hTo hSt hNo h_ra h_rp h_rq nap naq_ npq h_ch hcp hcj mrl srl crl mrh srh crh mbu sbu cbu nlh hfc h_tx h_xp => ?_)
  have hsub : ∀ q, va_A (bW (cx 0) LB dd nn ss ll gg (pW cx LP pc_ pd co X)) H.size q → (fun q : Nat => s.heap.size ≤ q) q := fun q h => by
    rcases h with ⟨k, e0, h⟩ | h
    · exact (hD.2 k _ h).1
    · exact Nat.le_trans hS.1 h
  have hkeep : ∀ q, n1 ≤ q → q < H.size → ¬ va_A (bW (cx 0) LB dd nn ss ll gg (pW cx LP pc_ pd co X)) H.size q := fun q h1 h2 h => by
    rcases h with ⟨k, e0, h⟩ | h
    · have := (hD.2 k _ h).2; dsimp only at this; omega
    · omega
  obtain ⟨ad, hPr, hDr⟩ := hR
  have hDw : va_D (fun q : Nat => s.heap.size ≤ q) (mW h1 ad cI cJ cB cZ (fup (fun _ => 0) 25 mo) (fun _ _ => 0)) := hDr.weaken (fun k q _ h => Nat.le_trans hn1 h.1)
  have hbA : ¬ (fun q : Nat => s.heap.size ≤ q) b := Nat.not_le.mpr hbl
  have hA : ∀ q : Nat, s.heap.size ≤ q → (fun q : Nat => s.heap.size ≤ q) q := fun _ h => h
  refine lv_aload_n hx hb dL_law_1025 rfl (lv_at hl 1 rfl) ?_
  refine L_ld (j := 2) (v := 1) (w := 2) hx hb hXs hbl hbA hS (lv_sub hl [0, 4] rfl) dL_law_1026 dL_law_1027 dL_law_1029 dL_law_1030 dL_law_1031 rfl (by decide) (by unfold vp_in; decide) (by decide) ?_
  refine L_ld (j := 3) (v := 2) (w := 3) hx hb hXs hbl hbA hS (lv_sub hl [0, 4] rfl) dL_law_1032 dL_law_1033 dL_law_1035 dL_law_1036 dL_law_1037 rfl (by decide) (by unfold vp_in; decide) (by decide) ?_
  refine L_ld (j := 4) (v := 3) (w := 4) hx hb hXs hbl hbA hS (lv_sub hl [0, 4] rfl) dL_law_1038 dL_law_1039 dL_law_1041 dL_law_1042 dL_law_1043 rfl (by decide) (by unfold vp_in; decide) (by decide) ?_
  refine L_calli (As := [Iz (xs 2).toInt, Iz (xs 3).toInt, Iz (xs 4).toInt]) (rest := []) ⟨hx, hb, hml, hown, hts⟩ (k11_between (l := l) (dC := dC) (dI := dI) (cx := cx) (ia := (xs 2).toInt) (ib := (xs 3).toInt) (ic := (xs 4).toInt) h_ar h_nu h_tol ((i32_lo _)) ((i32_hi _)) ((i32_lo _)) ((i32_hi _)) ((i32_lo _)) ((i32_hi _))) (cwV 3 hts (lgV w0c_gd (w0L_gd _ ll_128).1 (wT_gd _ ti_X11_between).1 (wT_gd _ te_X11_between).1 (w0L_gd _ ln_RX11).1 cc_X11_between) rfl rfl rfl (by decide +kernel) ⟨Nat.le_of_ble_eq_true rfl, Nat.le_of_ble_eq_true rfl⟩) (L_preC hK hP hD hll (pW_x h_ar) _) hS hsub rfl hl.1 (Nat.le_of_ble_eq_true rfl) dL_law_1044 ⟨(show 5000 + (cMc LB ll + 0) ≤ 193330 by omega), (show 6200000 + (2 * cMc LB ll + 0) ≤ 8521466 by omega)⟩ (fun z1 H1 locs1 hz1 hsz hk1 hS => ?_)
  obtain ⟨-, -, -, -, -, -, rfl⟩ := hz1
  have hPr : va_P (eC, eI) rcl (mW h1 ad cI cJ cB cZ (fup (fun _ => 0) 25 mo) (fun _ _ => 0)) H1 := va_P_iff.mpr fun q hq => (va_P_iff.mp hPr q hq).kept (hk1 q.1 (va_P_iff.mp hPr q hq).lt (hkeep q.1 ((va_D_iff.mp hDr).2 q hq).1 (va_P_iff.mp hPr q hq).lt))
  refine W.widen (k := 100000) (n := 6400000) (by omega) (by omega) ?_
  refine lv_aload_n hx hb dL_law_1047 rfl (lv_at hl 2 rfl) ?_
  refine L_ld (j := 2) (v := 1) (w := 2) hx hb hXs hbl hbA hS (lv_sub hl [0, 4] rfl) dL_law_1048 dL_law_1049 dL_law_1051 dL_law_1052 dL_law_1053 rfl (by decide) (by unfold vp_in; decide) (by decide) ?_
  refine L_ld (j := 3) (v := 2) (w := 3) hx hb hXs hbl hbA hS (lv_sub hl [0, 4] rfl) dL_law_1054 dL_law_1055 dL_law_1057 dL_law_1058 dL_law_1059 rfl (by decide) (by unfold vp_in; decide) (by decide) ?_
  refine L_ld (j := 4) (v := 3) (w := 4) hx hb hXs hbl hbA hS (lv_sub hl [0, 4] rfl) dL_law_1060 dL_law_1061 dL_law_1063 dL_law_1064 dL_law_1065 rfl (by decide) (by unfold vp_in; decide) (by decide) ?_
  refine R_calli (As := [Iz (xs 2).toInt, Iz (xs 3).toInt, Iz (xs 4).toInt]) (rest := [Iz _]) ⟨hx, hb, hml, hown, hts⟩ (c_between (l := l) (dC := eC) (dI := eI) (cI := cI) (cJ := cJ) (cB := cB) (cZ := cZ) (h0 := h1) (ad := ad) (F := (fup (fun _ => 0) 25 mo)) (ar := (fun _ _ => 0)) (ia := (xs 2).toInt) (ib := (xs 3).toInt) (ic := (xs 4).toInt) rfl rfl (i32_lo _) (i32_hi _) (i32_lo _) (i32_hi _) (i32_lo _) (i32_hi _)) (cwV 3 hts (lgV w0r_gd (w0L_gd _ ll_131).1 (wT_gd _ ti_X12_between).1 (wT_gd _ te_X12_between).1 (w0L_gd _ ln_RX12).1 mc_between) rfl rfl rfl (by decide +kernel) ⟨Nat.le_of_ble_eq_true rfl, Nat.le_of_ble_eq_true rfl⟩) hKr hPr hDw hS hA rfl hl.1 (Nat.le_of_ble_eq_true rfl) dL_law_1066 ⟨Nat.le_of_ble_eq_true rfl, Nat.le_of_ble_eq_true rfl⟩ (fun z2 F2 ar2 H2 locs2 hz2 hPr2 hsz2 hk2 hS2 => ?_)
  obtain ⟨rfl, -⟩ := hz2
  refine lv_icmp_eq (tgt := 1388) hx hb dL_law_1069 (by decide) (fun _ => ?_) (fun q => absurd rfl q)
  exact T H2 locs2 ls hS2 (lv_sub hl [0, 4] rfl)
set_option maxHeartbeats 4000000 in
set_option maxRecDepth 100000 in
theorem lc_writeLeast {p : Program} {l : Launch} {e : Env} {s : State} {m : MethodId} {below : List Frame} {meth : Method} {c : Code} {b : Nat} {xs : Nat → Int32} {dC : Nat → ClassId} {dI : Nat → Nat → Nat} {cx : Nat → Nat} {eC : Nat → ClassId} {eI : Nat → Nat → Nat} {cI cJ cB cZ : Nat} {H : Heap} {locs : List Loc} {ls : Array Slot} {h0 h1 q3 n1 n2 : Nat} {mo : Int} (C : LA p l s m c b xs dC dI cx eC eI cI cJ cB cZ) (Z : LZ dC dI cx eC eI cI cJ cB cZ s b H locs ls h0 h1 q3 n1 n2 mo) (T : LT p l e s m below meth c b) : W p l e room_1 s m #[Value.ref b] below meth c H locs 5000 6200000 (lw_Z below #[Value.ref b] s) (F0 m 1173 ls []) := by
  obtain ⟨hx, hb, hml, hown, hts, hXs, hbl, hK, hKr, hC, hCX, hCY, hCZ, hlt⟩ := C
  obtain ⟨hS, hl, hF, hR, hP3, hn3, hn1, hn2, hm1, hm2⟩ := Z
  refine hF.elim (fun LB LP pc_ pd co X dd nn ss ll gg v cp vs nu tol pi_ ti_ fr stk t0 no pa s0 zo tx bu bv bw bs le rl rh ta tb tq tt tu tw tm ch ug uh uq ut uu ra rp rq xp xw xk xf xy xb hP hD hll hM h_ar h_fr mle h_nu h_tol hO hN h_s0 hU hTo hSt hNo h_ra h_rp h_rq nap naq_ npq h_ch hcp hcj mrl srl crl mrh srh crh mbu sbu cbu nlh hfc h_tx h_xp => ?_)
  have hsub : ∀ q, va_A (bW (cx 0) LB dd nn ss ll gg (pW cx LP pc_ pd co X)) H.size q → (fun q : Nat => s.heap.size ≤ q) q := fun q h => by
    rcases h with ⟨k, e0, h⟩ | h
    · exact (hD.2 k _ h).1
    · exact Nat.le_trans hS.1 h
  have hkeep : ∀ q, n1 ≤ q → q < H.size → ¬ va_A (bW (cx 0) LB dd nn ss ll gg (pW cx LP pc_ pd co X)) H.size q := fun q h1 h2 h => by
    rcases h with ⟨k, e0, h⟩ | h
    · have := (hD.2 k _ h).2; dsimp only at this; omega
    · omega
  obtain ⟨ad, hPr, hDr⟩ := hR
  have hDw : va_D (fun q : Nat => s.heap.size ≤ q) (mW h1 ad cI cJ cB cZ (fup (fun _ => 0) 25 mo) (fun _ _ => 0)) := hDr.weaken (fun k q _ h => Nat.le_trans hn1 h.1)
  have hbA : ¬ (fun q : Nat => s.heap.size ≤ q) b := Nat.not_le.mpr hbl
  have hA : ∀ q : Nat, s.heap.size ≤ q → (fun q : Nat => s.heap.size ≤ q) q := fun _ h => h
  refine lv_aload_n hx hb dL_law_1173 rfl (lv_at hl 1 rfl) ?_
  refine L_ld (j := 2) (v := 1) (w := 2) hx hb hXs hbl hbA hS (lv_sub hl [0, 4] rfl) dL_law_1174 dL_law_1175 dL_law_1177 dL_law_1178 dL_law_1179 rfl (by decide) (by unfold vp_in; decide) (by decide) ?_
  refine L_calli (As := [Iz (xs 2).toInt]) (rest := []) ⟨hx, hb, hml, hown, hts⟩ (k11_writeLeast (l := l) (dC := dC) (dI := dI) (cx := cx) (ia := (xs 2).toInt) h_ar h_nu h_tol ((i32_lo _)) ((i32_hi _))) (cwV 1 hts (lgV w0c_gd (w0L_gd _ ll_144).1 (wT_gd _ ti_X11_writeLeast).1 (wT_gd _ te_X11_writeLeast).1 (w0L_gd _ ln_RX11).1 cc_X11_writeLeast) rfl rfl rfl (by decide +kernel) ⟨Nat.le_of_ble_eq_true rfl, Nat.le_of_ble_eq_true rfl⟩) (L_preC hK hP hD hll (pW_x h_ar) _) hS hsub rfl hl.1 (Nat.le_of_ble_eq_true rfl) dL_law_1180 ⟨(show 5000 + (cMc LB ll + 0) ≤ 193330 by omega), (show 6200000 + (2 * cMc LB ll + 0) ≤ 8521466 by omega)⟩ (fun z1 H1 locs1 hz1 hsz hk1 hS => ?_)
  obtain ⟨-, -, -, -, -, -, rfl⟩ := hz1
  have hPr : va_P (eC, eI) rcl (mW h1 ad cI cJ cB cZ (fup (fun _ => 0) 25 mo) (fun _ _ => 0)) H1 := va_P_iff.mpr fun q hq => (va_P_iff.mp hPr q hq).kept (hk1 q.1 (va_P_iff.mp hPr q hq).lt (hkeep q.1 ((va_D_iff.mp hDr).2 q hq).1 (va_P_iff.mp hPr q hq).lt))
  refine W.widen (k := 100000) (n := 6400000) (by omega) (by omega) ?_
  refine lv_aload_n hx hb dL_law_1183 rfl (lv_at hl 2 rfl) ?_
  refine L_ld (j := 2) (v := 1) (w := 2) hx hb hXs hbl hbA hS (lv_sub hl [0, 4] rfl) dL_law_1184 dL_law_1185 dL_law_1187 dL_law_1188 dL_law_1189 rfl (by decide) (by unfold vp_in; decide) (by decide) ?_
  refine R_calli (As := [Iz (xs 2).toInt]) (rest := [Iz _]) ⟨hx, hb, hml, hown, hts⟩ (c_writeLeast (l := l) (dC := eC) (dI := eI) (cI := cI) (cJ := cJ) (cB := cB) (cZ := cZ) (h0 := h1) (ad := ad) (F := (fup (fun _ => 0) 25 mo)) (ar := (fun _ _ => 0)) (ia := (xs 2).toInt) rfl rfl (i32_lo _) (i32_hi _)) (cwV 1 hts (lgV w0r_gd (w0L_gd _ ll_147).1 (wT_gd _ ti_X12_writeLeast).1 (wT_gd _ te_X12_writeLeast).1 (w0L_gd _ ln_RX12).1 mc_writeLeast) rfl rfl rfl (by decide +kernel) ⟨Nat.le_of_ble_eq_true rfl, Nat.le_of_ble_eq_true rfl⟩) hKr hPr hDw hS hA rfl hl.1 (Nat.le_of_ble_eq_true rfl) dL_law_1190 ⟨Nat.le_of_ble_eq_true rfl, Nat.le_of_ble_eq_true rfl⟩ (fun z2 F2 ar2 H2 locs2 hz2 hPr2 hsz2 hk2 hS2 => ?_)
  obtain ⟨rfl, -⟩ := hz2
  refine lv_icmp_eq (tgt := 1388) hx hb dL_law_1193 (by decide) (fun _ => ?_) (fun q => absurd rfl q)
  exact T H2 locs2 ls hS2 (lv_sub hl [0, 4] rfl)
