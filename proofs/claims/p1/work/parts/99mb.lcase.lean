set_option maxHeartbeats 4000000 in
set_option maxRecDepth 100000 in
theorem lc_apply {p : Program} {l : Launch} {e : Env} {s : State} {m : MethodId} {below : List Frame} {meth : Method} {c : Code} {b : Nat} {xs : Nat → Int32} {dC : Nat → ClassId} {dI : Nat → Nat → Nat} {cx : Nat → Nat} {eC : Nat → ClassId} {eI : Nat → Nat → Nat} {cI cJ cB cZ : Nat} {H : Heap} {locs : List Loc} {ls : Array Slot} {h0 h1 q3 n1 n2 : Nat} {mo : Int} (C : LA p l s m c b xs dC dI cx eC eI cI cJ cB cZ) (Z : LZ dC dI cx eC eI cI cJ cB cZ s b H locs ls h0 h1 q3 n1 n2 mo) (T : LT p l e s m below meth c b) : W p l e room_1 s m #[Value.ref b] below meth c H locs 5000 6200000 (lw_Z below #[Value.ref b] s) (F0 m 308 ls []) := by
  obtain ⟨hx, hb, hml, hown, hts, hXs, hbl, hK, hKr, hC, hCX, hCY, hCZ, hlt⟩ := C
  obtain ⟨hS, hl, hF, hR, hP3, hn3, hn1, hn2, hm1, hm2⟩ := Z
  refine hF.elim (fun LB LP pc_ pd co X dd nn ss ll gg v cp vs nu tol pi_ ti_ fr stk t0 no pa s0 zo tx bu bv bw bs le rl rh ta tb tq tt tu tw tm ch ug uh uq ut uu ra rp rq xp xw xk xf xy xb hP hD hll hM h_ar h_fr mle h_nu h_tol hO hN h_s0 hU hTo hSt hNo h_ra h_rp h_rq nap naq_ npq h_ch hcp hcj mrl srl crl mrh srh crh mbu sbu cbu nlh hfc h_tx h_xp => ?_)
  have hsub : ∀ q, va_A (bW (cx 0) LB dd nn ss ll gg (pW cx LP pc_ pd co X)) H.size q → (fun q : Nat => s.heap.size ≤ q) q := fun q h => by
    rcases h with ⟨k, e0, h⟩ | h
    · exact (hD.2 k _ h).1
    · exact Nat.le_trans hS.1 h
  have hkeep : ∀ q, n1 ≤ q → q < H.size → ¬ va_A (bW (cx 0) LB dd nn ss ll gg (pW cx LP pc_ pd co X)) H.size q := fun q h1 h2 h => by
    rcases h with ⟨k, e0, h⟩ | h
    · have := (hD.2 k _ h).2; dsimp only at this; omega
    · omega
  obtain ⟨ad, hPr, hDr⟩ := hR
  have hDw : va_D (fun q : Nat => s.heap.size ≤ q) (mW h1 ad cI cJ cB cZ (fup (fun _ => 0) 25 mo) (fun _ _ => 0)) := hDr.weaken (fun k q _ h => Nat.le_trans hn1 h.1)
  have hbA : ¬ (fun q : Nat => s.heap.size ≤ q) b := Nat.not_le.mpr hbl
  have hA : ∀ q : Nat, s.heap.size ≤ q → (fun q : Nat => s.heap.size ≤ q) q := fun _ h => h
  refine lv_aload_n hx hb dL_law_308 rfl (lv_at hl 1 rfl) ?_
  refine L_ld (j := 2) (v := 1) (w := 2) hx hb hXs hbl hbA hS (lv_sub hl [0, 4] rfl) dL_law_309 dL_law_310 dL_law_312 dL_law_313 dL_law_314 rfl (by decide) (by unfold vp_in; decide) (by decide) ?_
  refine L_ld (j := 3) (v := 2) (w := 3) hx hb hXs hbl hbA hS (lv_sub hl [0, 4] rfl) dL_law_315 dL_law_316 dL_law_318 dL_law_319 dL_law_320 rfl (by decide) (by unfold vp_in; decide) (by decide) ?_
  refine L_ld (j := 4) (v := 3) (w := 4) hx hb hXs hbl hbA hS (lv_sub hl [0, 4] rfl) dL_law_321 dL_law_322 dL_law_324 dL_law_325 dL_law_326 rfl (by decide) (by unfold vp_in; decide) (by decide) ?_
  refine L_calli (As := [Iz (xs 2).toInt, Iz (xs 3).toInt, Iz (xs 4).toInt]) (rest := []) ⟨hx, hb, hml, hown, hts⟩ (k11_apply (l := l) (dC := dC) (dI := dI) (cx := cx) (ic := (xs 2).toInt) (ia := (xs 3).toInt) (ib := (xs 4).toInt) h_ar h_nu h_tol ((i32_lo _)) ((i32_hi _)) ((i32_lo _)) ((i32_hi _)) ((i32_lo _)) ((i32_hi _))) (cwV 3 hts (lgV w0c_gd (w0L_gd _ ll_52).1 (wT_gd _ ti_X11_apply).1 (wT_gd _ te_X11_apply).1 (w0L_gd _ ln_RX11).1 cc_X11_apply) rfl rfl rfl (by decide +kernel) ⟨Nat.le_of_ble_eq_true rfl, Nat.le_of_ble_eq_true rfl⟩) (L_preC hK hP hD hll (pW_x h_ar) _) hS hsub rfl hl.1 (Nat.le_of_ble_eq_true rfl) dL_law_327 ⟨(show 5000 + (cMc LB ll + 0) ≤ 193330 by omega), (show 6200000 + (2 * cMc LB ll + 0) ≤ 8521466 by omega)⟩ (fun z1 H1 locs1 hz1 hsz hk1 hS => ?_)
  obtain ⟨-, -, -, -, -, -, rfl⟩ := hz1
  have hPr : va_P (eC, eI) rcl (mW h1 ad cI cJ cB cZ (fup (fun _ => 0) 25 mo) (fun _ _ => 0)) H1 := va_P_iff.mpr fun q hq => (va_P_iff.mp hPr q hq).kept (hk1 q.1 (va_P_iff.mp hPr q hq).lt (hkeep q.1 ((va_D_iff.mp hDr).2 q hq).1 (va_P_iff.mp hPr q hq).lt))
  refine W.widen (k := 100000) (n := 6400000) (by omega) (by omega) ?_
  refine lv_aload_n hx hb dL_law_330 rfl (lv_at hl 2 rfl) ?_
  refine L_ld (j := 2) (v := 1) (w := 2) hx hb hXs hbl hbA hS (lv_sub hl [0, 4] rfl) dL_law_331 dL_law_332 dL_law_334 dL_law_335 dL_law_336 rfl (by decide) (by unfold vp_in; decide) (by decide) ?_
  refine L_ld (j := 3) (v := 2) (w := 3) hx hb hXs hbl hbA hS (lv_sub hl [0, 4] rfl) dL_law_337 dL_law_338 dL_law_340 dL_law_341 dL_law_342 rfl (by decide) (by unfold vp_in; decide) (by decide) ?_
  refine L_ld (j := 4) (v := 3) (w := 4) hx hb hXs hbl hbA hS (lv_sub hl [0, 4] rfl) dL_law_343 dL_law_344 dL_law_346 dL_law_347 dL_law_348 rfl (by decide) (by unfold vp_in; decide) (by decide) ?_
  refine R_calli (As := [Iz (xs 2).toInt, Iz (xs 3).toInt, Iz (xs 4).toInt]) (rest := [Iz _]) ⟨hx, hb, hml, hown, hts⟩ (c_apply (l := l) (dC := eC) (dI := eI) (cI := cI) (cJ := cJ) (cB := cB) (cZ := cZ) (h0 := h1) (ad := ad) (F := (fup (fun _ => 0) 25 mo)) (ar := (fun _ _ => 0)) (ic := (xs 2).toInt) (ia := (xs 3).toInt) (ib := (xs 4).toInt) rfl rfl (i32_lo _) (i32_hi _) (i32_lo _) (i32_hi _) (i32_lo _) (i32_hi _)) (cwV 3 hts (lgV w0r_gd (w0L_gd _ ll_56).1 (wT_gd _ ti_X12_apply).1 (wT_gd _ te_X12_apply).1 (w0L_gd _ ln_RX12).1 mc_apply) rfl rfl rfl (by decide +kernel) ⟨Nat.le_of_ble_eq_true rfl, Nat.le_of_ble_eq_true rfl⟩) hKr hPr hDw hS hA rfl hl.1 (Nat.le_of_ble_eq_true rfl) dL_law_349 ⟨Nat.le_of_ble_eq_true rfl, Nat.le_of_ble_eq_true rfl⟩ (fun z2 F2 ar2 H2 locs2 hz2 hPr2 hsz2 hk2 hS2 => ?_)
  obtain ⟨rfl, -⟩ := hz2
  refine lv_icmp_eq (tgt := 1388) hx hb dL_law_352 (by decide) (fun _ => ?_) (fun q => absurd rfl q)
  exact T H2 locs2 ls hS2 (lv_sub hl [0, 4] rfl)
set_option maxHeartbeats 4000000 in
set_option maxRecDepth 100000 in
theorem lc_turn {p : Program} {l : Launch} {e : Env} {s : State} {m : MethodId} {below : List Frame} {meth : Method} {c : Code} {b : Nat} {xs : Nat → Int32} {dC : Nat → ClassId} {dI : Nat → Nat → Nat} {cx : Nat → Nat} {eC : Nat → ClassId} {eI : Nat → Nat → Nat} {cI cJ cB cZ : Nat} {H : Heap} {locs : List Loc} {ls : Array Slot} {h0 h1 q3 n1 n2 : Nat} {mo : Int} (C : LA p l s m c b xs dC dI cx eC eI cI cJ cB cZ) (Z : LZ dC dI cx eC eI cI cJ cB cZ s b H locs ls h0 h1 q3 n1 n2 mo) (T : LT p l e s m below meth c b) : W p l e room_1 s m #[Value.ref b] below meth c H locs 5000 6200000 (lw_Z below #[Value.ref b] s) (F0 m 499 ls []) := by
  obtain ⟨hx, hb, hml, hown, hts, hXs, hbl, hK, hKr, hC, hCX, hCY, hCZ, hlt⟩ := C
  obtain ⟨hS, hl, hF, hR, hP3, hn3, hn1, hn2, hm1, hm2⟩ := Z
  refine hF.elim (fun LB LP pc_ pd co X dd nn ss ll gg v cp vs nu tol pi_ ti_ fr stk t0 no pa s0 zo tx bu bv bw bs le rl rh ta tb tq tt tu tw tm ch ug uh uq ut uu ra rp rq xp xw xk xf xy xb hP hD hll hM h_ar h_fr mle h_nu h_tol hO hN h_s0 hU hTo hSt hNo h_ra h_rp h_rq nap naq_ npq h_ch hcp hcj mrl srl crl mrh srh crh mbu sbu cbu nlh hfc h_tx h_xp => ?_)
  have hsub : ∀ q, va_A (bW (cx 0) LB dd nn ss ll gg (pW cx LP pc_ pd co X)) H.size q → (fun q : Nat => s.heap.size ≤ q) q := fun q h => by
    rcases h with ⟨k, e0, h⟩ | h
    · exact (hD.2 k _ h).1
    · exact Nat.le_trans hS.1 h
  have hkeep : ∀ q, n1 ≤ q → q < H.size → ¬ va_A (bW (cx 0) LB dd nn ss ll gg (pW cx LP pc_ pd co X)) H.size q := fun q h1 h2 h => by
    rcases h with ⟨k, e0, h⟩ | h
    · have := (hD.2 k _ h).2; dsimp only at this; omega
    · omega
  obtain ⟨ad, hPr, hDr⟩ := hR
  have hDw : va_D (fun q : Nat => s.heap.size ≤ q) (mW h1 ad cI cJ cB cZ (fup (fun _ => 0) 25 mo) (fun _ _ => 0)) := hDr.weaken (fun k q _ h => Nat.le_trans hn1 h.1)
  have hbA : ¬ (fun q : Nat => s.heap.size ≤ q) b := Nat.not_le.mpr hbl
  have hA : ∀ q : Nat, s.heap.size ≤ q → (fun q : Nat => s.heap.size ≤ q) q := fun _ h => h
  refine lv_aload_n hx hb dL_law_499 rfl (lv_at hl 1 rfl) ?_
  refine L_lg (j := 2) (j' := 3) (v := 1) (w := 2) (v' := 2) (w' := 3) hx hb hown (hts _ (w0L_gd _ lk_42).1) hXs hbl hbA hS (lv_sub hl [0, 4] rfl) dL_law_500 dL_law_501 dL_law_503 dL_law_504 dL_law_505 dL_law_506 dL_law_507 dL_law_509 dL_law_510 dL_law_511 dL_law_513 dL_law_514 dL_law_515 dL_law_516 dL_law_517 dL_law_520 dL_law_521 rfl (by decide) (by unfold vp_in; decide) (by decide) rfl (by decide) (by unfold vp_in; decide) (by decide) ?_
  refine L_ld (j := 4) (v := 3) (w := 4) hx hb hXs hbl hbA hS (lv_sub hl [0, 4] rfl) dL_law_522 dL_law_523 dL_law_525 dL_law_526 dL_law_527 rfl (by decide) (by unfold vp_in; decide) (by decide) ?_
  refine L_ld (j := 5) (v := 4) (w := 5) hx hb hXs hbl hbA hS (lv_sub hl [0, 4] rfl) dL_law_528 dL_law_529 dL_law_531 dL_law_532 dL_law_533 rfl (by decide) (by unfold vp_in; decide) (by decide) ?_
  refine L_bool hx hb dL_law_534 dL_law_537 dL_law_538 dL_law_541 ?_
  refine L_calli (As := [Jz (lgv (xs 2) (xs 3)).toInt, Iz (xs 4).toInt, Iz (if (xs 5).toInt = 0 then 0 else 1)]) (rest := []) ⟨hx, hb, hml, hown, hts⟩ (k11_turn (l := l) (dC := dC) (dI := dI) (cx := cx) (up := (lgv (xs 2) (xs 3)).toInt) (low := (xs 4).toInt) (sn := (if (xs 5).toInt = 0 then 0 else 1)) h_ar h_fr mle h_nu hO hN h_s0 hU hTo hSt hNo h_ra h_rp h_rq nap naq_ npq h_ch hcp hcj mrl srl crl mrh srh crh mbu sbu cbu nlh hfc ((i64_lo _)) ((i64_hi _)) ((i32_lo _)) ((i32_hi _)) b01_lo b01_hi hm2 hm1 tabF_ok tabU_ok tabP_ok) (cwV 3 hts (lgV w0c_gd (w0L_gd _ ll_69).1 (wT_gd _ ti_X11_turn).1 (wT_gd _ te_X11_turn).1 (w0L_gd _ ln_RX11).1 cc_X11_turn) rfl rfl rfl (by decide +kernel) ⟨Nat.le_of_ble_eq_true rfl, Nat.le_of_ble_eq_true rfl⟩) (L_preN hK hC hP hD hll (pW_x h_ar) _) hS hsub rfl hl.1 (Nat.le_of_ble_eq_true rfl) dL_law_542 ⟨(show 5000 + (cMc LB ll + 92) ≤ 193330 by omega), (show 6200000 + (2 * cMc LB ll + 321) ≤ 8521466 by omega)⟩ (fun z1 H1 locs1 hz1 hsz hk1 hS => ?_)
  obtain ⟨-, -, -, -, -, -, rfl⟩ := hz1
  have hPr : va_P (eC, eI) rcl (mW h1 ad cI cJ cB cZ (fup (fun _ => 0) 25 mo) (fun _ _ => 0)) H1 := va_P_iff.mpr fun q hq => (va_P_iff.mp hPr q hq).kept (hk1 q.1 (va_P_iff.mp hPr q hq).lt (hkeep q.1 ((va_D_iff.mp hDr).2 q hq).1 (va_P_iff.mp hPr q hq).lt))
  refine W.widen (k := 100000) (n := 6400000) (by omega) (by omega) ?_
  refine lv_aload_n hx hb dL_law_545 rfl (lv_at hl 2 rfl) ?_
  refine L_lg (j := 2) (j' := 3) (v := 1) (w := 2) (v' := 2) (w' := 3) hx hb hown (hts _ (w0L_gd _ lk_42).1) hXs hbl hbA hS (lv_sub hl [0, 4] rfl) dL_law_546 dL_law_547 dL_law_549 dL_law_550 dL_law_551 dL_law_552 dL_law_553 dL_law_555 dL_law_556 dL_law_557 dL_law_559 dL_law_560 dL_law_561 dL_law_562 dL_law_563 dL_law_566 dL_law_567 rfl (by decide) (by unfold vp_in; decide) (by decide) rfl (by decide) (by unfold vp_in; decide) (by decide) ?_
  refine L_ld (j := 4) (v := 3) (w := 4) hx hb hXs hbl hbA hS (lv_sub hl [0, 4] rfl) dL_law_568 dL_law_569 dL_law_571 dL_law_572 dL_law_573 rfl (by decide) (by unfold vp_in; decide) (by decide) ?_
  refine L_ld (j := 5) (v := 4) (w := 5) hx hb hXs hbl hbA hS (lv_sub hl [0, 4] rfl) dL_law_574 dL_law_575 dL_law_577 dL_law_578 dL_law_579 rfl (by decide) (by unfold vp_in; decide) (by decide) ?_
  refine L_bool hx hb dL_law_580 dL_law_583 dL_law_584 dL_law_587 ?_
  refine R_calli (As := [Jz (lgv (xs 2) (xs 3)).toInt, Iz (xs 4).toInt, Iz (if (xs 5).toInt = 0 then 0 else 1)]) (rest := [Iz _]) ⟨hx, hb, hml, hown, hts⟩ (c_turn (l := l) (dC := eC) (dI := eI) (cI := cI) (cJ := cJ) (cB := cB) (cZ := cZ) (h0 := h1) (ad := ad) (F := (fup (fun _ => 0) 25 mo)) (ar := (fun _ _ => 0)) (up := (lgv (xs 2) (xs 3)).toInt) (low := (xs 4).toInt) (sn := (if (xs 5).toInt = 0 then 0 else 1)) rfl (i64_lo _) (i64_hi _) (i32_lo _) (i32_hi _) b01_lo b01_hi (show 1 ≤ mo from hm1) (show mo ≤ 10 from hm2) hok_0 hok_0 hok_0) (cwV 3 hts (lgV w0r_gd (w0L_gd _ ll_73).1 (wT_gd _ ti_X12_turn).1 (wT_gd _ te_X12_turn).1 (w0L_gd _ ln_RX12).1 mc_turn) rfl rfl rfl (by decide +kernel) ⟨Nat.le_of_ble_eq_true rfl, Nat.le_of_ble_eq_true rfl⟩) hKr hPr hDw hS hA rfl hl.1 (Nat.le_of_ble_eq_true rfl) dL_law_588 ⟨Nat.le_of_ble_eq_true rfl, Nat.le_of_ble_eq_true rfl⟩ (fun z2 F2 ar2 H2 locs2 hz2 hPr2 hsz2 hk2 hS2 => ?_)
  obtain ⟨rfl, -⟩ := hz2
  refine lv_icmp_eq (tgt := 1388) hx hb dL_law_591 (by decide) (fun _ => ?_) (fun q => absurd rfl q)
  exact T H2 locs2 ls hS2 (lv_sub hl [0, 4] rfl)
set_option maxHeartbeats 4000000 in
set_option maxRecDepth 100000 in
theorem lc_common {p : Program} {l : Launch} {e : Env} {s : State} {m : MethodId} {below : List Frame} {meth : Method} {c : Code} {b : Nat} {xs : Nat → Int32} {dC : Nat → ClassId} {dI : Nat → Nat → Nat} {cx : Nat → Nat} {eC : Nat → ClassId} {eI : Nat → Nat → Nat} {cI cJ cB cZ : Nat} {H : Heap} {locs : List Loc} {ls : Array Slot} {h0 h1 q3 n1 n2 : Nat} {mo : Int} (C : LA p l s m c b xs dC dI cx eC eI cI cJ cB cZ) (Z : LZ dC dI cx eC eI cI cJ cB cZ s b H locs ls h0 h1 q3 n1 n2 mo) (T : LT p l e s m below meth c b) : W p l e room_1 s m #[Value.ref b] below meth c H locs 5000 6200000 (lw_Z below #[Value.ref b] s) (F0 m 707 ls []) := by
  obtain ⟨hx, hb, hml, hown, hts, hXs, hbl, hK, hKr, hC, hCX, hCY, hCZ, hlt⟩ := C
  obtain ⟨hS, hl, hF, hR, hP3, hn3, hn1, hn2, hm1, hm2⟩ := Z
  refine hF.elim (fun LB LP pc_ pd co X dd nn ss ll gg v cp vs nu tol pi_ ti_ fr stk t0 no pa s0 zo tx bu bv bw bs le rl rh ta tb tq tt tu tw tm ch ug uh uq ut uu ra rp rq xp xw xk xf xy xb hP hD hll hM h_ar h_fr mle h_nu h_tol hO hN h_s0 hU hTo hSt hNo h_ra h_rp h_rq nap naq_ npq h_ch hcp hcj mrl srl crl mrh srh crh mbu sbu cbu nlh hfc h_tx h_xp => ?_)
  have hsub : ∀ q, va_A (bW (cx 0) LB dd nn ss ll gg (pW cx LP pc_ pd co X)) H.size q → (fun q : Nat => s.heap.size ≤ q) q := fun q h => by
    rcases h with ⟨k, e0, h⟩ | h
    · exact (hD.2 k _ h).1
    · exact Nat.le_trans hS.1 h
  have hkeep : ∀ q, n1 ≤ q → q < H.size → ¬ va_A (bW (cx 0) LB dd nn ss ll gg (pW cx LP pc_ pd co X)) H.size q := fun q h1 h2 h => by
    rcases h with ⟨k, e0, h⟩ | h
    · have := (hD.2 k _ h).2; dsimp only at this; omega
    · omega
  obtain ⟨ad, hPr, hDr⟩ := hR
  have hDw : va_D (fun q : Nat => s.heap.size ≤ q) (mW h1 ad cI cJ cB cZ (fup (fun _ => 0) 25 mo) (fun _ _ => 0)) := hDr.weaken (fun k q _ h => Nat.le_trans hn1 h.1)
  have hbA : ¬ (fun q : Nat => s.heap.size ≤ q) b := Nat.not_le.mpr hbl
  have hA : ∀ q : Nat, s.heap.size ≤ q → (fun q : Nat => s.heap.size ≤ q) q := fun _ h => h
  refine lv_aload_n hx hb dL_law_707 rfl (lv_at hl 1 rfl) ?_
  refine L_ld (j := 2) (v := 1) (w := 2) hx hb hXs hbl hbA hS (lv_sub hl [0, 4] rfl) dL_law_708 dL_law_709 dL_law_711 dL_law_712 dL_law_713 rfl (by decide) (by unfold vp_in; decide) (by decide) ?_
  refine L_ld (j := 3) (v := 2) (w := 3) hx hb hXs hbl hbA hS (lv_sub hl [0, 4] rfl) dL_law_714 dL_law_715 dL_law_717 dL_law_718 dL_law_719 rfl (by decide) (by unfold vp_in; decide) (by decide) ?_
  refine L_calli (As := [Iz (xs 2).toInt, Iz (xs 3).toInt]) (rest := []) ⟨hx, hb, hml, hown, hts⟩ (k11_common (l := l) (dC := dC) (dI := dI) (cx := cx) (ia := (xs 2).toInt) (ib := (xs 3).toInt) h_ar h_nu h_tol ((i32_lo _)) ((i32_hi _)) ((i32_lo _)) ((i32_hi _))) (cwV 2 hts (lgV w0c_gd (w0L_gd _ ll_86).1 (wT_gd _ ti_X11_common).1 (wT_gd _ te_X11_common).1 (w0L_gd _ ln_RX11).1 cc_X11_common) rfl rfl rfl (by decide +kernel) ⟨Nat.le_of_ble_eq_true rfl, Nat.le_of_ble_eq_true rfl⟩) (L_preC hK hP hD hll (pW_x h_ar) _) hS hsub rfl hl.1 (Nat.le_of_ble_eq_true rfl) dL_law_720 ⟨(show 5000 + (cMc LB ll + 0) ≤ 193330 by omega), (show 6200000 + (2 * cMc LB ll + 0) ≤ 8521466 by omega)⟩ (fun z1 H1 locs1 hz1 hsz hk1 hS => ?_)
  obtain ⟨-, -, -, -, -, -, rfl⟩ := hz1
  have hPr : va_P (eC, eI) rcl (mW h1 ad cI cJ cB cZ (fup (fun _ => 0) 25 mo) (fun _ _ => 0)) H1 := va_P_iff.mpr fun q hq => (va_P_iff.mp hPr q hq).kept (hk1 q.1 (va_P_iff.mp hPr q hq).lt (hkeep q.1 ((va_D_iff.mp hDr).2 q hq).1 (va_P_iff.mp hPr q hq).lt))
  refine W.widen (k := 100000) (n := 6400000) (by omega) (by omega) ?_
  refine lv_aload_n hx hb dL_law_723 rfl (lv_at hl 2 rfl) ?_
  refine L_ld (j := 2) (v := 1) (w := 2) hx hb hXs hbl hbA hS (lv_sub hl [0, 4] rfl) dL_law_724 dL_law_725 dL_law_727 dL_law_728 dL_law_729 rfl (by decide) (by unfold vp_in; decide) (by decide) ?_
  refine L_ld (j := 3) (v := 2) (w := 3) hx hb hXs hbl hbA hS (lv_sub hl [0, 4] rfl) dL_law_730 dL_law_731 dL_law_733 dL_law_734 dL_law_735 rfl (by decide) (by unfold vp_in; decide) (by decide) ?_
  refine R_calli (As := [Iz (xs 2).toInt, Iz (xs 3).toInt]) (rest := [Iz _]) ⟨hx, hb, hml, hown, hts⟩ (c_common (l := l) (dC := eC) (dI := eI) (cI := cI) (cJ := cJ) (cB := cB) (cZ := cZ) (h0 := h1) (ad := ad) (F := (fup (fun _ => 0) 25 mo)) (ar := (fun _ _ => 0)) (ia := (xs 2).toInt) (ib := (xs 3).toInt) rfl rfl (i32_lo _) (i32_hi _) (i32_lo _) (i32_hi _)) (cwV 2 hts (lgV w0r_gd (w0L_gd _ ll_89).1 (wT_gd _ ti_X12_common).1 (wT_gd _ te_X12_common).1 (w0L_gd _ ln_RX12).1 mc_common) rfl rfl rfl (by decide +kernel) ⟨Nat.le_of_ble_eq_true rfl, Nat.le_of_ble_eq_true rfl⟩) hKr hPr hDw hS hA rfl hl.1 (Nat.le_of_ble_eq_true rfl) dL_law_736 ⟨Nat.le_of_ble_eq_true rfl, Nat.le_of_ble_eq_true rfl⟩ (fun z2 F2 ar2 H2 locs2 hz2 hPr2 hsz2 hk2 hS2 => ?_)
  obtain ⟨rfl, -⟩ := hz2
  refine lv_icmp_eq (tgt := 1388) hx hb dL_law_739 (by decide) (fun _ => ?_) (fun q => absurd rfl q)
  exact T H2 locs2 ls hS2 (lv_sub hl [0, 4] rfl)
set_option maxHeartbeats 4000000 in
set_option maxRecDepth 100000 in
theorem lc_sign {p : Program} {l : Launch} {e : Env} {s : State} {m : MethodId} {below : List Frame} {meth : Method} {c : Code} {b : Nat} {xs : Nat → Int32} {dC : Nat → ClassId} {dI : Nat → Nat → Nat} {cx : Nat → Nat} {eC : Nat → ClassId} {eI : Nat → Nat → Nat} {cI cJ cB cZ : Nat} {H : Heap} {locs : List Loc} {ls : Array Slot} {h0 h1 q3 n1 n2 : Nat} {mo : Int} (C : LA p l s m c b xs dC dI cx eC eI cI cJ cB cZ) (Z : LZ dC dI cx eC eI cI cJ cB cZ s b H locs ls h0 h1 q3 n1 n2 mo) (T : LT p l e s m below meth c b) : W p l e room_1 s m #[Value.ref b] below meth c H locs 5000 6200000 (lw_Z below #[Value.ref b] s) (F0 m 807 ls []) := by
  obtain ⟨hx, hb, hml, hown, hts, hXs, hbl, hK, hKr, hC, hCX, hCY, hCZ, hlt⟩ := C
  obtain ⟨hS, hl, hF, hR, hP3, hn3, hn1, hn2, hm1, hm2⟩ := Z
  refine hF.elim (fun LB LP pc_ pd co X dd nn ss ll gg v cp vs nu tol pi_ ti_ fr stk t0 no pa s0 zo tx bu bv bw bs le rl rh ta tb tq tt tu tw tm ch ug uh uq ut uu ra rp rq xp xw xk xf xy xb hP hD hll hM h_ar h_fr mle h_nu h_tol hO hN h_s0 hU hTo hSt hNo h_ra h_rp h_rq nap naq_ npq h_ch hcp hcj mrl srl crl mrh srh crh mbu sbu cbu nlh hfc h_tx h_xp => ?_)
  have hsub : ∀ q, va_A (bW (cx 0) LB dd nn ss ll gg (pW cx LP pc_ pd co X)) H.size q → (fun q : Nat => s.heap.size ≤ q) q := fun q h => by
    rcases h with ⟨k, e0, h⟩ | h
    · exact (hD.2 k _ h).1
    · exact Nat.le_trans hS.1 h
  have hkeep : ∀ q, n1 ≤ q → q < H.size → ¬ va_A (bW (cx 0) LB dd nn ss ll gg (pW cx LP pc_ pd co X)) H.size q := fun q h1 h2 h => by
    rcases h with ⟨k, e0, h⟩ | h
    · have := (hD.2 k _ h).2; dsimp only at this; omega
    · omega
  obtain ⟨ad, hPr, hDr⟩ := hR
  have hDw : va_D (fun q : Nat => s.heap.size ≤ q) (mW h1 ad cI cJ cB cZ (fup (fun _ => 0) 25 mo) (fun _ _ => 0)) := hDr.weaken (fun k q _ h => Nat.le_trans hn1 h.1)
  have hbA : ¬ (fun q : Nat => s.heap.size ≤ q) b := Nat.not_le.mpr hbl
  have hA : ∀ q : Nat, s.heap.size ≤ q → (fun q : Nat => s.heap.size ≤ q) q := fun _ h => h
  refine lv_aload_n hx hb dL_law_807 rfl (lv_at hl 1 rfl) ?_
  refine L_ld (j := 2) (v := 1) (w := 2) hx hb hXs hbl hbA hS (lv_sub hl [0, 4] rfl) dL_law_808 dL_law_809 dL_law_811 dL_law_812 dL_law_813 rfl (by decide) (by unfold vp_in; decide) (by decide) ?_
  refine L_calli (As := [Iz (xs 2).toInt]) (rest := []) ⟨hx, hb, hml, hown, hts⟩ (k11_sign (l := l) (dC := dC) (dI := dI) (cx := cx) (ia := (xs 2).toInt) h_ar h_nu h_tol ((i32_lo _)) ((i32_hi _))) (cwV 1 hts (lgV w0c_gd (w0L_gd _ ll_102).1 (wT_gd _ ti_X11_sign).1 (wT_gd _ te_X11_sign).1 (w0L_gd _ ln_RX11).1 cc_X11_sign) rfl rfl rfl (by decide +kernel) ⟨Nat.le_of_ble_eq_true rfl, Nat.le_of_ble_eq_true rfl⟩) (L_preC hK hP hD hll (pW_x h_ar) _) hS hsub rfl hl.1 (Nat.le_of_ble_eq_true rfl) dL_law_814 ⟨(show 5000 + (cMc LB ll + 0) ≤ 193330 by omega), (show 6200000 + (2 * cMc LB ll + 0) ≤ 8521466 by omega)⟩ (fun z1 H1 locs1 hz1 hsz hk1 hS => ?_)
  obtain ⟨-, -, -, -, -, -, rfl⟩ := hz1
  have hPr : va_P (eC, eI) rcl (mW h1 ad cI cJ cB cZ (fup (fun _ => 0) 25 mo) (fun _ _ => 0)) H1 := va_P_iff.mpr fun q hq => (va_P_iff.mp hPr q hq).kept (hk1 q.1 (va_P_iff.mp hPr q hq).lt (hkeep q.1 ((va_D_iff.mp hDr).2 q hq).1 (va_P_iff.mp hPr q hq).lt))
  refine W.widen (k := 100000) (n := 6400000) (by omega) (by omega) ?_
  refine lv_aload_n hx hb dL_law_817 rfl (lv_at hl 2 rfl) ?_
  refine L_ld (j := 2) (v := 1) (w := 2) hx hb hXs hbl hbA hS (lv_sub hl [0, 4] rfl) dL_law_818 dL_law_819 dL_law_821 dL_law_822 dL_law_823 rfl (by decide) (by unfold vp_in; decide) (by decide) ?_
  refine R_calli (As := [Iz (xs 2).toInt]) (rest := [Iz _]) ⟨hx, hb, hml, hown, hts⟩ (c_sign (l := l) (dC := eC) (dI := eI) (cI := cI) (cJ := cJ) (cB := cB) (cZ := cZ) (h0 := h1) (ad := ad) (F := (fup (fun _ => 0) 25 mo)) (ar := (fun _ _ => 0)) (ia := (xs 2).toInt) rfl rfl (i32_lo _) (i32_hi _)) (cwV 1 hts (lgV w0r_gd (w0L_gd _ ll_106).1 (wT_gd _ ti_X12_sign).1 (wT_gd _ te_X12_sign).1 (w0L_gd _ ln_RX12).1 mc_sign) rfl rfl rfl (by decide +kernel) ⟨Nat.le_of_ble_eq_true rfl, Nat.le_of_ble_eq_true rfl⟩) hKr hPr hDw hS hA rfl hl.1 (Nat.le_of_ble_eq_true rfl) dL_law_824 ⟨Nat.le_of_ble_eq_true rfl, Nat.le_of_ble_eq_true rfl⟩ (fun z2 F2 ar2 H2 locs2 hz2 hPr2 hsz2 hk2 hS2 => ?_)
  obtain ⟨rfl, -⟩ := hz2
  refine lv_icmp_eq (tgt := 1388) hx hb dL_law_827 (by decide) (fun _ => ?_) (fun q => absurd rfl q)
  exact T H2 locs2 ls hS2 (lv_sub hl [0, 4] rfl)
set_option maxHeartbeats 4000000 in
set_option maxRecDepth 100000 in
theorem lc_coefficient {p : Program} {l : Launch} {e : Env} {s : State} {m : MethodId} {below : List Frame} {meth : Method} {c : Code} {b : Nat} {xs : Nat → Int32} {dC : Nat → ClassId} {dI : Nat → Nat → Nat} {cx : Nat → Nat} {eC : Nat → ClassId} {eI : Nat → Nat → Nat} {cI cJ cB cZ : Nat} {H : Heap} {locs : List Loc} {ls : Array Slot} {h0 h1 q3 n1 n2 : Nat} {mo : Int} (C : LA p l s m c b xs dC dI cx eC eI cI cJ cB cZ) (Z : LZ dC dI cx eC eI cI cJ cB cZ s b H locs ls h0 h1 q3 n1 n2 mo) (T : LT p l e s m below meth c b) : W p l e room_1 s m #[Value.ref b] below meth c H locs 5000 6200000 (lw_Z below #[Value.ref b] s) (F0 m 919 ls []) := by
  obtain ⟨hx, hb, hml, hown, hts, hXs, hbl, hK, hKr, hC, hCX, hCY, hCZ, hlt⟩ := C
  obtain ⟨hS, hl, hF, hR, hP3, hn3, hn1, hn2, hm1, hm2⟩ := Z
  refine hF.elim (fun LB LP pc_ pd co X dd nn ss ll gg v cp vs nu tol pi_ ti_ fr stk t0 no pa s0 zo tx bu bv bw bs le rl rh ta tb tq tt tu tw tm ch ug uh uq ut uu ra rp rq xp xw xk xf xy xb hP hD hll hM h_ar h_fr mle h_nu h_tol hO hN h_s0 hU hTo hSt hNo h_ra h_rp h_rq nap naq_ npq h_ch hcp hcj mrl srl crl mrh srh crh mbu sbu cbu nlh hfc h_tx h_xp => ?_)
  have hsub : ∀ q, va_A (bW (cx 0) LB dd nn ss ll gg (pW cx LP pc_ pd co X)) H.size q → (fun q : Nat => s.heap.size ≤ q) q := fun q h => by
    rcases h with ⟨k, e0, h⟩ | h
    · exact (hD.2 k _ h).1
    · exact Nat.le_trans hS.1 h
  have hkeep : ∀ q, n1 ≤ q → q < H.size → ¬ va_A (bW (cx 0) LB dd nn ss ll gg (pW cx LP pc_ pd co X)) H.size q := fun q h1 h2 h => by
    rcases h with ⟨k, e0, h⟩ | h
    · have := (hD.2 k _ h).2; dsimp only at this; omega
    · omega
  obtain ⟨ad, hPr, hDr⟩ := hR
  have hDw : va_D (fun q : Nat => s.heap.size ≤ q) (mW h1 ad cI cJ cB cZ (fup (fun _ => 0) 25 mo) (fun _ _ => 0)) := hDr.weaken (fun k q _ h => Nat.le_trans hn1 h.1)
  have hbA : ¬ (fun q : Nat => s.heap.size ≤ q) b := Nat.not_le.mpr hbl
  have hA : ∀ q : Nat, s.heap.size ≤ q → (fun q : Nat => s.heap.size ≤ q) q := fun _ h => h
  refine lv_aload_n hx hb dL_law_919 rfl (lv_at hl 1 rfl) ?_
  refine L_ld (j := 2) (v := 1) (w := 2) hx hb hXs hbl hbA hS (lv_sub hl [0, 4] rfl) dL_law_920 dL_law_921 dL_law_923 dL_law_924 dL_law_925 rfl (by decide) (by unfold vp_in; decide) (by decide) ?_
  refine L_ld (j := 3) (v := 2) (w := 3) hx hb hXs hbl hbA hS (lv_sub hl [0, 4] rfl) dL_law_926 dL_law_927 dL_law_929 dL_law_930 dL_law_931 rfl (by decide) (by unfold vp_in; decide) (by decide) ?_
  refine L_lg (j := 4) (j' := 5) (v := 3) (w := 4) (v' := 4) (w' := 5) hx hb hown (hts _ (w0L_gd _ lk_42).1) hXs hbl hbA hS (lv_sub hl [0, 4] rfl) dL_law_932 dL_law_933 dL_law_935 dL_law_936 dL_law_937 dL_law_938 dL_law_939 dL_law_941 dL_law_942 dL_law_943 dL_law_945 dL_law_946 dL_law_947 dL_law_948 dL_law_949 dL_law_952 dL_law_953 rfl (by decide) (by unfold vp_in; decide) (by decide) rfl (by decide) (by unfold vp_in; decide) (by decide) ?_
  refine L_calli (As := [Iz (xs 2).toInt, Iz (xs 3).toInt, Jz (lgv (xs 4) (xs 5)).toInt]) (rest := []) ⟨hx, hb, hml, hown, hts⟩ (k11_coefficient (l := l) (dC := dC) (dI := dI) (cx := cx) (ia := (xs 2).toInt) (ib := (xs 3).toInt) (lc := (lgv (xs 4) (xs 5)).toInt) h_ar h_nu h_tol ((i32_lo _)) ((i32_hi _)) ((i32_lo _)) ((i32_hi _))) (cwV 3 hts (lgV w0c_gd (w0L_gd _ ll_119).1 (wT_gd _ ti_X11_coefficient).1 (wT_gd _ te_X11_coefficient).1 (w0L_gd _ ln_RX11).1 cc_X11_coefficient) rfl rfl rfl (by decide +kernel) ⟨Nat.le_of_ble_eq_true rfl, Nat.le_of_ble_eq_true rfl⟩) (L_preC hK hP hD hll (pW_x h_ar) _) hS hsub rfl hl.1 (Nat.le_of_ble_eq_true rfl) dL_law_954 ⟨(show 5000 + (cMc LB ll + 0) ≤ 193330 by omega), (show 6200000 + (2 * cMc LB ll + 0) ≤ 8521466 by omega)⟩ (fun z1 H1 locs1 hz1 hsz hk1 hS => ?_)
  obtain ⟨-, -, -, -, -, -, rfl⟩ := hz1
  have hPr : va_P (eC, eI) rcl (mW h1 ad cI cJ cB cZ (fup (fun _ => 0) 25 mo) (fun _ _ => 0)) H1 := va_P_iff.mpr fun q hq => (va_P_iff.mp hPr q hq).kept (hk1 q.1 (va_P_iff.mp hPr q hq).lt (hkeep q.1 ((va_D_iff.mp hDr).2 q hq).1 (va_P_iff.mp hPr q hq).lt))
  refine W.widen (k := 100000) (n := 6400000) (by omega) (by omega) ?_
  refine lv_aload_n hx hb dL_law_957 rfl (lv_at hl 2 rfl) ?_
  refine L_ld (j := 2) (v := 1) (w := 2) hx hb hXs hbl hbA hS (lv_sub hl [0, 4] rfl) dL_law_958 dL_law_959 dL_law_961 dL_law_962 dL_law_963 rfl (by decide) (by unfold vp_in; decide) (by decide) ?_
  refine L_ld (j := 3) (v := 2) (w := 3) hx hb hXs hbl hbA hS (lv_sub hl [0, 4] rfl) dL_law_964 dL_law_965 dL_law_967 dL_law_968 dL_law_969 rfl (by decide) (by unfold vp_in; decide) (by decide) ?_
  refine L_lg (j := 4) (j' := 5) (v := 3) (w := 4) (v' := 4) (w' := 5) hx hb hown (hts _ (w0L_gd _ lk_42).1) hXs hbl hbA hS (lv_sub hl [0, 4] rfl) dL_law_970 dL_law_971 dL_law_973 dL_law_974 dL_law_975 dL_law_976 dL_law_977 dL_law_979 dL_law_980 dL_law_981 dL_law_983 dL_law_984 dL_law_985 dL_law_986 dL_law_987 dL_law_990 dL_law_991 rfl (by decide) (by unfold vp_in; decide) (by decide) rfl (by decide) (by unfold vp_in; decide) (by decide) ?_
  refine R_calli (As := [Iz (xs 2).toInt, Iz (xs 3).toInt, Jz (lgv (xs 4) (xs 5)).toInt]) (rest := [Iz _]) ⟨hx, hb, hml, hown, hts⟩ (c_coefficient (l := l) (dC := eC) (dI := eI) (cI := cI) (cJ := cJ) (cB := cB) (cZ := cZ) (h0 := h1) (ad := ad) (F := (fup (fun _ => 0) 25 mo)) (ar := (fun _ _ => 0)) (ia := (xs 2).toInt) (ib := (xs 3).toInt) (lc := (lgv (xs 4) (xs 5)).toInt) rfl rfl (i32_lo _) (i32_hi _) (i32_lo _) (i32_hi _)) (cwV 3 hts (lgV w0r_gd (w0L_gd _ ll_123).1 (wT_gd _ ti_X12_coefficient).1 (wT_gd _ te_X12_coefficient).1 (w0L_gd _ ln_RX12).1 mc_coefficient) rfl rfl rfl (by decide +kernel) ⟨Nat.le_of_ble_eq_true rfl, Nat.le_of_ble_eq_true rfl⟩) hKr hPr hDw hS hA rfl hl.1 (Nat.le_of_ble_eq_true rfl) dL_law_992 ⟨Nat.le_of_ble_eq_true rfl, Nat.le_of_ble_eq_true rfl⟩ (fun z2 F2 ar2 H2 locs2 hz2 hPr2 hsz2 hk2 hS2 => ?_)
  obtain ⟨rfl, -⟩ := hz2
  refine lv_icmp_eq (tgt := 1388) hx hb dL_law_995 (by decide) (fun _ => ?_) (fun q => absurd rfl q)
  exact T H2 locs2 ls hS2 (lv_sub hl [0, 4] rfl)
set_option maxHeartbeats 4000000 in
set_option maxRecDepth 100000 in
theorem lc_part {p : Program} {l : Launch} {e : Env} {s : State} {m : MethodId} {below : List Frame} {meth : Method} {c : Code} {b : Nat} {xs : Nat → Int32} {dC : Nat → ClassId} {dI : Nat → Nat → Nat} {cx : Nat → Nat} {eC : Nat → ClassId} {eI : Nat → Nat → Nat} {cI cJ cB cZ : Nat} {H : Heap} {locs : List Loc} {ls : Array Slot} {h0 h1 q3 n1 n2 : Nat} {mo : Int} (C : LA p l s m c b xs dC dI cx eC eI cI cJ cB cZ) (Z : LZ dC dI cx eC eI cI cJ cB cZ s b H locs ls h0 h1 q3 n1 n2 mo) (T : LT p l e s m below meth c b) : W p l e room_1 s m #[Value.ref b] below meth c H locs 5000 6200000 (lw_Z below #[Value.ref b] s) (F0 m 1099 ls []) := by
  obtain ⟨hx, hb, hml, hown, hts, hXs, hbl, hK, hKr, hC, hCX, hCY, hCZ, hlt⟩ := C
  obtain ⟨hS, hl, hF, hR, hP3, hn3, hn1, hn2, hm1, hm2⟩ := Z
  refine hF.elim (fun LB LP pc_ pd co X dd nn ss ll gg v cp vs nu tol pi_ ti_ fr stk t0 no pa s0 zo tx bu bv bw bs le rl rh ta tb tq tt tu tw tm ch ug uh uq ut uu ra rp rq xp xw xk xf xy xb hP hD hll hM h_ar h_fr mle h_nu h_tol hO hN h_s0 hU hTo hSt hNo h_ra h_rp h_rq nap naq_ npq h_ch hcp hcj mrl srl crl mrh srh crh mbu sbu cbu nlh hfc h_tx h_xp => ?_)
  have hsub : ∀ q, va_A (bW (cx 0) LB dd nn ss ll gg (pW cx LP pc_ pd co X)) H.size q → (fun q : Nat => s.heap.size ≤ q) q := fun q h => by
    rcases h with ⟨k, e0, h⟩ | h
    · exact (hD.2 k _ h).1
    · exact Nat.le_trans hS.1 h
  have hkeep : ∀ q, n1 ≤ q → q < H.size → ¬ va_A (bW (cx 0) LB dd nn ss ll gg (pW cx LP pc_ pd co X)) H.size q := fun q h1 h2 h => by
    rcases h with ⟨k, e0, h⟩ | h
    · have := (hD.2 k _ h).2; dsimp only at this; omega
    · omega
  obtain ⟨ad, hPr, hDr⟩ := hR
  have hDw : va_D (fun q : Nat => s.heap.size ≤ q) (mW h1 ad cI cJ cB cZ (fup (fun _ => 0) 25 mo) (fun _ _ => 0)) := hDr.weaken (fun k q _ h => Nat.le_trans hn1 h.1)
  have hbA : ¬ (fun q : Nat => s.heap.size ≤ q) b := Nat.not_le.mpr hbl
  have hA : ∀ q : Nat, s.heap.size ≤ q → (fun q : Nat => s.heap.size ≤ q) q := fun _ h => h
  refine lv_aload_n hx hb dL_law_1099 rfl (lv_at hl 1 rfl) ?_
  refine L_ld (j := 2) (v := 1) (w := 2) hx hb hXs hbl hbA hS (lv_sub hl [0, 4] rfl) dL_law_1100 dL_law_1101 dL_law_1103 dL_law_1104 dL_law_1105 rfl (by decide) (by unfold vp_in; decide) (by decide) ?_
  refine L_ld (j := 3) (v := 2) (w := 3) hx hb hXs hbl hbA hS (lv_sub hl [0, 4] rfl) dL_law_1106 dL_law_1107 dL_law_1109 dL_law_1110 dL_law_1111 rfl (by decide) (by unfold vp_in; decide) (by decide) ?_
  refine L_calli (As := [Iz (xs 2).toInt, Iz (xs 3).toInt]) (rest := []) ⟨hx, hb, hml, hown, hts⟩ (k11_part (l := l) (dC := dC) (dI := dI) (cx := cx) (ia := (xs 2).toInt) (ib := (xs 3).toInt) h_ar h_nu h_tol ((i32_lo _)) ((i32_hi _)) ((i32_lo _)) ((i32_hi _))) (cwV 2 hts (lgV w0c_gd (w0L_gd _ ll_136).1 (wT_gd _ ti_X11_part).1 (wT_gd _ te_X11_part).1 (w0L_gd _ ln_RX11).1 cc_X11_part) rfl rfl rfl (by decide +kernel) ⟨Nat.le_of_ble_eq_true rfl, Nat.le_of_ble_eq_true rfl⟩) (L_preC hK hP hD hll (pW_x h_ar) _) hS hsub rfl hl.1 (Nat.le_of_ble_eq_true rfl) dL_law_1112 ⟨(show 5000 + (cMc LB ll + 0) ≤ 193330 by omega), (show 6200000 + (2 * cMc LB ll + 0) ≤ 8521466 by omega)⟩ (fun z1 H1 locs1 hz1 hsz hk1 hS => ?_)
  obtain ⟨-, -, -, -, -, -, rfl⟩ := hz1
  have hPr : va_P (eC, eI) rcl (mW h1 ad cI cJ cB cZ (fup (fun _ => 0) 25 mo) (fun _ _ => 0)) H1 := va_P_iff.mpr fun q hq => (va_P_iff.mp hPr q hq).kept (hk1 q.1 (va_P_iff.mp hPr q hq).lt (hkeep q.1 ((va_D_iff.mp hDr).2 q hq).1 (va_P_iff.mp hPr q hq).lt))
  refine W.widen (k := 100000) (n := 6400000) (by omega) (by omega) ?_
  refine lv_aload_n hx hb dL_law_1115 rfl (lv_at hl 2 rfl) ?_
  refine L_ld (j := 2) (v := 1) (w := 2) hx hb hXs hbl hbA hS (lv_sub hl [0, 4] rfl) dL_law_1116 dL_law_1117 dL_law_1119 dL_law_1120 dL_law_1121 rfl (by decide) (by unfold vp_in; decide) (by decide) ?_
  refine L_ld (j := 3) (v := 2) (w := 3) hx hb hXs hbl hbA hS (lv_sub hl [0, 4] rfl) dL_law_1122 dL_law_1123 dL_law_1125 dL_law_1126 dL_law_1127 rfl (by decide) (by unfold vp_in; decide) (by decide) ?_
  refine R_calli (As := [Iz (xs 2).toInt, Iz (xs 3).toInt]) (rest := [Iz _]) ⟨hx, hb, hml, hown, hts⟩ (c_part (l := l) (dC := eC) (dI := eI) (cI := cI) (cJ := cJ) (cB := cB) (cZ := cZ) (h0 := h1) (ad := ad) (F := (fup (fun _ => 0) 25 mo)) (ar := (fun _ _ => 0)) (ia := (xs 2).toInt) (ib := (xs 3).toInt) rfl rfl rfl (i32_lo _) (i32_hi _) (i32_lo _) (i32_hi _)) (cwV 2 hts (lgV w0r_gd (w0L_gd _ ll_139).1 (wT_gd _ ti_X12_part).1 (wT_gd _ te_X12_part).1 (w0L_gd _ ln_RX12).1 mc_part) rfl rfl rfl (by decide +kernel) ⟨Nat.le_of_ble_eq_true rfl, Nat.le_of_ble_eq_true rfl⟩) hKr hPr hDw hS hA rfl hl.1 (Nat.le_of_ble_eq_true rfl) dL_law_1128 ⟨Nat.le_of_ble_eq_true rfl, Nat.le_of_ble_eq_true rfl⟩ (fun z2 F2 ar2 H2 locs2 hz2 hPr2 hsz2 hk2 hS2 => ?_)
  obtain ⟨rfl, -⟩ := hz2
  refine lv_icmp_eq (tgt := 1388) hx hb dL_law_1131 (by decide) (fun _ => ?_) (fun q => absurd rfl q)
  exact T H2 locs2 ls hS2 (lv_sub hl [0, 4] rfl)
set_option maxHeartbeats 4000000 in
set_option maxRecDepth 100000 in
theorem lc_at {p : Program} {l : Launch} {e : Env} {s : State} {m : MethodId} {below : List Frame} {meth : Method} {c : Code} {b : Nat} {xs : Nat → Int32} {dC : Nat → ClassId} {dI : Nat → Nat → Nat} {cx : Nat → Nat} {eC : Nat → ClassId} {eI : Nat → Nat → Nat} {cI cJ cB cZ : Nat} {H : Heap} {locs : List Loc} {ls : Array Slot} {h0 h1 q3 n1 n2 : Nat} {mo : Int} (C : LA p l s m c b xs dC dI cx eC eI cI cJ cB cZ) (Z : LZ dC dI cx eC eI cI cJ cB cZ s b H locs ls h0 h1 q3 n1 n2 mo) (T : LT p l e s m below meth c b) : W p l e room_1 s m #[Value.ref b] below meth c H locs 5000 6200000 (lw_Z below #[Value.ref b] s) (F0 m 1223 ls []) := by
  obtain ⟨hx, hb, hml, hown, hts, hXs, hbl, hK, hKr, hC, hCX, hCY, hCZ, hlt⟩ := C
  obtain ⟨hS, hl, hF, hR, hP3, hn3, hn1, hn2, hm1, hm2⟩ := Z
  refine hF.elim (fun LB LP pc_ pd co X dd nn ss ll gg v cp vs nu tol pi_ ti_ fr stk t0 no pa s0 zo tx bu bv bw bs le rl rh ta tb tq tt tu tw tm ch ug uh uq ut uu ra rp rq xp xw xk xf xy xb hP hD hll hM h_ar h_fr mle h_nu h_tol hO hN h_s0 hU hTo hSt hNo h_ra h_rp h_rq nap naq_ npq h_ch hcp hcj mrl srl crl mrh srh crh mbu sbu cbu nlh hfc h_tx h_xp => ?_)
  have hsub : ∀ q, va_A (bW (cx 0) LB dd nn ss ll gg (pW cx LP pc_ pd co X)) H.size q → (fun q : Nat => s.heap.size ≤ q) q := fun q h => by
    rcases h with ⟨k, e0, h⟩ | h
    · exact (hD.2 k _ h).1
    · exact Nat.le_trans hS.1 h
  have hkeep : ∀ q, n1 ≤ q → q < H.size → ¬ va_A (bW (cx 0) LB dd nn ss ll gg (pW cx LP pc_ pd co X)) H.size q := fun q h1 h2 h => by
    rcases h with ⟨k, e0, h⟩ | h
    · have := (hD.2 k _ h).2; dsimp only at this; omega
    · omega
  obtain ⟨ad, hPr, hDr⟩ := hR
  have hDw : va_D (fun q : Nat => s.heap.size ≤ q) (mW h1 ad cI cJ cB cZ (fup (fun _ => 0) 25 mo) (fun _ _ => 0)) := hDr.weaken (fun k q _ h => Nat.le_trans hn1 h.1)
  have hbA : ¬ (fun q : Nat => s.heap.size ≤ q) b := Nat.not_le.mpr hbl
  have hA : ∀ q : Nat, s.heap.size ≤ q → (fun q : Nat => s.heap.size ≤ q) q := fun _ h => h
  refine lv_aload_n hx hb dL_law_1223 rfl (lv_at hl 1 rfl) ?_
  refine L_ld (j := 2) (v := 1) (w := 2) hx hb hXs hbl hbA hS (lv_sub hl [0, 4] rfl) dL_law_1224 dL_law_1225 dL_law_1227 dL_law_1228 dL_law_1229 rfl (by decide) (by unfold vp_in; decide) (by decide) ?_
  refine L_calli (As := [Iz (xs 2).toInt]) (rest := []) ⟨hx, hb, hml, hown, hts⟩ (k11_at (l := l) (dC := dC) (dI := dI) (cx := cx) (ia := (xs 2).toInt) h_ar h_tx ((i32_lo _)) ((i32_hi _))) (cwV 1 hts (lgV w0c_gd (w0L_gd _ ll_152).1 (wT_gd _ ti_X11_at).1 (wT_gd _ te_X11_at).1 (w0L_gd _ ln_RX11).1 cc_X11_at) rfl rfl rfl (by decide +kernel) ⟨Nat.le_of_ble_eq_true rfl, Nat.le_of_ble_eq_true rfl⟩) (L_preC hK hP hD hll (pW_x h_ar) _) hS hsub rfl hl.1 (Nat.le_of_ble_eq_true rfl) dL_law_1230 ⟨(show 5000 + (cMc LB ll + 0) ≤ 193330 by omega), (show 6200000 + (2 * cMc LB ll + 0) ≤ 8521466 by omega)⟩ (fun z1 H1 locs1 hz1 hsz hk1 hS => ?_)
  obtain ⟨-, -, -, -, -, -, rfl⟩ := hz1
  have hPr : va_P (eC, eI) rcl (mW h1 ad cI cJ cB cZ (fup (fun _ => 0) 25 mo) (fun _ _ => 0)) H1 := va_P_iff.mpr fun q hq => (va_P_iff.mp hPr q hq).kept (hk1 q.1 (va_P_iff.mp hPr q hq).lt (hkeep q.1 ((va_D_iff.mp hDr).2 q hq).1 (va_P_iff.mp hPr q hq).lt))
  refine W.widen (k := 100000) (n := 6400000) (by omega) (by omega) ?_
  refine lv_aload_n hx hb dL_law_1233 rfl (lv_at hl 2 rfl) ?_
  refine L_ld (j := 2) (v := 1) (w := 2) hx hb hXs hbl hbA hS (lv_sub hl [0, 4] rfl) dL_law_1234 dL_law_1235 dL_law_1237 dL_law_1238 dL_law_1239 rfl (by decide) (by unfold vp_in; decide) (by decide) ?_
  refine R_calli (As := [Iz (xs 2).toInt]) (rest := [Iz _]) ⟨hx, hb, hml, hown, hts⟩ (c_at (l := l) (dC := eC) (dI := eI) (cI := cI) (cJ := cJ) (cB := cB) (cZ := cZ) (h0 := h1) (ad := ad) (F := (fup (fun _ => 0) 25 mo)) (ar := (fun _ _ => 0)) (ia := (xs 2).toInt) rfl rfl rfl (i32_lo _) (i32_hi _)) (cwV 1 hts (lgV w0r_gd (w0L_gd _ ll_155).1 (wT_gd _ ti_X12_at).1 (wT_gd _ te_X12_at).1 (w0L_gd _ ln_RX12).1 mc_at) rfl rfl rfl (by decide +kernel) ⟨Nat.le_of_ble_eq_true rfl, Nat.le_of_ble_eq_true rfl⟩) hKr hPr hDw hS hA rfl hl.1 (Nat.le_of_ble_eq_true rfl) dL_law_1240 ⟨Nat.le_of_ble_eq_true rfl, Nat.le_of_ble_eq_true rfl⟩ (fun z2 F2 ar2 H2 locs2 hz2 hPr2 hsz2 hk2 hS2 => ?_)
  obtain ⟨rfl, -⟩ := hz2
  refine lv_icmp_eq (tgt := 1388) hx hb dL_law_1243 (by decide) (fun _ => ?_) (fun q => absurd rfl q)
  exact T H2 locs2 ls hS2 (lv_sub hl [0, 4] rfl)
