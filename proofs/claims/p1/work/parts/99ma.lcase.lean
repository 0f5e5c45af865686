set_option maxHeartbeats 4000000 in
set_option maxRecDepth 100000 in
theorem lc_root {p : Program} {l : Launch} {e : Env} {s : State} {m : MethodId} {below : List Frame} {meth : Method} {c : Code} {b : Nat} {xs : Nat → Int32} {dC : Nat → ClassId} {dI : Nat → Nat → Nat} {cx : Nat → Nat} {eC : Nat → ClassId} {eI : Nat → Nat → Nat} {cI cJ cB cZ : Nat} {H : Heap} {locs : List Loc} {ls : Array Slot} {h0 h1 q3 n1 n2 : Nat} {mo : Int} (C : LA p l s m c b xs dC dI cx eC eI cI cJ cB cZ) (Z : LZ dC dI cx eC eI cI cJ cB cZ s b H locs ls h0 h1 q3 n1 n2 mo) (T : LT p l e s m below meth c b) : W p l e room_1 s m #[Value.ref b] below meth c H locs 5000 6200000 (lw_Z below #[Value.ref b] s) (F0 m 462 ls []) := by
  obtain ⟨hx, hb, hml, hown, hts, hXs, hbl, hK, hKr, hC, hCX, hCY, hCZ, hlt⟩ := C
  obtain ⟨hS, hl, hF, hR, hP3, hn3, hn1, hn2, hm1, hm2⟩ := Z
  refine hF.elim (fun LB LP pc_ pd co X dd nn ss ll gg v cp vs nu tol pi_ ti_ fr stk t0 no pa s0 zo tx bu bv bw bs le rl rh ta tb tq tt tu tw tm ch ug uh uq ut uu ra rp rq xp xw xk xf xy xb hP hD hll hM h_ar h_fr mle h_nu h_tol hO hN h_s0 hU hTo hSt hNo h_ra h_rp h_rq nap naq_ npq h_ch hcp hcj mrl srl crl mrh srh crh mbu sbu cbu nlh hfc h_tx h_xp => ?_)
  have hsub : ∀ q, va_A (bW (cx 0) LB dd nn ss ll gg (pW cx LP pc_ pd co X)) H.size q → (fun q : Nat => s.heap.size ≤ q) q := fun q h => by
    rcases h with ⟨k, e0, h⟩ | h
    · exact (hD.2 k _ h).1
    · exact Nat.le_trans hS.1 h
  have hkeep : ∀ q, n1 ≤ q → q < H.size → ¬ va_A (bW (cx 0) LB dd nn ss ll gg (pW cx LP pc_ pd co X)) H.size q := fun q h1 h2 h => by
    rcases h with ⟨k, e0, h⟩ | h
    · have := (hD.2 k _ h).2; dsimp only at this; omega
    · omega
  obtain ⟨ad, hPr, hDr⟩ := hR
  have hDw : va_D (fun q : Nat => s.heap.size ≤ q) (mW h1 ad cI cJ cB cZ (fup (fun _ => 0) 25 mo) (fun _ _ => 0)) := hDr.weaken (fun k q _ h => Nat.le_trans hn1 h.1)
  have hbA : ¬ (fun q : Nat => s.heap.size ≤ q) b := Nat.not_le.mpr hbl
  have hA : ∀ q : Nat, s.heap.size ≤ q → (fun q : Nat => s.heap.size ≤ q) q := fun _ h => h
  refine lv_aload_n hx hb dL_law_462 rfl (lv_at hl 1 rfl) ?_
  refine L_ld (j := 2) (v := 1) (w := 2) hx hb hXs hbl hbA hS (lv_sub hl [0, 4] rfl) dL_law_463 dL_law_464 dL_law_466 dL_law_467 dL_law_468 rfl (by decide) (by unfold vp_in; decide) (by decide) ?_
  refine L_ld (j := 3) (v := 2) (w := 3) hx hb hXs hbl hbA hS (lv_sub hl [0, 4] rfl) dL_law_469 dL_law_470 dL_law_472 dL_law_473 dL_law_474 rfl (by decide) (by unfold vp_in; decide) (by decide) ?_
  refine L_calli (As := [Iz (xs 2).toInt, Iz (xs 3).toInt]) (rest := []) ⟨hx, hb, hml, hown, hts⟩ (k11_root (l := l) (dC := dC) (dI := dI) (cx := cx) (ia := (xs 2).toInt) (ib := (xs 3).toInt) h_ar h_nu h_tol ((i32_lo _)) ((i32_hi _)) ((i32_lo _)) ((i32_hi _))) (cwV 2 hts (lgV w0c_gd (w0L_gd _ ll_65).1 (wT_gd _ ti_X11_root).1 (wT_gd _ te_X11_root).1 (w0L_gd _ ln_RX11).1 cc_X11_root) rfl rfl rfl (by decide +kernel) ⟨Nat.le_of_ble_eq_true rfl, Nat.le_of_ble_eq_true rfl⟩) (L_preC hK hP hD hll (pW_x h_ar) _) hS hsub rfl hl.1 (Nat.le_of_ble_eq_true rfl) dL_law_475 ⟨(show 5000 + (cMc LB ll + 0) ≤ 193330 by omega), (show 6200000 + (2 * cMc LB ll + 0) ≤ 8521466 by omega)⟩ (fun z1 H1 locs1 hz1 hsz hk1 hS => ?_)
  obtain ⟨-, -, -, -, -, -, rfl⟩ := hz1
  have hPr : va_P (eC, eI) rcl (mW h1 ad cI cJ cB cZ (fup (fun _ => 0) 25 mo) (fun _ _ => 0)) H1 := va_P_iff.mpr fun q hq => (va_P_iff.mp hPr q hq).kept (hk1 q.1 (va_P_iff.mp hPr q hq).lt (hkeep q.1 ((va_D_iff.mp hDr).2 q hq).1 (va_P_iff.mp hPr q hq).lt))
  refine W.widen (k := 100000) (n := 6400000) (by omega) (by omega) ?_
  refine lv_aload_n hx hb dL_law_478 rfl (lv_at hl 2 rfl) ?_
  refine L_ld (j := 2) (v := 1) (w := 2) hx hb hXs hbl hbA hS (lv_sub hl [0, 4] rfl) dL_law_479 dL_law_480 dL_law_482 dL_law_483 dL_law_484 rfl (by decide) (by unfold vp_in; decide) (by decide) ?_
  refine L_ld (j := 3) (v := 2) (w := 3) hx hb hXs hbl hbA hS (lv_sub hl [0, 4] rfl) dL_law_485 dL_law_486 dL_law_488 dL_law_489 dL_law_490 rfl (by decide) (by unfold vp_in; decide) (by decide) ?_
  refine R_calli (As := [Iz (xs 2).toInt, Iz (xs 3).toInt]) (rest := [Iz _]) ⟨hx, hb, hml, hown, hts⟩ (c_root (l := l) (dC := eC) (dI := eI) (cI := cI) (cJ := cJ) (cB := cB) (cZ := cZ) (h0 := h1) (ad := ad) (F := (fup (fun _ => 0) 25 mo)) (ar := (fun _ _ => 0)) (ia := (xs 2).toInt) (ib := (xs 3).toInt) rfl rfl (i32_lo _) (i32_hi _) (i32_lo _) (i32_hi _)) (cwV 2 hts (lgV w0r_gd (w0L_gd _ ll_68).1 (wT_gd _ ti_X12_root).1 (wT_gd _ te_X12_root).1 (w0L_gd _ ln_RX12).1 mc_root) rfl rfl rfl (by decide +kernel) ⟨Nat.le_of_ble_eq_true rfl, Nat.le_of_ble_eq_true rfl⟩) hKr hPr hDw hS hA rfl hl.1 (Nat.le_of_ble_eq_true rfl) dL_law_491 ⟨Nat.le_of_ble_eq_true rfl, Nat.le_of_ble_eq_true rfl⟩ (fun z2 F2 ar2 H2 locs2 hz2 hPr2 hsz2 hk2 hS2 => ?_)
  obtain ⟨rfl, -⟩ := hz2
  refine lv_icmp_eq (tgt := 1388) hx hb dL_law_494 (by decide) (fun _ => ?_) (fun q => absurd rfl q)
  exact T H2 locs2 ls hS2 (lv_sub hl [0, 4] rfl)
set_option maxHeartbeats 4000000 in
set_option maxRecDepth 100000 in
theorem lc_rootOf {p : Program} {l : Launch} {e : Env} {s : State} {m : MethodId} {below : List Frame} {meth : Method} {c : Code} {b : Nat} {xs : Nat → Int32} {dC : Nat → ClassId} {dI : Nat → Nat → Nat} {cx : Nat → Nat} {eC : Nat → ClassId} {eI : Nat → Nat → Nat} {cI cJ cB cZ : Nat} {H : Heap} {locs : List Loc} {ls : Array Slot} {h0 h1 q3 n1 n2 : Nat} {mo : Int} (C : LA p l s m c b xs dC dI cx eC eI cI cJ cB cZ) (Z : LZ dC dI cx eC eI cI cJ cB cZ s b H locs ls h0 h1 q3 n1 n2 mo) (T : LT p l e s m below meth c b) : W p l e room_1 s m #[Value.ref b] below meth c H locs 5000 6200000 (lw_Z below #[Value.ref b] s) (F0 m 670 ls []) := by
  obtain ⟨hx, hb, hml, hown, hts, hXs, hbl, hK, hKr, hC, hCX, hCY, hCZ, hlt⟩ := C
  obtain ⟨hS, hl, hF, hR, hP3, hn3, hn1, hn2, hm1, hm2⟩ := Z
  refine hF.elim (fun LB LP pc_ pd co X dd nn ss ll gg v cp vs nu tol pi_ ti_ fr stk t0 no pa s0 zo tx bu bv bw bs le rl rh ta tb tq tt tu tw tm ch ug uh uq ut uu ra rp rq xp xw xk xf xy xb hP hD hll hM h_ar h_fr mle h_nu h_tol hO hN h_s0 hU hTo hSt hNo h_ra h_rp h_rq nap naq_ npq h_ch hcp hcj mrl srl crl mrh srh crh mbu sbu cbu nlh hfc h_tx h_xp => ?_)
  have hsub : ∀ q, va_A (bW (cx 0) LB dd nn ss ll gg (pW cx LP pc_ pd co X)) H.size q → (fun q : Nat => s.heap.size ≤ q) q := fun q h => by
    rcases h with ⟨k, e0, h⟩ | h
    · exact (hD.2 k _ h).1
    · exact Nat.le_trans hS.1 h
  have hkeep : ∀ q, n1 ≤ q → q < H.size → ¬ va_A (bW (cx 0) LB dd nn ss ll gg (pW cx LP pc_ pd co X)) H.size q := fun q h1 h2 h => by
    rcases h with ⟨k, e0, h⟩ | h
    · have := (hD.2 k _ h).2; dsimp only at this; omega
    · omega
  obtain ⟨ad, hPr, hDr⟩ := hR
  have hDw : va_D (fun q : Nat => s.heap.size ≤ q) (mW h1 ad cI cJ cB cZ (fup (fun _ => 0) 25 mo) (fun _ _ => 0)) := hDr.weaken (fun k q _ h => Nat.le_trans hn1 h.1)
  have hbA : ¬ (fun q : Nat => s.heap.size ≤ q) b := Nat.not_le.mpr hbl
  have hA : ∀ q : Nat, s.heap.size ≤ q → (fun q : Nat => s.heap.size ≤ q) q := fun _ h => h
  refine lv_aload_n hx hb dL_law_670 rfl (lv_at hl 1 rfl) ?_
  refine L_ld (j := 2) (v := 1) (w := 2) hx hb hXs hbl hbA hS (lv_sub hl [0, 4] rfl) dL_law_671 dL_law_672 dL_law_674 dL_law_675 dL_law_676 rfl (by decide) (by unfold vp_in; decide) (by decide) ?_
  refine L_ld (j := 3) (v := 2) (w := 3) hx hb hXs hbl hbA hS (lv_sub hl [0, 4] rfl) dL_law_677 dL_law_678 dL_law_680 dL_law_681 dL_law_682 rfl (by decide) (by unfold vp_in; decide) (by decide) ?_
  refine L_calli (As := [Iz (xs 2).toInt, Iz (xs 3).toInt]) (rest := []) ⟨hx, hb, hml, hown, hts⟩ (k11_rootOf (l := l) (dC := dC) (dI := dI) (cx := cx) (ia := (xs 2).toInt) (ib := (xs 3).toInt) h_ar h_nu h_tol ((i32_lo _)) ((i32_hi _)) ((i32_lo _)) ((i32_hi _))) (cwV 2 hts (lgV w0c_gd (w0L_gd _ ll_82).1 (wT_gd _ ti_X11_rootOf).1 (wT_gd _ te_X11_rootOf).1 (w0L_gd _ ln_RX11).1 cc_X11_rootOf) rfl rfl rfl (by decide +kernel) ⟨Nat.le_of_ble_eq_true rfl, Nat.le_of_ble_eq_true rfl⟩) (L_preC hK hP hD hll (pW_x h_ar) _) hS hsub rfl hl.1 (Nat.le_of_ble_eq_true rfl) dL_law_683 ⟨(show 5000 + (cMc LB ll + 0) ≤ 193330 by omega), (show 6200000 + (2 * cMc LB ll + 0) ≤ 8521466 by omega)⟩ (fun z1 H1 locs1 hz1 hsz hk1 hS => ?_)
  obtain ⟨-, -, -, -, -, -, rfl⟩ := hz1
  have hPr : va_P (eC, eI) rcl (mW h1 ad cI cJ cB cZ (fup (fun _ => 0) 25 mo) (fun _ _ => 0)) H1 := va_P_iff.mpr fun q hq => (va_P_iff.mp hPr q hq).kept (hk1 q.1 (va_P_iff.mp hPr q hq).lt (hkeep q.1 ((va_D_iff.mp hDr).2 q hq).1 (va_P_iff.mp hPr q hq).lt))
  refine W.widen (k := 100000) (n := 6400000) (by omega) (by omega) ?_
  refine lv_aload_n hx hb dL_law_686 rfl (lv_at hl 2 rfl) ?_
  refine L_ld (j := 2) (v := 1) (w := 2) hx hb hXs hbl hbA hS (lv_sub hl [0, 4] rfl) dL_law_687 dL_law_688 dL_law_690 dL_law_691 dL_law_692 rfl (by decide) (by unfold vp_in; decide) (by decide) ?_
  refine L_ld (j := 3) (v := 2) (w := 3) hx hb hXs hbl hbA hS (lv_sub hl [0, 4] rfl) dL_law_693 dL_law_694 dL_law_696 dL_law_697 dL_law_698 rfl (by decide) (by unfold vp_in; decide) (by decide) ?_
  refine R_calli (As := [Iz (xs 2).toInt, Iz (xs 3).toInt]) (rest := [Iz _]) ⟨hx, hb, hml, hown, hts⟩ (c_rootOf (l := l) (dC := eC) (dI := eI) (cI := cI) (cJ := cJ) (cB := cB) (cZ := cZ) (h0 := h1) (ad := ad) (F := (fup (fun _ => 0) 25 mo)) (ar := (fun _ _ => 0)) (ia := (xs 2).toInt) (ib := (xs 3).toInt) rfl rfl (i32_lo _) (i32_hi _) (i32_lo _) (i32_hi _)) (cwV 2 hts (lgV w0r_gd (w0L_gd _ ll_85).1 (wT_gd _ ti_X12_rootOf).1 (wT_gd _ te_X12_rootOf).1 (w0L_gd _ ln_RX12).1 mc_rootOf) rfl rfl rfl (by decide +kernel) ⟨Nat.le_of_ble_eq_true rfl, Nat.le_of_ble_eq_true rfl⟩) hKr hPr hDw hS hA rfl hl.1 (Nat.le_of_ble_eq_true rfl) dL_law_699 ⟨Nat.le_of_ble_eq_true rfl, Nat.le_of_ble_eq_true rfl⟩ (fun z2 F2 ar2 H2 locs2 hz2 hPr2 hsz2 hk2 hS2 => ?_)
  obtain ⟨rfl, -⟩ := hz2
  refine lv_icmp_eq (tgt := 1388) hx hb dL_law_702 (by decide) (fun _ => ?_) (fun q => absurd rfl q)
  exact T H2 locs2 ls hS2 (lv_sub hl [0, 4] rfl)
set_option maxHeartbeats 4000000 in
set_option maxRecDepth 100000 in
theorem lc_compare {p : Program} {l : Launch} {e : Env} {s : State} {m : MethodId} {below : List Frame} {meth : Method} {c : Code} {b : Nat} {xs : Nat → Int32} {dC : Nat → ClassId} {dI : Nat → Nat → Nat} {cx : Nat → Nat} {eC : Nat → ClassId} {eI : Nat → Nat → Nat} {cI cJ cB cZ : Nat} {H : Heap} {locs : List Loc} {ls : Array Slot} {h0 h1 q3 n1 n2 : Nat} {mo : Int} (C : LA p l s m c b xs dC dI cx eC eI cI cJ cB cZ) (Z : LZ dC dI cx eC eI cI cJ cB cZ s b H locs ls h0 h1 q3 n1 n2 mo) (T : LT p l e s m below meth c b) : W p l e room_1 s m #[Value.ref b] below meth c H locs 5000 6200000 (lw_Z below #[Value.ref b] s) (F0 m 770 ls []) := by
  obtain ⟨hx, hb, hml, hown, hts, hXs, hbl, hK, hKr, hC, hCX, hCY, hCZ, hlt⟩ := C
  obtain ⟨hS, hl, hF, hR, hP3, hn3, hn1, hn2, hm1, hm2⟩ := Z
  refine hF.elim (fun LB LP pc_ pd co X dd nn ss ll gg v cp vs nu tol pi_ ti_ fr stk t0 no pa s0 zo tx bu bv bw bs le rl rh ta tb tq tt tu tw tm ch ug uh uq ut uu ra rp rq xp xw xk xf xy xb hP hD hll hM h_ar h_fr mle h_nu h_tol hO hN h_s0 hU hTo hSt hNo h_ra h_rp h_rq nap naq_ npq h_ch hcp hcj mrl srl crl mrh srh crh mbu sbu cbu nlh hfc h_tx h_xp => ?_)
  have hsub : ∀ q, va_A (bW (cx 0) LB dd nn ss ll gg (pW cx LP pc_ pd co X)) H.size q → (fun q : Nat => s.heap.size ≤ q) q := fun q h => by
    rcases h with ⟨k, e0, h⟩ | h
    · exact (hD.2 k _ h).1
    · exact Nat.le_trans hS.1 h
  have hkeep : ∀ q, n1 ≤ q → q < H.size → ¬ va_A (bW (cx 0) LB dd nn ss ll gg (pW cx LP pc_ pd co X)) H.size q := fun q h1 h2 h => by
    rcases h with ⟨k, e0, h⟩ | h
    · have := (hD.2 k _ h).2; dsimp only at this; omega
    · omega
  obtain ⟨ad, hPr, hDr⟩ := hR
  have hDw : va_D (fun q : Nat => s.heap.size ≤ q) (mW h1 ad cI cJ cB cZ (fup (fun _ => 0) 25 mo) (fun _ _ => 0)) := hDr.weaken (fun k q _ h => Nat.le_trans hn1 h.1)
  have hbA : ¬ (fun q : Nat => s.heap.size ≤ q) b := Nat.not_le.mpr hbl
  have hA : ∀ q : Nat, s.heap.size ≤ q → (fun q : Nat => s.heap.size ≤ q) q := fun _ h => h
  refine lv_aload_n hx hb dL_law_770 rfl (lv_at hl 1 rfl) ?_
  refine L_ld (j := 2) (v := 1) (w := 2) hx hb hXs hbl hbA hS (lv_sub hl [0, 4] rfl) dL_law_771 dL_law_772 dL_law_774 dL_law_775 dL_law_776 rfl (by decide) (by unfold vp_in; decide) (by decide) ?_
  refine L_ld (j := 3) (v := 2) (w := 3) hx hb hXs hbl hbA hS (lv_sub hl [0, 4] rfl) dL_law_777 dL_law_778 dL_law_780 dL_law_781 dL_law_782 rfl (by decide) (by unfold vp_in; decide) (by decide) ?_
  refine L_calli (As := [Iz (xs 2).toInt, Iz (xs 3).toInt]) (rest := []) ⟨hx, hb, hml, hown, hts⟩ (k11_compare (l := l) (dC := dC) (dI := dI) (cx := cx) (ia := (xs 2).toInt) (ib := (xs 3).toInt) h_ar h_nu h_tol ((i32_lo _)) ((i32_hi _)) ((i32_lo _)) ((i32_hi _))) (cwV 2 hts (lgV w0c_gd (w0L_gd _ ll_98).1 (wT_gd _ ti_X11_compare).1 (wT_gd _ te_X11_compare).1 (w0L_gd _ ln_RX11).1 cc_X11_compare) rfl rfl rfl (by decide +kernel) ⟨Nat.le_of_ble_eq_true rfl, Nat.le_of_ble_eq_true rfl⟩) (L_preC hK hP hD hll (pW_x h_ar) _) hS hsub rfl hl.1 (Nat.le_of_ble_eq_true rfl) dL_law_783 ⟨(show 5000 + (cMc LB ll + 0) ≤ 193330 by omega), (show 6200000 + (2 * cMc LB ll + 0) ≤ 8521466 by omega)⟩ (fun z1 H1 locs1 hz1 hsz hk1 hS => ?_)
  obtain ⟨-, -, -, -, -, -, rfl⟩ := hz1
  have hPr : va_P (eC, eI) rcl (mW h1 ad cI cJ cB cZ (fup (fun _ => 0) 25 mo) (fun _ _ => 0)) H1 := va_P_iff.mpr fun q hq => (va_P_iff.mp hPr q hq).kept (hk1 q.1 (va_P_iff.mp hPr q hq).lt (hkeep q.1 ((va_D_iff.mp hDr).2 q hq).1 (va_P_iff.mp hPr q hq).lt))
  refine W.widen (k := 100000) (n := 6400000) (by omega) (by omega) ?_
  refine lv_aload_n hx hb dL_law_786 rfl (lv_at hl 2 rfl) ?_
  refine L_ld (j := 2) (v := 1) (w := 2) hx hb hXs hbl hbA hS (lv_sub hl [0, 4] rfl) dL_law_787 dL_law_788 dL_law_790 dL_law_791 dL_law_792 rfl (by decide) (by unfold vp_in; decide) (by decide) ?_
  refine L_ld (j := 3) (v := 2) (w := 3) hx hb hXs hbl hbA hS (lv_sub hl [0, 4] rfl) dL_law_793 dL_law_794 dL_law_796 dL_law_797 dL_law_798 rfl (by decide) (by unfold vp_in; decide) (by decide) ?_
  refine R_calli (As := [Iz (xs 2).toInt, Iz (xs 3).toInt]) (rest := [Iz _]) ⟨hx, hb, hml, hown, hts⟩ (c_compare (l := l) (dC := eC) (dI := eI) (cI := cI) (cJ := cJ) (cB := cB) (cZ := cZ) (h0 := h1) (ad := ad) (F := (fup (fun _ => 0) 25 mo)) (ar := (fun _ _ => 0)) (ia := (xs 2).toInt) (ib := (xs 3).toInt) rfl rfl (i32_lo _) (i32_hi _) (i32_lo _) (i32_hi _)) (cwV 2 hts (lgV w0r_gd (w0L_gd _ ll_101).1 (wT_gd _ ti_X12_compare).1 (wT_gd _ te_X12_compare).1 (w0L_gd _ ln_RX12).1 mc_compare) rfl rfl rfl (by decide +kernel) ⟨Nat.le_of_ble_eq_true rfl, Nat.le_of_ble_eq_true rfl⟩) hKr hPr hDw hS hA rfl hl.1 (Nat.le_of_ble_eq_true rfl) dL_law_799 ⟨Nat.le_of_ble_eq_true rfl, Nat.le_of_ble_eq_true rfl⟩ (fun z2 F2 ar2 H2 locs2 hz2 hPr2 hsz2 hk2 hS2 => ?_)
  obtain ⟨rfl, -⟩ := hz2
  refine lv_icmp_eq (tgt := 1388) hx hb dL_law_802 (by decide) (fun _ => ?_) (fun q => absurd rfl q)
  exact T H2 locs2 ls hS2 (lv_sub hl [0, 4] rfl)
set_option maxHeartbeats 4000000 in
set_option maxRecDepth 100000 in
theorem lc_polynomial {p : Program} {l : Launch} {e : Env} {s : State} {m : MethodId} {below : List Frame} {meth : Method} {c : Code} {b : Nat} {xs : Nat → Int32} {dC : Nat → ClassId} {dI : Nat → Nat → Nat} {cx : Nat → Nat} {eC : Nat → ClassId} {eI : Nat → Nat → Nat} {cI cJ cB cZ : Nat} {H : Heap} {locs : List Loc} {ls : Array Slot} {h0 h1 q3 n1 n2 : Nat} {mo : Int} (C : LA p l s m c b xs dC dI cx eC eI cI cJ cB cZ) (Z : LZ dC dI cx eC eI cI cJ cB cZ s b H locs ls h0 h1 q3 n1 n2 mo) (T : LT p l e s m below meth c b) : W p l e room_1 s m #[Value.ref b] below meth c H locs 5000 6200000 (lw_Z below #[Value.ref b] s) (F0 m 906 ls []) := by
  obtain ⟨hx, hb, hml, hown, hts, hXs, hbl, hK, hKr, hC, hCX, hCY, hCZ, hlt⟩ := C
  obtain ⟨hS, hl, hF, hR, hP3, hn3, hn1, hn2, hm1, hm2⟩ := Z
  refine hF.elim (fun LB LP pc_ pd co X dd nn ss ll gg v cp vs nu tol pi_ ti_ fr stk t0 no pa s0 zo tx bu bv bw bs le rl rh ta tb tq tt tu tw tm ch ug uh uq ut uu ra rp rq xp xw xk xf xy xb hP hD hll hM h_ar h_fr mle h_nu h_tol hO hN h_s0 hU hTo hSt hNo h_ra h_rp h_rq nap naq_ npq h_ch hcp hcj mrl srl crl mrh srh crh mbu sbu cbu nlh hfc h_tx h_xp => ?_)
  have hsub : ∀ q, va_A (bW (cx 0) LB dd nn ss ll gg (pW cx LP pc_ pd co X)) H.size q → (fun q : Nat => s.heap.size ≤ q) q := fun q h => by
    rcases h with ⟨k, e0, h⟩ | h
    · exact (hD.2 k _ h).1
    · exact Nat.le_trans hS.1 h
  have hkeep : ∀ q, n1 ≤ q → q < H.size → ¬ va_A (bW (cx 0) LB dd nn ss ll gg (pW cx LP pc_ pd co X)) H.size q := fun q h1 h2 h => by
    rcases h with ⟨k, e0, h⟩ | h
    · have := (hD.2 k _ h).2; dsimp only at this; omega
    · omega
  obtain ⟨ad, hPr, hDr⟩ := hR
  have hDw : va_D (fun q : Nat => s.heap.size ≤ q) (mW h1 ad cI cJ cB cZ (fup (fun _ => 0) 25 mo) (fun _ _ => 0)) := hDr.weaken (fun k q _ h => Nat.le_trans hn1 h.1)
  have hbA : ¬ (fun q : Nat => s.heap.size ≤ q) b := Nat.not_le.mpr hbl
  have hA : ∀ q : Nat, s.heap.size ≤ q → (fun q : Nat => s.heap.size ≤ q) q := fun _ h => h
  refine lv_aload_n hx hb dL_law_906 rfl (lv_at hl 1 rfl) ?_
  refine L_calli (As := []) (rest := []) ⟨hx, hb, hml, hown, hts⟩ (k11_polynomial (l := l) (dC := dC) (dI := dI) (cx := cx)  h_ar h_tol) (cwV 0 hts (lgV w0c_gd (w0L_gd _ ll_115).1 (wT_gd _ ti_X11_polynomial).1 (wT_gd _ te_X11_polynomial).1 (w0L_gd _ ln_RX11).1 cc_X11_polynomial) rfl rfl rfl (by decide +kernel) ⟨Nat.le_of_ble_eq_true rfl, Nat.le_of_ble_eq_true rfl⟩) (L_preN hK hC hP hD hll (pW_x h_ar) _) hS hsub rfl hl.1 (Nat.le_of_ble_eq_true rfl) dL_law_907 ⟨(show 5000 + (cMc LB ll + 71) ≤ 193330 by omega), (show 6200000 + (2 * cMc LB ll + 202) ≤ 8521466 by omega)⟩ (fun z1 H1 locs1 hz1 hsz hk1 hS => ?_)
  obtain ⟨-, -, -, -, -, -, rfl⟩ := hz1
  have hPr : va_P (eC, eI) rcl (mW h1 ad cI cJ cB cZ (fup (fun _ => 0) 25 mo) (fun _ _ => 0)) H1 := va_P_iff.mpr fun q hq => (va_P_iff.mp hPr q hq).kept (hk1 q.1 (va_P_iff.mp hPr q hq).lt (hkeep q.1 ((va_D_iff.mp hDr).2 q hq).1 (va_P_iff.mp hPr q hq).lt))
  refine W.widen (k := 100000) (n := 6400000) (by omega) (by omega) ?_
  refine lv_aload_n hx hb dL_law_910 rfl (lv_at hl 2 rfl) ?_
  refine R_calli (As := []) (rest := [Iz _]) ⟨hx, hb, hml, hown, hts⟩ (c_polynomial (l := l) (dC := eC) (dI := eI) (cI := cI) (cJ := cJ) (cB := cB) (cZ := cZ) (h0 := h1) (ad := ad) (F := (fup (fun _ => 0) 25 mo)) (ar := (fun _ _ => 0))  rfl) (cwV 0 hts (lgV w0r_gd (w0L_gd _ ll_118).1 (wT_gd _ ti_X12_polynomial).1 (wT_gd _ te_X12_polynomial).1 (w0L_gd _ ln_RX12).1 mc_polynomial) rfl rfl rfl (by decide +kernel) ⟨Nat.le_of_ble_eq_true rfl, Nat.le_of_ble_eq_true rfl⟩) hKr hPr hDw hS hA rfl hl.1 (Nat.le_of_ble_eq_true rfl) dL_law_911 ⟨Nat.le_of_ble_eq_true rfl, Nat.le_of_ble_eq_true rfl⟩ (fun z2 F2 ar2 H2 locs2 hz2 hPr2 hsz2 hk2 hS2 => ?_)
  obtain ⟨rfl, -⟩ := hz2
  refine lv_icmp_eq (tgt := 1388) hx hb dL_law_914 (by decide) (fun _ => ?_) (fun q => absurd rfl q)
  exact T H2 locs2 ls hS2 (lv_sub hl [0, 4] rfl)
set_option maxHeartbeats 4000000 in
set_option maxRecDepth 100000 in
theorem lc_parts {p : Program} {l : Launch} {e : Env} {s : State} {m : MethodId} {below : List Frame} {meth : Method} {c : Code} {b : Nat} {xs : Nat → Int32} {dC : Nat → ClassId} {dI : Nat → Nat → Nat} {cx : Nat → Nat} {eC : Nat → ClassId} {eI : Nat → Nat → Nat} {cI cJ cB cZ : Nat} {H : Heap} {locs : List Loc} {ls : Array Slot} {h0 h1 q3 n1 n2 : Nat} {mo : Int} (C : LA p l s m c b xs dC dI cx eC eI cI cJ cB cZ) (Z : LZ dC dI cx eC eI cI cJ cB cZ s b H locs ls h0 h1 q3 n1 n2 mo) (T : LT p l e s m below meth c b) : W p l e room_1 s m #[Value.ref b] below meth c H locs 5000 6200000 (lw_Z below #[Value.ref b] s) (F0 m 1074 ls []) := by
  obtain ⟨hx, hb, hml, hown, hts, hXs, hbl, hK, hKr, hC, hCX, hCY, hCZ, hlt⟩ := C
  obtain ⟨hS, hl, hF, hR, hP3, hn3, hn1, hn2, hm1, hm2⟩ := Z
  refine hF.elim (fun LB LP pc_ pd co X dd nn ss ll gg v cp vs nu tol pi_ ti_ fr stk t0 no pa s0 zo tx bu bv bw bs le rl rh ta tb tq tt tu tw tm ch ug uh uq ut uu ra rp rq xp xw xk xf xy xb hP hD hll hM h_ar h_fr mle h_nu h_tol hO hN h_s0 hU hTo hSt hNo h_ra h_rp h_rq nap naq_ npq h_ch hcp hcj mrl srl crl mrh srh crh mbu sbu cbu nlh hfc h_tx h_xp => ?_)
  have hsub : ∀ q, va_A (bW (cx 0) LB dd nn ss ll gg (pW cx LP pc_ pd co X)) H.size q → (fun q : Nat => s.heap.size ≤ q) q := fun q h => by
    rcases h with ⟨k, e0, h⟩ | h
    · exact (hD.2 k _ h).1
    · exact Nat.le_trans hS.1 h
  have hkeep : ∀ q, n1 ≤ q → q < H.size → ¬ va_A (bW (cx 0) LB dd nn ss ll gg (pW cx LP pc_ pd co X)) H.size q := fun q h1 h2 h => by
    rcases h with ⟨k, e0, h⟩ | h
    · have := (hD.2 k _ h).2; dsimp only at this; omega
    · omega
  obtain ⟨ad, hPr, hDr⟩ := hR
  have hDw : va_D (fun q : Nat => s.heap.size ≤ q) (mW h1 ad cI cJ cB cZ (fup (fun _ => 0) 25 mo) (fun _ _ => 0)) := hDr.weaken (fun k q _ h => Nat.le_trans hn1 h.1)
  have hbA : ¬ (fun q : Nat => s.heap.size ≤ q) b := Nat.not_le.mpr hbl
  have hA : ∀ q : Nat, s.heap.size ≤ q → (fun q : Nat => s.heap.size ≤ q) q := fun _ h => h
  refine lv_aload_n hx hb dL_law_1074 rfl (lv_at hl 1 rfl) ?_
  refine L_ld (j := 2) (v := 1) (w := 2) hx hb hXs hbl hbA hS (lv_sub hl [0, 4] rfl) dL_law_1075 dL_law_1076 dL_law_1078 dL_law_1079 dL_law_1080 rfl (by decide) (by unfold vp_in; decide) (by decide) ?_
  refine L_calli (As := [Iz (xs 2).toInt]) (rest := []) ⟨hx, hb, hml, hown, hts⟩ (k11_parts (l := l) (dC := dC) (dI := dI) (cx := cx) (ia := (xs 2).toInt) h_ar h_nu h_tol ((i32_lo _)) ((i32_hi _))) (cwV 1 hts (lgV w0c_gd (w0L_gd _ ll_132).1 (wT_gd _ ti_X11_parts).1 (wT_gd _ te_X11_parts).1 (w0L_gd _ ln_RX11).1 cc_X11_parts) rfl rfl rfl (by decide +kernel) ⟨Nat.le_of_ble_eq_true rfl, Nat.le_of_ble_eq_true rfl⟩) (L_preC hK hP hD hll (pW_x h_ar) _) hS hsub rfl hl.1 (Nat.le_of_ble_eq_true rfl) dL_law_1081 ⟨(show 5000 + (cMc LB ll + 0) ≤ 193330 by omega), (show 6200000 + (2 * cMc LB ll + 0) ≤ 8521466 by omega)⟩ (fun z1 H1 locs1 hz1 hsz hk1 hS => ?_)
  obtain ⟨-, -, -, -, -, -, rfl⟩ := hz1
  have hPr : va_P (eC, eI) rcl (mW h1 ad cI cJ cB cZ (fup (fun _ => 0) 25 mo) (fun _ _ => 0)) H1 := va_P_iff.mpr fun q hq => (va_P_iff.mp hPr q hq).kept (hk1 q.1 (va_P_iff.mp hPr q hq).lt (hkeep q.1 ((va_D_iff.mp hDr).2 q hq).1 (va_P_iff.mp hPr q hq).lt))
  refine W.widen (k := 100000) (n := 6400000) (by omega) (by omega) ?_
  refine lv_aload_n hx hb dL_law_1084 rfl (lv_at hl 2 rfl) ?_
  refine L_ld (j := 2) (v := 1) (w := 2) hx hb hXs hbl hbA hS (lv_sub hl [0, 4] rfl) dL_law_1085 dL_law_1086 dL_law_1088 dL_law_1089 dL_law_1090 rfl (by decide) (by unfold vp_in; decide) (by decide) ?_
  refine R_calli (As := [Iz (xs 2).toInt]) (rest := [Iz _]) ⟨hx, hb, hml, hown, hts⟩ (c_parts (l := l) (dC := eC) (dI := eI) (cI := cI) (cJ := cJ) (cB := cB) (cZ := cZ) (h0 := h1) (ad := ad) (F := (fup (fun _ => 0) 25 mo)) (ar := (fun _ _ => 0)) (ia := (xs 2).toInt) rfl rfl (i32_lo _) (i32_hi _)) (cwV 1 hts (lgV w0r_gd (w0L_gd _ ll_135).1 (wT_gd _ ti_X12_parts).1 (wT_gd _ te_X12_parts).1 (w0L_gd _ ln_RX12).1 mc_parts) rfl rfl rfl (by decide +kernel) ⟨Nat.le_of_ble_eq_true rfl, Nat.le_of_ble_eq_true rfl⟩) hKr hPr hDw hS hA rfl hl.1 (Nat.le_of_ble_eq_true rfl) dL_law_1091 ⟨Nat.le_of_ble_eq_true rfl, Nat.le_of_ble_eq_true rfl⟩ (fun z2 F2 ar2 H2 locs2 hz2 hPr2 hsz2 hk2 hS2 => ?_)
  obtain ⟨rfl, -⟩ := hz2
  refine lv_icmp_eq (tgt := 1388) hx hb dL_law_1094 (by decide) (fun _ => ?_) (fun q => absurd rfl q)
  exact T H2 locs2 ls hS2 (lv_sub hl [0, 4] rfl)
set_option maxHeartbeats 4000000 in
set_option maxRecDepth 100000 in
theorem lc_writePart {p : Program} {l : Launch} {e : Env} {s : State} {m : MethodId} {below : List Frame} {meth : Method} {c : Code} {b : Nat} {xs : Nat → Int32} {dC : Nat → ClassId} {dI : Nat → Nat → Nat} {cx : Nat → Nat} {eC : Nat → ClassId} {eI : Nat → Nat → Nat} {cI cJ cB cZ : Nat} {H : Heap} {locs : List Loc} {ls : Array Slot} {h0 h1 q3 n1 n2 : Nat} {mo : Int} (C : LA p l s m c b xs dC dI cx eC eI cI cJ cB cZ) (Z : LZ dC dI cx eC eI cI cJ cB cZ s b H locs ls h0 h1 q3 n1 n2 mo) (T : LT p l e s m below meth c b) : W p l e room_1 s m #[Value.ref b] below meth c H locs 5000 6200000 (lw_Z below #[Value.ref b] s) (F0 m 1198 ls []) := by
  obtain ⟨hx, hb, hml, hown, hts, hXs, hbl, hK, hKr, hC, hCX, hCY, hCZ, hlt⟩ := C
  obtain ⟨hS, hl, hF, hR, hP3, hn3, hn1, hn2, hm1, hm2⟩ := Z
  refine hF.elim (fun LB LP pc_ pd co X dd nn ss ll gg v cp vs nu tol pi_ ti_ fr stk t0 no pa s0 zo tx bu bv bw bs le rl rh ta tb tq tt tu tw tm ch ug uh uq ut uu ra rp rq xp xw xk xf xy xb hP hD hll hM h_ar h_fr mle h_nu h_tol hO hN h_s0 hU hTo hSt hNo h_ra h_rp h_rq nap naq_ npq h_ch hcp hcj mrl srl crl mrh srh crh mbu sbu cbu nlh hfc h_tx h_xp => ?_)
  have hsub : ∀ q, va_A (bW (cx 0) LB dd nn ss ll gg (pW cx LP pc_ pd co X)) H.size q → (fun q : Nat => s.heap.size ≤ q) q := fun q h => by
    rcases h with ⟨k, e0, h⟩ | h
    · exact (hD.2 k _ h).1
    · exact Nat.le_trans hS.1 h
  have hkeep : ∀ q, n1 ≤ q → q < H.size → ¬ va_A (bW (cx 0) LB dd nn ss ll gg (pW cx LP pc_ pd co X)) H.size q := fun q h1 h2 h => by
    rcases h with ⟨k, e0, h⟩ | h
    · have := (hD.2 k _ h).2; dsimp only at this; omega
    · omega
  obtain ⟨ad, hPr, hDr⟩ := hR
  have hDw : va_D (fun q : Nat => s.heap.size ≤ q) (mW h1 ad cI cJ cB cZ (fup (fun _ => 0) 25 mo) (fun _ _ => 0)) := hDr.weaken (fun k q _ h => Nat.le_trans hn1 h.1)
  have hbA : ¬ (fun q : Nat => s.heap.size ≤ q) b := Nat.not_le.mpr hbl
  have hA : ∀ q : Nat, s.heap.size ≤ q → (fun q : Nat => s.heap.size ≤ q) q := fun _ h => h
  refine lv_aload_n hx hb dL_law_1198 rfl (lv_at hl 1 rfl) ?_
  refine L_ld (j := 2) (v := 1) (w := 2) hx hb hXs hbl hbA hS (lv_sub hl [0, 4] rfl) dL_law_1199 dL_law_1200 dL_law_1202 dL_law_1203 dL_law_1204 rfl (by decide) (by unfold vp_in; decide) (by decide) ?_
  refine L_calli (As := [Iz (xs 2).toInt]) (rest := []) ⟨hx, hb, hml, hown, hts⟩ (k11_writePart (l := l) (dC := dC) (dI := dI) (cx := cx) (ia := (xs 2).toInt) h_ar h_nu h_tol ((i32_lo _)) ((i32_hi _))) (cwV 1 hts (lgV w0c_gd (w0L_gd _ ll_148).1 (wT_gd _ ti_X11_writePart).1 (wT_gd _ te_X11_writePart).1 (w0L_gd _ ln_RX11).1 cc_X11_writePart) rfl rfl rfl (by decide +kernel) ⟨Nat.le_of_ble_eq_true rfl, Nat.le_of_ble_eq_true rfl⟩) (L_preC hK hP hD hll (pW_x h_ar) _) hS hsub rfl hl.1 (Nat.le_of_ble_eq_true rfl) dL_law_1205 ⟨(show 5000 + (cMc LB ll + 0) ≤ 193330 by omega), (show 6200000 + (2 * cMc LB ll + 0) ≤ 8521466 by omega)⟩ (fun z1 H1 locs1 hz1 hsz hk1 hS => ?_)
  obtain ⟨-, -, -, -, -, -, rfl⟩ := hz1
  have hPr : va_P (eC, eI) rcl (mW h1 ad cI cJ cB cZ (fup (fun _ => 0) 25 mo) (fun _ _ => 0)) H1 := va_P_iff.mpr fun q hq => (va_P_iff.mp hPr q hq).kept (hk1 q.1 (va_P_iff.mp hPr q hq).lt (hkeep q.1 ((va_D_iff.mp hDr).2 q hq).1 (va_P_iff.mp hPr q hq).lt))
  refine W.widen (k := 100000) (n := 6400000) (by omega) (by omega) ?_
  refine lv_aload_n hx hb dL_law_1208 rfl (lv_at hl 2 rfl) ?_
  refine L_ld (j := 2) (v := 1) (w := 2) hx hb hXs hbl hbA hS (lv_sub hl [0, 4] rfl) dL_law_1209 dL_law_1210 dL_law_1212 dL_law_1213 dL_law_1214 rfl (by decide) (by unfold vp_in; decide) (by decide) ?_
  refine R_calli (As := [Iz (xs 2).toInt]) (rest := [Iz _]) ⟨hx, hb, hml, hown, hts⟩ (c_writePart (l := l) (dC := eC) (dI := eI) (cI := cI) (cJ := cJ) (cB := cB) (cZ := cZ) (h0 := h1) (ad := ad) (F := (fup (fun _ => 0) 25 mo)) (ar := (fun _ _ => 0)) (ia := (xs 2).toInt) rfl rfl rfl (i32_lo _) (i32_hi _)) (cwV 1 hts (lgV w0r_gd (w0L_gd _ ll_151).1 (wT_gd _ ti_X12_writePart).1 (wT_gd _ te_X12_writePart).1 (w0L_gd _ ln_RX12).1 mc_writePart) rfl rfl rfl (by decide +kernel) ⟨Nat.le_of_ble_eq_true rfl, Nat.le_of_ble_eq_true rfl⟩) hKr hPr hDw hS hA rfl hl.1 (Nat.le_of_ble_eq_true rfl) dL_law_1215 ⟨Nat.le_of_ble_eq_true rfl, Nat.le_of_ble_eq_true rfl⟩ (fun z2 F2 ar2 H2 locs2 hz2 hPr2 hsz2 hk2 hS2 => ?_)
  obtain ⟨rfl, -⟩ := hz2
  refine lv_icmp_eq (tgt := 1388) hx hb dL_law_1218 (by decide) (fun _ => ?_) (fun q => absurd rfl q)
  exact T H2 locs2 ls hS2 (lv_sub hl [0, 4] rfl)
