set_option maxHeartbeats 4000000 in
set_option maxRecDepth 100000 in
theorem lc_beside {p : Program} {l : Launch} {e : Env} {s : State} {m : MethodId} {below : List Frame} {meth : Method} {c : Code} {b : Nat} {xs : Nat → Int32} {dC : Nat → ClassId} {dI : Nat → Nat → Nat} {cx : Nat → Nat} {eC : Nat → ClassId} {eI : Nat → Nat → Nat} {cI cJ cB cZ : Nat} {H : Heap} {locs : List Loc} {ls : Array Slot} {h0 h1 q3 n1 n2 : Nat} {mo : Int} (C : LA p l s m c b xs dC dI cx eC eI cI cJ cB cZ) (Z : LZ dC dI cx eC eI cI cJ cB cZ s b H locs ls h0 h1 q3 n1 n2 mo) (T : LT p l e s m below meth c b) : W p l e room_1 s m #[Value.ref b] below meth c H locs 5000 6200000 (lw_Z below #[Value.ref b] s) (F0 m 596 ls []) := by
  obtain ⟨hx, hb, hml, hown, hts, hXs, hbl, hK, hKr, hC, hCX, hCY, hCZ, hlt⟩ := C
  obtain ⟨hS, hl, hF, hR, hP3, hn3, hn1, hn2, hm1, hm2⟩ := Z
  refine hF.elim (fun LB LP pc_ pd co X dd nn ss ll gg v cp vs nu tol pi_ ti_ fr stk t0 no pa s0 zo tx bu bv bw bs le rl rh ta tb tq tt tu tw tm ch ug uh uq ut uu ra rp rq xp xw xk xf xy xb hP hD hll hM h_ar h_fr mle h_nu h_tol hO hN h_s0 hU hTo hSt hNo h_ra h_rp h_rq nap naq_ npq h_ch hcp hcj mrl srl crl mrh srh crh mbu sbu cbu nlh hfc h_tx h_xp => ?_)
  have hsub : ∀ q, va_A (bW (cx 0) LB dd nn ss ll gg (pW cx LP pc_ pd co X)) H.size q → (fun q : Nat => s.heap.size ≤ q) q := fun q h => by
    rcases h with ⟨k, e0, h⟩ | h
    · exact (hD.2 k _ h).1
    · exact Nat.le_trans hS.1 h
  have hkeep : ∀ q, n1 ≤ q → q < H.size → ¬ va_A (bW (cx 0) LB dd nn ss ll gg (pW cx LP pc_ pd co X)) H.size q := fun q h1 h2 h => by
    rcases h with ⟨k, e0, h⟩ | h
    · have := (hD.2 k _ h).2; dsimp only at this; omega
    · omega
  obtain ⟨ad, hPr, hDr⟩ := hR
  have hDw : va_D (fun q : Nat => s.heap.size ≤ q) (mW h1 ad cI cJ cB cZ (fup (fun _ => 0) 25 mo) (fun _ _ => 0)) := hDr.weaken (fun k q _ h => Nat.le_trans hn1 h.1)
  have hbA : ¬ (fun q : Nat => s.heap.size ≤ q) b := Nat.not_le.mpr hbl
  have hA : ∀ q : Nat, s.heap.size ≤ q → (fun q : Nat => s.heap.size ≤ q) q := fun _ h => h
  refine lv_aload_n hx hb dL_law_596 rfl (lv_at hl 1 rfl) ?_
  refine L_ld (j := 2) (v := 1) (w := 2) hx hb hXs hbl hbA hS (lv_sub hl [0, 4] rfl) dL_law_597 dL_law_598 dL_law_600 dL_law_601 dL_law_602 rfl (by decide) (by unfold vp_in; decide) (by decide) ?_
  refine L_ld (j := 3) (v := 2) (w := 3) hx hb hXs hbl hbA hS (lv_sub hl [0, 4] rfl) dL_law_603 dL_law_604 dL_law_606 dL_law_607 dL_law_608 rfl (by decide) (by unfold vp_in; decide) (by decide) ?_
  refine L_calli (As := [Iz (xs 2).toInt, Iz (xs 3).toInt]) (rest := []) ⟨hx, hb, hml, hown, hts⟩ (k11_beside (l := l) (dC := dC) (dI := dI) (cx := cx) (ia := (xs 2).toInt) (ib := (xs 3).toInt) h_ar h_nu h_tol ((i32_lo _)) ((i32_hi _)) ((i32_lo _)) ((i32_hi _))) (cwV 2 hts (lgV w0c_gd (w0L_gd _ ll_74).1 (wT_gd _ ti_X11_beside).1 (wT_gd _ te_X11_beside).1 (w0L_gd _ ln_RX11).1 cc_X11_beside) rfl rfl rfl (by decide +kernel) ⟨Nat.le_of_ble_eq_true rfl, Nat.le_of_ble_eq_true rfl⟩) (L_preC hK hP hD hll (pW_x h_ar) _) hS hsub rfl hl.1 (Nat.le_of_ble_eq_true rfl) dL_law_609 ⟨(show 5000 + (cMc LB ll + 0) ≤ 193330 by omega), (show 6200000 + (2 * cMc LB ll + 0) ≤ 8521466 by omega)⟩ (fun z1 H1 locs1 hz1 hsz hk1 hS => ?_)
  obtain ⟨-, -, -, -, -, -, rfl⟩ := hz1
  have hPr : va_P (eC, eI) rcl (mW h1 ad cI cJ cB cZ (fup (fun _ => 0) 25 mo) (fun _ _ => 0)) H1 := va_P_iff.mpr fun q hq => (va_P_iff.mp hPr q hq).kept (hk1 q.1 (va_P_iff.mp hPr q hq).lt (hkeep q.1 ((va_D_iff.mp hDr).2 q hq).1 (va_P_iff.mp hPr q hq).lt))
  refine W.widen (k := 100000) (n := 6400000) (by omega) (by omega) ?_
  refine lv_aload_n hx hb dL_law_612 rfl (lv_at hl 2 rfl) ?_
  refine L_ld (j := 2) (v := 1) (w := 2) hx hb hXs hbl hbA hS (lv_sub hl [0, 4] rfl) dL_law_613 dL_law_614 dL_law_616 dL_law_617 dL_law_618 rfl (by decide) (by unfold vp_in; decide) (by decide) ?_
  refine L_ld (j := 3) (v := 2) (w := 3) hx hb hXs hbl hbA hS (lv_sub hl [0, 4] rfl) dL_law_619 dL_law_620 dL_law_622 dL_law_623 dL_law_624 rfl (by decide) (by unfold vp_in; decide) (by decide) ?_
  refine R_calli (As := [Iz (xs 2).toInt, Iz (xs 3).toInt]) (rest := [Iz _]) ⟨hx, hb, hml, hown, hts⟩ (c_beside (l := l) (dC := eC) (dI := eI) (cI := cI) (cJ := cJ) (cB := cB) (cZ := cZ) (h0 := h1) (ad := ad) (F := (fup (fun _ => 0) 25 mo)) (ar := (fun _ _ => 0)) (ia := (xs 2).toInt) (ib := (xs 3).toInt) rfl rfl (i32_lo _) (i32_hi _) (i32_lo _) (i32_hi _)) (cwV 2 hts (lgV w0r_gd (w0L_gd _ ll_77).1 (wT_gd _ ti_X12_beside).1 (wT_gd _ te_X12_beside).1 (w0L_gd _ ln_RX12).1 mc_beside) rfl rfl rfl (by decide +kernel) ⟨Nat.le_of_ble_eq_true rfl, Nat.le_of_ble_eq_true rfl⟩) hKr hPr hDw hS hA rfl hl.1 (Nat.le_of_ble_eq_true rfl) dL_law_625 ⟨Nat.le_of_ble_eq_true rfl, Nat.le_of_ble_eq_true rfl⟩ (fun z2 F2 ar2 H2 locs2 hz2 hPr2 hsz2 hk2 hS2 => ?_)
  obtain ⟨rfl, -⟩ := hz2
  refine lv_icmp_eq (tgt := 1388) hx hb dL_law_628 (by decide) (fun _ => ?_) (fun q => absurd rfl q)
  exact T H2 locs2 ls hS2 (lv_sub hl [0, 4] rfl)
set_option maxHeartbeats 4000000 in
set_option maxRecDepth 100000 in
theorem lc_read {p : Program} {l : Launch} {e : Env} {s : State} {m : MethodId} {below : List Frame} {meth : Method} {c : Code} {b : Nat} {xs : Nat → Int32} {dC : Nat → ClassId} {dI : Nat → Nat → Nat} {cx : Nat → Nat} {eC : Nat → ClassId} {eI : Nat → Nat → Nat} {cI cJ cB cZ : Nat} {H : Heap} {locs : List Loc} {ls : Array Slot} {h0 h1 q3 n1 n2 : Nat} {mo : Int} (C : LA p l s m c b xs dC dI cx eC eI cI cJ cB cZ) (Z : LZ dC dI cx eC eI cI cJ cB cZ s b H locs ls h0 h1 q3 n1 n2 mo) (T : LT p l e s m below meth c b) : W p l e room_1 s m #[Value.ref b] below meth c H locs 5000 6200000 (lw_Z below #[Value.ref b] s) (F0 m 744 ls []) := by
  obtain ⟨hx, hb, hml, hown, hts, hXs, hbl, hK, hKr, hC, hCX, hCY, hCZ, hlt⟩ := C
  obtain ⟨hS, hl, hF, hR, hP3, hn3, hn1, hn2, hm1, hm2⟩ := Z
  refine hF.elim (fun LB LP pc_ pd co X dd nn ss ll gg v cp vs nu tol pi_ ti_ fr stk t0 no pa s0 zo tx bu bv bw bs le rl rh ta tb tq tt tu tw tm ch ug uh uq ut uu ra rp rq xp xw xk xf xy xb hP hD hll hM h_ar h_fr mle h_nu h_tol hO hN h_s0 hU hTo hSt hNo h_ra h_rp h_rq nap naq_ npq h_ch hcp hcj mrl srl crl mrh srh crh mbu sbu cbu nlh hfc h_tx h_xp => ?_)
  have hsub : ∀ q, va_A (bW (cx 0) LB dd nn ss ll gg (pW cx LP pc_ pd co X)) H.size q → (fun q : Nat => s.heap.size ≤ q) q := fun q h => by
    rcases h with ⟨k, e0, h⟩ | h
    · exact (hD.2 k _ h).1
    · exact Nat.le_trans hS.1 h
  have hkeep : ∀ q, n1 ≤ q → q < H.size → ¬ va_A (bW (cx 0) LB dd nn ss ll gg (pW cx LP pc_ pd co X)) H.size q := fun q h1 h2 h => by
    rcases h with ⟨k, e0, h⟩ | h
    · have := (hD.2 k _ h).2; dsimp only at this; omega
    · omega
  obtain ⟨ad, hPr, hDr⟩ := hR
  have hDw : va_D (fun q : Nat => s.heap.size ≤ q) (mW h1 ad cI cJ cB cZ (fup (fun _ => 0) 25 mo) (fun _ _ => 0)) := hDr.weaken (fun k q _ h => Nat.le_trans hn1 h.1)
  have hbA : ¬ (fun q : Nat => s.heap.size ≤ q) b := Nat.not_le.mpr hbl
  have hA : ∀ q : Nat, s.heap.size ≤ q → (fun q : Nat => s.heap.size ≤ q) q := fun _ h => h
  refine lv_aload_n hx hb dL_law_744 rfl (lv_at hl 1 rfl) ?_
  refine L_calli (As := []) (rest := []) ⟨hx, hb, hml, hown, hts⟩ (k11_read (l := l) (dC := dC) (dI := dI) (cx := cx)  h_ar h_tx) (cwV 0 hts (lgV w0c_gd (w0L_gd _ ll_90).1 (wT_gd _ ti_X11_read).1 (wT_gd _ te_X11_read).1 (w0L_gd _ ln_RX11).1 cc_X11_read) rfl rfl rfl (by decide +kernel) ⟨Nat.le_of_ble_eq_true rfl, Nat.le_of_ble_eq_true rfl⟩) (L_preC hK hP hD hll (pW_x h_ar) _) hS hsub rfl hl.1 (Nat.le_of_ble_eq_true rfl) dL_law_745 ⟨(show 5000 + (cMc LB ll + 0) ≤ 193330 by omega), (show 6200000 + (2 * cMc LB ll + 0) ≤ 8521466 by omega)⟩ (fun z1 H1 locs1 hz1 hsz hk1 hS => ?_)
  obtain ⟨-, -, -, -, -, -, rfl⟩ := hz1
  have hPr : va_P (eC, eI) rcl (mW h1 ad cI cJ cB cZ (fup (fun _ => 0) 25 mo) (fun _ _ => 0)) H1 := va_P_iff.mpr fun q hq => (va_P_iff.mp hPr q hq).kept (hk1 q.1 (va_P_iff.mp hPr q hq).lt (hkeep q.1 ((va_D_iff.mp hDr).2 q hq).1 (va_P_iff.mp hPr q hq).lt))
  refine W.widen (k := 100000) (n := 6400000) (by omega) (by omega) ?_
  refine lv_aload_n hx hb dL_law_748 rfl (lv_at hl 2 rfl) ?_
  refine R_calli (As := []) (rest := [Iz _]) ⟨hx, hb, hml, hown, hts⟩ (c_read (l := l) (dC := eC) (dI := eI) (cI := cI) (cJ := cJ) (cB := cB) (cZ := cZ) (h0 := h1) (ad := ad) (F := (fup (fun _ => 0) 25 mo)) (ar := (fun _ _ => 0))  rfl) (cwV 0 hts (lgV w0r_gd (w0L_gd _ ll_93).1 (wT_gd _ ti_X12_read).1 (wT_gd _ te_X12_read).1 (w0L_gd _ ln_RX12).1 mc_read) rfl rfl rfl (by decide +kernel) ⟨Nat.le_of_ble_eq_true rfl, Nat.le_of_ble_eq_true rfl⟩) hKr hPr hDw hS hA rfl hl.1 (Nat.le_of_ble_eq_true rfl) dL_law_749 ⟨Nat.le_of_ble_eq_true rfl, Nat.le_of_ble_eq_true rfl⟩ (fun z2 F2 ar2 H2 locs2 hz2 hPr2 hsz2 hk2 hS2 => ?_)
  obtain ⟨rfl, -⟩ := hz2
  refine lv_icmp_eq (tgt := 1388) hx hb dL_law_752 (by decide) (fun _ => ?_) (fun q => absurd rfl q)
  exact T H2 locs2 ls hS2 (lv_sub hl [0, 4] rfl)
set_option maxHeartbeats 4000000 in
set_option maxRecDepth 100000 in
theorem lc_about {p : Program} {l : Launch} {e : Env} {s : State} {m : MethodId} {below : List Frame} {meth : Method} {c : Code} {b : Nat} {xs : Nat → Int32} {dC : Nat → ClassId} {dI : Nat → Nat → Nat} {cx : Nat → Nat} {eC : Nat → ClassId} {eI : Nat → Nat → Nat} {cI cJ cB cZ : Nat} {H : Heap} {locs : List Loc} {ls : Array Slot} {h0 h1 q3 n1 n2 : Nat} {mo : Int} (C : LA p l s m c b xs dC dI cx eC eI cI cJ cB cZ) (Z : LZ dC dI cx eC eI cI cJ cB cZ s b H locs ls h0 h1 q3 n1 n2 mo) (T : LT p l e s m below meth c b) : W p l e room_1 s m #[Value.ref b] below meth c H locs 5000 6200000 (lw_Z below #[Value.ref b] s) (F0 m 832 ls []) := by
  obtain ⟨hx, hb, hml, hown, hts, hXs, hbl, hK, hKr, hC, hCX, hCY, hCZ, hlt⟩ := C
  obtain ⟨hS, hl, hF, hR, hP3, hn3, hn1, hn2, hm1, hm2⟩ := Z
  refine hF.elim (fun LB LP pc_ pd co X dd nn ss ll gg v cp vs nu tol pi_ ti_ fr stk t0 no pa s0 zo tx bu bv bw bs le rl rh ta tb tq tt tu tw tm ch ug uh uq ut uu ra rp rq xp xw xk xf xy xb hP hD hll hM h_ar h_fr mle h_nu h_tol hO hN h_s0 hU hTo hSt hNo h_ra h_rp h_rq nap naq_ npq h_ch hcp hcj mrl srl crl mrh srh crh mbu sbu cbu nlh hfc h_tx h_xp => ?_)
  have hsub : ∀ q, va_A (bW (cx 0) LB dd nn ss ll gg (pW cx LP pc_ pd co X)) H.size q → (fun q : Nat => s.heap.size ≤ q) q := fun q h => by
    rcases h with ⟨k, e0, h⟩ | h
    · exact (hD.2 k _ h).1
    · exact Nat.le_trans hS.1 h
  have hkeep : ∀ q, n1 ≤ q → q < H.size → ¬ va_A (bW (cx 0) LB dd nn ss ll gg (pW cx LP pc_ pd co X)) H.size q := fun q h1 h2 h => by
    rcases h with ⟨k, e0, h⟩ | h
    · have := (hD.2 k _ h).2; dsimp only at this; omega
    · omega
  obtain ⟨ad, hPr, hDr⟩ := hR
  have hDw : va_D (fun q : Nat => s.heap.size ≤ q) (mW h1 ad cI cJ cB cZ (fup (fun _ => 0) 25 mo) (fun _ _ => 0)) := hDr.weaken (fun k q _ h => Nat.le_trans hn1 h.1)
  have hbA : ¬ (fun q : Nat => s.heap.size ≤ q) b := Nat.not_le.mpr hbl
  have hA : ∀ q : Nat, s.heap.size ≤ q → (fun q : Nat => s.heap.size ≤ q) q := fun _ h => h
  refine lv_aload_n hx hb dL_law_832 rfl (lv_at hl 1 rfl) ?_
  refine L_ld (j := 2) (v := 1) (w := 2) hx hb hXs hbl hbA hS (lv_sub hl [0, 4] rfl) dL_law_833 dL_law_834 dL_law_836 dL_law_837 dL_law_838 rfl (by decide) (by unfold vp_in; decide) (by decide) ?_
  refine L_ld (j := 3) (v := 2) (w := 3) hx hb hXs hbl hbA hS (lv_sub hl [0, 4] rfl) dL_law_839 dL_law_840 dL_law_842 dL_law_843 dL_law_844 rfl (by decide) (by unfold vp_in; decide) (by decide) ?_
  refine L_calli (As := [Iz (xs 2).toInt, Iz (xs 3).toInt]) (rest := []) ⟨hx, hb, hml, hown, hts⟩ (k11_about (l := l) (dC := dC) (dI := dI) (cx := cx) (ia := (xs 2).toInt) (ib := (xs 3).toInt) h_ar h_nu h_tol ((i32_lo _)) ((i32_hi _)) ((i32_lo _)) ((i32_hi _))) (cwV 2 hts (lgV w0c_gd (w0L_gd _ ll_107).1 (wT_gd _ ti_X11_about).1 (wT_gd _ te_X11_about).1 (w0L_gd _ ln_RX11).1 cc_X11_about) rfl rfl rfl (by decide +kernel) ⟨Nat.le_of_ble_eq_true rfl, Nat.le_of_ble_eq_true rfl⟩) (L_preC hK hP hD hll (pW_x h_ar) _) hS hsub rfl hl.1 (Nat.le_of_ble_eq_true rfl) dL_law_845 ⟨(show 5000 + (cMc LB ll + 0) ≤ 193330 by omega), (show 6200000 + (2 * cMc LB ll + 0) ≤ 8521466 by omega)⟩ (fun z1 H1 locs1 hz1 hsz hk1 hS => ?_)
  obtain ⟨-, -, -, -, -, -, rfl⟩ := hz1
  have hPr : va_P (eC, eI) rcl (mW h1 ad cI cJ cB cZ (fup (fun _ => 0) 25 mo) (fun _ _ => 0)) H1 := va_P_iff.mpr fun q hq => (va_P_iff.mp hPr q hq).kept (hk1 q.1 (va_P_iff.mp hPr q hq).lt (hkeep q.1 ((va_D_iff.mp hDr).2 q hq).1 (va_P_iff.mp hPr q hq).lt))
  refine W.widen (k := 100000) (n := 6400000) (by omega) (by omega) ?_
  refine lv_aload_n hx hb dL_law_848 rfl (lv_at hl 2 rfl) ?_
  refine L_ld (j := 2) (v := 1) (w := 2) hx hb hXs hbl hbA hS (lv_sub hl [0, 4] rfl) dL_law_849 dL_law_850 dL_law_852 dL_law_853 dL_law_854 rfl (by decide) (by unfold vp_in; decide) (by decide) ?_
  refine L_ld (j := 3) (v := 2) (w := 3) hx hb hXs hbl hbA hS (lv_sub hl [0, 4] rfl) dL_law_855 dL_law_856 dL_law_858 dL_law_859 dL_law_860 rfl (by decide) (by unfold vp_in; decide) (by decide) ?_
  refine R_calli (As := [Iz (xs 2).toInt, Iz (xs 3).toInt]) (rest := [Iz _]) ⟨hx, hb, hml, hown, hts⟩ (c_about (l := l) (dC := eC) (dI := eI) (cI := cI) (cJ := cJ) (cB := cB) (cZ := cZ) (h0 := h1) (ad := ad) (F := (fup (fun _ => 0) 25 mo)) (ar := (fun _ _ => 0)) (ia := (xs 2).toInt) (ib := (xs 3).toInt) rfl rfl (i32_lo _) (i32_hi _) (i32_lo _) (i32_hi _)) (cwV 2 hts (lgV w0r_gd (w0L_gd _ ll_110).1 (wT_gd _ ti_X12_about).1 (wT_gd _ te_X12_about).1 (w0L_gd _ ln_RX12).1 mc_about) rfl rfl rfl (by decide +kernel) ⟨Nat.le_of_ble_eq_true rfl, Nat.le_of_ble_eq_true rfl⟩) hKr hPr hDw hS hA rfl hl.1 (Nat.le_of_ble_eq_true rfl) dL_law_861 ⟨Nat.le_of_ble_eq_true rfl, Nat.le_of_ble_eq_true rfl⟩ (fun z2 F2 ar2 H2 locs2 hz2 hPr2 hsz2 hk2 hS2 => ?_)
  obtain ⟨rfl, -⟩ := hz2
  refine lv_icmp_eq (tgt := 1388) hx hb dL_law_864 (by decide) (fun _ => ?_) (fun q => absurd rfl q)
  exact T H2 locs2 ls hS2 (lv_sub hl [0, 4] rfl)
set_option maxHeartbeats 4000000 in
set_option maxRecDepth 100000 in
theorem lc_roots {p : Program} {l : Launch} {e : Env} {s : State} {m : MethodId} {below : List Frame} {meth : Method} {c : Code} {b : Nat} {xs : Nat → Int32} {dC : Nat → ClassId} {dI : Nat → Nat → Nat} {cx : Nat → Nat} {eC : Nat → ClassId} {eI : Nat → Nat → Nat} {cI cJ cB cZ : Nat} {H : Heap} {locs : List Loc} {ls : Array Slot} {h0 h1 q3 n1 n2 : Nat} {mo : Int} (C : LA p l s m c b xs dC dI cx eC eI cI cJ cB cZ) (Z : LZ dC dI cx eC eI cI cJ cB cZ s b H locs ls h0 h1 q3 n1 n2 mo) (T : LT p l e s m below meth c b) : W p l e room_1 s m #[Value.ref b] below meth c H locs 5000 6200000 (lw_Z below #[Value.ref b] s) (F0 m 1000 ls []) := by
  obtain ⟨hx, hb, hml, hown, hts, hXs, hbl, hK, hKr, hC, hCX, hCY, hCZ, hlt⟩ := C
  obtain ⟨hS, hl, hF, hR, hP3, hn3, hn1, hn2, hm1, hm2⟩ := Z
  refine hF.elim (fun LB LP pc_ pd co X dd nn ss ll gg v cp vs nu tol pi_ ti_ fr stk t0 no pa s0 zo tx bu bv bw bs le rl rh ta tb tq tt tu tw tm ch ug uh uq ut uu ra rp rq xp xw xk xf xy xb hP hD hll hM h_ar h_fr mle h_nu h_tol hO hN h_s0 hU hTo hSt hNo h_ra h_rp h_rq nap naq_ npq h_ch hcp hcj mrl srl crl mrh srh crh mbu sbu cbu nlh hfc h_tx h_xp => ?_)
  have hsub : ∀ q, va_A (bW (cx 0) LB dd nn ss ll gg (pW cx LP pc_ pd co X)) H.size q → (fun q : Nat => s.heap.size ≤ q) q := fun q h => by
    rcases h with ⟨k, e0, h⟩ | h
    · exact (hD.2 k _ h).1
    · exact Nat.le_trans hS.1 h
  have hkeep : ∀ q, n1 ≤ q → q < H.size → ¬ va_A (bW (cx 0) LB dd nn ss ll gg (pW cx LP pc_ pd co X)) H.size q := fun q h1 h2 h => by
    rcases h with ⟨k, e0, h⟩ | h
    · have := (hD.2 k _ h).2; dsimp only at this; omega
    · omega
  obtain ⟨ad, hPr, hDr⟩ := hR
  have hDw : va_D (fun q : Nat => s.heap.size ≤ q) (mW h1 ad cI cJ cB cZ (fup (fun _ => 0) 25 mo) (fun _ _ => 0)) := hDr.weaken (fun k q _ h => Nat.le_trans hn1 h.1)
  have hbA : ¬ (fun q : Nat => s.heap.size ≤ q) b := Nat.not_le.mpr hbl
  have hA : ∀ q : Nat, s.heap.size ≤ q → (fun q : Nat => s.heap.size ≤ q) q := fun _ h => h
  refine lv_aload_n hx hb dL_law_1000 rfl (lv_at hl 1 rfl) ?_
  refine L_ld (j := 2) (v := 1) (w := 2) hx hb hXs hbl hbA hS (lv_sub hl [0, 4] rfl) dL_law_1001 dL_law_1002 dL_law_1004 dL_law_1005 dL_law_1006 rfl (by decide) (by unfold vp_in; decide) (by decide) ?_
  refine L_calli (As := [Iz (xs 2).toInt]) (rest := []) ⟨hx, hb, hml, hown, hts⟩ (k11_roots (l := l) (dC := dC) (dI := dI) (cx := cx) (ia := (xs 2).toInt) h_ar h_nu h_tol ((i32_lo _)) ((i32_hi _))) (cwV 1 hts (lgV w0c_gd (w0L_gd _ ll_124).1 (wT_gd _ ti_X11_roots).1 (wT_gd _ te_X11_roots).1 (w0L_gd _ ln_RX11).1 cc_X11_roots) rfl rfl rfl (by decide +kernel) ⟨Nat.le_of_ble_eq_true rfl, Nat.le_of_ble_eq_true rfl⟩) (L_preC hK hP hD hll (pW_x h_ar) _) hS hsub rfl hl.1 (Nat.le_of_ble_eq_true rfl) dL_law_1007 ⟨(show 5000 + (cMc LB ll + 0) ≤ 193330 by omega), (show 6200000 + (2 * cMc LB ll + 0) ≤ 8521466 by omega)⟩ (fun z1 H1 locs1 hz1 hsz hk1 hS => ?_)
  obtain ⟨-, -, -, -, -, -, rfl⟩ := hz1
  have hPr : va_P (eC, eI) rcl (mW h1 ad cI cJ cB cZ (fup (fun _ => 0) 25 mo) (fun _ _ => 0)) H1 := va_P_iff.mpr fun q hq => (va_P_iff.mp hPr q hq).kept (hk1 q.1 (va_P_iff.mp hPr q hq).lt (hkeep q.1 ((va_D_iff.mp hDr).2 q hq).1 (va_P_iff.mp hPr q hq).lt))
  refine W.widen (k := 100000) (n := 6400000) (by omega) (by omega) ?_
  refine lv_aload_n hx hb dL_law_1010 rfl (lv_at hl 2 rfl) ?_
  refine L_ld (j := 2) (v := 1) (w := 2) hx hb hXs hbl hbA hS (lv_sub hl [0, 4] rfl) dL_law_1011 dL_law_1012 dL_law_1014 dL_law_1015 dL_law_1016 rfl (by decide) (by unfold vp_in; decide) (by decide) ?_
  refine R_calli (As := [Iz (xs 2).toInt]) (rest := [Iz _]) ⟨hx, hb, hml, hown, hts⟩ (c_roots (l := l) (dC := eC) (dI := eI) (cI := cI) (cJ := cJ) (cB := cB) (cZ := cZ) (h0 := h1) (ad := ad) (F := (fup (fun _ => 0) 25 mo)) (ar := (fun _ _ => 0)) (ia := (xs 2).toInt) rfl rfl (i32_lo _) (i32_hi _)) (cwV 1 hts (lgV w0r_gd (w0L_gd _ ll_127).1 (wT_gd _ ti_X12_roots).1 (wT_gd _ te_X12_roots).1 (w0L_gd _ ln_RX12).1 mc_roots) rfl rfl rfl (by decide +kernel) ⟨Nat.le_of_ble_eq_true rfl, Nat.le_of_ble_eq_true rfl⟩) hKr hPr hDw hS hA rfl hl.1 (Nat.le_of_ble_eq_true rfl) dL_law_1017 ⟨Nat.le_of_ble_eq_true rfl, Nat.le_of_ble_eq_true rfl⟩ (fun z2 F2 ar2 H2 locs2 hz2 hPr2 hsz2 hk2 hS2 => ?_)
  obtain ⟨rfl, -⟩ := hz2
  refine lv_icmp_eq (tgt := 1388) hx hb dL_law_1020 (by decide) (fun _ => ?_) (fun q => absurd rfl q)
  exact T H2 locs2 ls hS2 (lv_sub hl [0, 4] rfl)
set_option maxHeartbeats 4000000 in
set_option maxRecDepth 100000 in
theorem lc_write {p : Program} {l : Launch} {e : Env} {s : State} {m : MethodId} {below : List Frame} {meth : Method} {c : Code} {b : Nat} {xs : Nat → Int32} {dC : Nat → ClassId} {dI : Nat → Nat → Nat} {cx : Nat → Nat} {eC : Nat → ClassId} {eI : Nat → Nat → Nat} {cI cJ cB cZ : Nat} {H : Heap} {locs : List Loc} {ls : Array Slot} {h0 h1 q3 n1 n2 : Nat} {mo : Int} (C : LA p l s m c b xs dC dI cx eC eI cI cJ cB cZ) (Z : LZ dC dI cx eC eI cI cJ cB cZ s b H locs ls h0 h1 q3 n1 n2 mo) (T : LT p l e s m below meth c b) : W p l e room_1 s m #[Value.ref b] below meth c H locs 5000 6200000 (lw_Z below #[Value.ref b] s) (F0 m 1136 ls []) := by
  obtain ⟨hx, hb, hml, hown, hts, hXs, hbl, hK, hKr, hC, hCX, hCY, hCZ, hlt⟩ := C
  obtain ⟨hS, hl, hF, hR, hP3, hn3, hn1, hn2, hm1, hm2⟩ := Z
  refine hF.elim (fun LB LP pc_ pd co X dd nn ss ll gg v cp vs nu tol pi_ ti_ fr stk t0 no pa s0 zo tx bu bv bw bs le rl rh ta tb tq tt tu tw tm ch ug uh uq ut uu ra rp rq xp xw xk xf xy xb hP hD hll hM h_ar h_fr mle h_nu h_tol hO hN h_s0 hU hTo hSt hNo h_ra h_rp h_rq nap naq_ npq h_ch hcp hcj mrl srl crl mrh srh crh mbu sbu cbu nlh hfc h_tx h_xp => ?_)
  have hsub : ∀ q, va_A (bW (cx 0) LB dd nn ss ll gg (pW cx LP pc_ pd co X)) H.size q → (fun q : Nat => s.heap.size ≤ q) q := fun q h => by
    rcases h with ⟨k, e0, h⟩ | h
    · exact (hD.2 k _ h).1
    · exact Nat.le_trans hS.1 h
  have hkeep : ∀ q, n1 ≤ q → q < H.size → ¬ va_A (bW (cx 0) LB dd nn ss ll gg (pW cx LP pc_ pd co X)) H.size q := fun q h1 h2 h => by
    rcases h with ⟨k, e0, h⟩ | h
    · have := (hD.2 k _ h).2; dsimp only at this; omega
    · omega
  obtain ⟨ad, hPr, hDr⟩ := hR
  have hDw : va_D (fun q : Nat => s.heap.size ≤ q) (mW h1 ad cI cJ cB cZ (fup (fun _ => 0) 25 mo) (fun _ _ => 0)) := hDr.weaken (fun k q _ h => Nat.le_trans hn1 h.1)
  have hbA : ¬ (fun q : Nat => s.heap.size ≤ q) b := Nat.not_le.mpr hbl
  have hA : ∀ q : Nat, s.heap.size ≤ q → (fun q : Nat => s.heap.size ≤ q) q := fun _ h => h
  refine lv_aload_n hx hb dL_law_1136 rfl (lv_at hl 1 rfl) ?_
  refine L_ld (j := 2) (v := 1) (w := 2) hx hb hXs hbl hbA hS (lv_sub hl [0, 4] rfl) dL_law_1137 dL_law_1138 dL_law_1140 dL_law_1141 dL_law_1142 rfl (by decide) (by unfold vp_in; decide) (by decide) ?_
  refine L_ld (j := 3) (v := 2) (w := 3) hx hb hXs hbl hbA hS (lv_sub hl [0, 4] rfl) dL_law_1143 dL_law_1144 dL_law_1146 dL_law_1147 dL_law_1148 rfl (by decide) (by unfold vp_in; decide) (by decide) ?_
  refine L_calli (As := [Iz (xs 2).toInt, Iz (xs 3).toInt]) (rest := []) ⟨hx, hb, hml, hown, hts⟩ (k11_write (l := l) (dC := dC) (dI := dI) (cx := cx) (ia := (xs 2).toInt) (ib := (xs 3).toInt) h_ar h_nu h_tol ((i32_lo _)) ((i32_hi _)) ((i32_lo _)) ((i32_hi _))) (cwV 2 hts (lgV w0c_gd (w0L_gd _ ll_140).1 (wT_gd _ ti_X11_write).1 (wT_gd _ te_X11_write).1 (w0L_gd _ ln_RX11).1 cc_X11_write) rfl rfl rfl (by decide +kernel) ⟨Nat.le_of_ble_eq_true rfl, Nat.le_of_ble_eq_true rfl⟩) (L_preC hK hP hD hll (pW_x h_ar) _) hS hsub rfl hl.1 (Nat.le_of_ble_eq_true rfl) dL_law_1149 ⟨(show 5000 + (cMc LB ll + 0) ≤ 193330 by omega), (show 6200000 + (2 * cMc LB ll + 0) ≤ 8521466 by omega)⟩ (fun z1 H1 locs1 hz1 hsz hk1 hS => ?_)
  obtain ⟨-, -, -, -, -, -, rfl⟩ := hz1
  have hPr : va_P (eC, eI) rcl (mW h1 ad cI cJ cB cZ (fup (fun _ => 0) 25 mo) (fun _ _ => 0)) H1 := va_P_iff.mpr fun q hq => (va_P_iff.mp hPr q hq).kept (hk1 q.1 (va_P_iff.mp hPr q hq).lt (hkeep q.1 ((va_D_iff.mp hDr).2 q hq).1 (va_P_iff.mp hPr q hq).lt))
  refine W.widen (k := 100000) (n := 6400000) (by omega) (by omega) ?_
  refine lv_aload_n hx hb dL_law_1152 rfl (lv_at hl 2 rfl) ?_
  refine L_ld (j := 2) (v := 1) (w := 2) hx hb hXs hbl hbA hS (lv_sub hl [0, 4] rfl) dL_law_1153 dL_law_1154 dL_law_1156 dL_law_1157 dL_law_1158 rfl (by decide) (by unfold vp_in; decide) (by decide) ?_
  refine L_ld (j := 3) (v := 2) (w := 3) hx hb hXs hbl hbA hS (lv_sub hl [0, 4] rfl) dL_law_1159 dL_law_1160 dL_law_1162 dL_law_1163 dL_law_1164 rfl (by decide) (by unfold vp_in; decide) (by decide) ?_
  refine R_calli (As := [Iz (xs 2).toInt, Iz (xs 3).toInt]) (rest := [Iz _]) ⟨hx, hb, hml, hown, hts⟩ (c_write (l := l) (dC := eC) (dI := eI) (cI := cI) (cJ := cJ) (cB := cB) (cZ := cZ) (h0 := h1) (ad := ad) (F := (fup (fun _ => 0) 25 mo)) (ar := (fun _ _ => 0)) (ia := (xs 2).toInt) (ib := (xs 3).toInt) rfl rfl (i32_lo _) (i32_hi _) (i32_lo _) (i32_hi _)) (cwV 2 hts (lgV w0r_gd (w0L_gd _ ll_143).1 (wT_gd _ ti_X12_write).1 (wT_gd _ te_X12_write).1 (w0L_gd _ ln_RX12).1 mc_write) rfl rfl rfl (by decide +kernel) ⟨Nat.le_of_ble_eq_true rfl, Nat.le_of_ble_eq_true rfl⟩) hKr hPr hDw hS hA rfl hl.1 (Nat.le_of_ble_eq_true rfl) dL_law_1165 ⟨Nat.le_of_ble_eq_true rfl, Nat.le_of_ble_eq_true rfl⟩ (fun z2 F2 ar2 H2 locs2 hz2 hPr2 hsz2 hk2 hS2 => ?_)
  obtain ⟨rfl, -⟩ := hz2
  refine lv_icmp_eq (tgt := 1388) hx hb dL_law_1168 (by decide) (fun _ => ?_) (fun q => absurd rfl q)
  exact T H2 locs2 ls hS2 (lv_sub hl [0, 4] rfl)
