set_option maxHeartbeats 4000000 in
set_option maxRecDepth 100000 in
theorem lc_fraction {p : Program} {l : Launch} {e : Env} {s : State} {m : MethodId} {below : List Frame} {meth : Method} {c : Code} {b : Nat} {xs : Nat → Int32} {dC : Nat → ClassId} {dI : Nat → Nat → Nat} {cx : Nat → Nat} {eC : Nat → ClassId} {eI : Nat → Nat → Nat} {cI cJ cB cZ : Nat} {H : Heap} {locs : List Loc} {ls : Array Slot} {h0 h1 q3 n1 n2 : Nat} {mo : Int} (C : LA p l s m c b xs dC dI cx eC eI cI cJ cB cZ) (Z : LZ dC dI cx eC eI cI cJ cB cZ s b H locs ls h0 h1 q3 n1 n2 mo) (T : LT p l e s m below meth c b) : W p l e room_1 s m #[Value.ref b] below meth c H locs 5000 6200000 (lw_Z below #[Value.ref b] s) (F0 m 176 ls []) := by
  obtain ⟨hx, hb, hml, hown, hts, hXs, hbl, hK, hKr, hC, hCX, hCY, hCZ, hlt⟩ := C
  obtain ⟨hS, hl, hF, hR, hP3, hn3, hn1, hn2, hm1, hm2⟩ := Z
  obtain ⟨ad, hPr, hDr⟩ := hR
  have hDw : va_D (fun q : Nat => s.heap.size ≤ q) (mW h1 ad cI cJ cB cZ (fup (fun _ => 0) 25 mo) (fun _ _ => 0)) := hDr.weaken (fun k q _ h => Nat.le_trans hn1 h.1)
  have hbA : ¬ (fun q : Nat => s.heap.size ≤ q) b := Nat.not_le.mpr hbl
  have hA : ∀ q : Nat, s.heap.size ≤ q → (fun q : Nat => s.heap.size ≤ q) q := fun _ h => h
  refine lv_aload_n hx hb dL_law_176 rfl (lv_at hl 1 rfl) ?_
  refine L_lg (j := 2) (j' := 3) (v := 1) (w := 2) (v' := 2) (w' := 3) hx hb hown (hts _ (w0L_gd _ lk_42).1) hXs hbl hbA hS (lv_sub hl [0, 4] rfl) dL_law_177 dL_law_178 dL_law_180 dL_law_181 dL_law_182 dL_law_183 dL_law_184 dL_law_186 dL_law_187 dL_law_188 dL_law_190 dL_law_191 dL_law_192 dL_law_193 dL_law_194 dL_law_197 dL_law_198 rfl (by decide) (by unfold vp_in; decide) (by decide) rfl (by decide) (by unfold vp_in; decide) (by decide) ?_
  refine L_lg (j := 4) (j' := 5) (v := 3) (w := 4) (v' := 4) (w' := 5) hx hb hown (hts _ (w0L_gd _ lk_42).1) hXs hbl hbA hS (lv_sub hl [0, 4] rfl) dL_law_199 dL_law_200 dL_law_202 dL_law_203 dL_law_204 dL_law_205 dL_law_206 dL_law_208 dL_law_209 dL_law_210 dL_law_212 dL_law_213 dL_law_214 dL_law_215 dL_law_216 dL_law_219 dL_law_220 rfl (by decide) (by unfold vp_in; decide) (by decide) rfl (by decide) (by unfold vp_in; decide) (by decide) ?_
  refine lv_aload_n hx hb dL_law_221 rfl (lv_at hl 3 rfl) ?_
  have hfr : ∀ q, n1 ≤ q → q < n2 → q < H.size → ¬ sF s.heap.size n1 q3 H q := fun q h1 h2 h3 z => by
    rcases z with z | z | z <;> omega
  have hfs : ∀ q, sF s.heap.size n1 q3 H q → (fun q : Nat => s.heap.size ≤ q) q := fun q z => by
    have hz := hS.1
    rcases z with z | z | z
    · exact z.1
    · show s.heap.size ≤ q
      omega
    · exact Nat.le_trans hz z
  refine va_calli (vx_runSW (As := [.ref h0, Jz (lgv (xs 2) (xs 3)).toInt, Jz (lgv (xs 4) (xs 5)).toInt, .ref q3]) (rest := []) ⟨hx, hb, hml, hown, hts⟩ (kL_fraction (l := l) (dC := dC) (dI := dI) (cx := cx) (n0 := s.heap.size) (n1 := n1) (h0 := h0) (q3 := q3) (mo := mo) (H0 := H) hlt (i64_lo _) (i64_hi _) (i64_lo _) (i64_hi _) (Nat.le_trans hn2 hn3)) (vx_cwSW 4 hts gS_fraction rfl rfl rfl (by decide +kernel) ⟨Nat.le_of_ble_eq_true rfl, Nat.le_of_ble_eq_true rfl⟩) ⟨s_blind, fun U hU hW => ⟨rfl, hU, by rw [hU]; exact hF, by rw [hU]; exact hP3, va_K.moved hW.alike hK, CN.moved hW hC, CX.moved hW hCX, CY.moved hW hCY, by rw [hU]; exact hCZ.to hW.alike hS.2.1 (fun q h => Nat.le_trans hS.1 h)⟩⟩ rfl rfl hl.1 rfl (lv_room (Nat.le_of_ble_eq_true rfl)) dL_law_222 ⟨Nat.le_of_ble_eq_true rfl, Nat.le_of_ble_eq_true rfl⟩) hS (fun q _ h => hfs q h) hfs (fun r f t H1 locs1 ht hvm hw hB hsz hk1 hS => ?_)
  obtain ⟨z, rfl, hz⟩ := hw
  rw [ht] at hB
  have hPr : va_P (eC, eI) rcl (mW h1 ad cI cJ cB cZ (fup (fun _ => 0) 25 mo) (fun _ _ => 0)) H1 := va_P_iff.mpr fun q hq => (va_P_iff.mp hPr q hq).kept (hk1 q.1 (va_P_iff.mp hPr q hq).lt (hfr q.1 ((va_D_iff.mp hDr).2 q hq).1 ((va_D_iff.mp hDr).2 q hq).2 (va_P_iff.mp hPr q hq).lt))
  refine W.widen (k := 100000) (n := 6400000) (by omega) (by omega) ?_
  refine lv_istore (lv' := [(5, Iz z), (0, .ref b), (1, .ref h0), (2, .ref h1), (3, .ref q3), (4, .int 1)]) hx hb dL_law_225 hl (by decide) rfl (fun ls hl => ?_)
  refine lv_aload_n hx hb dL_law_227 rfl (lv_at hl 3 rfl) ?_
  refine L_lg (j := 2) (j' := 3) (v := 1) (w := 2) (v' := 2) (w' := 3) hx hb hown (hts _ (w0L_gd _ lk_42).1) hXs hbl hbA hS (lv_sub hl [1, 5] rfl) dL_law_228 dL_law_229 dL_law_231 dL_law_232 dL_law_233 dL_law_234 dL_law_235 dL_law_237 dL_law_238 dL_law_239 dL_law_241 dL_law_242 dL_law_243 dL_law_244 dL_law_245 dL_law_248 dL_law_249 rfl (by decide) (by unfold vp_in; decide) (by decide) rfl (by decide) (by unfold vp_in; decide) (by decide) ?_
  refine L_lg (j := 4) (j' := 5) (v := 3) (w := 4) (v' := 4) (w' := 5) hx hb hown (hts _ (w0L_gd _ lk_42).1) hXs hbl hbA hS (lv_sub hl [1, 5] rfl) dL_law_250 dL_law_251 dL_law_253 dL_law_254 dL_law_255 dL_law_256 dL_law_257 dL_law_259 dL_law_260 dL_law_261 dL_law_263 dL_law_264 dL_law_265 dL_law_266 dL_law_267 dL_law_270 dL_law_271 rfl (by decide) (by unfold vp_in; decide) (by decide) rfl (by decide) (by unfold vp_in; decide) (by decide) ?_
  refine R_calli (As := [Jz (lgv (xs 2) (xs 3)).toInt, Jz (lgv (xs 4) (xs 5)).toInt]) (rest := []) ⟨hx, hb, hml, hown, hts⟩ (c_fraction (l := l) (dC := eC) (dI := eI) (cI := cI) (cJ := cJ) (cB := cB) (cZ := cZ) (h0 := h1) (ad := ad) (F := (fup (fun _ => 0) 25 mo)) (ar := (fun _ _ => 0)) (up := (lgv (xs 2) (xs 3)).toInt) (lo := (lgv (xs 4) (xs 5)).toInt) (i64_lo _) (Int.lt_of_le_of_lt (i64_hi _) (by decide)) (i64_lo _) (Int.lt_of_le_of_lt (i64_hi _) (by decide)) (Int.le_refl 0) (show (0 : Int) < 100 by decide) (show 1 ≤ mo from hm1) (show mo ≤ 10 from hm2) hok_0 hok_0 hok_0) (cwV 2 hts (lgV w0r_gd (w0L_gd _ ll_47).1 (wT_gd _ ti_X12_fraction).1 (wT_gd _ te_X12_fraction).1 (w0L_gd _ ln_RX12).1 mc_fraction) rfl rfl rfl (by decide +kernel) ⟨Nat.le_of_ble_eq_true rfl, Nat.le_of_ble_eq_true rfl⟩) hKr hPr hDw hS hA rfl hl.1 (Nat.le_of_ble_eq_true rfl) dL_law_272 ⟨Nat.le_of_ble_eq_true rfl, Nat.le_of_ble_eq_true rfl⟩ (fun z2 F2 ar2 H2 locs2 hz2 hPr hsz2 hk2 hS => ?_)
  refine lv_istore (lv' := [(6, Iz z2), (5, Iz z), (0, .ref b), (1, .ref h0), (2, .ref h1), (3, .ref q3), (4, .int 1)]) hx hb dL_law_275 hl (by decide) rfl (fun ls hl => ?_)
  refine lv_aload_n hx hb dL_law_277 rfl (lv_at hl 4 rfl) ?_
  refine R_calli (As := []) (rest := []) ⟨hx, hb, hml, hown, hts⟩ (c_thrown (l := l) (dC := eC) (dI := eI) (cI := cI) (cJ := cJ) (cB := cB) (cZ := cZ) (h0 := h1) (ad := ad) (F := F2) (ar := ar2)  ) (cwV 0 hts (lgV w0r_gd (w0L_gd _ ll_48).1 (wT_gd _ ti_X12_thrown).1 (wT_gd _ te_X12_thrown).1 (w0L_gd _ ln_RX12).1 mc_thrown) rfl rfl rfl (by decide +kernel) ⟨Nat.le_of_ble_eq_true rfl, Nat.le_of_ble_eq_true rfl⟩) hKr hPr (mW_D hDw) hS hA rfl hl.1 (Nat.le_of_ble_eq_true rfl) dL_law_278 ⟨Nat.le_of_ble_eq_true rfl, Nat.le_of_ble_eq_true rfl⟩ (fun z3 F3 ar3 H3 locs3 hz3 hPr3 hsz3 hk3 hS => ?_)
  obtain ⟨-, -, rfl⟩ := hz3
  refine lv_iload hx hb dL_law_281 (lv_at hl 1 rfl) ?_
  by_cases hlo : (lgv (xs 4) (xs 5)).toInt = 0
  · obtain ⟨rfl, e3⟩ := hz2.1 hlo
    obtain rfl := hz.1 hlo
    rw [e3]
    refine lv_icmp_eq (tgt := 288) hx hb dL_law_283 (by decide) (fun _ => ?_) (fun q => absurd rfl q)
    refine lv_iload hx hb dL_law_288 (lv_at hl 1 rfl) ?_
    refine g_if_ne (tgt := 305) hx hb ⟨by decide, by decide⟩ dL_law_290 (by decide) (fun _ => ?_) (fun q => absurd q (by decide))
    refine lv_goto (tgt := 1388) hx hb dL_law_305 (by decide) ?_
    exact T H3 locs3 ls hS (lv_sub hl [2, 6] rfl)
  · obtain ⟨e2, e3, -⟩ := hz2.2 hlo
    obtain ⟨rfl, hf0⟩ := hz.2 hlo
    have e2 : z2 = 0 := e2
    subst e2
    rw [e3]
    refine lv_icmp_eq (tgt := 288) hx hb dL_law_283 (by decide) (fun _ => ?_) (fun q => absurd rfl q)
    refine lv_iload hx hb dL_law_288 (lv_at hl 1 rfl) ?_
    refine g_if_ne (tgt := 305) hx hb ⟨by decide, by decide⟩ dL_law_290 (by decide) (fun q => absurd rfl q) (fun _ => ?_)
    refine lv_aload_n hx hb dL_law_293 rfl (lv_at hl 5 rfl) ?_
    refine lv_iconst (v := Int32.ofInt 0) hx hb dL_law_294 rfl ?_
    have hB : va_P (dC, dI) ccl (oW cx q3 f) H3 := oW.kept (oW.kept hB (fun h => hk2 q3 h (rA_not hDr hn3 h))) (fun h => hk3 q3 h (rA_not hDr hn3 h))
    refine g_lald hx hb hK hB 0 1 rfl rfl (Int.le_refl 0) (by decide) (by decide) dL_law_295 ?_
    refine lv_iload hx hb dL_law_296 (lv_at hl 0 rfl) ?_
    refine g_i2l hx hb ⟨by decide, by decide⟩ dL_law_298 ?_
    rw [hf0]
    refine g_lcmp hx hb ⟨by decide, by decide⟩ ⟨by decide, by decide⟩ dL_law_299 ?_
    refine g_if_eq (tgt := 305) hx hb (g_cmp_i _ _) dL_law_300 (by decide) (fun _ => ?_) (fun q => absurd (by decide) q)
    refine lv_goto (tgt := 1388) hx hb dL_law_305 (by decide) ?_
    exact T H3 locs3 ls hS (lv_sub hl [2, 6] rfl)
set_option maxHeartbeats 4000000 in
set_option maxRecDepth 100000 in
theorem lc_plain {p : Program} {l : Launch} {e : Env} {s : State} {m : MethodId} {below : List Frame} {meth : Method} {c : Code} {b : Nat} {xs : Nat → Int32} {dC : Nat → ClassId} {dI : Nat → Nat → Nat} {cx : Nat → Nat} {eC : Nat → ClassId} {eI : Nat → Nat → Nat} {cI cJ cB cZ : Nat} {H : Heap} {locs : List Loc} {ls : Array Slot} {h0 h1 q3 n1 n2 : Nat} {mo : Int} (C : LA p l s m c b xs dC dI cx eC eI cI cJ cB cZ) (Z : LZ dC dI cx eC eI cI cJ cB cZ s b H locs ls h0 h1 q3 n1 n2 mo) (T : LT p l e s m below meth c b) : W p l e room_1 s m #[Value.ref b] below meth c H locs 5000 6200000 (lw_Z below #[Value.ref b] s) (F0 m 357 ls []) := by
  obtain ⟨hx, hb, hml, hown, hts, hXs, hbl, hK, hKr, hC, hCX, hCY, hCZ, hlt⟩ := C
  obtain ⟨hS, hl, hF, hR, hP3, hn3, hn1, hn2, hm1, hm2⟩ := Z
  obtain ⟨ad, hPr, hDr⟩ := hR
  have hDw : va_D (fun q : Nat => s.heap.size ≤ q) (mW h1 ad cI cJ cB cZ (fup (fun _ => 0) 25 mo) (fun _ _ => 0)) := hDr.weaken (fun k q _ h => Nat.le_trans hn1 h.1)
  have hbA : ¬ (fun q : Nat => s.heap.size ≤ q) b := Nat.not_le.mpr hbl
  have hA : ∀ q : Nat, s.heap.size ≤ q → (fun q : Nat => s.heap.size ≤ q) q := fun _ h => h
  refine lv_aload_n hx hb dL_law_357 rfl (lv_at hl 1 rfl) ?_
  refine L_ld (j := 2) (v := 1) (w := 2) hx hb hXs hbl hbA hS (lv_sub hl [0, 4] rfl) dL_law_358 dL_law_359 dL_law_361 dL_law_362 dL_law_363 rfl (by decide) (by unfold vp_in; decide) (by decide) ?_
  refine L_ld (j := 3) (v := 2) (w := 3) hx hb hXs hbl hbA hS (lv_sub hl [0, 4] rfl) dL_law_364 dL_law_365 dL_law_367 dL_law_368 dL_law_369 rfl (by decide) (by unfold vp_in; decide) (by decide) ?_
  refine lv_aload_n hx hb dL_law_370 rfl (lv_at hl 3 rfl) ?_
  have hfr : ∀ q, n1 ≤ q → q < n2 → q < H.size → ¬ sF s.heap.size n1 q3 H q := fun q h1 h2 h3 z => by
    rcases z with z | z | z <;> omega
  have hfs : ∀ q, sF s.heap.size n1 q3 H q → (fun q : Nat => s.heap.size ≤ q) q := fun q z => by
    have hz := hS.1
    rcases z with z | z | z
    · exact z.1
    · show s.heap.size ≤ q
      omega
    · exact Nat.le_trans hz z
  refine va_calli (vx_runSW (As := [.ref h0, Iz (xs 2).toInt, Iz (xs 3).toInt, .ref q3]) (rest := []) ⟨hx, hb, hml, hown, hts⟩ (kL_plain (l := l) (dC := dC) (dI := dI) (cx := cx) (n0 := s.heap.size) (n1 := n1) (h0 := h0) (q3 := q3) (mo := mo) (H0 := H) (i32_lo _) (i32_hi _) (i32_lo _) (i32_hi _) (Nat.le_trans hn2 hn3)) (vx_cwSW 4 hts gS_plain rfl rfl rfl (by decide +kernel) ⟨Nat.le_of_ble_eq_true rfl, Nat.le_of_ble_eq_true rfl⟩) ⟨s_blind, fun U hU hW => ⟨rfl, hU, by rw [hU]; exact hF, by rw [hU]; exact hP3, va_K.moved hW.alike hK, CN.moved hW hC, CX.moved hW hCX, CY.moved hW hCY, by rw [hU]; exact hCZ.to hW.alike hS.2.1 (fun q h => Nat.le_trans hS.1 h)⟩⟩ rfl rfl hl.1 rfl (lv_room (Nat.le_of_ble_eq_true rfl)) dL_law_371 ⟨Nat.le_of_ble_eq_true rfl, Nat.le_of_ble_eq_true rfl⟩) hS (fun q _ h => hfs q h) hfs (fun r f t H1 locs1 ht hvm hw hB hsz hk1 hS => ?_)
  obtain ⟨z, rfl, hz⟩ := hw
  rw [ht] at hB
  have hPr : va_P (eC, eI) rcl (mW h1 ad cI cJ cB cZ (fup (fun _ => 0) 25 mo) (fun _ _ => 0)) H1 := va_P_iff.mpr fun q hq => (va_P_iff.mp hPr q hq).kept (hk1 q.1 (va_P_iff.mp hPr q hq).lt (hfr q.1 ((va_D_iff.mp hDr).2 q hq).1 ((va_D_iff.mp hDr).2 q hq).2 (va_P_iff.mp hPr q hq).lt))
  refine W.widen (k := 100000) (n := 6400000) (by omega) (by omega) ?_
  refine lv_istore (lv' := [(5, Iz z), (0, .ref b), (1, .ref h0), (2, .ref h1), (3, .ref q3), (4, .int 1)]) hx hb dL_law_374 hl (by decide) rfl (fun ls hl => ?_)
  refine lv_aload_n hx hb dL_law_376 rfl (lv_at hl 3 rfl) ?_
  refine L_ld (j := 2) (v := 1) (w := 2) hx hb hXs hbl hbA hS (lv_sub hl [1, 5] rfl) dL_law_377 dL_law_378 dL_law_380 dL_law_381 dL_law_382 rfl (by decide) (by unfold vp_in; decide) (by decide) ?_
  refine L_ld (j := 3) (v := 2) (w := 3) hx hb hXs hbl hbA hS (lv_sub hl [1, 5] rfl) dL_law_383 dL_law_384 dL_law_386 dL_law_387 dL_law_388 rfl (by decide) (by unfold vp_in; decide) (by decide) ?_
  refine R_calli (As := [Iz (xs 2).toInt, Iz (xs 3).toInt]) (rest := []) ⟨hx, hb, hml, hown, hts⟩ (c_plain (l := l) (dC := eC) (dI := eI) (cI := cI) (cJ := cJ) (cB := cB) (cZ := cZ) (h0 := h1) (ad := ad) (F := (fup (fun _ => 0) 25 mo)) (ar := (fun _ _ => 0)) (ia := (xs 2).toInt) (ib := (xs 3).toInt) rfl rfl (i32_lo _) (i32_hi _) (i32_lo _) (i32_hi _)) (cwV 2 hts (lgV w0r_gd (w0L_gd _ ll_60).1 (wT_gd _ ti_X12_plain).1 (wT_gd _ te_X12_plain).1 (w0L_gd _ ln_RX12).1 mc_plain) rfl rfl rfl (by decide +kernel) ⟨Nat.le_of_ble_eq_true rfl, Nat.le_of_ble_eq_true rfl⟩) hKr hPr hDw hS hA rfl hl.1 (Nat.le_of_ble_eq_true rfl) dL_law_389 ⟨Nat.le_of_ble_eq_true rfl, Nat.le_of_ble_eq_true rfl⟩ (fun z2 F2 ar2 H2 locs2 hz2 hPr hsz2 hk2 hS => ?_)
  refine lv_istore (lv' := [(6, Iz z2), (5, Iz z), (0, .ref b), (1, .ref h0), (2, .ref h1), (3, .ref q3), (4, .int 1)]) hx hb dL_law_392 hl (by decide) rfl (fun ls hl => ?_)
  refine lv_aload_n hx hb dL_law_394 rfl (lv_at hl 4 rfl) ?_
  refine R_calli (As := []) (rest := []) ⟨hx, hb, hml, hown, hts⟩ (c_thrown (l := l) (dC := eC) (dI := eI) (cI := cI) (cJ := cJ) (cB := cB) (cZ := cZ) (h0 := h1) (ad := ad) (F := F2) (ar := ar2)  ) (cwV 0 hts (lgV w0r_gd (w0L_gd _ ll_48).1 (wT_gd _ ti_X12_thrown).1 (wT_gd _ te_X12_thrown).1 (w0L_gd _ ln_RX12).1 mc_thrown) rfl rfl rfl (by decide +kernel) ⟨Nat.le_of_ble_eq_true rfl, Nat.le_of_ble_eq_true rfl⟩) hKr hPr (mW_D hDw) hS hA rfl hl.1 (Nat.le_of_ble_eq_true rfl) dL_law_395 ⟨Nat.le_of_ble_eq_true rfl, Nat.le_of_ble_eq_true rfl⟩ (fun z3 F3 ar3 H3 locs3 hz3 hPr3 hsz3 hk3 hS => ?_)
  obtain ⟨-, -, rfl⟩ := hz3
  refine lv_iload hx hb dL_law_398 (lv_at hl 1 rfl) ?_
  obtain ⟨rfl, e3⟩ := hz2
  obtain ⟨rfl, hf0⟩ := hz
  rw [e3]
  refine lv_icmp_eq (tgt := 405) hx hb dL_law_400 (by decide) (fun _ => ?_) (fun q => absurd rfl q)
  refine lv_iload hx hb dL_law_405 (lv_at hl 1 rfl) ?_
  refine g_if_ne (tgt := 422) hx hb ⟨by decide, by decide⟩ dL_law_407 (by decide) (fun q => absurd rfl q) (fun _ => ?_)
  refine lv_aload_n hx hb dL_law_410 rfl (lv_at hl 5 rfl) ?_
  refine lv_iconst (v := Int32.ofInt 0) hx hb dL_law_411 rfl ?_
  have hB : va_P (dC, dI) ccl (oW cx q3 f) H3 := oW.kept (oW.kept hB (fun h => hk2 q3 h (rA_not hDr hn3 h))) (fun h => hk3 q3 h (rA_not hDr hn3 h))
  refine g_lald hx hb hK hB 0 1 rfl rfl (Int.le_refl 0) (by decide) (by decide) dL_law_412 ?_
  refine lv_iload hx hb dL_law_413 (lv_at hl 0 rfl) ?_
  refine g_i2l hx hb ⟨by decide, by decide⟩ dL_law_415 ?_
  rw [hf0]
  refine g_lcmp hx hb ⟨by decide, by decide⟩ ⟨by decide, by decide⟩ dL_law_416 ?_
  refine g_if_eq (tgt := 422) hx hb (g_cmp_i _ _) dL_law_417 (by decide) (fun _ => ?_) (fun q => absurd (by decide) q)
  refine lv_goto (tgt := 1388) hx hb dL_law_422 (by decide) ?_
  exact T H3 locs3 ls hS (lv_sub hl [2, 6] rfl)
set_option maxHeartbeats 4000000 in
set_option maxRecDepth 100000 in
theorem lc_feed {p : Program} {l : Launch} {e : Env} {s : State} {m : MethodId} {below : List Frame} {meth : Method} {c : Code} {b : Nat} {xs : Nat → Int32} {dC : Nat → ClassId} {dI : Nat → Nat → Nat} {cx : Nat → Nat} {eC : Nat → ClassId} {eI : Nat → Nat → Nat} {cI cJ cB cZ : Nat} {H : Heap} {locs : List Loc} {ls : Array Slot} {h0 h1 q3 n1 n2 : Nat} {mo : Int} (C : LA p l s m c b xs dC dI cx eC eI cI cJ cB cZ) (Z : LZ dC dI cx eC eI cI cJ cB cZ s b H locs ls h0 h1 q3 n1 n2 mo) (T : LT p l e s m below meth c b) : W p l e room_1 s m #[Value.ref b] below meth c H locs 5000 6200000 (lw_Z below #[Value.ref b] s) (F0 m 1248 ls []) := by
  obtain ⟨hx, hb, hml, hown, hts, hXs, hbl, hK, hKr, hC, hCX, hCY, hCZ, hlt⟩ := C
  obtain ⟨hS, hl, hF, hR, hP3, hn3, hn1, hn2, hm1, hm2⟩ := Z
  obtain ⟨ad, hPr, hDr⟩ := hR
  have hDw : va_D (fun q : Nat => s.heap.size ≤ q) (mW h1 ad cI cJ cB cZ (fup (fun _ => 0) 25 mo) (fun _ _ => 0)) := hDr.weaken (fun k q _ h => Nat.le_trans hn1 h.1)
  have hbA : ¬ (fun q : Nat => s.heap.size ≤ q) b := Nat.not_le.mpr hbl
  have hA : ∀ q : Nat, s.heap.size ≤ q → (fun q : Nat => s.heap.size ≤ q) q := fun _ h => h
  refine lv_aload_n hx hb dL_law_1248 rfl (lv_at hl 1 rfl) ?_
  refine L_ld (j := 2) (v := 1) (w := 2) hx hb hXs hbl hbA hS (lv_sub hl [0, 4] rfl) dL_law_1249 dL_law_1250 dL_law_1252 dL_law_1253 dL_law_1254 rfl (by decide) (by unfold vp_in; decide) (by decide) ?_
  refine L_ld (j := 3) (v := 2) (w := 3) hx hb hXs hbl hbA hS (lv_sub hl [0, 4] rfl) dL_law_1255 dL_law_1256 dL_law_1258 dL_law_1259 dL_law_1260 rfl (by decide) (by unfold vp_in; decide) (by decide) ?_
  refine L_ld (j := 4) (v := 3) (w := 4) hx hb hXs hbl hbA hS (lv_sub hl [0, 4] rfl) dL_law_1261 dL_law_1262 dL_law_1264 dL_law_1265 dL_law_1266 rfl (by decide) (by unfold vp_in; decide) (by decide) ?_
  refine L_ld (j := 5) (v := 4) (w := 5) hx hb hXs hbl hbA hS (lv_sub hl [0, 4] rfl) dL_law_1267 dL_law_1268 dL_law_1270 dL_law_1271 dL_law_1272 rfl (by decide) (by unfold vp_in; decide) (by decide) ?_
  refine L_ld (j := 6) (v := 5) (w := 6) hx hb hXs hbl hbA hS (lv_sub hl [0, 4] rfl) dL_law_1273 dL_law_1274 dL_law_1276 dL_law_1277 dL_law_1278 rfl (by decide) (by unfold vp_in; decide) (by decide) ?_
  refine lv_aload_n hx hb dL_law_1279 rfl (lv_at hl 3 rfl) ?_
  have hfr : ∀ q, n1 ≤ q → q < n2 → q < H.size → ¬ sF s.heap.size n1 q3 H q := fun q h1 h2 h3 z => by
    rcases z with z | z | z <;> omega
  have hfs : ∀ q, sF s.heap.size n1 q3 H q → (fun q : Nat => s.heap.size ≤ q) q := fun q z => by
    have hz := hS.1
    rcases z with z | z | z
    · exact z.1
    · show s.heap.size ≤ q
      omega
    · exact Nat.le_trans hz z
  refine va_calli (vx_runSW (As := [.ref h0, Iz (xs 2).toInt, Iz (xs 3).toInt, Iz (xs 4).toInt, Iz (xs 5).toInt, Iz (xs 6).toInt, .ref q3]) (rest := []) ⟨hx, hb, hml, hown, hts⟩ (kL_feed (l := l) (dC := dC) (dI := dI) (cx := cx) (n0 := s.heap.size) (n1 := n1) (h0 := h0) (q3 := q3) (mo := mo) (H0 := H) (i32_lo _) (i32_hi _) (i32_lo _) (i32_hi _) (i32_lo _) (i32_hi _) (i32_lo _) (i32_hi _) (i32_lo _) (i32_hi _) (Nat.le_trans hn2 hn3)) (vx_cwSW 7 hts gS_feed rfl rfl rfl (by decide +kernel) ⟨Nat.le_of_ble_eq_true rfl, Nat.le_of_ble_eq_true rfl⟩) ⟨s_blind, fun U hU hW => ⟨rfl, hU, by rw [hU]; exact hF, by rw [hU]; exact hP3, va_K.moved hW.alike hK, CN.moved hW hC, CX.moved hW hCX, CY.moved hW hCY, by rw [hU]; exact hCZ.to hW.alike hS.2.1 (fun q h => Nat.le_trans hS.1 h)⟩⟩ rfl rfl hl.1 rfl (lv_room (Nat.le_of_ble_eq_true rfl)) dL_law_1280 ⟨Nat.le_of_ble_eq_true rfl, Nat.le_of_ble_eq_true rfl⟩) hS (fun q _ h => hfs q h) hfs (fun r f t H1 locs1 ht hvm hw hB hsz hk1 hS => ?_)
  obtain ⟨z, rfl, hz⟩ := hw
  rw [ht] at hB
  have hPr : va_P (eC, eI) rcl (mW h1 ad cI cJ cB cZ (fup (fun _ => 0) 25 mo) (fun _ _ => 0)) H1 := va_P_iff.mpr fun q hq => (va_P_iff.mp hPr q hq).kept (hk1 q.1 (va_P_iff.mp hPr q hq).lt (hfr q.1 ((va_D_iff.mp hDr).2 q hq).1 ((va_D_iff.mp hDr).2 q hq).2 (va_P_iff.mp hPr q hq).lt))
  refine W.widen (k := 100000) (n := 6400000) (by omega) (by omega) ?_
  refine lv_istore (lv' := [(5, Iz z), (0, .ref b), (1, .ref h0), (2, .ref h1), (3, .ref q3), (4, .int 1)]) hx hb dL_law_1283 hl (by decide) rfl (fun ls hl => ?_)
  refine lv_aload_n hx hb dL_law_1285 rfl (lv_at hl 3 rfl) ?_
  refine L_ld (j := 2) (v := 1) (w := 2) hx hb hXs hbl hbA hS (lv_sub hl [1, 5] rfl) dL_law_1286 dL_law_1287 dL_law_1289 dL_law_1290 dL_law_1291 rfl (by decide) (by unfold vp_in; decide) (by decide) ?_
  refine L_ld (j := 3) (v := 2) (w := 3) hx hb hXs hbl hbA hS (lv_sub hl [1, 5] rfl) dL_law_1292 dL_law_1293 dL_law_1295 dL_law_1296 dL_law_1297 rfl (by decide) (by unfold vp_in; decide) (by decide) ?_
  refine L_ld (j := 4) (v := 3) (w := 4) hx hb hXs hbl hbA hS (lv_sub hl [1, 5] rfl) dL_law_1298 dL_law_1299 dL_law_1301 dL_law_1302 dL_law_1303 rfl (by decide) (by unfold vp_in; decide) (by decide) ?_
  refine L_ld (j := 5) (v := 4) (w := 5) hx hb hXs hbl hbA hS (lv_sub hl [1, 5] rfl) dL_law_1304 dL_law_1305 dL_law_1307 dL_law_1308 dL_law_1309 rfl (by decide) (by unfold vp_in; decide) (by decide) ?_
  refine L_ld (j := 6) (v := 5) (w := 6) hx hb hXs hbl hbA hS (lv_sub hl [1, 5] rfl) dL_law_1310 dL_law_1311 dL_law_1313 dL_law_1314 dL_law_1315 rfl (by decide) (by unfold vp_in; decide) (by decide) ?_
  refine R_calli (As := [Iz (xs 2).toInt, Iz (xs 3).toInt, Iz (xs 4).toInt, Iz (xs 5).toInt, Iz (xs 6).toInt]) (rest := []) ⟨hx, hb, hml, hown, hts⟩ (c_feed (l := l) (dC := eC) (dI := eI) (cI := cI) (cJ := cJ) (cB := cB) (cZ := cZ) (h0 := h1) (ad := ad) (F := (fup (fun _ => 0) 25 mo)) (ar := (fun _ _ => 0)) (ia := (xs 2).toInt) (ib := (xs 3).toInt) (ic := (xs 4).toInt) (id := (xs 5).toInt) (ie := (xs 6).toInt) rfl (i32_lo _) (i32_hi _) (i32_lo _) (i32_hi _) (i32_lo _) (i32_hi _) (i32_lo _) (i32_hi _) (i32_lo _) (i32_hi _)) (cwV 5 hts (lgV w0r_gd (w0L_gd _ ll_159).1 (wT_gd _ ti_X12_feed).1 (wT_gd _ te_X12_feed).1 (w0L_gd _ ln_RX12).1 mc_feed) rfl rfl rfl (by decide +kernel) ⟨Nat.le_of_ble_eq_true rfl, Nat.le_of_ble_eq_true rfl⟩) hKr hPr hDw hS hA rfl hl.1 (Nat.le_of_ble_eq_true rfl) dL_law_1316 ⟨Nat.le_of_ble_eq_true rfl, Nat.le_of_ble_eq_true rfl⟩ (fun z2 F2 ar2 H2 locs2 hz2 hPr hsz2 hk2 hS => ?_)
  refine lv_istore (lv' := [(6, Iz z2), (5, Iz z), (0, .ref b), (1, .ref h0), (2, .ref h1), (3, .ref q3), (4, .int 1)]) hx hb dL_law_1319 hl (by decide) rfl (fun ls hl => ?_)
  refine lv_aload_n hx hb dL_law_1321 rfl (lv_at hl 4 rfl) ?_
  refine R_calli (As := []) (rest := []) ⟨hx, hb, hml, hown, hts⟩ (c_thrown (l := l) (dC := eC) (dI := eI) (cI := cI) (cJ := cJ) (cB := cB) (cZ := cZ) (h0 := h1) (ad := ad) (F := F2) (ar := ar2)  ) (cwV 0 hts (lgV w0r_gd (w0L_gd _ ll_48).1 (wT_gd _ ti_X12_thrown).1 (wT_gd _ te_X12_thrown).1 (w0L_gd _ ln_RX12).1 mc_thrown) rfl rfl rfl (by decide +kernel) ⟨Nat.le_of_ble_eq_true rfl, Nat.le_of_ble_eq_true rfl⟩) hKr hPr (mW_D hDw) hS hA rfl hl.1 (Nat.le_of_ble_eq_true rfl) dL_law_1322 ⟨Nat.le_of_ble_eq_true rfl, Nat.le_of_ble_eq_true rfl⟩ (fun z3 F3 ar3 H3 locs3 hz3 hPr3 hsz3 hk3 hS => ?_)
  obtain ⟨-, -, rfl⟩ := hz3
  refine lv_iload hx hb dL_law_1325 (lv_at hl 1 rfl) ?_
  obtain ⟨rfl, e3⟩ := hz2
  obtain ⟨rfl, hf0⟩ := hz
  rw [e3]
  refine lv_icmp_eq (tgt := 1332) hx hb dL_law_1327 (by decide) (fun _ => ?_) (fun q => absurd rfl q)
  refine lv_iload hx hb dL_law_1332 (lv_at hl 1 rfl) ?_
  refine g_if_ne (tgt := 1349) hx hb ⟨by decide, by decide⟩ dL_law_1334 (by decide) (fun q => absurd rfl q) (fun _ => ?_)
  refine lv_aload_n hx hb dL_law_1337 rfl (lv_at hl 5 rfl) ?_
  refine lv_iconst (v := Int32.ofInt 0) hx hb dL_law_1338 rfl ?_
  have hB : va_P (dC, dI) ccl (oW cx q3 f) H3 := oW.kept (oW.kept hB (fun h => hk2 q3 h (rA_not hDr hn3 h))) (fun h => hk3 q3 h (rA_not hDr hn3 h))
  refine g_lald hx hb hK hB 0 1 rfl rfl (Int.le_refl 0) (by decide) (by decide) dL_law_1339 ?_
  refine lv_iload hx hb dL_law_1340 (lv_at hl 0 rfl) ?_
  refine g_i2l hx hb ⟨by decide, by decide⟩ dL_law_1342 ?_
  rw [hf0]
  refine g_lcmp hx hb ⟨by decide, by decide⟩ ⟨by decide, by decide⟩ dL_law_1343 ?_
  refine g_if_eq (tgt := 1349) hx hb (g_cmp_i _ _) dL_law_1344 (by decide) (fun _ => ?_) (fun q => absurd (by decide) q)
  refine lv_goto (tgt := 1388) hx hb dL_law_1349 (by decide) ?_
  exact T H3 locs3 ls hS (lv_sub hl [2, 6] rfl)
set_option maxHeartbeats 4000000 in
set_option maxRecDepth 100000 in
theorem lc_end {p : Program} {l : Launch} {e : Env} {s : State} {m : MethodId} {below : List Frame} {meth : Method} {c : Code} {b : Nat} {xs : Nat → Int32} {dC : Nat → ClassId} {dI : Nat → Nat → Nat} {cx : Nat → Nat} {eC : Nat → ClassId} {eI : Nat → Nat → Nat} {cI cJ cB cZ : Nat} {H : Heap} {locs : List Loc} {ls : Array Slot} {h0 h1 q3 n1 n2 : Nat} {mo : Int} (C : LA p l s m c b xs dC dI cx eC eI cI cJ cB cZ) (Z : LZ dC dI cx eC eI cI cJ cB cZ s b H locs ls h0 h1 q3 n1 n2 mo) (T : LT p l e s m below meth c b) : W p l e room_1 s m #[Value.ref b] below meth c H locs 5000 6200000 (lw_Z below #[Value.ref b] s) (F0 m 1352 ls []) := by
  obtain ⟨hx, hb, hml, hown, hts, hXs, hbl, hK, hKr, hC, hCX, hCY, hCZ, hlt⟩ := C
  obtain ⟨hS, hl, hF, hR, hP3, hn3, hn1, hn2, hm1, hm2⟩ := Z
  obtain ⟨ad, hPr, hDr⟩ := hR
  have hDw : va_D (fun q : Nat => s.heap.size ≤ q) (mW h1 ad cI cJ cB cZ (fup (fun _ => 0) 25 mo) (fun _ _ => 0)) := hDr.weaken (fun k q _ h => Nat.le_trans hn1 h.1)
  have hbA : ¬ (fun q : Nat => s.heap.size ≤ q) b := Nat.not_le.mpr hbl
  have hA : ∀ q : Nat, s.heap.size ≤ q → (fun q : Nat => s.heap.size ≤ q) q := fun _ h => h
  refine lv_aload_n hx hb dL_law_1352 rfl (lv_at hl 1 rfl) ?_
  refine L_ld (j := 2) (v := 1) (w := 2) hx hb hXs hbl hbA hS (lv_sub hl [0, 4] rfl) dL_law_1353 dL_law_1354 dL_law_1356 dL_law_1357 dL_law_1358 rfl (by decide) (by unfold vp_in; decide) (by decide) ?_
  have hfr : ∀ q, n1 ≤ q → q < n2 → q < H.size → ¬ sF s.heap.size n1 q3 H q := fun q h1 h2 h3 z => by
    rcases z with z | z | z <;> omega
  have hfs : ∀ q, sF s.heap.size n1 q3 H q → (fun q : Nat => s.heap.size ≤ q) q := fun q z => by
    have hz := hS.1
    rcases z with z | z | z
    · exact z.1
    · show s.heap.size ≤ q
      omega
    · exact Nat.le_trans hz z
  refine va_calli (vx_runSW (As := [.ref h0, Iz (xs 2).toInt]) (rest := []) ⟨hx, hb, hml, hown, hts⟩ (kL_end (l := l) (dC := dC) (dI := dI) (cx := cx) (n0 := s.heap.size) (n1 := n1) (h0 := h0) (q3 := q3) (mo := mo) (H0 := H) hlt (i32_lo _) (i32_hi _) (Nat.le_trans hn2 hn3)) (vx_cwSW 2 hts gS_end rfl rfl rfl (by decide +kernel) ⟨Nat.le_of_ble_eq_true rfl, Nat.le_of_ble_eq_true rfl⟩) ⟨s_blind, fun U hU hW => ⟨rfl, hU, by rw [hU]; exact hF, by rw [hU]; exact hP3, va_K.moved hW.alike hK, CN.moved hW hC, CX.moved hW hCX, CY.moved hW hCY, by rw [hU]; exact hCZ.to hW.alike hS.2.1 (fun q h => Nat.le_trans hS.1 h)⟩⟩ rfl rfl hl.1 rfl (lv_room (Nat.le_of_ble_eq_true rfl)) dL_law_1359 ⟨Nat.le_of_ble_eq_true rfl, Nat.le_of_ble_eq_true rfl⟩) hS (fun q _ h => hfs q h) hfs (fun r f t H1 locs1 ht hvm hw hB hsz hk1 hS => ?_)
  obtain ⟨z, rfl, hz⟩ := hw
  rw [ht] at hB
  have hPr : va_P (eC, eI) rcl (mW h1 ad cI cJ cB cZ (fup (fun _ => 0) 25 mo) (fun _ _ => 0)) H1 := va_P_iff.mpr fun q hq => (va_P_iff.mp hPr q hq).kept (hk1 q.1 (va_P_iff.mp hPr q hq).lt (hfr q.1 ((va_D_iff.mp hDr).2 q hq).1 ((va_D_iff.mp hDr).2 q hq).2 (va_P_iff.mp hPr q hq).lt))
  refine W.widen (k := 100000) (n := 6400000) (by omega) (by omega) ?_
  refine lv_istore (lv' := [(5, Iz z), (0, .ref b), (1, .ref h0), (2, .ref h1), (3, .ref q3), (4, .int 1)]) hx hb dL_law_1362 hl (by decide) rfl (fun ls hl => ?_)
  refine lv_aload_n hx hb dL_law_1364 rfl (lv_at hl 3 rfl) ?_
  refine L_ld (j := 2) (v := 1) (w := 2) hx hb hXs hbl hbA hS (lv_sub hl [1, 5] rfl) dL_law_1365 dL_law_1366 dL_law_1368 dL_law_1369 dL_law_1370 rfl (by decide) (by unfold vp_in; decide) (by decide) ?_
  refine R_callv (As := [Iz (xs 2).toInt]) (rest := []) ⟨hx, hb, hml, hown, hts⟩ (c_endR (l := l) (dC := eC) (dI := eI) (cI := cI) (cJ := cJ) (cB := cB) (cZ := cZ) (h0 := h1) (ad := ad) (F := (fup (fun _ => 0) 25 mo)) (ar := (fun _ _ => 0)) (ia := (xs 2).toInt) rfl (i32_lo _) (i32_hi _)) (cwV 1 hts (lgV w0r_gd (w0L_gd _ ll_163).1 (wT_gd _ ti_X12_end).1 (wT_gd _ te_X12_end).1 (w0L_gd _ ln_RX12).1 mc_end) rfl rfl rfl (by decide +kernel) ⟨Nat.le_of_ble_eq_true rfl, Nat.le_of_ble_eq_true rfl⟩) hKr hPr hDw hS hA rfl hl.1 (Nat.le_of_ble_eq_true rfl) dL_law_1371 ⟨Nat.le_of_ble_eq_true rfl, Nat.le_of_ble_eq_true rfl⟩ (fun F2 ar2 H2 locs2 hz2 hPr hsz2 hk2 hS => ?_)
  refine lv_aload_n hx hb dL_law_1374 rfl (lv_at hl 3 rfl) ?_
  refine R_calli (As := []) (rest := []) ⟨hx, hb, hml, hown, hts⟩ (c_thrown (l := l) (dC := eC) (dI := eI) (cI := cI) (cJ := cJ) (cB := cB) (cZ := cZ) (h0 := h1) (ad := ad) (F := F2) (ar := ar2)  ) (cwV 0 hts (lgV w0r_gd (w0L_gd _ ll_48).1 (wT_gd _ ti_X12_thrown).1 (wT_gd _ te_X12_thrown).1 (w0L_gd _ ln_RX12).1 mc_thrown) rfl rfl rfl (by decide +kernel) ⟨Nat.le_of_ble_eq_true rfl, Nat.le_of_ble_eq_true rfl⟩) hKr hPr (mW_D hDw) hS hA rfl hl.1 (Nat.le_of_ble_eq_true rfl) dL_law_1375 ⟨Nat.le_of_ble_eq_true rfl, Nat.le_of_ble_eq_true rfl⟩ (fun z3 F3 ar3 H3 locs3 hz3 hPr3 hsz3 hk3 hS => ?_)
  obtain ⟨-, -, rfl⟩ := hz3
  refine lv_iload hx hb dL_law_1378 (lv_at hl 0 rfl) ?_
  rw [hz, hz2]
  refine lv_icmp_eq (tgt := 1385) hx hb dL_law_1380 (by decide) (fun _ => ?_) (fun q => absurd rfl q)
  refine lv_goto (tgt := 1388) hx hb dL_law_1385 (by decide) ?_
  exact T H3 locs3 ls hS (lv_sub hl [1, 5] rfl)
