section LStat
def w1S : List Cond := [Cond.initialized RX11, Cond.classLink RL 13 "java/lang/ArithmeticException", Cond.classLink RL 29 "java/lang/IllegalArgumentException", Cond.methodLink RL 7 yX11_fraction, Cond.instanceMethod yX11_fraction, Cond.selects RX11 yX11_fraction yX11_fraction, Cond.methodLink RL 15 yX11_plain, Cond.instanceMethod yX11_plain, Cond.selects RX11 yX11_plain yX11_plain, Cond.methodLink RL 19 yX11_feed, Cond.instanceMethod yX11_feed, Cond.selects RX11 yX11_feed yX11_feed, Cond.methodLink RL 25 yX11_end, Cond.instanceMethod yX11_end, Cond.selects RX11 yX11_end yX11_end]
/-- the words of the law's helpers -/
def w0S : List Cond := w1S ++ w0c
theorem w1S_in {w : Cond} (h : w ∈ w1S) : w ∈ w0S := List.mem_append_left _ h
theorem w1S_good : w1S.all goodWord = true := by decide +kernel
theorem w0S_c {c0 : Cond} : GoodIn (c0 :: w0S) w0c := fun w h => ⟨List.mem_cons_of_mem _ (List.mem_append_right _ h), good_of_word (List.all_eq_true.mp w0c_good w h)⟩
theorem w0S_m {c0 : Cond} (k : Nat) {w : Cond} (h : w1S[k]? = some w) : w ∈ c0 :: w0S := List.mem_cons_of_mem _ (w1S_in (List.mem_of_getElem? h))
/-- what a helper may write: the object's own cells, the law's row, what is new -/
def sF (n0 n1 q3 : Nat) (H0 : Heap) : Nat → Prop := fun q => (n0 ≤ q ∧ q < n1) ∨ q = q3 ∨ H0.size ≤ q
abbrev sPc (dC : Nat → ClassId) (dI : Nat → Nat → Nat) (cx : Nat → Nat) (n0 n1 ar : Nat) (mo : Int) (q3 : Nat) (H0 : Heap) (As : List Value) : Array Value → State → Prop :=
  va_Pc As (fun U => U.heap = H0 ∧ FW dC dI cx n0 n1 U.heap ar mo ∧ va_P (dC, dI) ccl (oW cx q3 (fun _ => 0)) U.heap ∧ va_K (dC, dI) ccl (cty cx) U ∧ CN U ∧ CX U ∧ CY U ∧ CZ (fun q => H0.size ≤ q) U U.heap)
abbrev sQ (dC : Nat → ClassId) (dI : Nat → Nat → Nat) (cx : Nat → Nat) (q3 : Nat) (fr : Nat → Prop) (P : Int → Int → Prop) : Array Value → State → Outcome → State → Prop :=
  va_Qi (fun (r : Int32) (f : Int → Int) => ∃ z : Int, r = Int32.ofInt z ∧ P z (f 0)) (fun f t => va_P (dC, dI) ccl (oW cx q3 f) t.heap) fr
theorem s_blind {dC : Nat → ClassId} {dI : Nat → Nat → Nat} {cx : Nat → Nat} {n0 n1 ar : Nat} {mo : Int} {q3 : Nat} {H0 : Heap} {As : List Value} : FrameBlind (sPc dC dI cx n0 n1 ar mo q3 H0 As) := fun a U g mk q => by
  obtain ⟨q0, q1, qF, qP, qK, qC, qX, qY, qZ⟩ := q
  exact ⟨q0, q1, qF, qP, va_K.moved (u := U) (U := U.calling g mk a) (Vm.Alike.refl U.vm) qK, CN.same (u := U) (U := U.calling g mk a) rfl qC, CX.same (u := U) (U := U.calling g mk a) rfl qX, CY.same (u := U) (U := U.calling g mk a) rfl qY, qZ.to (u := U) (U := U.calling g mk a) (Vm.Alike.refl U.vm) (fun _ _ _ => rfl) (fun _ h => h)⟩
abbrev sRm : Room := { frames := 12, cells := 90000, slots := 180000, locals := 320 }
set_option maxHeartbeats 4000000 in
set_option maxRecDepth 100000 in
theorem kL_fraction {l : Launch} (hlt : l.stackTraces = false) {dC : Nat → ClassId} {dI : Nat → Nat → Nat} {cx : Nat → Nat} {n0 n1 h0 q3 : Nat} {mo : Int} {H0 : Heap} {up low : Int} (u0 : -9223372036854775808 ≤ up) (u1 : up ≤ 9223372036854775807) (l0 : -9223372036854775808 ≤ low) (l1 : low ≤ 9223372036854775807) (hn : n1 ≤ q3) : Met l yL_fraction (Cond.codeWith yL_fraction cL_fraction 7 (some .int) [(0, 11, 14, 13)] :: w0S) sRm (sPc dC dI cx n0 n1 h0 mo q3 H0 [.ref h0, Jz up, Jz low, .ref q3]) (sQ dC dI cx q3 (sF n0 n1 q3 H0) (fun z v => (low = 0 → z = 1) ∧ (low ≠ 0 → z = 0 ∧ v = 0))) 90000 180000 (sF n0 n1 q3 H0) := by
  refine met_ofWH (cc := cL_fraction) (maxL := 7) (ret := some .int) (hh := [(0, 11, 14, 13)]) (by decide) rfl ?_
  intro p e s m args below meth c s₁ B hml htb hv
  obtain ⟨rfl, hH0, hF, hP3, hK, hC, hX, hY, hZ⟩ := hv
  have hx := B.exec
  have hb := B.bytes
  have hr := B.returns
  have hts := atoms_spec (ws := Cond.codeWith yL_fraction cL_fraction 7 (some .int) [(0, 11, 14, 13)] :: w0S) B.pre
  have hown : s.vm.findClass RL = some m.cls := findClass_of_methodNamed B.named
  have hlocks := B.notSynchronized
  subst hH0
  refine hF.elim (fun LB LP pc_ pd co X dd nn ss ll gg v cp vs nu tol pi_ ti_ fr stk t0 no pa s0 zo tx bu bv bw bs le rl rh ta tb tq tt tu tw tm ch ug uh uq ut uu ra rp rq xp xw xk xf xy xb hP hD hll hM h_ar h_fr mle h_nu h_tol hO hN h_s0 hU hTo hSt hNo h_ra h_rp h_rq nap naq_ npq h_ch hcp hcj mrl srl crl mrh srh crh mbu sbu cbu nlh hfc h_tx h_xp => ?_)
  have hq3 : q3 < s.heap.size := oW.lt hP3
  have hsub : ∀ q, va_A (bW (cx 0) LB dd nn ss ll gg (pW cx LP pc_ pd co X)) s.heap.size q → sF n0 n1 q3 s.heap q := fun q h => by
    rcases h with ⟨k, e0, h⟩ | h
    · exact Or.inl (hD.2 k _ h)
    · exact Or.inr (Or.inr h)
  have hno : ¬ va_A (bW (cx 0) LB dd nn ss ll gg (pW cx LP pc_ pd co X)) s.heap.size q3 := fun h => by
    rcases h with ⟨k, e0, h⟩ | h
    · have := (hD.2 k _ h).2; dsimp only at this; omega
    · omega
  have hS : va_S (sF n0 n1 q3 s.heap) s.heap s.heap [] := va_S.rf
  have hl := lv_entry ([.ref h0, Jz up, Jz low, .ref q3]) (n := 7) (Nat.le_of_ble_eq_true rfl)
  rw [lg_entry_eq]
  generalize (lg_sl ([.ref h0, Jz up, Jz low, .ref q3]) ++ List.replicate (7 - (lg_sl ([.ref h0, Jz up, Jz low, .ref q3])).length) Slot.unset).toArray = ls at hl ⊢
  have hl : lv_has ls 7 [(0, .ref h0), (1, Jz up), (3, Jz low), (5, .ref q3)] := hl
  refine lv_aload hx hb dL_fraction_0 (lv_at hl 3 rfl) ?_
  refine lv_iconst (v := 0) hx hb dL_fraction_2 rfl ?_
  refine lv_aload_n hx hb dL_fraction_3 rfl (lv_at hl 0 rfl) ?_
  refine lv_lload_n hx hb dL_fraction_4 rfl (lv_at hl 1 rfl) ?_
  refine lv_lload_n hx hb dL_fraction_5 rfl (lv_at hl 2 rfl) ?_
  by_cases hz : low = 0
  · subst hz
    refine vx_calli (vx_runV (As := [Jz up, Jz 0]) (rest := [.int 0, .ref q3]) ⟨hx, hb, hml, hown, hts⟩ (x11_fraction0 (ar := h0) (up := up) (H0 := s.heap) hlt) (cwV 2 hts (lgV w0S_c (w0S_m 3 rfl) (w0S_m 4 rfl) (w0S_m 5 rfl) (w0S_m 0 rfl) cc_X11_fraction) rfl rfl rfl (by decide +kernel) ⟨Nat.le_of_ble_eq_true rfl, Nat.le_of_ble_eq_true rfl⟩) ⟨fun a U g mk q => by obtain ⟨r0, r1, r2, r3⟩ := q; exact ⟨r0, r1, CX.same (u := U) (U := U.calling g mk a) rfl r2, r3.to (u := U) (U := U.calling g mk a) (Vm.Alike.refl U.vm) (fun _ _ _ => rfl) (fun _ h => h)⟩, L_recv (q := (RX11, TX11, 20)) hK hP rfl (pW_x h_ar), fun U hU hW => ⟨rfl, hU, CX.moved hW hX, by rw [hU]; exact hZ.to hW.alike (fun _ _ _ => rfl) (fun _ h => h)⟩⟩ rfl rfl hl.1 rfl (lv_room (Nat.le_of_ble_eq_true rfl)) dL_fraction_6 ⟨Nat.le_of_ble_eq_true rfl, Nat.le_of_ble_eq_true rfl⟩) hS (fun q h1 h2 => absurd h1 (Nat.not_lt.mpr h2)) (fun q h => Or.inr (Or.inr h)) (fun q h1 h2 => absurd h1 (Nat.not_lt.mpr h2)) (fun E ce q9 u t H1 locs1 ht hvm hu hE hz1 hk1 hS hce hcv hcl => ?_) (fun r u t H1 locs1 ht hvm hw => hw.elim)
    subst hE
    refine vx_catch (name := "java/lang/ArithmeticException") hown [] ⟨0, 11, 14, 13⟩ [] (by rw [htb]; rfl) (fun z hz => nomatch hz) (by decide) (by decide) (hts _ (w0S_m 1 rfl)) (va_Nw.use rfl hY.1) hce hcv hcl ?_
    have hP3 : va_P (dC, dI) ccl (oW cx q3 (fun _ => 0)) H1 := oW.kept hP3 (fun h => hk1 q3 h (Nat.not_le.mpr hq3))
    refine lv_astore (lv' := [(6, .ref q9), (0, .ref h0), (1, Jz up), (3, Jz 0), (5, .ref q3)]) hx hb dL_fraction_14 hl (by decide) rfl (fun ls hl => ?_)
    refine lv_iconst (v := Int32.ofInt 1) hx hb dL_fraction_16 rfl ?_
    refine W.widen (k := 90000) (n := 180000) (by omega) (by omega) ?_
    exact W.iret (v := Int32.ofInt (1)) hx hb hr (fun t ht hW => ⟨⟨_, (fun _ => 0), rfl, ⟨_, rfl, ⟨fun _ => rfl, fun h => absurd rfl h⟩⟩, by show va_P (dC, dI) ccl (oW cx q3 (fun _ => 0)) t.heap; rw [ht]; exact hP3⟩, hS.F ht⟩) hS.2.2 dL_fraction_17
  · refine L_calli (As := [Jz up, Jz low]) (rest := [.int 0, .ref q3]) ⟨hx, hb, hml, hown, hts⟩ (k11_fraction (l := l) (dC := dC) (dI := dI) (cx := cx) (up := up) (low := low) h_ar h_fr mle h_nu hO hN hTo hSt u0 u1 l0 l1 hz) (cwV 2 hts (lgV w0S_c (w0S_m 3 rfl) (w0S_m 4 rfl) (w0S_m 5 rfl) (w0S_m 0 rfl) cc_X11_fraction) rfl rfl rfl (by decide +kernel) ⟨Nat.le_of_ble_eq_true rfl, Nat.le_of_ble_eq_true rfl⟩) (L_preN hK hC hP hD hll (pW_x h_ar) _) hS hsub rfl hl.1 (Nat.le_of_ble_eq_true rfl) dL_fraction_6 ⟨(show 0 + (cMc LB ll + 91) ≤ 90000 by omega), (show 0 + (2 * cMc LB ll + 307) ≤ 180000 by omega)⟩ (fun z H1 locs1 hz1 hz2 hk1 hS => ?_)
    obtain ⟨-, -, -, -, -, -, rfl⟩ := hz1
    have hP3 : va_P (dC, dI) ccl (oW cx q3 (fun _ => 0)) H1 := oW.kept hP3 (fun h => hk1 q3 h hno)
    refine g_i2l hx hb ⟨by decide, by decide⟩ dL_fraction_9 ?_
    refine g_last (z := 0) hx hb hK hP3 (oW.d (A := sF n0 n1 q3 s.heap) (Or.inr (Or.inl rfl))) hS 0 1 rfl rfl (Int.le_refl 0) (by decide) (by decide) dL_fraction_10 (fun H2 locs2 hP3 hD3 hS => ?_)
    have hP3 : va_P (dC, dI) ccl (oW cx q3 (iup (fun _ => 0) 0 0)) H2 := hP3
    refine lv_goto (tgt := 18) hx hb dL_fraction_11 (by decide) ?_
    refine lv_iconst (v := Int32.ofInt 0) hx hb dL_fraction_18 rfl ?_
    refine W.widen (k := 90000) (n := 180000) (by omega) (by omega) ?_
    exact W.iret (v := Int32.ofInt (0)) hx hb hr (fun t ht hW => ⟨⟨_, (iup (fun _ => 0) 0 0), rfl, ⟨_, rfl, ⟨fun h => absurd h hz, fun _ => ⟨rfl, rfl⟩⟩⟩, by show va_P (dC, dI) ccl (oW cx q3 (iup (fun _ => 0) 0 0)) t.heap; rw [ht]; exact hP3⟩, hS.F ht⟩) hS.2.2 dL_fraction_19
set_option maxHeartbeats 4000000 in
set_option maxRecDepth 100000 in
theorem kL_plain {l : Launch} {dC : Nat → ClassId} {dI : Nat → Nat → Nat} {cx : Nat → Nat} {n0 n1 h0 q3 : Nat} {mo : Int} {H0 : Heap} {ia ib : Int} (ia0 : -2147483648 ≤ ia) (ia1 : ia ≤ 2147483647) (ib0 : -2147483648 ≤ ib) (ib1 : ib ≤ 2147483647) (hn : n1 ≤ q3) : Met l yL_plain (Cond.codeWith yL_plain cL_plain 5 (some .int) [(0, 10, 13, 13)] :: w0S) sRm (sPc dC dI cx n0 n1 h0 mo q3 H0 [.ref h0, Iz ia, Iz ib, .ref q3]) (sQ dC dI cx q3 (sF n0 n1 q3 H0) (fun z v => z = 0 ∧ v = -101)) 90000 180000 (sF n0 n1 q3 H0) := by
  refine met_ofWH (cc := cL_plain) (maxL := 5) (ret := some .int) (hh := [(0, 10, 13, 13)]) (by decide) rfl ?_
  intro p e s m args below meth c s₁ B hml htb hv
  obtain ⟨rfl, hH0, hF, hP3, hK, hC, hX, hY, hZ⟩ := hv
  have hx := B.exec
  have hb := B.bytes
  have hr := B.returns
  have hts := atoms_spec (ws := Cond.codeWith yL_plain cL_plain 5 (some .int) [(0, 10, 13, 13)] :: w0S) B.pre
  have hown : s.vm.findClass RL = some m.cls := findClass_of_methodNamed B.named
  have hlocks := B.notSynchronized
  subst hH0
  refine hF.elim (fun LB LP pc_ pd co X dd nn ss ll gg v cp vs nu tol pi_ ti_ fr stk t0 no pa s0 zo tx bu bv bw bs le rl rh ta tb tq tt tu tw tm ch ug uh uq ut uu ra rp rq xp xw xk xf xy xb hP hD hll hM h_ar h_fr mle h_nu h_tol hO hN h_s0 hU hTo hSt hNo h_ra h_rp h_rq nap naq_ npq h_ch hcp hcj mrl srl crl mrh srh crh mbu sbu cbu nlh hfc h_tx h_xp => ?_)
  have hq3 : q3 < s.heap.size := oW.lt hP3
  have hsub : ∀ q, va_A (bW (cx 0) LB dd nn ss ll gg (pW cx LP pc_ pd co X)) s.heap.size q → sF n0 n1 q3 s.heap q := fun q h => by
    rcases h with ⟨k, e0, h⟩ | h
    · exact Or.inl (hD.2 k _ h)
    · exact Or.inr (Or.inr h)
  have hno : ¬ va_A (bW (cx 0) LB dd nn ss ll gg (pW cx LP pc_ pd co X)) s.heap.size q3 := fun h => by
    rcases h with ⟨k, e0, h⟩ | h
    · have := (hD.2 k _ h).2; dsimp only at this; omega
    · omega
  have hS : va_S (sF n0 n1 q3 s.heap) s.heap s.heap [] := va_S.rf
  have hl := lv_entry ([.ref h0, Iz ia, Iz ib, .ref q3]) (n := 5) (Nat.le_of_ble_eq_true rfl)
  rw [lg_entry_eq]
  generalize (lg_sl ([.ref h0, Iz ia, Iz ib, .ref q3]) ++ List.replicate (5 - (lg_sl ([.ref h0, Iz ia, Iz ib, .ref q3])).length) Slot.unset).toArray = ls at hl ⊢
  have hl : lv_has ls 5 [(0, .ref h0), (1, Iz ia), (2, Iz ib), (3, .ref q3)] := hl
  refine lv_aload_n hx hb dL_plain_0 rfl (lv_at hl 3 rfl) ?_
  refine lv_iconst (v := 0) hx hb dL_plain_1 rfl ?_
  refine lv_aload_n hx hb dL_plain_2 rfl (lv_at hl 0 rfl) ?_
  refine lv_iload_n hx hb dL_plain_3 rfl (lv_at hl 1 rfl) ?_
  refine lv_iload_n hx hb dL_plain_4 rfl (lv_at hl 2 rfl) ?_
  refine L_calli (As := [Iz ia, Iz ib]) (rest := [.int 0, .ref q3]) ⟨hx, hb, hml, hown, hts⟩ (k11_plain (l := l) (dC := dC) (dI := dI) (cx := cx) (ia := ia) (ib := ib) h_ar h_nu h_tol ia0 ia1 ib0 ib1) (cwV 2 hts (lgV w0S_c (w0S_m 6 rfl) (w0S_m 7 rfl) (w0S_m 8 rfl) (w0S_m 0 rfl) cc_X11_plain) rfl rfl rfl (by decide +kernel) ⟨Nat.le_of_ble_eq_true rfl, Nat.le_of_ble_eq_true rfl⟩) (L_preC hK hP hD hll (pW_x h_ar) _) hS hsub rfl hl.1 (Nat.le_of_ble_eq_true rfl) dL_plain_5 ⟨(show 0 + (cMc LB ll + 0) ≤ 90000 by omega), (show 0 + (2 * cMc LB ll + 0) ≤ 180000 by omega)⟩ (fun z H1 locs1 hz1 hz2 hk1 hS => ?_)
  obtain ⟨-, -, -, -, -, -, rfl⟩ := hz1
  have hP3 : va_P (dC, dI) ccl (oW cx q3 (fun _ => 0)) H1 := oW.kept hP3 (fun h => hk1 q3 h hno)
  refine g_i2l hx hb ⟨by decide, by decide⟩ dL_plain_8 ?_
  refine g_last (z := 0) hx hb hK hP3 (oW.d (A := sF n0 n1 q3 s.heap) (Or.inr (Or.inl rfl))) hS 0 1 rfl rfl (Int.le_refl 0) (by decide) (by decide) dL_plain_9 (fun H2 locs2 hP3 hD3 hS => ?_)
  have hP3 : va_P (dC, dI) ccl (oW cx q3 (iup (fun _ => 0) 0 (-101))) H2 := hP3
  refine lv_goto (tgt := 17) hx hb dL_plain_10 (by decide) ?_
  refine lv_iconst (v := Int32.ofInt 0) hx hb dL_plain_17 rfl ?_
  refine W.widen (k := 90000) (n := 180000) (by omega) (by omega) ?_
  exact W.iret (v := Int32.ofInt (0)) hx hb hr (fun t ht hW => ⟨⟨_, (iup (fun _ => 0) 0 (-101)), rfl, ⟨_, rfl, ⟨rfl, rfl⟩⟩, by show va_P (dC, dI) ccl (oW cx q3 (iup (fun _ => 0) 0 (-101))) t.heap; rw [ht]; exact hP3⟩, hS.F ht⟩) hS.2.2 dL_plain_18
set_option maxHeartbeats 4000000 in
set_option maxRecDepth 100000 in
theorem kL_feed {l : Launch} {dC : Nat → ClassId} {dI : Nat → Nat → Nat} {cx : Nat → Nat} {n0 n1 h0 q3 : Nat} {mo : Int} {H0 : Heap} {ia ib ic id ie : Int} (ia0 : -2147483648 ≤ ia) (ia1 : ia ≤ 2147483647) (ib0 : -2147483648 ≤ ib) (ib1 : ib ≤ 2147483647) (ic0 : -2147483648 ≤ ic) (ic1 : ic ≤ 2147483647) (id0 : -2147483648 ≤ id) (id1 : id ≤ 2147483647) (ie0 : -2147483648 ≤ ie) (ie1 : ie ≤ 2147483647) (hn : n1 ≤ q3) : Met l yL_feed (Cond.codeWith yL_feed cL_feed 8 (some .int) [(0, 16, 19, 23)] :: w0S) sRm (sPc dC dI cx n0 n1 h0 mo q3 H0 [.ref h0, Iz ia, Iz ib, Iz ic, Iz id, Iz ie, .ref q3]) (sQ dC dI cx q3 (sF n0 n1 q3 H0) (fun z v => z = 0 ∧ v = 20)) 90000 180000 (sF n0 n1 q3 H0) := by
  refine met_ofWH (cc := cL_feed) (maxL := 8) (ret := some .int) (hh := [(0, 16, 19, 23)]) (by decide) rfl ?_
  intro p e s m args below meth c s₁ B hml htb hv
  obtain ⟨rfl, hH0, hF, hP3, hK, hC, hX, hY, hZ⟩ := hv
  have hx := B.exec
  have hb := B.bytes
  have hr := B.returns
  have hts := atoms_spec (ws := Cond.codeWith yL_feed cL_feed 8 (some .int) [(0, 16, 19, 23)] :: w0S) B.pre
  have hown : s.vm.findClass RL = some m.cls := findClass_of_methodNamed B.named
  have hlocks := B.notSynchronized
  subst hH0
  refine hF.elim (fun LB LP pc_ pd co X dd nn ss ll gg v cp vs nu tol pi_ ti_ fr stk t0 no pa s0 zo tx bu bv bw bs le rl rh ta tb tq tt tu tw tm ch ug uh uq ut uu ra rp rq xp xw xk xf xy xb hP hD hll hM h_ar h_fr mle h_nu h_tol hO hN h_s0 hU hTo hSt hNo h_ra h_rp h_rq nap naq_ npq h_ch hcp hcj mrl srl crl mrh srh crh mbu sbu cbu nlh hfc h_tx h_xp => ?_)
  have hq3 : q3 < s.heap.size := oW.lt hP3
  have hsub : ∀ q, va_A (bW (cx 0) LB dd nn ss ll gg (pW cx LP pc_ pd co X)) s.heap.size q → sF n0 n1 q3 s.heap q := fun q h => by
    rcases h with ⟨k, e0, h⟩ | h
    · exact Or.inl (hD.2 k _ h)
    · exact Or.inr (Or.inr h)
  have hno : ¬ va_A (bW (cx 0) LB dd nn ss ll gg (pW cx LP pc_ pd co X)) s.heap.size q3 := fun h => by
    rcases h with ⟨k, e0, h⟩ | h
    · have := (hD.2 k _ h).2; dsimp only at this; omega
    · omega
  have hS : va_S (sF n0 n1 q3 s.heap) s.heap s.heap [] := va_S.rf
  have hl := lv_entry ([.ref h0, Iz ia, Iz ib, Iz ic, Iz id, Iz ie, .ref q3]) (n := 8) (Nat.le_of_ble_eq_true rfl)
  rw [lg_entry_eq]
  generalize (lg_sl ([.ref h0, Iz ia, Iz ib, Iz ic, Iz id, Iz ie, .ref q3]) ++ List.replicate (8 - (lg_sl ([.ref h0, Iz ia, Iz ib, Iz ic, Iz id, Iz ie, .ref q3])).length) Slot.unset).toArray = ls at hl ⊢
  have hl : lv_has ls 8 [(0, .ref h0), (1, Iz ia), (2, Iz ib), (3, Iz ic), (4, Iz id), (5, Iz ie), (6, .ref q3)] := hl
  refine lv_aload hx hb dL_feed_0 (lv_at hl 6 rfl) ?_
  refine lv_iconst (v := 0) hx hb dL_feed_2 rfl ?_
  refine lv_aload_n hx hb dL_feed_3 rfl (lv_at hl 0 rfl) ?_
  refine lv_iload_n hx hb dL_feed_4 rfl (lv_at hl 1 rfl) ?_
  refine lv_iload_n hx hb dL_feed_5 rfl (lv_at hl 2 rfl) ?_
  refine lv_iload_n hx hb dL_feed_6 rfl (lv_at hl 3 rfl) ?_
  refine lv_iload hx hb dL_feed_7 (lv_at hl 4 rfl) ?_
  refine lv_iload hx hb dL_feed_9 (lv_at hl 5 rfl) ?_
  refine L_calli (As := [Iz ia, Iz ib, Iz ic, Iz id, Iz ie]) (rest := [.int 0, .ref q3]) ⟨hx, hb, hml, hown, hts⟩ (k11_feed (l := l) (dC := dC) (dI := dI) (cx := cx) (ia := ia) (ib := ib) (ic := ic) (id := id) (ie := ie) h_ar h_tx h_xp ia0 ia1 ib0 ib1 ic0 ic1 id0 id1 ie0 ie1) (cwV 5 hts (lgV w0S_c (w0S_m 9 rfl) (w0S_m 10 rfl) (w0S_m 11 rfl) (w0S_m 0 rfl) cc_X11_feed) rfl rfl rfl (by decide +kernel) ⟨Nat.le_of_ble_eq_true rfl, Nat.le_of_ble_eq_true rfl⟩) (L_preC hK hP hD hll (pW_x h_ar) _) hS hsub rfl hl.1 (Nat.le_of_ble_eq_true rfl) dL_feed_11 ⟨(show 0 + (cMc LB ll + 0) ≤ 90000 by omega), (show 0 + (2 * cMc LB ll + 0) ≤ 180000 by omega)⟩ (fun z H1 locs1 hz1 hz2 hk1 hS => ?_)
  obtain ⟨-, -, -, -, -, -, rfl⟩ := hz1
  have hP3 : va_P (dC, dI) ccl (oW cx q3 (fun _ => 0)) H1 := oW.kept hP3 (fun h => hk1 q3 h hno)
  refine g_i2l hx hb ⟨by decide, by decide⟩ dL_feed_14 ?_
  refine g_last (z := 0) hx hb hK hP3 (oW.d (A := sF n0 n1 q3 s.heap) (Or.inr (Or.inl rfl))) hS 0 1 rfl rfl (Int.le_refl 0) (by decide) (by decide) dL_feed_15 (fun H2 locs2 hP3 hD3 hS => ?_)
  have hP3 : va_P (dC, dI) ccl (oW cx q3 (iup (fun _ => 0) 0 20)) H2 := hP3
  refine lv_goto (tgt := 23) hx hb dL_feed_16 (by decide) ?_
  refine lv_iconst (v := Int32.ofInt 0) hx hb dL_feed_23 rfl ?_
  refine W.widen (k := 90000) (n := 180000) (by omega) (by omega) ?_
  exact W.iret (v := Int32.ofInt (0)) hx hb hr (fun t ht hW => ⟨⟨_, (iup (fun _ => 0) 0 20), rfl, ⟨_, rfl, ⟨rfl, rfl⟩⟩, by show va_P (dC, dI) ccl (oW cx q3 (iup (fun _ => 0) 0 20)) t.heap; rw [ht]; exact hP3⟩, hS.F ht⟩) hS.2.2 dL_feed_24
set_option maxHeartbeats 4000000 in
set_option maxRecDepth 100000 in
theorem kL_end {l : Launch} (hlt : l.stackTraces = false) {dC : Nat → ClassId} {dI : Nat → Nat → Nat} {cx : Nat → Nat} {n0 n1 h0 q3 : Nat} {mo : Int} {H0 : Heap} {ia : Int} (ia0 : -2147483648 ≤ ia) (ia1 : ia ≤ 2147483647) (hn : n1 ≤ q3) : Met l yL_end (Cond.codeWith yL_end cL_end 3 (some .int) [(0, 5, 8, 29)] :: w0S) sRm (sPc dC dI cx n0 n1 h0 mo q3 H0 [.ref h0, Iz ia]) (sQ dC dI cx q3 (sF n0 n1 q3 H0) (fun z v => z = (if ia = 0 then 0 else 1))) 90000 180000 (sF n0 n1 q3 H0) := by
  refine met_ofWH (cc := cL_end) (maxL := 3) (ret := some .int) (hh := [(0, 5, 8, 29)]) (by decide) rfl ?_
  intro p e s m args below meth c s₁ B hml htb hv
  obtain ⟨rfl, hH0, hF, hP3, hK, hC, hX, hY, hZ⟩ := hv
  have hx := B.exec
  have hb := B.bytes
  have hr := B.returns
  have hts := atoms_spec (ws := Cond.codeWith yL_end cL_end 3 (some .int) [(0, 5, 8, 29)] :: w0S) B.pre
  have hown : s.vm.findClass RL = some m.cls := findClass_of_methodNamed B.named
  have hlocks := B.notSynchronized
  subst hH0
  refine hF.elim (fun LB LP pc_ pd co X dd nn ss ll gg v cp vs nu tol pi_ ti_ fr stk t0 no pa s0 zo tx bu bv bw bs le rl rh ta tb tq tt tu tw tm ch ug uh uq ut uu ra rp rq xp xw xk xf xy xb hP hD hll hM h_ar h_fr mle h_nu h_tol hO hN h_s0 hU hTo hSt hNo h_ra h_rp h_rq nap naq_ npq h_ch hcp hcj mrl srl crl mrh srh crh mbu sbu cbu nlh hfc h_tx h_xp => ?_)
  have hq3 : q3 < s.heap.size := oW.lt hP3
  have hsub : ∀ q, va_A (bW (cx 0) LB dd nn ss ll gg (pW cx LP pc_ pd co X)) s.heap.size q → sF n0 n1 q3 s.heap q := fun q h => by
    rcases h with ⟨k, e0, h⟩ | h
    · exact Or.inl (hD.2 k _ h)
    · exact Or.inr (Or.inr h)
  have hno : ¬ va_A (bW (cx 0) LB dd nn ss ll gg (pW cx LP pc_ pd co X)) s.heap.size q3 := fun h => by
    rcases h with ⟨k, e0, h⟩ | h
    · have := (hD.2 k _ h).2; dsimp only at this; omega
    · omega
  have hS : va_S (sF n0 n1 q3 s.heap) s.heap s.heap [] := va_S.rf
  have hl := lv_entry ([.ref h0, Iz ia]) (n := 3) (Nat.le_of_ble_eq_true rfl)
  rw [lg_entry_eq]
  generalize (lg_sl ([.ref h0, Iz ia]) ++ List.replicate (3 - (lg_sl ([.ref h0, Iz ia])).length) Slot.unset).toArray = ls at hl ⊢
  have hl : lv_has ls 3 [(0, .ref h0), (1, Iz ia)] := hl
  refine lv_aload_n hx hb dL_end_0 rfl (lv_at hl 0 rfl) ?_
  refine lv_iload_n hx hb dL_end_1 rfl (lv_at hl 1 rfl) ?_
  by_cases hz : ia = 0
  · refine L_callv (As := [Iz ia]) (rest := []) ⟨hx, hb, hml, hown, hts⟩ (k11_end (l := l) (dC := dC) (dI := dI) (cx := cx) (ia := ia) h_ar h_tx hz ia0 ia1) (cwV 1 hts (lgV w0S_c (w0S_m 12 rfl) (w0S_m 13 rfl) (w0S_m 14 rfl) (w0S_m 0 rfl) cc_X11_end) rfl rfl rfl (by decide +kernel) ⟨Nat.le_of_ble_eq_true rfl, Nat.le_of_ble_eq_true rfl⟩) (L_preC hK hP hD hll (pW_x h_ar) _) hS hsub rfl hl.1 (Nat.le_of_ble_eq_true rfl) dL_end_2 ⟨(show 0 + (cMc LB ll + 0) ≤ 90000 by omega), (show 0 + (2 * cMc LB ll + 0) ≤ 180000 by omega)⟩ (fun H1 locs1 hz2 hk1 hS => ?_)
    have hP3 : va_P (dC, dI) ccl (oW cx q3 (fun _ => 0)) H1 := oW.kept hP3 (fun h => hk1 q3 h hno)
    refine lv_goto (tgt := 11) hx hb dL_end_5 (by decide) ?_
    refine lv_iconst (v := Int32.ofInt 0) hx hb dL_end_11 rfl ?_
    refine W.widen (k := 90000) (n := 180000) (by omega) (by omega) ?_
    exact W.iret (v := Int32.ofInt (0)) hx hb hr (fun t ht hW => ⟨⟨_, (fun _ => 0), rfl, ⟨_, rfl, (if_pos hz).symm⟩, by show va_P (dC, dI) ccl (oW cx q3 (fun _ => 0)) t.heap; rw [ht]; exact hP3⟩, hS.F ht⟩) hS.2.2 dL_end_12
  · refine vx_callv (vx_runV (As := [Iz ia]) (rest := []) ⟨hx, hb, hml, hown, hts⟩ (x11_end1 (ar := h0) (H0 := s.heap) (dC := dC) (dI := dI) (cx := cx) hlt ia0 ia1 hz) (cwV 1 hts (lgV w0S_c (w0S_m 12 rfl) (w0S_m 13 rfl) (w0S_m 14 rfl) (w0S_m 0 rfl) cc_X11_end) rfl rfl rfl (by decide +kernel) ⟨Nat.le_of_ble_eq_true rfl, Nat.le_of_ble_eq_true rfl⟩) ⟨fun a U g mk q => by obtain ⟨r0, r1, rP, rK, r2, r3⟩ := q; exact ⟨r0, r1, rP, va_K.moved (u := U) (U := U.calling g mk a) (Vm.Alike.refl U.vm) rK, CX.same (u := U) (U := U.calling g mk a) rfl r2, r3.to (u := U) (U := U.calling g mk a) (Vm.Alike.refl U.vm) (fun _ _ _ => rfl) (fun _ h => h)⟩, L_recv (q := (RX11, TX11, 20)) hK hP rfl (pW_x h_ar), fun U hU hW => ⟨rfl, hU, by rw [hU]; exact va_P_iff.mpr (fun q hq => (List.mem_cons.mp hq).elim (fun e1 => by rw [e1]; exact va_P_iff.mp hP _ (bW_x (pW_x h_ar))) (fun e1 => by rw [List.mem_singleton.mp e1]; exact va_P_iff.mp hP _ (bW_x (pW_x h_tx)))), va_K.moved hW.alike hK, CX.moved hW hX, by rw [hU]; exact hZ.to hW.alike (fun _ _ _ => rfl) (fun _ h => h)⟩⟩ rfl rfl hl.1 rfl (lv_room (Nat.le_of_ble_eq_true rfl)) dL_end_2 ⟨Nat.le_of_ble_eq_true rfl, Nat.le_of_ble_eq_true rfl⟩) hS (fun q h1 h2 => absurd h1 (Nat.not_lt.mpr h2)) (fun q h => Or.inr (Or.inr h)) (fun q h1 h2 => absurd h1 (Nat.not_lt.mpr h2)) (fun E ce q9 u t H1 locs1 ht hvm hu hE hz1 hk1 hS hce hcv hcl => ?_) (fun u t H1 locs1 ht hvm hw => hw.elim)
    subst hE
    refine vx_catch (name := "java/lang/IllegalArgumentException") hown [] ⟨0, 5, 8, 29⟩ [] (by rw [htb]; rfl) (fun z hz => nomatch hz) (by decide) (by decide) (hts _ (w0S_m 2 rfl)) (va_Nw.use rfl hY.2) hce hcv hcl ?_
    have hP3 : va_P (dC, dI) ccl (oW cx q3 (fun _ => 0)) H1 := oW.kept hP3 (fun h => hk1 q3 h (Nat.not_le.mpr hq3))
    refine lv_astore_n (lv' := [(2, .ref q9), (0, .ref h0), (1, Iz ia)]) hx hb dL_end_8 rfl hl (by decide) rfl (fun ls hl => ?_)
    refine lv_iconst (v := Int32.ofInt 1) hx hb dL_end_9 rfl ?_
    refine W.widen (k := 90000) (n := 180000) (by omega) (by omega) ?_
    exact W.iret (v := Int32.ofInt (1)) hx hb hr (fun t ht hW => ⟨⟨_, (fun _ => 0), rfl, ⟨_, rfl, (if_neg hz).symm⟩, by show va_P (dC, dI) ccl (oW cx q3 (fun _ => 0)) t.heap; rw [ht]; exact hP3⟩, hS.F ht⟩) hS.2.2 dL_end_10
end LStat
