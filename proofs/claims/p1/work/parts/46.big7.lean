/-- a row from a place on -/
def wn (f : Int → Int) (j : Int) : Int → Int := fun t => f (t + j)
theorem wn_iup_v {f : Int → Int} {i j d : Int} (i0 : 0 ≤ i) : kb_v (wn (iup f (i + j) d) j) (i + 1).toNat = kb_v (wn f j) i.toNat + d * 1073741824 ^ i.toNat := by
  rw [show (i + 1).toNat = i.toNat + 1 by omega]
  refine kb_v_up (fun t h0 h1 => ?_) ?_
  · unfold wn; rw [iup_ne (by omega)]
  · unfold wn; rw [Int.toNat_of_nonneg i0, iup_self]
theorem kb_v_next {g : Int → Int} {i : Int} (i0 : 0 ≤ i) : kb_v g (i + 1).toNat = kb_v g i.toNat + g i * 1073741824 ^ i.toNat := by
  rw [show (i + 1).toNat = i.toNat + 1 by omega]
  show kb_v g i.toNat + g ((i.toNat : Nat) : Int) * _ = _
  rw [Int.toNat_of_nonneg i0]
theorem pow_next {i : Int} (i0 : 0 ≤ i) : (1073741824 : Int) ^ (i + 1).toNat = 1073741824 ^ i.toNat * 1073741824 := by
  rw [show (i + 1).toNat = i.toNat + 1 by omega]
  exact kb_pow_succ _
theorem tk_step {f f0 Y : Int → Int} {i j G c bo m c' d bo' : Int} (i0 : 0 ≤ i) (e : kb_v (wn f j) i.toNat = kb_v (wn f0 j) i.toNat - G * kb_v Y i.toNat + (c + bo) * 1073741824 ^ i.toNat) (hm : m + c' * 1073741824 = G * Y i + c) (hd : d - bo' * 1073741824 = f0 (i + j) - m - bo) : kb_v (wn (iup f (i + j) d) j) (i + 1).toNat = kb_v (wn f0 j) (i + 1).toNat - G * kb_v Y (i + 1).toNat + (c' + bo') * 1073741824 ^ (i + 1).toNat := by
  rw [wn_iup_v i0, kb_v_next (g := wn f0 j) i0, kb_v_next (g := Y) i0, pow_next i0, e]
  have ew : wn f0 j i = f0 (i + j) := rfl
  rw [ew]
  generalize (1073741824 : Int) ^ i.toNat = P at *
  generalize kb_v (wn f0 j) i.toNat = K0 at *
  generalize kb_v Y i.toNat = K at *
  generalize Y i = y at *
  generalize f0 (i + j) = w at *
  clear e
  have h1 : d = w - m - bo + bo' * 1073741824 := by omega
  subst h1
  have h2 : m = G * y + c - c' * 1073741824 := by omega
  subst h2
  grind
theorem tk_end {f f0 Y : Int → Int} {n j G c bo d z V : Int} (n0 : 0 ≤ n) (e : kb_v (wn f j) n.toNat = kb_v (wn f0 j) n.toNat - G * kb_v Y n.toNat + (c + bo) * 1073741824 ^ n.toNat) (hV : kb_v Y n.toNat = V) (hd : d - z * 1073741824 = f0 (n + j) - c - bo) : kb_v (wn (iup f (n + j) d) j) (n + 1).toNat = kb_v (wn f0 j) (n + 1).toNat - G * V + z * 1073741824 ^ (n + 1).toNat := by
  rw [wn_iup_v n0, kb_v_next (g := wn f0 j) n0, pow_next n0, e, hV]
  have ew : wn f0 j n = f0 (n + j) := rfl
  rw [ew]
  generalize (1073741824 : Int) ^ n.toNat = P at *
  generalize kb_v (wn f0 j) n.toNat = K0 at *
  generalize f0 (n + j) = w at *
  clear e
  have h1 : d = w - c - bo + z * 1073741824 := by omega
  subst h1
  grind
theorem rs_step' {f f0 Y : Int → Int} {i j c d c' : Int} (i0 : 0 ≤ i) (e : kb_v (wn f j) i.toNat + c * 1073741824 ^ i.toNat = kb_v (wn f0 j) i.toNat + kb_v Y i.toNat) (hd : d + c' * 1073741824 = f0 (i + j) + Y i + c) : kb_v (wn (iup f (i + j) d) j) (i + 1).toNat + c' * 1073741824 ^ (i + 1).toNat = kb_v (wn f0 j) (i + 1).toNat + kb_v Y (i + 1).toNat := by
  rw [wn_iup_v i0, kb_v_next (g := wn f0 j) i0, kb_v_next (g := Y) i0, pow_next i0]
  have ew : wn f0 j i = f0 (i + j) := rfl
  rw [ew]
  generalize (1073741824 : Int) ^ i.toNat = P at *
  generalize kb_v (wn f0 j) i.toNat = K0 at *
  generalize kb_v (wn f j) i.toNat = K1 at *
  generalize kb_v Y i.toNat = K at *
  generalize Y i = y at *
  generalize f0 (i + j) = w at *
  have h1 : d = w + y + c - c' * 1073741824 := by omega
  subst h1
  grind
theorem kb_d_wn {f : Int → Int} {i j d : Int} (i0 : 0 ≤ i) (h : kb_d (wn f j) i.toNat) (d0 : 0 ≤ d) (d1 : d < 1073741824) : kb_d (wn (iup f (i + j) d) j) (i + 1).toNat := fun t h0 h1 => by
  unfold wn
  by_cases q : t = i
  · subst q; rw [iup_self]; exact ⟨d0, d1⟩
  · rw [iup_ne (by omega)]; exact h t h0 (by omega)
set_option maxHeartbeats 4000000 in
set_option maxRecDepth 100000 in
theorem k0_digit {l : Launch} {dC : Nat → ClassId} {dI : Nat → Nat → Nat} {cx : Nat → Nat} {LB : List Nat} {X : va_W} {dd : Nat → Nat} {nn ss : Nat → Int} {ll : Nat → Nat} {gg : Nat → Int → Int} {H0 : Heap} {b : Nat} {i sh Vb : Int} (mb : b ∈ LB) (NB : num1 (nn b) (ss b) (ll b) (gg b) Vb) (s0 : 0 ≤ sh) (s1 : sh < 30) (i0 : 0 ≤ i) (i1 : i < nn b) : Met l yX0_digit (Cond.code yX0_digit cX0_digit 3 (some .int) :: w0c) (cRm 0 0 LB ll) (cPc dC dI cx LB X dd nn ss ll gg H0 [.ref b, Iz (i), Iz (sh)]) (cQi dC dI cx LB (va_A (bW (cx 0) LB dd nn ss ll gg X) H0.size) ll H0 (fun z X' dd' nn' ss' ll' gg' => X' = X ∧ dd' = dd ∧ nn' = nn ∧ ss' = ss ∧ ll' = ll ∧ gg' = gg ∧ z = rdg (gg b) (nn b) (2 ^ (sh).toNat) (2 ^ (30 - sh).toNat) i)) (cMc LB ll) (2 * cMc LB ll) (va_A (bW (cx 0) LB dd nn ss ll gg X) H0.size) := by
  refine Met.ofW (cc := cX0_digit) (maxL := 3) (ret := (some .int)) (by decide) rfl ?_
  intro p e s m args below meth c s₁ B hml hv
  obtain ⟨rfl, hH0, hP, hK, hD0, hC0⟩ := hv
  have hx := B.exec
  have hb := B.bytes
  have hr := B.returns
  have hts := atoms_spec (ws := Cond.code yX0_digit cX0_digit 3 (some .int) :: w0c) B.pre
  have hown : s.vm.findClass RX0 = some m.cls := findClass_of_methodNamed B.named
  have hlocks := B.notSynchronized
  have E : CallFix p m c cX0_digit 3 s _ (Cond.code yX0_digit cX0_digit 3 (some .int) :: w0c) RX0 := ⟨hx, hb, hml, hown, hts⟩
  subst hH0
  have hD := va_D.self (sz := s.heap.size) hD0
  have hA : ∀ q : Nat, s.heap.size ≤ q → va_A (bW (cx 0) LB dd nn ss ll gg X) s.heap.size q := fun q h => Or.inr h
  have hV : cV dC dI cx LB (va_A (bW (cx 0) LB dd nn ss ll gg X) s.heap.size) s.heap ll X dd nn ss ll gg s.heap [] := ⟨hP, hD, va_S.rf, fun _ _ => Nat.le_refl _, hC0⟩
  have hR : (headSpec (Cond.code yX0_digit cX0_digit 3 (some .int) :: w0c) (cRm 0 0 LB ll)).room.cells = cMc LB ll ∧ (headSpec (Cond.code yX0_digit cX0_digit 3 (some .int) :: w0c) (cRm 0 0 LB ll)).room.slots = 2 * cMc LB ll := ⟨rfl, rfl⟩
  refine W.widen (k := cP LB ll - cP LB ll) (n := 2 * (cP LB ll - cP LB ll)) (Nat.zero_le _) (Nat.zero_le _) ?_
  have hl := lv_entry ([.ref b, Iz (i), Iz (sh)]) (n := 3) (Nat.le_of_ble_eq_true rfl)
  rw [lg_entry_eq]
  generalize (lg_sl ([.ref b, Iz (i), Iz (sh)]) ++ List.replicate (3 - (lg_sl ([.ref b, Iz (i), Iz (sh)])).length) Slot.unset).toArray = ls at hl ⊢
  have hl : lv_has ls 3 [(0, .ref b), (1, Iz (i)), (2, Iz (sh))] := hl
  obtain ⟨n0b, n1b, k5b, dgb, tpb, sgb, vlb⟩ := id NB
  have c4b := (hC0 b mb).2
  have hT := i_p2 sh.toNat
  have hU := i_p2 (30 - sh).toNat
  have hB := TU30 (r := sh) s0 (by omega)
  have hi_ := hi_bd (x := gg b i) hT hU hB
  refine lv_aload_n hx hb dX0_digit_0 rfl (lv_at hl 0 rfl) ?_
  refine t_getd E hK hV mb rfl cf_0_9 dX0_digit_1 ?_
  refine lv_iload_n hx hb dX0_digit_4 rfl (lv_at hl 1 rfl) ?_
  refine t_ald (z := i) (v := gg b i) hx hb hK hV mb rfl rfl rfl (by omega) (by omega) dX0_digit_5 ?_
  refine lv_iload_n hx hb dX0_digit_6 rfl (lv_at hl 2 rfl) ?_
  refine g_ishl hx hb (by omega) (by omega) dX0_digit_7 ?_
  refine lv_ldc (v := Int32.ofInt (1073741823)) hx hb hown (hts _ (List.mem_cons_of_mem _ ck_X0_59)) dX0_digit_8 ?_
  refine g_iand30 hx hb dX0_digit_10 ?_
  refine r_join (P := fun z : Int => z = (if 0 < i then ex (gg b) (nn b) (i - 1) else 0) / 2 ^ (30 - sh).toNat) (g := fun z => F0 m 32 ls [Iz z, Iz (((gg b i) * 2 ^ (sh).toNat) % 1073741824)]) (fun lo hlo => ?_) (fun k_32 => ?_)
  · skip
    have lo_ : 0 ≤ lo ∧ lo < 2 ^ sh.toNat := by
      rw [hlo]
      split
      · have e := ex_bd (n := nn b) (i := i - 1) dgb (by omega); exact lo_bd e.1 e.2 hU hB
      · rw [Int.zero_ediv]; omega
    refine g_ior hx hb (im_or' (k := sh.toNat) lo_.1 lo_.2 hi_.1 hi_.2.2 (by omega)) dX0_digit_32 ?_
    have hpost : X = X ∧ dd = dd ∧ nn = nn ∧ ss = ss ∧ ll = ll ∧ gg = gg ∧ ((((gg b i) * 2 ^ (sh).toNat) % 1073741824) + lo : Int) = rdg (gg b) (nn b) (2 ^ (sh).toNat) (2 ^ (30 - sh).toNat) i := ⟨rfl, rfl, rfl, rfl, rfl, rfl, by rw [hlo]; unfold rdg; rw [show ex (gg b) (nn b) i = gg b i from if_pos i1]⟩
    exact c_iret hx hb hr hK hV hpost dX0_digit_33 hlocks
  · skip
    refine lv_iload_n hx hb dX0_digit_11 rfl (lv_at hl 1 rfl) ?_
    refine g_if_le (tgt := 31) hx hb ⟨by omega, by omega⟩ dX0_digit_12 (by decide) (fun c_12 => ?_) (fun c_12 => ?_)
    · skip
      refine lv_iconst (v := Int32.ofInt (0)) hx hb dX0_digit_31 (by decide) ?_
      exact k_32 _ (by first | (rw [if_pos (by omega)]; unfold ex; rw [if_pos (by omega)]) | (rw [if_neg (by omega), Int.zero_ediv]))
    · skip
      refine lv_aload_n hx hb dX0_digit_15 rfl (lv_at hl 0 rfl) ?_
      refine t_getd E hK hV mb rfl cf_0_9 dX0_digit_16 ?_
      refine lv_iload_n hx hb dX0_digit_19 rfl (lv_at hl 1 rfl) ?_
      refine lv_iconst (v := Int32.ofInt (1)) hx hb dX0_digit_20 (by decide) ?_
      refine g_isub hx hb dX0_digit_21 ?_
      refine t_ald (z := (i - 1)) (v := gg b (i - 1)) hx hb hK hV mb rfl rfl rfl (by omega) (by omega) dX0_digit_22 ?_
      refine lv_bipush (v := Int32.ofInt (30)) hx hb dX0_digit_23 (by decide) ?_
      refine lv_iload_n hx hb dX0_digit_25 rfl (lv_at hl 2 rfl) ?_
      refine g_isub hx hb dX0_digit_26 ?_
      refine g_iushr hx hb (by have := (dgb (i - 1) (by omega) (by omega)).1; omega) (by have := (dgb (i - 1) (by omega) (by omega)).2; omega) (by omega) (by omega) dX0_digit_27 ?_
      refine lv_goto (tgt := 32) hx hb dX0_digit_28 (by decide) ?_
      exact k_32 _ (by first | (rw [if_pos (by omega)]; unfold ex; rw [if_pos (by omega)]) | (rw [if_neg (by omega), Int.zero_ediv]))
set_option maxHeartbeats 4000000 in
set_option maxRecDepth 100000 in
theorem k0_takes {l : Launch} {dC : Nat → ClassId} {dI : Nat → Nat → Nat} {cx : Nat → Nat} {LB : List Nat} {X : va_W} {dd : Nat → Nat} {nn ss : Nat → Int} {ll : Nat → Nat} {gg : Nat → Int → Int} {H0 : Heap} {h0 b : Nat} {j sh gs Vb VV : Int} (m0 : h0 ∈ LB) (mb : b ∈ LB) (NB : num1 (nn b) (ss b) (ll b) (gg b) Vb) (s0 : 0 ≤ sh) (s1 : sh < 30) (nb : h0 ≠ b) (j0 : 0 ≤ j) (j1 : j + nn b < ll h0) (wd : ∀ t : Int, j ≤ t → t ≤ j + nn b → 0 ≤ gg h0 t ∧ gg h0 t < 1073741824) (g0 : 0 ≤ gs) (g1 : gs < 1073741824) (eV : kb_v (rdg (gg b) (nn b) (2 ^ (sh).toNat) (2 ^ (30 - sh).toNat)) (nn b).toNat = VV) : Met l yX0_takes (Cond.code yX0_takes cX0_takes 16 (some .boolean) :: w0c) (cRm 0 0 LB ll) (cPc dC dI cx LB X dd nn ss ll gg H0 [.ref h0, .ref b, Jz (gs), Iz (sh), Iz (j)]) (cQi dC dI cx LB (va_A (bW (cx 0) LB dd nn ss ll gg X) H0.size) ll H0 (fun z X' dd' nn' ss' ll' gg' => X' = X ∧ dd' = dd ∧ nn' = nn ∧ ss' = ss ∧ ll' = ll ∧ ∃ f1 : Int → Int, gg' = va_up gg h0 f1 ∧ (∀ t : Int, t < j ∨ j + nn b < t → f1 t = gg h0 t) ∧ kb_d (wn f1 j) (nn b + 1).toNat ∧ (z = 0 ∨ z = 1) ∧ kb_v (wn f1 j) (nn b + 1).toNat = kb_v (wn (gg h0) j) (nn b + 1).toNat - gs * VV + z * 1073741824 ^ (nn b + 1).toNat)) (cMc LB ll) (2 * cMc LB ll) (va_A (bW (cx 0) LB dd nn ss ll gg X) H0.size) := by
  refine Met.ofW (cc := cX0_takes) (maxL := 16) (ret := (some .boolean)) (by decide) rfl ?_
  intro p e s m args below meth c s₁ B hml hv
  obtain ⟨rfl, hH0, hP, hK, hD0, hC0⟩ := hv
  have hx := B.exec
  have hb := B.bytes
  have hr := B.returns
  have hts := atoms_spec (ws := Cond.code yX0_takes cX0_takes 16 (some .boolean) :: w0c) B.pre
  have hown : s.vm.findClass RX0 = some m.cls := findClass_of_methodNamed B.named
  have hlocks := B.notSynchronized
  have E : CallFix p m c cX0_takes 16 s _ (Cond.code yX0_takes cX0_takes 16 (some .boolean) :: w0c) RX0 := ⟨hx, hb, hml, hown, hts⟩
  subst hH0
  have hD := va_D.self (sz := s.heap.size) hD0
  have hA : ∀ q : Nat, s.heap.size ≤ q → va_A (bW (cx 0) LB dd nn ss ll gg X) s.heap.size q := fun q h => Or.inr h
  have hV : cV dC dI cx LB (va_A (bW (cx 0) LB dd nn ss ll gg X) s.heap.size) s.heap ll X dd nn ss ll gg s.heap [] := ⟨hP, hD, va_S.rf, fun _ _ => Nat.le_refl _, hC0⟩
  have hR : (headSpec (Cond.code yX0_takes cX0_takes 16 (some .boolean) :: w0c) (cRm 0 0 LB ll)).room.cells = cMc LB ll ∧ (headSpec (Cond.code yX0_takes cX0_takes 16 (some .boolean) :: w0c) (cRm 0 0 LB ll)).room.slots = 2 * cMc LB ll := ⟨rfl, rfl⟩
  refine W.widen (k := cP LB ll - cP LB ll) (n := 2 * (cP LB ll - cP LB ll)) (Nat.zero_le _) (Nat.zero_le _) ?_
  have hl := lv_entry ([.ref h0, .ref b, Jz (gs), Iz (sh), Iz (j)]) (n := 16) (Nat.le_of_ble_eq_true rfl)
  rw [lg_entry_eq]
  generalize (lg_sl ([.ref h0, .ref b, Jz (gs), Iz (sh), Iz (j)]) ++ List.replicate (16 - (lg_sl ([.ref h0, .ref b, Jz (gs), Iz (sh), Iz (j)])).length) Slot.unset).toArray = ls at hl ⊢
  have hl : lv_has ls 16 [(0, .ref h0), (1, .ref b), (2, Jz (gs)), (4, Iz (sh)), (5, Iz (j))] := hl
  obtain ⟨n0b, n1b, k5b, dgb, tpb, sgb, vlb⟩ := id NB
  have c4b := (hC0 b mb).2
  have hT := i_p2 sh.toNat
  have hU := i_p2 (30 - sh).toNat
  have hB := TU30 (r := sh) s0 (by omega)
  have c4_ := (hC0 h0 m0)
  refine lv_lconst (v := Int64.ofInt 0) hx hb dX0_takes_0 rfl ?_
  refine lv_lstore (lv' := [(6, Jz (0)), (0, .ref h0), (1, .ref b), (2, Jz (gs)), (4, Iz (sh)), (5, Iz (j))]) hx hb dX0_takes_1 hl (by decide) rfl (fun ls hl => ?_)
  refine lv_iconst (v := Int32.ofInt (0)) hx hb dX0_takes_3 (by decide) ?_
  refine lv_istore (lv' := [(8, Iz (0)), (6, Jz (0)), (0, .ref h0), (1, .ref b), (2, Jz (gs)), (4, Iz (sh)), (5, Iz (j))]) hx hb dX0_takes_4 hl (by decide) rfl (fun ls hl => ?_)
  refine lv_iconst (v := Int32.ofInt (0)) hx hb dX0_takes_6 (by decide) ?_
  refine lv_istore (lv' := [(9, Iz (0)), (8, Iz (0)), (6, Jz (0)), (0, .ref h0), (1, .ref b), (2, Jz (gs)), (4, Iz (sh)), (5, Iz (j))]) hx hb dX0_takes_7 hl (by decide) rfl (fun ls hl => ?_)
  refine lv_aload_n hx hb dX0_takes_9 rfl (lv_at hl 4 rfl) ?_
  refine t_getn E hK hV mb rfl cf_0_13 dX0_takes_10 ?_
  refine lv_istore (lv' := [(10, Iz (nn b)), (9, Iz (0)), (8, Iz (0)), (6, Jz (0)), (0, .ref h0), (1, .ref b), (2, Jz (gs)), (4, Iz (sh)), (5, Iz (j))]) hx hb dX0_takes_13 hl (by decide) rfl (fun ls hl => ?_)
  refine lv_iconst (v := Int32.ofInt (0)) hx hb dX0_takes_15 (by decide) ?_
  refine lv_istore (lv' := [(11, Iz (0)), (10, Iz (nn b)), (9, Iz (0)), (8, Iz (0)), (6, Jz (0)), (0, .ref h0), (1, .ref b), (2, Jz (gs)), (4, Iz (sh)), (5, Iz (j))]) hx hb dX0_takes_16 hl (by decide) rfl (fun ls hl => ?_)
  have hV := cV_nor hV (va_up_id gg h0).symm
  refine r_loop (P := fun N_ H locs ls => ∃ f : Int → Int, ∃ cy : Int, ∃ be : Int, ∃ bo : Int, ∃ i : Int, N_ = (nn b - i).toNat ∧ (0 ≤ i) ∧ (i ≤ nn b) ∧ (0 ≤ cy) ∧ (cy < 1073741824) ∧ (0 ≤ bo) ∧ (bo ≤ 1) ∧ (be = (if 0 < i then ex (gg b) (nn b) (i - 1) else 0) / 2 ^ (30 - sh).toNat) ∧ (∀ t : Int, t < j ∨ j + i ≤ t → f t = gg h0 t) ∧ (kb_d (wn f j) i.toNat) ∧ (kb_v (wn f j) i.toNat = kb_v (wn (gg h0) j) i.toNat - gs * kb_v (rdg (gg b) (nn b) (2 ^ (sh).toNat) (2 ^ (30 - sh).toNat)) i.toNat + (cy + bo) * 1073741824 ^ i.toNat) ∧ cV dC dI cx LB (va_A (bW (cx 0) LB dd nn ss ll gg X) s.heap.size) s.heap ll X dd nn ss ll (va_up gg h0 f) H locs ∧ lv_has ls 16 [(0, .ref h0), (1, .ref b), (2, Jz (gs)), (4, Iz (sh)), (5, Iz (j)), (6, Jz (cy)), (8, Iz (be)), (9, Iz (bo)), (10, Iz (nn b)), (11, Iz (i))]) (g := fun ls => F0 m 18 ls []) (fun N_ H locs ls hI ih_18 => ?_) _ _ _ _ ⟨(gg h0), 0, 0, 0, 0, rfl, (Int.le_refl 0), (n0b), (Int.le_refl 0), (by omega), (Int.le_refl 0), (by omega), (by rw [if_neg (by omega), Int.zero_ediv]), (fun t _ => rfl), (kb_d_zero _), (by show (0 : Int) = 0 - gs * 0 + (0 + 0) * _; rw [Int.mul_zero, Int.add_zero, Int.zero_mul]; rfl), hV, lv_sub hl [5, 6, 7, 8, 9, 4, 3, 2, 1, 0] rfl⟩
  obtain ⟨f, cy, be, bo, i, rfl, i0, i1, cy0, cy1, b0_, b1_, hbe, ff, fd, fv, hV, hl⟩ := hI
  refine lv_iload hx hb dX0_takes_18 (lv_at hl 9 rfl) ?_
  refine lv_iload hx hb dX0_takes_20 (lv_at hl 8 rfl) ?_
  refine g_icmp_ge (tgt := 131) hx hb ⟨by omega, by omega⟩ ⟨by omega, by omega⟩ dX0_takes_22 (by decide) (fun c_22 => ?_) (fun c_22 => ?_)
  · skip
    have ei : i = nn b := by omega
    rw [ei] at fv fd ff
    have gr := wd (nn b + j) (by omega) (by omega)
    have fo := ff (nn b + j) (by omega)
    refine lv_aload_n hx hb dX0_takes_131 rfl (lv_at hl 0 rfl) ?_
    refine t_getd E hK hV m0 rfl cf_0_9 dX0_takes_132 ?_
    refine lv_iload hx hb dX0_takes_135 (lv_at hl 8 rfl) ?_
    refine lv_iload hx hb dX0_takes_137 (lv_at hl 4 rfl) ?_
    refine g_iadd hx hb dX0_takes_139 ?_
    refine t_ald (z := ((nn b) + j)) (v := f ((nn b) + j)) hx hb hK hV m0 rfl (congrFun (va_up_self _ _ _) _) rfl (by omega) (by omega) dX0_takes_140 ?_
    refine lv_lload hx hb dX0_takes_141 (lv_at hl 5 rfl) ?_
    refine g_l2i hx hb dX0_takes_143 ?_
    refine g_isub hx hb dX0_takes_144 ?_
    refine lv_iload hx hb dX0_takes_145 (lv_at hl 7 rfl) ?_
    refine g_isub hx hb dX0_takes_147 ?_
    refine lv_istore (lv' := [(11, Iz (((f ((nn b) + j)) - cy) - bo)), (0, .ref h0), (1, .ref b), (2, Jz (gs)), (4, Iz (sh)), (5, Iz (j)), (6, Jz (cy)), (8, Iz (be)), (9, Iz (bo)), (10, Iz (nn b))]) hx hb dX0_takes_148 hl (by decide) rfl (fun ls hl => ?_)
    refine lv_aload_n hx hb dX0_takes_150 rfl (lv_at hl 1 rfl) ?_
    refine t_getd E hK hV m0 rfl cf_0_9 dX0_takes_151 ?_
    refine lv_iload hx hb dX0_takes_154 (lv_at hl 9 rfl) ?_
    refine lv_iload hx hb dX0_takes_156 (lv_at hl 5 rfl) ?_
    refine g_iadd hx hb dX0_takes_158 ?_
    refine lv_iload hx hb dX0_takes_159 (lv_at hl 0 rfl) ?_
    refine lv_ldc (v := Int32.ofInt (1073741823)) hx hb hown (hts _ (List.mem_cons_of_mem _ ck_X0_59)) dX0_takes_161 ?_
    refine g_iand30 hx hb dX0_takes_163 ?_
    refine t_ast (z := ((nn b) + j)) (v := ((((f ((nn b) + j)) - cy) - bo) % 1073741824)) (gf := (va_up gg h0 (iup f ((nn b) + j) ((((f ((nn b) + j)) - cy) - bo) % 1073741824)))) hx hb hK hV m0 rfl ((congrArg (fun q => va_up (va_up gg h0 f) h0 (iup q ((nn b) + j) ((((f ((nn b) + j)) - cy) - bo) % 1073741824))) (va_up_self _ _ _)).trans (va_up_up _ _ _ _)) rfl (by omega) (by omega) dX0_takes_164 (fun H locs hV => ?_)
    refine lv_iload hx hb dX0_takes_165 (lv_at hl 0 rfl) ?_
    refine g_if_ge (tgt := 174) hx hb ⟨by omega, by omega⟩ dX0_takes_167 (by decide) (fun c_167 => ?_) (fun c_167 => ?_)
    · skip
      refine lv_iconst (v := Int32.ofInt (0)) hx hb dX0_takes_174 (by decide) ?_
      have hpost : X = X ∧ dd = dd ∧ nn = nn ∧ ss = ss ∧ ll = ll ∧ ∃ f1 : Int → Int, (va_up gg h0 (iup f ((nn b) + j) ((((f ((nn b) + j)) - cy) - bo) % 1073741824))) = va_up gg h0 f1 ∧ (∀ t : Int, t < j ∨ j + nn b < t → f1 t = gg h0 t) ∧ kb_d (wn f1 j) (nn b + 1).toNat ∧ ((0 : Int) = 0 ∨ (0 : Int) = 1) ∧ kb_v (wn f1 j) (nn b + 1).toNat = kb_v (wn (gg h0) j) (nn b + 1).toNat - gs * VV + (0 : Int) * 1073741824 ^ (nn b + 1).toNat := ⟨rfl, rfl, rfl, rfl, rfl, _, rfl, fun t q => by rw [iup_ne (by omega)]; exact ff t (by omega), kb_d_wn n0b fd (by omega) (by omega), by omega, tk_end n0b fv eV (by rw [← fo]; omega)⟩
      exact c_zret hx hb hr hK hV rfl hpost dX0_takes_175 hlocks
    · skip
      refine lv_iconst (v := Int32.ofInt (1)) hx hb dX0_takes_170 (by decide) ?_
      refine lv_goto (tgt := 175) hx hb dX0_takes_171 (by decide) ?_
      have hpost : X = X ∧ dd = dd ∧ nn = nn ∧ ss = ss ∧ ll = ll ∧ ∃ f1 : Int → Int, (va_up gg h0 (iup f ((nn b) + j) ((((f ((nn b) + j)) - cy) - bo) % 1073741824))) = va_up gg h0 f1 ∧ (∀ t : Int, t < j ∨ j + nn b < t → f1 t = gg h0 t) ∧ kb_d (wn f1 j) (nn b + 1).toNat ∧ ((1 : Int) = 0 ∨ (1 : Int) = 1) ∧ kb_v (wn f1 j) (nn b + 1).toNat = kb_v (wn (gg h0) j) (nn b + 1).toNat - gs * VV + (1 : Int) * 1073741824 ^ (nn b + 1).toNat := ⟨rfl, rfl, rfl, rfl, rfl, _, rfl, fun t q => by rw [iup_ne (by omega)]; exact ff t (by omega), kb_d_wn n0b fd (by omega) (by omega), by omega, tk_end n0b fv eV (by rw [← fo]; omega)⟩
      exact c_zret hx hb hr hK hV rfl hpost dX0_takes_175 hlocks
  · skip
    have hi_ := hi_bd (x := gg b i) hT hU hB
    have be_ : 0 ≤ be ∧ be < 2 ^ sh.toNat := by
      rw [hbe]
      split
      · have e := ex_bd (n := nn b) (i := i - 1) dgb (by omega); exact lo_bd e.1 e.2 hU hB
      · rw [Int.zero_ediv]; omega
    have gr := wd (i + j) (by omega) (by omega)
    have fo := ff (i + j) (by omega)
    refine lv_aload_n hx hb dX0_takes_25 rfl (lv_at hl 1 rfl) ?_
    refine t_getd E hK hV mb rfl cf_0_9 dX0_takes_26 ?_
    refine lv_iload hx hb dX0_takes_29 (lv_at hl 9 rfl) ?_
    refine t_ald (z := i) (v := gg b i) hx hb hK hV mb rfl (congrFun ((va_up_ne _ _ (Ne.symm nb)).trans rfl) _) rfl (by omega) (by omega) dX0_takes_31 ?_
    refine lv_iload hx hb dX0_takes_32 (lv_at hl 3 rfl) ?_
    refine g_ishl hx hb (by omega) (by omega) dX0_takes_34 ?_
    refine lv_ldc (v := Int32.ofInt (1073741823)) hx hb hown (hts _ (List.mem_cons_of_mem _ ck_X0_59)) dX0_takes_35 ?_
    refine g_iand30 hx hb dX0_takes_37 ?_
    refine lv_iload hx hb dX0_takes_38 (lv_at hl 6 rfl) ?_
    refine g_ior hx hb (im_or' (k := sh.toNat) be_.1 be_.2 hi_.1 hi_.2.2 (by omega)) dX0_takes_40 ?_
    obtain ⟨y, ey⟩ : ∃ y : Int, y = ((((gg b i) * 2 ^ (sh).toNat) % 1073741824) + be) := ⟨_, rfl⟩
    rw [← ey]
    have ey2 : y = rdg (gg b) (nn b) (2 ^ (sh).toNat) (2 ^ (30 - sh).toNat) i := by rw [ey, hbe]; unfold rdg; rw [show ex (gg b) (nn b) i = gg b i from if_pos (by omega)]
    have yb := rdg_bd (g := gg b) (n := nn b) dgb s0 s1 i0
    rw [← ey2] at yb
    refine lv_istore (lv' := [(12, Iz (y)), (0, .ref h0), (1, .ref b), (2, Jz (gs)), (4, Iz (sh)), (5, Iz (j)), (6, Jz (cy)), (8, Iz (be)), (9, Iz (bo)), (10, Iz (nn b)), (11, Iz (i))]) hx hb dX0_takes_41 hl (by decide) rfl (fun ls hl => ?_)
    refine lv_aload_n hx hb dX0_takes_43 rfl (lv_at hl 2 rfl) ?_
    refine t_getd E hK hV mb rfl cf_0_9 dX0_takes_44 ?_
    refine lv_iload hx hb dX0_takes_47 (lv_at hl 10 rfl) ?_
    refine t_ald (z := i) (v := gg b i) hx hb hK hV mb rfl (congrFun ((va_up_ne _ _ (Ne.symm nb)).trans rfl) _) rfl (by omega) (by omega) dX0_takes_49 ?_
    refine lv_bipush (v := Int32.ofInt (30)) hx hb dX0_takes_50 (by decide) ?_
    refine lv_iload hx hb dX0_takes_52 (lv_at hl 4 rfl) ?_
    refine g_isub hx hb dX0_takes_54 ?_
    refine g_iushr hx hb (by have := (dgb i (by omega) (by omega)).1; omega) (by have := (dgb i (by omega) (by omega)).2; omega) (by omega) (by omega) dX0_takes_55 ?_
    refine lv_istore (lv' := [(8, Iz ((gg b i) / 2 ^ (30 - sh).toNat)), (12, Iz (y)), (0, .ref h0), (1, .ref b), (2, Jz (gs)), (4, Iz (sh)), (5, Iz (j)), (6, Jz (cy)), (9, Iz (bo)), (10, Iz (nn b)), (11, Iz (i))]) hx hb dX0_takes_56 hl (by decide) rfl (fun ls hl => ?_)
    refine lv_lload_n hx hb dX0_takes_58 rfl (lv_at hl 4 rfl) ?_
    refine lv_iload hx hb dX0_takes_59 (lv_at hl 1 rfl) ?_
    refine g_i2l hx hb ⟨by omega, by omega⟩ dX0_takes_61 ?_
    have mr := mulB g0 g1 yb.1 yb.2
    refine g_lmul hx hb dX0_takes_62 ?_
    refine lv_lload hx hb dX0_takes_63 (lv_at hl 7 rfl) ?_
    refine g_ladd hx hb dX0_takes_65 ?_
    refine lv_lstore (lv' := [(13, Jz ((gs * y) + cy)), (8, Iz ((gg b i) / 2 ^ (30 - sh).toNat)), (12, Iz (y)), (0, .ref h0), (1, .ref b), (2, Jz (gs)), (4, Iz (sh)), (5, Iz (j)), (6, Jz (cy)), (9, Iz (bo)), (10, Iz (nn b)), (11, Iz (i))]) hx hb dX0_takes_66 hl (by decide) rfl (fun ls hl => ?_)
    refine lv_lload hx hb dX0_takes_68 (lv_at hl 0 rfl) ?_
    refine lv_bipush (v := Int32.ofInt (30)) hx hb dX0_takes_70 (by decide) ?_
    refine g_lushr hx hb (by omega) (by omega) (by omega) (by omega) dX0_takes_72 ?_
    rw [show (2 : Int) ^ (30 : Int).toNat = 1073741824 from rfl]
    refine lv_lstore (lv' := [(6, Jz (((gs * y) + cy) / 1073741824)), (13, Jz ((gs * y) + cy)), (8, Iz ((gg b i) / 2 ^ (30 - sh).toNat)), (12, Iz (y)), (0, .ref h0), (1, .ref b), (2, Jz (gs)), (4, Iz (sh)), (5, Iz (j)), (9, Iz (bo)), (10, Iz (nn b)), (11, Iz (i))]) hx hb dX0_takes_73 hl (by decide) rfl (fun ls hl => ?_)
    refine lv_aload_n hx hb dX0_takes_75 rfl (lv_at hl 4 rfl) ?_
    refine t_getd E hK hV m0 rfl cf_0_9 dX0_takes_76 ?_
    refine lv_iload hx hb dX0_takes_79 (lv_at hl 11 rfl) ?_
    refine lv_iload hx hb dX0_takes_81 (lv_at hl 8 rfl) ?_
    refine g_iadd hx hb dX0_takes_83 ?_
    refine t_ald (z := (i + j)) (v := f (i + j)) hx hb hK hV m0 rfl (congrFun (va_up_self _ _ _) _) rfl (by omega) (by omega) dX0_takes_84 ?_
    refine lv_lload hx hb dX0_takes_85 (lv_at hl 1 rfl) ?_
    refine lv_ldc2 (v := Int64.ofInt (1073741823)) hx hb hown (hts _ (List.mem_cons_of_mem _ cj_X0_20)) dX0_takes_87 ?_
    refine g_land30 hx hb dX0_takes_90 ?_
    refine g_l2i hx hb dX0_takes_91 ?_
    refine g_isub hx hb dX0_takes_92 ?_
    refine lv_iload hx hb dX0_takes_93 (lv_at hl 9 rfl) ?_
    refine g_isub hx hb dX0_takes_95 ?_
    refine lv_istore (lv' := [(15, Iz (((f (i + j)) - (((gs * y) + cy) % 1073741824)) - bo)), (6, Jz (((gs * y) + cy) / 1073741824)), (13, Jz ((gs * y) + cy)), (8, Iz ((gg b i) / 2 ^ (30 - sh).toNat)), (12, Iz (y)), (0, .ref h0), (1, .ref b), (2, Jz (gs)), (4, Iz (sh)), (5, Iz (j)), (9, Iz (bo)), (10, Iz (nn b)), (11, Iz (i))]) hx hb dX0_takes_96 hl (by decide) rfl (fun ls hl => ?_)
    refine lv_iload hx hb dX0_takes_98 (lv_at hl 0 rfl) ?_
    refine g_if_ge (tgt := 107) hx hb ⟨by omega, by omega⟩ dX0_takes_100 (by decide) (fun c_100 => ?_) (fun c_100 => ?_)
    · skip
      refine lv_iconst (v := Int32.ofInt (0)) hx hb dX0_takes_107 (by decide) ?_
      refine lv_istore (lv' := [(9, Iz (0)), (15, Iz (((f (i + j)) - (((gs * y) + cy) % 1073741824)) - bo)), (6, Jz (((gs * y) + cy) / 1073741824)), (13, Jz ((gs * y) + cy)), (8, Iz ((gg b i) / 2 ^ (30 - sh).toNat)), (12, Iz (y)), (0, .ref h0), (1, .ref b), (2, Jz (gs)), (4, Iz (sh)), (5, Iz (j)), (10, Iz (nn b)), (11, Iz (i))]) hx hb dX0_takes_108 hl (by decide) rfl (fun ls hl => ?_)
      refine lv_aload_n hx hb dX0_takes_110 rfl (lv_at hl 6 rfl) ?_
      refine t_getd E hK hV m0 rfl cf_0_9 dX0_takes_111 ?_
      refine lv_iload hx hb dX0_takes_114 (lv_at hl 12 rfl) ?_
      refine lv_iload hx hb dX0_takes_116 (lv_at hl 10 rfl) ?_
      refine g_iadd hx hb dX0_takes_118 ?_
      refine lv_iload hx hb dX0_takes_119 (lv_at hl 1 rfl) ?_
      refine lv_ldc (v := Int32.ofInt (1073741823)) hx hb hown (hts _ (List.mem_cons_of_mem _ ck_X0_59)) dX0_takes_121 ?_
      refine g_iand30 hx hb dX0_takes_123 ?_
      refine t_ast (z := (i + j)) (v := ((((f (i + j)) - (((gs * y) + cy) % 1073741824)) - bo) % 1073741824)) (gf := (va_up gg h0 (iup f (i + j) ((((f (i + j)) - (((gs * y) + cy) % 1073741824)) - bo) % 1073741824)))) hx hb hK hV m0 rfl ((congrArg (fun q => va_up (va_up gg h0 f) h0 (iup q (i + j) ((((f (i + j)) - (((gs * y) + cy) % 1073741824)) - bo) % 1073741824))) (va_up_self _ _ _)).trans (va_up_up _ _ _ _)) rfl (by omega) (by omega) dX0_takes_124 (fun H locs hV => ?_)
      refine g_iinc (k := 12) (z := i) (n := (1)) (lv' := [(11, Iz (i + 1)), (9, Iz (0)), (15, Iz (((f (i + j)) - (((gs * y) + cy) % 1073741824)) - bo)), (6, Jz (((gs * y) + cy) / 1073741824)), (13, Jz ((gs * y) + cy)), (8, Iz ((gg b i) / 2 ^ (30 - sh).toNat)), (12, Iz (y)), (0, .ref h0), (1, .ref b), (2, Jz (gs)), (4, Iz (sh)), (5, Iz (j)), (10, Iz (nn b))]) hx hb dX0_takes_125 hl rfl (by decide) rfl (fun ls hl => ?_)
      refine lv_goto (tgt := 18) hx hb dX0_takes_128 (by decide) ?_
      exact ih_18 _ (by omega) _ _ _ ⟨(iup f (i + j) ((((f (i + j)) - (((gs * y) + cy) % 1073741824)) - bo) % 1073741824)), (((gs * y) + cy) / 1073741824), ((gg b i) / 2 ^ (30 - sh).toNat), 0, (i + 1), rfl, (by omega), (by omega), (by omega), (by omega), (by omega), (by omega), (by rw [if_pos (by omega), show i + 1 - 1 = i by omega, show ex (gg b) (nn b) i = gg b i from if_pos (by omega)]), (fun t q => by rw [iup_ne (by omega)]; exact ff t (by omega)), (kb_d_wn i0 fd (by omega) (by omega)), (tk_step (m := (gs * y + cy) % 1073741824) i0 fv (by rw [← ey2]; omega) (by rw [← fo]; omega)), hV, lv_sub hl [7, 8, 9, 10, 11, 3, 5, 1, 12, 0] rfl⟩
    · skip
      refine lv_iconst (v := Int32.ofInt (1)) hx hb dX0_takes_103 (by decide) ?_
      refine lv_goto (tgt := 108) hx hb dX0_takes_104 (by decide) ?_
      refine lv_istore (lv' := [(9, Iz (1)), (15, Iz (((f (i + j)) - (((gs * y) + cy) % 1073741824)) - bo)), (6, Jz (((gs * y) + cy) / 1073741824)), (13, Jz ((gs * y) + cy)), (8, Iz ((gg b i) / 2 ^ (30 - sh).toNat)), (12, Iz (y)), (0, .ref h0), (1, .ref b), (2, Jz (gs)), (4, Iz (sh)), (5, Iz (j)), (10, Iz (nn b)), (11, Iz (i))]) hx hb dX0_takes_108 hl (by decide) rfl (fun ls hl => ?_)
      refine lv_aload_n hx hb dX0_takes_110 rfl (lv_at hl 6 rfl) ?_
      refine t_getd E hK hV m0 rfl cf_0_9 dX0_takes_111 ?_
      refine lv_iload hx hb dX0_takes_114 (lv_at hl 12 rfl) ?_
      refine lv_iload hx hb dX0_takes_116 (lv_at hl 10 rfl) ?_
      refine g_iadd hx hb dX0_takes_118 ?_
      refine lv_iload hx hb dX0_takes_119 (lv_at hl 1 rfl) ?_
      refine lv_ldc (v := Int32.ofInt (1073741823)) hx hb hown (hts _ (List.mem_cons_of_mem _ ck_X0_59)) dX0_takes_121 ?_
      refine g_iand30 hx hb dX0_takes_123 ?_
      refine t_ast (z := (i + j)) (v := ((((f (i + j)) - (((gs * y) + cy) % 1073741824)) - bo) % 1073741824)) (gf := (va_up gg h0 (iup f (i + j) ((((f (i + j)) - (((gs * y) + cy) % 1073741824)) - bo) % 1073741824)))) hx hb hK hV m0 rfl ((congrArg (fun q => va_up (va_up gg h0 f) h0 (iup q (i + j) ((((f (i + j)) - (((gs * y) + cy) % 1073741824)) - bo) % 1073741824))) (va_up_self _ _ _)).trans (va_up_up _ _ _ _)) rfl (by omega) (by omega) dX0_takes_124 (fun H locs hV => ?_)
      refine g_iinc (k := 12) (z := i) (n := (1)) (lv' := [(11, Iz (i + 1)), (9, Iz (1)), (15, Iz (((f (i + j)) - (((gs * y) + cy) % 1073741824)) - bo)), (6, Jz (((gs * y) + cy) / 1073741824)), (13, Jz ((gs * y) + cy)), (8, Iz ((gg b i) / 2 ^ (30 - sh).toNat)), (12, Iz (y)), (0, .ref h0), (1, .ref b), (2, Jz (gs)), (4, Iz (sh)), (5, Iz (j)), (10, Iz (nn b))]) hx hb dX0_takes_125 hl rfl (by decide) rfl (fun ls hl => ?_)
      refine lv_goto (tgt := 18) hx hb dX0_takes_128 (by decide) ?_
      exact ih_18 _ (by omega) _ _ _ ⟨(iup f (i + j) ((((f (i + j)) - (((gs * y) + cy) % 1073741824)) - bo) % 1073741824)), (((gs * y) + cy) / 1073741824), ((gg b i) / 2 ^ (30 - sh).toNat), 1, (i + 1), rfl, (by omega), (by omega), (by omega), (by omega), (by omega), (by omega), (by rw [if_pos (by omega), show i + 1 - 1 = i by omega, show ex (gg b) (nn b) i = gg b i from if_pos (by omega)]), (fun t q => by rw [iup_ne (by omega)]; exact ff t (by omega)), (kb_d_wn i0 fd (by omega) (by omega)), (tk_step (m := (gs * y + cy) % 1073741824) i0 fv (by rw [← ey2]; omega) (by rw [← fo]; omega)), hV, lv_sub hl [7, 8, 9, 10, 11, 3, 5, 1, 12, 0] rfl⟩
set_option maxHeartbeats 4000000 in
set_option maxRecDepth 100000 in
theorem k0_restore {l : Launch} {dC : Nat → ClassId} {dI : Nat → Nat → Nat} {cx : Nat → Nat} {LB : List Nat} {X : va_W} {dd : Nat → Nat} {nn ss : Nat → Int} {ll : Nat → Nat} {gg : Nat → Int → Int} {H0 : Heap} {h0 b : Nat} {j sh Vb VV : Int} (m0 : h0 ∈ LB) (mb : b ∈ LB) (NB : num1 (nn b) (ss b) (ll b) (gg b) Vb) (s0 : 0 ≤ sh) (s1 : sh < 30) (nb : h0 ≠ b) (j0 : 0 ≤ j) (j1 : j + nn b < ll h0) (wd : ∀ t : Int, j ≤ t → t ≤ j + nn b → 0 ≤ gg h0 t ∧ gg h0 t < 1073741824) (eV : kb_v (rdg (gg b) (nn b) (2 ^ (sh).toNat) (2 ^ (30 - sh).toNat)) (nn b).toNat = VV) : Met l yX0_restore (Cond.code yX0_restore cX0_restore 9 none :: w0c) (cRm 0 0 LB ll) (cPc dC dI cx LB X dd nn ss ll gg H0 [.ref h0, .ref b, Iz (sh), Iz (j)]) (cQv dC dI cx LB (va_A (bW (cx 0) LB dd nn ss ll gg X) H0.size) ll H0 (fun X' dd' nn' ss' ll' gg' => X' = X ∧ dd' = dd ∧ nn' = nn ∧ ss' = ss ∧ ll' = ll ∧ ∃ (f1 : Int → Int) (cc : Int), gg' = va_up gg h0 f1 ∧ (∀ t : Int, t < j ∨ j + nn b < t → f1 t = gg h0 t) ∧ kb_d (wn f1 j) (nn b + 1).toNat ∧ (cc = 0 ∨ cc = 1) ∧ kb_v (wn f1 j) (nn b + 1).toNat = kb_v (wn (gg h0) j) (nn b + 1).toNat + VV - cc * 1073741824 ^ (nn b + 1).toNat)) (cMc LB ll) (2 * cMc LB ll) (va_A (bW (cx 0) LB dd nn ss ll gg X) H0.size) := by
  refine Met.ofW (cc := cX0_restore) (maxL := 9) (ret := none) (by decide) rfl ?_
  intro p e s m args below meth c s₁ B hml hv
  obtain ⟨rfl, hH0, hP, hK, hD0, hC0⟩ := hv
  have hx := B.exec
  have hb := B.bytes
  have hr := B.returns
  have hts := atoms_spec (ws := Cond.code yX0_restore cX0_restore 9 none :: w0c) B.pre
  have hown : s.vm.findClass RX0 = some m.cls := findClass_of_methodNamed B.named
  have hlocks := B.notSynchronized
  have E : CallFix p m c cX0_restore 9 s _ (Cond.code yX0_restore cX0_restore 9 none :: w0c) RX0 := ⟨hx, hb, hml, hown, hts⟩
  subst hH0
  have hD := va_D.self (sz := s.heap.size) hD0
  have hA : ∀ q : Nat, s.heap.size ≤ q → va_A (bW (cx 0) LB dd nn ss ll gg X) s.heap.size q := fun q h => Or.inr h
  have hV : cV dC dI cx LB (va_A (bW (cx 0) LB dd nn ss ll gg X) s.heap.size) s.heap ll X dd nn ss ll gg s.heap [] := ⟨hP, hD, va_S.rf, fun _ _ => Nat.le_refl _, hC0⟩
  have hR : (headSpec (Cond.code yX0_restore cX0_restore 9 none :: w0c) (cRm 0 0 LB ll)).room.cells = cMc LB ll ∧ (headSpec (Cond.code yX0_restore cX0_restore 9 none :: w0c) (cRm 0 0 LB ll)).room.slots = 2 * cMc LB ll := ⟨rfl, rfl⟩
  refine W.widen (k := cP LB ll - cP LB ll) (n := 2 * (cP LB ll - cP LB ll)) (Nat.zero_le _) (Nat.zero_le _) ?_
  have hl := lv_entry ([.ref h0, .ref b, Iz (sh), Iz (j)]) (n := 9) (Nat.le_of_ble_eq_true rfl)
  rw [lg_entry_eq]
  generalize (lg_sl ([.ref h0, .ref b, Iz (sh), Iz (j)]) ++ List.replicate (9 - (lg_sl ([.ref h0, .ref b, Iz (sh), Iz (j)])).length) Slot.unset).toArray = ls at hl ⊢
  have hl : lv_has ls 9 [(0, .ref h0), (1, .ref b), (2, Iz (sh)), (3, Iz (j))] := hl
  obtain ⟨n0b, n1b, k5b, dgb, tpb, sgb, vlb⟩ := id NB
  have c4b := (hC0 b mb).2
  have hT := i_p2 sh.toNat
  have hU := i_p2 (30 - sh).toNat
  have hB := TU30 (r := sh) s0 (by omega)
  have c4_ := (hC0 h0 m0)
  refine lv_iconst (v := Int32.ofInt (0)) hx hb dX0_restore_0 (by decide) ?_
  refine lv_istore (lv' := [(4, Iz (0)), (0, .ref h0), (1, .ref b), (2, Iz (sh)), (3, Iz (j))]) hx hb dX0_restore_1 hl (by decide) rfl (fun ls hl => ?_)
  refine lv_iconst (v := Int32.ofInt (0)) hx hb dX0_restore_3 (by decide) ?_
  refine lv_istore (lv' := [(5, Iz (0)), (4, Iz (0)), (0, .ref h0), (1, .ref b), (2, Iz (sh)), (3, Iz (j))]) hx hb dX0_restore_4 hl (by decide) rfl (fun ls hl => ?_)
  refine lv_aload_n hx hb dX0_restore_6 rfl (lv_at hl 3 rfl) ?_
  refine t_getn E hK hV mb rfl cf_0_13 dX0_restore_7 ?_
  refine lv_istore (lv' := [(6, Iz (nn b)), (5, Iz (0)), (4, Iz (0)), (0, .ref h0), (1, .ref b), (2, Iz (sh)), (3, Iz (j))]) hx hb dX0_restore_10 hl (by decide) rfl (fun ls hl => ?_)
  refine lv_iconst (v := Int32.ofInt (0)) hx hb dX0_restore_12 (by decide) ?_
  refine lv_istore (lv' := [(7, Iz (0)), (6, Iz (nn b)), (5, Iz (0)), (4, Iz (0)), (0, .ref h0), (1, .ref b), (2, Iz (sh)), (3, Iz (j))]) hx hb dX0_restore_13 hl (by decide) rfl (fun ls hl => ?_)
  have hV := cV_nor hV (va_up_id gg h0).symm
  refine r_loop (P := fun N_ H locs ls => ∃ f : Int → Int, ∃ cy : Int, ∃ be : Int, ∃ i : Int, N_ = (nn b - i).toNat ∧ (0 ≤ i) ∧ (i ≤ nn b) ∧ (0 ≤ cy) ∧ (cy ≤ 1) ∧ (be = (if 0 < i then ex (gg b) (nn b) (i - 1) else 0) / 2 ^ (30 - sh).toNat) ∧ (∀ t : Int, t < j ∨ j + i ≤ t → f t = gg h0 t) ∧ (kb_d (wn f j) i.toNat) ∧ (kb_v (wn f j) i.toNat + cy * 1073741824 ^ i.toNat = kb_v (wn (gg h0) j) i.toNat + kb_v (rdg (gg b) (nn b) (2 ^ (sh).toNat) (2 ^ (30 - sh).toNat)) i.toNat) ∧ cV dC dI cx LB (va_A (bW (cx 0) LB dd nn ss ll gg X) s.heap.size) s.heap ll X dd nn ss ll (va_up gg h0 f) H locs ∧ lv_has ls 9 [(0, .ref h0), (1, .ref b), (2, Iz (sh)), (3, Iz (j)), (4, Iz (cy)), (5, Iz (be)), (6, Iz (nn b)), (7, Iz (i))]) (g := fun ls => F0 m 15 ls []) (fun N_ H locs ls hI ih_15 => ?_) _ _ _ _ ⟨(gg h0), 0, 0, 0, rfl, (Int.le_refl 0), (n0b), (Int.le_refl 0), (by omega), (by rw [if_neg (by omega), Int.zero_ediv]), (fun t _ => rfl), (kb_d_zero _), (rfl), hV, lv_sub hl [4, 5, 6, 7, 3, 2, 1, 0] rfl⟩
  obtain ⟨f, cy, be, i, rfl, i0, i1, cy0, cy1, hbe, ff, fd, fv, hV, hl⟩ := hI
  refine lv_iload hx hb dX0_restore_15 (lv_at hl 7 rfl) ?_
  refine lv_iload hx hb dX0_restore_17 (lv_at hl 6 rfl) ?_
  refine g_icmp_ge (tgt := 93) hx hb ⟨by omega, by omega⟩ ⟨by omega, by omega⟩ dX0_restore_19 (by decide) (fun c_19 => ?_) (fun c_19 => ?_)
  · skip
    have ei : i = nn b := by omega
    rw [ei] at fv fd ff
    have gr := wd (nn b + j) (by omega) (by omega)
    have fo := ff (nn b + j) (by omega)
    rw [eV] at fv
    refine lv_aload_n hx hb dX0_restore_93 rfl (lv_at hl 0 rfl) ?_
    refine t_getd E hK hV m0 rfl cf_0_9 dX0_restore_94 ?_
    refine lv_iload hx hb dX0_restore_97 (lv_at hl 6 rfl) ?_
    refine lv_iload_n hx hb dX0_restore_99 rfl (lv_at hl 3 rfl) ?_
    refine g_iadd hx hb dX0_restore_100 ?_
    refine lv_aload_n hx hb dX0_restore_101 rfl (lv_at hl 0 rfl) ?_
    refine t_getd E hK hV m0 rfl cf_0_9 dX0_restore_102 ?_
    refine lv_iload hx hb dX0_restore_105 (lv_at hl 6 rfl) ?_
    refine lv_iload_n hx hb dX0_restore_107 rfl (lv_at hl 3 rfl) ?_
    refine g_iadd hx hb dX0_restore_108 ?_
    refine t_ald (z := ((nn b) + j)) (v := f ((nn b) + j)) hx hb hK hV m0 rfl (congrFun (va_up_self _ _ _) _) rfl (by omega) (by omega) dX0_restore_109 ?_
    refine lv_iload hx hb dX0_restore_110 (lv_at hl 4 rfl) ?_
    refine g_iadd hx hb dX0_restore_112 ?_
    refine lv_ldc (v := Int32.ofInt (1073741823)) hx hb hown (hts _ (List.mem_cons_of_mem _ ck_X0_59)) dX0_restore_113 ?_
    refine g_iand30 hx hb dX0_restore_115 ?_
    refine t_ast (z := ((nn b) + j)) (v := (((f ((nn b) + j)) + cy) % 1073741824)) (gf := (va_up gg h0 (iup f ((nn b) + j) (((f ((nn b) + j)) + cy) % 1073741824)))) hx hb hK hV m0 rfl ((congrArg (fun q => va_up (va_up gg h0 f) h0 (iup q ((nn b) + j) (((f ((nn b) + j)) + cy) % 1073741824))) (va_up_self _ _ _)).trans (va_up_up _ _ _ _)) rfl (by omega) (by omega) dX0_restore_116 (fun H locs hV => ?_)
    have hpost : X = X ∧ dd = dd ∧ nn = nn ∧ ss = ss ∧ ll = ll ∧ ∃ (f1 : Int → Int) (cc : Int), (va_up gg h0 (iup f ((nn b) + j) (((f ((nn b) + j)) + cy) % 1073741824))) = va_up gg h0 f1 ∧ (∀ t : Int, t < j ∨ j + nn b < t → f1 t = gg h0 t) ∧ kb_d (wn f1 j) (nn b + 1).toNat ∧ (cc = 0 ∨ cc = 1) ∧ kb_v (wn f1 j) (nn b + 1).toNat = kb_v (wn (gg h0) j) (nn b + 1).toNat + VV - cc * 1073741824 ^ (nn b + 1).toNat := ⟨rfl, rfl, rfl, rfl, rfl, _, (f (nn b + j) + cy) / 1073741824, rfl, fun t q => by rw [iup_ne (by omega)]; exact ff t (by omega), kb_d_wn n0b fd (by omega) (by omega), by omega, by
          rw [wn_iup_v n0b, kb_v_next (g := wn (gg h0) j) n0b, pow_next n0b]
          have ew : wn (gg h0) j (nn b) = gg h0 (nn b + j) := rfl
          rw [ew, ← fo]
          have hd := Int.mul_ediv_add_emod (f (nn b + j) + cy) 1073741824
          generalize (f (nn b + j) + cy) / 1073741824 = q at *
          generalize (f (nn b + j) + cy) % 1073741824 = d at *
          generalize (1073741824 : Int) ^ (nn b).toNat = P at *
          generalize kb_v (wn (gg h0) j) (nn b).toNat = K0 at *
          generalize kb_v (wn f j) (nn b).toNat = K1 at *
          generalize f (nn b + j) = w at *
          clear ff fd wd fo gr
          have h1 : d = w + cy - 1073741824 * q := by omega
          subst h1
          grind⟩
    exact c_vret hx hb hr hK hV hpost dX0_restore_117 hlocks
  · skip
    have hi_ := hi_bd (x := gg b i) hT hU hB
    have be_ : 0 ≤ be ∧ be < 2 ^ sh.toNat := by
      rw [hbe]
      split
      · have e := ex_bd (n := nn b) (i := i - 1) dgb (by omega); exact lo_bd e.1 e.2 hU hB
      · rw [Int.zero_ediv]; omega
    have gr := wd (i + j) (by omega) (by omega)
    have fo := ff (i + j) (by omega)
    refine lv_aload_n hx hb dX0_restore_22 rfl (lv_at hl 0 rfl) ?_
    refine t_getd E hK hV m0 rfl cf_0_9 dX0_restore_23 ?_
    refine lv_iload hx hb dX0_restore_26 (lv_at hl 7 rfl) ?_
    refine lv_iload_n hx hb dX0_restore_28 rfl (lv_at hl 3 rfl) ?_
    refine g_iadd hx hb dX0_restore_29 ?_
    refine t_ald (z := (i + j)) (v := f (i + j)) hx hb hK hV m0 rfl (congrFun (va_up_self _ _ _) _) rfl (by omega) (by omega) dX0_restore_30 ?_
    refine lv_aload_n hx hb dX0_restore_31 rfl (lv_at hl 1 rfl) ?_
    refine t_getd E hK hV mb rfl cf_0_9 dX0_restore_32 ?_
    refine lv_iload hx hb dX0_restore_35 (lv_at hl 7 rfl) ?_
    refine t_ald (z := i) (v := gg b i) hx hb hK hV mb rfl (congrFun ((va_up_ne _ _ (Ne.symm nb)).trans rfl) _) rfl (by omega) (by omega) dX0_restore_37 ?_
    refine lv_iload_n hx hb dX0_restore_38 rfl (lv_at hl 2 rfl) ?_
    refine g_ishl hx hb (by omega) (by omega) dX0_restore_39 ?_
    refine lv_ldc (v := Int32.ofInt (1073741823)) hx hb hown (hts _ (List.mem_cons_of_mem _ ck_X0_59)) dX0_restore_40 ?_
    refine g_iand30 hx hb dX0_restore_42 ?_
    refine lv_iload hx hb dX0_restore_43 (lv_at hl 5 rfl) ?_
    refine g_ior hx hb (im_or' (k := sh.toNat) be_.1 be_.2 hi_.1 hi_.2.2 (by omega)) dX0_restore_45 ?_
    obtain ⟨y, ey⟩ : ∃ y : Int, y = ((((gg b i) * 2 ^ (sh).toNat) % 1073741824) + be) := ⟨_, rfl⟩
    rw [← ey]
    have ey2 : y = rdg (gg b) (nn b) (2 ^ (sh).toNat) (2 ^ (30 - sh).toNat) i := by rw [ey, hbe]; unfold rdg; rw [show ex (gg b) (nn b) i = gg b i from if_pos (by omega)]
    have yb := rdg_bd (g := gg b) (n := nn b) dgb s0 s1 i0
    rw [← ey2] at yb
    refine g_iadd hx hb dX0_restore_46 ?_
    refine lv_iload hx hb dX0_restore_47 (lv_at hl 4 rfl) ?_
    refine g_iadd hx hb dX0_restore_49 ?_
    refine lv_istore (lv' := [(8, Iz (((f (i + j)) + y) + cy)), (0, .ref h0), (1, .ref b), (2, Iz (sh)), (3, Iz (j)), (4, Iz (cy)), (5, Iz (be)), (6, Iz (nn b)), (7, Iz (i))]) hx hb dX0_restore_50 hl (by decide) rfl (fun ls hl => ?_)
    refine lv_aload_n hx hb dX0_restore_52 rfl (lv_at hl 2 rfl) ?_
    refine t_getd E hK hV mb rfl cf_0_9 dX0_restore_53 ?_
    refine lv_iload hx hb dX0_restore_56 (lv_at hl 8 rfl) ?_
    refine t_ald (z := i) (v := gg b i) hx hb hK hV mb rfl (congrFun ((va_up_ne _ _ (Ne.symm nb)).trans rfl) _) rfl (by omega) (by omega) dX0_restore_58 ?_
    refine lv_bipush (v := Int32.ofInt (30)) hx hb dX0_restore_59 (by decide) ?_
    refine lv_iload_n hx hb dX0_restore_61 rfl (lv_at hl 3 rfl) ?_
    refine g_isub hx hb dX0_restore_62 ?_
    refine g_iushr hx hb (by have := (dgb i (by omega) (by omega)).1; omega) (by have := (dgb i (by omega) (by omega)).2; omega) (by omega) (by omega) dX0_restore_63 ?_
    refine lv_istore (lv' := [(5, Iz ((gg b i) / 2 ^ (30 - sh).toNat)), (8, Iz (((f (i + j)) + y) + cy)), (0, .ref h0), (1, .ref b), (2, Iz (sh)), (3, Iz (j)), (4, Iz (cy)), (6, Iz (nn b)), (7, Iz (i))]) hx hb dX0_restore_64 hl (by decide) rfl (fun ls hl => ?_)
    refine lv_aload_n hx hb dX0_restore_66 rfl (lv_at hl 2 rfl) ?_
    refine t_getd E hK hV m0 rfl cf_0_9 dX0_restore_67 ?_
    refine lv_iload hx hb dX0_restore_70 (lv_at hl 8 rfl) ?_
    refine lv_iload_n hx hb dX0_restore_72 rfl (lv_at hl 5 rfl) ?_
    refine g_iadd hx hb dX0_restore_73 ?_
    refine lv_iload hx hb dX0_restore_74 (lv_at hl 1 rfl) ?_
    refine lv_ldc (v := Int32.ofInt (1073741823)) hx hb hown (hts _ (List.mem_cons_of_mem _ ck_X0_59)) dX0_restore_76 ?_
    refine g_iand30 hx hb dX0_restore_78 ?_
    refine t_ast (z := (i + j)) (v := ((((f (i + j)) + y) + cy) % 1073741824)) (gf := (va_up gg h0 (iup f (i + j) ((((f (i + j)) + y) + cy) % 1073741824)))) hx hb hK hV m0 rfl ((congrArg (fun q => va_up (va_up gg h0 f) h0 (iup q (i + j) ((((f (i + j)) + y) + cy) % 1073741824))) (va_up_self _ _ _)).trans (va_up_up _ _ _ _)) rfl (by omega) (by omega) dX0_restore_79 (fun H locs hV => ?_)
    refine lv_iload hx hb dX0_restore_80 (lv_at hl 1 rfl) ?_
    refine lv_bipush (v := Int32.ofInt (30)) hx hb dX0_restore_82 (by decide) ?_
    refine g_iushr hx hb (by omega) (by omega) (by omega) (by omega) dX0_restore_84 ?_
    rw [show (2 : Int) ^ (30 : Int).toNat = 1073741824 from rfl]
    refine lv_istore (lv' := [(4, Iz ((((f (i + j)) + y) + cy) / 1073741824)), (5, Iz ((gg b i) / 2 ^ (30 - sh).toNat)), (8, Iz (((f (i + j)) + y) + cy)), (0, .ref h0), (1, .ref b), (2, Iz (sh)), (3, Iz (j)), (6, Iz (nn b)), (7, Iz (i))]) hx hb dX0_restore_85 hl (by decide) rfl (fun ls hl => ?_)
    refine g_iinc (k := 8) (z := i) (n := (1)) (lv' := [(7, Iz (i + 1)), (4, Iz ((((f (i + j)) + y) + cy) / 1073741824)), (5, Iz ((gg b i) / 2 ^ (30 - sh).toNat)), (8, Iz (((f (i + j)) + y) + cy)), (0, .ref h0), (1, .ref b), (2, Iz (sh)), (3, Iz (j)), (6, Iz (nn b))]) hx hb dX0_restore_87 hl rfl (by decide) rfl (fun ls hl => ?_)
    refine lv_goto (tgt := 15) hx hb dX0_restore_90 (by decide) ?_
    exact ih_15 _ (by omega) _ _ _ ⟨(iup f (i + j) ((((f (i + j)) + y) + cy) % 1073741824)), ((((f (i + j)) + y) + cy) / 1073741824), ((gg b i) / 2 ^ (30 - sh).toNat), (i + 1), rfl, (by omega), (by omega), (by omega), (by omega), (by rw [if_pos (by omega), show i + 1 - 1 = i by omega, show ex (gg b) (nn b) i = gg b i from if_pos (by omega)]), (fun t q => by rw [iup_ne (by omega)]; exact ff t (by omega)), (kb_d_wn i0 fd (by omega) (by omega)), (rs_step' i0 fv (by rw [← ey2, ← fo]; omega)), hV, lv_sub hl [4, 5, 6, 7, 1, 2, 8, 0] rfl⟩
