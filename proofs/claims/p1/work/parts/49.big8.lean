theorem k0_digitW {l : Launch} {dC : Nat → ClassId} {dI : Nat → Nat → Nat} {cx : Nat → Nat} {LB : List Nat} {X : va_W} {dd : Nat → Nat} {nn ss : Nat → Int} {ll : Nat → Nat} {gg : Nat → Int → Int} {H0 : Heap} {b : Nat} {i sh Vb : Int} {nb_ sb_ : Int} {fb : Int → Int} {Kb : Nat} (enb : nn b = nb_) (esb : ss b = sb_) (efb : gg b = fb) (elb : ll b = Kb) (mb : b ∈ LB) (NB : num1 (nb_) (sb_) (Kb) (fb) Vb) (s0 : 0 ≤ sh) (s1 : sh < 30) (i0 : 0 ≤ i) (i1 : i < nb_) : Met l yX0_digit (Cond.code yX0_digit cX0_digit 3 (some .int) :: w0c) (cRm 0 0 LB ll) (cPc dC dI cx LB X dd nn ss ll gg H0 [.ref b, Iz (i), Iz (sh)]) (cQi dC dI cx LB (va_A (bW (cx 0) LB dd nn ss ll gg X) H0.size) ll H0 (fun z X' dd' nn' ss' ll' gg' => X' = X ∧ dd' = dd ∧ nn' = nn ∧ ss' = ss ∧ ll' = ll ∧ gg' = gg ∧ z = rdg (fb) (nb_) (2 ^ (sh).toNat) (2 ^ (30 - sh).toNat) i)) (cMc LB ll) (2 * cMc LB ll) (va_A (bW (cx 0) LB dd nn ss ll gg X) H0.size) := by
  subst enb; subst esb; subst efb; subst elb
  exact k0_digit mb NB s0 s1 i0 i1
theorem k0_takesW {l : Launch} {dC : Nat → ClassId} {dI : Nat → Nat → Nat} {cx : Nat → Nat} {LB : List Nat} {X : va_W} {dd : Nat → Nat} {nn ss : Nat → Int} {ll : Nat → Nat} {gg : Nat → Int → Int} {H0 : Heap} {h0 b : Nat} {j sh gs Vb VV : Int} {nb_ sb_ : Int} {fb : Int → Int} {Kb : Nat} {f0 : Int → Int} {K0 : Nat} (enb : nn b = nb_) (esb : ss b = sb_) (efb : gg b = fb) (elb : ll b = Kb) (ef0 : gg h0 = f0) (elk : ll h0 = K0) (m0 : h0 ∈ LB) (mb : b ∈ LB) (NB : num1 (nb_) (sb_) (Kb) (fb) Vb) (s0 : 0 ≤ sh) (s1 : sh < 30) (nb : h0 ≠ b) (j0 : 0 ≤ j) (j1 : j + nb_ < K0) (wd : ∀ t : Int, j ≤ t → t ≤ j + nb_ → 0 ≤ f0 t ∧ f0 t < 1073741824) (g0 : 0 ≤ gs) (g1 : gs < 1073741824) (eV : kb_v (rdg (fb) (nb_) (2 ^ (sh).toNat) (2 ^ (30 - sh).toNat)) (nb_).toNat = VV) : Met l yX0_takes (Cond.code yX0_takes cX0_takes 16 (some .boolean) :: w0c) (cRm 0 0 LB ll) (cPc dC dI cx LB X dd nn ss ll gg H0 [.ref h0, .ref b, Jz (gs), Iz (sh), Iz (j)]) (cQi dC dI cx LB (va_A (bW (cx 0) LB dd nn ss ll gg X) H0.size) ll H0 (fun z X' dd' nn' ss' ll' gg' => X' = X ∧ dd' = dd ∧ nn' = nn ∧ ss' = ss ∧ ll' = ll ∧ ∃ f1 : Int → Int, gg' = va_up gg h0 f1 ∧ (∀ t : Int, t < j ∨ j + nb_ < t → f1 t = f0 t) ∧ kb_d (wn f1 j) (nb_ + 1).toNat ∧ (z = 0 ∨ z = 1) ∧ kb_v (wn f1 j) (nb_ + 1).toNat = kb_v (wn (f0) j) (nb_ + 1).toNat - gs * VV + z * 1073741824 ^ (nb_ + 1).toNat)) (cMc LB ll) (2 * cMc LB ll) (va_A (bW (cx 0) LB dd nn ss ll gg X) H0.size) := by
  subst enb; subst esb; subst efb; subst elb; subst ef0; subst elk
  exact k0_takes m0 mb NB s0 s1 nb j0 j1 wd g0 g1 eV
theorem k0_restoreW {l : Launch} {dC : Nat → ClassId} {dI : Nat → Nat → Nat} {cx : Nat → Nat} {LB : List Nat} {X : va_W} {dd : Nat → Nat} {nn ss : Nat → Int} {ll : Nat → Nat} {gg : Nat → Int → Int} {H0 : Heap} {h0 b : Nat} {j sh Vb VV : Int} {nb_ sb_ : Int} {fb : Int → Int} {Kb : Nat} {f0 : Int → Int} {K0 : Nat} (enb : nn b = nb_) (esb : ss b = sb_) (efb : gg b = fb) (elb : ll b = Kb) (ef0 : gg h0 = f0) (elk : ll h0 = K0) (m0 : h0 ∈ LB) (mb : b ∈ LB) (NB : num1 (nb_) (sb_) (Kb) (fb) Vb) (s0 : 0 ≤ sh) (s1 : sh < 30) (nb : h0 ≠ b) (j0 : 0 ≤ j) (j1 : j + nb_ < K0) (wd : ∀ t : Int, j ≤ t → t ≤ j + nb_ → 0 ≤ f0 t ∧ f0 t < 1073741824) (eV : kb_v (rdg (fb) (nb_) (2 ^ (sh).toNat) (2 ^ (30 - sh).toNat)) (nb_).toNat = VV) : Met l yX0_restore (Cond.code yX0_restore cX0_restore 9 none :: w0c) (cRm 0 0 LB ll) (cPc dC dI cx LB X dd nn ss ll gg H0 [.ref h0, .ref b, Iz (sh), Iz (j)]) (cQv dC dI cx LB (va_A (bW (cx 0) LB dd nn ss ll gg X) H0.size) ll H0 (fun X' dd' nn' ss' ll' gg' => X' = X ∧ dd' = dd ∧ nn' = nn ∧ ss' = ss ∧ ll' = ll ∧ ∃ (f1 : Int → Int) (cc : Int), gg' = va_up gg h0 f1 ∧ (∀ t : Int, t < j ∨ j + nb_ < t → f1 t = f0 t) ∧ kb_d (wn f1 j) (nb_ + 1).toNat ∧ (cc = 0 ∨ cc = 1) ∧ kb_v (wn f1 j) (nb_ + 1).toNat = kb_v (wn (f0) j) (nb_ + 1).toNat + VV - cc * 1073741824 ^ (nb_ + 1).toNat)) (cMc LB ll) (2 * cMc LB ll) (va_A (bW (cx 0) LB dd nn ss ll gg X) H0.size) := by
  subst enb; subst esb; subst efb; subst elb; subst ef0; subst elk
  exact k0_restore m0 mb NB s0 s1 nb j0 j1 wd eV
set_option maxHeartbeats 4000000 in
set_option maxRecDepth 100000 in
theorem k0_rest {l : Launch} {dC : Nat → ClassId} {dI : Nat → Nat → Nat} {cx : Nat → Nat} {LB : List Nat} {X : va_W} {dd : Nat → Nat} {nn ss : Nat → Int} {ll : Nat → Nat} {gg : Nat → Int → Int} {H0 : Heap} {v : Nat → Int} {h0 a b qq : Nat} (m0 : h0 ∈ LB) (hN : cR LB nn ss ll gg v) (ma : a ∈ LB) (mb : b ∈ LB) (mq : qq ∈ LB) (na : h0 ≠ a) (nb : h0 ≠ b) (nq : h0 ≠ qq) (aq : a ≠ qq) (bq : b ≠ qq) (ka : nn a ≤ 190) : Met l yX0_rest (Cond.code yX0_rest cX0_rest 22 none :: w0c) (cRm 3 90 LB ll) (cPc dC dI cx LB X dd nn ss ll gg H0 [.ref h0, .ref a, .ref b, .ref qq]) (cQv dC dI cx LB (va_A (bW (cx 0) LB dd nn ss ll gg X) H0.size) ll H0 (fun X' dd' nn' ss' ll' gg' => X' = X ∧ cR LB nn' ss' ll' gg' (va_up (va_up v h0 ((v a).tmod (v b))) qq ((v a).tdiv (v b))))) (cMc LB ll) (2 * cMc LB ll) (va_A (bW (cx 0) LB dd nn ss ll gg X) H0.size) := by
  refine Met.ofW (cc := cX0_rest) (maxL := 22) (ret := none) (by decide) rfl ?_
  intro p e s m args below meth c s₁ B hml hv
  obtain ⟨rfl, hH0, hP, hK, hD0, hC0⟩ := hv
  have hx := B.exec
  have hb := B.bytes
  have hr := B.returns
  have hts := atoms_spec (ws := Cond.code yX0_rest cX0_rest 22 none :: w0c) B.pre
  have hown : s.vm.findClass RX0 = some m.cls := findClass_of_methodNamed B.named
  have hlocks := B.notSynchronized
  have E : CallFix p m c cX0_rest 22 s _ (Cond.code yX0_rest cX0_rest 22 none :: w0c) RX0 := ⟨hx, hb, hml, hown, hts⟩
  subst hH0
  have hD := va_D.self (sz := s.heap.size) hD0
  have hA : ∀ q : Nat, s.heap.size ≤ q → va_A (bW (cx 0) LB dd nn ss ll gg X) s.heap.size q := fun q h => Or.inr h
  have hV : cV dC dI cx LB (va_A (bW (cx 0) LB dd nn ss ll gg X) s.heap.size) s.heap ll X dd nn ss ll gg s.heap [] := ⟨hP, hD, va_S.rf, fun _ _ => Nat.le_refl _, hC0⟩
  have hR : (headSpec (Cond.code yX0_rest cX0_rest 22 none :: w0c) (cRm 3 90 LB ll)).room.cells = cMc LB ll ∧ (headSpec (Cond.code yX0_rest cX0_rest 22 none :: w0c) (cRm 3 90 LB ll)).room.slots = 2 * cMc LB ll := ⟨rfl, rfl⟩
  refine W.widen (k := cP LB ll - cP LB ll) (n := 2 * (cP LB ll - cP LB ll)) (Nat.zero_le _) (Nat.zero_le _) ?_
  have hl := lv_entry ([.ref h0, .ref a, .ref b, .ref qq]) (n := 22) (Nat.le_of_ble_eq_true rfl)
  rw [lg_entry_eq]
  generalize (lg_sl ([.ref h0, .ref a, .ref b, .ref qq]) ++ List.replicate (22 - (lg_sl ([.ref h0, .ref a, .ref b, .ref qq])).length) Slot.unset).toArray = ls at hl ⊢
  have hl : lv_has ls 22 [(0, .ref h0), (1, .ref a), (2, .ref b), (3, .ref qq)] := hl
  have N0 := hN h0 m0
  obtain ⟨n0_, n1_, k5_, dg_, tp_, sg_, vl_⟩ := hN h0 m0
  have c4_ := (hC0 h0 m0).2
  have sb_ := sg_bd (v h0)
  have NA := hN a ma
  obtain ⟨n0a, n1a, k5a, dga, tpa, sga, vla⟩ := hN a ma
  have c4a := (hC0 a ma).2
  have sba := sg_bd (v a)
  have NB := hN b mb
  obtain ⟨n0b, n1b, k5b, dgb, tpb, sgb, vlb⟩ := hN b mb
  have c4b := (hC0 b mb).2
  have sbb := sg_bd (v b)
  have c4q := hC0 qq mq
  refine lv_aload_n hx hb dX0_rest_0 rfl (lv_at hl 2 rfl) ?_
  refine t_getn E hK hV mb rfl cf_0_13 dX0_rest_1 ?_
  refine g_if_eq (tgt := 15) hx hb ⟨by omega, by omega⟩ dX0_rest_4 (by decide) (fun c_4 => ?_) (fun c_4 => ?_)
  · skip
    refine lv_aload_n hx hb dX0_rest_15 rfl (lv_at hl 0 rfl) ?_
    refine lv_aload_n hx hb dX0_rest_16 rfl (lv_at hl 1 rfl) ?_
    refine c_callv (As := [.ref a]) (rest := []) E (k0_copy (v := v) (h0 := h0) (a := a) m0 hN ma na (by omega)) (cwV 1 hts (cGood cl_X0_32 ci_X0_copy cs_X0_copy cn_RX0 cc_X0_copy) rfl rfl rfl (by decide +kernel) ⟨Nat.le_of_ble_eq_true rfl, Nat.le_of_ble_eq_true rfl⟩) (b_recv hK hV m0) hK hV hA hR rfl hl.1 (Nat.le_of_ble_eq_true rfl) dX0_rest_17 (fun X17 dd17 nn17 ss17 ll17 gg17 H locs q17 hV hm17 => ?_)
    obtain ⟨e1_, hN⟩ := q17
    obtain rfl := e1_.symm
    refine lv_aload_n hx hb dX0_rest_20 rfl (lv_at hl 3 rfl) ?_
    refine c_callv (As := []) (rest := []) E (k0_clear (v := va_up v h0 (v a)) (h0 := qq) mq hN) (cwV 0 hts (cGood cl_X0_52 ci_X0_clear cs_X0_clear cn_RX0 cc_X0_clear) rfl rfl rfl (by decide +kernel) ⟨Nat.le_of_ble_eq_true rfl, Nat.le_of_ble_eq_true rfl⟩) (b_recv hK hV mq) hK hV hA hR rfl hl.1 (Nat.le_of_ble_eq_true rfl) dX0_rest_21 (fun X21 dd21 nn21 ss21 ll21 gg21 H locs q21 hV hm21 => ?_)
    obtain ⟨e1_, hN⟩ := q21
    obtain rfl := e1_.symm
    have hpost : X = X ∧ cR LB nn21 ss21 ll21 gg21 (va_up (va_up v h0 ((v a).tmod (v b))) qq ((v a).tdiv (v b))) := ⟨rfl, by
          first
          | (have e := (num1_zero NB).mp c_4; rw [e, Int.tmod_zero, Int.tdiv_zero]; exact hN)
          | (have e := tm_small (a := v a) (b := v b) (cq2.mp (by omega)); rw [e.1, e.2]; exact hN)⟩
    exact c_vret hx hb hr hK hV hpost dX0_rest_24 hlocks
  · skip
    refine lv_aload_n hx hb dX0_rest_7 rfl (lv_at hl 1 rfl) ?_
    refine lv_aload_n hx hb dX0_rest_8 rfl (lv_at hl 2 rfl) ?_
    refine c_calli (As := [.ref b]) (rest := []) E (k0_against (v := v) (h0 := a) (a := b) ma hN mb) (cwV 1 hts (cGood cl_X0_28 ci_X0_against cs_X0_against cn_RX0 cc_X0_against) rfl rfl rfl (by decide +kernel) ⟨Nat.le_of_ble_eq_true rfl, Nat.le_of_ble_eq_true rfl⟩) (b_recv hK hV ma) hK hV hA hR rfl hl.1 (Nat.le_of_ble_eq_true rfl) dX0_rest_9 (fun z9 X9 dd9 nn9 ss9 ll9 gg9 H locs q9 hV hm9 => ?_)
    obtain ⟨e1_, e2_, e3_, e4_, e5_, e6_, q9⟩ := q9
    obtain rfl := e1_.symm
    obtain rfl := e2_.symm
    obtain rfl := e3_.symm
    obtain rfl := e4_.symm
    obtain rfl := e5_.symm
    obtain rfl := e6_.symm
    have cq2 := g_cmp_lt (x := ((v a).natAbs : Int)) (y := ((v b).natAbs : Int))
    rw [← q9] at cq2
    have cgi := g_cmp_i (((v a).natAbs : Nat) : Int) (((v b).natAbs : Nat) : Int)
    rw [← q9] at cgi
    refine g_if_ge (tgt := 25) hx hb cgi dX0_rest_12 (by decide) (fun c_12 => ?_) (fun c_12 => ?_)
    · skip
      have hbn : 0 < nn b := by omega
      have hbl := bl_n NB hbn
      have hab : ((v b).natAbs : Int) ≤ ((v a).natAbs : Int) := by rcases Int.lt_or_le ((v a).natAbs : Int) ((v b).natAbs : Int) with w | w; (· have := cq2.mpr w; omega); (· exact w)
      refine lv_aload_n hx hb dX0_rest_25 rfl (lv_at hl 2 rfl) ?_
      refine t_getn E hK hV mb rfl cf_0_13 dX0_rest_26 ?_
      refine lv_istore (lv' := [(4, Iz (nn b)), (0, .ref h0), (1, .ref a), (2, .ref b), (3, .ref qq)]) hx hb dX0_rest_29 hl (by decide) rfl (fun ls hl => ?_)
      refine lv_iload hx hb dX0_rest_31 (lv_at hl 0 rfl) ?_
      refine lv_bipush (v := Int32.ofInt (30)) hx hb dX0_rest_33 (by decide) ?_
      refine g_imul hx hb dX0_rest_35 ?_
      refine lv_aload_n hx hb dX0_rest_36 rfl (lv_at hl 3 rfl) ?_
      refine c_calli (As := []) (rest := [Iz ((nn b) * 30)]) E (k0_size (v := v) (h0 := b) mb hN) (cwV 0 hts (cGood cl_X0_71 ci_X0_size cs_X0_size cn_RX0 cc_X0_size) rfl rfl rfl (by decide +kernel) ⟨Nat.le_of_ble_eq_true rfl, Nat.le_of_ble_eq_true rfl⟩) (b_recv hK hV mb) hK hV hA hR rfl hl.1 (Nat.le_of_ble_eq_true rfl) dX0_rest_37 (fun z37 X37 dd37 nn37 ss37 ll37 gg37 H locs q37 hV hm37 => ?_)
      obtain ⟨e1_, e2_, e3_, e4_, e5_, e6_, q37⟩ := q37
      obtain rfl := e1_.symm
      obtain rfl := e2_.symm
      obtain rfl := e3_.symm
      obtain rfl := e4_.symm
      obtain rfl := e5_.symm
      obtain rfl := e6_.symm
      refine g_isub hx hb dX0_rest_40 ?_
      obtain ⟨sh, esh⟩ : ∃ sh : Int, sh = (((nn b) * 30) - z37) := ⟨_, rfl⟩
      rw [← esh]
      have s0 : 0 ≤ sh := by omega
      have s1 : sh < 30 := by omega
      have hT := i_p2 sh.toNat
      have hU := i_p2 (30 - sh).toNat
      have hB := TU30 (r := sh) s0 (by omega)
      refine lv_istore (lv' := [(5, Iz (sh)), (4, Iz (nn b)), (0, .ref h0), (1, .ref a), (2, .ref b), (3, .ref qq)]) hx hb dX0_rest_41 hl (by decide) rfl (fun ls hl => ?_)
      refine lv_aload_n hx hb dX0_rest_43 rfl (lv_at hl 3 rfl) ?_
      refine t_gets E hK hV ma rfl cf_0_17 dX0_rest_44 ?_
      refine lv_istore (lv' := [(6, Iz (ss a)), (5, Iz (sh)), (4, Iz (nn b)), (0, .ref h0), (1, .ref a), (2, .ref b), (3, .ref qq)]) hx hb dX0_rest_47 hl (by decide) rfl (fun ls hl => ?_)
      refine lv_aload_n hx hb dX0_rest_49 rfl (lv_at hl 5 rfl) ?_
      refine t_gets E hK hV mb rfl cf_0_17 dX0_rest_50 ?_
      refine lv_istore (lv' := [(7, Iz (ss b)), (6, Iz (ss a)), (5, Iz (sh)), (4, Iz (nn b)), (0, .ref h0), (1, .ref a), (2, .ref b), (3, .ref qq)]) hx hb dX0_rest_53 hl (by decide) rfl (fun ls hl => ?_)
      refine lv_aload_n hx hb dX0_rest_55 rfl (lv_at hl 4 rfl) ?_
      refine lv_aload_n hx hb dX0_rest_56 rfl (lv_at hl 5 rfl) ?_
      refine lv_iload hx hb dX0_rest_57 (lv_at hl 2 rfl) ?_
      refine c_callv (As := [.ref a, Iz (sh)]) (rest := []) E (k0_raise (v := v) (h0 := h0) (a := a) (kk := sh) m0 hN ma na (by omega) (by omega)) (cwV 2 hts (cGood cl_X0_75 ci_X0_raise cs_X0_raise cn_RX0 cc_X0_raise) rfl rfl rfl (by decide +kernel) ⟨Nat.le_of_ble_eq_true rfl, Nat.le_of_ble_eq_true rfl⟩) (b_recv hK hV m0) hK hV hA hR rfl hl.1 (Nat.le_of_ble_eq_true rfl) dX0_rest_59 (fun X59 dd59 nn59 ss59 ll59 gg59 H locs q59 hV hm59 => ?_)
      obtain ⟨e1_, hN⟩ := q59
      obtain rfl := e1_.symm
      have N1 := hN h0 m0
      rw [va_up_self] at N1
      have NB1 := hN b mb
      rw [va_up_ne _ _ (Ne.symm nb)] at NB1
      have enb := num1_uniq NB1 NB
      have c59 := hV.2.2.2.2 h0 m0
      have c59q := hV.2.2.2.2 qq mq
      obtain ⟨x0_, x1_, x2_, x3_, x4_, x5_, x6_⟩ := id N1
      have yvv := yv (sh := sh) (show num1 (nn b) (ss59 b) (ll59 b) (gg59 b) (v b) from by rw [← enb]; exact NB1) hbn (by omega)
      obtain ⟨VV, eVV⟩ : ∃ VV : Int, VV = ((v b).natAbs : Int) * 2 ^ sh.toNat := ⟨_, rfl⟩
      rw [← eVV] at yvv
      obtain ⟨AA, eAA⟩ : ∃ AA : Int, AA = ((v a).natAbs : Int) * 2 ^ sh.toNat := ⟨_, rfl⟩
      rw [abs_p2, ← eAA] at x6_
      have pnb := pow_hi (n := nn b) hbn
      have pp := kb_pow_pos (nn b - 1).toNat
      have hVA : VV ≤ AA := by rw [eVV, eAA]; exact Int.mul_le_mul_of_nonneg_right hab (by omega)
      have tg : nn b ≤ nn59 h0 := top_ge N1 (by rw [abs_p2, ← eAA]; omega) hbn
      have tl : nn59 h0 ≤ nn a + 1 := top_le NA N1 s1
      have ybd : ∀ i : Int, 0 ≤ i → 0 ≤ (rdg (gg59 b) (nn b) (2 ^ sh.toNat) (2 ^ (30 - sh).toNat)) i ∧ (rdg (gg59 b) (nn b) (2 ^ sh.toNat) (2 ^ (30 - sh).toNat)) i < 1073741824 := fun i p => rdg_bd (by rw [← enb]; exact NB1.2.2.2.1) s0 s1 p
      have yd : kb_d (rdg (gg59 b) (nn b) (2 ^ sh.toNat) (2 ^ (30 - sh).toNat)) (nn b).toNat := fun i p _ => ybd i p
      have yl_ := ylead hbn yd yvv.1 yvv.2.2
      skip
      refine lv_aload_n hx hb dX0_rest_62 rfl (lv_at hl 4 rfl) ?_
      refine t_getn E hK hV m0 rfl cf_0_13 dX0_rest_63 ?_
      refine lv_istore (lv' := [(8, Iz (nn59 h0)), (7, Iz (ss b)), (6, Iz (ss a)), (5, Iz (sh)), (4, Iz (nn b)), (0, .ref h0), (1, .ref a), (2, .ref b), (3, .ref qq)]) hx hb dX0_rest_66 hl (by decide) rfl (fun ls hl => ?_)
      refine r_cutH (P := fun ce sl H locs => ∃ K : Nat, ∃ D : Nat, ∃ F : Int → Int, ce = cP LB (va_up ll59 h0 K) - cP LB ll ∧ sl = 2 * (cP LB (va_up ll59 h0 K) - cP LB ll) ∧ (∀ t : Int, 0 ≤ t → t < nn59 h0 → F t = gg59 h0 t) ∧ (nn59 h0 < ((K : Nat) : Int)) ∧ cV dC dI cx LB (va_A (bW (cx 0) LB dd nn ss ll gg X) s.heap.size) s.heap ll X (va_up dd59 h0 D) nn59 ss59 (va_up ll59 h0 K) (va_up gg59 h0 F) H locs) (g := F0 m 95 ls []) (fun ce sl H locs hI => ?_) (fun k_95 => ?_)
      · skip
        obtain ⟨K, D, F, rfl, rfl, hF, kF, hV⟩ := hI
        have cK := hV.2.2.2.2 h0 m0
        rw [va_up_self] at cK
        refine lv_aload_n hx hb dX0_rest_95 rfl (lv_at hl 5 rfl) ?_
        refine t_getd E hK hV m0 (va_up_self _ _ _) cf_0_9 dX0_rest_96 ?_
        refine lv_iload hx hb dX0_rest_99 (lv_at hl 0 rfl) ?_
        refine lv_iconst (v := Int32.ofInt (0)) hx hb dX0_rest_101 (by decide) ?_
        refine t_ast (z := (nn59 h0)) (v := 0) (gf := (va_up gg59 h0 (iup F (nn59 h0) 0))) hx hb hK hV m0 (va_up_self _ _ _) ((congrArg (fun q => va_up (va_up gg59 h0 F) h0 (iup q (nn59 h0) 0)) (va_up_self _ _ _)).trans (va_up_up _ _ _ _)) (va_up_self _ _ _) (by omega) (by omega) dX0_rest_102 (fun H locs hV => ?_)
        refine lv_iload hx hb dX0_rest_103 (lv_at hl 0 rfl) ?_
        refine lv_iload hx hb dX0_rest_105 (lv_at hl 4 rfl) ?_
        refine g_isub hx hb dX0_rest_107 ?_
        refine lv_istore (lv' := [(9, Iz ((nn59 h0) - (nn b))), (8, Iz (nn59 h0)), (7, Iz (ss b)), (6, Iz (ss a)), (5, Iz (sh)), (4, Iz (nn b)), (0, .ref h0), (1, .ref a), (2, .ref b), (3, .ref qq)]) hx hb dX0_rest_108 hl (by decide) rfl (fun ls hl => ?_)
        refine r_cutH (P := fun ce sl H locs => ∃ KQ : Nat, ∃ DQ : Nat, ∃ GQ : Int → Int, ce = cP LB (va_up (va_up ll59 h0 K) qq KQ) - cP LB ll ∧ sl = 2 * (cP LB (va_up (va_up ll59 h0 K) qq KQ) - cP LB ll) ∧ (nn59 h0 - nn b < ((KQ : Nat) : Int)) ∧ cV dC dI cx LB (va_A (bW (cx 0) LB dd nn ss ll gg X) s.heap.size) s.heap ll X (va_up (va_up dd59 h0 D) qq DQ) nn59 ss59 (va_up (va_up ll59 h0 K) qq KQ) (va_up (va_up gg59 h0 (iup F (nn59 h0) 0)) qq GQ) H locs) (g := F0 m 132 ls []) (fun ce sl H locs hI => ?_) (fun k_132 => ?_)
        · skip
          obtain ⟨KQ, DQ, GQ, rfl, rfl, kQ, hV⟩ := hI
          have cKQ := hV.2.2.2.2 qq mq
          rw [va_up_self] at cKQ
          refine lv_iconst (v := Int32.ofInt (1)) hx hb dX0_rest_132 (by decide) ?_
          refine lv_aload_n hx hb dX0_rest_133 rfl (lv_at hl 8 rfl) ?_
          refine lv_iload hx hb dX0_rest_134 (lv_at hl 5 rfl) ?_
          refine lv_iconst (v := Int32.ofInt (1)) hx hb dX0_rest_136 (by decide) ?_
          refine g_isub hx hb dX0_rest_137 ?_
          refine lv_iload hx hb dX0_rest_138 (lv_at hl 4 rfl) ?_
          refine c_callsi (As := [.ref b, Iz ((nn b) - 1), Iz (sh)]) (rest := [Iz (1)]) E (k0_digitW (b := b) (i := nn b - 1) (sh := sh) enb rfl (by first | rfl | rw [va_up_ne _ _ bq, va_up_ne _ _ (Ne.symm nb)]) (by first | rfl | rw [va_up_ne _ _ bq, va_up_ne _ _ (Ne.symm nb)]) mb (show num1 (nn b) (ss59 b) (ll59 b) (gg59 b) (v b) from by rw [← enb]; exact NB1) s0 s1 (by omega) (by omega)) (c_cwS 3 hts cl_X0_79 ct_X0_digit cn_RX0 cc_X0_digit rfl rfl (by decide +kernel) ⟨Nat.le_of_ble_eq_true rfl, Nat.le_of_ble_eq_true rfl⟩) hK hV hA hR rfl hl.1 (Nat.le_of_ble_eq_true rfl) dX0_rest_140 (fun z140 X140 dd140 nn140 ss140 ll140 gg140 H locs q140 hV hm140 => ?_)
          obtain ⟨e1_, e2_, e3_, e4_, e5_, e6_, q140⟩ := q140
          obtain rfl := e1_.symm
          obtain rfl := e2_.symm
          obtain rfl := e3_.symm
          obtain rfl := e4_.symm
          obtain rfl := e5_.symm
          obtain rfl := e6_.symm
          refine g_max E hl.1 cl_X0_36 (Nat.le_of_ble_eq_true rfl) (Nat.le_of_ble_eq_true rfl) (c_room hV hR).1 (c_room hV hR).2 (by first | assumption | exact ⟨by omega, by omega⟩) (by first | assumption | exact ⟨by omega, by omega⟩) dX0_rest_143 ?_
          obtain ⟨ld, eld⟩ : ∃ ld : Int, ld = (if 1 < z140 then z140 else 1) := ⟨_, rfl⟩
          rw [← eld]
          have eld2 : ld = (rdg (gg59 b) (nn b) (2 ^ sh.toNat) (2 ^ (30 - sh).toNat)) (nn b - 1) := by rw [eld, if_pos (by omega)]; exact q140
          refine g_i2l hx hb ⟨by omega, by omega⟩ dX0_rest_146 ?_
          refine lv_lstore (lv' := [(10, Jz (ld)), (9, Iz ((nn59 h0) - (nn b))), (8, Iz (nn59 h0)), (7, Iz (ss b)), (6, Iz (ss a)), (5, Iz (sh)), (4, Iz (nn b)), (0, .ref h0), (1, .ref a), (2, .ref b), (3, .ref qq)]) hx hb dX0_rest_147 hl (by decide) rfl (fun ls hl => ?_)
          refine r_cutZ (P := fun nx ce sl H locs => ce = cP LB (va_up (va_up ll59 h0 K) qq KQ) - cP LB ll ∧ sl = 2 * (cP LB (va_up (va_up ll59 h0 K) qq KQ) - cP LB ll) ∧ (nx = (if 1 < nn b then (rdg (gg59 b) (nn b) (2 ^ sh.toNat) (2 ^ (30 - sh).toNat)) (nn b - 2) else 0)) ∧ cV dC dI cx LB (va_A (bW (cx 0) LB dd nn ss ll gg X) s.heap.size) s.heap ll X (va_up (va_up dd59 h0 D) qq DQ) nn59 ss59 (va_up (va_up ll59 h0 K) qq KQ) (va_up (va_up gg59 h0 (iup F (nn59 h0) 0)) qq GQ) H locs) (g := fun nx => F0 m 170 ls [Jz nx]) (fun nx ce sl H locs hI => ?_) (fun k_170 => ?_)
          · skip
            obtain ⟨rfl, rfl, hnx, hV⟩ := hI
            refine lv_lstore (lv' := [(12, Jz (nx)), (10, Jz (ld)), (9, Iz ((nn59 h0) - (nn b))), (8, Iz (nn59 h0)), (7, Iz (ss b)), (6, Iz (ss a)), (5, Iz (sh)), (4, Iz (nn b)), (0, .ref h0), (1, .ref a), (2, .ref b), (3, .ref qq)]) hx hb dX0_rest_170 hl (by decide) rfl (fun ls hl => ?_)
            have ST := dv_start (F := F) (G := GQ) hbn tg hF x3_ x6_ yvv.2.2
            refine lv_iload hx hb dX0_rest_172 (lv_at hl 2 rfl) ?_
            refine lv_istore (lv' := [(14, Iz ((nn59 h0) - (nn b))), (12, Jz (nx)), (10, Jz (ld)), (9, Iz ((nn59 h0) - (nn b))), (8, Iz (nn59 h0)), (7, Iz (ss b)), (6, Iz (ss a)), (5, Iz (sh)), (4, Iz (nn b)), (0, .ref h0), (1, .ref a), (2, .ref b), (3, .ref qq)]) hx hb dX0_rest_174 hl (by decide) rfl (fun ls hl => ?_)
            refine r_loop (P := fun N_ H locs ls => ∃ f : Int → Int, ∃ g1 : Int → Int, ∃ j : Int, N_ = (j + 1).toNat ∧ (-1 ≤ j) ∧ (j ≤ (nn59 h0 - nn b)) ∧ (∀ t : Int, 0 ≤ t → t ≤ (nn59 h0 - nn b) + nn b → 0 ≤ f t ∧ f t < 1073741824) ∧ (∀ t : Int, j + 1 + nn b ≤ t → t ≤ (nn59 h0 - nn b) + nn b → f t = 0) ∧ (kb_v (wn f (j + 1)) (nn b).toNat < VV) ∧ (AA = kb_v (wn g1 (j + 1)) ((nn59 h0 - nn b) - j).toNat * VV * 1073741824 ^ (j + 1).toNat + kb_v f (j + 1 + nn b).toNat) ∧ (kb_d (wn g1 (j + 1)) ((nn59 h0 - nn b) - j).toNat) ∧ cV dC dI cx LB (va_A (bW (cx 0) LB dd nn ss ll gg X) s.heap.size) s.heap ll X (va_up (va_up dd59 h0 D) qq DQ) nn59 ss59 (va_up (va_up ll59 h0 K) qq KQ) (va_up (va_up gg59 h0 f) qq g1) H locs ∧ lv_has ls 22 [(0, .ref h0), (1, .ref a), (2, .ref b), (3, .ref qq), (4, Iz (nn b)), (5, Iz (sh)), (6, Iz (ss a)), (7, Iz (ss b)), (8, Iz (nn59 h0)), (9, Iz ((nn59 h0) - (nn b))), (10, Jz (ld)), (12, Jz (nx)), (14, Iz (j))]) (g := fun ls => F0 m 176 ls []) (fun N_ H locs ls hI ih_176 => ?_) _ _ _ _ ⟨(iup F (nn59 h0) 0), GQ, ((nn59 h0) - (nn b)), rfl, (by omega), (Int.le_refl _), (ST.1), (fun t p q => by omega), (ST.2.1), (ST.2.2), (by rw [show (nn59 h0 - nn b) - (nn59 h0 - nn b) = 0 by omega]; exact kb_d_zero _), hV, lv_sub hl [9, 10, 11, 12, 8, 7, 6, 5, 4, 3, 2, 1, 0] rfl⟩
            obtain ⟨f, g1, j, rfl, jm, jk, fd, fz, fR, fA, gd, hV, hl⟩ := hI
            refine lv_iload hx hb dX0_rest_176 (lv_at hl 12 rfl) ?_
            refine g_if_lt (tgt := 355) hx hb ⟨by omega, by omega⟩ dX0_rest_178 (by decide) (fun c_178 => ?_) (fun c_178 => ?_)
            · skip
              have ej : j = -1 := by omega
              rw [ej] at fA gd fR
              have e0_ : ∀ u : Int → Int, wn u (-1 + 1) = u := fun u => by funext t; unfold wn; congr 1; omega
              rw [e0_, show (nn59 h0 - nn b) - -1 = (nn59 h0 - nn b) + 1 by omega] at gd
              rw [e0_, show (nn59 h0 - nn b) - -1 = (nn59 h0 - nn b) + 1 by omega, show (-1 : Int) + 1 + nn b = nn b by omega, show (1073741824 : Int) ^ ((-1 : Int) + 1).toNat = 1 from rfl, Int.mul_one] at fA
              rw [e0_] at fR
              have gd0 := gd
              have fdn : kb_d f (nn b).toNat := fun t a b => fd t a (by omega)
              have b0_ : (0 : Int) < ((v b).natAbs : Int) := by have := (num1_zero NB); omega
              have du := dv_undo hT eAA eVV (by omega) b0_ fA (kb_v_nonneg fdn) fR
              refine lv_iconst (v := Int32.ofInt (0)) hx hb dX0_rest_355 (by decide) ?_
              refine lv_istore (lv' := [(14, Iz (0)), (0, .ref h0), (1, .ref a), (2, .ref b), (3, .ref qq), (4, Iz (nn b)), (5, Iz (sh)), (6, Iz (ss a)), (7, Iz (ss b)), (8, Iz (nn59 h0)), (9, Iz ((nn59 h0) - (nn b))), (10, Jz (ld)), (12, Jz (nx))]) hx hb dX0_rest_356 hl (by decide) rfl (fun ls hl => ?_)
              refine r_loop (P := fun N_ H locs ls => ∃ h : Int → Int, ∃ i : Int, N_ = (nn b - i).toNat ∧ (0 ≤ i) ∧ (i ≤ nn b) ∧ (∀ t : Int, i ≤ t → h t = f t) ∧ (kb_d h i.toNat) ∧ (kb_v h i.toNat * 2 ^ sh.toNat + f 0 % 2 ^ sh.toNat = kb_v f i.toNat + (if i < nn b then f i % 2 ^ sh.toNat else 0) * 1073741824 ^ i.toNat) ∧ cV dC dI cx LB (va_A (bW (cx 0) LB dd nn ss ll gg X) s.heap.size) s.heap ll X (va_up (va_up dd59 h0 D) qq DQ) nn59 ss59 (va_up (va_up ll59 h0 K) qq KQ) (va_up (va_up gg59 h0 h) qq g1) H locs ∧ lv_has ls 22 [(0, .ref h0), (1, .ref a), (2, .ref b), (3, .ref qq), (4, Iz (nn b)), (5, Iz (sh)), (6, Iz (ss a)), (7, Iz (ss b)), (8, Iz (nn59 h0)), (9, Iz ((nn59 h0) - (nn b))), (10, Jz (ld)), (12, Jz (nx)), (14, Iz (i))]) (g := fun ls => F0 m 358 ls []) (fun N_ H locs ls hI ih_358 => ?_) _ _ _ _ ⟨f, 0, rfl, (Int.le_refl 0), (by omega), (fun t _ => rfl), (kb_d_zero _), (by rw [if_pos hbn]; show (0 : Int) * _ + _ = 0 + _ * 1; omega), hV, lv_sub hl [1, 2, 3, 4, 5, 6, 7, 8, 9, 10, 11, 12, 0] rfl⟩
              obtain ⟨h, i, rfl, i0, i1, ho, hd, hv, hV, hl⟩ := hI
              refine lv_iload hx hb dX0_rest_358 (lv_at hl 12 rfl) ?_
              refine lv_iload hx hb dX0_rest_360 (lv_at hl 4 rfl) ?_
              refine g_icmp_ge (tgt := 420) hx hb ⟨by omega, by omega⟩ ⟨by omega, by omega⟩ dX0_rest_362 (by decide) (fun c_362 => ?_) (fun c_362 => ?_)
              · skip
                have ei : i = nn b := by omega
                rw [ei] at hv hd
                rw [if_neg (by omega), Int.zero_mul, Int.add_zero, du.2] at hv
                have hvv := un_end hv (Int.emod_nonneg _ (by omega)) (Int.emod_lt_of_pos _ hT)
                refine lv_aload_n hx hb dX0_rest_420 rfl (lv_at hl 0 rfl) ?_
                refine lv_iload hx hb dX0_rest_421 (lv_at hl 6 rfl) ?_
                refine t_puts E hK hV m0 rfl cf_0_17 dX0_rest_423 (fun H locs hV => ?_)
                refine lv_aload_n hx hb dX0_rest_426 rfl (lv_at hl 0 rfl) ?_
                refine lv_iload hx hb dX0_rest_427 (lv_at hl 4 rfl) ?_
                refine c_callv (As := [Iz (nn b)]) (rest := []) E (k0_trim (h0 := h0) (top := nn b) m0 (by omega) (by rw [va_up_ne _ _ nq, va_up_self]; omega) (by rw [va_up_ne _ _ nq, va_up_self]; exact hd)) (cwV 1 hts (cGood cl_X0_67 ci_X0_trim cs_X0_trim cn_RX0 cc_X0_trim) rfl rfl rfl (by decide +kernel) ⟨Nat.le_of_ble_eq_true rfl, Nat.le_of_ble_eq_true rfl⟩) (b_recv hK hV m0) hK hV hA hR rfl hl.1 (Nat.le_of_ble_eq_true rfl) dX0_rest_429 (fun X429 dd429 nn429 ss429 ll429 gg429 H locs q429 hV hm429 => ?_)
                obtain ⟨e1_, e2_, e3_, e4_, n1429, e5_, e6_, t0429, t1429, tp429, tz429⟩ := q429
                obtain rfl := e1_.symm
                obtain rfl := e2_.symm
                obtain rfl := e3_.symm
                obtain rfl := e4_.symm
                obtain rfl := e5_.symm
                obtain rfl := e6_.symm
                rw [va_up_self] at hV
                rw [va_up_ne _ _ nq, va_up_self] at tp429
                simp only [va_up_ne _ _ nq, va_up_self] at tz429
                rw [va_up_up] at hV
                refine lv_aload_n hx hb dX0_rest_432 rfl (lv_at hl 3 rfl) ?_
                refine lv_iload hx hb dX0_rest_433 (lv_at hl 6 rfl) ?_
                refine lv_iload hx hb dX0_rest_435 (lv_at hl 7 rfl) ?_
                refine g_imul hx hb dX0_rest_437 ?_
                refine t_puts E hK hV mq rfl cf_0_17 dX0_rest_438 (fun H locs hV => ?_)
                refine lv_aload_n hx hb dX0_rest_441 rfl (lv_at hl 3 rfl) ?_
                refine lv_iload hx hb dX0_rest_442 (lv_at hl 9 rfl) ?_
                refine lv_iconst (v := Int32.ofInt (1)) hx hb dX0_rest_444 (by decide) ?_
                refine g_iadd hx hb dX0_rest_445 ?_
                refine c_callv (As := [Iz (((nn59 h0) - (nn b)) + 1)]) (rest := []) E (k0_trim (h0 := qq) (top := nn59 h0 - nn b + 1) mq (by omega) (by rw [va_up_self]; omega) (by rw [va_up_self]; exact gd0)) (cwV 1 hts (cGood cl_X0_67 ci_X0_trim cs_X0_trim cn_RX0 cc_X0_trim) rfl rfl rfl (by decide +kernel) ⟨Nat.le_of_ble_eq_true rfl, Nat.le_of_ble_eq_true rfl⟩) (b_recv hK hV mq) hK hV hA hR rfl hl.1 (Nat.le_of_ble_eq_true rfl) dX0_rest_446 (fun X446 dd446 nn446 ss446 ll446 gg446 H locs q446 hV hm446 => ?_)
                obtain ⟨e1_, e2_, e3_, e4_, n1446, e5_, e6_, t0446, t1446, tp446, tz446⟩ := q446
                obtain rfl := e1_.symm
                obtain rfl := e2_.symm
                obtain rfl := e3_.symm
                obtain rfl := e4_.symm
                obtain rfl := e5_.symm
                obtain rfl := e6_.symm
                rw [va_up_self] at hV
                rw [va_up_self] at tp446
                simp only [va_up_self] at tz446
                rw [va_up_up] at hV
                have hpost : X = X ∧ cR LB (va_up (va_up nn59 h0 n1429) qq n1446) (va_up (va_up ss59 h0 (if n1429 = 0 then 0 else (ss a))) qq (if n1446 = 0 then 0 else ((ss a) * (ss b)))) (va_up (va_up ll59 h0 K) qq KQ) (va_up (va_up gg59 h0 h) qq g1) (va_up (va_up v h0 ((v a).tmod (v b))) qq ((v a).tdiv (v b))) := ⟨rfl, by
                      have vT : kb_v h (nn b).toNat = (((v a).tmod (v b)).natAbs : Int) := by rw [hvv, Int.natAbs_tmod, Int.natCast_emod]
                      have vQ : kb_v g1 (nn59 h0 - nn b + 1).toNat = (((v a).tdiv (v b)).natAbs : Int) := by rw [du.1, Int.natAbs_tdiv]; exact (Int.natCast_ediv _ _).symm
                      have zT := n_zero t0429 t1429 hd tp429 tz429 vT
                      have zQ := n_zero t0446 t1446 gd0 tp446 tz446 vQ
                      have nT := num1_of (k := K) (s := if n1429 = 0 then 0 else ss a) t0429 t1429 (by omega) (by omega) hd tp429 tz429 (by rw [sga]; exact sg_tmod zT) vT
                      have nQ := num1_of (k := KQ) (s := if n1446 = 0 then 0 else ss a * ss b) t0446 t1446 (by omega) (by omega) gd0 tp446 tz446 (by rw [sga, sgb]; exact sg_tdiv zQ) vQ
                      have h := cR_up (h0 := qq) (cR_up (h0 := h0) hN nT) nQ
                      rw [va_up_up] at h
                      exact h⟩
                exact c_vret hx hb hr hK hV hpost dX0_rest_449 hlocks
              · skip
                refine lv_aload_n hx hb dX0_rest_365 rfl (lv_at hl 0 rfl) ?_
                refine t_getd E hK hV m0 ((va_up_ne _ _ nq).trans (va_up_self _ _ _)) cf_0_9 dX0_rest_366 ?_
                refine lv_iload hx hb dX0_rest_369 (lv_at hl 12 rfl) ?_
                refine lv_aload_n hx hb dX0_rest_371 rfl (lv_at hl 0 rfl) ?_
                refine t_getd E hK hV m0 ((va_up_ne _ _ nq).trans (va_up_self _ _ _)) cf_0_9 dX0_rest_372 ?_
                refine lv_iload hx hb dX0_rest_375 (lv_at hl 12 rfl) ?_
                refine t_ald (z := i) (v := f i) hx hb hK hV m0 ((va_up_ne _ _ nq).trans (va_up_self _ _ _)) ((congrFun ((va_up_ne _ _ nq).trans (va_up_self _ _ _)) _).trans (ho i (by omega))) ((va_up_ne _ _ nq).trans (va_up_self _ _ _)) (by omega) (by omega) dX0_rest_377 ?_
                refine lv_iload hx hb dX0_rest_378 (lv_at hl 5 rfl) ?_
                refine g_iushr hx hb (by have := fd i i0 (by omega); omega) (by have := fd i i0 (by omega); omega) (by omega) (by omega) dX0_rest_380 ?_
                refine r_join (P := fun z : Int => z = (if i + 1 < nn b then (f (i + 1) * 2 ^ (30 - sh).toNat) % 1073741824 else 0)) (g := fun z => F0 m 412 ls [Iz z, Iz ((f i) / 2 ^ (sh).toNat), Iz (i), .ref D]) (fun zz hzz => ?_) (fun k_412 => ?_)
                · skip
                  have ub_ := un_bd (x := f i) (y := f (i + 1)) (fd i i0 (by omega)).1 (fd i i0 (by omega)).2 hT hU hB
                  have ZZ0 : 0 ≤ zz := by rw [hzz]; split <;> omega
                  have ZZ1 : zz % 2 ^ (30 - sh).toNat = 0 := by rw [hzz]; split; (· exact ub_.2.2.2.2); (· exact Int.zero_emod _)
                  have ZZ2 : zz ≤ 1073741824 - 2 ^ (30 - sh).toNat := by rw [hzz]; split; (· exact ub_.2.2.2.1); (· have := hB; have h9 : (2 : Int) ^ (30 - sh).toNat * 1 ≤ 2 ^ (30 - sh).toNat * 2 ^ sh.toNat := Int.mul_le_mul_of_nonneg_left (by omega) (by omega); rw [Int.mul_comm] at h9; rw [Int.mul_comm (2 ^ (30 - sh).toNat)] at h9; omega)
                  refine g_ior hx hb (im_or (k := (30 - sh).toNat) ub_.1 ub_.2.1 ZZ0 ZZ1 (by omega)) dX0_rest_412 ?_
                  refine t_ast (z := i) (v := (((f i) / 2 ^ (sh).toNat) + zz)) (gf := (va_up (va_up gg59 h0 (iup h i (((f i) / 2 ^ (sh).toNat) + zz))) qq g1)) hx hb hK hV m0 ((va_up_ne _ _ nq).trans (va_up_self _ _ _)) ((congrArg (fun q => va_up (va_up (va_up gg59 h0 h) qq g1) h0 (iup q i (((f i) / 2 ^ (sh).toNat) + zz))) ((va_up_ne _ _ nq).trans (va_up_self _ _ _))).trans (va_up_in _ nq _ _ _)) ((va_up_ne _ _ nq).trans (va_up_self _ _ _)) (by omega) (by omega) dX0_rest_413 (fun H locs hV => ?_)
                  refine g_iinc (k := 12) (z := i) (n := (1)) (lv' := [(14, Iz (i + 1)), (0, .ref h0), (1, .ref a), (2, .ref b), (3, .ref qq), (4, Iz (nn b)), (5, Iz (sh)), (6, Iz (ss a)), (7, Iz (ss b)), (8, Iz (nn59 h0)), (9, Iz ((nn59 h0) - (nn b))), (10, Jz (ld)), (12, Jz (nx))]) hx hb dX0_rest_414 hl rfl (by decide) rfl (fun ls hl => ?_)
                  refine lv_goto (tgt := 358) hx hb dX0_rest_417 (by decide) ?_
                  exact ih_358 _ (by omega) _ _ _ ⟨(iup h i (((f i) / 2 ^ (sh).toNat) + zz)), (i + 1), rfl, (by omega), (by omega), (fun t p => by rw [iup_ne (by omega)]; exact ho t (by omega)), (kb_d_step i0 hd (by omega) (by omega)), (un_step i0 hT hU hB hv (by omega) (by rw [hzz])), hV, lv_sub hl [1, 2, 3, 4, 5, 6, 7, 8, 9, 10, 11, 12, 0] rfl⟩
                · skip
                  refine lv_iload hx hb dX0_rest_381 (lv_at hl 12 rfl) ?_
                  refine lv_iconst (v := Int32.ofInt (1)) hx hb dX0_rest_383 (by decide) ?_
                  refine g_iadd hx hb dX0_rest_384 ?_
                  refine lv_iload hx hb dX0_rest_385 (lv_at hl 4 rfl) ?_
                  refine g_icmp_ge (tgt := 411) hx hb ⟨by omega, by omega⟩ ⟨by omega, by omega⟩ dX0_rest_387 (by decide) (fun c_387 => ?_) (fun c_387 => ?_)
                  · skip
                    refine lv_iconst (v := Int32.ofInt (0)) hx hb dX0_rest_411 (by decide) ?_
                    exact k_412 _ (by first | rw [if_pos (by omega)] | rw [if_neg (by omega)])
                  · skip
                    refine lv_aload_n hx hb dX0_rest_390 rfl (lv_at hl 0 rfl) ?_
                    refine t_getd E hK hV m0 ((va_up_ne _ _ nq).trans (va_up_self _ _ _)) cf_0_9 dX0_rest_391 ?_
                    refine lv_iload hx hb dX0_rest_394 (lv_at hl 12 rfl) ?_
                    refine lv_iconst (v := Int32.ofInt (1)) hx hb dX0_rest_396 (by decide) ?_
                    refine g_iadd hx hb dX0_rest_397 ?_
                    refine t_ald (z := (i + 1)) (v := f (i + 1)) hx hb hK hV m0 ((va_up_ne _ _ nq).trans (va_up_self _ _ _)) ((congrFun ((va_up_ne _ _ nq).trans (va_up_self _ _ _)) _).trans (ho (i + 1) (by omega))) ((va_up_ne _ _ nq).trans (va_up_self _ _ _)) (by omega) (by omega) dX0_rest_398 ?_
                    refine lv_bipush (v := Int32.ofInt (30)) hx hb dX0_rest_399 (by decide) ?_
                    refine lv_iload hx hb dX0_rest_401 (lv_at hl 5 rfl) ?_
                    refine g_isub hx hb dX0_rest_403 ?_
                    refine g_ishl hx hb (by omega) (by omega) dX0_rest_404 ?_
                    refine lv_ldc (v := Int32.ofInt (1073741823)) hx hb hown (hts _ (List.mem_cons_of_mem _ ck_X0_59)) dX0_rest_405 ?_
                    refine g_iand30 hx hb dX0_rest_407 ?_
                    refine lv_goto (tgt := 412) hx hb dX0_rest_408 (by decide) ?_
                    exact k_412 _ (by first | rw [if_pos (by omega)] | rw [if_neg (by omega)])
            · skip
              have j0 : 0 ≤ j := by omega
              have w2_ := fd (j + nn b) (by omega) (by omega)
              have w1_ := fd (j + nn b - 1) (by omega) (by omega)
              have hwd : kb_d (wn f j) (nn b + 1).toNat := kb_d_wn0 fd j0 (by omega)
              refine lv_aload_n hx hb dX0_rest_181 rfl (lv_at hl 0 rfl) ?_
              refine t_getd E hK hV m0 ((va_up_ne _ _ nq).trans (va_up_self _ _ _)) cf_0_9 dX0_rest_182 ?_
              refine lv_iload hx hb dX0_rest_185 (lv_at hl 12 rfl) ?_
              refine lv_iload hx hb dX0_rest_187 (lv_at hl 4 rfl) ?_
              refine g_iadd hx hb dX0_rest_189 ?_
              refine t_ald (z := (j + (nn b))) (v := f (j + (nn b))) hx hb hK hV m0 ((va_up_ne _ _ nq).trans (va_up_self _ _ _)) (congrFun ((va_up_ne _ _ nq).trans (va_up_self _ _ _)) _) ((va_up_ne _ _ nq).trans (va_up_self _ _ _)) (by omega) (by omega) dX0_rest_190 ?_
              refine g_i2l hx hb ⟨by omega, by omega⟩ dX0_rest_191 ?_
              refine lv_bipush (v := Int32.ofInt (30)) hx hb dX0_rest_192 (by decide) ?_
              refine g_lshl hx hb (by omega) (by omega) dX0_rest_194 ?_
              rw [show (2 : Int) ^ (30 : Int).toNat = 1073741824 from rfl]
              refine lv_aload_n hx hb dX0_rest_195 rfl (lv_at hl 0 rfl) ?_
              refine t_getd E hK hV m0 ((va_up_ne _ _ nq).trans (va_up_self _ _ _)) cf_0_9 dX0_rest_196 ?_
              refine lv_iload hx hb dX0_rest_199 (lv_at hl 12 rfl) ?_
              refine lv_iload hx hb dX0_rest_201 (lv_at hl 4 rfl) ?_
              refine g_iadd hx hb dX0_rest_203 ?_
              refine lv_iconst (v := Int32.ofInt (1)) hx hb dX0_rest_204 (by decide) ?_
              refine g_isub hx hb dX0_rest_205 ?_
              refine t_ald (z := ((j + (nn b)) - 1)) (v := f ((j + (nn b)) - 1)) hx hb hK hV m0 ((va_up_ne _ _ nq).trans (va_up_self _ _ _)) (congrFun ((va_up_ne _ _ nq).trans (va_up_self _ _ _)) _) ((va_up_ne _ _ nq).trans (va_up_self _ _ _)) (by omega) (by omega) dX0_rest_206 ?_
              refine g_i2l hx hb ⟨by omega, by omega⟩ dX0_rest_207 ?_
              refine g_lor hx hb (lm_or30 w2_.1 (by omega) w1_.1 w1_.2) dX0_rest_208 ?_
              obtain ⟨t, et⟩ : ∃ t : Int, t = (((f (j + (nn b))) * 1073741824) + (f ((j + (nn b)) - 1))) := ⟨_, rfl⟩
              rw [← et]
              have t0_ : 0 ≤ t := by omega
              have t1_ : t < 1152921504606846976 := by omega
              have etW : t = wn f j (nn b) * 1073741824 + wn f j (nn b - 1) := by rw [et]; unfold wn; rw [Int.add_comm (nn b) j, show nn b - 1 + j = j + nn b - 1 by omega]
              refine lv_lstore (lv' := [(15, Jz (t)), (0, .ref h0), (1, .ref a), (2, .ref b), (3, .ref qq), (4, Iz (nn b)), (5, Iz (sh)), (6, Iz (ss a)), (7, Iz (ss b)), (8, Iz (nn59 h0)), (9, Iz ((nn59 h0) - (nn b))), (10, Jz (ld)), (12, Jz (nx)), (14, Iz (j))]) hx hb dX0_rest_209 hl (by decide) rfl (fun ls hl => ?_)
              refine lv_lload hx hb dX0_rest_211 (lv_at hl 0 rfl) ?_
              refine lv_lload hx hb dX0_rest_213 (lv_at hl 11 rfl) ?_
              refine g_ldiv hx hb t0_ (by omega) (by omega) (by omega) dX0_rest_215 ?_
              refine lv_ldc2 (v := Int64.ofInt (1073741823)) hx hb hown (hts _ (List.mem_cons_of_mem _ cj_X0_20)) dX0_rest_216 ?_
              refine g_minL E hl.1 cl_X0_83 (Nat.le_of_ble_eq_true rfl) (Nat.le_of_ble_eq_true rfl) (c_room hV hR).1 (c_room hV hR).2 ⟨by have := Int.ediv_nonneg t0_ (show 0 ≤ ld by omega); omega, by have := Int.ediv_le_self ld t0_; omega⟩ ⟨by omega, by omega⟩ dX0_rest_219 ?_
              obtain ⟨g0, eg0⟩ : ∃ g0 : Int, g0 = (if 1073741823 < t / ld then 1073741823 else t / ld) := ⟨_, rfl⟩
              rw [← eg0]
              have gf := gs_first (n := nn b) (V := VV) (R := kb_v (wn f (j + 1)) (nn b).toNat) (u0 := f j) (u2 := f (j + nn b)) (u1 := f (j + nn b - 1)) (lead := ld) (t := t) (g := g0) (W := wn f j) (Y := (rdg (gg59 b) (nn b) (2 ^ sh.toNat) (2 ^ (30 - sh).toNat))) hbn hwd yd yvv.1 (kb_v_nonneg (kb_d_wn0 fd (by omega) (by omega))) fR (wn_low (by omega)) (fd j j0 (by omega)) (by unfold wn; rw [Int.add_comm]) (by unfold wn; congr 1; omega) eld2.symm (by omega) et eg0
              obtain ⟨gf0, gf1, gf2, gf3, gf4, gf5, gf6, gf7, gf8⟩ := gf
              refine lv_lstore (lv' := [(17, Jz (g0)), (15, Jz (t)), (0, .ref h0), (1, .ref a), (2, .ref b), (3, .ref qq), (4, Iz (nn b)), (5, Iz (sh)), (6, Iz (ss a)), (7, Iz (ss b)), (8, Iz (nn59 h0)), (9, Iz ((nn59 h0) - (nn b))), (10, Jz (ld)), (12, Jz (nx)), (14, Iz (j))]) hx hb dX0_rest_222 hl (by decide) rfl (fun ls hl => ?_)
              refine lv_lload hx hb dX0_rest_224 (lv_at hl 1 rfl) ?_
              refine lv_lload hx hb dX0_rest_226 (lv_at hl 0 rfl) ?_
              refine lv_lload hx hb dX0_rest_228 (lv_at hl 12 rfl) ?_
              refine g_lmul hx hb dX0_rest_230 ?_
              refine g_lsub hx hb dX0_rest_231 ?_
              refine lv_lstore (lv' := [(19, Jz (t - (g0 * ld))), (17, Jz (g0)), (15, Jz (t)), (0, .ref h0), (1, .ref a), (2, .ref b), (3, .ref qq), (4, Iz (nn b)), (5, Iz (sh)), (6, Iz (ss a)), (7, Iz (ss b)), (8, Iz (nn59 h0)), (9, Iz ((nn59 h0) - (nn b))), (10, Jz (ld)), (12, Jz (nx)), (14, Iz (j))]) hx hb dX0_rest_232 hl (by decide) rfl (fun ls hl => ?_)
              refine lv_iconst (v := Int32.ofInt (0)) hx hb dX0_rest_234 (by decide) ?_
              refine lv_istore (lv' := [(21, Iz (0)), (19, Jz (t - (g0 * ld))), (17, Jz (g0)), (15, Jz (t)), (0, .ref h0), (1, .ref a), (2, .ref b), (3, .ref qq), (4, Iz (nn b)), (5, Iz (sh)), (6, Iz (ss a)), (7, Iz (ss b)), (8, Iz (nn59 h0)), (9, Iz ((nn59 h0) - (nn b))), (10, Jz (ld)), (12, Jz (nx)), (14, Iz (j))]) hx hb dX0_rest_235 hl (by decide) rfl (fun ls hl => ?_)
              refine r_loop (P := fun N_ H locs ls => ∃ gs : Int, ∃ ov : Int, ∃ i : Int, N_ = (3 - i).toNat ∧ (0 ≤ i) ∧ (i ≤ 3) ∧ (0 ≤ gs) ∧ (gs < 1073741824) ∧ (0 ≤ ov) ∧ (ov < 2147483648) ∧ (gs * ld + ov = t) ∧ (kb_v (wn f j) (nn b + 1).toNat < (gs + 1) * VV) ∧ ((gs + i) * VV ≤ kb_v (wn f j) (nn b + 1).toNat + 2 * VV) ∧ cV dC dI cx LB (va_A (bW (cx 0) LB dd nn ss ll gg X) s.heap.size) s.heap ll X (va_up (va_up dd59 h0 D) qq DQ) nn59 ss59 (va_up (va_up ll59 h0 K) qq KQ) (va_up (va_up gg59 h0 f) qq g1) H locs ∧ lv_has ls 22 [(0, .ref h0), (1, .ref a), (2, .ref b), (3, .ref qq), (4, Iz (nn b)), (5, Iz (sh)), (6, Iz (ss a)), (7, Iz (ss b)), (8, Iz (nn59 h0)), (9, Iz ((nn59 h0) - (nn b))), (10, Jz (ld)), (12, Jz (nx)), (14, Iz (j)), (15, Jz (t)), (17, Jz (gs)), (19, Jz (ov)), (21, Iz (i))]) (g := fun ls => F0 m 237 ls []) (fun N_ H locs ls hI ih_237 => ?_) _ _ _ _ ⟨g0, (t - (g0 * ld)), 0, rfl, (Int.le_refl 0), (by omega), (gf0), (gf1), (gf2), (gf3), (by omega), (gf4), (by rw [Int.add_zero]; exact gf5), hV, lv_sub hl [4, 5, 6, 7, 8, 9, 10, 11, 12, 13, 14, 15, 16, 3, 2, 1, 0] rfl⟩
              obtain ⟨gs, ov, i, rfl, i0, i1, gs0, gs1, ov0, ov1, eo, gU1, gU2, hV, hl⟩ := hI
              refine r_cut (P := gs * VV ≤ kb_v (wn f j) (nn b + 1).toNat + VV) (g := F0 m 305 ls []) (fun h_305 => ?_) (fun k_305 => ?_)
              · skip
                have gU := h_305
                refine lv_aload_n hx hb dX0_rest_305 rfl (lv_at hl 3 rfl) ?_
                refine t_getd E hK hV mq (va_up_self _ _ _) cf_0_9 dX0_rest_306 ?_
                refine lv_iload hx hb dX0_rest_309 (lv_at hl 12 rfl) ?_
                refine lv_lload hx hb dX0_rest_311 (lv_at hl 14 rfl) ?_
                refine g_l2i hx hb dX0_rest_313 ?_
                refine t_ast (z := j) (v := gs) (gf := (va_up (va_up gg59 h0 f) qq (iup g1 j gs))) hx hb hK hV mq (va_up_self _ _ _) ((congrArg (fun q => va_up (va_up (va_up gg59 h0 f) qq g1) qq (iup q j gs)) (va_up_self _ _ _)).trans (va_up_up _ _ _ _)) (va_up_self _ _ _) (by omega) (by omega) dX0_rest_314 (fun H locs hV => ?_)
                refine lv_aload_n hx hb dX0_rest_315 rfl (lv_at hl 0 rfl) ?_
                refine lv_aload_n hx hb dX0_rest_316 rfl (lv_at hl 2 rfl) ?_
                refine lv_lload hx hb dX0_rest_317 (lv_at hl 14 rfl) ?_
                refine lv_iload hx hb dX0_rest_319 (lv_at hl 5 rfl) ?_
                refine lv_iload hx hb dX0_rest_321 (lv_at hl 12 rfl) ?_
                refine c_calli (As := [.ref b, Jz (gs), Iz (sh), Iz (j)]) (rest := []) E (k0_takesW (f0 := f) (K0 := K) (h0 := h0) (b := b) (j := j) (sh := sh) (gs := gs) (VV := VV) enb rfl (by first | rfl | rw [va_up_ne _ _ bq, va_up_ne _ _ (Ne.symm nb)]) (by first | rfl | rw [va_up_ne _ _ bq, va_up_ne _ _ (Ne.symm nb)]) (by first | rfl | exact (va_up_ne _ _ nq).trans (va_up_self _ _ _)) (by first | rfl | exact (va_up_ne _ _ nq).trans (va_up_self _ _ _)) m0 mb (show num1 (nn b) (ss59 b) (ll59 b) (gg59 b) (v b) from by rw [← enb]; exact NB1) s0 s1 nb j0 (by omega) (fun t p q => fd t (by omega) (by omega)) gs0 gs1 yvv.1) (cwV 4 hts (cGood cl_X0_87 ci_X0_takes cs_X0_takes cn_RX0 cc_X0_takes) rfl rfl rfl (by decide +kernel) ⟨Nat.le_of_ble_eq_true rfl, Nat.le_of_ble_eq_true rfl⟩) (b_recv hK hV m0) hK hV hA hR rfl hl.1 (Nat.le_of_ble_eq_true rfl) dX0_rest_323 (fun z323 X323 dd323 nn323 ss323 ll323 gg323 H locs q323 hV hm323 => ?_)
                obtain ⟨e1_, e2_, e3_, e4_, e5_, f1323, e6_, wf323, wd323, wz323, wv323⟩ := q323
                obtain rfl := e1_.symm
                obtain rfl := e2_.symm
                obtain rfl := e3_.symm
                obtain rfl := e4_.symm
                obtain rfl := e5_.symm
                obtain rfl := e6_.symm
                rw [va_up_in _ nq _ _ _] at hV
                have VP : VV ≤ 1073741824 ^ (nn b + 1).toNat := by rw [pow_next (by omega)]; have := kb_pow_pos (nn b).toNat; have := yvv.2.1; omega
                have V0 : 0 < VV := by have := kb_pow_pos (nn b).toNat; have := yvv.2.2; omega
                have DV := dv_digit (g := gs) (V := VV) (z := z323) (W1 := kb_v (wn f1323 j) (nn b + 1).toNat) (PN := 1073741824 ^ (nn b + 1).toNat) (kb_v_nonneg hwd) gU1 gU wz323 wv323 (kb_v_nonneg wd323) (kb_v_lt wd323) VP V0
                refine g_if_eq (tgt := 349) hx hb ⟨by omega, by omega⟩ dX0_rest_326 (by decide) (fun c_326 => ?_) (fun c_326 => ?_)
                · skip
                  have NX : -1 ≤ j + (-1) ∧ j + (-1) ≤ (nn59 h0 - nn b) ∧ (∀ t : Int, 0 ≤ t → t ≤ (nn59 h0 - nn b) + nn b → 0 ≤ f1323 t ∧ f1323 t < 1073741824) ∧ (∀ t : Int, j + (-1) + 1 + nn b ≤ t → t ≤ (nn59 h0 - nn b) + nn b → f1323 t = 0) ∧ kb_v (wn f1323 (j + (-1) + 1)) (nn b).toNat < VV ∧ AA = kb_v (wn (iup g1 j gs) (j + (-1) + 1)) ((nn59 h0 - nn b) - (j + (-1))).toNat * VV * 1073741824 ^ (j + (-1) + 1).toNat + kb_v f1323 (j + (-1) + 1 + nn b).toNat ∧ kb_d (wn (iup g1 j gs) (j + (-1) + 1)) ((nn59 h0 - nn b) - (j + (-1))).toNat := by
                    first
                    | (have D1 := DV.1 c_326
                       exact dv_next rfl j0 jk n0b fd fz fA gd wf323 wd323 D1.2.2 D1.2.1 (Int.le_of_lt yvv.2.1) iup_self (fun t w => iup_ne (by omega)) gs0 gs1)
                    | (have D2 := DV.2 (by omega) cc346 _ wz346 wv346 (kb_v_nonneg wd346) (kb_v_lt wd346)
                       have gp_ : 1 ≤ gs := by
                         rcases Int.lt_or_le gs 1 with w | w
                         · exfalso
                           have e0 : gs = 0 := by omega
                           have e1 : z323 = 1 := by omega
                           rw [e0, e1, Int.zero_mul, Int.one_mul] at wv323
                           have := kb_v_lt wd323
                           have := kb_v_nonneg hwd
                           omega
                         · exact w
                       exact dv_next rfl j0 jk n0b fd fz fA gd (fun t w => (wf346 t w).trans (wf323 t w)) wd346 D2.2.2 D2.2.1 (Int.le_of_lt yvv.2.1) iup_self (fun t w => (iup_ne (by omega)).trans (iup_ne (by omega))) (by omega) (by omega))
                  refine g_iinc (k := 12) (z := j) (n := (-1)) (lv' := [(14, Iz (j + (-1))), (0, .ref h0), (1, .ref a), (2, .ref b), (3, .ref qq), (4, Iz (nn b)), (5, Iz (sh)), (6, Iz (ss a)), (7, Iz (ss b)), (8, Iz (nn59 h0)), (9, Iz ((nn59 h0) - (nn b))), (10, Jz (ld)), (12, Jz (nx)), (15, Jz (t)), (17, Jz (gs)), (19, Jz (ov)), (21, Iz (i))]) hx hb dX0_rest_349 hl rfl (by decide) rfl (fun ls hl => ?_)
                  refine lv_goto (tgt := 176) hx hb dX0_rest_352 (by decide) ?_
                  exact ih_176 _ (by omega) _ _ _ ⟨f1323, (iup g1 j gs), (j + (-1)), rfl, (NX.1), (NX.2.1), (NX.2.2.1), (NX.2.2.2.1), (NX.2.2.2.2.1), (NX.2.2.2.2.2.1), (NX.2.2.2.2.2.2), hV, lv_sub hl [1, 2, 3, 4, 5, 6, 7, 8, 9, 10, 11, 12, 0] rfl⟩
                · skip
                  refine lv_aload_n hx hb dX0_rest_329 rfl (lv_at hl 3 rfl) ?_
                  refine t_getd E hK hV mq (va_up_self _ _ _) cf_0_9 dX0_rest_330 ?_
                  refine lv_iload hx hb dX0_rest_333 (lv_at hl 12 rfl) ?_
                  refine lv_dup2_11 hx hb dX0_rest_335 rfl rfl ?_
                  refine t_ald (z := j) (v := gs) hx hb hK hV mq (va_up_self _ _ _) ((congrFun (va_up_self _ _ _) _).trans iup_self) (va_up_self _ _ _) (by omega) (by omega) dX0_rest_336 ?_
                  refine lv_iconst (v := Int32.ofInt (1)) hx hb dX0_rest_337 (by decide) ?_
                  refine g_isub hx hb dX0_rest_338 ?_
                  refine t_ast (z := j) (v := (gs - 1)) (gf := (va_up (va_up gg59 h0 f1323) qq (iup (iup g1 j gs) j (gs - 1)))) hx hb hK hV mq (va_up_self _ _ _) ((congrArg (fun q => va_up (va_up (va_up gg59 h0 f1323) qq (iup g1 j gs)) qq (iup q j (gs - 1))) (va_up_self _ _ _)).trans (va_up_up _ _ _ _)) (va_up_self _ _ _) (by omega) (by omega) dX0_rest_339 (fun H locs hV => ?_)
                  refine lv_aload_n hx hb dX0_rest_340 rfl (lv_at hl 0 rfl) ?_
                  refine lv_aload_n hx hb dX0_rest_341 rfl (lv_at hl 2 rfl) ?_
                  refine lv_iload hx hb dX0_rest_342 (lv_at hl 5 rfl) ?_
                  refine lv_iload hx hb dX0_rest_344 (lv_at hl 12 rfl) ?_
                  refine c_callv (As := [.ref b, Iz (sh), Iz (j)]) (rest := []) E (k0_restoreW (f0 := f1323) (K0 := K) (h0 := h0) (b := b) (j := j) (sh := sh) (VV := VV) enb rfl (by first | rfl | rw [va_up_ne _ _ bq, va_up_ne _ _ (Ne.symm nb)]) (by first | rfl | rw [va_up_ne _ _ bq, va_up_ne _ _ (Ne.symm nb)]) (by first | rfl | exact (va_up_ne _ _ nq).trans (va_up_self _ _ _)) (by first | rfl | exact (va_up_ne _ _ nq).trans (va_up_self _ _ _)) m0 mb (show num1 (nn b) (ss59 b) (ll59 b) (gg59 b) (v b) from by rw [← enb]; exact NB1) s0 s1 nb j0 (by omega) (fun t p q => by have := wd323 (t - j) (by omega) (by omega); unfold wn at this; rw [show t - j + j = t by omega] at this; exact this) yvv.1) (cwV 3 hts (cGood cl_X0_91 ci_X0_restore cs_X0_restore cn_RX0 cc_X0_restore) rfl rfl rfl (by decide +kernel) ⟨Nat.le_of_ble_eq_true rfl, Nat.le_of_ble_eq_true rfl⟩) (b_recv hK hV m0) hK hV hA hR rfl hl.1 (Nat.le_of_ble_eq_true rfl) dX0_rest_346 (fun X346 dd346 nn346 ss346 ll346 gg346 H locs q346 hV hm346 => ?_)
                  obtain ⟨e1_, e2_, e3_, e4_, e5_, f1346, cc346, e6_, wf346, wd346, wz346, wv346⟩ := q346
                  obtain rfl := e1_.symm
                  obtain rfl := e2_.symm
                  obtain rfl := e3_.symm
                  obtain rfl := e4_.symm
                  obtain rfl := e5_.symm
                  obtain rfl := e6_.symm
                  rw [va_up_in _ nq _ _ _] at hV
                  have NX : -1 ≤ j + (-1) ∧ j + (-1) ≤ (nn59 h0 - nn b) ∧ (∀ t : Int, 0 ≤ t → t ≤ (nn59 h0 - nn b) + nn b → 0 ≤ f1346 t ∧ f1346 t < 1073741824) ∧ (∀ t : Int, j + (-1) + 1 + nn b ≤ t → t ≤ (nn59 h0 - nn b) + nn b → f1346 t = 0) ∧ kb_v (wn f1346 (j + (-1) + 1)) (nn b).toNat < VV ∧ AA = kb_v (wn (iup (iup g1 j gs) j (gs - 1)) (j + (-1) + 1)) ((nn59 h0 - nn b) - (j + (-1))).toNat * VV * 1073741824 ^ (j + (-1) + 1).toNat + kb_v f1346 (j + (-1) + 1 + nn b).toNat ∧ kb_d (wn (iup (iup g1 j gs) j (gs - 1)) (j + (-1) + 1)) ((nn59 h0 - nn b) - (j + (-1))).toNat := by
                    first
                    | (have D1 := DV.1 c_326
                       exact dv_next rfl j0 jk n0b fd fz fA gd wf323 wd323 D1.2.2 D1.2.1 (Int.le_of_lt yvv.2.1) iup_self (fun t w => iup_ne (by omega)) gs0 gs1)
                    | (have D2 := DV.2 (by omega) cc346 _ wz346 wv346 (kb_v_nonneg wd346) (kb_v_lt wd346)
                       have gp_ : 1 ≤ gs := by
                         rcases Int.lt_or_le gs 1 with w | w
                         · exfalso
                           have e0 : gs = 0 := by omega
                           have e1 : z323 = 1 := by omega
                           rw [e0, e1, Int.zero_mul, Int.one_mul] at wv323
                           have := kb_v_lt wd323
                           have := kb_v_nonneg hwd
                           omega
                         · exact w
                       exact dv_next rfl j0 jk n0b fd fz fA gd (fun t w => (wf346 t w).trans (wf323 t w)) wd346 D2.2.2 D2.2.1 (Int.le_of_lt yvv.2.1) iup_self (fun t w => (iup_ne (by omega)).trans (iup_ne (by omega))) (by omega) (by omega))
                  refine g_iinc (k := 12) (z := j) (n := (-1)) (lv' := [(14, Iz (j + (-1))), (0, .ref h0), (1, .ref a), (2, .ref b), (3, .ref qq), (4, Iz (nn b)), (5, Iz (sh)), (6, Iz (ss a)), (7, Iz (ss b)), (8, Iz (nn59 h0)), (9, Iz ((nn59 h0) - (nn b))), (10, Jz (ld)), (12, Jz (nx)), (15, Jz (t)), (17, Jz (gs)), (19, Jz (ov)), (21, Iz (i))]) hx hb dX0_rest_349 hl rfl (by decide) rfl (fun ls hl => ?_)
                  refine lv_goto (tgt := 176) hx hb dX0_rest_352 (by decide) ?_
                  exact ih_176 _ (by omega) _ _ _ ⟨f1346, (iup (iup g1 j gs) j (gs - 1)), (j + (-1)), rfl, (NX.1), (NX.2.1), (NX.2.2.1), (NX.2.2.2.1), (NX.2.2.2.2.1), (NX.2.2.2.2.2.1), (NX.2.2.2.2.2.2), hV, lv_sub hl [1, 2, 3, 4, 5, 6, 7, 8, 9, 10, 11, 12, 0] rfl⟩
              · skip
                refine lv_iload hx hb dX0_rest_237 (lv_at hl 16 rfl) ?_
                refine lv_iconst (v := Int32.ofInt (3)) hx hb dX0_rest_239 (by decide) ?_
                refine g_icmp_ge (tgt := 305) hx hb ⟨by omega, by omega⟩ ⟨by omega, by omega⟩ dX0_rest_240 (by decide) (fun c_240 => ?_) (fun c_240 => ?_)
                · skip
                  exact k_305 (by
                    first
                    | exact (gs_three gU1 (by rw [show i = 3 by omega] at gU2; exact gU2)).elim
                    | exact gs_exit hbn hwd yd yvv.1 (by omega) etW (by rw [← eld2]; exact eo) gs0 gs1 ov0 (fun w => by omega)
                    | exact gs_exit hbn hwd yd yvv.1 (by omega) etW (by rw [← eld2]; exact eo) gs0 gs1 ov0 (fun w => by
                        have yy_ := ybd (nn b - 2) (by omega)
                        have mm_ := mulB gs0 gs1 yy_.1 yy_.2
                        have ww_ := (hwd (nn b - 2) (by omega) (by omega)).1
                        have cc_ := g_cmp_gt.mp c_249
                        omega)
                    | exact gs_exit hbn hwd yd yvv.1 (by omega) etW (by rw [← eld2]; exact eo) gs0 gs1 ov0 (fun w => by
                        have cc_ := g_cmp_le.mp c_283
                        unfold wn
                        rw [show nn b - 2 + j = j + nn b - 2 by omega, ← enx]
                        exact cc_))
                · skip
                  refine lv_lload hx hb dX0_rest_243 (lv_at hl 15 rfl) ?_
                  refine lv_ldc2 (v := Int64.ofInt (1073741823)) hx hb hown (hts _ (List.mem_cons_of_mem _ cj_X0_20)) dX0_rest_245 ?_
                  refine g_lcmp hx hb ⟨by omega, by omega⟩ ⟨by omega, by omega⟩ dX0_rest_248 ?_
                  refine g_if_gt (tgt := 305) hx hb (g_cmp_i _ _) dX0_rest_249 (by decide) (fun c_249 => ?_) (fun c_249 => ?_)
                  · skip
                    exact k_305 (by
                      first
                      | exact (gs_three gU1 (by rw [show i = 3 by omega] at gU2; exact gU2)).elim
                      | exact gs_exit hbn hwd yd yvv.1 (by omega) etW (by rw [← eld2]; exact eo) gs0 gs1 ov0 (fun w => by omega)
                      | exact gs_exit hbn hwd yd yvv.1 (by omega) etW (by rw [← eld2]; exact eo) gs0 gs1 ov0 (fun w => by
                          have yy_ := ybd (nn b - 2) (by omega)
                          have mm_ := mulB gs0 gs1 yy_.1 yy_.2
                          have ww_ := (hwd (nn b - 2) (by omega) (by omega)).1
                          have cc_ := g_cmp_gt.mp c_249
                          omega)
                      | exact gs_exit hbn hwd yd yvv.1 (by omega) etW (by rw [← eld2]; exact eo) gs0 gs1 ov0 (fun w => by
                          have cc_ := g_cmp_le.mp c_283
                          unfold wn
                          rw [show nn b - 2 + j = j + nn b - 2 by omega, ← enx]
                          exact cc_))
                  · skip
                    refine lv_iload hx hb dX0_rest_252 (lv_at hl 4 rfl) ?_
                    refine lv_iconst (v := Int32.ofInt (1)) hx hb dX0_rest_254 (by decide) ?_
                    refine g_icmp_le (tgt := 305) hx hb ⟨by omega, by omega⟩ ⟨by omega, by omega⟩ dX0_rest_255 (by decide) (fun c_255 => ?_) (fun c_255 => ?_)
                    · skip
                      exact k_305 (by
                        first
                        | exact (gs_three gU1 (by rw [show i = 3 by omega] at gU2; exact gU2)).elim
                        | exact gs_exit hbn hwd yd yvv.1 (by omega) etW (by rw [← eld2]; exact eo) gs0 gs1 ov0 (fun w => by omega)
                        | exact gs_exit hbn hwd yd yvv.1 (by omega) etW (by rw [← eld2]; exact eo) gs0 gs1 ov0 (fun w => by
                            have yy_ := ybd (nn b - 2) (by omega)
                            have mm_ := mulB gs0 gs1 yy_.1 yy_.2
                            have ww_ := (hwd (nn b - 2) (by omega) (by omega)).1
                            have cc_ := g_cmp_gt.mp c_249
                            omega)
                        | exact gs_exit hbn hwd yd yvv.1 (by omega) etW (by rw [← eld2]; exact eo) gs0 gs1 ov0 (fun w => by
                            have cc_ := g_cmp_le.mp c_283
                            unfold wn
                            rw [show nn b - 2 + j = j + nn b - 2 by omega, ← enx]
                            exact cc_))
                    · skip
                      have w0_ := fd (j + nn b - 2) (by omega) (by omega)
                      have nx_ := ybd (nn b - 2) (by omega)
                      have enx : nx = (rdg (gg59 b) (nn b) (2 ^ sh.toNat) (2 ^ (30 - sh).toNat)) (nn b - 2) := by rw [hnx, if_pos (by omega)]
                      have mr := mulB gs0 gs1 (show 0 ≤ nx by omega) (by omega)
                      refine lv_lload hx hb dX0_rest_258 (lv_at hl 14 rfl) ?_
                      refine lv_lload hx hb dX0_rest_260 (lv_at hl 11 rfl) ?_
                      refine g_lmul hx hb dX0_rest_262 ?_
                      refine lv_lload hx hb dX0_rest_263 (lv_at hl 15 rfl) ?_
                      refine lv_bipush (v := Int32.ofInt (30)) hx hb dX0_rest_265 (by decide) ?_
                      refine g_lshl hx hb (by omega) (by omega) dX0_rest_267 ?_
                      rw [show (2 : Int) ^ (30 : Int).toNat = 1073741824 from rfl]
                      refine lv_aload_n hx hb dX0_rest_268 rfl (lv_at hl 0 rfl) ?_
                      refine t_getd E hK hV m0 ((va_up_ne _ _ nq).trans (va_up_self _ _ _)) cf_0_9 dX0_rest_269 ?_
                      refine lv_iload hx hb dX0_rest_272 (lv_at hl 12 rfl) ?_
                      refine lv_iload hx hb dX0_rest_274 (lv_at hl 4 rfl) ?_
                      refine g_iadd hx hb dX0_rest_276 ?_
                      refine lv_iconst (v := Int32.ofInt (2)) hx hb dX0_rest_277 (by decide) ?_
                      refine g_isub hx hb dX0_rest_278 ?_
                      refine t_ald (z := ((j + (nn b)) - 2)) (v := f ((j + (nn b)) - 2)) hx hb hK hV m0 ((va_up_ne _ _ nq).trans (va_up_self _ _ _)) (congrFun ((va_up_ne _ _ nq).trans (va_up_self _ _ _)) _) ((va_up_ne _ _ nq).trans (va_up_self _ _ _)) (by omega) (by omega) dX0_rest_279 ?_
                      refine g_i2l hx hb ⟨by omega, by omega⟩ dX0_rest_280 ?_
                      refine g_lor hx hb (lm_or30 ov0 (by omega) w0_.1 w0_.2) dX0_rest_281 ?_
                      refine g_lcmp hx hb ⟨by omega, by omega⟩ ⟨by have := w0_; omega, by have := w0_; have := g_cmp_le.mp c_249; omega⟩ dX0_rest_282 ?_
                      refine g_if_le (tgt := 305) hx hb (g_cmp_i _ _) dX0_rest_283 (by decide) (fun c_283 => ?_) (fun c_283 => ?_)
                      · skip
                        exact k_305 (by
                          first
                          | exact (gs_three gU1 (by rw [show i = 3 by omega] at gU2; exact gU2)).elim
                          | exact gs_exit hbn hwd yd yvv.1 (by omega) etW (by rw [← eld2]; exact eo) gs0 gs1 ov0 (fun w => by omega)
                          | exact gs_exit hbn hwd yd yvv.1 (by omega) etW (by rw [← eld2]; exact eo) gs0 gs1 ov0 (fun w => by
                              have yy_ := ybd (nn b - 2) (by omega)
                              have mm_ := mulB gs0 gs1 yy_.1 yy_.2
                              have ww_ := (hwd (nn b - 2) (by omega) (by omega)).1
                              have cc_ := g_cmp_gt.mp c_249
                              omega)
                          | exact gs_exit hbn hwd yd yvv.1 (by omega) etW (by rw [← eld2]; exact eo) gs0 gs1 ov0 (fun w => by
                              have cc_ := g_cmp_le.mp c_283
                              unfold wn
                              rw [show nn b - 2 + j = j + nn b - 2 by omega, ← enx]
                              exact cc_))
                      · skip
                        have lw_ : kb_v (wn f j) (nn b + 1).toNat < gs * VV := gs_lower (by omega) hwd yd yvv.1 etW (by rw [← eld2]; exact eo) gs0 (by have cc_ := g_cmp_gt.mp c_283; unfold wn; rw [show nn b - 2 + j = j + nn b - 2 by omega, ← enx]; exact cc_)
                        have gp_ : 1 ≤ gs := by rcases Int.lt_or_le gs 1 with w | w; (· exfalso; have e0 : gs = 0 := (by omega); rw [e0, Int.zero_mul] at lw_; have := kb_v_nonneg hwd; omega); (· exact w)
                        have ovc := g_cmp_le.mp c_249
                        refine lv_lload hx hb dX0_rest_286 (lv_at hl 14 rfl) ?_
                        refine lv_lconst (v := Int64.ofInt 1) hx hb dX0_rest_288 rfl ?_
                        refine g_lsub hx hb dX0_rest_289 ?_
                        refine lv_lstore (lv' := [(17, Jz (gs - 1)), (0, .ref h0), (1, .ref a), (2, .ref b), (3, .ref qq), (4, Iz (nn b)), (5, Iz (sh)), (6, Iz (ss a)), (7, Iz (ss b)), (8, Iz (nn59 h0)), (9, Iz ((nn59 h0) - (nn b))), (10, Jz (ld)), (12, Jz (nx)), (14, Iz (j)), (15, Jz (t)), (19, Jz (ov)), (21, Iz (i))]) hx hb dX0_rest_290 hl (by decide) rfl (fun ls hl => ?_)
                        refine lv_lload hx hb dX0_rest_292 (lv_at hl 15 rfl) ?_
                        refine lv_lload hx hb dX0_rest_294 (lv_at hl 11 rfl) ?_
                        refine g_ladd hx hb dX0_rest_296 ?_
                        refine lv_lstore (lv' := [(19, Jz (ov + ld)), (17, Jz (gs - 1)), (0, .ref h0), (1, .ref a), (2, .ref b), (3, .ref qq), (4, Iz (nn b)), (5, Iz (sh)), (6, Iz (ss a)), (7, Iz (ss b)), (8, Iz (nn59 h0)), (9, Iz ((nn59 h0) - (nn b))), (10, Jz (ld)), (12, Jz (nx)), (14, Iz (j)), (15, Jz (t)), (21, Iz (i))]) hx hb dX0_rest_297 hl (by decide) rfl (fun ls hl => ?_)
                        refine g_iinc (k := 16) (z := i) (n := (1)) (lv' := [(21, Iz (i + 1)), (19, Jz (ov + ld)), (17, Jz (gs - 1)), (0, .ref h0), (1, .ref a), (2, .ref b), (3, .ref qq), (4, Iz (nn b)), (5, Iz (sh)), (6, Iz (ss a)), (7, Iz (ss b)), (8, Iz (nn59 h0)), (9, Iz ((nn59 h0) - (nn b))), (10, Jz (ld)), (12, Jz (nx)), (14, Iz (j)), (15, Jz (t))]) hx hb dX0_rest_299 hl rfl (by decide) rfl (fun ls hl => ?_)
                        refine lv_goto (tgt := 237) hx hb dX0_rest_302 (by decide) ?_
                        exact ih_237 _ (by omega) _ _ _ ⟨(gs - 1), (ov + ld), (i + 1), rfl, (by omega), (by omega), (by omega), (by omega), (by omega), (by omega), (by rw [Int.sub_mul]; omega), (by rw [show gs - 1 + 1 = gs by omega]; exact lw_), (by rw [show gs - 1 + (i + 1) = gs + i by omega]; exact gU2), hV, lv_sub hl [3, 4, 5, 6, 7, 8, 9, 10, 11, 12, 13, 14, 15, 16, 2, 1, 0] rfl⟩
          · skip
            refine lv_iload hx hb dX0_rest_149 (lv_at hl 6 rfl) ?_
            refine lv_iconst (v := Int32.ofInt (1)) hx hb dX0_rest_151 (by decide) ?_
            refine g_icmp_le (tgt := 169) hx hb ⟨by omega, by omega⟩ ⟨by omega, by omega⟩ dX0_rest_152 (by decide) (fun c_152 => ?_) (fun c_152 => ?_)
            · skip
              refine lv_lconst (v := Int64.ofInt 0) hx hb dX0_rest_169 rfl ?_
              exact k_170 _ _ _ _ _ ⟨rfl, rfl, (by first | (rw [if_pos (by omega)]; exact q162) | rw [if_neg (by omega)]), hV⟩
            · skip
              refine lv_aload_n hx hb dX0_rest_155 rfl (lv_at hl 9 rfl) ?_
              refine lv_iload hx hb dX0_rest_156 (lv_at hl 6 rfl) ?_
              refine lv_iconst (v := Int32.ofInt (2)) hx hb dX0_rest_158 (by decide) ?_
              refine g_isub hx hb dX0_rest_159 ?_
              refine lv_iload hx hb dX0_rest_160 (lv_at hl 5 rfl) ?_
              refine c_callsi (As := [.ref b, Iz ((nn b) - 2), Iz (sh)]) (rest := []) E (k0_digitW (b := b) (i := nn b - 2) (sh := sh) enb rfl (by first | rfl | rw [va_up_ne _ _ bq, va_up_ne _ _ (Ne.symm nb)]) (by first | rfl | rw [va_up_ne _ _ bq, va_up_ne _ _ (Ne.symm nb)]) mb (show num1 (nn b) (ss59 b) (ll59 b) (gg59 b) (v b) from by rw [← enb]; exact NB1) s0 s1 (by omega) (by omega)) (c_cwS 3 hts cl_X0_79 ct_X0_digit cn_RX0 cc_X0_digit rfl rfl (by decide +kernel) ⟨Nat.le_of_ble_eq_true rfl, Nat.le_of_ble_eq_true rfl⟩) hK hV hA hR rfl hl.1 (Nat.le_of_ble_eq_true rfl) dX0_rest_162 (fun z162 X162 dd162 nn162 ss162 ll162 gg162 H locs q162 hV hm162 => ?_)
              obtain ⟨e1_, e2_, e3_, e4_, e5_, e6_, q162⟩ := q162
              obtain rfl := e1_.symm
              obtain rfl := e2_.symm
              obtain rfl := e3_.symm
              obtain rfl := e4_.symm
              obtain rfl := e5_.symm
              obtain rfl := e6_.symm
              refine g_i2l hx hb ⟨by have := ybd (nn b - 2) (by omega); omega, by have := ybd (nn b - 2) (by omega); omega⟩ dX0_rest_165 ?_
              refine lv_goto (tgt := 170) hx hb dX0_rest_166 (by decide) ?_
              exact k_170 _ _ _ _ _ ⟨rfl, rfl, (by first | (rw [if_pos (by omega)]; exact q162) | rw [if_neg (by omega)]), hV⟩
        · skip
          refine lv_iload hx hb dX0_rest_110 (lv_at hl 0 rfl) ?_
          refine lv_aload_n hx hb dX0_rest_112 rfl (lv_at hl 9 rfl) ?_
          refine t_getd E hK hV mq ((va_up_ne _ _ (Ne.symm nq)).trans rfl) cf_0_9 dX0_rest_113 ?_
          refine t_len hx hb hK hV mq ((va_up_ne _ _ (Ne.symm nq)).trans rfl) ((va_up_ne _ _ (Ne.symm nq)).trans rfl) dX0_rest_116 ?_
          refine g_icmp_lt (tgt := 132) hx hb ⟨by omega, by omega⟩ ⟨by omega, by omega⟩ dX0_rest_117 (by decide) (fun c_117 => ?_) (fun c_117 => ?_)
          · skip
            exact k_132 _ _ _ _ ⟨((va_up ll59 h0 K) qq), ((va_up dd59 h0 D) qq), ((va_up gg59 h0 (iup F (nn59 h0) 0)) qq), (by first | rfl | simp only [va_up_id]), (by first | rfl | simp only [va_up_id]), (by first | omega | (rw [va_up_ne _ _ (Ne.symm nq)]; omega)), (by first | exact hV | simpa only [va_up_id] using hV)⟩
          · skip
            refine lv_aload_n hx hb dX0_rest_120 rfl (lv_at hl 9 rfl) ?_
            refine lv_iconst (v := Int32.ofInt (2)) hx hb dX0_rest_121 (by decide) ?_
            refine lv_iload hx hb dX0_rest_122 (lv_at hl 0 rfl) ?_
            refine g_imul hx hb dX0_rest_124 ?_
            refine lv_iconst (v := Int32.ofInt (2)) hx hb dX0_rest_125 (by decide) ?_
            refine g_iadd hx hb dX0_rest_126 ?_
            refine t_new E hK hV hA hR qq mq (by rw [va_up_ne _ _ (Ne.symm nq)]; omega) (by omega) dX0_rest_127 (fun q127 H hV => ?_)
            refine t_putd E hK hV mq rfl rfl rfl (by rw [va_up_ne _ _ (Ne.symm nq)]; omega) (by omega) cf_0_9 dX0_rest_129 (fun H locs hV => ?_)
            exact k_132 _ _ _ _ ⟨(((2 * ((nn59 h0) - (nn b))) + 2).toNat), q127, (fun _ => 0), (by first | rfl | simp only [va_up_id]), (by first | rfl | simp only [va_up_id]), (by first | omega | (rw [va_up_ne _ _ (Ne.symm nq)]; omega)), (by first | exact hV | simpa only [va_up_id] using hV)⟩
      · skip
        refine lv_iload hx hb dX0_rest_68 (lv_at hl 0 rfl) ?_
        refine lv_aload_n hx hb dX0_rest_70 rfl (lv_at hl 5 rfl) ?_
        refine t_getd E hK hV m0 rfl cf_0_9 dX0_rest_71 ?_
        refine t_len hx hb hK hV m0 rfl rfl dX0_rest_74 ?_
        refine g_icmp_lt (tgt := 95) hx hb ⟨by omega, by omega⟩ ⟨by omega, by omega⟩ dX0_rest_75 (by decide) (fun c_75 => ?_) (fun c_75 => ?_)
        · skip
          exact k_95 _ _ _ _ ⟨(ll59 h0), (dd59 h0), (gg59 h0), (by first | rfl | simp only [va_up_id]), (by first | rfl | simp only [va_up_id]), (fun t p q => by first | rfl | exact if_pos (by omega)), (by omega), (by first | exact hV | simpa only [va_up_id] using hV)⟩
        · skip
          refine lv_aload_n hx hb dX0_rest_78 rfl (lv_at hl 5 rfl) ?_
          refine lv_aload_n hx hb dX0_rest_79 rfl (lv_at hl 5 rfl) ?_
          refine t_getd E hK hV m0 rfl cf_0_9 dX0_rest_80 ?_
          refine lv_iconst (v := Int32.ofInt (2)) hx hb dX0_rest_83 (by decide) ?_
          refine lv_iload hx hb dX0_rest_84 (lv_at hl 0 rfl) ?_
          refine g_imul hx hb dX0_rest_86 ?_
          refine lv_iconst (v := Int32.ofInt (2)) hx hb dX0_rest_87 (by decide) ?_
          refine g_iadd hx hb dX0_rest_88 ?_
          refine c_copyOf (rest := [.ref h0]) E (c_cwS 2 hts cl_X0_42 ct_J7_copyOf_59c91 cn_RJ7 cc_J7_copyOf_59c91 rfl rfl (by decide +kernel) ⟨Nat.le_of_ble_eq_true rfl, Nat.le_of_ble_eq_true rfl⟩) hK hV hA hR hl.1 (Nat.le_of_ble_eq_true rfl) m0 rfl rfl rfl (by omega) (by omega) dX0_rest_89 (fun q89 H locs hV => ?_)
          refine t_putd E hK hV m0 rfl rfl rfl (by omega) (by omega) cf_0_9 dX0_rest_92 (fun H locs hV => ?_)
          exact k_95 _ _ _ _ ⟨(((2 * (nn59 h0)) + 2).toNat), q89, (cpf (gg59 h0) (fun _ => 0) (ll59 h0)), (by first | rfl | simp only [va_up_id]), (by first | rfl | simp only [va_up_id]), (fun t p q => by first | rfl | exact if_pos (by omega)), (by omega), (by first | exact hV | simpa only [va_up_id] using hV)⟩
    · skip
      refine lv_aload_n hx hb dX0_rest_15 rfl (lv_at hl 0 rfl) ?_
      refine lv_aload_n hx hb dX0_rest_16 rfl (lv_at hl 1 rfl) ?_
      refine c_callv (As := [.ref a]) (rest := []) E (k0_copy (v := v) (h0 := h0) (a := a) m0 hN ma na (by omega)) (cwV 1 hts (cGood cl_X0_32 ci_X0_copy cs_X0_copy cn_RX0 cc_X0_copy) rfl rfl rfl (by decide +kernel) ⟨Nat.le_of_ble_eq_true rfl, Nat.le_of_ble_eq_true rfl⟩) (b_recv hK hV m0) hK hV hA hR rfl hl.1 (Nat.le_of_ble_eq_true rfl) dX0_rest_17 (fun X17 dd17 nn17 ss17 ll17 gg17 H locs q17 hV hm17 => ?_)
      obtain ⟨e1_, hN⟩ := q17
      obtain rfl := e1_.symm
      refine lv_aload_n hx hb dX0_rest_20 rfl (lv_at hl 3 rfl) ?_
      refine c_callv (As := []) (rest := []) E (k0_clear (v := va_up v h0 (v a)) (h0 := qq) mq hN) (cwV 0 hts (cGood cl_X0_52 ci_X0_clear cs_X0_clear cn_RX0 cc_X0_clear) rfl rfl rfl (by decide +kernel) ⟨Nat.le_of_ble_eq_true rfl, Nat.le_of_ble_eq_true rfl⟩) (b_recv hK hV mq) hK hV hA hR rfl hl.1 (Nat.le_of_ble_eq_true rfl) dX0_rest_21 (fun X21 dd21 nn21 ss21 ll21 gg21 H locs q21 hV hm21 => ?_)
      obtain ⟨e1_, hN⟩ := q21
      obtain rfl := e1_.symm
      have hpost : X = X ∧ cR LB nn21 ss21 ll21 gg21 (va_up (va_up v h0 ((v a).tmod (v b))) qq ((v a).tdiv (v b))) := ⟨rfl, by
            first
            | (have e := (num1_zero NB).mp c_4; rw [e, Int.tmod_zero, Int.tdiv_zero]; exact hN)
            | (have e := tm_small (a := v a) (b := v b) (cq2.mp (by omega)); rw [e.1, e.2]; exact hN)⟩
      exact c_vret hx hb hr hK hV hpost dX0_rest_24 hlocks
