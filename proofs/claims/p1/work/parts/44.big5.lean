theorem mulB {x y : Int} (x0 : 0 ≤ x) (x1 : x < 1073741824) (y0 : 0 ≤ y) (y1 : y < 1073741824) : 0 ≤ x * y ∧ x * y ≤ 1152921502459363329 := by
  refine ⟨Int.mul_nonneg x0 y0, ?_⟩
  have h1 : x * y ≤ 1073741823 * y := Int.mul_le_mul_of_nonneg_right (by omega) y0
  omega
theorem mul_step {f F0 gb : Int → Int} {i j x c d c' : Int} (i0 : 0 ≤ i) (j0 : 0 ≤ j) (e : kb_v f (i + j).toNat + c * 1073741824 ^ (i + j).toNat = kb_v F0 (i + j).toNat + x * 1073741824 ^ i.toNat * kb_v gb j.toNat) (hd : d + c' * 1073741824 = x * gb j + F0 (i + j) + c) : kb_v (iup f (i + j) d) (i + (j + 1)).toNat + c' * 1073741824 ^ (i + (j + 1)).toNat = kb_v F0 (i + (j + 1)).toNat + x * 1073741824 ^ i.toNat * kb_v gb (j + 1).toNat := by
  have e1 : (i + (j + 1)).toNat = (i + j).toNat + 1 := by omega
  have e2 : (((i + j).toNat : Nat) : Int) = i + j := Int.toNat_of_nonneg (by omega)
  have e3 : (j + 1).toNat = j.toNat + 1 := by omega
  have e4 : ((j.toNat : Nat) : Int) = j := Int.toNat_of_nonneg j0
  have e5 : (i + j).toNat = i.toNat + j.toNat := by omega
  have u : kb_v (iup f (i + j) d) ((i + j).toNat + 1) = kb_v f (i + j).toNat + d * 1073741824 ^ (i + j).toNat := kb_v_up (fun t h0 h1 => iup_ne (by omega)) (by rw [e2]; exact iup_self)
  have ua : kb_v F0 ((i + j).toNat + 1) = kb_v F0 (i + j).toNat + F0 (((i + j).toNat : Nat) : Int) * 1073741824 ^ (i + j).toNat := rfl
  have ub : kb_v gb (j.toNat + 1) = kb_v gb j.toNat + gb ((j.toNat : Nat) : Int) * 1073741824 ^ j.toNat := rfl
  rw [e2] at ua
  rw [e4] at ub
  rw [e1, e3, u, ua, ub, kb_pow_succ]
  have e6 : (1073741824 : Int) ^ (i + j).toNat = 1073741824 ^ i.toNat * 1073741824 ^ j.toNat := by rw [e5, Int.pow_add]
  rw [e6] at e ⊢
  generalize (1073741824 : Int) ^ i.toNat = P at *
  generalize (1073741824 : Int) ^ j.toNat = Q at *
  generalize kb_v f (i + j).toNat = K at *
  generalize kb_v F0 (i + j).toNat = K0 at *
  generalize kb_v gb j.toNat = G at *
  grind
theorem mul_row {f ga : Int → Int} {i nb c V : Int} (i0 : 0 ≤ i) (n0 : 0 ≤ nb) (e : kb_v f (i + nb).toNat + c * 1073741824 ^ (i + nb).toNat = kb_v ga i.toNat * V + ga i * 1073741824 ^ i.toNat * V) : kb_v (iup f (i + nb) c) (i + 1 + nb).toNat = kb_v ga (i + 1).toNat * V := by
  have e1 : (i + 1 + nb).toNat = (i + nb).toNat + 1 := by omega
  have e2 : (((i + nb).toNat : Nat) : Int) = i + nb := Int.toNat_of_nonneg (by omega)
  have e3 : (i + 1).toNat = i.toNat + 1 := by omega
  have e4 : ((i.toNat : Nat) : Int) = i := Int.toNat_of_nonneg i0
  have u : kb_v (iup f (i + nb) c) ((i + nb).toNat + 1) = kb_v f (i + nb).toNat + c * 1073741824 ^ (i + nb).toNat := kb_v_up (fun t h0 h1 => iup_ne (by omega)) (by rw [e2]; exact iup_self)
  have ub : kb_v ga (i.toNat + 1) = kb_v ga i.toNat + ga ((i.toNat : Nat) : Int) * 1073741824 ^ i.toNat := rfl
  rw [e4] at ub
  rw [e1, e3, u, ub, e, Int.add_mul]
theorem sg_mul (A B : Int) : sg A * sg B = sg (A * B) := by
  rcases Int.lt_trichotomy A 0 with a | a | a
  · rcases Int.lt_trichotomy B 0 with b | b | b
    · rw [sg_neg.mpr a, sg_neg.mpr b, sg_pos.mpr (Int.mul_pos_of_neg_of_neg a b)]; rfl
    · subst b; rw [Int.mul_zero, sg_zero.mpr rfl, Int.mul_zero]
    · rw [sg_neg.mpr a, sg_pos.mpr b, sg_neg.mpr (Int.mul_neg_of_neg_of_pos a b)]; rfl
  · subst a; rw [Int.zero_mul, sg_zero.mpr rfl, Int.zero_mul]
  · rcases Int.lt_trichotomy B 0 with b | b | b
    · rw [sg_pos.mpr a, sg_neg.mpr b, sg_neg.mpr (Int.mul_neg_of_pos_of_neg a b)]; rfl
    · subst b; rw [Int.mul_zero, sg_zero.mpr rfl, Int.mul_zero]
    · rw [sg_pos.mpr a, sg_pos.mpr b, sg_pos.mpr (Int.mul_pos a b)]; rfl
theorem mul_big {a b : Int} {m n : Nat} (h1 : 1073741824 ^ m ≤ a) (h2 : 1073741824 ^ n ≤ b) : (1073741824 : Int) ^ (m + n) ≤ a * b := by
  rw [Int.pow_add]
  have p1 := kb_pow_pos m
  have p2 := kb_pow_pos n
  exact Int.mul_le_mul h1 h2 (by omega) (by omega)
/-- the end of a product: one digit may be wanting at the top -/
theorem num1_top {top s : Int} {k : Nat} {f : Int → Int} {V : Int} (t1 : 1 ≤ top) (h2 : top ≤ k) (h3 : 5 ≤ k) (h4 : kb_d f top.toNat) (h7 : s = sg V) (h8 : kb_v f top.toNat = (V.natAbs : Int)) (h9 : 2 ≤ top → 1073741824 ^ (top - 2).toNat ≤ (V.natAbs : Int)) : (f (top - 1) = 0 → num1 (top - 1) s k f V) ∧ (f (top - 1) ≠ 0 → num1 top s k f V) := by
  constructor
  · intro q
    refine num1_of (top := top) (by omega) (by omega) h2 h3 h4 (fun z => ?_) (fun i a b => by rw [show i = top - 1 by omega]; exact q) h7 h8
    have e : top.toNat = (top - 1).toNat + 1 := by omega
    have hk : kb_v f top.toNat = kb_v f (top - 1).toNat := by
      rw [e]
      show kb_v f (top - 1).toNat + f (((top - 1).toNat : Nat) : Int) * _ = _
      rw [show (((top - 1).toNat : Nat) : Int) = top - 1 by omega, q, Int.zero_mul, Int.add_zero]
    refine kb_top (n := top - 1) (by omega) (kb_d_of_le h4 (by omega)) ?_
    rw [← hk, h8, show top - 1 - 1 = top - 2 by omega]
    exact h9 (by omega)
  · intro q
    exact num1_of (top := top) (by omega) (Int.le_refl _) h2 h3 h4 (fun _ => q) (fun i a b => by omega) h7 h8
set_option maxHeartbeats 4000000 in
set_option maxRecDepth 100000 in
theorem k0_times {l : Launch} {dC : Nat → ClassId} {dI : Nat → Nat → Nat} {cx : Nat → Nat} {LB : List Nat} {X : va_W} {dd : Nat → Nat} {nn ss : Nat → Int} {ll : Nat → Nat} {gg : Nat → Int → Int} {H0 : Heap} {v : Nat → Int} {h0 a b : Nat} (m0 : h0 ∈ LB) (hN : cR LB nn ss ll gg v) (ma : a ∈ LB) (mb : b ∈ LB) (na : h0 ≠ a) (nb : h0 ≠ b) (kab : nn a + nn b ≤ 200) : Met l yX0_times (Cond.code yX0_times cX0_times 14 none :: w0c) (cRm 1 20 LB ll) (cPc dC dI cx LB X dd nn ss ll gg H0 [.ref h0, .ref a, .ref b]) (cQv dC dI cx LB (va_A (bW (cx 0) LB dd nn ss ll gg X) H0.size) ll H0 (fun X' dd' nn' ss' ll' gg' => X' = X ∧ cR LB nn' ss' ll' gg' (va_up v h0 (v a * v b)))) (cMc LB ll) (2 * cMc LB ll) (va_A (bW (cx 0) LB dd nn ss ll gg X) H0.size) := by
  refine Met.ofW (cc := cX0_times) (maxL := 14) (ret := none) (by decide) rfl ?_
  intro p e s m args below meth c s₁ B hml hv
  obtain ⟨rfl, hH0, hP, hK, hD0, hC0⟩ := hv
  have hx := B.exec
  have hb := B.bytes
  have hr := B.returns
  have hts := atoms_spec (ws := Cond.code yX0_times cX0_times 14 none :: w0c) B.pre
  have hown : s.vm.findClass RX0 = some m.cls := findClass_of_methodNamed B.named
  have hlocks := B.notSynchronized
  have E : CallFix p m c cX0_times 14 s _ (Cond.code yX0_times cX0_times 14 none :: w0c) RX0 := ⟨hx, hb, hml, hown, hts⟩
  subst hH0
  have hD := va_D.self (sz := s.heap.size) hD0
  have hA : ∀ q : Nat, s.heap.size ≤ q → va_A (bW (cx 0) LB dd nn ss ll gg X) s.heap.size q := fun q h => Or.inr h
  have hV : cV dC dI cx LB (va_A (bW (cx 0) LB dd nn ss ll gg X) s.heap.size) s.heap ll X dd nn ss ll gg s.heap [] := ⟨hP, hD, va_S.rf, fun _ _ => Nat.le_refl _, hC0⟩
  have hR : (headSpec (Cond.code yX0_times cX0_times 14 none :: w0c) (cRm 1 20 LB ll)).room.cells = cMc LB ll ∧ (headSpec (Cond.code yX0_times cX0_times 14 none :: w0c) (cRm 1 20 LB ll)).room.slots = 2 * cMc LB ll := ⟨rfl, rfl⟩
  refine W.widen (k := cP LB ll - cP LB ll) (n := 2 * (cP LB ll - cP LB ll)) (Nat.zero_le _) (Nat.zero_le _) ?_
  have hl := lv_entry ([.ref h0, .ref a, .ref b]) (n := 14) (Nat.le_of_ble_eq_true rfl)
  rw [lg_entry_eq]
  generalize (lg_sl ([.ref h0, .ref a, .ref b]) ++ List.replicate (14 - (lg_sl ([.ref h0, .ref a, .ref b])).length) Slot.unset).toArray = ls at hl ⊢
  have hl : lv_has ls 14 [(0, .ref h0), (1, .ref a), (2, .ref b)] := hl
  have N0 := hN h0 m0
  obtain ⟨n0_, n1_, k5_, dg_, tp_, sg_, vl_⟩ := hN h0 m0
  have c4_ := (hC0 h0 m0).2
  have sb_ := sg_bd (v h0)
  have NA := hN a ma
  obtain ⟨n0a, n1a, k5a, dga, tpa, sga, vla⟩ := hN a ma
  have c4a := (hC0 a ma).2
  have sba := sg_bd (v a)
  have NB := hN b mb
  obtain ⟨n0b, n1b, k5b, dgb, tpb, sgb, vlb⟩ := hN b mb
  have c4b := (hC0 b mb).2
  have sbb := sg_bd (v b)
  refine lv_aload_n hx hb dX0_times_0 rfl (lv_at hl 1 rfl) ?_
  refine t_getn E hK hV ma rfl cf_0_13 dX0_times_1 ?_
  refine lv_istore_n (lv' := [(3, Iz (nn a)), (0, .ref h0), (1, .ref a), (2, .ref b)]) hx hb dX0_times_4 rfl hl (by decide) rfl (fun ls hl => ?_)
  refine lv_aload_n hx hb dX0_times_5 rfl (lv_at hl 3 rfl) ?_
  refine t_getn E hK hV mb rfl cf_0_13 dX0_times_6 ?_
  refine lv_istore (lv' := [(4, Iz (nn b)), (3, Iz (nn a)), (0, .ref h0), (1, .ref a), (2, .ref b)]) hx hb dX0_times_9 hl (by decide) rfl (fun ls hl => ?_)
  refine lv_iload_n hx hb dX0_times_11 rfl (lv_at hl 1 rfl) ?_
  refine lv_iload hx hb dX0_times_12 (lv_at hl 0 rfl) ?_
  refine g_iadd hx hb dX0_times_14 ?_
  refine lv_istore (lv' := [(5, Iz ((nn a) + (nn b))), (4, Iz (nn b)), (3, Iz (nn a)), (0, .ref h0), (1, .ref a), (2, .ref b)]) hx hb dX0_times_15 hl (by decide) rfl (fun ls hl => ?_)
  refine lv_iload_n hx hb dX0_times_17 rfl (lv_at hl 2 rfl) ?_
  refine g_if_eq (tgt := 26) hx hb ⟨by omega, by omega⟩ dX0_times_18 (by decide) (fun c_18 => ?_) (fun c_18 => ?_)
  · skip
    refine lv_aload_n hx hb dX0_times_26 rfl (lv_at hl 3 rfl) ?_
    refine c_callv (As := []) (rest := []) E (k0_clear (v := v) (h0 := h0) m0 hN) (cwV 0 hts (cGood cl_X0_52 ci_X0_clear cs_X0_clear cn_RX0 cc_X0_clear) rfl rfl rfl (by decide +kernel) ⟨Nat.le_of_ble_eq_true rfl, Nat.le_of_ble_eq_true rfl⟩) (b_recv hK hV m0) hK hV hA hR rfl hl.1 (Nat.le_of_ble_eq_true rfl) dX0_times_27 (fun X27 dd27 nn27 ss27 ll27 gg27 H locs q27 hV hm27 => ?_)
    obtain ⟨e1_, hN⟩ := q27
    obtain rfl := e1_.symm
    have hpost : X = X ∧ cR LB nn27 ss27 ll27 gg27 (va_up v h0 (v a * v b)) := ⟨rfl, by
          have e : v a * v b = 0 := by
            first
            | rw [(num1_zero NA).mp c_18, Int.zero_mul]
            | rw [(num1_zero NB).mp c_23, Int.mul_zero]
          rw [e]; exact hN⟩
    exact c_vret hx hb hr hK hV hpost dX0_times_30 hlocks
  · skip
    refine lv_iload hx hb dX0_times_21 (lv_at hl 1 rfl) ?_
    refine g_if_ne (tgt := 31) hx hb ⟨by omega, by omega⟩ dX0_times_23 (by decide) (fun c_23 => ?_) (fun c_23 => ?_)
    · skip
      refine lv_iload hx hb dX0_times_31 (lv_at hl 0 rfl) ?_
      refine lv_aload_n hx hb dX0_times_33 rfl (lv_at hl 3 rfl) ?_
      refine t_getd E hK hV m0 rfl cf_0_9 dX0_times_34 ?_
      refine t_len hx hb hK hV m0 rfl rfl dX0_times_37 ?_
      refine g_icmp_le (tgt := 51) hx hb (by first | assumption | exact ⟨by omega, by omega⟩) (by first | assumption | exact ⟨by omega, by omega⟩) dX0_times_38 (by decide) (fun c_38 => ?_) (fun c_38 => ?_)
      · skip
        have kl : nn a + nn b ≤ (((ll h0) : Nat) : Int) := by omega
        have k5 : 5 ≤ (((ll h0) : Nat) : Int) := by omega
        refine lv_iconst (v := Int32.ofInt (0)) hx hb dX0_times_51 (by decide) ?_
        refine lv_istore (lv' := [(6, Iz (0)), (5, Iz ((nn a) + (nn b))), (4, Iz (nn b)), (3, Iz (nn a)), (0, .ref h0), (1, .ref a), (2, .ref b)]) hx hb dX0_times_52 hl (by decide) rfl (fun ls hl => ?_)
        have hV := cV_nor hV (va_up_id gg h0).symm
        refine r_loop (P := fun N_ H locs ls => ∃ f : Int → Int, ∃ i : Int, N_ = (nn a + nn b - i).toNat ∧ (0 ≤ i) ∧ (i ≤ nn a + nn b) ∧ (∀ t : Int, 0 ≤ t → t < i → f t = 0) ∧ cV dC dI cx LB (va_A (bW (cx 0) LB dd nn ss ll gg X) s.heap.size) s.heap ll X dd nn ss ll (va_up gg h0 f) H locs ∧ lv_has ls 14 [(0, .ref h0), (1, .ref a), (2, .ref b), (3, Iz (nn a)), (4, Iz (nn b)), (5, Iz ((nn a) + (nn b))), (6, Iz (i))]) (g := fun ls => F0 m 54 ls []) (fun N_ H locs ls hI ih_54 => ?_) _ _ _ _ ⟨(gg h0), 0, rfl, (Int.le_refl 0), (by omega), (fun t p q => by omega), hV, lv_sub hl [4, 5, 6, 3, 2, 1, 0] rfl⟩
        obtain ⟨f, i, rfl, i0, i1, fz, hV, hl⟩ := hI
        refine lv_iload hx hb dX0_times_54 (lv_at hl 6 rfl) ?_
        refine lv_iload hx hb dX0_times_56 (lv_at hl 5 rfl) ?_
        refine g_icmp_ge (tgt := 75) hx hb ⟨by omega, by omega⟩ ⟨by omega, by omega⟩ dX0_times_58 (by decide) (fun c_58 => ?_) (fun c_58 => ?_)
        · skip
          have ez : i = nn a + nn b := by omega
          rw [ez] at fz
          have fd0 : kb_d f (nn a + nn b).toNat := fun t h0 h1 => by rw [fz t h0 (by omega)]; omega
          refine lv_iconst (v := Int32.ofInt (0)) hx hb dX0_times_75 (by decide) ?_
          refine lv_istore (lv' := [(6, Iz (0)), (0, .ref h0), (1, .ref a), (2, .ref b), (3, Iz (nn a)), (4, Iz (nn b)), (5, Iz ((nn a) + (nn b)))]) hx hb dX0_times_76 hl (by decide) rfl (fun ls hl => ?_)
          refine r_loop (P := fun N_ H locs ls => ∃ f : Int → Int, ∃ i : Int, N_ = (nn a - i).toNat ∧ (0 ≤ i) ∧ (i ≤ nn a) ∧ (kb_d f (nn a + nn b).toNat) ∧ (∀ t : Int, i + nn b ≤ t → t < nn a + nn b → f t = 0) ∧ (kb_v f (i + nn b).toNat = kb_v (gg a) i.toNat * ((v b).natAbs : Int)) ∧ cV dC dI cx LB (va_A (bW (cx 0) LB dd nn ss ll gg X) s.heap.size) s.heap ll X dd nn ss ll (va_up gg h0 f) H locs ∧ lv_has ls 14 [(0, .ref h0), (1, .ref a), (2, .ref b), (3, Iz (nn a)), (4, Iz (nn b)), (5, Iz ((nn a) + (nn b))), (6, Iz (i))]) (g := fun ls => F0 m 78 ls []) (fun N_ H locs ls hI ih_78 => ?_) _ _ _ _ ⟨f, 0, rfl, (Int.le_refl 0), (by omega), (fd0), (fun t p q => fz t (by omega) q), (by rw [kb_v_zero (k := 0) (f := f) (Nat.zero_le _) (fun t p q => fz t (by omega) (by omega))]; show (0 : Int) = 0 * _; rw [Int.zero_mul]), hV, lv_sub hl [1, 2, 3, 4, 5, 6, 0] rfl⟩
          obtain ⟨f, i, rfl, i0, i1, fd, fz, fv, hV, hl⟩ := hI
          refine lv_iload hx hb dX0_times_78 (lv_at hl 6 rfl) ?_
          refine lv_iload_n hx hb dX0_times_80 rfl (lv_at hl 3 rfl) ?_
          refine g_icmp_ge (tgt := 184) hx hb (by first | assumption | exact ⟨by omega, by omega⟩) (by first | assumption | exact ⟨by omega, by omega⟩) dX0_times_81 (by decide) (fun c_81 => ?_) (fun c_81 => ?_)
          · skip
            have ei : i = nn a := by omega
            rw [ei, vla] at fv
            refine lv_aload_n hx hb dX0_times_184 rfl (lv_at hl 0 rfl) ?_
            refine lv_aload_n hx hb dX0_times_185 rfl (lv_at hl 0 rfl) ?_
            refine t_getd E hK hV m0 rfl cf_0_9 dX0_times_186 ?_
            refine lv_iload hx hb dX0_times_189 (lv_at hl 5 rfl) ?_
            refine lv_iconst (v := Int32.ofInt (1)) hx hb dX0_times_191 (by decide) ?_
            refine g_isub hx hb dX0_times_192 ?_
            refine t_ald (z := (((nn a) + (nn b)) - 1)) (v := f (((nn a) + (nn b)) - 1)) hx hb hK hV m0 rfl (congrFun (va_up_self _ _ _) _) rfl (by omega) (by omega) dX0_times_193 ?_
            refine g_if_ne (tgt := 204) hx hb ⟨by have := (fd (nn a + nn b - 1) (by omega) (by omega)).1; omega, by have := (fd (nn a + nn b - 1) (by omega) (by omega)).2; omega⟩ dX0_times_194 (by decide) (fun c_194 => ?_) (fun c_194 => ?_)
            · skip
              refine lv_iload hx hb dX0_times_204 (lv_at hl 5 rfl) ?_
              refine t_putn E hK hV m0 rfl cf_0_13 dX0_times_206 (fun H locs hV => ?_)
              refine lv_aload_n hx hb dX0_times_209 rfl (lv_at hl 0 rfl) ?_
              refine lv_aload_n hx hb dX0_times_210 rfl (lv_at hl 1 rfl) ?_
              refine t_gets E hK hV ma rfl cf_0_17 dX0_times_211 ?_
              refine lv_aload_n hx hb dX0_times_214 rfl (lv_at hl 2 rfl) ?_
              refine t_gets E hK hV mb rfl cf_0_17 dX0_times_215 ?_
              refine g_imul hx hb dX0_times_218 ?_
              refine t_puts E hK hV m0 rfl cf_0_17 dX0_times_219 (fun H locs hV => ?_)
              have hpost : X = X ∧ cR LB (va_up nn h0 ((nn a) + (nn b))) (va_up ss h0 ((ss a) * (ss b))) ll (va_up gg h0 f) (va_up v h0 (v a * v b)) := ⟨rfl, by
                    have tt := num1_top (s := ss a * ss b) (V := v a * v b) (f := f) (k := (ll h0)) (top := nn a + nn b) (by omega) (by omega) (by omega) fd (by rw [sga, sgb]; exact sg_mul _ _) (by rw [fv, Int.natAbs_mul, Int.natCast_mul]) (fun _ => by
                      have h1 := num1_ge NA (by omega)
                      have h2 := num1_ge NB (by omega)
                      have h3 := mul_big h1 h2
                      rw [Int.natAbs_mul, Int.natCast_mul, show (nn a + nn b - 2).toNat = (nn a - 1).toNat + (nn b - 1).toNat by omega]
                      exact h3)
                    have h := cR_up (h0 := h0) hN (by first | exact tt.1 c_194 | exact tt.2 c_194)
                    first
                    | exact h
                    | (rw [va_up_id] at h; exact h)⟩
              exact c_vret hx hb hr hK hV hpost dX0_times_222 hlocks
            · skip
              refine lv_iload hx hb dX0_times_197 (lv_at hl 5 rfl) ?_
              refine lv_iconst (v := Int32.ofInt (1)) hx hb dX0_times_199 (by decide) ?_
              refine g_isub hx hb dX0_times_200 ?_
              refine lv_goto (tgt := 206) hx hb dX0_times_201 (by decide) ?_
              refine t_putn E hK hV m0 rfl cf_0_13 dX0_times_206 (fun H locs hV => ?_)
              refine lv_aload_n hx hb dX0_times_209 rfl (lv_at hl 0 rfl) ?_
              refine lv_aload_n hx hb dX0_times_210 rfl (lv_at hl 1 rfl) ?_
              refine t_gets E hK hV ma rfl cf_0_17 dX0_times_211 ?_
              refine lv_aload_n hx hb dX0_times_214 rfl (lv_at hl 2 rfl) ?_
              refine t_gets E hK hV mb rfl cf_0_17 dX0_times_215 ?_
              refine g_imul hx hb dX0_times_218 ?_
              refine t_puts E hK hV m0 rfl cf_0_17 dX0_times_219 (fun H locs hV => ?_)
              have hpost : X = X ∧ cR LB (va_up nn h0 (((nn a) + (nn b)) - 1)) (va_up ss h0 ((ss a) * (ss b))) ll (va_up gg h0 f) (va_up v h0 (v a * v b)) := ⟨rfl, by
                    have tt := num1_top (s := ss a * ss b) (V := v a * v b) (f := f) (k := (ll h0)) (top := nn a + nn b) (by omega) (by omega) (by omega) fd (by rw [sga, sgb]; exact sg_mul _ _) (by rw [fv, Int.natAbs_mul, Int.natCast_mul]) (fun _ => by
                      have h1 := num1_ge NA (by omega)
                      have h2 := num1_ge NB (by omega)
                      have h3 := mul_big h1 h2
                      rw [Int.natAbs_mul, Int.natCast_mul, show (nn a + nn b - 2).toNat = (nn a - 1).toNat + (nn b - 1).toNat by omega]
                      exact h3)
                    have h := cR_up (h0 := h0) hN (by first | exact tt.1 c_194 | exact tt.2 c_194)
                    first
                    | exact h
                    | (rw [va_up_id] at h; exact h)⟩
              exact c_vret hx hb hr hK hV hpost dX0_times_222 hlocks
          · skip
            have xr := dga i i0 (by omega)
            refine lv_aload_n hx hb dX0_times_84 rfl (lv_at hl 1 rfl) ?_
            refine t_getd E hK hV ma rfl cf_0_9 dX0_times_85 ?_
            refine lv_iload hx hb dX0_times_88 (lv_at hl 6 rfl) ?_
            refine t_ald (z := i) (v := gg a i) hx hb hK hV ma rfl (congrFun ((va_up_ne _ _ (Ne.symm na)).trans rfl) _) rfl (by omega) (by omega) dX0_times_90 ?_
            refine g_i2l hx hb ⟨by omega, by omega⟩ dX0_times_91 ?_
            refine lv_lstore (lv' := [(7, Jz (gg a i)), (0, .ref h0), (1, .ref a), (2, .ref b), (3, Iz (nn a)), (4, Iz (nn b)), (5, Iz ((nn a) + (nn b))), (6, Iz (i))]) hx hb dX0_times_92 hl (by decide) rfl (fun ls hl => ?_)
            refine lv_lconst (v := Int64.ofInt 0) hx hb dX0_times_94 rfl ?_
            refine lv_lstore (lv' := [(9, Jz (0)), (7, Jz (gg a i)), (0, .ref h0), (1, .ref a), (2, .ref b), (3, Iz (nn a)), (4, Iz (nn b)), (5, Iz ((nn a) + (nn b))), (6, Iz (i))]) hx hb dX0_times_95 hl (by decide) rfl (fun ls hl => ?_)
            refine lv_iconst (v := Int32.ofInt (0)) hx hb dX0_times_97 (by decide) ?_
            refine lv_istore (lv' := [(11, Iz (0)), (9, Jz (0)), (7, Jz (gg a i)), (0, .ref h0), (1, .ref a), (2, .ref b), (3, Iz (nn a)), (4, Iz (nn b)), (5, Iz ((nn a) + (nn b))), (6, Iz (i))]) hx hb dX0_times_98 hl (by decide) rfl (fun ls hl => ?_)
            refine r_loop (P := fun N_ H locs ls => ∃ g : Int → Int, ∃ cy : Int, ∃ j : Int, N_ = (nn b - j).toNat ∧ (0 ≤ j) ∧ (j ≤ nn b) ∧ (0 ≤ cy) ∧ (cy < 1073741824) ∧ (kb_d g (nn a + nn b).toNat) ∧ (∀ t : Int, i + j ≤ t → g t = f t) ∧ (kb_v g (i + j).toNat + cy * 1073741824 ^ (i + j).toNat = kb_v f (i + j).toNat + gg a i * 1073741824 ^ i.toNat * kb_v (gg b) j.toNat) ∧ cV dC dI cx LB (va_A (bW (cx 0) LB dd nn ss ll gg X) s.heap.size) s.heap ll X dd nn ss ll (va_up gg h0 g) H locs ∧ lv_has ls 14 [(0, .ref h0), (1, .ref a), (2, .ref b), (3, Iz (nn a)), (4, Iz (nn b)), (5, Iz ((nn a) + (nn b))), (6, Iz (i)), (7, Jz (gg a i)), (9, Jz (cy)), (11, Iz (j))]) (g := fun ls => F0 m 100 ls []) (fun N_ H locs ls hI ih_100 => ?_) _ _ _ _ ⟨f, 0, 0, rfl, (Int.le_refl 0), (by omega), (Int.le_refl 0), (by omega), (fd), (fun t _ => rfl), (by show _ + 0 * _ = _ + _ * 0; rw [Int.zero_mul, Int.mul_zero]), hV, lv_sub hl [3, 4, 5, 6, 7, 8, 9, 2, 1, 0] rfl⟩
            obtain ⟨g, cy, j, rfl, j0, j1, cy0, cy1, gd, ge, gv, hV, hl⟩ := hI
            refine lv_iload hx hb dX0_times_100 (lv_at hl 9 rfl) ?_
            refine lv_iload hx hb dX0_times_102 (lv_at hl 4 rfl) ?_
            refine g_icmp_ge (tgt := 165) hx hb (by first | assumption | exact ⟨by omega, by omega⟩) (by first | assumption | exact ⟨by omega, by omega⟩) dX0_times_104 (by decide) (fun c_104 => ?_) (fun c_104 => ?_)
            · skip
              have ej : j = nn b := by omega
              rw [ej] at gv ge
              rw [vlb, fv] at gv
              refine lv_aload_n hx hb dX0_times_165 rfl (lv_at hl 0 rfl) ?_
              refine t_getd E hK hV m0 rfl cf_0_9 dX0_times_166 ?_
              refine lv_iload hx hb dX0_times_169 (lv_at hl 6 rfl) ?_
              refine lv_iload hx hb dX0_times_171 (lv_at hl 4 rfl) ?_
              refine g_iadd hx hb dX0_times_173 ?_
              refine lv_lload hx hb dX0_times_174 (lv_at hl 8 rfl) ?_
              refine g_l2i hx hb dX0_times_176 ?_
              refine t_ast (z := (i + (nn b))) (v := cy) (gf := (va_up gg h0 (iup g (i + (nn b)) cy))) hx hb hK hV m0 rfl ((congrArg (fun q => va_up (va_up gg h0 g) h0 (iup q (i + (nn b)) cy)) (va_up_self _ _ _)).trans (va_up_up _ _ _ _)) rfl (by omega) (by omega) dX0_times_177 (fun H locs hV => ?_)
              refine g_iinc (k := 6) (z := i) (n := (1)) (lv' := [(6, Iz (i + 1)), (0, .ref h0), (1, .ref a), (2, .ref b), (3, Iz (nn a)), (4, Iz (nn b)), (5, Iz ((nn a) + (nn b))), (7, Jz (gg a i)), (9, Jz (cy)), (11, Iz (j))]) hx hb dX0_times_178 hl rfl (by decide) rfl (fun ls hl => ?_)
              refine lv_goto (tgt := 78) hx hb dX0_times_181 (by decide) ?_
              exact ih_78 _ (by omega) _ _ _ ⟨(iup g (i + (nn b)) cy), (i + 1), rfl, (by omega), (by omega), (kb_d_upd gd (by omega) (by omega)), (fun t p q => by rw [iup_ne (by omega), ge t (by omega)]; exact fz t (by omega) q), (mul_row i0 n0b gv), hV, lv_sub hl [1, 2, 3, 4, 5, 6, 0] rfl⟩
            · skip
              have yr := dgb j j0 (by omega)
              have gr := gd (i + j) (by omega) (by omega)
              have mr := mulB xr.1 xr.2 yr.1 yr.2
              have gF := ge (i + j) (by omega)
              refine lv_lload hx hb dX0_times_107 (lv_at hl 7 rfl) ?_
              refine lv_aload_n hx hb dX0_times_109 rfl (lv_at hl 2 rfl) ?_
              refine t_getd E hK hV mb rfl cf_0_9 dX0_times_110 ?_
              refine lv_iload hx hb dX0_times_113 (lv_at hl 9 rfl) ?_
              refine t_ald (z := j) (v := gg b j) hx hb hK hV mb rfl (congrFun ((va_up_ne _ _ (Ne.symm nb)).trans rfl) _) rfl (by omega) (by omega) dX0_times_115 ?_
              refine g_i2l hx hb ⟨by omega, by omega⟩ dX0_times_116 ?_
              refine g_lmul hx hb dX0_times_117 ?_
              refine lv_aload_n hx hb dX0_times_118 rfl (lv_at hl 0 rfl) ?_
              refine t_getd E hK hV m0 rfl cf_0_9 dX0_times_119 ?_
              refine lv_iload hx hb dX0_times_122 (lv_at hl 6 rfl) ?_
              refine lv_iload hx hb dX0_times_124 (lv_at hl 9 rfl) ?_
              refine g_iadd hx hb dX0_times_126 ?_
              refine t_ald (z := (i + j)) (v := g (i + j)) hx hb hK hV m0 rfl (congrFun (va_up_self _ _ _) _) rfl (by omega) (by omega) dX0_times_127 ?_
              refine g_i2l hx hb ⟨by omega, by omega⟩ dX0_times_128 ?_
              refine g_ladd hx hb dX0_times_129 ?_
              refine lv_lload hx hb dX0_times_130 (lv_at hl 8 rfl) ?_
              refine g_ladd hx hb dX0_times_132 ?_
              refine lv_lstore (lv' := [(12, Jz ((((gg a i) * (gg b j)) + (g (i + j))) + cy)), (0, .ref h0), (1, .ref a), (2, .ref b), (3, Iz (nn a)), (4, Iz (nn b)), (5, Iz ((nn a) + (nn b))), (6, Iz (i)), (7, Jz (gg a i)), (9, Jz (cy)), (11, Iz (j))]) hx hb dX0_times_133 hl (by decide) rfl (fun ls hl => ?_)
              refine lv_aload_n hx hb dX0_times_135 rfl (lv_at hl 1 rfl) ?_
              refine t_getd E hK hV m0 rfl cf_0_9 dX0_times_136 ?_
              refine lv_iload hx hb dX0_times_139 (lv_at hl 7 rfl) ?_
              refine lv_iload hx hb dX0_times_141 (lv_at hl 10 rfl) ?_
              refine g_iadd hx hb dX0_times_143 ?_
              refine lv_lload hx hb dX0_times_144 (lv_at hl 0 rfl) ?_
              refine lv_ldc2 (v := Int64.ofInt (1073741823)) hx hb hown (hts _ (List.mem_cons_of_mem _ cj_X0_20)) dX0_times_146 ?_
              refine g_land30 hx hb dX0_times_149 ?_
              refine g_l2i hx hb dX0_times_150 ?_
              refine t_ast (z := (i + j)) (v := (((((gg a i) * (gg b j)) + (g (i + j))) + cy) % 1073741824)) (gf := (va_up gg h0 (iup g (i + j) (((((gg a i) * (gg b j)) + (g (i + j))) + cy) % 1073741824)))) hx hb hK hV m0 rfl ((congrArg (fun q => va_up (va_up gg h0 g) h0 (iup q (i + j) (((((gg a i) * (gg b j)) + (g (i + j))) + cy) % 1073741824))) (va_up_self _ _ _)).trans (va_up_up _ _ _ _)) rfl (by omega) (by omega) dX0_times_151 (fun H locs hV => ?_)
              refine lv_lload hx hb dX0_times_152 (lv_at hl 0 rfl) ?_
              refine lv_bipush (v := Int32.ofInt (30)) hx hb dX0_times_154 (by decide) ?_
              refine g_lushr hx hb (by omega) (by omega) (by omega) (by omega) dX0_times_156 ?_
              rw [show (2 : Int) ^ (30 : Int).toNat = 1073741824 from rfl]
              refine lv_lstore (lv' := [(9, Jz (((((gg a i) * (gg b j)) + (g (i + j))) + cy) / 1073741824)), (12, Jz ((((gg a i) * (gg b j)) + (g (i + j))) + cy)), (0, .ref h0), (1, .ref a), (2, .ref b), (3, Iz (nn a)), (4, Iz (nn b)), (5, Iz ((nn a) + (nn b))), (6, Iz (i)), (7, Jz (gg a i)), (11, Iz (j))]) hx hb dX0_times_157 hl (by decide) rfl (fun ls hl => ?_)
              refine g_iinc (k := 10) (z := j) (n := (1)) (lv' := [(11, Iz (j + 1)), (9, Jz (((((gg a i) * (gg b j)) + (g (i + j))) + cy) / 1073741824)), (12, Jz ((((gg a i) * (gg b j)) + (g (i + j))) + cy)), (0, .ref h0), (1, .ref a), (2, .ref b), (3, Iz (nn a)), (4, Iz (nn b)), (5, Iz ((nn a) + (nn b))), (6, Iz (i)), (7, Jz (gg a i))]) hx hb dX0_times_159 hl rfl (by decide) rfl (fun ls hl => ?_)
              refine lv_goto (tgt := 100) hx hb dX0_times_162 (by decide) ?_
              exact ih_100 _ (by omega) _ _ _ ⟨(iup g (i + j) (((((gg a i) * (gg b j)) + (g (i + j))) + cy) % 1073741824)), (((((gg a i) * (gg b j)) + (g (i + j))) + cy) / 1073741824), (j + 1), rfl, (by omega), (by omega), (by omega), (by omega), (kb_d_upd gd (by omega) (by omega)), (fun t p => by rw [iup_ne (by omega)]; exact ge t (by omega)), (mul_step i0 j0 gv (by rw [← gF]; omega)), hV, lv_sub hl [3, 4, 5, 6, 7, 8, 9, 10, 1, 0] rfl⟩
        · skip
          refine lv_aload_n hx hb dX0_times_61 rfl (lv_at hl 0 rfl) ?_
          refine t_getd E hK hV m0 rfl cf_0_9 dX0_times_62 ?_
          refine lv_iload hx hb dX0_times_65 (lv_at hl 6 rfl) ?_
          refine lv_iconst (v := Int32.ofInt (0)) hx hb dX0_times_67 (by decide) ?_
          refine t_ast (z := i) (v := 0) (gf := (va_up gg h0 (iup f i 0))) hx hb hK hV m0 rfl ((congrArg (fun q => va_up (va_up gg h0 f) h0 (iup q i 0)) (va_up_self _ _ _)).trans (va_up_up _ _ _ _)) rfl (by omega) (by omega) dX0_times_68 (fun H locs hV => ?_)
          refine g_iinc (k := 6) (z := i) (n := (1)) (lv' := [(6, Iz (i + 1)), (0, .ref h0), (1, .ref a), (2, .ref b), (3, Iz (nn a)), (4, Iz (nn b)), (5, Iz ((nn a) + (nn b)))]) hx hb dX0_times_69 hl rfl (by decide) rfl (fun ls hl => ?_)
          refine lv_goto (tgt := 54) hx hb dX0_times_72 (by decide) ?_
          exact ih_54 _ (by omega) _ _ _ ⟨(iup f i 0), (i + 1), rfl, (by omega), (by omega), (fun t p q => by by_cases w : t = i; (· subst w; exact iup_self); (· rw [iup_ne w]; exact fz t p (by omega))), hV, lv_sub hl [1, 2, 3, 4, 5, 6, 0] rfl⟩
      · skip
        refine lv_aload_n hx hb dX0_times_41 rfl (lv_at hl 3 rfl) ?_
        refine lv_iconst (v := Int32.ofInt (2)) hx hb dX0_times_42 (by decide) ?_
        refine lv_iload hx hb dX0_times_43 (lv_at hl 0 rfl) ?_
        refine g_imul hx hb dX0_times_45 ?_
        refine t_new E hK hV hA hR h0 m0 (by omega) (by omega) dX0_times_46 (fun q46 H hV => ?_)
        refine t_putd E hK hV m0 rfl rfl rfl (by omega) (by omega) cf_0_9 dX0_times_48 (fun H locs hV => ?_)
        have kl : nn a + nn b ≤ ((((2 * ((nn a) + (nn b))).toNat) : Nat) : Int) := by omega
        have k5 : 5 ≤ ((((2 * ((nn a) + (nn b))).toNat) : Nat) : Int) := by omega
        refine lv_iconst (v := Int32.ofInt (0)) hx hb dX0_times_51 (by decide) ?_
        refine lv_istore (lv' := [(6, Iz (0)), (5, Iz ((nn a) + (nn b))), (4, Iz (nn b)), (3, Iz (nn a)), (0, .ref h0), (1, .ref a), (2, .ref b)]) hx hb dX0_times_52 hl (by decide) rfl (fun ls hl => ?_)
        refine r_loop (P := fun N_ H locs ls => ∃ f : Int → Int, ∃ i : Int, N_ = (nn a + nn b - i).toNat ∧ (0 ≤ i) ∧ (i ≤ nn a + nn b) ∧ (∀ t : Int, 0 ≤ t → t < i → f t = 0) ∧ cV dC dI cx LB (va_A (bW (cx 0) LB dd nn ss ll gg X) s.heap.size) s.heap ll X (va_up dd h0 q46) nn ss (va_up ll h0 ((2 * ((nn a) + (nn b))).toNat)) (va_up gg h0 f) H locs ∧ lv_has ls 14 [(0, .ref h0), (1, .ref a), (2, .ref b), (3, Iz (nn a)), (4, Iz (nn b)), (5, Iz ((nn a) + (nn b))), (6, Iz (i))]) (g := fun ls => F0 m 54 ls []) (fun N_ H locs ls hI ih_54 => ?_) _ _ _ _ ⟨(fun _ => 0), 0, rfl, (Int.le_refl 0), (by omega), (fun t p q => by omega), hV, lv_sub hl [4, 5, 6, 3, 2, 1, 0] rfl⟩
        obtain ⟨f, i, rfl, i0, i1, fz, hV, hl⟩ := hI
        refine lv_iload hx hb dX0_times_54 (lv_at hl 6 rfl) ?_
        refine lv_iload hx hb dX0_times_56 (lv_at hl 5 rfl) ?_
        refine g_icmp_ge (tgt := 75) hx hb ⟨by omega, by omega⟩ ⟨by omega, by omega⟩ dX0_times_58 (by decide) (fun c_58 => ?_) (fun c_58 => ?_)
        · skip
          have ez : i = nn a + nn b := by omega
          rw [ez] at fz
          have fd0 : kb_d f (nn a + nn b).toNat := fun t h0 h1 => by rw [fz t h0 (by omega)]; omega
          refine lv_iconst (v := Int32.ofInt (0)) hx hb dX0_times_75 (by decide) ?_
          refine lv_istore (lv' := [(6, Iz (0)), (0, .ref h0), (1, .ref a), (2, .ref b), (3, Iz (nn a)), (4, Iz (nn b)), (5, Iz ((nn a) + (nn b)))]) hx hb dX0_times_76 hl (by decide) rfl (fun ls hl => ?_)
          refine r_loop (P := fun N_ H locs ls => ∃ f : Int → Int, ∃ i : Int, N_ = (nn a - i).toNat ∧ (0 ≤ i) ∧ (i ≤ nn a) ∧ (kb_d f (nn a + nn b).toNat) ∧ (∀ t : Int, i + nn b ≤ t → t < nn a + nn b → f t = 0) ∧ (kb_v f (i + nn b).toNat = kb_v (gg a) i.toNat * ((v b).natAbs : Int)) ∧ cV dC dI cx LB (va_A (bW (cx 0) LB dd nn ss ll gg X) s.heap.size) s.heap ll X (va_up dd h0 q46) nn ss (va_up ll h0 ((2 * ((nn a) + (nn b))).toNat)) (va_up gg h0 f) H locs ∧ lv_has ls 14 [(0, .ref h0), (1, .ref a), (2, .ref b), (3, Iz (nn a)), (4, Iz (nn b)), (5, Iz ((nn a) + (nn b))), (6, Iz (i))]) (g := fun ls => F0 m 78 ls []) (fun N_ H locs ls hI ih_78 => ?_) _ _ _ _ ⟨f, 0, rfl, (Int.le_refl 0), (by omega), (fd0), (fun t p q => fz t (by omega) q), (by rw [kb_v_zero (k := 0) (f := f) (Nat.zero_le _) (fun t p q => fz t (by omega) (by omega))]; show (0 : Int) = 0 * _; rw [Int.zero_mul]), hV, lv_sub hl [1, 2, 3, 4, 5, 6, 0] rfl⟩
          obtain ⟨f, i, rfl, i0, i1, fd, fz, fv, hV, hl⟩ := hI
          refine lv_iload hx hb dX0_times_78 (lv_at hl 6 rfl) ?_
          refine lv_iload_n hx hb dX0_times_80 rfl (lv_at hl 3 rfl) ?_
          refine g_icmp_ge (tgt := 184) hx hb (by first | assumption | exact ⟨by omega, by omega⟩) (by first | assumption | exact ⟨by omega, by omega⟩) dX0_times_81 (by decide) (fun c_81 => ?_) (fun c_81 => ?_)
          · skip
            have ei : i = nn a := by omega
            rw [ei, vla] at fv
            refine lv_aload_n hx hb dX0_times_184 rfl (lv_at hl 0 rfl) ?_
            refine lv_aload_n hx hb dX0_times_185 rfl (lv_at hl 0 rfl) ?_
            refine t_getd E hK hV m0 (va_up_self _ _ _) cf_0_9 dX0_times_186 ?_
            refine lv_iload hx hb dX0_times_189 (lv_at hl 5 rfl) ?_
            refine lv_iconst (v := Int32.ofInt (1)) hx hb dX0_times_191 (by decide) ?_
            refine g_isub hx hb dX0_times_192 ?_
            refine t_ald (z := (((nn a) + (nn b)) - 1)) (v := f (((nn a) + (nn b)) - 1)) hx hb hK hV m0 (va_up_self _ _ _) (congrFun (va_up_self _ _ _) _) (va_up_self _ _ _) (by omega) (by omega) dX0_times_193 ?_
            refine g_if_ne (tgt := 204) hx hb ⟨by have := (fd (nn a + nn b - 1) (by omega) (by omega)).1; omega, by have := (fd (nn a + nn b - 1) (by omega) (by omega)).2; omega⟩ dX0_times_194 (by decide) (fun c_194 => ?_) (fun c_194 => ?_)
            · skip
              refine lv_iload hx hb dX0_times_204 (lv_at hl 5 rfl) ?_
              refine t_putn E hK hV m0 rfl cf_0_13 dX0_times_206 (fun H locs hV => ?_)
              refine lv_aload_n hx hb dX0_times_209 rfl (lv_at hl 0 rfl) ?_
              refine lv_aload_n hx hb dX0_times_210 rfl (lv_at hl 1 rfl) ?_
              refine t_gets E hK hV ma rfl cf_0_17 dX0_times_211 ?_
              refine lv_aload_n hx hb dX0_times_214 rfl (lv_at hl 2 rfl) ?_
              refine t_gets E hK hV mb rfl cf_0_17 dX0_times_215 ?_
              refine g_imul hx hb dX0_times_218 ?_
              refine t_puts E hK hV m0 rfl cf_0_17 dX0_times_219 (fun H locs hV => ?_)
              have hpost : X = X ∧ cR LB (va_up nn h0 ((nn a) + (nn b))) (va_up ss h0 ((ss a) * (ss b))) (va_up ll h0 ((2 * ((nn a) + (nn b))).toNat)) (va_up gg h0 f) (va_up v h0 (v a * v b)) := ⟨rfl, by
                    have tt := num1_top (s := ss a * ss b) (V := v a * v b) (f := f) (k := ((2 * ((nn a) + (nn b))).toNat)) (top := nn a + nn b) (by omega) (by omega) (by omega) fd (by rw [sga, sgb]; exact sg_mul _ _) (by rw [fv, Int.natAbs_mul, Int.natCast_mul]) (fun _ => by
                      have h1 := num1_ge NA (by omega)
                      have h2 := num1_ge NB (by omega)
                      have h3 := mul_big h1 h2
                      rw [Int.natAbs_mul, Int.natCast_mul, show (nn a + nn b - 2).toNat = (nn a - 1).toNat + (nn b - 1).toNat by omega]
                      exact h3)
                    have h := cR_up (h0 := h0) hN (by first | exact tt.1 c_194 | exact tt.2 c_194)
                    first
                    | exact h
                    | (rw [va_up_id] at h; exact h)⟩
              exact c_vret hx hb hr hK hV hpost dX0_times_222 hlocks
            · skip
              refine lv_iload hx hb dX0_times_197 (lv_at hl 5 rfl) ?_
              refine lv_iconst (v := Int32.ofInt (1)) hx hb dX0_times_199 (by decide) ?_
              refine g_isub hx hb dX0_times_200 ?_
              refine lv_goto (tgt := 206) hx hb dX0_times_201 (by decide) ?_
              refine t_putn E hK hV m0 rfl cf_0_13 dX0_times_206 (fun H locs hV => ?_)
              refine lv_aload_n hx hb dX0_times_209 rfl (lv_at hl 0 rfl) ?_
              refine lv_aload_n hx hb dX0_times_210 rfl (lv_at hl 1 rfl) ?_
              refine t_gets E hK hV ma rfl cf_0_17 dX0_times_211 ?_
              refine lv_aload_n hx hb dX0_times_214 rfl (lv_at hl 2 rfl) ?_
              refine t_gets E hK hV mb rfl cf_0_17 dX0_times_215 ?_
              refine g_imul hx hb dX0_times_218 ?_
              refine t_puts E hK hV m0 rfl cf_0_17 dX0_times_219 (fun H locs hV => ?_)
              have hpost : X = X ∧ cR LB (va_up nn h0 (((nn a) + (nn b)) - 1)) (va_up ss h0 ((ss a) * (ss b))) (va_up ll h0 ((2 * ((nn a) + (nn b))).toNat)) (va_up gg h0 f) (va_up v h0 (v a * v b)) := ⟨rfl, by
                    have tt := num1_top (s := ss a * ss b) (V := v a * v b) (f := f) (k := ((2 * ((nn a) + (nn b))).toNat)) (top := nn a + nn b) (by omega) (by omega) (by omega) fd (by rw [sga, sgb]; exact sg_mul _ _) (by rw [fv, Int.natAbs_mul, Int.natCast_mul]) (fun _ => by
                      have h1 := num1_ge NA (by omega)
                      have h2 := num1_ge NB (by omega)
                      have h3 := mul_big h1 h2
                      rw [Int.natAbs_mul, Int.natCast_mul, show (nn a + nn b - 2).toNat = (nn a - 1).toNat + (nn b - 1).toNat by omega]
                      exact h3)
                    have h := cR_up (h0 := h0) hN (by first | exact tt.1 c_194 | exact tt.2 c_194)
                    first
                    | exact h
                    | (rw [va_up_id] at h; exact h)⟩
              exact c_vret hx hb hr hK hV hpost dX0_times_222 hlocks
          · skip
            have xr := dga i i0 (by omega)
            refine lv_aload_n hx hb dX0_times_84 rfl (lv_at hl 1 rfl) ?_
            refine t_getd E hK hV ma ((va_up_ne _ _ (Ne.symm na)).trans rfl) cf_0_9 dX0_times_85 ?_
            refine lv_iload hx hb dX0_times_88 (lv_at hl 6 rfl) ?_
            refine t_ald (z := i) (v := gg a i) hx hb hK hV ma ((va_up_ne _ _ (Ne.symm na)).trans rfl) (congrFun ((va_up_ne _ _ (Ne.symm na)).trans rfl) _) ((va_up_ne _ _ (Ne.symm na)).trans rfl) (by omega) (by omega) dX0_times_90 ?_
            refine g_i2l hx hb ⟨by omega, by omega⟩ dX0_times_91 ?_
            refine lv_lstore (lv' := [(7, Jz (gg a i)), (0, .ref h0), (1, .ref a), (2, .ref b), (3, Iz (nn a)), (4, Iz (nn b)), (5, Iz ((nn a) + (nn b))), (6, Iz (i))]) hx hb dX0_times_92 hl (by decide) rfl (fun ls hl => ?_)
            refine lv_lconst (v := Int64.ofInt 0) hx hb dX0_times_94 rfl ?_
            refine lv_lstore (lv' := [(9, Jz (0)), (7, Jz (gg a i)), (0, .ref h0), (1, .ref a), (2, .ref b), (3, Iz (nn a)), (4, Iz (nn b)), (5, Iz ((nn a) + (nn b))), (6, Iz (i))]) hx hb dX0_times_95 hl (by decide) rfl (fun ls hl => ?_)
            refine lv_iconst (v := Int32.ofInt (0)) hx hb dX0_times_97 (by decide) ?_
            refine lv_istore (lv' := [(11, Iz (0)), (9, Jz (0)), (7, Jz (gg a i)), (0, .ref h0), (1, .ref a), (2, .ref b), (3, Iz (nn a)), (4, Iz (nn b)), (5, Iz ((nn a) + (nn b))), (6, Iz (i))]) hx hb dX0_times_98 hl (by decide) rfl (fun ls hl => ?_)
            refine r_loop (P := fun N_ H locs ls => ∃ g : Int → Int, ∃ cy : Int, ∃ j : Int, N_ = (nn b - j).toNat ∧ (0 ≤ j) ∧ (j ≤ nn b) ∧ (0 ≤ cy) ∧ (cy < 1073741824) ∧ (kb_d g (nn a + nn b).toNat) ∧ (∀ t : Int, i + j ≤ t → g t = f t) ∧ (kb_v g (i + j).toNat + cy * 1073741824 ^ (i + j).toNat = kb_v f (i + j).toNat + gg a i * 1073741824 ^ i.toNat * kb_v (gg b) j.toNat) ∧ cV dC dI cx LB (va_A (bW (cx 0) LB dd nn ss ll gg X) s.heap.size) s.heap ll X (va_up dd h0 q46) nn ss (va_up ll h0 ((2 * ((nn a) + (nn b))).toNat)) (va_up gg h0 g) H locs ∧ lv_has ls 14 [(0, .ref h0), (1, .ref a), (2, .ref b), (3, Iz (nn a)), (4, Iz (nn b)), (5, Iz ((nn a) + (nn b))), (6, Iz (i)), (7, Jz (gg a i)), (9, Jz (cy)), (11, Iz (j))]) (g := fun ls => F0 m 100 ls []) (fun N_ H locs ls hI ih_100 => ?_) _ _ _ _ ⟨f, 0, 0, rfl, (Int.le_refl 0), (by omega), (Int.le_refl 0), (by omega), (fd), (fun t _ => rfl), (by show _ + 0 * _ = _ + _ * 0; rw [Int.zero_mul, Int.mul_zero]), hV, lv_sub hl [3, 4, 5, 6, 7, 8, 9, 2, 1, 0] rfl⟩
            obtain ⟨g, cy, j, rfl, j0, j1, cy0, cy1, gd, ge, gv, hV, hl⟩ := hI
            refine lv_iload hx hb dX0_times_100 (lv_at hl 9 rfl) ?_
            refine lv_iload hx hb dX0_times_102 (lv_at hl 4 rfl) ?_
            refine g_icmp_ge (tgt := 165) hx hb (by first | assumption | exact ⟨by omega, by omega⟩) (by first | assumption | exact ⟨by omega, by omega⟩) dX0_times_104 (by decide) (fun c_104 => ?_) (fun c_104 => ?_)
            · skip
              have ej : j = nn b := by omega
              rw [ej] at gv ge
              rw [vlb, fv] at gv
              refine lv_aload_n hx hb dX0_times_165 rfl (lv_at hl 0 rfl) ?_
              refine t_getd E hK hV m0 (va_up_self _ _ _) cf_0_9 dX0_times_166 ?_
              refine lv_iload hx hb dX0_times_169 (lv_at hl 6 rfl) ?_
              refine lv_iload hx hb dX0_times_171 (lv_at hl 4 rfl) ?_
              refine g_iadd hx hb dX0_times_173 ?_
              refine lv_lload hx hb dX0_times_174 (lv_at hl 8 rfl) ?_
              refine g_l2i hx hb dX0_times_176 ?_
              refine t_ast (z := (i + (nn b))) (v := cy) (gf := (va_up gg h0 (iup g (i + (nn b)) cy))) hx hb hK hV m0 (va_up_self _ _ _) ((congrArg (fun q => va_up (va_up gg h0 g) h0 (iup q (i + (nn b)) cy)) (va_up_self _ _ _)).trans (va_up_up _ _ _ _)) (va_up_self _ _ _) (by omega) (by omega) dX0_times_177 (fun H locs hV => ?_)
              refine g_iinc (k := 6) (z := i) (n := (1)) (lv' := [(6, Iz (i + 1)), (0, .ref h0), (1, .ref a), (2, .ref b), (3, Iz (nn a)), (4, Iz (nn b)), (5, Iz ((nn a) + (nn b))), (7, Jz (gg a i)), (9, Jz (cy)), (11, Iz (j))]) hx hb dX0_times_178 hl rfl (by decide) rfl (fun ls hl => ?_)
              refine lv_goto (tgt := 78) hx hb dX0_times_181 (by decide) ?_
              exact ih_78 _ (by omega) _ _ _ ⟨(iup g (i + (nn b)) cy), (i + 1), rfl, (by omega), (by omega), (kb_d_upd gd (by omega) (by omega)), (fun t p q => by rw [iup_ne (by omega), ge t (by omega)]; exact fz t (by omega) q), (mul_row i0 n0b gv), hV, lv_sub hl [1, 2, 3, 4, 5, 6, 0] rfl⟩
            · skip
              have yr := dgb j j0 (by omega)
              have gr := gd (i + j) (by omega) (by omega)
              have mr := mulB xr.1 xr.2 yr.1 yr.2
              have gF := ge (i + j) (by omega)
              refine lv_lload hx hb dX0_times_107 (lv_at hl 7 rfl) ?_
              refine lv_aload_n hx hb dX0_times_109 rfl (lv_at hl 2 rfl) ?_
              refine t_getd E hK hV mb ((va_up_ne _ _ (Ne.symm nb)).trans rfl) cf_0_9 dX0_times_110 ?_
              refine lv_iload hx hb dX0_times_113 (lv_at hl 9 rfl) ?_
              refine t_ald (z := j) (v := gg b j) hx hb hK hV mb ((va_up_ne _ _ (Ne.symm nb)).trans rfl) (congrFun ((va_up_ne _ _ (Ne.symm nb)).trans rfl) _) ((va_up_ne _ _ (Ne.symm nb)).trans rfl) (by omega) (by omega) dX0_times_115 ?_
              refine g_i2l hx hb ⟨by omega, by omega⟩ dX0_times_116 ?_
              refine g_lmul hx hb dX0_times_117 ?_
              refine lv_aload_n hx hb dX0_times_118 rfl (lv_at hl 0 rfl) ?_
              refine t_getd E hK hV m0 (va_up_self _ _ _) cf_0_9 dX0_times_119 ?_
              refine lv_iload hx hb dX0_times_122 (lv_at hl 6 rfl) ?_
              refine lv_iload hx hb dX0_times_124 (lv_at hl 9 rfl) ?_
              refine g_iadd hx hb dX0_times_126 ?_
              refine t_ald (z := (i + j)) (v := g (i + j)) hx hb hK hV m0 (va_up_self _ _ _) (congrFun (va_up_self _ _ _) _) (va_up_self _ _ _) (by omega) (by omega) dX0_times_127 ?_
              refine g_i2l hx hb ⟨by omega, by omega⟩ dX0_times_128 ?_
              refine g_ladd hx hb dX0_times_129 ?_
              refine lv_lload hx hb dX0_times_130 (lv_at hl 8 rfl) ?_
              refine g_ladd hx hb dX0_times_132 ?_
              refine lv_lstore (lv' := [(12, Jz ((((gg a i) * (gg b j)) + (g (i + j))) + cy)), (0, .ref h0), (1, .ref a), (2, .ref b), (3, Iz (nn a)), (4, Iz (nn b)), (5, Iz ((nn a) + (nn b))), (6, Iz (i)), (7, Jz (gg a i)), (9, Jz (cy)), (11, Iz (j))]) hx hb dX0_times_133 hl (by decide) rfl (fun ls hl => ?_)
              refine lv_aload_n hx hb dX0_times_135 rfl (lv_at hl 1 rfl) ?_
              refine t_getd E hK hV m0 (va_up_self _ _ _) cf_0_9 dX0_times_136 ?_
              refine lv_iload hx hb dX0_times_139 (lv_at hl 7 rfl) ?_
              refine lv_iload hx hb dX0_times_141 (lv_at hl 10 rfl) ?_
              refine g_iadd hx hb dX0_times_143 ?_
              refine lv_lload hx hb dX0_times_144 (lv_at hl 0 rfl) ?_
              refine lv_ldc2 (v := Int64.ofInt (1073741823)) hx hb hown (hts _ (List.mem_cons_of_mem _ cj_X0_20)) dX0_times_146 ?_
              refine g_land30 hx hb dX0_times_149 ?_
              refine g_l2i hx hb dX0_times_150 ?_
              refine t_ast (z := (i + j)) (v := (((((gg a i) * (gg b j)) + (g (i + j))) + cy) % 1073741824)) (gf := (va_up gg h0 (iup g (i + j) (((((gg a i) * (gg b j)) + (g (i + j))) + cy) % 1073741824)))) hx hb hK hV m0 (va_up_self _ _ _) ((congrArg (fun q => va_up (va_up gg h0 g) h0 (iup q (i + j) (((((gg a i) * (gg b j)) + (g (i + j))) + cy) % 1073741824))) (va_up_self _ _ _)).trans (va_up_up _ _ _ _)) (va_up_self _ _ _) (by omega) (by omega) dX0_times_151 (fun H locs hV => ?_)
              refine lv_lload hx hb dX0_times_152 (lv_at hl 0 rfl) ?_
              refine lv_bipush (v := Int32.ofInt (30)) hx hb dX0_times_154 (by decide) ?_
              refine g_lushr hx hb (by omega) (by omega) (by omega) (by omega) dX0_times_156 ?_
              rw [show (2 : Int) ^ (30 : Int).toNat = 1073741824 from rfl]
              refine lv_lstore (lv' := [(9, Jz (((((gg a i) * (gg b j)) + (g (i + j))) + cy) / 1073741824)), (12, Jz ((((gg a i) * (gg b j)) + (g (i + j))) + cy)), (0, .ref h0), (1, .ref a), (2, .ref b), (3, Iz (nn a)), (4, Iz (nn b)), (5, Iz ((nn a) + (nn b))), (6, Iz (i)), (7, Jz (gg a i)), (11, Iz (j))]) hx hb dX0_times_157 hl (by decide) rfl (fun ls hl => ?_)
              refine g_iinc (k := 10) (z := j) (n := (1)) (lv' := [(11, Iz (j + 1)), (9, Jz (((((gg a i) * (gg b j)) + (g (i + j))) + cy) / 1073741824)), (12, Jz ((((gg a i) * (gg b j)) + (g (i + j))) + cy)), (0, .ref h0), (1, .ref a), (2, .ref b), (3, Iz (nn a)), (4, Iz (nn b)), (5, Iz ((nn a) + (nn b))), (6, Iz (i)), (7, Jz (gg a i))]) hx hb dX0_times_159 hl rfl (by decide) rfl (fun ls hl => ?_)
              refine lv_goto (tgt := 100) hx hb dX0_times_162 (by decide) ?_
              exact ih_100 _ (by omega) _ _ _ ⟨(iup g (i + j) (((((gg a i) * (gg b j)) + (g (i + j))) + cy) % 1073741824)), (((((gg a i) * (gg b j)) + (g (i + j))) + cy) / 1073741824), (j + 1), rfl, (by omega), (by omega), (by omega), (by omega), (kb_d_upd gd (by omega) (by omega)), (fun t p => by rw [iup_ne (by omega)]; exact ge t (by omega)), (mul_step i0 j0 gv (by rw [← gF]; omega)), hV, lv_sub hl [3, 4, 5, 6, 7, 8, 9, 10, 1, 0] rfl⟩
        · skip
          refine lv_aload_n hx hb dX0_times_61 rfl (lv_at hl 0 rfl) ?_
          refine t_getd E hK hV m0 (va_up_self _ _ _) cf_0_9 dX0_times_62 ?_
          refine lv_iload hx hb dX0_times_65 (lv_at hl 6 rfl) ?_
          refine lv_iconst (v := Int32.ofInt (0)) hx hb dX0_times_67 (by decide) ?_
          refine t_ast (z := i) (v := 0) (gf := (va_up gg h0 (iup f i 0))) hx hb hK hV m0 (va_up_self _ _ _) ((congrArg (fun q => va_up (va_up gg h0 f) h0 (iup q i 0)) (va_up_self _ _ _)).trans (va_up_up _ _ _ _)) (va_up_self _ _ _) (by omega) (by omega) dX0_times_68 (fun H locs hV => ?_)
          refine g_iinc (k := 6) (z := i) (n := (1)) (lv' := [(6, Iz (i + 1)), (0, .ref h0), (1, .ref a), (2, .ref b), (3, Iz (nn a)), (4, Iz (nn b)), (5, Iz ((nn a) + (nn b)))]) hx hb dX0_times_69 hl rfl (by decide) rfl (fun ls hl => ?_)
          refine lv_goto (tgt := 54) hx hb dX0_times_72 (by decide) ?_
          exact ih_54 _ (by omega) _ _ _ ⟨(iup f i 0), (i + 1), rfl, (by omega), (by omega), (fun t p q => by by_cases w : t = i; (· subst w; exact iup_self); (· rw [iup_ne w]; exact fz t p (by omega))), hV, lv_sub hl [1, 2, 3, 4, 5, 6, 0] rfl⟩
    · skip
      refine lv_aload_n hx hb dX0_times_26 rfl (lv_at hl 3 rfl) ?_
      refine c_callv (As := []) (rest := []) E (k0_clear (v := v) (h0 := h0) m0 hN) (cwV 0 hts (cGood cl_X0_52 ci_X0_clear cs_X0_clear cn_RX0 cc_X0_clear) rfl rfl rfl (by decide +kernel) ⟨Nat.le_of_ble_eq_true rfl, Nat.le_of_ble_eq_true rfl⟩) (b_recv hK hV m0) hK hV hA hR rfl hl.1 (Nat.le_of_ble_eq_true rfl) dX0_times_27 (fun X27 dd27 nn27 ss27 ll27 gg27 H locs q27 hV hm27 => ?_)
      obtain ⟨e1_, hN⟩ := q27
      obtain rfl := e1_.symm
      have hpost : X = X ∧ cR LB nn27 ss27 ll27 gg27 (va_up v h0 (v a * v b)) := ⟨rfl, by
            have e : v a * v b = 0 := by
              first
              | rw [(num1_zero NA).mp c_18, Int.zero_mul]
              | rw [(num1_zero NB).mp c_23, Int.mul_zero]
            rw [e]; exact hN⟩
      exact c_vret hx hb hr hK hV hpost dX0_times_30 hlocks
theorem scl_step {f g : Int → Int} {i c m d c' : Int} (i0 : 0 ≤ i) (e : kb_v f i.toNat + c * 1073741824 ^ i.toNat = kb_v g i.toNat * m) (hd : d + c' * 1073741824 = g i * m + c) : kb_v (iup f i d) (i + 1).toNat + c' * 1073741824 ^ (i + 1).toNat = kb_v g (i + 1).toNat * m := by
  have e1 : (i + 1).toNat = i.toNat + 1 := by omega
  have e2 : ((i.toNat : Nat) : Int) = i := Int.toNat_of_nonneg i0
  have u : kb_v (iup f i d) (i.toNat + 1) = kb_v f i.toNat + d * 1073741824 ^ i.toNat := kb_v_up (fun t h0 h1 => iup_ne (by omega)) (by rw [e2]; exact iup_self)
  have ub : kb_v g (i.toNat + 1) = kb_v g i.toNat + g ((i.toNat : Nat) : Int) * 1073741824 ^ i.toNat := rfl
  rw [e2] at ub
  rw [e1, u, ub, kb_pow_succ]
  generalize (1073741824 : Int) ^ i.toNat = P at *
  grind
theorem mulM {x m : Int} (x0 : 0 ≤ x) (x1 : x < 1073741824) (y0 : 0 ≤ m) (y1 : m < 2147483648) : 0 ≤ x * m ∧ x * m ≤ 1073741823 * m ∧ 1073741823 * m ≤ 2305843007066210301 := by
  refine ⟨Int.mul_nonneg x0 y0, ?_, by omega⟩
  exact Int.mul_le_mul_of_nonneg_right (by omega) y0
theorem sg_mul_pos {A m : Int} (h : 0 < m) : sg (A * m) = sg A := by
  rw [← sg_mul, sg_pos.mpr h, Int.mul_one]
set_option maxHeartbeats 4000000 in
set_option maxRecDepth 100000 in
theorem k0_scale {l : Launch} {dC : Nat → ClassId} {dI : Nat → Nat → Nat} {cx : Nat → Nat} {LB : List Nat} {X : va_W} {dd : Nat → Nat} {nn ss : Nat → Int} {ll : Nat → Nat} {gg : Nat → Int → Int} {H0 : Heap} {v : Nat → Int} {h0 : Nat} {a : Nat} {mm : Int} (m0 : h0 ∈ LB) (hN : cR LB nn ss ll gg v) (ma : a ∈ LB) (na : h0 ≠ a) (ka : nn a ≤ 198) (y0 : 0 ≤ mm) (y1 : mm < 2147483648) : Met l yX0_scale (Cond.code yX0_scale cX0_scale 10 none :: w0c) (cRm 2 62 LB ll) (cPc dC dI cx LB X dd nn ss ll gg H0 [.ref h0, .ref a, Jz (mm)]) (cQv dC dI cx LB (va_A (bW (cx 0) LB dd nn ss ll gg X) H0.size) ll H0 (fun X' dd' nn' ss' ll' gg' => X' = X ∧ cR LB nn' ss' ll' gg' (va_up v h0 (v a * mm)))) (cMc LB ll) (2 * cMc LB ll) (va_A (bW (cx 0) LB dd nn ss ll gg X) H0.size) := by
  refine Met.ofW (cc := cX0_scale) (maxL := 10) (ret := none) (by decide) rfl ?_
  intro p e s m args below meth c s₁ B hml hv
  obtain ⟨rfl, hH0, hP, hK, hD0, hC0⟩ := hv
  have hx := B.exec
  have hb := B.bytes
  have hr := B.returns
  have hts := atoms_spec (ws := Cond.code yX0_scale cX0_scale 10 none :: w0c) B.pre
  have hown : s.vm.findClass RX0 = some m.cls := findClass_of_methodNamed B.named
  have hlocks := B.notSynchronized
  have E : CallFix p m c cX0_scale 10 s _ (Cond.code yX0_scale cX0_scale 10 none :: w0c) RX0 := ⟨hx, hb, hml, hown, hts⟩
  subst hH0
  have hD := va_D.self (sz := s.heap.size) hD0
  have hA : ∀ q : Nat, s.heap.size ≤ q → va_A (bW (cx 0) LB dd nn ss ll gg X) s.heap.size q := fun q h => Or.inr h
  have hV : cV dC dI cx LB (va_A (bW (cx 0) LB dd nn ss ll gg X) s.heap.size) s.heap ll X dd nn ss ll gg s.heap [] := ⟨hP, hD, va_S.rf, fun _ _ => Nat.le_refl _, hC0⟩
  have hR : (headSpec (Cond.code yX0_scale cX0_scale 10 none :: w0c) (cRm 2 62 LB ll)).room.cells = cMc LB ll ∧ (headSpec (Cond.code yX0_scale cX0_scale 10 none :: w0c) (cRm 2 62 LB ll)).room.slots = 2 * cMc LB ll := ⟨rfl, rfl⟩
  refine W.widen (k := cP LB ll - cP LB ll) (n := 2 * (cP LB ll - cP LB ll)) (Nat.zero_le _) (Nat.zero_le _) ?_
  have hl := lv_entry ([.ref h0, .ref a, Jz (mm)]) (n := 10) (Nat.le_of_ble_eq_true rfl)
  rw [lg_entry_eq]
  generalize (lg_sl ([.ref h0, .ref a, Jz (mm)]) ++ List.replicate (10 - (lg_sl ([.ref h0, .ref a, Jz (mm)])).length) Slot.unset).toArray = ls at hl ⊢
  have hl : lv_has ls 10 [(0, .ref h0), (1, .ref a), (2, Jz (mm))] := hl
  have N0 := hN h0 m0
  obtain ⟨n0_, n1_, k5_, dg_, tp_, sg_, vl_⟩ := hN h0 m0
  have c4_ := (hC0 h0 m0).2
  have sb_ := sg_bd (v h0)
  have NA := hN a ma
  obtain ⟨n0a, n1a, k5a, dga, tpa, sga, vla⟩ := hN a ma
  have c4a := (hC0 a ma).2
  have sba := sg_bd (v a)
  refine lv_aload_n hx hb dX0_scale_0 rfl (lv_at hl 1 rfl) ?_
  refine t_getn E hK hV ma rfl cf_0_13 dX0_scale_1 ?_
  refine lv_istore (lv' := [(4, Iz (nn a)), (0, .ref h0), (1, .ref a), (2, Jz (mm))]) hx hb dX0_scale_4 hl (by decide) rfl (fun ls hl => ?_)
  refine lv_lconst (v := Int64.ofInt 0) hx hb dX0_scale_6 rfl ?_
  refine lv_lstore (lv' := [(5, Jz (0)), (4, Iz (nn a)), (0, .ref h0), (1, .ref a), (2, Jz (mm))]) hx hb dX0_scale_7 hl (by decide) rfl (fun ls hl => ?_)
  refine lv_iload hx hb dX0_scale_9 (lv_at hl 1 rfl) ?_
  refine lv_iconst (v := Int32.ofInt (2)) hx hb dX0_scale_11 (by decide) ?_
  refine g_iadd hx hb dX0_scale_12 ?_
  refine lv_aload_n hx hb dX0_scale_13 rfl (lv_at hl 2 rfl) ?_
  refine t_getd E hK hV m0 rfl cf_0_9 dX0_scale_14 ?_
  refine t_len hx hb hK hV m0 rfl rfl dX0_scale_17 ?_
  refine g_icmp_le (tgt := 38) hx hb (by first | assumption | exact ⟨by omega, by omega⟩) (by first | assumption | exact ⟨by omega, by omega⟩) dX0_scale_18 (by decide) (fun c_18 => ?_) (fun c_18 => ?_)
  · skip
    have kl : nn a + 2 ≤ (((ll h0) : Nat) : Int) := by omega
    have k5 : 5 ≤ (((ll h0) : Nat) : Int) := by omega
    refine lv_iconst (v := Int32.ofInt (0)) hx hb dX0_scale_38 (by decide) ?_
    refine lv_istore (lv' := [(7, Iz (0)), (5, Jz (0)), (4, Iz (nn a)), (0, .ref h0), (1, .ref a), (2, Jz (mm))]) hx hb dX0_scale_39 hl (by decide) rfl (fun ls hl => ?_)
    have hV := cV_nor hV (va_up_id gg h0).symm
    refine r_loop (P := fun N_ H locs ls => ∃ f : Int → Int, ∃ cy : Int, ∃ i : Int, N_ = (nn a - i).toNat ∧ (0 ≤ i) ∧ (i ≤ nn a) ∧ (0 ≤ cy) ∧ (cy ≤ mm) ∧ (kb_d f i.toNat) ∧ (kb_v f i.toNat + cy * 1073741824 ^ i.toNat = kb_v (gg a) i.toNat * mm) ∧ cV dC dI cx LB (va_A (bW (cx 0) LB dd nn ss ll gg X) s.heap.size) s.heap ll X dd nn ss ll (va_up gg h0 f) H locs ∧ lv_has ls 10 [(0, .ref h0), (1, .ref a), (2, Jz (mm)), (4, Iz (nn a)), (5, Jz (cy)), (7, Iz (i))]) (g := fun ls => F0 m 41 ls []) (fun N_ H locs ls hI ih_41 => ?_) _ _ _ _ ⟨(gg h0), 0, 0, rfl, (Int.le_refl 0), (n0a), (Int.le_refl 0), (y0), (kb_d_zero _), (by show (0 : Int) + 0 * _ = 0 * _; rw [Int.zero_mul, Int.zero_mul]; rfl), hV, lv_sub hl [3, 4, 5, 2, 1, 0] rfl⟩
    obtain ⟨f, cy, i, rfl, i0, i1, cy0, cy1, fd, fv, hV, hl⟩ := hI
    refine lv_iload hx hb dX0_scale_41 (lv_at hl 5 rfl) ?_
    refine lv_iload hx hb dX0_scale_43 (lv_at hl 3 rfl) ?_
    refine g_icmp_ge (tgt := 90) hx hb ⟨by omega, by omega⟩ ⟨by omega, by omega⟩ dX0_scale_45 (by decide) (fun c_45 => ?_) (fun c_45 => ?_)
    · skip
      have ei : i = nn a := by omega
      rw [ei] at fd fv
      rw [vla] at fv
      refine lv_aload_n hx hb dX0_scale_90 rfl (lv_at hl 0 rfl) ?_
      refine t_getd E hK hV m0 rfl cf_0_9 dX0_scale_91 ?_
      refine lv_iload hx hb dX0_scale_94 (lv_at hl 3 rfl) ?_
      refine lv_lload hx hb dX0_scale_96 (lv_at hl 4 rfl) ?_
      refine lv_ldc2 (v := Int64.ofInt (1073741823)) hx hb hown (hts _ (List.mem_cons_of_mem _ cj_X0_20)) dX0_scale_98 ?_
      refine g_land30 hx hb dX0_scale_101 ?_
      refine g_l2i hx hb dX0_scale_102 ?_
      refine t_ast (z := (nn a)) (v := (cy % 1073741824)) (gf := (va_up gg h0 (iup f (nn a) (cy % 1073741824)))) hx hb hK hV m0 rfl ((congrArg (fun q => va_up (va_up gg h0 f) h0 (iup q (nn a) (cy % 1073741824))) (va_up_self _ _ _)).trans (va_up_up _ _ _ _)) rfl (by omega) (by omega) dX0_scale_103 (fun H locs hV => ?_)
      refine lv_aload_n hx hb dX0_scale_104 rfl (lv_at hl 0 rfl) ?_
      refine t_getd E hK hV m0 rfl cf_0_9 dX0_scale_105 ?_
      refine lv_iload hx hb dX0_scale_108 (lv_at hl 3 rfl) ?_
      refine lv_iconst (v := Int32.ofInt (1)) hx hb dX0_scale_110 (by decide) ?_
      refine g_iadd hx hb dX0_scale_111 ?_
      refine lv_lload hx hb dX0_scale_112 (lv_at hl 4 rfl) ?_
      refine lv_bipush (v := Int32.ofInt (30)) hx hb dX0_scale_114 (by decide) ?_
      refine g_lushr hx hb (by omega) (by omega) (by omega) (by omega) dX0_scale_116 ?_
      rw [show (2 : Int) ^ (30 : Int).toNat = 1073741824 from rfl]
      refine g_l2i hx hb dX0_scale_117 ?_
      refine t_ast (z := ((nn a) + 1)) (v := (cy / 1073741824)) (gf := (va_up gg h0 (iup (iup f (nn a) (cy % 1073741824)) ((nn a) + 1) (cy / 1073741824)))) hx hb hK hV m0 rfl ((congrArg (fun q => va_up (va_up gg h0 (iup f (nn a) (cy % 1073741824))) h0 (iup q ((nn a) + 1) (cy / 1073741824))) (va_up_self _ _ _)).trans (va_up_up _ _ _ _)) rfl (by omega) (by omega) dX0_scale_118 (fun H locs hV => ?_)
      refine lv_aload_n hx hb dX0_scale_119 rfl (lv_at hl 0 rfl) ?_
      refine lv_aload_n hx hb dX0_scale_120 rfl (lv_at hl 1 rfl) ?_
      refine t_gets E hK hV ma rfl cf_0_17 dX0_scale_121 ?_
      refine t_puts E hK hV m0 rfl cf_0_17 dX0_scale_124 (fun H locs hV => ?_)
      have fd2 : kb_d (iup (iup f (nn a) (cy % 1073741824)) (nn a + 1) (cy / 1073741824)) (nn a + 2).toNat := by rw [show nn a + 2 = nn a + 1 + 1 by omega]; exact kb_d_step (by omega) (kb_d_step n0a fd (by omega) (by omega)) (by omega) (by omega)
      have fv2 : kb_v (iup (iup f (nn a) (cy % 1073741824)) (nn a + 1) (cy / 1073741824)) (nn a + 2).toNat = ((v a).natAbs : Int) * mm := by
        have s1 := put_step (f := f) (i := nn a) (mm := cy) n0a fv
        have s2 : kb_v (iup (iup f (nn a) (cy % 1073741824)) (nn a + 1) (cy / 1073741824)) ((nn a + 1).toNat + 1) = kb_v (iup f (nn a) (cy % 1073741824)) (nn a + 1).toNat + (cy / 1073741824) * 1073741824 ^ (nn a + 1).toNat := kb_v_up (fun t h0 h1 => iup_ne (by omega)) (by rw [Int.toNat_of_nonneg (by omega)]; exact iup_self)
        rw [show (nn a + 2).toNat = (nn a + 1).toNat + 1 by omega, s2]
        exact s1
      refine lv_aload_n hx hb dX0_scale_127 rfl (lv_at hl 0 rfl) ?_
      refine lv_iload hx hb dX0_scale_128 (lv_at hl 3 rfl) ?_
      refine lv_iconst (v := Int32.ofInt (2)) hx hb dX0_scale_130 (by decide) ?_
      refine g_iadd hx hb dX0_scale_131 ?_
      refine c_callv (As := [Iz ((nn a) + 2)]) (rest := []) E (k0_trim (h0 := h0) (top := nn a + 2) m0 (by omega) (by first | omega | (rw [va_up_self]; omega)) (by rw [va_up_self]; exact fd2)) (cwV 1 hts (cGood cl_X0_67 ci_X0_trim cs_X0_trim cn_RX0 cc_X0_trim) rfl rfl rfl (by decide +kernel) ⟨Nat.le_of_ble_eq_true rfl, Nat.le_of_ble_eq_true rfl⟩) (b_recv hK hV m0) hK hV hA hR rfl hl.1 (Nat.le_of_ble_eq_true rfl) dX0_scale_132 (fun X132 dd132 nn132 ss132 ll132 gg132 H locs q132 hV hm132 => ?_)
      obtain ⟨e1_, e2_, e3_, e4_, n1132, e5_, e6_, t0132, t1132, tp132, tz132⟩ := q132
      obtain rfl := e1_.symm
      obtain rfl := e2_.symm
      obtain rfl := e3_.symm
      obtain rfl := e4_.symm
      obtain rfl := e5_.symm
      obtain rfl := e6_.symm
      rw [va_up_self] at hV
      rw [va_up_up] at hV
      have hpost : X = X ∧ cR LB (va_up nn h0 n1132) (va_up ss h0 (if n1132 = 0 then 0 else (ss a))) ll (va_up gg h0 (iup (iup f (nn a) (cy % 1073741824)) ((nn a) + 1) (cy / 1073741824))) (va_up v h0 (v a * mm)) := ⟨rfl, by
            simp only [va_up_self] at tp132 tz132
            have sq : (if n1132 = 0 then 0 else ss a) = sg (v a * mm) := by
              by_cases q : n1132 = 0
              · rw [if_pos q]
                have z := kb_v_zero (f := iup (iup f (nn a) (cy % 1073741824)) (nn a + 1) (cy / 1073741824)) (k := 0) (n := (nn a + 2).toNat) (Nat.zero_le _) (fun t p r => tz132 t (by omega) (by omega))
                rw [fv2, show kb_v (iup (iup f (nn a) (cy % 1073741824)) (nn a + 1) (cy / 1073741824)) 0 = 0 from rfl] at z
                rcases Int.mul_eq_zero.mp z with w | w
                · rw [show v a = 0 by omega, Int.zero_mul]; rfl
                · rw [w, Int.mul_zero]; rfl
              · rw [if_neg q, sga]
                rcases Int.lt_or_le 0 mm with w | w
                · exact (sg_mul_pos w).symm
                · exfalso
                  have e0 : mm = 0 := by omega
                  rw [e0, Int.mul_zero] at fv2
                  have l0 := kb_v_nonneg (kb_d_of_le fd2 (show n1132.toNat ≤ (nn a + 2).toNat by omega))
                  have k0 := tp132 (by omega)
                  have z := kb_v_zero (f := iup (iup f (nn a) (cy % 1073741824)) (nn a + 1) (cy / 1073741824)) (k := n1132.toNat) (n := (nn a + 2).toNat) (by omega) (fun t p r => tz132 t (by omega) (by omega))
                  obtain ⟨j, hj⟩ : ∃ j : Nat, n1132.toNat = j + 1 := ⟨n1132.toNat - 1, by omega⟩
                  have d2 := kb_d_of_le fd2 (show n1132.toNat ≤ (nn a + 2).toNat by omega)
                  rw [hj] at z d2
                  have := kb_v_lo d2 (by rw [show ((j : Nat) : Int) = n1132 - 1 by omega]; exact k0)
                  have := kb_pow_pos j
                  omega
            have h := cR_up (h0 := h0) hN (num1_of (k := (ll h0)) (V := v a * mm) t0132 t1132 (by omega) (by omega) fd2 tp132 tz132 sq (by rw [fv2, Int.natAbs_mul, Int.natCast_mul]; congr 1; omega))
            first
            | (rw [va_up_self]; exact h)
            | (rw [va_up_id] at h; rw [va_up_self]; exact h)
            | exact h
            | (rw [va_up_id] at h; exact h)⟩
      exact c_vret hx hb hr hK hV hpost dX0_scale_135 hlocks
    · skip
      have xr := dga i i0 (by omega)
      have mr := mulM xr.1 xr.2 y0 y1
      refine lv_aload_n hx hb dX0_scale_48 rfl (lv_at hl 1 rfl) ?_
      refine t_getd E hK hV ma rfl cf_0_9 dX0_scale_49 ?_
      refine lv_iload hx hb dX0_scale_52 (lv_at hl 5 rfl) ?_
      refine t_ald (z := i) (v := gg a i) hx hb hK hV ma rfl (congrFun ((va_up_ne _ _ (Ne.symm na)).trans rfl) _) rfl (by omega) (by omega) dX0_scale_54 ?_
      refine g_i2l hx hb ⟨by omega, by omega⟩ dX0_scale_55 ?_
      refine lv_lload_n hx hb dX0_scale_56 rfl (lv_at hl 2 rfl) ?_
      refine g_lmul hx hb dX0_scale_57 ?_
      refine lv_lload hx hb dX0_scale_58 (lv_at hl 4 rfl) ?_
      refine g_ladd hx hb dX0_scale_60 ?_
      refine lv_lstore (lv' := [(8, Jz (((gg a i) * mm) + cy)), (0, .ref h0), (1, .ref a), (2, Jz (mm)), (4, Iz (nn a)), (5, Jz (cy)), (7, Iz (i))]) hx hb dX0_scale_61 hl (by decide) rfl (fun ls hl => ?_)
      refine lv_aload_n hx hb dX0_scale_63 rfl (lv_at hl 1 rfl) ?_
      refine t_getd E hK hV m0 rfl cf_0_9 dX0_scale_64 ?_
      refine lv_iload hx hb dX0_scale_67 (lv_at hl 6 rfl) ?_
      refine lv_lload hx hb dX0_scale_69 (lv_at hl 0 rfl) ?_
      refine lv_ldc2 (v := Int64.ofInt (1073741823)) hx hb hown (hts _ (List.mem_cons_of_mem _ cj_X0_20)) dX0_scale_71 ?_
      refine g_land30 hx hb dX0_scale_74 ?_
      refine g_l2i hx hb dX0_scale_75 ?_
      refine t_ast (z := i) (v := ((((gg a i) * mm) + cy) % 1073741824)) (gf := (va_up gg h0 (iup f i ((((gg a i) * mm) + cy) % 1073741824)))) hx hb hK hV m0 rfl ((congrArg (fun q => va_up (va_up gg h0 f) h0 (iup q i ((((gg a i) * mm) + cy) % 1073741824))) (va_up_self _ _ _)).trans (va_up_up _ _ _ _)) rfl (by omega) (by omega) dX0_scale_76 (fun H locs hV => ?_)
      refine lv_lload hx hb dX0_scale_77 (lv_at hl 0 rfl) ?_
      refine lv_bipush (v := Int32.ofInt (30)) hx hb dX0_scale_79 (by decide) ?_
      refine g_lushr hx hb (by omega) (by omega) (by omega) (by omega) dX0_scale_81 ?_
      rw [show (2 : Int) ^ (30 : Int).toNat = 1073741824 from rfl]
      refine lv_lstore (lv' := [(5, Jz ((((gg a i) * mm) + cy) / 1073741824)), (8, Jz (((gg a i) * mm) + cy)), (0, .ref h0), (1, .ref a), (2, Jz (mm)), (4, Iz (nn a)), (7, Iz (i))]) hx hb dX0_scale_82 hl (by decide) rfl (fun ls hl => ?_)
      refine g_iinc (k := 6) (z := i) (n := (1)) (lv' := [(7, Iz (i + 1)), (5, Jz ((((gg a i) * mm) + cy) / 1073741824)), (8, Jz (((gg a i) * mm) + cy)), (0, .ref h0), (1, .ref a), (2, Jz (mm)), (4, Iz (nn a))]) hx hb dX0_scale_84 hl rfl (by decide) rfl (fun ls hl => ?_)
      refine lv_goto (tgt := 41) hx hb dX0_scale_87 (by decide) ?_
      exact ih_41 _ (by omega) _ _ _ ⟨(iup f i ((((gg a i) * mm) + cy) % 1073741824)), ((((gg a i) * mm) + cy) / 1073741824), (i + 1), rfl, (by omega), (by omega), (by omega), (by omega), (kb_d_step i0 fd (by omega) (by omega)), (scl_step i0 fv (by omega)), hV, lv_sub hl [3, 4, 5, 6, 1, 0] rfl⟩
  · skip
    refine lv_aload_n hx hb dX0_scale_21 rfl (lv_at hl 2 rfl) ?_
    refine lv_aload_n hx hb dX0_scale_22 rfl (lv_at hl 2 rfl) ?_
    refine t_getd E hK hV m0 rfl cf_0_9 dX0_scale_23 ?_
    refine lv_iconst (v := Int32.ofInt (2)) hx hb dX0_scale_26 (by decide) ?_
    refine lv_iload hx hb dX0_scale_27 (lv_at hl 1 rfl) ?_
    refine g_imul hx hb dX0_scale_29 ?_
    refine lv_iconst (v := Int32.ofInt (2)) hx hb dX0_scale_30 (by decide) ?_
    refine g_iadd hx hb dX0_scale_31 ?_
    refine c_copyOf (rest := [.ref h0]) E (c_cwS 2 hts cl_X0_42 ct_J7_copyOf_59c91 cn_RJ7 cc_J7_copyOf_59c91 rfl rfl (by decide +kernel) ⟨Nat.le_of_ble_eq_true rfl, Nat.le_of_ble_eq_true rfl⟩) hK hV hA hR hl.1 (Nat.le_of_ble_eq_true rfl) m0 rfl rfl rfl (by omega) (by omega) dX0_scale_32 (fun q32 H locs hV => ?_)
    refine t_putd E hK hV m0 rfl rfl rfl (by omega) (by omega) cf_0_9 dX0_scale_35 (fun H locs hV => ?_)
    have kl : nn a + 2 ≤ (((((2 * (nn a)) + 2).toNat) : Nat) : Int) := by omega
    have k5 : 5 ≤ (((((2 * (nn a)) + 2).toNat) : Nat) : Int) := by omega
    refine lv_iconst (v := Int32.ofInt (0)) hx hb dX0_scale_38 (by decide) ?_
    refine lv_istore (lv' := [(7, Iz (0)), (5, Jz (0)), (4, Iz (nn a)), (0, .ref h0), (1, .ref a), (2, Jz (mm))]) hx hb dX0_scale_39 hl (by decide) rfl (fun ls hl => ?_)
    refine r_loop (P := fun N_ H locs ls => ∃ f : Int → Int, ∃ cy : Int, ∃ i : Int, N_ = (nn a - i).toNat ∧ (0 ≤ i) ∧ (i ≤ nn a) ∧ (0 ≤ cy) ∧ (cy ≤ mm) ∧ (kb_d f i.toNat) ∧ (kb_v f i.toNat + cy * 1073741824 ^ i.toNat = kb_v (gg a) i.toNat * mm) ∧ cV dC dI cx LB (va_A (bW (cx 0) LB dd nn ss ll gg X) s.heap.size) s.heap ll X (va_up dd h0 q32) nn ss (va_up ll h0 (((2 * (nn a)) + 2).toNat)) (va_up gg h0 f) H locs ∧ lv_has ls 10 [(0, .ref h0), (1, .ref a), (2, Jz (mm)), (4, Iz (nn a)), (5, Jz (cy)), (7, Iz (i))]) (g := fun ls => F0 m 41 ls []) (fun N_ H locs ls hI ih_41 => ?_) _ _ _ _ ⟨(cpf (gg h0) (fun _ => 0) (ll h0)), 0, 0, rfl, (Int.le_refl 0), (n0a), (Int.le_refl 0), (y0), (kb_d_zero _), (by show (0 : Int) + 0 * _ = 0 * _; rw [Int.zero_mul, Int.zero_mul]; rfl), hV, lv_sub hl [3, 4, 5, 2, 1, 0] rfl⟩
    obtain ⟨f, cy, i, rfl, i0, i1, cy0, cy1, fd, fv, hV, hl⟩ := hI
    refine lv_iload hx hb dX0_scale_41 (lv_at hl 5 rfl) ?_
    refine lv_iload hx hb dX0_scale_43 (lv_at hl 3 rfl) ?_
    refine g_icmp_ge (tgt := 90) hx hb ⟨by omega, by omega⟩ ⟨by omega, by omega⟩ dX0_scale_45 (by decide) (fun c_45 => ?_) (fun c_45 => ?_)
    · skip
      have ei : i = nn a := by omega
      rw [ei] at fd fv
      rw [vla] at fv
      refine lv_aload_n hx hb dX0_scale_90 rfl (lv_at hl 0 rfl) ?_
      refine t_getd E hK hV m0 (va_up_self _ _ _) cf_0_9 dX0_scale_91 ?_
      refine lv_iload hx hb dX0_scale_94 (lv_at hl 3 rfl) ?_
      refine lv_lload hx hb dX0_scale_96 (lv_at hl 4 rfl) ?_
      refine lv_ldc2 (v := Int64.ofInt (1073741823)) hx hb hown (hts _ (List.mem_cons_of_mem _ cj_X0_20)) dX0_scale_98 ?_
      refine g_land30 hx hb dX0_scale_101 ?_
      refine g_l2i hx hb dX0_scale_102 ?_
      refine t_ast (z := (nn a)) (v := (cy % 1073741824)) (gf := (va_up gg h0 (iup f (nn a) (cy % 1073741824)))) hx hb hK hV m0 (va_up_self _ _ _) ((congrArg (fun q => va_up (va_up gg h0 f) h0 (iup q (nn a) (cy % 1073741824))) (va_up_self _ _ _)).trans (va_up_up _ _ _ _)) (va_up_self _ _ _) (by omega) (by omega) dX0_scale_103 (fun H locs hV => ?_)
      refine lv_aload_n hx hb dX0_scale_104 rfl (lv_at hl 0 rfl) ?_
      refine t_getd E hK hV m0 (va_up_self _ _ _) cf_0_9 dX0_scale_105 ?_
      refine lv_iload hx hb dX0_scale_108 (lv_at hl 3 rfl) ?_
      refine lv_iconst (v := Int32.ofInt (1)) hx hb dX0_scale_110 (by decide) ?_
      refine g_iadd hx hb dX0_scale_111 ?_
      refine lv_lload hx hb dX0_scale_112 (lv_at hl 4 rfl) ?_
      refine lv_bipush (v := Int32.ofInt (30)) hx hb dX0_scale_114 (by decide) ?_
      refine g_lushr hx hb (by omega) (by omega) (by omega) (by omega) dX0_scale_116 ?_
      rw [show (2 : Int) ^ (30 : Int).toNat = 1073741824 from rfl]
      refine g_l2i hx hb dX0_scale_117 ?_
      refine t_ast (z := ((nn a) + 1)) (v := (cy / 1073741824)) (gf := (va_up gg h0 (iup (iup f (nn a) (cy % 1073741824)) ((nn a) + 1) (cy / 1073741824)))) hx hb hK hV m0 (va_up_self _ _ _) ((congrArg (fun q => va_up (va_up gg h0 (iup f (nn a) (cy % 1073741824))) h0 (iup q ((nn a) + 1) (cy / 1073741824))) (va_up_self _ _ _)).trans (va_up_up _ _ _ _)) (va_up_self _ _ _) (by omega) (by omega) dX0_scale_118 (fun H locs hV => ?_)
      refine lv_aload_n hx hb dX0_scale_119 rfl (lv_at hl 0 rfl) ?_
      refine lv_aload_n hx hb dX0_scale_120 rfl (lv_at hl 1 rfl) ?_
      refine t_gets E hK hV ma rfl cf_0_17 dX0_scale_121 ?_
      refine t_puts E hK hV m0 rfl cf_0_17 dX0_scale_124 (fun H locs hV => ?_)
      have fd2 : kb_d (iup (iup f (nn a) (cy % 1073741824)) (nn a + 1) (cy / 1073741824)) (nn a + 2).toNat := by rw [show nn a + 2 = nn a + 1 + 1 by omega]; exact kb_d_step (by omega) (kb_d_step n0a fd (by omega) (by omega)) (by omega) (by omega)
      have fv2 : kb_v (iup (iup f (nn a) (cy % 1073741824)) (nn a + 1) (cy / 1073741824)) (nn a + 2).toNat = ((v a).natAbs : Int) * mm := by
        have s1 := put_step (f := f) (i := nn a) (mm := cy) n0a fv
        have s2 : kb_v (iup (iup f (nn a) (cy % 1073741824)) (nn a + 1) (cy / 1073741824)) ((nn a + 1).toNat + 1) = kb_v (iup f (nn a) (cy % 1073741824)) (nn a + 1).toNat + (cy / 1073741824) * 1073741824 ^ (nn a + 1).toNat := kb_v_up (fun t h0 h1 => iup_ne (by omega)) (by rw [Int.toNat_of_nonneg (by omega)]; exact iup_self)
        rw [show (nn a + 2).toNat = (nn a + 1).toNat + 1 by omega, s2]
        exact s1
      refine lv_aload_n hx hb dX0_scale_127 rfl (lv_at hl 0 rfl) ?_
      refine lv_iload hx hb dX0_scale_128 (lv_at hl 3 rfl) ?_
      refine lv_iconst (v := Int32.ofInt (2)) hx hb dX0_scale_130 (by decide) ?_
      refine g_iadd hx hb dX0_scale_131 ?_
      refine c_callv (As := [Iz ((nn a) + 2)]) (rest := []) E (k0_trim (h0 := h0) (top := nn a + 2) m0 (by omega) (by first | omega | (rw [va_up_self]; omega)) (by rw [va_up_self]; exact fd2)) (cwV 1 hts (cGood cl_X0_67 ci_X0_trim cs_X0_trim cn_RX0 cc_X0_trim) rfl rfl rfl (by decide +kernel) ⟨Nat.le_of_ble_eq_true rfl, Nat.le_of_ble_eq_true rfl⟩) (b_recv hK hV m0) hK hV hA hR rfl hl.1 (Nat.le_of_ble_eq_true rfl) dX0_scale_132 (fun X132 dd132 nn132 ss132 ll132 gg132 H locs q132 hV hm132 => ?_)
      obtain ⟨e1_, e2_, e3_, e4_, n1132, e5_, e6_, t0132, t1132, tp132, tz132⟩ := q132
      obtain rfl := e1_.symm
      obtain rfl := e2_.symm
      obtain rfl := e3_.symm
      obtain rfl := e4_.symm
      obtain rfl := e5_.symm
      obtain rfl := e6_.symm
      rw [va_up_self] at hV
      rw [va_up_up] at hV
      have hpost : X = X ∧ cR LB (va_up nn h0 n1132) (va_up ss h0 (if n1132 = 0 then 0 else (ss a))) (va_up ll h0 (((2 * (nn a)) + 2).toNat)) (va_up gg h0 (iup (iup f (nn a) (cy % 1073741824)) ((nn a) + 1) (cy / 1073741824))) (va_up v h0 (v a * mm)) := ⟨rfl, by
            simp only [va_up_self] at tp132 tz132
            have sq : (if n1132 = 0 then 0 else ss a) = sg (v a * mm) := by
              by_cases q : n1132 = 0
              · rw [if_pos q]
                have z := kb_v_zero (f := iup (iup f (nn a) (cy % 1073741824)) (nn a + 1) (cy / 1073741824)) (k := 0) (n := (nn a + 2).toNat) (Nat.zero_le _) (fun t p r => tz132 t (by omega) (by omega))
                rw [fv2, show kb_v (iup (iup f (nn a) (cy % 1073741824)) (nn a + 1) (cy / 1073741824)) 0 = 0 from rfl] at z
                rcases Int.mul_eq_zero.mp z with w | w
                · rw [show v a = 0 by omega, Int.zero_mul]; rfl
                · rw [w, Int.mul_zero]; rfl
              · rw [if_neg q, sga]
                rcases Int.lt_or_le 0 mm with w | w
                · exact (sg_mul_pos w).symm
                · exfalso
                  have e0 : mm = 0 := by omega
                  rw [e0, Int.mul_zero] at fv2
                  have l0 := kb_v_nonneg (kb_d_of_le fd2 (show n1132.toNat ≤ (nn a + 2).toNat by omega))
                  have k0 := tp132 (by omega)
                  have z := kb_v_zero (f := iup (iup f (nn a) (cy % 1073741824)) (nn a + 1) (cy / 1073741824)) (k := n1132.toNat) (n := (nn a + 2).toNat) (by omega) (fun t p r => tz132 t (by omega) (by omega))
                  obtain ⟨j, hj⟩ : ∃ j : Nat, n1132.toNat = j + 1 := ⟨n1132.toNat - 1, by omega⟩
                  have d2 := kb_d_of_le fd2 (show n1132.toNat ≤ (nn a + 2).toNat by omega)
                  rw [hj] at z d2
                  have := kb_v_lo d2 (by rw [show ((j : Nat) : Int) = n1132 - 1 by omega]; exact k0)
                  have := kb_pow_pos j
                  omega
            have h := cR_up (h0 := h0) hN (num1_of (k := (((2 * (nn a)) + 2).toNat)) (V := v a * mm) t0132 t1132 (by omega) (by omega) fd2 tp132 tz132 sq (by rw [fv2, Int.natAbs_mul, Int.natCast_mul]; congr 1; omega))
            first
            | (rw [va_up_self]; exact h)
            | (rw [va_up_id] at h; rw [va_up_self]; exact h)
            | exact h
            | (rw [va_up_id] at h; exact h)⟩
      exact c_vret hx hb hr hK hV hpost dX0_scale_135 hlocks
    · skip
      have xr := dga i i0 (by omega)
      have mr := mulM xr.1 xr.2 y0 y1
      refine lv_aload_n hx hb dX0_scale_48 rfl (lv_at hl 1 rfl) ?_
      refine t_getd E hK hV ma ((va_up_ne _ _ (Ne.symm na)).trans rfl) cf_0_9 dX0_scale_49 ?_
      refine lv_iload hx hb dX0_scale_52 (lv_at hl 5 rfl) ?_
      refine t_ald (z := i) (v := gg a i) hx hb hK hV ma ((va_up_ne _ _ (Ne.symm na)).trans rfl) (congrFun ((va_up_ne _ _ (Ne.symm na)).trans rfl) _) ((va_up_ne _ _ (Ne.symm na)).trans rfl) (by omega) (by omega) dX0_scale_54 ?_
      refine g_i2l hx hb ⟨by omega, by omega⟩ dX0_scale_55 ?_
      refine lv_lload_n hx hb dX0_scale_56 rfl (lv_at hl 2 rfl) ?_
      refine g_lmul hx hb dX0_scale_57 ?_
      refine lv_lload hx hb dX0_scale_58 (lv_at hl 4 rfl) ?_
      refine g_ladd hx hb dX0_scale_60 ?_
      refine lv_lstore (lv' := [(8, Jz (((gg a i) * mm) + cy)), (0, .ref h0), (1, .ref a), (2, Jz (mm)), (4, Iz (nn a)), (5, Jz (cy)), (7, Iz (i))]) hx hb dX0_scale_61 hl (by decide) rfl (fun ls hl => ?_)
      refine lv_aload_n hx hb dX0_scale_63 rfl (lv_at hl 1 rfl) ?_
      refine t_getd E hK hV m0 (va_up_self _ _ _) cf_0_9 dX0_scale_64 ?_
      refine lv_iload hx hb dX0_scale_67 (lv_at hl 6 rfl) ?_
      refine lv_lload hx hb dX0_scale_69 (lv_at hl 0 rfl) ?_
      refine lv_ldc2 (v := Int64.ofInt (1073741823)) hx hb hown (hts _ (List.mem_cons_of_mem _ cj_X0_20)) dX0_scale_71 ?_
      refine g_land30 hx hb dX0_scale_74 ?_
      refine g_l2i hx hb dX0_scale_75 ?_
      refine t_ast (z := i) (v := ((((gg a i) * mm) + cy) % 1073741824)) (gf := (va_up gg h0 (iup f i ((((gg a i) * mm) + cy) % 1073741824)))) hx hb hK hV m0 (va_up_self _ _ _) ((congrArg (fun q => va_up (va_up gg h0 f) h0 (iup q i ((((gg a i) * mm) + cy) % 1073741824))) (va_up_self _ _ _)).trans (va_up_up _ _ _ _)) (va_up_self _ _ _) (by omega) (by omega) dX0_scale_76 (fun H locs hV => ?_)
      refine lv_lload hx hb dX0_scale_77 (lv_at hl 0 rfl) ?_
      refine lv_bipush (v := Int32.ofInt (30)) hx hb dX0_scale_79 (by decide) ?_
      refine g_lushr hx hb (by omega) (by omega) (by omega) (by omega) dX0_scale_81 ?_
      rw [show (2 : Int) ^ (30 : Int).toNat = 1073741824 from rfl]
      refine lv_lstore (lv' := [(5, Jz ((((gg a i) * mm) + cy) / 1073741824)), (8, Jz (((gg a i) * mm) + cy)), (0, .ref h0), (1, .ref a), (2, Jz (mm)), (4, Iz (nn a)), (7, Iz (i))]) hx hb dX0_scale_82 hl (by decide) rfl (fun ls hl => ?_)
      refine g_iinc (k := 6) (z := i) (n := (1)) (lv' := [(7, Iz (i + 1)), (5, Jz ((((gg a i) * mm) + cy) / 1073741824)), (8, Jz (((gg a i) * mm) + cy)), (0, .ref h0), (1, .ref a), (2, Jz (mm)), (4, Iz (nn a))]) hx hb dX0_scale_84 hl rfl (by decide) rfl (fun ls hl => ?_)
      refine lv_goto (tgt := 41) hx hb dX0_scale_87 (by decide) ?_
      exact ih_41 _ (by omega) _ _ _ ⟨(iup f i ((((gg a i) * mm) + cy) % 1073741824)), ((((gg a i) * mm) + cy) / 1073741824), (i + 1), rfl, (by omega), (by omega), (by omega), (by omega), (kb_d_step i0 fd (by omega) (by omega)), (scl_step i0 fv (by omega)), hV, lv_sub hl [3, 4, 5, 6, 1, 0] rfl⟩
