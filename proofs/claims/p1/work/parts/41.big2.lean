theorem put_step {f : Int → Int} {x mm i : Int} (i0 : 0 ≤ i) (e : kb_v f i.toNat + mm * 1073741824 ^ i.toNat = x) : kb_v (iup f i (mm % 1073741824)) (i + 1).toNat + mm / 1073741824 * 1073741824 ^ (i + 1).toNat = x := by
  have e1 : (i + 1).toNat = i.toNat + 1 := by omega
  have e2 : ((i.toNat : Nat) : Int) = i := Int.toNat_of_nonneg i0
  rw [e1, kb_v_up (f := f) (g := iup f i (mm % 1073741824)) (d := mm % 1073741824) (fun j h0 h1 => iup_ne (by omega)) (by rw [e2]; exact iup_self), kb_pow_succ, ← e]
  have h := Int.mul_ediv_add_emod mm 1073741824
  grind
theorem num1_cpf {n s : Int} {k k' : Nat} {f g : Int → Int} {V : Int} (h : num1 n s k f V) (h1 : n ≤ k') (h2 : 5 ≤ k') : num1 n s k' (cpf f g n) V := by
  obtain ⟨a1, a2, a3, a4, a5, a6, a7⟩ := h
  refine ⟨a1, h1, h2, fun j q0 q1 => ?_, fun q => ?_, a6, ?_⟩
  · unfold cpf; rw [if_pos (by omega)]; exact a4 j q0 q1
  · unfold cpf; rw [if_pos (by omega)]; exact a5 q
  · rw [← a7]; exact kb_v_congr (fun j q0 q1 => if_pos (by omega))
theorem cV_nor {dC : Nat → ClassId} {dI : Nat → Nat → Nat} {cx : Nat → Nat} {LB : List Nat} {A : Nat → Prop} {H0 : Heap} {ll0 : Nat → Nat} {X : va_W} {dd : Nat → Nat} {nn ss : Nat → Int} {ll : Nat → Nat} {gg gg' : Nat → Int → Int} {H : Heap} {locs : List Loc} (h : cV dC dI cx LB A H0 ll0 X dd nn ss ll gg H locs) (e : gg = gg') : cV dC dI cx LB A H0 ll0 X dd nn ss ll gg' H locs := e ▸ h
theorem kb_d_iup {f : Int → Int} {i d : Int} {n : Nat} (h : kb_d f n) (hi : i = n) (d0 : 0 ≤ d) (d1 : d < 1073741824) : kb_d (iup f i d) (n + 1) := fun j h0 h1 => by
  by_cases q : j = i
  · subst q; rw [iup_self]; exact ⟨d0, d1⟩
  · rw [iup_ne q]; exact h j h0 (by omega)
theorem kb_d_upd {f : Int → Int} {i d : Int} {n : Nat} (h : kb_d f n) (d0 : 0 ≤ d) (d1 : d < 1073741824) : kb_d (iup f i d) n := fun j h0 h1 => by
  by_cases q : j = i
  · subst q; rw [iup_self]; exact ⟨d0, d1⟩
  · rw [iup_ne q]; exact h j h0 h1
set_option maxHeartbeats 4000000 in
set_option maxRecDepth 100000 in
theorem k0_put {l : Launch} {dC : Nat → ClassId} {dI : Nat → Nat → Nat} {cx : Nat → Nat} {LB : List Nat} {X : va_W} {dd : Nat → Nat} {nn ss : Nat → Int} {ll : Nat → Nat} {gg : Nat → Int → Int} {H0 : Heap} {v : Nat → Int} {h0 : Nat} {x : Int} (m0 : h0 ∈ LB) (hN : cR LB nn ss ll gg v) (x0 : -9223372036854775808 ≤ x) (x1 : x ≤ 9223372036854775807) : Met l yX0_put (Cond.code yX0_put cX0_put 6 none :: w0c) (cRm 0 0 LB ll) (cPc dC dI cx LB X dd nn ss ll gg H0 [.ref h0, Jz (x)]) (cQv dC dI cx LB (va_A (bW (cx 0) LB dd nn ss ll gg X) H0.size) ll H0 (fun X' dd' nn' ss' ll' gg' => X' = X ∧ cR LB nn' ss' ll' gg' (va_up v h0 x))) (cMc LB ll) (2 * cMc LB ll) (va_A (bW (cx 0) LB dd nn ss ll gg X) H0.size) := by
  refine Met.ofW (cc := cX0_put) (maxL := 6) (ret := none) (by decide) rfl ?_
  intro p e s m args below meth c s₁ B hml hv
  obtain ⟨rfl, hH0, hP, hK, hD0, hC0⟩ := hv
  have hx := B.exec
  have hb := B.bytes
  have hr := B.returns
  have hts := atoms_spec (ws := Cond.code yX0_put cX0_put 6 none :: w0c) B.pre
  have hown : s.vm.findClass RX0 = some m.cls := findClass_of_methodNamed B.named
  have hlocks := B.notSynchronized
  have E : CallFix p m c cX0_put 6 s _ (Cond.code yX0_put cX0_put 6 none :: w0c) RX0 := ⟨hx, hb, hml, hown, hts⟩
  subst hH0
  have hD := va_D.self (sz := s.heap.size) hD0
  have hA : ∀ q : Nat, s.heap.size ≤ q → va_A (bW (cx 0) LB dd nn ss ll gg X) s.heap.size q := fun q h => Or.inr h
  have hV : cV dC dI cx LB (va_A (bW (cx 0) LB dd nn ss ll gg X) s.heap.size) s.heap ll X dd nn ss ll gg s.heap [] := ⟨hP, hD, va_S.rf, fun _ _ => Nat.le_refl _, hC0⟩
  have hR : (headSpec (Cond.code yX0_put cX0_put 6 none :: w0c) (cRm 0 0 LB ll)).room.cells = cMc LB ll ∧ (headSpec (Cond.code yX0_put cX0_put 6 none :: w0c) (cRm 0 0 LB ll)).room.slots = 2 * cMc LB ll := ⟨rfl, rfl⟩
  refine W.widen (k := cP LB ll - cP LB ll) (n := 2 * (cP LB ll - cP LB ll)) (Nat.zero_le _) (Nat.zero_le _) ?_
  have hl := lv_entry ([.ref h0, Jz (x)]) (n := 6) (Nat.le_of_ble_eq_true rfl)
  rw [lg_entry_eq]
  generalize (lg_sl ([.ref h0, Jz (x)]) ++ List.replicate (6 - (lg_sl ([.ref h0, Jz (x)])).length) Slot.unset).toArray = ls at hl ⊢
  have hl : lv_has ls 6 [(0, .ref h0), (1, Jz (x))] := hl
  have c4_ := (hC0 h0 m0)
  have cg1 := @g_cmp_le x 0
  have cg2 := @g_cmp_lt x 0
  have cgi := g_cmp_i x 0
  refine lv_aload_n hx hb dX0_put_0 rfl (lv_at hl 0 rfl) ?_
  refine r_join (P := fun z : Int => z = sg x) (g := fun z => F0 m 22 ls [Iz z, .ref h0]) (fun s1 hs1 => ?_) (fun k_22 => ?_)
  · skip
    obtain rfl := hs1.symm
    refine t_puts E hK hV m0 rfl cf_0_17 dX0_put_22 (fun H locs hV => ?_)
    refine r_join (P := fun z : Int => z = (x.natAbs : Int)) (g := fun z => F0 m 37 ls [Jz z]) (fun m1 hm1 => ?_) (fun k_37 => ?_)
    · skip
      obtain rfl := hm1.symm
      refine lv_lstore_n (lv' := [(3, Jz ((x.natAbs : Int))), (0, .ref h0), (1, Jz (x))]) hx hb dX0_put_37 rfl hl (by decide) rfl (fun ls hl => ?_)
      refine lv_aload_n hx hb dX0_put_38 rfl (lv_at hl 1 rfl) ?_
      refine lv_iconst (v := Int32.ofInt (0)) hx hb dX0_put_39 (by decide) ?_
      refine t_putn E hK hV m0 rfl cf_0_13 dX0_put_40 (fun H locs hV => ?_)
      refine lv_iconst (v := Int32.ofInt (0)) hx hb dX0_put_43 (by decide) ?_
      refine lv_istore (lv' := [(5, Iz (0)), (3, Jz ((x.natAbs : Int))), (0, .ref h0), (1, Jz (x))]) hx hb dX0_put_44 hl (by decide) rfl (fun ls hl => ?_)
      have hV := cV_nor hV (va_up_id gg h0).symm
      refine r_loop (P := fun N_ H locs ls => ∃ f : Int → Int, ∃ n : Int, ∃ mm : Int, ∃ i : Int, N_ = (3 - i).toNat ∧ (0 ≤ i) ∧ (i ≤ 3) ∧ (0 ≤ mm) ∧ (mm ≤ 9223372036854775808) ∧ (0 ≤ n) ∧ (n ≤ i) ∧ (kb_d f i.toNat) ∧ (kb_v f i.toNat + mm * 1073741824 ^ i.toNat = (x.natAbs : Int)) ∧ (0 < n → f (n - 1) ≠ 0) ∧ (∀ j : Int, n ≤ j → j < i → f j = 0) ∧ cV dC dI cx LB (va_A (bW (cx 0) LB dd nn ss ll gg X) s.heap.size) s.heap ll X dd (va_up nn h0 n) (va_up ss h0 (sg x)) ll (va_up gg h0 f) H locs ∧ lv_has ls 6 [(0, .ref h0), (3, Jz (mm)), (5, Iz (i))]) (g := fun ls => F0 m 46 ls []) (fun N_ H locs ls hI ih_46 => ?_) _ _ _ _ ⟨(gg h0), 0, (x.natAbs : Int), 0, rfl, (Int.le_refl 0), (by omega), (by omega), (by omega), (Int.le_refl 0), (Int.le_refl 0), (fun j h0 h1 => by exfalso; have : ((0 : Int).toNat : Int) = 0 := rfl; omega), (by show 0 + _ * 1 = _; omega), (fun h => absurd h (by decide)), (fun j h0 h1 => by omega), hV, lv_sub hl [2, 1, 0] rfl⟩
      obtain ⟨f, n, mm, i, rfl, i0, i1, m0_, m1_, n0_, n1_, fd, fv, ft, fz, hV, hl⟩ := hI
      refine lv_iload hx hb dX0_put_46 (lv_at hl 2 rfl) ?_
      refine lv_iconst (v := Int32.ofInt (3)) hx hb dX0_put_48 (by decide) ?_
      refine g_icmp_ge (tgt := 94) hx hb ⟨by omega, by omega⟩ ⟨by omega, by omega⟩ dX0_put_49 (by decide) (fun c_49 => ?_) (fun c_49 => ?_)
      · skip
        have hpost : X = X ∧ cR LB (va_up nn h0 n) (va_up ss h0 (sg x)) ll (va_up gg h0 f) (va_up v h0 x) := ⟨rfl, by
              have h := cR_up (h0 := h0) hN (show num1 n (sg x) (ll h0) f x from num1_of n0_ n1_ (show i ≤ ll h0 by omega) c4_.1 fd ft fz rfl (by
                have e3 : i = 3 := by omega
                subst e3
                have e4 : (1073741824 : Int) ^ (3 : Int).toNat = 1237940039285380274899124224 := by decide
                rw [e4] at fv
                have l1 := kb_v_nonneg fd
                have mz : mm = 0 := by omega
                rw [mz] at fv
                omega))
              rw [va_up_id] at h
              exact h⟩
        exact c_vret hx hb hr hK hV hpost dX0_put_94 hlocks
      · skip
        refine lv_aload_n hx hb dX0_put_52 rfl (lv_at hl 0 rfl) ?_
        refine t_getd E hK hV m0 rfl cf_0_9 dX0_put_53 ?_
        refine lv_iload hx hb dX0_put_56 (lv_at hl 2 rfl) ?_
        refine lv_lload_n hx hb dX0_put_58 rfl (lv_at hl 1 rfl) ?_
        refine lv_ldc2 (v := Int64.ofInt (1073741823)) hx hb hown (hts _ (List.mem_cons_of_mem _ cj_X0_20)) dX0_put_59 ?_
        refine g_land30 hx hb dX0_put_62 ?_
        refine g_l2i hx hb dX0_put_63 ?_
        refine t_ast (z := i) (v := (mm % 1073741824)) (gf := (va_up gg h0 (iup f i (mm % 1073741824)))) hx hb hK hV m0 rfl ((congrArg (fun q => va_up (va_up gg h0 f) h0 (iup q i (mm % 1073741824))) (va_up_self _ _ _)).trans (va_up_up _ _ _ _)) rfl (by omega) (by omega) dX0_put_64 (fun H locs hV => ?_)
        refine lv_lload_n hx hb dX0_put_65 rfl (lv_at hl 1 rfl) ?_
        refine lv_bipush (v := Int32.ofInt (30)) hx hb dX0_put_66 (by decide) ?_
        refine g_lushr hx hb (by omega) (by omega) (by omega) (by omega) dX0_put_68 ?_
        rw [show (2 : Int) ^ (30 : Int).toNat = 1073741824 from rfl]
        refine lv_lstore_n (lv' := [(3, Jz (mm / 1073741824)), (0, .ref h0), (5, Iz (i))]) hx hb dX0_put_69 rfl hl (by decide) rfl (fun ls hl => ?_)
        refine lv_aload_n hx hb dX0_put_70 rfl (lv_at hl 1 rfl) ?_
        refine t_getd E hK hV m0 rfl cf_0_9 dX0_put_71 ?_
        refine lv_iload hx hb dX0_put_74 (lv_at hl 2 rfl) ?_
        refine t_ald (z := i) (v := (mm % 1073741824)) hx hb hK hV m0 rfl ((congrFun (va_up_self _ _ _) _).trans iup_self) rfl (by omega) (by omega) dX0_put_76 ?_
        refine g_if_eq (tgt := 88) hx hb (by first | assumption | exact ⟨by omega, by omega⟩) dX0_put_77 (by decide) (fun c_77 => ?_) (fun c_77 => ?_)
        · skip
          refine g_iinc (k := 2) (z := i) (n := (1)) (lv' := [(5, Iz (i + 1)), (3, Jz (mm / 1073741824)), (0, .ref h0)]) hx hb dX0_put_88 hl rfl (by decide) rfl (fun ls hl => ?_)
          refine lv_goto (tgt := 46) hx hb dX0_put_91 (by decide) ?_
          exact ih_46 _ (by omega) _ _ _ ⟨(iup f i (mm % 1073741824)), n, (mm / 1073741824), (i + 1), rfl, (by omega), (by omega), (by omega), (by omega), (by omega), (by omega), (by rw [show (i + 1).toNat = i.toNat + 1 by omega]; exact kb_d_iup fd (by omega) (by omega) (by omega)), (put_step i0 fv), (fun h => by first | (rw [show i + 1 - 1 = i by omega, iup_self]; exact c_77) | (rw [iup_ne (by omega)]; exact ft h)), (fun j h0 h1 => by by_cases q : j = i; (· subst q; rw [iup_self]; first | omega | exact c_77); (· rw [iup_ne q]; exact fz j (by omega) (by omega))), hV, lv_sub hl [2, 1, 0] rfl⟩
        · skip
          refine lv_aload_n hx hb dX0_put_80 rfl (lv_at hl 1 rfl) ?_
          refine lv_iload hx hb dX0_put_81 (lv_at hl 2 rfl) ?_
          refine lv_iconst (v := Int32.ofInt (1)) hx hb dX0_put_83 (by decide) ?_
          refine g_iadd hx hb dX0_put_84 ?_
          refine t_putn E hK hV m0 (va_up_up _ _ _ _) cf_0_13 dX0_put_85 (fun H locs hV => ?_)
          refine g_iinc (k := 2) (z := i) (n := (1)) (lv' := [(5, Iz (i + 1)), (3, Jz (mm / 1073741824)), (0, .ref h0)]) hx hb dX0_put_88 hl rfl (by decide) rfl (fun ls hl => ?_)
          refine lv_goto (tgt := 46) hx hb dX0_put_91 (by decide) ?_
          exact ih_46 _ (by omega) _ _ _ ⟨(iup f i (mm % 1073741824)), (i + 1), (mm / 1073741824), (i + 1), rfl, (by omega), (by omega), (by omega), (by omega), (by omega), (by omega), (by rw [show (i + 1).toNat = i.toNat + 1 by omega]; exact kb_d_iup fd (by omega) (by omega) (by omega)), (put_step i0 fv), (fun h => by first | (rw [show i + 1 - 1 = i by omega, iup_self]; exact c_77) | (rw [iup_ne (by omega)]; exact ft h)), (fun j h0 h1 => by by_cases q : j = i; (· subst q; rw [iup_self]; first | omega | exact c_77); (· rw [iup_ne q]; exact fz j (by omega) (by omega))), hV, lv_sub hl [2, 1, 0] rfl⟩
    · skip
      refine lv_lload_n hx hb dX0_put_25 rfl (lv_at hl 1 rfl) ?_
      refine lv_lconst (v := Int64.ofInt 0) hx hb dX0_put_26 rfl ?_
      refine g_lcmp hx hb (by first | assumption | exact ⟨by omega, by omega⟩) (by first | assumption | exact ⟨by omega, by omega⟩) dX0_put_27 ?_
      refine g_if_ge (tgt := 36) hx hb cgi dX0_put_28 (by decide) (fun c_28 => ?_) (fun c_28 => ?_)
      · skip
        refine lv_lload_n hx hb dX0_put_36 rfl (lv_at hl 1 rfl) ?_
        exact k_37 _ (by omega)
      · skip
        refine lv_lload_n hx hb dX0_put_31 rfl (lv_at hl 1 rfl) ?_
        refine g_lneg hx hb dX0_put_32 ?_
        refine lv_goto (tgt := 37) hx hb dX0_put_33 (by decide) ?_
        exact k_37 _ (by omega)
  · skip
    refine lv_lload_n hx hb dX0_put_1 rfl (lv_at hl 1 rfl) ?_
    refine lv_lconst (v := Int64.ofInt 0) hx hb dX0_put_2 rfl ?_
    refine g_lcmp hx hb (by first | assumption | exact ⟨by omega, by omega⟩) (by first | assumption | exact ⟨by omega, by omega⟩) dX0_put_3 ?_
    refine g_if_le (tgt := 11) hx hb cgi dX0_put_4 (by decide) (fun c_4 => ?_) (fun c_4 => ?_)
    · skip
      refine lv_lload_n hx hb dX0_put_11 rfl (lv_at hl 1 rfl) ?_
      refine lv_lconst (v := Int64.ofInt 0) hx hb dX0_put_12 rfl ?_
      refine g_lcmp hx hb (by first | assumption | exact ⟨by omega, by omega⟩) (by first | assumption | exact ⟨by omega, by omega⟩) dX0_put_13 ?_
      refine g_if_ge (tgt := 21) hx hb cgi dX0_put_14 (by decide) (fun c_14 => ?_) (fun c_14 => ?_)
      · skip
        refine lv_iconst (v := Int32.ofInt (0)) hx hb dX0_put_21 (by decide) ?_
        exact k_22 _ (by unfold sg; split <;> (try split) <;> omega)
      · skip
        refine lv_iconst (v := Int32.ofInt (-1)) hx hb dX0_put_17 (by decide) ?_
        refine lv_goto (tgt := 22) hx hb dX0_put_18 (by decide) ?_
        exact k_22 _ (by unfold sg; split <;> (try split) <;> omega)
    · skip
      refine lv_iconst (v := Int32.ofInt (1)) hx hb dX0_put_7 (by decide) ?_
      refine lv_goto (tgt := 22) hx hb dX0_put_8 (by decide) ?_
      exact k_22 _ (by unfold sg; split <;> (try split) <;> omega)
set_option maxHeartbeats 4000000 in
set_option maxRecDepth 100000 in
theorem k0_copy {l : Launch} {dC : Nat → ClassId} {dI : Nat → Nat → Nat} {cx : Nat → Nat} {LB : List Nat} {X : va_W} {dd : Nat → Nat} {nn ss : Nat → Int} {ll : Nat → Nat} {gg : Nat → Int → Int} {H0 : Heap} {v : Nat → Int} {h0 : Nat} {a : Nat} (m0 : h0 ∈ LB) (hN : cR LB nn ss ll gg v) (ma : a ∈ LB) (na : h0 ≠ a) (ka : nn a ≤ 200) : Met l yX0_copy (Cond.code yX0_copy cX0_copy 2 none :: w0c) (cRm 1 40 LB ll) (cPc dC dI cx LB X dd nn ss ll gg H0 [.ref h0, .ref a]) (cQv dC dI cx LB (va_A (bW (cx 0) LB dd nn ss ll gg X) H0.size) ll H0 (fun X' dd' nn' ss' ll' gg' => X' = X ∧ cR LB nn' ss' ll' gg' (va_up v h0 (v a)))) (cMc LB ll) (2 * cMc LB ll) (va_A (bW (cx 0) LB dd nn ss ll gg X) H0.size) := by
  refine Met.ofW (cc := cX0_copy) (maxL := 2) (ret := none) (by decide) rfl ?_
  intro p e s m args below meth c s₁ B hml hv
  obtain ⟨rfl, hH0, hP, hK, hD0, hC0⟩ := hv
  have hx := B.exec
  have hb := B.bytes
  have hr := B.returns
  have hts := atoms_spec (ws := Cond.code yX0_copy cX0_copy 2 none :: w0c) B.pre
  have hown : s.vm.findClass RX0 = some m.cls := findClass_of_methodNamed B.named
  have hlocks := B.notSynchronized
  have E : CallFix p m c cX0_copy 2 s _ (Cond.code yX0_copy cX0_copy 2 none :: w0c) RX0 := ⟨hx, hb, hml, hown, hts⟩
  subst hH0
  have hD := va_D.self (sz := s.heap.size) hD0
  have hA : ∀ q : Nat, s.heap.size ≤ q → va_A (bW (cx 0) LB dd nn ss ll gg X) s.heap.size q := fun q h => Or.inr h
  have hV : cV dC dI cx LB (va_A (bW (cx 0) LB dd nn ss ll gg X) s.heap.size) s.heap ll X dd nn ss ll gg s.heap [] := ⟨hP, hD, va_S.rf, fun _ _ => Nat.le_refl _, hC0⟩
  have hR : (headSpec (Cond.code yX0_copy cX0_copy 2 none :: w0c) (cRm 1 40 LB ll)).room.cells = cMc LB ll ∧ (headSpec (Cond.code yX0_copy cX0_copy 2 none :: w0c) (cRm 1 40 LB ll)).room.slots = 2 * cMc LB ll := ⟨rfl, rfl⟩
  refine W.widen (k := cP LB ll - cP LB ll) (n := 2 * (cP LB ll - cP LB ll)) (Nat.zero_le _) (Nat.zero_le _) ?_
  have hl := lv_entry ([.ref h0, .ref a]) (n := 2) (Nat.le_of_ble_eq_true rfl)
  rw [lg_entry_eq]
  generalize (lg_sl ([.ref h0, .ref a]) ++ List.replicate (2 - (lg_sl ([.ref h0, .ref a])).length) Slot.unset).toArray = ls at hl ⊢
  have hl : lv_has ls 2 [(0, .ref h0), (1, .ref a)] := hl
  have N0 := hN h0 m0
  obtain ⟨n0_, n1_, k5_, dg_, tp_, sg_, vl_⟩ := hN h0 m0
  have c4_ := (hC0 h0 m0).2
  have sb_ := sg_bd (v h0)
  have NA := hN a ma
  obtain ⟨n0a, n1a, k5a, dga, tpa, sga, vla⟩ := hN a ma
  have c4a := (hC0 a ma).2
  have sba := sg_bd (v a)
  refine lv_aload_n hx hb dX0_copy_0 rfl (lv_at hl 1 rfl) ?_
  refine t_getn E hK hV ma rfl cf_0_13 dX0_copy_1 ?_
  refine lv_aload_n hx hb dX0_copy_4 rfl (lv_at hl 0 rfl) ?_
  refine t_getd E hK hV m0 rfl cf_0_9 dX0_copy_5 ?_
  refine t_len hx hb hK hV m0 rfl rfl dX0_copy_8 ?_
  refine g_icmp_le (tgt := 24) hx hb ⟨by omega, by omega⟩ ⟨by omega, by omega⟩ dX0_copy_9 (by decide) (fun c_9 => ?_) (fun c_9 => ?_)
  · skip
    refine lv_aload_n hx hb dX0_copy_24 rfl (lv_at hl 1 rfl) ?_
    refine t_getd E hK hV ma rfl cf_0_9 dX0_copy_25 ?_
    refine lv_iconst (v := Int32.ofInt (0)) hx hb dX0_copy_28 (by decide) ?_
    refine lv_aload_n hx hb dX0_copy_29 rfl (lv_at hl 0 rfl) ?_
    refine t_getd E hK hV m0 rfl cf_0_9 dX0_copy_30 ?_
    refine lv_iconst (v := Int32.ofInt (0)) hx hb dX0_copy_33 (by decide) ?_
    refine lv_aload_n hx hb dX0_copy_34 rfl (lv_at hl 1 rfl) ?_
    refine t_getn E hK hV ma rfl cf_0_13 dX0_copy_35 ?_
    refine t_acopy (gf := (va_up gg h0 (cpf (gg a) (gg h0) (nn a)))) E hl.1 cl_X0_22 (Nat.le_of_ble_eq_true rfl) (Nat.le_of_ble_eq_true rfl) hK hV ma m0 rfl rfl rfl rfl rfl rfl (by omega) (by omega) (by omega) dX0_copy_38 (fun H locs hV => ?_)
    refine lv_aload_n hx hb dX0_copy_41 rfl (lv_at hl 0 rfl) ?_
    refine lv_aload_n hx hb dX0_copy_42 rfl (lv_at hl 1 rfl) ?_
    refine t_getn E hK hV ma rfl cf_0_13 dX0_copy_43 ?_
    refine t_putn E hK hV m0 rfl cf_0_13 dX0_copy_46 (fun H locs hV => ?_)
    refine lv_aload_n hx hb dX0_copy_49 rfl (lv_at hl 0 rfl) ?_
    refine lv_aload_n hx hb dX0_copy_50 rfl (lv_at hl 1 rfl) ?_
    refine t_gets E hK hV ma rfl cf_0_17 dX0_copy_51 ?_
    refine t_puts E hK hV m0 rfl cf_0_17 dX0_copy_54 (fun H locs hV => ?_)
    have hpost : X = X ∧ cR LB (va_up nn h0 (nn a)) (va_up ss h0 (ss a)) ll (va_up gg h0 (cpf (gg a) (gg h0) (nn a))) (va_up v h0 (v a)) := ⟨rfl, by
          first
          | exact cR_up (h0 := h0) hN (num1_cpf NA (by omega) (by omega))
          | (have h := cR_up (h0 := h0) (k := ll h0) (f := cpf (gg a) (gg h0) (nn a)) hN (num1_cpf NA (by omega) (by omega)); rw [va_up_id] at h; exact h)⟩
    exact c_vret hx hb hr hK hV hpost dX0_copy_57 hlocks
  · skip
    refine lv_aload_n hx hb dX0_copy_12 rfl (lv_at hl 0 rfl) ?_
    refine lv_iconst (v := Int32.ofInt (2)) hx hb dX0_copy_13 (by decide) ?_
    refine lv_aload_n hx hb dX0_copy_14 rfl (lv_at hl 1 rfl) ?_
    refine t_getn E hK hV ma rfl cf_0_13 dX0_copy_15 ?_
    refine g_imul hx hb dX0_copy_18 ?_
    refine t_new E hK hV hA hR h0 m0 (by omega) (by omega) dX0_copy_19 (fun q19 H hV => ?_)
    refine t_putd E hK hV m0 rfl rfl rfl (by omega) (by omega) cf_0_9 dX0_copy_21 (fun H locs hV => ?_)
    refine lv_aload_n hx hb dX0_copy_24 rfl (lv_at hl 1 rfl) ?_
    refine t_getd E hK hV ma ((va_up_ne _ _ (Ne.symm na)).trans rfl) cf_0_9 dX0_copy_25 ?_
    refine lv_iconst (v := Int32.ofInt (0)) hx hb dX0_copy_28 (by decide) ?_
    refine lv_aload_n hx hb dX0_copy_29 rfl (lv_at hl 0 rfl) ?_
    refine t_getd E hK hV m0 (va_up_self _ _ _) cf_0_9 dX0_copy_30 ?_
    refine lv_iconst (v := Int32.ofInt (0)) hx hb dX0_copy_33 (by decide) ?_
    refine lv_aload_n hx hb dX0_copy_34 rfl (lv_at hl 1 rfl) ?_
    refine t_getn E hK hV ma rfl cf_0_13 dX0_copy_35 ?_
    refine t_acopy (gf := (va_up gg h0 (cpf (gg a) (fun _ => 0) (nn a)))) E hl.1 cl_X0_22 (Nat.le_of_ble_eq_true rfl) (Nat.le_of_ble_eq_true rfl) hK hV ma m0 ((va_up_ne _ _ (Ne.symm na)).trans rfl) (va_up_self _ _ _) (va_up_self _ _ _) ((congrArg (fun q => va_up (va_up gg h0 (fun _ => 0)) h0 (cpf q (fun _ => 0) (nn a))) ((va_up_ne _ _ (Ne.symm na)).trans rfl)).trans (va_up_up _ _ _ _)) ((va_up_ne _ _ (Ne.symm na)).trans rfl) (va_up_self _ _ _) (by omega) (by omega) (by omega) dX0_copy_38 (fun H locs hV => ?_)
    refine lv_aload_n hx hb dX0_copy_41 rfl (lv_at hl 0 rfl) ?_
    refine lv_aload_n hx hb dX0_copy_42 rfl (lv_at hl 1 rfl) ?_
    refine t_getn E hK hV ma rfl cf_0_13 dX0_copy_43 ?_
    refine t_putn E hK hV m0 rfl cf_0_13 dX0_copy_46 (fun H locs hV => ?_)
    refine lv_aload_n hx hb dX0_copy_49 rfl (lv_at hl 0 rfl) ?_
    refine lv_aload_n hx hb dX0_copy_50 rfl (lv_at hl 1 rfl) ?_
    refine t_gets E hK hV ma rfl cf_0_17 dX0_copy_51 ?_
    refine t_puts E hK hV m0 rfl cf_0_17 dX0_copy_54 (fun H locs hV => ?_)
    have hpost : X = X ∧ cR LB (va_up nn h0 (nn a)) (va_up ss h0 (ss a)) (va_up ll h0 ((2 * (nn a)).toNat)) (va_up gg h0 (cpf (gg a) (fun _ => 0) (nn a))) (va_up v h0 (v a)) := ⟨rfl, by
          first
          | exact cR_up (h0 := h0) hN (num1_cpf NA (by omega) (by omega))
          | (have h := cR_up (h0 := h0) (k := ll h0) (f := cpf (gg a) (gg h0) (nn a)) hN (num1_cpf NA (by omega) (by omega)); rw [va_up_id] at h; exact h)⟩
    exact c_vret hx hb hr hK hV hpost dX0_copy_57 hlocks
