set_option maxHeartbeats 4000000 in
set_option maxRecDepth 100000 in
theorem k0_lower {l : Launch} {dC : Nat → ClassId} {dI : Nat → Nat → Nat} {cx : Nat → Nat} {LB : List Nat} {X : va_W} {dd : Nat → Nat} {nn ss : Nat → Int} {ll : Nat → Nat} {gg : Nat → Int → Int} {H0 : Heap} {v : Nat → Int} {h0 : Nat} (m0 : h0 ∈ LB) (hN : cR LB nn ss ll gg v) (ev : v h0 % 2 = 0) : Met l yX0_lower (Cond.code yX0_lower cX0_lower 11 none :: w0c) (cRm 1 23 LB ll) (cPc dC dI cx LB X dd nn ss ll gg H0 [.ref h0, .ref h0, Iz (1), Iz (0)]) (cQv dC dI cx LB (va_A (bW (cx 0) LB dd nn ss ll gg X) H0.size) ll H0 (fun X' dd' nn' ss' ll' gg' => X' = X ∧ cR LB nn' ss' ll' gg' (va_up v h0 (v h0 / 2)))) (cMc LB ll) (2 * cMc LB ll) (va_A (bW (cx 0) LB dd nn ss ll gg X) H0.size) := by
  refine Met.ofW (cc := cX0_lower) (maxL := 11) (ret := none) (by decide) rfl ?_
  intro p e s m args below meth c s₁ B hml hv
  obtain ⟨rfl, hH0, hP, hK, hD0, hC0⟩ := hv
  have hx := B.exec
  have hb := B.bytes
  have hr := B.returns
  have hts := atoms_spec (ws := Cond.code yX0_lower cX0_lower 11 none :: w0c) B.pre
  have hown : s.vm.findClass RX0 = some m.cls := findClass_of_methodNamed B.named
  have hlocks := B.notSynchronized
  have E : CallFix p m c cX0_lower 11 s _ (Cond.code yX0_lower cX0_lower 11 none :: w0c) RX0 := ⟨hx, hb, hml, hown, hts⟩
  subst hH0
  have hD := va_D.self (sz := s.heap.size) hD0
  have hA : ∀ q : Nat, s.heap.size ≤ q → va_A (bW (cx 0) LB dd nn ss ll gg X) s.heap.size q := fun q h => Or.inr h
  have hV : cV dC dI cx LB (va_A (bW (cx 0) LB dd nn ss ll gg X) s.heap.size) s.heap ll X dd nn ss ll gg s.heap [] := ⟨hP, hD, va_S.rf, fun _ _ => Nat.le_refl _, hC0⟩
  have hR : (headSpec (Cond.code yX0_lower cX0_lower 11 none :: w0c) (cRm 1 23 LB ll)).room.cells = cMc LB ll ∧ (headSpec (Cond.code yX0_lower cX0_lower 11 none :: w0c) (cRm 1 23 LB ll)).room.slots = 2 * cMc LB ll := ⟨rfl, rfl⟩
  refine W.widen (k := cP LB ll - cP LB ll) (n := 2 * (cP LB ll - cP LB ll)) (Nat.zero_le _) (Nat.zero_le _) ?_
  have hl := lv_entry ([.ref h0, .ref h0, Iz (1), Iz (0)]) (n := 11) (Nat.le_of_ble_eq_true rfl)
  rw [lg_entry_eq]
  generalize (lg_sl ([.ref h0, .ref h0, Iz (1), Iz (0)]) ++ List.replicate (11 - (lg_sl ([.ref h0, .ref h0, Iz (1), Iz (0)])).length) Slot.unset).toArray = ls at hl ⊢
  have hl : lv_has ls 11 [(0, .ref h0), (1, .ref h0), (2, Iz (1)), (3, Iz (0))] := hl
  have N0 := hN h0 m0
  obtain ⟨n0_, n1_, k5_, dg_, tp_, sg_, vl_⟩ := hN h0 m0
  have c4_ := (hC0 h0 m0).2
  have sb_ := sg_bd (v h0)
  have od := num1_odd N0
  refine lv_iconst (v := Int32.ofInt (0)) hx hb dX0_lower_0 (by decide) ?_
  refine lv_iload_n hx hb dX0_lower_1 rfl (lv_at hl 2 rfl) ?_
  refine g_max E hl.1 cl_X0_36 (Nat.le_of_ble_eq_true rfl) (Nat.le_of_ble_eq_true rfl) (c_room hV hR).1 (c_room hV hR).2 (by first | assumption | exact ⟨by omega, by omega⟩) (by first | assumption | exact ⟨by omega, by omega⟩) dX0_lower_2 ?_
  rw [show (if (0 : Int) < 1 then (1 : Int) else 0) = 1 from rfl]
  refine lv_bipush (v := Int32.ofInt (30)) hx hb dX0_lower_5 (by decide) ?_
  refine g_idiv hx hb (by omega) (by omega) (by omega) (by omega) dX0_lower_7 ?_
  rw [show (1 / 30 : Int) = 0 from rfl]
  refine lv_istore (lv' := [(4, Iz (0)), (0, .ref h0), (1, .ref h0), (2, Iz (1)), (3, Iz (0))]) hx hb dX0_lower_8 hl (by decide) rfl (fun ls hl => ?_)
  refine lv_iconst (v := Int32.ofInt (0)) hx hb dX0_lower_10 (by decide) ?_
  refine lv_iload_n hx hb dX0_lower_11 rfl (lv_at hl 3 rfl) ?_
  refine g_max E hl.1 cl_X0_36 (Nat.le_of_ble_eq_true rfl) (Nat.le_of_ble_eq_true rfl) (c_room hV hR).1 (c_room hV hR).2 (by first | assumption | exact ⟨by omega, by omega⟩) (by first | assumption | exact ⟨by omega, by omega⟩) dX0_lower_12 ?_
  rw [show (if (0 : Int) < 1 then (1 : Int) else 0) = 1 from rfl]
  refine lv_bipush (v := Int32.ofInt (30)) hx hb dX0_lower_15 (by decide) ?_
  refine g_irem hx hb (by omega) (by omega) (by omega) (by omega) dX0_lower_17 ?_
  rw [show (1 % 30 : Int) = 1 from rfl]
  refine lv_istore (lv' := [(5, Iz (1)), (4, Iz (0)), (0, .ref h0), (1, .ref h0), (2, Iz (1)), (3, Iz (0))]) hx hb dX0_lower_18 hl (by decide) rfl (fun ls hl => ?_)
  refine lv_aload_n hx hb dX0_lower_20 rfl (lv_at hl 3 rfl) ?_
  refine t_getn E hK hV m0 rfl cf_0_13 dX0_lower_21 ?_
  refine lv_istore (lv' := [(6, Iz (nn h0)), (5, Iz (1)), (4, Iz (0)), (0, .ref h0), (1, .ref h0), (2, Iz (1)), (3, Iz (0))]) hx hb dX0_lower_24 hl (by decide) rfl (fun ls hl => ?_)
  refine lv_aload_n hx hb dX0_lower_26 rfl (lv_at hl 4 rfl) ?_
  refine t_gets E hK hV m0 rfl cf_0_17 dX0_lower_27 ?_
  refine lv_istore (lv' := [(7, Iz (ss h0)), (6, Iz (nn h0)), (5, Iz (1)), (4, Iz (0)), (0, .ref h0), (1, .ref h0), (2, Iz (1)), (3, Iz (0))]) hx hb dX0_lower_30 hl (by decide) rfl (fun ls hl => ?_)
  refine r_join (P := fun z : Int => z = 0) (g := fun z => F0 m 61 ls [Iz z]) (fun lo_ hlo_ => ?_) (fun k_61 => ?_)
  · skip
    refine lv_istore (lv' := [(8, Iz (lo_)), (7, Iz (ss h0)), (6, Iz (nn h0)), (5, Iz (1)), (4, Iz (0)), (0, .ref h0), (1, .ref h0), (2, Iz (1)), (3, Iz (0))]) hx hb dX0_lower_61 hl (by decide) rfl (fun ls hl => ?_)
    refine lv_iconst (v := Int32.ofInt (0)) hx hb dX0_lower_63 (by decide) ?_
    refine lv_istore (lv' := [(9, Iz (0)), (8, Iz (lo_)), (7, Iz (ss h0)), (6, Iz (nn h0)), (5, Iz (1)), (4, Iz (0)), (0, .ref h0), (1, .ref h0), (2, Iz (1)), (3, Iz (0))]) hx hb dX0_lower_64 hl (by decide) rfl (fun ls hl => ?_)
    refine lv_iload hx hb dX0_lower_66 (lv_at hl 0 rfl) ?_
    refine lv_iload hx hb dX0_lower_68 (lv_at hl 5 rfl) ?_
    refine g_icmp_ge (tgt := 106) hx hb (by first | assumption | exact ⟨by omega, by omega⟩) (by first | assumption | exact ⟨by omega, by omega⟩) dX0_lower_70 (by decide) (fun c_70 => ?_) (fun c_70 => ?_)
    · skip
      refine lv_iconst (v := Int32.ofInt (0)) hx hb dX0_lower_106 (by decide) ?_
      refine lv_iload hx hb dX0_lower_107 (lv_at hl 3 rfl) ?_
      refine lv_iload hx hb dX0_lower_109 (lv_at hl 5 rfl) ?_
      refine g_isub hx hb dX0_lower_111 ?_
      refine g_max E hl.1 cl_X0_36 (Nat.le_of_ble_eq_true rfl) (Nat.le_of_ble_eq_true rfl) (c_room hV hR).1 (c_room hV hR).2 (by first | assumption | exact ⟨by omega, by omega⟩) (by first | assumption | exact ⟨by omega, by omega⟩) dX0_lower_112 ?_
      obtain ⟨mm, emm⟩ : ∃ mm : Int, mm = (if 0 < (nn h0) - 0 then (nn h0) - 0 else 0) := ⟨_, rfl⟩
      rw [← emm]
      have mm1 : mm = nn h0 := by rw [emm]; split <;> omega
      refine lv_istore (lv' := [(9, Iz (mm)), (8, Iz (lo_)), (7, Iz (ss h0)), (6, Iz (nn h0)), (5, Iz (1)), (4, Iz (0)), (0, .ref h0), (1, .ref h0), (2, Iz (1)), (3, Iz (0))]) hx hb dX0_lower_115 hl (by decide) rfl (fun ls hl => ?_)
      refine lv_iload hx hb dX0_lower_117 (lv_at hl 0 rfl) ?_
      refine lv_aload_n hx hb dX0_lower_119 rfl (lv_at hl 6 rfl) ?_
      refine t_getd E hK hV m0 rfl cf_0_9 dX0_lower_120 ?_
      refine t_len hx hb hK hV m0 rfl rfl dX0_lower_123 ?_
      refine g_icmp_le (tgt := 137) hx hb (by first | assumption | exact ⟨by omega, by omega⟩) (by first | assumption | exact ⟨by omega, by omega⟩) dX0_lower_124 (by decide) (fun c_124 => ?_) (fun c_124 => ?_)
      · skip
        refine lv_iconst (v := Int32.ofInt (0)) hx hb dX0_lower_137 (by decide) ?_
        refine lv_istore (lv' := [(10, Iz (0)), (9, Iz (mm)), (8, Iz (lo_)), (7, Iz (ss h0)), (6, Iz (nn h0)), (5, Iz (1)), (4, Iz (0)), (0, .ref h0), (1, .ref h0), (2, Iz (1)), (3, Iz (0))]) hx hb dX0_lower_138 hl (by decide) rfl (fun ls hl => ?_)
        have hV := cV_nor hV (va_up_id gg h0).symm
        refine r_loop (P := fun N_ H locs ls => ∃ f : Int → Int, ∃ i : Int, N_ = (nn h0 - i).toNat ∧ (0 ≤ i) ∧ (i ≤ nn h0) ∧ (∀ t : Int, i ≤ t → f t = gg h0 t) ∧ (kb_d f i.toNat) ∧ (kb_v f i.toNat * 2 + 0 = kb_v (gg h0) i.toNat + (if i < nn h0 then gg h0 i % 2 else 0) * 1073741824 ^ i.toNat) ∧ cV dC dI cx LB (va_A (bW (cx 0) LB dd nn ss ll gg X) s.heap.size) s.heap ll X dd nn ss ll (va_up gg h0 f) H locs ∧ lv_has ls 11 [(0, .ref h0), (1, .ref h0), (2, Iz (1)), (3, Iz (0)), (4, Iz (0)), (5, Iz (1)), (6, Iz (nn h0)), (7, Iz (ss h0)), (8, Iz (lo_)), (9, Iz (mm)), (10, Iz (i))]) (g := fun ls => F0 m 140 ls []) (fun N_ H locs ls hI ih_140 => ?_) _ _ _ _ ⟨(gg h0), 0, rfl, (Int.le_refl 0), (by omega), (fun t _ => rfl), (kb_d_zero _), (by rw [ev] at od; rw [← od]; rfl), hV, lv_sub hl [7, 8, 9, 10, 6, 5, 4, 3, 2, 1, 0] rfl⟩
        obtain ⟨f, i, rfl, i0, i1, ho, hd, hv, hV, hl⟩ := hI
        refine lv_iload hx hb dX0_lower_140 (lv_at hl 10 rfl) ?_
        refine lv_iload hx hb dX0_lower_142 (lv_at hl 9 rfl) ?_
        refine g_icmp_ge (tgt := 211) hx hb (by first | assumption | exact ⟨by omega, by omega⟩) (by first | assumption | exact ⟨by omega, by omega⟩) dX0_lower_144 (by decide) (fun c_144 => ?_) (fun c_144 => ?_)
        · skip
          have ei : i = nn h0 := by omega
          rw [ei] at hv hd
          rw [if_neg (by omega), Int.zero_mul, Int.add_zero, vl_] at hv
          refine lv_aload_n hx hb dX0_lower_211 rfl (lv_at hl 0 rfl) ?_
          refine lv_iload hx hb dX0_lower_212 (lv_at hl 7 rfl) ?_
          refine t_puts E hK hV m0 rfl cf_0_17 dX0_lower_214 (fun H locs hV => ?_)
          refine lv_aload_n hx hb dX0_lower_217 rfl (lv_at hl 0 rfl) ?_
          refine lv_iload hx hb dX0_lower_218 (lv_at hl 9 rfl) ?_
          refine c_callv (As := [Iz (mm)]) (rest := []) E (k0_trim (h0 := h0) (top := mm) m0 (by omega) (by omega) (by rw [va_up_self, mm1]; exact hd)) (cwV 1 hts (cGood cl_X0_67 ci_X0_trim cs_X0_trim cn_RX0 cc_X0_trim) rfl rfl rfl (by decide +kernel) ⟨Nat.le_of_ble_eq_true rfl, Nat.le_of_ble_eq_true rfl⟩) (b_recv hK hV m0) hK hV hA hR rfl hl.1 (Nat.le_of_ble_eq_true rfl) dX0_lower_220 (fun X220 dd220 nn220 ss220 ll220 gg220 H locs q220 hV hm220 => ?_)
          obtain ⟨e1_, e2_, e3_, e4_, n1220, e5_, e6_, t0220, t1220, tp220, tz220⟩ := q220
          obtain rfl := e1_.symm
          obtain rfl := e2_.symm
          obtain rfl := e3_.symm
          obtain rfl := e4_.symm
          obtain rfl := e5_.symm
          obtain rfl := e6_.symm
          rw [va_up_self] at hV
          rw [va_up_self] at tp220
          simp only [va_up_self] at tz220
          rw [va_up_up] at hV
          refine lv_iload hx hb dX0_lower_223 (lv_at hl 8 rfl) ?_
          refine g_if_eq (tgt := 252) hx hb (by first | assumption | exact ⟨by omega, by omega⟩) dX0_lower_225 (by decide) (fun c_225 => ?_) (fun c_225 => ?_)
          · skip
            have hpost : X = X ∧ cR LB (va_up nn h0 n1220) (va_up ss h0 (if n1220 = 0 then 0 else (ss h0))) ll (va_up gg h0 f) (va_up v h0 (v h0 / 2)) := ⟨rfl, by
                  have vT : kb_v f mm.toNat = ((v h0 / 2).natAbs : Int) := by rw [mm1]; omega
                  have hd2 : kb_d f mm.toNat := by rw [mm1]; exact hd
                  have zT := n_zero t0220 t1220 hd2 tp220 tz220 vT
                  have nT := num1_of (k := ll h0) (s := if n1220 = 0 then 0 else ss h0) t0220 t1220 (by omega) (by omega) hd2 tp220 tz220 (by
                    rw [sg_]
                    by_cases q : n1220 = 0
                    · rw [if_pos q, zT.mp q]; rfl
                    · rw [if_neg q]
                      have q2 : v h0 / 2 ≠ 0 := fun w => q (zT.mpr w)
                      unfold sg
                      split <;> (try split) <;> (try split) <;> (try split) <;> omega) vT
                  have h := cR_up (h0 := h0) hN nT
                  first
                  | exact h
                  | (rw [va_up_id] at h; exact h)
                  | (simp only [va_up_id, va_up_up] at h ⊢; exact h)⟩
            exact c_vret hx hb hr hK hV hpost dX0_lower_252 hlocks
          · omega
        · skip
          have di_ := dg_ i i0 (by omega)
          refine lv_aload_n hx hb dX0_lower_147 rfl (lv_at hl 0 rfl) ?_
          refine t_getd E hK hV m0 rfl cf_0_9 dX0_lower_148 ?_
          refine lv_iload hx hb dX0_lower_151 (lv_at hl 10 rfl) ?_
          refine lv_aload_n hx hb dX0_lower_153 rfl (lv_at hl 1 rfl) ?_
          refine t_getd E hK hV m0 rfl cf_0_9 dX0_lower_154 ?_
          refine lv_iload hx hb dX0_lower_157 (lv_at hl 10 rfl) ?_
          refine lv_iload hx hb dX0_lower_159 (lv_at hl 4 rfl) ?_
          refine g_iadd hx hb dX0_lower_161 ?_
          refine t_ald (z := (i + 0)) (v := gg h0 i) hx hb hK hV m0 rfl ((congrFun (va_up_self _ _ _) _).trans (by rw [Int.add_zero]; exact ho i (by omega))) rfl (by omega) (by omega) dX0_lower_162 ?_
          refine lv_iload hx hb dX0_lower_163 (lv_at hl 5 rfl) ?_
          refine g_iushr hx hb (by omega) (by omega) (by omega) (by omega) dX0_lower_165 ?_
          rw [show (2 : Int) ^ (1 : Int).toNat = 2 from rfl]
          skip
          refine r_join (P := fun z : Int => z = (if i + 1 < nn h0 then (gg h0 (i + 1) * 536870912) % 1073741824 else 0)) (g := fun z => F0 m 203 ls [Iz z, Iz ((gg h0 i) / 2), Iz (i), .ref (dd h0)]) (fun zz hzz => ?_) (fun k_203 => ?_)
          · skip
            have ub_ := un_bd (x := gg h0 i) (y := gg h0 (i + 1)) (T := 2) (U := 536870912) di_.1 di_.2 (by decide) (by decide) (by decide)
            have ZZ0 : 0 ≤ zz := by rw [hzz]; split <;> omega
            have ZZ1 : zz % (2 : Int) ^ 29 = 0 := by rw [hzz]; split; (· exact ub_.2.2.2.2); (· exact Int.zero_emod _)
            have ZZ2 : zz ≤ 1073741824 - 536870912 := by rw [hzz]; split; (· exact ub_.2.2.2.1); (· omega)
            refine g_ior hx hb (im_or (k := 29) ub_.1 (show gg h0 i / 2 < (2 : Int) ^ 29 from ub_.2.1) ZZ0 ZZ1 (by omega)) dX0_lower_203 ?_
            refine t_ast (z := i) (v := (((gg h0 i) / 2) + zz)) (gf := (va_up gg h0 (iup f i (((gg h0 i) / 2) + zz)))) hx hb hK hV m0 rfl ((congrArg (fun q => va_up (va_up gg h0 f) h0 (iup q i (((gg h0 i) / 2) + zz))) (va_up_self _ _ _)).trans (va_up_up _ _ _ _)) rfl (by omega) (by omega) dX0_lower_204 (fun H locs hV => ?_)
            refine g_iinc (k := 10) (z := i) (n := (1)) (lv' := [(10, Iz (i + 1)), (0, .ref h0), (1, .ref h0), (2, Iz (1)), (3, Iz (0)), (4, Iz (0)), (5, Iz (1)), (6, Iz (nn h0)), (7, Iz (ss h0)), (8, Iz (lo_)), (9, Iz (mm))]) hx hb dX0_lower_205 hl rfl (by decide) rfl (fun ls hl => ?_)
            refine lv_goto (tgt := 140) hx hb dX0_lower_208 (by decide) ?_
            exact ih_140 _ (by omega) _ _ _ ⟨(iup f i (((gg h0 i) / 2) + zz)), (i + 1), rfl, (by omega), (by omega), (fun t p => by rw [iup_ne (by omega)]; exact ho t (by omega)), (kb_d_step i0 hd (by omega) (by omega)), (un_step (T := 2) (U := 536870912) i0 (by decide) (by decide) (by decide) hv (by omega) (by rw [hzz])), hV, lv_sub hl [1, 2, 3, 4, 5, 6, 7, 8, 9, 10, 0] rfl⟩
          · skip
            refine lv_iload hx hb dX0_lower_166 (lv_at hl 10 rfl) ?_
            refine lv_iload hx hb dX0_lower_168 (lv_at hl 4 rfl) ?_
            refine g_iadd hx hb dX0_lower_170 ?_
            refine lv_iconst (v := Int32.ofInt (1)) hx hb dX0_lower_171 (by decide) ?_
            refine g_iadd hx hb dX0_lower_172 ?_
            refine lv_iload hx hb dX0_lower_173 (lv_at hl 6 rfl) ?_
            refine g_icmp_ge (tgt := 202) hx hb (by first | assumption | exact ⟨by omega, by omega⟩) (by first | assumption | exact ⟨by omega, by omega⟩) dX0_lower_175 (by decide) (fun c_175 => ?_) (fun c_175 => ?_)
            · skip
              refine lv_iconst (v := Int32.ofInt (0)) hx hb dX0_lower_202 (by decide) ?_
              exact k_203 _ (by first | rw [if_pos (by omega)] | rw [if_neg (by omega)])
            · skip
              have de_ := dg_ (i + 1) (by omega) (by omega)
              refine lv_aload_n hx hb dX0_lower_178 rfl (lv_at hl 1 rfl) ?_
              refine t_getd E hK hV m0 rfl cf_0_9 dX0_lower_179 ?_
              refine lv_iload hx hb dX0_lower_182 (lv_at hl 10 rfl) ?_
              refine lv_iload hx hb dX0_lower_184 (lv_at hl 4 rfl) ?_
              refine g_iadd hx hb dX0_lower_186 ?_
              refine lv_iconst (v := Int32.ofInt (1)) hx hb dX0_lower_187 (by decide) ?_
              refine g_iadd hx hb dX0_lower_188 ?_
              refine t_ald (z := ((i + 0) + 1)) (v := gg h0 (i + 1)) hx hb hK hV m0 rfl ((congrFun (va_up_self _ _ _) _).trans (by rw [Int.add_zero]; exact ho (i + 1) (by omega))) rfl (by omega) (by omega) dX0_lower_189 ?_
              refine lv_bipush (v := Int32.ofInt (30)) hx hb dX0_lower_190 (by decide) ?_
              refine lv_iload hx hb dX0_lower_192 (lv_at hl 5 rfl) ?_
              refine g_isub hx hb dX0_lower_194 ?_
              rw [show (30 - 1 : Int) = 29 from rfl]
              refine g_ishl hx hb (by omega) (by omega) dX0_lower_195 ?_
              rw [show (2 : Int) ^ (29 : Int).toNat = 536870912 from rfl]
              refine lv_ldc (v := Int32.ofInt (1073741823)) hx hb hown (hts _ (List.mem_cons_of_mem _ ck_X0_59)) dX0_lower_196 ?_
              refine g_iand30 hx hb dX0_lower_198 ?_
              refine lv_goto (tgt := 203) hx hb dX0_lower_199 (by decide) ?_
              exact k_203 _ (by first | rw [if_pos (by omega)] | rw [if_neg (by omega)])
      · omega
    · omega
  · skip
    refine lv_iload hx hb dX0_lower_32 (lv_at hl 3 rfl) ?_
    refine lv_iload hx hb dX0_lower_34 (lv_at hl 1 rfl) ?_
    refine g_icmp_ge (tgt := 60) hx hb ⟨by omega, by omega⟩ ⟨by omega, by omega⟩ dX0_lower_36 (by decide) (fun c_36 => ?_) (fun c_36 => ?_)
    · skip
      refine lv_iconst (v := Int32.ofInt (0)) hx hb dX0_lower_60 (by decide) ?_
      exact k_61 _ rfl
    · skip
      rw [if_pos (by omega)] at od
      have d0_ := dg_ 0 (by omega) (by omega)
      refine lv_aload_n hx hb dX0_lower_39 rfl (lv_at hl 5 rfl) ?_
      refine t_getd E hK hV m0 rfl cf_0_9 dX0_lower_40 ?_
      refine lv_iload hx hb dX0_lower_43 (lv_at hl 3 rfl) ?_
      refine t_ald (z := 0) (v := gg h0 0) hx hb hK hV m0 rfl rfl rfl (by omega) (by omega) dX0_lower_45 ?_
      refine lv_iconst (v := Int32.ofInt (1)) hx hb dX0_lower_46 (by decide) ?_
      refine lv_iload hx hb dX0_lower_47 (lv_at hl 2 rfl) ?_
      refine g_ishl hx hb (by omega) (by omega) dX0_lower_49 ?_
      rw [show (2 : Int) ^ (1 : Int).toNat = 2 from rfl]
      refine lv_iconst (v := Int32.ofInt (1)) hx hb dX0_lower_50 (by decide) ?_
      refine g_isub hx hb dX0_lower_51 ?_
      rw [show (1 * 2 - 1 : Int) = 1 from rfl]
      refine g_iand1 hx hb dX0_lower_52 ?_
      refine g_if_eq (tgt := 60) hx hb ⟨by omega, by omega⟩ dX0_lower_53 (by decide) (fun c_53 => ?_) (fun c_53 => ?_)
      · skip
        refine lv_iconst (v := Int32.ofInt (0)) hx hb dX0_lower_60 (by decide) ?_
        exact k_61 _ rfl
      · omega
