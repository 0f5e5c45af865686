set_option maxHeartbeats 4000000 in
set_option maxRecDepth 100000 in
theorem c_lowered {l : Launch} {dC : Nat → ClassId} {dI : Nat → Nat → Nat} {h0 : Nat} {ad : Nat → Nat} {cI cJ cB cZ : Nat} {F : Nat → Int} {ar : Nat → Int → Int} {sz : Nat} {a sh : Int} (t0 : 0 ≤ F 2) (b0 : 0 ≤ a) (b1 : a + nsz (ar 1) a < F 2) (t1 : F 2 + nsz (ar 1) a + 3 < 6000000) (hk : hok (ar 1)) (na : nm (ar 1) a) (sh0 : 0 ≤ sh) (sh1 : sh < 31) : Met l yX12_lowered (Cond.code yX12_lowered cX12_lowered 12 (some .int) :: w0r) (rRm 1 24) (rPc dC dI h0 ad cI cJ cB cZ F ar sz [Iz (a), Iz (sh)]) (rQi dC dI h0 ad cI cJ cB cZ sz (fun z F' ar' => z = F 2 ∧ nK F F' ar ar' ∧ nm (ar' 1) z ∧ F' 2 = z + 1 + nsz (ar' 1) z ∧ nsz (ar' 1) z ≤ nsz (ar 1) a ∧ nv (ar' 1) z * 2 ^ sh.toNat ≤ nv (ar 1) a)) 0 0 (rA h0 ad sz) := by
  refine Met.ofW (cc := cX12_lowered) (maxL := 12) (ret := (some .int)) (by decide) rfl ?_
  intro p e s m args below meth c s₁ B hml hv
  obtain ⟨rfl, hsz, hP, hK, hD0⟩ := hv
  have hx := B.exec
  have hb := B.bytes
  have hr := B.returns
  have hts := atoms_spec (ws := Cond.code yX12_lowered cX12_lowered 12 (some .int) :: w0r) B.pre
  have hown : s.vm.findClass RX12 = some m.cls := findClass_of_methodNamed B.named
  have hlocks := B.notSynchronized
  have E : CallFix p m c cX12_lowered 12 s _ (Cond.code yX12_lowered cX12_lowered 12 (some .int) :: w0r) RX12 := ⟨hx, hb, hml, hown, hts⟩
  subst hsz
  have hD := rA_self s.heap.size hD0
  have hA : ∀ q : Nat, s.heap.size ≤ q → rA h0 ad s.heap.size q := fun q h => Or.inr h
  have hS : va_S (rA h0 ad s.heap.size) s.heap s.heap [] := va_S.rf
  have hl := lv_entry ([.ref h0, Iz (a), Iz (sh)]) (n := 12) (Nat.le_of_ble_eq_true rfl)
  rw [lg_entry_eq]
  generalize (lg_sl ([.ref h0, Iz (a), Iz (sh)]) ++ List.replicate (12 - (lg_sl ([.ref h0, Iz (a), Iz (sh)])).length) Slot.unset).toArray = ls at hl ⊢
  have hl : lv_has ls 12 [(0, .ref h0), (1, Iz (a)), (2, Iz (sh))] := hl
  have s0 := nsz_nonneg (ar 1) a
  have s1 := nsz_lt hk a
  have p2 := p2_bd sh0 sh1
  obtain ⟨M, M0, MB⟩ := p2_m sh0 sh1
  obtain ⟨mi, hmi⟩ : ∃ mi : Int, mi = 0 := ⟨0, rfl⟩
  refine lv_aload_n hx hb dX12_lowered_0 rfl (lv_at hl 0 rfl) ?_
  refine r_geti E hK hP (k := 2) (v := Iz (F 2)) (by decide) mf_11 rfl rfl dX12_lowered_1 ?_
  refine lv_istore_n (lv' := [(3, Iz (F 2)), (0, .ref h0), (1, Iz (a)), (2, Iz (sh))]) hx hb dX12_lowered_4 rfl hl (by decide) rfl (fun ls hl => ?_)
  refine lv_iload_n hx hb dX12_lowered_5 rfl (lv_at hl 3 rfl) ?_
  refine lv_bipush (v := Int32.ofInt (31)) hx hb dX12_lowered_6 (by decide) ?_
  refine g_idiv hx hb (by omega) (by omega) (by omega) (by omega) dX12_lowered_8 ?_
  rw [show sh / 31 = 0 by omega]
  refine lv_istore (lv' := [(4, Iz (0)), (3, Iz (F 2)), (0, .ref h0), (1, Iz (a)), (2, Iz (sh))]) hx hb dX12_lowered_9 hl (by decide) rfl (fun ls hl => ?_)
  refine lv_iload_n hx hb dX12_lowered_11 rfl (lv_at hl 4 rfl) ?_
  refine lv_bipush (v := Int32.ofInt (31)) hx hb dX12_lowered_12 (by decide) ?_
  refine g_irem hx hb (by omega) (by omega) (by omega) (by omega) dX12_lowered_14 ?_
  rw [show sh % 31 = sh by omega]
  refine lv_istore (lv' := [(5, Iz (sh)), (4, Iz (0)), (3, Iz (F 2)), (0, .ref h0), (1, Iz (a)), (2, Iz (sh))]) hx hb dX12_lowered_15 hl (by decide) rfl (fun ls hl => ?_)
  refine lv_aload_n hx hb dX12_lowered_17 rfl (lv_at hl 3 rfl) ?_
  refine lv_iload_n hx hb dX12_lowered_18 rfl (lv_at hl 4 rfl) ?_
  refine r_calli (As := [Iz (a)]) (rest := []) E (c_size (F := F) (ar := ar) (a := a) b0 (by omega) hk) (cwV 1 hts (rGood ml_20 mi_size ms_size mn_RX12 mc_size) rfl rfl rfl (by decide +kernel) ⟨Nat.le_of_ble_eq_true rfl, Nat.le_of_ble_eq_true rfl⟩) hK hP hD hS hA rfl hl.1 (Nat.le_of_ble_eq_true rfl) dX12_lowered_19 ⟨Nat.le_refl 0, Nat.le_refl 0⟩ (fun z19 F19 ar19 H locs q19 hP hD hS => ?_)
  obtain ⟨e1_, e2_, e3_⟩ := q19
  obtain rfl := e1_.symm
  obtain rfl := e2_.symm
  obtain rfl := e3_.symm
  refine lv_iload hx hb dX12_lowered_22 (lv_at hl 1 rfl) ?_
  refine g_isub hx hb dX12_lowered_24 ?_
  rw [Int.sub_zero]
  refine lv_istore (lv' := [(6, Iz (nsz (ar 1) a)), (5, Iz (sh)), (4, Iz (0)), (3, Iz (F 2)), (0, .ref h0), (1, Iz (a)), (2, Iz (sh))]) hx hb dX12_lowered_25 hl (by decide) rfl (fun ls hl => ?_)
  refine lv_iload hx hb dX12_lowered_27 (lv_at hl 0 rfl) ?_
  refine g_if_gt (tgt := 40) hx hb ⟨by omega, by omega⟩ dX12_lowered_29 (by decide) (fun c_29 => ?_) (fun c_29 => ?_)
  · skip
    refine lv_iconst (v := Int32.ofInt (1)) hx hb dX12_lowered_40 (by decide) ?_
    refine lv_istore (lv' := [(7, Iz (1)), (6, Iz (nsz (ar 1) a)), (5, Iz (sh)), (4, Iz (0)), (3, Iz (F 2)), (0, .ref h0), (1, Iz (a)), (2, Iz (sh))]) hx hb dX12_lowered_41 hl (by decide) rfl (fun ls hl => ?_)
    refine r_loop (P := fun N_ H locs ls => ∃ (ar1 : Nat → Int → Int) (i : Int), N_ = (nsz (ar 1) a + 1 - i).toNat ∧ (1 ≤ i) ∧ (i ≤ nsz (ar 1) a + 1) ∧ (∀ j : Nat, j ≠ 1 → ar1 j = ar j) ∧ (∀ t : Int, t < F 2 → ar1 1 t = ar 1 t) ∧ (hok (ar1 1)) ∧ (∀ t : Int, 1 ≤ t → t < i → 0 ≤ ar1 1 (F 2 + t)) ∧ (kn_v (fun t => ar1 1 (F 2 + 1 + t)) (i - 1).toNat * 2 ^ sh.toNat + ldx (ar 1) a 0 % 2 ^ sh.toNat = kn_v (ldx (ar 1) a) (i - 1).toNat + ldx (ar 1) a (i - 1) % 2 ^ sh.toNat * 2147483648 ^ (i - 1).toNat) ∧ va_P (dC, dI) rcl (mW h0 ad cI cJ cB cZ F ar1) H ∧ va_D (rA h0 ad s.heap.size) (mW h0 ad cI cJ cB cZ F ar1) ∧ va_S (rA h0 ad s.heap.size) s.heap H locs ∧ lv_has ls 12 [(0, .ref h0), (1, Iz (a)), (2, Iz (sh)), (3, Iz (F 2)), (4, Iz (0)), (5, Iz (sh)), (6, Iz (nsz (ar 1) a)), (7, Iz (i))]) (g := fun ls => F0 m 43 ls []) (fun N_ H locs ls hI ih_43 => ?_) _ _ _ _ ⟨ar, 1, rfl, (Int.le_refl 1), (by omega), (fun _ _ => rfl), (fun _ _ => rfl), (hk), (fun t a b => by omega), (by show (0 : Int) * _ + _ = 0 + ldx (ar 1) a 0 % _ * 1; rw [Int.zero_mul, Int.mul_one]), hP, hD, hS, lv_sub hl [5, 6, 7, 4, 3, 2, 1, 0] rfl⟩
    obtain ⟨ar1, i, rfl, i0, i1, q1, q2, q4, qd, qv, hP, hD, hS, hl⟩ := hI
    refine lv_iload hx hb dX12_lowered_43 (lv_at hl 7 rfl) ?_
    refine lv_iload hx hb dX12_lowered_45 (lv_at hl 6 rfl) ?_
    refine g_icmp_gt (tgt := 124) hx hb ⟨by omega, by omega⟩ ⟨by omega, by omega⟩ dX12_lowered_47 (by decide) (fun c_47 => ?_) (fun c_47 => ?_)
    · skip
      refine lv_aload_n hx hb dX12_lowered_124 rfl (lv_at hl 0 rfl) ?_
      refine lv_iload_n hx hb dX12_lowered_125 rfl (lv_at hl 3 rfl) ?_
      refine lv_iload hx hb dX12_lowered_126 (lv_at hl 6 rfl) ?_
      refine lv_aload_n hx hb dX12_lowered_128 rfl (lv_at hl 0 rfl) ?_
      refine r_geti E hK hP (k := 1) (v := .ref (ad 1)) (by decide) mf_7 rfl rfl dX12_lowered_129 ?_
      refine lv_iload_n hx hb dX12_lowered_132 rfl (lv_at hl 1 rfl) ?_
      refine g_iald (f := (ar1 1)) hx hb hK hP 1 0 rfl rfl (by omega) (by omega) (by decide) dX12_lowered_133 ?_
      refine r_join (P := fun z : Int => z = 0 ∨ z = 1) (g := fun z => F0 m 142 ls [Iz z, Iz (nsz (ar 1) a), Iz (F 2), .ref h0]) (fun mi hmi => ?_) (fun k_142 => ?_)
      · skip
        refine r_calli (As := [Iz (F 2), Iz (nsz (ar 1) a), Iz (mi)]) (rest := []) E (c_shut (F := F) (ar := ar1) (a := F 2) (n := nsz (ar 1) a) (mi := mi) t0 (by omega) (by omega) q4 hmi) (cwV 3 hts (rGood ml_16 mi_shut ms_shut mn_RX12 mc_shut) rfl rfl rfl (by decide +kernel) ⟨Nat.le_of_ble_eq_true rfl, Nat.le_of_ble_eq_true rfl⟩) hK hP hD hS hA rfl hl.1 (Nat.le_of_ble_eq_true rfl) dX12_lowered_142 ⟨Nat.le_refl 0, Nat.le_refl 0⟩ (fun z9 F9 ar9 H locs q9 hP hD hS => ?_)
        obtain ⟨k, k0, k1, kt, kz, rfl, rfl, rfl⟩ := q9
        have hi : i = nsz (ar 1) a + 1 := by omega
        have sf := shut_facts (h := ar1 1) (a := F 2) (n := nsz (ar 1) a) (mi := mi) k0 k1 kt kz (fun t h1 h2 => qd t h1 (by omega))
        have hmi2 : -2147483648 < (if mi = 0 then k else 0 - k) ∧ (if mi = 0 then k else 0 - k) < 2147483648 := by split <;> omega
        have ez : ldx (ar 1) a (i - 1) = 0 := by unfold ldx; rw [if_neg (by omega)]
        rw [ez, Int.zero_emod, Int.zero_mul, Int.add_zero, show (i - 1).toNat = (nsz (ar 1) a).toNat by omega, ldx_nv] at qv
        have rp : 0 ≤ ldx (ar 1) a 0 % 2 ^ sh.toNat := Int.emod_nonneg _ (by omega)
        have hpost : (F 2 : Int) = F 2 ∧ nK F (fup F 2 (F 2 + 1 + k)) ar (aup ar1 1 (iup (ar1 1) (F 2) (if mi = 0 then k else 0 - k))) ∧ nm ((aup ar1 1 (iup (ar1 1) (F 2) (if mi = 0 then k else 0 - k))) 1) (F 2 : Int) ∧ (fup F 2 (F 2 + 1 + k)) 2 = (F 2 : Int) + 1 + nsz ((aup ar1 1 (iup (ar1 1) (F 2) (if mi = 0 then k else 0 - k))) 1) (F 2 : Int) ∧ nsz ((aup ar1 1 (iup (ar1 1) (F 2) (if mi = 0 then k else 0 - k))) 1) (F 2 : Int) ≤ nsz (ar 1) a ∧ nv ((aup ar1 1 (iup (ar1 1) (F 2) (if mi = 0 then k else 0 - k))) 1) (F 2 : Int) * 2 ^ sh.toNat ≤ nv (ar 1) a := ⟨rfl, ⟨fun j hj => fup_ne _ _ hj, fun j hj => by rw [aup_ne _ _ hj]; exact q1 j hj, fun t ht => by show iup _ _ _ t = _; rw [iup_ne (by omega)]; exact q2 t ht, hok_up q4 hmi2.1 hmi2.2⟩, sf.2.1, (by have e := sf.1; show F 2 + 1 + k = _; exact congrArg (fun q => F 2 + 1 + q) e.symm), Int.le_trans (Int.le_of_eq sf.1) (by omega), by have e := sf.2.2; exact Int.le_trans (Int.le_of_eq (congrArg (· * _) e)) (by omega)⟩
        exact W.iret (v := Int32.ofInt (F 2)) hx hb hr (fun t ht hW => ⟨⟨_, ((fup F 2 (F 2 + 1 + k)), (aup ar1 1 (iup (ar1 1) (F 2) (if mi = 0 then k else 0 - k)))), rfl, ⟨_, rfl, hpost⟩, by rw [ht]; exact hP, va_K.moved hW.alike hK, hD⟩, hS.F ht⟩) hS.2.2 dX12_lowered_145
      · skip
        refine g_if_ge (tgt := 141) hx hb (hok_i q4 _) dX12_lowered_134 (by decide) (fun c_134 => ?_) (fun c_134 => ?_)
        · skip
          refine lv_iconst (v := Int32.ofInt (0)) hx hb dX12_lowered_141 (by decide) ?_
          exact k_142 _ (by omega)
        · skip
          refine lv_iconst (v := Int32.ofInt (1)) hx hb dX12_lowered_137 (by decide) ?_
          refine lv_goto (tgt := 142) hx hb dX12_lowered_138 (by decide) ?_
          exact k_142 _ (by omega)
    · skip
      have xd := ldx_d hk na (i - 1) (by omega)
      have yd := ldx_d hk na i (by omega)
      have xe : ldx (ar 1) a (i - 1) = ar 1 (a + 0 + i) := by unfold ldx; rw [if_pos (by omega), show a + 1 + (i - 1) = a + 0 + i by omega]
      have xr : ar1 1 (a + 0 + i) = ldx (ar 1) a (i - 1) := (q2 _ (by omega)).trans xe.symm
      refine lv_aload_n hx hb dX12_lowered_50 rfl (lv_at hl 0 rfl) ?_
      refine r_geti E hK hP (k := 1) (v := .ref (ad 1)) (by decide) mf_7 rfl rfl dX12_lowered_51 ?_
      refine lv_iload_n hx hb dX12_lowered_54 rfl (lv_at hl 1 rfl) ?_
      refine lv_iload hx hb dX12_lowered_55 (lv_at hl 4 rfl) ?_
      refine g_iadd hx hb dX12_lowered_57 ?_
      refine lv_iload hx hb dX12_lowered_58 (lv_at hl 7 rfl) ?_
      refine g_iadd hx hb dX12_lowered_60 ?_
      refine g_iald (f := (ar1 1)) hx hb hK hP 1 0 rfl rfl (by omega) (by omega) (by decide) dX12_lowered_61 ?_
      rw [xr]
      refine g_i2l hx hb ⟨by omega, by omega⟩ dX12_lowered_62 ?_
      refine lv_lstore (lv' := [(8, Jz (ldx (ar 1) a (i - 1))), (0, .ref h0), (1, Iz (a)), (2, Iz (sh)), (3, Iz (F 2)), (4, Iz (0)), (5, Iz (sh)), (6, Iz (nsz (ar 1) a)), (7, Iz (i))]) hx hb dX12_lowered_63 hl (by decide) rfl (fun ls hl => ?_)
      refine lv_iload hx hb dX12_lowered_65 (lv_at hl 8 rfl) ?_
      refine lv_iload hx hb dX12_lowered_67 (lv_at hl 7 rfl) ?_
      refine r_join (P := fun z : Int => z = ldx (ar 1) a i) (g := fun z => F0 m 91 ls [Jz z]) (fun y hy => ?_) (fun k_91 => ?_)
      · skip
        obtain rfl := hy
        refine lv_lstore (lv' := [(10, Jz (ldx (ar 1) a i)), (8, Jz (ldx (ar 1) a (i - 1))), (0, .ref h0), (1, Iz (a)), (2, Iz (sh)), (3, Iz (F 2)), (4, Iz (0)), (5, Iz (sh)), (6, Iz (nsz (ar 1) a)), (7, Iz (i))]) hx hb dX12_lowered_91 hl (by decide) rfl (fun ls hl => ?_)
        refine lv_aload_n hx hb dX12_lowered_93 rfl (lv_at hl 2 rfl) ?_
        refine r_geti E hK hP (k := 1) (v := .ref (ad 1)) (by decide) mf_7 rfl rfl dX12_lowered_94 ?_
        refine lv_iload_n hx hb dX12_lowered_97 rfl (lv_at hl 5 rfl) ?_
        refine lv_iload hx hb dX12_lowered_98 (lv_at hl 9 rfl) ?_
        refine g_iadd hx hb dX12_lowered_100 ?_
        refine lv_lload hx hb dX12_lowered_101 (lv_at hl 1 rfl) ?_
        refine lv_lload hx hb dX12_lowered_103 (lv_at hl 0 rfl) ?_
        refine lv_bipush (v := Int32.ofInt (31)) hx hb dX12_lowered_105 (by decide) ?_
        refine g_lshl hx hb (by omega) (by omega) dX12_lowered_107 ?_
        rw [show (2 : Int) ^ (31 : Int).toNat = 2147483648 from rfl]
        refine g_lor hx hb (lm_or (k := 31) xd.1 xd.2 (by omega) (by omega) (by omega)) dX12_lowered_108 ?_
        refine lv_iload hx hb dX12_lowered_109 (lv_at hl 7 rfl) ?_
        refine g_lshr hx hb ⟨by omega, by omega⟩ (by omega) (by omega) dX12_lowered_111 ?_
        refine lv_ldc2 (v := Int64.ofInt (2147483647)) hx hb hown (hts _ (List.mem_cons_of_mem _ mj_14)) dX12_lowered_112 ?_
        refine g_landM hx hb dX12_lowered_115 ?_
        obtain ⟨dg, hdg⟩ : ∃ dg : Int, dg = (ldx (ar 1) a (i - 1) + ldx (ar 1) a i * 2147483648) / 2 ^ sh.toNat % 2147483648 := ⟨_, rfl⟩
        rw [← hdg]
        refine g_l2i hx hb dX12_lowered_116 ?_
        refine g_iast (f := (ar1 1)) hx hb hK hP hD hS 1 0 rfl rfl (by omega) (by omega) (by decide) dX12_lowered_117 (fun H locs hP hD hS => ?_)
        rw [sa_1] at hP hD
        have hd0 := ld_digit (y := ldx (ar 1) a i) (by omega : (0 : Int) < 2 ^ sh.toNat) M0 MB xd.1 xd.2
        rw [← hdg] at hd0
        have dg0 : 0 ≤ dg ∧ dg < 2147483648 := by rw [hdg]; omega
        have h_at : iup (ar1 1) (F 2 + i) dg (F 2 + i) = dg := iup_self
        have h_lo : ∀ t : Int, t ≠ F 2 + i → iup (ar1 1) (F 2 + i) dg t = ar1 1 t := fun t ht => iup_ne ht
        have qv' : kn_v (fun t => iup (ar1 1) (F 2 + i) dg (F 2 + 1 + t)) ((i - 1).toNat + 1) = kn_v (fun t => ar1 1 (F 2 + 1 + t)) (i - 1).toNat + dg * 2147483648 ^ (i - 1).toNat := kn_v_up (fun t h1 h2 => h_lo _ (by omega)) (by show iup _ _ _ (F 2 + 1 + _) = _; rw [show F 2 + 1 + (((i - 1).toNat : Nat) : Int) = F 2 + i by omega]; exact h_at)
        have qa' : kn_v (ldx (ar 1) a) ((i - 1).toNat + 1) = kn_v (ldx (ar 1) a) (i - 1).toNat + ldx (ar 1) a (i - 1) * 2147483648 ^ (i - 1).toNat := kn_v_up (fun t h1 h2 => rfl) (by rw [show (((i - 1).toNat : Nat) : Int) = i - 1 by omega])
        have hi1 : (i + 1 - 1).toNat = (i - 1).toNat + 1 := by omega
        have qn := ld_step qv hd0
        refine g_iinc (k := 9) (z := i) (n := (1)) (lv' := [(7, Iz (i + 1)), (10, Jz (ldx (ar 1) a i)), (8, Jz (ldx (ar 1) a (i - 1))), (0, .ref h0), (1, Iz (a)), (2, Iz (sh)), (3, Iz (F 2)), (4, Iz (0)), (5, Iz (sh)), (6, Iz (nsz (ar 1) a))]) hx hb dX12_lowered_118 hl rfl (by decide) rfl (fun ls hl => ?_)
        refine lv_goto (tgt := 43) hx hb dX12_lowered_121 (by decide) ?_
        exact ih_43 _ (by omega) _ _ _ ⟨(aup ar1 1 (iup (ar1 1) ((F 2) + i) dg)), (i + 1), rfl, (by omega), (by omega), (fun j hj => by rw [aup_ne _ _ hj]; exact q1 j hj), (fun t ht => (h_lo t (by omega)).trans (q2 t ht)), (hok_up q4 (by omega) (by omega)), (fun t h1 h2 => by by_cases e : t = i; (· rw [e]; show 0 ≤ iup _ _ _ _; rw [h_at]; omega); (· show 0 ≤ iup _ _ _ _; rw [h_lo _ (by omega)]; exact qd t h1 (by omega))), (by rw [hi1, show i + 1 - 1 = i by omega, qa', kn_pow_succ]; exact (congrArg (· * _ + _) qv').trans qn), hP, hD, hS, lv_sub hl [3, 4, 5, 6, 7, 8, 9, 0] rfl⟩
      · skip
        refine g_icmp_ge (tgt := 90) hx hb ⟨by omega, by omega⟩ ⟨by omega, by omega⟩ dX12_lowered_69 (by decide) (fun c_69 => ?_) (fun c_69 => ?_)
        · skip
          refine lv_lconst (v := Int64.ofInt 0) hx hb dX12_lowered_90 rfl ?_
          exact k_91 _ (by unfold ldx; first | (rw [if_neg (by omega)]; done) | (rw [if_pos (by omega), q2 _ (by omega), show a + 0 + i + 1 = a + 1 + i by omega]))
        · skip
          refine lv_aload_n hx hb dX12_lowered_72 rfl (lv_at hl 1 rfl) ?_
          refine r_geti E hK hP (k := 1) (v := .ref (ad 1)) (by decide) mf_7 rfl rfl dX12_lowered_73 ?_
          refine lv_iload_n hx hb dX12_lowered_76 rfl (lv_at hl 2 rfl) ?_
          refine lv_iload hx hb dX12_lowered_77 (lv_at hl 5 rfl) ?_
          refine g_iadd hx hb dX12_lowered_79 ?_
          refine lv_iload hx hb dX12_lowered_80 (lv_at hl 8 rfl) ?_
          refine g_iadd hx hb dX12_lowered_82 ?_
          refine lv_iconst (v := Int32.ofInt (1)) hx hb dX12_lowered_83 (by decide) ?_
          refine g_iadd hx hb dX12_lowered_84 ?_
          refine g_iald (f := (ar1 1)) hx hb hK hP 1 0 rfl rfl (by omega) (by omega) (by decide) dX12_lowered_85 ?_
          refine g_i2l hx hb (hok_i q4 _) dX12_lowered_86 ?_
          refine lv_goto (tgt := 91) hx hb dX12_lowered_87 (by decide) ?_
          exact k_91 _ (by unfold ldx; first | (rw [if_neg (by omega)]; done) | (rw [if_pos (by omega), q2 _ (by omega), show a + 0 + i + 1 = a + 1 + i by omega]))
  · skip
    have n0 : nsz (ar 1) a = 0 := by omega
    refine lv_aload_n hx hb dX12_lowered_32 rfl (lv_at hl 4 rfl) ?_
    refine lv_iload_n hx hb dX12_lowered_33 rfl (lv_at hl 3 rfl) ?_
    refine lv_iconst (v := Int32.ofInt (0)) hx hb dX12_lowered_34 (by decide) ?_
    refine lv_iconst (v := Int32.ofInt (0)) hx hb dX12_lowered_35 (by decide) ?_
    refine r_calli (As := [Iz (F 2), Iz (0), Iz (0)]) (rest := []) E (c_shut (F := F) (ar := ar) (a := F 2) (n := 0) (mi := 0) t0 (by omega) (by omega) hk (Or.inl rfl)) (cwV 3 hts (rGood ml_16 mi_shut ms_shut mn_RX12 mc_shut) rfl rfl rfl (by decide +kernel) ⟨Nat.le_of_ble_eq_true rfl, Nat.le_of_ble_eq_true rfl⟩) hK hP hD hS hA rfl hl.1 (Nat.le_of_ble_eq_true rfl) dX12_lowered_36 ⟨Nat.le_refl 0, Nat.le_refl 0⟩ (fun z9 F9 ar9 H locs q9 hP hD hS => ?_)
    obtain ⟨k, k0, k1, kt, kz, rfl, rfl, rfl⟩ := q9
    have sf := shut_facts (h := ar 1) (a := F 2) (n := 0) (mi := 0) k0 k1 kt kz (fun t h1 h2 => by omega)
    have nz : nv (ar 1) a = 0 := by unfold nv; rw [n0]; rfl
    have hpost : (F 2 : Int) = F 2 ∧ nK F (fup F 2 (F 2 + 1 + k)) ar (aup ar 1 (iup (ar 1) (F 2) (if (0 : Int) = 0 then k else 0 - k))) ∧ nm ((aup ar 1 (iup (ar 1) (F 2) (if (0 : Int) = 0 then k else 0 - k))) 1) (F 2 : Int) ∧ (fup F 2 (F 2 + 1 + k)) 2 = (F 2 : Int) + 1 + nsz ((aup ar 1 (iup (ar 1) (F 2) (if (0 : Int) = 0 then k else 0 - k))) 1) (F 2 : Int) ∧ nsz ((aup ar 1 (iup (ar 1) (F 2) (if (0 : Int) = 0 then k else 0 - k))) 1) (F 2 : Int) ≤ nsz (ar 1) a ∧ nv ((aup ar 1 (iup (ar 1) (F 2) (if (0 : Int) = 0 then k else 0 - k))) 1) (F 2 : Int) * 2 ^ sh.toNat ≤ nv (ar 1) a := ⟨rfl, ⟨fun j hj => fup_ne _ _ hj, fun j hj => aup_ne _ _ hj, fun t ht => iup_ne (by omega), hok_up hk (by split <;> omega) (by split <;> omega)⟩, sf.2.1, (by have e := sf.1; show F 2 + 1 + k = _; exact congrArg (fun q => F 2 + 1 + q) e.symm), Int.le_trans (Int.le_of_eq sf.1) (by omega), by rw [nz]; exact Int.le_of_eq ((congrArg (· * _) sf.2.2).trans (Int.zero_mul _))⟩
    exact W.iret (v := Int32.ofInt (F 2)) hx hb hr (fun t ht hW => ⟨⟨_, ((fup F 2 (F 2 + 1 + k)), (aup ar 1 (iup (ar 1) (F 2) (if (0 : Int) = 0 then k else 0 - k)))), rfl, ⟨_, rfl, hpost⟩, by rw [ht]; exact hP, va_K.moved hW.alike hK, hD⟩, hS.F ht⟩) hS.2.2 dX12_lowered_39
