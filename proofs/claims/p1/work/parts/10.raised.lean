set_option maxHeartbeats 4000000 in
set_option maxRecDepth 100000 in
theorem c_raised {l : Launch} {dC : Nat → ClassId} {dI : Nat → Nat → Nat} {h0 : Nat} {ad : Nat → Nat} {cI cJ cB cZ : Nat} {F : Nat → Int} {ar : Nat → Int → Int} {sz : Nat} {a sh : Int} (t0 : 0 ≤ F 2) (b0 : 0 ≤ a) (b1 : a + nsz (ar 1) a < F 2) (t1 : F 2 + nsz (ar 1) a + 3 < 6000000) (hk : hok (ar 1)) (na : nm (ar 1) a) (sh0 : 0 ≤ sh) (sh1 : sh < 31) : Met l yX12_raised (Cond.code yX12_raised cX12_raised 10 (some .int) :: w0r) (rRm 1 24) (rPc dC dI h0 ad cI cJ cB cZ F ar sz [Iz (a), Iz (sh)]) (rQi dC dI h0 ad cI cJ cB cZ sz (fun z F' ar' => z = F 2 ∧ nK F F' ar ar' ∧ nm (ar' 1) z ∧ F' 2 = z + 1 + nsz (ar' 1) z ∧ nsz (ar' 1) z ≤ nsz (ar 1) a + 1 ∧ nv (ar' 1) z = nv (ar 1) a * 2 ^ sh.toNat)) 0 0 (rA h0 ad sz) := by
  refine Met.ofW (cc := cX12_raised) (maxL := 10) (ret := (some .int)) (by decide) rfl ?_
  intro p e s m args below meth c s₁ B hml hv
  obtain ⟨rfl, hsz, hP, hK, hD0⟩ := hv
  have hx := B.exec
  have hb := B.bytes
  have hr := B.returns
  have hts := atoms_spec (ws := Cond.code yX12_raised cX12_raised 10 (some .int) :: w0r) B.pre
  have hown : s.vm.findClass RX12 = some m.cls := findClass_of_methodNamed B.named
  have hlocks := B.notSynchronized
  have E : CallFix p m c cX12_raised 10 s _ (Cond.code yX12_raised cX12_raised 10 (some .int) :: w0r) RX12 := ⟨hx, hb, hml, hown, hts⟩
  subst hsz
  have hD := rA_self s.heap.size hD0
  have hA : ∀ q : Nat, s.heap.size ≤ q → rA h0 ad s.heap.size q := fun q h => Or.inr h
  have hS : va_S (rA h0 ad s.heap.size) s.heap s.heap [] := va_S.rf
  have hl := lv_entry ([.ref h0, Iz (a), Iz (sh)]) (n := 10) (Nat.le_of_ble_eq_true rfl)
  rw [lg_entry_eq]
  generalize (lg_sl ([.ref h0, Iz (a), Iz (sh)]) ++ List.replicate (10 - (lg_sl ([.ref h0, Iz (a), Iz (sh)])).length) Slot.unset).toArray = ls at hl ⊢
  have hl : lv_has ls 10 [(0, .ref h0), (1, Iz (a)), (2, Iz (sh))] := hl
  have s0 := nsz_nonneg (ar 1) a
  have s1 := nsz_lt hk a
  have p2 := p2_bd sh0 sh1
  refine lv_aload_n hx hb dX12_raised_0 rfl (lv_at hl 0 rfl) ?_
  refine r_geti E hK hP (k := 2) (v := Iz (F 2)) (by decide) mf_11 rfl rfl dX12_raised_1 ?_
  refine lv_istore_n (lv' := [(3, Iz (F 2)), (0, .ref h0), (1, Iz (a)), (2, Iz (sh))]) hx hb dX12_raised_4 rfl hl (by decide) rfl (fun ls hl => ?_)
  refine lv_aload_n hx hb dX12_raised_5 rfl (lv_at hl 1 rfl) ?_
  refine lv_iload_n hx hb dX12_raised_6 rfl (lv_at hl 2 rfl) ?_
  refine r_calli (As := [Iz (a)]) (rest := []) E (c_size (F := F) (ar := ar) (a := a) b0 (by omega) hk) (cwV 1 hts (rGood ml_20 mi_size ms_size mn_RX12 mc_size) rfl rfl rfl (by decide +kernel) ⟨Nat.le_of_ble_eq_true rfl, Nat.le_of_ble_eq_true rfl⟩) hK hP hD hS hA rfl hl.1 (Nat.le_of_ble_eq_true rfl) dX12_raised_7 ⟨Nat.le_refl 0, Nat.le_refl 0⟩ (fun z7 F7 ar7 H locs q7 hP hD hS => ?_)
  obtain ⟨e1_, e2_, e3_⟩ := q7
  obtain rfl := e1_.symm
  obtain rfl := e2_.symm
  obtain rfl := e3_.symm
  refine lv_istore (lv' := [(4, Iz (nsz (ar 1) a)), (3, Iz (F 2)), (0, .ref h0), (1, Iz (a)), (2, Iz (sh))]) hx hb dX12_raised_10 hl (by decide) rfl (fun ls hl => ?_)
  refine lv_iload_n hx hb dX12_raised_12 rfl (lv_at hl 4 rfl) ?_
  refine lv_bipush (v := Int32.ofInt (31)) hx hb dX12_raised_13 (by decide) ?_
  refine g_idiv hx hb (by omega) (by omega) (by omega) (by omega) dX12_raised_15 ?_
  rw [show sh / 31 = 0 by omega]
  refine lv_istore (lv' := [(5, Iz (0)), (4, Iz (nsz (ar 1) a)), (3, Iz (F 2)), (0, .ref h0), (1, Iz (a)), (2, Iz (sh))]) hx hb dX12_raised_16 hl (by decide) rfl (fun ls hl => ?_)
  refine lv_iload_n hx hb dX12_raised_18 rfl (lv_at hl 5 rfl) ?_
  refine lv_bipush (v := Int32.ofInt (31)) hx hb dX12_raised_19 (by decide) ?_
  refine g_irem hx hb (by omega) (by omega) (by omega) (by omega) dX12_raised_21 ?_
  rw [show sh % 31 = sh by omega]
  refine lv_istore (lv' := [(6, Iz (sh)), (5, Iz (0)), (4, Iz (nsz (ar 1) a)), (3, Iz (F 2)), (0, .ref h0), (1, Iz (a)), (2, Iz (sh))]) hx hb dX12_raised_22 hl (by decide) rfl (fun ls hl => ?_)
  refine lv_iconst (v := Int32.ofInt (1)) hx hb dX12_raised_24 (by decide) ?_
  refine lv_istore (lv' := [(7, Iz (1)), (6, Iz (sh)), (5, Iz (0)), (4, Iz (nsz (ar 1) a)), (3, Iz (F 2)), (0, .ref h0), (1, Iz (a)), (2, Iz (sh))]) hx hb dX12_raised_25 hl (by decide) rfl (fun ls hl => ?_)
  refine lv_iload hx hb dX12_raised_27 (lv_at hl 0 rfl) ?_
  refine lv_iload hx hb dX12_raised_29 (lv_at hl 2 rfl) ?_
  refine g_icmp_gt (tgt := 50) hx hb ⟨by omega, by omega⟩ ⟨by omega, by omega⟩ dX12_raised_31 (by decide) (fun c_31 => ?_) (fun c_31 => ?_)
  · skip
    refine lv_lconst (v := Int64.ofInt 0) hx hb dX12_raised_50 rfl ?_
    refine lv_lstore (lv' := [(7, Jz (0)), (6, Iz (sh)), (5, Iz (0)), (4, Iz (nsz (ar 1) a)), (3, Iz (F 2)), (0, .ref h0), (1, Iz (a)), (2, Iz (sh))]) hx hb dX12_raised_51 hl (by decide) rfl (fun ls hl => ?_)
    refine lv_iconst (v := Int32.ofInt (1)) hx hb dX12_raised_53 (by decide) ?_
    refine lv_istore (lv' := [(9, Iz (1)), (7, Jz (0)), (6, Iz (sh)), (5, Iz (0)), (4, Iz (nsz (ar 1) a)), (3, Iz (F 2)), (0, .ref h0), (1, Iz (a)), (2, Iz (sh))]) hx hb dX12_raised_54 hl (by decide) rfl (fun ls hl => ?_)
    refine r_loop (P := fun N_ H locs ls => ∃ (ar1 : Nat → Int → Int) (i : Int) (cy : Int), N_ = (nsz (ar 1) a + 1 - i).toNat ∧ (1 ≤ i) ∧ (i ≤ nsz (ar 1) a + 1) ∧ (0 ≤ cy) ∧ (cy < 2 ^ sh.toNat) ∧ (∀ j : Nat, j ≠ 1 → ar1 j = ar j) ∧ (∀ t : Int, t < F 2 → ar1 1 t = ar 1 t) ∧ (hok (ar1 1)) ∧ (∀ t : Int, 1 ≤ t → t < i → 0 ≤ ar1 1 (F 2 + t)) ∧ (kn_v (fun t => ar1 1 (F 2 + 1 + t)) (i - 1).toNat + cy * 2147483648 ^ (i - 1).toNat = kn_v (fun t => ar 1 (a + 1 + t)) (i - 1).toNat * 2 ^ sh.toNat) ∧ va_P (dC, dI) rcl (mW h0 ad cI cJ cB cZ F ar1) H ∧ va_D (rA h0 ad s.heap.size) (mW h0 ad cI cJ cB cZ F ar1) ∧ va_S (rA h0 ad s.heap.size) s.heap H locs ∧ lv_has ls 10 [(0, .ref h0), (1, Iz (a)), (2, Iz (sh)), (3, Iz (F 2)), (4, Iz (nsz (ar 1) a)), (5, Iz (0)), (6, Iz (sh)), (7, Jz (cy)), (9, Iz (i))]) (g := fun ls => F0 m 56 ls []) (fun N_ H locs ls hI ih_56 => ?_) _ _ _ _ ⟨ar, 1, 0, rfl, (Int.le_refl 1), (by omega), (Int.le_refl 0), (by omega), (fun _ _ => rfl), (fun _ _ => rfl), (hk), (fun t a b => by omega), (by show (0 : Int) + 0 * _ = 0 * _; rw [Int.zero_mul, Int.zero_mul]; rfl), hP, hD, hS, lv_sub hl [6, 7, 8, 5, 4, 3, 2, 1, 0] rfl⟩
    obtain ⟨ar1, i, cy, rfl, i0, i1, c0, c1, q1, q2, q4, qd, qv, hP, hD, hS, hl⟩ := hI
    refine lv_iload hx hb dX12_raised_56 (lv_at hl 8 rfl) ?_
    refine lv_iload hx hb dX12_raised_58 (lv_at hl 4 rfl) ?_
    refine g_icmp_gt (tgt := 113) hx hb ⟨by omega, by omega⟩ ⟨by omega, by omega⟩ dX12_raised_60 (by decide) (fun c_60 => ?_) (fun c_60 => ?_)
    · skip
      refine lv_aload_n hx hb dX12_raised_113 rfl (lv_at hl 0 rfl) ?_
      refine r_geti E hK hP (k := 1) (v := .ref (ad 1)) (by decide) mf_7 rfl rfl dX12_raised_114 ?_
      refine lv_iload_n hx hb dX12_raised_117 rfl (lv_at hl 3 rfl) ?_
      refine lv_iload hx hb dX12_raised_118 (lv_at hl 5 rfl) ?_
      refine g_iadd hx hb dX12_raised_120 ?_
      refine lv_iload hx hb dX12_raised_121 (lv_at hl 4 rfl) ?_
      refine g_iadd hx hb dX12_raised_123 ?_
      refine lv_iconst (v := Int32.ofInt (1)) hx hb dX12_raised_124 (by decide) ?_
      refine g_iadd hx hb dX12_raised_125 ?_
      refine lv_lload hx hb dX12_raised_126 (lv_at hl 7 rfl) ?_
      refine g_l2i hx hb dX12_raised_128 ?_
      refine g_iast (f := (ar1 1)) hx hb hK hP hD hS 1 0 rfl rfl (by omega) (by omega) (by decide) dX12_raised_129 (fun H locs hP hD hS => ?_)
      rw [sa_1] at hP hD
      refine lv_aload_n hx hb dX12_raised_130 rfl (lv_at hl 0 rfl) ?_
      refine lv_iload_n hx hb dX12_raised_131 rfl (lv_at hl 3 rfl) ?_
      refine lv_iload hx hb dX12_raised_132 (lv_at hl 5 rfl) ?_
      refine lv_iload hx hb dX12_raised_134 (lv_at hl 4 rfl) ?_
      refine g_iadd hx hb dX12_raised_136 ?_
      refine lv_iconst (v := Int32.ofInt (1)) hx hb dX12_raised_137 (by decide) ?_
      refine g_iadd hx hb dX12_raised_138 ?_
      have hok5 : hok (iup (ar1 1) ((((F 2) + 0) + (nsz (ar 1) a)) + 1) cy) := hok_up q4 (by omega) (by omega)
      have hi : i = nsz (ar 1) a + 1 := by omega
      refine lv_aload_n hx hb dX12_raised_139 rfl (lv_at hl 0 rfl) ?_
      refine r_geti E hK hP (k := 1) (v := .ref (ad 1)) (by decide) mf_7 rfl rfl dX12_raised_140 ?_
      refine lv_iload_n hx hb dX12_raised_143 rfl (lv_at hl 1 rfl) ?_
      refine g_iald (f := (iup (ar1 1) ((((F 2) + 0) + (nsz (ar 1) a)) + 1) cy)) hx hb hK hP 1 0 rfl rfl (by omega) (by omega) (by decide) dX12_raised_144 ?_
      refine r_join (P := fun z : Int => z = 0 ∨ z = 1) (g := fun z => F0 m 153 ls [Iz z, Iz ((0 + (nsz (ar 1) a)) + 1), Iz (F 2), .ref h0]) (fun mi hmi => ?_) (fun k_153 => ?_)
      · skip
        refine r_calli (As := [Iz (F 2), Iz ((0 + (nsz (ar 1) a)) + 1), Iz (mi)]) (rest := []) E (c_shut (F := F) (ar := (aup ar1 1 (iup (ar1 1) ((((F 2) + 0) + (nsz (ar 1) a)) + 1) cy))) (a := F 2) (n := 0 + nsz (ar 1) a + 1) (mi := mi) t0 (by omega) (by omega) hok5 hmi) (cwV 3 hts (rGood ml_16 mi_shut ms_shut mn_RX12 mc_shut) rfl rfl rfl (by decide +kernel) ⟨Nat.le_of_ble_eq_true rfl, Nat.le_of_ble_eq_true rfl⟩) hK hP hD hS hA rfl hl.1 (Nat.le_of_ble_eq_true rfl) dX12_raised_153 ⟨Nat.le_refl 0, Nat.le_refl 0⟩ (fun z9 F9 ar9 H locs q9 hP hD hS => ?_)
        obtain ⟨k, k0, k1, kt, kz, rfl, rfl, rfl⟩ := q9
        have hd5 : ∀ t : Int, 1 ≤ t → t ≤ 0 + nsz (ar 1) a + 1 → 0 ≤ (iup (ar1 1) (F 2 + 0 + nsz (ar 1) a + 1) cy) (F 2 + t) := fun t h1 h2 => by
          by_cases e : t = nsz (ar 1) a + 1
          · rw [e, show F 2 + (nsz (ar 1) a + 1) = F 2 + 0 + nsz (ar 1) a + 1 by omega, iup_self]; exact c0
          · rw [iup_ne (by omega)]; exact qd t h1 (by omega)
        have sf := shut_facts (h := iup (ar1 1) (F 2 + 0 + nsz (ar 1) a + 1) cy) (a := F 2) (n := 0 + nsz (ar 1) a + 1) (mi := mi) k0 k1 kt kz hd5
        have ev : kn_v (fun t => (iup (ar1 1) (F 2 + 0 + nsz (ar 1) a + 1) cy) (F 2 + 1 + t)) (0 + nsz (ar 1) a + 1).toNat = nv (ar 1) a * 2 ^ sh.toNat := by
          rw [show (0 + nsz (ar 1) a + 1).toNat = (nsz (ar 1) a).toNat + 1 by omega]
          rw [kn_v_up (f := fun t => ar1 1 (F 2 + 1 + t)) (d := cy) (fun t h1 h2 => iup_ne (by omega)) (by show iup _ _ _ _ = _; rw [show F 2 + 1 + (((nsz (ar 1) a).toNat : Nat) : Int) = F 2 + 0 + nsz (ar 1) a + 1 by omega, iup_self])]
          rw [show (nsz (ar 1) a).toNat = (i - 1).toNat by omega]; rw [qv]; unfold nv; rw [show (nsz (ar 1) a).toNat = (i - 1).toNat by omega]
        have hmi2 : -2147483648 < (if mi = 0 then k else 0 - k) ∧ (if mi = 0 then k else 0 - k) < 2147483648 := by split <;> omega
        have hpost : (F 2 : Int) = F 2 ∧ nK F (fup F 2 (F 2 + 1 + k)) ar (aup (aup ar1 1 (iup (ar1 1) ((((F 2) + 0) + (nsz (ar 1) a)) + 1) cy)) 1 (iup (iup (ar1 1) ((((F 2) + 0) + (nsz (ar 1) a)) + 1) cy) (F 2) (if mi = 0 then k else 0 - k))) ∧ nm ((aup (aup ar1 1 (iup (ar1 1) ((((F 2) + 0) + (nsz (ar 1) a)) + 1) cy)) 1 (iup (iup (ar1 1) ((((F 2) + 0) + (nsz (ar 1) a)) + 1) cy) (F 2) (if mi = 0 then k else 0 - k))) 1) (F 2 : Int) ∧ (fup F 2 (F 2 + 1 + k)) 2 = (F 2 : Int) + 1 + nsz ((aup (aup ar1 1 (iup (ar1 1) ((((F 2) + 0) + (nsz (ar 1) a)) + 1) cy)) 1 (iup (iup (ar1 1) ((((F 2) + 0) + (nsz (ar 1) a)) + 1) cy) (F 2) (if mi = 0 then k else 0 - k))) 1) (F 2 : Int) ∧ nsz ((aup (aup ar1 1 (iup (ar1 1) ((((F 2) + 0) + (nsz (ar 1) a)) + 1) cy)) 1 (iup (iup (ar1 1) ((((F 2) + 0) + (nsz (ar 1) a)) + 1) cy) (F 2) (if mi = 0 then k else 0 - k))) 1) (F 2 : Int) ≤ nsz (ar 1) a + 1 ∧ nv ((aup (aup ar1 1 (iup (ar1 1) ((((F 2) + 0) + (nsz (ar 1) a)) + 1) cy)) 1 (iup (iup (ar1 1) ((((F 2) + 0) + (nsz (ar 1) a)) + 1) cy) (F 2) (if mi = 0 then k else 0 - k))) 1) (F 2 : Int) = nv (ar 1) a * 2 ^ sh.toNat := ⟨rfl, ⟨fun j hj => fup_ne _ _ hj, fun j hj => by rw [aup_ne _ _ hj, aup_ne _ _ hj]; exact q1 j hj, fun t ht => by show iup _ _ _ t = _; rw [iup_ne (by omega), iup_ne (by omega)]; exact q2 t ht, hok_up hok5 hmi2.1 hmi2.2⟩, sf.2.1, (by have e := sf.1; show F 2 + 1 + k = _; exact congrArg (fun q => F 2 + 1 + q) e.symm), Int.le_trans (Int.le_of_eq sf.1) (by omega), sf.2.2.trans ev⟩
        exact W.iret (v := Int32.ofInt (F 2)) hx hb hr (fun t ht hW => ⟨⟨_, ((fup F 2 (F 2 + 1 + k)), (aup (aup ar1 1 (iup (ar1 1) ((((F 2) + 0) + (nsz (ar 1) a)) + 1) cy)) 1 (iup (iup (ar1 1) ((((F 2) + 0) + (nsz (ar 1) a)) + 1) cy) (F 2) (if mi = 0 then k else 0 - k)))), rfl, ⟨_, rfl, hpost⟩, by rw [ht]; exact hP, va_K.moved hW.alike hK, hD⟩, hS.F ht⟩) hS.2.2 dX12_raised_156
      · skip
        refine g_if_ge (tgt := 152) hx hb (hok_i (hok_up q4 (by omega) (by omega)) _) dX12_raised_145 (by decide) (fun c_145 => ?_) (fun c_145 => ?_)
        · skip
          refine lv_iconst (v := Int32.ofInt (0)) hx hb dX12_raised_152 (by decide) ?_
          exact k_153 _ (by omega)
        · skip
          refine lv_iconst (v := Int32.ofInt (1)) hx hb dX12_raised_148 (by decide) ?_
          refine lv_goto (tgt := 153) hx hb dX12_raised_149 (by decide) ?_
          exact k_153 _ (by omega)
    · skip
      have xd := na.1 i i0 (by omega)
      have xr := q2 (a + i) (by omega)
      have rr := rs_room c0 c1 (by rw [← xr] at xd; exact xd) (q4 (a + i)).2 p2.2
      refine lv_lload hx hb dX12_raised_63 (lv_at hl 7 rfl) ?_
      refine lv_aload_n hx hb dX12_raised_65 rfl (lv_at hl 0 rfl) ?_
      refine r_geti E hK hP (k := 1) (v := .ref (ad 1)) (by decide) mf_7 rfl rfl dX12_raised_66 ?_
      refine lv_iload_n hx hb dX12_raised_69 rfl (lv_at hl 1 rfl) ?_
      refine lv_iload hx hb dX12_raised_70 (lv_at hl 8 rfl) ?_
      refine g_iadd hx hb dX12_raised_72 ?_
      refine g_iald (f := (ar1 1)) hx hb hK hP 1 0 rfl rfl (by omega) (by omega) (by decide) dX12_raised_73 ?_
      refine g_i2l hx hb (hok_i q4 _) dX12_raised_74 ?_
      refine lv_iload hx hb dX12_raised_75 (lv_at hl 6 rfl) ?_
      refine g_lshl hx hb (by omega) (by omega) dX12_raised_77 ?_
      refine g_lor hx hb (lm_or (k := sh.toNat) c0 c1 rr.1 (Int.mul_emod_left _ _) (by omega)) dX12_raised_78 ?_
      refine lv_lstore (lv' := [(7, Jz (cy + (((ar1 1) (a + i)) * 2 ^ (sh).toNat))), (0, .ref h0), (1, Iz (a)), (2, Iz (sh)), (3, Iz (F 2)), (4, Iz (nsz (ar 1) a)), (5, Iz (0)), (6, Iz (sh)), (9, Iz (i))]) hx hb dX12_raised_79 hl (by decide) rfl (fun ls hl => ?_)
      refine lv_aload_n hx hb dX12_raised_81 rfl (lv_at hl 1 rfl) ?_
      refine r_geti E hK hP (k := 1) (v := .ref (ad 1)) (by decide) mf_7 rfl rfl dX12_raised_82 ?_
      refine lv_iload_n hx hb dX12_raised_85 rfl (lv_at hl 4 rfl) ?_
      refine lv_iload hx hb dX12_raised_86 (lv_at hl 6 rfl) ?_
      refine g_iadd hx hb dX12_raised_88 ?_
      refine lv_iload hx hb dX12_raised_89 (lv_at hl 8 rfl) ?_
      refine g_iadd hx hb dX12_raised_91 ?_
      refine lv_lload hx hb dX12_raised_92 (lv_at hl 0 rfl) ?_
      refine lv_ldc2 (v := Int64.ofInt (2147483647)) hx hb hown (hts _ (List.mem_cons_of_mem _ mj_14)) dX12_raised_94 ?_
      refine g_landM hx hb dX12_raised_97 ?_
      refine g_l2i hx hb dX12_raised_98 ?_
      refine g_iast (f := (ar1 1)) hx hb hK hP hD hS 1 0 rfl rfl (by omega) (by omega) (by decide) dX12_raised_99 (fun H locs hP hD hS => ?_)
      rw [sa_1] at hP hD
      refine lv_lload hx hb dX12_raised_100 (lv_at hl 0 rfl) ?_
      refine lv_bipush (v := Int32.ofInt (31)) hx hb dX12_raised_102 (by decide) ?_
      refine g_lshr hx hb ⟨by omega, by omega⟩ (by omega) (by omega) dX12_raised_104 ?_
      rw [show (2 : Int) ^ (31 : Int).toNat = 2147483648 from rfl]
      refine lv_lstore (lv' := [(7, Jz ((cy + (((ar1 1) (a + i)) * 2 ^ (sh).toNat)) / 2147483648)), (0, .ref h0), (1, Iz (a)), (2, Iz (sh)), (3, Iz (F 2)), (4, Iz (nsz (ar 1) a)), (5, Iz (0)), (6, Iz (sh)), (9, Iz (i))]) hx hb dX12_raised_105 hl (by decide) rfl (fun ls hl => ?_)
      have h_at : (iup (ar1 1) (((F 2) + 0) + i) ((cy + (((ar1 1) (a + i)) * 2 ^ (sh).toNat)) % 2147483648)) (F 2 + i) = (cy + ar1 1 (a + i) * 2 ^ sh.toNat) % 2147483648 := by show iup _ _ _ _ = _; rw [show F 2 + i = F 2 + 0 + i by omega, iup_self]
      have h_lo : ∀ t : Int, t ≠ F 2 + i → (iup (ar1 1) (((F 2) + 0) + i) ((cy + (((ar1 1) (a + i)) * 2 ^ (sh).toNat)) % 2147483648)) t = ar1 1 t := fun t ht => iup_ne (by omega)
      have qv' : kn_v (fun t => (iup (ar1 1) (((F 2) + 0) + i) ((cy + (((ar1 1) (a + i)) * 2 ^ (sh).toNat)) % 2147483648)) (F 2 + 1 + t)) ((i - 1).toNat + 1) = kn_v (fun t => ar1 1 (F 2 + 1 + t)) (i - 1).toNat + ((cy + ar1 1 (a + i) * 2 ^ sh.toNat) % 2147483648) * 2147483648 ^ (i - 1).toNat := kn_v_up (fun t h1 h2 => h_lo _ (by omega)) (by show (iup (ar1 1) (((F 2) + 0) + i) ((cy + (((ar1 1) (a + i)) * 2 ^ (sh).toNat)) % 2147483648)) (F 2 + 1 + _) = _; rw [show F 2 + 1 + (((i - 1).toNat : Nat) : Int) = F 2 + i by omega]; exact h_at)
      have qa' : kn_v (fun t => ar 1 (a + 1 + t)) ((i - 1).toNat + 1) = kn_v (fun t => ar 1 (a + 1 + t)) (i - 1).toNat + ar1 1 (a + i) * 2147483648 ^ (i - 1).toNat := kn_v_up (fun t h1 h2 => rfl) (by show ar 1 (a + 1 + _) = _; rw [show a + 1 + (((i - 1).toNat : Nat) : Int) = a + i by omega]; exact xr.symm)
      have hi1 : (i + 1 - 1).toNat = (i - 1).toNat + 1 := by omega
      have qn := rs_step (x := ar1 1 (a + i)) (d := (cy + ar1 1 (a + i) * 2 ^ sh.toNat) % 2147483648) (c' := (cy + ar1 1 (a + i) * 2 ^ sh.toNat) / 2147483648) qv (by have := Int.mul_ediv_add_emod (cy + ar1 1 (a + i) * 2 ^ sh.toNat) 2147483648; omega)
      refine g_iinc (k := 8) (z := i) (n := (1)) (lv' := [(9, Iz (i + 1)), (7, Jz ((cy + (((ar1 1) (a + i)) * 2 ^ (sh).toNat)) / 2147483648)), (0, .ref h0), (1, Iz (a)), (2, Iz (sh)), (3, Iz (F 2)), (4, Iz (nsz (ar 1) a)), (5, Iz (0)), (6, Iz (sh))]) hx hb dX12_raised_107 hl rfl (by decide) rfl (fun ls hl => ?_)
      refine lv_goto (tgt := 56) hx hb dX12_raised_110 (by decide) ?_
      exact ih_56 _ (by omega) _ _ _ ⟨(aup ar1 1 (iup (ar1 1) (((F 2) + 0) + i) ((cy + (((ar1 1) (a + i)) * 2 ^ (sh).toNat)) % 2147483648))), (i + 1), ((cy + (((ar1 1) (a + i)) * 2 ^ (sh).toNat)) / 2147483648), rfl, (by omega), (by omega), (rr.2.2.2.2), (rr.2.2.2.1), (fun j hj => by rw [aup_ne _ _ hj]; exact q1 j hj), (fun t ht => (h_lo t (by omega)).trans (q2 t ht)), (hok_up q4 (by omega) (by omega)), (fun t h1 h2 => by by_cases e : t = i; (· rw [e]; show 0 ≤ iup _ _ _ _; rw [h_at]; omega); (· show 0 ≤ iup _ _ _ _; rw [h_lo _ (by omega)]; exact qd t h1 (by omega))), (by rw [hi1]; exact (congrArg (· + _) qv').trans ((by rw [kn_pow_succ]; exact qn : _ = _).trans (congrArg (· * _) qa'.symm))), hP, hD, hS, lv_sub hl [2, 3, 4, 5, 6, 7, 8, 1, 0] rfl⟩
  · omega
