
set_option maxHeartbeats 4000000 in
set_option maxRecDepth 100000 in
theorem c_divide {l : Launch} {dC : Nat → ClassId} {dI : Nat → Nat → Nat} {h0 : Nat} {ad : Nat → Nat} {cI cJ cB cZ : Nat} {F : Nat → Int} {ar : Nat → Int → Int} {sz : Nat} {a b : Int} (t0 : 0 ≤ F 2) (a0 : 0 ≤ a) (a1 : a + nsz (ar 1) a < F 2) (b0 : 0 ≤ b) (b1 : b + nsz (ar 1) b < F 2) (t1 : F 2 + 8 * nsz (ar 1) a + 40 < 6000000) (hk : hok (ar 1)) (na : nm (ar 1) a) (nb : nm (ar 1) b) (hb1 : 1 ≤ nsz (ar 1) b) : Met l yX12_divide (Cond.code yX12_divide cX12_divide 26 none :: w0r) (rRm 3 80) (rPc dC dI h0 ad cI cJ cB cZ F ar sz [Iz (a), Iz (b)]) (rQv dC dI h0 ad cI cJ cB cZ sz (fun F' ar' => dvP F F' ar ar' a b (8 * nsz (ar 1) a + 30))) 0 0 (rA h0 ad sz) := by
  refine Met.ofW (cc := cX12_divide) (maxL := 26) (ret := none) (by decide) rfl ?_
  intro p e s m args below meth c s₁ B hml hv
  obtain ⟨rfl, hsz, hP, hK, hD0⟩ := hv
  have hx := B.exec
  have hb := B.bytes
  have hr := B.returns
  have hts := atoms_spec (ws := Cond.code yX12_divide cX12_divide 26 none :: w0r) B.pre
  have hown : s.vm.findClass RX12 = some m.cls := findClass_of_methodNamed B.named
  have hlocks := B.notSynchronized
  have E : CallFix p m c cX12_divide 26 s _ (Cond.code yX12_divide cX12_divide 26 none :: w0r) RX12 := ⟨hx, hb, hml, hown, hts⟩
  subst hsz
  have hD := rA_self s.heap.size hD0
  have hA : ∀ q : Nat, s.heap.size ≤ q → rA h0 ad s.heap.size q := fun q h => Or.inr h
  have hS : va_S (rA h0 ad s.heap.size) s.heap s.heap [] := va_S.rf
  have hl := lv_entry ([.ref h0, Iz (a), Iz (b)]) (n := 26) (Nat.le_of_ble_eq_true rfl)
  rw [lg_entry_eq]
  generalize (lg_sl ([.ref h0, Iz (a), Iz (b)]) ++ List.replicate (26 - (lg_sl ([.ref h0, Iz (a), Iz (b)])).length) Slot.unset).toArray = ls at hl ⊢
  have hl : lv_has ls 26 [(0, .ref h0), (1, Iz (a)), (2, Iz (b))] := hl
  have s0 := nsz_nonneg (ar 1) a
  have s1 := nsz_lt hk a
  have s2 := nsz_nonneg (ar 1) b
  refine lv_aload_n hx hb dX12_divide_0 rfl (lv_at hl 0 rfl) ?_
  refine lv_iload_n hx hb dX12_divide_1 rfl (lv_at hl 1 rfl) ?_
  refine lv_iload_n hx hb dX12_divide_2 rfl (lv_at hl 2 rfl) ?_
  refine r_calli (As := [Iz (a), Iz (b)]) (rest := []) E (c_sizeCompare (F := F) (ar := ar) (a := a) (b := b) a0 (by omega) b0 (by omega) hk na nb) (cwV 2 hts (rGood ml_30 mi_sizeCompare ms_sizeCompare mn_RX12 mc_sizeCompare) rfl rfl rfl (by decide +kernel) ⟨Nat.le_of_ble_eq_true rfl, Nat.le_of_ble_eq_true rfl⟩) hK hP hD hS hA rfl hl.1 (Nat.le_of_ble_eq_true rfl) dX12_divide_3 ⟨Nat.le_refl 0, Nat.le_refl 0⟩ (fun z3 F3 ar3 H locs q3 hP hD hS => ?_)
  obtain ⟨e1_, e2_, q3⟩ := q3
  obtain rfl := e1_.symm
  obtain rfl := e2_.symm
  refine g_if_ge (tgt := 28) hx hb ⟨by omega, by omega⟩ dX12_divide_6 (by decide) (fun c_6 => ?_) (fun c_6 => ?_)
  · skip
    refine lv_aload_n hx hb dX12_divide_28 rfl (lv_at hl 0 rfl) ?_
    refine lv_iload_n hx hb dX12_divide_29 rfl (lv_at hl 2 rfl) ?_
    refine r_calli (As := [Iz (b)]) (rest := []) E (c_size (F := F) (ar := ar) (a := b) b0 (by omega) hk) (cwV 1 hts (rGood ml_20 mi_size ms_size mn_RX12 mc_size) rfl rfl rfl (by decide +kernel) ⟨Nat.le_of_ble_eq_true rfl, Nat.le_of_ble_eq_true rfl⟩) hK hP hD hS hA rfl hl.1 (Nat.le_of_ble_eq_true rfl) dX12_divide_30 ⟨Nat.le_refl 0, Nat.le_refl 0⟩ (fun z30 F30 ar30 H locs q30 hP hD hS => ?_)
    obtain ⟨e1_, e2_, e3_⟩ := q30
    obtain rfl := e1_.symm
    obtain rfl := e2_.symm
    obtain rfl := e3_.symm
    refine lv_istore_n (lv' := [(3, Iz (nsz (ar 1) b)), (0, .ref h0), (1, Iz (a)), (2, Iz (b))]) hx hb dX12_divide_33 rfl hl (by decide) rfl (fun ls hl => ?_)
    refine lv_iload_n hx hb dX12_divide_34 rfl (lv_at hl 0 rfl) ?_
    refine lv_iconst (v := Int32.ofInt (1)) hx hb dX12_divide_35 (by decide) ?_
    refine g_icmp_ne (tgt := 46) hx hb ⟨by omega, by omega⟩ ⟨by omega, by omega⟩ dX12_divide_36 (by decide) (fun c_36 => ?_) (fun c_36 => ?_)
    · skip
      obtain ⟨n2, hn2⟩ : ∃ n2 : Nat, nsz (ar 1) b = (n2 : Int) + 2 := ⟨(nsz (ar 1) b - 2).toNat, by omega⟩
      have hNB := q3.2.2.2 c_6
      have tb0 : 1 ≤ ar 1 (b + nsz (ar 1) b) := by have h1 := nb.1 (nsz (ar 1) b) (by omega) (Int.le_refl _); have h2 := nb.2 (by omega); omega
      refine lv_iconst (v := Int32.ofInt (0)) hx hb dX12_divide_46 (by decide) ?_
      refine lv_istore (lv' := [(4, Iz (0)), (3, Iz (nsz (ar 1) b)), (0, .ref h0), (1, Iz (a)), (2, Iz (b))]) hx hb dX12_divide_47 hl (by decide) rfl (fun ls hl => ?_)
      refine r_loop (P := fun N_ H locs ls => ∃ (sh : Int), N_ = (31 - sh).toNat ∧ (0 ≤ sh) ∧ (sh < 31) ∧ (ar 1 (b + nsz (ar 1) b) * 2 ^ sh.toNat < 2147483648) ∧ va_P (dC, dI) rcl (mW h0 ad cI cJ cB cZ F ar) H ∧ va_D (rA h0 ad s.heap.size) (mW h0 ad cI cJ cB cZ F ar) ∧ va_S (rA h0 ad s.heap.size) s.heap H locs ∧ lv_has ls 26 [(0, .ref h0), (1, Iz (a)), (2, Iz (b)), (3, Iz (nsz (ar 1) b)), (4, Iz (sh))]) (g := fun ls => F0 m 49 ls []) (fun N_ H locs ls hI ih_49 => ?_) _ _ _ _ ⟨0, rfl, (Int.le_refl 0), (by omega), (by rw [show (0 : Int).toNat = 0 from rfl, Int.pow_zero, Int.mul_one]; exact (hk _).2), hP, hD, hS, lv_sub hl [2, 3, 4, 1, 0] rfl⟩
      obtain ⟨sh, rfl, sh0, sh1, st, hP, hD, hS, hl⟩ := hI
      refine lv_aload_n hx hb dX12_divide_49 rfl (lv_at hl 0 rfl) ?_
      refine r_geti E hK hP (k := 1) (v := .ref (ad 1)) (by decide) mf_7 rfl rfl dX12_divide_50 ?_
      refine lv_iload_n hx hb dX12_divide_53 rfl (lv_at hl 2 rfl) ?_
      refine lv_iload_n hx hb dX12_divide_54 rfl (lv_at hl 3 rfl) ?_
      refine g_iadd hx hb dX12_divide_55 ?_
      refine g_iald (f := (ar 1)) hx hb hK hP 1 0 rfl rfl (by omega) (by omega) (by decide) dX12_divide_56 ?_
      have p2 := p2_bd sh0 sh1
      have tbp : 0 ≤ ar 1 (b + nsz (ar 1) b) * 2 ^ sh.toNat := Int.mul_nonneg (by omega) (by omega)
      refine lv_iload hx hb dX12_divide_57 (lv_at hl 4 rfl) ?_
      refine g_ishl hx hb (by omega) (by omega) dX12_divide_59 ?_
      refine lv_ldc (v := Int32.ofInt (1073741824)) hx hb hown (hts _ (List.mem_cons_of_mem _ mk_55)) dX12_divide_60 ?_
      refine g_icmp_ge (tgt := 71) hx hb ⟨by omega, by omega⟩ ⟨by omega, by omega⟩ dX12_divide_62 (by decide) (fun c_62 => ?_) (fun c_62 => ?_)
      · skip
        refine lv_aload_n hx hb dX12_divide_71 rfl (lv_at hl 0 rfl) ?_
        refine lv_iload_n hx hb dX12_divide_72 rfl (lv_at hl 1 rfl) ?_
        refine lv_iload hx hb dX12_divide_73 (lv_at hl 4 rfl) ?_
        refine r_calli (As := [Iz (a), Iz (sh)]) (rest := []) E (c_raised (F := F) (ar := ar) (a := a) (sh := sh) t0 a0 a1 (by omega) hk na sh0 sh1) (cwV 2 hts (rGood ml_56 mi_raised ms_raised mn_RX12 mc_raised) rfl rfl rfl (by decide +kernel) ⟨Nat.le_of_ble_eq_true rfl, Nat.le_of_ble_eq_true rfl⟩) hK hP hD hS hA rfl hl.1 (Nat.le_of_ble_eq_true rfl) dX12_divide_75 ⟨Nat.le_refl 0, Nat.le_refl 0⟩ (fun z75 F75 ar75 H locs q75 hP hD hS => ?_)
        obtain ⟨zz, x1, x2, x3, x4, x5⟩ := q75
        obtain rfl : z75 = F 2 := zz
        refine lv_istore (lv' := [(5, Iz (F 2)), (0, .ref h0), (1, Iz (a)), (2, Iz (b)), (3, Iz (nsz (ar 1) b)), (4, Iz (sh))]) hx hb dX12_divide_78 hl (by decide) rfl (fun ls hl => ?_)
        have eb : nsz (ar75 1) b = nsz (ar 1) b := nsz_agree (x1.2.2.1 b (by omega))
        have nb75 : nm (ar75 1) b := nm_agree (fun i h1 h2 => x1.2.2.1 i (by omega)) nb
        have vb75 : nv (ar75 1) b = nv (ar 1) b := nv_agree (fun i h1 h2 => x1.2.2.1 i (by omega))
        have xs0 := nsz_nonneg (ar75 1) (F 2)
        refine lv_aload_n hx hb dX12_divide_80 rfl (lv_at hl 1 rfl) ?_
        refine lv_iload_n hx hb dX12_divide_81 rfl (lv_at hl 3 rfl) ?_
        refine lv_iload hx hb dX12_divide_82 (lv_at hl 5 rfl) ?_
        refine r_calli (As := [Iz (b), Iz (sh)]) (rest := []) E (c_raised (F := F75) (ar := ar75) (a := b) (sh := sh) (by omega) b0 (by omega) (by omega) x1.2.2.2 nb75 sh0 sh1) (cwV 2 hts (rGood ml_56 mi_raised ms_raised mn_RX12 mc_raised) rfl rfl rfl (by decide +kernel) ⟨Nat.le_of_ble_eq_true rfl, Nat.le_of_ble_eq_true rfl⟩) hK hP hD hS hA rfl hl.1 (Nat.le_of_ble_eq_true rfl) dX12_divide_84 ⟨Nat.le_refl 0, Nat.le_refl 0⟩ (fun z84 F84 ar84 H locs q84 hP hD hS => ?_)
        obtain ⟨zz, y1, y2, y3, y4, y5⟩ := q84
        obtain rfl : z84 = F75 2 := zz
        refine lv_istore (lv' := [(6, Iz (F75 2)), (5, Iz (F 2)), (0, .ref h0), (1, Iz (a)), (2, Iz (b)), (3, Iz (nsz (ar 1) b)), (4, Iz (sh))]) hx hb dX12_divide_87 hl (by decide) rfl (fun ls hl => ?_)
        have ex : nsz (ar84 1) (F 2) = nsz (ar75 1) (F 2) := nsz_agree (y1.2.2.1 (F 2) (by omega))
        have ys := dv_size (n := n2 + 1) hk y1.2.2.2 nb y2 (by omega) sh0 sh1 c_62 st (y5.trans (by rw [vb75]))
        have hxa : nsz (ar 1) a ≤ nsz (ar75 1) (F 2) := by
          rcases Int.lt_or_le (nsz (ar75 1) (F 2)) (nsz (ar 1) a) with q | q
          · have h := nv_lt_size x1.2.2.2 hk x2 na q
            have h0 := nv_nonneg hk na
            have h1 : nv (ar 1) a * 1 ≤ nv (ar 1) a * 2 ^ sh.toNat := Int.mul_le_mul_of_nonneg_left p2.1 h0
            omega
          · exact q
        refine lv_aload_n hx hb dX12_divide_89 rfl (lv_at hl 2 rfl) ?_
        refine lv_iload hx hb dX12_divide_90 (lv_at hl 1 rfl) ?_
        refine r_calli (As := [Iz (F 2)]) (rest := []) E (c_size (F := F84) (ar := ar84) (a := F 2) t0 (by omega) y1.2.2.2) (cwV 1 hts (rGood ml_20 mi_size ms_size mn_RX12 mc_size) rfl rfl rfl (by decide +kernel) ⟨Nat.le_of_ble_eq_true rfl, Nat.le_of_ble_eq_true rfl⟩) hK hP hD hS hA rfl hl.1 (Nat.le_of_ble_eq_true rfl) dX12_divide_92 ⟨Nat.le_refl 0, Nat.le_refl 0⟩ (fun z92 F92 ar92 H locs q92 hP hD hS => ?_)
        obtain ⟨e1_, e2_, e3_⟩ := q92
        obtain rfl := e1_.symm
        obtain rfl := e2_.symm
        obtain rfl := e3_.symm
        refine lv_iload_n hx hb dX12_divide_95 rfl (lv_at hl 5 rfl) ?_
        refine g_isub hx hb dX12_divide_96 ?_
        obtain ⟨M, hM⟩ : ∃ M : Int, M = nsz (ar84 1) (F 2) - nsz (ar 1) b := ⟨_, rfl⟩
        rw [← hM]
        refine lv_istore (lv' := [(7, Iz (M)), (6, Iz (F75 2)), (5, Iz (F 2)), (0, .ref h0), (1, Iz (a)), (2, Iz (b)), (3, Iz (nsz (ar 1) b)), (4, Iz (sh))]) hx hb dX12_divide_97 hl (by decide) rfl (fun ls hl => ?_)
        refine lv_aload_n hx hb dX12_divide_99 rfl (lv_at hl 3 rfl) ?_
        refine r_geti E hK hP (k := 2) (v := Iz (F84 2)) (by decide) mf_11 rfl rfl dX12_divide_100 ?_
        obtain ⟨w0, hw0⟩ : ∃ w0 : Int, w0 = F84 2 := ⟨_, rfl⟩
        rw [← hw0]
        refine lv_istore (lv' := [(8, Iz (w0)), (7, Iz (M)), (6, Iz (F75 2)), (5, Iz (F 2)), (0, .ref h0), (1, Iz (a)), (2, Iz (b)), (3, Iz (nsz (ar 1) b)), (4, Iz (sh))]) hx hb dX12_divide_103 hl (by decide) rfl (fun ls hl => ?_)
        refine lv_iconst (v := Int32.ofInt (0)) hx hb dX12_divide_105 (by decide) ?_
        refine lv_istore (lv' := [(9, Iz (0)), (8, Iz (w0)), (7, Iz (M)), (6, Iz (F75 2)), (5, Iz (F 2)), (0, .ref h0), (1, Iz (a)), (2, Iz (b)), (3, Iz (nsz (ar 1) b)), (4, Iz (sh))]) hx hb dX12_divide_106 hl (by decide) rfl (fun ls hl => ?_)
        refine r_loop (P := fun N_ H locs ls => ∃ (ar3 : Nat → Int → Int) (i : Int), N_ = (nsz (ar 1) b + M - i).toNat ∧ (0 ≤ i) ∧ (i ≤ nsz (ar 1) b + M) ∧ (∀ j : Nat, j ≠ 1 → ar3 j = ar84 j) ∧ (∀ t : Int, t < w0 → ar3 1 t = ar84 1 t) ∧ (∀ t : Int, 0 ≤ t → t < i → ar3 1 (w0 + t) = ar84 1 (F 2 + 1 + t)) ∧ (hok (ar3 1)) ∧ va_P (dC, dI) rcl (mW h0 ad cI cJ cB cZ F84 ar3) H ∧ va_D (rA h0 ad s.heap.size) (mW h0 ad cI cJ cB cZ F84 ar3) ∧ va_S (rA h0 ad s.heap.size) s.heap H locs ∧ lv_has ls 26 [(0, .ref h0), (1, Iz (a)), (2, Iz (b)), (3, Iz (nsz (ar 1) b)), (4, Iz (sh)), (5, Iz (F 2)), (6, Iz (F75 2)), (7, Iz (M)), (8, Iz (w0)), (9, Iz (i))]) (g := fun ls => F0 m 108 ls []) (fun N_ H locs ls hI ih_108 => ?_) _ _ _ _ ⟨ar84, 0, rfl, (Int.le_refl 0), (by omega), (fun _ _ => rfl), (fun _ _ => rfl), (fun t a b => by omega), (y1.2.2.2), hP, hD, hS, lv_sub hl [5, 6, 7, 8, 9, 4, 3, 2, 1, 0] rfl⟩
        obtain ⟨ar3, i, rfl, i0, i1, q1, q2, q3', q4, hP, hD, hS, hl⟩ := hI
        refine lv_iload hx hb dX12_divide_108 (lv_at hl 9 rfl) ?_
        refine lv_iload_n hx hb dX12_divide_110 rfl (lv_at hl 3 rfl) ?_
        refine lv_iload hx hb dX12_divide_111 (lv_at hl 7 rfl) ?_
        refine g_iadd hx hb dX12_divide_113 ?_
        refine g_icmp_ge (tgt := 145) hx hb ⟨by omega, by omega⟩ ⟨by omega, by omega⟩ dX12_divide_114 (by decide) (fun c_114 => ?_) (fun c_114 => ?_)
        · skip
          refine lv_aload_n hx hb dX12_divide_145 rfl (lv_at hl 0 rfl) ?_
          refine r_geti E hK hP (k := 1) (v := .ref (ad 1)) (by decide) mf_7 rfl rfl dX12_divide_146 ?_
          refine lv_iload hx hb dX12_divide_149 (lv_at hl 8 rfl) ?_
          refine lv_iload_n hx hb dX12_divide_151 rfl (lv_at hl 3 rfl) ?_
          refine g_iadd hx hb dX12_divide_152 ?_
          refine lv_iload hx hb dX12_divide_153 (lv_at hl 7 rfl) ?_
          refine g_iadd hx hb dX12_divide_155 ?_
          refine lv_iconst (v := Int32.ofInt (0)) hx hb dX12_divide_156 (by decide) ?_
          refine g_iast (f := (ar3 1)) hx hb hK hP hD hS 1 0 rfl rfl (by omega) (by omega) (by decide) dX12_divide_157 (fun H locs hP hD hS => ?_)
          rw [sa_1] at hP hD
          obtain ⟨h5, hh5⟩ : ∃ h5, h5 = (iup (ar3 1) ((w0 + (nsz (ar 1) b)) + M) 0) := ⟨_, rfl⟩
          have hok5 : hok h5 := by rw [hh5]; exact hok_up q4 (by omega) (by omega)
          have l5 : ∀ t : Int, t < w0 → h5 t = ar84 1 t := fun t ht => by rw [hh5, iup_ne (by omega)]; exact q2 t ht
          have z5 : h5 (w0 + nsz (ar 1) b + M) = 0 := by rw [hh5, iup_self]
          have d5 : ∀ t : Int, 0 ≤ t → t ≤ nsz (ar 1) b + M → 0 ≤ h5 (w0 + t) := by
            intro t h1 h2
            by_cases e : t = nsz (ar 1) b + M
            · rw [e, ← Int.add_assoc, z5]; exact Int.le_refl 0
            · rw [hh5, iup_ne (by omega), q3' t h1 (by omega), show F 2 + 1 + t = F 2 + (1 + t) by omega, y1.2.2.1 (F 2 + (1 + t)) (by omega)]; exact x2.1 (1 + t) (by omega) (by omega)
          refine lv_iload hx hb dX12_divide_158 (lv_at hl 8 rfl) ?_
          refine lv_iload_n hx hb dX12_divide_160 rfl (lv_at hl 3 rfl) ?_
          refine g_iadd hx hb dX12_divide_161 ?_
          refine lv_iload hx hb dX12_divide_162 (lv_at hl 7 rfl) ?_
          refine g_iadd hx hb dX12_divide_164 ?_
          refine lv_iconst (v := Int32.ofInt (1)) hx hb dX12_divide_165 (by decide) ?_
          refine g_iadd hx hb dX12_divide_166 ?_
          obtain ⟨q0, hq0⟩ : ∃ q0 : Int, q0 = w0 + nsz (ar 1) b + M + 1 := ⟨_, rfl⟩
          rw [← hq0]
          refine lv_istore (lv' := [(9, Iz (q0)), (0, .ref h0), (1, Iz (a)), (2, Iz (b)), (3, Iz (nsz (ar 1) b)), (4, Iz (sh)), (5, Iz (F 2)), (6, Iz (F75 2)), (7, Iz (M)), (8, Iz (w0))]) hx hb dX12_divide_167 hl (by decide) rfl (fun ls hl => ?_)
          refine lv_aload_n hx hb dX12_divide_169 rfl (lv_at hl 1 rfl) ?_
          refine r_geti E hK hP (k := 1) (v := .ref (ad 1)) (by decide) mf_7 rfl rfl dX12_divide_170 ?_
          refine lv_iload hx hb dX12_divide_173 (lv_at hl 7 rfl) ?_
          refine lv_iload_n hx hb dX12_divide_175 rfl (lv_at hl 4 rfl) ?_
          refine g_iadd hx hb dX12_divide_176 ?_
          refine g_iald (f := (iup (ar3 1) ((w0 + (nsz (ar 1) b)) + M) 0)) hx hb hK hP 1 0 rfl rfl (by omega) (by omega) (by decide) dX12_divide_177 ?_
          refine g_i2l hx hb (hok_i (hok_up q4 (by omega) (by omega)) _) dX12_divide_178 ?_
          obtain ⟨v1, hv1⟩ : ∃ v1 : Int, v1 = h5 (F75 2 + nsz (ar 1) b) := ⟨_, rfl⟩
          rw [← hh5, ← hv1]
          refine lv_lstore (lv' := [(10, Jz (v1)), (9, Iz (q0)), (0, .ref h0), (1, Iz (a)), (2, Iz (b)), (3, Iz (nsz (ar 1) b)), (4, Iz (sh)), (5, Iz (F 2)), (6, Iz (F75 2)), (7, Iz (M)), (8, Iz (w0))]) hx hb dX12_divide_179 hl (by decide) rfl (fun ls hl => ?_)
          refine lv_aload_n hx hb dX12_divide_181 rfl (lv_at hl 2 rfl) ?_
          refine r_geti E hK hP (k := 1) (v := .ref (ad 1)) (by decide) mf_7 rfl rfl dX12_divide_182 ?_
          refine lv_iload hx hb dX12_divide_185 (lv_at hl 8 rfl) ?_
          refine lv_iload_n hx hb dX12_divide_187 rfl (lv_at hl 5 rfl) ?_
          refine g_iadd hx hb dX12_divide_188 ?_
          refine lv_iconst (v := Int32.ofInt (1)) hx hb dX12_divide_189 (by decide) ?_
          refine g_isub hx hb dX12_divide_190 ?_
          refine g_iald (f := (iup (ar3 1) ((w0 + (nsz (ar 1) b)) + M) 0)) hx hb hK hP 1 0 rfl rfl (by omega) (by omega) (by decide) dX12_divide_191 ?_
          refine g_i2l hx hb (hok_i (hok_up q4 (by omega) (by omega)) _) dX12_divide_192 ?_
          obtain ⟨v2, hv2⟩ : ∃ v2 : Int, v2 = h5 (F75 2 + nsz (ar 1) b - 1) := ⟨_, rfl⟩
          rw [← hh5, ← hv2]
          refine lv_lstore (lv' := [(12, Jz (v2)), (10, Jz (v1)), (9, Iz (q0)), (0, .ref h0), (1, Iz (a)), (2, Iz (b)), (3, Iz (nsz (ar 1) b)), (4, Iz (sh)), (5, Iz (F 2)), (6, Iz (F75 2)), (7, Iz (M)), (8, Iz (w0))]) hx hb dX12_divide_193 hl (by decide) rfl (fun ls hl => ?_)
          have ylt : F75 2 + nsz (ar 1) b < w0 := by omega
          obtain ⟨V, hV⟩ : ∃ V : Int, V = nv (ar84 1) (F75 2) := ⟨_, rfl⟩
          have ysn : (nsz (ar84 1) (F75 2)).toNat = n2 + 2 := by omega
          have hVk : V = kn_v (fun t => ar84 1 (F75 2 + 1 + t)) (n2 + 2) := by rw [hV]; unfold nv; rw [ysn]
          have yd := nm_d y1.2.2.2 y2
          rw [ysn] at yd
          have ev1 : v1 = ar84 1 (F75 2 + nsz (ar 1) b) := by rw [hv1]; exact l5 _ ylt
          have ev2 : v2 = ar84 1 (F75 2 + nsz (ar 1) b - 1) := by rw [hv2]; exact l5 _ (by omega)
          have v1a : 1073741824 ≤ v1 := by rw [ev1]; exact ys.2
          have v1b : v1 < 2147483648 := by rw [ev1]; exact (y1.2.2.2 _).2
          have v2a : 0 ≤ v2 := by have h := (yd (n2 : Int) (by omega) (by omega)).1; rw [ev2, show F75 2 + nsz (ar 1) b - 1 = F75 2 + 1 + (n2 : Int) by omega]; exact h
          have v2b : v2 < 2147483648 := by rw [ev2]; exact (y1.2.2.2 _).2
          have hV2 : V = (v1 * 2147483648 + v2) * 2147483648 ^ n2 + kn_v (fun t => ar84 1 (F75 2 + 1 + t)) n2 := by rw [hVk, dv_top2]; show ((ar84 1 (F75 2 + 1 + ((n2 + 1 : Nat) : Int))) * 2147483648 + ar84 1 (F75 2 + 1 + (n2 : Int))) * _ + _ = _; rw [show F75 2 + 1 + ((n2 + 1 : Nat) : Int) = F75 2 + nsz (ar 1) b by omega, show F75 2 + 1 + (n2 : Int) = F75 2 + nsz (ar 1) b - 1 by omega, ev1, ev2]
          have vl0 := kn_v_nonneg (kn_d_of_le yd (show n2 ≤ n2 + 2 by omega))
          have vl1 := kn_v_lt (kn_d_of_le yd (show n2 ≤ n2 + 2 by omega))
          have Vlo : 2147483648 ^ (n2 + 1) ≤ V := by rw [hVk]; exact kn_v_lo yd (by show ar84 1 (F75 2 + 1 + ((n2 + 1 : Nat) : Int)) ≠ 0; rw [show F75 2 + 1 + ((n2 + 1 : Nat) : Int) = F75 2 + nsz (ar 1) b by omega]; have := ys.2; omega)
          have Vhi : V < 2147483648 ^ (n2 + 2) := by rw [hVk]; exact kn_v_lt yd
          have Pn := kn_pow_pos n2
          have rv5 : kn_v (fun t => h5 (w0 + (M + 1) + t)) (n2 + 2) < V := by
            have e1 : kn_v (fun t => h5 (w0 + (M + 1) + t)) (n2 + 2) = kn_v (fun t => h5 (w0 + (M + 1) + t)) (n2 + 1) + h5 (w0 + (M + 1) + ((n2 + 1 : Nat) : Int)) * 2147483648 ^ (n2 + 1) := rfl
            have e2 : h5 (w0 + (M + 1) + ((n2 + 1 : Nat) : Int)) = 0 := by rw [show w0 + (M + 1) + ((n2 + 1 : Nat) : Int) = w0 + nsz (ar 1) b + M by omega]; exact z5
            have e3 : kn_d (fun t => h5 (w0 + (M + 1) + t)) (n2 + 1) := fun t h1 h2 => ⟨by show 0 ≤ h5 (w0 + (M + 1) + t); rw [show w0 + (M + 1) + t = w0 + (M + 1 + t) by omega]; exact d5 _ (by omega) (by omega), (hok5 _).2⟩
            have e4 := kn_v_lt e3
            rw [e2, Int.zero_mul, Int.add_zero] at e1
            omega
          refine lv_iload hx hb dX12_divide_195 (lv_at hl 10 rfl) ?_
          refine lv_istore (lv' := [(14, Iz (M)), (12, Jz (v2)), (10, Jz (v1)), (9, Iz (q0)), (0, .ref h0), (1, Iz (a)), (2, Iz (b)), (3, Iz (nsz (ar 1) b)), (4, Iz (sh)), (5, Iz (F 2)), (6, Iz (F75 2)), (7, Iz (M)), (8, Iz (w0))]) hx hb dX12_divide_197 hl (by decide) rfl (fun ls hl => ?_)
          refine r_loop (P := fun N_ H locs ls => ∃ (ar4 : Nat → Int → Int) (j : Int), N_ = (j + 1).toNat ∧ (-1 ≤ j) ∧ (j ≤ M) ∧ (∀ k : Nat, k ≠ 1 → ar4 k = ar84 k) ∧ (∀ t : Int, t < w0 → ar4 1 t = ar84 1 t) ∧ (hok (ar4 1)) ∧ (∀ t : Int, 0 ≤ t → t ≤ nsz (ar 1) b + M → 0 ≤ ar4 1 (w0 + t)) ∧ (kn_v (fun t => ar4 1 (w0 + (j + 1) + t)) (n2 + 2) < V) ∧ (∀ t : Int, j < t → t ≤ M → 0 ≤ ar4 1 (q0 + 1 + t)) ∧ va_P (dC, dI) rcl (mW h0 ad cI cJ cB cZ F84 ar4) H ∧ va_D (rA h0 ad s.heap.size) (mW h0 ad cI cJ cB cZ F84 ar4) ∧ va_S (rA h0 ad s.heap.size) s.heap H locs ∧ lv_has ls 26 [(0, .ref h0), (1, Iz (a)), (2, Iz (b)), (3, Iz (nsz (ar 1) b)), (4, Iz (sh)), (5, Iz (F 2)), (6, Iz (F75 2)), (7, Iz (M)), (8, Iz (w0)), (9, Iz (q0)), (10, Jz (v1)), (12, Jz (v2)), (14, Iz (j))]) (g := fun ls => F0 m 199 ls []) (fun N_ H locs ls hI ih_199 => ?_) _ _ _ _ ⟨(aup ar3 1 (iup (ar3 1) ((w0 + (nsz (ar 1) b)) + M) 0)), M, rfl, (by omega), (Int.le_refl _), (fun k hk => by rw [aup_ne _ _ hk]; exact q1 k hk), (fun t ht => by show iup _ _ _ t = _; rw [iup_ne (by omega)]; exact q2 t ht), (by have h := hok5; rw [hh5] at h; exact h), (by have h := d5; rw [hh5] at h; exact h), (by have h := rv5; rw [hh5] at h; exact h), (fun t h1 h2 => by omega), hP, hD, hS, lv_sub hl [4, 5, 6, 7, 8, 9, 10, 11, 12, 3, 2, 1, 0] rfl⟩
          obtain ⟨ar4, j, rfl, j0, j1, r1, r2, r4, rd, rv, rq, hP, hD, hS, hl⟩ := hI
          refine lv_iload hx hb dX12_divide_199 (lv_at hl 12 rfl) ?_
          refine g_if_lt (tgt := 603) hx hb ⟨by omega, by omega⟩ dX12_divide_201 (by decide) (fun c_201 => ?_) (fun c_201 => ?_)
          · skip
            have jm : j = -1 := by omega
            clear rv5 d5 z5 l5 st c_62 tbp p2
            refine lv_aload_n hx hb dX12_divide_603 rfl (lv_at hl 0 rfl) ?_
            refine lv_aload_n hx hb dX12_divide_604 rfl (lv_at hl 0 rfl) ?_
            refine lv_iload hx hb dX12_divide_605 (lv_at hl 9 rfl) ?_
            refine lv_iload hx hb dX12_divide_607 (lv_at hl 7 rfl) ?_
            refine lv_iconst (v := Int32.ofInt (1)) hx hb dX12_divide_609 (by decide) ?_
            refine g_iadd hx hb dX12_divide_610 ?_
            refine lv_aload_n hx hb dX12_divide_611 rfl (lv_at hl 0 rfl) ?_
            refine r_geti E hK hP (k := 1) (v := .ref (ad 1)) (by decide) mf_7 rfl rfl dX12_divide_612 ?_
            refine lv_iload_n hx hb dX12_divide_615 rfl (lv_at hl 1 rfl) ?_
            refine g_iald (f := (ar4 1)) hx hb hK hP 1 0 rfl rfl (by omega) (by omega) (by decide) dX12_divide_616 ?_
            refine r_join (P := fun z : Int => z = 0 ∨ z = 1) (g := fun z => F0 m 625 ls [Iz z, Iz (M + 1), Iz (q0), .ref h0, .ref h0]) (fun m1_ hm1_ => ?_) (fun k_625 => ?_)
            · skip
              refine lv_aload_n hx hb dX12_divide_625 rfl (lv_at hl 0 rfl) ?_
              refine r_geti E hK hP (k := 1) (v := .ref (ad 1)) (by decide) mf_7 rfl rfl dX12_divide_626 ?_
              refine lv_iload_n hx hb dX12_divide_629 rfl (lv_at hl 2 rfl) ?_
              refine g_iald (f := (ar4 1)) hx hb hK hP 1 0 rfl rfl (by omega) (by omega) (by decide) dX12_divide_630 ?_
              refine r_join (P := fun z : Int => z = 0 ∨ z = 1) (g := fun z => F0 m 639 ls [Iz z, Iz (m1_), Iz (M + 1), Iz (q0), .ref h0, .ref h0]) (fun m2_ hm2_ => ?_) (fun k_639 => ?_)
              · skip
                refine r_join (P := fun z : Int => z = 0 ∨ z = 1) (g := fun z => F0 m 647 ls [Iz z, Iz (M + 1), Iz (q0), .ref h0, .ref h0]) (fun mi hmi => ?_) (fun k_647 => ?_)
                · skip
                  refine r_calli (As := [Iz (q0), Iz (M + 1), Iz (mi)]) (rest := [.ref h0]) E (c_shut (F := F84) (ar := ar4) (a := q0) (n := M + 1) (mi := mi) (by omega) (by omega) (by omega) r4 hmi) (cwV 3 hts (rGood ml_16 mi_shut ms_shut mn_RX12 mc_shut) rfl rfl rfl (by decide +kernel) ⟨Nat.le_of_ble_eq_true rfl, Nat.le_of_ble_eq_true rfl⟩) hK hP hD hS hA rfl hl.1 (Nat.le_of_ble_eq_true rfl) dX12_divide_647 ⟨Nat.le_refl 0, Nat.le_refl 0⟩ (fun z9 F9 ar9 H locs q9 hP hD hS => ?_)
                  obtain ⟨k, k0, k1, kt, kz, rfl, rfl, ez⟩ := q9
                  obtain rfl := ez.symm
                  have sf := shut_facts (h := ar4 1) (a := q0) (n := M + 1) (mi := mi) k0 k1 kt kz (fun t h1 h2 => by rw [show q0 + t = q0 + 1 + (t - 1) by omega]; exact rq _ (by omega) (by omega))
                  have hmi2 : -2147483648 < (if mi = 0 then k else 0 - k) ∧ (if mi = 0 then k else 0 - k) < 2147483648 := by split <;> omega
                  refine r_puti E hK hP hD hS 3 (by decide) mf_45 rfl rfl (by decide +kernel) (sp_3 h0 ad cI cJ cB cZ _ _) dX12_divide_650 (fun H locs hP hD hS => ?_)
                  refine lv_aload_n hx hb dX12_divide_653 rfl (lv_at hl 0 rfl) ?_
                  refine r_geti E hK hP (k := 2) (v := Iz (q0 + 1 + k)) (by decide) mf_11 rfl rfl dX12_divide_654 ?_
                  obtain ⟨rr, hrr⟩ : ∃ rr : Int, rr = q0 + 1 + k := ⟨_, rfl⟩
                  rw [← hrr]
                  refine lv_istore (lv' := [(14, Iz (rr)), (0, .ref h0), (1, Iz (a)), (2, Iz (b)), (3, Iz (nsz (ar 1) b)), (4, Iz (sh)), (5, Iz (F 2)), (6, Iz (F75 2)), (7, Iz (M)), (8, Iz (w0)), (9, Iz (q0)), (10, Jz (v1)), (12, Jz (v2))]) hx hb dX12_divide_657 hl (by decide) rfl (fun ls hl => ?_)
                  obtain ⟨h8, hh8⟩ : ∃ h8, h8 = (iup (ar4 1) q0 (if mi = 0 then k else 0 - k)) := ⟨_, rfl⟩
                  have h8w : ∀ t : Int, t < q0 → h8 t = ar4 1 t := fun t ht => by rw [hh8]; exact iup_ne (by omega)
                  have h8k : hok h8 := by rw [hh8]; exact hok_up r4 hmi2.1 hmi2.2
                  have sf8 : nsz h8 q0 = k ∧ nm h8 q0 := by rw [hh8]; exact ⟨sf.1, sf.2.1⟩
                  refine lv_iconst (v := Int32.ofInt (0)) hx hb dX12_divide_659 (by decide) ?_
                  refine lv_istore (lv' := [(15, Iz (0)), (14, Iz (rr)), (0, .ref h0), (1, Iz (a)), (2, Iz (b)), (3, Iz (nsz (ar 1) b)), (4, Iz (sh)), (5, Iz (F 2)), (6, Iz (F75 2)), (7, Iz (M)), (8, Iz (w0)), (9, Iz (q0)), (10, Jz (v1)), (12, Jz (v2))]) hx hb dX12_divide_660 hl (by decide) rfl (fun ls hl => ?_)
                  refine r_loop (P := fun N_ H locs ls => ∃ (ar7 : Nat → Int → Int) (i : Int), N_ = (nsz (ar 1) b - i).toNat ∧ (0 ≤ i) ∧ (i ≤ nsz (ar 1) b) ∧ (∀ t : Nat, t ≠ 1 → ar7 t = ar84 t) ∧ (∀ t : Int, t < rr → ar7 1 t = h8 t) ∧ (∀ t : Int, 0 ≤ t → t < i → ar7 1 (rr + 1 + t) = ar4 1 (w0 + t)) ∧ (hok (ar7 1)) ∧ va_P (dC, dI) rcl (mW h0 ad cI cJ cB cZ (fup (fup F84 2 (q0 + 1 + k)) 3 q0) ar7) H ∧ va_D (rA h0 ad s.heap.size) (mW h0 ad cI cJ cB cZ (fup (fup F84 2 (q0 + 1 + k)) 3 q0) ar7) ∧ va_S (rA h0 ad s.heap.size) s.heap H locs ∧ lv_has ls 26 [(0, .ref h0), (1, Iz (a)), (2, Iz (b)), (3, Iz (nsz (ar 1) b)), (4, Iz (sh)), (8, Iz (w0)), (14, Iz (rr)), (15, Iz (i))]) (g := fun ls => F0 m 662 ls []) (fun N_ H locs ls hI ih_662 => ?_) _ _ _ _ ⟨(aup ar4 1 (iup (ar4 1) q0 (if mi = 0 then k else 0 - k))), 0, rfl, (Int.le_refl 0), (by omega), (fun t ht => by rw [aup_ne _ _ ht]; exact r1 t ht), (fun t _ => by rw [hh8]; rfl), (fun t a b => by omega), (by have h := h8k; rw [hh8] at h; exact h), hP, hD, hS, lv_sub hl [2, 3, 4, 5, 6, 10, 1, 0] rfl⟩
                  obtain ⟨ar7, i, rfl, zi0, zi1, z1, z2, z3_, z4, hP, hD, hS, hl⟩ := hI
                  refine lv_iload hx hb dX12_divide_662 (lv_at hl 7 rfl) ?_
                  refine lv_iload_n hx hb dX12_divide_664 rfl (lv_at hl 3 rfl) ?_
                  refine g_icmp_ge (tgt := 696) hx hb ⟨by omega, by omega⟩ ⟨by omega, by omega⟩ dX12_divide_665 (by decide) (fun c_665 => ?_) (fun c_665 => ?_)
                  · skip
                    refine lv_aload_n hx hb dX12_divide_696 rfl (lv_at hl 0 rfl) ?_
                    refine lv_iload hx hb dX12_divide_697 (lv_at hl 6 rfl) ?_
                    refine lv_iload_n hx hb dX12_divide_699 rfl (lv_at hl 3 rfl) ?_
                    refine lv_aload_n hx hb dX12_divide_700 rfl (lv_at hl 0 rfl) ?_
                    refine r_geti E hK hP (k := 1) (v := .ref (ad 1)) (by decide) mf_7 rfl rfl dX12_divide_701 ?_
                    refine lv_iload_n hx hb dX12_divide_704 rfl (lv_at hl 1 rfl) ?_
                    refine g_iald (f := (ar7 1)) hx hb hK hP 1 0 rfl rfl (by omega) (by omega) (by decide) dX12_divide_705 ?_
                    refine r_join (P := fun z : Int => z = 0 ∨ z = 1) (g := fun z => F0 m 714 ls [Iz z, Iz (nsz (ar 1) b), Iz (rr), .ref h0]) (fun m9 hm9 => ?_) (fun k_714 => ?_)
                    · skip
                      refine r_calli (As := [Iz (rr), Iz (nsz (ar 1) b), Iz (m9)]) (rest := []) E (c_shut (F := (fup (fup F84 2 (q0 + 1 + k)) 3 q0)) (ar := ar7) (a := rr) (n := nsz (ar 1) b) (mi := m9) (by omega) (by omega) (by omega) z4 hm9) (cwV 3 hts (rGood ml_16 mi_shut ms_shut mn_RX12 mc_shut) rfl rfl rfl (by decide +kernel) ⟨Nat.le_of_ble_eq_true rfl, Nat.le_of_ble_eq_true rfl⟩) hK hP hD hS hA rfl hl.1 (Nat.le_of_ble_eq_true rfl) dX12_divide_714 ⟨Nat.le_refl 0, Nat.le_refl 0⟩ (fun z714 F714 ar714 H locs q714 hP hD hS => ?_)
                      obtain ⟨k9, kk0, kk1, kkt, kkz, rfl, rfl, ez⟩ := q714
                      obtain rfl := ez.symm
                      have iN : i = nsz (ar 1) b := by omega
                      have sg := shut_facts (h := ar7 1) (a := rr) (n := nsz (ar 1) b) (mi := m9) kk0 kk1 kkt kkz (fun t h1 h2 => by rw [show rr + t = rr + 1 + (t - 1) by omega, z3_ _ (by omega) (by omega)]; exact rd _ (by omega) (by omega))
                      have hm92 : -2147483648 < (if m9 = 0 then k9 else 0 - k9) ∧ (if m9 = 0 then k9 else 0 - k9) < 2147483648 := by split <;> omega
                      have evr : kn_v (fun t => ar7 1 (rr + 1 + t)) (nsz (ar 1) b).toNat < V := by
                        have e : kn_v (fun t => ar7 1 (rr + 1 + t)) (nsz (ar 1) b).toNat = kn_v (fun t => ar4 1 (w0 + (j + 1) + t)) (n2 + 2) := by
                          rw [show (nsz (ar 1) b).toNat = n2 + 2 by omega]
                          exact kn_v_congr (fun t a b => by rw [z3_ t a (by omega), show w0 + (j + 1) + t = w0 + t by omega])
                        rw [e]; exact rv
                      have hokG : hok (iup (ar7 1) rr (if m9 = 0 then k9 else 0 - k9)) := hok_up z4 hm92.1 hm92.2
                      have sgn : nsz (iup (ar7 1) rr (if m9 = 0 then k9 else 0 - k9)) rr = k9 := sg.1
                      have P1 := p2_bd sh0 sh1
                      have eV : V = nv (ar 1) b * 2 ^ sh.toNat := by rw [hV, y5, vb75]
                      refine lv_istore (lv' := [(14, Iz (rr)), (0, .ref h0), (1, Iz (a)), (2, Iz (b)), (3, Iz (nsz (ar 1) b)), (4, Iz (sh)), (8, Iz (w0)), (15, Iz (i))]) hx hb dX12_divide_717 hl (by decide) rfl (fun ls hl => ?_)
                      refine lv_aload_n hx hb dX12_divide_719 rfl (lv_at hl 1 rfl) ?_
                      refine lv_aload_n hx hb dX12_divide_720 rfl (lv_at hl 1 rfl) ?_
                      refine lv_iload hx hb dX12_divide_721 (lv_at hl 0 rfl) ?_
                      refine lv_iload hx hb dX12_divide_723 (lv_at hl 5 rfl) ?_
                      refine r_calli (As := [Iz (rr), Iz (sh)]) (rest := [.ref h0]) E (c_lowered (F := (fup (fup (fup F84 2 (q0 + 1 + k)) 3 q0) 2 (rr + 1 + k9))) (ar := (aup ar7 1 (iup (ar7 1) rr (if m9 = 0 then k9 else 0 - k9)))) (a := rr) (sh := sh) (show 0 ≤ rr + 1 + k9 by omega) (by omega) (show rr + nsz (iup (ar7 1) rr (if m9 = 0 then k9 else 0 - k9)) rr < rr + 1 + k9 by rw [sgn]; omega) (show rr + 1 + k9 + nsz (iup (ar7 1) rr (if m9 = 0 then k9 else 0 - k9)) rr + 3 < 6000000 by rw [sgn]; omega) hokG sg.2.1 sh0 sh1) (cwV 2 hts (rGood ml_59 mi_lowered ms_lowered mn_RX12 mc_lowered) rfl rfl rfl (by decide +kernel) ⟨Nat.le_of_ble_eq_true rfl, Nat.le_of_ble_eq_true rfl⟩) hK hP hD hS hA rfl hl.1 (Nat.le_of_ble_eq_true rfl) dX12_divide_725 ⟨Nat.le_refl 0, Nat.le_refl 0⟩ (fun z725 F725 ar725 H locs q725 hP hD hS => ?_)
                      obtain ⟨zz, l1, l2, l3, l4, l5⟩ := q725
                      obtain rfl : z725 = rr + 1 + k9 := zz
                      refine r_puti E hK hP hD hS 4 (by decide) mf_48 rfl rfl (by decide +kernel) (sp_4 h0 ad cI cJ cB cZ _ _) dX12_divide_728 (fun H locs hP hD hS => ?_)
                      have sgn2 : nsz (ar725 1) (rr + 1 + k9) ≤ k9 := Int.le_trans l4 (Int.le_of_eq sg.1)
                      have f3 : (fup F725 4 (rr + 1 + k9)) 3 = q0 := (fup_ne _ _ (by decide)).trans (l1.1 3 (by decide))
                      have f4 : (fup F725 4 (rr + 1 + k9)) 4 = rr + 1 + k9 := fup_self _ _ _
                      have f2 : (fup F725 4 (rr + 1 + k9)) 2 = rr + 1 + k9 + 1 + nsz (ar725 1) (rr + 1 + k9) := (fup_ne _ _ (by decide)).trans l3
                      have low : ∀ t : Int, t < rr → ar725 1 t = h8 t := fun t ht => (l1.2.2.1 t (show t < rr + 1 + k9 by omega)).trans ((iup_ne (by omega)).trans (z2 t ht))
                      have eq1 : nsz (ar725 1) q0 = k := (nsz_agree (low q0 (by omega))).trans sf8.1
                      have eq2 : nm (ar725 1) q0 := nm_agree (fun t h1 h2 => low t (by rw [sf8.1] at h2; omega)) sf8.2
                      have lv1 : nv (ar725 1) (rr + 1 + k9) < nv (ar 1) b := nv_lt_of_mul (P := 2 ^ sh.toNat) (by omega) (by have h1 := sg.2.2; have h2 : nv (ar725 1) (rr + 1 + k9) * 2 ^ sh.toNat ≤ kn_v (fun t => ar7 1 (rr + 1 + t)) (nsz (ar 1) b).toNat := Int.le_trans l5 (Int.le_of_eq h1); omega)
                      have lowF : ∀ t : Int, t < F 2 → ar725 1 t = ar 1 t := fun t ht => (low t (by omega)).trans ((h8w t (by omega)).trans ((r2 t (by omega)).trans ((y1.2.2.1 t (by omega)).trans (x1.2.2.1 t ht))))
                      have hpost : dvP F (fup F725 4 (rr + 1 + k9)) ar ar725 a b (8 * nsz (ar 1) a + 30) := ⟨fun t h2 h3 h4 => by rw [fup_ne _ _ h4, l1.1 t h2, fup_ne _ _ h2, fup_ne _ _ h3, fup_ne _ _ h2, y1.1 t h2, x1.1 t h2], fun t ht => (l1.2.1 t ht).trans ((aup_ne _ _ ht).trans ((z1 t ht).trans ((y1.2.1 t ht).trans (x1.2.1 t ht)))), lowF, l1.2.2.2, by rw [f3]; omega, by rw [f3]; exact eq2, by rw [f3, eq1]; omega, by rw [f3, f4, eq1]; omega, by rw [f4]; exact l2, by rw [f4, f2]; omega, by rw [f4]; exact lv1, by rw [f4]; exact nsz_le_of_nv l1.2.2.2 hk l2 nb lv1, by rw [f2]; omega⟩
                      exact W.vret hx hb hr (fun t ht hW => ⟨⟨((fup F725 4 (rr + 1 + k9)), ar725), rfl, hpost, by rw [ht]; exact hP, va_K.moved hW.alike hK, hD⟩, hS.F ht⟩) hS.2.2 dX12_divide_731
                    · skip
                      refine g_if_ge (tgt := 713) hx hb (hok_i z4 _) dX12_divide_706 (by decide) (fun c_706 => ?_) (fun c_706 => ?_)
                      · skip
                        refine lv_iconst (v := Int32.ofInt (0)) hx hb dX12_divide_713 (by decide) ?_
                        exact k_714 _ (by omega)
                      · skip
                        refine lv_iconst (v := Int32.ofInt (1)) hx hb dX12_divide_709 (by decide) ?_
                        refine lv_goto (tgt := 714) hx hb dX12_divide_710 (by decide) ?_
                        exact k_714 _ (by omega)
                  · skip
                    refine lv_aload_n hx hb dX12_divide_668 rfl (lv_at hl 0 rfl) ?_
                    refine r_geti E hK hP (k := 1) (v := .ref (ad 1)) (by decide) mf_7 rfl rfl dX12_divide_669 ?_
                    refine lv_iload hx hb dX12_divide_672 (lv_at hl 6 rfl) ?_
                    refine lv_iconst (v := Int32.ofInt (1)) hx hb dX12_divide_674 (by decide) ?_
                    refine g_iadd hx hb dX12_divide_675 ?_
                    refine lv_iload hx hb dX12_divide_676 (lv_at hl 7 rfl) ?_
                    refine g_iadd hx hb dX12_divide_678 ?_
                    refine lv_aload_n hx hb dX12_divide_679 rfl (lv_at hl 0 rfl) ?_
                    refine r_geti E hK hP (k := 1) (v := .ref (ad 1)) (by decide) mf_7 rfl rfl dX12_divide_680 ?_
                    refine lv_iload hx hb dX12_divide_683 (lv_at hl 5 rfl) ?_
                    refine lv_iload hx hb dX12_divide_685 (lv_at hl 7 rfl) ?_
                    refine g_iadd hx hb dX12_divide_687 ?_
                    refine g_iald (f := (ar7 1)) hx hb hK hP 1 0 rfl rfl (by omega) (by omega) (by decide) dX12_divide_688 ?_
                    refine g_iast (f := (ar7 1)) hx hb hK hP hD hS 1 0 rfl rfl (by omega) (by omega) (by decide) dX12_divide_689 (fun H locs hP hD hS => ?_)
                    rw [sa_1] at hP hD
                    refine g_iinc (k := 7) (z := i) (n := (1)) (lv' := [(15, Iz (i + 1)), (0, .ref h0), (1, Iz (a)), (2, Iz (b)), (3, Iz (nsz (ar 1) b)), (4, Iz (sh)), (8, Iz (w0)), (14, Iz (rr))]) hx hb dX12_divide_690 hl rfl (by decide) rfl (fun ls hl => ?_)
                    refine lv_goto (tgt := 662) hx hb dX12_divide_693 (by decide) ?_
                    exact ih_662 _ (by omega) _ _ _ ⟨(aup ar7 1 (iup (ar7 1) ((rr + 1) + i) ((ar7 1) (w0 + i)))), (i + 1), rfl, (by omega), (by omega), (fun t ht => by rw [aup_ne _ _ ht]; exact z1 t ht), (fun t ht => by show iup _ _ _ t = _; rw [iup_ne (by omega)]; exact z2 t ht), (fun t h1 h2 => by show iup _ _ _ _ = _; by_cases e : t = i; (· rw [e, iup_self, z2 _ (by omega), h8w _ (by omega)]); (· rw [iup_ne (by omega)]; exact z3_ t h1 (by omega))), (hok_up z4 (z4 _).1 (z4 _).2), hP, hD, hS, lv_sub hl [1, 2, 3, 4, 5, 6, 7, 0] rfl⟩
                · skip
                  refine g_icmp_eq (tgt := 646) hx hb ⟨by omega, by omega⟩ ⟨by omega, by omega⟩ dX12_divide_639 (by decide) (fun c_639 => ?_) (fun c_639 => ?_)
                  · skip
                    refine lv_iconst (v := Int32.ofInt (0)) hx hb dX12_divide_646 (by decide) ?_
                    exact k_647 _ (by omega)
                  · skip
                    refine lv_iconst (v := Int32.ofInt (1)) hx hb dX12_divide_642 (by decide) ?_
                    refine lv_goto (tgt := 647) hx hb dX12_divide_643 (by decide) ?_
                    exact k_647 _ (by omega)
              · skip
                refine g_if_ge (tgt := 638) hx hb (hok_i r4 _) dX12_divide_631 (by decide) (fun c_631 => ?_) (fun c_631 => ?_)
                · skip
                  refine lv_iconst (v := Int32.ofInt (0)) hx hb dX12_divide_638 (by decide) ?_
                  exact k_639 _ (by omega)
                · skip
                  refine lv_iconst (v := Int32.ofInt (1)) hx hb dX12_divide_634 (by decide) ?_
                  refine lv_goto (tgt := 639) hx hb dX12_divide_635 (by decide) ?_
                  exact k_639 _ (by omega)
            · skip
              refine g_if_ge (tgt := 624) hx hb (hok_i r4 _) dX12_divide_617 (by decide) (fun c_617 => ?_) (fun c_617 => ?_)
              · skip
                refine lv_iconst (v := Int32.ofInt (0)) hx hb dX12_divide_624 (by decide) ?_
                exact k_625 _ (by omega)
              · skip
                refine lv_iconst (v := Int32.ofInt (1)) hx hb dX12_divide_620 (by decide) ?_
                refine lv_goto (tgt := 625) hx hb dX12_divide_621 (by decide) ?_
                exact k_625 _ (by omega)
          · skip
            have bdN : 0 ≤ w0 + j + nsz (ar 1) b ∧ w0 + j + nsz (ar 1) b < 6000000 := by omega
            have bdq : 0 ≤ q0 + 1 + j ∧ q0 + 1 + j < 6000000 := by omega
            have bdw : 0 ≤ w0 ∧ w0 + nsz (ar 1) b + M < 6000000 ∧ nsz (ar 1) b < 6000000 ∧ 0 ≤ F75 2 ∧ 0 ≤ M := by omega
            have dg : ∀ t : Int, 0 ≤ t → t ≤ nsz (ar 1) b → 0 ≤ ar4 1 (w0 + j + t) := fun t h1 h2 => by rw [show w0 + j + t = w0 + (j + t) by omega]; exact rd _ (by omega) (by omega)
            obtain ⟨u2, hu2⟩ : ∃ u2 : Int, u2 = ar4 1 (w0 + j + nsz (ar 1) b) := ⟨_, rfl⟩
            obtain ⟨u1, hu1⟩ : ∃ u1 : Int, u1 = ar4 1 (w0 + j + nsz (ar 1) b - 1) := ⟨_, rfl⟩
            obtain ⟨u0, hu0⟩ : ∃ u0 : Int, u0 = ar4 1 (w0 + j + nsz (ar 1) b - 2) := ⟨_, rfl⟩
            have u2a : 0 ≤ u2 := by rw [hu2]; exact dg _ (by omega) (Int.le_refl _)
            have u2b : u2 < 2147483648 := by rw [hu2]; exact (r4 _).2
            have u1a : 0 ≤ u1 := by rw [hu1, show w0 + j + nsz (ar 1) b - 1 = w0 + j + (nsz (ar 1) b - 1) by omega]; exact dg _ (by omega) (by omega)
            have u1b : u1 < 2147483648 := by rw [hu1]; exact (r4 _).2
            have u0a : 0 ≤ u0 := by rw [hu0, show w0 + j + nsz (ar 1) b - 2 = w0 + j + (nsz (ar 1) b - 2) by omega]; exact dg _ (by omega) (by omega)
            have u0b : u0 < 2147483648 := by rw [hu0]; exact (r4 _).2
            have dW : kn_d (fun t => ar4 1 (w0 + j + t)) (n2 + 3) := fun t h1 h2 => ⟨dg t h1 (by omega), (r4 _).2⟩
            obtain ⟨U, hU⟩ : ∃ U : Int, U = kn_v (fun t => ar4 1 (w0 + j + t)) (n2 + 3) := ⟨_, rfl⟩
            have hU3 : U = ((u2 * 2147483648 + u1) * 2147483648 + u0) * 2147483648 ^ n2 + kn_v (fun t => ar4 1 (w0 + j + t)) n2 := by
              rw [hU, dv_top3]
              show ((ar4 1 (w0 + j + ((n2 + 2 : Nat) : Int)) * 2147483648 + ar4 1 (w0 + j + ((n2 + 1 : Nat) : Int))) * 2147483648 + ar4 1 (w0 + j + (n2 : Int))) * _ + _ = _
              rw [show w0 + j + ((n2 + 2 : Nat) : Int) = w0 + j + nsz (ar 1) b by omega, show w0 + j + ((n2 + 1 : Nat) : Int) = w0 + j + nsz (ar 1) b - 1 by omega, show w0 + j + (n2 : Int) = w0 + j + nsz (ar 1) b - 2 by omega, ← hu2, ← hu1, ← hu0]
            have ul0 := kn_v_nonneg (kn_d_of_le dW (show n2 ≤ n2 + 3 by omega))
            have ul1 := kn_v_lt (kn_d_of_le dW (show n2 ≤ n2 + 3 by omega))
            have hUV : U < 2147483648 * V := by
              have h := kn_v_split (f := (fun t => ar4 1 (w0 + j + t))) (k := 1) (n := n2 + 2)
              have h0 : kn_v (fun t => ar4 1 (w0 + j + t)) 1 = 0 + ar4 1 (w0 + j + ((0 : Nat) : Int)) * 2147483648 ^ 0 := rfl
              have h1 : kn_v (fun i => (fun t => ar4 1 (w0 + j + t)) (((1 : Nat) : Int) + i)) (n2 + 2) = kn_v (fun t => ar4 1 (w0 + (j + 1) + t)) (n2 + 2) := kn_v_congr (fun t a b => by show ar4 1 (w0 + j + (((1 : Nat) : Int) + t)) = _; rw [show w0 + j + (((1 : Nat) : Int) + t) = w0 + (j + 1) + t by omega])
              rw [h1, h0, Nat.add_comm 1 (n2 + 2)] at h
              rw [hU]
              have h2 := (r4 (w0 + j + ((0 : Nat) : Int))).2
              rw [h, Int.pow_zero, Int.mul_one, show (2147483648 : Int) ^ 1 = 2147483648 from rfl]
              omega
            clear rv5 d5 z5 l5 st c_62 x5 y5 x4 y4 a1 b1 t1 s1 tbp p2 hxa hNB x3 y3 ex eb
            refine lv_aload_n hx hb dX12_divide_204 rfl (lv_at hl 0 rfl) ?_
            refine r_geti E hK hP (k := 1) (v := .ref (ad 1)) (by decide) mf_7 rfl rfl dX12_divide_205 ?_
            refine lv_iload hx hb dX12_divide_208 (lv_at hl 8 rfl) ?_
            refine lv_iload hx hb dX12_divide_210 (lv_at hl 12 rfl) ?_
            refine g_iadd hx hb dX12_divide_212 ?_
            refine lv_iload_n hx hb dX12_divide_213 rfl (lv_at hl 3 rfl) ?_
            refine g_iadd hx hb dX12_divide_214 ?_
            refine g_iald (f := (ar4 1)) hx hb hK hP 1 0 rfl rfl (by omega) (by omega) (by decide) dX12_divide_215 ?_
            rw [← hu2]
            refine g_i2l hx hb ⟨by omega, by omega⟩ dX12_divide_216 ?_
            refine lv_bipush (v := Int32.ofInt (31)) hx hb dX12_divide_217 (by decide) ?_
            refine g_lshl hx hb (by omega) (by omega) dX12_divide_219 ?_
            rw [show (2 : Int) ^ (31 : Int).toNat = 2147483648 from rfl]
            refine lv_aload_n hx hb dX12_divide_220 rfl (lv_at hl 0 rfl) ?_
            refine r_geti E hK hP (k := 1) (v := .ref (ad 1)) (by decide) mf_7 rfl rfl dX12_divide_221 ?_
            refine lv_iload hx hb dX12_divide_224 (lv_at hl 8 rfl) ?_
            refine lv_iload hx hb dX12_divide_226 (lv_at hl 12 rfl) ?_
            refine g_iadd hx hb dX12_divide_228 ?_
            refine lv_iload_n hx hb dX12_divide_229 rfl (lv_at hl 3 rfl) ?_
            refine g_iadd hx hb dX12_divide_230 ?_
            refine lv_iconst (v := Int32.ofInt (1)) hx hb dX12_divide_231 (by decide) ?_
            refine g_isub hx hb dX12_divide_232 ?_
            refine g_iald (f := (ar4 1)) hx hb hK hP 1 0 rfl rfl (by omega) (by omega) (by decide) dX12_divide_233 ?_
            rw [← hu1]
            refine g_i2l hx hb ⟨by omega, by omega⟩ dX12_divide_234 ?_
            refine g_lor hx hb (lm_or' (k := 31) u1a u1b (by omega) (by omega) (by omega)) dX12_divide_235 ?_
            obtain ⟨up, hup⟩ : ∃ up : Int, up = u2 * 2147483648 + u1 := ⟨_, rfl⟩
            rw [← hup]
            refine lv_lstore (lv' := [(15, Jz (up)), (0, .ref h0), (1, Iz (a)), (2, Iz (b)), (3, Iz (nsz (ar 1) b)), (4, Iz (sh)), (5, Iz (F 2)), (6, Iz (F75 2)), (7, Iz (M)), (8, Iz (w0)), (9, Iz (q0)), (10, Jz (v1)), (12, Jz (v2)), (14, Iz (j))]) hx hb dX12_divide_236 hl (by decide) rfl (fun ls hl => ?_)
            refine lv_lload hx hb dX12_divide_238 (lv_at hl 0 rfl) ?_
            refine lv_lload hx hb dX12_divide_240 (lv_at hl 11 rfl) ?_
            refine g_ldiv hx hb (by omega) (by omega) (by omega) (by omega) dX12_divide_242 ?_
            refine lv_lstore (lv' := [(17, Jz (up / v1)), (15, Jz (up)), (0, .ref h0), (1, Iz (a)), (2, Iz (b)), (3, Iz (nsz (ar 1) b)), (4, Iz (sh)), (5, Iz (F 2)), (6, Iz (F75 2)), (7, Iz (M)), (8, Iz (w0)), (9, Iz (q0)), (10, Jz (v1)), (12, Jz (v2)), (14, Iz (j))]) hx hb dX12_divide_243 hl (by decide) rfl (fun ls hl => ?_)
            refine lv_lload hx hb dX12_divide_245 (lv_at hl 1 rfl) ?_
            refine lv_lload hx hb dX12_divide_247 (lv_at hl 12 rfl) ?_
            refine g_lrem hx hb (by omega) (by omega) (by omega) (by omega) dX12_divide_249 ?_
            have first := kn_first (v1 := v1) (v2 := v2) (u2 := u2) (u1 := u1) (u0 := u0) (P := 2147483648 ^ n2) (u := kn_v (fun t => ar4 1 (w0 + j + t)) n2) (v := kn_v (fun t => ar84 1 (F75 2 + 1 + t)) n2) (by omega) v2a (by omega) u0b Pn ul1 vl0
            rw [← hU3, ← hV2, ← hup] at first
            have em := Int.mul_ediv_add_emod up v1
            have ed0 : 0 ≤ up / v1 := Int.ediv_nonneg (by omega) (by omega)
            have er0 : 0 ≤ up % v1 := Int.emod_nonneg _ (by omega)
            have ec := Int.mul_comm v1 (up / v1)
            refine lv_lstore (lv' := [(19, Jz (up % v1)), (17, Jz (up / v1)), (15, Jz (up)), (0, .ref h0), (1, Iz (a)), (2, Iz (b)), (3, Iz (nsz (ar 1) b)), (4, Iz (sh)), (5, Iz (F 2)), (6, Iz (F75 2)), (7, Iz (M)), (8, Iz (w0)), (9, Iz (q0)), (10, Jz (v1)), (12, Jz (v2)), (14, Iz (j))]) hx hb dX12_divide_250 hl (by decide) rfl (fun ls hl => ?_)
            refine r_loop (P := fun N_ H locs ls => ∃ (g : Int) (r : Int), N_ = g.toNat ∧ (0 ≤ g) ∧ (0 ≤ r) ∧ (g * v1 + r = up) ∧ (U < (g + 1) * V) ∧ va_P (dC, dI) rcl (mW h0 ad cI cJ cB cZ F84 ar4) H ∧ va_D (rA h0 ad s.heap.size) (mW h0 ad cI cJ cB cZ F84 ar4) ∧ va_S (rA h0 ad s.heap.size) s.heap H locs ∧ lv_has ls 26 [(0, .ref h0), (1, Iz (a)), (2, Iz (b)), (3, Iz (nsz (ar 1) b)), (4, Iz (sh)), (5, Iz (F 2)), (6, Iz (F75 2)), (7, Iz (M)), (8, Iz (w0)), (9, Iz (q0)), (10, Jz (v1)), (12, Jz (v2)), (14, Iz (j)), (15, Jz (up)), (17, Jz (g)), (19, Jz (r))]) (g := fun ls => F0 m 252 ls []) (fun N_ H locs ls hI ih_252 => ?_) _ _ _ _ ⟨(up / v1), (up % v1), rfl, (ed0), (er0), (by omega), (first), hP, hD, hS, lv_sub hl [3, 4, 5, 6, 7, 8, 9, 10, 11, 12, 13, 14, 15, 2, 1, 0] rfl⟩
            obtain ⟨g, r, rfl, g0, r0, ge, gU, hP, hD, hS, hl⟩ := hI
            have gpos : 0 < g * v2 → 0 < g := by
              intro q
              rcases Int.lt_or_le 0 g with q2 | q2
              · exact q2
              · have e : g = 0 := by omega
                rw [e, Int.zero_mul] at q
                omega
            have gv : g * 1 ≤ g * v1 := Int.mul_le_mul_of_nonneg_left (by omega) g0
            have hlow1 : 2147483648 ≤ g → U < g * V := fun q => by have h : 2147483648 * V ≤ g * V := Int.mul_le_mul_of_nonneg_right q (by omega); omega
            have hlow2 : r * 2147483648 + u0 < g * v2 → U < g * V := fun q => by rw [hU3, hV2]; exact kn_lower (by omega) q g0 Pn ul1 vl0
            have hexit : g * v2 ≤ r * 2147483648 + u0 → g < 2147483648 → g * V ≤ U + V ∧ 0 ≤ g ∧ g < 2147483648 := fun q q2 => ⟨by rw [hU3, hV2]; exact kn_left (by omega) q g0 q2 (by omega) v2a Pn ul0 vl0 vl1, g0, q2⟩
            refine r_cut (P := g * V ≤ U + V ∧ 0 ≤ g ∧ g < 2147483648) (g := F0 m 316 ls []) (fun h_316 => ?_) (fun k_316 => ?_)
            · skip
              obtain ⟨gE, -, gB⟩ := h_316
              clear first em ed0 er0 ec gv hlow1 hlow2 hexit gpos hU3 hV2 hUV ul0 ul1 vl0 vl1 v2a v2b v1a v1b u1a u1b u0a u0b ge hup hu0 hu1
              exact c_divide316 (l := l) (dC := dC) (dI := dI) (h0 := h0) (ad := ad) (cI := cI) (cJ := cJ) (cB := cB) (cZ := cZ) (F := F) (ar := ar) (a := a) (b := b) (p := p) (e := e) (s := s) (m := m) (below := below) (meth := meth) (c := c) (s₁ := s₁) (z3 := z3) (n2 := n2) (sh := sh) (F75 := F75) (ar75 := ar75) (F84 := F84) (ar84 := ar84) (M := M) (w0 := w0) (ar3 := ar3) (i := i) (h5 := h5) (q0 := q0) (v1 := v1) (v2 := v2) (V := V) (ar4 := ar4) (j := j) (u2 := u2) (u1 := u1) (u0 := u0) (U := U) (up := up) (H := H) (locs := locs) (ls := ls) (g := g) (r := r) t0 a0 b0 hk na nb hb1 hml B hK hD0 hx hb hr hts hown hlocks E hA s0 s2 q3 c_6 c_36 hn2 tb0 sh0 sh1 x1 x2 nb75 vb75 xs0 y1 y2 ys e1_ e2_ e3_ hM hw0 i0 i1 q1 q2 q3' q4 c_114 hh5 hok5 hq0 hv1 hv2 ylt hV ysn hVk yd ev1 ev2 Vlo Vhi Pn ih_199 j0 j1 r1 r2 r4 rd rv rq c_201 bdN bdq bdw dg hu2 u2a u2b dW hU g0 r0 gU hP hD hS hl gE gB
            · skip
              refine lv_lload hx hb dX12_divide_252 (lv_at hl 14 rfl) ?_
              refine lv_ldc2 (v := Int64.ofInt (2147483647)) hx hb hown (hts _ (List.mem_cons_of_mem _ mj_14)) dX12_divide_254 ?_
              refine g_lcmp hx hb ⟨by omega, by omega⟩ ⟨by omega, by omega⟩ dX12_divide_257 ?_
              refine g_if_gt (tgt := 300) hx hb (g_cmp_i _ _) dX12_divide_258 (by decide) (fun c_258 => ?_) (fun c_258 => ?_)
              · skip
                refine lv_lload hx hb dX12_divide_300 (lv_at hl 14 rfl) ?_
                refine lv_lconst (v := Int64.ofInt 1) hx hb dX12_divide_302 rfl ?_
                refine g_lsub hx hb dX12_divide_303 ?_
                refine lv_lstore (lv' := [(17, Jz (g - 1)), (0, .ref h0), (1, Iz (a)), (2, Iz (b)), (3, Iz (nsz (ar 1) b)), (4, Iz (sh)), (5, Iz (F 2)), (6, Iz (F75 2)), (7, Iz (M)), (8, Iz (w0)), (9, Iz (q0)), (10, Jz (v1)), (12, Jz (v2)), (14, Iz (j)), (15, Jz (up)), (19, Jz (r))]) hx hb dX12_divide_304 hl (by decide) rfl (fun ls hl => ?_)
                refine lv_lload hx hb dX12_divide_306 (lv_at hl 15 rfl) ?_
                refine lv_lload hx hb dX12_divide_308 (lv_at hl 11 rfl) ?_
                refine g_ladd hx hb dX12_divide_310 ?_
                refine lv_lstore (lv' := [(19, Jz (r + v1)), (17, Jz (g - 1)), (0, .ref h0), (1, Iz (a)), (2, Iz (b)), (3, Iz (nsz (ar 1) b)), (4, Iz (sh)), (5, Iz (F 2)), (6, Iz (F75 2)), (7, Iz (M)), (8, Iz (w0)), (9, Iz (q0)), (10, Jz (v1)), (12, Jz (v2)), (14, Iz (j)), (15, Jz (up))]) hx hb dX12_divide_311 hl (by decide) rfl (fun ls hl => ?_)
                refine lv_goto (tgt := 252) hx hb dX12_divide_313 (by decide) ?_
                exact ih_252 _ (by first | (have q5 := g_cmp_gt.mp c_258; omega) | (have q6 := gpos (by have q5 := g_cmp_gt.mp c_297; omega); omega)) _ _ _ ⟨(g - 1), (r + v1), rfl, ((by first | (have q5 := g_cmp_gt.mp c_258; omega) | (have q6 := gpos (by have q5 := g_cmp_gt.mp c_297; omega); omega))), (by omega), (by rw [Int.sub_mul, Int.one_mul]; omega), (by rw [Int.sub_add_cancel]; first | exact hlow1 (by have q5 := g_cmp_gt.mp c_258; omega) | exact hlow2 (g_cmp_gt.mp c_297)), hP, hD, hS, lv_sub hl [2, 3, 4, 5, 6, 7, 8, 9, 10, 11, 12, 13, 14, 15, 1, 0] rfl⟩
              · skip
                refine lv_lload hx hb dX12_divide_261 (lv_at hl 15 rfl) ?_
                refine lv_ldc2 (v := Int64.ofInt (2147483647)) hx hb hown (hts _ (List.mem_cons_of_mem _ mj_14)) dX12_divide_263 ?_
                refine g_lcmp hx hb ⟨by omega, by omega⟩ ⟨by omega, by omega⟩ dX12_divide_266 ?_
                refine g_if_gt (tgt := 316) hx hb (g_cmp_i _ _) dX12_divide_267 (by decide) (fun c_267 => ?_) (fun c_267 => ?_)
                · skip
                  exact k_316 (by have q5 : g ≤ 2147483647 := g_cmp_le.mp c_258; first | exact hexit (g_cmp_le.mp c_297) (by omega) | exact hexit (by have q6 := g_cmp_gt.mp c_267; have q7 := mul_bd g0 q5 v2a (by omega); omega) (by omega))
                · skip
                  have q5 := g_cmp_le.mp c_258
                  have q6 := g_cmp_le.mp c_267
                  have gv2 := mul_bd g0 q5 v2a (by omega)
                  refine lv_lload hx hb dX12_divide_270 (lv_at hl 14 rfl) ?_
                  refine lv_lload hx hb dX12_divide_272 (lv_at hl 11 rfl) ?_
                  refine g_lmul hx hb dX12_divide_274 ?_
                  refine lv_lload hx hb dX12_divide_275 (lv_at hl 15 rfl) ?_
                  refine lv_bipush (v := Int32.ofInt (31)) hx hb dX12_divide_277 (by decide) ?_
                  refine g_lshl hx hb (by omega) (by omega) dX12_divide_279 ?_
                  rw [show (2 : Int) ^ (31 : Int).toNat = 2147483648 from rfl]
                  refine lv_aload_n hx hb dX12_divide_280 rfl (lv_at hl 0 rfl) ?_
                  refine r_geti E hK hP (k := 1) (v := .ref (ad 1)) (by decide) mf_7 rfl rfl dX12_divide_281 ?_
                  refine lv_iload hx hb dX12_divide_284 (lv_at hl 8 rfl) ?_
                  refine lv_iload hx hb dX12_divide_286 (lv_at hl 12 rfl) ?_
                  refine g_iadd hx hb dX12_divide_288 ?_
                  refine lv_iload_n hx hb dX12_divide_289 rfl (lv_at hl 3 rfl) ?_
                  refine g_iadd hx hb dX12_divide_290 ?_
                  refine lv_iconst (v := Int32.ofInt (2)) hx hb dX12_divide_291 (by decide) ?_
                  refine g_isub hx hb dX12_divide_292 ?_
                  refine g_iald (f := (ar4 1)) hx hb hK hP 1 0 rfl rfl (by omega) (by omega) (by decide) dX12_divide_293 ?_
                  rw [← hu0]
                  refine g_i2l hx hb ⟨by omega, by omega⟩ dX12_divide_294 ?_
                  refine g_lor hx hb (lm_or' (k := 31) u0a u0b (by omega) (by omega) (by omega)) dX12_divide_295 ?_
                  refine g_lcmp hx hb ⟨by omega, by omega⟩ ⟨by omega, by omega⟩ dX12_divide_296 ?_
                  refine g_if_le (tgt := 316) hx hb (g_cmp_i _ _) dX12_divide_297 (by decide) (fun c_297 => ?_) (fun c_297 => ?_)
                  · skip
                    exact k_316 (by have q5 : g ≤ 2147483647 := g_cmp_le.mp c_258; first | exact hexit (g_cmp_le.mp c_297) (by omega) | exact hexit (by have q6 := g_cmp_gt.mp c_267; have q7 := mul_bd g0 q5 v2a (by omega); omega) (by omega))
                  · skip
                    refine lv_lload hx hb dX12_divide_300 (lv_at hl 14 rfl) ?_
                    refine lv_lconst (v := Int64.ofInt 1) hx hb dX12_divide_302 rfl ?_
                    refine g_lsub hx hb dX12_divide_303 ?_
                    refine lv_lstore (lv' := [(17, Jz (g - 1)), (0, .ref h0), (1, Iz (a)), (2, Iz (b)), (3, Iz (nsz (ar 1) b)), (4, Iz (sh)), (5, Iz (F 2)), (6, Iz (F75 2)), (7, Iz (M)), (8, Iz (w0)), (9, Iz (q0)), (10, Jz (v1)), (12, Jz (v2)), (14, Iz (j)), (15, Jz (up)), (19, Jz (r))]) hx hb dX12_divide_304 hl (by decide) rfl (fun ls hl => ?_)
                    refine lv_lload hx hb dX12_divide_306 (lv_at hl 15 rfl) ?_
                    refine lv_lload hx hb dX12_divide_308 (lv_at hl 11 rfl) ?_
                    refine g_ladd hx hb dX12_divide_310 ?_
                    refine lv_lstore (lv' := [(19, Jz (r + v1)), (17, Jz (g - 1)), (0, .ref h0), (1, Iz (a)), (2, Iz (b)), (3, Iz (nsz (ar 1) b)), (4, Iz (sh)), (5, Iz (F 2)), (6, Iz (F75 2)), (7, Iz (M)), (8, Iz (w0)), (9, Iz (q0)), (10, Jz (v1)), (12, Jz (v2)), (14, Iz (j)), (15, Jz (up))]) hx hb dX12_divide_311 hl (by decide) rfl (fun ls hl => ?_)
                    refine lv_goto (tgt := 252) hx hb dX12_divide_313 (by decide) ?_
                    exact ih_252 _ (by first | (have q5 := g_cmp_gt.mp c_258; omega) | (have q6 := gpos (by have q5 := g_cmp_gt.mp c_297; omega); omega)) _ _ _ ⟨(g - 1), (r + v1), rfl, ((by first | (have q5 := g_cmp_gt.mp c_258; omega) | (have q6 := gpos (by have q5 := g_cmp_gt.mp c_297; omega); omega))), (by omega), (by rw [Int.sub_mul, Int.one_mul]; omega), (by rw [Int.sub_add_cancel]; first | exact hlow1 (by have q5 := g_cmp_gt.mp c_258; omega) | exact hlow2 (g_cmp_gt.mp c_297)), hP, hD, hS, lv_sub hl [2, 3, 4, 5, 6, 7, 8, 9, 10, 11, 12, 13, 14, 15, 1, 0] rfl⟩
        · skip
          refine lv_aload_n hx hb dX12_divide_117 rfl (lv_at hl 0 rfl) ?_
          refine r_geti E hK hP (k := 1) (v := .ref (ad 1)) (by decide) mf_7 rfl rfl dX12_divide_118 ?_
          refine lv_iload hx hb dX12_divide_121 (lv_at hl 8 rfl) ?_
          refine lv_iload hx hb dX12_divide_123 (lv_at hl 9 rfl) ?_
          refine g_iadd hx hb dX12_divide_125 ?_
          refine lv_aload_n hx hb dX12_divide_126 rfl (lv_at hl 0 rfl) ?_
          refine r_geti E hK hP (k := 1) (v := .ref (ad 1)) (by decide) mf_7 rfl rfl dX12_divide_127 ?_
          refine lv_iload hx hb dX12_divide_130 (lv_at hl 5 rfl) ?_
          refine lv_iconst (v := Int32.ofInt (1)) hx hb dX12_divide_132 (by decide) ?_
          refine g_iadd hx hb dX12_divide_133 ?_
          refine lv_iload hx hb dX12_divide_134 (lv_at hl 9 rfl) ?_
          refine g_iadd hx hb dX12_divide_136 ?_
          refine g_iald (f := (ar3 1)) hx hb hK hP 1 0 rfl rfl (by omega) (by omega) (by decide) dX12_divide_137 ?_
          refine g_iast (f := (ar3 1)) hx hb hK hP hD hS 1 0 rfl rfl (by omega) (by omega) (by decide) dX12_divide_138 (fun H locs hP hD hS => ?_)
          rw [sa_1] at hP hD
          refine g_iinc (k := 9) (z := i) (n := (1)) (lv' := [(9, Iz (i + 1)), (0, .ref h0), (1, Iz (a)), (2, Iz (b)), (3, Iz (nsz (ar 1) b)), (4, Iz (sh)), (5, Iz (F 2)), (6, Iz (F75 2)), (7, Iz (M)), (8, Iz (w0))]) hx hb dX12_divide_139 hl rfl (by decide) rfl (fun ls hl => ?_)
          refine lv_goto (tgt := 108) hx hb dX12_divide_142 (by decide) ?_
          exact ih_108 _ (by omega) _ _ _ ⟨(aup ar3 1 (iup (ar3 1) (w0 + i) ((ar3 1) (((F 2) + 1) + i)))), (i + 1), rfl, (by omega), (by omega), (fun j hj => by rw [aup_ne _ _ hj]; exact q1 j hj), (fun t ht => by show iup _ _ _ t = _; rw [iup_ne (by omega)]; exact q2 t ht), (fun t h1 h2 => by show iup _ _ _ _ = _; by_cases e : t = i; (· rw [e, iup_self]; exact q2 _ (by omega)); (· rw [iup_ne (by omega)]; exact q3' t h1 (by omega))), (hok_up q4 (q4 _).1 (q4 _).2), hP, hD, hS, lv_sub hl [1, 2, 3, 4, 5, 6, 7, 8, 9, 0] rfl⟩
      · skip
        have sn : sh ≠ 30 := by
          intro e
          rw [e, show (2 : Int) ^ (30 : Int).toNat = 1073741824 from rfl] at c_62
          omega
        have sp : ar 1 (b + nsz (ar 1) b) * 2 ^ (sh + 1).toNat < 2147483648 := by rw [show (sh + 1).toNat = sh.toNat + 1 by omega, Int.pow_succ, ← Int.mul_assoc]; omega
        refine g_iinc (k := 4) (z := sh) (n := (1)) (lv' := [(4, Iz (sh + 1)), (0, .ref h0), (1, Iz (a)), (2, Iz (b)), (3, Iz (nsz (ar 1) b))]) hx hb dX12_divide_65 hl rfl (by decide) rfl (fun ls hl => ?_)
        refine lv_goto (tgt := 49) hx hb dX12_divide_68 (by decide) ?_
        exact ih_49 _ (by omega) _ _ _ ⟨(sh + 1), rfl, (by omega), (by omega), (sp), hP, hD, hS, lv_sub hl [1, 2, 3, 4, 0] rfl⟩
    · skip
      refine lv_aload_n hx hb dX12_divide_39 rfl (lv_at hl 1 rfl) ?_
      refine lv_iload_n hx hb dX12_divide_40 rfl (lv_at hl 2 rfl) ?_
      refine lv_iload_n hx hb dX12_divide_41 rfl (lv_at hl 3 rfl) ?_
      refine r_callv (As := [Iz (a), Iz (b)]) (rest := []) E (c_divideShort (F := F) (ar := ar) (a := a) (b := b) t0 a0 a1 b0 b1 (by omega) hk na nb c_36) (cwV 2 hts (rGood ml_51 mi_divideShort ms_divideShort mn_RX12 mc_divideShort) rfl rfl rfl (by decide +kernel) ⟨Nat.le_of_ble_eq_true rfl, Nat.le_of_ble_eq_true rfl⟩) hK hP hD hS hA rfl hl.1 (Nat.le_of_ble_eq_true rfl) dX12_divide_42 ⟨Nat.le_refl 0, Nat.le_refl 0⟩ (fun F42 ar42 H locs q42 hP hD hS => ?_)
      have hpost : dvP F F42 ar ar42 a b (8 * nsz (ar 1) a + 30) := dvP_lim q42 (by omega)
      exact W.vret hx hb hr (fun t ht hW => ⟨⟨(F42, ar42), rfl, hpost, by rw [ht]; exact hP, va_K.moved hW.alike hK, hD⟩, hS.F ht⟩) hS.2.2 dX12_divide_45
  · skip
    refine lv_aload_n hx hb dX12_divide_9 rfl (lv_at hl 0 rfl) ?_
    refine lv_aload_n hx hb dX12_divide_10 rfl (lv_at hl 0 rfl) ?_
    refine lv_lconst (v := Int64.ofInt 0) hx hb dX12_divide_11 rfl ?_
    refine r_calli (As := [Jz (0)]) (rest := [.ref h0]) E (c_whole (F := F) (ar := ar) (v := 0) t0 (by omega) hk (by omega) (by omega)) (cwV 1 hts (rGood ml_41 mi_whole ms_whole mn_RX12 mc_whole) rfl rfl rfl (by decide +kernel) ⟨Nat.le_of_ble_eq_true rfl, Nat.le_of_ble_eq_true rfl⟩) hK hP hD hS hA rfl hl.1 (Nat.le_of_ble_eq_true rfl) dX12_divide_12 ⟨Nat.le_refl 0, Nat.le_refl 0⟩ (fun z12 F12 ar12 H locs q12 hP hD hS => ?_)
    obtain ⟨zz, n1, n2, n3, n4, n5, n6⟩ := q12
    obtain rfl : z12 = F 2 := zz
    refine r_puti E hK hP hD hS 3 (by decide) mf_45 rfl rfl (by decide +kernel) (sp_3 h0 ad cI cJ cB cZ _ _) dX12_divide_15 (fun H locs hP hD hS => ?_)
    have w0z : nsz (ar12 1) (F 2) = 0 := nv_zero n1.2.2.2 n2 (by rw [n6]; rfl)
    have ea : nsz (ar12 1) a = nsz (ar 1) a := nsz_agree (n1.2.2.1 a (by omega))
    refine lv_aload_n hx hb dX12_divide_18 rfl (lv_at hl 0 rfl) ?_
    refine lv_aload_n hx hb dX12_divide_19 rfl (lv_at hl 0 rfl) ?_
    refine lv_iload_n hx hb dX12_divide_20 rfl (lv_at hl 1 rfl) ?_
    refine r_calli (As := [Iz (a)]) (rest := [.ref h0]) E (c_copy (F := (fup F12 3 (F 2))) (ar := ar12) (a := a) (show 0 ≤ F12 2 by omega) a0 (show a + nsz (ar12 1) a < F12 2 by omega) (show F12 2 + nsz (ar12 1) a + 1 < 6000000 by omega) n1.2.2.2) (cwV 1 hts (rGood ml_24 mi_copy ms_copy mn_RX12 mc_copy) rfl rfl rfl (by decide +kernel) ⟨Nat.le_of_ble_eq_true rfl, Nat.le_of_ble_eq_true rfl⟩) hK hP hD hS hA rfl hl.1 (Nat.le_of_ble_eq_true rfl) dX12_divide_21 ⟨Nat.le_refl 0, Nat.le_refl 0⟩ (fun z21 F21 ar21 H locs q21 hP hD hS => ?_)
    obtain ⟨zz, m1, m2, m3⟩ := q21
    obtain rfl : z21 = F12 2 := zz
    refine r_puti E hK hP hD hS 4 (by decide) mf_48 rfl rfl (by decide +kernel) (sp_4 h0 ad cI cJ cB cZ _ _) dX12_divide_24 (fun H locs hP hD hS => ?_)
    have f3 : (fup F21 4 (F12 2)) 3 = F 2 := (fup_ne _ _ (by decide)).trans (m1.1 3 (by decide))
    have f4 : (fup F21 4 (F12 2)) 4 = F12 2 := fup_self _ _ _
    have f2 : (fup F21 4 (F12 2)) 2 = F12 2 + nsz (ar12 1) a + 1 := (fup_ne _ _ (by decide)).trans m3
    have mv := nm_move (h := ar12 1) (g := ar21 1) (a := a) (b := F12 2) m2
    have na12 : nm (ar12 1) a := nm_agree (fun i h1 h2 => n1.2.2.1 i (by omega)) na
    have va12 : nv (ar12 1) a = nv (ar 1) a := nv_agree (fun i h1 h2 => n1.2.2.1 i (by omega))
    have eq0 : nsz (ar21 1) (F 2) = 0 := (nsz_agree (m1.2.2.1 (F 2) (show F 2 < F12 2 by omega))).trans w0z
    have eq2 : nm (ar21 1) (F 2) := nm_agree (fun i h1 h2 => m1.2.2.1 i (show i < F12 2 by omega)) n2
    have lv1 : nv (ar21 1) (F12 2) < nv (ar 1) b := by rw [mv.2.2, va12]; exact q3.2.2.1 c_6
    have nl := mv.2.1 na12
    have hpost : dvP F (fup F21 4 (F12 2)) ar ar21 a b (8 * nsz (ar 1) a + 30) := ⟨fun j h2 h3 h4 => by rw [fup_ne _ _ h4, m1.1 j h2, fup_ne _ _ h3, n1.1 j h2], fun j hj => (m1.2.1 j hj).trans (n1.2.1 j hj), fun t ht => (m1.2.2.1 t (show t < F12 2 by omega)).trans (n1.2.2.1 t ht), m1.2.2.2, by rw [f3]; exact Int.le_refl _, by rw [f3]; exact eq2, by rw [f3, eq0]; exact s0, by rw [f3, f4, eq0]; omega, by rw [f4]; exact nl, by rw [f4, f2, mv.1]; omega, by rw [f4]; exact lv1, by rw [f4]; exact nsz_le_of_nv m1.2.2.2 hk nl nb lv1, by rw [f2, ea]; omega⟩
    exact W.vret hx hb hr (fun t ht hW => ⟨⟨((fup F21 4 (F12 2)), ar21), rfl, hpost, by rw [ht]; exact hP, va_K.moved hW.alike hK, hD⟩, hS.F ht⟩) hS.2.2 dX12_divide_27
