set_option maxHeartbeats 4000000 in
set_option maxRecDepth 100000 in
theorem c_keepPolynomials {l : Launch} {dC : Nat → ClassId} {dI : Nat → Nat → Nat} {h0 : Nat} {ad : Nat → Nat} {cI cJ cB cZ : Nat} {F : Nat → Int} {ar : Nat → Int → Int} {sz : Nat} {mk : Int} (t0 : 0 ≤ F 2) (t1 : F 2 ≤ 1000000) (m0 : 0 ≤ mk) (m1 : mk ≤ F 2) (b0 : 0 ≤ ar 5 0) (b1 : ar 5 0 + 1 + ar 1 (ar 5 0) < F 2) (e0 : -1 ≤ ar 1 (ar 5 0)) (e1 : ar 1 (ar 5 0) ≤ 12) (hk : hok (ar 1)) (hk5 : hok (ar 5)) (hk6 : hok (ar 6)) (pv : ∀ i : Int, 0 ≤ i → i ≤ ar 1 (ar 5 0) → 0 ≤ ar 1 (ar 5 0 + 1 + i) ∧ ar 1 (ar 5 0 + 1 + i) + nsz (ar 1) (ar 1 (ar 5 0 + 1 + i)) < F 2 ∧ nsz (ar 1) (ar 1 (ar 5 0 + 1 + i)) ≤ 1000) : Met l yX12_keepPolynomials (Cond.code yX12_keepPolynomials cX12_keepPolynomials 6 none :: w0r) (rRm 3 67) (rPc dC dI h0 ad cI cJ cB cZ F ar sz [Iz (mk), Iz (1)]) (rQv dC dI h0 ad cI cJ cB cZ sz (fun F' ar' => (∀ j : Nat, j ≠ 2 → F' j = F j) ∧ (∀ j : Nat, j ≠ 1 → j ≠ 5 → j ≠ 6 → ar' j = ar j) ∧ (∀ t : Int, t < mk → ar' 1 t = ar 1 t) ∧ hok (ar' 1) ∧ hok (ar' 5) ∧ hok (ar' 6) ∧ mk ≤ ar' 5 0 ∧ F' 2 ≤ mk + 30000 ∧ ar' 5 0 + 2 + ar' 1 (ar' 5 0) = F' 2 ∧ -1 ≤ ar' 1 (ar' 5 0) ∧ ar' 1 (ar' 5 0) ≤ ar 1 (ar 5 0) ∧ (∀ i : Int, 0 ≤ i → i ≤ ar' 1 (ar' 5 0) → mk ≤ ar' 1 (ar' 5 0 + 1 + i) ∧ ar' 1 (ar' 5 0 + 1 + i) + nsz (ar' 1) (ar' 1 (ar' 5 0 + 1 + i)) < ar' 5 0 ∧ nsz (ar' 1) (ar' 1 (ar' 5 0 + 1 + i)) = nsz (ar 1) (ar 1 (ar 5 0 + 1 + i))))) 0 0 (rA h0 ad sz) := by
  refine Met.ofW (cc := cX12_keepPolynomials) (maxL := 6) (ret := none) (by decide) rfl ?_
  intro p e s m args below meth c s₁ B hml hv
  obtain ⟨rfl, hsz, hP, hK, hD0⟩ := hv
  have hx := B.exec
  have hb := B.bytes
  have hr := B.returns
  have hts := atoms_spec (ws := Cond.code yX12_keepPolynomials cX12_keepPolynomials 6 none :: w0r) B.pre
  have hown : s.vm.findClass RX12 = some m.cls := findClass_of_methodNamed B.named
  have hlocks := B.notSynchronized
  have E : CallFix p m c cX12_keepPolynomials 6 s _ (Cond.code yX12_keepPolynomials cX12_keepPolynomials 6 none :: w0r) RX12 := ⟨hx, hb, hml, hown, hts⟩
  subst hsz
  have hD := rA_self s.heap.size hD0
  have hA : ∀ q : Nat, s.heap.size ≤ q → rA h0 ad s.heap.size q := fun q h => Or.inr h
  have hS : va_S (rA h0 ad s.heap.size) s.heap s.heap [] := va_S.rf
  have hl := lv_entry ([.ref h0, Iz (mk), Iz (1)]) (n := 6) (Nat.le_of_ble_eq_true rfl)
  rw [lg_entry_eq]
  generalize (lg_sl ([.ref h0, Iz (mk), Iz (1)]) ++ List.replicate (6 - (lg_sl ([.ref h0, Iz (mk), Iz (1)])).length) Slot.unset).toArray = ls at hl ⊢
  have hl : lv_has ls 6 [(0, .ref h0), (1, Iz (mk)), (2, Iz (1))] := hl
  refine lv_aload_n hx hb dX12_keepPolynomials_0 rfl (lv_at hl 0 rfl) ?_
  refine r_geti E hK hP (k := 2) (v := Iz (F 2)) (by decide) mf_11 rfl rfl dX12_keepPolynomials_1 ?_
  refine lv_istore_n (lv' := [(3, Iz (F 2)), (0, .ref h0), (1, Iz (mk)), (2, Iz (1))]) hx hb dX12_keepPolynomials_4 rfl hl (by decide) rfl (fun ls hl => ?_)
  refine lv_iconst (v := Int32.ofInt (0)) hx hb dX12_keepPolynomials_5 (by decide) ?_
  refine lv_istore (lv' := [(4, Iz (0)), (3, Iz (F 2)), (0, .ref h0), (1, Iz (mk)), (2, Iz (1))]) hx hb dX12_keepPolynomials_6 hl (by decide) rfl (fun ls hl => ?_)
  refine lv_iload hx hb dX12_keepPolynomials_8 (lv_at hl 0 rfl) ?_
  refine lv_iload_n hx hb dX12_keepPolynomials_10 rfl (lv_at hl 4 rfl) ?_
  refine g_icmp_ge (tgt := 38) hx hb ⟨by omega, by omega⟩ ⟨by omega, by omega⟩ dX12_keepPolynomials_11 (by decide) (fun c_11 => ?_) (fun c_11 => ?_)
  · omega
  · skip
    refine lv_aload_n hx hb dX12_keepPolynomials_14 rfl (lv_at hl 2 rfl) ?_
    refine r_geti E hK hP (k := 5) (v := .ref (ad 5)) (by decide) mf_68 rfl rfl dX12_keepPolynomials_15 ?_
    refine lv_iload hx hb dX12_keepPolynomials_18 (lv_at hl 0 rfl) ?_
    refine lv_aload_n hx hb dX12_keepPolynomials_20 rfl (lv_at hl 2 rfl) ?_
    refine lv_aload_n hx hb dX12_keepPolynomials_21 rfl (lv_at hl 2 rfl) ?_
    refine r_geti E hK hP (k := 5) (v := .ref (ad 5)) (by decide) mf_68 rfl rfl dX12_keepPolynomials_22 ?_
    refine lv_iload hx hb dX12_keepPolynomials_25 (lv_at hl 0 rfl) ?_
    refine g_iald (f := (ar 5)) hx hb hK hP 2 0 rfl rfl (by omega) (by omega) (by decide) dX12_keepPolynomials_27 ?_
    refine r_calli (As := [Iz ((ar 5) 0)]) (rest := [Iz (0), .ref (ad 5)]) E (c_copyPolynomial (F := F) (ar := ar) (q := ar 5 0) t0 t1 b0 b1 e0 e1 hk hk6 pv) (cwV 1 hts (rGood ml_92 mi_copyPolynomial ms_copyPolynomial mn_RX12 mc_copyPolynomial) rfl rfl rfl (by decide +kernel) ⟨Nat.le_of_ble_eq_true rfl, Nat.le_of_ble_eq_true rfl⟩) hK hP hD hS hA rfl hl.1 (Nat.le_of_ble_eq_true rfl) dX12_keepPolynomials_28 ⟨Nat.le_refl 0, Nat.le_refl 0⟩ (fun z28 F28 ar28 H locs q28 hP hD hS => ?_)
    obtain ⟨c1, c2, c3, c4, c5, c6, c7, c8, c9, c10, c11⟩ := q28
    refine g_iast (f := (ar28 5)) hx hb hK hP hD hS 2 0 rfl rfl (by omega) (by omega) (by decide) dX12_keepPolynomials_31 (fun H locs hP hD hS => ?_)
    rw [sa_5] at hP hD
    refine g_iinc (k := 0) (z := 0) (n := (1)) (lv' := [(4, Iz (0 + 1)), (3, Iz (F 2)), (0, .ref h0), (1, Iz (mk)), (2, Iz (1))]) hx hb dX12_keepPolynomials_32 hl rfl (by decide) rfl (fun ls hl => ?_)
    refine lv_goto (tgt := 8) hx hb dX12_keepPolynomials_35 (by decide) ?_
    refine lv_iload hx hb dX12_keepPolynomials_8 (lv_at hl 0 rfl) ?_
    refine lv_iload_n hx hb dX12_keepPolynomials_10 rfl (lv_at hl 4 rfl) ?_
    refine g_icmp_ge (tgt := 38) hx hb ⟨by omega, by omega⟩ ⟨by omega, by omega⟩ dX12_keepPolynomials_11 (by decide) (fun c_11 => ?_) (fun c_11 => ?_)
    · skip
      have k5 : hok (iup (ar28 5) 0 z28) := hok_up (by rw [c3 5 (by decide) (by decide)]; exact hk5) (by omega) (by omega)
      refine lv_aload_n hx hb dX12_keepPolynomials_38 rfl (lv_at hl 2 rfl) ?_
      refine lv_iload_n hx hb dX12_keepPolynomials_39 rfl (lv_at hl 3 rfl) ?_
      refine lv_iload_n hx hb dX12_keepPolynomials_40 rfl (lv_at hl 1 rfl) ?_
      refine r_callv (As := [Iz (mk), Iz (F 2)]) (rest := []) E (c_bring (F := F28) (ar := (aup ar28 5 (iup (ar28 5) 0 z28))) (mk := mk) (fr := F 2) m0 m1 (by omega) (by omega) c5) (cwV 2 hts (rGood ml_71 mi_bring ms_bring mn_RX12 mc_bring) rfl rfl rfl (by decide +kernel) ⟨Nat.le_of_ble_eq_true rfl, Nat.le_of_ble_eq_true rfl⟩) hK hP hD hS hA rfl hl.1 (Nat.le_of_ble_eq_true rfl) dX12_keepPolynomials_41 ⟨Nat.le_refl 0, Nat.le_refl 0⟩ (fun F41 ar41 H locs q41 hP hD hS => ?_)
      obtain ⟨b1_, b2, b3, b4, b5⟩ := q41
      obtain rfl := b1_.symm
      have f5 : ar41 5 = iup (ar28 5) 0 z28 := b2 5 (by decide)
      have f50 : ar41 5 0 = z28 := by rw [f5]; exact iup_self
      obtain ⟨dg, hdg⟩ : ∃ dg : Int, dg = ar28 1 z28 := ⟨_, rfl⟩
      rw [← hdg] at c8 c9 c10
      have mvd : ∀ t : Int, 0 ≤ t → t < F28 2 - F 2 → ar41 1 (mk + t) = ar28 1 (F 2 + t) := b4
      refine lv_iconst (v := Int32.ofInt (0)) hx hb dX12_keepPolynomials_44 (by decide) ?_
      refine lv_istore (lv' := [(4, Iz (0)), (3, Iz (F 2)), (0, .ref h0), (1, Iz (mk)), (2, Iz (1))]) hx hb dX12_keepPolynomials_45 hl (by decide) rfl (fun ls hl => ?_)
      refine lv_iload hx hb dX12_keepPolynomials_47 (lv_at hl 0 rfl) ?_
      refine lv_iload_n hx hb dX12_keepPolynomials_49 rfl (lv_at hl 4 rfl) ?_
      refine g_icmp_ge (tgt := 140) hx hb ⟨by omega, by omega⟩ ⟨by omega, by omega⟩ dX12_keepPolynomials_50 (by decide) (fun c_50 => ?_) (fun c_50 => ?_)
      · omega
      · skip
        refine lv_aload_n hx hb dX12_keepPolynomials_53 rfl (lv_at hl 2 rfl) ?_
        refine r_geti E hK hP (k := 5) (v := .ref (ad 5)) (by decide) mf_68 rfl rfl dX12_keepPolynomials_54 ?_
        refine lv_iload hx hb dX12_keepPolynomials_57 (lv_at hl 0 rfl) ?_
        refine lv_aload_n hx hb dX12_keepPolynomials_59 rfl (lv_at hl 2 rfl) ?_
        refine r_geti E hK hP (k := 5) (v := .ref (ad 5)) (by decide) mf_68 rfl rfl dX12_keepPolynomials_60 ?_
        refine lv_iload hx hb dX12_keepPolynomials_63 (lv_at hl 0 rfl) ?_
        refine g_iald (f := (ar41 5)) hx hb hK hP 2 0 rfl rfl (by omega) (by omega) (by decide) dX12_keepPolynomials_65 ?_
        refine lv_iload_n hx hb dX12_keepPolynomials_66 rfl (lv_at hl 1 rfl) ?_
        refine g_isub hx hb dX12_keepPolynomials_67 ?_
        refine lv_iload_n hx hb dX12_keepPolynomials_68 rfl (lv_at hl 3 rfl) ?_
        refine g_iadd hx hb dX12_keepPolynomials_69 ?_
        obtain ⟨P1, hP1⟩ : ∃ P1 : Int, P1 = ar41 5 0 - F 2 + mk := ⟨_, rfl⟩
        rw [← hP1]
        have P1z : P1 = mk + (z28 - F 2) := by omega
        have Pd : ar41 1 P1 = dg := by rw [P1z, mvd _ (by omega) (by omega), show F 2 + (z28 - F 2) = z28 by omega]; exact hdg.symm
        have Pc : ∀ t : Int, 0 ≤ t → t ≤ dg → ar41 1 (P1 + 1 + t) = ar28 1 (z28 + 1 + t) := fun t a b => by rw [show P1 + 1 + t = mk + (z28 - F 2 + 1 + t) by omega, mvd _ (by omega) (by omega), show F 2 + (z28 - F 2 + 1 + t) = z28 + 1 + t by omega]
        refine g_iast (f := (ar41 5)) hx hb hK hP hD hS 2 0 rfl rfl (by omega) (by omega) (by decide) dX12_keepPolynomials_70 (fun H locs hP hD hS => ?_)
        rw [sa_5] at hP hD
        refine lv_iconst (v := Int32.ofInt (0)) hx hb dX12_keepPolynomials_71 (by decide) ?_
        refine lv_istore (lv' := [(5, Iz (0)), (4, Iz (0)), (3, Iz (F 2)), (0, .ref h0), (1, Iz (mk)), (2, Iz (1))]) hx hb dX12_keepPolynomials_72 hl (by decide) rfl (fun ls hl => ?_)
        refine r_loop (P := fun N_ H locs ls => ∃ (ar3 : Nat → Int → Int) (k : Int), N_ = (dg + 1 - k).toNat ∧ (0 ≤ k) ∧ (k ≤ dg + 1) ∧ (ar3 5 = iup (ar41 5) 0 P1) ∧ (∀ j : Nat, j ≠ 1 → j ≠ 5 → ar3 j = ar41 j) ∧ (∀ t : Int, t < P1 + 1 → ar3 1 t = ar41 1 t) ∧ (∀ t : Int, k ≤ t → t ≤ dg → ar3 1 (P1 + 1 + t) = ar41 1 (P1 + 1 + t)) ∧ (∀ t : Int, 0 ≤ t → t < k → ar3 1 (P1 + 1 + t) = ar41 1 (P1 + 1 + t) - F 2 + mk) ∧ (hok (ar3 1)) ∧ va_P (dC, dI) rcl (mW h0 ad cI cJ cB cZ (fup F28 2 (mk + (F28 2 - F 2))) ar3) H ∧ va_D (rA h0 ad s.heap.size) (mW h0 ad cI cJ cB cZ (fup F28 2 (mk + (F28 2 - F 2))) ar3) ∧ va_S (rA h0 ad s.heap.size) s.heap H locs ∧ lv_has ls 6 [(0, .ref h0), (1, Iz (mk)), (2, Iz (1)), (3, Iz (F 2)), (4, Iz (0)), (5, Iz (k))]) (g := fun ls => F0 m 74 ls []) (fun N_ H locs ls hI ih_74 => ?_) _ _ _ _ ⟨(aup ar41 5 (iup (ar41 5) 0 P1)), 0, rfl, (Int.le_refl 0), (by omega), (rfl), (fun j h1 h5 => aup_ne _ _ h5), (fun _ _ => rfl), (fun _ _ _ => rfl), (fun t a b => by omega), (b5), hP, hD, hS, lv_sub hl [3, 4, 5, 2, 1, 0] rfl⟩
        obtain ⟨ar3, k, rfl, k0, k1, q5, qj, qlo, qhi, qd, q4, hP, hD, hS, hl⟩ := hI
        refine lv_iload hx hb dX12_keepPolynomials_74 (lv_at hl 5 rfl) ?_
        refine lv_aload_n hx hb dX12_keepPolynomials_76 rfl (lv_at hl 0 rfl) ?_
        refine lv_aload_n hx hb dX12_keepPolynomials_77 rfl (lv_at hl 0 rfl) ?_
        refine r_geti E hK hP (k := 5) (v := .ref (ad 5)) (by decide) mf_68 rfl rfl dX12_keepPolynomials_78 ?_
        refine lv_iload hx hb dX12_keepPolynomials_81 (lv_at hl 4 rfl) ?_
        refine g_iald (f := (ar3 5)) hx hb hK hP 2 0 rfl rfl (by omega) (by omega) (by decide) dX12_keepPolynomials_83 ?_
        have g50 : ar3 5 0 = P1 := by rw [q5]; exact iup_self
        rw [g50]
        refine r_calli (As := [Iz (P1)]) (rest := [Iz (k)]) E (c_degree (F := (fup F28 2 (mk + (F28 2 - F 2)))) (ar := ar3) (q := P1) (by omega) (by omega)) (cwV 1 hts (rGood ml_80 mi_degree ms_degree mn_RX12 mc_degree) rfl rfl rfl (by decide +kernel) ⟨Nat.le_of_ble_eq_true rfl, Nat.le_of_ble_eq_true rfl⟩) hK hP hD hS hA rfl hl.1 (Nat.le_of_ble_eq_true rfl) dX12_keepPolynomials_84 ⟨Nat.le_refl 0, Nat.le_refl 0⟩ (fun z84 F84 ar84 H locs q84 hP hD hS => ?_)
        obtain ⟨e1_, e2_, e3_⟩ := q84
        obtain rfl := e1_.symm
        obtain rfl := e2_.symm
        obtain rfl := e3_.symm
        rw [show ar3 1 P1 = dg from (qlo P1 (by omega)).trans Pd]
        refine g_icmp_gt (tgt := 134) hx hb ⟨by omega, by omega⟩ ⟨by omega, by omega⟩ dX12_keepPolynomials_87 (by decide) (fun c_87 => ?_) (fun c_87 => ?_)
        · skip
          refine g_iinc (k := 4) (z := 0) (n := (1)) (lv' := [(4, Iz (0 + 1)), (0, .ref h0), (1, Iz (mk)), (2, Iz (1)), (3, Iz (F 2)), (5, Iz (k))]) hx hb dX12_keepPolynomials_134 hl rfl (by decide) rfl (fun ls hl => ?_)
          refine lv_goto (tgt := 47) hx hb dX12_keepPolynomials_137 (by decide) ?_
          refine lv_iload hx hb dX12_keepPolynomials_47 (lv_at hl 0 rfl) ?_
          refine lv_iload_n hx hb dX12_keepPolynomials_49 rfl (lv_at hl 3 rfl) ?_
          refine g_icmp_ge (tgt := 140) hx hb ⟨by omega, by omega⟩ ⟨by omega, by omega⟩ dX12_keepPolynomials_50 (by decide) (fun c_50 => ?_) (fun c_50 => ?_)
          · skip
            have f2 : (fup F28 2 (mk + (F28 2 - F 2))) 2 = mk + (F28 2 - F 2) := fup_self _ _ _
            have kd : k = dg + 1 := by omega
            have g50 : ar3 5 0 = P1 := by rw [q5]; exact iup_self
            have gdg : ar3 1 P1 = dg := (qlo P1 (by omega)).trans Pd
            have fin : ∀ i : Int, 0 ≤ i → i ≤ dg → mk ≤ ar3 1 (P1 + 1 + i) ∧ ar3 1 (P1 + 1 + i) + nsz (ar3 1) (ar3 1 (P1 + 1 + i)) < P1 ∧ nsz (ar3 1) (ar3 1 (P1 + 1 + i)) = nsz (ar 1) (ar 1 (ar 5 0 + 1 + i)) := by
              intro i a b
              have w := c11 i a (by rw [← hdg]; exact b)
              have s := nsz_nonneg (ar28 1) (ar28 1 (z28 + 1 + i))
              have ec : ar3 1 (P1 + 1 + i) = mk + (ar28 1 (z28 + 1 + i) - F 2) := by rw [qd i a (by omega), Pc i a b]; omega
              have en : nsz (ar3 1) (ar3 1 (P1 + 1 + i)) = nsz (ar28 1) (ar28 1 (z28 + 1 + i)) := by
                rw [ec]; unfold nsz
                rw [qlo _ (by omega), mvd _ (by omega) (by omega), show F 2 + (ar28 1 (z28 + 1 + i) - F 2) = ar28 1 (z28 + 1 + i) by omega]
              rw [en, ec]
              omega
            have hpost : (∀ j : Nat, j ≠ 2 → (fup F28 2 (mk + (F28 2 - F 2))) j = F j) ∧ (∀ j : Nat, j ≠ 1 → j ≠ 5 → j ≠ 6 → ar3 j = ar j) ∧ (∀ t : Int, t < mk → ar3 1 t = ar 1 t) ∧ hok (ar3 1) ∧ hok (ar3 5) ∧ hok (ar3 6) ∧ mk ≤ ar3 5 0 ∧ (fup F28 2 (mk + (F28 2 - F 2))) 2 ≤ mk + 30000 ∧ ar3 5 0 + 2 + ar3 1 (ar3 5 0) = (fup F28 2 (mk + (F28 2 - F 2))) 2 ∧ -1 ≤ ar3 1 (ar3 5 0) ∧ ar3 1 (ar3 5 0) ≤ ar 1 (ar 5 0) ∧ (∀ i : Int, 0 ≤ i → i ≤ ar3 1 (ar3 5 0) → mk ≤ ar3 1 (ar3 5 0 + 1 + i) ∧ ar3 1 (ar3 5 0 + 1 + i) + nsz (ar3 1) (ar3 1 (ar3 5 0 + 1 + i)) < ar3 5 0 ∧ nsz (ar3 1) (ar3 1 (ar3 5 0 + 1 + i)) = nsz (ar 1) (ar 1 (ar 5 0 + 1 + i))) := ⟨fun j hj => (fup_ne _ _ hj).trans (c2 j hj), fun j h1 h5 h6 => (qj j h1 h5).trans ((b2 j h1).trans ((aup_ne _ _ h5).trans (c3 j h1 h6))), fun t ht => (qlo t (by omega)).trans ((b3 t ht).trans (c4 t (by omega))), q4, by rw [q5, f5]; exact hok_up k5 (by omega) (by omega), by rw [qj 6 (by decide) (by decide), b2 6 (by decide)]; exact c6, by rw [g50]; omega, by rw [f2]; omega, by rw [g50, gdg, f2]; omega, by rw [g50, gdg]; exact c9, by rw [g50, gdg]; exact c10, fun i a b => by rw [g50] at b ⊢; rw [gdg] at b; exact fin i a b⟩
            exact W.vret hx hb hr (fun t ht hW => ⟨⟨((fup F28 2 (mk + (F28 2 - F 2))), ar3), rfl, hpost, by rw [ht]; exact hP, va_K.moved hW.alike hK, hD⟩, hS.F ht⟩) hS.2.2 dX12_keepPolynomials_140
          · omega
        · skip
          have vk : ar3 1 (P1 + 1 + k) = ar28 1 (z28 + 1 + k) := (qhi k (Int.le_refl k) c_87).trans (Pc k k0 c_87)
          have wk := c11 k k0 (by rw [← hdg]; exact c_87)
          have sk := nsz_nonneg (ar28 1) (ar28 1 (z28 + 1 + k))
          refine lv_aload_n hx hb dX12_keepPolynomials_90 rfl (lv_at hl 0 rfl) ?_
          refine r_geti E hK hP (k := 1) (v := .ref (ad 1)) (by decide) mf_7 rfl rfl dX12_keepPolynomials_91 ?_
          refine lv_aload_n hx hb dX12_keepPolynomials_94 rfl (lv_at hl 0 rfl) ?_
          refine r_geti E hK hP (k := 5) (v := .ref (ad 5)) (by decide) mf_68 rfl rfl dX12_keepPolynomials_95 ?_
          refine lv_iload hx hb dX12_keepPolynomials_98 (lv_at hl 4 rfl) ?_
          refine g_iald (f := (ar3 5)) hx hb hK hP 2 0 rfl rfl (by omega) (by omega) (by decide) dX12_keepPolynomials_100 ?_
          rw [g50]
          refine lv_iconst (v := Int32.ofInt (1)) hx hb dX12_keepPolynomials_101 (by decide) ?_
          refine g_iadd hx hb dX12_keepPolynomials_102 ?_
          refine lv_iload hx hb dX12_keepPolynomials_103 (lv_at hl 5 rfl) ?_
          refine g_iadd hx hb dX12_keepPolynomials_105 ?_
          refine lv_aload_n hx hb dX12_keepPolynomials_106 rfl (lv_at hl 0 rfl) ?_
          refine r_geti E hK hP (k := 1) (v := .ref (ad 1)) (by decide) mf_7 rfl rfl dX12_keepPolynomials_107 ?_
          refine lv_aload_n hx hb dX12_keepPolynomials_110 rfl (lv_at hl 0 rfl) ?_
          refine r_geti E hK hP (k := 5) (v := .ref (ad 5)) (by decide) mf_68 rfl rfl dX12_keepPolynomials_111 ?_
          refine lv_iload hx hb dX12_keepPolynomials_114 (lv_at hl 4 rfl) ?_
          refine g_iald (f := (ar3 5)) hx hb hK hP 2 0 rfl rfl (by omega) (by omega) (by decide) dX12_keepPolynomials_116 ?_
          rw [g50]
          refine lv_iconst (v := Int32.ofInt (1)) hx hb dX12_keepPolynomials_117 (by decide) ?_
          refine g_iadd hx hb dX12_keepPolynomials_118 ?_
          refine lv_iload hx hb dX12_keepPolynomials_119 (lv_at hl 5 rfl) ?_
          refine g_iadd hx hb dX12_keepPolynomials_121 ?_
          refine g_iald (f := (ar3 1)) hx hb hK hP 1 0 rfl rfl (by omega) (by omega) (by decide) dX12_keepPolynomials_122 ?_
          refine lv_iload_n hx hb dX12_keepPolynomials_123 rfl (lv_at hl 3 rfl) ?_
          refine g_isub hx hb dX12_keepPolynomials_124 ?_
          refine lv_iload_n hx hb dX12_keepPolynomials_125 rfl (lv_at hl 1 rfl) ?_
          refine g_iadd hx hb dX12_keepPolynomials_126 ?_
          refine g_iast (f := (ar3 1)) hx hb hK hP hD hS 1 0 rfl rfl (by omega) (by omega) (by decide) dX12_keepPolynomials_127 (fun H locs hP hD hS => ?_)
          rw [sa_1] at hP hD
          refine g_iinc (k := 5) (z := k) (n := (1)) (lv' := [(5, Iz (k + 1)), (0, .ref h0), (1, Iz (mk)), (2, Iz (1)), (3, Iz (F 2)), (4, Iz (0))]) hx hb dX12_keepPolynomials_128 hl rfl (by decide) rfl (fun ls hl => ?_)
          refine lv_goto (tgt := 74) hx hb dX12_keepPolynomials_131 (by decide) ?_
          exact ih_74 _ (by omega) _ _ _ ⟨(aup ar3 1 (iup (ar3 1) ((P1 + 1) + k) ((((ar3 1) ((P1 + 1) + k)) - (F 2)) + mk))), (k + 1), rfl, (by omega), (by omega), (by rw [aup_ne _ _ (by decide)]; exact q5), (fun j h1 h5 => by rw [aup_ne _ _ h1]; exact qj j h1 h5), (fun t ht => (iup_ne (by omega)).trans (qlo t ht)), (fun t a b => (iup_ne (by omega)).trans (qhi t (by omega) b)), (fun t a b => by show iup _ _ _ _ = _; by_cases e : t = k; (· rw [e, iup_self, qhi k (Int.le_refl k) c_87]); (· rw [iup_ne (by omega)]; exact qd t a (by omega))), (hok_up q4 (by omega) (by omega)), hP, hD, hS, lv_sub hl [1, 2, 3, 4, 5, 0] rfl⟩
    · omega
