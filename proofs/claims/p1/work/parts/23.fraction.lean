set_option maxHeartbeats 4000000 in
set_option maxRecDepth 100000 in
theorem c_fraction {l : Launch} {dC : Nat → ClassId} {dI : Nat → Nat → Nat} {h0 : Nat} {ad : Nat → Nat} {cI cJ cB cZ : Nat} {F : Nat → Int} {ar : Nat → Int → Int} {sz : Nat} {up lo : Int} (u0 : -9223372036854775808 ≤ up) (u1 : up < 9223372036854775808) (l0 : -9223372036854775808 ≤ lo) (l1 : lo < 9223372036854775808) (n0 : 0 ≤ F 24) (n1 : F 24 < 100) (f0 : 1 ≤ F 25) (f1 : F 25 ≤ 10) (hk : hok (ar 1)) (hk5 : hok (ar 5)) (hk6 : hok (ar 6)) : Met l yX12_fraction (Cond.code yX12_fraction cX12_fraction 5 (some .int) :: w0r) (rRm 6 176) (rPc dC dI h0 ad cI cJ cB cZ F ar sz [Jz (up), Jz (lo)]) (rQi dC dI h0 ad cI cJ cB cZ sz (fun z F' ar' => (lo = 0 → z = 0 ∧ F' 0 = 1) ∧ (lo ≠ 0 → z = F 24 ∧ F' 0 = 0 ∧ F' 24 = F 24 + 1))) 0 0 (rA h0 ad sz) := by
  refine Met.ofW (cc := cX12_fraction) (maxL := 5) (ret := (some .int)) (by decide) rfl ?_
  intro p e s m args below meth c s₁ B hml hv
  obtain ⟨rfl, hsz, hP, hK, hD0⟩ := hv
  have hx := B.exec
  have hb := B.bytes
  have hr := B.returns
  have hts := atoms_spec (ws := Cond.code yX12_fraction cX12_fraction 5 (some .int) :: w0r) B.pre
  have hown : s.vm.findClass RX12 = some m.cls := findClass_of_methodNamed B.named
  have hlocks := B.notSynchronized
  have E : CallFix p m c cX12_fraction 5 s _ (Cond.code yX12_fraction cX12_fraction 5 (some .int) :: w0r) RX12 := ⟨hx, hb, hml, hown, hts⟩
  subst hsz
  have hD := rA_self s.heap.size hD0
  have hA : ∀ q : Nat, s.heap.size ≤ q → rA h0 ad s.heap.size q := fun q h => Or.inr h
  have hS : va_S (rA h0 ad s.heap.size) s.heap s.heap [] := va_S.rf
  have hl := lv_entry ([.ref h0, Jz (up), Jz (lo)]) (n := 5) (Nat.le_of_ble_eq_true rfl)
  rw [lg_entry_eq]
  generalize (lg_sl ([.ref h0, Jz (up), Jz (lo)]) ++ List.replicate (5 - (lg_sl ([.ref h0, Jz (up), Jz (lo)])).length) Slot.unset).toArray = ls at hl ⊢
  have hl : lv_has ls 5 [(0, .ref h0), (1, Jz (up)), (3, Jz (lo))] := hl
  refine lv_aload_n hx hb dX12_fraction_0 rfl (lv_at hl 0 rfl) ?_
  refine lv_lload_n hx hb dX12_fraction_1 rfl (lv_at hl 2 rfl) ?_
  refine lv_lconst (v := Int64.ofInt 0) hx hb dX12_fraction_2 rfl ?_
  refine g_lcmp hx hb ⟨by omega, by omega⟩ ⟨by omega, by omega⟩ dX12_fraction_3 ?_
  refine r_join (P := fun z : Int => (lo = 0 ∧ z = 1) ∨ (lo ≠ 0 ∧ z = 0)) (g := fun z => F0 m 12 ls [Iz z, .ref h0]) (fun th hth => ?_) (fun k_12 => ?_)
  · skip
    refine r_puti E hK hP hD hS 0 (by decide) mf_1 rfl rfl (by decide +kernel) (sp_0 h0 ad cI cJ cB cZ _ _) dX12_fraction_12 (fun H locs hP hD hS => ?_)
    refine lv_aload_n hx hb dX12_fraction_15 rfl (lv_at hl 0 rfl) ?_
    refine r_geti E hK hP (k := 0) (v := Iz (th)) (by decide) mf_1 rfl rfl dX12_fraction_16 ?_
    refine g_if_le (tgt := 24) hx hb ⟨by omega, by omega⟩ dX12_fraction_19 (by decide) (fun c_19 => ?_) (fun c_19 => ?_)
    · skip
      refine lv_aload_n hx hb dX12_fraction_24 rfl (lv_at hl 0 rfl) ?_
      refine r_callv (As := []) (rest := []) E (c_clear (F := (fup F 0 th)) (ar := ar)) (cwV 0 hts (rGood ml_301 mi_clear ms_clear mn_RX12 mc_clear) rfl rfl rfl (by decide +kernel) ⟨Nat.le_of_ble_eq_true rfl, Nat.le_of_ble_eq_true rfl⟩) hK hP hD hS hA rfl hl.1 (Nat.le_of_ble_eq_true rfl) dX12_fraction_25 ⟨Nat.le_refl 0, Nat.le_refl 0⟩ (fun F25 ar25 H locs q25 hP hD hS => ?_)
      obtain ⟨ez, ea⟩ := q25
      obtain rfl := ez.symm
      obtain rfl := ea.symm
      refine lv_aload_n hx hb dX12_fraction_28 rfl (lv_at hl 0 rfl) ?_
      refine lv_aload_n hx hb dX12_fraction_29 rfl (lv_at hl 0 rfl) ?_
      refine lv_aload_n hx hb dX12_fraction_30 rfl (lv_at hl 0 rfl) ?_
      refine r_geti E hK hP (k := 24) (v := Iz ((fup (fup F 0 th) 2 0) 24)) (by decide) mf_568 rfl rfl dX12_fraction_31 ?_
      refine lv_aload_n hx hb dX12_fraction_34 rfl (lv_at hl 0 rfl) ?_
      refine lv_lload_n hx hb dX12_fraction_35 rfl (lv_at hl 1 rfl) ?_
      refine r_calli (As := [Jz (up)]) (rest := [Iz ((fup (fup F 0 th) 2 0) 24), .ref h0, .ref h0]) E (c_whole (F := (fup (fup F 0 th) 2 0)) (ar := ar) (v := up) (Int.le_refl 0) (show (0 : Int) + 4 < 6000000 by decide) hk u0 u1) (cwV 1 hts (rGood ml_41 mi_whole ms_whole mn_RX12 mc_whole) rfl rfl rfl (by decide +kernel) ⟨Nat.le_of_ble_eq_true rfl, Nat.le_of_ble_eq_true rfl⟩) hK hP hD hS hA rfl hl.1 (Nat.le_of_ble_eq_true rfl) dX12_fraction_36 ⟨Nat.le_refl 0, Nat.le_refl 0⟩ (fun z36 F36 ar36 H locs q36 hP hD hS => ?_)
      obtain ⟨zz, w1, w2, w3, w4, w5, w6⟩ := q36
      obtain rfl : z36 = 0 := zz
      refine lv_aload_n hx hb dX12_fraction_39 rfl (lv_at hl 0 rfl) ?_
      refine lv_lload_n hx hb dX12_fraction_40 rfl (lv_at hl 2 rfl) ?_
      have sw36 := nsz_nonneg (ar36 1) 0
      refine r_calli (As := [Jz (lo)]) (rest := [Iz (0), Iz ((fup (fup F 0 th) 2 0) 24), .ref h0, .ref h0]) E (c_whole (F := F36) (ar := ar36) (v := lo) (by omega) (by omega) w1.2.2.2 l0 l1) (cwV 1 hts (rGood ml_41 mi_whole ms_whole mn_RX12 mc_whole) rfl rfl rfl (by decide +kernel) ⟨Nat.le_of_ble_eq_true rfl, Nat.le_of_ble_eq_true rfl⟩) hK hP hD hS hA rfl hl.1 (Nat.le_of_ble_eq_true rfl) dX12_fraction_41 ⟨Nat.le_refl 0, Nat.le_refl 0⟩ (fun z41 F41 ar41 H locs q41 hP hD hS => ?_)
      obtain ⟨zz, k1, k2, k3, k4, k5_, k6⟩ := q41
      obtain rfl : z41 = F36 2 := zz
      have sw41 := nsz_nonneg (ar41 1) (F36 2)
      have e36 : nsz (ar41 1) 0 = nsz (ar36 1) 0 := nsz_agree (k1.2.2.1 0 (by omega))
      have n36 : nm (ar41 1) 0 := nm_agree (fun i h1 h2 => k1.2.2.1 i (by omega)) w2
      have k5 : ar41 5 = ar 5 := (k1.2.1 5 (by decide)).trans (w1.2.1 5 (by decide))
      have k6_ : ar41 6 = ar 6 := (k1.2.1 6 (by decide)).trans (w1.2.1 6 (by decide))
      have q25 : F41 25 = F 25 := (k1.1 25 (by decide)).trans (w1.1 25 (by decide))
      have q24 : F41 24 = F 24 := (k1.1 24 (by decide)).trans (w1.1 24 (by decide))
      have q0_ : F41 0 = th := (k1.1 0 (by decide)).trans (w1.1 0 (by decide))
      refine r_calli (As := [Iz ((fup (fup F 0 th) 2 0) 24), Iz (0), Iz (F36 2)]) (rest := [.ref h0]) E (c_putFraction (F := F41) (ar := ar41) (sl := F 24) (u := 0) (lo := F36 2) (by omega) (by omega) (Int.le_refl 0) (by omega) (by omega) n36 (by omega) (by omega) k4 k2 (fun q => by have := k5_ q; omega) (by omega) (by omega) (by omega) (by omega) k1.2.2.2 (by rw [k5]; exact hk5) (by rw [k6_]; exact hk6)) (cwV 3 hts (rGood ml_407 mi_putFraction ms_putFraction mn_RX12 mc_putFraction) rfl rfl rfl (by decide +kernel) ⟨Nat.le_of_ble_eq_true rfl, Nat.le_of_ble_eq_true rfl⟩) hK hP hD hS hA rfl hl.1 (Nat.le_of_ble_eq_true rfl) dX12_fraction_44 ⟨Nat.le_refl 0, Nat.le_refl 0⟩ (fun z44 F44 ar44 H locs q44 hP hD hS => ?_)
      obtain ⟨zz, s2, s3⟩ := q44
      obtain rfl : z44 = 0 := zz
      have r24 : F44 24 = F 24 := (s2 24 (by decide) (by decide) (by decide)).trans q24
      have r0 : F44 0 = th := (s2 0 (by decide) (by decide) (by decide)).trans q0_
      refine r_calli (As := [Iz (0)]) (rest := []) E (c_finish (F := F44) (ar := ar44) (how := 0) (by omega) (by omega) (by omega) (by omega)) (cwV 1 hts (rGood ml_578 mi_finish ms_finish mn_RX12 mc_finish) rfl rfl rfl (by decide +kernel) ⟨Nat.le_of_ble_eq_true rfl, Nat.le_of_ble_eq_true rfl⟩) hK hP hD hS hA rfl hl.1 (Nat.le_of_ble_eq_true rfl) dX12_fraction_47 ⟨Nat.le_refl 0, Nat.le_refl 0⟩ (fun z47 F47 ar47 H locs q47 hP hD hS => ?_)
      obtain ⟨-, h9⟩ := q47
      obtain ⟨zz, f9, a9⟩ := h9 (Int.le_refl 0)
      have hpost : (lo = 0 → (z47 : Int) = 0 ∧ F47 0 = 1) ∧ (lo ≠ 0 → (z47 : Int) = F 24 ∧ F47 0 = 0 ∧ F47 24 = F 24 + 1) := ⟨fun q => by omega, fun _ => ⟨by rw [zz, r24], by rw [f9, fup_ne _ _ (by decide), r0]; omega, by rw [f9, fup_self, r24]⟩⟩
      exact W.iret (v := Int32.ofInt (z47)) hx hb hr (fun t ht hW => ⟨⟨_, (F47, ar47), rfl, ⟨_, rfl, hpost⟩, by rw [ht]; exact hP, va_K.moved hW.alike hK, hD⟩, hS.F ht⟩) hS.2.2 dX12_fraction_50
    · skip
      refine lv_iconst (v := Int32.ofInt (0)) hx hb dX12_fraction_22 (by decide) ?_
      have hpost : (lo = 0 → (0 : Int) = 0 ∧ (fup F 0 th) 0 = 1) ∧ (lo ≠ 0 → (0 : Int) = F 24 ∧ (fup F 0 th) 0 = 0 ∧ (fup F 0 th) 24 = F 24 + 1) := ⟨fun q => ⟨rfl, by show th = 1; omega⟩, fun q => by omega⟩
      exact W.iret (v := Int32.ofInt (0)) hx hb hr (fun t ht hW => ⟨⟨_, ((fup F 0 th), ar), rfl, ⟨_, rfl, hpost⟩, by rw [ht]; exact hP, va_K.moved hW.alike hK, hD⟩, hS.F ht⟩) hS.2.2 dX12_fraction_23
  · skip
    refine g_if_ne (tgt := 11) hx hb (g_cmp_i _ _) dX12_fraction_4 (by decide) (fun c_4 => ?_) (fun c_4 => ?_)
    · skip
      refine lv_iconst (v := Int32.ofInt (0)) hx hb dX12_fraction_11 (by decide) ?_
      exact k_12 _ (by first | exact Or.inl ⟨g_cmp_eq.mp c_4, rfl⟩ | exact Or.inr ⟨mt g_cmp_eq.mpr c_4, rfl⟩)
    · skip
      refine lv_iconst (v := Int32.ofInt (1)) hx hb dX12_fraction_7 (by decide) ?_
      refine lv_goto (tgt := 12) hx hb dX12_fraction_8 (by decide) ?_
      exact k_12 _ (by first | exact Or.inl ⟨g_cmp_eq.mp c_4, rfl⟩ | exact Or.inr ⟨mt g_cmp_eq.mpr c_4, rfl⟩)
