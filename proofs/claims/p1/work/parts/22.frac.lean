set_option maxHeartbeats 4000000 in
set_option maxRecDepth 100000 in
theorem c_putFraction {l : Launch} {dC : Nat → ClassId} {dI : Nat → Nat → Nat} {h0 : Nat} {ad : Nat → Nat} {cI cJ cB cZ : Nat} {F : Nat → Int} {ar : Nat → Int → Int} {sz : Nat} {sl u lo : Int} (t0 : 0 ≤ F 2) (t1 : F 2 ≤ 100000) (u0 : 0 ≤ u) (u1 : u + nsz (ar 1) u < F 2) (u2 : nsz (ar 1) u ≤ 3) (nu : nm (ar 1) u) (l0 : 0 ≤ lo) (l1 : lo + nsz (ar 1) lo < F 2) (l2 : nsz (ar 1) lo ≤ 3) (nl : nm (ar 1) lo) (lz : nsz (ar 1) lo ≠ 0) (s0 : 0 ≤ sl) (s1 : sl < 260) (f0 : 1 ≤ F 25) (f1 : F 25 ≤ 10) (hk : hok (ar 1)) (hk5 : hok (ar 5)) (hk6 : hok (ar 6)) : Met l yX12_putFraction (Cond.code yX12_putFraction cX12_putFraction 7 (some .int) :: w0r) (rRm 5 150) (rPc dC dI h0 ad cI cJ cB cZ F ar sz [Iz (sl), Iz (u), Iz (lo)]) (rQi dC dI h0 ad cI cJ cB cZ sz (fun z F' ar' => z = 0 ∧ (∀ j : Nat, j ≠ 2 → j ≠ 3 → j ≠ 4 → F' j = F j) ∧ (∀ j : Nat, j ≠ 1 → j ≠ 5 → j ≠ 6 → j ≠ 21 → j ≠ 22 → j ≠ 23 → ar' j = ar j))) 0 0 (rA h0 ad sz) := by
  refine Met.ofW (cc := cX12_putFraction) (maxL := 7) (ret := (some .int)) (by decide) rfl ?_
  intro p e s m args below meth c s₁ B hml hv
  obtain ⟨rfl, hsz, hP, hK, hD0⟩ := hv
  have hx := B.exec
  have hb := B.bytes
  have hr := B.returns
  have hts := atoms_spec (ws := Cond.code yX12_putFraction cX12_putFraction 7 (some .int) :: w0r) B.pre
  have hown : s.vm.findClass RX12 = some m.cls := findClass_of_methodNamed B.named
  have hlocks := B.notSynchronized
  have E : CallFix p m c cX12_putFraction 7 s _ (Cond.code yX12_putFraction cX12_putFraction 7 (some .int) :: w0r) RX12 := ⟨hx, hb, hml, hown, hts⟩
  subst hsz
  have hD := rA_self s.heap.size hD0
  have hA : ∀ q : Nat, s.heap.size ≤ q → rA h0 ad s.heap.size q := fun q h => Or.inr h
  have hS : va_S (rA h0 ad s.heap.size) s.heap s.heap [] := va_S.rf
  have hl := lv_entry ([.ref h0, Iz (sl), Iz (u), Iz (lo)]) (n := 7) (Nat.le_of_ble_eq_true rfl)
  rw [lg_entry_eq]
  generalize (lg_sl ([.ref h0, Iz (sl), Iz (u), Iz (lo)]) ++ List.replicate (7 - (lg_sl ([.ref h0, Iz (sl), Iz (u), Iz (lo)])).length) Slot.unset).toArray = ls at hl ⊢
  have hl : lv_has ls 7 [(0, .ref h0), (1, Iz (sl)), (2, Iz (u)), (3, Iz (lo))] := hl
  refine lv_aload_n hx hb dX12_putFraction_0 rfl (lv_at hl 0 rfl) ?_
  refine lv_iload_n hx hb dX12_putFraction_1 rfl (lv_at hl 2 rfl) ?_
  refine lv_iload_n hx hb dX12_putFraction_2 rfl (lv_at hl 3 rfl) ?_
  refine r_calli (As := [Iz (u), Iz (lo)]) (rest := []) E (c_greatestDivisor (F := F) (ar := ar) (a := u) (b := lo) t0 (by omega) u0 u1 (by omega) l0 l1 (by omega) hk hk5 nu nl) (cwV 2 hts (rGood ml_104 mi_greatestDivisor ms_greatestDivisor mn_RX12 mc_greatestDivisor) rfl rfl rfl (by decide +kernel) ⟨Nat.le_of_ble_eq_true rfl, Nat.le_of_ble_eq_true rfl⟩) hK hP hD hS hA rfl hl.1 (Nat.le_of_ble_eq_true rfl) dX12_putFraction_3 ⟨Nat.le_refl 0, Nat.le_refl 0⟩ (fun z3 F3 ar3 H locs q3 hP hD hS => ?_)
  obtain ⟨g1, g2, g3, g4, g5, g6, g7, g8, g9, g10, g11⟩ := q3
  refine lv_istore (lv' := [(4, Iz (z3)), (0, .ref h0), (1, Iz (sl)), (2, Iz (u)), (3, Iz (lo))]) hx hb dX12_putFraction_6 hl (by decide) rfl (fun ls hl => ?_)
  have eu : nsz (ar3 1) u = nsz (ar 1) u := nsz_agree (g3 u (by have := nsz_nonneg (ar 1) u; omega))
  have nu3 : nm (ar3 1) u := nm_agree (fun i h1 h2 => g3 i (by omega)) nu
  have gz := g11 (Or.inr lz)
  have sg := nsz_nonneg (ar3 1) z3
  refine lv_aload_n hx hb dX12_putFraction_8 rfl (lv_at hl 1 rfl) ?_
  refine lv_iload_n hx hb dX12_putFraction_9 rfl (lv_at hl 3 rfl) ?_
  refine lv_iload hx hb dX12_putFraction_10 (lv_at hl 0 rfl) ?_
  refine r_calli (As := [Iz (u), Iz (z3)]) (rest := []) E (c_over (F := F3) (ar := ar3) (a := u) (b := z3) (by omega) u0 (by omega) (by omega) g7 (by omega) g4 nu3 g9 (by omega)) (cwV 2 hts (rGood ml_110 mi_over ms_over mn_RX12 mc_over) rfl rfl rfl (by decide +kernel) ⟨Nat.le_of_ble_eq_true rfl, Nat.le_of_ble_eq_true rfl⟩) hK hP hD hS hA rfl hl.1 (Nat.le_of_ble_eq_true rfl) dX12_putFraction_12 ⟨Nat.le_refl 0, Nat.le_refl 0⟩ (fun z12 F12 ar12 H locs q12 hP hD hS => ?_)
  obtain ⟨⟨v1, v2, v3, v4, v5, v6, v7, v8, v9, v10, v11, v12, v13⟩, zz⟩ := q12
  obtain rfl : z12 = F12 3 := zz
  refine lv_istore (lv' := [(5, Iz (F12 3)), (4, Iz (z3)), (0, .ref h0), (1, Iz (sl)), (2, Iz (u)), (3, Iz (lo))]) hx hb dX12_putFraction_15 hl (by decide) rfl (fun ls hl => ?_)
  have el : nsz (ar12 1) lo = nsz (ar 1) lo := nsz_agree ((v3 lo (by have := nsz_nonneg (ar 1) lo; omega)).trans (g3 lo (by have := nsz_nonneg (ar 1) lo; omega)))
  have nl3 : nm (ar12 1) lo := nm_agree (fun i h1 h2 => (v3 i (by omega)).trans (g3 i (by omega))) nl
  have ez : nsz (ar12 1) z3 = nsz (ar3 1) z3 := nsz_agree (v3 z3 (by omega))
  have nz12 : nm (ar12 1) z3 := nm_agree (fun i h1 h2 => v3 i (by omega)) g9
  have q4_ := nsz_nonneg (ar12 1) (F12 3)
  have q5_ := nsz_nonneg (ar12 1) (F12 4)
  refine lv_aload_n hx hb dX12_putFraction_17 rfl (lv_at hl 2 rfl) ?_
  refine lv_iload_n hx hb dX12_putFraction_18 rfl (lv_at hl 5 rfl) ?_
  refine lv_iload hx hb dX12_putFraction_19 (lv_at hl 1 rfl) ?_
  refine r_calli (As := [Iz (lo), Iz (z3)]) (rest := []) E (c_over (F := F12) (ar := ar12) (a := lo) (b := z3) (by omega) l0 (by omega) (by omega) (by omega) (by omega) v4 nl3 nz12 (by omega)) (cwV 2 hts (rGood ml_110 mi_over ms_over mn_RX12 mc_over) rfl rfl rfl (by decide +kernel) ⟨Nat.le_of_ble_eq_true rfl, Nat.le_of_ble_eq_true rfl⟩) hK hP hD hS hA rfl hl.1 (Nat.le_of_ble_eq_true rfl) dX12_putFraction_21 ⟨Nat.le_refl 0, Nat.le_refl 0⟩ (fun z21 F21 ar21 H locs q21 hP hD hS => ?_)
  obtain ⟨⟨w1, w2, w3, w4, w5, w6, w7, w8, w9, w10, w11, w12, w13⟩, zz⟩ := q21
  obtain rfl : z21 = F21 3 := zz
  refine lv_istore (lv' := [(6, Iz (F21 3)), (5, Iz (F12 3)), (4, Iz (z3)), (0, .ref h0), (1, Iz (sl)), (2, Iz (u)), (3, Iz (lo))]) hx hb dX12_putFraction_24 hl (by decide) rfl (fun ls hl => ?_)
  refine lv_aload_n hx hb dX12_putFraction_26 rfl (lv_at hl 3 rfl) ?_
  have ea : nsz (ar21 1) (F12 3) = nsz (ar12 1) (F12 3) := nsz_agree (w3 _ (by omega))
  have q6_ := nsz_nonneg (ar21 1) (F21 3)
  have q7_ := nsz_nonneg (ar21 1) (F21 4)
  have k6 : ar21 6 = ar 6 := (w2 6 (by decide)).trans ((v2 6 (by decide)).trans (g2 6 (by decide) (by decide)))
  have pF : ∀ j : Nat, j ≠ 2 → j ≠ 3 → j ≠ 4 → F21 j = F j := fun j a b c => (w1 j a b c).trans ((v1 j a b c).trans (g1 j a b c))
  have pA : ∀ j : Nat, j ≠ 1 → j ≠ 5 → ar21 j = ar j := fun j a b => (w2 j a).trans ((v2 j a).trans (g2 j a b))
  refine r_geti E hK hP (k := 6) (v := .ref (ad 6)) (by decide) mf_86 rfl rfl dX12_putFraction_27 ?_
  refine lv_iconst (v := Int32.ofInt (0)) hx hb dX12_putFraction_30 (by decide) ?_
  refine lv_aload_n hx hb dX12_putFraction_31 rfl (lv_at hl 3 rfl) ?_
  refine lv_iload hx hb dX12_putFraction_32 (lv_at hl 0 rfl) ?_
  refine r_calli (As := [Iz (F21 3)]) (rest := [Iz (0), .ref (ad 6)]) E (c_signOf (F := F21) (ar := ar21) (a := F21 3) (by omega) (by omega) w4) (cwV 1 hts (rGood ml_27 mi_signOf ms_signOf mn_RX12 mc_signOf) rfl rfl rfl (by decide +kernel) ⟨Nat.le_of_ble_eq_true rfl, Nat.le_of_ble_eq_true rfl⟩) hK hP hD hS hA rfl hl.1 (Nat.le_of_ble_eq_true rfl) dX12_putFraction_34 ⟨Nat.le_refl 0, Nat.le_refl 0⟩ (fun z34 F34 ar34 H locs q34 hP hD hS => ?_)
  obtain ⟨e1_, e2_, e3_⟩ := q34
  obtain rfl := e1_.symm
  obtain rfl := e2_.symm
  obtain rfl := e3_.symm
  refine g_if_ge (tgt := 45) hx hb (nsg_i _ _) dX12_putFraction_37 (by decide) (fun c_37 => ?_) (fun c_37 => ?_)
  · skip
    refine lv_aload_n hx hb dX12_putFraction_45 rfl (lv_at hl 3 rfl) ?_
    refine lv_iload hx hb dX12_putFraction_46 (lv_at hl 1 rfl) ?_
    refine r_calli (As := [Iz (F12 3)]) (rest := [Iz (0), .ref (ad 6)]) E (c_negated (F := F21) (ar := ar21) (a := F12 3) (by omega) (by omega) (by omega) (by omega) w4) (cwV 1 hts (rGood ml_34 mi_negated ms_negated mn_RX12 mc_negated) rfl rfl rfl (by decide +kernel) ⟨Nat.le_of_ble_eq_true rfl, Nat.le_of_ble_eq_true rfl⟩) hK hP hD hS hA rfl hl.1 (Nat.le_of_ble_eq_true rfl) dX12_putFraction_48 ⟨Nat.le_refl 0, Nat.le_refl 0⟩ (fun z48 F48 ar48 H locs q48 hP hD hS => ?_)
    obtain ⟨zz, n1, n2, n3, n4⟩ := q48
    obtain rfl : z48 = F21 2 := zz
    refine g_iast (f := (ar48 6)) hx hb hK hP hD hS 3 0 rfl rfl (by omega) (by omega) (by decide) dX12_putFraction_51 (fun H locs hP hD hS => ?_)
    rw [sa_6] at hP hD
    refine r_loop (P := fun N_ H locs ls => ∃ (F1 : Nat → Int) (ar1 : Nat → Int → Int), N_ = 0 ∧ (∀ j : Nat, j ≠ 2 → j ≠ 3 → j ≠ 4 → F1 j = F j) ∧ (0 ≤ F1 2 ∧ F1 2 ≤ F 2 + 30000) ∧ (hok (ar1 1)) ∧ (hok (ar1 6)) ∧ (∀ j : Nat, j ≠ 1 → j ≠ 5 → j ≠ 6 → ar1 j = ar j) ∧ (0 ≤ ar1 6 0 ∧ ar1 6 0 + nsz (ar1 1) (ar1 6 0) < F1 2 ∧ nsz (ar1 1) (ar1 6 0) ≤ 3) ∧ (0 ≤ F21 3 ∧ F21 3 + nsz (ar1 1) (F21 3) < F1 2 ∧ nsz (ar1 1) (F21 3) ≤ 3) ∧ va_P (dC, dI) rcl (mW h0 ad cI cJ cB cZ F1 ar1) H ∧ va_D (rA h0 ad s.heap.size) (mW h0 ad cI cJ cB cZ F1 ar1) ∧ va_S (rA h0 ad s.heap.size) s.heap H locs ∧ lv_has ls 7 [(0, .ref h0), (1, Iz (sl)), (2, Iz (u)), (3, Iz (lo)), (4, Iz (z3)), (5, Iz (F12 3)), (6, Iz (F21 3))]) (g := fun ls => F0 m 52 ls []) (fun N_ H locs ls hI ih_52 => ?_) _ _ _ _ ⟨F48, (aup ar48 6 (iup (ar48 6) 0 (F21 2))), rfl, (by first | exact fun j a b c => (n1.1 j a).trans (pF j a b c) | exact pF), (by first | (constructor <;> omega)), (by first | exact n1.2.2.2 | exact w4), (by first | exact hok_up (by rw [n1.2.1 6 (by decide), k6]; exact hk6) (by omega) (by omega) | exact hok_up (by rw [k6]; exact hk6) (by omega) (by omega)), (fun j a b c => by rw [aup_ne _ _ c]; first | exact (n1.2.1 j a).trans (pA j a b) | exact pA j a b), (by first | (show 0 ≤ iup (ar48 6) 0 (F21 2) 0 ∧ iup (ar48 6) 0 (F21 2) 0 + nsz (ar48 1) (iup (ar48 6) 0 (F21 2) 0) < _ ∧ nsz (ar48 1) (iup (ar48 6) 0 (F21 2) 0) ≤ 3; rw [iup_self, n2, ea]; omega) | (show 0 ≤ iup (ar21 6) 0 (F12 3) 0 ∧ iup (ar21 6) 0 (F12 3) 0 + nsz (ar21 1) (iup (ar21 6) 0 (F12 3) 0) < _ ∧ nsz (ar21 1) (iup (ar21 6) 0 (F12 3) 0) ≤ 3; rw [iup_self, ea]; omega)), (by first | (show 0 ≤ F21 3 ∧ F21 3 + nsz (ar48 1) (F21 3) < _ ∧ nsz (ar48 1) (F21 3) ≤ 3; rw [nsz_agree (n1.2.2.1 (F21 3) (by omega))]; omega) | (show 0 ≤ F21 3 ∧ F21 3 + nsz (ar21 1) (F21 3) < _ ∧ nsz (ar21 1) (F21 3) ≤ 3; omega)), hP, hD, hS, lv_sub hl [3, 4, 5, 6, 2, 1, 0] rfl⟩
    obtain ⟨F1, ar1, rfl, p1, p5, h1_, h6_, pk, rz, bz, hP, hD, hS, hl⟩ := hI
    refine lv_aload_n hx hb dX12_putFraction_52 rfl (lv_at hl 0 rfl) ?_
    refine r_geti E hK hP (k := 6) (v := .ref (ad 6)) (by decide) mf_86 rfl rfl dX12_putFraction_53 ?_
    refine lv_iconst (v := Int32.ofInt (1)) hx hb dX12_putFraction_56 (by decide) ?_
    refine lv_aload_n hx hb dX12_putFraction_57 rfl (lv_at hl 0 rfl) ?_
    refine lv_iload hx hb dX12_putFraction_58 (lv_at hl 6 rfl) ?_
    refine r_calli (As := [Iz (F21 3)]) (rest := [Iz (1), .ref (ad 6)]) E (c_signOf (F := F1) (ar := ar1) (a := F21 3) (by omega) (by have := nsz_nonneg (ar1 1) (F21 3); omega) h1_) (cwV 1 hts (rGood ml_27 mi_signOf ms_signOf mn_RX12 mc_signOf) rfl rfl rfl (by decide +kernel) ⟨Nat.le_of_ble_eq_true rfl, Nat.le_of_ble_eq_true rfl⟩) hK hP hD hS hA rfl hl.1 (Nat.le_of_ble_eq_true rfl) dX12_putFraction_60 ⟨Nat.le_refl 0, Nat.le_refl 0⟩ (fun z60 F60 ar60 H locs q60 hP hD hS => ?_)
    obtain ⟨e1_, e2_, e3_⟩ := q60
    obtain rfl := e1_.symm
    obtain rfl := e2_.symm
    obtain rfl := e3_.symm
    refine g_if_ge (tgt := 75) hx hb (nsg_i _ _) dX12_putFraction_63 (by decide) (fun c_63 => ?_) (fun c_63 => ?_)
    · skip
      refine lv_iload hx hb dX12_putFraction_75 (lv_at hl 6 rfl) ?_
      refine g_iast (f := (ar1 6)) hx hb hK hP hD hS 3 0 rfl rfl (by omega) (by omega) (by decide) dX12_putFraction_77 (fun H locs hP hD hS => ?_)
      rw [sa_6] at hP hD
      refine r_loop (P := fun N_ H locs ls => ∃ (F2_ : Nat → Int) (ar2_ : Nat → Int → Int), N_ = 0 ∧ (∀ j : Nat, j ≠ 2 → j ≠ 3 → j ≠ 4 → F2_ j = F j) ∧ (0 ≤ F2_ 2 ∧ F2_ 2 ≤ F 2 + 40000) ∧ (hok (ar2_ 1)) ∧ (hok (ar2_ 6)) ∧ (∀ j : Nat, j ≠ 1 → j ≠ 5 → j ≠ 6 → ar2_ j = ar j) ∧ (0 ≤ ar2_ 6 0 ∧ ar2_ 6 0 + nsz (ar2_ 1) (ar2_ 6 0) < F2_ 2 ∧ nsz (ar2_ 1) (ar2_ 6 0) ≤ 3) ∧ (0 ≤ ar2_ 6 1 ∧ ar2_ 6 1 + nsz (ar2_ 1) (ar2_ 6 1) < F2_ 2 ∧ nsz (ar2_ 1) (ar2_ 6 1) ≤ 3) ∧ va_P (dC, dI) rcl (mW h0 ad cI cJ cB cZ F2_ ar2_) H ∧ va_D (rA h0 ad s.heap.size) (mW h0 ad cI cJ cB cZ F2_ ar2_) ∧ va_S (rA h0 ad s.heap.size) s.heap H locs ∧ lv_has ls 7 [(0, .ref h0), (1, Iz (sl)), (2, Iz (u)), (3, Iz (lo)), (4, Iz (z3)), (5, Iz (F12 3)), (6, Iz (F21 3))]) (g := fun ls => F0 m 78 ls []) (fun N_ H locs ls hI ih_78 => ?_) _ _ _ _ ⟨F1, (aup ar1 6 (iup (ar1 6) 1 (F21 3))), rfl, (by first | exact fun j a b c => (n1.1 j a).trans (p1 j a b c) | exact p1), (by first | (constructor <;> omega)), (by first | exact n1.2.2.2 | exact h1_), (by first | exact hok_up (by rw [n1.2.1 6 (by decide)]; exact h6_) (by omega) (by omega) | exact hok_up h6_ (by omega) (by omega)), (fun j a b c => by rw [aup_ne _ _ c]; first | exact (n1.2.1 j a).trans (pk j a b c) | exact pk j a b c), (by first | (show 0 ≤ iup (ar69 6) 1 (F1 2) 0 ∧ iup (ar69 6) 1 (F1 2) 0 + nsz (ar69 1) (iup (ar69 6) 1 (F1 2) 0) < _ ∧ nsz (ar69 1) (iup (ar69 6) 1 (F1 2) 0) ≤ 3; rw [iup_ne (by omega), n1.2.1 6 (by decide), nsz_agree (n1.2.2.1 (ar1 6 0) (by have := nsz_nonneg (ar1 1) (ar1 6 0); omega))]; omega) | (show 0 ≤ iup (ar1 6) 1 (F21 3) 0 ∧ iup (ar1 6) 1 (F21 3) 0 + nsz (ar1 1) (iup (ar1 6) 1 (F21 3) 0) < _ ∧ nsz (ar1 1) (iup (ar1 6) 1 (F21 3) 0) ≤ 3; rw [iup_ne (by omega)]; exact rz)), (by first | (show 0 ≤ iup (ar69 6) 1 (F1 2) 1 ∧ iup (ar69 6) 1 (F1 2) 1 + nsz (ar69 1) (iup (ar69 6) 1 (F1 2) 1) < _ ∧ nsz (ar69 1) (iup (ar69 6) 1 (F1 2) 1) ≤ 3; rw [iup_self, n2]; omega) | (show 0 ≤ iup (ar1 6) 1 (F21 3) 1 ∧ iup (ar1 6) 1 (F21 3) 1 + nsz (ar1 1) (iup (ar1 6) 1 (F21 3) 1) < _ ∧ nsz (ar1 1) (iup (ar1 6) 1 (F21 3) 1) ≤ 3; rw [iup_self]; exact bz)), hP, hD, hS, lv_sub hl [0, 1, 2, 3, 4, 5, 6] rfl⟩
      obtain ⟨F2_, ar2_, rfl, p1, p5, h1_, h6_, pk, rz, ro, hP, hD, hS, hl⟩ := hI
      have kk6 : ∀ t : Int, 0 ≤ t → t < 2 → 0 ≤ ar2_ 6 t ∧ ar2_ 6 t < 6000000 := fun t a b => by
        have q0_ := nsz_nonneg (ar2_ 1) (ar2_ 6 0)
        have q1_ := nsz_nonneg (ar2_ 1) (ar2_ 6 1)
        rcases (show t = 0 ∨ t = 1 by omega) with rfl | rfl
        · omega
        · omega
      refine lv_aload_n hx hb dX12_putFraction_78 rfl (lv_at hl 0 rfl) ?_
      refine lv_iload_n hx hb dX12_putFraction_79 rfl (lv_at hl 1 rfl) ?_
      refine lv_aload_n hx hb dX12_putFraction_80 rfl (lv_at hl 0 rfl) ?_
      refine lv_iconst (v := Int32.ofInt (2)) hx hb dX12_putFraction_81 (by decide) ?_
      refine r_calli (As := [Iz (2)]) (rest := [Iz (sl), .ref h0]) E (c_polynomialOf (F := F2_) (ar := ar2_) (n := 2) (by omega) (by omega) (by omega) (by omega) h1_ h6_ kk6) (cwV 1 hts (rGood ml_89 mi_polynomialOf ms_polynomialOf mn_RX12 mc_polynomialOf) rfl rfl rfl (by decide +kernel) ⟨Nat.le_of_ble_eq_true rfl, Nat.le_of_ble_eq_true rfl⟩) hK hP hD hS hA rfl hl.1 (Nat.le_of_ble_eq_true rfl) dX12_putFraction_82 ⟨Nat.le_refl 0, Nat.le_refl 0⟩ (fun z82 F82 ar82 H locs q82 hP hD hS => ?_)
      obtain ⟨dd, c1, c2, zz, c4, c5, c6, c7, c8⟩ := q82
      obtain rfl : z82 = F2_ 2 := zz
      have pv : ∀ i : Int, 0 ≤ i → i ≤ ar82 1 (F2_ 2) → 0 ≤ ar82 1 (F2_ 2 + 1 + i) ∧ ar82 1 (F2_ 2 + 1 + i) + nsz (ar82 1) (ar82 1 (F2_ 2 + 1 + i)) < 6000000 ∧ nsz (ar82 1) (ar82 1 (F2_ 2 + 1 + i)) ≤ 3 := fun i a b => by
        have q0_ := nsz_nonneg (ar2_ 1) (ar2_ 6 0)
        have q1_ := nsz_nonneg (ar2_ 1) (ar2_ 6 1)
        rw [c5] at b
        rw [c6 i a b]
        rcases (show i = 0 ∨ i = 1 by omega) with rfl | rfl
        · rw [nsz_agree (c4.2.2.1 (ar2_ 6 0) (by omega))]; omega
        · rw [nsz_agree (c4.2.2.1 (ar2_ 6 1) (by omega))]; omega
      have em : ar82 1 (F2_ 2) ≤ F82 25 := by rw [c5, c4.1 25 (by decide), p1 25 (by decide) (by decide) (by decide)]; omega
      have em2 : F82 25 ≤ 10 := by rw [c4.1 25 (by decide), p1 25 (by decide) (by decide) (by decide)]; exact f1
      refine lv_iconst (v := Int32.ofInt (0)) hx hb dX12_putFraction_85 (by decide) ?_
      refine r_calli (As := [Iz (sl), Iz (F2_ 2), Iz (0)]) (rest := []) E (c_put (F := F82) (ar := ar82) (sl := sl) (q := F2_ 2) (pl := 0) (by omega) (by omega) c4.2.2.2 (by omega) (by omega) pv em em2 s0 s1) (cwV 3 hts (rGood ml_295 mi_put ms_put mn_RX12 mc_put) rfl rfl rfl (by decide +kernel) ⟨Nat.le_of_ble_eq_true rfl, Nat.le_of_ble_eq_true rfl⟩) hK hP hD hS hA rfl hl.1 (Nat.le_of_ble_eq_true rfl) dX12_putFraction_86 ⟨Nat.le_refl 0, Nat.le_refl 0⟩ (fun z86 F86 ar86 H locs q86 hP hD hS => ?_)
      obtain ⟨zz, e1, e2⟩ := q86
      obtain rfl : z86 = 0 := zz
      obtain rfl := e1.symm
      have hpost : (0 : Int) = 0 ∧ (∀ j : Nat, j ≠ 2 → j ≠ 3 → j ≠ 4 → F82 j = F j) ∧ (∀ j : Nat, j ≠ 1 → j ≠ 5 → j ≠ 6 → j ≠ 21 → j ≠ 22 → j ≠ 23 → ar86 j = ar j) := ⟨rfl, fun j a b c => (c4.1 j a).trans (p1 j a b c), fun j a b c d e f => (e2 j d e f).trans ((c4.2.1 j a).trans (pk j a b c))⟩
      exact W.iret (v := Int32.ofInt (0)) hx hb hr (fun t ht hW => ⟨⟨_, (F82, ar86), rfl, ⟨_, rfl, hpost⟩, by rw [ht]; exact hP, va_K.moved hW.alike hK, hD⟩, hS.F ht⟩) hS.2.2 dX12_putFraction_89
    · skip
      refine lv_aload_n hx hb dX12_putFraction_66 rfl (lv_at hl 0 rfl) ?_
      refine lv_iload hx hb dX12_putFraction_67 (lv_at hl 6 rfl) ?_
      refine r_calli (As := [Iz (F21 3)]) (rest := [Iz (1), .ref (ad 6)]) E (c_negated (F := F1) (ar := ar1) (a := F21 3) (by omega) (by omega) (by omega) (by omega) h1_) (cwV 1 hts (rGood ml_34 mi_negated ms_negated mn_RX12 mc_negated) rfl rfl rfl (by decide +kernel) ⟨Nat.le_of_ble_eq_true rfl, Nat.le_of_ble_eq_true rfl⟩) hK hP hD hS hA rfl hl.1 (Nat.le_of_ble_eq_true rfl) dX12_putFraction_69 ⟨Nat.le_refl 0, Nat.le_refl 0⟩ (fun z69 F69 ar69 H locs q69 hP hD hS => ?_)
      obtain ⟨zz, n1, n2, n3, n4⟩ := q69
      obtain rfl : z69 = F1 2 := zz
      have q8_ := nsz_nonneg (ar1 1) (F21 3)
      have q9_ := nsz_nonneg (ar1 1) (ar1 6 0)
      have q10_ := nsz_nonneg (ar69 1) (F1 2)
      refine lv_goto (tgt := 77) hx hb dX12_putFraction_72 (by decide) ?_
      refine g_iast (f := (ar69 6)) hx hb hK hP hD hS 3 0 rfl rfl (by omega) (by omega) (by decide) dX12_putFraction_77 (fun H locs hP hD hS => ?_)
      rw [sa_6] at hP hD
      refine r_loop (P := fun N_ H locs ls => ∃ (F2_ : Nat → Int) (ar2_ : Nat → Int → Int), N_ = 0 ∧ (∀ j : Nat, j ≠ 2 → j ≠ 3 → j ≠ 4 → F2_ j = F j) ∧ (0 ≤ F2_ 2 ∧ F2_ 2 ≤ F 2 + 40000) ∧ (hok (ar2_ 1)) ∧ (hok (ar2_ 6)) ∧ (∀ j : Nat, j ≠ 1 → j ≠ 5 → j ≠ 6 → ar2_ j = ar j) ∧ (0 ≤ ar2_ 6 0 ∧ ar2_ 6 0 + nsz (ar2_ 1) (ar2_ 6 0) < F2_ 2 ∧ nsz (ar2_ 1) (ar2_ 6 0) ≤ 3) ∧ (0 ≤ ar2_ 6 1 ∧ ar2_ 6 1 + nsz (ar2_ 1) (ar2_ 6 1) < F2_ 2 ∧ nsz (ar2_ 1) (ar2_ 6 1) ≤ 3) ∧ va_P (dC, dI) rcl (mW h0 ad cI cJ cB cZ F2_ ar2_) H ∧ va_D (rA h0 ad s.heap.size) (mW h0 ad cI cJ cB cZ F2_ ar2_) ∧ va_S (rA h0 ad s.heap.size) s.heap H locs ∧ lv_has ls 7 [(0, .ref h0), (1, Iz (sl)), (2, Iz (u)), (3, Iz (lo)), (4, Iz (z3)), (5, Iz (F12 3)), (6, Iz (F21 3))]) (g := fun ls => F0 m 78 ls []) (fun N_ H locs ls hI ih_78 => ?_) _ _ _ _ ⟨F69, (aup ar69 6 (iup (ar69 6) 1 (F1 2))), rfl, (by first | exact fun j a b c => (n1.1 j a).trans (p1 j a b c) | exact p1), (by first | (constructor <;> omega)), (by first | exact n1.2.2.2 | exact h1_), (by first | exact hok_up (by rw [n1.2.1 6 (by decide)]; exact h6_) (by omega) (by omega) | exact hok_up h6_ (by omega) (by omega)), (fun j a b c => by rw [aup_ne _ _ c]; first | exact (n1.2.1 j a).trans (pk j a b c) | exact pk j a b c), (by first | (show 0 ≤ iup (ar69 6) 1 (F1 2) 0 ∧ iup (ar69 6) 1 (F1 2) 0 + nsz (ar69 1) (iup (ar69 6) 1 (F1 2) 0) < _ ∧ nsz (ar69 1) (iup (ar69 6) 1 (F1 2) 0) ≤ 3; rw [iup_ne (by omega), n1.2.1 6 (by decide), nsz_agree (n1.2.2.1 (ar1 6 0) (by have := nsz_nonneg (ar1 1) (ar1 6 0); omega))]; omega) | (show 0 ≤ iup (ar1 6) 1 (F21 3) 0 ∧ iup (ar1 6) 1 (F21 3) 0 + nsz (ar1 1) (iup (ar1 6) 1 (F21 3) 0) < _ ∧ nsz (ar1 1) (iup (ar1 6) 1 (F21 3) 0) ≤ 3; rw [iup_ne (by omega)]; exact rz)), (by first | (show 0 ≤ iup (ar69 6) 1 (F1 2) 1 ∧ iup (ar69 6) 1 (F1 2) 1 + nsz (ar69 1) (iup (ar69 6) 1 (F1 2) 1) < _ ∧ nsz (ar69 1) (iup (ar69 6) 1 (F1 2) 1) ≤ 3; rw [iup_self, n2]; omega) | (show 0 ≤ iup (ar1 6) 1 (F21 3) 1 ∧ iup (ar1 6) 1 (F21 3) 1 + nsz (ar1 1) (iup (ar1 6) 1 (F21 3) 1) < _ ∧ nsz (ar1 1) (iup (ar1 6) 1 (F21 3) 1) ≤ 3; rw [iup_self]; exact bz)), hP, hD, hS, lv_sub hl [0, 1, 2, 3, 4, 5, 6] rfl⟩
      obtain ⟨F2_, ar2_, rfl, p1, p5, h1_, h6_, pk, rz, ro, hP, hD, hS, hl⟩ := hI
      have kk6 : ∀ t : Int, 0 ≤ t → t < 2 → 0 ≤ ar2_ 6 t ∧ ar2_ 6 t < 6000000 := fun t a b => by
        have q0_ := nsz_nonneg (ar2_ 1) (ar2_ 6 0)
        have q1_ := nsz_nonneg (ar2_ 1) (ar2_ 6 1)
        rcases (show t = 0 ∨ t = 1 by omega) with rfl | rfl
        · omega
        · omega
      refine lv_aload_n hx hb dX12_putFraction_78 rfl (lv_at hl 0 rfl) ?_
      refine lv_iload_n hx hb dX12_putFraction_79 rfl (lv_at hl 1 rfl) ?_
      refine lv_aload_n hx hb dX12_putFraction_80 rfl (lv_at hl 0 rfl) ?_
      refine lv_iconst (v := Int32.ofInt (2)) hx hb dX12_putFraction_81 (by decide) ?_
      refine r_calli (As := [Iz (2)]) (rest := [Iz (sl), .ref h0]) E (c_polynomialOf (F := F2_) (ar := ar2_) (n := 2) (by omega) (by omega) (by omega) (by omega) h1_ h6_ kk6) (cwV 1 hts (rGood ml_89 mi_polynomialOf ms_polynomialOf mn_RX12 mc_polynomialOf) rfl rfl rfl (by decide +kernel) ⟨Nat.le_of_ble_eq_true rfl, Nat.le_of_ble_eq_true rfl⟩) hK hP hD hS hA rfl hl.1 (Nat.le_of_ble_eq_true rfl) dX12_putFraction_82 ⟨Nat.le_refl 0, Nat.le_refl 0⟩ (fun z82 F82 ar82 H locs q82 hP hD hS => ?_)
      obtain ⟨dd, c1, c2, zz, c4, c5, c6, c7, c8⟩ := q82
      obtain rfl : z82 = F2_ 2 := zz
      have pv : ∀ i : Int, 0 ≤ i → i ≤ ar82 1 (F2_ 2) → 0 ≤ ar82 1 (F2_ 2 + 1 + i) ∧ ar82 1 (F2_ 2 + 1 + i) + nsz (ar82 1) (ar82 1 (F2_ 2 + 1 + i)) < 6000000 ∧ nsz (ar82 1) (ar82 1 (F2_ 2 + 1 + i)) ≤ 3 := fun i a b => by
        have q0_ := nsz_nonneg (ar2_ 1) (ar2_ 6 0)
        have q1_ := nsz_nonneg (ar2_ 1) (ar2_ 6 1)
        rw [c5] at b
        rw [c6 i a b]
        rcases (show i = 0 ∨ i = 1 by omega) with rfl | rfl
        · rw [nsz_agree (c4.2.2.1 (ar2_ 6 0) (by omega))]; omega
        · rw [nsz_agree (c4.2.2.1 (ar2_ 6 1) (by omega))]; omega
      have em : ar82 1 (F2_ 2) ≤ F82 25 := by rw [c5, c4.1 25 (by decide), p1 25 (by decide) (by decide) (by decide)]; omega
      have em2 : F82 25 ≤ 10 := by rw [c4.1 25 (by decide), p1 25 (by decide) (by decide) (by decide)]; exact f1
      refine lv_iconst (v := Int32.ofInt (0)) hx hb dX12_putFraction_85 (by decide) ?_
      refine r_calli (As := [Iz (sl), Iz (F2_ 2), Iz (0)]) (rest := []) E (c_put (F := F82) (ar := ar82) (sl := sl) (q := F2_ 2) (pl := 0) (by omega) (by omega) c4.2.2.2 (by omega) (by omega) pv em em2 s0 s1) (cwV 3 hts (rGood ml_295 mi_put ms_put mn_RX12 mc_put) rfl rfl rfl (by decide +kernel) ⟨Nat.le_of_ble_eq_true rfl, Nat.le_of_ble_eq_true rfl⟩) hK hP hD hS hA rfl hl.1 (Nat.le_of_ble_eq_true rfl) dX12_putFraction_86 ⟨Nat.le_refl 0, Nat.le_refl 0⟩ (fun z86 F86 ar86 H locs q86 hP hD hS => ?_)
      obtain ⟨zz, e1, e2⟩ := q86
      obtain rfl : z86 = 0 := zz
      obtain rfl := e1.symm
      have hpost : (0 : Int) = 0 ∧ (∀ j : Nat, j ≠ 2 → j ≠ 3 → j ≠ 4 → F82 j = F j) ∧ (∀ j : Nat, j ≠ 1 → j ≠ 5 → j ≠ 6 → j ≠ 21 → j ≠ 22 → j ≠ 23 → ar86 j = ar j) := ⟨rfl, fun j a b c => (c4.1 j a).trans (p1 j a b c), fun j a b c d e f => (e2 j d e f).trans ((c4.2.1 j a).trans (pk j a b c))⟩
      exact W.iret (v := Int32.ofInt (0)) hx hb hr (fun t ht hW => ⟨⟨_, (F82, ar86), rfl, ⟨_, rfl, hpost⟩, by rw [ht]; exact hP, va_K.moved hW.alike hK, hD⟩, hS.F ht⟩) hS.2.2 dX12_putFraction_89
  · skip
    refine lv_iload hx hb dX12_putFraction_40 (lv_at hl 1 rfl) ?_
    refine lv_goto (tgt := 51) hx hb dX12_putFraction_42 (by decide) ?_
    refine g_iast (f := (ar21 6)) hx hb hK hP hD hS 3 0 rfl rfl (by omega) (by omega) (by decide) dX12_putFraction_51 (fun H locs hP hD hS => ?_)
    rw [sa_6] at hP hD
    refine r_loop (P := fun N_ H locs ls => ∃ (F1 : Nat → Int) (ar1 : Nat → Int → Int), N_ = 0 ∧ (∀ j : Nat, j ≠ 2 → j ≠ 3 → j ≠ 4 → F1 j = F j) ∧ (0 ≤ F1 2 ∧ F1 2 ≤ F 2 + 30000) ∧ (hok (ar1 1)) ∧ (hok (ar1 6)) ∧ (∀ j : Nat, j ≠ 1 → j ≠ 5 → j ≠ 6 → ar1 j = ar j) ∧ (0 ≤ ar1 6 0 ∧ ar1 6 0 + nsz (ar1 1) (ar1 6 0) < F1 2 ∧ nsz (ar1 1) (ar1 6 0) ≤ 3) ∧ (0 ≤ F21 3 ∧ F21 3 + nsz (ar1 1) (F21 3) < F1 2 ∧ nsz (ar1 1) (F21 3) ≤ 3) ∧ va_P (dC, dI) rcl (mW h0 ad cI cJ cB cZ F1 ar1) H ∧ va_D (rA h0 ad s.heap.size) (mW h0 ad cI cJ cB cZ F1 ar1) ∧ va_S (rA h0 ad s.heap.size) s.heap H locs ∧ lv_has ls 7 [(0, .ref h0), (1, Iz (sl)), (2, Iz (u)), (3, Iz (lo)), (4, Iz (z3)), (5, Iz (F12 3)), (6, Iz (F21 3))]) (g := fun ls => F0 m 52 ls []) (fun N_ H locs ls hI ih_52 => ?_) _ _ _ _ ⟨F21, (aup ar21 6 (iup (ar21 6) 0 (F12 3))), rfl, (by first | exact fun j a b c => (n1.1 j a).trans (pF j a b c) | exact pF), (by first | (constructor <;> omega)), (by first | exact n1.2.2.2 | exact w4), (by first | exact hok_up (by rw [n1.2.1 6 (by decide), k6]; exact hk6) (by omega) (by omega) | exact hok_up (by rw [k6]; exact hk6) (by omega) (by omega)), (fun j a b c => by rw [aup_ne _ _ c]; first | exact (n1.2.1 j a).trans (pA j a b) | exact pA j a b), (by first | (show 0 ≤ iup (ar48 6) 0 (F21 2) 0 ∧ iup (ar48 6) 0 (F21 2) 0 + nsz (ar48 1) (iup (ar48 6) 0 (F21 2) 0) < _ ∧ nsz (ar48 1) (iup (ar48 6) 0 (F21 2) 0) ≤ 3; rw [iup_self, n2, ea]; omega) | (show 0 ≤ iup (ar21 6) 0 (F12 3) 0 ∧ iup (ar21 6) 0 (F12 3) 0 + nsz (ar21 1) (iup (ar21 6) 0 (F12 3) 0) < _ ∧ nsz (ar21 1) (iup (ar21 6) 0 (F12 3) 0) ≤ 3; rw [iup_self, ea]; omega)), (by first | (show 0 ≤ F21 3 ∧ F21 3 + nsz (ar48 1) (F21 3) < _ ∧ nsz (ar48 1) (F21 3) ≤ 3; rw [nsz_agree (n1.2.2.1 (F21 3) (by omega))]; omega) | (show 0 ≤ F21 3 ∧ F21 3 + nsz (ar21 1) (F21 3) < _ ∧ nsz (ar21 1) (F21 3) ≤ 3; omega)), hP, hD, hS, lv_sub hl [3, 4, 5, 6, 2, 1, 0] rfl⟩
    obtain ⟨F1, ar1, rfl, p1, p5, h1_, h6_, pk, rz, bz, hP, hD, hS, hl⟩ := hI
    refine lv_aload_n hx hb dX12_putFraction_52 rfl (lv_at hl 0 rfl) ?_
    refine r_geti E hK hP (k := 6) (v := .ref (ad 6)) (by decide) mf_86 rfl rfl dX12_putFraction_53 ?_
    refine lv_iconst (v := Int32.ofInt (1)) hx hb dX12_putFraction_56 (by decide) ?_
    refine lv_aload_n hx hb dX12_putFraction_57 rfl (lv_at hl 0 rfl) ?_
    refine lv_iload hx hb dX12_putFraction_58 (lv_at hl 6 rfl) ?_
    refine r_calli (As := [Iz (F21 3)]) (rest := [Iz (1), .ref (ad 6)]) E (c_signOf (F := F1) (ar := ar1) (a := F21 3) (by omega) (by have := nsz_nonneg (ar1 1) (F21 3); omega) h1_) (cwV 1 hts (rGood ml_27 mi_signOf ms_signOf mn_RX12 mc_signOf) rfl rfl rfl (by decide +kernel) ⟨Nat.le_of_ble_eq_true rfl, Nat.le_of_ble_eq_true rfl⟩) hK hP hD hS hA rfl hl.1 (Nat.le_of_ble_eq_true rfl) dX12_putFraction_60 ⟨Nat.le_refl 0, Nat.le_refl 0⟩ (fun z60 F60 ar60 H locs q60 hP hD hS => ?_)
    obtain ⟨e1_, e2_, e3_⟩ := q60
    obtain rfl := e1_.symm
    obtain rfl := e2_.symm
    obtain rfl := e3_.symm
    refine g_if_ge (tgt := 75) hx hb (nsg_i _ _) dX12_putFraction_63 (by decide) (fun c_63 => ?_) (fun c_63 => ?_)
    · skip
      refine lv_iload hx hb dX12_putFraction_75 (lv_at hl 6 rfl) ?_
      refine g_iast (f := (ar1 6)) hx hb hK hP hD hS 3 0 rfl rfl (by omega) (by omega) (by decide) dX12_putFraction_77 (fun H locs hP hD hS => ?_)
      rw [sa_6] at hP hD
      refine r_loop (P := fun N_ H locs ls => ∃ (F2_ : Nat → Int) (ar2_ : Nat → Int → Int), N_ = 0 ∧ (∀ j : Nat, j ≠ 2 → j ≠ 3 → j ≠ 4 → F2_ j = F j) ∧ (0 ≤ F2_ 2 ∧ F2_ 2 ≤ F 2 + 40000) ∧ (hok (ar2_ 1)) ∧ (hok (ar2_ 6)) ∧ (∀ j : Nat, j ≠ 1 → j ≠ 5 → j ≠ 6 → ar2_ j = ar j) ∧ (0 ≤ ar2_ 6 0 ∧ ar2_ 6 0 + nsz (ar2_ 1) (ar2_ 6 0) < F2_ 2 ∧ nsz (ar2_ 1) (ar2_ 6 0) ≤ 3) ∧ (0 ≤ ar2_ 6 1 ∧ ar2_ 6 1 + nsz (ar2_ 1) (ar2_ 6 1) < F2_ 2 ∧ nsz (ar2_ 1) (ar2_ 6 1) ≤ 3) ∧ va_P (dC, dI) rcl (mW h0 ad cI cJ cB cZ F2_ ar2_) H ∧ va_D (rA h0 ad s.heap.size) (mW h0 ad cI cJ cB cZ F2_ ar2_) ∧ va_S (rA h0 ad s.heap.size) s.heap H locs ∧ lv_has ls 7 [(0, .ref h0), (1, Iz (sl)), (2, Iz (u)), (3, Iz (lo)), (4, Iz (z3)), (5, Iz (F12 3)), (6, Iz (F21 3))]) (g := fun ls => F0 m 78 ls []) (fun N_ H locs ls hI ih_78 => ?_) _ _ _ _ ⟨F1, (aup ar1 6 (iup (ar1 6) 1 (F21 3))), rfl, (by first | exact fun j a b c => (n1.1 j a).trans (p1 j a b c) | exact p1), (by first | (constructor <;> omega)), (by first | exact n1.2.2.2 | exact h1_), (by first | exact hok_up (by rw [n1.2.1 6 (by decide)]; exact h6_) (by omega) (by omega) | exact hok_up h6_ (by omega) (by omega)), (fun j a b c => by rw [aup_ne _ _ c]; first | exact (n1.2.1 j a).trans (pk j a b c) | exact pk j a b c), (by first | (show 0 ≤ iup (ar69 6) 1 (F1 2) 0 ∧ iup (ar69 6) 1 (F1 2) 0 + nsz (ar69 1) (iup (ar69 6) 1 (F1 2) 0) < _ ∧ nsz (ar69 1) (iup (ar69 6) 1 (F1 2) 0) ≤ 3; rw [iup_ne (by omega), n1.2.1 6 (by decide), nsz_agree (n1.2.2.1 (ar1 6 0) (by have := nsz_nonneg (ar1 1) (ar1 6 0); omega))]; omega) | (show 0 ≤ iup (ar1 6) 1 (F21 3) 0 ∧ iup (ar1 6) 1 (F21 3) 0 + nsz (ar1 1) (iup (ar1 6) 1 (F21 3) 0) < _ ∧ nsz (ar1 1) (iup (ar1 6) 1 (F21 3) 0) ≤ 3; rw [iup_ne (by omega)]; exact rz)), (by first | (show 0 ≤ iup (ar69 6) 1 (F1 2) 1 ∧ iup (ar69 6) 1 (F1 2) 1 + nsz (ar69 1) (iup (ar69 6) 1 (F1 2) 1) < _ ∧ nsz (ar69 1) (iup (ar69 6) 1 (F1 2) 1) ≤ 3; rw [iup_self, n2]; omega) | (show 0 ≤ iup (ar1 6) 1 (F21 3) 1 ∧ iup (ar1 6) 1 (F21 3) 1 + nsz (ar1 1) (iup (ar1 6) 1 (F21 3) 1) < _ ∧ nsz (ar1 1) (iup (ar1 6) 1 (F21 3) 1) ≤ 3; rw [iup_self]; exact bz)), hP, hD, hS, lv_sub hl [0, 1, 2, 3, 4, 5, 6] rfl⟩
      obtain ⟨F2_, ar2_, rfl, p1, p5, h1_, h6_, pk, rz, ro, hP, hD, hS, hl⟩ := hI
      have kk6 : ∀ t : Int, 0 ≤ t → t < 2 → 0 ≤ ar2_ 6 t ∧ ar2_ 6 t < 6000000 := fun t a b => by
        have q0_ := nsz_nonneg (ar2_ 1) (ar2_ 6 0)
        have q1_ := nsz_nonneg (ar2_ 1) (ar2_ 6 1)
        rcases (show t = 0 ∨ t = 1 by omega) with rfl | rfl
        · omega
        · omega
      refine lv_aload_n hx hb dX12_putFraction_78 rfl (lv_at hl 0 rfl) ?_
      refine lv_iload_n hx hb dX12_putFraction_79 rfl (lv_at hl 1 rfl) ?_
      refine lv_aload_n hx hb dX12_putFraction_80 rfl (lv_at hl 0 rfl) ?_
      refine lv_iconst (v := Int32.ofInt (2)) hx hb dX12_putFraction_81 (by decide) ?_
      refine r_calli (As := [Iz (2)]) (rest := [Iz (sl), .ref h0]) E (c_polynomialOf (F := F2_) (ar := ar2_) (n := 2) (by omega) (by omega) (by omega) (by omega) h1_ h6_ kk6) (cwV 1 hts (rGood ml_89 mi_polynomialOf ms_polynomialOf mn_RX12 mc_polynomialOf) rfl rfl rfl (by decide +kernel) ⟨Nat.le_of_ble_eq_true rfl, Nat.le_of_ble_eq_true rfl⟩) hK hP hD hS hA rfl hl.1 (Nat.le_of_ble_eq_true rfl) dX12_putFraction_82 ⟨Nat.le_refl 0, Nat.le_refl 0⟩ (fun z82 F82 ar82 H locs q82 hP hD hS => ?_)
      obtain ⟨dd, c1, c2, zz, c4, c5, c6, c7, c8⟩ := q82
      obtain rfl : z82 = F2_ 2 := zz
      have pv : ∀ i : Int, 0 ≤ i → i ≤ ar82 1 (F2_ 2) → 0 ≤ ar82 1 (F2_ 2 + 1 + i) ∧ ar82 1 (F2_ 2 + 1 + i) + nsz (ar82 1) (ar82 1 (F2_ 2 + 1 + i)) < 6000000 ∧ nsz (ar82 1) (ar82 1 (F2_ 2 + 1 + i)) ≤ 3 := fun i a b => by
        have q0_ := nsz_nonneg (ar2_ 1) (ar2_ 6 0)
        have q1_ := nsz_nonneg (ar2_ 1) (ar2_ 6 1)
        rw [c5] at b
        rw [c6 i a b]
        rcases (show i = 0 ∨ i = 1 by omega) with rfl | rfl
        · rw [nsz_agree (c4.2.2.1 (ar2_ 6 0) (by omega))]; omega
        · rw [nsz_agree (c4.2.2.1 (ar2_ 6 1) (by omega))]; omega
      have em : ar82 1 (F2_ 2) ≤ F82 25 := by rw [c5, c4.1 25 (by decide), p1 25 (by decide) (by decide) (by decide)]; omega
      have em2 : F82 25 ≤ 10 := by rw [c4.1 25 (by decide), p1 25 (by decide) (by decide) (by decide)]; exact f1
      refine lv_iconst (v := Int32.ofInt (0)) hx hb dX12_putFraction_85 (by decide) ?_
      refine r_calli (As := [Iz (sl), Iz (F2_ 2), Iz (0)]) (rest := []) E (c_put (F := F82) (ar := ar82) (sl := sl) (q := F2_ 2) (pl := 0) (by omega) (by omega) c4.2.2.2 (by omega) (by omega) pv em em2 s0 s1) (cwV 3 hts (rGood ml_295 mi_put ms_put mn_RX12 mc_put) rfl rfl rfl (by decide +kernel) ⟨Nat.le_of_ble_eq_true rfl, Nat.le_of_ble_eq_true rfl⟩) hK hP hD hS hA rfl hl.1 (Nat.le_of_ble_eq_true rfl) dX12_putFraction_86 ⟨Nat.le_refl 0, Nat.le_refl 0⟩ (fun z86 F86 ar86 H locs q86 hP hD hS => ?_)
      obtain ⟨zz, e1, e2⟩ := q86
      obtain rfl : z86 = 0 := zz
      obtain rfl := e1.symm
      have hpost : (0 : Int) = 0 ∧ (∀ j : Nat, j ≠ 2 → j ≠ 3 → j ≠ 4 → F82 j = F j) ∧ (∀ j : Nat, j ≠ 1 → j ≠ 5 → j ≠ 6 → j ≠ 21 → j ≠ 22 → j ≠ 23 → ar86 j = ar j) := ⟨rfl, fun j a b c => (c4.1 j a).trans (p1 j a b c), fun j a b c d e f => (e2 j d e f).trans ((c4.2.1 j a).trans (pk j a b c))⟩
      exact W.iret (v := Int32.ofInt (0)) hx hb hr (fun t ht hW => ⟨⟨_, (F82, ar86), rfl, ⟨_, rfl, hpost⟩, by rw [ht]; exact hP, va_K.moved hW.alike hK, hD⟩, hS.F ht⟩) hS.2.2 dX12_putFraction_89
    · skip
      refine lv_aload_n hx hb dX12_putFraction_66 rfl (lv_at hl 0 rfl) ?_
      refine lv_iload hx hb dX12_putFraction_67 (lv_at hl 6 rfl) ?_
      refine r_calli (As := [Iz (F21 3)]) (rest := [Iz (1), .ref (ad 6)]) E (c_negated (F := F1) (ar := ar1) (a := F21 3) (by omega) (by omega) (by omega) (by omega) h1_) (cwV 1 hts (rGood ml_34 mi_negated ms_negated mn_RX12 mc_negated) rfl rfl rfl (by decide +kernel) ⟨Nat.le_of_ble_eq_true rfl, Nat.le_of_ble_eq_true rfl⟩) hK hP hD hS hA rfl hl.1 (Nat.le_of_ble_eq_true rfl) dX12_putFraction_69 ⟨Nat.le_refl 0, Nat.le_refl 0⟩ (fun z69 F69 ar69 H locs q69 hP hD hS => ?_)
      obtain ⟨zz, n1, n2, n3, n4⟩ := q69
      obtain rfl : z69 = F1 2 := zz
      have q8_ := nsz_nonneg (ar1 1) (F21 3)
      have q9_ := nsz_nonneg (ar1 1) (ar1 6 0)
      have q10_ := nsz_nonneg (ar69 1) (F1 2)
      refine lv_goto (tgt := 77) hx hb dX12_putFraction_72 (by decide) ?_
      refine g_iast (f := (ar69 6)) hx hb hK hP hD hS 3 0 rfl rfl (by omega) (by omega) (by decide) dX12_putFraction_77 (fun H locs hP hD hS => ?_)
      rw [sa_6] at hP hD
      refine r_loop (P := fun N_ H locs ls => ∃ (F2_ : Nat → Int) (ar2_ : Nat → Int → Int), N_ = 0 ∧ (∀ j : Nat, j ≠ 2 → j ≠ 3 → j ≠ 4 → F2_ j = F j) ∧ (0 ≤ F2_ 2 ∧ F2_ 2 ≤ F 2 + 40000) ∧ (hok (ar2_ 1)) ∧ (hok (ar2_ 6)) ∧ (∀ j : Nat, j ≠ 1 → j ≠ 5 → j ≠ 6 → ar2_ j = ar j) ∧ (0 ≤ ar2_ 6 0 ∧ ar2_ 6 0 + nsz (ar2_ 1) (ar2_ 6 0) < F2_ 2 ∧ nsz (ar2_ 1) (ar2_ 6 0) ≤ 3) ∧ (0 ≤ ar2_ 6 1 ∧ ar2_ 6 1 + nsz (ar2_ 1) (ar2_ 6 1) < F2_ 2 ∧ nsz (ar2_ 1) (ar2_ 6 1) ≤ 3) ∧ va_P (dC, dI) rcl (mW h0 ad cI cJ cB cZ F2_ ar2_) H ∧ va_D (rA h0 ad s.heap.size) (mW h0 ad cI cJ cB cZ F2_ ar2_) ∧ va_S (rA h0 ad s.heap.size) s.heap H locs ∧ lv_has ls 7 [(0, .ref h0), (1, Iz (sl)), (2, Iz (u)), (3, Iz (lo)), (4, Iz (z3)), (5, Iz (F12 3)), (6, Iz (F21 3))]) (g := fun ls => F0 m 78 ls []) (fun N_ H locs ls hI ih_78 => ?_) _ _ _ _ ⟨F69, (aup ar69 6 (iup (ar69 6) 1 (F1 2))), rfl, (by first | exact fun j a b c => (n1.1 j a).trans (p1 j a b c) | exact p1), (by first | (constructor <;> omega)), (by first | exact n1.2.2.2 | exact h1_), (by first | exact hok_up (by rw [n1.2.1 6 (by decide)]; exact h6_) (by omega) (by omega) | exact hok_up h6_ (by omega) (by omega)), (fun j a b c => by rw [aup_ne _ _ c]; first | exact (n1.2.1 j a).trans (pk j a b c) | exact pk j a b c), (by first | (show 0 ≤ iup (ar69 6) 1 (F1 2) 0 ∧ iup (ar69 6) 1 (F1 2) 0 + nsz (ar69 1) (iup (ar69 6) 1 (F1 2) 0) < _ ∧ nsz (ar69 1) (iup (ar69 6) 1 (F1 2) 0) ≤ 3; rw [iup_ne (by omega), n1.2.1 6 (by decide), nsz_agree (n1.2.2.1 (ar1 6 0) (by have := nsz_nonneg (ar1 1) (ar1 6 0); omega))]; omega) | (show 0 ≤ iup (ar1 6) 1 (F21 3) 0 ∧ iup (ar1 6) 1 (F21 3) 0 + nsz (ar1 1) (iup (ar1 6) 1 (F21 3) 0) < _ ∧ nsz (ar1 1) (iup (ar1 6) 1 (F21 3) 0) ≤ 3; rw [iup_ne (by omega)]; exact rz)), (by first | (show 0 ≤ iup (ar69 6) 1 (F1 2) 1 ∧ iup (ar69 6) 1 (F1 2) 1 + nsz (ar69 1) (iup (ar69 6) 1 (F1 2) 1) < _ ∧ nsz (ar69 1) (iup (ar69 6) 1 (F1 2) 1) ≤ 3; rw [iup_self, n2]; omega) | (show 0 ≤ iup (ar1 6) 1 (F21 3) 1 ∧ iup (ar1 6) 1 (F21 3) 1 + nsz (ar1 1) (iup (ar1 6) 1 (F21 3) 1) < _ ∧ nsz (ar1 1) (iup (ar1 6) 1 (F21 3) 1) ≤ 3; rw [iup_self]; exact bz)), hP, hD, hS, lv_sub hl [0, 1, 2, 3, 4, 5, 6] rfl⟩
      obtain ⟨F2_, ar2_, rfl, p1, p5, h1_, h6_, pk, rz, ro, hP, hD, hS, hl⟩ := hI
      have kk6 : ∀ t : Int, 0 ≤ t → t < 2 → 0 ≤ ar2_ 6 t ∧ ar2_ 6 t < 6000000 := fun t a b => by
        have q0_ := nsz_nonneg (ar2_ 1) (ar2_ 6 0)
        have q1_ := nsz_nonneg (ar2_ 1) (ar2_ 6 1)
        rcases (show t = 0 ∨ t = 1 by omega) with rfl | rfl
        · omega
        · omega
      refine lv_aload_n hx hb dX12_putFraction_78 rfl (lv_at hl 0 rfl) ?_
      refine lv_iload_n hx hb dX12_putFraction_79 rfl (lv_at hl 1 rfl) ?_
      refine lv_aload_n hx hb dX12_putFraction_80 rfl (lv_at hl 0 rfl) ?_
      refine lv_iconst (v := Int32.ofInt (2)) hx hb dX12_putFraction_81 (by decide) ?_
      refine r_calli (As := [Iz (2)]) (rest := [Iz (sl), .ref h0]) E (c_polynomialOf (F := F2_) (ar := ar2_) (n := 2) (by omega) (by omega) (by omega) (by omega) h1_ h6_ kk6) (cwV 1 hts (rGood ml_89 mi_polynomialOf ms_polynomialOf mn_RX12 mc_polynomialOf) rfl rfl rfl (by decide +kernel) ⟨Nat.le_of_ble_eq_true rfl, Nat.le_of_ble_eq_true rfl⟩) hK hP hD hS hA rfl hl.1 (Nat.le_of_ble_eq_true rfl) dX12_putFraction_82 ⟨Nat.le_refl 0, Nat.le_refl 0⟩ (fun z82 F82 ar82 H locs q82 hP hD hS => ?_)
      obtain ⟨dd, c1, c2, zz, c4, c5, c6, c7, c8⟩ := q82
      obtain rfl : z82 = F2_ 2 := zz
      have pv : ∀ i : Int, 0 ≤ i → i ≤ ar82 1 (F2_ 2) → 0 ≤ ar82 1 (F2_ 2 + 1 + i) ∧ ar82 1 (F2_ 2 + 1 + i) + nsz (ar82 1) (ar82 1 (F2_ 2 + 1 + i)) < 6000000 ∧ nsz (ar82 1) (ar82 1 (F2_ 2 + 1 + i)) ≤ 3 := fun i a b => by
        have q0_ := nsz_nonneg (ar2_ 1) (ar2_ 6 0)
        have q1_ := nsz_nonneg (ar2_ 1) (ar2_ 6 1)
        rw [c5] at b
        rw [c6 i a b]
        rcases (show i = 0 ∨ i = 1 by omega) with rfl | rfl
        · rw [nsz_agree (c4.2.2.1 (ar2_ 6 0) (by omega))]; omega
        · rw [nsz_agree (c4.2.2.1 (ar2_ 6 1) (by omega))]; omega
      have em : ar82 1 (F2_ 2) ≤ F82 25 := by rw [c5, c4.1 25 (by decide), p1 25 (by decide) (by decide) (by decide)]; omega
      have em2 : F82 25 ≤ 10 := by rw [c4.1 25 (by decide), p1 25 (by decide) (by decide) (by decide)]; exact f1
      refine lv_iconst (v := Int32.ofInt (0)) hx hb dX12_putFraction_85 (by decide) ?_
      refine r_calli (As := [Iz (sl), Iz (F2_ 2), Iz (0)]) (rest := []) E (c_put (F := F82) (ar := ar82) (sl := sl) (q := F2_ 2) (pl := 0) (by omega) (by omega) c4.2.2.2 (by omega) (by omega) pv em em2 s0 s1) (cwV 3 hts (rGood ml_295 mi_put ms_put mn_RX12 mc_put) rfl rfl rfl (by decide +kernel) ⟨Nat.le_of_ble_eq_true rfl, Nat.le_of_ble_eq_true rfl⟩) hK hP hD hS hA rfl hl.1 (Nat.le_of_ble_eq_true rfl) dX12_putFraction_86 ⟨Nat.le_refl 0, Nat.le_refl 0⟩ (fun z86 F86 ar86 H locs q86 hP hD hS => ?_)
      obtain ⟨zz, e1, e2⟩ := q86
      obtain rfl : z86 = 0 := zz
      obtain rfl := e1.symm
      have hpost : (0 : Int) = 0 ∧ (∀ j : Nat, j ≠ 2 → j ≠ 3 → j ≠ 4 → F82 j = F j) ∧ (∀ j : Nat, j ≠ 1 → j ≠ 5 → j ≠ 6 → j ≠ 21 → j ≠ 22 → j ≠ 23 → ar86 j = ar j) := ⟨rfl, fun j a b c => (c4.1 j a).trans (p1 j a b c), fun j a b c d e f => (e2 j d e f).trans ((c4.2.1 j a).trans (pk j a b c))⟩
      exact W.iret (v := Int32.ofInt (0)) hx hb hr (fun t ht hW => ⟨⟨_, (F82, ar86), rfl, ⟨_, rfl, hpost⟩, by rw [ht]; exact hP, va_K.moved hW.alike hK, hD⟩, hS.F ht⟩) hS.2.2 dX12_putFraction_89
set_option maxHeartbeats 4000000 in
set_option maxRecDepth 100000 in
theorem c_finish {l : Launch} {dC : Nat → ClassId} {dI : Nat → Nat → Nat} {h0 : Nat} {ad : Nat → Nat} {cI cJ cB cZ : Nat} {F : Nat → Int} {ar : Nat → Int → Int} {sz : Nat} {how : Int} (h0_ : -2147483648 ≤ how) (h1_ : how < 2147483648) (n0 : 0 ≤ F 24) (n1 : F 24 < 100) : Met l yX12_finish (Cond.code yX12_finish cX12_finish 2 (some .int) :: w0r) (rRm 0 0) (rPc dC dI h0 ad cI cJ cB cZ F ar sz [Iz (how)]) (rQi dC dI h0 ad cI cJ cB cZ sz (fun z F' ar' => (how < 0 → z = how ∧ F' = F ∧ ar' = ar) ∧ (0 ≤ how → z = F 24 ∧ F' = fup F 24 (F 24 + 1) ∧ ar' = ar))) 0 0 (rA h0 ad sz) := by
  refine Met.ofW (cc := cX12_finish) (maxL := 2) (ret := (some .int)) (by decide) rfl ?_
  intro p e s m args below meth c s₁ B hml hv
  obtain ⟨rfl, hsz, hP, hK, hD0⟩ := hv
  have hx := B.exec
  have hb := B.bytes
  have hr := B.returns
  have hts := atoms_spec (ws := Cond.code yX12_finish cX12_finish 2 (some .int) :: w0r) B.pre
  have hown : s.vm.findClass RX12 = some m.cls := findClass_of_methodNamed B.named
  have hlocks := B.notSynchronized
  have E : CallFix p m c cX12_finish 2 s _ (Cond.code yX12_finish cX12_finish 2 (some .int) :: w0r) RX12 := ⟨hx, hb, hml, hown, hts⟩
  subst hsz
  have hD := rA_self s.heap.size hD0
  have hA : ∀ q : Nat, s.heap.size ≤ q → rA h0 ad s.heap.size q := fun q h => Or.inr h
  have hS : va_S (rA h0 ad s.heap.size) s.heap s.heap [] := va_S.rf
  have hl := lv_entry ([.ref h0, Iz (how)]) (n := 2) (Nat.le_of_ble_eq_true rfl)
  rw [lg_entry_eq]
  generalize (lg_sl ([.ref h0, Iz (how)]) ++ List.replicate (2 - (lg_sl ([.ref h0, Iz (how)])).length) Slot.unset).toArray = ls at hl ⊢
  have hl : lv_has ls 2 [(0, .ref h0), (1, Iz (how))] := hl
  refine lv_iload_n hx hb dX12_finish_0 rfl (lv_at hl 1 rfl) ?_
  refine g_if_ge (tgt := 6) hx hb ⟨by omega, by omega⟩ dX12_finish_1 (by decide) (fun c_1 => ?_) (fun c_1 => ?_)
  · skip
    refine lv_aload_n hx hb dX12_finish_6 rfl (lv_at hl 0 rfl) ?_
    refine r_geti E hK hP (k := 24) (v := Iz (F 24)) (by decide) mf_568 rfl rfl dX12_finish_7 ?_
    refine lv_bipush (v := Int32.ofInt (100)) hx hb dX12_finish_10 (by decide) ?_
    refine g_icmp_ne (tgt := 18) hx hb ⟨by omega, by omega⟩ ⟨by omega, by omega⟩ dX12_finish_12 (by decide) (fun c_12 => ?_) (fun c_12 => ?_)
    · skip
      refine lv_aload_n hx hb dX12_finish_18 rfl (lv_at hl 0 rfl) ?_
      refine lv_dup hx hb dX12_finish_19 rfl ?_
      refine r_geti E hK hP (k := 24) (v := Iz (F 24)) (by decide) mf_568 rfl rfl dX12_finish_20 ?_
      refine lv_iconst (v := Int32.ofInt (1)) hx hb dX12_finish_23 (by decide) ?_
      refine g_iadd hx hb dX12_finish_24 ?_
      refine r_puti E hK hP hD hS 24 (by decide) mf_568 rfl rfl (by decide +kernel) (sp_24 h0 ad cI cJ cB cZ _ _) dX12_finish_25 (fun H locs hP hD hS => ?_)
      refine lv_aload_n hx hb dX12_finish_28 rfl (lv_at hl 0 rfl) ?_
      refine r_geti E hK hP (k := 24) (v := Iz ((F 24) + 1)) (by decide) mf_568 rfl rfl dX12_finish_29 ?_
      refine lv_iconst (v := Int32.ofInt (1)) hx hb dX12_finish_32 (by decide) ?_
      refine g_isub hx hb dX12_finish_33 ?_
      have hpost : (how < 0 → (((F 24) + 1) - 1 : Int) = how ∧ (fup F 24 ((F 24) + 1)) = F ∧ ar = ar) ∧ (0 ≤ how → (((F 24) + 1) - 1 : Int) = F 24 ∧ (fup F 24 ((F 24) + 1)) = fup F 24 (F 24 + 1) ∧ ar = ar) := ⟨fun q => by omega, fun _ => ⟨by omega, rfl, rfl⟩⟩
      exact W.iret (v := Int32.ofInt (((F 24) + 1) - 1)) hx hb hr (fun t ht hW => ⟨⟨_, ((fup F 24 ((F 24) + 1)), ar), rfl, ⟨_, rfl, hpost⟩, by rw [ht]; exact hP, va_K.moved hW.alike hK, hD⟩, hS.F ht⟩) hS.2.2 dX12_finish_34
    · omega
  · skip
    refine lv_iload_n hx hb dX12_finish_4 rfl (lv_at hl 1 rfl) ?_
    have hpost : (how < 0 → (how : Int) = how ∧ F = F ∧ ar = ar) ∧ (0 ≤ how → (how : Int) = F 24 ∧ F = fup F 24 (F 24 + 1) ∧ ar = ar) := ⟨fun _ => ⟨rfl, rfl, rfl⟩, fun q => by omega⟩
    exact W.iret (v := Int32.ofInt (how)) hx hb hr (fun t ht hW => ⟨⟨_, (F, ar), rfl, ⟨_, rfl, hpost⟩, by rw [ht]; exact hP, va_K.moved hW.alike hK, hD⟩, hS.F ht⟩) hS.2.2 dX12_finish_5
