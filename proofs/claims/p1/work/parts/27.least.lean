set_option maxHeartbeats 4000000 in
set_option maxRecDepth 100000 in
theorem c_least {l : Launch} {dC : Nat → ClassId} {dI : Nat → Nat → Nat} {h0 : Nat} {ad : Nat → Nat} {cI cJ cB cZ : Nat} {F : Nat → Int} {ar : Nat → Int → Int} {sz : Nat} {q : Int} (t0 : 0 ≤ F 2) (t1 : F 2 ≤ 100000) (b0 : 0 ≤ q) (b1 : q + 1 + ar 1 q < F 2) (e0 : -1 ≤ ar 1 q) (e1 : ar 1 q ≤ 12) (hk : hok (ar 1)) (hk5 : hok (ar 5)) (hk6 : hok (ar 6)) (pv : ∀ i : Int, 0 ≤ i → i ≤ ar 1 q → 0 ≤ ar 1 (q + 1 + i) ∧ ar 1 (q + 1 + i) + nsz (ar 1) (ar 1 (q + 1 + i)) < F 2 ∧ nsz (ar 1) (ar 1 (q + 1 + i)) ≤ 3 ∧ nm (ar 1) (ar 1 (q + 1 + i))) (le : 0 ≤ ar 1 q → nsz (ar 1) (ar 1 (q + 1 + ar 1 q)) ≠ 0) : Met l yX12_least (Cond.code yX12_least cX12_least 7 (some .int) :: w0r) (rRm 5 150) (rPc dC dI h0 ad cI cJ cB cZ F ar sz [Iz (q)]) (rQi dC dI h0 ad cI cJ cB cZ sz (fun z F' ar' => (∀ j : Nat, j ≠ 2 → j ≠ 3 → j ≠ 4 → F' j = F j) ∧ (∀ j : Nat, j ≠ 1 → j ≠ 5 → j ≠ 6 → ar' j = ar j) ∧ hok (ar' 1) ∧ hok (ar' 5) ∧ hok (ar' 6) ∧ 0 ≤ z ∧ z + 14 < 6000000 ∧ -1 ≤ ar' 1 z ∧ ar' 1 z ≤ ar 1 q ∧ (∀ i : Int, 0 ≤ i → i ≤ ar' 1 z → 0 ≤ ar' 1 (z + 1 + i) ∧ ar' 1 (z + 1 + i) + nsz (ar' 1) (ar' 1 (z + 1 + i)) < 6000000 ∧ nsz (ar' 1) (ar' 1 (z + 1 + i)) ≤ 3))) 0 0 (rA h0 ad sz) := by
  refine Met.ofW (cc := cX12_least) (maxL := 7) (ret := (some .int)) (by decide) rfl ?_
  intro p e s m args below meth c s₁ B hml hv
  obtain ⟨rfl, hsz, hP, hK, hD0⟩ := hv
  have hx := B.exec
  have hb := B.bytes
  have hr := B.returns
  have hts := atoms_spec (ws := Cond.code yX12_least cX12_least 7 (some .int) :: w0r) B.pre
  have hown : s.vm.findClass RX12 = some m.cls := findClass_of_methodNamed B.named
  have hlocks := B.notSynchronized
  have E : CallFix p m c cX12_least 7 s _ (Cond.code yX12_least cX12_least 7 (some .int) :: w0r) RX12 := ⟨hx, hb, hml, hown, hts⟩
  subst hsz
  have hD := rA_self s.heap.size hD0
  have hA : ∀ q : Nat, s.heap.size ≤ q → rA h0 ad s.heap.size q := fun q h => Or.inr h
  have hS : va_S (rA h0 ad s.heap.size) s.heap s.heap [] := va_S.rf
  have hl := lv_entry ([.ref h0, Iz (q)]) (n := 7) (Nat.le_of_ble_eq_true rfl)
  rw [lg_entry_eq]
  generalize (lg_sl ([.ref h0, Iz (q)]) ++ List.replicate (7 - (lg_sl ([.ref h0, Iz (q)])).length) Slot.unset).toArray = ls at hl ⊢
  have hl : lv_has ls 7 [(0, .ref h0), (1, Iz (q))] := hl
  refine lv_aload_n hx hb dX12_least_0 rfl (lv_at hl 0 rfl) ?_
  refine lv_iload_n hx hb dX12_least_1 rfl (lv_at hl 1 rfl) ?_
  refine r_calli (As := [Iz (q)]) (rest := []) E (c_degree (F := F) (ar := ar) (q := q) b0 (by omega)) (cwV 1 hts (rGood ml_80 mi_degree ms_degree mn_RX12 mc_degree) rfl rfl rfl (by decide +kernel) ⟨Nat.le_of_ble_eq_true rfl, Nat.le_of_ble_eq_true rfl⟩) hK hP hD hS hA rfl hl.1 (Nat.le_of_ble_eq_true rfl) dX12_least_2 ⟨Nat.le_refl 0, Nat.le_refl 0⟩ (fun z2 F2 ar2 H locs q2 hP hD hS => ?_)
  obtain ⟨e1_, e2_, e3_⟩ := q2
  obtain rfl := e1_.symm
  obtain rfl := e2_.symm
  obtain rfl := e3_.symm
  refine g_if_ge (tgt := 10) hx hb ⟨by omega, by omega⟩ dX12_least_5 (by decide) (fun c_5 => ?_) (fun c_5 => ?_)
  · skip
    refine lv_aload_n hx hb dX12_least_10 rfl (lv_at hl 0 rfl) ?_
    refine r_geti E hK hP (k := 2) (v := Iz (F 2)) (by decide) mf_11 rfl rfl dX12_least_11 ?_
    refine lv_istore_n (lv' := [(2, Iz (F 2)), (0, .ref h0), (1, Iz (q))]) hx hb dX12_least_14 rfl hl (by decide) rfl (fun ls hl => ?_)
    refine lv_aload_n hx hb dX12_least_15 rfl (lv_at hl 1 rfl) ?_
    refine lv_lconst (v := Int64.ofInt 0) hx hb dX12_least_16 rfl ?_
    refine r_calli (As := [Jz (0)]) (rest := []) E (c_whole (F := F) (ar := ar) (v := 0) t0 (by omega) hk (by omega) (by omega)) (cwV 1 hts (rGood ml_41 mi_whole ms_whole mn_RX12 mc_whole) rfl rfl rfl (by decide +kernel) ⟨Nat.le_of_ble_eq_true rfl, Nat.le_of_ble_eq_true rfl⟩) hK hP hD hS hA rfl hl.1 (Nat.le_of_ble_eq_true rfl) dX12_least_17 ⟨Nat.le_refl 0, Nat.le_refl 0⟩ (fun z17 F17 ar17 H locs q17 hP hD hS => ?_)
    obtain ⟨zz, n1, n2, n3, n4, n5, n6⟩ := q17
    obtain rfl : z17 = F 2 := zz
    refine lv_istore_n (lv' := [(3, Iz (F 2)), (2, Iz (F 2)), (0, .ref h0), (1, Iz (q))]) hx hb dX12_least_20 rfl hl (by decide) rfl (fun ls hl => ?_)
    have s17 := nsz_nonneg (ar17 1) (F 2)
    refine lv_iconst (v := Int32.ofInt (0)) hx hb dX12_least_21 (by decide) ?_
    refine lv_istore (lv' := [(4, Iz (0)), (3, Iz (F 2)), (2, Iz (F 2)), (0, .ref h0), (1, Iz (q))]) hx hb dX12_least_22 hl (by decide) rfl (fun ls hl => ?_)
    refine r_loop (P := fun N_ H locs ls => ∃ (F1 : Nat → Int) (ar1 : Nat → Int → Int) (i : Int) (gg : Int), N_ = (ar 1 q + 1 - i).toNat ∧ (0 ≤ i) ∧ (i ≤ ar 1 q + 1) ∧ (∀ j : Nat, j ≠ 2 → j ≠ 3 → j ≠ 4 → F1 j = F j) ∧ (∀ j : Nat, j ≠ 1 → j ≠ 5 → j ≠ 6 → ar1 j = ar j) ∧ (∀ t : Int, t < F 2 → ar1 1 t = ar 1 t) ∧ (hok (ar1 1)) ∧ (hok (ar1 5)) ∧ (hok (ar1 6)) ∧ (F 2 ≤ F1 2) ∧ (F1 2 ≤ F 2 + 10 + 10000 * i) ∧ (F 2 ≤ gg) ∧ (gg + nsz (ar1 1) gg < F1 2) ∧ (nsz (ar1 1) gg ≤ 1000) ∧ (nm (ar1 1) gg) ∧ (i = ar 1 q + 1 → nsz (ar1 1) gg ≠ 0) ∧ va_P (dC, dI) rcl (mW h0 ad cI cJ cB cZ F1 ar1) H ∧ va_D (rA h0 ad s.heap.size) (mW h0 ad cI cJ cB cZ F1 ar1) ∧ va_S (rA h0 ad s.heap.size) s.heap H locs ∧ lv_has ls 7 [(0, .ref h0), (1, Iz (q)), (2, Iz (F 2)), (3, Iz (gg)), (4, Iz (i))]) (g := fun ls => F0 m 24 ls []) (fun N_ H locs ls hI ih_24 => ?_) _ _ _ _ ⟨F17, ar17, 0, (F 2), rfl, (Int.le_refl 0), (by omega), (fun j a b c => n1.1 j a), (fun j a b c => n1.2.1 j a), (n1.2.2.1), (n1.2.2.2), (by rw [n1.2.1 5 (by decide)]; exact hk5), (by rw [n1.2.1 6 (by decide)]; exact hk6), (by omega), (by omega), (Int.le_refl _), (by omega), (by omega), (n2), (fun e => by omega), hP, hD, hS, lv_sub hl [3, 4, 2, 1, 0] rfl⟩
    obtain ⟨F1, ar1, i, gg, rfl, i0, i1, p1, p2, p3, p4, p5, p6, lo, hi, g0, g1, g2, g3, gz, hP, hD, hS, hl⟩ := hI
    refine lv_iload hx hb dX12_least_24 (lv_at hl 4 rfl) ?_
    refine lv_aload_n hx hb dX12_least_26 rfl (lv_at hl 0 rfl) ?_
    refine lv_iload_n hx hb dX12_least_27 rfl (lv_at hl 1 rfl) ?_
    refine r_calli (As := [Iz (q)]) (rest := [Iz (i)]) E (c_degree (F := F1) (ar := ar1) (q := q) b0 (by omega)) (cwV 1 hts (rGood ml_80 mi_degree ms_degree mn_RX12 mc_degree) rfl rfl rfl (by decide +kernel) ⟨Nat.le_of_ble_eq_true rfl, Nat.le_of_ble_eq_true rfl⟩) hK hP hD hS hA rfl hl.1 (Nat.le_of_ble_eq_true rfl) dX12_least_28 ⟨Nat.le_refl 0, Nat.le_refl 0⟩ (fun z28 F28 ar28 H locs q28 hP hD hS => ?_)
    obtain ⟨e1_, e2_, e3_⟩ := q28
    obtain rfl := e1_.symm
    obtain rfl := e2_.symm
    obtain rfl := e3_.symm
    rw [p3 q (by omega)]
    refine g_icmp_gt (tgt := 53) hx hb ⟨by omega, by omega⟩ ⟨by omega, by omega⟩ dX12_least_31 (by decide) (fun c_31 => ?_) (fun c_31 => ?_)
    · skip
      have iq : i = ar 1 q + 1 := by omega
      have gzz := gz iq
      have sg := nsz_nonneg (ar1 1) gg
      have eq1 : ar1 1 q = ar 1 q := p3 q (by omega)
      have wl := pv (ar 1 q) (by omega) (Int.le_refl _)
      have swl := nsz_nonneg (ar 1) (ar 1 (q + 1 + ar 1 q))
      refine lv_aload_n hx hb dX12_least_53 rfl (lv_at hl 0 rfl) ?_
      refine lv_aload_n hx hb dX12_least_54 rfl (lv_at hl 0 rfl) ?_
      refine lv_iload_n hx hb dX12_least_55 rfl (lv_at hl 1 rfl) ?_
      refine r_calli (As := [Iz (q)]) (rest := [.ref h0]) E (c_leading (F := F1) (ar := ar1) (q := q) b0 (by omega) (by omega) (by omega)) (cwV 1 hts (rGood ml_107 mi_leading ms_leading mn_RX12 mc_leading) rfl rfl rfl (by decide +kernel) ⟨Nat.le_of_ble_eq_true rfl, Nat.le_of_ble_eq_true rfl⟩) hK hP hD hS hA rfl hl.1 (Nat.le_of_ble_eq_true rfl) dX12_least_56 ⟨Nat.le_refl 0, Nat.le_refl 0⟩ (fun z56 F56 ar56 H locs q56 hP hD hS => ?_)
      obtain ⟨e1_, e2_, e3_⟩ := q56
      obtain rfl := e1_.symm
      obtain rfl := e2_.symm
      obtain rfl := e3_.symm
      rw [eq1, p3 (q + 1 + ar 1 q) (by omega)]
      refine r_calli (As := [Iz (ar 1 (q + 1 + ar 1 q))]) (rest := []) E (c_signOf (F := F1) (ar := ar1) (a := ar 1 (q + 1 + ar 1 q)) (by omega) (by omega) p4) (cwV 1 hts (rGood ml_27 mi_signOf ms_signOf mn_RX12 mc_signOf) rfl rfl rfl (by decide +kernel) ⟨Nat.le_of_ble_eq_true rfl, Nat.le_of_ble_eq_true rfl⟩) hK hP hD hS hA rfl hl.1 (Nat.le_of_ble_eq_true rfl) dX12_least_59 ⟨Nat.le_refl 0, Nat.le_refl 0⟩ (fun z59 F59 ar59 H locs q59 hP hD hS => ?_)
      obtain ⟨e1_, e2_, e3_⟩ := q59
      obtain rfl := e1_.symm
      obtain rfl := e2_.symm
      obtain rfl := e3_.symm
      refine g_if_ge (tgt := 71) hx hb (nsg_i _ _) dX12_least_62 (by decide) (fun c_62 => ?_) (fun c_62 => ?_)
      · skip
        refine r_loop (P := fun N_ H locs ls => ∃ (F2_ : Nat → Int) (ar2_ : Nat → Int → Int) (gg : Int), N_ = 0 ∧ (∀ j : Nat, j ≠ 2 → j ≠ 3 → j ≠ 4 → F2_ j = F j) ∧ (∀ j : Nat, j ≠ 1 → j ≠ 5 → j ≠ 6 → ar2_ j = ar j) ∧ (∀ t : Int, t < F 2 → ar2_ 1 t = ar 1 t) ∧ (hok (ar2_ 1)) ∧ (hok (ar2_ 5)) ∧ (hok (ar2_ 6)) ∧ (F 2 ≤ F2_ 2) ∧ (F2_ 2 ≤ F 2 + 150000) ∧ (F 2 ≤ gg) ∧ (gg + nsz (ar2_ 1) gg < F2_ 2) ∧ (nsz (ar2_ 1) gg ≤ 1000) ∧ (nm (ar2_ 1) gg) ∧ (nsz (ar2_ 1) gg ≠ 0) ∧ va_P (dC, dI) rcl (mW h0 ad cI cJ cB cZ F2_ ar2_) H ∧ va_D (rA h0 ad s.heap.size) (mW h0 ad cI cJ cB cZ F2_ ar2_) ∧ va_S (rA h0 ad s.heap.size) s.heap H locs ∧ lv_has ls 7 [(0, .ref h0), (1, Iz (q)), (2, Iz (F 2)), (3, Iz (gg))]) (g := fun ls => F0 m 71 ls []) (fun N_ H locs ls hI ih_71 => ?_) _ _ _ _ ⟨F1, ar1, gg, rfl, (by first | exact fun j a b c => (n1_.1 j a).trans (p1 j a b c) | exact p1), (by first | exact fun j a b c => (n1_.2.1 j a).trans (p2 j a b c) | exact p2), (by first | exact fun t ht => (n1_.2.2.1 t (by omega)).trans (p3 t ht) | exact p3), (by first | exact n1_.2.2.2 | exact p4), (by first | (rw [n1_.2.1 5 (by decide)]; exact p5) | exact p5), (by first | (rw [n1_.2.1 6 (by decide)]; exact p6) | exact p6), (by omega), (by omega), (by omega), (by first | omega), (by first | (rw [n2_]; exact g2) | exact g2), (by first | exact (nm_move' n2_ n3_).1 g3 | exact g3), (by first | (rw [n2_]; exact gzz) | exact gzz), hP, hD, hS, lv_sub hl [0, 1, 2, 3] rfl⟩
        obtain ⟨F2_, ar2_, gg, rfl, p1, p2, p3, p4, p5, p6, lo, hi, g0, g1, g2, g3, gz2, hP, hD, hS, hl⟩ := hI
        refine lv_aload_n hx hb dX12_least_71 rfl (lv_at hl 0 rfl) ?_
        refine lv_iload_n hx hb dX12_least_72 rfl (lv_at hl 1 rfl) ?_
        refine r_calli (As := [Iz (q)]) (rest := []) E (c_degree (F := F2_) (ar := ar2_) (q := q) b0 (by omega)) (cwV 1 hts (rGood ml_80 mi_degree ms_degree mn_RX12 mc_degree) rfl rfl rfl (by decide +kernel) ⟨Nat.le_of_ble_eq_true rfl, Nat.le_of_ble_eq_true rfl⟩) hK hP hD hS hA rfl hl.1 (Nat.le_of_ble_eq_true rfl) dX12_least_73 ⟨Nat.le_refl 0, Nat.le_refl 0⟩ (fun z73 F73 ar73 H locs q73 hP hD hS => ?_)
        obtain ⟨e1_, e2_, e3_⟩ := q73
        obtain rfl := e1_.symm
        obtain rfl := e2_.symm
        obtain rfl := e3_.symm
        rw [p3 q (by omega)]
        refine lv_iconst (v := Int32.ofInt (1)) hx hb dX12_least_76 (by decide) ?_
        refine g_iadd hx hb dX12_least_77 ?_
        refine lv_istore (lv' := [(4, Iz ((ar 1 q) + 1)), (0, .ref h0), (1, Iz (q)), (2, Iz (F 2)), (3, Iz (gg))]) hx hb dX12_least_78 hl (by decide) rfl (fun ls hl => ?_)
        refine lv_aload_n hx hb dX12_least_80 rfl (lv_at hl 1 rfl) ?_
        refine lv_iload_n hx hb dX12_least_81 rfl (lv_at hl 2 rfl) ?_
        refine r_calli (As := [Iz (q)]) (rest := []) E (c_degree (F := F2_) (ar := ar2_) (q := q) b0 (by omega)) (cwV 1 hts (rGood ml_80 mi_degree ms_degree mn_RX12 mc_degree) rfl rfl rfl (by decide +kernel) ⟨Nat.le_of_ble_eq_true rfl, Nat.le_of_ble_eq_true rfl⟩) hK hP hD hS hA rfl hl.1 (Nat.le_of_ble_eq_true rfl) dX12_least_82 ⟨Nat.le_refl 0, Nat.le_refl 0⟩ (fun z82 F82 ar82 H locs q82 hP hD hS => ?_)
        obtain ⟨e1_, e2_, e3_⟩ := q82
        obtain rfl := e1_.symm
        obtain rfl := e2_.symm
        obtain rfl := e3_.symm
        rw [p3 q (by omega)]
        refine lv_istore (lv' := [(5, Iz (ar 1 q)), (4, Iz ((ar 1 q) + 1)), (0, .ref h0), (1, Iz (q)), (2, Iz (F 2)), (3, Iz (gg))]) hx hb dX12_least_85 hl (by decide) rfl (fun ls hl => ?_)
        refine lv_iconst (v := Int32.ofInt (0)) hx hb dX12_least_87 (by decide) ?_
        refine lv_istore (lv' := [(6, Iz (0)), (5, Iz (ar 1 q)), (4, Iz ((ar 1 q) + 1)), (0, .ref h0), (1, Iz (q)), (2, Iz (F 2)), (3, Iz (gg))]) hx hb dX12_least_88 hl (by decide) rfl (fun ls hl => ?_)
        refine r_loop (P := fun N_ H locs ls => ∃ (F3 : Nat → Int) (ar3 : Nat → Int → Int) (i : Int), N_ = (ar 1 q + 1 - i).toNat ∧ (0 ≤ i) ∧ (i ≤ ar 1 q + 1) ∧ (∀ j : Nat, j ≠ 2 → j ≠ 3 → j ≠ 4 → F3 j = F j) ∧ (∀ j : Nat, j ≠ 1 → j ≠ 5 → j ≠ 6 → ar3 j = ar j) ∧ (∀ t : Int, t < F 2 → ar3 1 t = ar 1 t) ∧ (hok (ar3 1)) ∧ (hok (ar3 5)) ∧ (hok (ar3 6)) ∧ (F 2 ≤ F3 2) ∧ (F3 2 ≤ F 2 + 150000 + 100 * i) ∧ (F 2 ≤ gg) ∧ (gg + nsz (ar3 1) gg < F3 2) ∧ (nsz (ar3 1) gg ≤ 1000) ∧ (nm (ar3 1) gg) ∧ (nsz (ar3 1) gg ≠ 0) ∧ (∀ t : Int, 0 ≤ t → t < i → 0 ≤ ar3 6 t ∧ ar3 6 t + nsz (ar3 1) (ar3 6 t) < F3 2 ∧ nsz (ar3 1) (ar3 6 t) ≤ 3) ∧ va_P (dC, dI) rcl (mW h0 ad cI cJ cB cZ F3 ar3) H ∧ va_D (rA h0 ad s.heap.size) (mW h0 ad cI cJ cB cZ F3 ar3) ∧ va_S (rA h0 ad s.heap.size) s.heap H locs ∧ lv_has ls 7 [(0, .ref h0), (1, Iz (q)), (2, Iz (F 2)), (3, Iz (gg)), (4, Iz ((ar 1 q) + 1)), (6, Iz (i))]) (g := fun ls => F0 m 90 ls []) (fun N_ H locs ls hI ih_90 => ?_) _ _ _ _ ⟨F2_, ar2_, 0, rfl, (Int.le_refl 0), (by omega), (p1), (p2), (p3), (p4), (p5), (p6), (lo), (by omega), (g0), (g1), (g2), (g3), (gz2), (fun t a b => by omega), hP, hD, hS, lv_sub hl [3, 4, 5, 6, 2, 0] rfl⟩
        obtain ⟨F3, ar3, i, rfl, i0, i1, p1, p2, p3, p4, p5, p6, lo, hi, g0, g1, g2, g3, gz3, rw_, hP, hD, hS, hl⟩ := hI
        refine lv_iload hx hb dX12_least_90 (lv_at hl 5 rfl) ?_
        refine lv_iload hx hb dX12_least_92 (lv_at hl 4 rfl) ?_
        refine g_icmp_ge (tgt := 122) hx hb ⟨by omega, by omega⟩ ⟨by omega, by omega⟩ dX12_least_94 (by decide) (fun c_94 => ?_) (fun c_94 => ?_)
        · skip
          have iq2 : i = ar 1 q + 1 := by omega
          have kk : ∀ t : Int, 0 ≤ t → t < ar 1 q + 1 → 0 ≤ ar3 6 t ∧ ar3 6 t < 6000000 := fun t a b => by
            have w7 := rw_ t a (by omega)
            have s7 := nsz_nonneg (ar3 1) (ar3 6 t)
            omega
          refine lv_aload_n hx hb dX12_least_122 rfl (lv_at hl 0 rfl) ?_
          refine lv_iload_n hx hb dX12_least_123 rfl (lv_at hl 2 rfl) ?_
          refine lv_aload_n hx hb dX12_least_124 rfl (lv_at hl 0 rfl) ?_
          refine lv_iload hx hb dX12_least_125 (lv_at hl 4 rfl) ?_
          refine r_calli (As := [Iz ((ar 1 q) + 1)]) (rest := [Iz (F 2), .ref h0]) E (c_polynomialOf (F := F3) (ar := ar3) (n := ar 1 q + 1) (by omega) (by omega) (by omega) (by omega) p4 p6 kk) (cwV 1 hts (rGood ml_89 mi_polynomialOf ms_polynomialOf mn_RX12 mc_polynomialOf) rfl rfl rfl (by decide +kernel) ⟨Nat.le_of_ble_eq_true rfl, Nat.le_of_ble_eq_true rfl⟩) hK hP hD hS hA rfl hl.1 (Nat.le_of_ble_eq_true rfl) dX12_least_127 ⟨Nat.le_refl 0, Nat.le_refl 0⟩ (fun z127 F127 ar127 H locs q127 hP hD hS => ?_)
          obtain ⟨dd, d1, d2, zz, d4, d5, d6, d7, d8⟩ := q127
          obtain rfl : z127 = F3 2 := zz
          have pz : ∀ t : Int, 0 ≤ t → t ≤ ar127 1 (F3 2) → 0 ≤ ar127 1 (F3 2 + 1 + t) ∧ ar127 1 (F3 2 + 1 + t) + nsz (ar127 1) (ar127 1 (F3 2 + 1 + t)) < F127 2 ∧ nsz (ar127 1) (ar127 1 (F3 2 + 1 + t)) ≤ 3 := fun t a b => by
            rw [d5] at b
            have w7 := rw_ t a (by omega)
            have s7 := nsz_nonneg (ar3 1) (ar3 6 t)
            rw [d6 t a b, nsz_agree (d4.2.2.1 (ar3 6 t) (by omega))]
            omega
          refine r_calli (As := [Iz (F 2), Iz (F3 2)]) (rest := []) E (c_keepPolynomial (F := F127) (ar := ar127) (mk := F 2) (q := F3 2) (by omega) (by omega) t0 (by omega) (by omega) (by omega) (by omega) (by omega) d4.2.2.2 (by rw [d4.2.1 5 (by decide)]; exact p5) (by rw [d4.2.1 6 (by decide)]; exact p6) (fun t a b => by have := pz t a b; omega)) (cwV 2 hts (rGood ml_113 mi_keepPolynomial ms_keepPolynomial mn_RX12 mc_keepPolynomial) rfl rfl rfl (by decide +kernel) ⟨Nat.le_of_ble_eq_true rfl, Nat.le_of_ble_eq_true rfl⟩) hK hP hD hS hA rfl hl.1 (Nat.le_of_ble_eq_true rfl) dX12_least_130 ⟨Nat.le_refl 0, Nat.le_refl 0⟩ (fun z130 F130 ar130 H locs q130 hP hD hS => ?_)
          obtain ⟨y1, y2, y3, y4, y5, y6, y7, y8, y9, y10, y11, y12⟩ := q130
          rw [d5] at y11
          have hpost : (∀ j : Nat, j ≠ 2 → j ≠ 3 → j ≠ 4 → F130 j = F j) ∧ (∀ j : Nat, j ≠ 1 → j ≠ 5 → j ≠ 6 → ar130 j = ar j) ∧ hok (ar130 1) ∧ hok (ar130 5) ∧ hok (ar130 6) ∧ 0 ≤ (z130 : Int) ∧ (z130 : Int) + 14 < 6000000 ∧ -1 ≤ ar130 1 (z130 : Int) ∧ ar130 1 (z130 : Int) ≤ ar 1 q ∧ (∀ i : Int, 0 ≤ i → i ≤ ar130 1 (z130 : Int) → 0 ≤ ar130 1 ((z130 : Int) + 1 + i) ∧ ar130 1 ((z130 : Int) + 1 + i) + nsz (ar130 1) (ar130 1 ((z130 : Int) + 1 + i)) < 6000000 ∧ nsz (ar130 1) (ar130 1 ((z130 : Int) + 1 + i)) ≤ 3) := ⟨fun j a b c => (y1 j a).trans ((d4.1 j a).trans (p1 j a b c)), fun j a b c => (y2 j a b c).trans ((d4.2.1 j a).trans (p2 j a b c)), y4, y5, y6, by omega, by omega, y10, by omega, fun t a b => by have hy := y12 t a b; have hp := pz t a (by rw [d5]; omega); have hn := nsz_nonneg (ar130 1) (ar130 1 (z130 + 1 + t)); omega⟩
          exact W.iret (v := Int32.ofInt (z130)) hx hb hr (fun t ht hW => ⟨⟨_, (F130, ar130), rfl, ⟨_, rfl, hpost⟩, by rw [ht]; exact hP, va_K.moved hW.alike hK, hD⟩, hS.F ht⟩) hS.2.2 dX12_least_133
        · skip
          refine lv_aload_n hx hb dX12_least_97 rfl (lv_at hl 0 rfl) ?_
          refine r_geti E hK hP (k := 6) (v := .ref (ad 6)) (by decide) mf_86 rfl rfl dX12_least_98 ?_
          refine lv_iload hx hb dX12_least_101 (lv_at hl 5 rfl) ?_
          refine lv_aload_n hx hb dX12_least_103 rfl (lv_at hl 0 rfl) ?_
          refine lv_aload_n hx hb dX12_least_104 rfl (lv_at hl 0 rfl) ?_
          refine lv_iload_n hx hb dX12_least_105 rfl (lv_at hl 1 rfl) ?_
          refine lv_iload hx hb dX12_least_106 (lv_at hl 5 rfl) ?_
          refine r_calli (As := [Iz (q), Iz (i)]) (rest := [.ref h0, Iz (i), .ref (ad 6)]) E (c_co (F := F3) (ar := ar3) (q := q) (i := i) (by omega) (by omega)) (cwV 2 hts (rGood ml_83 mi_co ms_co mn_RX12 mc_co) rfl rfl rfl (by decide +kernel) ⟨Nat.le_of_ble_eq_true rfl, Nat.le_of_ble_eq_true rfl⟩) hK hP hD hS hA rfl hl.1 (Nat.le_of_ble_eq_true rfl) dX12_least_108 ⟨Nat.le_refl 0, Nat.le_refl 0⟩ (fun z108 F108 ar108 H locs q108 hP hD hS => ?_)
          obtain ⟨e1_, e2_, e3_⟩ := q108
          obtain rfl := e1_.symm
          obtain rfl := e2_.symm
          obtain rfl := e3_.symm
          rw [p3 (q + 1 + i) (by omega)]
          have w := pv i i0 (by omega)
          have sw := nsz_nonneg (ar 1) (ar 1 (q + 1 + i))
          have sg := nsz_nonneg (ar3 1) gg
          have ew : nsz (ar3 1) (ar 1 (q + 1 + i)) = nsz (ar 1) (ar 1 (q + 1 + i)) := nsz_agree (p3 _ (by omega))
          have nw : nm (ar3 1) (ar 1 (q + 1 + i)) := nm_agree (fun t a b => p3 t (by omega)) w.2.2.2
          refine lv_iload_n hx hb dX12_least_111 rfl (lv_at hl 3 rfl) ?_
          refine r_calli (As := [Iz (ar 1 (q + 1 + i)), Iz (gg)]) (rest := [Iz (i), .ref (ad 6)]) E (c_over (F := F3) (ar := ar3) (a := ar 1 (q + 1 + i)) (b := gg) (by omega) (by omega) (by omega) (by omega) g1 (by omega) p4 nw g3 (by omega)) (cwV 2 hts (rGood ml_110 mi_over ms_over mn_RX12 mc_over) rfl rfl rfl (by decide +kernel) ⟨Nat.le_of_ble_eq_true rfl, Nat.le_of_ble_eq_true rfl⟩) hK hP hD hS hA rfl hl.1 (Nat.le_of_ble_eq_true rfl) dX12_least_112 ⟨Nat.le_refl 0, Nat.le_refl 0⟩ (fun z112 F112 ar112 H locs q112 hP hD hS => ?_)
          obtain ⟨⟨v1, v2, v3, v4, v5, v6, v7, v8, v9, v10, v11, v12, v13⟩, zz⟩ := q112
          obtain rfl : z112 = F112 3 := zz
          have s112 := nsz_nonneg (ar112 1) (F112 3)
          have s113 := nsz_nonneg (ar112 1) (F112 4)
          have e6 := v2 6 (by decide)
          have eg : nsz (ar112 1) gg = nsz (ar3 1) gg := nsz_agree (v3 gg (by omega))
          have rn : ∀ t : Int, 0 ≤ t → t < i + 1 → 0 ≤ iup (ar112 6) i (F112 3) t ∧ iup (ar112 6) i (F112 3) t + nsz (ar112 1) (iup (ar112 6) i (F112 3) t) < F112 2 ∧ nsz (ar112 1) (iup (ar112 6) i (F112 3) t) ≤ 3 := by
            intro t h1 h2
            by_cases e : t = i
            · rw [e, iup_self]; omega
            · rw [iup_ne (by omega), e6]
              have w7 := rw_ t h1 (by omega)
              have s7 := nsz_nonneg (ar3 1) (ar3 6 t)
              rw [nsz_agree (v3 (ar3 6 t) (by omega))]
              omega
          refine g_iast (f := (ar112 6)) hx hb hK hP hD hS 3 0 rfl rfl (by omega) (by omega) (by decide) dX12_least_115 (fun H locs hP hD hS => ?_)
          rw [sa_6] at hP hD
          refine g_iinc (k := 5) (z := i) (n := (1)) (lv' := [(6, Iz (i + 1)), (0, .ref h0), (1, Iz (q)), (2, Iz (F 2)), (3, Iz (gg)), (4, Iz ((ar 1 q) + 1))]) hx hb dX12_least_116 hl rfl (by decide) rfl (fun ls hl => ?_)
          refine lv_goto (tgt := 90) hx hb dX12_least_119 (by decide) ?_
          exact ih_90 _ (by omega) _ _ _ ⟨F112, (aup ar112 6 (iup (ar112 6) i (F112 3))), (i + 1), rfl, (by omega), (by omega), (fun j a b c => (v1 j a b c).trans (p1 j a b c)), (fun j a b c => by rw [aup_ne _ _ c]; exact (v2 j a).trans (p2 j a b c)), (fun t ht => (v3 t (by omega)).trans (p3 t ht)), (v4), (by show hok (ar112 5); rw [v2 5 (by decide)]; exact p5), (hok_up (by rw [e6]; exact p6) (by omega) (by omega)), (by omega), (by omega), (g0), (by show gg + nsz (ar112 1) gg < _; omega), (by show nsz (ar112 1) gg ≤ _; omega), ((nm_agree (fun t a b => v3 t (by omega)) g3 : nm (ar112 1) gg)), (by show nsz (ar112 1) gg ≠ 0; omega), (fun t a b => rn t a b), hP, hD, hS, lv_sub hl [1, 2, 3, 4, 5, 0] rfl⟩
      · skip
        refine lv_aload_n hx hb dX12_least_65 rfl (lv_at hl 0 rfl) ?_
        refine lv_iload_n hx hb dX12_least_66 rfl (lv_at hl 3 rfl) ?_
        refine r_calli (As := [Iz (gg)]) (rest := []) E (c_negated (F := F1) (ar := ar1) (a := gg) (by omega) (by omega) g1 (by omega) p4) (cwV 1 hts (rGood ml_34 mi_negated ms_negated mn_RX12 mc_negated) rfl rfl rfl (by decide +kernel) ⟨Nat.le_of_ble_eq_true rfl, Nat.le_of_ble_eq_true rfl⟩) hK hP hD hS hA rfl hl.1 (Nat.le_of_ble_eq_true rfl) dX12_least_67 ⟨Nat.le_refl 0, Nat.le_refl 0⟩ (fun z67 F67 ar67 H locs q67 hP hD hS => ?_)
        obtain ⟨zz, n1_, n2_, n3_, n4_⟩ := q67
        obtain rfl : z67 = F1 2 := zz
        have s67 := nsz_nonneg (ar67 1) (F1 2)
        refine lv_istore_n (lv' := [(3, Iz (F1 2)), (0, .ref h0), (1, Iz (q)), (2, Iz (F 2)), (4, Iz (i))]) hx hb dX12_least_70 rfl hl (by decide) rfl (fun ls hl => ?_)
        refine r_loop (P := fun N_ H locs ls => ∃ (F2_ : Nat → Int) (ar2_ : Nat → Int → Int) (gg : Int), N_ = 0 ∧ (∀ j : Nat, j ≠ 2 → j ≠ 3 → j ≠ 4 → F2_ j = F j) ∧ (∀ j : Nat, j ≠ 1 → j ≠ 5 → j ≠ 6 → ar2_ j = ar j) ∧ (∀ t : Int, t < F 2 → ar2_ 1 t = ar 1 t) ∧ (hok (ar2_ 1)) ∧ (hok (ar2_ 5)) ∧ (hok (ar2_ 6)) ∧ (F 2 ≤ F2_ 2) ∧ (F2_ 2 ≤ F 2 + 150000) ∧ (F 2 ≤ gg) ∧ (gg + nsz (ar2_ 1) gg < F2_ 2) ∧ (nsz (ar2_ 1) gg ≤ 1000) ∧ (nm (ar2_ 1) gg) ∧ (nsz (ar2_ 1) gg ≠ 0) ∧ va_P (dC, dI) rcl (mW h0 ad cI cJ cB cZ F2_ ar2_) H ∧ va_D (rA h0 ad s.heap.size) (mW h0 ad cI cJ cB cZ F2_ ar2_) ∧ va_S (rA h0 ad s.heap.size) s.heap H locs ∧ lv_has ls 7 [(0, .ref h0), (1, Iz (q)), (2, Iz (F 2)), (3, Iz (gg))]) (g := fun ls => F0 m 71 ls []) (fun N_ H locs ls hI ih_71 => ?_) _ _ _ _ ⟨F67, ar67, (F1 2), rfl, (by first | exact fun j a b c => (n1_.1 j a).trans (p1 j a b c) | exact p1), (by first | exact fun j a b c => (n1_.2.1 j a).trans (p2 j a b c) | exact p2), (by first | exact fun t ht => (n1_.2.2.1 t (by omega)).trans (p3 t ht) | exact p3), (by first | exact n1_.2.2.2 | exact p4), (by first | (rw [n1_.2.1 5 (by decide)]; exact p5) | exact p5), (by first | (rw [n1_.2.1 6 (by decide)]; exact p6) | exact p6), (by omega), (by omega), (by omega), (by first | omega), (by first | (rw [n2_]; exact g2) | exact g2), (by first | exact (nm_move' n2_ n3_).1 g3 | exact g3), (by first | (rw [n2_]; exact gzz) | exact gzz), hP, hD, hS, lv_sub hl [1, 2, 3, 0] rfl⟩
        obtain ⟨F2_, ar2_, gg, rfl, p1, p2, p3, p4, p5, p6, lo, hi, g0, g1, g2, g3, gz2, hP, hD, hS, hl⟩ := hI
        refine lv_aload_n hx hb dX12_least_71 rfl (lv_at hl 0 rfl) ?_
        refine lv_iload_n hx hb dX12_least_72 rfl (lv_at hl 1 rfl) ?_
        refine r_calli (As := [Iz (q)]) (rest := []) E (c_degree (F := F2_) (ar := ar2_) (q := q) b0 (by omega)) (cwV 1 hts (rGood ml_80 mi_degree ms_degree mn_RX12 mc_degree) rfl rfl rfl (by decide +kernel) ⟨Nat.le_of_ble_eq_true rfl, Nat.le_of_ble_eq_true rfl⟩) hK hP hD hS hA rfl hl.1 (Nat.le_of_ble_eq_true rfl) dX12_least_73 ⟨Nat.le_refl 0, Nat.le_refl 0⟩ (fun z73 F73 ar73 H locs q73 hP hD hS => ?_)
        obtain ⟨e1_, e2_, e3_⟩ := q73
        obtain rfl := e1_.symm
        obtain rfl := e2_.symm
        obtain rfl := e3_.symm
        rw [p3 q (by omega)]
        refine lv_iconst (v := Int32.ofInt (1)) hx hb dX12_least_76 (by decide) ?_
        refine g_iadd hx hb dX12_least_77 ?_
        refine lv_istore (lv' := [(4, Iz ((ar 1 q) + 1)), (0, .ref h0), (1, Iz (q)), (2, Iz (F 2)), (3, Iz (gg))]) hx hb dX12_least_78 hl (by decide) rfl (fun ls hl => ?_)
        refine lv_aload_n hx hb dX12_least_80 rfl (lv_at hl 1 rfl) ?_
        refine lv_iload_n hx hb dX12_least_81 rfl (lv_at hl 2 rfl) ?_
        refine r_calli (As := [Iz (q)]) (rest := []) E (c_degree (F := F2_) (ar := ar2_) (q := q) b0 (by omega)) (cwV 1 hts (rGood ml_80 mi_degree ms_degree mn_RX12 mc_degree) rfl rfl rfl (by decide +kernel) ⟨Nat.le_of_ble_eq_true rfl, Nat.le_of_ble_eq_true rfl⟩) hK hP hD hS hA rfl hl.1 (Nat.le_of_ble_eq_true rfl) dX12_least_82 ⟨Nat.le_refl 0, Nat.le_refl 0⟩ (fun z82 F82 ar82 H locs q82 hP hD hS => ?_)
        obtain ⟨e1_, e2_, e3_⟩ := q82
        obtain rfl := e1_.symm
        obtain rfl := e2_.symm
        obtain rfl := e3_.symm
        rw [p3 q (by omega)]
        refine lv_istore (lv' := [(5, Iz (ar 1 q)), (4, Iz ((ar 1 q) + 1)), (0, .ref h0), (1, Iz (q)), (2, Iz (F 2)), (3, Iz (gg))]) hx hb dX12_least_85 hl (by decide) rfl (fun ls hl => ?_)
        refine lv_iconst (v := Int32.ofInt (0)) hx hb dX12_least_87 (by decide) ?_
        refine lv_istore (lv' := [(6, Iz (0)), (5, Iz (ar 1 q)), (4, Iz ((ar 1 q) + 1)), (0, .ref h0), (1, Iz (q)), (2, Iz (F 2)), (3, Iz (gg))]) hx hb dX12_least_88 hl (by decide) rfl (fun ls hl => ?_)
        refine r_loop (P := fun N_ H locs ls => ∃ (F3 : Nat → Int) (ar3 : Nat → Int → Int) (i : Int), N_ = (ar 1 q + 1 - i).toNat ∧ (0 ≤ i) ∧ (i ≤ ar 1 q + 1) ∧ (∀ j : Nat, j ≠ 2 → j ≠ 3 → j ≠ 4 → F3 j = F j) ∧ (∀ j : Nat, j ≠ 1 → j ≠ 5 → j ≠ 6 → ar3 j = ar j) ∧ (∀ t : Int, t < F 2 → ar3 1 t = ar 1 t) ∧ (hok (ar3 1)) ∧ (hok (ar3 5)) ∧ (hok (ar3 6)) ∧ (F 2 ≤ F3 2) ∧ (F3 2 ≤ F 2 + 150000 + 100 * i) ∧ (F 2 ≤ gg) ∧ (gg + nsz (ar3 1) gg < F3 2) ∧ (nsz (ar3 1) gg ≤ 1000) ∧ (nm (ar3 1) gg) ∧ (nsz (ar3 1) gg ≠ 0) ∧ (∀ t : Int, 0 ≤ t → t < i → 0 ≤ ar3 6 t ∧ ar3 6 t + nsz (ar3 1) (ar3 6 t) < F3 2 ∧ nsz (ar3 1) (ar3 6 t) ≤ 3) ∧ va_P (dC, dI) rcl (mW h0 ad cI cJ cB cZ F3 ar3) H ∧ va_D (rA h0 ad s.heap.size) (mW h0 ad cI cJ cB cZ F3 ar3) ∧ va_S (rA h0 ad s.heap.size) s.heap H locs ∧ lv_has ls 7 [(0, .ref h0), (1, Iz (q)), (2, Iz (F 2)), (3, Iz (gg)), (4, Iz ((ar 1 q) + 1)), (6, Iz (i))]) (g := fun ls => F0 m 90 ls []) (fun N_ H locs ls hI ih_90 => ?_) _ _ _ _ ⟨F2_, ar2_, 0, rfl, (Int.le_refl 0), (by omega), (p1), (p2), (p3), (p4), (p5), (p6), (lo), (by omega), (g0), (g1), (g2), (g3), (gz2), (fun t a b => by omega), hP, hD, hS, lv_sub hl [3, 4, 5, 6, 2, 0] rfl⟩
        obtain ⟨F3, ar3, i, rfl, i0, i1, p1, p2, p3, p4, p5, p6, lo, hi, g0, g1, g2, g3, gz3, rw_, hP, hD, hS, hl⟩ := hI
        refine lv_iload hx hb dX12_least_90 (lv_at hl 5 rfl) ?_
        refine lv_iload hx hb dX12_least_92 (lv_at hl 4 rfl) ?_
        refine g_icmp_ge (tgt := 122) hx hb ⟨by omega, by omega⟩ ⟨by omega, by omega⟩ dX12_least_94 (by decide) (fun c_94 => ?_) (fun c_94 => ?_)
        · skip
          have iq2 : i = ar 1 q + 1 := by omega
          have kk : ∀ t : Int, 0 ≤ t → t < ar 1 q + 1 → 0 ≤ ar3 6 t ∧ ar3 6 t < 6000000 := fun t a b => by
            have w7 := rw_ t a (by omega)
            have s7 := nsz_nonneg (ar3 1) (ar3 6 t)
            omega
          refine lv_aload_n hx hb dX12_least_122 rfl (lv_at hl 0 rfl) ?_
          refine lv_iload_n hx hb dX12_least_123 rfl (lv_at hl 2 rfl) ?_
          refine lv_aload_n hx hb dX12_least_124 rfl (lv_at hl 0 rfl) ?_
          refine lv_iload hx hb dX12_least_125 (lv_at hl 4 rfl) ?_
          refine r_calli (As := [Iz ((ar 1 q) + 1)]) (rest := [Iz (F 2), .ref h0]) E (c_polynomialOf (F := F3) (ar := ar3) (n := ar 1 q + 1) (by omega) (by omega) (by omega) (by omega) p4 p6 kk) (cwV 1 hts (rGood ml_89 mi_polynomialOf ms_polynomialOf mn_RX12 mc_polynomialOf) rfl rfl rfl (by decide +kernel) ⟨Nat.le_of_ble_eq_true rfl, Nat.le_of_ble_eq_true rfl⟩) hK hP hD hS hA rfl hl.1 (Nat.le_of_ble_eq_true rfl) dX12_least_127 ⟨Nat.le_refl 0, Nat.le_refl 0⟩ (fun z127 F127 ar127 H locs q127 hP hD hS => ?_)
          obtain ⟨dd, d1, d2, zz, d4, d5, d6, d7, d8⟩ := q127
          obtain rfl : z127 = F3 2 := zz
          have pz : ∀ t : Int, 0 ≤ t → t ≤ ar127 1 (F3 2) → 0 ≤ ar127 1 (F3 2 + 1 + t) ∧ ar127 1 (F3 2 + 1 + t) + nsz (ar127 1) (ar127 1 (F3 2 + 1 + t)) < F127 2 ∧ nsz (ar127 1) (ar127 1 (F3 2 + 1 + t)) ≤ 3 := fun t a b => by
            rw [d5] at b
            have w7 := rw_ t a (by omega)
            have s7 := nsz_nonneg (ar3 1) (ar3 6 t)
            rw [d6 t a b, nsz_agree (d4.2.2.1 (ar3 6 t) (by omega))]
            omega
          refine r_calli (As := [Iz (F 2), Iz (F3 2)]) (rest := []) E (c_keepPolynomial (F := F127) (ar := ar127) (mk := F 2) (q := F3 2) (by omega) (by omega) t0 (by omega) (by omega) (by omega) (by omega) (by omega) d4.2.2.2 (by rw [d4.2.1 5 (by decide)]; exact p5) (by rw [d4.2.1 6 (by decide)]; exact p6) (fun t a b => by have := pz t a b; omega)) (cwV 2 hts (rGood ml_113 mi_keepPolynomial ms_keepPolynomial mn_RX12 mc_keepPolynomial) rfl rfl rfl (by decide +kernel) ⟨Nat.le_of_ble_eq_true rfl, Nat.le_of_ble_eq_true rfl⟩) hK hP hD hS hA rfl hl.1 (Nat.le_of_ble_eq_true rfl) dX12_least_130 ⟨Nat.le_refl 0, Nat.le_refl 0⟩ (fun z130 F130 ar130 H locs q130 hP hD hS => ?_)
          obtain ⟨y1, y2, y3, y4, y5, y6, y7, y8, y9, y10, y11, y12⟩ := q130
          rw [d5] at y11
          have hpost : (∀ j : Nat, j ≠ 2 → j ≠ 3 → j ≠ 4 → F130 j = F j) ∧ (∀ j : Nat, j ≠ 1 → j ≠ 5 → j ≠ 6 → ar130 j = ar j) ∧ hok (ar130 1) ∧ hok (ar130 5) ∧ hok (ar130 6) ∧ 0 ≤ (z130 : Int) ∧ (z130 : Int) + 14 < 6000000 ∧ -1 ≤ ar130 1 (z130 : Int) ∧ ar130 1 (z130 : Int) ≤ ar 1 q ∧ (∀ i : Int, 0 ≤ i → i ≤ ar130 1 (z130 : Int) → 0 ≤ ar130 1 ((z130 : Int) + 1 + i) ∧ ar130 1 ((z130 : Int) + 1 + i) + nsz (ar130 1) (ar130 1 ((z130 : Int) + 1 + i)) < 6000000 ∧ nsz (ar130 1) (ar130 1 ((z130 : Int) + 1 + i)) ≤ 3) := ⟨fun j a b c => (y1 j a).trans ((d4.1 j a).trans (p1 j a b c)), fun j a b c => (y2 j a b c).trans ((d4.2.1 j a).trans (p2 j a b c)), y4, y5, y6, by omega, by omega, y10, by omega, fun t a b => by have hy := y12 t a b; have hp := pz t a (by rw [d5]; omega); have hn := nsz_nonneg (ar130 1) (ar130 1 (z130 + 1 + t)); omega⟩
          exact W.iret (v := Int32.ofInt (z130)) hx hb hr (fun t ht hW => ⟨⟨_, (F130, ar130), rfl, ⟨_, rfl, hpost⟩, by rw [ht]; exact hP, va_K.moved hW.alike hK, hD⟩, hS.F ht⟩) hS.2.2 dX12_least_133
        · skip
          refine lv_aload_n hx hb dX12_least_97 rfl (lv_at hl 0 rfl) ?_
          refine r_geti E hK hP (k := 6) (v := .ref (ad 6)) (by decide) mf_86 rfl rfl dX12_least_98 ?_
          refine lv_iload hx hb dX12_least_101 (lv_at hl 5 rfl) ?_
          refine lv_aload_n hx hb dX12_least_103 rfl (lv_at hl 0 rfl) ?_
          refine lv_aload_n hx hb dX12_least_104 rfl (lv_at hl 0 rfl) ?_
          refine lv_iload_n hx hb dX12_least_105 rfl (lv_at hl 1 rfl) ?_
          refine lv_iload hx hb dX12_least_106 (lv_at hl 5 rfl) ?_
          refine r_calli (As := [Iz (q), Iz (i)]) (rest := [.ref h0, Iz (i), .ref (ad 6)]) E (c_co (F := F3) (ar := ar3) (q := q) (i := i) (by omega) (by omega)) (cwV 2 hts (rGood ml_83 mi_co ms_co mn_RX12 mc_co) rfl rfl rfl (by decide +kernel) ⟨Nat.le_of_ble_eq_true rfl, Nat.le_of_ble_eq_true rfl⟩) hK hP hD hS hA rfl hl.1 (Nat.le_of_ble_eq_true rfl) dX12_least_108 ⟨Nat.le_refl 0, Nat.le_refl 0⟩ (fun z108 F108 ar108 H locs q108 hP hD hS => ?_)
          obtain ⟨e1_, e2_, e3_⟩ := q108
          obtain rfl := e1_.symm
          obtain rfl := e2_.symm
          obtain rfl := e3_.symm
          rw [p3 (q + 1 + i) (by omega)]
          have w := pv i i0 (by omega)
          have sw := nsz_nonneg (ar 1) (ar 1 (q + 1 + i))
          have sg := nsz_nonneg (ar3 1) gg
          have ew : nsz (ar3 1) (ar 1 (q + 1 + i)) = nsz (ar 1) (ar 1 (q + 1 + i)) := nsz_agree (p3 _ (by omega))
          have nw : nm (ar3 1) (ar 1 (q + 1 + i)) := nm_agree (fun t a b => p3 t (by omega)) w.2.2.2
          refine lv_iload_n hx hb dX12_least_111 rfl (lv_at hl 3 rfl) ?_
          refine r_calli (As := [Iz (ar 1 (q + 1 + i)), Iz (gg)]) (rest := [Iz (i), .ref (ad 6)]) E (c_over (F := F3) (ar := ar3) (a := ar 1 (q + 1 + i)) (b := gg) (by omega) (by omega) (by omega) (by omega) g1 (by omega) p4 nw g3 (by omega)) (cwV 2 hts (rGood ml_110 mi_over ms_over mn_RX12 mc_over) rfl rfl rfl (by decide +kernel) ⟨Nat.le_of_ble_eq_true rfl, Nat.le_of_ble_eq_true rfl⟩) hK hP hD hS hA rfl hl.1 (Nat.le_of_ble_eq_true rfl) dX12_least_112 ⟨Nat.le_refl 0, Nat.le_refl 0⟩ (fun z112 F112 ar112 H locs q112 hP hD hS => ?_)
          obtain ⟨⟨v1, v2, v3, v4, v5, v6, v7, v8, v9, v10, v11, v12, v13⟩, zz⟩ := q112
          obtain rfl : z112 = F112 3 := zz
          have s112 := nsz_nonneg (ar112 1) (F112 3)
          have s113 := nsz_nonneg (ar112 1) (F112 4)
          have e6 := v2 6 (by decide)
          have eg : nsz (ar112 1) gg = nsz (ar3 1) gg := nsz_agree (v3 gg (by omega))
          have rn : ∀ t : Int, 0 ≤ t → t < i + 1 → 0 ≤ iup (ar112 6) i (F112 3) t ∧ iup (ar112 6) i (F112 3) t + nsz (ar112 1) (iup (ar112 6) i (F112 3) t) < F112 2 ∧ nsz (ar112 1) (iup (ar112 6) i (F112 3) t) ≤ 3 := by
            intro t h1 h2
            by_cases e : t = i
            · rw [e, iup_self]; omega
            · rw [iup_ne (by omega), e6]
              have w7 := rw_ t h1 (by omega)
              have s7 := nsz_nonneg (ar3 1) (ar3 6 t)
              rw [nsz_agree (v3 (ar3 6 t) (by omega))]
              omega
          refine g_iast (f := (ar112 6)) hx hb hK hP hD hS 3 0 rfl rfl (by omega) (by omega) (by decide) dX12_least_115 (fun H locs hP hD hS => ?_)
          rw [sa_6] at hP hD
          refine g_iinc (k := 5) (z := i) (n := (1)) (lv' := [(6, Iz (i + 1)), (0, .ref h0), (1, Iz (q)), (2, Iz (F 2)), (3, Iz (gg)), (4, Iz ((ar 1 q) + 1))]) hx hb dX12_least_116 hl rfl (by decide) rfl (fun ls hl => ?_)
          refine lv_goto (tgt := 90) hx hb dX12_least_119 (by decide) ?_
          exact ih_90 _ (by omega) _ _ _ ⟨F112, (aup ar112 6 (iup (ar112 6) i (F112 3))), (i + 1), rfl, (by omega), (by omega), (fun j a b c => (v1 j a b c).trans (p1 j a b c)), (fun j a b c => by rw [aup_ne _ _ c]; exact (v2 j a).trans (p2 j a b c)), (fun t ht => (v3 t (by omega)).trans (p3 t ht)), (v4), (by show hok (ar112 5); rw [v2 5 (by decide)]; exact p5), (hok_up (by rw [e6]; exact p6) (by omega) (by omega)), (by omega), (by omega), (g0), (by show gg + nsz (ar112 1) gg < _; omega), (by show nsz (ar112 1) gg ≤ _; omega), ((nm_agree (fun t a b => v3 t (by omega)) g3 : nm (ar112 1) gg)), (by show nsz (ar112 1) gg ≠ 0; omega), (fun t a b => rn t a b), hP, hD, hS, lv_sub hl [1, 2, 3, 4, 5, 0] rfl⟩
    · skip
      refine lv_aload_n hx hb dX12_least_34 rfl (lv_at hl 0 rfl) ?_
      refine lv_iload_n hx hb dX12_least_35 rfl (lv_at hl 3 rfl) ?_
      refine lv_aload_n hx hb dX12_least_36 rfl (lv_at hl 0 rfl) ?_
      refine lv_iload_n hx hb dX12_least_37 rfl (lv_at hl 1 rfl) ?_
      refine lv_iload hx hb dX12_least_38 (lv_at hl 4 rfl) ?_
      refine r_calli (As := [Iz (q), Iz (i)]) (rest := [Iz (gg), .ref h0]) E (c_co (F := F1) (ar := ar1) (q := q) (i := i) (by omega) (by omega)) (cwV 2 hts (rGood ml_83 mi_co ms_co mn_RX12 mc_co) rfl rfl rfl (by decide +kernel) ⟨Nat.le_of_ble_eq_true rfl, Nat.le_of_ble_eq_true rfl⟩) hK hP hD hS hA rfl hl.1 (Nat.le_of_ble_eq_true rfl) dX12_least_40 ⟨Nat.le_refl 0, Nat.le_refl 0⟩ (fun z40 F40 ar40 H locs q40 hP hD hS => ?_)
      obtain ⟨e1_, e2_, e3_⟩ := q40
      obtain rfl := e1_.symm
      obtain rfl := e2_.symm
      obtain rfl := e3_.symm
      rw [p3 (q + 1 + i) (by omega)]
      have w := pv i i0 (by omega)
      have sw := nsz_nonneg (ar 1) (ar 1 (q + 1 + i))
      have sg := nsz_nonneg (ar1 1) gg
      have ew : nsz (ar1 1) (ar 1 (q + 1 + i)) = nsz (ar 1) (ar 1 (q + 1 + i)) := nsz_agree (p3 _ (by omega))
      have nw : nm (ar1 1) (ar 1 (q + 1 + i)) := nm_agree (fun t a b => p3 t (by omega)) w.2.2.2
      refine r_calli (As := [Iz (gg), Iz (ar 1 (q + 1 + i))]) (rest := []) E (c_greatestDivisor (F := F1) (ar := ar1) (a := gg) (b := ar 1 (q + 1 + i)) (by omega) (by omega) (by omega) g1 g2 (by omega) (by omega) (by omega) p4 p5 g3 nw) (cwV 2 hts (rGood ml_104 mi_greatestDivisor ms_greatestDivisor mn_RX12 mc_greatestDivisor) rfl rfl rfl (by decide +kernel) ⟨Nat.le_of_ble_eq_true rfl, Nat.le_of_ble_eq_true rfl⟩) hK hP hD hS hA rfl hl.1 (Nat.le_of_ble_eq_true rfl) dX12_least_43 ⟨Nat.le_refl 0, Nat.le_refl 0⟩ (fun z43 F43 ar43 H locs q43 hP hD hS => ?_)
      obtain ⟨k1, k2, k3, k4, k5, k6, k7, k8, k9, k10, k11⟩ := q43
      refine lv_istore_n (lv' := [(3, Iz (z43)), (0, .ref h0), (1, Iz (q)), (2, Iz (F 2)), (4, Iz (i))]) hx hb dX12_least_46 rfl hl (by decide) rfl (fun ls hl => ?_)
      have sz := nsz_nonneg (ar43 1) z43
      refine g_iinc (k := 4) (z := i) (n := (1)) (lv' := [(4, Iz (i + 1)), (3, Iz (z43)), (0, .ref h0), (1, Iz (q)), (2, Iz (F 2))]) hx hb dX12_least_47 hl rfl (by decide) rfl (fun ls hl => ?_)
      refine lv_goto (tgt := 24) hx hb dX12_least_50 (by decide) ?_
      exact ih_24 _ (by omega) _ _ _ ⟨F43, ar43, (i + 1), z43, rfl, (by omega), (by omega), (fun j a b c => (k1 j a b c).trans (p1 j a b c)), (fun j a b c => (k2 j a b).trans (p2 j a b c)), (fun t ht => (k3 t (by omega)).trans (p3 t ht)), (k4), (k5), (by rw [k2 6 (by decide) (by decide)]; exact p6), (by omega), (by omega), (by omega), (k7), (k10), (k9), (fun e => k11 (Or.inr (by rw [ew]; have hq := le (by omega); rw [show i = ar 1 q by omega]; exact hq))), hP, hD, hS, lv_sub hl [2, 3, 4, 1, 0] rfl⟩
  · skip
    refine lv_iload_n hx hb dX12_least_8 rfl (lv_at hl 1 rfl) ?_
    have hpost : (∀ j : Nat, j ≠ 2 → j ≠ 3 → j ≠ 4 → F j = F j) ∧ (∀ j : Nat, j ≠ 1 → j ≠ 5 → j ≠ 6 → ar j = ar j) ∧ hok (ar 1) ∧ hok (ar 5) ∧ hok (ar 6) ∧ 0 ≤ (q : Int) ∧ (q : Int) + 14 < 6000000 ∧ -1 ≤ ar 1 (q : Int) ∧ ar 1 (q : Int) ≤ ar 1 q ∧ (∀ i : Int, 0 ≤ i → i ≤ ar 1 (q : Int) → 0 ≤ ar 1 ((q : Int) + 1 + i) ∧ ar 1 ((q : Int) + 1 + i) + nsz (ar 1) (ar 1 ((q : Int) + 1 + i)) < 6000000 ∧ nsz (ar 1) (ar 1 ((q : Int) + 1 + i)) ≤ 3) := ⟨fun _ _ _ _ => rfl, fun _ _ _ _ => rfl, hk, hk5, hk6, b0, by omega, e0, Int.le_refl _, fun i a b => by omega⟩
    exact W.iret (v := Int32.ofInt (q)) hx hb hr (fun t ht hW => ⟨⟨_, (F, ar), rfl, ⟨_, rfl, hpost⟩, by rw [ht]; exact hP, va_K.moved hW.alike hK, hD⟩, hS.F ht⟩) hS.2.2 dX12_least_9
