set_option maxHeartbeats 4000000 in
set_option maxRecDepth 100000 in
theorem c_copyPolynomial {l : Launch} {dC : Nat → ClassId} {dI : Nat → Nat → Nat} {h0 : Nat} {ad : Nat → Nat} {cI cJ cB cZ : Nat} {F : Nat → Int} {ar : Nat → Int → Int} {sz : Nat} {q : Int} (t0 : 0 ≤ F 2) (t1 : F 2 ≤ 1000000) (b0 : 0 ≤ q) (b1 : q + 1 + ar 1 q < F 2) (e0 : -1 ≤ ar 1 q) (e1 : ar 1 q ≤ 12) (hk : hok (ar 1)) (hk6 : hok (ar 6)) (pv : ∀ i : Int, 0 ≤ i → i ≤ ar 1 q → 0 ≤ ar 1 (q + 1 + i) ∧ ar 1 (q + 1 + i) + nsz (ar 1) (ar 1 (q + 1 + i)) < F 2 ∧ nsz (ar 1) (ar 1 (q + 1 + i)) ≤ 1000) : Met l yX12_copyPolynomial (Cond.code yX12_copyPolynomial cX12_copyPolynomial 3 (some .int) :: w0r) (rRm 2 45) (rPc dC dI h0 ad cI cJ cB cZ F ar sz [Iz (q)]) (rQi dC dI h0 ad cI cJ cB cZ sz (fun z F' ar' => F 2 ≤ z ∧ (∀ j : Nat, j ≠ 2 → F' j = F j) ∧ (∀ j : Nat, j ≠ 1 → j ≠ 6 → ar' j = ar j) ∧ (∀ t : Int, t < F 2 → ar' 1 t = ar 1 t) ∧ hok (ar' 1) ∧ hok (ar' 6) ∧ F' 2 ≤ F 2 + 30000 ∧ z + 2 + ar' 1 z = F' 2 ∧ -1 ≤ ar' 1 z ∧ ar' 1 z ≤ ar 1 q ∧ (∀ i : Int, 0 ≤ i → i ≤ ar' 1 z → F 2 ≤ ar' 1 (z + 1 + i) ∧ ar' 1 (z + 1 + i) + nsz (ar' 1) (ar' 1 (z + 1 + i)) < z ∧ nsz (ar' 1) (ar' 1 (z + 1 + i)) = nsz (ar 1) (ar 1 (q + 1 + i))))) 0 0 (rA h0 ad sz) := by
  refine Met.ofW (cc := cX12_copyPolynomial) (maxL := 3) (ret := (some .int)) (by decide) rfl ?_
  intro p e s m args below meth c s₁ B hml hv
  obtain ⟨rfl, hsz, hP, hK, hD0⟩ := hv
  have hx := B.exec
  have hb := B.bytes
  have hr := B.returns
  have hts := atoms_spec (ws := Cond.code yX12_copyPolynomial cX12_copyPolynomial 3 (some .int) :: w0r) B.pre
  have hown : s.vm.findClass RX12 = some m.cls := findClass_of_methodNamed B.named
  have hlocks := B.notSynchronized
  have E : CallFix p m c cX12_copyPolynomial 3 s _ (Cond.code yX12_copyPolynomial cX12_copyPolynomial 3 (some .int) :: w0r) RX12 := ⟨hx, hb, hml, hown, hts⟩
  subst hsz
  have hD := rA_self s.heap.size hD0
  have hA : ∀ q : Nat, s.heap.size ≤ q → rA h0 ad s.heap.size q := fun q h => Or.inr h
  have hS : va_S (rA h0 ad s.heap.size) s.heap s.heap [] := va_S.rf
  have hl := lv_entry ([.ref h0, Iz (q)]) (n := 3) (Nat.le_of_ble_eq_true rfl)
  rw [lg_entry_eq]
  generalize (lg_sl ([.ref h0, Iz (q)]) ++ List.replicate (3 - (lg_sl ([.ref h0, Iz (q)])).length) Slot.unset).toArray = ls at hl ⊢
  have hl : lv_has ls 3 [(0, .ref h0), (1, Iz (q))] := hl
  refine lv_iconst (v := Int32.ofInt (0)) hx hb dX12_copyPolynomial_0 (by decide) ?_
  refine lv_istore_n (lv' := [(2, Iz (0)), (0, .ref h0), (1, Iz (q))]) hx hb dX12_copyPolynomial_1 rfl hl (by decide) rfl (fun ls hl => ?_)
  refine r_loop (P := fun N_ H locs ls => ∃ (F1 : Nat → Int) (ar1 : Nat → Int → Int) (i : Int), N_ = (ar 1 q + 1 - i).toNat ∧ (0 ≤ i) ∧ (i ≤ ar 1 q + 1) ∧ (∀ j : Nat, j ≠ 2 → F1 j = F j) ∧ (∀ j : Nat, j ≠ 1 → j ≠ 6 → ar1 j = ar j) ∧ (∀ t : Int, t < F 2 → ar1 1 t = ar 1 t) ∧ (hok (ar1 1)) ∧ (hok (ar1 6)) ∧ (F 2 ≤ F1 2) ∧ (F1 2 ≤ F 2 + 2000 * i) ∧ (∀ t : Int, 0 ≤ t → t < i → F 2 ≤ ar1 6 t ∧ ar1 6 t + nsz (ar1 1) (ar1 6 t) < F1 2 ∧ nsz (ar1 1) (ar1 6 t) = nsz (ar 1) (ar 1 (q + 1 + t))) ∧ va_P (dC, dI) rcl (mW h0 ad cI cJ cB cZ F1 ar1) H ∧ va_D (rA h0 ad s.heap.size) (mW h0 ad cI cJ cB cZ F1 ar1) ∧ va_S (rA h0 ad s.heap.size) s.heap H locs ∧ lv_has ls 3 [(0, .ref h0), (1, Iz (q)), (2, Iz (i))]) (g := fun ls => F0 m 2 ls []) (fun N_ H locs ls hI ih_2 => ?_) _ _ _ _ ⟨F, ar, 0, rfl, (Int.le_refl 0), (by omega), (fun _ _ => rfl), (fun _ _ _ => rfl), (fun _ _ => rfl), (hk), (hk6), (Int.le_refl _), (by omega), (fun t a b => by omega), hP, hD, hS, lv_sub hl [1, 2, 0] rfl⟩
  obtain ⟨F1, ar1, i, rfl, i0, i1, p1, p2, p3, p4, p6, p5, p5', p7, hP, hD, hS, hl⟩ := hI
  refine lv_iload_n hx hb dX12_copyPolynomial_2 rfl (lv_at hl 2 rfl) ?_
  refine lv_aload_n hx hb dX12_copyPolynomial_3 rfl (lv_at hl 0 rfl) ?_
  refine lv_iload_n hx hb dX12_copyPolynomial_4 rfl (lv_at hl 1 rfl) ?_
  refine r_calli (As := [Iz (q)]) (rest := [Iz (i)]) E (c_degree (F := F1) (ar := ar1) (q := q) b0 (by omega)) (cwV 1 hts (rGood ml_80 mi_degree ms_degree mn_RX12 mc_degree) rfl rfl rfl (by decide +kernel) ⟨Nat.le_of_ble_eq_true rfl, Nat.le_of_ble_eq_true rfl⟩) hK hP hD hS hA rfl hl.1 (Nat.le_of_ble_eq_true rfl) dX12_copyPolynomial_5 ⟨Nat.le_refl 0, Nat.le_refl 0⟩ (fun z5 F5 ar5 H locs q5 hP hD hS => ?_)
  obtain ⟨e1_, e2_, e3_⟩ := q5
  obtain rfl := e1_.symm
  obtain rfl := e2_.symm
  obtain rfl := e3_.symm
  rw [p3 q (by omega)]
  refine g_icmp_gt (tgt := 33) hx hb ⟨by omega, by omega⟩ ⟨by omega, by omega⟩ dX12_copyPolynomial_8 (by decide) (fun c_8 => ?_) (fun c_8 => ?_)
  · skip
    refine lv_aload_n hx hb dX12_copyPolynomial_33 rfl (lv_at hl 0 rfl) ?_
    refine lv_aload_n hx hb dX12_copyPolynomial_34 rfl (lv_at hl 0 rfl) ?_
    refine lv_iload_n hx hb dX12_copyPolynomial_35 rfl (lv_at hl 1 rfl) ?_
    refine r_calli (As := [Iz (q)]) (rest := [.ref h0]) E (c_degree (F := F1) (ar := ar1) (q := q) b0 (by omega)) (cwV 1 hts (rGood ml_80 mi_degree ms_degree mn_RX12 mc_degree) rfl rfl rfl (by decide +kernel) ⟨Nat.le_of_ble_eq_true rfl, Nat.le_of_ble_eq_true rfl⟩) hK hP hD hS hA rfl hl.1 (Nat.le_of_ble_eq_true rfl) dX12_copyPolynomial_36 ⟨Nat.le_refl 0, Nat.le_refl 0⟩ (fun z36 F36 ar36 H locs q36 hP hD hS => ?_)
    obtain ⟨e1_, e2_, e3_⟩ := q36
    obtain rfl := e1_.symm
    obtain rfl := e2_.symm
    obtain rfl := e3_.symm
    rw [p3 q (by omega)]
    refine lv_iconst (v := Int32.ofInt (1)) hx hb dX12_copyPolynomial_39 (by decide) ?_
    refine g_iadd hx hb dX12_copyPolynomial_40 ?_
    have kk : ∀ t : Int, 0 ≤ t → t < ar 1 q + 1 → 0 ≤ ar1 6 t ∧ ar1 6 t < 6000000 := fun t a b => by
      have w7 := p7 t a (by omega)
      have s7 := nsz_nonneg (ar1 1) (ar1 6 t)
      omega
    refine r_calli (As := [Iz ((ar 1 q) + 1)]) (rest := []) E (c_polynomialOf (F := F1) (ar := ar1) (n := ar 1 q + 1) (by omega) (by omega) (by omega) (by omega) p4 p6 kk) (cwV 1 hts (rGood ml_89 mi_polynomialOf ms_polynomialOf mn_RX12 mc_polynomialOf) rfl rfl rfl (by decide +kernel) ⟨Nat.le_of_ble_eq_true rfl, Nat.le_of_ble_eq_true rfl⟩) hK hP hD hS hA rfl hl.1 (Nat.le_of_ble_eq_true rfl) dX12_copyPolynomial_41 ⟨Nat.le_refl 0, Nat.le_refl 0⟩ (fun z41 F41 ar41 H locs q41 hP hD hS => ?_)
    obtain ⟨dd, d1, d2, zz, d4, d5, d6, d7, d8⟩ := q41
    obtain rfl : z41 = F1 2 := zz
    have s1 := d4.2.2.1
    have hpost : F 2 ≤ (F1 2 : Int) ∧ (∀ j : Nat, j ≠ 2 → F41 j = F j) ∧ (∀ j : Nat, j ≠ 1 → j ≠ 6 → ar41 j = ar j) ∧ (∀ t : Int, t < F 2 → ar41 1 t = ar 1 t) ∧ hok (ar41 1) ∧ hok (ar41 6) ∧ F41 2 ≤ F 2 + 30000 ∧ (F1 2 : Int) + 2 + ar41 1 (F1 2 : Int) = F41 2 ∧ -1 ≤ ar41 1 (F1 2 : Int) ∧ ar41 1 (F1 2 : Int) ≤ ar 1 q ∧ (∀ i : Int, 0 ≤ i → i ≤ ar41 1 (F1 2 : Int) → F 2 ≤ ar41 1 ((F1 2 : Int) + 1 + i) ∧ ar41 1 ((F1 2 : Int) + 1 + i) + nsz (ar41 1) (ar41 1 ((F1 2 : Int) + 1 + i)) < (F1 2 : Int) ∧ nsz (ar41 1) (ar41 1 ((F1 2 : Int) + 1 + i)) = nsz (ar 1) (ar 1 (q + 1 + i))) := ⟨p5, fun j hj => (d4.1 j hj).trans (p1 j hj), fun j h1 h6 => (d4.2.1 j h1).trans (p2 j h1 h6), fun t ht => (d4.2.2.1 t (by omega)).trans (p3 t ht), d4.2.2.2, by rw [d4.2.1 6 (by decide)]; exact p6, by omega, by rw [d5]; omega, by rw [d5]; exact d1, by rw [d5]; omega, fun t h1 h2 => by rw [d5] at h2; have w7 := p7 t h1 (by omega); have s7 := nsz_nonneg (ar1 1) (ar1 6 t); rw [d6 t h1 h2, nsz_agree (d4.2.2.1 (ar1 6 t) (by omega))]; omega⟩
    exact W.iret (v := Int32.ofInt (F1 2)) hx hb hr (fun t ht hW => ⟨⟨_, (F41, ar41), rfl, ⟨_, rfl, hpost⟩, by rw [ht]; exact hP, va_K.moved hW.alike hK, hD⟩, hS.F ht⟩) hS.2.2 dX12_copyPolynomial_44
  · skip
    refine lv_aload_n hx hb dX12_copyPolynomial_11 rfl (lv_at hl 0 rfl) ?_
    refine r_geti E hK hP (k := 6) (v := .ref (ad 6)) (by decide) mf_86 rfl rfl dX12_copyPolynomial_12 ?_
    refine lv_iload_n hx hb dX12_copyPolynomial_15 rfl (lv_at hl 2 rfl) ?_
    refine lv_aload_n hx hb dX12_copyPolynomial_16 rfl (lv_at hl 0 rfl) ?_
    refine lv_aload_n hx hb dX12_copyPolynomial_17 rfl (lv_at hl 0 rfl) ?_
    refine lv_iload_n hx hb dX12_copyPolynomial_18 rfl (lv_at hl 1 rfl) ?_
    refine lv_iload_n hx hb dX12_copyPolynomial_19 rfl (lv_at hl 2 rfl) ?_
    refine r_calli (As := [Iz (q), Iz (i)]) (rest := [.ref h0, Iz (i), .ref (ad 6)]) E (c_co (F := F1) (ar := ar1) (q := q) (i := i) (by omega) (by omega)) (cwV 2 hts (rGood ml_83 mi_co ms_co mn_RX12 mc_co) rfl rfl rfl (by decide +kernel) ⟨Nat.le_of_ble_eq_true rfl, Nat.le_of_ble_eq_true rfl⟩) hK hP hD hS hA rfl hl.1 (Nat.le_of_ble_eq_true rfl) dX12_copyPolynomial_20 ⟨Nat.le_refl 0, Nat.le_refl 0⟩ (fun z20 F20 ar20 H locs q20 hP hD hS => ?_)
    obtain ⟨e1_, e2_, e3_⟩ := q20
    obtain rfl := e1_.symm
    obtain rfl := e2_.symm
    obtain rfl := e3_.symm
    rw [p3 (q + 1 + i) (by omega)]
    have w := pv i i0 (by omega)
    have sw := nsz_nonneg (ar 1) (ar 1 (q + 1 + i))
    have ew : nsz (ar1 1) (ar 1 (q + 1 + i)) = nsz (ar 1) (ar 1 (q + 1 + i)) := nsz_agree (p3 _ (by omega))
    refine r_calli (As := [Iz (ar 1 (q + 1 + i))]) (rest := [Iz (i), .ref (ad 6)]) E (c_copy (F := F1) (ar := ar1) (a := ar 1 (q + 1 + i)) (by omega) (by omega) (by omega) (by omega) p4) (cwV 1 hts (rGood ml_24 mi_copy ms_copy mn_RX12 mc_copy) rfl rfl rfl (by decide +kernel) ⟨Nat.le_of_ble_eq_true rfl, Nat.le_of_ble_eq_true rfl⟩) hK hP hD hS hA rfl hl.1 (Nat.le_of_ble_eq_true rfl) dX12_copyPolynomial_23 ⟨Nat.le_refl 0, Nat.le_refl 0⟩ (fun z23 F23 ar23 H locs q23 hP hD hS => ?_)
    obtain ⟨zz, c1, c2, c3⟩ := q23
    obtain rfl : z23 = F1 2 := zz
    refine g_iast (f := (ar23 6)) hx hb hK hP hD hS 3 0 rfl rfl (by omega) (by omega) (by decide) dX12_copyPolynomial_26 (fun H locs hP hD hS => ?_)
    rw [sa_6] at hP hD
    have e6 := c1.2.1 6 (by decide)
    have mv := nm_move (h := ar1 1) (g := ar23 1) (a := ar 1 (q + 1 + i)) (b := F1 2) c2
    have p7n : ∀ t : Int, 0 ≤ t → t < i + 1 → F 2 ≤ iup (ar23 6) i (F1 2) t ∧ iup (ar23 6) i (F1 2) t + nsz (ar23 1) (iup (ar23 6) i (F1 2) t) < F23 2 ∧ nsz (ar23 1) (iup (ar23 6) i (F1 2) t) = nsz (ar 1) (ar 1 (q + 1 + t)) := by
      intro t h1 h2
      by_cases e : t = i
      · rw [e, iup_self, mv.1, ew]; omega
      · rw [iup_ne (by omega), e6]
        have w7 := p7 t h1 (by omega)
        have s7 := nsz_nonneg (ar1 1) (ar1 6 t)
        rw [nsz_agree (c1.2.2.1 (ar1 6 t) (by omega))]
        omega
    refine g_iinc (k := 2) (z := i) (n := (1)) (lv' := [(2, Iz (i + 1)), (0, .ref h0), (1, Iz (q))]) hx hb dX12_copyPolynomial_27 hl rfl (by decide) rfl (fun ls hl => ?_)
    refine lv_goto (tgt := 2) hx hb dX12_copyPolynomial_30 (by decide) ?_
    exact ih_2 _ (by omega) _ _ _ ⟨F23, (aup ar23 6 (iup (ar23 6) i (F1 2))), (i + 1), rfl, (by omega), (by omega), (fun t ht => (c1.1 t ht).trans (p1 t ht)), (fun t h1 h5 => by rw [aup_ne _ _ h5]; exact (c1.2.1 t h1).trans (p2 t h1 h5)), (fun t ht => (c1.2.2.1 t (by omega)).trans (p3 t ht)), (c1.2.2.2), (hok_up (by rw [e6]; exact p6) (by omega) (by omega)), (by omega), (by omega), (fun t h1 h2 => p7n t h1 h2), hP, hD, hS, lv_sub hl [1, 2, 0] rfl⟩
