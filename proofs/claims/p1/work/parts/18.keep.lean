set_option maxHeartbeats 4000000 in
set_option maxRecDepth 100000 in
theorem c_keepNumbers {l : Launch} {dC : Nat → ClassId} {dI : Nat → Nat → Nat} {h0 : Nat} {ad : Nat → Nat} {cI cJ cB cZ : Nat} {F : Nat → Int} {ar : Nat → Int → Int} {sz : Nat} {mk n : Int} (t0 : 0 ≤ F 2) (n0 : 0 ≤ n) (n1 : n ≤ 48) (t1 : F 2 + 10000 * n + 2 < 6000000) (m0 : 0 ≤ mk) (m1 : mk ≤ F 2) (hk : hok (ar 1)) (hk5 : hok (ar 5)) (kk : ∀ t : Int, 0 ≤ t → t < n → 0 ≤ ar 5 t ∧ ar 5 t + nsz (ar 1) (ar 5 t) < F 2 ∧ nsz (ar 1) (ar 5 t) < 9999) : Met l yX12_keepNumbers (Cond.code yX12_keepNumbers cX12_keepNumbers 5 none :: w0r) (rRm 2 45) (rPc dC dI h0 ad cI cJ cB cZ F ar sz [Iz (mk), Iz (n)]) (rQv dC dI h0 ad cI cJ cB cZ sz (fun F' ar' => (∀ j : Nat, j ≠ 2 → F' j = F j) ∧ (∀ j : Nat, j ≠ 1 → j ≠ 5 → ar' j = ar j) ∧ (∀ t : Int, t < mk → ar' 1 t = ar 1 t) ∧ hok (ar' 1) ∧ hok (ar' 5) ∧ mk ≤ F' 2 ∧ F' 2 ≤ mk + 10000 * n ∧ (∀ t : Int, n ≤ t → ar' 5 t = ar 5 t) ∧ (∀ t : Int, 0 ≤ t → t < n → mk ≤ ar' 5 t ∧ ar' 5 t + nsz (ar 1) (ar 5 t) < F' 2 ∧ (∀ u : Int, 0 ≤ u → u ≤ nsz (ar 1) (ar 5 t) → ar' 1 (ar' 5 t + u) = ar 1 (ar 5 t + u))))) 0 0 (rA h0 ad sz) := by
  refine Met.ofW (cc := cX12_keepNumbers) (maxL := 5) (ret := none) (by decide) rfl ?_
  intro p e s m args below meth c s₁ B hml hv
  obtain ⟨rfl, hsz, hP, hK, hD0⟩ := hv
  have hx := B.exec
  have hb := B.bytes
  have hr := B.returns
  have hts := atoms_spec (ws := Cond.code yX12_keepNumbers cX12_keepNumbers 5 none :: w0r) B.pre
  have hown : s.vm.findClass RX12 = some m.cls := findClass_of_methodNamed B.named
  have hlocks := B.notSynchronized
  have E : CallFix p m c cX12_keepNumbers 5 s _ (Cond.code yX12_keepNumbers cX12_keepNumbers 5 none :: w0r) RX12 := ⟨hx, hb, hml, hown, hts⟩
  subst hsz
  have hD := rA_self s.heap.size hD0
  have hA : ∀ q : Nat, s.heap.size ≤ q → rA h0 ad s.heap.size q := fun q h => Or.inr h
  have hS : va_S (rA h0 ad s.heap.size) s.heap s.heap [] := va_S.rf
  have hl := lv_entry ([.ref h0, Iz (mk), Iz (n)]) (n := 5) (Nat.le_of_ble_eq_true rfl)
  rw [lg_entry_eq]
  generalize (lg_sl ([.ref h0, Iz (mk), Iz (n)]) ++ List.replicate (5 - (lg_sl ([.ref h0, Iz (mk), Iz (n)])).length) Slot.unset).toArray = ls at hl ⊢
  have hl : lv_has ls 5 [(0, .ref h0), (1, Iz (mk)), (2, Iz (n))] := hl
  refine lv_aload_n hx hb dX12_keepNumbers_0 rfl (lv_at hl 0 rfl) ?_
  refine r_geti E hK hP (k := 2) (v := Iz (F 2)) (by decide) mf_11 rfl rfl dX12_keepNumbers_1 ?_
  refine lv_istore_n (lv' := [(3, Iz (F 2)), (0, .ref h0), (1, Iz (mk)), (2, Iz (n))]) hx hb dX12_keepNumbers_4 rfl hl (by decide) rfl (fun ls hl => ?_)
  refine lv_iconst (v := Int32.ofInt (0)) hx hb dX12_keepNumbers_5 (by decide) ?_
  refine lv_istore (lv' := [(4, Iz (0)), (3, Iz (F 2)), (0, .ref h0), (1, Iz (mk)), (2, Iz (n))]) hx hb dX12_keepNumbers_6 hl (by decide) rfl (fun ls hl => ?_)
  refine r_loop (P := fun N_ H locs ls => ∃ (F1 : Nat → Int) (ar1 : Nat → Int → Int) (i : Int), N_ = (n - i).toNat ∧ (0 ≤ i) ∧ (i ≤ n) ∧ (∀ j : Nat, j ≠ 2 → F1 j = F j) ∧ (∀ j : Nat, j ≠ 1 → j ≠ 5 → ar1 j = ar j) ∧ (∀ t : Int, t < F 2 → ar1 1 t = ar 1 t) ∧ (hok (ar1 1)) ∧ (hok (ar1 5)) ∧ (F 2 ≤ F1 2) ∧ (F1 2 ≤ F 2 + 10000 * i) ∧ (∀ t : Int, i ≤ t → ar1 5 t = ar 5 t) ∧ (∀ t : Int, 0 ≤ t → t < i → F 2 ≤ ar1 5 t ∧ ar1 5 t + nsz (ar 1) (ar 5 t) < F1 2 ∧ (∀ u : Int, 0 ≤ u → u ≤ nsz (ar 1) (ar 5 t) → ar1 1 (ar1 5 t + u) = ar 1 (ar 5 t + u))) ∧ va_P (dC, dI) rcl (mW h0 ad cI cJ cB cZ F1 ar1) H ∧ va_D (rA h0 ad s.heap.size) (mW h0 ad cI cJ cB cZ F1 ar1) ∧ va_S (rA h0 ad s.heap.size) s.heap H locs ∧ lv_has ls 5 [(0, .ref h0), (1, Iz (mk)), (2, Iz (n)), (3, Iz (F 2)), (4, Iz (i))]) (g := fun ls => F0 m 8 ls []) (fun N_ H locs ls hI ih_8 => ?_) _ _ _ _ ⟨F, ar, 0, rfl, (Int.le_refl 0), (n0), (fun _ _ => rfl), (fun _ _ _ => rfl), (fun _ _ => rfl), (hk), (hk5), (Int.le_refl _), (by omega), (fun _ _ => rfl), (fun t a b => by omega), hP, hD, hS, lv_sub hl [2, 3, 4, 1, 0] rfl⟩
  obtain ⟨F1, ar1, i, rfl, i0, i1, p1, p2, p3, p4, p4', p5, p5', p6, p7, hP, hD, hS, hl⟩ := hI
  refine lv_iload hx hb dX12_keepNumbers_8 (lv_at hl 4 rfl) ?_
  refine lv_iload_n hx hb dX12_keepNumbers_10 rfl (lv_at hl 2 rfl) ?_
  refine g_icmp_ge (tgt := 38) hx hb ⟨by omega, by omega⟩ ⟨by omega, by omega⟩ dX12_keepNumbers_11 (by decide) (fun c_11 => ?_) (fun c_11 => ?_)
  · skip
    refine lv_aload_n hx hb dX12_keepNumbers_38 rfl (lv_at hl 0 rfl) ?_
    refine lv_iload_n hx hb dX12_keepNumbers_39 rfl (lv_at hl 1 rfl) ?_
    refine lv_iload_n hx hb dX12_keepNumbers_40 rfl (lv_at hl 3 rfl) ?_
    refine r_callv (As := [Iz (mk), Iz (F 2)]) (rest := []) E (c_bring (F := F1) (ar := ar1) (mk := mk) (fr := F 2) m0 m1 p5 (by omega) p4) (cwV 2 hts (rGood ml_71 mi_bring ms_bring mn_RX12 mc_bring) rfl rfl rfl (by decide +kernel) ⟨Nat.le_of_ble_eq_true rfl, Nat.le_of_ble_eq_true rfl⟩) hK hP hD hS hA rfl hl.1 (Nat.le_of_ble_eq_true rfl) dX12_keepNumbers_41 ⟨Nat.le_refl 0, Nat.le_refl 0⟩ (fun F41 ar41 H locs q41 hP hD hS => ?_)
    obtain ⟨b1, b2, b3, b4, b5⟩ := q41
    obtain rfl := b1.symm
    refine lv_iconst (v := Int32.ofInt (0)) hx hb dX12_keepNumbers_44 (by decide) ?_
    refine lv_istore (lv' := [(4, Iz (0)), (0, .ref h0), (1, Iz (mk)), (2, Iz (n)), (3, Iz (F 2))]) hx hb dX12_keepNumbers_45 hl (by decide) rfl (fun ls hl => ?_)
    refine r_loop (P := fun N_ H locs ls => ∃ (ar2 : Nat → Int → Int) (k : Int), N_ = (n - k).toNat ∧ (0 ≤ k) ∧ (k ≤ n) ∧ (∀ j : Nat, j ≠ 5 → ar2 j = ar41 j) ∧ (∀ t : Int, k ≤ t → ar2 5 t = ar41 5 t) ∧ (∀ t : Int, 0 ≤ t → t < k → ar2 5 t = ar41 5 t - F 2 + mk) ∧ (hok (ar2 5)) ∧ va_P (dC, dI) rcl (mW h0 ad cI cJ cB cZ (fup F1 2 (mk + (F1 2 - F 2))) ar2) H ∧ va_D (rA h0 ad s.heap.size) (mW h0 ad cI cJ cB cZ (fup F1 2 (mk + (F1 2 - F 2))) ar2) ∧ va_S (rA h0 ad s.heap.size) s.heap H locs ∧ lv_has ls 5 [(0, .ref h0), (1, Iz (mk)), (2, Iz (n)), (3, Iz (F 2)), (4, Iz (k))]) (g := fun ls => F0 m 47 ls []) (fun N_ H locs ls hI ih_47 => ?_) _ _ _ _ ⟨ar41, 0, rfl, (Int.le_refl 0), (n0), (fun _ _ => rfl), (fun _ _ => rfl), (fun t a b => by omega), (by rw [b2 5 (by decide)]; exact p4'), hP, hD, hS, lv_sub hl [1, 2, 3, 4, 0] rfl⟩
    obtain ⟨ar2, k, rfl, k0, k1, d1, d2, d3, d4, hP, hD, hS, hl⟩ := hI
    refine lv_iload hx hb dX12_keepNumbers_47 (lv_at hl 4 rfl) ?_
    refine lv_iload_n hx hb dX12_keepNumbers_49 rfl (lv_at hl 2 rfl) ?_
    refine g_icmp_ge (tgt := 77) hx hb ⟨by omega, by omega⟩ ⟨by omega, by omega⟩ dX12_keepNumbers_50 (by decide) (fun c_50 => ?_) (fun c_50 => ?_)
    · skip
      have g5 : ar41 5 = ar1 5 := b2 5 (by decide)
      have f2 : (fup F1 2 (mk + (F1 2 - F 2))) 2 = mk + (F1 2 - F 2) := fup_self _ _ _
      have in_ : i = n := by omega
      have kn : k = n := by omega
      have h1e : ar2 1 = ar41 1 := d1 1 (by decide)
      have fin : ∀ t : Int, 0 ≤ t → t < n → mk ≤ ar2 5 t ∧ ar2 5 t + nsz (ar 1) (ar 5 t) < mk + (F1 2 - F 2) ∧ (∀ u : Int, 0 ≤ u → u ≤ nsz (ar 1) (ar 5 t) → ar2 1 (ar2 5 t + u) = ar 1 (ar 5 t + u)) := by
        intro t h1 h2
        obtain ⟨w1, w2, w3⟩ := p7 t h1 (by omega)
        have e := d3 t h1 (by omega)
        rw [g5] at e
        have st := nsz_nonneg (ar 1) (ar 5 t)
        refine ⟨by omega, by omega, fun u u0 u1 => ?_⟩
        rw [h1e, e, show ar1 5 t - F 2 + mk + u = mk + (ar1 5 t - F 2 + u) by omega, b4 _ (by omega) (by omega), show F 2 + (ar1 5 t - F 2 + u) = ar1 5 t + u by omega]
        exact w3 u u0 u1
      have hpost : (∀ j : Nat, j ≠ 2 → (fup F1 2 (mk + (F1 2 - F 2))) j = F j) ∧ (∀ j : Nat, j ≠ 1 → j ≠ 5 → ar2 j = ar j) ∧ (∀ t : Int, t < mk → ar2 1 t = ar 1 t) ∧ hok (ar2 1) ∧ hok (ar2 5) ∧ mk ≤ (fup F1 2 (mk + (F1 2 - F 2))) 2 ∧ (fup F1 2 (mk + (F1 2 - F 2))) 2 ≤ mk + 10000 * n ∧ (∀ t : Int, n ≤ t → ar2 5 t = ar 5 t) ∧ (∀ t : Int, 0 ≤ t → t < n → mk ≤ ar2 5 t ∧ ar2 5 t + nsz (ar 1) (ar 5 t) < (fup F1 2 (mk + (F1 2 - F 2))) 2 ∧ (∀ u : Int, 0 ≤ u → u ≤ nsz (ar 1) (ar 5 t) → ar2 1 (ar2 5 t + u) = ar 1 (ar 5 t + u))) := ⟨fun t ht => (fup_ne _ _ ht).trans (p1 t ht), fun t h1 h5 => (d1 t h5).trans ((b2 t h1).trans (p2 t h1 h5)), fun t ht => by rw [h1e]; exact (b3 t ht).trans (p3 t (by omega)), by rw [h1e]; exact b5, d4, by rw [f2]; omega, by rw [f2]; omega, fun t ht => by rw [d2 t (by omega), g5]; exact p6 t (by omega), fun t h1 h2 => by rw [f2]; exact fin t h1 h2⟩
      exact W.vret hx hb hr (fun t ht hW => ⟨⟨((fup F1 2 (mk + (F1 2 - F 2))), ar2), rfl, hpost, by rw [ht]; exact hP, va_K.moved hW.alike hK, hD⟩, hS.F ht⟩) hS.2.2 dX12_keepNumbers_77
    · skip
      have g5 : ar41 5 = ar1 5 := b2 5 (by decide)
      have pk := p7 k k0 (by omega)
      have sk := nsz_nonneg (ar 1) (ar 5 k)
      have dk : ar2 5 k = ar1 5 k := by rw [d2 k (Int.le_refl k), g5]
      refine lv_aload_n hx hb dX12_keepNumbers_53 rfl (lv_at hl 0 rfl) ?_
      refine r_geti E hK hP (k := 5) (v := .ref (ad 5)) (by decide) mf_68 rfl rfl dX12_keepNumbers_54 ?_
      refine lv_iload hx hb dX12_keepNumbers_57 (lv_at hl 4 rfl) ?_
      refine lv_aload_n hx hb dX12_keepNumbers_59 rfl (lv_at hl 0 rfl) ?_
      refine r_geti E hK hP (k := 5) (v := .ref (ad 5)) (by decide) mf_68 rfl rfl dX12_keepNumbers_60 ?_
      refine lv_iload hx hb dX12_keepNumbers_63 (lv_at hl 4 rfl) ?_
      refine g_iald (f := (ar2 5)) hx hb hK hP 2 0 rfl rfl (by omega) (by omega) (by decide) dX12_keepNumbers_65 ?_
      refine lv_iload_n hx hb dX12_keepNumbers_66 rfl (lv_at hl 3 rfl) ?_
      refine g_isub hx hb dX12_keepNumbers_67 ?_
      refine lv_iload_n hx hb dX12_keepNumbers_68 rfl (lv_at hl 1 rfl) ?_
      refine g_iadd hx hb dX12_keepNumbers_69 ?_
      refine g_iast (f := (ar2 5)) hx hb hK hP hD hS 2 0 rfl rfl (by omega) (by omega) (by decide) dX12_keepNumbers_70 (fun H locs hP hD hS => ?_)
      rw [sa_5] at hP hD
      refine g_iinc (k := 4) (z := k) (n := (1)) (lv' := [(4, Iz (k + 1)), (0, .ref h0), (1, Iz (mk)), (2, Iz (n)), (3, Iz (F 2))]) hx hb dX12_keepNumbers_71 hl rfl (by decide) rfl (fun ls hl => ?_)
      refine lv_goto (tgt := 47) hx hb dX12_keepNumbers_74 (by decide) ?_
      exact ih_47 _ (by omega) _ _ _ ⟨(aup ar2 5 (iup (ar2 5) k ((((ar2 5) k) - (F 2)) + mk))), (k + 1), rfl, (by omega), (by omega), (fun t ht => by rw [aup_ne _ _ ht]; exact d1 t ht), (fun t ht => (iup_ne (by omega)).trans (d2 t (by omega))), (fun t h1 h2 => by show iup _ _ _ t = _; by_cases e : t = k; (· rw [e, iup_self, d2 k (Int.le_refl k)]); (· rw [iup_ne (by omega)]; exact d3 t h1 (by omega))), (hok_up d4 (by omega) (by omega)), hP, hD, hS, lv_sub hl [1, 2, 3, 4, 0] rfl⟩
  · skip
    refine lv_aload_n hx hb dX12_keepNumbers_14 rfl (lv_at hl 0 rfl) ?_
    refine r_geti E hK hP (k := 5) (v := .ref (ad 5)) (by decide) mf_68 rfl rfl dX12_keepNumbers_15 ?_
    refine lv_iload hx hb dX12_keepNumbers_18 (lv_at hl 4 rfl) ?_
    have pi := p6 i (Int.le_refl i)
    have ki := kk i i0 (by omega)
    have si := nsz_nonneg (ar 1) (ar 5 i)
    have ei : nsz (ar1 1) (ar1 5 i) = nsz (ar 1) (ar 5 i) := by rw [pi]; exact nsz_agree (p3 _ (by omega))
    refine lv_aload_n hx hb dX12_keepNumbers_20 rfl (lv_at hl 0 rfl) ?_
    refine lv_aload_n hx hb dX12_keepNumbers_21 rfl (lv_at hl 0 rfl) ?_
    refine r_geti E hK hP (k := 5) (v := .ref (ad 5)) (by decide) mf_68 rfl rfl dX12_keepNumbers_22 ?_
    refine lv_iload hx hb dX12_keepNumbers_25 (lv_at hl 4 rfl) ?_
    refine g_iald (f := (ar1 5)) hx hb hK hP 2 0 rfl rfl (by omega) (by omega) (by decide) dX12_keepNumbers_27 ?_
    refine r_calli (As := [Iz ((ar1 5) i)]) (rest := [Iz (i), .ref (ad 5)]) E (c_copy (F := F1) (ar := ar1) (a := ar1 5 i) (by omega) (by omega) (by omega) (by omega) p4) (cwV 1 hts (rGood ml_24 mi_copy ms_copy mn_RX12 mc_copy) rfl rfl rfl (by decide +kernel) ⟨Nat.le_of_ble_eq_true rfl, Nat.le_of_ble_eq_true rfl⟩) hK hP hD hS hA rfl hl.1 (Nat.le_of_ble_eq_true rfl) dX12_keepNumbers_28 ⟨Nat.le_refl 0, Nat.le_refl 0⟩ (fun z28 F28 ar28 H locs q28 hP hD hS => ?_)
    obtain ⟨zz, c1, c2, c3⟩ := q28
    obtain rfl : z28 = F1 2 := zz
    refine g_iast (f := (ar28 5)) hx hb hK hP hD hS 2 0 rfl rfl (by omega) (by omega) (by decide) dX12_keepNumbers_31 (fun H locs hP hD hS => ?_)
    rw [sa_5] at hP hD
    have e5 := c1.2.1 5 (by decide)
    have p7n : ∀ t : Int, 0 ≤ t → t < i + 1 → F 2 ≤ iup (ar28 5) i (F1 2) t ∧ iup (ar28 5) i (F1 2) t + nsz (ar 1) (ar 5 t) < F28 2 ∧ (∀ u : Int, 0 ≤ u → u ≤ nsz (ar 1) (ar 5 t) → ar28 1 (iup (ar28 5) i (F1 2) t + u) = ar 1 (ar 5 t + u)) := by
      intro t h1 h2
      by_cases e : t = i
      · rw [e, iup_self]
        refine ⟨p5, by omega, fun u u0 u1 => ?_⟩
        rw [c2 u u0 (by omega), pi]; exact p3 _ (by omega)
      · rw [iup_ne (by omega), e5]
        obtain ⟨w1, w2, w3⟩ := p7 t h1 (by omega)
        refine ⟨w1, by omega, fun u u0 u1 => ?_⟩
        rw [c1.2.2.1 _ (by omega)]; exact w3 u u0 u1
    refine g_iinc (k := 4) (z := i) (n := (1)) (lv' := [(4, Iz (i + 1)), (0, .ref h0), (1, Iz (mk)), (2, Iz (n)), (3, Iz (F 2))]) hx hb dX12_keepNumbers_32 hl rfl (by decide) rfl (fun ls hl => ?_)
    refine lv_goto (tgt := 8) hx hb dX12_keepNumbers_35 (by decide) ?_
    exact ih_8 _ (by omega) _ _ _ ⟨F28, (aup ar28 5 (iup (ar28 5) i (F1 2))), (i + 1), rfl, (by omega), (by omega), (fun t ht => (c1.1 t ht).trans (p1 t ht)), (fun t h1 h5 => by rw [aup_ne _ _ h5]; exact (c1.2.1 t h1).trans (p2 t h1 h5)), (fun t ht => (c1.2.2.1 t (by omega)).trans (p3 t ht)), (c1.2.2.2), (hok_up (by rw [e5]; exact p4') (by omega) (by omega)), (by omega), (by omega), (fun t ht => (iup_ne (by omega)).trans (by rw [e5]; exact p6 t (by omega))), (fun t h1 h2 => p7n t h1 h2), hP, hD, hS, lv_sub hl [1, 2, 3, 4, 0] rfl⟩
