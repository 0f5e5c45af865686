set_option maxHeartbeats 4000000 in
set_option maxRecDepth 100000 in
theorem c_polynomialOf {l : Launch} {dC : Nat → ClassId} {dI : Nat → Nat → Nat} {h0 : Nat} {ad : Nat → Nat} {cI cJ cB cZ : Nat} {F : Nat → Int} {ar : Nat → Int → Int} {sz : Nat} {n : Int} (t0 : 0 ≤ F 2) (n0 : 0 ≤ n) (n1 : n ≤ 40) (t1 : F 2 + n + 2 < 6000000) (hk : hok (ar 1)) (hk6 : hok (ar 6)) (kk : ∀ t : Int, 0 ≤ t → t < n → 0 ≤ ar 6 t ∧ ar 6 t < 6000000) : Met l yX12_polynomialOf (Cond.code yX12_polynomialOf cX12_polynomialOf 5 (some .int) :: w0r) (rRm 1 21) (rPc dC dI h0 ad cI cJ cB cZ F ar sz [Iz (n)]) (rQi dC dI h0 ad cI cJ cB cZ sz (fun z F' ar' => ∃ d' : Int, -1 ≤ d' ∧ d' ≤ n - 1 ∧ z = F 2 ∧ nK F F' ar ar' ∧ ar' 1 (F 2) = d' ∧ (∀ i : Int, 0 ≤ i → i ≤ d' → ar' 1 (F 2 + 1 + i) = ar 6 i) ∧ F' 2 = F 2 + 2 + d' ∧ (0 ≤ d' → nsz (ar 1) (ar 6 d') ≠ 0))) 0 0 (rA h0 ad sz) := by
  refine Met.ofW (cc := cX12_polynomialOf) (maxL := 5) (ret := (some .int)) (by decide) rfl ?_
  intro p e s m args below meth c s₁ B hml hv
  obtain ⟨rfl, hsz, hP, hK, hD0⟩ := hv
  have hx := B.exec
  have hb := B.bytes
  have hr := B.returns
  have hts := atoms_spec (ws := Cond.code yX12_polynomialOf cX12_polynomialOf 5 (some .int) :: w0r) B.pre
  have hown : s.vm.findClass RX12 = some m.cls := findClass_of_methodNamed B.named
  have hlocks := B.notSynchronized
  have E : CallFix p m c cX12_polynomialOf 5 s _ (Cond.code yX12_polynomialOf cX12_polynomialOf 5 (some .int) :: w0r) RX12 := ⟨hx, hb, hml, hown, hts⟩
  subst hsz
  have hD := rA_self s.heap.size hD0
  have hA : ∀ q : Nat, s.heap.size ≤ q → rA h0 ad s.heap.size q := fun q h => Or.inr h
  have hS : va_S (rA h0 ad s.heap.size) s.heap s.heap [] := va_S.rf
  have hl := lv_entry ([.ref h0, Iz (n)]) (n := 5) (Nat.le_of_ble_eq_true rfl)
  rw [lg_entry_eq]
  generalize (lg_sl ([.ref h0, Iz (n)]) ++ List.replicate (5 - (lg_sl ([.ref h0, Iz (n)])).length) Slot.unset).toArray = ls at hl ⊢
  have hl : lv_has ls 5 [(0, .ref h0), (1, Iz (n))] := hl
  refine lv_iload_n hx hb dX12_polynomialOf_0 rfl (lv_at hl 1 rfl) ?_
  refine lv_iconst (v := Int32.ofInt (1)) hx hb dX12_polynomialOf_1 (by decide) ?_
  refine g_isub hx hb dX12_polynomialOf_2 ?_
  refine lv_istore_n (lv' := [(2, Iz (n - 1)), (0, .ref h0), (1, Iz (n))]) hx hb dX12_polynomialOf_3 rfl hl (by decide) rfl (fun ls hl => ?_)
  refine r_loop (P := fun N_ H locs ls => ∃ (d : Int), N_ = (d + 1).toNat ∧ (-1 ≤ d) ∧ (d ≤ n - 1) ∧ va_P (dC, dI) rcl (mW h0 ad cI cJ cB cZ F ar) H ∧ va_D (rA h0 ad s.heap.size) (mW h0 ad cI cJ cB cZ F ar) ∧ va_S (rA h0 ad s.heap.size) s.heap H locs ∧ lv_has ls 5 [(0, .ref h0), (1, Iz (n)), (2, Iz (d))]) (g := fun ls => F0 m 4 ls []) (fun N_ H locs ls hI ih_4 => ?_) _ _ _ _ ⟨(n - 1), rfl, (by omega), (by omega), hP, hD, hS, lv_sub hl [1, 2, 0] rfl⟩
  obtain ⟨d, rfl, d0, d1, hP, hD, hS, hl⟩ := hI
  refine lv_iload_n hx hb dX12_polynomialOf_4 rfl (lv_at hl 2 rfl) ?_
  refine g_if_lt (tgt := 27) hx hb ⟨by omega, by omega⟩ dX12_polynomialOf_5 (by decide) (fun c_5 => ?_) (fun c_5 => ?_)
  · skip
    refine lv_aload_n hx hb dX12_polynomialOf_27 rfl (lv_at hl 0 rfl) ?_
    refine r_geti E hK hP (k := 2) (v := Iz (F 2)) (by decide) mf_11 rfl rfl dX12_polynomialOf_28 ?_
    refine lv_istore_n (lv' := [(3, Iz (F 2)), (0, .ref h0), (1, Iz (n)), (2, Iz (d))]) hx hb dX12_polynomialOf_31 rfl hl (by decide) rfl (fun ls hl => ?_)
    refine lv_aload_n hx hb dX12_polynomialOf_32 rfl (lv_at hl 1 rfl) ?_
    refine r_geti E hK hP (k := 1) (v := .ref (ad 1)) (by decide) mf_7 rfl rfl dX12_polynomialOf_33 ?_
    refine lv_iload_n hx hb dX12_polynomialOf_36 rfl (lv_at hl 0 rfl) ?_
    refine lv_iload_n hx hb dX12_polynomialOf_37 rfl (lv_at hl 3 rfl) ?_
    refine g_iast (f := (ar 1)) hx hb hK hP hD hS 1 0 rfl rfl (by omega) (by omega) (by decide) dX12_polynomialOf_38 (fun H locs hP hD hS => ?_)
    rw [sa_1] at hP hD
    refine lv_iconst (v := Int32.ofInt (0)) hx hb dX12_polynomialOf_39 (by decide) ?_
    refine lv_istore (lv' := [(4, Iz (0)), (3, Iz (F 2)), (0, .ref h0), (1, Iz (n)), (2, Iz (d))]) hx hb dX12_polynomialOf_40 hl (by decide) rfl (fun ls hl => ?_)
    refine r_loop (P := fun N_ H locs ls => ∃ (ar1 : Nat → Int → Int) (i : Int), N_ = (d + 1 - i).toNat ∧ (0 ≤ i) ∧ (i ≤ d + 1) ∧ (∀ j : Nat, j ≠ 1 → ar1 j = ar j) ∧ (∀ t : Int, t < F 2 → ar1 1 t = ar 1 t) ∧ (ar1 1 (F 2) = d) ∧ (∀ t : Int, 0 ≤ t → t < i → ar1 1 (F 2 + 1 + t) = ar 6 t) ∧ (hok (ar1 1)) ∧ va_P (dC, dI) rcl (mW h0 ad cI cJ cB cZ F ar1) H ∧ va_D (rA h0 ad s.heap.size) (mW h0 ad cI cJ cB cZ F ar1) ∧ va_S (rA h0 ad s.heap.size) s.heap H locs ∧ lv_has ls 5 [(0, .ref h0), (1, Iz (n)), (2, Iz (d)), (3, Iz (F 2)), (4, Iz (i))]) (g := fun ls => F0 m 42 ls []) (fun N_ H locs ls hI ih_42 => ?_) _ _ _ _ ⟨(aup ar 1 (iup (ar 1) (F 2) d)), 0, rfl, (Int.le_refl 0), (by omega), (fun j hj => aup_ne _ _ hj), (fun t ht => iup_ne (by omega)), ((show iup (ar 1) (F 2) d (F 2) = d from iup_self)), (fun t a b => by omega), (hok_up hk (by omega) (by omega)), hP, hD, hS, lv_sub hl [2, 3, 4, 1, 0] rfl⟩
    obtain ⟨ar1, i, rfl, i0, i1, q1, q2, q0, q3, q4, hP, hD, hS, hl⟩ := hI
    refine lv_iload hx hb dX12_polynomialOf_42 (lv_at hl 4 rfl) ?_
    refine lv_iload_n hx hb dX12_polynomialOf_44 rfl (lv_at hl 2 rfl) ?_
    refine g_icmp_gt (tgt := 72) hx hb ⟨by omega, by omega⟩ ⟨by omega, by omega⟩ dX12_polynomialOf_45 (by decide) (fun c_45 => ?_) (fun c_45 => ?_)
    · skip
      refine lv_aload_n hx hb dX12_polynomialOf_72 rfl (lv_at hl 0 rfl) ?_
      refine lv_iload_n hx hb dX12_polynomialOf_73 rfl (lv_at hl 3 rfl) ?_
      refine lv_iconst (v := Int32.ofInt (2)) hx hb dX12_polynomialOf_74 (by decide) ?_
      refine g_iadd hx hb dX12_polynomialOf_75 ?_
      refine lv_iload_n hx hb dX12_polynomialOf_76 rfl (lv_at hl 2 rfl) ?_
      refine g_iadd hx hb dX12_polynomialOf_77 ?_
      refine r_puti E hK hP hD hS 2 (by decide) mf_11 rfl rfl (by decide +kernel) (sp_2 h0 ad cI cJ cB cZ _ _) dX12_polynomialOf_78 (fun H locs hP hD hS => ?_)
      refine lv_iload_n hx hb dX12_polynomialOf_81 rfl (lv_at hl 3 rfl) ?_
      have hpost : ∃ d' : Int, -1 ≤ d' ∧ d' ≤ n - 1 ∧ (F 2 : Int) = F 2 ∧ nK F (fup F 2 (((F 2) + 2) + d)) ar ar1 ∧ ar1 1 (F 2) = d' ∧ (∀ i : Int, 0 ≤ i → i ≤ d' → ar1 1 (F 2 + 1 + i) = ar 6 i) ∧ (fup F 2 (((F 2) + 2) + d)) 2 = F 2 + 2 + d' ∧ (0 ≤ d' → nsz (ar 1) (ar 6 d') ≠ 0) := ⟨d, d0, d1, rfl, ⟨fun j hj => fup_ne _ _ hj, q1, q2, q4⟩, q0, fun t h1 h2 => q3 t h1 (by omega), fup_self _ _ _, fun q => by first | exact absurd q (by omega) | exact mt nsg_zero.mpr c_18⟩
      exact W.iret (v := Int32.ofInt (F 2)) hx hb hr (fun t ht hW => ⟨⟨_, ((fup F 2 (((F 2) + 2) + d)), ar1), rfl, ⟨_, rfl, hpost⟩, by rw [ht]; exact hP, va_K.moved hW.alike hK, hD⟩, hS.F ht⟩) hS.2.2 dX12_polynomialOf_82
    · skip
      refine lv_aload_n hx hb dX12_polynomialOf_48 rfl (lv_at hl 0 rfl) ?_
      refine r_geti E hK hP (k := 1) (v := .ref (ad 1)) (by decide) mf_7 rfl rfl dX12_polynomialOf_49 ?_
      refine lv_iload_n hx hb dX12_polynomialOf_52 rfl (lv_at hl 3 rfl) ?_
      refine lv_iconst (v := Int32.ofInt (1)) hx hb dX12_polynomialOf_53 (by decide) ?_
      refine g_iadd hx hb dX12_polynomialOf_54 ?_
      refine lv_iload hx hb dX12_polynomialOf_55 (lv_at hl 4 rfl) ?_
      refine g_iadd hx hb dX12_polynomialOf_57 ?_
      refine lv_aload_n hx hb dX12_polynomialOf_58 rfl (lv_at hl 0 rfl) ?_
      refine r_geti E hK hP (k := 6) (v := .ref (ad 6)) (by decide) mf_86 rfl rfl dX12_polynomialOf_59 ?_
      refine lv_iload hx hb dX12_polynomialOf_62 (lv_at hl 4 rfl) ?_
      refine g_iald (f := (ar1 6)) hx hb hK hP 3 0 rfl rfl (by omega) (by omega) (by decide) dX12_polynomialOf_64 ?_
      rw [q1 6 (by decide)]
      refine g_iast (f := (ar1 1)) hx hb hK hP hD hS 1 0 rfl rfl (by omega) (by omega) (by decide) dX12_polynomialOf_65 (fun H locs hP hD hS => ?_)
      rw [sa_1] at hP hD
      refine g_iinc (k := 4) (z := i) (n := (1)) (lv' := [(4, Iz (i + 1)), (0, .ref h0), (1, Iz (n)), (2, Iz (d)), (3, Iz (F 2))]) hx hb dX12_polynomialOf_66 hl rfl (by decide) rfl (fun ls hl => ?_)
      refine lv_goto (tgt := 42) hx hb dX12_polynomialOf_69 (by decide) ?_
      exact ih_42 _ (by omega) _ _ _ ⟨(aup ar1 1 (iup (ar1 1) (((F 2) + 1) + i) (ar 6 i))), (i + 1), rfl, (by omega), (by omega), (fun j hj => by rw [aup_ne _ _ hj]; exact q1 j hj), (fun t ht => by show iup _ _ _ t = _; rw [iup_ne (by omega)]; exact q2 t ht), ((iup_ne (by omega)).trans q0), (fun t h1 h2 => by show iup _ _ _ _ = _; by_cases e : t = i; (· rw [e, iup_self]); (· rw [iup_ne (by omega)]; exact q3 t h1 (by omega))), (hok_up q4 (hk6 _).1 (hk6 _).2), hP, hD, hS, lv_sub hl [1, 2, 3, 4, 0] rfl⟩
  · skip
    have kd := kk d (by omega) (by omega)
    refine lv_aload_n hx hb dX12_polynomialOf_8 rfl (lv_at hl 0 rfl) ?_
    refine lv_aload_n hx hb dX12_polynomialOf_9 rfl (lv_at hl 0 rfl) ?_
    refine r_geti E hK hP (k := 6) (v := .ref (ad 6)) (by decide) mf_86 rfl rfl dX12_polynomialOf_10 ?_
    refine lv_iload_n hx hb dX12_polynomialOf_13 rfl (lv_at hl 2 rfl) ?_
    refine g_iald (f := (ar 6)) hx hb hK hP 3 0 rfl rfl (by omega) (by omega) (by decide) dX12_polynomialOf_14 ?_
    refine r_calli (As := [Iz ((ar 6) d)]) (rest := []) E (c_signOf (F := F) (ar := ar) (a := ar 6 d) kd.1 kd.2 hk) (cwV 1 hts (rGood ml_27 mi_signOf ms_signOf mn_RX12 mc_signOf) rfl rfl rfl (by decide +kernel) ⟨Nat.le_of_ble_eq_true rfl, Nat.le_of_ble_eq_true rfl⟩) hK hP hD hS hA rfl hl.1 (Nat.le_of_ble_eq_true rfl) dX12_polynomialOf_15 ⟨Nat.le_refl 0, Nat.le_refl 0⟩ (fun z15 F15 ar15 H locs q15 hP hD hS => ?_)
    obtain ⟨e1_, e2_, e3_⟩ := q15
    obtain rfl := e1_.symm
    obtain rfl := e2_.symm
    obtain rfl := e3_.symm
    refine g_if_ne (tgt := 27) hx hb (nsg_i _ _) dX12_polynomialOf_18 (by decide) (fun c_18 => ?_) (fun c_18 => ?_)
    · skip
      refine lv_aload_n hx hb dX12_polynomialOf_27 rfl (lv_at hl 0 rfl) ?_
      refine r_geti E hK hP (k := 2) (v := Iz (F 2)) (by decide) mf_11 rfl rfl dX12_polynomialOf_28 ?_
      refine lv_istore_n (lv' := [(3, Iz (F 2)), (0, .ref h0), (1, Iz (n)), (2, Iz (d))]) hx hb dX12_polynomialOf_31 rfl hl (by decide) rfl (fun ls hl => ?_)
      refine lv_aload_n hx hb dX12_polynomialOf_32 rfl (lv_at hl 1 rfl) ?_
      refine r_geti E hK hP (k := 1) (v := .ref (ad 1)) (by decide) mf_7 rfl rfl dX12_polynomialOf_33 ?_
      refine lv_iload_n hx hb dX12_polynomialOf_36 rfl (lv_at hl 0 rfl) ?_
      refine lv_iload_n hx hb dX12_polynomialOf_37 rfl (lv_at hl 3 rfl) ?_
      refine g_iast (f := (ar 1)) hx hb hK hP hD hS 1 0 rfl rfl (by omega) (by omega) (by decide) dX12_polynomialOf_38 (fun H locs hP hD hS => ?_)
      rw [sa_1] at hP hD
      refine lv_iconst (v := Int32.ofInt (0)) hx hb dX12_polynomialOf_39 (by decide) ?_
      refine lv_istore (lv' := [(4, Iz (0)), (3, Iz (F 2)), (0, .ref h0), (1, Iz (n)), (2, Iz (d))]) hx hb dX12_polynomialOf_40 hl (by decide) rfl (fun ls hl => ?_)
      refine r_loop (P := fun N_ H locs ls => ∃ (ar1 : Nat → Int → Int) (i : Int), N_ = (d + 1 - i).toNat ∧ (0 ≤ i) ∧ (i ≤ d + 1) ∧ (∀ j : Nat, j ≠ 1 → ar1 j = ar j) ∧ (∀ t : Int, t < F 2 → ar1 1 t = ar 1 t) ∧ (ar1 1 (F 2) = d) ∧ (∀ t : Int, 0 ≤ t → t < i → ar1 1 (F 2 + 1 + t) = ar 6 t) ∧ (hok (ar1 1)) ∧ va_P (dC, dI) rcl (mW h0 ad cI cJ cB cZ F ar1) H ∧ va_D (rA h0 ad s.heap.size) (mW h0 ad cI cJ cB cZ F ar1) ∧ va_S (rA h0 ad s.heap.size) s.heap H locs ∧ lv_has ls 5 [(0, .ref h0), (1, Iz (n)), (2, Iz (d)), (3, Iz (F 2)), (4, Iz (i))]) (g := fun ls => F0 m 42 ls []) (fun N_ H locs ls hI ih_42 => ?_) _ _ _ _ ⟨(aup ar 1 (iup (ar 1) (F 2) d)), 0, rfl, (Int.le_refl 0), (by omega), (fun j hj => aup_ne _ _ hj), (fun t ht => iup_ne (by omega)), ((show iup (ar 1) (F 2) d (F 2) = d from iup_self)), (fun t a b => by omega), (hok_up hk (by omega) (by omega)), hP, hD, hS, lv_sub hl [2, 3, 4, 1, 0] rfl⟩
      obtain ⟨ar1, i, rfl, i0, i1, q1, q2, q0, q3, q4, hP, hD, hS, hl⟩ := hI
      refine lv_iload hx hb dX12_polynomialOf_42 (lv_at hl 4 rfl) ?_
      refine lv_iload_n hx hb dX12_polynomialOf_44 rfl (lv_at hl 2 rfl) ?_
      refine g_icmp_gt (tgt := 72) hx hb ⟨by omega, by omega⟩ ⟨by omega, by omega⟩ dX12_polynomialOf_45 (by decide) (fun c_45 => ?_) (fun c_45 => ?_)
      · skip
        refine lv_aload_n hx hb dX12_polynomialOf_72 rfl (lv_at hl 0 rfl) ?_
        refine lv_iload_n hx hb dX12_polynomialOf_73 rfl (lv_at hl 3 rfl) ?_
        refine lv_iconst (v := Int32.ofInt (2)) hx hb dX12_polynomialOf_74 (by decide) ?_
        refine g_iadd hx hb dX12_polynomialOf_75 ?_
        refine lv_iload_n hx hb dX12_polynomialOf_76 rfl (lv_at hl 2 rfl) ?_
        refine g_iadd hx hb dX12_polynomialOf_77 ?_
        refine r_puti E hK hP hD hS 2 (by decide) mf_11 rfl rfl (by decide +kernel) (sp_2 h0 ad cI cJ cB cZ _ _) dX12_polynomialOf_78 (fun H locs hP hD hS => ?_)
        refine lv_iload_n hx hb dX12_polynomialOf_81 rfl (lv_at hl 3 rfl) ?_
        have hpost : ∃ d' : Int, -1 ≤ d' ∧ d' ≤ n - 1 ∧ (F 2 : Int) = F 2 ∧ nK F (fup F 2 (((F 2) + 2) + d)) ar ar1 ∧ ar1 1 (F 2) = d' ∧ (∀ i : Int, 0 ≤ i → i ≤ d' → ar1 1 (F 2 + 1 + i) = ar 6 i) ∧ (fup F 2 (((F 2) + 2) + d)) 2 = F 2 + 2 + d' ∧ (0 ≤ d' → nsz (ar 1) (ar 6 d') ≠ 0) := ⟨d, d0, d1, rfl, ⟨fun j hj => fup_ne _ _ hj, q1, q2, q4⟩, q0, fun t h1 h2 => q3 t h1 (by omega), fup_self _ _ _, fun q => by first | exact absurd q (by omega) | exact mt nsg_zero.mpr c_18⟩
        exact W.iret (v := Int32.ofInt (F 2)) hx hb hr (fun t ht hW => ⟨⟨_, ((fup F 2 (((F 2) + 2) + d)), ar1), rfl, ⟨_, rfl, hpost⟩, by rw [ht]; exact hP, va_K.moved hW.alike hK, hD⟩, hS.F ht⟩) hS.2.2 dX12_polynomialOf_82
      · skip
        refine lv_aload_n hx hb dX12_polynomialOf_48 rfl (lv_at hl 0 rfl) ?_
        refine r_geti E hK hP (k := 1) (v := .ref (ad 1)) (by decide) mf_7 rfl rfl dX12_polynomialOf_49 ?_
        refine lv_iload_n hx hb dX12_polynomialOf_52 rfl (lv_at hl 3 rfl) ?_
        refine lv_iconst (v := Int32.ofInt (1)) hx hb dX12_polynomialOf_53 (by decide) ?_
        refine g_iadd hx hb dX12_polynomialOf_54 ?_
        refine lv_iload hx hb dX12_polynomialOf_55 (lv_at hl 4 rfl) ?_
        refine g_iadd hx hb dX12_polynomialOf_57 ?_
        refine lv_aload_n hx hb dX12_polynomialOf_58 rfl (lv_at hl 0 rfl) ?_
        refine r_geti E hK hP (k := 6) (v := .ref (ad 6)) (by decide) mf_86 rfl rfl dX12_polynomialOf_59 ?_
        refine lv_iload hx hb dX12_polynomialOf_62 (lv_at hl 4 rfl) ?_
        refine g_iald (f := (ar1 6)) hx hb hK hP 3 0 rfl rfl (by omega) (by omega) (by decide) dX12_polynomialOf_64 ?_
        rw [q1 6 (by decide)]
        refine g_iast (f := (ar1 1)) hx hb hK hP hD hS 1 0 rfl rfl (by omega) (by omega) (by decide) dX12_polynomialOf_65 (fun H locs hP hD hS => ?_)
        rw [sa_1] at hP hD
        refine g_iinc (k := 4) (z := i) (n := (1)) (lv' := [(4, Iz (i + 1)), (0, .ref h0), (1, Iz (n)), (2, Iz (d)), (3, Iz (F 2))]) hx hb dX12_polynomialOf_66 hl rfl (by decide) rfl (fun ls hl => ?_)
        refine lv_goto (tgt := 42) hx hb dX12_polynomialOf_69 (by decide) ?_
        exact ih_42 _ (by omega) _ _ _ ⟨(aup ar1 1 (iup (ar1 1) (((F 2) + 1) + i) (ar 6 i))), (i + 1), rfl, (by omega), (by omega), (fun j hj => by rw [aup_ne _ _ hj]; exact q1 j hj), (fun t ht => by show iup _ _ _ t = _; rw [iup_ne (by omega)]; exact q2 t ht), ((iup_ne (by omega)).trans q0), (fun t h1 h2 => by show iup _ _ _ _ = _; by_cases e : t = i; (· rw [e, iup_self]); (· rw [iup_ne (by omega)]; exact q3 t h1 (by omega))), (hok_up q4 (hk6 _).1 (hk6 _).2), hP, hD, hS, lv_sub hl [1, 2, 3, 4, 0] rfl⟩
    · skip
      refine g_iinc (k := 2) (z := d) (n := (-1)) (lv' := [(2, Iz (d + (-1))), (0, .ref h0), (1, Iz (n))]) hx hb dX12_polynomialOf_21 hl rfl (by decide) rfl (fun ls hl => ?_)
      refine lv_goto (tgt := 4) hx hb dX12_polynomialOf_24 (by decide) ?_
      exact ih_4 _ (by omega) _ _ _ ⟨(d + (-1)), rfl, (by omega), (by omega), hP, hD, hS, lv_sub hl [1, 2, 0] rfl⟩
set_option maxHeartbeats 4000000 in
set_option maxRecDepth 100000 in
theorem c_isGreat {l : Launch} {dC : Nat → ClassId} {dI : Nat → Nat → Nat} {h0 : Nat} {ad : Nat → Nat} {cI cJ cB cZ : Nat} {F : Nat → Int} {ar : Nat → Int → Int} {sz : Nat} {q : Int} (b0 : 0 ≤ q) (b1 : q + 14 < 6000000) (hk : hok (ar 1)) (e0 : -1 ≤ ar 1 q) (e1 : ar 1 q ≤ 12) (pv : (∀ i : Int, 0 ≤ i → i ≤ ar 1 q → 0 ≤ ar 1 (q + 1 + i) ∧ ar 1 (q + 1 + i) + nsz (ar 1) (ar 1 (q + 1 + i)) < 6000000 ∧ nsz (ar 1) (ar 1 (q + 1 + i)) ≤ 3)) (em : ar 1 q ≤ F 25) (em2 : F 25 ≤ 10) : Met l yX12_isGreat (Cond.code yX12_isGreat cX12_isGreat 3 (some .boolean) :: w0r) (rRm 2 44) (rPc dC dI h0 ad cI cJ cB cZ F ar sz [Iz (q)]) (rQi dC dI h0 ad cI cJ cB cZ sz (fun z F' ar' => F' = F ∧ ar' = ar ∧ z = 0)) 0 0 (rA h0 ad sz) := by
  refine Met.ofW (cc := cX12_isGreat) (maxL := 3) (ret := (some .boolean)) (by decide) rfl ?_
  intro p e s m args below meth c s₁ B hml hv
  obtain ⟨rfl, hsz, hP, hK, hD0⟩ := hv
  have hx := B.exec
  have hb := B.bytes
  have hr := B.returns
  have hts := atoms_spec (ws := Cond.code yX12_isGreat cX12_isGreat 3 (some .boolean) :: w0r) B.pre
  have hown : s.vm.findClass RX12 = some m.cls := findClass_of_methodNamed B.named
  have hlocks := B.notSynchronized
  have E : CallFix p m c cX12_isGreat 3 s _ (Cond.code yX12_isGreat cX12_isGreat 3 (some .boolean) :: w0r) RX12 := ⟨hx, hb, hml, hown, hts⟩
  subst hsz
  have hD := rA_self s.heap.size hD0
  have hA : ∀ q : Nat, s.heap.size ≤ q → rA h0 ad s.heap.size q := fun q h => Or.inr h
  have hS : va_S (rA h0 ad s.heap.size) s.heap s.heap [] := va_S.rf
  have hl := lv_entry ([.ref h0, Iz (q)]) (n := 3) (Nat.le_of_ble_eq_true rfl)
  rw [lg_entry_eq]
  generalize (lg_sl ([.ref h0, Iz (q)]) ++ List.replicate (3 - (lg_sl ([.ref h0, Iz (q)])).length) Slot.unset).toArray = ls at hl ⊢
  have hl : lv_has ls 3 [(0, .ref h0), (1, Iz (q))] := hl
  refine lv_iconst (v := Int32.ofInt (0)) hx hb dX12_isGreat_0 (by decide) ?_
  refine lv_istore_n (lv' := [(2, Iz (0)), (0, .ref h0), (1, Iz (q))]) hx hb dX12_isGreat_1 rfl hl (by decide) rfl (fun ls hl => ?_)
  refine r_loop (P := fun N_ H locs ls => ∃ (i : Int), N_ = (ar 1 q + 1 - i).toNat ∧ (0 ≤ i) ∧ (i ≤ ar 1 q + 1) ∧ va_P (dC, dI) rcl (mW h0 ad cI cJ cB cZ F ar) H ∧ va_D (rA h0 ad s.heap.size) (mW h0 ad cI cJ cB cZ F ar) ∧ va_S (rA h0 ad s.heap.size) s.heap H locs ∧ lv_has ls 3 [(0, .ref h0), (1, Iz (q)), (2, Iz (i))]) (g := fun ls => F0 m 2 ls []) (fun N_ H locs ls hI ih_2 => ?_) _ _ _ _ ⟨0, rfl, (Int.le_refl 0), (by omega), hP, hD, hS, lv_sub hl [1, 2, 0] rfl⟩
  obtain ⟨i, rfl, i0, i1, hP, hD, hS, hl⟩ := hI
  refine lv_iload_n hx hb dX12_isGreat_2 rfl (lv_at hl 2 rfl) ?_
  refine lv_aload_n hx hb dX12_isGreat_3 rfl (lv_at hl 0 rfl) ?_
  refine lv_iload_n hx hb dX12_isGreat_4 rfl (lv_at hl 1 rfl) ?_
  refine r_calli (As := [Iz (q)]) (rest := [Iz (i)]) E (c_degree (F := F) (ar := ar) (q := q) b0 (by omega)) (cwV 1 hts (rGood ml_80 mi_degree ms_degree mn_RX12 mc_degree) rfl rfl rfl (by decide +kernel) ⟨Nat.le_of_ble_eq_true rfl, Nat.le_of_ble_eq_true rfl⟩) hK hP hD hS hA rfl hl.1 (Nat.le_of_ble_eq_true rfl) dX12_isGreat_5 ⟨Nat.le_refl 0, Nat.le_refl 0⟩ (fun z5 F5 ar5 H locs q5 hP hD hS => ?_)
  obtain ⟨e1_, e2_, e3_⟩ := q5
  obtain rfl := e1_.symm
  obtain rfl := e2_.symm
  obtain rfl := e3_.symm
  refine g_icmp_gt (tgt := 34) hx hb ⟨by omega, by omega⟩ ⟨by omega, by omega⟩ dX12_isGreat_8 (by decide) (fun c_8 => ?_) (fun c_8 => ?_)
  · skip
    refine lv_aload_n hx hb dX12_isGreat_34 rfl (lv_at hl 0 rfl) ?_
    refine lv_iload_n hx hb dX12_isGreat_35 rfl (lv_at hl 1 rfl) ?_
    refine r_calli (As := [Iz (q)]) (rest := []) E (c_degree (F := F) (ar := ar) (q := q) b0 (by omega)) (cwV 1 hts (rGood ml_80 mi_degree ms_degree mn_RX12 mc_degree) rfl rfl rfl (by decide +kernel) ⟨Nat.le_of_ble_eq_true rfl, Nat.le_of_ble_eq_true rfl⟩) hK hP hD hS hA rfl hl.1 (Nat.le_of_ble_eq_true rfl) dX12_isGreat_36 ⟨Nat.le_refl 0, Nat.le_refl 0⟩ (fun z36 F36 ar36 H locs q36 hP hD hS => ?_)
    obtain ⟨e1_, e2_, e3_⟩ := q36
    obtain rfl := e1_.symm
    obtain rfl := e2_.symm
    obtain rfl := e3_.symm
    refine lv_aload_n hx hb dX12_isGreat_39 rfl (lv_at hl 0 rfl) ?_
    refine r_geti E hK hP (k := 25) (v := Iz (F 25)) (by decide) mf_283 rfl rfl dX12_isGreat_40 ?_
    refine g_icmp_le (tgt := 50) hx hb ⟨by omega, by omega⟩ ⟨by omega, by omega⟩ dX12_isGreat_43 (by decide) (fun c_43 => ?_) (fun c_43 => ?_)
    · skip
      refine lv_iconst (v := Int32.ofInt (0)) hx hb dX12_isGreat_50 (by decide) ?_
      have hpost : F = F ∧ ar = ar ∧ (0 : Int) = 0 := ⟨rfl, rfl, rfl⟩
      exact W.zret (v := Int32.ofInt (0)) hx hb hr rfl (fun t ht hW => ⟨⟨_, (F, ar), rfl, ⟨_, rfl, hpost⟩, by rw [ht]; exact hP, va_K.moved hW.alike hK, hD⟩, hS.F ht⟩) hS.2.2 dX12_isGreat_51
    · omega
  · skip
    have w := pv i i0 (by omega)
    refine lv_aload_n hx hb dX12_isGreat_11 rfl (lv_at hl 0 rfl) ?_
    refine lv_aload_n hx hb dX12_isGreat_12 rfl (lv_at hl 0 rfl) ?_
    refine lv_iload_n hx hb dX12_isGreat_13 rfl (lv_at hl 1 rfl) ?_
    refine lv_iload_n hx hb dX12_isGreat_14 rfl (lv_at hl 2 rfl) ?_
    refine r_calli (As := [Iz (q), Iz (i)]) (rest := [.ref h0]) E (c_co (F := F) (ar := ar) (q := q) (i := i) (by omega) (by omega)) (cwV 2 hts (rGood ml_83 mi_co ms_co mn_RX12 mc_co) rfl rfl rfl (by decide +kernel) ⟨Nat.le_of_ble_eq_true rfl, Nat.le_of_ble_eq_true rfl⟩) hK hP hD hS hA rfl hl.1 (Nat.le_of_ble_eq_true rfl) dX12_isGreat_15 ⟨Nat.le_refl 0, Nat.le_refl 0⟩ (fun z15 F15 ar15 H locs q15 hP hD hS => ?_)
    obtain ⟨e1_, e2_, e3_⟩ := q15
    obtain rfl := e1_.symm
    obtain rfl := e2_.symm
    obtain rfl := e3_.symm
    refine r_calli (As := [Iz ((ar 1) (q + 1 + i))]) (rest := []) E (c_bits (F := F) (ar := ar) (a := ar 1 (q + 1 + i)) w.1 w.2.1 hk) (cwV 1 hts (rGood ml_143 mi_bits ms_bits mn_RX12 mc_bits) rfl rfl rfl (by decide +kernel) ⟨Nat.le_of_ble_eq_true rfl, Nat.le_of_ble_eq_true rfl⟩) hK hP hD hS hA rfl hl.1 (Nat.le_of_ble_eq_true rfl) dX12_isGreat_18 ⟨Nat.le_refl 0, Nat.le_refl 0⟩ (fun z18 F18 ar18 H locs q18 hP hD hS => ?_)
    obtain ⟨e1_, e2_, q18⟩ := q18
    obtain rfl := e1_.symm
    obtain rfl := e2_.symm
    have sw := nsz_nonneg (ar 1) (ar 1 (q + 1 + i))
    refine lv_bipush (v := Int32.ofInt (120)) hx hb dX12_isGreat_21 (by decide) ?_
    refine g_icmp_le (tgt := 28) hx hb ⟨by omega, by omega⟩ ⟨by omega, by omega⟩ dX12_isGreat_23 (by decide) (fun c_23 => ?_) (fun c_23 => ?_)
    · skip
      refine g_iinc (k := 2) (z := i) (n := (1)) (lv' := [(2, Iz (i + 1)), (0, .ref h0), (1, Iz (q))]) hx hb dX12_isGreat_28 hl rfl (by decide) rfl (fun ls hl => ?_)
      refine lv_goto (tgt := 2) hx hb dX12_isGreat_31 (by decide) ?_
      exact ih_2 _ (by omega) _ _ _ ⟨(i + 1), rfl, (by omega), (by omega), hP, hD, hS, lv_sub hl [1, 2, 0] rfl⟩
    · omega
set_option maxHeartbeats 4000000 in
set_option maxRecDepth 100000 in
theorem c_save {l : Launch} {dC : Nat → ClassId} {dI : Nat → Nat → Nat} {h0 : Nat} {ad : Nat → Nat} {cI cJ cB cZ : Nat} {F : Nat → Int} {ar : Nat → Int → Int} {sz : Nat} {sl q : Int} (b0 : 0 ≤ q) (b1 : q + 14 < 6000000) (hk : hok (ar 1)) (e0 : -1 ≤ ar 1 q) (e1 : ar 1 q ≤ 12) (pv : (∀ i : Int, 0 ≤ i → i ≤ ar 1 q → 0 ≤ ar 1 (q + 1 + i) ∧ ar 1 (q + 1 + i) + nsz (ar 1) (ar 1 (q + 1 + i)) < 6000000 ∧ nsz (ar 1) (ar 1 (q + 1 + i)) ≤ 3)) (l0 : 0 ≤ sl) (l1 : sl < 260) : Met l yX12_save (Cond.code yX12_save cX12_save 7 none :: w0r) (rRm 1 22) (rPc dC dI h0 ad cI cJ cB cZ F ar sz [Iz (sl), Iz (q)]) (rQv dC dI h0 ad cI cJ cB cZ sz (fun F' ar' => F' = F ∧ (∀ j : Nat, j ≠ 21 → j ≠ 22 → ar' j = ar j))) 0 0 (rA h0 ad sz) := by
  refine Met.ofW (cc := cX12_save) (maxL := 7) (ret := none) (by decide) rfl ?_
  intro p e s m args below meth c s₁ B hml hv
  obtain ⟨rfl, hsz, hP, hK, hD0⟩ := hv
  have hx := B.exec
  have hb := B.bytes
  have hr := B.returns
  have hts := atoms_spec (ws := Cond.code yX12_save cX12_save 7 none :: w0r) B.pre
  have hown : s.vm.findClass RX12 = some m.cls := findClass_of_methodNamed B.named
  have hlocks := B.notSynchronized
  have E : CallFix p m c cX12_save 7 s _ (Cond.code yX12_save cX12_save 7 none :: w0r) RX12 := ⟨hx, hb, hml, hown, hts⟩
  subst hsz
  have hD := rA_self s.heap.size hD0
  have hA : ∀ q : Nat, s.heap.size ≤ q → rA h0 ad s.heap.size q := fun q h => Or.inr h
  have hS : va_S (rA h0 ad s.heap.size) s.heap s.heap [] := va_S.rf
  have hl := lv_entry ([.ref h0, Iz (sl), Iz (q)]) (n := 7) (Nat.le_of_ble_eq_true rfl)
  rw [lg_entry_eq]
  generalize (lg_sl ([.ref h0, Iz (sl), Iz (q)]) ++ List.replicate (7 - (lg_sl ([.ref h0, Iz (sl), Iz (q)])).length) Slot.unset).toArray = ls at hl ⊢
  have hl : lv_has ls 7 [(0, .ref h0), (1, Iz (sl)), (2, Iz (q))] := hl
  refine lv_aload_n hx hb dX12_save_0 rfl (lv_at hl 0 rfl) ?_
  refine r_geti E hK hP (k := 22) (v := .ref (ad 22)) (by decide) mf_277 rfl rfl dX12_save_1 ?_
  refine lv_iload_n hx hb dX12_save_4 rfl (lv_at hl 1 rfl) ?_
  refine lv_aload_n hx hb dX12_save_5 rfl (lv_at hl 0 rfl) ?_
  refine lv_iload_n hx hb dX12_save_6 rfl (lv_at hl 2 rfl) ?_
  refine r_calli (As := [Iz (q)]) (rest := [Iz (sl), .ref (ad 22)]) E (c_degree (F := F) (ar := ar) (q := q) b0 (by omega)) (cwV 1 hts (rGood ml_80 mi_degree ms_degree mn_RX12 mc_degree) rfl rfl rfl (by decide +kernel) ⟨Nat.le_of_ble_eq_true rfl, Nat.le_of_ble_eq_true rfl⟩) hK hP hD hS hA rfl hl.1 (Nat.le_of_ble_eq_true rfl) dX12_save_7 ⟨Nat.le_refl 0, Nat.le_refl 0⟩ (fun z7 F7 ar7 H locs q7 hP hD hS => ?_)
  obtain ⟨e1_, e2_, e3_⟩ := q7
  obtain rfl := e1_.symm
  obtain rfl := e2_.symm
  obtain rfl := e3_.symm
  refine g_iast (f := (ar 22)) hx hb hK hP hD hS 10 0 rfl rfl (by omega) (by omega) (by decide) dX12_save_10 (fun H locs hP hD hS => ?_)
  rw [sa_22] at hP hD
  refine lv_iconst (v := Int32.ofInt (0)) hx hb dX12_save_11 (by decide) ?_
  refine lv_istore_n (lv' := [(3, Iz (0)), (0, .ref h0), (1, Iz (sl)), (2, Iz (q))]) hx hb dX12_save_12 rfl hl (by decide) rfl (fun ls hl => ?_)
  refine r_loop (P := fun N_ H locs ls => ∃ (ar1 : Nat → Int → Int) (i : Int), N_ = (ar 1 q + 1 - i).toNat ∧ (0 ≤ i) ∧ (i ≤ ar 1 q + 1) ∧ (∀ j : Nat, j ≠ 21 → j ≠ 22 → ar1 j = ar j) ∧ va_P (dC, dI) rcl (mW h0 ad cI cJ cB cZ F ar1) H ∧ va_D (rA h0 ad s.heap.size) (mW h0 ad cI cJ cB cZ F ar1) ∧ va_S (rA h0 ad s.heap.size) s.heap H locs ∧ lv_has ls 7 [(0, .ref h0), (1, Iz (sl)), (2, Iz (q)), (3, Iz (i))]) (g := fun ls => F0 m 13 ls []) (fun N_ H locs ls hI ih_13 => ?_) _ _ _ _ ⟨(aup ar 22 (iup (ar 22) sl ((ar 1) q))), 0, rfl, (Int.le_refl 0), (by omega), (fun j h1 h2 => aup_ne _ _ h2), hP, hD, hS, lv_sub hl [1, 2, 3, 0] rfl⟩
  obtain ⟨ar1, i, rfl, i0, i1, r1, hP, hD, hS, hl⟩ := hI
  refine lv_iload_n hx hb dX12_save_13 rfl (lv_at hl 3 rfl) ?_
  refine lv_aload_n hx hb dX12_save_14 rfl (lv_at hl 0 rfl) ?_
  refine lv_iload_n hx hb dX12_save_15 rfl (lv_at hl 2 rfl) ?_
  refine r_calli (As := [Iz (q)]) (rest := [Iz (i)]) E (c_degree (F := F) (ar := ar1) (q := q) b0 (by omega)) (cwV 1 hts (rGood ml_80 mi_degree ms_degree mn_RX12 mc_degree) rfl rfl rfl (by decide +kernel) ⟨Nat.le_of_ble_eq_true rfl, Nat.le_of_ble_eq_true rfl⟩) hK hP hD hS hA rfl hl.1 (Nat.le_of_ble_eq_true rfl) dX12_save_16 ⟨Nat.le_refl 0, Nat.le_refl 0⟩ (fun z16 F16 ar16 H locs q16 hP hD hS => ?_)
  obtain ⟨e1_, e2_, e3_⟩ := q16
  obtain rfl := e1_.symm
  obtain rfl := e2_.symm
  obtain rfl := e3_.symm
  rw [r1 1 (by decide) (by decide)]
  refine g_icmp_gt (tgt := 87) hx hb ⟨by omega, by omega⟩ ⟨by omega, by omega⟩ dX12_save_19 (by decide) (fun c_19 => ?_) (fun c_19 => ?_)
  · skip
    have hpost : F = F ∧ (∀ j : Nat, j ≠ 21 → j ≠ 22 → ar1 j = ar j) := ⟨rfl, r1⟩
    exact W.vret hx hb hr (fun t ht hW => ⟨⟨(F, ar1), rfl, hpost, by rw [ht]; exact hP, va_K.moved hW.alike hK, hD⟩, hS.F ht⟩) hS.2.2 dX12_save_87
  · skip
    have w := pv i i0 (by omega)
    have sw := nsz_nonneg (ar 1) (ar 1 (q + 1 + i))
    refine lv_aload_n hx hb dX12_save_22 rfl (lv_at hl 0 rfl) ?_
    refine lv_iload_n hx hb dX12_save_23 rfl (lv_at hl 2 rfl) ?_
    refine lv_iload_n hx hb dX12_save_24 rfl (lv_at hl 3 rfl) ?_
    refine r_calli (As := [Iz (q), Iz (i)]) (rest := []) E (c_co (F := F) (ar := ar1) (q := q) (i := i) (by omega) (by omega)) (cwV 2 hts (rGood ml_83 mi_co ms_co mn_RX12 mc_co) rfl rfl rfl (by decide +kernel) ⟨Nat.le_of_ble_eq_true rfl, Nat.le_of_ble_eq_true rfl⟩) hK hP hD hS hA rfl hl.1 (Nat.le_of_ble_eq_true rfl) dX12_save_25 ⟨Nat.le_refl 0, Nat.le_refl 0⟩ (fun z25 F25 ar25 H locs q25 hP hD hS => ?_)
    obtain ⟨e1_, e2_, e3_⟩ := q25
    obtain rfl := e1_.symm
    obtain rfl := e2_.symm
    obtain rfl := e3_.symm
    rw [r1 1 (by decide) (by decide)]
    refine lv_istore (lv' := [(4, Iz (ar 1 (q + 1 + i))), (0, .ref h0), (1, Iz (sl)), (2, Iz (q)), (3, Iz (i))]) hx hb dX12_save_28 hl (by decide) rfl (fun ls hl => ?_)
    refine lv_bipush (v := Int32.ofInt (21)) hx hb dX12_save_30 (by decide) ?_
    refine lv_bipush (v := Int32.ofInt (13)) hx hb dX12_save_32 (by decide) ?_
    refine lv_iload_n hx hb dX12_save_34 rfl (lv_at hl 2 rfl) ?_
    refine g_imul hx hb dX12_save_35 ?_
    refine lv_iload_n hx hb dX12_save_36 rfl (lv_at hl 4 rfl) ?_
    refine g_iadd hx hb dX12_save_37 ?_
    refine g_imul hx hb dX12_save_38 ?_
    refine lv_istore (lv' := [(5, Iz (21 * ((13 * sl) + i))), (4, Iz (ar 1 (q + 1 + i))), (0, .ref h0), (1, Iz (sl)), (2, Iz (q)), (3, Iz (i))]) hx hb dX12_save_39 hl (by decide) rfl (fun ls hl => ?_)
    refine lv_iconst (v := Int32.ofInt (0)) hx hb dX12_save_41 (by decide) ?_
    refine lv_istore (lv' := [(6, Iz (0)), (5, Iz (21 * ((13 * sl) + i))), (4, Iz (ar 1 (q + 1 + i))), (0, .ref h0), (1, Iz (sl)), (2, Iz (q)), (3, Iz (i))]) hx hb dX12_save_42 hl (by decide) rfl (fun ls hl => ?_)
    refine r_loop (P := fun N_ H locs ls => ∃ (ar2 : Nat → Int → Int) (k : Int), N_ = (nsz (ar 1) (ar 1 (q + 1 + i)) + 1 - k).toNat ∧ (0 ≤ k) ∧ (k ≤ nsz (ar 1) (ar 1 (q + 1 + i)) + 1) ∧ (∀ j : Nat, j ≠ 21 → j ≠ 22 → ar2 j = ar j) ∧ va_P (dC, dI) rcl (mW h0 ad cI cJ cB cZ F ar2) H ∧ va_D (rA h0 ad s.heap.size) (mW h0 ad cI cJ cB cZ F ar2) ∧ va_S (rA h0 ad s.heap.size) s.heap H locs ∧ lv_has ls 7 [(0, .ref h0), (1, Iz (sl)), (2, Iz (q)), (3, Iz (i)), (4, Iz (ar 1 (q + 1 + i))), (5, Iz (21 * ((13 * sl) + i))), (6, Iz (k))]) (g := fun ls => F0 m 44 ls []) (fun N_ H locs ls hI ih_44 => ?_) _ _ _ _ ⟨ar1, 0, rfl, (Int.le_refl 0), (by omega), (r1), hP, hD, hS, lv_sub hl [3, 4, 5, 6, 2, 1, 0] rfl⟩
    obtain ⟨ar2, k, rfl, k0, k1, r2, hP, hD, hS, hl⟩ := hI
    refine lv_iload hx hb dX12_save_44 (lv_at hl 6 rfl) ?_
    refine lv_aload_n hx hb dX12_save_46 rfl (lv_at hl 0 rfl) ?_
    refine lv_iload hx hb dX12_save_47 (lv_at hl 4 rfl) ?_
    refine r_calli (As := [Iz (ar 1 (q + 1 + i))]) (rest := [Iz (k)]) E (c_size (F := F) (ar := ar2) (a := ar 1 (q + 1 + i)) w.1 (by omega) (by rw [r2 1 (by decide) (by decide)]; exact hk)) (cwV 1 hts (rGood ml_20 mi_size ms_size mn_RX12 mc_size) rfl rfl rfl (by decide +kernel) ⟨Nat.le_of_ble_eq_true rfl, Nat.le_of_ble_eq_true rfl⟩) hK hP hD hS hA rfl hl.1 (Nat.le_of_ble_eq_true rfl) dX12_save_49 ⟨Nat.le_refl 0, Nat.le_refl 0⟩ (fun z49 F49 ar49 H locs q49 hP hD hS => ?_)
    obtain ⟨e1_, e2_, e3_⟩ := q49
    obtain rfl := e1_.symm
    obtain rfl := e2_.symm
    obtain rfl := e3_.symm
    rw [r2 1 (by decide) (by decide)]
    refine g_icmp_gt (tgt := 81) hx hb ⟨by omega, by omega⟩ ⟨by omega, by omega⟩ dX12_save_52 (by decide) (fun c_52 => ?_) (fun c_52 => ?_)
    · skip
      refine g_iinc (k := 3) (z := i) (n := (1)) (lv' := [(3, Iz (i + 1)), (0, .ref h0), (1, Iz (sl)), (2, Iz (q)), (4, Iz (ar 1 (q + 1 + i))), (5, Iz (21 * ((13 * sl) + i))), (6, Iz (k))]) hx hb dX12_save_81 hl rfl (by decide) rfl (fun ls hl => ?_)
      refine lv_goto (tgt := 13) hx hb dX12_save_84 (by decide) ?_
      exact ih_13 _ (by omega) _ _ _ ⟨ar2, (i + 1), rfl, (by omega), (by omega), (fun j h1 h2 => r2 j h1 h2), hP, hD, hS, lv_sub hl [1, 2, 3, 0] rfl⟩
    · skip
      refine lv_aload_n hx hb dX12_save_55 rfl (lv_at hl 0 rfl) ?_
      refine r_geti E hK hP (k := 21) (v := .ref (ad 21)) (by decide) mf_280 rfl rfl dX12_save_56 ?_
      refine lv_iload hx hb dX12_save_59 (lv_at hl 5 rfl) ?_
      refine lv_iload hx hb dX12_save_61 (lv_at hl 6 rfl) ?_
      refine g_iadd hx hb dX12_save_63 ?_
      refine lv_aload_n hx hb dX12_save_64 rfl (lv_at hl 0 rfl) ?_
      refine r_geti E hK hP (k := 1) (v := .ref (ad 1)) (by decide) mf_7 rfl rfl dX12_save_65 ?_
      refine lv_iload hx hb dX12_save_68 (lv_at hl 4 rfl) ?_
      refine lv_iload hx hb dX12_save_70 (lv_at hl 6 rfl) ?_
      refine g_iadd hx hb dX12_save_72 ?_
      refine g_iald (f := (ar2 1)) hx hb hK hP 1 0 rfl rfl (by omega) (by omega) (by decide) dX12_save_73 ?_
      refine g_iast (f := (ar2 21)) hx hb hK hP hD hS 9 0 rfl rfl (by omega) (by omega) (by decide) dX12_save_74 (fun H locs hP hD hS => ?_)
      rw [sa_21] at hP hD
      refine g_iinc (k := 6) (z := k) (n := (1)) (lv' := [(6, Iz (k + 1)), (0, .ref h0), (1, Iz (sl)), (2, Iz (q)), (3, Iz (i)), (4, Iz (ar 1 (q + 1 + i))), (5, Iz (21 * ((13 * sl) + i)))]) hx hb dX12_save_75 hl rfl (by decide) rfl (fun ls hl => ?_)
      refine lv_goto (tgt := 44) hx hb dX12_save_78 (by decide) ?_
      exact ih_44 _ (by omega) _ _ _ ⟨(aup ar2 21 (iup (ar2 21) ((21 * ((13 * sl) + i)) + k) ((ar2 1) ((ar 1 (q + 1 + i)) + k)))), (k + 1), rfl, (by omega), (by omega), (fun j h1 h2 => by rw [aup_ne _ _ h1]; exact r2 j h1 h2), hP, hD, hS, lv_sub hl [1, 2, 3, 4, 5, 6, 0] rfl⟩
set_option maxHeartbeats 4000000 in
set_option maxRecDepth 100000 in
theorem c_put {l : Launch} {dC : Nat → ClassId} {dI : Nat → Nat → Nat} {h0 : Nat} {ad : Nat → Nat} {cI cJ cB cZ : Nat} {F : Nat → Int} {ar : Nat → Int → Int} {sz : Nat} {sl q pl : Int} (b0 : 0 ≤ q) (b1 : q + 14 < 6000000) (hk : hok (ar 1)) (e0 : -1 ≤ ar 1 q) (e1 : ar 1 q ≤ 12) (pv : (∀ i : Int, 0 ≤ i → i ≤ ar 1 q → 0 ≤ ar 1 (q + 1 + i) ∧ ar 1 (q + 1 + i) + nsz (ar 1) (ar 1 (q + 1 + i)) < 6000000 ∧ nsz (ar 1) (ar 1 (q + 1 + i)) ≤ 3)) (em : ar 1 q ≤ F 25) (em2 : F 25 ≤ 10) (l0 : 0 ≤ sl) (l1 : sl < 260) : Met l yX12_put (Cond.code yX12_put cX12_put 4 (some .int) :: w0r) (rRm 3 66) (rPc dC dI h0 ad cI cJ cB cZ F ar sz [Iz (sl), Iz (q), Iz (pl)]) (rQi dC dI h0 ad cI cJ cB cZ sz (fun z F' ar' => z = 0 ∧ F' = F ∧ (∀ j : Nat, j ≠ 21 → j ≠ 22 → j ≠ 23 → ar' j = ar j))) 0 0 (rA h0 ad sz) := by
  refine Met.ofW (cc := cX12_put) (maxL := 4) (ret := (some .int)) (by decide) rfl ?_
  intro p e s m args below meth c s₁ B hml hv
  obtain ⟨rfl, hsz, hP, hK, hD0⟩ := hv
  have hx := B.exec
  have hb := B.bytes
  have hr := B.returns
  have hts := atoms_spec (ws := Cond.code yX12_put cX12_put 4 (some .int) :: w0r) B.pre
  have hown : s.vm.findClass RX12 = some m.cls := findClass_of_methodNamed B.named
  have hlocks := B.notSynchronized
  have E : CallFix p m c cX12_put 4 s _ (Cond.code yX12_put cX12_put 4 (some .int) :: w0r) RX12 := ⟨hx, hb, hml, hown, hts⟩
  subst hsz
  have hD := rA_self s.heap.size hD0
  have hA : ∀ q : Nat, s.heap.size ≤ q → rA h0 ad s.heap.size q := fun q h => Or.inr h
  have hS : va_S (rA h0 ad s.heap.size) s.heap s.heap [] := va_S.rf
  have hl := lv_entry ([.ref h0, Iz (sl), Iz (q), Iz (pl)]) (n := 4) (Nat.le_of_ble_eq_true rfl)
  rw [lg_entry_eq]
  generalize (lg_sl ([.ref h0, Iz (sl), Iz (q), Iz (pl)]) ++ List.replicate (4 - (lg_sl ([.ref h0, Iz (sl), Iz (q), Iz (pl)])).length) Slot.unset).toArray = ls at hl ⊢
  have hl : lv_has ls 4 [(0, .ref h0), (1, Iz (sl)), (2, Iz (q)), (3, Iz (pl))] := hl
  refine lv_aload_n hx hb dX12_put_0 rfl (lv_at hl 0 rfl) ?_
  refine lv_iload_n hx hb dX12_put_1 rfl (lv_at hl 2 rfl) ?_
  refine r_calli (As := [Iz (q)]) (rest := []) E (c_isGreat (F := F) (ar := ar) (q := q) b0 b1 hk e0 e1 pv em em2) (cwV 1 hts (rGood ml_286 mi_isGreat ms_isGreat mn_RX12 mc_isGreat) rfl rfl rfl (by decide +kernel) ⟨Nat.le_of_ble_eq_true rfl, Nat.le_of_ble_eq_true rfl⟩) hK hP hD hS hA rfl hl.1 (Nat.le_of_ble_eq_true rfl) dX12_put_2 ⟨Nat.le_refl 0, Nat.le_refl 0⟩ (fun z2 F2 ar2 H locs q2 hP hD hS => ?_)
  obtain ⟨e1_, e2_, e3_⟩ := q2
  obtain rfl := e1_.symm
  obtain rfl := e2_.symm
  obtain rfl := e3_.symm
  refine g_if_eq (tgt := 11) hx hb ⟨by omega, by omega⟩ dX12_put_5 (by decide) (fun c_5 => ?_) (fun c_5 => ?_)
  · skip
    refine lv_aload_n hx hb dX12_put_11 rfl (lv_at hl 0 rfl) ?_
    refine lv_iload_n hx hb dX12_put_12 rfl (lv_at hl 1 rfl) ?_
    refine lv_iload_n hx hb dX12_put_13 rfl (lv_at hl 2 rfl) ?_
    refine r_callv (As := [Iz (sl), Iz (q)]) (rest := []) E (c_save (F := F) (ar := ar) (sl := sl) (q := q) b0 b1 hk e0 e1 pv l0 l1) (cwV 2 hts (rGood ml_289 mi_save ms_save mn_RX12 mc_save) rfl rfl rfl (by decide +kernel) ⟨Nat.le_of_ble_eq_true rfl, Nat.le_of_ble_eq_true rfl⟩) hK hP hD hS hA rfl hl.1 (Nat.le_of_ble_eq_true rfl) dX12_put_14 ⟨Nat.le_refl 0, Nat.le_refl 0⟩ (fun F14 ar14 H locs q14 hP hD hS => ?_)
    obtain ⟨f1, s1⟩ := q14
    obtain rfl := f1.symm
    refine lv_aload_n hx hb dX12_put_17 rfl (lv_at hl 0 rfl) ?_
    refine r_geti E hK hP (k := 23) (v := .ref (ad 23)) (by decide) mf_292 rfl rfl dX12_put_18 ?_
    refine lv_iload_n hx hb dX12_put_21 rfl (lv_at hl 1 rfl) ?_
    refine lv_iload_n hx hb dX12_put_22 rfl (lv_at hl 3 rfl) ?_
    refine g_iast (f := (ar14 23)) hx hb hK hP hD hS 11 0 rfl rfl (by omega) (by omega) (by decide) dX12_put_23 (fun H locs hP hD hS => ?_)
    rw [sa_23] at hP hD
    refine lv_iconst (v := Int32.ofInt (0)) hx hb dX12_put_24 (by decide) ?_
    have hpost : (0 : Int) = 0 ∧ F = F ∧ (∀ j : Nat, j ≠ 21 → j ≠ 22 → j ≠ 23 → (aup ar14 23 (iup (ar14 23) sl pl)) j = ar j) := ⟨rfl, rfl, fun j h1 h2 h3 => (aup_ne _ _ h3).trans (s1 j h1 h2)⟩
    exact W.iret (v := Int32.ofInt (0)) hx hb hr (fun t ht hW => ⟨⟨_, (F, (aup ar14 23 (iup (ar14 23) sl pl))), rfl, ⟨_, rfl, hpost⟩, by rw [ht]; exact hP, va_K.moved hW.alike hK, hD⟩, hS.F ht⟩) hS.2.2 dX12_put_25
  · exact absurd rfl c_5
