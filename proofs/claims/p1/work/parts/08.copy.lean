set_option maxHeartbeats 4000000 in
set_option maxRecDepth 100000 in
theorem c_copy {l : Launch} {dC : Nat → ClassId} {dI : Nat → Nat → Nat} {h0 : Nat} {ad : Nat → Nat} {cI cJ cB cZ : Nat} {F : Nat → Int} {ar : Nat → Int → Int} {sz : Nat} {a : Int} (t0 : 0 ≤ F 2) (b0 : 0 ≤ a) (b1 : a + nsz (ar 1) a < F 2) (t1 : F 2 + nsz (ar 1) a + 1 < 6000000) (hk : hok (ar 1)) : Met l yX12_copy (Cond.code yX12_copy cX12_copy 5 (some .int) :: w0r) (rRm 1 21) (rPc dC dI h0 ad cI cJ cB cZ F ar sz [Iz (a)]) (rQi dC dI h0 ad cI cJ cB cZ sz (fun z F' ar' => z = F 2 ∧ nK F F' ar ar' ∧ (∀ i : Int, 0 ≤ i → i ≤ nsz (ar 1) a → ar' 1 (F 2 + i) = ar 1 (a + i)) ∧ F' 2 = F 2 + nsz (ar 1) a + 1)) 0 0 (rA h0 ad sz) := by
  refine Met.ofW (cc := cX12_copy) (maxL := 5) (ret := (some .int)) (by decide) rfl ?_
  intro p e s m args below meth c s₁ B hml hv
  obtain ⟨rfl, hsz, hP, hK, hD0⟩ := hv
  have hx := B.exec
  have hb := B.bytes
  have hr := B.returns
  have hts := atoms_spec (ws := Cond.code yX12_copy cX12_copy 5 (some .int) :: w0r) B.pre
  have hown : s.vm.findClass RX12 = some m.cls := findClass_of_methodNamed B.named
  have hlocks := B.notSynchronized
  have E : CallFix p m c cX12_copy 5 s _ (Cond.code yX12_copy cX12_copy 5 (some .int) :: w0r) RX12 := ⟨hx, hb, hml, hown, hts⟩
  subst hsz
  have hD := rA_self s.heap.size hD0
  have hA : ∀ q : Nat, s.heap.size ≤ q → rA h0 ad s.heap.size q := fun q h => Or.inr h
  have hS : va_S (rA h0 ad s.heap.size) s.heap s.heap [] := va_S.rf
  have hl := lv_entry ([.ref h0, Iz (a)]) (n := 5) (Nat.le_of_ble_eq_true rfl)
  rw [lg_entry_eq]
  generalize (lg_sl ([.ref h0, Iz (a)]) ++ List.replicate (5 - (lg_sl ([.ref h0, Iz (a)])).length) Slot.unset).toArray = ls at hl ⊢
  have hl : lv_has ls 5 [(0, .ref h0), (1, Iz (a))] := hl
  have s0 := nsz_nonneg (ar 1) a
  have s1 := nsz_lt hk a
  refine lv_aload_n hx hb dX12_copy_0 rfl (lv_at hl 0 rfl) ?_
  refine r_geti E hK hP (k := 2) (v := Iz (F 2)) (by decide) mf_11 rfl rfl dX12_copy_1 ?_
  refine lv_istore_n (lv' := [(2, Iz (F 2)), (0, .ref h0), (1, Iz (a))]) hx hb dX12_copy_4 rfl hl (by decide) rfl (fun ls hl => ?_)
  refine lv_aload_n hx hb dX12_copy_5 rfl (lv_at hl 1 rfl) ?_
  refine lv_iload_n hx hb dX12_copy_6 rfl (lv_at hl 2 rfl) ?_
  refine r_calli (As := [Iz (a)]) (rest := []) E (c_size (F := F) (ar := ar) (a := a) b0 (by omega) hk) (cwV 1 hts (rGood ml_20 mi_size ms_size mn_RX12 mc_size) rfl rfl rfl (by decide +kernel) ⟨Nat.le_of_ble_eq_true rfl, Nat.le_of_ble_eq_true rfl⟩) hK hP hD hS hA rfl hl.1 (Nat.le_of_ble_eq_true rfl) dX12_copy_7 ⟨Nat.le_refl 0, Nat.le_refl 0⟩ (fun z7 F7 ar7 H locs q7 hP hD hS => ?_)
  obtain ⟨e1_, e2_, e3_⟩ := q7
  obtain rfl := e1_.symm
  obtain rfl := e2_.symm
  obtain rfl := e3_.symm
  refine lv_istore_n (lv' := [(3, Iz (nsz (ar 1) a)), (2, Iz (F 2)), (0, .ref h0), (1, Iz (a))]) hx hb dX12_copy_10 rfl hl (by decide) rfl (fun ls hl => ?_)
  refine lv_iconst (v := Int32.ofInt (0)) hx hb dX12_copy_11 (by decide) ?_
  refine lv_istore (lv' := [(4, Iz (0)), (3, Iz (nsz (ar 1) a)), (2, Iz (F 2)), (0, .ref h0), (1, Iz (a))]) hx hb dX12_copy_12 hl (by decide) rfl (fun ls hl => ?_)
  refine r_loop (P := fun N_ H locs ls => ∃ (ar1 : Nat → Int → Int) (i : Int), N_ = (nsz (ar 1) a + 1 - i).toNat ∧ (0 ≤ i) ∧ (i ≤ nsz (ar 1) a + 1) ∧ (∀ j : Nat, j ≠ 1 → ar1 j = ar j) ∧ (∀ t : Int, t < F 2 → ar1 1 t = ar 1 t) ∧ (∀ t : Int, 0 ≤ t → t < i → ar1 1 (F 2 + t) = ar 1 (a + t)) ∧ (hok (ar1 1)) ∧ va_P (dC, dI) rcl (mW h0 ad cI cJ cB cZ F ar1) H ∧ va_D (rA h0 ad s.heap.size) (mW h0 ad cI cJ cB cZ F ar1) ∧ va_S (rA h0 ad s.heap.size) s.heap H locs ∧ lv_has ls 5 [(0, .ref h0), (1, Iz (a)), (2, Iz (F 2)), (3, Iz (nsz (ar 1) a)), (4, Iz (i))]) (g := fun ls => F0 m 14 ls []) (fun N_ H locs ls hI ih_14 => ?_) _ _ _ _ ⟨ar, 0, rfl, (Int.le_refl 0), (by omega), (fun _ _ => rfl), (fun _ _ => rfl), (fun t a b => by omega), (hk), hP, hD, hS, lv_sub hl [3, 4, 2, 1, 0] rfl⟩
  obtain ⟨ar1, i, rfl, i0, i1, q1, q2, q3, q4, hP, hD, hS, hl⟩ := hI
  refine lv_iload hx hb dX12_copy_14 (lv_at hl 4 rfl) ?_
  refine lv_iload_n hx hb dX12_copy_16 rfl (lv_at hl 3 rfl) ?_
  refine g_icmp_gt (tgt := 44) hx hb ⟨by omega, by omega⟩ ⟨by omega, by omega⟩ dX12_copy_17 (by decide) (fun c_17 => ?_) (fun c_17 => ?_)
  · skip
    refine lv_aload_n hx hb dX12_copy_44 rfl (lv_at hl 0 rfl) ?_
    refine lv_iload_n hx hb dX12_copy_45 rfl (lv_at hl 2 rfl) ?_
    refine lv_iload_n hx hb dX12_copy_46 rfl (lv_at hl 3 rfl) ?_
    refine g_iadd hx hb dX12_copy_47 ?_
    refine lv_iconst (v := Int32.ofInt (1)) hx hb dX12_copy_48 (by decide) ?_
    refine g_iadd hx hb dX12_copy_49 ?_
    refine r_puti E hK hP hD hS 2 (by decide) mf_11 rfl rfl (by decide +kernel) (sp_2 h0 ad cI cJ cB cZ _ _) dX12_copy_50 (fun H locs hP hD hS => ?_)
    refine lv_iload_n hx hb dX12_copy_53 rfl (lv_at hl 2 rfl) ?_
    have hpost : (F 2 : Int) = F 2 ∧ nK F (fup F 2 (((F 2) + (nsz (ar 1) a)) + 1)) ar ar1 ∧ (∀ i : Int, 0 ≤ i → i ≤ nsz (ar 1) a → ar1 1 (F 2 + i) = ar 1 (a + i)) ∧ (fup F 2 (((F 2) + (nsz (ar 1) a)) + 1)) 2 = F 2 + nsz (ar 1) a + 1 := ⟨rfl, ⟨fun j hj => fup_ne _ _ hj, q1, q2, q4⟩, fun t h1 h2 => q3 t h1 (by omega), fup_self _ _ _⟩
    exact W.iret (v := Int32.ofInt (F 2)) hx hb hr (fun t ht hW => ⟨⟨_, ((fup F 2 (((F 2) + (nsz (ar 1) a)) + 1)), ar1), rfl, ⟨_, rfl, hpost⟩, by rw [ht]; exact hP, va_K.moved hW.alike hK, hD⟩, hS.F ht⟩) hS.2.2 dX12_copy_54
  · skip
    refine lv_aload_n hx hb dX12_copy_20 rfl (lv_at hl 0 rfl) ?_
    refine r_geti E hK hP (k := 1) (v := .ref (ad 1)) (by decide) mf_7 rfl rfl dX12_copy_21 ?_
    refine lv_iload_n hx hb dX12_copy_24 rfl (lv_at hl 2 rfl) ?_
    refine lv_iload hx hb dX12_copy_25 (lv_at hl 4 rfl) ?_
    refine g_iadd hx hb dX12_copy_27 ?_
    refine lv_aload_n hx hb dX12_copy_28 rfl (lv_at hl 0 rfl) ?_
    refine r_geti E hK hP (k := 1) (v := .ref (ad 1)) (by decide) mf_7 rfl rfl dX12_copy_29 ?_
    refine lv_iload_n hx hb dX12_copy_32 rfl (lv_at hl 1 rfl) ?_
    refine lv_iload hx hb dX12_copy_33 (lv_at hl 4 rfl) ?_
    refine g_iadd hx hb dX12_copy_35 ?_
    refine g_iald (f := (ar1 1)) hx hb hK hP 1 0 rfl rfl (by omega) (by omega) (by decide) dX12_copy_36 ?_
    refine g_iast (f := (ar1 1)) hx hb hK hP hD hS 1 0 rfl rfl (by omega) (by omega) (by decide) dX12_copy_37 (fun H locs hP hD hS => ?_)
    rw [sa_1] at hP hD
    refine g_iinc (k := 4) (z := i) (n := (1)) (lv' := [(4, Iz (i + 1)), (0, .ref h0), (1, Iz (a)), (2, Iz (F 2)), (3, Iz (nsz (ar 1) a))]) hx hb dX12_copy_38 hl rfl (by decide) rfl (fun ls hl => ?_)
    refine lv_goto (tgt := 14) hx hb dX12_copy_41 (by decide) ?_
    exact ih_14 _ (by omega) _ _ _ ⟨(aup ar1 1 (iup (ar1 1) ((F 2) + i) ((ar1 1) (a + i)))), (i + 1), rfl, (by omega), (by omega), (fun j hj => by rw [aup_ne _ _ hj]; exact q1 j hj), (fun t ht => by show iup _ _ _ t = _; rw [iup_ne (by omega)]; exact q2 t ht), (fun t h1 h2 => by show iup _ _ _ _ = _; by_cases e : t = i; (· rw [e, iup_self]; exact q2 _ (by omega)); (· rw [iup_ne (by omega)]; exact q3 t h1 (by omega))), (hok_up q4 (q4 _).1 (q4 _).2), hP, hD, hS, lv_sub hl [1, 2, 3, 4, 0] rfl⟩
set_option maxHeartbeats 4000000 in
set_option maxRecDepth 100000 in
theorem c_negated {l : Launch} {dC : Nat → ClassId} {dI : Nat → Nat → Nat} {h0 : Nat} {ad : Nat → Nat} {cI cJ cB cZ : Nat} {F : Nat → Int} {ar : Nat → Int → Int} {sz : Nat} {a : Int} (t0 : 0 ≤ F 2) (b0 : 0 ≤ a) (b1 : a + nsz (ar 1) a < F 2) (t1 : F 2 + nsz (ar 1) a + 1 < 6000000) (hk : hok (ar 1)) : Met l yX12_negated (Cond.code yX12_negated cX12_negated 3 (some .int) :: w0r) (rRm 2 45) (rPc dC dI h0 ad cI cJ cB cZ F ar sz [Iz (a)]) (rQi dC dI h0 ad cI cJ cB cZ sz (fun z F' ar' => z = F 2 ∧ nK F F' ar ar' ∧ nsz (ar' 1) (F 2) = nsz (ar 1) a ∧ (∀ i : Int, 1 ≤ i → i ≤ nsz (ar 1) a → ar' 1 (F 2 + i) = ar 1 (a + i)) ∧ F' 2 = F 2 + nsz (ar 1) a + 1)) 0 0 (rA h0 ad sz) := by
  refine Met.ofW (cc := cX12_negated) (maxL := 3) (ret := (some .int)) (by decide) rfl ?_
  intro p e s m args below meth c s₁ B hml hv
  obtain ⟨rfl, hsz, hP, hK, hD0⟩ := hv
  have hx := B.exec
  have hb := B.bytes
  have hr := B.returns
  have hts := atoms_spec (ws := Cond.code yX12_negated cX12_negated 3 (some .int) :: w0r) B.pre
  have hown : s.vm.findClass RX12 = some m.cls := findClass_of_methodNamed B.named
  have hlocks := B.notSynchronized
  have E : CallFix p m c cX12_negated 3 s _ (Cond.code yX12_negated cX12_negated 3 (some .int) :: w0r) RX12 := ⟨hx, hb, hml, hown, hts⟩
  subst hsz
  have hD := rA_self s.heap.size hD0
  have hA : ∀ q : Nat, s.heap.size ≤ q → rA h0 ad s.heap.size q := fun q h => Or.inr h
  have hS : va_S (rA h0 ad s.heap.size) s.heap s.heap [] := va_S.rf
  have hl := lv_entry ([.ref h0, Iz (a)]) (n := 3) (Nat.le_of_ble_eq_true rfl)
  rw [lg_entry_eq]
  generalize (lg_sl ([.ref h0, Iz (a)]) ++ List.replicate (3 - (lg_sl ([.ref h0, Iz (a)])).length) Slot.unset).toArray = ls at hl ⊢
  have hl : lv_has ls 3 [(0, .ref h0), (1, Iz (a))] := hl
  have s0 := nsz_nonneg (ar 1) a
  have s1 := nsz_lt hk a
  refine lv_aload_n hx hb dX12_negated_0 rfl (lv_at hl 0 rfl) ?_
  refine lv_iload_n hx hb dX12_negated_1 rfl (lv_at hl 1 rfl) ?_
  refine r_calli (As := [Iz (a)]) (rest := []) E (c_copy (F := F) (ar := ar) (a := a) t0 b0 b1 t1 hk) (cwV 1 hts (rGood ml_24 mi_copy ms_copy mn_RX12 mc_copy) rfl rfl rfl (by decide +kernel) ⟨Nat.le_of_ble_eq_true rfl, Nat.le_of_ble_eq_true rfl⟩) hK hP hD hS hA rfl hl.1 (Nat.le_of_ble_eq_true rfl) dX12_negated_2 ⟨Nat.le_refl 0, Nat.le_refl 0⟩ (fun z9 F9 ar9 H locs q9 hP hD hS => ?_)
  obtain ⟨rfl, n1, n2, n3⟩ := q9
  refine lv_istore_n (lv' := [(2, Iz (F 2)), (0, .ref h0), (1, Iz (a))]) hx hb dX12_negated_5 rfl hl (by decide) rfl (fun ls hl => ?_)
  refine lv_aload_n hx hb dX12_negated_6 rfl (lv_at hl 1 rfl) ?_
  refine r_geti E hK hP (k := 1) (v := .ref (ad 1)) (by decide) mf_7 rfl rfl dX12_negated_7 ?_
  refine lv_iload_n hx hb dX12_negated_10 rfl (lv_at hl 0 rfl) ?_
  refine lv_iconst (v := Int32.ofInt (0)) hx hb dX12_negated_11 (by decide) ?_
  refine lv_aload_n hx hb dX12_negated_12 rfl (lv_at hl 1 rfl) ?_
  refine r_geti E hK hP (k := 1) (v := .ref (ad 1)) (by decide) mf_7 rfl rfl dX12_negated_13 ?_
  refine lv_iload_n hx hb dX12_negated_16 rfl (lv_at hl 0 rfl) ?_
  refine g_iald (f := (ar9 1)) hx hb hK hP 1 0 rfl rfl (by omega) (by omega) (by decide) dX12_negated_17 ?_
  refine g_isub hx hb dX12_negated_18 ?_
  refine g_iast (f := (ar9 1)) hx hb hK hP hD hS 1 0 rfl rfl (by omega) (by omega) (by decide) dX12_negated_19 (fun H locs hP hD hS => ?_)
  rw [sa_1] at hP hD
  refine lv_iload_n hx hb dX12_negated_20 rfl (lv_at hl 0 rfl) ?_
  have hpost : (F 2 : Int) = F 2 ∧ nK F F9 ar (aup ar9 1 (iup (ar9 1) (F 2) (0 - ((ar9 1) (F 2))))) ∧ nsz ((aup ar9 1 (iup (ar9 1) (F 2) (0 - ((ar9 1) (F 2))))) 1) (F 2) = nsz (ar 1) a ∧ (∀ i : Int, 1 ≤ i → i ≤ nsz (ar 1) a → (aup ar9 1 (iup (ar9 1) (F 2) (0 - ((ar9 1) (F 2))))) 1 (F 2 + i) = ar 1 (a + i)) ∧ F9 2 = F 2 + nsz (ar 1) a + 1 := ⟨rfl, ⟨n1.1, fun j hj => by rw [aup_ne _ _ hj]; exact n1.2.1 j hj, fun t ht => by show iup _ _ _ t = _; rw [iup_ne (by omega)]; exact n1.2.2.1 t ht, hok_up n1.2.2.2 (by have := n1.2.2.2 (F 2); omega) (by have := n1.2.2.2 (F 2); omega)⟩, by have e := n2 0 (Int.le_refl 0) s0; rw [Int.add_zero, Int.add_zero] at e; unfold nsz; show (if iup _ _ _ _ < 0 then 0 - iup _ _ _ _ else iup _ _ _ _) = _; rw [iup_self, e]; split <;> split <;> omega, fun i h1 h2 => by show iup _ _ _ _ = _; rw [iup_ne (by omega)]; exact n2 i (by omega) h2, n3⟩
  exact W.iret (v := Int32.ofInt (F 2)) hx hb hr (fun t ht hW => ⟨⟨_, (F9, (aup ar9 1 (iup (ar9 1) (F 2) (0 - ((ar9 1) (F 2)))))), rfl, ⟨_, rfl, hpost⟩, by rw [ht]; exact hP, va_K.moved hW.alike hK, hD⟩, hS.F ht⟩) hS.2.2 dX12_negated_21
set_option maxHeartbeats 4000000 in
set_option maxRecDepth 100000 in
theorem c_sizeCompare {l : Launch} {dC : Nat → ClassId} {dI : Nat → Nat → Nat} {h0 : Nat} {ad : Nat → Nat} {cI cJ cB cZ : Nat} {F : Nat → Int} {ar : Nat → Int → Int} {sz : Nat} {a b : Int} (a0 : 0 ≤ a) (a1 : a + nsz (ar 1) a < 6000000) (b0 : 0 ≤ b) (b1 : b + nsz (ar 1) b < 6000000) (hk : hok (ar 1)) (na : nm (ar 1) a) (nb : nm (ar 1) b) : Met l yX12_sizeCompare (Cond.code yX12_sizeCompare cX12_sizeCompare 5 (some .int) :: w0r) (rRm 1 21) (rPc dC dI h0 ad cI cJ cB cZ F ar sz [Iz (a), Iz (b)]) (rQi dC dI h0 ad cI cJ cB cZ sz (fun z F' ar' => F' = F ∧ ar' = ar ∧ -1 ≤ z ∧ z ≤ 1 ∧ (z < 0 → nv (ar 1) a < nv (ar 1) b) ∧ (0 ≤ z → nsz (ar 1) b ≤ nsz (ar 1) a))) 0 0 (rA h0 ad sz) := by
  refine Met.ofW (cc := cX12_sizeCompare) (maxL := 5) (ret := (some .int)) (by decide) rfl ?_
  intro p e s m args below meth c s₁ B hml hv
  obtain ⟨rfl, hsz, hP, hK, hD0⟩ := hv
  have hx := B.exec
  have hb := B.bytes
  have hr := B.returns
  have hts := atoms_spec (ws := Cond.code yX12_sizeCompare cX12_sizeCompare 5 (some .int) :: w0r) B.pre
  have hown : s.vm.findClass RX12 = some m.cls := findClass_of_methodNamed B.named
  have hlocks := B.notSynchronized
  have E : CallFix p m c cX12_sizeCompare 5 s _ (Cond.code yX12_sizeCompare cX12_sizeCompare 5 (some .int) :: w0r) RX12 := ⟨hx, hb, hml, hown, hts⟩
  subst hsz
  have hD := rA_self s.heap.size hD0
  have hA : ∀ q : Nat, s.heap.size ≤ q → rA h0 ad s.heap.size q := fun q h => Or.inr h
  have hS : va_S (rA h0 ad s.heap.size) s.heap s.heap [] := va_S.rf
  have hl := lv_entry ([.ref h0, Iz (a), Iz (b)]) (n := 5) (Nat.le_of_ble_eq_true rfl)
  rw [lg_entry_eq]
  generalize (lg_sl ([.ref h0, Iz (a), Iz (b)]) ++ List.replicate (5 - (lg_sl ([.ref h0, Iz (a), Iz (b)])).length) Slot.unset).toArray = ls at hl ⊢
  have hl : lv_has ls 5 [(0, .ref h0), (1, Iz (a)), (2, Iz (b))] := hl
  have s0 := nsz_nonneg (ar 1) a
  have s1 := nsz_lt hk a
  have s2 := nsz_nonneg (ar 1) b
  have s3 := nsz_lt hk b
  refine lv_aload_n hx hb dX12_sizeCompare_0 rfl (lv_at hl 0 rfl) ?_
  refine lv_iload_n hx hb dX12_sizeCompare_1 rfl (lv_at hl 1 rfl) ?_
  refine r_calli (As := [Iz (a)]) (rest := []) E (c_size (F := F) (ar := ar) (a := a) a0 (by omega) hk) (cwV 1 hts (rGood ml_20 mi_size ms_size mn_RX12 mc_size) rfl rfl rfl (by decide +kernel) ⟨Nat.le_of_ble_eq_true rfl, Nat.le_of_ble_eq_true rfl⟩) hK hP hD hS hA rfl hl.1 (Nat.le_of_ble_eq_true rfl) dX12_sizeCompare_2 ⟨Nat.le_refl 0, Nat.le_refl 0⟩ (fun z2 F2 ar2 H locs q2 hP hD hS => ?_)
  obtain ⟨e1_, e2_, e3_⟩ := q2
  obtain rfl := e1_.symm
  obtain rfl := e2_.symm
  obtain rfl := e3_.symm
  refine lv_istore_n (lv' := [(3, Iz (nsz (ar 1) a)), (0, .ref h0), (1, Iz (a)), (2, Iz (b))]) hx hb dX12_sizeCompare_5 rfl hl (by decide) rfl (fun ls hl => ?_)
  refine lv_iload_n hx hb dX12_sizeCompare_6 rfl (lv_at hl 0 rfl) ?_
  refine lv_aload_n hx hb dX12_sizeCompare_7 rfl (lv_at hl 1 rfl) ?_
  refine lv_iload_n hx hb dX12_sizeCompare_8 rfl (lv_at hl 3 rfl) ?_
  refine r_calli (As := [Iz (b)]) (rest := [Iz (nsz (ar 1) a)]) E (c_size (F := F) (ar := ar) (a := b) b0 (by omega) hk) (cwV 1 hts (rGood ml_20 mi_size ms_size mn_RX12 mc_size) rfl rfl rfl (by decide +kernel) ⟨Nat.le_of_ble_eq_true rfl, Nat.le_of_ble_eq_true rfl⟩) hK hP hD hS hA rfl hl.1 (Nat.le_of_ble_eq_true rfl) dX12_sizeCompare_9 ⟨Nat.le_refl 0, Nat.le_refl 0⟩ (fun z9 F9 ar9 H locs q9 hP hD hS => ?_)
  obtain ⟨e1_, e2_, e3_⟩ := q9
  obtain rfl := e1_.symm
  obtain rfl := e2_.symm
  obtain rfl := e3_.symm
  refine g_icmp_eq (tgt := 30) hx hb ⟨by omega, by omega⟩ ⟨by omega, by omega⟩ dX12_sizeCompare_12 (by decide) (fun c_12 => ?_) (fun c_12 => ?_)
  · skip
    refine lv_iload_n hx hb dX12_sizeCompare_30 rfl (lv_at hl 0 rfl) ?_
    refine lv_istore (lv' := [(4, Iz (nsz (ar 1) a)), (3, Iz (nsz (ar 1) a)), (0, .ref h0), (1, Iz (a)), (2, Iz (b))]) hx hb dX12_sizeCompare_31 hl (by decide) rfl (fun ls hl => ?_)
    refine r_loop (P := fun N_ H locs ls => ∃ (i : Int), N_ = i.toNat ∧ (0 ≤ i) ∧ (i ≤ nsz (ar 1) a) ∧ (∀ j : Int, i < j → j ≤ nsz (ar 1) a → ar 1 (a + j) = ar 1 (b + j)) ∧ va_P (dC, dI) rcl (mW h0 ad cI cJ cB cZ F ar) H ∧ va_D (rA h0 ad s.heap.size) (mW h0 ad cI cJ cB cZ F ar) ∧ va_S (rA h0 ad s.heap.size) s.heap H locs ∧ lv_has ls 5 [(0, .ref h0), (1, Iz (a)), (2, Iz (b)), (3, Iz (nsz (ar 1) a)), (4, Iz (i))]) (g := fun ls => F0 m 33 ls []) (fun N_ H locs ls hI ih_33 => ?_) _ _ _ _ ⟨(nsz (ar 1) a), rfl, (s0), (Int.le_refl _), (fun j q1 q2 => by omega), hP, hD, hS, lv_sub hl [2, 3, 4, 1, 0] rfl⟩
    obtain ⟨i, rfl, i0, i1, kz, hP, hD, hS, hl⟩ := hI
    refine lv_iload hx hb dX12_sizeCompare_33 (lv_at hl 4 rfl) ?_
    refine g_if_le (tgt := 92) hx hb ⟨by omega, by omega⟩ dX12_sizeCompare_35 (by decide) (fun c_35 => ?_) (fun c_35 => ?_)
    · skip
      refine lv_iconst (v := Int32.ofInt (0)) hx hb dX12_sizeCompare_92 (by decide) ?_
      have hpost : F = F ∧ ar = ar ∧ -1 ≤ (0 : Int) ∧ (0 : Int) ≤ 1 ∧ ((0 : Int) < 0 → nv (ar 1) a < nv (ar 1) b) ∧ (0 ≤ (0 : Int) → nsz (ar 1) b ≤ nsz (ar 1) a) := ⟨rfl, rfl, by omega, by omega, fun q => by omega, fun q => by omega⟩
      exact W.iret (v := Int32.ofInt (0)) hx hb hr (fun t ht hW => ⟨⟨_, (F, ar), rfl, ⟨_, rfl, hpost⟩, by rw [ht]; exact hP, va_K.moved hW.alike hK, hD⟩, hS.F ht⟩) hS.2.2 dX12_sizeCompare_93
    · skip
      refine lv_aload_n hx hb dX12_sizeCompare_38 rfl (lv_at hl 0 rfl) ?_
      refine r_geti E hK hP (k := 1) (v := .ref (ad 1)) (by decide) mf_7 rfl rfl dX12_sizeCompare_39 ?_
      refine lv_iload_n hx hb dX12_sizeCompare_42 rfl (lv_at hl 1 rfl) ?_
      refine lv_iload hx hb dX12_sizeCompare_43 (lv_at hl 4 rfl) ?_
      refine g_iadd hx hb dX12_sizeCompare_45 ?_
      refine g_iald (f := (ar 1)) hx hb hK hP 1 0 rfl rfl (by omega) (by omega) (by decide) dX12_sizeCompare_46 ?_
      refine lv_aload_n hx hb dX12_sizeCompare_47 rfl (lv_at hl 0 rfl) ?_
      refine r_geti E hK hP (k := 1) (v := .ref (ad 1)) (by decide) mf_7 rfl rfl dX12_sizeCompare_48 ?_
      refine lv_iload_n hx hb dX12_sizeCompare_51 rfl (lv_at hl 2 rfl) ?_
      refine lv_iload hx hb dX12_sizeCompare_52 (lv_at hl 4 rfl) ?_
      refine g_iadd hx hb dX12_sizeCompare_54 ?_
      refine g_iald (f := (ar 1)) hx hb hK hP 1 0 rfl rfl (by omega) (by omega) (by decide) dX12_sizeCompare_55 ?_
      refine g_icmp_eq (tgt := 86) hx hb (hok_i hk _) (hok_i hk _) dX12_sizeCompare_56 (by decide) (fun c_56 => ?_) (fun c_56 => ?_)
      · skip
        refine g_iinc (k := 4) (z := i) (n := (-1)) (lv' := [(4, Iz (i + (-1))), (0, .ref h0), (1, Iz (a)), (2, Iz (b)), (3, Iz (nsz (ar 1) a))]) hx hb dX12_sizeCompare_86 hl rfl (by decide) rfl (fun ls hl => ?_)
        refine lv_goto (tgt := 33) hx hb dX12_sizeCompare_89 (by decide) ?_
        exact ih_33 _ (by omega) _ _ _ ⟨(i + (-1)), rfl, (by omega), (by omega), (fun j q1 q2 => by by_cases e : j = i; (· rw [e]; exact c_56); (· exact kz j (by omega) q2)), hP, hD, hS, lv_sub hl [1, 2, 3, 4, 0] rfl⟩
      · skip
        refine lv_aload_n hx hb dX12_sizeCompare_59 rfl (lv_at hl 0 rfl) ?_
        refine r_geti E hK hP (k := 1) (v := .ref (ad 1)) (by decide) mf_7 rfl rfl dX12_sizeCompare_60 ?_
        refine lv_iload_n hx hb dX12_sizeCompare_63 rfl (lv_at hl 1 rfl) ?_
        refine lv_iload hx hb dX12_sizeCompare_64 (lv_at hl 4 rfl) ?_
        refine g_iadd hx hb dX12_sizeCompare_66 ?_
        refine g_iald (f := (ar 1)) hx hb hK hP 1 0 rfl rfl (by omega) (by omega) (by decide) dX12_sizeCompare_67 ?_
        refine lv_aload_n hx hb dX12_sizeCompare_68 rfl (lv_at hl 0 rfl) ?_
        refine r_geti E hK hP (k := 1) (v := .ref (ad 1)) (by decide) mf_7 rfl rfl dX12_sizeCompare_69 ?_
        refine lv_iload_n hx hb dX12_sizeCompare_72 rfl (lv_at hl 2 rfl) ?_
        refine lv_iload hx hb dX12_sizeCompare_73 (lv_at hl 4 rfl) ?_
        refine g_iadd hx hb dX12_sizeCompare_75 ?_
        refine g_iald (f := (ar 1)) hx hb hK hP 1 0 rfl rfl (by omega) (by omega) (by decide) dX12_sizeCompare_76 ?_
        refine g_icmp_ge (tgt := 84) hx hb (hok_i hk _) (hok_i hk _) dX12_sizeCompare_77 (by decide) (fun c_77 => ?_) (fun c_77 => ?_)
        · skip
          refine lv_iconst (v := Int32.ofInt (1)) hx hb dX12_sizeCompare_84 (by decide) ?_
          have hpost : F = F ∧ ar = ar ∧ -1 ≤ (1 : Int) ∧ (1 : Int) ≤ 1 ∧ ((1 : Int) < 0 → nv (ar 1) a < nv (ar 1) b) ∧ (0 ≤ (1 : Int) → nsz (ar 1) b ≤ nsz (ar 1) a) := ⟨rfl, rfl, by omega, by omega, fun q => by first | omega | exact nv_lt_digit hk na nb c_12 (by omega) i1 kz c_77, fun q => by omega⟩
          exact W.iret (v := Int32.ofInt (1)) hx hb hr (fun t ht hW => ⟨⟨_, (F, ar), rfl, ⟨_, rfl, hpost⟩, by rw [ht]; exact hP, va_K.moved hW.alike hK, hD⟩, hS.F ht⟩) hS.2.2 dX12_sizeCompare_85
        · skip
          refine lv_iconst (v := Int32.ofInt (-1)) hx hb dX12_sizeCompare_80 (by decide) ?_
          refine lv_goto (tgt := 85) hx hb dX12_sizeCompare_81 (by decide) ?_
          have hpost : F = F ∧ ar = ar ∧ -1 ≤ ((-1) : Int) ∧ ((-1) : Int) ≤ 1 ∧ (((-1) : Int) < 0 → nv (ar 1) a < nv (ar 1) b) ∧ (0 ≤ ((-1) : Int) → nsz (ar 1) b ≤ nsz (ar 1) a) := ⟨rfl, rfl, by omega, by omega, fun q => by first | omega | exact nv_lt_digit hk na nb c_12 (by omega) i1 kz c_77, fun q => by omega⟩
          exact W.iret (v := Int32.ofInt ((-1))) hx hb hr (fun t ht hW => ⟨⟨_, (F, ar), rfl, ⟨_, rfl, hpost⟩, by rw [ht]; exact hP, va_K.moved hW.alike hK, hD⟩, hS.F ht⟩) hS.2.2 dX12_sizeCompare_85
  · skip
    refine lv_iload_n hx hb dX12_sizeCompare_15 rfl (lv_at hl 0 rfl) ?_
    refine lv_aload_n hx hb dX12_sizeCompare_16 rfl (lv_at hl 1 rfl) ?_
    refine lv_iload_n hx hb dX12_sizeCompare_17 rfl (lv_at hl 3 rfl) ?_
    refine r_calli (As := [Iz (b)]) (rest := [Iz (nsz (ar 1) a)]) E (c_size (F := F) (ar := ar) (a := b) b0 (by omega) hk) (cwV 1 hts (rGood ml_20 mi_size ms_size mn_RX12 mc_size) rfl rfl rfl (by decide +kernel) ⟨Nat.le_of_ble_eq_true rfl, Nat.le_of_ble_eq_true rfl⟩) hK hP hD hS hA rfl hl.1 (Nat.le_of_ble_eq_true rfl) dX12_sizeCompare_18 ⟨Nat.le_refl 0, Nat.le_refl 0⟩ (fun z18 F18 ar18 H locs q18 hP hD hS => ?_)
    obtain ⟨e1_, e2_, e3_⟩ := q18
    obtain rfl := e1_.symm
    obtain rfl := e2_.symm
    obtain rfl := e3_.symm
    refine g_icmp_ge (tgt := 28) hx hb ⟨by omega, by omega⟩ ⟨by omega, by omega⟩ dX12_sizeCompare_21 (by decide) (fun c_21 => ?_) (fun c_21 => ?_)
    · skip
      refine lv_iconst (v := Int32.ofInt (1)) hx hb dX12_sizeCompare_28 (by decide) ?_
      have hpost : F = F ∧ ar = ar ∧ -1 ≤ (1 : Int) ∧ (1 : Int) ≤ 1 ∧ ((1 : Int) < 0 → nv (ar 1) a < nv (ar 1) b) ∧ (0 ≤ (1 : Int) → nsz (ar 1) b ≤ nsz (ar 1) a) := ⟨rfl, rfl, by omega, by omega, fun q => by first | omega | exact nv_lt_size hk hk na nb c_21, fun q => by omega⟩
      exact W.iret (v := Int32.ofInt (1)) hx hb hr (fun t ht hW => ⟨⟨_, (F, ar), rfl, ⟨_, rfl, hpost⟩, by rw [ht]; exact hP, va_K.moved hW.alike hK, hD⟩, hS.F ht⟩) hS.2.2 dX12_sizeCompare_29
    · skip
      refine lv_iconst (v := Int32.ofInt (-1)) hx hb dX12_sizeCompare_24 (by decide) ?_
      refine lv_goto (tgt := 29) hx hb dX12_sizeCompare_25 (by decide) ?_
      have hpost : F = F ∧ ar = ar ∧ -1 ≤ ((-1) : Int) ∧ ((-1) : Int) ≤ 1 ∧ (((-1) : Int) < 0 → nv (ar 1) a < nv (ar 1) b) ∧ (0 ≤ ((-1) : Int) → nsz (ar 1) b ≤ nsz (ar 1) a) := ⟨rfl, rfl, by omega, by omega, fun q => by first | omega | exact nv_lt_size hk hk na nb c_21, fun q => by omega⟩
      exact W.iret (v := Int32.ofInt ((-1))) hx hb hr (fun t ht hW => ⟨⟨_, (F, ar), rfl, ⟨_, rfl, hpost⟩, by rw [ht]; exact hP, va_K.moved hW.alike hK, hD⟩, hS.F ht⟩) hS.2.2 dX12_sizeCompare_29
