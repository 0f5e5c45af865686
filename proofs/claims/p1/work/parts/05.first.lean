/-- a number's size and sign at a place of the row of limbs -/
def nsz (h : Int → Int) (a : Int) : Int := if h a < 0 then 0 - h a else h a
def nsg (h : Int → Int) (a : Int) : Int := if h a < 0 then -1 else if h a > 0 then 1 else 0
theorem nsz_nonneg (h : Int → Int) (a : Int) : 0 ≤ nsz h a := by unfold nsz; split <;> omega
/-- every place of the row holds an int, none the least one -/
def hok (h : Int → Int) : Prop := ∀ i : Int, -2147483648 < h i ∧ h i < 2147483648
theorem hok_i {h : Int → Int} (q : hok h) (i : Int) : g_i (h i) := ⟨Int.le_of_lt (q i).1, (q i).2⟩
theorem hok_up {h : Int → Int} (q : hok h) {k v : Int} (h1 : -2147483648 < v) (h2 : v < 2147483648) : hok (iup h k v) := by
  intro i
  unfold iup
  split
  · exact ⟨h1, h2⟩
  · exact q i
set_option maxHeartbeats 4000000 in
set_option maxRecDepth 100000 in
theorem c_size {l : Launch} {dC : Nat → ClassId} {dI : Nat → Nat → Nat} {h0 : Nat} {ad : Nat → Nat} {cI cJ cB cZ : Nat} {F : Nat → Int} {ar : Nat → Int → Int} {sz : Nat} {a : Int} (b0 : 0 ≤ a) (b1 : a < 6000000) (hk : hok (ar 1)) : Met l yX12_size (Cond.code yX12_size cX12_size 2 (some .int) :: w0r) (rRm 0 0) (rPc dC dI h0 ad cI cJ cB cZ F ar sz [Iz (a)]) (rQi dC dI h0 ad cI cJ cB cZ sz (fun z F' ar' => F' = F ∧ ar' = ar ∧ z = nsz (ar 1) a)) 0 0 (rA h0 ad sz) := by
  refine Met.ofW (cc := cX12_size) (maxL := 2) (ret := (some .int)) (by decide) rfl ?_
  intro p e s m args below meth c s₁ B hml hv
  obtain ⟨rfl, hsz, hP, hK, hD0⟩ := hv
  have hx := B.exec
  have hb := B.bytes
  have hr := B.returns
  have hts := atoms_spec (ws := Cond.code yX12_size cX12_size 2 (some .int) :: w0r) B.pre
  have hown : s.vm.findClass RX12 = some m.cls := findClass_of_methodNamed B.named
  have hlocks := B.notSynchronized
  have E : CallFix p m c cX12_size 2 s _ (Cond.code yX12_size cX12_size 2 (some .int) :: w0r) RX12 := ⟨hx, hb, hml, hown, hts⟩
  subst hsz
  have hD := rA_self s.heap.size hD0
  have hA : ∀ q : Nat, s.heap.size ≤ q → rA h0 ad s.heap.size q := fun q h => Or.inr h
  have hS : va_S (rA h0 ad s.heap.size) s.heap s.heap [] := va_S.rf
  have hl := lv_entry ([.ref h0, Iz (a)]) (n := 2) (Nat.le_of_ble_eq_true rfl)
  rw [lg_entry_eq]
  generalize (lg_sl ([.ref h0, Iz (a)]) ++ List.replicate (2 - (lg_sl ([.ref h0, Iz (a)])).length) Slot.unset).toArray = ls at hl ⊢
  have hl : lv_has ls 2 [(0, .ref h0), (1, Iz (a))] := hl
  refine lv_aload_n hx hb dX12_size_0 rfl (lv_at hl 0 rfl) ?_
  refine r_geti E hK hP (k := 1) (v := .ref (ad 1)) (by decide) mf_7 rfl rfl dX12_size_1 ?_
  refine lv_iload_n hx hb dX12_size_4 rfl (lv_at hl 1 rfl) ?_
  refine g_iald (f := (ar 1)) hx hb hK hP 1 0 rfl rfl (by omega) (by omega) (by decide) dX12_size_5 ?_
  refine g_if_ge (tgt := 20) hx hb (hok_i hk _) dX12_size_6 (by decide) (fun c_6 => ?_) (fun c_6 => ?_)
  · skip
    refine lv_aload_n hx hb dX12_size_20 rfl (lv_at hl 0 rfl) ?_
    refine r_geti E hK hP (k := 1) (v := .ref (ad 1)) (by decide) mf_7 rfl rfl dX12_size_21 ?_
    refine lv_iload_n hx hb dX12_size_24 rfl (lv_at hl 1 rfl) ?_
    refine g_iald (f := (ar 1)) hx hb hK hP 1 0 rfl rfl (by omega) (by omega) (by decide) dX12_size_25 ?_
    have hpost : F = F ∧ ar = ar ∧ ((ar 1) a) = nsz (ar 1) a := ⟨rfl, rfl, by unfold nsz; split <;> omega⟩
    exact W.iret (v := Int32.ofInt ((ar 1) a)) hx hb hr (fun t ht hW => ⟨⟨_, (F, ar), rfl, ⟨_, rfl, hpost⟩, by rw [ht]; exact hP, va_K.moved hW.alike hK, hD⟩, hS.F ht⟩) hS.2.2 dX12_size_26
  · skip
    refine lv_iconst (v := Int32.ofInt (0)) hx hb dX12_size_9 (by decide) ?_
    refine lv_aload_n hx hb dX12_size_10 rfl (lv_at hl 0 rfl) ?_
    refine r_geti E hK hP (k := 1) (v := .ref (ad 1)) (by decide) mf_7 rfl rfl dX12_size_11 ?_
    refine lv_iload_n hx hb dX12_size_14 rfl (lv_at hl 1 rfl) ?_
    refine g_iald (f := (ar 1)) hx hb hK hP 1 0 rfl rfl (by omega) (by omega) (by decide) dX12_size_15 ?_
    refine g_isub hx hb dX12_size_16 ?_
    refine lv_goto (tgt := 26) hx hb dX12_size_17 (by decide) ?_
    have hpost : F = F ∧ ar = ar ∧ (0 - ((ar 1) a)) = nsz (ar 1) a := ⟨rfl, rfl, by unfold nsz; split <;> omega⟩
    exact W.iret (v := Int32.ofInt (0 - ((ar 1) a))) hx hb hr (fun t ht hW => ⟨⟨_, (F, ar), rfl, ⟨_, rfl, hpost⟩, by rw [ht]; exact hP, va_K.moved hW.alike hK, hD⟩, hS.F ht⟩) hS.2.2 dX12_size_26
set_option maxHeartbeats 4000000 in
set_option maxRecDepth 100000 in
theorem c_signOf {l : Launch} {dC : Nat → ClassId} {dI : Nat → Nat → Nat} {h0 : Nat} {ad : Nat → Nat} {cI cJ cB cZ : Nat} {F : Nat → Int} {ar : Nat → Int → Int} {sz : Nat} {a : Int} (b0 : 0 ≤ a) (b1 : a < 6000000) (hk : hok (ar 1)) : Met l yX12_signOf (Cond.code yX12_signOf cX12_signOf 2 (some .int) :: w0r) (rRm 0 0) (rPc dC dI h0 ad cI cJ cB cZ F ar sz [Iz (a)]) (rQi dC dI h0 ad cI cJ cB cZ sz (fun z F' ar' => F' = F ∧ ar' = ar ∧ z = nsg (ar 1) a)) 0 0 (rA h0 ad sz) := by
  refine Met.ofW (cc := cX12_signOf) (maxL := 2) (ret := (some .int)) (by decide) rfl ?_
  intro p e s m args below meth c s₁ B hml hv
  obtain ⟨rfl, hsz, hP, hK, hD0⟩ := hv
  have hx := B.exec
  have hb := B.bytes
  have hr := B.returns
  have hts := atoms_spec (ws := Cond.code yX12_signOf cX12_signOf 2 (some .int) :: w0r) B.pre
  have hown : s.vm.findClass RX12 = some m.cls := findClass_of_methodNamed B.named
  have hlocks := B.notSynchronized
  have E : CallFix p m c cX12_signOf 2 s _ (Cond.code yX12_signOf cX12_signOf 2 (some .int) :: w0r) RX12 := ⟨hx, hb, hml, hown, hts⟩
  subst hsz
  have hD := rA_self s.heap.size hD0
  have hA : ∀ q : Nat, s.heap.size ≤ q → rA h0 ad s.heap.size q := fun q h => Or.inr h
  have hS : va_S (rA h0 ad s.heap.size) s.heap s.heap [] := va_S.rf
  have hl := lv_entry ([.ref h0, Iz (a)]) (n := 2) (Nat.le_of_ble_eq_true rfl)
  rw [lg_entry_eq]
  generalize (lg_sl ([.ref h0, Iz (a)]) ++ List.replicate (2 - (lg_sl ([.ref h0, Iz (a)])).length) Slot.unset).toArray = ls at hl ⊢
  have hl : lv_has ls 2 [(0, .ref h0), (1, Iz (a))] := hl
  refine lv_aload_n hx hb dX12_signOf_0 rfl (lv_at hl 0 rfl) ?_
  refine r_geti E hK hP (k := 1) (v := .ref (ad 1)) (by decide) mf_7 rfl rfl dX12_signOf_1 ?_
  refine lv_iload_n hx hb dX12_signOf_4 rfl (lv_at hl 1 rfl) ?_
  refine g_iald (f := (ar 1)) hx hb hK hP 1 0 rfl rfl (by omega) (by omega) (by decide) dX12_signOf_5 ?_
  refine g_if_ge (tgt := 13) hx hb (hok_i hk _) dX12_signOf_6 (by decide) (fun c_6 => ?_) (fun c_6 => ?_)
  · skip
    refine lv_aload_n hx hb dX12_signOf_13 rfl (lv_at hl 0 rfl) ?_
    refine r_geti E hK hP (k := 1) (v := .ref (ad 1)) (by decide) mf_7 rfl rfl dX12_signOf_14 ?_
    refine lv_iload_n hx hb dX12_signOf_17 rfl (lv_at hl 1 rfl) ?_
    refine g_iald (f := (ar 1)) hx hb hK hP 1 0 rfl rfl (by omega) (by omega) (by decide) dX12_signOf_18 ?_
    refine g_if_le (tgt := 26) hx hb (hok_i hk _) dX12_signOf_19 (by decide) (fun c_19 => ?_) (fun c_19 => ?_)
    · skip
      refine lv_iconst (v := Int32.ofInt (0)) hx hb dX12_signOf_26 (by decide) ?_
      have hpost : F = F ∧ ar = ar ∧ 0 = nsg (ar 1) a := ⟨rfl, rfl, by unfold nsg; split <;> (try split) <;> omega⟩
      exact W.iret (v := Int32.ofInt (0)) hx hb hr (fun t ht hW => ⟨⟨_, (F, ar), rfl, ⟨_, rfl, hpost⟩, by rw [ht]; exact hP, va_K.moved hW.alike hK, hD⟩, hS.F ht⟩) hS.2.2 dX12_signOf_27
    · skip
      refine lv_iconst (v := Int32.ofInt (1)) hx hb dX12_signOf_22 (by decide) ?_
      refine lv_goto (tgt := 27) hx hb dX12_signOf_23 (by decide) ?_
      have hpost : F = F ∧ ar = ar ∧ 1 = nsg (ar 1) a := ⟨rfl, rfl, by unfold nsg; split <;> (try split) <;> omega⟩
      exact W.iret (v := Int32.ofInt (1)) hx hb hr (fun t ht hW => ⟨⟨_, (F, ar), rfl, ⟨_, rfl, hpost⟩, by rw [ht]; exact hP, va_K.moved hW.alike hK, hD⟩, hS.F ht⟩) hS.2.2 dX12_signOf_27
  · skip
    refine lv_iconst (v := Int32.ofInt (-1)) hx hb dX12_signOf_9 (by decide) ?_
    refine lv_goto (tgt := 27) hx hb dX12_signOf_10 (by decide) ?_
    have hpost : F = F ∧ ar = ar ∧ (-1) = nsg (ar 1) a := ⟨rfl, rfl, by unfold nsg; split <;> (try split) <;> omega⟩
    exact W.iret (v := Int32.ofInt ((-1))) hx hb hr (fun t ht hW => ⟨⟨_, (F, ar), rfl, ⟨_, rfl, hpost⟩, by rw [ht]; exact hP, va_K.moved hW.alike hK, hD⟩, hS.F ht⟩) hS.2.2 dX12_signOf_27
set_option maxHeartbeats 4000000 in
set_option maxRecDepth 100000 in
theorem c_shut {l : Launch} {dC : Nat → ClassId} {dI : Nat → Nat → Nat} {h0 : Nat} {ad : Nat → Nat} {cI cJ cB cZ : Nat} {F : Nat → Int} {ar : Nat → Int → Int} {sz : Nat} {a n mi : Int} (b0 : 0 ≤ a) (n0 : 0 ≤ n) (b1 : a + n < 6000000) (hk : hok (ar 1)) (hmi : mi = 0 ∨ mi = 1) : Met l yX12_shut (Cond.code yX12_shut cX12_shut 5 (some .int) :: w0r) (rRm 0 0) (rPc dC dI h0 ad cI cJ cB cZ F ar sz [Iz (a), Iz (n), Iz (mi)]) (rQi dC dI h0 ad cI cJ cB cZ sz (fun z F' ar' => ∃ k' : Int, 0 ≤ k' ∧ k' ≤ n ∧ (0 < k' → ar 1 (a + k') ≠ 0) ∧ (∀ i : Int, k' < i → i ≤ n → ar 1 (a + i) = 0) ∧ F' = fup F 2 (a + 1 + k') ∧ ar' = aup ar 1 (iup (ar 1) a (if mi = 0 then k' else 0 - k')) ∧ z = a)) 0 0 (rA h0 ad sz) := by
  refine Met.ofW (cc := cX12_shut) (maxL := 5) (ret := (some .int)) (by decide) rfl ?_
  intro p e s m args below meth c s₁ B hml hv
  obtain ⟨rfl, hsz, hP, hK, hD0⟩ := hv
  have hx := B.exec
  have hb := B.bytes
  have hr := B.returns
  have hts := atoms_spec (ws := Cond.code yX12_shut cX12_shut 5 (some .int) :: w0r) B.pre
  have hown : s.vm.findClass RX12 = some m.cls := findClass_of_methodNamed B.named
  have hlocks := B.notSynchronized
  have E : CallFix p m c cX12_shut 5 s _ (Cond.code yX12_shut cX12_shut 5 (some .int) :: w0r) RX12 := ⟨hx, hb, hml, hown, hts⟩
  subst hsz
  have hD := rA_self s.heap.size hD0
  have hA : ∀ q : Nat, s.heap.size ≤ q → rA h0 ad s.heap.size q := fun q h => Or.inr h
  have hS : va_S (rA h0 ad s.heap.size) s.heap s.heap [] := va_S.rf
  have hl := lv_entry ([.ref h0, Iz (a), Iz (n), Iz (mi)]) (n := 5) (Nat.le_of_ble_eq_true rfl)
  rw [lg_entry_eq]
  generalize (lg_sl ([.ref h0, Iz (a), Iz (n), Iz (mi)]) ++ List.replicate (5 - (lg_sl ([.ref h0, Iz (a), Iz (n), Iz (mi)])).length) Slot.unset).toArray = ls at hl ⊢
  have hl : lv_has ls 5 [(0, .ref h0), (1, Iz (a)), (2, Iz (n)), (3, Iz (mi))] := hl
  refine lv_iload_n hx hb dX12_shut_0 rfl (lv_at hl 2 rfl) ?_
  refine lv_istore (lv' := [(4, Iz (n)), (0, .ref h0), (1, Iz (a)), (2, Iz (n)), (3, Iz (mi))]) hx hb dX12_shut_1 hl (by decide) rfl (fun ls hl => ?_)
  refine r_loop (P := fun N_ H locs ls => ∃ (k : Int), N_ = k.toNat ∧ (0 ≤ k) ∧ (k ≤ n) ∧ (∀ i : Int, k < i → i ≤ n → ar 1 (a + i) = 0) ∧ va_P (dC, dI) rcl (mW h0 ad cI cJ cB cZ F ar) H ∧ va_D (rA h0 ad s.heap.size) (mW h0 ad cI cJ cB cZ F ar) ∧ va_S (rA h0 ad s.heap.size) s.heap H locs ∧ lv_has ls 5 [(0, .ref h0), (1, Iz (a)), (2, Iz (n)), (3, Iz (mi)), (4, Iz (k))]) (g := fun ls => F0 m 3 ls []) (fun N_ H locs ls hI ih_3 => ?_) _ _ _ _ ⟨n, rfl, (n0), (Int.le_refl n), (fun i q1 q2 => by omega), hP, hD, hS, lv_sub hl [1, 2, 3, 4, 0] rfl⟩
  obtain ⟨k, rfl, k0, k1, kz, hP, hD, hS, hl⟩ := hI
  refine lv_iload hx hb dX12_shut_3 (lv_at hl 4 rfl) ?_
  refine g_if_le (tgt := 26) hx hb ⟨by omega, by omega⟩ dX12_shut_5 (by decide) (fun c_5 => ?_) (fun c_5 => ?_)
  · skip
    refine lv_aload_n hx hb dX12_shut_26 rfl (lv_at hl 0 rfl) ?_
    refine r_geti E hK hP (k := 1) (v := .ref (ad 1)) (by decide) mf_7 rfl rfl dX12_shut_27 ?_
    refine lv_iload_n hx hb dX12_shut_30 rfl (lv_at hl 1 rfl) ?_
    refine lv_iload_n hx hb dX12_shut_31 rfl (lv_at hl 3 rfl) ?_
    refine g_if_eq (tgt := 42) hx hb ⟨by omega, by omega⟩ dX12_shut_32 (by decide) (fun c_32 => ?_) (fun c_32 => ?_)
    · skip
      refine lv_iload hx hb dX12_shut_42 (lv_at hl 4 rfl) ?_
      refine g_iast (f := (ar 1)) hx hb hK hP hD hS 1 0 rfl rfl (by omega) (by omega) (by decide) dX12_shut_44 (fun H locs hP hD hS => ?_)
      rw [sa_1] at hP hD
      refine lv_aload_n hx hb dX12_shut_45 rfl (lv_at hl 0 rfl) ?_
      refine lv_iload_n hx hb dX12_shut_46 rfl (lv_at hl 1 rfl) ?_
      refine lv_iconst (v := Int32.ofInt (1)) hx hb dX12_shut_47 (by decide) ?_
      refine g_iadd hx hb dX12_shut_48 ?_
      refine lv_iload hx hb dX12_shut_49 (lv_at hl 4 rfl) ?_
      refine g_iadd hx hb dX12_shut_51 ?_
      refine r_puti E hK hP hD hS 2 (by decide) mf_11 rfl rfl (by decide +kernel) (sp_2 h0 ad cI cJ cB cZ _ _) dX12_shut_52 (fun H locs hP hD hS => ?_)
      refine lv_iload_n hx hb dX12_shut_55 rfl (lv_at hl 1 rfl) ?_
      have hpost : ∃ k' : Int, 0 ≤ k' ∧ k' ≤ n ∧ (0 < k' → ar 1 (a + k') ≠ 0) ∧ (∀ i : Int, k' < i → i ≤ n → ar 1 (a + i) = 0) ∧ (fup F 2 ((a + 1) + k)) = fup F 2 (a + 1 + k') ∧ (aup ar 1 (iup (ar 1) a k)) = aup ar 1 (iup (ar 1) a (if mi = 0 then k' else 0 - k')) ∧ a = a := ⟨k, k0, k1, fun _ => by first | exact c_17 | omega, kz, rfl, by first | (rw [if_neg c_32]) | (rw [if_pos c_32]), rfl⟩
      exact W.iret (v := Int32.ofInt (a)) hx hb hr (fun t ht hW => ⟨⟨_, ((fup F 2 ((a + 1) + k)), (aup ar 1 (iup (ar 1) a k))), rfl, ⟨_, rfl, hpost⟩, by rw [ht]; exact hP, va_K.moved hW.alike hK, hD⟩, hS.F ht⟩) hS.2.2 dX12_shut_56
    · skip
      refine lv_iconst (v := Int32.ofInt (0)) hx hb dX12_shut_35 (by decide) ?_
      refine lv_iload hx hb dX12_shut_36 (lv_at hl 4 rfl) ?_
      refine g_isub hx hb dX12_shut_38 ?_
      refine lv_goto (tgt := 44) hx hb dX12_shut_39 (by decide) ?_
      refine g_iast (f := (ar 1)) hx hb hK hP hD hS 1 0 rfl rfl (by omega) (by omega) (by decide) dX12_shut_44 (fun H locs hP hD hS => ?_)
      rw [sa_1] at hP hD
      refine lv_aload_n hx hb dX12_shut_45 rfl (lv_at hl 0 rfl) ?_
      refine lv_iload_n hx hb dX12_shut_46 rfl (lv_at hl 1 rfl) ?_
      refine lv_iconst (v := Int32.ofInt (1)) hx hb dX12_shut_47 (by decide) ?_
      refine g_iadd hx hb dX12_shut_48 ?_
      refine lv_iload hx hb dX12_shut_49 (lv_at hl 4 rfl) ?_
      refine g_iadd hx hb dX12_shut_51 ?_
      refine r_puti E hK hP hD hS 2 (by decide) mf_11 rfl rfl (by decide +kernel) (sp_2 h0 ad cI cJ cB cZ _ _) dX12_shut_52 (fun H locs hP hD hS => ?_)
      refine lv_iload_n hx hb dX12_shut_55 rfl (lv_at hl 1 rfl) ?_
      have hpost : ∃ k' : Int, 0 ≤ k' ∧ k' ≤ n ∧ (0 < k' → ar 1 (a + k') ≠ 0) ∧ (∀ i : Int, k' < i → i ≤ n → ar 1 (a + i) = 0) ∧ (fup F 2 ((a + 1) + k)) = fup F 2 (a + 1 + k') ∧ (aup ar 1 (iup (ar 1) a (0 - k))) = aup ar 1 (iup (ar 1) a (if mi = 0 then k' else 0 - k')) ∧ a = a := ⟨k, k0, k1, fun _ => by first | exact c_17 | omega, kz, rfl, by first | (rw [if_neg c_32]) | (rw [if_pos c_32]), rfl⟩
      exact W.iret (v := Int32.ofInt (a)) hx hb hr (fun t ht hW => ⟨⟨_, ((fup F 2 ((a + 1) + k)), (aup ar 1 (iup (ar 1) a (0 - k)))), rfl, ⟨_, rfl, hpost⟩, by rw [ht]; exact hP, va_K.moved hW.alike hK, hD⟩, hS.F ht⟩) hS.2.2 dX12_shut_56
  · skip
    refine lv_aload_n hx hb dX12_shut_8 rfl (lv_at hl 0 rfl) ?_
    refine r_geti E hK hP (k := 1) (v := .ref (ad 1)) (by decide) mf_7 rfl rfl dX12_shut_9 ?_
    refine lv_iload_n hx hb dX12_shut_12 rfl (lv_at hl 1 rfl) ?_
    refine lv_iload hx hb dX12_shut_13 (lv_at hl 4 rfl) ?_
    refine g_iadd hx hb dX12_shut_15 ?_
    refine g_iald (f := (ar 1)) hx hb hK hP 1 0 rfl rfl (by omega) (by omega) (by decide) dX12_shut_16 ?_
    refine g_if_ne (tgt := 26) hx hb (hok_i hk _) dX12_shut_17 (by decide) (fun c_17 => ?_) (fun c_17 => ?_)
    · skip
      refine lv_aload_n hx hb dX12_shut_26 rfl (lv_at hl 0 rfl) ?_
      refine r_geti E hK hP (k := 1) (v := .ref (ad 1)) (by decide) mf_7 rfl rfl dX12_shut_27 ?_
      refine lv_iload_n hx hb dX12_shut_30 rfl (lv_at hl 1 rfl) ?_
      refine lv_iload_n hx hb dX12_shut_31 rfl (lv_at hl 3 rfl) ?_
      refine g_if_eq (tgt := 42) hx hb ⟨by omega, by omega⟩ dX12_shut_32 (by decide) (fun c_32 => ?_) (fun c_32 => ?_)
      · skip
        refine lv_iload hx hb dX12_shut_42 (lv_at hl 4 rfl) ?_
        refine g_iast (f := (ar 1)) hx hb hK hP hD hS 1 0 rfl rfl (by omega) (by omega) (by decide) dX12_shut_44 (fun H locs hP hD hS => ?_)
        rw [sa_1] at hP hD
        refine lv_aload_n hx hb dX12_shut_45 rfl (lv_at hl 0 rfl) ?_
        refine lv_iload_n hx hb dX12_shut_46 rfl (lv_at hl 1 rfl) ?_
        refine lv_iconst (v := Int32.ofInt (1)) hx hb dX12_shut_47 (by decide) ?_
        refine g_iadd hx hb dX12_shut_48 ?_
        refine lv_iload hx hb dX12_shut_49 (lv_at hl 4 rfl) ?_
        refine g_iadd hx hb dX12_shut_51 ?_
        refine r_puti E hK hP hD hS 2 (by decide) mf_11 rfl rfl (by decide +kernel) (sp_2 h0 ad cI cJ cB cZ _ _) dX12_shut_52 (fun H locs hP hD hS => ?_)
        refine lv_iload_n hx hb dX12_shut_55 rfl (lv_at hl 1 rfl) ?_
        have hpost : ∃ k' : Int, 0 ≤ k' ∧ k' ≤ n ∧ (0 < k' → ar 1 (a + k') ≠ 0) ∧ (∀ i : Int, k' < i → i ≤ n → ar 1 (a + i) = 0) ∧ (fup F 2 ((a + 1) + k)) = fup F 2 (a + 1 + k') ∧ (aup ar 1 (iup (ar 1) a k)) = aup ar 1 (iup (ar 1) a (if mi = 0 then k' else 0 - k')) ∧ a = a := ⟨k, k0, k1, fun _ => by first | exact c_17 | omega, kz, rfl, by first | (rw [if_neg c_32]) | (rw [if_pos c_32]), rfl⟩
        exact W.iret (v := Int32.ofInt (a)) hx hb hr (fun t ht hW => ⟨⟨_, ((fup F 2 ((a + 1) + k)), (aup ar 1 (iup (ar 1) a k))), rfl, ⟨_, rfl, hpost⟩, by rw [ht]; exact hP, va_K.moved hW.alike hK, hD⟩, hS.F ht⟩) hS.2.2 dX12_shut_56
      · skip
        refine lv_iconst (v := Int32.ofInt (0)) hx hb dX12_shut_35 (by decide) ?_
        refine lv_iload hx hb dX12_shut_36 (lv_at hl 4 rfl) ?_
        refine g_isub hx hb dX12_shut_38 ?_
        refine lv_goto (tgt := 44) hx hb dX12_shut_39 (by decide) ?_
        refine g_iast (f := (ar 1)) hx hb hK hP hD hS 1 0 rfl rfl (by omega) (by omega) (by decide) dX12_shut_44 (fun H locs hP hD hS => ?_)
        rw [sa_1] at hP hD
        refine lv_aload_n hx hb dX12_shut_45 rfl (lv_at hl 0 rfl) ?_
        refine lv_iload_n hx hb dX12_shut_46 rfl (lv_at hl 1 rfl) ?_
        refine lv_iconst (v := Int32.ofInt (1)) hx hb dX12_shut_47 (by decide) ?_
        refine g_iadd hx hb dX12_shut_48 ?_
        refine lv_iload hx hb dX12_shut_49 (lv_at hl 4 rfl) ?_
        refine g_iadd hx hb dX12_shut_51 ?_
        refine r_puti E hK hP hD hS 2 (by decide) mf_11 rfl rfl (by decide +kernel) (sp_2 h0 ad cI cJ cB cZ _ _) dX12_shut_52 (fun H locs hP hD hS => ?_)
        refine lv_iload_n hx hb dX12_shut_55 rfl (lv_at hl 1 rfl) ?_
        have hpost : ∃ k' : Int, 0 ≤ k' ∧ k' ≤ n ∧ (0 < k' → ar 1 (a + k') ≠ 0) ∧ (∀ i : Int, k' < i → i ≤ n → ar 1 (a + i) = 0) ∧ (fup F 2 ((a + 1) + k)) = fup F 2 (a + 1 + k') ∧ (aup ar 1 (iup (ar 1) a (0 - k))) = aup ar 1 (iup (ar 1) a (if mi = 0 then k' else 0 - k')) ∧ a = a := ⟨k, k0, k1, fun _ => by first | exact c_17 | omega, kz, rfl, by first | (rw [if_neg c_32]) | (rw [if_pos c_32]), rfl⟩
        exact W.iret (v := Int32.ofInt (a)) hx hb hr (fun t ht hW => ⟨⟨_, ((fup F 2 ((a + 1) + k)), (aup ar 1 (iup (ar 1) a (0 - k)))), rfl, ⟨_, rfl, hpost⟩, by rw [ht]; exact hP, va_K.moved hW.alike hK, hD⟩, hS.F ht⟩) hS.2.2 dX12_shut_56
    · skip
      refine g_iinc (k := 4) (z := k) (n := (-1)) (lv' := [(4, Iz (k + (-1))), (0, .ref h0), (1, Iz (a)), (2, Iz (n)), (3, Iz (mi))]) hx hb dX12_shut_20 hl rfl (by decide) rfl (fun ls hl => ?_)
      refine lv_goto (tgt := 3) hx hb dX12_shut_23 (by decide) ?_
      exact ih_3 _ (by omega) _ _ _ ⟨(k + (-1)), rfl, (by omega), (by omega), (fun i q1 q2 => by by_cases qi : i = k; (· rw [qi]; exact c_17); (· exact kz i (by omega) q2)), hP, hD, hS, lv_sub hl [1, 2, 3, 4, 0] rfl⟩
