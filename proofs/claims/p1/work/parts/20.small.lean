section GAny
variable {p : Program} {l : Launch} {e : Env} {R : Room} {s : State} {m : MethodId} {args : Array Value} {below : List Frame} {meth : Method} {c : Code} {H : Heap} {locs : List Loc} {cells slots : Nat} {Q : State → Prop}
variable {cc : ByteArray} {pc : Nat} {ls : Array Slot} {rest : List Value}
/-- a shift of which nothing is asked -/
theorem g_ishr_any (hx : p.tables.exec = Jvm.exec) (hb : c.code = cc) {x y : Int} (hd : decode cc pc = .ok (.ishr, 1)) (k : ∀ z : Int, g_i z → W p l e R s m args below meth c H locs cells slots Q (F0 m (pc + 1) ls (Iz z :: rest))) : W p l e R s m args below meth c H locs cells slots Q (F0 m pc ls (Iz y :: Iz x :: rest)) := by
  refine lv_ishr hx hb hd ?_
  generalize Int32.ofInt x >>> (Int32.ofInt y &&& 31) = w
  have h := k w.toInt ⟨Int32.le_toInt w, Int32.toInt_lt w⟩
  rw [show Iz w.toInt = .int w from congrArg Value.int (Int32.ofInt_toInt w)] at h
  exact h
end GAny
set_option maxHeartbeats 4000000 in
set_option maxRecDepth 100000 in
theorem c_degree {l : Launch} {dC : Nat → ClassId} {dI : Nat → Nat → Nat} {h0 : Nat} {ad : Nat → Nat} {cI cJ cB cZ : Nat} {F : Nat → Int} {ar : Nat → Int → Int} {sz : Nat} {q : Int} (b0 : 0 ≤ q) (b1 : q < 6000000) : Met l yX12_degree (Cond.code yX12_degree cX12_degree 2 (some .int) :: w0r) (rRm 0 0) (rPc dC dI h0 ad cI cJ cB cZ F ar sz [Iz (q)]) (rQi dC dI h0 ad cI cJ cB cZ sz (fun z F' ar' => F' = F ∧ ar' = ar ∧ z = ar 1 q)) 0 0 (rA h0 ad sz) := by
  refine Met.ofW (cc := cX12_degree) (maxL := 2) (ret := (some .int)) (by decide) rfl ?_
  intro p e s m args below meth c s₁ B hml hv
  obtain ⟨rfl, hsz, hP, hK, hD0⟩ := hv
  have hx := B.exec
  have hb := B.bytes
  have hr := B.returns
  have hts := atoms_spec (ws := Cond.code yX12_degree cX12_degree 2 (some .int) :: w0r) B.pre
  have hown : s.vm.findClass RX12 = some m.cls := findClass_of_methodNamed B.named
  have hlocks := B.notSynchronized
  have E : CallFix p m c cX12_degree 2 s _ (Cond.code yX12_degree cX12_degree 2 (some .int) :: w0r) RX12 := ⟨hx, hb, hml, hown, hts⟩
  subst hsz
  have hD := rA_self s.heap.size hD0
  have hA : ∀ q : Nat, s.heap.size ≤ q → rA h0 ad s.heap.size q := fun q h => Or.inr h
  have hS : va_S (rA h0 ad s.heap.size) s.heap s.heap [] := va_S.rf
  have hl := lv_entry ([.ref h0, Iz (q)]) (n := 2) (Nat.le_of_ble_eq_true rfl)
  rw [lg_entry_eq]
  generalize (lg_sl ([.ref h0, Iz (q)]) ++ List.replicate (2 - (lg_sl ([.ref h0, Iz (q)])).length) Slot.unset).toArray = ls at hl ⊢
  have hl : lv_has ls 2 [(0, .ref h0), (1, Iz (q))] := hl
  refine lv_aload_n hx hb dX12_degree_0 rfl (lv_at hl 0 rfl) ?_
  refine r_geti E hK hP (k := 1) (v := .ref (ad 1)) (by decide) mf_7 rfl rfl dX12_degree_1 ?_
  refine lv_iload_n hx hb dX12_degree_4 rfl (lv_at hl 1 rfl) ?_
  refine g_iald (f := (ar 1)) hx hb hK hP 1 0 rfl rfl (by omega) (by omega) (by decide) dX12_degree_5 ?_
  have hpost : F = F ∧ ar = ar ∧ ((ar 1) q : Int) = ar 1 q := ⟨rfl, rfl, rfl⟩
  exact W.iret (v := Int32.ofInt ((ar 1) q)) hx hb hr (fun t ht hW => ⟨⟨_, (F, ar), rfl, ⟨_, rfl, hpost⟩, by rw [ht]; exact hP, va_K.moved hW.alike hK, hD⟩, hS.F ht⟩) hS.2.2 dX12_degree_6
set_option maxHeartbeats 4000000 in
set_option maxRecDepth 100000 in
theorem c_co {l : Launch} {dC : Nat → ClassId} {dI : Nat → Nat → Nat} {h0 : Nat} {ad : Nat → Nat} {cI cJ cB cZ : Nat} {F : Nat → Int} {ar : Nat → Int → Int} {sz : Nat} {q i : Int} (b0 : 0 ≤ q + 1 + i) (b1 : q + 1 + i < 6000000) : Met l yX12_co (Cond.code yX12_co cX12_co 3 (some .int) :: w0r) (rRm 0 0) (rPc dC dI h0 ad cI cJ cB cZ F ar sz [Iz (q), Iz (i)]) (rQi dC dI h0 ad cI cJ cB cZ sz (fun z F' ar' => F' = F ∧ ar' = ar ∧ z = ar 1 (q + 1 + i))) 0 0 (rA h0 ad sz) := by
  refine Met.ofW (cc := cX12_co) (maxL := 3) (ret := (some .int)) (by decide) rfl ?_
  intro p e s m args below meth c s₁ B hml hv
  obtain ⟨rfl, hsz, hP, hK, hD0⟩ := hv
  have hx := B.exec
  have hb := B.bytes
  have hr := B.returns
  have hts := atoms_spec (ws := Cond.code yX12_co cX12_co 3 (some .int) :: w0r) B.pre
  have hown : s.vm.findClass RX12 = some m.cls := findClass_of_methodNamed B.named
  have hlocks := B.notSynchronized
  have E : CallFix p m c cX12_co 3 s _ (Cond.code yX12_co cX12_co 3 (some .int) :: w0r) RX12 := ⟨hx, hb, hml, hown, hts⟩
  subst hsz
  have hD := rA_self s.heap.size hD0
  have hA : ∀ q : Nat, s.heap.size ≤ q → rA h0 ad s.heap.size q := fun q h => Or.inr h
  have hS : va_S (rA h0 ad s.heap.size) s.heap s.heap [] := va_S.rf
  have hl := lv_entry ([.ref h0, Iz (q), Iz (i)]) (n := 3) (Nat.le_of_ble_eq_true rfl)
  rw [lg_entry_eq]
  generalize (lg_sl ([.ref h0, Iz (q), Iz (i)]) ++ List.replicate (3 - (lg_sl ([.ref h0, Iz (q), Iz (i)])).length) Slot.unset).toArray = ls at hl ⊢
  have hl : lv_has ls 3 [(0, .ref h0), (1, Iz (q)), (2, Iz (i))] := hl
  refine lv_aload_n hx hb dX12_co_0 rfl (lv_at hl 0 rfl) ?_
  refine r_geti E hK hP (k := 1) (v := .ref (ad 1)) (by decide) mf_7 rfl rfl dX12_co_1 ?_
  refine lv_iload_n hx hb dX12_co_4 rfl (lv_at hl 1 rfl) ?_
  refine lv_iconst (v := Int32.ofInt (1)) hx hb dX12_co_5 (by decide) ?_
  refine g_iadd hx hb dX12_co_6 ?_
  refine lv_iload_n hx hb dX12_co_7 rfl (lv_at hl 2 rfl) ?_
  refine g_iadd hx hb dX12_co_8 ?_
  refine g_iald (f := (ar 1)) hx hb hK hP 1 0 rfl rfl (by omega) (by omega) (by decide) dX12_co_9 ?_
  have hpost : F = F ∧ ar = ar ∧ ((ar 1) ((q + 1) + i) : Int) = ar 1 (q + 1 + i) := ⟨rfl, rfl, rfl⟩
  exact W.iret (v := Int32.ofInt ((ar 1) ((q + 1) + i))) hx hb hr (fun t ht hW => ⟨⟨_, (F, ar), rfl, ⟨_, rfl, hpost⟩, by rw [ht]; exact hP, va_K.moved hW.alike hK, hD⟩, hS.F ht⟩) hS.2.2 dX12_co_10
set_option maxHeartbeats 4000000 in
set_option maxRecDepth 100000 in
theorem c_leading {l : Launch} {dC : Nat → ClassId} {dI : Nat → Nat → Nat} {h0 : Nat} {ad : Nat → Nat} {cI cJ cB cZ : Nat} {F : Nat → Int} {ar : Nat → Int → Int} {sz : Nat} {q : Int} (b0 : 0 ≤ q) (b1 : q < 6000000) (c0 : 0 ≤ q + 1 + ar 1 q) (c1 : q + 1 + ar 1 q < 6000000) : Met l yX12_leading (Cond.code yX12_leading cX12_leading 2 (some .int) :: w0r) (rRm 1 22) (rPc dC dI h0 ad cI cJ cB cZ F ar sz [Iz (q)]) (rQi dC dI h0 ad cI cJ cB cZ sz (fun z F' ar' => F' = F ∧ ar' = ar ∧ z = ar 1 (q + 1 + ar 1 q))) 0 0 (rA h0 ad sz) := by
  refine Met.ofW (cc := cX12_leading) (maxL := 2) (ret := (some .int)) (by decide) rfl ?_
  intro p e s m args below meth c s₁ B hml hv
  obtain ⟨rfl, hsz, hP, hK, hD0⟩ := hv
  have hx := B.exec
  have hb := B.bytes
  have hr := B.returns
  have hts := atoms_spec (ws := Cond.code yX12_leading cX12_leading 2 (some .int) :: w0r) B.pre
  have hown : s.vm.findClass RX12 = some m.cls := findClass_of_methodNamed B.named
  have hlocks := B.notSynchronized
  have E : CallFix p m c cX12_leading 2 s _ (Cond.code yX12_leading cX12_leading 2 (some .int) :: w0r) RX12 := ⟨hx, hb, hml, hown, hts⟩
  subst hsz
  have hD := rA_self s.heap.size hD0
  have hA : ∀ q : Nat, s.heap.size ≤ q → rA h0 ad s.heap.size q := fun q h => Or.inr h
  have hS : va_S (rA h0 ad s.heap.size) s.heap s.heap [] := va_S.rf
  have hl := lv_entry ([.ref h0, Iz (q)]) (n := 2) (Nat.le_of_ble_eq_true rfl)
  rw [lg_entry_eq]
  generalize (lg_sl ([.ref h0, Iz (q)]) ++ List.replicate (2 - (lg_sl ([.ref h0, Iz (q)])).length) Slot.unset).toArray = ls at hl ⊢
  have hl : lv_has ls 2 [(0, .ref h0), (1, Iz (q))] := hl
  refine lv_aload_n hx hb dX12_leading_0 rfl (lv_at hl 0 rfl) ?_
  refine lv_iload_n hx hb dX12_leading_1 rfl (lv_at hl 1 rfl) ?_
  refine lv_aload_n hx hb dX12_leading_2 rfl (lv_at hl 0 rfl) ?_
  refine lv_iload_n hx hb dX12_leading_3 rfl (lv_at hl 1 rfl) ?_
  refine r_calli (As := [Iz (q)]) (rest := [Iz (q), .ref h0]) E (c_degree (F := F) (ar := ar) (q := q) b0 b1) (cwV 1 hts (rGood ml_80 mi_degree ms_degree mn_RX12 mc_degree) rfl rfl rfl (by decide +kernel) ⟨Nat.le_of_ble_eq_true rfl, Nat.le_of_ble_eq_true rfl⟩) hK hP hD hS hA rfl hl.1 (Nat.le_of_ble_eq_true rfl) dX12_leading_4 ⟨Nat.le_refl 0, Nat.le_refl 0⟩ (fun z4 F4 ar4 H locs q4 hP hD hS => ?_)
  obtain ⟨e1_, e2_, e3_⟩ := q4
  obtain rfl := e1_.symm
  obtain rfl := e2_.symm
  obtain rfl := e3_.symm
  refine r_calli (As := [Iz (q), Iz ((ar 1) q)]) (rest := []) E (c_co (F := F) (ar := ar) (q := q) (i := ar 1 q) c0 c1) (cwV 2 hts (rGood ml_83 mi_co ms_co mn_RX12 mc_co) rfl rfl rfl (by decide +kernel) ⟨Nat.le_of_ble_eq_true rfl, Nat.le_of_ble_eq_true rfl⟩) hK hP hD hS hA rfl hl.1 (Nat.le_of_ble_eq_true rfl) dX12_leading_7 ⟨Nat.le_refl 0, Nat.le_refl 0⟩ (fun z7 F7 ar7 H locs q7 hP hD hS => ?_)
  obtain ⟨e1_, e2_, e3_⟩ := q7
  obtain rfl := e1_.symm
  obtain rfl := e2_.symm
  obtain rfl := e3_.symm
  have hpost : F = F ∧ ar = ar ∧ ((ar 1) (q + 1 + ((ar 1) q)) : Int) = ar 1 (q + 1 + ar 1 q) := ⟨rfl, rfl, rfl⟩
  exact W.iret (v := Int32.ofInt ((ar 1) (q + 1 + ((ar 1) q)))) hx hb hr (fun t ht hW => ⟨⟨_, (F, ar), rfl, ⟨_, rfl, hpost⟩, by rw [ht]; exact hP, va_K.moved hW.alike hK, hD⟩, hS.F ht⟩) hS.2.2 dX12_leading_10
set_option maxHeartbeats 4000000 in
set_option maxRecDepth 100000 in
theorem c_clear {l : Launch} {dC : Nat → ClassId} {dI : Nat → Nat → Nat} {h0 : Nat} {ad : Nat → Nat} {cI cJ cB cZ : Nat} {F : Nat → Int} {ar : Nat → Int → Int} {sz : Nat}   : Met l yX12_clear (Cond.code yX12_clear cX12_clear 1 none :: w0r) (rRm 0 0) (rPc dC dI h0 ad cI cJ cB cZ F ar sz []) (rQv dC dI h0 ad cI cJ cB cZ sz (fun F' ar' => F' = fup F 2 0 ∧ ar' = ar)) 0 0 (rA h0 ad sz) := by
  refine Met.ofW (cc := cX12_clear) (maxL := 1) (ret := none) (by decide) rfl ?_
  intro p e s m args below meth c s₁ B hml hv
  obtain ⟨rfl, hsz, hP, hK, hD0⟩ := hv
  have hx := B.exec
  have hb := B.bytes
  have hr := B.returns
  have hts := atoms_spec (ws := Cond.code yX12_clear cX12_clear 1 none :: w0r) B.pre
  have hown : s.vm.findClass RX12 = some m.cls := findClass_of_methodNamed B.named
  have hlocks := B.notSynchronized
  have E : CallFix p m c cX12_clear 1 s _ (Cond.code yX12_clear cX12_clear 1 none :: w0r) RX12 := ⟨hx, hb, hml, hown, hts⟩
  subst hsz
  have hD := rA_self s.heap.size hD0
  have hA : ∀ q : Nat, s.heap.size ≤ q → rA h0 ad s.heap.size q := fun q h => Or.inr h
  have hS : va_S (rA h0 ad s.heap.size) s.heap s.heap [] := va_S.rf
  have hl := lv_entry ([.ref h0]) (n := 1) (Nat.le_of_ble_eq_true rfl)
  rw [lg_entry_eq]
  generalize (lg_sl ([.ref h0]) ++ List.replicate (1 - (lg_sl ([.ref h0])).length) Slot.unset).toArray = ls at hl ⊢
  have hl : lv_has ls 1 [(0, .ref h0)] := hl
  refine lv_aload_n hx hb dX12_clear_0 rfl (lv_at hl 0 rfl) ?_
  refine lv_iconst (v := Int32.ofInt (0)) hx hb dX12_clear_1 (by decide) ?_
  refine r_puti E hK hP hD hS 2 (by decide) mf_11 rfl rfl (by decide +kernel) (sp_2 h0 ad cI cJ cB cZ _ _) dX12_clear_2 (fun H locs hP hD hS => ?_)
  have hpost : (fup F 2 0) = fup F 2 0 ∧ ar = ar := ⟨rfl, rfl⟩
  exact W.vret hx hb hr (fun t ht hW => ⟨⟨((fup F 2 0), ar), rfl, hpost, by rw [ht]; exact hP, va_K.moved hW.alike hK, hD⟩, hS.F ht⟩) hS.2.2 dX12_clear_5
set_option maxHeartbeats 4000000 in
set_option maxRecDepth 100000 in
theorem c_bits {l : Launch} {dC : Nat → ClassId} {dI : Nat → Nat → Nat} {h0 : Nat} {ad : Nat → Nat} {cI cJ cB cZ : Nat} {F : Nat → Int} {ar : Nat → Int → Int} {sz : Nat} {a : Int} (b0 : 0 ≤ a) (b1 : a + nsz (ar 1) a < 6000000) (hk : hok (ar 1)) : Met l yX12_bits (Cond.code yX12_bits cX12_bits 4 (some .int) :: w0r) (rRm 1 21) (rPc dC dI h0 ad cI cJ cB cZ F ar sz [Iz (a)]) (rQi dC dI h0 ad cI cJ cB cZ sz (fun z F' ar' => F' = F ∧ ar' = ar ∧ 0 ≤ z ∧ z ≤ 31 * nsz (ar 1) a)) 0 0 (rA h0 ad sz) := by
  refine Met.ofW (cc := cX12_bits) (maxL := 4) (ret := (some .int)) (by decide) rfl ?_
  intro p e s m args below meth c s₁ B hml hv
  obtain ⟨rfl, hsz, hP, hK, hD0⟩ := hv
  have hx := B.exec
  have hb := B.bytes
  have hr := B.returns
  have hts := atoms_spec (ws := Cond.code yX12_bits cX12_bits 4 (some .int) :: w0r) B.pre
  have hown : s.vm.findClass RX12 = some m.cls := findClass_of_methodNamed B.named
  have hlocks := B.notSynchronized
  have E : CallFix p m c cX12_bits 4 s _ (Cond.code yX12_bits cX12_bits 4 (some .int) :: w0r) RX12 := ⟨hx, hb, hml, hown, hts⟩
  subst hsz
  have hD := rA_self s.heap.size hD0
  have hA : ∀ q : Nat, s.heap.size ≤ q → rA h0 ad s.heap.size q := fun q h => Or.inr h
  have hS : va_S (rA h0 ad s.heap.size) s.heap s.heap [] := va_S.rf
  have hl := lv_entry ([.ref h0, Iz (a)]) (n := 4) (Nat.le_of_ble_eq_true rfl)
  rw [lg_entry_eq]
  generalize (lg_sl ([.ref h0, Iz (a)]) ++ List.replicate (4 - (lg_sl ([.ref h0, Iz (a)])).length) Slot.unset).toArray = ls at hl ⊢
  have hl : lv_has ls 4 [(0, .ref h0), (1, Iz (a))] := hl
  have s0 := nsz_nonneg (ar 1) a
  have s1 := nsz_lt hk a
  refine lv_aload_n hx hb dX12_bits_0 rfl (lv_at hl 0 rfl) ?_
  refine lv_iload_n hx hb dX12_bits_1 rfl (lv_at hl 1 rfl) ?_
  refine r_calli (As := [Iz (a)]) (rest := []) E (c_size (F := F) (ar := ar) (a := a) b0 (by omega) hk) (cwV 1 hts (rGood ml_20 mi_size ms_size mn_RX12 mc_size) rfl rfl rfl (by decide +kernel) ⟨Nat.le_of_ble_eq_true rfl, Nat.le_of_ble_eq_true rfl⟩) hK hP hD hS hA rfl hl.1 (Nat.le_of_ble_eq_true rfl) dX12_bits_2 ⟨Nat.le_refl 0, Nat.le_refl 0⟩ (fun z2 F2 ar2 H locs q2 hP hD hS => ?_)
  obtain ⟨e1_, e2_, e3_⟩ := q2
  obtain rfl := e1_.symm
  obtain rfl := e2_.symm
  obtain rfl := e3_.symm
  refine lv_istore_n (lv' := [(2, Iz (nsz (ar 1) a)), (0, .ref h0), (1, Iz (a))]) hx hb dX12_bits_5 rfl hl (by decide) rfl (fun ls hl => ?_)
  refine lv_iload_n hx hb dX12_bits_6 rfl (lv_at hl 0 rfl) ?_
  refine g_if_ne (tgt := 12) hx hb ⟨by omega, by omega⟩ dX12_bits_7 (by decide) (fun c_7 => ?_) (fun c_7 => ?_)
  · skip
    refine lv_iconst (v := Int32.ofInt (0)) hx hb dX12_bits_12 (by decide) ?_
    refine lv_istore_n (lv' := [(3, Iz (0)), (2, Iz (nsz (ar 1) a)), (0, .ref h0), (1, Iz (a))]) hx hb dX12_bits_13 rfl hl (by decide) rfl (fun ls hl => ?_)
    refine r_loop (P := fun N_ H locs ls => ∃ (b : Int), N_ = (31 - b).toNat ∧ (0 ≤ b) ∧ (b ≤ 31) ∧ va_P (dC, dI) rcl (mW h0 ad cI cJ cB cZ F ar) H ∧ va_D (rA h0 ad s.heap.size) (mW h0 ad cI cJ cB cZ F ar) ∧ va_S (rA h0 ad s.heap.size) s.heap H locs ∧ lv_has ls 4 [(0, .ref h0), (1, Iz (a)), (2, Iz (nsz (ar 1) a)), (3, Iz (b))]) (g := fun ls => F0 m 14 ls []) (fun N_ H locs ls hI ih_14 => ?_) _ _ _ _ ⟨0, rfl, (Int.le_refl 0), (by omega), hP, hD, hS, lv_sub hl [2, 3, 1, 0] rfl⟩
    obtain ⟨b, rfl, c0, c1, hP, hD, hS, hl⟩ := hI
    refine lv_iload_n hx hb dX12_bits_14 rfl (lv_at hl 3 rfl) ?_
    refine lv_bipush (v := Int32.ofInt (31)) hx hb dX12_bits_15 (by decide) ?_
    refine g_icmp_ge (tgt := 39) hx hb ⟨by omega, by omega⟩ ⟨by omega, by omega⟩ dX12_bits_17 (by decide) (fun c_17 => ?_) (fun c_17 => ?_)
    · skip
      refine lv_bipush (v := Int32.ofInt (31)) hx hb dX12_bits_39 (by decide) ?_
      refine lv_iload_n hx hb dX12_bits_41 rfl (lv_at hl 2 rfl) ?_
      refine lv_iconst (v := Int32.ofInt (1)) hx hb dX12_bits_42 (by decide) ?_
      refine g_isub hx hb dX12_bits_43 ?_
      refine g_imul hx hb dX12_bits_44 ?_
      refine lv_iload_n hx hb dX12_bits_45 rfl (lv_at hl 3 rfl) ?_
      refine g_iadd hx hb dX12_bits_46 ?_
      have hpost : F = F ∧ ar = ar ∧ 0 ≤ ((31 * ((nsz (ar 1) a) - 1)) + b : Int) ∧ ((31 * ((nsz (ar 1) a) - 1)) + b : Int) ≤ 31 * nsz (ar 1) a := ⟨rfl, rfl, by omega, by omega⟩
      exact W.iret (v := Int32.ofInt ((31 * ((nsz (ar 1) a) - 1)) + b)) hx hb hr (fun t ht hW => ⟨⟨_, (F, ar), rfl, ⟨_, rfl, hpost⟩, by rw [ht]; exact hP, va_K.moved hW.alike hK, hD⟩, hS.F ht⟩) hS.2.2 dX12_bits_47
    · skip
      refine lv_aload_n hx hb dX12_bits_20 rfl (lv_at hl 0 rfl) ?_
      refine r_geti E hK hP (k := 1) (v := .ref (ad 1)) (by decide) mf_7 rfl rfl dX12_bits_21 ?_
      refine lv_iload_n hx hb dX12_bits_24 rfl (lv_at hl 1 rfl) ?_
      refine lv_iload_n hx hb dX12_bits_25 rfl (lv_at hl 2 rfl) ?_
      refine g_iadd hx hb dX12_bits_26 ?_
      refine g_iald (f := (ar 1)) hx hb hK hP 1 0 rfl rfl (by omega) (by omega) (by decide) dX12_bits_27 ?_
      refine lv_iload_n hx hb dX12_bits_28 rfl (lv_at hl 3 rfl) ?_
      refine g_ishr_any hx hb dX12_bits_29 (fun w_29 hw_29 => ?_)
      refine g_if_eq (tgt := 39) hx hb hw_29 dX12_bits_30 (by decide) (fun c_30 => ?_) (fun c_30 => ?_)
      · skip
        refine lv_bipush (v := Int32.ofInt (31)) hx hb dX12_bits_39 (by decide) ?_
        refine lv_iload_n hx hb dX12_bits_41 rfl (lv_at hl 2 rfl) ?_
        refine lv_iconst (v := Int32.ofInt (1)) hx hb dX12_bits_42 (by decide) ?_
        refine g_isub hx hb dX12_bits_43 ?_
        refine g_imul hx hb dX12_bits_44 ?_
        refine lv_iload_n hx hb dX12_bits_45 rfl (lv_at hl 3 rfl) ?_
        refine g_iadd hx hb dX12_bits_46 ?_
        have hpost : F = F ∧ ar = ar ∧ 0 ≤ ((31 * ((nsz (ar 1) a) - 1)) + b : Int) ∧ ((31 * ((nsz (ar 1) a) - 1)) + b : Int) ≤ 31 * nsz (ar 1) a := ⟨rfl, rfl, by omega, by omega⟩
        exact W.iret (v := Int32.ofInt ((31 * ((nsz (ar 1) a) - 1)) + b)) hx hb hr (fun t ht hW => ⟨⟨_, (F, ar), rfl, ⟨_, rfl, hpost⟩, by rw [ht]; exact hP, va_K.moved hW.alike hK, hD⟩, hS.F ht⟩) hS.2.2 dX12_bits_47
      · skip
        refine g_iinc (k := 3) (z := b) (n := (1)) (lv' := [(3, Iz (b + 1)), (0, .ref h0), (1, Iz (a)), (2, Iz (nsz (ar 1) a))]) hx hb dX12_bits_33 hl rfl (by decide) rfl (fun ls hl => ?_)
        refine lv_goto (tgt := 14) hx hb dX12_bits_36 (by decide) ?_
        exact ih_14 _ (by omega) _ _ _ ⟨(b + 1), rfl, (by omega), (by omega), hP, hD, hS, lv_sub hl [1, 2, 3, 0] rfl⟩
  · skip
    refine lv_iconst (v := Int32.ofInt (0)) hx hb dX12_bits_10 (by decide) ?_
    have hpost : F = F ∧ ar = ar ∧ 0 ≤ (0 : Int) ∧ (0 : Int) ≤ 31 * nsz (ar 1) a := ⟨rfl, rfl, by omega, by omega⟩
    exact W.iret (v := Int32.ofInt (0)) hx hb hr (fun t ht hW => ⟨⟨_, (F, ar), rfl, ⟨_, rfl, hpost⟩, by rw [ht]; exact hP, va_K.moved hW.alike hK, hD⟩, hS.F ht⟩) hS.2.2 dX12_bits_11
