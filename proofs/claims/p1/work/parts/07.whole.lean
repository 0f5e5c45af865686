set_option maxHeartbeats 4000000 in
set_option maxRecDepth 100000 in
theorem c_whole {l : Launch} {dC : Nat → ClassId} {dI : Nat → Nat → Nat} {h0 : Nat} {ad : Nat → Nat} {cI cJ cB cZ : Nat} {F : Nat → Int} {ar : Nat → Int → Int} {sz : Nat} {v : Int} (t0 : 0 ≤ F 2) (t1 : F 2 + 4 < 6000000) (hk : hok (ar 1)) (v0 : -9223372036854775808 ≤ v) (v1 : v < 9223372036854775808) : Met l yX12_whole (Cond.code yX12_whole cX12_whole 6 (some .int) :: w0r) (rRm 1 24) (rPc dC dI h0 ad cI cJ cB cZ F ar sz [Jz (v)]) (rQi dC dI h0 ad cI cJ cB cZ sz (fun z F' ar' => z = F 2 ∧ nK F F' ar ar' ∧ nm (ar' 1) z ∧ F' 2 = z + 1 + nsz (ar' 1) z ∧ nsz (ar' 1) z ≤ 3 ∧ (nsz (ar' 1) z = 0 → v = 0) ∧ nv (ar' 1) z = (if v < 0 then 0 - v else v))) 0 0 (rA h0 ad sz) := by
  refine Met.ofW (cc := cX12_whole) (maxL := 6) (ret := (some .int)) (by decide) rfl ?_
  intro p e s m args below meth c s₁ B hml hv
  obtain ⟨rfl, hsz, hP, hK, hD0⟩ := hv
  have hx := B.exec
  have hb := B.bytes
  have hr := B.returns
  have hts := atoms_spec (ws := Cond.code yX12_whole cX12_whole 6 (some .int) :: w0r) B.pre
  have hown : s.vm.findClass RX12 = some m.cls := findClass_of_methodNamed B.named
  have hlocks := B.notSynchronized
  have E : CallFix p m c cX12_whole 6 s _ (Cond.code yX12_whole cX12_whole 6 (some .int) :: w0r) RX12 := ⟨hx, hb, hml, hown, hts⟩
  subst hsz
  have hD := rA_self s.heap.size hD0
  have hA : ∀ q : Nat, s.heap.size ≤ q → rA h0 ad s.heap.size q := fun q h => Or.inr h
  have hS : va_S (rA h0 ad s.heap.size) s.heap s.heap [] := va_S.rf
  have hl := lv_entry ([.ref h0, Jz (v)]) (n := 6) (Nat.le_of_ble_eq_true rfl)
  rw [lg_entry_eq]
  generalize (lg_sl ([.ref h0, Jz (v)]) ++ List.replicate (6 - (lg_sl ([.ref h0, Jz (v)])).length) Slot.unset).toArray = ls at hl ⊢
  have hl : lv_has ls 6 [(0, .ref h0), (1, Jz (v))] := hl
  refine lv_aload_n hx hb dX12_whole_0 rfl (lv_at hl 0 rfl) ?_
  refine r_geti E hK hP (k := 2) (v := Iz (F 2)) (by decide) mf_11 rfl rfl dX12_whole_1 ?_
  refine lv_istore_n (lv' := [(3, Iz (F 2)), (0, .ref h0), (1, Jz (v))]) hx hb dX12_whole_4 rfl hl (by decide) rfl (fun ls hl => ?_)
  refine lv_lload_n hx hb dX12_whole_5 rfl (lv_at hl 2 rfl) ?_
  refine lv_lconst (v := Int64.ofInt 0) hx hb dX12_whole_6 rfl ?_
  refine g_lcmp hx hb ⟨by omega, by omega⟩ ⟨by omega, by omega⟩ dX12_whole_7 ?_
  refine r_join (P := fun z : Int => 0 ≤ z ∧ z < 18446744073709551616 ∧ z = (if v < 0 then 0 - v else v)) (g := fun z => F0 m 18 ls [Jz z]) (fun w hw => ?_) (fun k_18 => ?_)
  · skip
    obtain ⟨w0, w1, w2⟩ := hw
    refine lv_lstore (lv' := [(4, Jz (w)), (3, Iz (F 2)), (0, .ref h0), (1, Jz (v))]) hx hb dX12_whole_18 hl (by decide) rfl (fun ls hl => ?_)
    refine lv_aload_n hx hb dX12_whole_20 rfl (lv_at hl 2 rfl) ?_
    refine r_geti E hK hP (k := 1) (v := .ref (ad 1)) (by decide) mf_7 rfl rfl dX12_whole_21 ?_
    refine lv_iload_n hx hb dX12_whole_24 rfl (lv_at hl 1 rfl) ?_
    refine lv_iconst (v := Int32.ofInt (1)) hx hb dX12_whole_25 (by decide) ?_
    refine g_iadd hx hb dX12_whole_26 ?_
    refine lv_lload hx hb dX12_whole_27 (lv_at hl 0 rfl) ?_
    refine lv_ldc2 (v := Int64.ofInt (2147483647)) hx hb hown (hts _ (List.mem_cons_of_mem _ mj_14)) dX12_whole_29 ?_
    refine g_landM hx hb dX12_whole_32 ?_
    refine g_l2i hx hb dX12_whole_33 ?_
    refine g_iast (f := (ar 1)) hx hb hK hP hD hS 1 0 rfl rfl (by omega) (by omega) (by decide) dX12_whole_34 (fun H locs hP hD hS => ?_)
    rw [sa_1] at hP hD
    refine lv_aload_n hx hb dX12_whole_35 rfl (lv_at hl 2 rfl) ?_
    refine r_geti E hK hP (k := 1) (v := .ref (ad 1)) (by decide) mf_7 rfl rfl dX12_whole_36 ?_
    refine lv_iload_n hx hb dX12_whole_39 rfl (lv_at hl 1 rfl) ?_
    refine lv_iconst (v := Int32.ofInt (2)) hx hb dX12_whole_40 (by decide) ?_
    refine g_iadd hx hb dX12_whole_41 ?_
    refine lv_lload hx hb dX12_whole_42 (lv_at hl 0 rfl) ?_
    refine lv_bipush (v := Int32.ofInt (31)) hx hb dX12_whole_44 (by decide) ?_
    refine g_lushr hx hb (by omega) (by omega) (by omega) (by omega) dX12_whole_46 ?_
    rw [show (2 : Int) ^ (31 : Int).toNat = 2147483648 from rfl]
    refine lv_ldc2 (v := Int64.ofInt (2147483647)) hx hb hown (hts _ (List.mem_cons_of_mem _ mj_14)) dX12_whole_47 ?_
    refine g_landM hx hb dX12_whole_50 ?_
    refine g_l2i hx hb dX12_whole_51 ?_
    refine g_iast (f := (iup (ar 1) ((F 2) + 1) (w % 2147483648))) hx hb hK hP hD hS 1 0 rfl rfl (by omega) (by omega) (by decide) dX12_whole_52 (fun H locs hP hD hS => ?_)
    rw [sa_1] at hP hD
    refine lv_aload_n hx hb dX12_whole_53 rfl (lv_at hl 2 rfl) ?_
    refine r_geti E hK hP (k := 1) (v := .ref (ad 1)) (by decide) mf_7 rfl rfl dX12_whole_54 ?_
    refine lv_iload_n hx hb dX12_whole_57 rfl (lv_at hl 1 rfl) ?_
    refine lv_iconst (v := Int32.ofInt (3)) hx hb dX12_whole_58 (by decide) ?_
    refine g_iadd hx hb dX12_whole_59 ?_
    refine lv_lload hx hb dX12_whole_60 (lv_at hl 0 rfl) ?_
    refine lv_bipush (v := Int32.ofInt (62)) hx hb dX12_whole_62 (by decide) ?_
    refine g_lushr hx hb (by omega) (by omega) (by omega) (by omega) dX12_whole_64 ?_
    rw [show (2 : Int) ^ (62 : Int).toNat = 4611686018427387904 from rfl]
    refine g_l2i hx hb dX12_whole_65 ?_
    refine g_iast (f := (iup (iup (ar 1) ((F 2) + 1) (w % 2147483648)) ((F 2) + 2) ((w / 2147483648) % 2147483648))) hx hb hK hP hD hS 1 0 rfl rfl (by omega) (by omega) (by decide) dX12_whole_66 (fun H locs hP hD hS => ?_)
    rw [sa_1] at hP hD
    refine lv_aload_n hx hb dX12_whole_67 rfl (lv_at hl 2 rfl) ?_
    refine lv_iload_n hx hb dX12_whole_68 rfl (lv_at hl 1 rfl) ?_
    refine lv_iconst (v := Int32.ofInt (3)) hx hb dX12_whole_69 (by decide) ?_
    refine lv_lload_n hx hb dX12_whole_70 rfl (lv_at hl 3 rfl) ?_
    refine lv_lconst (v := Int64.ofInt 0) hx hb dX12_whole_71 rfl ?_
    refine g_lcmp hx hb ⟨by omega, by omega⟩ ⟨by omega, by omega⟩ dX12_whole_72 ?_
    refine r_join (P := fun z : Int => z = 0 ∨ z = 1) (g := fun z => F0 m 81 ls [Iz z, Iz (3), Iz (F 2), .ref h0]) (fun mi hmi => ?_) (fun k_81 => ?_)
    · skip
      obtain ⟨h3, hh3⟩ : ∃ h3, h3 = (iup (iup (iup (ar 1) ((F 2) + 1) (w % 2147483648)) ((F 2) + 2) ((w / 2147483648) % 2147483648)) ((F 2) + 3) (w / 4611686018427387904)) := ⟨_, rfl⟩
      have e1 : h3 (F 2 + 1) = w % 2147483648 := (by rw [hh3, iup_ne (by omega), iup_ne (by omega), iup_self])
      have e2 : h3 (F 2 + 2) = (w / 2147483648) % 2147483648 := (by rw [hh3, iup_ne (by omega), iup_self])
      have e3 : h3 (F 2 + 3) = w / 4611686018427387904 := (by rw [hh3, iup_self])
      have hok3 : hok (iup (iup (iup (ar 1) ((F 2) + 1) (w % 2147483648)) ((F 2) + 2) ((w / 2147483648) % 2147483648)) ((F 2) + 3) (w / 4611686018427387904)) := hok_up (hok_up (hok_up hk (by omega) (by omega)) (by omega) (by omega)) (by omega) (by omega)
      have hd3 : ∀ i : Int, 1 ≤ i → i ≤ 3 → 0 ≤ h3 (F 2 + i) := by
        intro i a b
        rcases (show i = 1 ∨ i = 2 ∨ i = 3 by omega) with rfl | rfl | rfl
        · rw [e1]; omega
        · rw [e2]; omega
        · rw [e3]; omega
      refine r_calli (As := [Iz (F 2), Iz (3), Iz (mi)]) (rest := []) E (c_shut (F := F) (ar := (aup (aup (aup ar 1 (iup (ar 1) ((F 2) + 1) (w % 2147483648))) 1 (iup (iup (ar 1) ((F 2) + 1) (w % 2147483648)) ((F 2) + 2) ((w / 2147483648) % 2147483648))) 1 (iup (iup (iup (ar 1) ((F 2) + 1) (w % 2147483648)) ((F 2) + 2) ((w / 2147483648) % 2147483648)) ((F 2) + 3) (w / 4611686018427387904)))) (a := F 2) (n := 3) (mi := mi) t0 (by omega) (by omega) hok3 hmi) (cwV 3 hts (rGood ml_16 mi_shut ms_shut mn_RX12 mc_shut) rfl rfl rfl (by decide +kernel) ⟨Nat.le_of_ble_eq_true rfl, Nat.le_of_ble_eq_true rfl⟩) hK hP hD hS hA rfl hl.1 (Nat.le_of_ble_eq_true rfl) dX12_whole_81 ⟨Nat.le_refl 0, Nat.le_refl 0⟩ (fun z9 F9 ar9 H locs q9 hP hD hS => ?_)
      obtain ⟨k, k0, k1, kt, kz, rfl, rfl, rfl⟩ := q9
      have kz3 : ∀ i : Int, k < i → i ≤ 3 → h3 (F 2 + i) = 0 := fun i a b => by rw [hh3]; exact kz i a b
      have sf := shut_facts (h := h3) (a := F 2) (n := 3) (mi := mi) k0 k1 (fun q => by rw [hh3]; exact kt q) kz3 hd3
      rw [hh3] at sf
      have z1 := kz3 1
      have z2 := kz3 2
      have z3 := kz3 3
      rw [e1] at z1
      rw [e2] at z2
      rw [e3] at z3
      have ev : kn_v (fun i => h3 (F 2 + 1 + i)) (3 : Int).toNat = w := by show (0 + h3 (F 2 + 1 + 0) * 1) + h3 (F 2 + 1 + 1) * 2147483648 + h3 (F 2 + 1 + 2) * 4611686018427387904 = w; rw [show F 2 + 1 + 0 = F 2 + 1 by omega, show F 2 + 1 + 1 = F 2 + 2 by omega, show F 2 + 1 + 2 = F 2 + 3 by omega, e1, e2, e3]; omega
      have hmi2 : -2147483648 < (if mi = 0 then k else 0 - k) ∧ (if mi = 0 then k else 0 - k) < 2147483648 := by split <;> omega
      have hpost : (F 2) = F 2 ∧ nK F (fup F 2 (F 2 + 1 + k)) ar (aup (aup (aup (aup ar 1 (iup (ar 1) ((F 2) + 1) (w % 2147483648))) 1 (iup (iup (ar 1) ((F 2) + 1) (w % 2147483648)) ((F 2) + 2) ((w / 2147483648) % 2147483648))) 1 (iup (iup (iup (ar 1) ((F 2) + 1) (w % 2147483648)) ((F 2) + 2) ((w / 2147483648) % 2147483648)) ((F 2) + 3) (w / 4611686018427387904))) 1 (iup (iup (iup (iup (ar 1) ((F 2) + 1) (w % 2147483648)) ((F 2) + 2) ((w / 2147483648) % 2147483648)) ((F 2) + 3) (w / 4611686018427387904)) (F 2) (if mi = 0 then k else 0 - k))) ∧ nm ((aup (aup (aup (aup ar 1 (iup (ar 1) ((F 2) + 1) (w % 2147483648))) 1 (iup (iup (ar 1) ((F 2) + 1) (w % 2147483648)) ((F 2) + 2) ((w / 2147483648) % 2147483648))) 1 (iup (iup (iup (ar 1) ((F 2) + 1) (w % 2147483648)) ((F 2) + 2) ((w / 2147483648) % 2147483648)) ((F 2) + 3) (w / 4611686018427387904))) 1 (iup (iup (iup (iup (ar 1) ((F 2) + 1) (w % 2147483648)) ((F 2) + 2) ((w / 2147483648) % 2147483648)) ((F 2) + 3) (w / 4611686018427387904)) (F 2) (if mi = 0 then k else 0 - k))) 1) (F 2) ∧ (fup F 2 (F 2 + 1 + k)) 2 = (F 2) + 1 + nsz ((aup (aup (aup (aup ar 1 (iup (ar 1) ((F 2) + 1) (w % 2147483648))) 1 (iup (iup (ar 1) ((F 2) + 1) (w % 2147483648)) ((F 2) + 2) ((w / 2147483648) % 2147483648))) 1 (iup (iup (iup (ar 1) ((F 2) + 1) (w % 2147483648)) ((F 2) + 2) ((w / 2147483648) % 2147483648)) ((F 2) + 3) (w / 4611686018427387904))) 1 (iup (iup (iup (iup (ar 1) ((F 2) + 1) (w % 2147483648)) ((F 2) + 2) ((w / 2147483648) % 2147483648)) ((F 2) + 3) (w / 4611686018427387904)) (F 2) (if mi = 0 then k else 0 - k))) 1) (F 2) ∧ nsz ((aup (aup (aup (aup ar 1 (iup (ar 1) ((F 2) + 1) (w % 2147483648))) 1 (iup (iup (ar 1) ((F 2) + 1) (w % 2147483648)) ((F 2) + 2) ((w / 2147483648) % 2147483648))) 1 (iup (iup (iup (ar 1) ((F 2) + 1) (w % 2147483648)) ((F 2) + 2) ((w / 2147483648) % 2147483648)) ((F 2) + 3) (w / 4611686018427387904))) 1 (iup (iup (iup (iup (ar 1) ((F 2) + 1) (w % 2147483648)) ((F 2) + 2) ((w / 2147483648) % 2147483648)) ((F 2) + 3) (w / 4611686018427387904)) (F 2) (if mi = 0 then k else 0 - k))) 1) (F 2) ≤ 3 ∧ (nsz ((aup (aup (aup (aup ar 1 (iup (ar 1) ((F 2) + 1) (w % 2147483648))) 1 (iup (iup (ar 1) ((F 2) + 1) (w % 2147483648)) ((F 2) + 2) ((w / 2147483648) % 2147483648))) 1 (iup (iup (iup (ar 1) ((F 2) + 1) (w % 2147483648)) ((F 2) + 2) ((w / 2147483648) % 2147483648)) ((F 2) + 3) (w / 4611686018427387904))) 1 (iup (iup (iup (iup (ar 1) ((F 2) + 1) (w % 2147483648)) ((F 2) + 2) ((w / 2147483648) % 2147483648)) ((F 2) + 3) (w / 4611686018427387904)) (F 2) (if mi = 0 then k else 0 - k))) 1) (F 2) = 0 → v = 0) ∧ nv ((aup (aup (aup (aup ar 1 (iup (ar 1) ((F 2) + 1) (w % 2147483648))) 1 (iup (iup (ar 1) ((F 2) + 1) (w % 2147483648)) ((F 2) + 2) ((w / 2147483648) % 2147483648))) 1 (iup (iup (iup (ar 1) ((F 2) + 1) (w % 2147483648)) ((F 2) + 2) ((w / 2147483648) % 2147483648)) ((F 2) + 3) (w / 4611686018427387904))) 1 (iup (iup (iup (iup (ar 1) ((F 2) + 1) (w % 2147483648)) ((F 2) + 2) ((w / 2147483648) % 2147483648)) ((F 2) + 3) (w / 4611686018427387904)) (F 2) (if mi = 0 then k else 0 - k))) 1) (F 2) = (if v < 0 then 0 - v else v) := ⟨rfl, ⟨fun j hj => fup_ne _ _ hj, fun j hj => by rw [aup_ne _ _ hj, aup_ne _ _ hj, aup_ne _ _ hj, aup_ne _ _ hj], fun i hi => by show iup _ _ _ i = _; rw [iup_ne (by omega), iup_ne (by omega), iup_ne (by omega), iup_ne (by omega)], hok_up hok3 hmi2.1 hmi2.2⟩, sf.2.1, (by have e := sf.1; show F 2 + 1 + k = _; exact congrArg (fun q => F 2 + 1 + q) e.symm), Int.le_trans (Int.le_of_eq sf.1) k1, fun q => by have q2 : k = 0 := sf.1.symm.trans q; split at w2 <;> omega, by have e := sf.2.2; rw [← hh3] at e; rw [← hh3]; exact (e.trans ev).trans w2⟩
      exact W.iret (v := Int32.ofInt (F 2)) hx hb hr (fun t ht hW => ⟨⟨_, ((fup F 2 (F 2 + 1 + k)), (aup (aup (aup (aup ar 1 (iup (ar 1) ((F 2) + 1) (w % 2147483648))) 1 (iup (iup (ar 1) ((F 2) + 1) (w % 2147483648)) ((F 2) + 2) ((w / 2147483648) % 2147483648))) 1 (iup (iup (iup (ar 1) ((F 2) + 1) (w % 2147483648)) ((F 2) + 2) ((w / 2147483648) % 2147483648)) ((F 2) + 3) (w / 4611686018427387904))) 1 (iup (iup (iup (iup (ar 1) ((F 2) + 1) (w % 2147483648)) ((F 2) + 2) ((w / 2147483648) % 2147483648)) ((F 2) + 3) (w / 4611686018427387904)) (F 2) (if mi = 0 then k else 0 - k)))), rfl, ⟨_, rfl, hpost⟩, by rw [ht]; exact hP, va_K.moved hW.alike hK, hD⟩, hS.F ht⟩) hS.2.2 dX12_whole_84
    · skip
      refine g_if_ge (tgt := 80) hx hb (g_cmp_i _ _) dX12_whole_73 (by decide) (fun c_73 => ?_) (fun c_73 => ?_)
      · skip
        refine lv_iconst (v := Int32.ofInt (0)) hx hb dX12_whole_80 (by decide) ?_
        exact k_81 _ (by omega)
      · skip
        refine lv_iconst (v := Int32.ofInt (1)) hx hb dX12_whole_76 (by decide) ?_
        refine lv_goto (tgt := 81) hx hb dX12_whole_77 (by decide) ?_
        exact k_81 _ (by omega)
  · skip
    refine g_if_ge (tgt := 17) hx hb (g_cmp_i _ _) dX12_whole_8 (by decide) (fun c_8 => ?_) (fun c_8 => ?_)
    · skip
      refine lv_lload_n hx hb dX12_whole_17 rfl (lv_at hl 2 rfl) ?_
      exact k_18 _ (by first | exact ⟨by have := mt g_cmp_lt.mpr (Int.not_lt.mpr c_8); omega, by omega, by have := mt g_cmp_lt.mpr (Int.not_lt.mpr c_8); rw [if_neg this]⟩ | exact ⟨by have := g_cmp_lt.mp c_8; omega, by have := g_cmp_lt.mp c_8; omega, by rw [if_pos (g_cmp_lt.mp c_8)]⟩)
    · skip
      refine lv_lconst (v := Int64.ofInt 0) hx hb dX12_whole_11 rfl ?_
      refine lv_lload_n hx hb dX12_whole_12 rfl (lv_at hl 2 rfl) ?_
      refine g_lsub hx hb dX12_whole_13 ?_
      refine lv_goto (tgt := 18) hx hb dX12_whole_14 (by decide) ?_
      exact k_18 _ (by first | exact ⟨by have := mt g_cmp_lt.mpr (Int.not_lt.mpr c_8); omega, by omega, by have := mt g_cmp_lt.mpr (Int.not_lt.mpr c_8); rw [if_neg this]⟩ | exact ⟨by have := g_cmp_lt.mp c_8; omega, by have := g_cmp_lt.mp c_8; omega, by rw [if_pos (g_cmp_lt.mp c_8)]⟩)
