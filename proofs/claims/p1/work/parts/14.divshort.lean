set_option maxHeartbeats 4000000 in
set_option maxRecDepth 100000 in
theorem c_divideShort {l : Launch} {dC : Nat → ClassId} {dI : Nat → Nat → Nat} {h0 : Nat} {ad : Nat → Nat} {cI cJ cB cZ : Nat} {F : Nat → Int} {ar : Nat → Int → Int} {sz : Nat} {a b : Int} (t0 : 0 ≤ F 2) (a0 : 0 ≤ a) (a1 : a + nsz (ar 1) a < F 2) (b0 : 0 ≤ b) (b1 : b + nsz (ar 1) b < F 2) (t1 : F 2 + nsz (ar 1) a + 8 < 6000000) (hk : hok (ar 1)) (na : nm (ar 1) a) (nb : nm (ar 1) b) (hb1 : nsz (ar 1) b = 1) : Met l yX12_divideShort (Cond.code yX12_divideShort cX12_divideShort 12 none :: w0r) (rRm 2 49) (rPc dC dI h0 ad cI cJ cB cZ F ar sz [Iz (a), Iz (b)]) (rQv dC dI h0 ad cI cJ cB cZ sz (fun F' ar' => dvP F F' ar ar' a b (nsz (ar 1) a + 6))) 0 0 (rA h0 ad sz) := by
  refine Met.ofW (cc := cX12_divideShort) (maxL := 12) (ret := none) (by decide) rfl ?_
  intro p e s m args below meth c s₁ B hml hv
  obtain ⟨rfl, hsz, hP, hK, hD0⟩ := hv
  have hx := B.exec
  have hb := B.bytes
  have hr := B.returns
  have hts := atoms_spec (ws := Cond.code yX12_divideShort cX12_divideShort 12 none :: w0r) B.pre
  have hown : s.vm.findClass RX12 = some m.cls := findClass_of_methodNamed B.named
  have hlocks := B.notSynchronized
  have E : CallFix p m c cX12_divideShort 12 s _ (Cond.code yX12_divideShort cX12_divideShort 12 none :: w0r) RX12 := ⟨hx, hb, hml, hown, hts⟩
  subst hsz
  have hD := rA_self s.heap.size hD0
  have hA : ∀ q : Nat, s.heap.size ≤ q → rA h0 ad s.heap.size q := fun q h => Or.inr h
  have hS : va_S (rA h0 ad s.heap.size) s.heap s.heap [] := va_S.rf
  have hl := lv_entry ([.ref h0, Iz (a), Iz (b)]) (n := 12) (Nat.le_of_ble_eq_true rfl)
  rw [lg_entry_eq]
  generalize (lg_sl ([.ref h0, Iz (a), Iz (b)]) ++ List.replicate (12 - (lg_sl ([.ref h0, Iz (a), Iz (b)])).length) Slot.unset).toArray = ls at hl ⊢
  have hl : lv_has ls 12 [(0, .ref h0), (1, Iz (a)), (2, Iz (b))] := hl
  have s0 := nsz_nonneg (ar 1) a
  have s1 := nsz_lt hk a
  have d1 : 1 ≤ ar 1 (b + 1) := by have q1 := nb.1 1 (by omega) (by omega); have q2 := nb.2 (by omega); rw [hb1] at q2; omega
  have d2 := (hk (b + 1)).2
  refine lv_aload_n hx hb dX12_divideShort_0 rfl (lv_at hl 0 rfl) ?_
  refine lv_iload_n hx hb dX12_divideShort_1 rfl (lv_at hl 1 rfl) ?_
  refine r_calli (As := [Iz (a)]) (rest := []) E (c_size (F := F) (ar := ar) (a := a) a0 (by omega) hk) (cwV 1 hts (rGood ml_20 mi_size ms_size mn_RX12 mc_size) rfl rfl rfl (by decide +kernel) ⟨Nat.le_of_ble_eq_true rfl, Nat.le_of_ble_eq_true rfl⟩) hK hP hD hS hA rfl hl.1 (Nat.le_of_ble_eq_true rfl) dX12_divideShort_2 ⟨Nat.le_refl 0, Nat.le_refl 0⟩ (fun z2 F2 ar2 H locs q2 hP hD hS => ?_)
  obtain ⟨e1_, e2_, e3_⟩ := q2
  obtain rfl := e1_.symm
  obtain rfl := e2_.symm
  obtain rfl := e3_.symm
  refine lv_istore_n (lv' := [(3, Iz (nsz (ar 1) a)), (0, .ref h0), (1, Iz (a)), (2, Iz (b))]) hx hb dX12_divideShort_5 rfl hl (by decide) rfl (fun ls hl => ?_)
  refine lv_aload_n hx hb dX12_divideShort_6 rfl (lv_at hl 1 rfl) ?_
  refine r_geti E hK hP (k := 2) (v := Iz (F 2)) (by decide) mf_11 rfl rfl dX12_divideShort_7 ?_
  refine lv_istore (lv' := [(4, Iz (F 2)), (3, Iz (nsz (ar 1) a)), (0, .ref h0), (1, Iz (a)), (2, Iz (b))]) hx hb dX12_divideShort_10 hl (by decide) rfl (fun ls hl => ?_)
  refine lv_lconst (v := Int64.ofInt 0) hx hb dX12_divideShort_12 rfl ?_
  refine lv_lstore (lv' := [(5, Jz (0)), (4, Iz (F 2)), (3, Iz (nsz (ar 1) a)), (0, .ref h0), (1, Iz (a)), (2, Iz (b))]) hx hb dX12_divideShort_13 hl (by decide) rfl (fun ls hl => ?_)
  refine lv_aload_n hx hb dX12_divideShort_15 rfl (lv_at hl 3 rfl) ?_
  refine r_geti E hK hP (k := 1) (v := .ref (ad 1)) (by decide) mf_7 rfl rfl dX12_divideShort_16 ?_
  refine lv_iload_n hx hb dX12_divideShort_19 rfl (lv_at hl 5 rfl) ?_
  refine lv_iconst (v := Int32.ofInt (1)) hx hb dX12_divideShort_20 (by decide) ?_
  refine g_iadd hx hb dX12_divideShort_21 ?_
  refine g_iald (f := (ar 1)) hx hb hK hP 1 0 rfl rfl (by omega) (by omega) (by decide) dX12_divideShort_22 ?_
  refine g_i2l hx hb (hok_i hk _) dX12_divideShort_23 ?_
  refine lv_lstore (lv' := [(7, Jz ((ar 1) (b + 1))), (5, Jz (0)), (4, Iz (F 2)), (3, Iz (nsz (ar 1) a)), (0, .ref h0), (1, Iz (a)), (2, Iz (b))]) hx hb dX12_divideShort_24 hl (by decide) rfl (fun ls hl => ?_)
  refine lv_iload_n hx hb dX12_divideShort_26 rfl (lv_at hl 3 rfl) ?_
  refine lv_istore (lv' := [(9, Iz (nsz (ar 1) a)), (7, Jz ((ar 1) (b + 1))), (5, Jz (0)), (4, Iz (F 2)), (3, Iz (nsz (ar 1) a)), (0, .ref h0), (1, Iz (a)), (2, Iz (b))]) hx hb dX12_divideShort_27 hl (by decide) rfl (fun ls hl => ?_)
  refine r_loop (P := fun N_ H locs ls => ∃ (ar1 : Nat → Int → Int) (i : Int) (r : Int), N_ = i.toNat ∧ (0 ≤ i) ∧ (i ≤ nsz (ar 1) a) ∧ (0 ≤ r) ∧ (r < ar 1 (b + 1)) ∧ (∀ j : Nat, j ≠ 1 → ar1 j = ar j) ∧ (∀ t : Int, t < F 2 → ar1 1 t = ar 1 t) ∧ (hok (ar1 1)) ∧ (∀ t : Int, i < t → t ≤ nsz (ar 1) a → 0 ≤ ar1 1 (F 2 + t)) ∧ va_P (dC, dI) rcl (mW h0 ad cI cJ cB cZ F ar1) H ∧ va_D (rA h0 ad s.heap.size) (mW h0 ad cI cJ cB cZ F ar1) ∧ va_S (rA h0 ad s.heap.size) s.heap H locs ∧ lv_has ls 12 [(0, .ref h0), (1, Iz (a)), (2, Iz (b)), (3, Iz (nsz (ar 1) a)), (4, Iz (F 2)), (5, Jz (r)), (7, Jz ((ar 1) (b + 1))), (9, Iz (i))]) (g := fun ls => F0 m 29 ls []) (fun N_ H locs ls hI ih_29 => ?_) _ _ _ _ ⟨ar, (nsz (ar 1) a), 0, rfl, (s0), (Int.le_refl _), (Int.le_refl 0), (by omega), (fun _ _ => rfl), (fun _ _ => rfl), (hk), (fun t a b => by omega), hP, hD, hS, lv_sub hl [5, 6, 7, 4, 3, 2, 1, 0] rfl⟩
  obtain ⟨ar1, i, r, rfl, i0, i1, r0, r1, q1, q2, q4, qd, hP, hD, hS, hl⟩ := hI
  refine lv_iload hx hb dX12_divideShort_29 (lv_at hl 7 rfl) ?_
  refine g_if_le (tgt := 81) hx hb ⟨by omega, by omega⟩ dX12_divideShort_31 (by decide) (fun c_31 => ?_) (fun c_31 => ?_)
  · skip
    refine lv_aload_n hx hb dX12_divideShort_81 rfl (lv_at hl 0 rfl) ?_
    refine lv_aload_n hx hb dX12_divideShort_82 rfl (lv_at hl 0 rfl) ?_
    refine lv_iload hx hb dX12_divideShort_83 (lv_at hl 4 rfl) ?_
    refine lv_iload_n hx hb dX12_divideShort_85 rfl (lv_at hl 3 rfl) ?_
    refine lv_aload_n hx hb dX12_divideShort_86 rfl (lv_at hl 0 rfl) ?_
    refine r_geti E hK hP (k := 1) (v := .ref (ad 1)) (by decide) mf_7 rfl rfl dX12_divideShort_87 ?_
    refine lv_iload_n hx hb dX12_divideShort_90 rfl (lv_at hl 1 rfl) ?_
    refine g_iald (f := (ar1 1)) hx hb hK hP 1 0 rfl rfl (by omega) (by omega) (by decide) dX12_divideShort_91 ?_
    refine r_join (P := fun z : Int => z = 0 ∨ z = 1) (g := fun z => F0 m 100 ls [Iz z, Iz (nsz (ar 1) a), Iz (F 2), .ref h0, .ref h0]) (fun m1 hm1 => ?_) (fun k_100 => ?_)
    · skip
      refine lv_aload_n hx hb dX12_divideShort_100 rfl (lv_at hl 0 rfl) ?_
      refine r_geti E hK hP (k := 1) (v := .ref (ad 1)) (by decide) mf_7 rfl rfl dX12_divideShort_101 ?_
      refine lv_iload_n hx hb dX12_divideShort_104 rfl (lv_at hl 2 rfl) ?_
      refine g_iald (f := (ar1 1)) hx hb hK hP 1 0 rfl rfl (by omega) (by omega) (by decide) dX12_divideShort_105 ?_
      refine r_join (P := fun z : Int => z = 0 ∨ z = 1) (g := fun z => F0 m 114 ls [Iz z, Iz (m1), Iz (nsz (ar 1) a), Iz (F 2), .ref h0, .ref h0]) (fun m2 hm2 => ?_) (fun k_114 => ?_)
      · skip
        refine r_join (P := fun z : Int => z = 0 ∨ z = 1) (g := fun z => F0 m 122 ls [Iz z, Iz (nsz (ar 1) a), Iz (F 2), .ref h0, .ref h0]) (fun mi hmi => ?_) (fun k_122 => ?_)
        · skip
          refine r_calli (As := [Iz (F 2), Iz (nsz (ar 1) a), Iz (mi)]) (rest := [.ref h0]) E (c_shut (F := F) (ar := ar1) (a := F 2) (n := nsz (ar 1) a) (mi := mi) t0 (by omega) (by omega) q4 hmi) (cwV 3 hts (rGood ml_16 mi_shut ms_shut mn_RX12 mc_shut) rfl rfl rfl (by decide +kernel) ⟨Nat.le_of_ble_eq_true rfl, Nat.le_of_ble_eq_true rfl⟩) hK hP hD hS hA rfl hl.1 (Nat.le_of_ble_eq_true rfl) dX12_divideShort_122 ⟨Nat.le_refl 0, Nat.le_refl 0⟩ (fun z9 F9 ar9 H locs q9 hP hD hS => ?_)
          obtain ⟨k, k0, k1, kt, kz, rfl, rfl, rfl⟩ := q9
          have sf := shut_facts (h := ar1 1) (a := F 2) (n := nsz (ar 1) a) (mi := mi) k0 k1 kt kz (fun t h1 h2 => qd t (by omega) h2)
          have hmi2 : -2147483648 < (if mi = 0 then k else 0 - k) ∧ (if mi = 0 then k else 0 - k) < 2147483648 := by split <;> omega
          have hokW : hok (iup (ar1 1) (F 2) (if mi = 0 then k else 0 - k)) := hok_up q4 hmi2.1 hmi2.2
          refine r_puti E hK hP hD hS 3 (by decide) mf_45 rfl rfl (by decide +kernel) (sp_3 h0 ad cI cJ cB cZ _ _) dX12_divideShort_125 (fun H locs hP hD hS => ?_)
          refine lv_aload_n hx hb dX12_divideShort_128 rfl (lv_at hl 0 rfl) ?_
          refine lv_aload_n hx hb dX12_divideShort_129 rfl (lv_at hl 0 rfl) ?_
          refine lv_aload_n hx hb dX12_divideShort_130 rfl (lv_at hl 0 rfl) ?_
          refine r_geti E hK hP (k := 1) (v := .ref (ad 1)) (by decide) mf_7 rfl rfl dX12_divideShort_131 ?_
          refine lv_iload_n hx hb dX12_divideShort_134 rfl (lv_at hl 1 rfl) ?_
          refine g_iald (f := (iup (ar1 1) (F 2) (if mi = 0 then k else 0 - k))) hx hb hK hP 1 0 rfl rfl (by omega) (by omega) (by decide) dX12_divideShort_135 ?_
          refine r_join (P := fun z : Int => z = r ∨ z = 0 - r) (g := fun z => F0 m 148 ls [Jz z, .ref h0, .ref h0]) (fun w hw => ?_) (fun k_148 => ?_)
          · skip
            refine r_calli (As := [Jz (w)]) (rest := [.ref h0]) E (c_whole (F := (fup (fup F 2 (F 2 + 1 + k)) 3 (F 2))) (ar := (aup ar1 1 (iup (ar1 1) (F 2) (if mi = 0 then k else 0 - k)))) (v := w) (show 0 ≤ F 2 + 1 + k by omega) (show F 2 + 1 + k + 4 < 6000000 by omega) hokW (by omega) (by omega)) (cwV 1 hts (rGood ml_41 mi_whole ms_whole mn_RX12 mc_whole) rfl rfl rfl (by decide +kernel) ⟨Nat.le_of_ble_eq_true rfl, Nat.le_of_ble_eq_true rfl⟩) hK hP hD hS hA rfl hl.1 (Nat.le_of_ble_eq_true rfl) dX12_divideShort_148 ⟨Nat.le_refl 0, Nat.le_refl 0⟩ (fun z8 F8 ar8 H locs q8 hP hD hS => ?_)
            obtain ⟨zz, n1, n2, n3, n4, n5, n6⟩ := q8
            obtain rfl : z8 = F 2 + 1 + k := zz
            refine r_puti E hK hP hD hS 4 (by decide) mf_48 rfl rfl (by decide +kernel) (sp_4 h0 ad cI cJ cB cZ _ _) dX12_divideShort_151 (fun H locs hP hD hS => ?_)
            have f3 : (fup F8 4 (F 2 + 1 + k)) 3 = F 2 := (fup_ne _ _ (by decide)).trans (n1.1 3 (by decide))
            have f4 : (fup F8 4 (F 2 + 1 + k)) 4 = F 2 + 1 + k := fup_self _ _ _
            have f2 : (fup F8 4 (F 2 + 1 + k)) 2 = F 2 + 1 + k + 1 + nsz (ar8 1) (F 2 + 1 + k) := (fup_ne _ _ (by decide)).trans n3
            have eq1 : nsz (ar8 1) (F 2) = k := (nsz_agree (n1.2.2.1 (F 2) (show F 2 < F 2 + 1 + k by omega))).trans sf.1
            have eq2 : nm (ar8 1) (F 2) := nm_agree (fun i h1 h2 => n1.2.2.1 i (show i < F 2 + 1 + k by have h3 : i ≤ F 2 + k := Int.le_trans h2 (Int.le_of_eq (congrArg (fun q => F 2 + q) sf.1)); omega)) sf.2.1
            have lv1 : nv (ar8 1) (F 2 + 1 + k) < nv (ar 1) b := by rw [n6, nv_one hb1]; split <;> omega
            have hpost : dvP F (fup F8 4 (F 2 + 1 + k)) ar ar8 a b (nsz (ar 1) a + 6) := ⟨fun j h2 h3 h4 => by rw [fup_ne _ _ h4, n1.1 j h2, fup_ne _ _ h3, fup_ne _ _ h2], fun j hj => (n1.2.1 j hj).trans (by rw [aup_ne _ _ hj]; exact q1 j hj), fun t ht => (n1.2.2.1 t (show t < F 2 + 1 + k by omega)).trans (by show iup _ _ _ t = _; rw [iup_ne (by omega)]; exact q2 t ht), n1.2.2.2, by rw [f3]; exact Int.le_refl _, by rw [f3]; exact eq2, by rw [f3, eq1]; exact k1, by rw [f3, f4, eq1]; omega, by rw [f4]; exact n2, by rw [f4, f2]; omega, by rw [f4]; exact lv1, by rw [f4]; exact nsz_le_of_nv n1.2.2.2 hk n2 nb lv1, by rw [f2]; omega⟩
            exact W.vret hx hb hr (fun t ht hW => ⟨⟨((fup F8 4 (F 2 + 1 + k)), ar8), rfl, hpost, by rw [ht]; exact hP, va_K.moved hW.alike hK, hD⟩, hS.F ht⟩) hS.2.2 dX12_divideShort_154
          · skip
            refine g_if_ge (tgt := 146) hx hb (hok_i hokW _) dX12_divideShort_136 (by decide) (fun c_136 => ?_) (fun c_136 => ?_)
            · skip
              refine lv_lload hx hb dX12_divideShort_146 (lv_at hl 5 rfl) ?_
              exact k_148 _ (by omega)
            · skip
              refine lv_lconst (v := Int64.ofInt 0) hx hb dX12_divideShort_139 rfl ?_
              refine lv_lload hx hb dX12_divideShort_140 (lv_at hl 5 rfl) ?_
              refine g_lsub hx hb dX12_divideShort_142 ?_
              refine lv_goto (tgt := 148) hx hb dX12_divideShort_143 (by decide) ?_
              exact k_148 _ (by omega)
        · skip
          refine g_icmp_eq (tgt := 121) hx hb ⟨by omega, by omega⟩ ⟨by omega, by omega⟩ dX12_divideShort_114 (by decide) (fun c_114 => ?_) (fun c_114 => ?_)
          · skip
            refine lv_iconst (v := Int32.ofInt (0)) hx hb dX12_divideShort_121 (by decide) ?_
            exact k_122 _ (by omega)
          · skip
            refine lv_iconst (v := Int32.ofInt (1)) hx hb dX12_divideShort_117 (by decide) ?_
            refine lv_goto (tgt := 122) hx hb dX12_divideShort_118 (by decide) ?_
            exact k_122 _ (by omega)
      · skip
        refine g_if_ge (tgt := 113) hx hb (hok_i q4 _) dX12_divideShort_106 (by decide) (fun c_106 => ?_) (fun c_106 => ?_)
        · skip
          refine lv_iconst (v := Int32.ofInt (0)) hx hb dX12_divideShort_113 (by decide) ?_
          exact k_114 _ (by omega)
        · skip
          refine lv_iconst (v := Int32.ofInt (1)) hx hb dX12_divideShort_109 (by decide) ?_
          refine lv_goto (tgt := 114) hx hb dX12_divideShort_110 (by decide) ?_
          exact k_114 _ (by omega)
    · skip
      refine g_if_ge (tgt := 99) hx hb (hok_i q4 _) dX12_divideShort_92 (by decide) (fun c_92 => ?_) (fun c_92 => ?_)
      · skip
        refine lv_iconst (v := Int32.ofInt (0)) hx hb dX12_divideShort_99 (by decide) ?_
        exact k_100 _ (by omega)
      · skip
        refine lv_iconst (v := Int32.ofInt (1)) hx hb dX12_divideShort_95 (by decide) ?_
        refine lv_goto (tgt := 100) hx hb dX12_divideShort_96 (by decide) ?_
        exact k_100 _ (by omega)
  · skip
    have xd := na.1 i (by omega) i1
    rw [← q2 (a + i) (by omega)] at xd
    have xu := (q4 (a + i)).2
    refine lv_lload hx hb dX12_divideShort_34 (lv_at hl 5 rfl) ?_
    refine lv_bipush (v := Int32.ofInt (31)) hx hb dX12_divideShort_36 (by decide) ?_
    refine g_lshl hx hb (by omega) (by omega) dX12_divideShort_38 ?_
    rw [show (2 : Int) ^ (31 : Int).toNat = 2147483648 from rfl]
    refine lv_aload_n hx hb dX12_divideShort_39 rfl (lv_at hl 0 rfl) ?_
    refine r_geti E hK hP (k := 1) (v := .ref (ad 1)) (by decide) mf_7 rfl rfl dX12_divideShort_40 ?_
    refine lv_iload_n hx hb dX12_divideShort_43 rfl (lv_at hl 1 rfl) ?_
    refine lv_iload hx hb dX12_divideShort_44 (lv_at hl 7 rfl) ?_
    refine g_iadd hx hb dX12_divideShort_46 ?_
    refine g_iald (f := (ar1 1)) hx hb hK hP 1 0 rfl rfl (by omega) (by omega) (by decide) dX12_divideShort_47 ?_
    refine g_i2l hx hb (hok_i q4 _) dX12_divideShort_48 ?_
    refine g_lor hx hb (lm_or' (k := 31) xd xu (by omega) (by omega) (by omega)) dX12_divideShort_49 ?_
    refine lv_lstore (lv' := [(10, Jz ((r * 2147483648) + ((ar1 1) (a + i)))), (0, .ref h0), (1, Iz (a)), (2, Iz (b)), (3, Iz (nsz (ar 1) a)), (4, Iz (F 2)), (5, Jz (r)), (7, Jz ((ar 1) (b + 1))), (9, Iz (i))]) hx hb dX12_divideShort_50 hl (by decide) rfl (fun ls hl => ?_)
    have vq : (r * 2147483648 + ar1 1 (a + i)) / ar 1 (b + 1) < 2147483648 := Int.ediv_lt_of_lt_mul (by omega) (by omega)
    have vq0 : 0 ≤ (r * 2147483648 + ar1 1 (a + i)) / ar 1 (b + 1) := Int.ediv_nonneg (by omega) (by omega)
    refine lv_aload_n hx hb dX12_divideShort_52 rfl (lv_at hl 1 rfl) ?_
    refine r_geti E hK hP (k := 1) (v := .ref (ad 1)) (by decide) mf_7 rfl rfl dX12_divideShort_53 ?_
    refine lv_iload hx hb dX12_divideShort_56 (lv_at hl 5 rfl) ?_
    refine lv_iload hx hb dX12_divideShort_58 (lv_at hl 8 rfl) ?_
    refine g_iadd hx hb dX12_divideShort_60 ?_
    refine lv_lload hx hb dX12_divideShort_61 (lv_at hl 0 rfl) ?_
    refine lv_lload hx hb dX12_divideShort_63 (lv_at hl 7 rfl) ?_
    refine g_ldiv hx hb (by omega) (by omega) (by omega) (by omega) dX12_divideShort_65 ?_
    refine g_l2i hx hb dX12_divideShort_66 ?_
    refine g_iast (f := (ar1 1)) hx hb hK hP hD hS 1 0 rfl rfl (by omega) (by omega) (by decide) dX12_divideShort_67 (fun H locs hP hD hS => ?_)
    rw [sa_1] at hP hD
    refine lv_lload hx hb dX12_divideShort_68 (lv_at hl 0 rfl) ?_
    refine lv_lload hx hb dX12_divideShort_70 (lv_at hl 7 rfl) ?_
    refine g_lrem hx hb (by omega) (by omega) (by omega) (by omega) dX12_divideShort_72 ?_
    have r2 := Int.emod_nonneg (r * 2147483648 + ar1 1 (a + i)) (show ar 1 (b + 1) ≠ 0 by omega)
    have r3 := Int.emod_lt_of_pos (r * 2147483648 + ar1 1 (a + i)) (show 0 < ar 1 (b + 1) by omega)
    refine lv_lstore (lv' := [(5, Jz (((r * 2147483648) + ((ar1 1) (a + i))) % ((ar 1) (b + 1)))), (10, Jz ((r * 2147483648) + ((ar1 1) (a + i)))), (0, .ref h0), (1, Iz (a)), (2, Iz (b)), (3, Iz (nsz (ar 1) a)), (4, Iz (F 2)), (7, Jz ((ar 1) (b + 1))), (9, Iz (i))]) hx hb dX12_divideShort_73 hl (by decide) rfl (fun ls hl => ?_)
    refine g_iinc (k := 8) (z := i) (n := (-1)) (lv' := [(9, Iz (i + (-1))), (5, Jz (((r * 2147483648) + ((ar1 1) (a + i))) % ((ar 1) (b + 1)))), (10, Jz ((r * 2147483648) + ((ar1 1) (a + i)))), (0, .ref h0), (1, Iz (a)), (2, Iz (b)), (3, Iz (nsz (ar 1) a)), (4, Iz (F 2)), (7, Jz ((ar 1) (b + 1)))]) hx hb dX12_divideShort_75 hl rfl (by decide) rfl (fun ls hl => ?_)
    refine lv_goto (tgt := 29) hx hb dX12_divideShort_78 (by decide) ?_
    exact ih_29 _ (by omega) _ _ _ ⟨(aup ar1 1 (iup (ar1 1) ((F 2) + i) (((r * 2147483648) + ((ar1 1) (a + i))) / ((ar 1) (b + 1))))), (i + (-1)), (((r * 2147483648) + ((ar1 1) (a + i))) % ((ar 1) (b + 1))), rfl, (by omega), (by omega), (r2), (r3), (fun j hj => by rw [aup_ne _ _ hj]; exact q1 j hj), (fun t ht => by show iup _ _ _ t = _; rw [iup_ne (by omega)]; exact q2 t ht), (hok_up q4 (by omega) vq), (fun t h1 h2 => by show 0 ≤ iup _ _ _ _; by_cases e : t = i; (· rw [e, iup_self]; exact vq0); (· rw [iup_ne (by omega)]; exact qd t (by omega) h2)), hP, hD, hS, lv_sub hl [3, 4, 5, 6, 7, 1, 8, 0] rfl⟩
