set_option maxHeartbeats 4000000 in
set_option maxRecDepth 100000 in
theorem c_feed {l : Launch} {dC : Nat → ClassId} {dI : Nat → Nat → Nat} {h0 : Nat} {ad : Nat → Nat} {cI cJ cB cZ : Nat} {F : Nat → Int} {ar : Nat → Int → Int} {sz : Nat} {ia ib ic id ie : Int} (t0 : F 53 = 0) (ia0 : -2147483648 ≤ ia) (ia1 : ia ≤ 2147483647) (ib0 : -2147483648 ≤ ib) (ib1 : ib ≤ 2147483647) (ic0 : -2147483648 ≤ ic) (ic1 : ic ≤ 2147483647) (id0 : -2147483648 ≤ id) (id1 : id ≤ 2147483647) (ie0 : -2147483648 ≤ ie) (ie1 : ie ≤ 2147483647) : Met l yX12_feed (Cond.code yX12_feed cX12_feed 8 (some .int) :: w0r) (rRm 0 0) (rPc dC dI h0 ad cI cJ cB cZ F ar sz [Iz (ia), Iz (ib), Iz (ic), Iz (id), Iz (ie)]) (rQi dC dI h0 ad cI cJ cB cZ sz (fun z F' ar' => z = 20 ∧ F' 0 = 0)) 0 0 (rA h0 ad sz) := by
  refine Met.ofW (cc := cX12_feed) (maxL := 8) (ret := (some .int)) (by decide) rfl ?_
  intro p e s m args below meth c s₁ B hml hv
  obtain ⟨rfl, hsz, hP, hK, hD0⟩ := hv
  have hx := B.exec
  have hb := B.bytes
  have hr := B.returns
  have hts := atoms_spec (ws := Cond.code yX12_feed cX12_feed 8 (some .int) :: w0r) B.pre
  have hown : s.vm.findClass RX12 = some m.cls := findClass_of_methodNamed B.named
  have hlocks := B.notSynchronized
  have E : CallFix p m c cX12_feed 8 s _ (Cond.code yX12_feed cX12_feed 8 (some .int) :: w0r) RX12 := ⟨hx, hb, hml, hown, hts⟩
  subst hsz
  have hD := rA_self s.heap.size hD0
  have hA : ∀ q : Nat, s.heap.size ≤ q → rA h0 ad s.heap.size q := fun q h => Or.inr h
  have hS : va_S (rA h0 ad s.heap.size) s.heap s.heap [] := va_S.rf
  have hl := lv_entry ([.ref h0, Iz (ia), Iz (ib), Iz (ic), Iz (id), Iz (ie)]) (n := 8) (Nat.le_of_ble_eq_true rfl)
  rw [lg_entry_eq]
  generalize (lg_sl ([.ref h0, Iz (ia), Iz (ib), Iz (ic), Iz (id), Iz (ie)]) ++ List.replicate (8 - (lg_sl ([.ref h0, Iz (ia), Iz (ib), Iz (ic), Iz (id), Iz (ie)])).length) Slot.unset).toArray = ls at hl ⊢
  have hl : lv_has ls 8 [(0, .ref h0), (1, Iz (ia)), (2, Iz (ib)), (3, Iz (ic)), (4, Iz (id)), (5, Iz (ie))] := hl
  refine lv_aload_n hx hb dX12_feed_0 rfl (lv_at hl 0 rfl) ?_
  refine lv_aload_n hx hb dX12_feed_1 rfl (lv_at hl 0 rfl) ?_
  refine r_geti E hK hP (k := 53) (v := Iz (F 53)) (by decide) mf_671 rfl rfl dX12_feed_2 ?_
  rw [t0]
  refine lv_bipush (v := Int32.ofInt (20)) hx hb dX12_feed_5 (by decide) ?_
  refine g_iadd hx hb dX12_feed_7 ?_
  refine lv_sipush (v := Int32.ofInt (300)) hx hb dX12_feed_8 (by decide) ?_
  refine g_icmp_le (tgt := 18) hx hb (by first | assumption | exact ⟨by omega, by omega⟩ | exact Hh _) (by first | assumption | exact ⟨by omega, by omega⟩ | exact Hh _) dX12_feed_11 (by decide) (fun c_11 => ?_) (fun c_11 => ?_)
  · skip
    refine lv_iconst (v := Int32.ofInt (0)) hx hb dX12_feed_18 (by decide) ?_
    refine r_puti E hK hP hD hS 0 (by decide) mf_1 rfl rfl (by decide +kernel) (sp_0 h0 ad cI cJ cB cZ _ _) dX12_feed_19 (fun H locs hP hD hS => ?_)
    refine lv_aload_n hx hb dX12_feed_22 rfl (lv_at hl 0 rfl) ?_
    refine r_geti E hK hP (k := 0) (v := Iz (0)) (by decide) mf_1 rfl rfl dX12_feed_23 ?_
    refine g_if_le (tgt := 31) hx hb (by first | assumption | exact ⟨by omega, by omega⟩ | exact Hh _) dX12_feed_26 (by decide) (fun c_26 => ?_) (fun c_26 => ?_)
    · skip
      refine lv_iconst (v := Int32.ofInt (0)) hx hb dX12_feed_31 (by decide) ?_
      refine lv_istore (lv' := [(6, Iz (0)), (0, .ref h0), (1, Iz (ia)), (2, Iz (ib)), (3, Iz (ic)), (4, Iz (id)), (5, Iz (ie))]) hx hb dX12_feed_32 hl (by decide) rfl (fun ls hl => ?_)
      refine r_loop (P := fun N_ H locs ls => ∃ (F1 : Nat → Int) (ar1 : Nat → Int → Int) (i : Int), N_ = (20 - i).toNat ∧ (0 ≤ i) ∧ (i ≤ 20) ∧ (F1 0 = 0) ∧ (F1 53 = i) ∧ va_P (dC, dI) rcl (mW h0 ad cI cJ cB cZ F1 ar1) H ∧ va_D (rA h0 ad s.heap.size) (mW h0 ad cI cJ cB cZ F1 ar1) ∧ va_S (rA h0 ad s.heap.size) s.heap H locs ∧ lv_has ls 8 [(0, .ref h0), (1, Iz (ia)), (2, Iz (ib)), (3, Iz (ic)), (4, Iz (id)), (5, Iz (ie)), (6, Iz (i))]) (g := fun ls => F0 m 34 ls []) (fun N_ H locs ls hI ih_34 => ?_) _ _ _ _ ⟨(fup F 0 0), ar, 0, rfl, (Int.le_refl 0), (by decide), (rfl), ((fup_ne _ _ (by decide)).trans t0), hP, hD, hS, lv_sub hl [1, 2, 3, 4, 5, 6, 0] rfl⟩
      obtain ⟨F1, ar1, i, rfl, j0, j1, z0_, tp_, hP, hD, hS, hl⟩ := hI
      refine lv_iload hx hb dX12_feed_34 (lv_at hl 6 rfl) ?_
      refine lv_bipush (v := Int32.ofInt (20)) hx hb dX12_feed_36 (by decide) ?_
      refine g_icmp_ge (tgt := 128) hx hb (by first | assumption | exact ⟨by omega, by omega⟩ | exact Hh _) (by first | assumption | exact ⟨by omega, by omega⟩ | exact Hh _) dX12_feed_38 (by decide) (fun c_38 => ?_) (fun c_38 => ?_)
      · skip
        refine lv_aload_n hx hb dX12_feed_128 rfl (lv_at hl 0 rfl) ?_
        refine r_geti E hK hP (k := 53) (v := Iz (F1 53)) (by decide) mf_671 rfl rfl dX12_feed_129 ?_
        have hpost : (F1 53 : Int) = 20 ∧ F1 0 = 0 := ⟨by omega, z0_⟩
        exact W.iret (v := Int32.ofInt (F1 53)) hx hb hr (fun t ht hW => ⟨⟨_, (F1, ar1), rfl, ⟨_, rfl, hpost⟩, by rw [ht]; exact hP, va_K.moved hW.alike hK, hD⟩, hS.F ht⟩) hS.2.2 dX12_feed_132
      · skip
        refine lv_iload hx hb dX12_feed_41 (lv_at hl 6 rfl) ?_
        refine lv_iconst (v := Int32.ofInt (4)) hx hb dX12_feed_43 (by decide) ?_
        refine g_icmp_ge (tgt := 51) hx hb (by first | assumption | exact ⟨by omega, by omega⟩ | exact Hh _) (by first | assumption | exact ⟨by omega, by omega⟩ | exact Hh _) dX12_feed_44 (by decide) (fun c_44 => ?_) (fun c_44 => ?_)
        · skip
          refine lv_iload hx hb dX12_feed_51 (lv_at hl 6 rfl) ?_
          refine lv_bipush (v := Int32.ofInt (8)) hx hb dX12_feed_53 (by decide) ?_
          refine g_icmp_ge (tgt := 62) hx hb (by first | assumption | exact ⟨by omega, by omega⟩ | exact Hh _) (by first | assumption | exact ⟨by omega, by omega⟩ | exact Hh _) dX12_feed_55 (by decide) (fun c_55 => ?_) (fun c_55 => ?_)
          · skip
            refine lv_iload hx hb dX12_feed_62 (lv_at hl 6 rfl) ?_
            refine lv_bipush (v := Int32.ofInt (12)) hx hb dX12_feed_64 (by decide) ?_
            refine g_icmp_ge (tgt := 73) hx hb (by first | assumption | exact ⟨by omega, by omega⟩ | exact Hh _) (by first | assumption | exact ⟨by omega, by omega⟩ | exact Hh _) dX12_feed_66 (by decide) (fun c_66 => ?_) (fun c_66 => ?_)
            · skip
              refine lv_iload hx hb dX12_feed_73 (lv_at hl 6 rfl) ?_
              refine lv_bipush (v := Int32.ofInt (16)) hx hb dX12_feed_75 (by decide) ?_
              refine g_icmp_ge (tgt := 85) hx hb (by first | assumption | exact ⟨by omega, by omega⟩ | exact Hh _) (by first | assumption | exact ⟨by omega, by omega⟩ | exact Hh _) dX12_feed_77 (by decide) (fun c_77 => ?_) (fun c_77 => ?_)
              · skip
                refine lv_iload hx hb dX12_feed_85 (lv_at hl 5 rfl) ?_
                refine lv_istore (lv' := [(7, Iz (ie)), (0, .ref h0), (1, Iz (ia)), (2, Iz (ib)), (3, Iz (ic)), (4, Iz (id)), (5, Iz (ie)), (6, Iz (i))]) hx hb dX12_feed_87 hl (by decide) rfl (fun ls hl => ?_)
                refine lv_aload_n hx hb dX12_feed_89 rfl (lv_at hl 1 rfl) ?_
                refine r_geti E hK hP (k := 52) (v := .ref (ad 52)) (by decide) mf_524 rfl rfl dX12_feed_90 ?_
                refine lv_aload_n hx hb dX12_feed_93 rfl (lv_at hl 1 rfl) ?_
                refine r_geti E hK hP (k := 53) (v := Iz (F1 53)) (by decide) mf_671 rfl rfl dX12_feed_94 ?_
                rw [tp_]
                refine lv_iload hx hb dX12_feed_97 (lv_at hl 0 rfl) ?_
                refine lv_bipush (v := Int32.ofInt (24)) hx hb dX12_feed_99 (by decide) ?_
                refine lv_bipush (v := Int32.ofInt (8)) hx hb dX12_feed_101 (by decide) ?_
                refine lv_iload hx hb dX12_feed_103 (lv_at hl 7 rfl) ?_
                refine lv_iconst (v := Int32.ofInt (4)) hx hb dX12_feed_105 (by decide) ?_
                refine g_irem hx hb (by omega) (by omega) (by omega) (by omega) dX12_feed_106 ?_
                refine g_imul hx hb dX12_feed_107 ?_
                refine g_isub hx hb dX12_feed_108 ?_
                refine r_ishrX hx hb dX12_feed_109 (fun zs109 => ?_)
                refine r_i2bX hx hb dX12_feed_110 (fun zb110 => ?_)
                refine r_bast (f := (ar1 52)) (z := i) (v := zb110) hx hb hK hP hD hS 52 26 rfl (sa_52 h0 ad cI cJ cB cZ _ _) (by omega) (by omega) (by decide) dX12_feed_111 (fun gb111 H locs hP hD hS => ?_)
                refine lv_aload_n hx hb dX12_feed_112 rfl (lv_at hl 1 rfl) ?_
                refine lv_dup hx hb dX12_feed_113 rfl ?_
                refine r_geti E hK hP (k := 53) (v := Iz (F1 53)) (by decide) mf_671 rfl rfl dX12_feed_114 ?_
                rw [tp_]
                refine lv_iconst (v := Int32.ofInt (1)) hx hb dX12_feed_117 (by decide) ?_
                refine g_iadd hx hb dX12_feed_118 ?_
                refine r_puti E hK hP hD hS 53 (by decide) mf_671 rfl rfl (by decide +kernel) (sp_53 h0 ad cI cJ cB cZ _ _) dX12_feed_119 (fun H locs hP hD hS => ?_)
                refine g_iinc (k := 7) (z := i) (n := (1)) (lv' := [(6, Iz (i + 1)), (7, Iz (ie)), (0, .ref h0), (1, Iz (ia)), (2, Iz (ib)), (3, Iz (ic)), (4, Iz (id)), (5, Iz (ie))]) hx hb dX12_feed_122 hl rfl (by decide) rfl (fun ls hl => ?_)
                refine lv_goto (tgt := 34) hx hb dX12_feed_125 (by decide) ?_
                exact ih_34 _ (by omega) _ _ _ ⟨(fup F1 53 (i + 1)), (aup ar1 52 gb111), (i + 1), rfl, (by omega), (by omega), ((fup_ne _ _ (by decide)).trans z0_), (fup_self _ _ _), hP, hD, hS, lv_sub hl [2, 3, 4, 5, 6, 7, 0] rfl⟩
              · skip
                refine lv_iload hx hb dX12_feed_80 (lv_at hl 4 rfl) ?_
                refine lv_goto (tgt := 87) hx hb dX12_feed_82 (by decide) ?_
                refine lv_istore (lv' := [(7, Iz (id)), (0, .ref h0), (1, Iz (ia)), (2, Iz (ib)), (3, Iz (ic)), (4, Iz (id)), (5, Iz (ie)), (6, Iz (i))]) hx hb dX12_feed_87 hl (by decide) rfl (fun ls hl => ?_)
                refine lv_aload_n hx hb dX12_feed_89 rfl (lv_at hl 1 rfl) ?_
                refine r_geti E hK hP (k := 52) (v := .ref (ad 52)) (by decide) mf_524 rfl rfl dX12_feed_90 ?_
                refine lv_aload_n hx hb dX12_feed_93 rfl (lv_at hl 1 rfl) ?_
                refine r_geti E hK hP (k := 53) (v := Iz (F1 53)) (by decide) mf_671 rfl rfl dX12_feed_94 ?_
                rw [tp_]
                refine lv_iload hx hb dX12_feed_97 (lv_at hl 0 rfl) ?_
                refine lv_bipush (v := Int32.ofInt (24)) hx hb dX12_feed_99 (by decide) ?_
                refine lv_bipush (v := Int32.ofInt (8)) hx hb dX12_feed_101 (by decide) ?_
                refine lv_iload hx hb dX12_feed_103 (lv_at hl 7 rfl) ?_
                refine lv_iconst (v := Int32.ofInt (4)) hx hb dX12_feed_105 (by decide) ?_
                refine g_irem hx hb (by omega) (by omega) (by omega) (by omega) dX12_feed_106 ?_
                refine g_imul hx hb dX12_feed_107 ?_
                refine g_isub hx hb dX12_feed_108 ?_
                refine r_ishrX hx hb dX12_feed_109 (fun zs109 => ?_)
                refine r_i2bX hx hb dX12_feed_110 (fun zb110 => ?_)
                refine r_bast (f := (ar1 52)) (z := i) (v := zb110) hx hb hK hP hD hS 52 26 rfl (sa_52 h0 ad cI cJ cB cZ _ _) (by omega) (by omega) (by decide) dX12_feed_111 (fun gb111 H locs hP hD hS => ?_)
                refine lv_aload_n hx hb dX12_feed_112 rfl (lv_at hl 1 rfl) ?_
                refine lv_dup hx hb dX12_feed_113 rfl ?_
                refine r_geti E hK hP (k := 53) (v := Iz (F1 53)) (by decide) mf_671 rfl rfl dX12_feed_114 ?_
                rw [tp_]
                refine lv_iconst (v := Int32.ofInt (1)) hx hb dX12_feed_117 (by decide) ?_
                refine g_iadd hx hb dX12_feed_118 ?_
                refine r_puti E hK hP hD hS 53 (by decide) mf_671 rfl rfl (by decide +kernel) (sp_53 h0 ad cI cJ cB cZ _ _) dX12_feed_119 (fun H locs hP hD hS => ?_)
                refine g_iinc (k := 7) (z := i) (n := (1)) (lv' := [(6, Iz (i + 1)), (7, Iz (id)), (0, .ref h0), (1, Iz (ia)), (2, Iz (ib)), (3, Iz (ic)), (4, Iz (id)), (5, Iz (ie))]) hx hb dX12_feed_122 hl rfl (by decide) rfl (fun ls hl => ?_)
                refine lv_goto (tgt := 34) hx hb dX12_feed_125 (by decide) ?_
                exact ih_34 _ (by omega) _ _ _ ⟨(fup F1 53 (i + 1)), (aup ar1 52 gb111), (i + 1), rfl, (by omega), (by omega), ((fup_ne _ _ (by decide)).trans z0_), (fup_self _ _ _), hP, hD, hS, lv_sub hl [2, 3, 4, 5, 6, 7, 0] rfl⟩
            · skip
              refine lv_iload_n hx hb dX12_feed_69 rfl (lv_at hl 3 rfl) ?_
              refine lv_goto (tgt := 87) hx hb dX12_feed_70 (by decide) ?_
              refine lv_istore (lv' := [(7, Iz (ic)), (0, .ref h0), (1, Iz (ia)), (2, Iz (ib)), (3, Iz (ic)), (4, Iz (id)), (5, Iz (ie)), (6, Iz (i))]) hx hb dX12_feed_87 hl (by decide) rfl (fun ls hl => ?_)
              refine lv_aload_n hx hb dX12_feed_89 rfl (lv_at hl 1 rfl) ?_
              refine r_geti E hK hP (k := 52) (v := .ref (ad 52)) (by decide) mf_524 rfl rfl dX12_feed_90 ?_
              refine lv_aload_n hx hb dX12_feed_93 rfl (lv_at hl 1 rfl) ?_
              refine r_geti E hK hP (k := 53) (v := Iz (F1 53)) (by decide) mf_671 rfl rfl dX12_feed_94 ?_
              rw [tp_]
              refine lv_iload hx hb dX12_feed_97 (lv_at hl 0 rfl) ?_
              refine lv_bipush (v := Int32.ofInt (24)) hx hb dX12_feed_99 (by decide) ?_
              refine lv_bipush (v := Int32.ofInt (8)) hx hb dX12_feed_101 (by decide) ?_
              refine lv_iload hx hb dX12_feed_103 (lv_at hl 7 rfl) ?_
              refine lv_iconst (v := Int32.ofInt (4)) hx hb dX12_feed_105 (by decide) ?_
              refine g_irem hx hb (by omega) (by omega) (by omega) (by omega) dX12_feed_106 ?_
              refine g_imul hx hb dX12_feed_107 ?_
              refine g_isub hx hb dX12_feed_108 ?_
              refine r_ishrX hx hb dX12_feed_109 (fun zs109 => ?_)
              refine r_i2bX hx hb dX12_feed_110 (fun zb110 => ?_)
              refine r_bast (f := (ar1 52)) (z := i) (v := zb110) hx hb hK hP hD hS 52 26 rfl (sa_52 h0 ad cI cJ cB cZ _ _) (by omega) (by omega) (by decide) dX12_feed_111 (fun gb111 H locs hP hD hS => ?_)
              refine lv_aload_n hx hb dX12_feed_112 rfl (lv_at hl 1 rfl) ?_
              refine lv_dup hx hb dX12_feed_113 rfl ?_
              refine r_geti E hK hP (k := 53) (v := Iz (F1 53)) (by decide) mf_671 rfl rfl dX12_feed_114 ?_
              rw [tp_]
              refine lv_iconst (v := Int32.ofInt (1)) hx hb dX12_feed_117 (by decide) ?_
              refine g_iadd hx hb dX12_feed_118 ?_
              refine r_puti E hK hP hD hS 53 (by decide) mf_671 rfl rfl (by decide +kernel) (sp_53 h0 ad cI cJ cB cZ _ _) dX12_feed_119 (fun H locs hP hD hS => ?_)
              refine g_iinc (k := 7) (z := i) (n := (1)) (lv' := [(6, Iz (i + 1)), (7, Iz (ic)), (0, .ref h0), (1, Iz (ia)), (2, Iz (ib)), (3, Iz (ic)), (4, Iz (id)), (5, Iz (ie))]) hx hb dX12_feed_122 hl rfl (by decide) rfl (fun ls hl => ?_)
              refine lv_goto (tgt := 34) hx hb dX12_feed_125 (by decide) ?_
              exact ih_34 _ (by omega) _ _ _ ⟨(fup F1 53 (i + 1)), (aup ar1 52 gb111), (i + 1), rfl, (by omega), (by omega), ((fup_ne _ _ (by decide)).trans z0_), (fup_self _ _ _), hP, hD, hS, lv_sub hl [2, 3, 4, 5, 6, 7, 0] rfl⟩
          · skip
            refine lv_iload_n hx hb dX12_feed_58 rfl (lv_at hl 2 rfl) ?_
            refine lv_goto (tgt := 87) hx hb dX12_feed_59 (by decide) ?_
            refine lv_istore (lv' := [(7, Iz (ib)), (0, .ref h0), (1, Iz (ia)), (2, Iz (ib)), (3, Iz (ic)), (4, Iz (id)), (5, Iz (ie)), (6, Iz (i))]) hx hb dX12_feed_87 hl (by decide) rfl (fun ls hl => ?_)
            refine lv_aload_n hx hb dX12_feed_89 rfl (lv_at hl 1 rfl) ?_
            refine r_geti E hK hP (k := 52) (v := .ref (ad 52)) (by decide) mf_524 rfl rfl dX12_feed_90 ?_
            refine lv_aload_n hx hb dX12_feed_93 rfl (lv_at hl 1 rfl) ?_
            refine r_geti E hK hP (k := 53) (v := Iz (F1 53)) (by decide) mf_671 rfl rfl dX12_feed_94 ?_
            rw [tp_]
            refine lv_iload hx hb dX12_feed_97 (lv_at hl 0 rfl) ?_
            refine lv_bipush (v := Int32.ofInt (24)) hx hb dX12_feed_99 (by decide) ?_
            refine lv_bipush (v := Int32.ofInt (8)) hx hb dX12_feed_101 (by decide) ?_
            refine lv_iload hx hb dX12_feed_103 (lv_at hl 7 rfl) ?_
            refine lv_iconst (v := Int32.ofInt (4)) hx hb dX12_feed_105 (by decide) ?_
            refine g_irem hx hb (by omega) (by omega) (by omega) (by omega) dX12_feed_106 ?_
            refine g_imul hx hb dX12_feed_107 ?_
            refine g_isub hx hb dX12_feed_108 ?_
            refine r_ishrX hx hb dX12_feed_109 (fun zs109 => ?_)
            refine r_i2bX hx hb dX12_feed_110 (fun zb110 => ?_)
            refine r_bast (f := (ar1 52)) (z := i) (v := zb110) hx hb hK hP hD hS 52 26 rfl (sa_52 h0 ad cI cJ cB cZ _ _) (by omega) (by omega) (by decide) dX12_feed_111 (fun gb111 H locs hP hD hS => ?_)
            refine lv_aload_n hx hb dX12_feed_112 rfl (lv_at hl 1 rfl) ?_
            refine lv_dup hx hb dX12_feed_113 rfl ?_
            refine r_geti E hK hP (k := 53) (v := Iz (F1 53)) (by decide) mf_671 rfl rfl dX12_feed_114 ?_
            rw [tp_]
            refine lv_iconst (v := Int32.ofInt (1)) hx hb dX12_feed_117 (by decide) ?_
            refine g_iadd hx hb dX12_feed_118 ?_
            refine r_puti E hK hP hD hS 53 (by decide) mf_671 rfl rfl (by decide +kernel) (sp_53 h0 ad cI cJ cB cZ _ _) dX12_feed_119 (fun H locs hP hD hS => ?_)
            refine g_iinc (k := 7) (z := i) (n := (1)) (lv' := [(6, Iz (i + 1)), (7, Iz (ib)), (0, .ref h0), (1, Iz (ia)), (2, Iz (ib)), (3, Iz (ic)), (4, Iz (id)), (5, Iz (ie))]) hx hb dX12_feed_122 hl rfl (by decide) rfl (fun ls hl => ?_)
            refine lv_goto (tgt := 34) hx hb dX12_feed_125 (by decide) ?_
            exact ih_34 _ (by omega) _ _ _ ⟨(fup F1 53 (i + 1)), (aup ar1 52 gb111), (i + 1), rfl, (by omega), (by omega), ((fup_ne _ _ (by decide)).trans z0_), (fup_self _ _ _), hP, hD, hS, lv_sub hl [2, 3, 4, 5, 6, 7, 0] rfl⟩
        · skip
          refine lv_iload_n hx hb dX12_feed_47 rfl (lv_at hl 1 rfl) ?_
          refine lv_goto (tgt := 87) hx hb dX12_feed_48 (by decide) ?_
          refine lv_istore (lv' := [(7, Iz (ia)), (0, .ref h0), (1, Iz (ia)), (2, Iz (ib)), (3, Iz (ic)), (4, Iz (id)), (5, Iz (ie)), (6, Iz (i))]) hx hb dX12_feed_87 hl (by decide) rfl (fun ls hl => ?_)
          refine lv_aload_n hx hb dX12_feed_89 rfl (lv_at hl 1 rfl) ?_
          refine r_geti E hK hP (k := 52) (v := .ref (ad 52)) (by decide) mf_524 rfl rfl dX12_feed_90 ?_
          refine lv_aload_n hx hb dX12_feed_93 rfl (lv_at hl 1 rfl) ?_
          refine r_geti E hK hP (k := 53) (v := Iz (F1 53)) (by decide) mf_671 rfl rfl dX12_feed_94 ?_
          rw [tp_]
          refine lv_iload hx hb dX12_feed_97 (lv_at hl 0 rfl) ?_
          refine lv_bipush (v := Int32.ofInt (24)) hx hb dX12_feed_99 (by decide) ?_
          refine lv_bipush (v := Int32.ofInt (8)) hx hb dX12_feed_101 (by decide) ?_
          refine lv_iload hx hb dX12_feed_103 (lv_at hl 7 rfl) ?_
          refine lv_iconst (v := Int32.ofInt (4)) hx hb dX12_feed_105 (by decide) ?_
          refine g_irem hx hb (by omega) (by omega) (by omega) (by omega) dX12_feed_106 ?_
          refine g_imul hx hb dX12_feed_107 ?_
          refine g_isub hx hb dX12_feed_108 ?_
          refine r_ishrX hx hb dX12_feed_109 (fun zs109 => ?_)
          refine r_i2bX hx hb dX12_feed_110 (fun zb110 => ?_)
          refine r_bast (f := (ar1 52)) (z := i) (v := zb110) hx hb hK hP hD hS 52 26 rfl (sa_52 h0 ad cI cJ cB cZ _ _) (by omega) (by omega) (by decide) dX12_feed_111 (fun gb111 H locs hP hD hS => ?_)
          refine lv_aload_n hx hb dX12_feed_112 rfl (lv_at hl 1 rfl) ?_
          refine lv_dup hx hb dX12_feed_113 rfl ?_
          refine r_geti E hK hP (k := 53) (v := Iz (F1 53)) (by decide) mf_671 rfl rfl dX12_feed_114 ?_
          rw [tp_]
          refine lv_iconst (v := Int32.ofInt (1)) hx hb dX12_feed_117 (by decide) ?_
          refine g_iadd hx hb dX12_feed_118 ?_
          refine r_puti E hK hP hD hS 53 (by decide) mf_671 rfl rfl (by decide +kernel) (sp_53 h0 ad cI cJ cB cZ _ _) dX12_feed_119 (fun H locs hP hD hS => ?_)
          refine g_iinc (k := 7) (z := i) (n := (1)) (lv' := [(6, Iz (i + 1)), (7, Iz (ia)), (0, .ref h0), (1, Iz (ia)), (2, Iz (ib)), (3, Iz (ic)), (4, Iz (id)), (5, Iz (ie))]) hx hb dX12_feed_122 hl rfl (by decide) rfl (fun ls hl => ?_)
          refine lv_goto (tgt := 34) hx hb dX12_feed_125 (by decide) ?_
          exact ih_34 _ (by omega) _ _ _ ⟨(fup F1 53 (i + 1)), (aup ar1 52 gb111), (i + 1), rfl, (by omega), (by omega), ((fup_ne _ _ (by decide)).trans z0_), (fup_self _ _ _), hP, hD, hS, lv_sub hl [2, 3, 4, 5, 6, 7, 0] rfl⟩
    · omega
  · omega
set_option maxHeartbeats 4000000 in
set_option maxRecDepth 100000 in
theorem c_signAt {l : Launch} {dC : Nat → ClassId} {dI : Nat → Nat → Nat} {h0 : Nat} {ad : Nat → Nat} {cI cJ cB cZ : Nat} {F : Nat → Int} {ar : Nat → Int → Int} {sz : Nat} {ia : Int} (t0 : F 55 = 0) (i0 : 0 ≤ ia) (i1 : ia ≤ 1000) : Met l yX12_signAt (Cond.code yX12_signAt cX12_signAt 2 (some .int) :: w0r) (rRm 0 0) (rPc dC dI h0 ad cI cJ cB cZ F ar sz [Iz (ia)]) (rQi dC dI h0 ad cI cJ cB cZ sz (fun z F' ar' => F' = F ∧ ar' = ar ∧ z = 0)) 0 0 (rA h0 ad sz) := by
  refine Met.ofW (cc := cX12_signAt) (maxL := 2) (ret := (some .int)) (by decide) rfl ?_
  intro p e s m args below meth c s₁ B hml hv
  obtain ⟨rfl, hsz, hP, hK, hD0⟩ := hv
  have hx := B.exec
  have hb := B.bytes
  have hr := B.returns
  have hts := atoms_spec (ws := Cond.code yX12_signAt cX12_signAt 2 (some .int) :: w0r) B.pre
  have hown : s.vm.findClass RX12 = some m.cls := findClass_of_methodNamed B.named
  have hlocks := B.notSynchronized
  have E : CallFix p m c cX12_signAt 2 s _ (Cond.code yX12_signAt cX12_signAt 2 (some .int) :: w0r) RX12 := ⟨hx, hb, hml, hown, hts⟩
  subst hsz
  have hD := rA_self s.heap.size hD0
  have hA : ∀ q : Nat, s.heap.size ≤ q → rA h0 ad s.heap.size q := fun q h => Or.inr h
  have hS : va_S (rA h0 ad s.heap.size) s.heap s.heap [] := va_S.rf
  have hl := lv_entry ([.ref h0, Iz (ia)]) (n := 2) (Nat.le_of_ble_eq_true rfl)
  rw [lg_entry_eq]
  generalize (lg_sl ([.ref h0, Iz (ia)]) ++ List.replicate (2 - (lg_sl ([.ref h0, Iz (ia)])).length) Slot.unset).toArray = ls at hl ⊢
  have hl : lv_has ls 2 [(0, .ref h0), (1, Iz (ia))] := hl
  refine lv_iload_n hx hb dX12_signAt_0 rfl (lv_at hl 1 rfl) ?_
  refine lv_aload_n hx hb dX12_signAt_1 rfl (lv_at hl 0 rfl) ?_
  refine r_geti E hK hP (k := 55) (v := Iz (F 55)) (by decide) mf_674 rfl rfl dX12_signAt_2 ?_
  rw [t0]
  refine g_icmp_ge (tgt := 21) hx hb (by first | assumption | exact ⟨by omega, by omega⟩ | exact Hh _) (by first | assumption | exact ⟨by omega, by omega⟩ | exact Hh _) dX12_signAt_5 (by decide) (fun c_5 => ?_) (fun c_5 => ?_)
  · skip
    refine lv_iconst (v := Int32.ofInt (0)) hx hb dX12_signAt_21 (by decide) ?_
    have hpost : F = F ∧ ar = ar ∧ (0 : Int) = 0 := ⟨rfl, rfl, rfl⟩
    exact W.iret (v := Int32.ofInt (0)) hx hb hr (fun t ht hW => ⟨⟨_, (F, ar), rfl, ⟨_, rfl, hpost⟩, by rw [ht]; exact hP, va_K.moved hW.alike hK, hD⟩, hS.F ht⟩) hS.2.2 dX12_signAt_22
  · omega
set_option maxHeartbeats 4000000 in
set_option maxRecDepth 100000 in
theorem c_next {l : Launch} {dC : Nat → ClassId} {dI : Nat → Nat → Nat} {h0 : Nat} {ad : Nat → Nat} {cI cJ cB cZ : Nat} {F : Nat → Int} {ar : Nat → Int → Int} {sz : Nat}  (t7 : F 70 = 0) (t71 : F 71 = 0) (t5 : F 55 = 0) : Met l yX12_next (Cond.code yX12_next cX12_next 4 none :: w0r) (rRm 1 40) (rPc dC dI h0 ad cI cJ cB cZ F ar sz []) (rQv dC dI h0 ad cI cJ cB cZ sz (fun F' ar' => (∀ j : Nat, j ≠ 70 → j ≠ 71 → j ≠ 72 → j ≠ 73 → F' j = F j) ∧ F' 70 = 0 ∧ F' 72 = 0)) 0 0 (rA h0 ad sz) := by
  refine Met.ofW (cc := cX12_next) (maxL := 4) (ret := none) (by decide) rfl ?_
  intro p e s m args below meth c s₁ B hml hv
  obtain ⟨rfl, hsz, hP, hK, hD0⟩ := hv
  have hx := B.exec
  have hb := B.bytes
  have hr := B.returns
  have hts := atoms_spec (ws := Cond.code yX12_next cX12_next 4 none :: w0r) B.pre
  have hown : s.vm.findClass RX12 = some m.cls := findClass_of_methodNamed B.named
  have hlocks := B.notSynchronized
  have E : CallFix p m c cX12_next 4 s _ (Cond.code yX12_next cX12_next 4 none :: w0r) RX12 := ⟨hx, hb, hml, hown, hts⟩
  subst hsz
  have hD := rA_self s.heap.size hD0
  have hA : ∀ q : Nat, s.heap.size ≤ q → rA h0 ad s.heap.size q := fun q h => Or.inr h
  have hS : va_S (rA h0 ad s.heap.size) s.heap s.heap [] := va_S.rf
  have hl := lv_entry ([.ref h0]) (n := 4) (Nat.le_of_ble_eq_true rfl)
  rw [lg_entry_eq]
  generalize (lg_sl ([.ref h0]) ++ List.replicate (4 - (lg_sl ([.ref h0])).length) Slot.unset).toArray = ls at hl ⊢
  have hl : lv_has ls 4 [(0, .ref h0)] := hl
  refine lv_aload_n hx hb dX12_next_0 rfl (lv_at hl 0 rfl) ?_
  refine r_geti E hK hP (k := 70) (v := Iz (F 70)) (by decide) mf_684 rfl rfl dX12_next_1 ?_
  rw [t7]
  refine lv_aload_n hx hb dX12_next_4 rfl (lv_at hl 0 rfl) ?_
  refine r_geti E hK hP (k := 71) (v := Iz (F 71)) (by decide) mf_687 rfl rfl dX12_next_5 ?_
  rw [t71]
  refine g_iadd hx hb dX12_next_8 ?_
  refine lv_istore_n (lv' := [(1, Iz (0 + 0)), (0, .ref h0)]) hx hb dX12_next_9 rfl hl (by decide) rfl (fun ls hl => ?_)
  refine lv_iload_n hx hb dX12_next_10 rfl (lv_at hl 0 rfl) ?_
  refine lv_aload_n hx hb dX12_next_11 rfl (lv_at hl 1 rfl) ?_
  refine r_geti E hK hP (k := 55) (v := Iz (F 55)) (by decide) mf_674 rfl rfl dX12_next_12 ?_
  rw [t5]
  refine g_icmp_ge (tgt := 34) hx hb (by first | assumption | exact ⟨by omega, by omega⟩ | exact Hh _) (by first | assumption | exact ⟨by omega, by omega⟩ | exact Hh _) dX12_next_15 (by decide) (fun c_15 => ?_) (fun c_15 => ?_)
  · skip
    refine lv_aload_n hx hb dX12_next_34 rfl (lv_at hl 1 rfl) ?_
    refine lv_iload_n hx hb dX12_next_35 rfl (lv_at hl 0 rfl) ?_
    refine r_puti E hK hP hD hS 70 (by decide) mf_684 rfl rfl (by decide +kernel) (sp_70 h0 ad cI cJ cB cZ _ _) dX12_next_36 (fun H locs hP hD hS => ?_)
    refine lv_aload_n hx hb dX12_next_39 rfl (lv_at hl 1 rfl) ?_
    refine lv_iconst (v := Int32.ofInt (1)) hx hb dX12_next_40 (by decide) ?_
    refine r_puti E hK hP hD hS 71 (by decide) mf_687 rfl rfl (by decide +kernel) (sp_71 h0 ad cI cJ cB cZ _ _) dX12_next_41 (fun H locs hP hD hS => ?_)
    refine lv_aload_n hx hb dX12_next_44 rfl (lv_at hl 1 rfl) ?_
    refine lv_iconst (v := Int32.ofInt (0)) hx hb dX12_next_45 (by decide) ?_
    refine r_puti E hK hP hD hS 73 (by decide) mf_690 rfl rfl (by decide +kernel) (sp_73 h0 ad cI cJ cB cZ _ _) dX12_next_46 (fun H locs hP hD hS => ?_)
    refine lv_aload_n hx hb dX12_next_49 rfl (lv_at hl 1 rfl) ?_
    refine lv_iload_n hx hb dX12_next_50 rfl (lv_at hl 0 rfl) ?_
    refine r_calli (As := [Iz (0 + 0)]) (rest := []) E (c_signAt (F := (fup (fup (fup F 70 (0 + 0)) 71 1) 73 0)) (ar := ar) (ia := 0 + 0) ((fup_ne _ _ (by decide)).trans ((fup_ne _ _ (by decide)).trans ((fup_ne _ _ (by decide)).trans t5))) (by decide) (by decide)) (cwV 1 hts (rGood ml_677 mi_signAt ms_signAt mn_RX12 mc_signAt) rfl rfl rfl (by decide +kernel) ⟨Nat.le_of_ble_eq_true rfl, Nat.le_of_ble_eq_true rfl⟩) hK hP hD hS hA rfl hl.1 (Nat.le_of_ble_eq_true rfl) dX12_next_51 ⟨Nat.le_refl 0, Nat.le_refl 0⟩ (fun z51 F51 ar51 H locs q51 hP hD hS => ?_)
    obtain ⟨e1_, e2_, e3_⟩ := q51
    obtain rfl := e1_.symm
    obtain rfl := e2_.symm
    obtain rfl := e3_.symm
    refine lv_istore_n (lv' := [(2, Iz (0)), (1, Iz (0 + 0)), (0, .ref h0)]) hx hb dX12_next_54 rfl hl (by decide) rfl (fun ls hl => ?_)
    refine lv_iload_n hx hb dX12_next_55 rfl (lv_at hl 1 rfl) ?_
    refine lv_aload_n hx hb dX12_next_56 rfl (lv_at hl 2 rfl) ?_
    refine r_geti E hK hP (k := 55) (v := Iz (F 55)) (by decide) mf_674 rfl rfl dX12_next_57 ?_
    rw [t5]
    refine g_icmp_lt (tgt := 76) hx hb (by first | assumption | exact ⟨by omega, by omega⟩ | exact Hh _) (by first | assumption | exact ⟨by omega, by omega⟩ | exact Hh _) dX12_next_60 (by decide) (fun c_60 => ?_) (fun c_60 => ?_)
    · omega
    · skip
      refine lv_aload_n hx hb dX12_next_63 rfl (lv_at hl 2 rfl) ?_
      refine lv_iconst (v := Int32.ofInt (0)) hx hb dX12_next_64 (by decide) ?_
      refine r_puti E hK hP hD hS 71 (by decide) mf_687 rfl rfl (by decide +kernel) (sp_71 h0 ad cI cJ cB cZ _ _) dX12_next_65 (fun H locs hP hD hS => ?_)
      refine lv_aload_n hx hb dX12_next_68 rfl (lv_at hl 2 rfl) ?_
      refine lv_iconst (v := Int32.ofInt (0)) hx hb dX12_next_69 (by decide) ?_
      refine r_puti E hK hP hD hS 72 (by decide) mf_693 rfl rfl (by decide +kernel) (sp_72 h0 ad cI cJ cB cZ _ _) dX12_next_70 (fun H locs hP hD hS => ?_)
      refine lv_goto (tgt := 274) hx hb dX12_next_73 (by decide) ?_
      have hpost : (∀ j : Nat, j ≠ 70 → j ≠ 71 → j ≠ 72 → j ≠ 73 → (fup (fup (fup (fup (fup F 70 (0 + 0)) 71 1) 73 0) 71 0) 72 0) j = F j) ∧ (fup (fup (fup (fup (fup F 70 (0 + 0)) 71 1) 73 0) 71 0) 72 0) 70 = 0 ∧ (fup (fup (fup (fup (fup F 70 (0 + 0)) 71 1) 73 0) 71 0) 72 0) 72 = 0 := ⟨fun j a b c d => (fup_ne _ _ c).trans ((fup_ne _ _ b).trans ((fup_ne _ _ d).trans ((fup_ne _ _ b).trans (fup_ne _ _ a)))), rfl, rfl⟩
      exact W.vret hx hb hr (fun t ht hW => ⟨⟨((fup (fup (fup (fup (fup F 70 (0 + 0)) 71 1) 73 0) 71 0) 72 0), ar), rfl, hpost, by rw [ht]; exact hP, va_K.moved hW.alike hK, hD⟩, hS.F ht⟩) hS.2.2 dX12_next_274
  · omega
set_option maxHeartbeats 4000000 in
set_option maxRecDepth 100000 in
theorem c_open {l : Launch} {dC : Nat → ClassId} {dI : Nat → Nat → Nat} {h0 : Nat} {ad : Nat → Nat} {cI cJ cB cZ : Nat} {F : Nat → Int} {ar : Nat → Int → Int} {sz : Nat}  (t8 : F 80 = -1) (t7 : F 72 = 0) : Met l yX12_open (Cond.code yX12_open cX12_open 3 none :: w0r) (rRm 1 60) (rPc dC dI h0 ad cI cJ cB cZ F ar sz [Iz (0), Iz (0)]) (rQv dC dI h0 ad cI cJ cB cZ sz (fun F' ar' => (∀ j : Nat, j ≠ 80 → F' j = F j))) 0 0 (rA h0 ad sz) := by
  refine Met.ofW (cc := cX12_open) (maxL := 3) (ret := none) (by decide) rfl ?_
  intro p e s m args below meth c s₁ B hml hv
  obtain ⟨rfl, hsz, hP, hK, hD0⟩ := hv
  have hx := B.exec
  have hb := B.bytes
  have hr := B.returns
  have hts := atoms_spec (ws := Cond.code yX12_open cX12_open 3 none :: w0r) B.pre
  have hown : s.vm.findClass RX12 = some m.cls := findClass_of_methodNamed B.named
  have hlocks := B.notSynchronized
  have E : CallFix p m c cX12_open 3 s _ (Cond.code yX12_open cX12_open 3 none :: w0r) RX12 := ⟨hx, hb, hml, hown, hts⟩
  subst hsz
  have hD := rA_self s.heap.size hD0
  have hA : ∀ q : Nat, s.heap.size ≤ q → rA h0 ad s.heap.size q := fun q h => Or.inr h
  have hS : va_S (rA h0 ad s.heap.size) s.heap s.heap [] := va_S.rf
  have hl := lv_entry ([.ref h0, Iz (0), Iz (0)]) (n := 3) (Nat.le_of_ble_eq_true rfl)
  rw [lg_entry_eq]
  generalize (lg_sl ([.ref h0, Iz (0), Iz (0)]) ++ List.replicate (3 - (lg_sl ([.ref h0, Iz (0), Iz (0)])).length) Slot.unset).toArray = ls at hl ⊢
  have hl : lv_has ls 3 [(0, .ref h0), (1, Iz (0)), (2, Iz (0))] := hl
  refine lv_aload_n hx hb dX12_open_0 rfl (lv_at hl 0 rfl) ?_
  refine lv_dup hx hb dX12_open_1 rfl ?_
  refine r_geti E hK hP (k := 80) (v := Iz (F 80)) (by decide) mf_708 rfl rfl dX12_open_2 ?_
  rw [t8]
  refine lv_iconst (v := Int32.ofInt (1)) hx hb dX12_open_5 (by decide) ?_
  refine g_iadd hx hb dX12_open_6 ?_
  refine r_puti E hK hP hD hS 80 (by decide) mf_708 rfl rfl (by decide +kernel) (sp_80 h0 ad cI cJ cB cZ _ _) dX12_open_7 (fun H locs hP hD hS => ?_)
  refine lv_aload_n hx hb dX12_open_10 rfl (lv_at hl 0 rfl) ?_
  refine r_geti E hK hP (k := 75) (v := .ref (ad 75)) (by decide) mf_552 rfl rfl dX12_open_11 ?_
  refine lv_aload_n hx hb dX12_open_14 rfl (lv_at hl 0 rfl) ?_
  refine r_geti E hK hP (k := 80) (v := Iz ((-1) + 1)) (by decide) mf_708 rfl rfl dX12_open_15 ?_
  refine lv_iload_n hx hb dX12_open_18 rfl (lv_at hl 1 rfl) ?_
  refine g_iast (f := (ar 75)) hx hb hK hP hD hS 35 0 rfl rfl (by omega) (by omega) (by decide) dX12_open_19 (fun H locs hP hD hS => ?_)
  rw [sa_75] at hP hD
  refine lv_aload_n hx hb dX12_open_20 rfl (lv_at hl 0 rfl) ?_
  refine r_geti E hK hP (k := 76) (v := .ref (ad 76)) (by decide) mf_555 rfl rfl dX12_open_21 ?_
  refine lv_aload_n hx hb dX12_open_24 rfl (lv_at hl 0 rfl) ?_
  refine r_geti E hK hP (k := 80) (v := Iz ((-1) + 1)) (by decide) mf_708 rfl rfl dX12_open_25 ?_
  refine lv_iload_n hx hb dX12_open_28 rfl (lv_at hl 2 rfl) ?_
  refine g_iast (f := (ar 76)) hx hb hK hP hD hS 36 0 rfl rfl (by omega) (by omega) (by decide) dX12_open_29 (fun H locs hP hD hS => ?_)
  rw [sa_76] at hP hD
  refine lv_aload_n hx hb dX12_open_30 rfl (lv_at hl 0 rfl) ?_
  refine r_geti E hK hP (k := 77) (v := .ref (ad 77)) (by decide) mf_558 rfl rfl dX12_open_31 ?_
  refine lv_aload_n hx hb dX12_open_34 rfl (lv_at hl 0 rfl) ?_
  refine r_geti E hK hP (k := 80) (v := Iz ((-1) + 1)) (by decide) mf_708 rfl rfl dX12_open_35 ?_
  refine lv_iconst (v := Int32.ofInt (0)) hx hb dX12_open_38 (by decide) ?_
  refine g_iast (f := (ar 77)) hx hb hK hP hD hS 37 0 rfl rfl (by omega) (by omega) (by decide) dX12_open_39 (fun H locs hP hD hS => ?_)
  rw [sa_77] at hP hD
  refine lv_aload_n hx hb dX12_open_40 rfl (lv_at hl 0 rfl) ?_
  refine r_geti E hK hP (k := 79) (v := .ref (ad 79)) (by decide) mf_565 rfl rfl dX12_open_41 ?_
  refine lv_aload_n hx hb dX12_open_44 rfl (lv_at hl 0 rfl) ?_
  refine r_geti E hK hP (k := 80) (v := Iz ((-1) + 1)) (by decide) mf_708 rfl rfl dX12_open_45 ?_
  refine lv_iconst (v := Int32.ofInt (0)) hx hb dX12_open_48 (by decide) ?_
  refine g_iast (f := (ar 79)) hx hb hK hP hD hS 39 0 rfl rfl (by omega) (by omega) (by decide) dX12_open_49 (fun H locs hP hD hS => ?_)
  rw [sa_79] at hP hD
  refine lv_aload_n hx hb dX12_open_50 rfl (lv_at hl 0 rfl) ?_
  refine r_geti E hK hP (k := 78) (v := .ref (ad 78)) (by decide) mf_561 rfl rfl dX12_open_51 ?_
  refine lv_aload_n hx hb dX12_open_54 rfl (lv_at hl 0 rfl) ?_
  refine r_geti E hK hP (k := 80) (v := Iz ((-1) + 1)) (by decide) mf_708 rfl rfl dX12_open_55 ?_
  refine lv_aload_n hx hb dX12_open_58 rfl (lv_at hl 0 rfl) ?_
  refine r_geti E hK hP (k := 72) (v := Iz (F 72)) (by decide) mf_693 rfl rfl dX12_open_59 ?_
  rw [t7]
  refine lv_bipush (v := Int32.ofInt (45)) hx hb dX12_open_62 (by decide) ?_
  refine g_icmp_ne (tgt := 71) hx hb (by first | assumption | exact ⟨by omega, by omega⟩ | exact Hh _) (by first | assumption | exact ⟨by omega, by omega⟩ | exact Hh _) dX12_open_64 (by decide) (fun c_64 => ?_) (fun c_64 => ?_)
  · skip
    refine lv_iconst (v := Int32.ofInt (0)) hx hb dX12_open_71 (by decide) ?_
    refine r_zast (f := (ar 78)) (z := (-1) + 1) (v := 0) hx hb hK hP hD hS 78 38 rfl (sa_78 h0 ad cI cJ cB cZ _ _) (by decide) (by omega) (by omega) (by decide) dX12_open_72 (fun H locs hP hD hS => ?_)
    refine lv_aload_n hx hb dX12_open_73 rfl (lv_at hl 0 rfl) ?_
    refine r_geti E hK hP (k := 78) (v := .ref (ad 78)) (by decide) mf_561 rfl rfl dX12_open_74 ?_
    refine lv_aload_n hx hb dX12_open_77 rfl (lv_at hl 0 rfl) ?_
    refine r_geti E hK hP (k := 80) (v := Iz ((-1) + 1)) (by decide) mf_708 rfl rfl dX12_open_78 ?_
    refine r_zald (f := (iup (ar 78) ((-1) + 1) 0)) (z := (-1) + 1) hx hb hK hP 78 38 rfl (by omega) (by omega) (by decide) dX12_open_81 ?_
    rw [iup_self]
    refine g_if_eq (tgt := 89) hx hb (by first | assumption | exact ⟨by omega, by omega⟩ | exact Hh _) dX12_open_82 (by decide) (fun c_82 => ?_) (fun c_82 => ?_)
    · skip
      have hpost : (∀ j : Nat, j ≠ 80 → (fup F 80 ((-1) + 1)) j = F j) := fun j a => fup_ne _ _ a
      exact W.vret hx hb hr (fun t ht hW => ⟨⟨((fup F 80 ((-1) + 1)), (aup (aup (aup (aup (aup ar 75 (iup (ar 75) ((-1) + 1) 0)) 76 (iup (ar 76) ((-1) + 1) 0)) 77 (iup (ar 77) ((-1) + 1) 0)) 79 (iup (ar 79) ((-1) + 1) 0)) 78 (iup (ar 78) ((-1) + 1) 0))), rfl, hpost, by rw [ht]; exact hP, va_K.moved hW.alike hK, hD⟩, hS.F ht⟩) hS.2.2 dX12_open_89
    · omega
  · omega
set_option maxHeartbeats 4000000 in
set_option maxRecDepth 100000 in
theorem c_readAtom {l : Launch} {dC : Nat → ClassId} {dI : Nat → Nat → Nat} {h0 : Nat} {ad : Nat → Nat} {cI cJ cB cZ : Nat} {F : Nat → Int} {ar : Nat → Int → Int} {sz : Nat}  (t7 : F 72 = 0) : Met l yX12_readAtom (Cond.code yX12_readAtom cX12_readAtom 5 (some .boolean) :: w0r) (rRm 3 100) (rPc dC dI h0 ad cI cJ cB cZ F ar sz []) (rQi dC dI h0 ad cI cJ cB cZ sz (fun z F' ar' => z = 0 ∧ (∀ j : Nat, j ≠ 74 → F' j = F j) ∧ F' 74 = 1)) 0 0 (rA h0 ad sz) := by
  refine Met.ofW (cc := cX12_readAtom) (maxL := 5) (ret := (some .boolean)) (by decide) rfl ?_
  intro p e s m args below meth c s₁ B hml hv
  obtain ⟨rfl, hsz, hP, hK, hD0⟩ := hv
  have hx := B.exec
  have hb := B.bytes
  have hr := B.returns
  have hts := atoms_spec (ws := Cond.code yX12_readAtom cX12_readAtom 5 (some .boolean) :: w0r) B.pre
  have hown : s.vm.findClass RX12 = some m.cls := findClass_of_methodNamed B.named
  have hlocks := B.notSynchronized
  have E : CallFix p m c cX12_readAtom 5 s _ (Cond.code yX12_readAtom cX12_readAtom 5 (some .boolean) :: w0r) RX12 := ⟨hx, hb, hml, hown, hts⟩
  subst hsz
  have hD := rA_self s.heap.size hD0
  have hA : ∀ q : Nat, s.heap.size ≤ q → rA h0 ad s.heap.size q := fun q h => Or.inr h
  have hS : va_S (rA h0 ad s.heap.size) s.heap s.heap [] := va_S.rf
  have hl := lv_entry ([.ref h0]) (n := 5) (Nat.le_of_ble_eq_true rfl)
  rw [lg_entry_eq]
  generalize (lg_sl ([.ref h0]) ++ List.replicate (5 - (lg_sl ([.ref h0])).length) Slot.unset).toArray = ls at hl ⊢
  have hl : lv_has ls 5 [(0, .ref h0)] := hl
  refine lv_aload_n hx hb dX12_readAtom_0 rfl (lv_at hl 0 rfl) ?_
  refine r_geti E hK hP (k := 72) (v := Iz (F 72)) (by decide) mf_693 rfl rfl dX12_readAtom_1 ?_
  rw [t7]
  refine lv_iconst (v := Int32.ofInt (1)) hx hb dX12_readAtom_4 (by decide) ?_
  refine g_icmp_ne (tgt := 24) hx hb (by first | assumption | exact ⟨by omega, by omega⟩ | exact Hh _) (by first | assumption | exact ⟨by omega, by omega⟩ | exact Hh _) dX12_readAtom_5 (by decide) (fun c_5 => ?_) (fun c_5 => ?_)
  · skip
    refine lv_aload_n hx hb dX12_readAtom_24 rfl (lv_at hl 0 rfl) ?_
    refine r_geti E hK hP (k := 72) (v := Iz (F 72)) (by decide) mf_693 rfl rfl dX12_readAtom_25 ?_
    rw [t7]
    refine lv_bipush (v := Int32.ofInt (64)) hx hb dX12_readAtom_28 (by decide) ?_
    refine g_icmp_ne (tgt := 56) hx hb (by first | assumption | exact ⟨by omega, by omega⟩ | exact Hh _) (by first | assumption | exact ⟨by omega, by omega⟩ | exact Hh _) dX12_readAtom_30 (by decide) (fun c_30 => ?_) (fun c_30 => ?_)
    · skip
      refine lv_aload_n hx hb dX12_readAtom_56 rfl (lv_at hl 0 rfl) ?_
      refine r_geti E hK hP (k := 72) (v := Iz (F 72)) (by decide) mf_693 rfl rfl dX12_readAtom_57 ?_
      rw [t7]
      refine lv_bipush (v := Int32.ofInt (115)) hx hb dX12_readAtom_60 (by decide) ?_
      refine g_icmp_eq (tgt := 74) hx hb (by first | assumption | exact ⟨by omega, by omega⟩ | exact Hh _) (by first | assumption | exact ⟨by omega, by omega⟩ | exact Hh _) dX12_readAtom_62 (by decide) (fun c_62 => ?_) (fun c_62 => ?_)
      · omega
      · skip
        refine lv_aload_n hx hb dX12_readAtom_65 rfl (lv_at hl 0 rfl) ?_
        refine r_geti E hK hP (k := 72) (v := Iz (F 72)) (by decide) mf_693 rfl rfl dX12_readAtom_66 ?_
        rw [t7]
        refine lv_bipush (v := Int32.ofInt (99)) hx hb dX12_readAtom_69 (by decide) ?_
        refine g_icmp_ne (tgt := 183) hx hb (by first | assumption | exact ⟨by omega, by omega⟩ | exact Hh _) (by first | assumption | exact ⟨by omega, by omega⟩ | exact Hh _) dX12_readAtom_71 (by decide) (fun c_71 => ?_) (fun c_71 => ?_)
        · skip
          refine lv_aload_n hx hb dX12_readAtom_183 rfl (lv_at hl 0 rfl) ?_
          refine r_geti E hK hP (k := 72) (v := Iz (F 72)) (by decide) mf_693 rfl rfl dX12_readAtom_184 ?_
          rw [t7]
          refine lv_bipush (v := Int32.ofInt (40)) hx hb dX12_readAtom_187 (by decide) ?_
          refine g_icmp_eq (tgt := 201) hx hb (by first | assumption | exact ⟨by omega, by omega⟩ | exact Hh _) (by first | assumption | exact ⟨by omega, by omega⟩ | exact Hh _) dX12_readAtom_189 (by decide) (fun c_189 => ?_) (fun c_189 => ?_)
          · omega
          · skip
            refine lv_aload_n hx hb dX12_readAtom_192 rfl (lv_at hl 0 rfl) ?_
            refine r_geti E hK hP (k := 72) (v := Iz (F 72)) (by decide) mf_693 rfl rfl dX12_readAtom_193 ?_
            rw [t7]
            refine lv_bipush (v := Int32.ofInt (91)) hx hb dX12_readAtom_196 (by decide) ?_
            refine g_icmp_ne (tgt := 256) hx hb (by first | assumption | exact ⟨by omega, by omega⟩ | exact Hh _) (by first | assumption | exact ⟨by omega, by omega⟩ | exact Hh _) dX12_readAtom_198 (by decide) (fun c_198 => ?_) (fun c_198 => ?_)
            · skip
              refine lv_aload_n hx hb dX12_readAtom_256 rfl (lv_at hl 0 rfl) ?_
              refine lv_iconst (v := Int32.ofInt (1)) hx hb dX12_readAtom_257 (by decide) ?_
              refine r_putz E hK hP hD hS 74 (by decide) mf_702 rfl rfl (by decide +kernel) (sp_74 h0 ad cI cJ cB cZ _ _) rfl rfl dX12_readAtom_258 (fun H locs hP hD hS => ?_)
              refine lv_iconst (v := Int32.ofInt (0)) hx hb dX12_readAtom_261 (by decide) ?_
              have hpost : (0 : Int) = 0 ∧ (∀ j : Nat, j ≠ 74 → (fup F 74 1) j = F j) ∧ (fup F 74 1) 74 = 1 := ⟨rfl, fun j a => fup_ne _ _ a, rfl⟩
              exact W.zret (v := Int32.ofInt (0)) hx hb hr rfl (fun t ht hW => ⟨⟨_, ((fup F 74 1), ar), rfl, ⟨_, rfl, hpost⟩, by rw [ht]; exact hP, va_K.moved hW.alike hK, hD⟩, hS.F ht⟩) hS.2.2 dX12_readAtom_262
            · omega
        · omega
    · omega
  · omega
set_option maxHeartbeats 4000000 in
set_option maxRecDepth 100000 in
theorem c_readText {l : Launch} {dC : Nat → ClassId} {dI : Nat → Nat → Nat} {h0 : Nat} {ad : Nat → Nat} {cI cJ cB cZ : Nat} {F : Nat → Int} {ar : Nat → Int → Int} {sz : Nat}  (t5 : F 55 = 0) : Met l yX12_readText (Cond.code yX12_readText cX12_readText 4 none :: w0r) (rRm 4 130) (rPc dC dI h0 ad cI cJ cB cZ F ar sz []) (rQv dC dI h0 ad cI cJ cB cZ sz (fun F' ar' => F' 74 = 1 ∧ F' 70 = 0 ∧ F' 0 = F 0)) 0 0 (rA h0 ad sz) := by
  refine Met.ofW (cc := cX12_readText) (maxL := 4) (ret := none) (by decide) rfl ?_
  intro p e s m args below meth c s₁ B hml hv
  obtain ⟨rfl, hsz, hP, hK, hD0⟩ := hv
  have hx := B.exec
  have hb := B.bytes
  have hr := B.returns
  have hts := atoms_spec (ws := Cond.code yX12_readText cX12_readText 4 none :: w0r) B.pre
  have hown : s.vm.findClass RX12 = some m.cls := findClass_of_methodNamed B.named
  have hlocks := B.notSynchronized
  have E : CallFix p m c cX12_readText 4 s _ (Cond.code yX12_readText cX12_readText 4 none :: w0r) RX12 := ⟨hx, hb, hml, hown, hts⟩
  subst hsz
  have hD := rA_self s.heap.size hD0
  have hA : ∀ q : Nat, s.heap.size ≤ q → rA h0 ad s.heap.size q := fun q h => Or.inr h
  have hS : va_S (rA h0 ad s.heap.size) s.heap s.heap [] := va_S.rf
  have hl := lv_entry ([.ref h0]) (n := 4) (Nat.le_of_ble_eq_true rfl)
  rw [lg_entry_eq]
  generalize (lg_sl ([.ref h0]) ++ List.replicate (4 - (lg_sl ([.ref h0])).length) Slot.unset).toArray = ls at hl ⊢
  have hl : lv_has ls 4 [(0, .ref h0)] := hl
  refine lv_aload_n hx hb dX12_readText_0 rfl (lv_at hl 0 rfl) ?_
  refine lv_iconst (v := Int32.ofInt (0)) hx hb dX12_readText_1 (by decide) ?_
  refine r_puti E hK hP hD hS 70 (by decide) mf_684 rfl rfl (by decide +kernel) (sp_70 h0 ad cI cJ cB cZ _ _) dX12_readText_2 (fun H locs hP hD hS => ?_)
  refine lv_aload_n hx hb dX12_readText_5 rfl (lv_at hl 0 rfl) ?_
  refine lv_iconst (v := Int32.ofInt (0)) hx hb dX12_readText_6 (by decide) ?_
  refine r_puti E hK hP hD hS 71 (by decide) mf_687 rfl rfl (by decide +kernel) (sp_71 h0 ad cI cJ cB cZ _ _) dX12_readText_7 (fun H locs hP hD hS => ?_)
  refine lv_aload_n hx hb dX12_readText_10 rfl (lv_at hl 0 rfl) ?_
  refine lv_iconst (v := Int32.ofInt (0)) hx hb dX12_readText_11 (by decide) ?_
  refine r_putz E hK hP hD hS 74 (by decide) mf_702 rfl rfl (by decide +kernel) (sp_74 h0 ad cI cJ cB cZ _ _) rfl rfl dX12_readText_12 (fun H locs hP hD hS => ?_)
  refine lv_aload_n hx hb dX12_readText_15 rfl (lv_at hl 0 rfl) ?_
  refine lv_iconst (v := Int32.ofInt (0)) hx hb dX12_readText_16 (by decide) ?_
  refine r_puti E hK hP hD hS 69 (by decide) mf_699 rfl rfl (by decide +kernel) (sp_69 h0 ad cI cJ cB cZ _ _) dX12_readText_17 (fun H locs hP hD hS => ?_)
  refine lv_aload_n hx hb dX12_readText_20 rfl (lv_at hl 0 rfl) ?_
  refine lv_iconst (v := Int32.ofInt (-1)) hx hb dX12_readText_21 (by decide) ?_
  refine r_puti E hK hP hD hS 80 (by decide) mf_708 rfl rfl (by decide +kernel) (sp_80 h0 ad cI cJ cB cZ _ _) dX12_readText_22 (fun H locs hP hD hS => ?_)
  refine lv_aload_n hx hb dX12_readText_25 rfl (lv_at hl 0 rfl) ?_
  refine r_callv (As := []) (rest := []) E (c_next (F := (fup (fup (fup (fup (fup F 70 0) 71 0) 74 0) 69 0) 80 (-1))) (ar := ar) rfl rfl t5) (cwV 0 hts (rGood ml_705 mi_next ms_next mn_RX12 mc_next) rfl rfl rfl (by decide +kernel) ⟨Nat.le_of_ble_eq_true rfl, Nat.le_of_ble_eq_true rfl⟩) hK hP hD hS hA rfl hl.1 (Nat.le_of_ble_eq_true rfl) dX12_readText_26 ⟨Nat.le_refl 0, Nat.le_refl 0⟩ (fun F26 ar26 H locs q26 hP hD hS => ?_)
  obtain ⟨n1, n2, n3⟩ := q26
  refine lv_aload_n hx hb dX12_readText_29 rfl (lv_at hl 0 rfl) ?_
  refine lv_iconst (v := Int32.ofInt (0)) hx hb dX12_readText_30 (by decide) ?_
  refine lv_iconst (v := Int32.ofInt (0)) hx hb dX12_readText_31 (by decide) ?_
  refine r_callv (As := [Iz (0), Iz (0)]) (rest := []) E (c_open (F := F26) (ar := ar26) ((n1 80 (by decide) (by decide) (by decide) (by decide)).trans rfl) n3) (cwV 2 hts (rGood ml_722 mi_open ms_open mn_RX12 mc_open) rfl rfl rfl (by decide +kernel) ⟨Nat.le_of_ble_eq_true rfl, Nat.le_of_ble_eq_true rfl⟩) hK hP hD hS hA rfl hl.1 (Nat.le_of_ble_eq_true rfl) dX12_readText_32 ⟨Nat.le_refl 0, Nat.le_refl 0⟩ (fun F32 ar32 H locs q32 hP hD hS => ?_)
  have w32 : F32 74 = 0 := (q32 74 (by decide)).trans ((n1 74 (by decide) (by decide) (by decide) (by decide)).trans rfl)
  refine lv_iconst (v := Int32.ofInt (1)) hx hb dX12_readText_35 (by decide) ?_
  refine lv_istore_n (lv' := [(1, Iz (1)), (0, .ref h0)]) hx hb dX12_readText_36 rfl hl (by decide) rfl (fun ls hl => ?_)
  refine lv_iload_n hx hb dX12_readText_37 rfl (lv_at hl 0 rfl) ?_
  refine g_if_eq (tgt := 177) hx hb (by first | assumption | exact ⟨by omega, by omega⟩ | exact Hh _) dX12_readText_38 (by decide) (fun c_38 => ?_) (fun c_38 => ?_)
  · omega
  · skip
    refine lv_aload_n hx hb dX12_readText_41 rfl (lv_at hl 1 rfl) ?_
    refine r_geti E hK hP (k := 74) (v := Iz (F32 74)) (by decide) mf_702 rfl rfl dX12_readText_42 ?_
    first | rw [w32] | rw [a2]
    refine g_if_ne (tgt := 177) hx hb (by first | assumption | exact ⟨by omega, by omega⟩ | exact Hh _) dX12_readText_45 (by decide) (fun c_45 => ?_) (fun c_45 => ?_)
    · omega
    · skip
      refine lv_aload_n hx hb dX12_readText_48 rfl (lv_at hl 1 rfl) ?_
      refine r_calli (As := []) (rest := []) E (c_readAtom (F := F32) (ar := ar32) ((q32 72 (by decide)).trans n3)) (cwV 0 hts (rGood ml_725 mi_readAtom ms_readAtom mn_RX12 mc_readAtom) rfl rfl rfl (by decide +kernel) ⟨Nat.le_of_ble_eq_true rfl, Nat.le_of_ble_eq_true rfl⟩) hK hP hD hS hA rfl hl.1 (Nat.le_of_ble_eq_true rfl) dX12_readText_49 ⟨Nat.le_refl 0, Nat.le_refl 0⟩ (fun z49 F49 ar49 H locs q49 hP hD hS => ?_)
      obtain ⟨rfl, a1, a2⟩ := q49
      refine lv_istore_n (lv' := [(2, Iz (0)), (1, Iz (1)), (0, .ref h0)]) hx hb dX12_readText_52 rfl hl (by decide) rfl (fun ls hl => ?_)
      refine lv_iload_n hx hb dX12_readText_53 rfl (lv_at hl 0 rfl) ?_
      refine g_if_eq (tgt := 174) hx hb (by first | assumption | exact ⟨by omega, by omega⟩ | exact Hh _) dX12_readText_54 (by decide) (fun c_54 => ?_) (fun c_54 => ?_)
      · skip
        refine lv_goto (tgt := 37) hx hb dX12_readText_174 (by decide) ?_
        refine lv_iload_n hx hb dX12_readText_37 rfl (lv_at hl 1 rfl) ?_
        refine g_if_eq (tgt := 177) hx hb (by first | assumption | exact ⟨by omega, by omega⟩ | exact Hh _) dX12_readText_38 (by decide) (fun c_38 => ?_) (fun c_38 => ?_)
        · omega
        · skip
          refine lv_aload_n hx hb dX12_readText_41 rfl (lv_at hl 2 rfl) ?_
          refine r_geti E hK hP (k := 74) (v := Iz (F49 74)) (by decide) mf_702 rfl rfl dX12_readText_42 ?_
          first | rw [w32] | rw [a2]
          refine g_if_ne (tgt := 177) hx hb (by first | assumption | exact ⟨by omega, by omega⟩ | exact Hh _) dX12_readText_45 (by decide) (fun c_45 => ?_) (fun c_45 => ?_)
          · skip
            have hpost : F49 74 = 1 ∧ F49 70 = 0 ∧ F49 0 = F 0 := ⟨a2, (a1 70 (by decide)).trans ((q32 70 (by decide)).trans n2), (a1 0 (by decide)).trans ((q32 0 (by decide)).trans ((n1 0 (by decide) (by decide) (by decide) (by decide)).trans rfl))⟩
            exact W.vret hx hb hr (fun t ht hW => ⟨⟨(F49, ar49), rfl, hpost, by rw [ht]; exact hP, va_K.moved hW.alike hK, hD⟩, hS.F ht⟩) hS.2.2 dX12_readText_177
          · omega
      · omega
set_option maxHeartbeats 4000000 in
set_option maxRecDepth 100000 in
theorem c_read {l : Launch} {dC : Nat → ClassId} {dI : Nat → Nat → Nat} {h0 : Nat} {ad : Nat → Nat} {cI cJ cB cZ : Nat} {F : Nat → Int} {ar : Nat → Int → Int} {sz : Nat}  (t0 : F 53 = 0) : Met l yX12_read (Cond.code yX12_read cX12_read 2 (some .int) :: w0r) (rRm 5 160) (rPc dC dI h0 ad cI cJ cB cZ F ar sz []) (rQi dC dI h0 ad cI cJ cB cZ sz (fun z F' ar' => z = -1000 ∧ F' 0 = 0)) 0 0 (rA h0 ad sz) := by
  refine Met.ofW (cc := cX12_read) (maxL := 2) (ret := (some .int)) (by decide) rfl ?_
  intro p e s m args below meth c s₁ B hml hv
  obtain ⟨rfl, hsz, hP, hK, hD0⟩ := hv
  have hx := B.exec
  have hb := B.bytes
  have hr := B.returns
  have hts := atoms_spec (ws := Cond.code yX12_read cX12_read 2 (some .int) :: w0r) B.pre
  have hown : s.vm.findClass RX12 = some m.cls := findClass_of_methodNamed B.named
  have hlocks := B.notSynchronized
  have E : CallFix p m c cX12_read 2 s _ (Cond.code yX12_read cX12_read 2 (some .int) :: w0r) RX12 := ⟨hx, hb, hml, hown, hts⟩
  subst hsz
  have hD := rA_self s.heap.size hD0
  have hA : ∀ q : Nat, s.heap.size ≤ q → rA h0 ad s.heap.size q := fun q h => Or.inr h
  have hS : va_S (rA h0 ad s.heap.size) s.heap s.heap [] := va_S.rf
  have hl := lv_entry ([.ref h0]) (n := 2) (Nat.le_of_ble_eq_true rfl)
  rw [lg_entry_eq]
  generalize (lg_sl ([.ref h0]) ++ List.replicate (2 - (lg_sl ([.ref h0])).length) Slot.unset).toArray = ls at hl ⊢
  have hl : lv_has ls 2 [(0, .ref h0)] := hl
  refine lv_aload_n hx hb dX12_read_0 rfl (lv_at hl 0 rfl) ?_
  refine lv_iconst (v := Int32.ofInt (0)) hx hb dX12_read_1 (by decide) ?_
  refine r_puti E hK hP hD hS 0 (by decide) mf_1 rfl rfl (by decide +kernel) (sp_0 h0 ad cI cJ cB cZ _ _) dX12_read_2 (fun H locs hP hD hS => ?_)
  refine lv_aload_n hx hb dX12_read_5 rfl (lv_at hl 0 rfl) ?_
  refine lv_aload_n hx hb dX12_read_6 rfl (lv_at hl 0 rfl) ?_
  refine r_geti E hK hP (k := 53) (v := Iz (F 53)) (by decide) mf_671 rfl rfl dX12_read_7 ?_
  rw [t0]
  refine r_puti E hK hP hD hS 55 (by decide) mf_674 rfl rfl (by decide +kernel) (sp_55 h0 ad cI cJ cB cZ _ _) dX12_read_10 (fun H locs hP hD hS => ?_)
  refine lv_aload_n hx hb dX12_read_13 rfl (lv_at hl 0 rfl) ?_
  refine lv_iconst (v := Int32.ofInt (0)) hx hb dX12_read_14 (by decide) ?_
  refine r_puti E hK hP hD hS 53 (by decide) mf_671 rfl rfl (by decide +kernel) (sp_53 h0 ad cI cJ cB cZ _ _) dX12_read_15 (fun H locs hP hD hS => ?_)
  refine lv_iconst (v := Int32.ofInt (0)) hx hb dX12_read_18 (by decide) ?_
  refine lv_istore_n (lv' := [(1, Iz (0)), (0, .ref h0)]) hx hb dX12_read_19 rfl hl (by decide) rfl (fun ls hl => ?_)
  refine lv_iload_n hx hb dX12_read_20 rfl (lv_at hl 0 rfl) ?_
  refine lv_aload_n hx hb dX12_read_21 rfl (lv_at hl 1 rfl) ?_
  refine r_geti E hK hP (k := 55) (v := Iz (0)) (by decide) mf_674 rfl rfl dX12_read_22 ?_
  refine g_icmp_ge (tgt := 46) hx hb (by first | assumption | exact ⟨by omega, by omega⟩ | exact Hh _) (by first | assumption | exact ⟨by omega, by omega⟩ | exact Hh _) dX12_read_25 (by decide) (fun c_25 => ?_) (fun c_25 => ?_)
  · skip
    refine lv_aload_n hx hb dX12_read_46 rfl (lv_at hl 1 rfl) ?_
    refine r_callv (As := []) (rest := []) E (c_readText (F := (fup (fup (fup F 0 0) 55 0) 53 0)) (ar := ar) rfl) (cwV 0 hts (rGood ml_735 mi_readText ms_readText mn_RX12 mc_readText) rfl rfl rfl (by decide +kernel) ⟨Nat.le_of_ble_eq_true rfl, Nat.le_of_ble_eq_true rfl⟩) hK hP hD hS hA rfl hl.1 (Nat.le_of_ble_eq_true rfl) dX12_read_47 ⟨Nat.le_refl 0, Nat.le_refl 0⟩ (fun F47 ar47 H locs q47 hP hD hS => ?_)
    obtain ⟨r1, r2, r3⟩ := q47
    refine lv_aload_n hx hb dX12_read_50 rfl (lv_at hl 1 rfl) ?_
    refine r_geti E hK hP (k := 74) (v := Iz (F47 74)) (by decide) mf_702 rfl rfl dX12_read_51 ?_
    rw [r1]
    refine g_if_eq (tgt := 66) hx hb (by first | assumption | exact ⟨by omega, by omega⟩ | exact Hh _) dX12_read_54 (by decide) (fun c_54 => ?_) (fun c_54 => ?_)
    · omega
    · skip
      refine lv_sipush (v := Int32.ofInt (-1000)) hx hb dX12_read_57 (by decide) ?_
      refine lv_aload_n hx hb dX12_read_60 rfl (lv_at hl 1 rfl) ?_
      refine r_geti E hK hP (k := 70) (v := Iz (F47 70)) (by decide) mf_684 rfl rfl dX12_read_61 ?_
      rw [r2]
      refine g_isub hx hb dX12_read_64 ?_
      have hpost : ((-1000) - 0 : Int) = -1000 ∧ F47 0 = 0 := ⟨by omega, r3⟩
      exact W.iret (v := Int32.ofInt ((-1000) - 0)) hx hb hr (fun t ht hW => ⟨⟨_, (F47, ar47), rfl, ⟨_, rfl, hpost⟩, by rw [ht]; exact hP, va_K.moved hW.alike hK, hD⟩, hS.F ht⟩) hS.2.2 dX12_read_65
  · omega
