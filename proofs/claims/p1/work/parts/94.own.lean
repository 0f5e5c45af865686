set_option maxHeartbeats 4000000 in
set_option maxRecDepth 100000 in
theorem k8_take {l : Launch} {dC : Nat → ClassId} {dI : Nat → Nat → Nat} {cx : Nat → Nat} {LB : List Nat} {LP : List Nat} {pc_ : Nat → Nat} {pd : Nat → Int} {co : Nat → Nat → Nat} {X : va_W} {dd : Nat → Nat} {nn ss : Nat → Int} {ll : Nat → Nat} {gg : Nat → Int → Int} {H0 : Heap} {tx xp xw xk xf xs xb : Nat} {sz lng sp_ ps tok pla nm wr hd_ : Int} {ft : Int → Int} {ia : Int}  (h_tx : (tx, (.inr (8, [.ref xp, .ref xw, Iz (sz), Iz (lng), Iz (sp_), .ref xk, .ref xf, .ref xs, Iz (ps), Iz (tok), Iz (pla), Iz (nm), Iz (wr), Iz (hd_), .ref xb]) : va_E)) ∈ X) (h_xp : (xp, (.inl (cx 0, 300, .inl (im ft)) : va_E)) ∈ X) (z0 : 0 ≤ sz) (z1 : sz ≤ 296) : Met l yX8_take (Cond.code yX8_take cX8_take 3 none :: w0c) (eRm 0 0 LB ll 0 0) (cPc dC dI cx LB (pW cx LP pc_ pd co X) dd nn ss ll gg H0 [.ref tx, Iz (ia)]) (eQv dC dI cx LB (va_A (bW (cx 0) LB dd nn ss ll gg (pW cx LP pc_ pd co X)) H0.size) ll H0 0 0 (fun X' dd' nn' ss' ll' gg' => ∃ (X2' : va_W) (ft' : Int → Int), X' = pW cx LP pc_ pd co X2' ∧ dd' = dd ∧ nn' = nn ∧ ss' = ss ∧ ll' = ll ∧ gg' = gg ∧ (tx, (.inr (8, [.ref xp, .ref xw, Iz (sz + 4), Iz (lng), Iz (sp_), .ref xk, .ref xf, .ref xs, Iz (ps), Iz (tok), Iz (pla), Iz (nm), Iz (wr), Iz (hd_), .ref xb]) : va_E)) ∈ X2' ∧ (xp, (.inl (cx 0, 300, .inl (im ft')) : va_E)) ∈ X2' ∧ (∀ q ∈ X, q.1 ≠ tx → q.1 ≠ xp → q ∈ X2'))) (cMc LB ll + 0) (2 * cMc LB ll + 0) (va_A (bW (cx 0) LB dd nn ss ll gg (pW cx LP pc_ pd co X)) H0.size) := by
  refine Met.ofW (cc := cX8_take) (maxL := 3) (ret := none) (by decide) rfl ?_
  intro p e s m args below meth c s₁ B hml hv
  obtain ⟨rfl, hH0, hP, hK, hD0, hC0⟩ := hv
  have hx := B.exec
  have hb := B.bytes
  have hr := B.returns
  have hts := atoms_spec (ws := Cond.code yX8_take cX8_take 3 none :: w0c) B.pre
  have hown : s.vm.findClass RX8 = some m.cls := findClass_of_methodNamed B.named
  have hlocks := B.notSynchronized
  have E : CallFix p m c cX8_take 3 s _ (Cond.code yX8_take cX8_take 3 none :: w0c) RX8 := ⟨hx, hb, hml, hown, hts⟩
  subst hH0
  have hD := va_D.self (sz := s.heap.size) hD0
  have hA : ∀ q : Nat, s.heap.size ≤ q → va_A (bW (cx 0) LB dd nn ss ll gg (pW cx LP pc_ pd co X)) s.heap.size q := fun q h => Or.inr h
  have hV : cV dC dI cx LB (va_A (bW (cx 0) LB dd nn ss ll gg (pW cx LP pc_ pd co X)) s.heap.size) s.heap ll (pW cx LP pc_ pd co X) dd nn ss ll gg s.heap [] := ⟨hP, hD, va_S.rf, fun _ _ => Nat.le_refl _, hC0⟩
  have hR : (headSpec (Cond.code yX8_take cX8_take 3 none :: w0c) (eRm 0 0 LB ll 0 0)).room.cells = cMc LB ll + 0 ∧ (headSpec (Cond.code yX8_take cX8_take 3 none :: w0c) (eRm 0 0 LB ll 0 0)).room.slots = 2 * cMc LB ll + 0 := ⟨rfl, rfl⟩
  refine W.widen (k := cP LB ll - cP LB ll + 0) (n := 2 * (cP LB ll - cP LB ll) + 0) (Nat.zero_le _) (Nat.zero_le _) ?_
  have hl := lv_entry ([.ref tx, Iz (ia)]) (n := 3) (Nat.le_of_ble_eq_true rfl)
  rw [lg_entry_eq]
  generalize (lg_sl ([.ref tx, Iz (ia)]) ++ List.replicate (3 - (lg_sl ([.ref tx, Iz (ia)])).length) Slot.unset).toArray = ls at hl ⊢
  have hl : lv_has ls 3 [(0, .ref tx), (1, Iz (ia))] := hl
  have kpX : ∀ q ∈ X, q.1 ≠ tx → q.1 ≠ xp → q ∈ X := fun _ h _ _ => h
  have n_tx_xp : tx ≠ xp := y_ne hV h_tx h_xp (fun q => nomatch q)
  refine lv_bipush (v := Int32.ofInt (24)) hx hb dX8_take_0 (by decide) ?_
  refine lv_istore_n (lv' := [(2, Iz (24)), (0, .ref tx), (1, Iz (ia))]) hx hb dX8_take_2 rfl hl (by decide) rfl (fun ls hl => ?_)
  refine lv_iload_n hx hb dX8_take_3 rfl (lv_at hl 0 rfl) ?_
  refine g_if_lt (tgt := 48) hx hb (by first | assumption | exact ⟨by omega, by omega⟩) dX8_take_4 (by decide) (fun c_4 => ?_) (fun c_4 => ?_)
  · omega
  · skip
    refine lv_aload_n hx hb dX8_take_7 rfl (lv_at hl 1 rfl) ?_
    refine x_get E hK hV (ci := 8) (C := RX8) (T := TX8) (N := 15) rfl w0c_in8 (pW_x h_tx) 2 (by decide) rfl cf_8_34 rfl dX8_take_8 ?_
    refine lv_aload_n hx hb dX8_take_11 rfl (lv_at hl 1 rfl) ?_
    refine x_get E hK hV (ci := 8) (C := RX8) (T := TX8) (N := 15) rfl w0c_in8 (pW_x h_tx) 0 (by decide) rfl cf_8_9 rfl dX8_take_12 ?_
    refine y_alen hx hb hK hV (t0 := 0) rfl (pW_x h_xp) dX8_take_15 ?_
    refine g_icmp_ge (tgt := 48) hx hb (by first | assumption | exact ⟨by omega, by omega⟩) (by first | assumption | exact ⟨by omega, by omega⟩) dX8_take_16 (by decide) (fun c_16 => ?_) (fun c_16 => ?_)
    · omega
    · skip
      refine lv_aload_n hx hb dX8_take_19 rfl (lv_at hl 1 rfl) ?_
      refine x_get E hK hV (ci := 8) (C := RX8) (T := TX8) (N := 15) rfl w0c_in8 (pW_x h_tx) 0 (by decide) rfl cf_8_9 rfl dX8_take_20 ?_
      refine lv_aload_n hx hb dX8_take_23 rfl (lv_at hl 1 rfl) ?_
      refine lv_dup hx hb dX8_take_24 rfl ?_
      refine x_get E hK hV (ci := 8) (C := RX8) (T := TX8) (N := 15) rfl w0c_in8 (pW_x h_tx) 2 (by decide) rfl cf_8_34 rfl dX8_take_25 ?_
      refine lv_dup_x1 hx hb dX8_take_28 rfl rfl ?_
      refine lv_iconst (v := Int32.ofInt (1)) hx hb dX8_take_29 (by decide) ?_
      refine g_iadd hx hb dX8_take_30 ?_
      refine y_putV3 E hK hV (ci := 8) (C := RX8) (T := TX8) (N := 15) (ty := tyX8) rfl w0c_in8 tyX8_ok nmX8 h_tx 2 (by decide) (v := Iz (sz + 1)) (Nat.le_of_ble_eq_true rfl) rfl cf_8_34 rfl rfl rfl dX8_take_31 (fun H locs X2_31 h__ kp_ hV => ?_)
      have h_xp := kp_ _ h_xp (Ne.symm n_tx_xp)
      have kpX : ∀ q ∈ X, q.1 ≠ tx → q.1 ≠ xp → q ∈ X2_31 := fun q h nk_tx nk_xp => kp_ q (kpX q h nk_tx nk_xp) nk_tx
      have h_tx : (tx, (.inr (8, [.ref xp, .ref xw, Iz (sz + 1), Iz (lng), Iz (sp_), .ref xk, .ref xf, .ref xs, Iz (ps), Iz (tok), Iz (pla), Iz (nm), Iz (wr), Iz (hd_), .ref xb]) : va_E)) ∈ X2_31 := h__
      refine lv_iload_n hx hb dX8_take_34 rfl (lv_at hl 2 rfl) ?_
      refine lv_iload_n hx hb dX8_take_35 rfl (lv_at hl 0 rfl) ?_
      refine g_iushrX hx hb dX8_take_36 (fun z36 => ?_)
      refine lv_sipush (v := Int32.ofInt (255)) hx hb dX8_take_37 (by decide) ?_
      refine g_iandK (j := 8) hx hb (by decide) (by decide) dX8_take_40 ?_
      refine y_iast3 (z := sz) (v := z36 % 2 ^ 8) hx hb hK hV h_xp (by omega) (by omega) (by decide) dX8_take_41 (fun H locs X2_41_0 h__ kp_ hV => ?_)
      have h_tx := kp_ _ h_tx n_tx_xp
      have kpX : ∀ q ∈ X, q.1 ≠ tx → q.1 ≠ xp → q ∈ X2_41_0 := fun q h nk_tx nk_xp => kp_ q (kpX q h nk_tx nk_xp) nk_xp
      have h_xp := h__
      refine g_iinc (k := 0) (z := 24) (n := (-8)) (lv' := [(2, Iz (24 + (-8))), (0, .ref tx), (1, Iz (ia))]) hx hb dX8_take_42 hl rfl (by decide) rfl (fun ls hl => ?_)
      refine lv_goto (tgt := 3) hx hb dX8_take_45 (by decide) ?_
      refine lv_iload_n hx hb dX8_take_3 rfl (lv_at hl 0 rfl) ?_
      refine g_if_lt (tgt := 48) hx hb (by first | assumption | exact ⟨by omega, by omega⟩) dX8_take_4 (by decide) (fun c_4 => ?_) (fun c_4 => ?_)
      · omega
      · skip
        refine lv_aload_n hx hb dX8_take_7 rfl (lv_at hl 1 rfl) ?_
        refine x_get E hK hV (ci := 8) (C := RX8) (T := TX8) (N := 15) rfl w0c_in8 (pW_x h_tx) 2 (by decide) rfl cf_8_34 rfl dX8_take_8 ?_
        refine lv_aload_n hx hb dX8_take_11 rfl (lv_at hl 1 rfl) ?_
        refine x_get E hK hV (ci := 8) (C := RX8) (T := TX8) (N := 15) rfl w0c_in8 (pW_x h_tx) 0 (by decide) rfl cf_8_9 rfl dX8_take_12 ?_
        refine y_alen hx hb hK hV (t0 := 0) rfl (pW_x h_xp) dX8_take_15 ?_
        refine g_icmp_ge (tgt := 48) hx hb (by first | assumption | exact ⟨by omega, by omega⟩) (by first | assumption | exact ⟨by omega, by omega⟩) dX8_take_16 (by decide) (fun c_16 => ?_) (fun c_16 => ?_)
        · omega
        · skip
          refine lv_aload_n hx hb dX8_take_19 rfl (lv_at hl 1 rfl) ?_
          refine x_get E hK hV (ci := 8) (C := RX8) (T := TX8) (N := 15) rfl w0c_in8 (pW_x h_tx) 0 (by decide) rfl cf_8_9 rfl dX8_take_20 ?_
          refine lv_aload_n hx hb dX8_take_23 rfl (lv_at hl 1 rfl) ?_
          refine lv_dup hx hb dX8_take_24 rfl ?_
          refine x_get E hK hV (ci := 8) (C := RX8) (T := TX8) (N := 15) rfl w0c_in8 (pW_x h_tx) 2 (by decide) rfl cf_8_34 rfl dX8_take_25 ?_
          refine lv_dup_x1 hx hb dX8_take_28 rfl rfl ?_
          refine lv_iconst (v := Int32.ofInt (1)) hx hb dX8_take_29 (by decide) ?_
          refine g_iadd hx hb dX8_take_30 ?_
          refine y_putV3 E hK hV (ci := 8) (C := RX8) (T := TX8) (N := 15) (ty := tyX8) rfl w0c_in8 tyX8_ok nmX8 h_tx 2 (by decide) (v := Iz ((sz + 1) + 1)) (Nat.le_of_ble_eq_true rfl) rfl cf_8_34 rfl rfl rfl dX8_take_31 (fun H locs X2_31 h__ kp_ hV => ?_)
          have h_xp := kp_ _ h_xp (Ne.symm n_tx_xp)
          have kpX : ∀ q ∈ X, q.1 ≠ tx → q.1 ≠ xp → q ∈ X2_31 := fun q h nk_tx nk_xp => kp_ q (kpX q h nk_tx nk_xp) nk_tx
          have h_tx : (tx, (.inr (8, [.ref xp, .ref xw, Iz ((sz + 1) + 1), Iz (lng), Iz (sp_), .ref xk, .ref xf, .ref xs, Iz (ps), Iz (tok), Iz (pla), Iz (nm), Iz (wr), Iz (hd_), .ref xb]) : va_E)) ∈ X2_31 := h__
          refine lv_iload_n hx hb dX8_take_34 rfl (lv_at hl 2 rfl) ?_
          refine lv_iload_n hx hb dX8_take_35 rfl (lv_at hl 0 rfl) ?_
          refine g_iushrX hx hb dX8_take_36 (fun z36 => ?_)
          refine lv_sipush (v := Int32.ofInt (255)) hx hb dX8_take_37 (by decide) ?_
          refine g_iandK (j := 8) hx hb (by decide) (by decide) dX8_take_40 ?_
          refine y_iast3 (z := sz + 1) (v := z36 % 2 ^ 8) hx hb hK hV h_xp (by omega) (by omega) (by decide) dX8_take_41 (fun H locs X2_41_1 h__ kp_ hV => ?_)
          have h_tx := kp_ _ h_tx n_tx_xp
          have kpX : ∀ q ∈ X, q.1 ≠ tx → q.1 ≠ xp → q ∈ X2_41_1 := fun q h nk_tx nk_xp => kp_ q (kpX q h nk_tx nk_xp) nk_xp
          have h_xp := h__
          refine g_iinc (k := 0) (z := (24 + (-8))) (n := (-8)) (lv' := [(2, Iz ((24 + (-8)) + (-8))), (0, .ref tx), (1, Iz (ia))]) hx hb dX8_take_42 hl rfl (by decide) rfl (fun ls hl => ?_)
          refine lv_goto (tgt := 3) hx hb dX8_take_45 (by decide) ?_
          refine lv_iload_n hx hb dX8_take_3 rfl (lv_at hl 0 rfl) ?_
          refine g_if_lt (tgt := 48) hx hb (by first | assumption | exact ⟨by omega, by omega⟩) dX8_take_4 (by decide) (fun c_4 => ?_) (fun c_4 => ?_)
          · omega
          · skip
            refine lv_aload_n hx hb dX8_take_7 rfl (lv_at hl 1 rfl) ?_
            refine x_get E hK hV (ci := 8) (C := RX8) (T := TX8) (N := 15) rfl w0c_in8 (pW_x h_tx) 2 (by decide) rfl cf_8_34 rfl dX8_take_8 ?_
            refine lv_aload_n hx hb dX8_take_11 rfl (lv_at hl 1 rfl) ?_
            refine x_get E hK hV (ci := 8) (C := RX8) (T := TX8) (N := 15) rfl w0c_in8 (pW_x h_tx) 0 (by decide) rfl cf_8_9 rfl dX8_take_12 ?_
            refine y_alen hx hb hK hV (t0 := 0) rfl (pW_x h_xp) dX8_take_15 ?_
            refine g_icmp_ge (tgt := 48) hx hb (by first | assumption | exact ⟨by omega, by omega⟩) (by first | assumption | exact ⟨by omega, by omega⟩) dX8_take_16 (by decide) (fun c_16 => ?_) (fun c_16 => ?_)
            · omega
            · skip
              refine lv_aload_n hx hb dX8_take_19 rfl (lv_at hl 1 rfl) ?_
              refine x_get E hK hV (ci := 8) (C := RX8) (T := TX8) (N := 15) rfl w0c_in8 (pW_x h_tx) 0 (by decide) rfl cf_8_9 rfl dX8_take_20 ?_
              refine lv_aload_n hx hb dX8_take_23 rfl (lv_at hl 1 rfl) ?_
              refine lv_dup hx hb dX8_take_24 rfl ?_
              refine x_get E hK hV (ci := 8) (C := RX8) (T := TX8) (N := 15) rfl w0c_in8 (pW_x h_tx) 2 (by decide) rfl cf_8_34 rfl dX8_take_25 ?_
              refine lv_dup_x1 hx hb dX8_take_28 rfl rfl ?_
              refine lv_iconst (v := Int32.ofInt (1)) hx hb dX8_take_29 (by decide) ?_
              refine g_iadd hx hb dX8_take_30 ?_
              refine y_putV3 E hK hV (ci := 8) (C := RX8) (T := TX8) (N := 15) (ty := tyX8) rfl w0c_in8 tyX8_ok nmX8 h_tx 2 (by decide) (v := Iz (((sz + 1) + 1) + 1)) (Nat.le_of_ble_eq_true rfl) rfl cf_8_34 rfl rfl rfl dX8_take_31 (fun H locs X2_31 h__ kp_ hV => ?_)
              have h_xp := kp_ _ h_xp (Ne.symm n_tx_xp)
              have kpX : ∀ q ∈ X, q.1 ≠ tx → q.1 ≠ xp → q ∈ X2_31 := fun q h nk_tx nk_xp => kp_ q (kpX q h nk_tx nk_xp) nk_tx
              have h_tx : (tx, (.inr (8, [.ref xp, .ref xw, Iz (((sz + 1) + 1) + 1), Iz (lng), Iz (sp_), .ref xk, .ref xf, .ref xs, Iz (ps), Iz (tok), Iz (pla), Iz (nm), Iz (wr), Iz (hd_), .ref xb]) : va_E)) ∈ X2_31 := h__
              refine lv_iload_n hx hb dX8_take_34 rfl (lv_at hl 2 rfl) ?_
              refine lv_iload_n hx hb dX8_take_35 rfl (lv_at hl 0 rfl) ?_
              refine g_iushrX hx hb dX8_take_36 (fun z36 => ?_)
              refine lv_sipush (v := Int32.ofInt (255)) hx hb dX8_take_37 (by decide) ?_
              refine g_iandK (j := 8) hx hb (by decide) (by decide) dX8_take_40 ?_
              refine y_iast3 (z := (sz + 1) + 1) (v := z36 % 2 ^ 8) hx hb hK hV h_xp (by omega) (by omega) (by decide) dX8_take_41 (fun H locs X2_41_2 h__ kp_ hV => ?_)
              have h_tx := kp_ _ h_tx n_tx_xp
              have kpX : ∀ q ∈ X, q.1 ≠ tx → q.1 ≠ xp → q ∈ X2_41_2 := fun q h nk_tx nk_xp => kp_ q (kpX q h nk_tx nk_xp) nk_xp
              have h_xp := h__
              refine g_iinc (k := 0) (z := ((24 + (-8)) + (-8))) (n := (-8)) (lv' := [(2, Iz (((24 + (-8)) + (-8)) + (-8))), (0, .ref tx), (1, Iz (ia))]) hx hb dX8_take_42 hl rfl (by decide) rfl (fun ls hl => ?_)
              refine lv_goto (tgt := 3) hx hb dX8_take_45 (by decide) ?_
              refine lv_iload_n hx hb dX8_take_3 rfl (lv_at hl 0 rfl) ?_
              refine g_if_lt (tgt := 48) hx hb (by first | assumption | exact ⟨by omega, by omega⟩) dX8_take_4 (by decide) (fun c_4 => ?_) (fun c_4 => ?_)
              · omega
              · skip
                refine lv_aload_n hx hb dX8_take_7 rfl (lv_at hl 1 rfl) ?_
                refine x_get E hK hV (ci := 8) (C := RX8) (T := TX8) (N := 15) rfl w0c_in8 (pW_x h_tx) 2 (by decide) rfl cf_8_34 rfl dX8_take_8 ?_
                refine lv_aload_n hx hb dX8_take_11 rfl (lv_at hl 1 rfl) ?_
                refine x_get E hK hV (ci := 8) (C := RX8) (T := TX8) (N := 15) rfl w0c_in8 (pW_x h_tx) 0 (by decide) rfl cf_8_9 rfl dX8_take_12 ?_
                refine y_alen hx hb hK hV (t0 := 0) rfl (pW_x h_xp) dX8_take_15 ?_
                refine g_icmp_ge (tgt := 48) hx hb (by first | assumption | exact ⟨by omega, by omega⟩) (by first | assumption | exact ⟨by omega, by omega⟩) dX8_take_16 (by decide) (fun c_16 => ?_) (fun c_16 => ?_)
                · omega
                · skip
                  refine lv_aload_n hx hb dX8_take_19 rfl (lv_at hl 1 rfl) ?_
                  refine x_get E hK hV (ci := 8) (C := RX8) (T := TX8) (N := 15) rfl w0c_in8 (pW_x h_tx) 0 (by decide) rfl cf_8_9 rfl dX8_take_20 ?_
                  refine lv_aload_n hx hb dX8_take_23 rfl (lv_at hl 1 rfl) ?_
                  refine lv_dup hx hb dX8_take_24 rfl ?_
                  refine x_get E hK hV (ci := 8) (C := RX8) (T := TX8) (N := 15) rfl w0c_in8 (pW_x h_tx) 2 (by decide) rfl cf_8_34 rfl dX8_take_25 ?_
                  refine lv_dup_x1 hx hb dX8_take_28 rfl rfl ?_
                  refine lv_iconst (v := Int32.ofInt (1)) hx hb dX8_take_29 (by decide) ?_
                  refine g_iadd hx hb dX8_take_30 ?_
                  refine y_putV3 E hK hV (ci := 8) (C := RX8) (T := TX8) (N := 15) (ty := tyX8) rfl w0c_in8 tyX8_ok nmX8 h_tx 2 (by decide) (v := Iz ((((sz + 1) + 1) + 1) + 1)) (Nat.le_of_ble_eq_true rfl) rfl cf_8_34 rfl rfl rfl dX8_take_31 (fun H locs X2_31 h__ kp_ hV => ?_)
                  have h_xp := kp_ _ h_xp (Ne.symm n_tx_xp)
                  have kpX : ∀ q ∈ X, q.1 ≠ tx → q.1 ≠ xp → q ∈ X2_31 := fun q h nk_tx nk_xp => kp_ q (kpX q h nk_tx nk_xp) nk_tx
                  have h_tx : (tx, (.inr (8, [.ref xp, .ref xw, Iz ((((sz + 1) + 1) + 1) + 1), Iz (lng), Iz (sp_), .ref xk, .ref xf, .ref xs, Iz (ps), Iz (tok), Iz (pla), Iz (nm), Iz (wr), Iz (hd_), .ref xb]) : va_E)) ∈ X2_31 := h__
                  refine lv_iload_n hx hb dX8_take_34 rfl (lv_at hl 2 rfl) ?_
                  refine lv_iload_n hx hb dX8_take_35 rfl (lv_at hl 0 rfl) ?_
                  refine g_iushrX hx hb dX8_take_36 (fun z36 => ?_)
                  refine lv_sipush (v := Int32.ofInt (255)) hx hb dX8_take_37 (by decide) ?_
                  refine g_iandK (j := 8) hx hb (by decide) (by decide) dX8_take_40 ?_
                  refine y_iast3 (z := ((sz + 1) + 1) + 1) (v := z36 % 2 ^ 8) hx hb hK hV h_xp (by omega) (by omega) (by decide) dX8_take_41 (fun H locs X2_41_3 h__ kp_ hV => ?_)
                  have h_tx := kp_ _ h_tx n_tx_xp
                  have kpX : ∀ q ∈ X, q.1 ≠ tx → q.1 ≠ xp → q ∈ X2_41_3 := fun q h nk_tx nk_xp => kp_ q (kpX q h nk_tx nk_xp) nk_xp
                  have h_xp := h__
                  refine g_iinc (k := 0) (z := (((24 + (-8)) + (-8)) + (-8))) (n := (-8)) (lv' := [(2, Iz ((((24 + (-8)) + (-8)) + (-8)) + (-8))), (0, .ref tx), (1, Iz (ia))]) hx hb dX8_take_42 hl rfl (by decide) rfl (fun ls hl => ?_)
                  refine lv_goto (tgt := 3) hx hb dX8_take_45 (by decide) ?_
                  refine lv_iload_n hx hb dX8_take_3 rfl (lv_at hl 0 rfl) ?_
                  refine g_if_lt (tgt := 48) hx hb (by first | assumption | exact ⟨by omega, by omega⟩) dX8_take_4 (by decide) (fun c_4 => ?_) (fun c_4 => ?_)
                  · skip
                    have hpost : ∃ (X2' : va_W) (ft' : Int → Int), (pW cx LP pc_ pd co X2_41_3) = pW cx LP pc_ pd co X2' ∧ dd = dd ∧ nn = nn ∧ ss = ss ∧ ll = ll ∧ gg = gg ∧ (tx, (.inr (8, [.ref xp, .ref xw, Iz (sz + 4), Iz (lng), Iz (sp_), .ref xk, .ref xf, .ref xs, Iz (ps), Iz (tok), Iz (pla), Iz (nm), Iz (wr), Iz (hd_), .ref xb]) : va_E)) ∈ X2' ∧ (xp, (.inl (cx 0, 300, .inl (im ft')) : va_E)) ∈ X2' ∧ (∀ q ∈ X, q.1 ≠ tx → q.1 ≠ xp → q ∈ X2') := ⟨_, _, rfl, rfl, rfl, rfl, rfl, rfl, by rw [show sz + 4 = sz + 1 + 1 + 1 + 1 by omega]; exact h_tx, h_xp, kpX⟩
                    exact e_vret hx hb hr hK hV ⟨by decide, by decide⟩ hpost dX8_take_48 hlocks
                  · omega
set_option maxHeartbeats 4000000 in
set_option maxRecDepth 100000 in
theorem k11_at {l : Launch} {dC : Nat → ClassId} {dI : Nat → Nat → Nat} {cx : Nat → Nat} {LB : List Nat} {LP : List Nat} {pc_ : Nat → Nat} {pd : Nat → Int} {co : Nat → Nat → Nat} {X : va_W} {dd : Nat → Nat} {nn ss : Nat → Int} {ll : Nat → Nat} {gg : Nat → Int → Int} {H0 : Heap} {ar nu tol pi_ ti_ fr stk no pa zo tx bu bv bw bs : Nat} {mo : Int} {s0 t0 : Nat} {xp xw xk xf xs xb : Nat} {sp_ ps tok pla nm wr hd_ : Int} {ia : Int}  (hAr : (ar, (.inr (11, [Iz (mo), .ref nu, Iz (0), .ref tol, Iz (0), .ref pi_, .ref ti_, Iz (0), .ref fr, .ref stk, .ref t0, .ref no, .ref pa, .ref s0, .ref zo, .ref tx, .ref bu, .ref bv, .ref bw, .ref bs]) : va_E)) ∈ X) (h_tx : (tx, (.inr (8, [.ref xp, .ref xw, Iz (0), Iz (0), Iz (sp_), .ref xk, .ref xf, .ref xs, Iz (ps), Iz (tok), Iz (pla), Iz (nm), Iz (wr), Iz (hd_), .ref xb]) : va_E)) ∈ X) (ia0_ : -2147483648 ≤ ia) (ia1_ : ia ≤ 2147483647) : Met l yX11_at (Cond.code yX11_at cX11_at 2 (some .int) :: w0c) (eRm 0 0 LB ll 0 0) (cPc dC dI cx LB (pW cx LP pc_ pd co X) dd nn ss ll gg H0 [.ref ar, Iz (ia)]) (eQi dC dI cx LB (va_A (bW (cx 0) LB dd nn ss ll gg (pW cx LP pc_ pd co X)) H0.size) ll H0 0 0 (fun z X' dd' nn' ss' ll' gg' => z = (-1))) (cMc LB ll + 0) (2 * cMc LB ll + 0) (va_A (bW (cx 0) LB dd nn ss ll gg (pW cx LP pc_ pd co X)) H0.size) := by
  refine Met.ofW (cc := cX11_at) (maxL := 2) (ret := (some .int)) (by decide) rfl ?_
  intro p e s m args below meth c s₁ B hml hv
  obtain ⟨rfl, hH0, hP, hK, hD0, hC0⟩ := hv
  have hx := B.exec
  have hb := B.bytes
  have hr := B.returns
  have hts := atoms_spec (ws := Cond.code yX11_at cX11_at 2 (some .int) :: w0c) B.pre
  have hown : s.vm.findClass RX11 = some m.cls := findClass_of_methodNamed B.named
  have hlocks := B.notSynchronized
  have E : CallFix p m c cX11_at 2 s _ (Cond.code yX11_at cX11_at 2 (some .int) :: w0c) RX11 := ⟨hx, hb, hml, hown, hts⟩
  subst hH0
  have hD := va_D.self (sz := s.heap.size) hD0
  have hA : ∀ q : Nat, s.heap.size ≤ q → va_A (bW (cx 0) LB dd nn ss ll gg (pW cx LP pc_ pd co X)) s.heap.size q := fun q h => Or.inr h
  have hV : cV dC dI cx LB (va_A (bW (cx 0) LB dd nn ss ll gg (pW cx LP pc_ pd co X)) s.heap.size) s.heap ll (pW cx LP pc_ pd co X) dd nn ss ll gg s.heap [] := ⟨hP, hD, va_S.rf, fun _ _ => Nat.le_refl _, hC0⟩
  have hR : (headSpec (Cond.code yX11_at cX11_at 2 (some .int) :: w0c) (eRm 0 0 LB ll 0 0)).room.cells = cMc LB ll + 0 ∧ (headSpec (Cond.code yX11_at cX11_at 2 (some .int) :: w0c) (eRm 0 0 LB ll 0 0)).room.slots = 2 * cMc LB ll + 0 := ⟨rfl, rfl⟩
  refine W.widen (k := cP LB ll - cP LB ll + 0) (n := 2 * (cP LB ll - cP LB ll) + 0) (Nat.zero_le _) (Nat.zero_le _) ?_
  have hl := lv_entry ([.ref ar, Iz (ia)]) (n := 2) (Nat.le_of_ble_eq_true rfl)
  rw [lg_entry_eq]
  generalize (lg_sl ([.ref ar, Iz (ia)]) ++ List.replicate (2 - (lg_sl ([.ref ar, Iz (ia)])).length) Slot.unset).toArray = ls at hl ⊢
  have hl : lv_has ls 2 [(0, .ref ar), (1, Iz (ia))] := hl
  refine lv_iload_n hx hb dX11_at_0 rfl (lv_at hl 1 rfl) ?_
  refine g_if_lt (tgt := 15) hx hb (by first | assumption | exact ⟨by omega, by omega⟩) dX11_at_1 (by decide) (fun c_1 => ?_) (fun c_1 => ?_)
  · skip
    refine lv_iconst (v := Int32.ofInt (-1)) hx hb dX11_at_15 (by decide) ?_
    refine lv_goto (tgt := 28) hx hb dX11_at_16 (by decide) ?_
    have hpost : ((-1) : Int) = (-1) := rfl
    exact e_iret hx hb hr hK hV ⟨by decide, by decide⟩ hpost dX11_at_28 hlocks
  · skip
    refine lv_iload_n hx hb dX11_at_4 rfl (lv_at hl 1 rfl) ?_
    refine lv_aload_n hx hb dX11_at_5 rfl (lv_at hl 0 rfl) ?_
    refine x_get E hK hV (ci := 11) (C := RX11) (T := TX11) (N := 20) rfl w0c_in11 (pW_x hAr) 15 (by decide) rfl cf_11_76 rfl dX11_at_6 ?_
    refine x_get E hK hV (ci := 8) (C := RX8) (T := TX8) (N := 15) rfl w0c_in8 (pW_x h_tx) 3 (by decide) rfl cf_11_346 rfl dX11_at_9 ?_
    refine g_icmp_lt (tgt := 19) hx hb (by first | assumption | exact ⟨by omega, by omega⟩) (by first | assumption | exact ⟨by omega, by omega⟩) dX11_at_12 (by decide) (fun c_12 => ?_) (fun c_12 => ?_)
    · omega
    · skip
      refine lv_iconst (v := Int32.ofInt (-1)) hx hb dX11_at_15 (by decide) ?_
      refine lv_goto (tgt := 28) hx hb dX11_at_16 (by decide) ?_
      have hpost : ((-1) : Int) = (-1) := rfl
      exact e_iret hx hb hr hK hV ⟨by decide, by decide⟩ hpost dX11_at_28 hlocks
set_option maxHeartbeats 4000000 in
set_option maxRecDepth 100000 in
theorem k11_read {l : Launch} {dC : Nat → ClassId} {dI : Nat → Nat → Nat} {cx : Nat → Nat} {LB : List Nat} {LP : List Nat} {pc_ : Nat → Nat} {pd : Nat → Int} {co : Nat → Nat → Nat} {X : va_W} {dd : Nat → Nat} {nn ss : Nat → Int} {ll : Nat → Nat} {gg : Nat → Int → Int} {H0 : Heap} {ar nu tol pi_ ti_ fr stk no pa zo tx bu bv bw bs : Nat} {mo : Int} {s0 t0 : Nat} {xp xw xk xf xs xb : Nat} {lng sp_ ps tok pla nm wr hd_ : Int}  (hAr : (ar, (.inr (11, [Iz (mo), .ref nu, Iz (0), .ref tol, Iz (0), .ref pi_, .ref ti_, Iz (0), .ref fr, .ref stk, .ref t0, .ref no, .ref pa, .ref s0, .ref zo, .ref tx, .ref bu, .ref bv, .ref bw, .ref bs]) : va_E)) ∈ X) (h_tx : (tx, (.inr (8, [.ref xp, .ref xw, Iz (0), Iz (lng), Iz (sp_), .ref xk, .ref xf, .ref xs, Iz (ps), Iz (tok), Iz (pla), Iz (nm), Iz (wr), Iz (hd_), .ref xb]) : va_E)) ∈ X) : Met l yX11_read (Cond.code yX11_read cX11_read 11 (some .int) :: w0c) (eRm 7 216 LB ll 0 0) (cPc dC dI cx LB (pW cx LP pc_ pd co X) dd nn ss ll gg H0 [.ref ar]) (eQi dC dI cx LB (va_A (bW (cx 0) LB dd nn ss ll gg (pW cx LP pc_ pd co X)) H0.size) ll H0 0 0 (fun z X' dd' nn' ss' ll' gg' => z = (-1000))) (cMc LB ll + 0) (2 * cMc LB ll + 0) (va_A (bW (cx 0) LB dd nn ss ll gg (pW cx LP pc_ pd co X)) H0.size) := by
  refine Met.ofW (cc := cX11_read) (maxL := 11) (ret := (some .int)) (by decide) rfl ?_
  intro p e s m args below meth c s₁ B hml hv
  obtain ⟨rfl, hH0, hP, hK, hD0, hC0⟩ := hv
  have hx := B.exec
  have hb := B.bytes
  have hr := B.returns
  have hts := atoms_spec (ws := Cond.code yX11_read cX11_read 11 (some .int) :: w0c) B.pre
  have hown : s.vm.findClass RX11 = some m.cls := findClass_of_methodNamed B.named
  have hlocks := B.notSynchronized
  have E : CallFix p m c cX11_read 11 s _ (Cond.code yX11_read cX11_read 11 (some .int) :: w0c) RX11 := ⟨hx, hb, hml, hown, hts⟩
  subst hH0
  have hD := va_D.self (sz := s.heap.size) hD0
  have hA : ∀ q : Nat, s.heap.size ≤ q → va_A (bW (cx 0) LB dd nn ss ll gg (pW cx LP pc_ pd co X)) s.heap.size q := fun q h => Or.inr h
  have hV : cV dC dI cx LB (va_A (bW (cx 0) LB dd nn ss ll gg (pW cx LP pc_ pd co X)) s.heap.size) s.heap ll (pW cx LP pc_ pd co X) dd nn ss ll gg s.heap [] := ⟨hP, hD, va_S.rf, fun _ _ => Nat.le_refl _, hC0⟩
  have hR : (headSpec (Cond.code yX11_read cX11_read 11 (some .int) :: w0c) (eRm 7 216 LB ll 0 0)).room.cells = cMc LB ll + 0 ∧ (headSpec (Cond.code yX11_read cX11_read 11 (some .int) :: w0c) (eRm 7 216 LB ll 0 0)).room.slots = 2 * cMc LB ll + 0 := ⟨rfl, rfl⟩
  refine W.widen (k := cP LB ll - cP LB ll + 0) (n := 2 * (cP LB ll - cP LB ll) + 0) (Nat.zero_le _) (Nat.zero_le _) ?_
  have hl := lv_entry ([.ref ar]) (n := 11) (Nat.le_of_ble_eq_true rfl)
  rw [lg_entry_eq]
  generalize (lg_sl ([.ref ar]) ++ List.replicate (11 - (lg_sl ([.ref ar])).length) Slot.unset).toArray = ls at hl ⊢
  have hl : lv_has ls 11 [(0, .ref ar)] := hl
  have kpX : ∀ q ∈ X, q.1 ≠ tx → q ∈ X := fun _ h _ => h
  have n_ar_tx : ar ≠ tx := y_ne hV hAr h_tx (fun q => by injection q with q; injection q with q1 q2; exact absurd q1 (by decide))
  refine lv_aload_n hx hb dX11_read_0 rfl (lv_at hl 0 rfl) ?_
  refine x_get E hK hV (ci := 11) (C := RX11) (T := TX11) (N := 20) rfl w0c_in11 (pW_x (kpX _ hAr n_ar_tx)) 15 (by decide) rfl cf_11_76 rfl dX11_read_1 ?_
  refine lv_aload_n hx hb dX11_read_4 rfl (lv_at hl 0 rfl) ?_
  refine x_get E hK hV (ci := 11) (C := RX11) (T := TX11) (N := 20) rfl w0c_in11 (pW_x (kpX _ hAr n_ar_tx)) 2 (by decide) rfl cf_11_208 rfl dX11_read_5 ?_
  refine e_calli (k2 := 0) (n2 := 0) (f := 5) (kl := 111) (As := [Iz (0)]) (rest := []) E (k8_parse h_tx) (cwV 1 hts (cGood cl_X11_209 ci_X8_parse cs_X8_parse cn_RX8 cc_X8_parse) rfl rfl rfl (by decide +kernel) ⟨Nat.le_of_ble_eq_true rfl, Nat.le_of_ble_eq_true rfl⟩) (x_recv (q := (RX8, TX8, 15)) hK hV (ci := 8) rfl (pW_x h_tx)) hK hV hA hR ⟨by decide, by decide⟩ rfl hl.1 (Nat.le_of_ble_eq_true rfl) dX11_read_8 (fun z8 X8 dd8 nn8 ss8 ll8 gg8 H locs q8 hV hm8 => ?_)
  obtain ⟨rfl, q8⟩ := q8
  obtain ⟨X28, e1_, e2_, e3_, e4_, e5_, e6_, hf8, kp8⟩ := q8
  obtain rfl := e1_.symm
  obtain rfl := e2_.symm
  obtain rfl := e3_.symm
  obtain rfl := e4_.symm
  obtain rfl := e5_.symm
  obtain rfl := e6_.symm
  have kpX : ∀ q ∈ X, q.1 ≠ tx → q ∈ X28 := fun q h nk_tx => kp8 q (kpX q h nk_tx) nk_tx
  have h_tx := hf8
  refine W.widen (k := cP LB ll - cP LB ll + 0) (n := 2 * (cP LB ll - cP LB ll) + 0) (Nat.le_refl _) (Nat.le_refl _) ?_
  refine lv_istore_n (lv' := [(1, Iz (0)), (0, .ref ar)]) hx hb dX11_read_11 rfl hl (by decide) rfl (fun ls hl => ?_)
  refine lv_iload_n hx hb dX11_read_12 rfl (lv_at hl 0 rfl) ?_
  refine g_if_lt (tgt := 22) hx hb (by first | assumption | exact ⟨by omega, by omega⟩) dX11_read_13 (by decide) (fun c_13 => ?_) (fun c_13 => ?_)
  · omega
  · skip
    refine lv_sipush (v := Int32.ofInt (-1000)) hx hb dX11_read_16 (by decide) ?_
    refine lv_iload_n hx hb dX11_read_19 rfl (lv_at hl 0 rfl) ?_
    refine g_isub hx hb dX11_read_20 ?_
    have hpost : ((-1000) - 0 : Int) = (-1000) := (by decide)
    exact e_iret hx hb hr hK hV ⟨by decide, by decide⟩ hpost dX11_read_21 hlocks
set_option maxHeartbeats 4000000 in
set_option maxRecDepth 100000 in
theorem k11_feed {l : Launch} {dC : Nat → ClassId} {dI : Nat → Nat → Nat} {cx : Nat → Nat} {LB : List Nat} {LP : List Nat} {pc_ : Nat → Nat} {pd : Nat → Int} {co : Nat → Nat → Nat} {X : va_W} {dd : Nat → Nat} {nn ss : Nat → Int} {ll : Nat → Nat} {gg : Nat → Int → Int} {H0 : Heap} {ar nu tol pi_ ti_ fr stk no pa zo tx bu bv bw bs : Nat} {mo : Int} {s0 t0 : Nat} {xp xw xk xf xs xb : Nat} {lng sp_ ps tok pla nm wr hd_ : Int} {ft : Int → Int} {ia : Int} {ib : Int} {ic : Int} {id : Int} {ie : Int}  (hAr : (ar, (.inr (11, [Iz (mo), .ref nu, Iz (0), .ref tol, Iz (0), .ref pi_, .ref ti_, Iz (0), .ref fr, .ref stk, .ref t0, .ref no, .ref pa, .ref s0, .ref zo, .ref tx, .ref bu, .ref bv, .ref bw, .ref bs]) : va_E)) ∈ X) (h_tx : (tx, (.inr (8, [.ref xp, .ref xw, Iz (0), Iz (lng), Iz (sp_), .ref xk, .ref xf, .ref xs, Iz (ps), Iz (tok), Iz (pla), Iz (nm), Iz (wr), Iz (hd_), .ref xb]) : va_E)) ∈ X) (h_xp : (xp, (.inl (cx 0, 300, .inl (im ft)) : va_E)) ∈ X) (ia0_ : -2147483648 ≤ ia) (ia1_ : ia ≤ 2147483647) (ib0_ : -2147483648 ≤ ib) (ib1_ : ib ≤ 2147483647) (ic0_ : -2147483648 ≤ ic) (ic1_ : ic ≤ 2147483647) (id0_ : -2147483648 ≤ id) (id1_ : id ≤ 2147483647) (ie0_ : -2147483648 ≤ ie) (ie1_ : ie ≤ 2147483647) : Met l yX11_feed (Cond.code yX11_feed cX11_feed 6 (some .int) :: w0c) (eRm 1 22 LB ll 0 0) (cPc dC dI cx LB (pW cx LP pc_ pd co X) dd nn ss ll gg H0 [.ref ar, Iz (ia), Iz (ib), Iz (ic), Iz (id), Iz (ie)]) (eQi dC dI cx LB (va_A (bW (cx 0) LB dd nn ss ll gg (pW cx LP pc_ pd co X)) H0.size) ll H0 0 0 (fun z X' dd' nn' ss' ll' gg' => z = 20)) (cMc LB ll + 0) (2 * cMc LB ll + 0) (va_A (bW (cx 0) LB dd nn ss ll gg (pW cx LP pc_ pd co X)) H0.size) := by
  refine Met.ofW (cc := cX11_feed) (maxL := 6) (ret := (some .int)) (by decide) rfl ?_
  intro p e s m args below meth c s₁ B hml hv
  obtain ⟨rfl, hH0, hP, hK, hD0, hC0⟩ := hv
  have hx := B.exec
  have hb := B.bytes
  have hr := B.returns
  have hts := atoms_spec (ws := Cond.code yX11_feed cX11_feed 6 (some .int) :: w0c) B.pre
  have hown : s.vm.findClass RX11 = some m.cls := findClass_of_methodNamed B.named
  have hlocks := B.notSynchronized
  have E : CallFix p m c cX11_feed 6 s _ (Cond.code yX11_feed cX11_feed 6 (some .int) :: w0c) RX11 := ⟨hx, hb, hml, hown, hts⟩
  subst hH0
  have hD := va_D.self (sz := s.heap.size) hD0
  have hA : ∀ q : Nat, s.heap.size ≤ q → va_A (bW (cx 0) LB dd nn ss ll gg (pW cx LP pc_ pd co X)) s.heap.size q := fun q h => Or.inr h
  have hV : cV dC dI cx LB (va_A (bW (cx 0) LB dd nn ss ll gg (pW cx LP pc_ pd co X)) s.heap.size) s.heap ll (pW cx LP pc_ pd co X) dd nn ss ll gg s.heap [] := ⟨hP, hD, va_S.rf, fun _ _ => Nat.le_refl _, hC0⟩
  have hR : (headSpec (Cond.code yX11_feed cX11_feed 6 (some .int) :: w0c) (eRm 1 22 LB ll 0 0)).room.cells = cMc LB ll + 0 ∧ (headSpec (Cond.code yX11_feed cX11_feed 6 (some .int) :: w0c) (eRm 1 22 LB ll 0 0)).room.slots = 2 * cMc LB ll + 0 := ⟨rfl, rfl⟩
  refine W.widen (k := cP LB ll - cP LB ll + 0) (n := 2 * (cP LB ll - cP LB ll) + 0) (Nat.zero_le _) (Nat.zero_le _) ?_
  have hl := lv_entry ([.ref ar, Iz (ia), Iz (ib), Iz (ic), Iz (id), Iz (ie)]) (n := 6) (Nat.le_of_ble_eq_true rfl)
  rw [lg_entry_eq]
  generalize (lg_sl ([.ref ar, Iz (ia), Iz (ib), Iz (ic), Iz (id), Iz (ie)]) ++ List.replicate (6 - (lg_sl ([.ref ar, Iz (ia), Iz (ib), Iz (ic), Iz (id), Iz (ie)])).length) Slot.unset).toArray = ls at hl ⊢
  have hl : lv_has ls 6 [(0, .ref ar), (1, Iz (ia)), (2, Iz (ib)), (3, Iz (ic)), (4, Iz (id)), (5, Iz (ie))] := hl
  have kpX : ∀ q ∈ X, q.1 ≠ tx → q.1 ≠ xp → q ∈ X := fun _ h _ _ => h
  have n_ar_tx : ar ≠ tx := y_ne hV hAr h_tx (fun q => by injection q with q; injection q with q1 q2; exact absurd q1 (by decide))
  have n_ar_xp : ar ≠ xp := y_ne hV hAr h_xp (fun q => nomatch q)
  have n_tx_xp : tx ≠ xp := y_ne hV h_tx h_xp (fun q => nomatch q)
  refine lv_aload_n hx hb dX11_feed_0 rfl (lv_at hl 0 rfl) ?_
  refine x_get E hK hV (ci := 11) (C := RX11) (T := TX11) (N := 20) rfl w0c_in11 (pW_x (kpX _ hAr n_ar_tx n_ar_xp)) 15 (by decide) rfl cf_11_76 rfl dX11_feed_1 ?_
  refine x_get E hK hV (ci := 8) (C := RX8) (T := TX8) (N := 15) rfl w0c_in8 (pW_x h_tx) 2 (by decide) rfl cf_11_352 rfl dX11_feed_4 ?_
  refine lv_bipush (v := Int32.ofInt (20)) hx hb dX11_feed_7 (by decide) ?_
  refine g_iadd hx hb dX11_feed_9 ?_
  refine lv_aload_n hx hb dX11_feed_10 rfl (lv_at hl 0 rfl) ?_
  refine x_get E hK hV (ci := 11) (C := RX11) (T := TX11) (N := 20) rfl w0c_in11 (pW_x (kpX _ hAr n_ar_tx n_ar_xp)) 15 (by decide) rfl cf_11_76 rfl dX11_feed_11 ?_
  refine x_get E hK hV (ci := 8) (C := RX8) (T := TX8) (N := 15) rfl w0c_in8 (pW_x h_tx) 0 (by decide) rfl cf_11_353 rfl dX11_feed_14 ?_
  refine y_alen hx hb hK hV (t0 := 0) rfl (pW_x h_xp) dX11_feed_17 ?_
  refine g_icmp_le (tgt := 29) hx hb (by first | assumption | exact ⟨by omega, by omega⟩) (by first | assumption | exact ⟨by omega, by omega⟩) dX11_feed_18 (by decide) (fun c_18 => ?_) (fun c_18 => ?_)
  · skip
    refine lv_aload_n hx hb dX11_feed_29 rfl (lv_at hl 0 rfl) ?_
    refine x_get E hK hV (ci := 11) (C := RX11) (T := TX11) (N := 20) rfl w0c_in11 (pW_x (kpX _ hAr n_ar_tx n_ar_xp)) 15 (by decide) rfl cf_11_76 rfl dX11_feed_30 ?_
    refine lv_iload_n hx hb dX11_feed_33 rfl (lv_at hl 1 rfl) ?_
    refine e_callv (k2 := 0) (n2 := 0) (f := 0) (kl := 0) (As := [Iz (ia)]) (rest := []) E (k8_take h_tx h_xp (by omega) (by omega)) (cwV 1 hts (cGood cl_X11_359 ci_X8_take cs_X8_take cn_RX8 cc_X8_take) rfl rfl rfl (by decide +kernel) ⟨Nat.le_of_ble_eq_true rfl, Nat.le_of_ble_eq_true rfl⟩) (x_recv (q := (RX8, TX8, 15)) hK hV (ci := 8) rfl (pW_x h_tx)) hK hV hA hR ⟨by decide, by decide⟩ rfl hl.1 (Nat.le_of_ble_eq_true rfl) dX11_feed_34 (fun X34 dd34 nn34 ss34 ll34 gg34 H locs q34 hV hm34 => ?_)
    obtain ⟨X234, ft34, e1_, e2_, e3_, e4_, e5_, e6_, hf34, hx34, kp34⟩ := q34
    obtain rfl := e1_.symm
    obtain rfl := e2_.symm
    obtain rfl := e3_.symm
    obtain rfl := e4_.symm
    obtain rfl := e5_.symm
    obtain rfl := e6_.symm
    have kpX : ∀ q ∈ X, q.1 ≠ tx → q.1 ≠ xp → q ∈ X234 := fun q h nk_tx nk_xp => kp34 q (kpX q h nk_tx nk_xp) nk_tx nk_xp
    have h_tx := hf34
    have h_xp := hx34
    refine W.widen (k := cP LB ll - cP LB ll + 0) (n := 2 * (cP LB ll - cP LB ll) + 0) (Nat.le_refl _) (Nat.le_refl _) ?_
    refine lv_aload_n hx hb dX11_feed_37 rfl (lv_at hl 0 rfl) ?_
    refine x_get E hK hV (ci := 11) (C := RX11) (T := TX11) (N := 20) rfl w0c_in11 (pW_x (kpX _ hAr n_ar_tx n_ar_xp)) 15 (by decide) rfl cf_11_76 rfl dX11_feed_38 ?_
    refine lv_iload_n hx hb dX11_feed_41 rfl (lv_at hl 2 rfl) ?_
    refine e_callv (k2 := 0) (n2 := 0) (f := 0) (kl := 0) (As := [Iz (ib)]) (rest := []) E (k8_take h_tx h_xp (by omega) (by omega)) (cwV 1 hts (cGood cl_X11_359 ci_X8_take cs_X8_take cn_RX8 cc_X8_take) rfl rfl rfl (by decide +kernel) ⟨Nat.le_of_ble_eq_true rfl, Nat.le_of_ble_eq_true rfl⟩) (x_recv (q := (RX8, TX8, 15)) hK hV (ci := 8) rfl (pW_x h_tx)) hK hV hA hR ⟨by decide, by decide⟩ rfl hl.1 (Nat.le_of_ble_eq_true rfl) dX11_feed_42 (fun X42 dd42 nn42 ss42 ll42 gg42 H locs q42 hV hm42 => ?_)
    obtain ⟨X242, ft42, e1_, e2_, e3_, e4_, e5_, e6_, hf42, hx42, kp42⟩ := q42
    obtain rfl := e1_.symm
    obtain rfl := e2_.symm
    obtain rfl := e3_.symm
    obtain rfl := e4_.symm
    obtain rfl := e5_.symm
    obtain rfl := e6_.symm
    have kpX : ∀ q ∈ X, q.1 ≠ tx → q.1 ≠ xp → q ∈ X242 := fun q h nk_tx nk_xp => kp42 q (kpX q h nk_tx nk_xp) nk_tx nk_xp
    have h_tx := hf42
    have h_xp := hx42
    refine W.widen (k := cP LB ll - cP LB ll + 0) (n := 2 * (cP LB ll - cP LB ll) + 0) (Nat.le_refl _) (Nat.le_refl _) ?_
    refine lv_aload_n hx hb dX11_feed_45 rfl (lv_at hl 0 rfl) ?_
    refine x_get E hK hV (ci := 11) (C := RX11) (T := TX11) (N := 20) rfl w0c_in11 (pW_x (kpX _ hAr n_ar_tx n_ar_xp)) 15 (by decide) rfl cf_11_76 rfl dX11_feed_46 ?_
    refine lv_iload_n hx hb dX11_feed_49 rfl (lv_at hl 3 rfl) ?_
    refine e_callv (k2 := 0) (n2 := 0) (f := 0) (kl := 0) (As := [Iz (ic)]) (rest := []) E (k8_take h_tx h_xp (by omega) (by omega)) (cwV 1 hts (cGood cl_X11_359 ci_X8_take cs_X8_take cn_RX8 cc_X8_take) rfl rfl rfl (by decide +kernel) ⟨Nat.le_of_ble_eq_true rfl, Nat.le_of_ble_eq_true rfl⟩) (x_recv (q := (RX8, TX8, 15)) hK hV (ci := 8) rfl (pW_x h_tx)) hK hV hA hR ⟨by decide, by decide⟩ rfl hl.1 (Nat.le_of_ble_eq_true rfl) dX11_feed_50 (fun X50 dd50 nn50 ss50 ll50 gg50 H locs q50 hV hm50 => ?_)
    obtain ⟨X250, ft50, e1_, e2_, e3_, e4_, e5_, e6_, hf50, hx50, kp50⟩ := q50
    obtain rfl := e1_.symm
    obtain rfl := e2_.symm
    obtain rfl := e3_.symm
    obtain rfl := e4_.symm
    obtain rfl := e5_.symm
    obtain rfl := e6_.symm
    have kpX : ∀ q ∈ X, q.1 ≠ tx → q.1 ≠ xp → q ∈ X250 := fun q h nk_tx nk_xp => kp50 q (kpX q h nk_tx nk_xp) nk_tx nk_xp
    have h_tx := hf50
    have h_xp := hx50
    refine W.widen (k := cP LB ll - cP LB ll + 0) (n := 2 * (cP LB ll - cP LB ll) + 0) (Nat.le_refl _) (Nat.le_refl _) ?_
    refine lv_aload_n hx hb dX11_feed_53 rfl (lv_at hl 0 rfl) ?_
    refine x_get E hK hV (ci := 11) (C := RX11) (T := TX11) (N := 20) rfl w0c_in11 (pW_x (kpX _ hAr n_ar_tx n_ar_xp)) 15 (by decide) rfl cf_11_76 rfl dX11_feed_54 ?_
    refine lv_iload hx hb dX11_feed_57 (lv_at hl 4 rfl) ?_
    refine e_callv (k2 := 0) (n2 := 0) (f := 0) (kl := 0) (As := [Iz (id)]) (rest := []) E (k8_take h_tx h_xp (by omega) (by omega)) (cwV 1 hts (cGood cl_X11_359 ci_X8_take cs_X8_take cn_RX8 cc_X8_take) rfl rfl rfl (by decide +kernel) ⟨Nat.le_of_ble_eq_true rfl, Nat.le_of_ble_eq_true rfl⟩) (x_recv (q := (RX8, TX8, 15)) hK hV (ci := 8) rfl (pW_x h_tx)) hK hV hA hR ⟨by decide, by decide⟩ rfl hl.1 (Nat.le_of_ble_eq_true rfl) dX11_feed_59 (fun X59 dd59 nn59 ss59 ll59 gg59 H locs q59 hV hm59 => ?_)
    obtain ⟨X259, ft59, e1_, e2_, e3_, e4_, e5_, e6_, hf59, hx59, kp59⟩ := q59
    obtain rfl := e1_.symm
    obtain rfl := e2_.symm
    obtain rfl := e3_.symm
    obtain rfl := e4_.symm
    obtain rfl := e5_.symm
    obtain rfl := e6_.symm
    have kpX : ∀ q ∈ X, q.1 ≠ tx → q.1 ≠ xp → q ∈ X259 := fun q h nk_tx nk_xp => kp59 q (kpX q h nk_tx nk_xp) nk_tx nk_xp
    have h_tx := hf59
    have h_xp := hx59
    refine W.widen (k := cP LB ll - cP LB ll + 0) (n := 2 * (cP LB ll - cP LB ll) + 0) (Nat.le_refl _) (Nat.le_refl _) ?_
    refine lv_aload_n hx hb dX11_feed_62 rfl (lv_at hl 0 rfl) ?_
    refine x_get E hK hV (ci := 11) (C := RX11) (T := TX11) (N := 20) rfl w0c_in11 (pW_x (kpX _ hAr n_ar_tx n_ar_xp)) 15 (by decide) rfl cf_11_76 rfl dX11_feed_63 ?_
    refine lv_iload hx hb dX11_feed_66 (lv_at hl 5 rfl) ?_
    refine e_callv (k2 := 0) (n2 := 0) (f := 0) (kl := 0) (As := [Iz (ie)]) (rest := []) E (k8_take h_tx h_xp (by omega) (by omega)) (cwV 1 hts (cGood cl_X11_359 ci_X8_take cs_X8_take cn_RX8 cc_X8_take) rfl rfl rfl (by decide +kernel) ⟨Nat.le_of_ble_eq_true rfl, Nat.le_of_ble_eq_true rfl⟩) (x_recv (q := (RX8, TX8, 15)) hK hV (ci := 8) rfl (pW_x h_tx)) hK hV hA hR ⟨by decide, by decide⟩ rfl hl.1 (Nat.le_of_ble_eq_true rfl) dX11_feed_68 (fun X68 dd68 nn68 ss68 ll68 gg68 H locs q68 hV hm68 => ?_)
    obtain ⟨X268, ft68, e1_, e2_, e3_, e4_, e5_, e6_, hf68, hx68, kp68⟩ := q68
    obtain rfl := e1_.symm
    obtain rfl := e2_.symm
    obtain rfl := e3_.symm
    obtain rfl := e4_.symm
    obtain rfl := e5_.symm
    obtain rfl := e6_.symm
    have kpX : ∀ q ∈ X, q.1 ≠ tx → q.1 ≠ xp → q ∈ X268 := fun q h nk_tx nk_xp => kp68 q (kpX q h nk_tx nk_xp) nk_tx nk_xp
    have h_tx := hf68
    have h_xp := hx68
    refine W.widen (k := cP LB ll - cP LB ll + 0) (n := 2 * (cP LB ll - cP LB ll) + 0) (Nat.le_refl _) (Nat.le_refl _) ?_
    refine lv_aload_n hx hb dX11_feed_71 rfl (lv_at hl 0 rfl) ?_
    refine x_get E hK hV (ci := 11) (C := RX11) (T := TX11) (N := 20) rfl w0c_in11 (pW_x (kpX _ hAr n_ar_tx n_ar_xp)) 15 (by decide) rfl cf_11_76 rfl dX11_feed_72 ?_
    refine x_get E hK hV (ci := 8) (C := RX8) (T := TX8) (N := 15) rfl w0c_in8 (pW_x h_tx) 2 (by decide) rfl cf_11_352 rfl dX11_feed_75 ?_
    have hpost : (0 + 4 + 4 + 4 + 4 + 4 : Int) = 20 := (by decide)
    exact e_iret hx hb hr hK hV ⟨by decide, by decide⟩ hpost dX11_feed_78 hlocks
  · omega
