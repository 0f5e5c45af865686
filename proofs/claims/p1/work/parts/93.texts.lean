set_option maxHeartbeats 4000000 in
set_option maxRecDepth 100000 in
theorem k8_refuse {l : Launch} {dC : Nat → ClassId} {dI : Nat → Nat → Nat} {cx : Nat → Nat} {LB : List Nat} {LP : List Nat} {pc_ : Nat → Nat} {pd : Nat → Int} {co : Nat → Nat → Nat} {X : va_W} {dd : Nat → Nat} {nn ss : Nat → Int} {ll : Nat → Nat} {gg : Nat → Int → Int} {H0 : Heap} {tx xp xw xk xf xs xb : Nat} {sz lng sp_ ps tok pla nm wr hd_ : Int}  (h_tx : (tx, (.inr (8, [.ref xp, .ref xw, Iz (sz), Iz (lng), Iz (sp_), .ref xk, .ref xf, .ref xs, Iz (ps), Iz (tok), Iz (pla), Iz (nm), Iz (wr), Iz (hd_), .ref xb]) : va_E)) ∈ X) : Met l yX8_refuse (Cond.code yX8_refuse cX8_refuse 1 (some .boolean) :: w0c) (eRm 0 0 LB ll 0 0) (cPc dC dI cx LB (pW cx LP pc_ pd co X) dd nn ss ll gg H0 [.ref tx]) (eQi dC dI cx LB (va_A (bW (cx 0) LB dd nn ss ll gg (pW cx LP pc_ pd co X)) H0.size) ll H0 0 0 (fun z X' dd' nn' ss' ll' gg' => z = 0 ∧ ∃ X2' : va_W, X' = pW cx LP pc_ pd co X2' ∧ dd' = dd ∧ nn' = nn ∧ ss' = ss ∧ ll' = ll ∧ gg' = gg ∧ (tx, (.inr (8, [.ref xp, .ref xw, Iz (sz), Iz (lng), Iz (sp_), .ref xk, .ref xf, .ref xs, Iz (ps), Iz (tok), Iz (pla), Iz (nm), Iz (pla), Iz (hd_), .ref xb]) : va_E)) ∈ X2' ∧ (∀ q ∈ X, q.1 ≠ tx → q ∈ X2'))) (cMc LB ll + 0) (2 * cMc LB ll + 0) (va_A (bW (cx 0) LB dd nn ss ll gg (pW cx LP pc_ pd co X)) H0.size) := by
  refine Met.ofW (cc := cX8_refuse) (maxL := 1) (ret := (some .boolean)) (by decide) rfl ?_
  intro p e s m args below meth c s₁ B hml hv
  obtain ⟨rfl, hH0, hP, hK, hD0, hC0⟩ := hv
  have hx := B.exec
  have hb := B.bytes
  have hr := B.returns
  have hts := atoms_spec (ws := Cond.code yX8_refuse cX8_refuse 1 (some .boolean) :: w0c) B.pre
  have hown : s.vm.findClass RX8 = some m.cls := findClass_of_methodNamed B.named
  have hlocks := B.notSynchronized
  have E : CallFix p m c cX8_refuse 1 s _ (Cond.code yX8_refuse cX8_refuse 1 (some .boolean) :: w0c) RX8 := ⟨hx, hb, hml, hown, hts⟩
  subst hH0
  have hD := va_D.self (sz := s.heap.size) hD0
  have hA : ∀ q : Nat, s.heap.size ≤ q → va_A (bW (cx 0) LB dd nn ss ll gg (pW cx LP pc_ pd co X)) s.heap.size q := fun q h => Or.inr h
  have hV : cV dC dI cx LB (va_A (bW (cx 0) LB dd nn ss ll gg (pW cx LP pc_ pd co X)) s.heap.size) s.heap ll (pW cx LP pc_ pd co X) dd nn ss ll gg s.heap [] := ⟨hP, hD, va_S.rf, fun _ _ => Nat.le_refl _, hC0⟩
  have hR : (headSpec (Cond.code yX8_refuse cX8_refuse 1 (some .boolean) :: w0c) (eRm 0 0 LB ll 0 0)).room.cells = cMc LB ll + 0 ∧ (headSpec (Cond.code yX8_refuse cX8_refuse 1 (some .boolean) :: w0c) (eRm 0 0 LB ll 0 0)).room.slots = 2 * cMc LB ll + 0 := ⟨rfl, rfl⟩
  refine W.widen (k := cP LB ll - cP LB ll + 0) (n := 2 * (cP LB ll - cP LB ll) + 0) (Nat.zero_le _) (Nat.zero_le _) ?_
  have hl := lv_entry ([.ref tx]) (n := 1) (Nat.le_of_ble_eq_true rfl)
  rw [lg_entry_eq]
  generalize (lg_sl ([.ref tx]) ++ List.replicate (1 - (lg_sl ([.ref tx])).length) Slot.unset).toArray = ls at hl ⊢
  have hl : lv_has ls 1 [(0, .ref tx)] := hl
  have kpX : ∀ q ∈ X, q.1 ≠ tx → q ∈ X := fun _ h _ => h
  refine lv_aload_n hx hb dX8_refuse_0 rfl (lv_at hl 0 rfl) ?_
  refine lv_aload_n hx hb dX8_refuse_1 rfl (lv_at hl 0 rfl) ?_
  refine x_get E hK hV (ci := 8) (C := RX8) (T := TX8) (N := 15) rfl w0c_in8 (pW_x h_tx) 10 (by decide) rfl cf_8_64 rfl dX8_refuse_2 ?_
  refine y_putV3 E hK hV (ci := 8) (C := RX8) (T := TX8) (N := 15) (ty := tyX8) rfl w0c_in8 tyX8_ok nmX8 h_tx 12 (by decide) (v := Iz (pla)) (Nat.le_of_ble_eq_true rfl) rfl cf_8_47 rfl rfl rfl dX8_refuse_5 (fun H locs X2_5 h__ kp_ hV => ?_)
  have kpX : ∀ q ∈ X, q.1 ≠ tx → q ∈ X2_5 := fun q h nk_tx => kp_ q (kpX q h nk_tx) nk_tx
  have h_tx : (tx, (.inr (8, [.ref xp, .ref xw, Iz (sz), Iz (lng), Iz (sp_), .ref xk, .ref xf, .ref xs, Iz (ps), Iz (tok), Iz (pla), Iz (nm), Iz (pla), Iz (hd_), .ref xb]) : va_E)) ∈ X2_5 := h__
  refine lv_iconst (v := Int32.ofInt (0)) hx hb dX8_refuse_8 (by decide) ?_
  have hpost : (0 : Int) = 0 ∧ ∃ X2' : va_W, (pW cx LP pc_ pd co X2_5) = pW cx LP pc_ pd co X2' ∧ dd = dd ∧ nn = nn ∧ ss = ss ∧ ll = ll ∧ gg = gg ∧ (tx, (.inr (8, [.ref xp, .ref xw, Iz (sz), Iz (lng), Iz (sp_), .ref xk, .ref xf, .ref xs, Iz (ps), Iz (tok), Iz (pla), Iz (nm), Iz (pla), Iz (hd_), .ref xb]) : va_E)) ∈ X2' ∧ (∀ q ∈ X, q.1 ≠ tx → q ∈ X2') := ⟨rfl, _, rfl, rfl, rfl, rfl, rfl, rfl, h_tx, kpX⟩
  exact e_zret hx hb hr hK hV ⟨by decide, by decide⟩ rfl hpost dX8_refuse_9 hlocks
set_option maxHeartbeats 4000000 in
set_option maxRecDepth 100000 in
theorem k8_advance {l : Launch} {dC : Nat → ClassId} {dI : Nat → Nat → Nat} {cx : Nat → Nat} {LB : List Nat} {LP : List Nat} {pc_ : Nat → Nat} {pd : Nat → Int} {co : Nat → Nat → Nat} {X : va_W} {dd : Nat → Nat} {nn ss : Nat → Int} {ll : Nat → Nat} {gg : Nat → Int → Int} {H0 : Heap} {tx xp xw xk xf xs xb : Nat} {lng sp_ tok pla nm wr hd_ : Int}  (h_tx : (tx, (.inr (8, [.ref xp, .ref xw, Iz (0), Iz (lng), Iz (sp_), .ref xk, .ref xf, .ref xs, Iz (0), Iz (tok), Iz (pla), Iz (nm), Iz (wr), Iz (hd_), .ref xb]) : va_E)) ∈ X) : Met l yX8_advance (Cond.code yX8_advance cX8_advance 2 none :: w0c) (eRm 0 0 LB ll 0 0) (cPc dC dI cx LB (pW cx LP pc_ pd co X) dd nn ss ll gg H0 [.ref tx]) (eQv dC dI cx LB (va_A (bW (cx 0) LB dd nn ss ll gg (pW cx LP pc_ pd co X)) H0.size) ll H0 0 0 (fun X' dd' nn' ss' ll' gg' => ∃ X2' : va_W, X' = pW cx LP pc_ pd co X2' ∧ dd' = dd ∧ nn' = nn ∧ ss' = ss ∧ ll' = ll ∧ gg' = gg ∧ (tx, (.inr (8, [.ref xp, .ref xw, Iz (0), Iz (lng), Iz (sp_), .ref xk, .ref xf, .ref xs, Iz (0), Iz ((-1)), Iz (0), Iz (nm), Iz (wr), Iz (hd_), .ref xb]) : va_E)) ∈ X2' ∧ (∀ q ∈ X, q.1 ≠ tx → q ∈ X2'))) (cMc LB ll + 0) (2 * cMc LB ll + 0) (va_A (bW (cx 0) LB dd nn ss ll gg (pW cx LP pc_ pd co X)) H0.size) := by
  refine Met.ofW (cc := cX8_advance) (maxL := 2) (ret := none) (by decide) rfl ?_
  intro p e s m args below meth c s₁ B hml hv
  obtain ⟨rfl, hH0, hP, hK, hD0, hC0⟩ := hv
  have hx := B.exec
  have hb := B.bytes
  have hr := B.returns
  have hts := atoms_spec (ws := Cond.code yX8_advance cX8_advance 2 none :: w0c) B.pre
  have hown : s.vm.findClass RX8 = some m.cls := findClass_of_methodNamed B.named
  have hlocks := B.notSynchronized
  have E : CallFix p m c cX8_advance 2 s _ (Cond.code yX8_advance cX8_advance 2 none :: w0c) RX8 := ⟨hx, hb, hml, hown, hts⟩
  subst hH0
  have hD := va_D.self (sz := s.heap.size) hD0
  have hA : ∀ q : Nat, s.heap.size ≤ q → va_A (bW (cx 0) LB dd nn ss ll gg (pW cx LP pc_ pd co X)) s.heap.size q := fun q h => Or.inr h
  have hV : cV dC dI cx LB (va_A (bW (cx 0) LB dd nn ss ll gg (pW cx LP pc_ pd co X)) s.heap.size) s.heap ll (pW cx LP pc_ pd co X) dd nn ss ll gg s.heap [] := ⟨hP, hD, va_S.rf, fun _ _ => Nat.le_refl _, hC0⟩
  have hR : (headSpec (Cond.code yX8_advance cX8_advance 2 none :: w0c) (eRm 0 0 LB ll 0 0)).room.cells = cMc LB ll + 0 ∧ (headSpec (Cond.code yX8_advance cX8_advance 2 none :: w0c) (eRm 0 0 LB ll 0 0)).room.slots = 2 * cMc LB ll + 0 := ⟨rfl, rfl⟩
  refine W.widen (k := cP LB ll - cP LB ll + 0) (n := 2 * (cP LB ll - cP LB ll) + 0) (Nat.zero_le _) (Nat.zero_le _) ?_
  have hl := lv_entry ([.ref tx]) (n := 2) (Nat.le_of_ble_eq_true rfl)
  rw [lg_entry_eq]
  generalize (lg_sl ([.ref tx]) ++ List.replicate (2 - (lg_sl ([.ref tx])).length) Slot.unset).toArray = ls at hl ⊢
  have hl : lv_has ls 2 [(0, .ref tx)] := hl
  have kpX : ∀ q ∈ X, q.1 ≠ tx → q ∈ X := fun _ h _ => h
  refine lv_aload_n hx hb dX8_advance_0 rfl (lv_at hl 0 rfl) ?_
  refine x_get E hK hV (ci := 8) (C := RX8) (T := TX8) (N := 15) rfl w0c_in8 (pW_x h_tx) 8 (by decide) rfl cf_8_41 rfl dX8_advance_1 ?_
  refine lv_aload_n hx hb dX8_advance_4 rfl (lv_at hl 0 rfl) ?_
  refine x_get E hK hV (ci := 8) (C := RX8) (T := TX8) (N := 15) rfl w0c_in8 (pW_x h_tx) 2 (by decide) rfl cf_8_34 rfl dX8_advance_5 ?_
  refine g_icmp_ge (tgt := 38) hx hb (by first | assumption | exact ⟨by omega, by omega⟩) (by first | assumption | exact ⟨by omega, by omega⟩) dX8_advance_8 (by decide) (fun c_8 => ?_) (fun c_8 => ?_)
  · skip
    refine lv_aload_n hx hb dX8_advance_38 rfl (lv_at hl 0 rfl) ?_
    refine lv_aload_n hx hb dX8_advance_39 rfl (lv_at hl 0 rfl) ?_
    refine x_get E hK hV (ci := 8) (C := RX8) (T := TX8) (N := 15) rfl w0c_in8 (pW_x h_tx) 8 (by decide) rfl cf_8_41 rfl dX8_advance_40 ?_
    refine y_putV3 E hK hV (ci := 8) (C := RX8) (T := TX8) (N := 15) (ty := tyX8) rfl w0c_in8 tyX8_ok nmX8 h_tx 10 (by decide) (v := Iz (0)) (Nat.le_of_ble_eq_true rfl) rfl cf_8_64 rfl rfl rfl dX8_advance_43 (fun H locs X2_43 h__ kp_ hV => ?_)
    have kpX : ∀ q ∈ X, q.1 ≠ tx → q ∈ X2_43 := fun q h nk_tx => kp_ q (kpX q h nk_tx) nk_tx
    have h_tx : (tx, (.inr (8, [.ref xp, .ref xw, Iz (0), Iz (lng), Iz (sp_), .ref xk, .ref xf, .ref xs, Iz (0), Iz (tok), Iz (0), Iz (nm), Iz (wr), Iz (hd_), .ref xb]) : va_E)) ∈ X2_43 := h__
    refine lv_aload_n hx hb dX8_advance_46 rfl (lv_at hl 0 rfl) ?_
    refine x_get E hK hV (ci := 8) (C := RX8) (T := TX8) (N := 15) rfl w0c_in8 (pW_x h_tx) 8 (by decide) rfl cf_8_41 rfl dX8_advance_47 ?_
    refine lv_aload_n hx hb dX8_advance_50 rfl (lv_at hl 0 rfl) ?_
    refine x_get E hK hV (ci := 8) (C := RX8) (T := TX8) (N := 15) rfl w0c_in8 (pW_x h_tx) 2 (by decide) rfl cf_8_34 rfl dX8_advance_51 ?_
    refine g_icmp_lt (tgt := 63) hx hb (by first | assumption | exact ⟨by omega, by omega⟩) (by first | assumption | exact ⟨by omega, by omega⟩) dX8_advance_54 (by decide) (fun c_54 => ?_) (fun c_54 => ?_)
    · omega
    · skip
      refine lv_aload_n hx hb dX8_advance_57 rfl (lv_at hl 0 rfl) ?_
      refine lv_iconst (v := Int32.ofInt (-1)) hx hb dX8_advance_58 (by decide) ?_
      refine y_putV3 E hK hV (ci := 8) (C := RX8) (T := TX8) (N := 15) (ty := tyX8) rfl w0c_in8 tyX8_ok nmX8 h_tx 9 (by decide) (v := Iz ((-1))) (Nat.le_of_ble_eq_true rfl) rfl cf_8_57 rfl rfl rfl dX8_advance_59 (fun H locs X2_59 h__ kp_ hV => ?_)
      have kpX : ∀ q ∈ X, q.1 ≠ tx → q ∈ X2_59 := fun q h nk_tx => kp_ q (kpX q h nk_tx) nk_tx
      have h_tx : (tx, (.inr (8, [.ref xp, .ref xw, Iz (0), Iz (lng), Iz (sp_), .ref xk, .ref xf, .ref xs, Iz (0), Iz ((-1)), Iz (0), Iz (nm), Iz (wr), Iz (hd_), .ref xb]) : va_E)) ∈ X2_59 := h__
      have hpost : ∃ X2' : va_W, (pW cx LP pc_ pd co X2_59) = pW cx LP pc_ pd co X2' ∧ dd = dd ∧ nn = nn ∧ ss = ss ∧ ll = ll ∧ gg = gg ∧ (tx, (.inr (8, [.ref xp, .ref xw, Iz (0), Iz (lng), Iz (sp_), .ref xk, .ref xf, .ref xs, Iz (0), Iz ((-1)), Iz (0), Iz (nm), Iz (wr), Iz (hd_), .ref xb]) : va_E)) ∈ X2' ∧ (∀ q ∈ X, q.1 ≠ tx → q ∈ X2') := ⟨_, rfl, rfl, rfl, rfl, rfl, rfl, h_tx, kpX⟩
      exact e_vret hx hb hr hK hV ⟨by decide, by decide⟩ hpost dX8_advance_62 hlocks
  · omega
set_option maxHeartbeats 4000000 in
set_option maxRecDepth 100000 in
theorem k8_minus {l : Launch} {dC : Nat → ClassId} {dI : Nat → Nat → Nat} {cx : Nat → Nat} {LB : List Nat} {LP : List Nat} {pc_ : Nat → Nat} {pd : Nat → Int} {co : Nat → Nat → Nat} {X : va_W} {dd : Nat → Nat} {nn ss : Nat → Int} {ll : Nat → Nat} {gg : Nat → Int → Int} {H0 : Heap} {tx xp xw xk xf xs xb : Nat} {lng sp_ pla nm wr hd_ : Int}  (h_tx : (tx, (.inr (8, [.ref xp, .ref xw, Iz (0), Iz (lng), Iz (sp_), .ref xk, .ref xf, .ref xs, Iz (0), Iz ((-1)), Iz (pla), Iz (nm), Iz (wr), Iz (hd_), .ref xb]) : va_E)) ∈ X) : Met l yX8_minus (Cond.code yX8_minus cX8_minus 1 (some .boolean) :: w0c) (eRm 1 21 LB ll 0 0) (cPc dC dI cx LB (pW cx LP pc_ pd co X) dd nn ss ll gg H0 [.ref tx]) (eQi dC dI cx LB (va_A (bW (cx 0) LB dd nn ss ll gg (pW cx LP pc_ pd co X)) H0.size) ll H0 0 0 (fun z X' dd' nn' ss' ll' gg' => z = 0 ∧ ∃ X2' : va_W, X' = pW cx LP pc_ pd co X2' ∧ dd' = dd ∧ nn' = nn ∧ ss' = ss ∧ ll' = ll ∧ gg' = gg ∧ (tx, (.inr (8, [.ref xp, .ref xw, Iz (0), Iz (lng), Iz (sp_), .ref xk, .ref xf, .ref xs, Iz (0), Iz ((-1)), Iz (pla), Iz (nm), Iz (wr), Iz (hd_), .ref xb]) : va_E)) ∈ X2' ∧ (∀ q ∈ X, q.1 ≠ tx → q ∈ X2'))) (cMc LB ll + 0) (2 * cMc LB ll + 0) (va_A (bW (cx 0) LB dd nn ss ll gg (pW cx LP pc_ pd co X)) H0.size) := by
  refine Met.ofW (cc := cX8_minus) (maxL := 1) (ret := (some .boolean)) (by decide) rfl ?_
  intro p e s m args below meth c s₁ B hml hv
  obtain ⟨rfl, hH0, hP, hK, hD0, hC0⟩ := hv
  have hx := B.exec
  have hb := B.bytes
  have hr := B.returns
  have hts := atoms_spec (ws := Cond.code yX8_minus cX8_minus 1 (some .boolean) :: w0c) B.pre
  have hown : s.vm.findClass RX8 = some m.cls := findClass_of_methodNamed B.named
  have hlocks := B.notSynchronized
  have E : CallFix p m c cX8_minus 1 s _ (Cond.code yX8_minus cX8_minus 1 (some .boolean) :: w0c) RX8 := ⟨hx, hb, hml, hown, hts⟩
  subst hH0
  have hD := va_D.self (sz := s.heap.size) hD0
  have hA : ∀ q : Nat, s.heap.size ≤ q → va_A (bW (cx 0) LB dd nn ss ll gg (pW cx LP pc_ pd co X)) s.heap.size q := fun q h => Or.inr h
  have hV : cV dC dI cx LB (va_A (bW (cx 0) LB dd nn ss ll gg (pW cx LP pc_ pd co X)) s.heap.size) s.heap ll (pW cx LP pc_ pd co X) dd nn ss ll gg s.heap [] := ⟨hP, hD, va_S.rf, fun _ _ => Nat.le_refl _, hC0⟩
  have hR : (headSpec (Cond.code yX8_minus cX8_minus 1 (some .boolean) :: w0c) (eRm 1 21 LB ll 0 0)).room.cells = cMc LB ll + 0 ∧ (headSpec (Cond.code yX8_minus cX8_minus 1 (some .boolean) :: w0c) (eRm 1 21 LB ll 0 0)).room.slots = 2 * cMc LB ll + 0 := ⟨rfl, rfl⟩
  refine W.widen (k := cP LB ll - cP LB ll + 0) (n := 2 * (cP LB ll - cP LB ll) + 0) (Nat.zero_le _) (Nat.zero_le _) ?_
  have hl := lv_entry ([.ref tx]) (n := 1) (Nat.le_of_ble_eq_true rfl)
  rw [lg_entry_eq]
  generalize (lg_sl ([.ref tx]) ++ List.replicate (1 - (lg_sl ([.ref tx])).length) Slot.unset).toArray = ls at hl ⊢
  have hl : lv_has ls 1 [(0, .ref tx)] := hl
  have kpX : ∀ q ∈ X, q.1 ≠ tx → q ∈ X := fun _ h _ => h
  refine lv_aload_n hx hb dX8_minus_0 rfl (lv_at hl 0 rfl) ?_
  refine x_get E hK hV (ci := 8) (C := RX8) (T := TX8) (N := 15) rfl w0c_in8 (pW_x h_tx) 9 (by decide) rfl cf_8_57 rfl dX8_minus_1 ?_
  refine lv_bipush (v := Int32.ofInt (45)) hx hb dX8_minus_4 (by decide) ?_
  refine g_icmp_eq (tgt := 11) hx hb (by first | assumption | exact ⟨by omega, by omega⟩) (by first | assumption | exact ⟨by omega, by omega⟩) dX8_minus_6 (by decide) (fun c_6 => ?_) (fun c_6 => ?_)
  · omega
  · skip
    refine lv_iconst (v := Int32.ofInt (0)) hx hb dX8_minus_9 (by decide) ?_
    have hpost : (0 : Int) = 0 ∧ ∃ X2' : va_W, (pW cx LP pc_ pd co X) = pW cx LP pc_ pd co X2' ∧ dd = dd ∧ nn = nn ∧ ss = ss ∧ ll = ll ∧ gg = gg ∧ (tx, (.inr (8, [.ref xp, .ref xw, Iz (0), Iz (lng), Iz (sp_), .ref xk, .ref xf, .ref xs, Iz (0), Iz ((-1)), Iz (pla), Iz (nm), Iz (wr), Iz (hd_), .ref xb]) : va_E)) ∈ X2' ∧ (∀ q ∈ X, q.1 ≠ tx → q ∈ X2') := ⟨rfl, _, rfl, rfl, rfl, rfl, rfl, rfl, h_tx, kpX⟩
    exact e_zret hx hb hr hK hV ⟨by decide, by decide⟩ rfl hpost dX8_minus_10 hlocks
set_option maxHeartbeats 4000000 in
set_option maxRecDepth 100000 in
theorem k8_atom {l : Launch} {dC : Nat → ClassId} {dI : Nat → Nat → Nat} {cx : Nat → Nat} {LB : List Nat} {LP : List Nat} {pc_ : Nat → Nat} {pd : Nat → Int} {co : Nat → Nat → Nat} {X : va_W} {dd : Nat → Nat} {nn ss : Nat → Int} {ll : Nat → Nat} {gg : Nat → Int → Int} {H0 : Heap} {tx xp xw xk xf xs xb : Nat} {lng sp_ pla nm wr hd_ : Int} {ia : Int}  (h_tx : (tx, (.inr (8, [.ref xp, .ref xw, Iz (0), Iz (lng), Iz (sp_), .ref xk, .ref xf, .ref xs, Iz (0), Iz ((-1)), Iz (pla), Iz (nm), Iz (wr), Iz (hd_), .ref xb]) : va_E)) ∈ X) : Met l yX8_atom (Cond.code yX8_atom cX8_atom 2 (some .boolean) :: w0c) (eRm 1 21 LB ll 0 0) (cPc dC dI cx LB (pW cx LP pc_ pd co X) dd nn ss ll gg H0 [.ref tx, Iz (ia)]) (eQi dC dI cx LB (va_A (bW (cx 0) LB dd nn ss ll gg (pW cx LP pc_ pd co X)) H0.size) ll H0 0 0 (fun z X' dd' nn' ss' ll' gg' => z = 0 ∧ ∃ X2' : va_W, X' = pW cx LP pc_ pd co X2' ∧ dd' = dd ∧ nn' = nn ∧ ss' = ss ∧ ll' = ll ∧ gg' = gg ∧ (tx, (.inr (8, [.ref xp, .ref xw, Iz (0), Iz (lng), Iz (sp_), .ref xk, .ref xf, .ref xs, Iz (0), Iz ((-1)), Iz (pla), Iz (nm), Iz (pla), Iz (hd_), .ref xb]) : va_E)) ∈ X2' ∧ (∀ q ∈ X, q.1 ≠ tx → q ∈ X2'))) (cMc LB ll + 0) (2 * cMc LB ll + 0) (va_A (bW (cx 0) LB dd nn ss ll gg (pW cx LP pc_ pd co X)) H0.size) := by
  refine Met.ofW (cc := cX8_atom) (maxL := 2) (ret := (some .boolean)) (by decide) rfl ?_
  intro p e s m args below meth c s₁ B hml hv
  obtain ⟨rfl, hH0, hP, hK, hD0, hC0⟩ := hv
  have hx := B.exec
  have hb := B.bytes
  have hr := B.returns
  have hts := atoms_spec (ws := Cond.code yX8_atom cX8_atom 2 (some .boolean) :: w0c) B.pre
  have hown : s.vm.findClass RX8 = some m.cls := findClass_of_methodNamed B.named
  have hlocks := B.notSynchronized
  have E : CallFix p m c cX8_atom 2 s _ (Cond.code yX8_atom cX8_atom 2 (some .boolean) :: w0c) RX8 := ⟨hx, hb, hml, hown, hts⟩
  subst hH0
  have hD := va_D.self (sz := s.heap.size) hD0
  have hA : ∀ q : Nat, s.heap.size ≤ q → va_A (bW (cx 0) LB dd nn ss ll gg (pW cx LP pc_ pd co X)) s.heap.size q := fun q h => Or.inr h
  have hV : cV dC dI cx LB (va_A (bW (cx 0) LB dd nn ss ll gg (pW cx LP pc_ pd co X)) s.heap.size) s.heap ll (pW cx LP pc_ pd co X) dd nn ss ll gg s.heap [] := ⟨hP, hD, va_S.rf, fun _ _ => Nat.le_refl _, hC0⟩
  have hR : (headSpec (Cond.code yX8_atom cX8_atom 2 (some .boolean) :: w0c) (eRm 1 21 LB ll 0 0)).room.cells = cMc LB ll + 0 ∧ (headSpec (Cond.code yX8_atom cX8_atom 2 (some .boolean) :: w0c) (eRm 1 21 LB ll 0 0)).room.slots = 2 * cMc LB ll + 0 := ⟨rfl, rfl⟩
  refine W.widen (k := cP LB ll - cP LB ll + 0) (n := 2 * (cP LB ll - cP LB ll) + 0) (Nat.zero_le _) (Nat.zero_le _) ?_
  have hl := lv_entry ([.ref tx, Iz (ia)]) (n := 2) (Nat.le_of_ble_eq_true rfl)
  rw [lg_entry_eq]
  generalize (lg_sl ([.ref tx, Iz (ia)]) ++ List.replicate (2 - (lg_sl ([.ref tx, Iz (ia)])).length) Slot.unset).toArray = ls at hl ⊢
  have hl : lv_has ls 2 [(0, .ref tx), (1, Iz (ia))] := hl
  have kpX : ∀ q ∈ X, q.1 ≠ tx → q ∈ X := fun _ h _ => h
  refine lv_aload_n hx hb dX8_atom_0 rfl (lv_at hl 0 rfl) ?_
  refine x_get E hK hV (ci := 8) (C := RX8) (T := TX8) (N := 15) rfl w0c_in8 (pW_x h_tx) 9 (by decide) rfl cf_8_57 rfl dX8_atom_1 ?_
  refine lv_lookup (off := 192) (tgt := 196) hx hb dX8_atom_4 (by decide) (by decide +kernel) (by decide) ?_
  refine lv_aload_n hx hb dX8_atom_196 rfl (lv_at hl 0 rfl) ?_
  refine e_calli (k2 := 0) (n2 := 0) (f := 0) (kl := 0) (As := []) (rest := []) E (k8_refuse h_tx) (cwV 0 hts (cGood cl_X8_60 ci_X8_refuse cs_X8_refuse cn_RX8 cc_X8_refuse) rfl rfl rfl (by decide +kernel) ⟨Nat.le_of_ble_eq_true rfl, Nat.le_of_ble_eq_true rfl⟩) (x_recv (q := (RX8, TX8, 15)) hK hV (ci := 8) rfl (pW_x h_tx)) hK hV hA hR ⟨by decide, by decide⟩ rfl hl.1 (Nat.le_of_ble_eq_true rfl) dX8_atom_197 (fun z197 X197 dd197 nn197 ss197 ll197 gg197 H locs q197 hV hm197 => ?_)
  obtain ⟨rfl, q197⟩ := q197
  obtain ⟨X2197, e1_, e2_, e3_, e4_, e5_, e6_, hf197, kp197⟩ := q197
  obtain rfl := e1_.symm
  obtain rfl := e2_.symm
  obtain rfl := e3_.symm
  obtain rfl := e4_.symm
  obtain rfl := e5_.symm
  obtain rfl := e6_.symm
  have kpX : ∀ q ∈ X, q.1 ≠ tx → q ∈ X2197 := fun q h nk_tx => kp197 q (kpX q h nk_tx) nk_tx
  have h_tx := hf197
  refine W.widen (k := cP LB ll - cP LB ll + 0) (n := 2 * (cP LB ll - cP LB ll) + 0) (Nat.le_refl _) (Nat.le_refl _) ?_
  have hpost : (0 : Int) = 0 ∧ ∃ X2' : va_W, (pW cx LP pc_ pd co X2197) = pW cx LP pc_ pd co X2' ∧ dd = dd ∧ nn = nn ∧ ss = ss ∧ ll = ll ∧ gg = gg ∧ (tx, (.inr (8, [.ref xp, .ref xw, Iz (0), Iz (lng), Iz (sp_), .ref xk, .ref xf, .ref xs, Iz (0), Iz ((-1)), Iz (pla), Iz (nm), Iz (pla), Iz (hd_), .ref xb]) : va_E)) ∈ X2' ∧ (∀ q ∈ X, q.1 ≠ tx → q ∈ X2') := ⟨rfl, _, rfl, rfl, rfl, rfl, rfl, rfl, h_tx, kpX⟩
  exact e_zret hx hb hr hK hV ⟨by decide, by decide⟩ rfl hpost dX8_atom_200 hlocks
set_option maxHeartbeats 4000000 in
set_option maxRecDepth 100000 in
theorem k8_raised {l : Launch} {dC : Nat → ClassId} {dI : Nat → Nat → Nat} {cx : Nat → Nat} {LB : List Nat} {LP : List Nat} {pc_ : Nat → Nat} {pd : Nat → Int} {co : Nat → Nat → Nat} {X : va_W} {dd : Nat → Nat} {nn ss : Nat → Int} {ll : Nat → Nat} {gg : Nat → Int → Int} {H0 : Heap} {tx xp xw xk xf xs xb : Nat} {lng sp_ pla nm wr hd_ : Int} {ia : Int}  (h_tx : (tx, (.inr (8, [.ref xp, .ref xw, Iz (0), Iz (lng), Iz (sp_), .ref xk, .ref xf, .ref xs, Iz (0), Iz ((-1)), Iz (pla), Iz (nm), Iz (wr), Iz (hd_), .ref xb]) : va_E)) ∈ X) : Met l yX8_raised (Cond.code yX8_raised cX8_raised 3 (some .boolean) :: w0c) (eRm 2 42 LB ll 0 0) (cPc dC dI cx LB (pW cx LP pc_ pd co X) dd nn ss ll gg H0 [.ref tx, Iz (ia)]) (eQi dC dI cx LB (va_A (bW (cx 0) LB dd nn ss ll gg (pW cx LP pc_ pd co X)) H0.size) ll H0 0 0 (fun z X' dd' nn' ss' ll' gg' => z = 0 ∧ ∃ X2' : va_W, X' = pW cx LP pc_ pd co X2' ∧ dd' = dd ∧ nn' = nn ∧ ss' = ss ∧ ll' = ll ∧ gg' = gg ∧ (tx, (.inr (8, [.ref xp, .ref xw, Iz (0), Iz (lng), Iz (sp_), .ref xk, .ref xf, .ref xs, Iz (0), Iz ((-1)), Iz (pla), Iz (nm), Iz (pla), Iz (hd_), .ref xb]) : va_E)) ∈ X2' ∧ (∀ q ∈ X, q.1 ≠ tx → q ∈ X2'))) (cMc LB ll + 0) (2 * cMc LB ll + 0) (va_A (bW (cx 0) LB dd nn ss ll gg (pW cx LP pc_ pd co X)) H0.size) := by
  refine Met.ofW (cc := cX8_raised) (maxL := 3) (ret := (some .boolean)) (by decide) rfl ?_
  intro p e s m args below meth c s₁ B hml hv
  obtain ⟨rfl, hH0, hP, hK, hD0, hC0⟩ := hv
  have hx := B.exec
  have hb := B.bytes
  have hr := B.returns
  have hts := atoms_spec (ws := Cond.code yX8_raised cX8_raised 3 (some .boolean) :: w0c) B.pre
  have hown : s.vm.findClass RX8 = some m.cls := findClass_of_methodNamed B.named
  have hlocks := B.notSynchronized
  have E : CallFix p m c cX8_raised 3 s _ (Cond.code yX8_raised cX8_raised 3 (some .boolean) :: w0c) RX8 := ⟨hx, hb, hml, hown, hts⟩
  subst hH0
  have hD := va_D.self (sz := s.heap.size) hD0
  have hA : ∀ q : Nat, s.heap.size ≤ q → va_A (bW (cx 0) LB dd nn ss ll gg (pW cx LP pc_ pd co X)) s.heap.size q := fun q h => Or.inr h
  have hV : cV dC dI cx LB (va_A (bW (cx 0) LB dd nn ss ll gg (pW cx LP pc_ pd co X)) s.heap.size) s.heap ll (pW cx LP pc_ pd co X) dd nn ss ll gg s.heap [] := ⟨hP, hD, va_S.rf, fun _ _ => Nat.le_refl _, hC0⟩
  have hR : (headSpec (Cond.code yX8_raised cX8_raised 3 (some .boolean) :: w0c) (eRm 2 42 LB ll 0 0)).room.cells = cMc LB ll + 0 ∧ (headSpec (Cond.code yX8_raised cX8_raised 3 (some .boolean) :: w0c) (eRm 2 42 LB ll 0 0)).room.slots = 2 * cMc LB ll + 0 := ⟨rfl, rfl⟩
  refine W.widen (k := cP LB ll - cP LB ll + 0) (n := 2 * (cP LB ll - cP LB ll) + 0) (Nat.zero_le _) (Nat.zero_le _) ?_
  have hl := lv_entry ([.ref tx, Iz (ia)]) (n := 3) (Nat.le_of_ble_eq_true rfl)
  rw [lg_entry_eq]
  generalize (lg_sl ([.ref tx, Iz (ia)]) ++ List.replicate (3 - (lg_sl ([.ref tx, Iz (ia)])).length) Slot.unset).toArray = ls at hl ⊢
  have hl : lv_has ls 3 [(0, .ref tx), (1, Iz (ia))] := hl
  have kpX : ∀ q ∈ X, q.1 ≠ tx → q ∈ X := fun _ h _ => h
  refine lv_aload_n hx hb dX8_raised_0 rfl (lv_at hl 0 rfl) ?_
  refine lv_iload_n hx hb dX8_raised_1 rfl (lv_at hl 1 rfl) ?_
  refine e_calli (k2 := 0) (n2 := 0) (f := 1) (kl := 21) (As := [Iz (ia)]) (rest := []) E (k8_atom h_tx) (cwV 1 hts (cGood cl_X8_89 ci_X8_atom cs_X8_atom cn_RX8 cc_X8_atom) rfl rfl rfl (by decide +kernel) ⟨Nat.le_of_ble_eq_true rfl, Nat.le_of_ble_eq_true rfl⟩) (x_recv (q := (RX8, TX8, 15)) hK hV (ci := 8) rfl (pW_x h_tx)) hK hV hA hR ⟨by decide, by decide⟩ rfl hl.1 (Nat.le_of_ble_eq_true rfl) dX8_raised_2 (fun z2 X2 dd2 nn2 ss2 ll2 gg2 H locs q2 hV hm2 => ?_)
  obtain ⟨rfl, q2⟩ := q2
  obtain ⟨X22, e1_, e2_, e3_, e4_, e5_, e6_, hf2, kp2⟩ := q2
  obtain rfl := e1_.symm
  obtain rfl := e2_.symm
  obtain rfl := e3_.symm
  obtain rfl := e4_.symm
  obtain rfl := e5_.symm
  obtain rfl := e6_.symm
  have kpX : ∀ q ∈ X, q.1 ≠ tx → q ∈ X22 := fun q h nk_tx => kp2 q (kpX q h nk_tx) nk_tx
  have h_tx := hf2
  refine W.widen (k := cP LB ll - cP LB ll + 0) (n := 2 * (cP LB ll - cP LB ll) + 0) (Nat.le_refl _) (Nat.le_refl _) ?_
  refine g_if_ne (tgt := 10) hx hb (by first | assumption | exact ⟨by omega, by omega⟩) dX8_raised_5 (by decide) (fun c_5 => ?_) (fun c_5 => ?_)
  · omega
  · skip
    refine lv_iconst (v := Int32.ofInt (0)) hx hb dX8_raised_8 (by decide) ?_
    have hpost : (0 : Int) = 0 ∧ ∃ X2' : va_W, (pW cx LP pc_ pd co X22) = pW cx LP pc_ pd co X2' ∧ dd = dd ∧ nn = nn ∧ ss = ss ∧ ll = ll ∧ gg = gg ∧ (tx, (.inr (8, [.ref xp, .ref xw, Iz (0), Iz (lng), Iz (sp_), .ref xk, .ref xf, .ref xs, Iz (0), Iz ((-1)), Iz (pla), Iz (nm), Iz (pla), Iz (hd_), .ref xb]) : va_E)) ∈ X2' ∧ (∀ q ∈ X, q.1 ≠ tx → q ∈ X2') := ⟨rfl, _, rfl, rfl, rfl, rfl, rfl, rfl, h_tx, kpX⟩
    exact e_zret hx hb hr hK hV ⟨by decide, by decide⟩ rfl hpost dX8_raised_9 hlocks
set_option maxHeartbeats 4000000 in
set_option maxRecDepth 100000 in
theorem k8_product {l : Launch} {dC : Nat → ClassId} {dI : Nat → Nat → Nat} {cx : Nat → Nat} {LB : List Nat} {LP : List Nat} {pc_ : Nat → Nat} {pd : Nat → Int} {co : Nat → Nat → Nat} {X : va_W} {dd : Nat → Nat} {nn ss : Nat → Int} {ll : Nat → Nat} {gg : Nat → Int → Int} {H0 : Heap} {tx xp xw xk xf xs xb : Nat} {lng sp_ pla nm wr hd_ : Int} {ia : Int}  (h_tx : (tx, (.inr (8, [.ref xp, .ref xw, Iz (0), Iz (lng), Iz (sp_), .ref xk, .ref xf, .ref xs, Iz (0), Iz ((-1)), Iz (pla), Iz (nm), Iz (wr), Iz (hd_), .ref xb]) : va_E)) ∈ X) : Met l yX8_product (Cond.code yX8_product cX8_product 4 (some .boolean) :: w0c) (eRm 3 64 LB ll 0 0) (cPc dC dI cx LB (pW cx LP pc_ pd co X) dd nn ss ll gg H0 [.ref tx, Iz (ia)]) (eQi dC dI cx LB (va_A (bW (cx 0) LB dd nn ss ll gg (pW cx LP pc_ pd co X)) H0.size) ll H0 0 0 (fun z X' dd' nn' ss' ll' gg' => z = 0 ∧ ∃ X2' : va_W, X' = pW cx LP pc_ pd co X2' ∧ dd' = dd ∧ nn' = nn ∧ ss' = ss ∧ ll' = ll ∧ gg' = gg ∧ (tx, (.inr (8, [.ref xp, .ref xw, Iz (0), Iz (lng), Iz (sp_), .ref xk, .ref xf, .ref xs, Iz (0), Iz ((-1)), Iz (pla), Iz (nm), Iz (pla), Iz (hd_), .ref xb]) : va_E)) ∈ X2' ∧ (∀ q ∈ X, q.1 ≠ tx → q ∈ X2'))) (cMc LB ll + 0) (2 * cMc LB ll + 0) (va_A (bW (cx 0) LB dd nn ss ll gg (pW cx LP pc_ pd co X)) H0.size) := by
  refine Met.ofW (cc := cX8_product) (maxL := 4) (ret := (some .boolean)) (by decide) rfl ?_
  intro p e s m args below meth c s₁ B hml hv
  obtain ⟨rfl, hH0, hP, hK, hD0, hC0⟩ := hv
  have hx := B.exec
  have hb := B.bytes
  have hr := B.returns
  have hts := atoms_spec (ws := Cond.code yX8_product cX8_product 4 (some .boolean) :: w0c) B.pre
  have hown : s.vm.findClass RX8 = some m.cls := findClass_of_methodNamed B.named
  have hlocks := B.notSynchronized
  have E : CallFix p m c cX8_product 4 s _ (Cond.code yX8_product cX8_product 4 (some .boolean) :: w0c) RX8 := ⟨hx, hb, hml, hown, hts⟩
  subst hH0
  have hD := va_D.self (sz := s.heap.size) hD0
  have hA : ∀ q : Nat, s.heap.size ≤ q → va_A (bW (cx 0) LB dd nn ss ll gg (pW cx LP pc_ pd co X)) s.heap.size q := fun q h => Or.inr h
  have hV : cV dC dI cx LB (va_A (bW (cx 0) LB dd nn ss ll gg (pW cx LP pc_ pd co X)) s.heap.size) s.heap ll (pW cx LP pc_ pd co X) dd nn ss ll gg s.heap [] := ⟨hP, hD, va_S.rf, fun _ _ => Nat.le_refl _, hC0⟩
  have hR : (headSpec (Cond.code yX8_product cX8_product 4 (some .boolean) :: w0c) (eRm 3 64 LB ll 0 0)).room.cells = cMc LB ll + 0 ∧ (headSpec (Cond.code yX8_product cX8_product 4 (some .boolean) :: w0c) (eRm 3 64 LB ll 0 0)).room.slots = 2 * cMc LB ll + 0 := ⟨rfl, rfl⟩
  refine W.widen (k := cP LB ll - cP LB ll + 0) (n := 2 * (cP LB ll - cP LB ll) + 0) (Nat.zero_le _) (Nat.zero_le _) ?_
  have hl := lv_entry ([.ref tx, Iz (ia)]) (n := 4) (Nat.le_of_ble_eq_true rfl)
  rw [lg_entry_eq]
  generalize (lg_sl ([.ref tx, Iz (ia)]) ++ List.replicate (4 - (lg_sl ([.ref tx, Iz (ia)])).length) Slot.unset).toArray = ls at hl ⊢
  have hl : lv_has ls 4 [(0, .ref tx), (1, Iz (ia))] := hl
  have kpX : ∀ q ∈ X, q.1 ≠ tx → q ∈ X := fun _ h _ => h
  refine lv_aload_n hx hb dX8_product_0 rfl (lv_at hl 0 rfl) ?_
  refine lv_iload_n hx hb dX8_product_1 rfl (lv_at hl 1 rfl) ?_
  refine e_calli (k2 := 0) (n2 := 0) (f := 2) (kl := 42) (As := [Iz (ia)]) (rest := []) E (k8_raised h_tx) (cwV 1 hts (cGood cl_X8_86 ci_X8_raised cs_X8_raised cn_RX8 cc_X8_raised) rfl rfl rfl (by decide +kernel) ⟨Nat.le_of_ble_eq_true rfl, Nat.le_of_ble_eq_true rfl⟩) (x_recv (q := (RX8, TX8, 15)) hK hV (ci := 8) rfl (pW_x h_tx)) hK hV hA hR ⟨by decide, by decide⟩ rfl hl.1 (Nat.le_of_ble_eq_true rfl) dX8_product_2 (fun z2 X2 dd2 nn2 ss2 ll2 gg2 H locs q2 hV hm2 => ?_)
  obtain ⟨rfl, q2⟩ := q2
  obtain ⟨X22, e1_, e2_, e3_, e4_, e5_, e6_, hf2, kp2⟩ := q2
  obtain rfl := e1_.symm
  obtain rfl := e2_.symm
  obtain rfl := e3_.symm
  obtain rfl := e4_.symm
  obtain rfl := e5_.symm
  obtain rfl := e6_.symm
  have kpX : ∀ q ∈ X, q.1 ≠ tx → q ∈ X22 := fun q h nk_tx => kp2 q (kpX q h nk_tx) nk_tx
  have h_tx := hf2
  refine W.widen (k := cP LB ll - cP LB ll + 0) (n := 2 * (cP LB ll - cP LB ll) + 0) (Nat.le_refl _) (Nat.le_refl _) ?_
  refine g_if_ne (tgt := 10) hx hb (by first | assumption | exact ⟨by omega, by omega⟩) dX8_product_5 (by decide) (fun c_5 => ?_) (fun c_5 => ?_)
  · omega
  · skip
    refine lv_iconst (v := Int32.ofInt (0)) hx hb dX8_product_8 (by decide) ?_
    have hpost : (0 : Int) = 0 ∧ ∃ X2' : va_W, (pW cx LP pc_ pd co X22) = pW cx LP pc_ pd co X2' ∧ dd = dd ∧ nn = nn ∧ ss = ss ∧ ll = ll ∧ gg = gg ∧ (tx, (.inr (8, [.ref xp, .ref xw, Iz (0), Iz (lng), Iz (sp_), .ref xk, .ref xf, .ref xs, Iz (0), Iz ((-1)), Iz (pla), Iz (nm), Iz (pla), Iz (hd_), .ref xb]) : va_E)) ∈ X2' ∧ (∀ q ∈ X, q.1 ≠ tx → q ∈ X2') := ⟨rfl, _, rfl, rfl, rfl, rfl, rfl, rfl, h_tx, kpX⟩
    exact e_zret hx hb hr hK hV ⟨by decide, by decide⟩ rfl hpost dX8_product_9 hlocks
set_option maxHeartbeats 4000000 in
set_option maxRecDepth 100000 in
theorem k8_sum {l : Launch} {dC : Nat → ClassId} {dI : Nat → Nat → Nat} {cx : Nat → Nat} {LB : List Nat} {LP : List Nat} {pc_ : Nat → Nat} {pd : Nat → Int} {co : Nat → Nat → Nat} {X : va_W} {dd : Nat → Nat} {nn ss : Nat → Int} {ll : Nat → Nat} {gg : Nat → Int → Int} {H0 : Heap} {tx xp xw xk xf xs xb : Nat} {lng sp_ pla nm wr hd_ : Int} {ia : Int}  (h_tx : (tx, (.inr (8, [.ref xp, .ref xw, Iz (0), Iz (lng), Iz (sp_), .ref xk, .ref xf, .ref xs, Iz (0), Iz ((-1)), Iz (pla), Iz (nm), Iz (wr), Iz (hd_), .ref xb]) : va_E)) ∈ X) : Met l yX8_sum (Cond.code yX8_sum cX8_sum 5 (some .boolean) :: w0c) (eRm 4 87 LB ll 0 0) (cPc dC dI cx LB (pW cx LP pc_ pd co X) dd nn ss ll gg H0 [.ref tx, Iz (ia)]) (eQi dC dI cx LB (va_A (bW (cx 0) LB dd nn ss ll gg (pW cx LP pc_ pd co X)) H0.size) ll H0 0 0 (fun z X' dd' nn' ss' ll' gg' => z = 0 ∧ ∃ X2' : va_W, X' = pW cx LP pc_ pd co X2' ∧ dd' = dd ∧ nn' = nn ∧ ss' = ss ∧ ll' = ll ∧ gg' = gg ∧ (tx, (.inr (8, [.ref xp, .ref xw, Iz (0), Iz (lng), Iz (sp_), .ref xk, .ref xf, .ref xs, Iz (0), Iz ((-1)), Iz (pla), Iz (nm), Iz (pla), Iz (hd_), .ref xb]) : va_E)) ∈ X2' ∧ (∀ q ∈ X, q.1 ≠ tx → q ∈ X2'))) (cMc LB ll + 0) (2 * cMc LB ll + 0) (va_A (bW (cx 0) LB dd nn ss ll gg (pW cx LP pc_ pd co X)) H0.size) := by
  refine Met.ofW (cc := cX8_sum) (maxL := 5) (ret := (some .boolean)) (by decide) rfl ?_
  intro p e s m args below meth c s₁ B hml hv
  obtain ⟨rfl, hH0, hP, hK, hD0, hC0⟩ := hv
  have hx := B.exec
  have hb := B.bytes
  have hr := B.returns
  have hts := atoms_spec (ws := Cond.code yX8_sum cX8_sum 5 (some .boolean) :: w0c) B.pre
  have hown : s.vm.findClass RX8 = some m.cls := findClass_of_methodNamed B.named
  have hlocks := B.notSynchronized
  have E : CallFix p m c cX8_sum 5 s _ (Cond.code yX8_sum cX8_sum 5 (some .boolean) :: w0c) RX8 := ⟨hx, hb, hml, hown, hts⟩
  subst hH0
  have hD := va_D.self (sz := s.heap.size) hD0
  have hA : ∀ q : Nat, s.heap.size ≤ q → va_A (bW (cx 0) LB dd nn ss ll gg (pW cx LP pc_ pd co X)) s.heap.size q := fun q h => Or.inr h
  have hV : cV dC dI cx LB (va_A (bW (cx 0) LB dd nn ss ll gg (pW cx LP pc_ pd co X)) s.heap.size) s.heap ll (pW cx LP pc_ pd co X) dd nn ss ll gg s.heap [] := ⟨hP, hD, va_S.rf, fun _ _ => Nat.le_refl _, hC0⟩
  have hR : (headSpec (Cond.code yX8_sum cX8_sum 5 (some .boolean) :: w0c) (eRm 4 87 LB ll 0 0)).room.cells = cMc LB ll + 0 ∧ (headSpec (Cond.code yX8_sum cX8_sum 5 (some .boolean) :: w0c) (eRm 4 87 LB ll 0 0)).room.slots = 2 * cMc LB ll + 0 := ⟨rfl, rfl⟩
  refine W.widen (k := cP LB ll - cP LB ll + 0) (n := 2 * (cP LB ll - cP LB ll) + 0) (Nat.zero_le _) (Nat.zero_le _) ?_
  have hl := lv_entry ([.ref tx, Iz (ia)]) (n := 5) (Nat.le_of_ble_eq_true rfl)
  rw [lg_entry_eq]
  generalize (lg_sl ([.ref tx, Iz (ia)]) ++ List.replicate (5 - (lg_sl ([.ref tx, Iz (ia)])).length) Slot.unset).toArray = ls at hl ⊢
  have hl : lv_has ls 5 [(0, .ref tx), (1, Iz (ia))] := hl
  have kpX : ∀ q ∈ X, q.1 ≠ tx → q ∈ X := fun _ h _ => h
  refine lv_aload_n hx hb dX8_sum_0 rfl (lv_at hl 0 rfl) ?_
  refine e_calli (k2 := 0) (n2 := 0) (f := 1) (kl := 21) (As := []) (rest := []) E (k8_minus h_tx) (cwV 0 hts (cGood cl_X8_76 ci_X8_minus cs_X8_minus cn_RX8 cc_X8_minus) rfl rfl rfl (by decide +kernel) ⟨Nat.le_of_ble_eq_true rfl, Nat.le_of_ble_eq_true rfl⟩) (x_recv (q := (RX8, TX8, 15)) hK hV (ci := 8) rfl (pW_x h_tx)) hK hV hA hR ⟨by decide, by decide⟩ rfl hl.1 (Nat.le_of_ble_eq_true rfl) dX8_sum_1 (fun z1 X1 dd1 nn1 ss1 ll1 gg1 H locs q1 hV hm1 => ?_)
  obtain ⟨rfl, q1⟩ := q1
  obtain ⟨X21, e1_, e2_, e3_, e4_, e5_, e6_, hf1, kp1⟩ := q1
  obtain rfl := e1_.symm
  obtain rfl := e2_.symm
  obtain rfl := e3_.symm
  obtain rfl := e4_.symm
  obtain rfl := e5_.symm
  obtain rfl := e6_.symm
  have kpX : ∀ q ∈ X, q.1 ≠ tx → q ∈ X21 := fun q h nk_tx => kp1 q (kpX q h nk_tx) nk_tx
  have h_tx := hf1
  refine W.widen (k := cP LB ll - cP LB ll + 0) (n := 2 * (cP LB ll - cP LB ll) + 0) (Nat.le_refl _) (Nat.le_refl _) ?_
  refine lv_istore_n (lv' := [(2, Iz (0)), (0, .ref tx), (1, Iz (ia))]) hx hb dX8_sum_4 rfl hl (by decide) rfl (fun ls hl => ?_)
  refine lv_aload_n hx hb dX8_sum_5 rfl (lv_at hl 1 rfl) ?_
  refine lv_iload_n hx hb dX8_sum_6 rfl (lv_at hl 2 rfl) ?_
  refine e_calli (k2 := 0) (n2 := 0) (f := 3) (kl := 64) (As := [Iz (ia)]) (rest := []) E (k8_product h_tx) (cwV 1 hts (cGood cl_X8_79 ci_X8_product cs_X8_product cn_RX8 cc_X8_product) rfl rfl rfl (by decide +kernel) ⟨Nat.le_of_ble_eq_true rfl, Nat.le_of_ble_eq_true rfl⟩) (x_recv (q := (RX8, TX8, 15)) hK hV (ci := 8) rfl (pW_x h_tx)) hK hV hA hR ⟨by decide, by decide⟩ rfl hl.1 (Nat.le_of_ble_eq_true rfl) dX8_sum_7 (fun z7 X7 dd7 nn7 ss7 ll7 gg7 H locs q7 hV hm7 => ?_)
  obtain ⟨rfl, q7⟩ := q7
  obtain ⟨X27, e1_, e2_, e3_, e4_, e5_, e6_, hf7, kp7⟩ := q7
  obtain rfl := e1_.symm
  obtain rfl := e2_.symm
  obtain rfl := e3_.symm
  obtain rfl := e4_.symm
  obtain rfl := e5_.symm
  obtain rfl := e6_.symm
  have kpX : ∀ q ∈ X, q.1 ≠ tx → q ∈ X27 := fun q h nk_tx => kp7 q (kpX q h nk_tx) nk_tx
  have h_tx := hf7
  refine W.widen (k := cP LB ll - cP LB ll + 0) (n := 2 * (cP LB ll - cP LB ll) + 0) (Nat.le_refl _) (Nat.le_refl _) ?_
  refine g_if_ne (tgt := 15) hx hb (by first | assumption | exact ⟨by omega, by omega⟩) dX8_sum_10 (by decide) (fun c_10 => ?_) (fun c_10 => ?_)
  · omega
  · skip
    refine lv_iconst (v := Int32.ofInt (0)) hx hb dX8_sum_13 (by decide) ?_
    have hpost : (0 : Int) = 0 ∧ ∃ X2' : va_W, (pW cx LP pc_ pd co X27) = pW cx LP pc_ pd co X2' ∧ dd = dd ∧ nn = nn ∧ ss = ss ∧ ll = ll ∧ gg = gg ∧ (tx, (.inr (8, [.ref xp, .ref xw, Iz (0), Iz (lng), Iz (sp_), .ref xk, .ref xf, .ref xs, Iz (0), Iz ((-1)), Iz (pla), Iz (nm), Iz (pla), Iz (hd_), .ref xb]) : va_E)) ∈ X2' ∧ (∀ q ∈ X, q.1 ≠ tx → q ∈ X2') := ⟨rfl, _, rfl, rfl, rfl, rfl, rfl, rfl, h_tx, kpX⟩
    exact e_zret hx hb hr hK hV ⟨by decide, by decide⟩ rfl hpost dX8_sum_14 hlocks
set_option maxHeartbeats 4000000 in
set_option maxRecDepth 100000 in
theorem k8_parse {l : Launch} {dC : Nat → ClassId} {dI : Nat → Nat → Nat} {cx : Nat → Nat} {LB : List Nat} {LP : List Nat} {pc_ : Nat → Nat} {pd : Nat → Int} {co : Nat → Nat → Nat} {X : va_W} {dd : Nat → Nat} {nn ss : Nat → Int} {ll : Nat → Nat} {gg : Nat → Int → Int} {H0 : Heap} {tx xp xw xk xf xs xb : Nat} {lng sp_ ps tok pla nm wr hd_ : Int} {ia : Int}  (h_tx : (tx, (.inr (8, [.ref xp, .ref xw, Iz (0), Iz (lng), Iz (sp_), .ref xk, .ref xf, .ref xs, Iz (ps), Iz (tok), Iz (pla), Iz (nm), Iz (wr), Iz (hd_), .ref xb]) : va_E)) ∈ X) : Met l yX8_parse (Cond.code yX8_parse cX8_parse 2 (some .int) :: w0c) (eRm 5 111 LB ll 0 0) (cPc dC dI cx LB (pW cx LP pc_ pd co X) dd nn ss ll gg H0 [.ref tx, Iz (ia)]) (eQi dC dI cx LB (va_A (bW (cx 0) LB dd nn ss ll gg (pW cx LP pc_ pd co X)) H0.size) ll H0 0 0 (fun z X' dd' nn' ss' ll' gg' => z = 0 ∧ ∃ X2' : va_W, X' = pW cx LP pc_ pd co X2' ∧ dd' = dd ∧ nn' = nn ∧ ss' = ss ∧ ll' = ll ∧ gg' = gg ∧ (tx, (.inr (8, [.ref xp, .ref xw, Iz (0), Iz (lng), Iz (0), .ref xk, .ref xf, .ref xs, Iz (0), Iz ((-1)), Iz (0), Iz (nm), Iz (0), Iz (ia), .ref xb]) : va_E)) ∈ X2' ∧ (∀ q ∈ X, q.1 ≠ tx → q ∈ X2'))) (cMc LB ll + 0) (2 * cMc LB ll + 0) (va_A (bW (cx 0) LB dd nn ss ll gg (pW cx LP pc_ pd co X)) H0.size) := by
  refine Met.ofW (cc := cX8_parse) (maxL := 2) (ret := (some .int)) (by decide) rfl ?_
  intro p e s m args below meth c s₁ B hml hv
  obtain ⟨rfl, hH0, hP, hK, hD0, hC0⟩ := hv
  have hx := B.exec
  have hb := B.bytes
  have hr := B.returns
  have hts := atoms_spec (ws := Cond.code yX8_parse cX8_parse 2 (some .int) :: w0c) B.pre
  have hown : s.vm.findClass RX8 = some m.cls := findClass_of_methodNamed B.named
  have hlocks := B.notSynchronized
  have E : CallFix p m c cX8_parse 2 s _ (Cond.code yX8_parse cX8_parse 2 (some .int) :: w0c) RX8 := ⟨hx, hb, hml, hown, hts⟩
  subst hH0
  have hD := va_D.self (sz := s.heap.size) hD0
  have hA : ∀ q : Nat, s.heap.size ≤ q → va_A (bW (cx 0) LB dd nn ss ll gg (pW cx LP pc_ pd co X)) s.heap.size q := fun q h => Or.inr h
  have hV : cV dC dI cx LB (va_A (bW (cx 0) LB dd nn ss ll gg (pW cx LP pc_ pd co X)) s.heap.size) s.heap ll (pW cx LP pc_ pd co X) dd nn ss ll gg s.heap [] := ⟨hP, hD, va_S.rf, fun _ _ => Nat.le_refl _, hC0⟩
  have hR : (headSpec (Cond.code yX8_parse cX8_parse 2 (some .int) :: w0c) (eRm 5 111 LB ll 0 0)).room.cells = cMc LB ll + 0 ∧ (headSpec (Cond.code yX8_parse cX8_parse 2 (some .int) :: w0c) (eRm 5 111 LB ll 0 0)).room.slots = 2 * cMc LB ll + 0 := ⟨rfl, rfl⟩
  refine W.widen (k := cP LB ll - cP LB ll + 0) (n := 2 * (cP LB ll - cP LB ll) + 0) (Nat.zero_le _) (Nat.zero_le _) ?_
  have hl := lv_entry ([.ref tx, Iz (ia)]) (n := 2) (Nat.le_of_ble_eq_true rfl)
  rw [lg_entry_eq]
  generalize (lg_sl ([.ref tx, Iz (ia)]) ++ List.replicate (2 - (lg_sl ([.ref tx, Iz (ia)])).length) Slot.unset).toArray = ls at hl ⊢
  have hl : lv_has ls 2 [(0, .ref tx), (1, Iz (ia))] := hl
  have kpX : ∀ q ∈ X, q.1 ≠ tx → q ∈ X := fun _ h _ => h
  refine lv_aload_n hx hb dX8_parse_0 rfl (lv_at hl 0 rfl) ?_
  refine lv_iload_n hx hb dX8_parse_1 rfl (lv_at hl 1 rfl) ?_
  refine y_putV3 E hK hV (ci := 8) (C := RX8) (T := TX8) (N := 15) (ty := tyX8) rfl w0c_in8 tyX8_ok nmX8 h_tx 13 (by decide) (v := Iz (ia)) (Nat.le_of_ble_eq_true rfl) rfl cf_8_38 rfl rfl rfl dX8_parse_2 (fun H locs X2_2 h__ kp_ hV => ?_)
  have kpX : ∀ q ∈ X, q.1 ≠ tx → q ∈ X2_2 := fun q h nk_tx => kp_ q (kpX q h nk_tx) nk_tx
  have h_tx : (tx, (.inr (8, [.ref xp, .ref xw, Iz (0), Iz (lng), Iz (sp_), .ref xk, .ref xf, .ref xs, Iz (ps), Iz (tok), Iz (pla), Iz (nm), Iz (wr), Iz (ia), .ref xb]) : va_E)) ∈ X2_2 := h__
  refine lv_aload_n hx hb dX8_parse_5 rfl (lv_at hl 0 rfl) ?_
  refine lv_iconst (v := Int32.ofInt (0)) hx hb dX8_parse_6 (by decide) ?_
  refine y_putV3 E hK hV (ci := 8) (C := RX8) (T := TX8) (N := 15) (ty := tyX8) rfl w0c_in8 tyX8_ok nmX8 h_tx 8 (by decide) (v := Iz (0)) (Nat.le_of_ble_eq_true rfl) rfl cf_8_41 rfl rfl rfl dX8_parse_7 (fun H locs X2_7 h__ kp_ hV => ?_)
  have kpX : ∀ q ∈ X, q.1 ≠ tx → q ∈ X2_7 := fun q h nk_tx => kp_ q (kpX q h nk_tx) nk_tx
  have h_tx : (tx, (.inr (8, [.ref xp, .ref xw, Iz (0), Iz (lng), Iz (sp_), .ref xk, .ref xf, .ref xs, Iz (0), Iz (tok), Iz (pla), Iz (nm), Iz (wr), Iz (ia), .ref xb]) : va_E)) ∈ X2_7 := h__
  refine lv_aload_n hx hb dX8_parse_10 rfl (lv_at hl 0 rfl) ?_
  refine lv_iconst (v := Int32.ofInt (0)) hx hb dX8_parse_11 (by decide) ?_
  refine y_putV3 E hK hV (ci := 8) (C := RX8) (T := TX8) (N := 15) (ty := tyX8) rfl w0c_in8 tyX8_ok nmX8 h_tx 4 (by decide) (v := Iz (0)) (Nat.le_of_ble_eq_true rfl) rfl cf_8_44 rfl rfl rfl dX8_parse_12 (fun H locs X2_12 h__ kp_ hV => ?_)
  have kpX : ∀ q ∈ X, q.1 ≠ tx → q ∈ X2_12 := fun q h nk_tx => kp_ q (kpX q h nk_tx) nk_tx
  have h_tx : (tx, (.inr (8, [.ref xp, .ref xw, Iz (0), Iz (lng), Iz (0), .ref xk, .ref xf, .ref xs, Iz (0), Iz (tok), Iz (pla), Iz (nm), Iz (wr), Iz (ia), .ref xb]) : va_E)) ∈ X2_12 := h__
  refine lv_aload_n hx hb dX8_parse_15 rfl (lv_at hl 0 rfl) ?_
  refine lv_iconst (v := Int32.ofInt (-1)) hx hb dX8_parse_16 (by decide) ?_
  refine y_putV3 E hK hV (ci := 8) (C := RX8) (T := TX8) (N := 15) (ty := tyX8) rfl w0c_in8 tyX8_ok nmX8 h_tx 12 (by decide) (v := Iz ((-1))) (Nat.le_of_ble_eq_true rfl) rfl cf_8_47 rfl rfl rfl dX8_parse_17 (fun H locs X2_17 h__ kp_ hV => ?_)
  have kpX : ∀ q ∈ X, q.1 ≠ tx → q ∈ X2_17 := fun q h nk_tx => kp_ q (kpX q h nk_tx) nk_tx
  have h_tx : (tx, (.inr (8, [.ref xp, .ref xw, Iz (0), Iz (lng), Iz (0), .ref xk, .ref xf, .ref xs, Iz (0), Iz (tok), Iz (pla), Iz (nm), Iz ((-1)), Iz (ia), .ref xb]) : va_E)) ∈ X2_17 := h__
  refine lv_aload_n hx hb dX8_parse_20 rfl (lv_at hl 0 rfl) ?_
  refine e_callv (k2 := 0) (n2 := 0) (f := 0) (kl := 0) (As := []) (rest := []) E (k8_advance h_tx) (cwV 0 hts (cGood cl_X8_50 ci_X8_advance cs_X8_advance cn_RX8 cc_X8_advance) rfl rfl rfl (by decide +kernel) ⟨Nat.le_of_ble_eq_true rfl, Nat.le_of_ble_eq_true rfl⟩) (x_recv (q := (RX8, TX8, 15)) hK hV (ci := 8) rfl (pW_x h_tx)) hK hV hA hR ⟨by decide, by decide⟩ rfl hl.1 (Nat.le_of_ble_eq_true rfl) dX8_parse_21 (fun X21 dd21 nn21 ss21 ll21 gg21 H locs q21 hV hm21 => ?_)
  obtain ⟨X221, e1_, e2_, e3_, e4_, e5_, e6_, hf21, kp21⟩ := q21
  obtain rfl := e1_.symm
  obtain rfl := e2_.symm
  obtain rfl := e3_.symm
  obtain rfl := e4_.symm
  obtain rfl := e5_.symm
  obtain rfl := e6_.symm
  have kpX : ∀ q ∈ X, q.1 ≠ tx → q ∈ X221 := fun q h nk_tx => kp21 q (kpX q h nk_tx) nk_tx
  have h_tx := hf21
  refine W.widen (k := cP LB ll - cP LB ll + 0) (n := 2 * (cP LB ll - cP LB ll) + 0) (Nat.le_refl _) (Nat.le_refl _) ?_
  refine lv_aload_n hx hb dX8_parse_24 rfl (lv_at hl 0 rfl) ?_
  refine lv_iconst (v := Int32.ofInt (0)) hx hb dX8_parse_25 (by decide) ?_
  refine e_calli (k2 := 0) (n2 := 0) (f := 4) (kl := 87) (As := [Iz (0)]) (rest := []) E (k8_sum h_tx) (cwV 1 hts (cGood cl_X8_53 ci_X8_sum cs_X8_sum cn_RX8 cc_X8_sum) rfl rfl rfl (by decide +kernel) ⟨Nat.le_of_ble_eq_true rfl, Nat.le_of_ble_eq_true rfl⟩) (x_recv (q := (RX8, TX8, 15)) hK hV (ci := 8) rfl (pW_x h_tx)) hK hV hA hR ⟨by decide, by decide⟩ rfl hl.1 (Nat.le_of_ble_eq_true rfl) dX8_parse_26 (fun z26 X26 dd26 nn26 ss26 ll26 gg26 H locs q26 hV hm26 => ?_)
  obtain ⟨rfl, q26⟩ := q26
  obtain ⟨X226, e1_, e2_, e3_, e4_, e5_, e6_, hf26, kp26⟩ := q26
  obtain rfl := e1_.symm
  obtain rfl := e2_.symm
  obtain rfl := e3_.symm
  obtain rfl := e4_.symm
  obtain rfl := e5_.symm
  obtain rfl := e6_.symm
  have kpX : ∀ q ∈ X, q.1 ≠ tx → q ∈ X226 := fun q h nk_tx => kp26 q (kpX q h nk_tx) nk_tx
  have h_tx := hf26
  refine W.widen (k := cP LB ll - cP LB ll + 0) (n := 2 * (cP LB ll - cP LB ll) + 0) (Nat.le_refl _) (Nat.le_refl _) ?_
  refine g_if_eq (tgt := 45) hx hb (by first | assumption | exact ⟨by omega, by omega⟩) dX8_parse_29 (by decide) (fun c_29 => ?_) (fun c_29 => ?_)
  · skip
    refine lv_aload_n hx hb dX8_parse_45 rfl (lv_at hl 0 rfl) ?_
    refine lv_iconst (v := Int32.ofInt (0)) hx hb dX8_parse_46 (by decide) ?_
    refine y_putV3 E hK hV (ci := 8) (C := RX8) (T := TX8) (N := 15) (ty := tyX8) rfl w0c_in8 tyX8_ok nmX8 h_tx 2 (by decide) (v := Iz (0)) (Nat.le_of_ble_eq_true rfl) rfl cf_8_34 rfl rfl rfl dX8_parse_47 (fun H locs X2_47 h__ kp_ hV => ?_)
    have kpX : ∀ q ∈ X, q.1 ≠ tx → q ∈ X2_47 := fun q h nk_tx => kp_ q (kpX q h nk_tx) nk_tx
    have h_tx : (tx, (.inr (8, [.ref xp, .ref xw, Iz (0), Iz (lng), Iz (0), .ref xk, .ref xf, .ref xs, Iz (0), Iz ((-1)), Iz (0), Iz (nm), Iz (0), Iz (ia), .ref xb]) : va_E)) ∈ X2_47 := h__
    refine lv_aload_n hx hb dX8_parse_50 rfl (lv_at hl 0 rfl) ?_
    refine x_get E hK hV (ci := 8) (C := RX8) (T := TX8) (N := 15) rfl w0c_in8 (pW_x h_tx) 12 (by decide) rfl cf_8_47 rfl dX8_parse_51 ?_
    have hpost : (0 : Int) = 0 ∧ ∃ X2' : va_W, (pW cx LP pc_ pd co X2_47) = pW cx LP pc_ pd co X2' ∧ dd = dd ∧ nn = nn ∧ ss = ss ∧ ll = ll ∧ gg = gg ∧ (tx, (.inr (8, [.ref xp, .ref xw, Iz (0), Iz (lng), Iz (0), .ref xk, .ref xf, .ref xs, Iz (0), Iz ((-1)), Iz (0), Iz (nm), Iz (0), Iz (ia), .ref xb]) : va_E)) ∈ X2' ∧ (∀ q ∈ X, q.1 ≠ tx → q ∈ X2') := ⟨rfl, _, rfl, rfl, rfl, rfl, rfl, rfl, h_tx, kpX⟩
    exact e_iret hx hb hr hK hV ⟨by decide, by decide⟩ hpost dX8_parse_54 hlocks
  · omega
