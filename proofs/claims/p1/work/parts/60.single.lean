set_option maxHeartbeats 4000000 in
set_option maxRecDepth 100000 in
theorem k5_single {l : Launch} {dC : Nat → ClassId} {dI : Nat → Nat → Nat} {cx : Nat → Nat} {LB : List Nat} {LP : List Nat} {pc_ : Nat → Nat} {pd : Nat → Int} {co : Nat → Nat → Nat} {X : va_W} {dd : Nat → Nat} {nn ss : Nat → Int} {ll : Nat → Nat} {gg : Nat → Int → Int} {H0 : Heap} {v : Nat → Int} {r0 le rl rh : Nat} {re rp rc rs : Int}  (hO : pOK LB LP co) (hN : cR LB nn ss ll gg v) (hRo : (r0, (.inr (5, [.ref le, .ref rl, .ref rh, Iz re, Iz rp, Iz rc, Iz rs]) : va_E)) ∈ X) (mle : le ∈ LP) : Met l yX5_single (Cond.code yX5_single cX5_single 1 none :: w0c) (cRm 0 0 LB ll) (cPc dC dI cx LB (pW cx LP pc_ pd co X) dd nn ss ll gg H0 [.ref r0]) (cQv dC dI cx LB (va_A (bW (cx 0) LB dd nn ss ll gg (pW cx LP pc_ pd co X)) H0.size) ll H0 (fun X' dd' nn' ss' ll' gg' => X' = (pW cx LP pc_ pd co (wup X r0 (.inr (5, [.ref le, .ref rl, .ref rh, Iz re, Iz 0, Iz 1, Iz (-(sg (v (co le 0))))])))) ∧ dd' = dd ∧ nn' = nn ∧ ss' = ss ∧ ll' = ll ∧ gg' = gg)) (cMc LB ll) (2 * cMc LB ll) (va_A (bW (cx 0) LB dd nn ss ll gg (pW cx LP pc_ pd co X)) H0.size) := by
  refine Met.ofW (cc := cX5_single) (maxL := 1) (ret := none) (by decide) rfl ?_
  intro p e s m args below meth c s₁ B hml hv
  obtain ⟨rfl, hH0, hP, hK, hD0, hC0⟩ := hv
  have hx := B.exec
  have hb := B.bytes
  have hr := B.returns
  have hts := atoms_spec (ws := Cond.code yX5_single cX5_single 1 none :: w0c) B.pre
  have hown : s.vm.findClass RX5 = some m.cls := findClass_of_methodNamed B.named
  have hlocks := B.notSynchronized
  have E : CallFix p m c cX5_single 1 s _ (Cond.code yX5_single cX5_single 1 none :: w0c) RX5 := ⟨hx, hb, hml, hown, hts⟩
  subst hH0
  have hD := va_D.self (sz := s.heap.size) hD0
  have hA : ∀ q : Nat, s.heap.size ≤ q → va_A (bW (cx 0) LB dd nn ss ll gg (pW cx LP pc_ pd co X)) s.heap.size q := fun q h => Or.inr h
  have hV : cV dC dI cx LB (va_A (bW (cx 0) LB dd nn ss ll gg (pW cx LP pc_ pd co X)) s.heap.size) s.heap ll (pW cx LP pc_ pd co X) dd nn ss ll gg s.heap [] := ⟨hP, hD, va_S.rf, fun _ _ => Nat.le_refl _, hC0⟩
  have hR : (headSpec (Cond.code yX5_single cX5_single 1 none :: w0c) (cRm 0 0 LB ll)).room.cells = cMc LB ll ∧ (headSpec (Cond.code yX5_single cX5_single 1 none :: w0c) (cRm 0 0 LB ll)).room.slots = 2 * cMc LB ll := ⟨rfl, rfl⟩
  refine W.widen (k := cP LB ll - cP LB ll) (n := 2 * (cP LB ll - cP LB ll)) (Nat.zero_le _) (Nat.zero_le _) ?_
  have hl := lv_entry ([.ref r0]) (n := 1) (Nat.le_of_ble_eq_true rfl)
  rw [lg_entry_eq]
  generalize (lg_sl ([.ref r0]) ++ List.replicate (1 - (lg_sl ([.ref r0])).length) Slot.unset).toArray = ls at hl ⊢
  have hl : lv_has ls 1 [(0, .ref r0)] := hl
  refine lv_aload_n hx hb dX5_single_0 rfl (lv_at hl 0 rfl) ?_
  refine lv_iconst (v := Int32.ofInt (0)) hx hb dX5_single_1 (by decide) ?_
  refine y_puto E hK hV (ci := 5) (C := RX5) (T := TX5) (N := 7) (ty := tyX5) rfl w0c_in5 tyX5_ok nmX5 hRo 4 (by decide) (Nat.le_of_ble_eq_true rfl) (tyX5_ok 4 (by decide)) rfl cf_5_37 rfl (X2 := wup X r0 (.inr (5, [.ref le, .ref rl, .ref rh, Iz (re), Iz (0), Iz (rc), Iz (rs)]))) rfl dX5_single_2 (fun H locs hV => ?_)
  refine lv_aload_n hx hb dX5_single_5 rfl (lv_at hl 0 rfl) ?_
  refine lv_iconst (v := Int32.ofInt (1)) hx hb dX5_single_6 (by decide) ?_
  refine y_puto E hK hV (ci := 5) (C := RX5) (T := TX5) (N := 7) (ty := tyX5) rfl w0c_in5 tyX5_ok nmX5 (wup_self hRo) 5 (by decide) (Nat.le_of_ble_eq_true rfl) (tyX5_ok 5 (by decide)) rfl cf_5_40 rfl (X2 := wup X r0 (.inr (5, [.ref le, .ref rl, .ref rh, Iz (re), Iz (0), Iz (1), Iz (rs)]))) wup_up dX5_single_7 (fun H locs hV => ?_)
  refine lv_aload_n hx hb dX5_single_10 rfl (lv_at hl 0 rfl) ?_
  refine lv_aload_n hx hb dX5_single_11 rfl (lv_at hl 0 rfl) ?_
  refine x_get E hK hV (ci := 5) (C := RX5) (T := TX5) (N := 7) rfl w0c_in5 (pW_x (wup_self hRo)) 0 (by decide) rfl cf_5_10 rfl dX5_single_12 ?_
  refine y_getc E hK hV mle cf_5_46 dX5_single_15 ?_
  refine lv_iconst (v := Int32.ofInt (0)) hx hb dX5_single_18 (by decide) ?_
  refine y_aald hx hb hK hV mle (by omega) (by omega) dX5_single_19 ?_
  refine t_gets E hK hV (hO.1 le mle 0 (by omega)) rfl cf_5_50 dX5_single_20 ?_
  have sg20 := num1_sg (hN (co le 0) (hO.1 le mle 0 (by omega)))
  have sb20 := sg_bd (v (co le 0))
  refine g_ineg hx hb dX5_single_23 ?_
  refine y_puto E hK hV (ci := 5) (C := RX5) (T := TX5) (N := 7) (ty := tyX5) rfl w0c_in5 tyX5_ok nmX5 (wup_self hRo) 6 (by decide) (Nat.le_of_ble_eq_true rfl) (tyX5_ok 6 (by decide)) rfl cf_5_43 rfl (X2 := wup X r0 (.inr (5, [.ref le, .ref rl, .ref rh, Iz (re), Iz (0), Iz (1), Iz (-(ss (co le 0)))]))) wup_up dX5_single_24 (fun H locs hV => ?_)
  have hpost : (pW cx LP pc_ pd co (wup X r0 (.inr (5, [.ref le, .ref rl, .ref rh, Iz (re), Iz (0), Iz (1), Iz (-(ss (co le 0)))])))) = (pW cx LP pc_ pd co (wup X r0 (.inr (5, [.ref le, .ref rl, .ref rh, Iz re, Iz 0, Iz 1, Iz (-(sg (v (co le 0))))])))) ∧ dd = dd ∧ nn = nn ∧ ss = ss ∧ ll = ll ∧ gg = gg := ⟨by rw [sg20], rfl, rfl, rfl, rfl, rfl⟩
  exact c_vret hx hb hr hK hV hpost dX5_single_27 hlocks
