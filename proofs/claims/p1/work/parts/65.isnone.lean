set_option maxHeartbeats 4000000 in
set_option maxRecDepth 100000 in
theorem k11_isNone {l : Launch} {dC : Nat → ClassId} {dI : Nat → Nat → Nat} {cx : Nat → Nat} {LB : List Nat} {LP : List Nat} {pc_ : Nat → Nat} {pd : Nat → Int} {co : Nat → Nat → Nat} {X : va_W} {dd : Nat → Nat} {nn ss : Nat → Int} {ll : Nat → Nat} {gg : Nat → Int → Int} {H0 : Heap} {ar nu tol pi_ ti_ fr stk t0 no pa s0 zo tx bu bv bw bs : Nat} {mo cnt tc pn : Int} {nb tb_ : Nat → Nat} {fn ft : Nat → Option Nat} {ia : Int}  (hAr : (ar, (.inr (11, [Iz mo, .ref nu, Iz cnt, .ref tol, Iz tc, .ref pi_, .ref ti_, Iz pn, .ref fr, .ref stk, .ref t0, .ref no, .ref pa, .ref s0, .ref zo, .ref tx, .ref bu, .ref bv, .ref bw, .ref bs]) : va_E)) ∈ X) (hnu : (nu, (.inl (cx 4, 100, .inr (.inr (.inr (.inr fn)))) : va_E)) ∈ X) (hnb : ∀ i : Nat, (i : Int) < cnt → fn i = some (nb i)) (i0_ : -2147483648 ≤ ia) (i1_ : ia ≤ 2147483647) (n0_ : 0 ≤ cnt) (n1_ : cnt ≤ 100) : Met l yX11_isNone (Cond.code yX11_isNone cX11_isNone 2 (some .boolean) :: w0c) (cRm 0 0 LB ll) (cPc dC dI cx LB (pW cx LP pc_ pd co X) dd nn ss ll gg H0 [.ref ar, Iz (ia)]) (cQi dC dI cx LB (va_A (bW (cx 0) LB dd nn ss ll gg (pW cx LP pc_ pd co X)) H0.size) ll H0 (fun z X' dd' nn' ss' ll' gg' => X' = (pW cx LP pc_ pd co X) ∧ dd' = dd ∧ nn' = nn ∧ ss' = ss ∧ ll' = ll ∧ gg' = gg ∧ z = (if ia < 0 ∨ cnt ≤ ia then 1 else 0))) (cMc LB ll) (2 * cMc LB ll) (va_A (bW (cx 0) LB dd nn ss ll gg (pW cx LP pc_ pd co X)) H0.size) := by
  refine Met.ofW (cc := cX11_isNone) (maxL := 2) (ret := (some .boolean)) (by decide) rfl ?_
  intro p e s m args below meth c s₁ B hml hv
  obtain ⟨rfl, hH0, hP, hK, hD0, hC0⟩ := hv
  have hx := B.exec
  have hb := B.bytes
  have hr := B.returns
  have hts := atoms_spec (ws := Cond.code yX11_isNone cX11_isNone 2 (some .boolean) :: w0c) B.pre
  have hown : s.vm.findClass RX11 = some m.cls := findClass_of_methodNamed B.named
  have hlocks := B.notSynchronized
  have E : CallFix p m c cX11_isNone 2 s _ (Cond.code yX11_isNone cX11_isNone 2 (some .boolean) :: w0c) RX11 := ⟨hx, hb, hml, hown, hts⟩
  subst hH0
  have hD := va_D.self (sz := s.heap.size) hD0
  have hA : ∀ q : Nat, s.heap.size ≤ q → va_A (bW (cx 0) LB dd nn ss ll gg (pW cx LP pc_ pd co X)) s.heap.size q := fun q h => Or.inr h
  have hV : cV dC dI cx LB (va_A (bW (cx 0) LB dd nn ss ll gg (pW cx LP pc_ pd co X)) s.heap.size) s.heap ll (pW cx LP pc_ pd co X) dd nn ss ll gg s.heap [] := ⟨hP, hD, va_S.rf, fun _ _ => Nat.le_refl _, hC0⟩
  have hR : (headSpec (Cond.code yX11_isNone cX11_isNone 2 (some .boolean) :: w0c) (cRm 0 0 LB ll)).room.cells = cMc LB ll ∧ (headSpec (Cond.code yX11_isNone cX11_isNone 2 (some .boolean) :: w0c) (cRm 0 0 LB ll)).room.slots = 2 * cMc LB ll := ⟨rfl, rfl⟩
  refine W.widen (k := cP LB ll - cP LB ll) (n := 2 * (cP LB ll - cP LB ll)) (Nat.zero_le _) (Nat.zero_le _) ?_
  have hl := lv_entry ([.ref ar, Iz (ia)]) (n := 2) (Nat.le_of_ble_eq_true rfl)
  rw [lg_entry_eq]
  generalize (lg_sl ([.ref ar, Iz (ia)]) ++ List.replicate (2 - (lg_sl ([.ref ar, Iz (ia)])).length) Slot.unset).toArray = ls at hl ⊢
  have hl : lv_has ls 2 [(0, .ref ar), (1, Iz (ia))] := hl
  refine lv_iload_n hx hb dX11_isNone_0 rfl (lv_at hl 1 rfl) ?_
  refine g_if_lt (tgt := 27) hx hb (by first | assumption | exact ⟨by omega, by omega⟩) dX11_isNone_1 (by decide) (fun c_1 => ?_) (fun c_1 => ?_)
  · skip
    refine lv_iconst (v := Int32.ofInt (1)) hx hb dX11_isNone_27 (by decide) ?_
    refine lv_goto (tgt := 32) hx hb dX11_isNone_28 (by decide) ?_
    have hpost : (pW cx LP pc_ pd co X) = (pW cx LP pc_ pd co X) ∧ dd = dd ∧ nn = nn ∧ ss = ss ∧ ll = ll ∧ gg = gg ∧ (1 : Int) = (if ia < 0 ∨ cnt ≤ ia then 1 else 0) := ⟨rfl, rfl, rfl, rfl, rfl, rfl, by first | rw [if_pos (by omega)] | rw [if_neg (by omega)]⟩
    exact c_zret hx hb hr hK hV rfl hpost dX11_isNone_32 hlocks
  · skip
    refine lv_iload_n hx hb dX11_isNone_4 rfl (lv_at hl 1 rfl) ?_
    refine lv_aload_n hx hb dX11_isNone_5 rfl (lv_at hl 0 rfl) ?_
    refine x_get E hK hV (ci := 11) (C := RX11) (T := TX11) (N := 20) rfl w0c_in11 (pW_x hAr) 2 (by decide) rfl cf_11_208 rfl dX11_isNone_6 ?_
    refine g_icmp_ge (tgt := 27) hx hb (by first | assumption | exact ⟨by omega, by omega⟩) (by first | assumption | exact ⟨by omega, by omega⟩) dX11_isNone_9 (by decide) (fun c_9 => ?_) (fun c_9 => ?_)
    · skip
      refine lv_iconst (v := Int32.ofInt (1)) hx hb dX11_isNone_27 (by decide) ?_
      refine lv_goto (tgt := 32) hx hb dX11_isNone_28 (by decide) ?_
      have hpost : (pW cx LP pc_ pd co X) = (pW cx LP pc_ pd co X) ∧ dd = dd ∧ nn = nn ∧ ss = ss ∧ ll = ll ∧ gg = gg ∧ (1 : Int) = (if ia < 0 ∨ cnt ≤ ia then 1 else 0) := ⟨rfl, rfl, rfl, rfl, rfl, rfl, by first | rw [if_pos (by omega)] | rw [if_neg (by omega)]⟩
      exact c_zret hx hb hr hK hV rfl hpost dX11_isNone_32 hlocks
    · skip
      refine lv_iload_n hx hb dX11_isNone_12 rfl (lv_at hl 1 rfl) ?_
      refine lv_bipush (v := Int32.ofInt (100)) hx hb dX11_isNone_13 (by decide) ?_
      refine g_icmp_ge (tgt := 27) hx hb (by first | assumption | exact ⟨by omega, by omega⟩) (by first | assumption | exact ⟨by omega, by omega⟩) dX11_isNone_15 (by decide) (fun c_15 => ?_) (fun c_15 => ?_)
      · omega
      · skip
        refine lv_aload_n hx hb dX11_isNone_18 rfl (lv_at hl 0 rfl) ?_
        refine x_get E hK hV (ci := 11) (C := RX11) (T := TX11) (N := 20) rfl w0c_in11 (pW_x hAr) 1 (by decide) rfl cf_11_11 rfl dX11_isNone_19 ?_
        refine lv_iload_n hx hb dX11_isNone_22 rfl (lv_at hl 1 rfl) ?_
        refine x_aald hx hb hK hV (t0 := 4) rfl (pW_x hnu) (by omega) (by omega) (by decide) (v := .ref (nb ia.toNat)) (by rw [hnb _ (by omega)]; rfl) dX11_isNone_23 ?_
        refine lv_ifnonnull (tgt := 31) hx hb dX11_isNone_24 (by decide) ?_
        refine lv_iconst (v := Int32.ofInt (0)) hx hb dX11_isNone_31 (by decide) ?_
        have hpost : (pW cx LP pc_ pd co X) = (pW cx LP pc_ pd co X) ∧ dd = dd ∧ nn = nn ∧ ss = ss ∧ ll = ll ∧ gg = gg ∧ (0 : Int) = (if ia < 0 ∨ cnt ≤ ia then 1 else 0) := ⟨rfl, rfl, rfl, rfl, rfl, rfl, by first | rw [if_pos (by omega)] | rw [if_neg (by omega)]⟩
        exact c_zret hx hb hr hK hV rfl hpost dX11_isNone_32 hlocks
set_option maxHeartbeats 4000000 in
set_option maxRecDepth 100000 in
theorem k11_isUntold {l : Launch} {dC : Nat → ClassId} {dI : Nat → Nat → Nat} {cx : Nat → Nat} {LB : List Nat} {LP : List Nat} {pc_ : Nat → Nat} {pd : Nat → Int} {co : Nat → Nat → Nat} {X : va_W} {dd : Nat → Nat} {nn ss : Nat → Int} {ll : Nat → Nat} {gg : Nat → Int → Int} {H0 : Heap} {ar nu tol pi_ ti_ fr stk t0 no pa s0 zo tx bu bv bw bs : Nat} {mo cnt tc pn : Int} {nb tb_ : Nat → Nat} {fn ft : Nat → Option Nat} {ia : Int}  (hAr : (ar, (.inr (11, [Iz mo, .ref nu, Iz cnt, .ref tol, Iz tc, .ref pi_, .ref ti_, Iz pn, .ref fr, .ref stk, .ref t0, .ref no, .ref pa, .ref s0, .ref zo, .ref tx, .ref bu, .ref bv, .ref bw, .ref bs]) : va_E)) ∈ X) (htol : (tol, (.inl (cx 3, 30, .inr (.inr (.inr (.inr ft)))) : va_E)) ∈ X) (htb_ : ∀ i : Nat, (i : Int) < tc → ft i = some (tb_ i)) (i0_ : -2147483648 ≤ ia) (i1_ : ia ≤ 2147483647) (n0_ : 0 ≤ tc) (n1_ : tc ≤ 30) : Met l yX11_isUntold (Cond.code yX11_isUntold cX11_isUntold 2 (some .boolean) :: w0c) (cRm 0 0 LB ll) (cPc dC dI cx LB (pW cx LP pc_ pd co X) dd nn ss ll gg H0 [.ref ar, Iz (ia)]) (cQi dC dI cx LB (va_A (bW (cx 0) LB dd nn ss ll gg (pW cx LP pc_ pd co X)) H0.size) ll H0 (fun z X' dd' nn' ss' ll' gg' => X' = (pW cx LP pc_ pd co X) ∧ dd' = dd ∧ nn' = nn ∧ ss' = ss ∧ ll' = ll ∧ gg' = gg ∧ z = (if ia < 0 ∨ tc ≤ ia then 1 else 0))) (cMc LB ll) (2 * cMc LB ll) (va_A (bW (cx 0) LB dd nn ss ll gg (pW cx LP pc_ pd co X)) H0.size) := by
  refine Met.ofW (cc := cX11_isUntold) (maxL := 2) (ret := (some .boolean)) (by decide) rfl ?_
  intro p e s m args below meth c s₁ B hml hv
  obtain ⟨rfl, hH0, hP, hK, hD0, hC0⟩ := hv
  have hx := B.exec
  have hb := B.bytes
  have hr := B.returns
  have hts := atoms_spec (ws := Cond.code yX11_isUntold cX11_isUntold 2 (some .boolean) :: w0c) B.pre
  have hown : s.vm.findClass RX11 = some m.cls := findClass_of_methodNamed B.named
  have hlocks := B.notSynchronized
  have E : CallFix p m c cX11_isUntold 2 s _ (Cond.code yX11_isUntold cX11_isUntold 2 (some .boolean) :: w0c) RX11 := ⟨hx, hb, hml, hown, hts⟩
  subst hH0
  have hD := va_D.self (sz := s.heap.size) hD0
  have hA : ∀ q : Nat, s.heap.size ≤ q → va_A (bW (cx 0) LB dd nn ss ll gg (pW cx LP pc_ pd co X)) s.heap.size q := fun q h => Or.inr h
  have hV : cV dC dI cx LB (va_A (bW (cx 0) LB dd nn ss ll gg (pW cx LP pc_ pd co X)) s.heap.size) s.heap ll (pW cx LP pc_ pd co X) dd nn ss ll gg s.heap [] := ⟨hP, hD, va_S.rf, fun _ _ => Nat.le_refl _, hC0⟩
  have hR : (headSpec (Cond.code yX11_isUntold cX11_isUntold 2 (some .boolean) :: w0c) (cRm 0 0 LB ll)).room.cells = cMc LB ll ∧ (headSpec (Cond.code yX11_isUntold cX11_isUntold 2 (some .boolean) :: w0c) (cRm 0 0 LB ll)).room.slots = 2 * cMc LB ll := ⟨rfl, rfl⟩
  refine W.widen (k := cP LB ll - cP LB ll) (n := 2 * (cP LB ll - cP LB ll)) (Nat.zero_le _) (Nat.zero_le _) ?_
  have hl := lv_entry ([.ref ar, Iz (ia)]) (n := 2) (Nat.le_of_ble_eq_true rfl)
  rw [lg_entry_eq]
  generalize (lg_sl ([.ref ar, Iz (ia)]) ++ List.replicate (2 - (lg_sl ([.ref ar, Iz (ia)])).length) Slot.unset).toArray = ls at hl ⊢
  have hl : lv_has ls 2 [(0, .ref ar), (1, Iz (ia))] := hl
  refine lv_iload_n hx hb dX11_isUntold_0 rfl (lv_at hl 1 rfl) ?_
  refine g_if_lt (tgt := 27) hx hb (by first | assumption | exact ⟨by omega, by omega⟩) dX11_isUntold_1 (by decide) (fun c_1 => ?_) (fun c_1 => ?_)
  · skip
    refine lv_iconst (v := Int32.ofInt (1)) hx hb dX11_isUntold_27 (by decide) ?_
    refine lv_goto (tgt := 32) hx hb dX11_isUntold_28 (by decide) ?_
    have hpost : (pW cx LP pc_ pd co X) = (pW cx LP pc_ pd co X) ∧ dd = dd ∧ nn = nn ∧ ss = ss ∧ ll = ll ∧ gg = gg ∧ (1 : Int) = (if ia < 0 ∨ tc ≤ ia then 1 else 0) := ⟨rfl, rfl, rfl, rfl, rfl, rfl, by first | rw [if_pos (by omega)] | rw [if_neg (by omega)]⟩
    exact c_zret hx hb hr hK hV rfl hpost dX11_isUntold_32 hlocks
  · skip
    refine lv_iload_n hx hb dX11_isUntold_4 rfl (lv_at hl 1 rfl) ?_
    refine lv_aload_n hx hb dX11_isUntold_5 rfl (lv_at hl 0 rfl) ?_
    refine x_get E hK hV (ci := 11) (C := RX11) (T := TX11) (N := 20) rfl w0c_in11 (pW_x hAr) 4 (by decide) rfl cf_11_273 rfl dX11_isUntold_6 ?_
    refine g_icmp_ge (tgt := 27) hx hb (by first | assumption | exact ⟨by omega, by omega⟩) (by first | assumption | exact ⟨by omega, by omega⟩) dX11_isUntold_9 (by decide) (fun c_9 => ?_) (fun c_9 => ?_)
    · skip
      refine lv_iconst (v := Int32.ofInt (1)) hx hb dX11_isUntold_27 (by decide) ?_
      refine lv_goto (tgt := 32) hx hb dX11_isUntold_28 (by decide) ?_
      have hpost : (pW cx LP pc_ pd co X) = (pW cx LP pc_ pd co X) ∧ dd = dd ∧ nn = nn ∧ ss = ss ∧ ll = ll ∧ gg = gg ∧ (1 : Int) = (if ia < 0 ∨ tc ≤ ia then 1 else 0) := ⟨rfl, rfl, rfl, rfl, rfl, rfl, by first | rw [if_pos (by omega)] | rw [if_neg (by omega)]⟩
      exact c_zret hx hb hr hK hV rfl hpost dX11_isUntold_32 hlocks
    · skip
      refine lv_iload_n hx hb dX11_isUntold_12 rfl (lv_at hl 1 rfl) ?_
      refine lv_bipush (v := Int32.ofInt (30)) hx hb dX11_isUntold_13 (by decide) ?_
      refine g_icmp_ge (tgt := 27) hx hb (by first | assumption | exact ⟨by omega, by omega⟩) (by first | assumption | exact ⟨by omega, by omega⟩) dX11_isUntold_15 (by decide) (fun c_15 => ?_) (fun c_15 => ?_)
      · omega
      · skip
        refine lv_aload_n hx hb dX11_isUntold_18 rfl (lv_at hl 0 rfl) ?_
        refine x_get E hK hV (ci := 11) (C := RX11) (T := TX11) (N := 20) rfl w0c_in11 (pW_x hAr) 3 (by decide) rfl cf_11_17 rfl dX11_isUntold_19 ?_
        refine lv_iload_n hx hb dX11_isUntold_22 rfl (lv_at hl 1 rfl) ?_
        refine x_aald hx hb hK hV (t0 := 3) rfl (pW_x htol) (by omega) (by omega) (by decide) (v := .ref (tb_ ia.toNat)) (by rw [htb_ _ (by omega)]; rfl) dX11_isUntold_23 ?_
        refine lv_ifnonnull (tgt := 31) hx hb dX11_isUntold_24 (by decide) ?_
        refine lv_iconst (v := Int32.ofInt (0)) hx hb dX11_isUntold_31 (by decide) ?_
        have hpost : (pW cx LP pc_ pd co X) = (pW cx LP pc_ pd co X) ∧ dd = dd ∧ nn = nn ∧ ss = ss ∧ ll = ll ∧ gg = gg ∧ (0 : Int) = (if ia < 0 ∨ tc ≤ ia then 1 else 0) := ⟨rfl, rfl, rfl, rfl, rfl, rfl, by first | rw [if_pos (by omega)] | rw [if_neg (by omega)]⟩
        exact c_zret hx hb hr hK hV rfl hpost dX11_isUntold_32 hlocks
