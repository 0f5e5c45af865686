/-- changes of sign, and the last sign that is not 0 -/
def chgS (S : Nat → Int) : Nat → Int × Int
  | 0 => (0, 0)
  | n + 1 => ((chgS S n).1 + (if S n * (chgS S n).2 < 0 then 1 else 0), if S n = 0 then (chgS S n).2 else S n)
def cfS (cp : Nat → Nat) (pd : Nat → Int) (co : Nat → Nat → Nat) (v : Nat → Int) (bl : Int) (i : Nat) : Int := if bl ≠ 0 ∧ pd (cp i) % 2 ≠ 0 then -(sg (v (co (cp i) (pd (cp i)).toNat))) else sg (v (co (cp i) (pd (cp i)).toNat))
theorem mul1 {x y : Int} (a : -1 ≤ x) (b : x ≤ 1) (c : -1 ≤ y) (d : y ≤ 1) : -1 ≤ x * y ∧ x * y ≤ 1 := by
  rcases (show x = -1 ∨ x = 0 ∨ x = 1 by omega) with e | e | e <;> subst e <;> omega
set_option maxHeartbeats 4000000 in
set_option maxRecDepth 100000 in
theorem k7_changesFar {l : Launch} {dC : Nat → ClassId} {dI : Nat → Nat → Nat} {cx : Nat → Nat} {LB : List Nat} {LP : List Nat} {pc_ : Nat → Nat} {pd : Nat → Int} {co : Nat → Nat → Nat} {X : va_W} {dd : Nat → Nat} {nn ss : Nat → Int} {ll : Nat → Nat} {gg : Nat → Int → Int} {H0 : Heap} {v : Nat → Int} {cp : Nat → Nat} {bl : Int} {t0 : Nat} {s0 ch ug uh uq ut uu : Nat} {sc_ sl_ sw_ : Int}  (hO : pOK LB LP co) (hN : cR LB nn ss ll gg v) (hSo : (s0, (.inr (7, [Iz sc_, .ref t0, .ref ch, Iz sl_, Iz sw_, .ref ug, .ref uh, .ref uq, .ref ut, .ref uu]) : va_E)) ∈ X) (hch : (ch, (.inl (cx 3, 14, .inr (.inr (.inr (.inr (fun i => some (cp i)))))) : va_E)) ∈ X) (hcp : ∀ i : Nat, i < 14 → cp i ∈ LP) (hdg : ∀ i : Nat, (i : Int) < sl_ → 0 ≤ pd (cp i) ∧ pd (cp i) ≤ 12) (sl0 : 0 ≤ sl_) (sl1 : sl_ ≤ 14) (bl0 : 0 ≤ bl) (bl1 : bl ≤ 1) : Met l yX7_changesFar (Cond.code yX7_changesFar cX7_changesFar 6 (some .int) :: w0c) (cRm 2 43 LB ll) (cPc dC dI cx LB (pW cx LP pc_ pd co X) dd nn ss ll gg H0 [.ref s0, Iz (bl)]) (cQi dC dI cx LB (va_A (bW (cx 0) LB dd nn ss ll gg (pW cx LP pc_ pd co X)) H0.size) ll H0 (fun z X' dd' nn' ss' ll' gg' => X' = (pW cx LP pc_ pd co X) ∧ dd' = dd ∧ nn' = nn ∧ ss' = ss ∧ ll' = ll ∧ gg' = gg ∧ z = (chgS (cfS cp pd co v bl) sl_.toNat).1)) (cMc LB ll) (2 * cMc LB ll) (va_A (bW (cx 0) LB dd nn ss ll gg (pW cx LP pc_ pd co X)) H0.size) := by
  refine Met.ofW (cc := cX7_changesFar) (maxL := 6) (ret := (some .int)) (by decide) rfl ?_
  intro p e s m args below meth c s₁ B hml hv
  obtain ⟨rfl, hH0, hP, hK, hD0, hC0⟩ := hv
  have hx := B.exec
  have hb := B.bytes
  have hr := B.returns
  have hts := atoms_spec (ws := Cond.code yX7_changesFar cX7_changesFar 6 (some .int) :: w0c) B.pre
  have hown : s.vm.findClass RX7 = some m.cls := findClass_of_methodNamed B.named
  have hlocks := B.notSynchronized
  have E : CallFix p m c cX7_changesFar 6 s _ (Cond.code yX7_changesFar cX7_changesFar 6 (some .int) :: w0c) RX7 := ⟨hx, hb, hml, hown, hts⟩
  subst hH0
  have hD := va_D.self (sz := s.heap.size) hD0
  have hA : ∀ q : Nat, s.heap.size ≤ q → va_A (bW (cx 0) LB dd nn ss ll gg (pW cx LP pc_ pd co X)) s.heap.size q := fun q h => Or.inr h
  have hV : cV dC dI cx LB (va_A (bW (cx 0) LB dd nn ss ll gg (pW cx LP pc_ pd co X)) s.heap.size) s.heap ll (pW cx LP pc_ pd co X) dd nn ss ll gg s.heap [] := ⟨hP, hD, va_S.rf, fun _ _ => Nat.le_refl _, hC0⟩
  have hR : (headSpec (Cond.code yX7_changesFar cX7_changesFar 6 (some .int) :: w0c) (cRm 2 43 LB ll)).room.cells = cMc LB ll ∧ (headSpec (Cond.code yX7_changesFar cX7_changesFar 6 (some .int) :: w0c) (cRm 2 43 LB ll)).room.slots = 2 * cMc LB ll := ⟨rfl, rfl⟩
  refine W.widen (k := cP LB ll - cP LB ll) (n := 2 * (cP LB ll - cP LB ll)) (Nat.zero_le _) (Nat.zero_le _) ?_
  have hl := lv_entry ([.ref s0, Iz (bl)]) (n := 6) (Nat.le_of_ble_eq_true rfl)
  rw [lg_entry_eq]
  generalize (lg_sl ([.ref s0, Iz (bl)]) ++ List.replicate (6 - (lg_sl ([.ref s0, Iz (bl)])).length) Slot.unset).toArray = ls at hl ⊢
  have hl : lv_has ls 6 [(0, .ref s0), (1, Iz (bl))] := hl
  refine lv_iconst (v := Int32.ofInt (0)) hx hb dX7_changesFar_0 (by decide) ?_
  refine lv_istore_n (lv' := [(2, Iz (0)), (0, .ref s0), (1, Iz (bl))]) hx hb dX7_changesFar_1 rfl hl (by decide) rfl (fun ls hl => ?_)
  refine lv_iconst (v := Int32.ofInt (0)) hx hb dX7_changesFar_2 (by decide) ?_
  refine lv_istore_n (lv' := [(3, Iz (0)), (2, Iz (0)), (0, .ref s0), (1, Iz (bl))]) hx hb dX7_changesFar_3 rfl hl (by decide) rfl (fun ls hl => ?_)
  refine lv_iconst (v := Int32.ofInt (0)) hx hb dX7_changesFar_4 (by decide) ?_
  refine lv_istore (lv' := [(4, Iz (0)), (3, Iz (0)), (2, Iz (0)), (0, .ref s0), (1, Iz (bl))]) hx hb dX7_changesFar_5 hl (by decide) rfl (fun ls hl => ?_)
  refine r_loop (P := fun N_ H locs ls => ∃ cg : Int, ∃ la : Int, ∃ i : Int, N_ = (sl_ - i).toNat ∧ (0 ≤ i) ∧ (i ≤ sl_) ∧ (cg = (chgS (cfS cp pd co v bl) i.toNat).1) ∧ (la = (chgS (cfS cp pd co v bl) i.toNat).2) ∧ (0 ≤ cg) ∧ (cg ≤ i) ∧ (-1 ≤ la) ∧ (la ≤ 1) ∧ cV dC dI cx LB (va_A (bW (cx 0) LB dd nn ss ll gg (pW cx LP pc_ pd co X)) s.heap.size) s.heap ll (pW cx LP pc_ pd co X) dd nn ss ll gg H locs ∧ lv_has ls 6 [(0, .ref s0), (1, Iz (bl)), (2, Iz (cg)), (3, Iz (la)), (4, Iz (i))]) (g := fun ls => F0 m 7 ls []) (fun N_ H locs ls hI ih_7 => ?_) _ _ _ _ ⟨0, 0, 0, rfl, (Int.le_refl 0), (sl0), (rfl), (rfl), (by omega), (by omega), (by omega), (by omega), hV, lv_sub hl [3, 4, 2, 1, 0] rfl⟩
  obtain ⟨cg, la, i, rfl, i0, i1, e1, e2, b1, b2, b3, b4, hV, hl⟩ := hI
  refine lv_iload hx hb dX7_changesFar_7 (lv_at hl 4 rfl) ?_
  refine lv_aload_n hx hb dX7_changesFar_9 rfl (lv_at hl 0 rfl) ?_
  refine x_get E hK hV (ci := 7) (C := RX7) (T := TX7) (N := 10) rfl w0c_in7 (pW_x hSo) 3 (by decide) rfl cf_7_53 rfl dX7_changesFar_10 ?_
  refine g_icmp_ge (tgt := 79) hx hb (by first | assumption | exact ⟨by omega, by omega⟩) (by first | assumption | exact ⟨by omega, by omega⟩) dX7_changesFar_13 (by decide) (fun c_13 => ?_) (fun c_13 => ?_)
  · skip
    refine lv_iload_n hx hb dX7_changesFar_79 rfl (lv_at hl 2 rfl) ?_
    have hpost : (pW cx LP pc_ pd co X) = (pW cx LP pc_ pd co X) ∧ dd = dd ∧ nn = nn ∧ ss = ss ∧ ll = ll ∧ gg = gg ∧ (cg : Int) = (chgS (cfS cp pd co v bl) sl_.toNat).1 := ⟨rfl, rfl, rfl, rfl, rfl, rfl, by rw [e1, show i = sl_ by omega]⟩
    exact c_iret hx hb hr hK hV hpost dX7_changesFar_80 hlocks
  · skip
    have hd_ := hdg i.toNat (by omega)
    refine lv_aload_n hx hb dX7_changesFar_16 rfl (lv_at hl 0 rfl) ?_
    refine x_get E hK hV (ci := 7) (C := RX7) (T := TX7) (N := 10) rfl w0c_in7 (pW_x hSo) 2 (by decide) rfl cf_7_9 rfl dX7_changesFar_17 ?_
    refine lv_iload hx hb dX7_changesFar_20 (lv_at hl 4 rfl) ?_
    refine y_aaldq hx hb hK hV (t0 := 3) rfl hch (by omega) (by omega) (by omega) dX7_changesFar_22 ?_
    refine c_callr (As := []) (rest := []) E (k4_lead (p0 := cp i.toNat) (hcp _ (by omega)) hd_.1 hd_.2) (cwV 0 hts (cGood cl_X7_82 ci_X4_lead cs_X4_lead cn_RX4 cc_X4_lead) rfl rfl rfl (by decide +kernel) ⟨Nat.le_of_ble_eq_true rfl, Nat.le_of_ble_eq_true rfl⟩) (y_recv hK hV (hcp i.toNat (by omega))) hK hV hA hR rfl hl.1 (Nat.le_of_ble_eq_true rfl) dX7_changesFar_23 (fun a23 X23 dd23 nn23 ss23 ll23 gg23 H locs q23 hV hm23 => ?_)
    obtain ⟨e1_, e2_, e3_, e4_, e5_, e6_, q23⟩ := q23
    obtain rfl := e1_.symm
    obtain rfl := e2_.symm
    obtain rfl := e3_.symm
    obtain rfl := e4_.symm
    obtain rfl := e5_.symm
    obtain rfl := e6_.symm
    subst q23
    refine t_gets E hK hV (hO.1 _ (hcp i.toNat (by omega)) _ (by omega)) rfl cf_7_104 dX7_changesFar_26 ?_
    have sg26 := num1_sg (hN (co (cp i.toNat) (pd (cp i.toNat)).toNat) (hO.1 _ (hcp i.toNat (by omega)) _ (by omega)))
    have sb26 := sg_bd (v (co (cp i.toNat) (pd (cp i.toNat)).toNat))
    refine lv_istore (lv' := [(5, Iz (ss (co (cp i.toNat) (pd (cp i.toNat)).toNat))), (0, .ref s0), (1, Iz (bl)), (2, Iz (cg)), (3, Iz (la)), (4, Iz (i))]) hx hb dX7_changesFar_29 hl (by decide) rfl (fun ls hl => ?_)
    refine lv_iload_n hx hb dX7_changesFar_31 rfl (lv_at hl 2 rfl) ?_
    refine g_if_eq (tgt := 55) hx hb ⟨by omega, by omega⟩ dX7_changesFar_32 (by decide) (fun c_32 => ?_) (fun c_32 => ?_)
    · skip
      have eS : (ss (co (cp i.toNat) (pd (cp i.toNat)).toNat)) = (cfS cp pd co v bl) i.toNat := by
        unfold cfS
        first
          | (rw [if_pos ⟨by omega, by omega⟩, ← sg26]; done)
          | (rw [if_neg (by omega), ← sg26]; done)
      have ms := mul1 (x := (ss (co (cp i.toNat) (pd (cp i.toNat)).toNat))) (y := la) (by omega) (by omega) (by omega) (by omega)
      refine lv_iload hx hb dX7_changesFar_55 (lv_at hl 0 rfl) ?_
      refine lv_iload_n hx hb dX7_changesFar_57 rfl (lv_at hl 4 rfl) ?_
      refine g_imul hx hb dX7_changesFar_58 ?_
      refine g_if_ge (tgt := 65) hx hb ⟨by omega, by omega⟩ dX7_changesFar_59 (by decide) (fun c_59 => ?_) (fun c_59 => ?_)
      · skip
        refine lv_iload hx hb dX7_changesFar_65 (lv_at hl 0 rfl) ?_
        refine g_if_eq (tgt := 73) hx hb ⟨by omega, by omega⟩ dX7_changesFar_67 (by decide) (fun c_67 => ?_) (fun c_67 => ?_)
        · skip
          refine g_iinc (k := 5) (z := i) (n := (1)) (lv' := [(4, Iz (i + 1)), (5, Iz (ss (co (cp i.toNat) (pd (cp i.toNat)).toNat))), (0, .ref s0), (1, Iz (bl)), (2, Iz (cg)), (3, Iz (la))]) hx hb dX7_changesFar_73 hl rfl (by decide) rfl (fun ls hl => ?_)
          refine lv_goto (tgt := 7) hx hb dX7_changesFar_76 (by decide) ?_
          exact ih_7 _ (by omega) _ _ _ ⟨cg, la, (i + 1), rfl, (by omega), (by omega), (by rw [show (i + 1).toNat = i.toNat + 1 by omega]; show _ = (chgS _ i.toNat).1 + (if _ * (chgS _ i.toNat).2 < 0 then 1 else 0); rw [← e1, ← e2, ← eS]; first | rw [if_pos (by omega)] | (rw [if_neg (by omega), Int.add_zero])), (by rw [show (i + 1).toNat = i.toNat + 1 by omega]; show _ = (if _ = 0 then (chgS _ i.toNat).2 else _); rw [← e2, ← eS]; first | rw [if_pos (by omega)] | rw [if_neg (by omega)]), (by omega), (by omega), (by omega), (by omega), hV, lv_sub hl [2, 3, 4, 5, 0] rfl⟩
        · skip
          refine lv_iload hx hb dX7_changesFar_70 (lv_at hl 0 rfl) ?_
          refine lv_istore_n (lv' := [(3, Iz (ss (co (cp i.toNat) (pd (cp i.toNat)).toNat))), (5, Iz (ss (co (cp i.toNat) (pd (cp i.toNat)).toNat))), (0, .ref s0), (1, Iz (bl)), (2, Iz (cg)), (4, Iz (i))]) hx hb dX7_changesFar_72 rfl hl (by decide) rfl (fun ls hl => ?_)
          refine g_iinc (k := 5) (z := i) (n := (1)) (lv' := [(4, Iz (i + 1)), (3, Iz (ss (co (cp i.toNat) (pd (cp i.toNat)).toNat))), (5, Iz (ss (co (cp i.toNat) (pd (cp i.toNat)).toNat))), (0, .ref s0), (1, Iz (bl)), (2, Iz (cg))]) hx hb dX7_changesFar_73 hl rfl (by decide) rfl (fun ls hl => ?_)
          refine lv_goto (tgt := 7) hx hb dX7_changesFar_76 (by decide) ?_
          exact ih_7 _ (by omega) _ _ _ ⟨cg, (ss (co (cp i.toNat) (pd (cp i.toNat)).toNat)), (i + 1), rfl, (by omega), (by omega), (by rw [show (i + 1).toNat = i.toNat + 1 by omega]; show _ = (chgS _ i.toNat).1 + (if _ * (chgS _ i.toNat).2 < 0 then 1 else 0); rw [← e1, ← e2, ← eS]; first | rw [if_pos (by omega)] | (rw [if_neg (by omega), Int.add_zero])), (by rw [show (i + 1).toNat = i.toNat + 1 by omega]; show _ = (if _ = 0 then (chgS _ i.toNat).2 else _); rw [← e2, ← eS]; first | rw [if_pos (by omega)] | rw [if_neg (by omega)]), (by omega), (by omega), (by omega), (by omega), hV, lv_sub hl [3, 4, 5, 1, 0] rfl⟩
      · skip
        refine g_iinc (k := 3) (z := cg) (n := (1)) (lv' := [(2, Iz (cg + 1)), (5, Iz (ss (co (cp i.toNat) (pd (cp i.toNat)).toNat))), (0, .ref s0), (1, Iz (bl)), (3, Iz (la)), (4, Iz (i))]) hx hb dX7_changesFar_62 hl rfl (by decide) rfl (fun ls hl => ?_)
        refine lv_iload hx hb dX7_changesFar_65 (lv_at hl 1 rfl) ?_
        refine g_if_eq (tgt := 73) hx hb ⟨by omega, by omega⟩ dX7_changesFar_67 (by decide) (fun c_67 => ?_) (fun c_67 => ?_)
        · skip
          refine g_iinc (k := 5) (z := i) (n := (1)) (lv' := [(4, Iz (i + 1)), (2, Iz (cg + 1)), (5, Iz (ss (co (cp i.toNat) (pd (cp i.toNat)).toNat))), (0, .ref s0), (1, Iz (bl)), (3, Iz (la))]) hx hb dX7_changesFar_73 hl rfl (by decide) rfl (fun ls hl => ?_)
          refine lv_goto (tgt := 7) hx hb dX7_changesFar_76 (by decide) ?_
          exact ih_7 _ (by omega) _ _ _ ⟨(cg + 1), la, (i + 1), rfl, (by omega), (by omega), (by rw [show (i + 1).toNat = i.toNat + 1 by omega]; show _ = (chgS _ i.toNat).1 + (if _ * (chgS _ i.toNat).2 < 0 then 1 else 0); rw [← e1, ← e2, ← eS]; first | rw [if_pos (by omega)] | (rw [if_neg (by omega), Int.add_zero])), (by rw [show (i + 1).toNat = i.toNat + 1 by omega]; show _ = (if _ = 0 then (chgS _ i.toNat).2 else _); rw [← e2, ← eS]; first | rw [if_pos (by omega)] | rw [if_neg (by omega)]), (by omega), (by omega), (by omega), (by omega), hV, lv_sub hl [3, 4, 1, 5, 0] rfl⟩
        · skip
          refine lv_iload hx hb dX7_changesFar_70 (lv_at hl 1 rfl) ?_
          refine lv_istore_n (lv' := [(3, Iz (ss (co (cp i.toNat) (pd (cp i.toNat)).toNat))), (2, Iz (cg + 1)), (5, Iz (ss (co (cp i.toNat) (pd (cp i.toNat)).toNat))), (0, .ref s0), (1, Iz (bl)), (4, Iz (i))]) hx hb dX7_changesFar_72 rfl hl (by decide) rfl (fun ls hl => ?_)
          refine g_iinc (k := 5) (z := i) (n := (1)) (lv' := [(4, Iz (i + 1)), (3, Iz (ss (co (cp i.toNat) (pd (cp i.toNat)).toNat))), (2, Iz (cg + 1)), (5, Iz (ss (co (cp i.toNat) (pd (cp i.toNat)).toNat))), (0, .ref s0), (1, Iz (bl))]) hx hb dX7_changesFar_73 hl rfl (by decide) rfl (fun ls hl => ?_)
          refine lv_goto (tgt := 7) hx hb dX7_changesFar_76 (by decide) ?_
          exact ih_7 _ (by omega) _ _ _ ⟨(cg + 1), (ss (co (cp i.toNat) (pd (cp i.toNat)).toNat)), (i + 1), rfl, (by omega), (by omega), (by rw [show (i + 1).toNat = i.toNat + 1 by omega]; show _ = (chgS _ i.toNat).1 + (if _ * (chgS _ i.toNat).2 < 0 then 1 else 0); rw [← e1, ← e2, ← eS]; first | rw [if_pos (by omega)] | (rw [if_neg (by omega), Int.add_zero])), (by rw [show (i + 1).toNat = i.toNat + 1 by omega]; show _ = (if _ = 0 then (chgS _ i.toNat).2 else _); rw [← e2, ← eS]; first | rw [if_pos (by omega)] | rw [if_neg (by omega)]), (by omega), (by omega), (by omega), (by omega), hV, lv_sub hl [4, 5, 2, 1, 0] rfl⟩
    · skip
      refine lv_aload_n hx hb dX7_changesFar_35 rfl (lv_at hl 1 rfl) ?_
      refine x_get E hK hV (ci := 7) (C := RX7) (T := TX7) (N := 10) rfl w0c_in7 (pW_x hSo) 2 (by decide) rfl cf_7_9 rfl dX7_changesFar_36 ?_
      refine lv_iload hx hb dX7_changesFar_39 (lv_at hl 5 rfl) ?_
      refine y_aaldq hx hb hK hV (t0 := 3) rfl hch (by omega) (by omega) (by omega) dX7_changesFar_41 ?_
      refine y_getdeg E hK hV (hcp i.toNat (by omega)) rfl cf_7_49 dX7_changesFar_42 ?_
      refine lv_iconst (v := Int32.ofInt (2)) hx hb dX7_changesFar_45 (by decide) ?_
      refine g_irem hx hb (by omega) (by omega) (by omega) (by omega) dX7_changesFar_46 ?_
      refine g_if_eq (tgt := 55) hx hb (by first | assumption | exact ⟨by omega, by omega⟩) dX7_changesFar_47 (by decide) (fun c_47 => ?_) (fun c_47 => ?_)
      · skip
        have eS : (ss (co (cp i.toNat) (pd (cp i.toNat)).toNat)) = (cfS cp pd co v bl) i.toNat := by
          unfold cfS
          first
            | (rw [if_pos ⟨by omega, by omega⟩, ← sg26]; done)
            | (rw [if_neg (by omega), ← sg26]; done)
        have ms := mul1 (x := (ss (co (cp i.toNat) (pd (cp i.toNat)).toNat))) (y := la) (by omega) (by omega) (by omega) (by omega)
        refine lv_iload hx hb dX7_changesFar_55 (lv_at hl 0 rfl) ?_
        refine lv_iload_n hx hb dX7_changesFar_57 rfl (lv_at hl 4 rfl) ?_
        refine g_imul hx hb dX7_changesFar_58 ?_
        refine g_if_ge (tgt := 65) hx hb ⟨by omega, by omega⟩ dX7_changesFar_59 (by decide) (fun c_59 => ?_) (fun c_59 => ?_)
        · skip
          refine lv_iload hx hb dX7_changesFar_65 (lv_at hl 0 rfl) ?_
          refine g_if_eq (tgt := 73) hx hb ⟨by omega, by omega⟩ dX7_changesFar_67 (by decide) (fun c_67 => ?_) (fun c_67 => ?_)
          · skip
            refine g_iinc (k := 5) (z := i) (n := (1)) (lv' := [(4, Iz (i + 1)), (5, Iz (ss (co (cp i.toNat) (pd (cp i.toNat)).toNat))), (0, .ref s0), (1, Iz (bl)), (2, Iz (cg)), (3, Iz (la))]) hx hb dX7_changesFar_73 hl rfl (by decide) rfl (fun ls hl => ?_)
            refine lv_goto (tgt := 7) hx hb dX7_changesFar_76 (by decide) ?_
            exact ih_7 _ (by omega) _ _ _ ⟨cg, la, (i + 1), rfl, (by omega), (by omega), (by rw [show (i + 1).toNat = i.toNat + 1 by omega]; show _ = (chgS _ i.toNat).1 + (if _ * (chgS _ i.toNat).2 < 0 then 1 else 0); rw [← e1, ← e2, ← eS]; first | rw [if_pos (by omega)] | (rw [if_neg (by omega), Int.add_zero])), (by rw [show (i + 1).toNat = i.toNat + 1 by omega]; show _ = (if _ = 0 then (chgS _ i.toNat).2 else _); rw [← e2, ← eS]; first | rw [if_pos (by omega)] | rw [if_neg (by omega)]), (by omega), (by omega), (by omega), (by omega), hV, lv_sub hl [2, 3, 4, 5, 0] rfl⟩
          · skip
            refine lv_iload hx hb dX7_changesFar_70 (lv_at hl 0 rfl) ?_
            refine lv_istore_n (lv' := [(3, Iz (ss (co (cp i.toNat) (pd (cp i.toNat)).toNat))), (5, Iz (ss (co (cp i.toNat) (pd (cp i.toNat)).toNat))), (0, .ref s0), (1, Iz (bl)), (2, Iz (cg)), (4, Iz (i))]) hx hb dX7_changesFar_72 rfl hl (by decide) rfl (fun ls hl => ?_)
            refine g_iinc (k := 5) (z := i) (n := (1)) (lv' := [(4, Iz (i + 1)), (3, Iz (ss (co (cp i.toNat) (pd (cp i.toNat)).toNat))), (5, Iz (ss (co (cp i.toNat) (pd (cp i.toNat)).toNat))), (0, .ref s0), (1, Iz (bl)), (2, Iz (cg))]) hx hb dX7_changesFar_73 hl rfl (by decide) rfl (fun ls hl => ?_)
            refine lv_goto (tgt := 7) hx hb dX7_changesFar_76 (by decide) ?_
            exact ih_7 _ (by omega) _ _ _ ⟨cg, (ss (co (cp i.toNat) (pd (cp i.toNat)).toNat)), (i + 1), rfl, (by omega), (by omega), (by rw [show (i + 1).toNat = i.toNat + 1 by omega]; show _ = (chgS _ i.toNat).1 + (if _ * (chgS _ i.toNat).2 < 0 then 1 else 0); rw [← e1, ← e2, ← eS]; first | rw [if_pos (by omega)] | (rw [if_neg (by omega), Int.add_zero])), (by rw [show (i + 1).toNat = i.toNat + 1 by omega]; show _ = (if _ = 0 then (chgS _ i.toNat).2 else _); rw [← e2, ← eS]; first | rw [if_pos (by omega)] | rw [if_neg (by omega)]), (by omega), (by omega), (by omega), (by omega), hV, lv_sub hl [3, 4, 5, 1, 0] rfl⟩
        · skip
          refine g_iinc (k := 3) (z := cg) (n := (1)) (lv' := [(2, Iz (cg + 1)), (5, Iz (ss (co (cp i.toNat) (pd (cp i.toNat)).toNat))), (0, .ref s0), (1, Iz (bl)), (3, Iz (la)), (4, Iz (i))]) hx hb dX7_changesFar_62 hl rfl (by decide) rfl (fun ls hl => ?_)
          refine lv_iload hx hb dX7_changesFar_65 (lv_at hl 1 rfl) ?_
          refine g_if_eq (tgt := 73) hx hb ⟨by omega, by omega⟩ dX7_changesFar_67 (by decide) (fun c_67 => ?_) (fun c_67 => ?_)
          · skip
            refine g_iinc (k := 5) (z := i) (n := (1)) (lv' := [(4, Iz (i + 1)), (2, Iz (cg + 1)), (5, Iz (ss (co (cp i.toNat) (pd (cp i.toNat)).toNat))), (0, .ref s0), (1, Iz (bl)), (3, Iz (la))]) hx hb dX7_changesFar_73 hl rfl (by decide) rfl (fun ls hl => ?_)
            refine lv_goto (tgt := 7) hx hb dX7_changesFar_76 (by decide) ?_
            exact ih_7 _ (by omega) _ _ _ ⟨(cg + 1), la, (i + 1), rfl, (by omega), (by omega), (by rw [show (i + 1).toNat = i.toNat + 1 by omega]; show _ = (chgS _ i.toNat).1 + (if _ * (chgS _ i.toNat).2 < 0 then 1 else 0); rw [← e1, ← e2, ← eS]; first | rw [if_pos (by omega)] | (rw [if_neg (by omega), Int.add_zero])), (by rw [show (i + 1).toNat = i.toNat + 1 by omega]; show _ = (if _ = 0 then (chgS _ i.toNat).2 else _); rw [← e2, ← eS]; first | rw [if_pos (by omega)] | rw [if_neg (by omega)]), (by omega), (by omega), (by omega), (by omega), hV, lv_sub hl [3, 4, 1, 5, 0] rfl⟩
          · skip
            refine lv_iload hx hb dX7_changesFar_70 (lv_at hl 1 rfl) ?_
            refine lv_istore_n (lv' := [(3, Iz (ss (co (cp i.toNat) (pd (cp i.toNat)).toNat))), (2, Iz (cg + 1)), (5, Iz (ss (co (cp i.toNat) (pd (cp i.toNat)).toNat))), (0, .ref s0), (1, Iz (bl)), (4, Iz (i))]) hx hb dX7_changesFar_72 rfl hl (by decide) rfl (fun ls hl => ?_)
            refine g_iinc (k := 5) (z := i) (n := (1)) (lv' := [(4, Iz (i + 1)), (3, Iz (ss (co (cp i.toNat) (pd (cp i.toNat)).toNat))), (2, Iz (cg + 1)), (5, Iz (ss (co (cp i.toNat) (pd (cp i.toNat)).toNat))), (0, .ref s0), (1, Iz (bl))]) hx hb dX7_changesFar_73 hl rfl (by decide) rfl (fun ls hl => ?_)
            refine lv_goto (tgt := 7) hx hb dX7_changesFar_76 (by decide) ?_
            exact ih_7 _ (by omega) _ _ _ ⟨(cg + 1), (ss (co (cp i.toNat) (pd (cp i.toNat)).toNat)), (i + 1), rfl, (by omega), (by omega), (by rw [show (i + 1).toNat = i.toNat + 1 by omega]; show _ = (chgS _ i.toNat).1 + (if _ * (chgS _ i.toNat).2 < 0 then 1 else 0); rw [← e1, ← e2, ← eS]; first | rw [if_pos (by omega)] | (rw [if_neg (by omega), Int.add_zero])), (by rw [show (i + 1).toNat = i.toNat + 1 by omega]; show _ = (if _ = 0 then (chgS _ i.toNat).2 else _); rw [← e2, ← eS]; first | rw [if_pos (by omega)] | rw [if_neg (by omega)]), (by omega), (by omega), (by omega), (by omega), hV, lv_sub hl [4, 5, 2, 1, 0] rfl⟩
      · skip
        refine lv_iload hx hb dX7_changesFar_50 (lv_at hl 0 rfl) ?_
        refine g_ineg hx hb dX7_changesFar_52 ?_
        refine lv_istore (lv' := [(5, Iz (-(ss (co (cp i.toNat) (pd (cp i.toNat)).toNat)))), (0, .ref s0), (1, Iz (bl)), (2, Iz (cg)), (3, Iz (la)), (4, Iz (i))]) hx hb dX7_changesFar_53 hl (by decide) rfl (fun ls hl => ?_)
        have eS : (-(ss (co (cp i.toNat) (pd (cp i.toNat)).toNat))) = (cfS cp pd co v bl) i.toNat := by
          unfold cfS
          first
            | (rw [if_pos ⟨by omega, by omega⟩, ← sg26]; done)
            | (rw [if_neg (by omega), ← sg26]; done)
        have ms := mul1 (x := (-(ss (co (cp i.toNat) (pd (cp i.toNat)).toNat)))) (y := la) (by omega) (by omega) (by omega) (by omega)
        refine lv_iload hx hb dX7_changesFar_55 (lv_at hl 0 rfl) ?_
        refine lv_iload_n hx hb dX7_changesFar_57 rfl (lv_at hl 4 rfl) ?_
        refine g_imul hx hb dX7_changesFar_58 ?_
        refine g_if_ge (tgt := 65) hx hb ⟨by omega, by omega⟩ dX7_changesFar_59 (by decide) (fun c_59 => ?_) (fun c_59 => ?_)
        · skip
          refine lv_iload hx hb dX7_changesFar_65 (lv_at hl 0 rfl) ?_
          refine g_if_eq (tgt := 73) hx hb ⟨by omega, by omega⟩ dX7_changesFar_67 (by decide) (fun c_67 => ?_) (fun c_67 => ?_)
          · skip
            refine g_iinc (k := 5) (z := i) (n := (1)) (lv' := [(4, Iz (i + 1)), (5, Iz (-(ss (co (cp i.toNat) (pd (cp i.toNat)).toNat)))), (0, .ref s0), (1, Iz (bl)), (2, Iz (cg)), (3, Iz (la))]) hx hb dX7_changesFar_73 hl rfl (by decide) rfl (fun ls hl => ?_)
            refine lv_goto (tgt := 7) hx hb dX7_changesFar_76 (by decide) ?_
            exact ih_7 _ (by omega) _ _ _ ⟨cg, la, (i + 1), rfl, (by omega), (by omega), (by rw [show (i + 1).toNat = i.toNat + 1 by omega]; show _ = (chgS _ i.toNat).1 + (if _ * (chgS _ i.toNat).2 < 0 then 1 else 0); rw [← e1, ← e2, ← eS]; first | rw [if_pos (by omega)] | (rw [if_neg (by omega), Int.add_zero])), (by rw [show (i + 1).toNat = i.toNat + 1 by omega]; show _ = (if _ = 0 then (chgS _ i.toNat).2 else _); rw [← e2, ← eS]; first | rw [if_pos (by omega)] | rw [if_neg (by omega)]), (by omega), (by omega), (by omega), (by omega), hV, lv_sub hl [2, 3, 4, 5, 0] rfl⟩
          · skip
            refine lv_iload hx hb dX7_changesFar_70 (lv_at hl 0 rfl) ?_
            refine lv_istore_n (lv' := [(3, Iz (-(ss (co (cp i.toNat) (pd (cp i.toNat)).toNat)))), (5, Iz (-(ss (co (cp i.toNat) (pd (cp i.toNat)).toNat)))), (0, .ref s0), (1, Iz (bl)), (2, Iz (cg)), (4, Iz (i))]) hx hb dX7_changesFar_72 rfl hl (by decide) rfl (fun ls hl => ?_)
            refine g_iinc (k := 5) (z := i) (n := (1)) (lv' := [(4, Iz (i + 1)), (3, Iz (-(ss (co (cp i.toNat) (pd (cp i.toNat)).toNat)))), (5, Iz (-(ss (co (cp i.toNat) (pd (cp i.toNat)).toNat)))), (0, .ref s0), (1, Iz (bl)), (2, Iz (cg))]) hx hb dX7_changesFar_73 hl rfl (by decide) rfl (fun ls hl => ?_)
            refine lv_goto (tgt := 7) hx hb dX7_changesFar_76 (by decide) ?_
            exact ih_7 _ (by omega) _ _ _ ⟨cg, (-(ss (co (cp i.toNat) (pd (cp i.toNat)).toNat))), (i + 1), rfl, (by omega), (by omega), (by rw [show (i + 1).toNat = i.toNat + 1 by omega]; show _ = (chgS _ i.toNat).1 + (if _ * (chgS _ i.toNat).2 < 0 then 1 else 0); rw [← e1, ← e2, ← eS]; first | rw [if_pos (by omega)] | (rw [if_neg (by omega), Int.add_zero])), (by rw [show (i + 1).toNat = i.toNat + 1 by omega]; show _ = (if _ = 0 then (chgS _ i.toNat).2 else _); rw [← e2, ← eS]; first | rw [if_pos (by omega)] | rw [if_neg (by omega)]), (by omega), (by omega), (by omega), (by omega), hV, lv_sub hl [3, 4, 5, 1, 0] rfl⟩
        · skip
          refine g_iinc (k := 3) (z := cg) (n := (1)) (lv' := [(2, Iz (cg + 1)), (5, Iz (-(ss (co (cp i.toNat) (pd (cp i.toNat)).toNat)))), (0, .ref s0), (1, Iz (bl)), (3, Iz (la)), (4, Iz (i))]) hx hb dX7_changesFar_62 hl rfl (by decide) rfl (fun ls hl => ?_)
          refine lv_iload hx hb dX7_changesFar_65 (lv_at hl 1 rfl) ?_
          refine g_if_eq (tgt := 73) hx hb ⟨by omega, by omega⟩ dX7_changesFar_67 (by decide) (fun c_67 => ?_) (fun c_67 => ?_)
          · skip
            refine g_iinc (k := 5) (z := i) (n := (1)) (lv' := [(4, Iz (i + 1)), (2, Iz (cg + 1)), (5, Iz (-(ss (co (cp i.toNat) (pd (cp i.toNat)).toNat)))), (0, .ref s0), (1, Iz (bl)), (3, Iz (la))]) hx hb dX7_changesFar_73 hl rfl (by decide) rfl (fun ls hl => ?_)
            refine lv_goto (tgt := 7) hx hb dX7_changesFar_76 (by decide) ?_
            exact ih_7 _ (by omega) _ _ _ ⟨(cg + 1), la, (i + 1), rfl, (by omega), (by omega), (by rw [show (i + 1).toNat = i.toNat + 1 by omega]; show _ = (chgS _ i.toNat).1 + (if _ * (chgS _ i.toNat).2 < 0 then 1 else 0); rw [← e1, ← e2, ← eS]; first | rw [if_pos (by omega)] | (rw [if_neg (by omega), Int.add_zero])), (by rw [show (i + 1).toNat = i.toNat + 1 by omega]; show _ = (if _ = 0 then (chgS _ i.toNat).2 else _); rw [← e2, ← eS]; first | rw [if_pos (by omega)] | rw [if_neg (by omega)]), (by omega), (by omega), (by omega), (by omega), hV, lv_sub hl [3, 4, 1, 5, 0] rfl⟩
          · skip
            refine lv_iload hx hb dX7_changesFar_70 (lv_at hl 1 rfl) ?_
            refine lv_istore_n (lv' := [(3, Iz (-(ss (co (cp i.toNat) (pd (cp i.toNat)).toNat)))), (2, Iz (cg + 1)), (5, Iz (-(ss (co (cp i.toNat) (pd (cp i.toNat)).toNat)))), (0, .ref s0), (1, Iz (bl)), (4, Iz (i))]) hx hb dX7_changesFar_72 rfl hl (by decide) rfl (fun ls hl => ?_)
            refine g_iinc (k := 5) (z := i) (n := (1)) (lv' := [(4, Iz (i + 1)), (3, Iz (-(ss (co (cp i.toNat) (pd (cp i.toNat)).toNat)))), (2, Iz (cg + 1)), (5, Iz (-(ss (co (cp i.toNat) (pd (cp i.toNat)).toNat)))), (0, .ref s0), (1, Iz (bl))]) hx hb dX7_changesFar_73 hl rfl (by decide) rfl (fun ls hl => ?_)
            refine lv_goto (tgt := 7) hx hb dX7_changesFar_76 (by decide) ?_
            exact ih_7 _ (by omega) _ _ _ ⟨(cg + 1), (-(ss (co (cp i.toNat) (pd (cp i.toNat)).toNat))), (i + 1), rfl, (by omega), (by omega), (by rw [show (i + 1).toNat = i.toNat + 1 by omega]; show _ = (chgS _ i.toNat).1 + (if _ * (chgS _ i.toNat).2 < 0 then 1 else 0); rw [← e1, ← e2, ← eS]; first | rw [if_pos (by omega)] | (rw [if_neg (by omega), Int.add_zero])), (by rw [show (i + 1).toNat = i.toNat + 1 by omega]; show _ = (if _ = 0 then (chgS _ i.toNat).2 else _); rw [← e2, ← eS]; first | rw [if_pos (by omega)] | rw [if_neg (by omega)]), (by omega), (by omega), (by omega), (by omega), hV, lv_sub hl [4, 5, 2, 1, 0] rfl⟩
