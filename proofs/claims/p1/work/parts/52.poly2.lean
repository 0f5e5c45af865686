/-- a step of leave(): of its k -/
def lvStep (G : Nat → Int) (dg k : Nat) (F : Nat → Int) : Nat → Int := fun i => if i < dg + k then F i * G dg - (if k ≤ i then F (dg + k) * G (i - k) else 0) else F i
/-- behind so many steps of leave() -/
def lvP (G : Nat → Int) (dg sp : Nat) (F : Nat → Int) : Nat → Nat → Int
  | 0 => F
  | m + 1 => lvStep G dg (sp - m) (lvP G dg sp F m)
/-- behind so many steps of eval() at x / 2^e -/
def evP (F : Nat → Int) (X e : Int) (dg : Nat) : Nat → Int
  | 0 => F dg
  | m + 1 => evP F X e dg m * X + F (dg - (m + 1)) * 2 ^ (e * ((m : Int) + 1)).toNat
theorem sz_mul {x y : Int} {a b : Nat} (hx : (x.natAbs : Int) < 1073741824 ^ a) (hy : (y.natAbs : Int) < 1073741824 ^ b) : ((x * y).natAbs : Int) < 1073741824 ^ (a + b) := by
  rw [Int.natAbs_mul, Int.natCast_mul, Int.pow_add]
  have h1 : (x.natAbs : Int) * (y.natAbs : Int) ≤ (1073741824 ^ a - 1) * (y.natAbs : Int) := Int.mul_le_mul_of_nonneg_right (by omega) (by omega)
  have h2 : (1073741824 ^ a - 1) * (y.natAbs : Int) ≤ (1073741824 ^ a - 1) * (1073741824 ^ b - 1) := Int.mul_le_mul_of_nonneg_left (by omega) (by have := kb_pow_pos a; omega)
  have h3 : ((1073741824 : Int) ^ a - 1) * (1073741824 ^ b - 1) = 1073741824 ^ a * 1073741824 ^ b - 1073741824 ^ a - 1073741824 ^ b + 1 := by grind
  have p1 := kb_pow_pos a
  have p2 := kb_pow_pos b
  omega
set_option maxHeartbeats 4000000 in
set_option maxRecDepth 100000 in
theorem k9_leave {l : Launch} {dC : Nat → ClassId} {dI : Nat → Nat → Nat} {cx : Nat → Nat} {LB : List Nat} {LP : List Nat} {pc_ : Nat → Nat} {pd : Nat → Int} {co : Nat → Nat → Nat} {X : va_W} {dd : Nat → Nat} {nn ss : Nat → Int} {ll : Nat → Nat} {gg : Nat → Int → Int} {H0 : Heap} {v : Nat → Int} {f g : Nat} {t0 ta tb tq tt tu tw tm : Nat} {tf : Int} (mf : f ∈ LP) (mg : g ∈ LP) (nfg : f ≠ g) (hO : pOK LB LP co) (hN : cR LB nn ss ll gg v) (hTo : (t0, (.inr (9, [.ref ta, .ref tb, .ref tq, .ref tt, .ref tu, .ref tw, .ref tm, Iz tf]) : va_E)) ∈ X) (hS : tOK LB LP co ta tb tq tt tu) (d0 : 0 ≤ pd g) (d1 : pd g ≤ pd f) (d2 : pd f ≤ 12) (sF : ∀ m : Nat, m ≤ (pd f - pd g).toNat + 1 → ∀ i : Nat, (i : Int) ≤ pd f → ((lvP (fun i => v (co g i)) (pd g).toNat (pd f - pd g).toNat (fun i => v (co f i)) m i).natAbs : Int) < 1073741824 ^ 80) (sG : ∀ i : Nat, (i : Int) ≤ pd g → ((v (co g i)).natAbs : Int) < 1073741824 ^ 80) : Met l yX9_leave (Cond.code yX9_leave cX9_leave 7 (some .boolean) :: w0c) (cRm 3 89 LB ll) (cPc dC dI cx LB (pW cx LP pc_ pd co X) dd nn ss ll gg H0 [.ref t0, .ref f, .ref g]) (cQi dC dI cx LB (va_A (bW (cx 0) LB dd nn ss ll gg (pW cx LP pc_ pd co X)) H0.size) ll H0 (fun z X' dd' nn' ss' ll' gg' => ∃ (v' : Nat → Int) (kr : Int), X' = pW cx LP pc_ (va_up pd f kr) co X ∧ cR LB nn' ss' ll' gg' v' ∧ -1 ≤ kr ∧ kr ≤ pd g - 1 ∧ (0 ≤ kr → v' (co f kr.toNat) ≠ 0) ∧ (∀ j : Int, kr < j → j ≤ pd g - 1 → v' (co f j.toNat) = 0) ∧ (∀ i : Nat, (i : Int) ≤ pd f → v' (co f i) = lvP (fun i => v (co g i)) (pd g).toNat (pd f - pd g).toNat (fun i => v (co f i)) ((pd f - pd g).toNat + 1) i) ∧ (∀ b : Nat, (∀ j : Nat, (j : Int) ≤ pd f → b ≠ co f j) → b ≠ ta → b ≠ tt → b ≠ tu → v' b = v b) ∧ z = (if v (co g (pd g).toNat) < 0 ∧ (pd f - pd g) % 2 = 0 then 1 else 0))) (cMc LB ll) (2 * cMc LB ll) (va_A (bW (cx 0) LB dd nn ss ll gg (pW cx LP pc_ pd co X)) H0.size) := by
  refine Met.ofW (cc := cX9_leave) (maxL := 7) (ret := (some .boolean)) (by decide) rfl ?_
  intro p e s m args below meth c s₁ B hml hv
  obtain ⟨rfl, hH0, hP, hK, hD0, hC0⟩ := hv
  have hx := B.exec
  have hb := B.bytes
  have hr := B.returns
  have hts := atoms_spec (ws := Cond.code yX9_leave cX9_leave 7 (some .boolean) :: w0c) B.pre
  have hown : s.vm.findClass RX9 = some m.cls := findClass_of_methodNamed B.named
  have hlocks := B.notSynchronized
  have E : CallFix p m c cX9_leave 7 s _ (Cond.code yX9_leave cX9_leave 7 (some .boolean) :: w0c) RX9 := ⟨hx, hb, hml, hown, hts⟩
  subst hH0
  have hD := va_D.self (sz := s.heap.size) hD0
  have hA : ∀ q : Nat, s.heap.size ≤ q → va_A (bW (cx 0) LB dd nn ss ll gg (pW cx LP pc_ pd co X)) s.heap.size q := fun q h => Or.inr h
  have hV : cV dC dI cx LB (va_A (bW (cx 0) LB dd nn ss ll gg (pW cx LP pc_ pd co X)) s.heap.size) s.heap ll (pW cx LP pc_ pd co X) dd nn ss ll gg s.heap [] := ⟨hP, hD, va_S.rf, fun _ _ => Nat.le_refl _, hC0⟩
  have hR : (headSpec (Cond.code yX9_leave cX9_leave 7 (some .boolean) :: w0c) (cRm 3 89 LB ll)).room.cells = cMc LB ll ∧ (headSpec (Cond.code yX9_leave cX9_leave 7 (some .boolean) :: w0c) (cRm 3 89 LB ll)).room.slots = 2 * cMc LB ll := ⟨rfl, rfl⟩
  refine W.widen (k := cP LB ll - cP LB ll) (n := 2 * (cP LB ll - cP LB ll)) (Nat.zero_le _) (Nat.zero_le _) ?_
  have hl := lv_entry ([.ref t0, .ref f, .ref g]) (n := 7) (Nat.le_of_ble_eq_true rfl)
  rw [lg_entry_eq]
  generalize (lg_sl ([.ref t0, .ref f, .ref g]) ++ List.replicate (7 - (lg_sl ([.ref t0, .ref f, .ref g])).length) Slot.unset).toArray = ls at hl ⊢
  have hl : lv_has ls 7 [(0, .ref t0), (1, .ref f), (2, .ref g)] := hl
  obtain ⟨⟨mta, mtb, mtq, mtt, mtu⟩, ⟨nab, naq, nat_, nau⟩, ⟨nbq, nbt, nbu⟩, ⟨nqt, nqu⟩, ntu, scA⟩ := id hS
  have sca : ∀ p ∈ LP, ∀ i : Nat, i < 13 → co p i ≠ ta := fun p h i w => (scA p h i w).1
  have sct : ∀ p ∈ LP, ∀ i : Nat, i < 13 → co p i ≠ tt := fun p h i w => (scA p h i w).2.2.2.1
  have scu : ∀ p ∈ LP, ∀ i : Nat, i < 13 → co p i ≠ tu := fun p h i w => (scA p h i w).2.2.2.2
  refine lv_aload_n hx hb dX9_leave_0 rfl (lv_at hl 1 rfl) ?_
  refine y_getdeg E hK hV mf rfl cf_9_59 dX9_leave_1 ?_
  refine lv_aload_n hx hb dX9_leave_4 rfl (lv_at hl 2 rfl) ?_
  refine y_getdeg E hK hV mg rfl cf_9_59 dX9_leave_5 ?_
  refine g_isub hx hb dX9_leave_8 ?_
  refine lv_istore_n (lv' := [(3, Iz ((pd f) - (pd g))), (0, .ref t0), (1, .ref f), (2, .ref g)]) hx hb dX9_leave_9 rfl hl (by decide) rfl (fun ls hl => ?_)
  refine lv_aload_n hx hb dX9_leave_10 rfl (lv_at hl 3 rfl) ?_
  refine c_callr (As := []) (rest := []) E (k4_lead (p0 := g) mg (by omega) (by omega)) (cwV 0 hts (cGood cl_X9_62 ci_X4_lead cs_X4_lead cn_RX4 cc_X4_lead) rfl rfl rfl (by decide +kernel) ⟨Nat.le_of_ble_eq_true rfl, Nat.le_of_ble_eq_true rfl⟩) (y_recv hK hV mg) hK hV hA hR rfl hl.1 (Nat.le_of_ble_eq_true rfl) dX9_leave_11 (fun a11 X11 dd11 nn11 ss11 ll11 gg11 H locs q11 hV hm11 => ?_)
  obtain ⟨e1_, e2_, e3_, e4_, e5_, e6_, q11⟩ := q11
  obtain rfl := e1_.symm
  obtain rfl := e2_.symm
  obtain rfl := e3_.symm
  obtain rfl := e4_.symm
  obtain rfl := e5_.symm
  obtain rfl := e6_.symm
  subst q11
  refine lv_astore (lv' := [(4, .ref (co g (pd g).toNat)), (3, Iz ((pd f) - (pd g))), (0, .ref t0), (1, .ref f), (2, .ref g)]) hx hb dX9_leave_14 hl (by decide) rfl (fun ls hl => ?_)
  refine lv_iload_n hx hb dX9_leave_16 rfl (lv_at hl 1 rfl) ?_
  refine lv_istore (lv' := [(5, Iz ((pd f) - (pd g))), (4, .ref (co g (pd g).toNat)), (3, Iz ((pd f) - (pd g))), (0, .ref t0), (1, .ref f), (2, .ref g)]) hx hb dX9_leave_17 hl (by decide) rfl (fun ls hl => ?_)
  refine r_loop2 (P := fun N_ ce sl H locs ls => ∃ dd_19 : Nat → Nat, ∃ nn_19 ss_19 : Nat → Int, ∃ ll_19 : Nat → Nat, ∃ gg_19 : Nat → Int → Int, ∃ v_19 : Nat → Int, ∃ k : Int, N_ = (k + 1).toNat ∧ ce = cP LB ll_19 - cP LB ll ∧ sl = 2 * (cP LB ll_19 - cP LB ll) ∧ cR LB nn_19 ss_19 ll_19 gg_19 v_19 ∧ (-1 ≤ k) ∧ (k ≤ pd f - pd g) ∧ (∀ i : Nat, (i : Int) ≤ pd f → v_19 (co f i) = lvP (fun i => v (co g i)) (pd g).toNat (pd f - pd g).toNat (fun i => v (co f i)) (pd f - pd g - k).toNat i) ∧ (∀ b : Nat, (∀ j : Nat, (j : Int) ≤ pd f → b ≠ co f j) → b ≠ ta → b ≠ tt → b ≠ tu → v_19 b = v b) ∧ cV dC dI cx LB (va_A (bW (cx 0) LB dd nn ss ll gg (pW cx LP pc_ pd co X)) s.heap.size) s.heap ll (pW cx LP pc_ pd co X) dd_19 nn_19 ss_19 ll_19 gg_19 H locs ∧ lv_has ls 7 [(0, .ref t0), (1, .ref f), (2, .ref g), (3, Iz ((pd f) - (pd g))), (4, .ref (co g (pd g).toNat)), (5, Iz (k))]) (g := fun ls => F0 m 19 ls []) (fun N_ ce sl H locs ls hI ih_19 => ?_) _ _ _ _ _ _ ⟨_, _, _, _, _, v, ((pd f) - (pd g)), rfl, rfl, rfl, hN, (by omega), (Int.le_refl _), (fun i h => by rw [show (pd f - pd g - (pd f - pd g)).toNat = 0 by omega]; rfl), (fun b _ _ _ _ => rfl), hV, lv_sub hl [3, 4, 5, 2, 1, 0] rfl⟩
  obtain ⟨dd_19, nn_19, ss_19, ll_19, gg_19, v_19, k, rfl, rfl, rfl, hN, k0, k1, c1, c2, hV, hl⟩ := hI
  refine lv_iload hx hb dX9_leave_19 (lv_at hl 5 rfl) ?_
  refine g_if_lt (tgt := 150) hx hb ⟨by omega, by omega⟩ dX9_leave_21 (by decide) (fun c_21 => ?_) (fun c_21 => ?_)
  · skip
    refine lv_aload_n hx hb dX9_leave_150 rfl (lv_at hl 1 rfl) ?_
    refine lv_aload_n hx hb dX9_leave_151 rfl (lv_at hl 2 rfl) ?_
    refine y_getdeg E hK hV mg rfl cf_9_59 dX9_leave_152 ?_
    refine lv_iconst (v := Int32.ofInt (1)) hx hb dX9_leave_155 (by decide) ?_
    refine g_isub hx hb dX9_leave_156 ?_
    refine c_callv (As := [Iz ((pd g) - 1)]) (rest := []) E (k4_trim (v := v_19) (p0 := f) (top := pd g - 1) mf hO hN (by omega) (by omega)) (cwV 1 hts (cGood cl_X9_122 ci_X4_trim cs_X4_trim cn_RX4 cc_X4_trim) rfl rfl rfl (by decide +kernel) ⟨Nat.le_of_ble_eq_true rfl, Nat.le_of_ble_eq_true rfl⟩) (y_recv hK hV mf) hK hV hA hR rfl hl.1 (Nat.le_of_ble_eq_true rfl) dX9_leave_157 (fun X157 dd157 nn157 ss157 ll157 gg157 H locs q157 hV hm157 => ?_)
    obtain ⟨e2_, e3_, e4_, e5_, e6_, k157, e1_, tk157, tl157, tn157, tz157⟩ := q157
    obtain rfl := e1_.symm
    obtain rfl := e2_.symm
    obtain rfl := e3_.symm
    obtain rfl := e4_.symm
    obtain rfl := e5_.symm
    obtain rfl := e6_.symm
    refine lv_aload hx hb dX9_leave_160 (lv_at hl 4 rfl) ?_
    refine t_gets E hK hV (hO.1 g mg _ (by omega)) rfl cf_9_79 dX9_leave_162 ?_
    have gl_ := (num1_sg (hN (co g (pd g).toNat) (hO.1 g mg _ (by omega)))).trans (congrArg sg (c2 _ (fun j h q_ => nfg (hO.2 _ mg _ mf _ _ (by omega) (by omega) q_).1.symm) (sca g mg _ (by omega)) (sct g mg _ (by omega)) (scu g mg _ (by omega))))
    have gb_ := sg_bd (v (co g (pd g).toNat))
    refine g_if_ge (tgt := 178) hx hb ⟨by omega, by omega⟩ dX9_leave_165 (by decide) (fun c_165 => ?_) (fun c_165 => ?_)
    · skip
      refine lv_iconst (v := Int32.ofInt (0)) hx hb dX9_leave_178 (by decide) ?_
      have hpost : ∃ (v' : Nat → Int) (kr : Int), (pW cx LP pc_ (va_up pd f k157) co X) = pW cx LP pc_ (va_up pd f kr) co X ∧ cR LB nn_19 ss_19 ll_19 gg_19 v' ∧ -1 ≤ kr ∧ kr ≤ pd g - 1 ∧ (0 ≤ kr → v' (co f kr.toNat) ≠ 0) ∧ (∀ j : Int, kr < j → j ≤ pd g - 1 → v' (co f j.toNat) = 0) ∧ (∀ i : Nat, (i : Int) ≤ pd f → v' (co f i) = lvP (fun i => v (co g i)) (pd g).toNat (pd f - pd g).toNat (fun i => v (co f i)) ((pd f - pd g).toNat + 1) i) ∧ (∀ b : Nat, (∀ j : Nat, (j : Int) ≤ pd f → b ≠ co f j) → b ≠ ta → b ≠ tt → b ≠ tu → v' b = v b) ∧ (0 : Int) = (if v (co g (pd g).toNat) < 0 ∧ (pd f - pd g) % 2 = 0 then 1 else 0) := ⟨_, k157, rfl, hN, tk157, tl157, tn157, tz157, fun j h => by rw [c1 j h, show (pd f - pd g - k).toNat = (pd f - pd g).toNat + 1 by omega], c2, by
            first
            | (rw [if_pos ⟨sg_neg.mp (by omega), by omega⟩])
            | (rw [if_neg (fun q => by have := sg_neg.mpr q.1; omega)])⟩
      exact c_zret hx hb hr hK hV rfl hpost dX9_leave_179 hlocks
    · skip
      refine lv_iload_n hx hb dX9_leave_168 rfl (lv_at hl 3 rfl) ?_
      refine lv_iconst (v := Int32.ofInt (2)) hx hb dX9_leave_169 (by decide) ?_
      refine g_irem hx hb (by omega) (by omega) (by omega) (by omega) dX9_leave_170 ?_
      refine g_if_ne (tgt := 178) hx hb ⟨by omega, by omega⟩ dX9_leave_171 (by decide) (fun c_171 => ?_) (fun c_171 => ?_)
      · skip
        refine lv_iconst (v := Int32.ofInt (0)) hx hb dX9_leave_178 (by decide) ?_
        have hpost : ∃ (v' : Nat → Int) (kr : Int), (pW cx LP pc_ (va_up pd f k157) co X) = pW cx LP pc_ (va_up pd f kr) co X ∧ cR LB nn_19 ss_19 ll_19 gg_19 v' ∧ -1 ≤ kr ∧ kr ≤ pd g - 1 ∧ (0 ≤ kr → v' (co f kr.toNat) ≠ 0) ∧ (∀ j : Int, kr < j → j ≤ pd g - 1 → v' (co f j.toNat) = 0) ∧ (∀ i : Nat, (i : Int) ≤ pd f → v' (co f i) = lvP (fun i => v (co g i)) (pd g).toNat (pd f - pd g).toNat (fun i => v (co f i)) ((pd f - pd g).toNat + 1) i) ∧ (∀ b : Nat, (∀ j : Nat, (j : Int) ≤ pd f → b ≠ co f j) → b ≠ ta → b ≠ tt → b ≠ tu → v' b = v b) ∧ (0 : Int) = (if v (co g (pd g).toNat) < 0 ∧ (pd f - pd g) % 2 = 0 then 1 else 0) := ⟨_, k157, rfl, hN, tk157, tl157, tn157, tz157, fun j h => by rw [c1 j h, show (pd f - pd g - k).toNat = (pd f - pd g).toNat + 1 by omega], c2, by
              first
              | (rw [if_pos ⟨sg_neg.mp (by omega), by omega⟩])
              | (rw [if_neg (fun q => by have := sg_neg.mpr q.1; omega)])⟩
        exact c_zret hx hb hr hK hV rfl hpost dX9_leave_179 hlocks
      · skip
        refine lv_iconst (v := Int32.ofInt (1)) hx hb dX9_leave_174 (by decide) ?_
        refine lv_goto (tgt := 179) hx hb dX9_leave_175 (by decide) ?_
        have hpost : ∃ (v' : Nat → Int) (kr : Int), (pW cx LP pc_ (va_up pd f k157) co X) = pW cx LP pc_ (va_up pd f kr) co X ∧ cR LB nn_19 ss_19 ll_19 gg_19 v' ∧ -1 ≤ kr ∧ kr ≤ pd g - 1 ∧ (0 ≤ kr → v' (co f kr.toNat) ≠ 0) ∧ (∀ j : Int, kr < j → j ≤ pd g - 1 → v' (co f j.toNat) = 0) ∧ (∀ i : Nat, (i : Int) ≤ pd f → v' (co f i) = lvP (fun i => v (co g i)) (pd g).toNat (pd f - pd g).toNat (fun i => v (co f i)) ((pd f - pd g).toNat + 1) i) ∧ (∀ b : Nat, (∀ j : Nat, (j : Int) ≤ pd f → b ≠ co f j) → b ≠ ta → b ≠ tt → b ≠ tu → v' b = v b) ∧ (1 : Int) = (if v (co g (pd g).toNat) < 0 ∧ (pd f - pd g) % 2 = 0 then 1 else 0) := ⟨_, k157, rfl, hN, tk157, tl157, tn157, tz157, fun j h => by rw [c1 j h, show (pd f - pd g - k).toNat = (pd f - pd g).toNat + 1 by omega], c2, by
              first
              | (rw [if_pos ⟨sg_neg.mp (by omega), by omega⟩])
              | (rw [if_neg (fun q => by have := sg_neg.mpr q.1; omega)])⟩
        exact c_zret hx hb hr hK hV rfl hpost dX9_leave_179 hlocks
  · skip
    refine lv_aload_n hx hb dX9_leave_24 rfl (lv_at hl 0 rfl) ?_
    refine x_get E hK hV (ci := 9) (C := RX9) (T := TX9) (N := 8) rfl w0c_in9 (pW_x hTo) 0 (by decide) rfl cf_9_12 rfl dX9_leave_25 ?_
    refine lv_aload_n hx hb dX9_leave_28 rfl (lv_at hl 1 rfl) ?_
    refine y_getc E hK hV mf cf_9_74 dX9_leave_29 ?_
    refine lv_aload_n hx hb dX9_leave_32 rfl (lv_at hl 2 rfl) ?_
    refine y_getdeg E hK hV mg rfl cf_9_59 dX9_leave_33 ?_
    refine lv_iload hx hb dX9_leave_36 (lv_at hl 5 rfl) ?_
    refine g_iadd hx hb dX9_leave_38 ?_
    refine y_aald hx hb hK hV mf (by omega) (by omega) dX9_leave_39 ?_
    have s40 := num1_le (hN _ (hO.1 f mf _ (by omega))) (show ((v_19 (co f ((pd g) + k).toNat)).natAbs : Int) < 1073741824 ^ 80 by rw [c1 _ (by omega)]; exact sF _ (by omega) _ (by omega))
    refine c_callv (As := [.ref (co f ((pd g) + k).toNat)]) (rest := []) E (k0_copy (v := v_19) (h0 := ta) (a := (co f ((pd g) + k).toNat)) mta hN (hO.1 f mf _ (by omega)) (Ne.symm (sca f mf _ (by omega))) (by omega)) (cwV 1 hts (cGood cl_X9_66 ci_X0_copy cs_X0_copy cn_RX0 cc_X0_copy) rfl rfl rfl (by decide +kernel) ⟨Nat.le_of_ble_eq_true rfl, Nat.le_of_ble_eq_true rfl⟩) (b_recv hK hV mta) hK hV hA hR rfl hl.1 (Nat.le_of_ble_eq_true rfl) dX9_leave_40 (fun X40 dd40 nn40 ss40 ll40 gg40 H locs q40 hV hm40 => ?_)
    obtain ⟨e1_, hN⟩ := q40
    obtain rfl := e1_.symm
    refine lv_iconst (v := Int32.ofInt (0)) hx hb dX9_leave_43 (by decide) ?_
    refine lv_istore (lv' := [(6, Iz (0)), (0, .ref t0), (1, .ref f), (2, .ref g), (3, Iz ((pd f) - (pd g))), (4, .ref (co g (pd g).toNat)), (5, Iz (k))]) hx hb dX9_leave_44 hl (by decide) rfl (fun ls hl => ?_)
    refine r_loop2 (P := fun N_ ce sl H locs ls => ∃ dd_46 : Nat → Nat, ∃ nn_46 ss_46 : Nat → Int, ∃ ll_46 : Nat → Nat, ∃ gg_46 : Nat → Int → Int, ∃ v_46 : Nat → Int, ∃ i : Int, N_ = (14 - i).toNat ∧ ce = cP LB ll_46 - cP LB ll ∧ sl = 2 * (cP LB ll_46 - cP LB ll) ∧ cR LB nn_46 ss_46 ll_46 gg_46 v_46 ∧ (0 ≤ i) ∧ (i ≤ pd g + k) ∧ (∀ j : Nat, (j : Int) < i → v_46 (co f j) = lvStep (fun i => v (co g i)) (pd g).toNat k.toNat (lvP (fun i => v (co g i)) (pd g).toNat (pd f - pd g).toNat (fun i => v (co f i)) (pd f - pd g - k).toNat) j) ∧ (∀ j : Nat, i ≤ (j : Int) → (j : Int) ≤ pd f → v_46 (co f j) = lvP (fun i => v (co g i)) (pd g).toNat (pd f - pd g).toNat (fun i => v (co f i)) (pd f - pd g - k).toNat j) ∧ (v_46 ta = lvP (fun i => v (co g i)) (pd g).toNat (pd f - pd g).toNat (fun i => v (co f i)) (pd f - pd g - k).toNat (pd g + k).toNat) ∧ (∀ b : Nat, (∀ j : Nat, (j : Int) ≤ pd f → b ≠ co f j) → b ≠ ta → b ≠ tt → b ≠ tu → v_46 b = v b) ∧ cV dC dI cx LB (va_A (bW (cx 0) LB dd nn ss ll gg (pW cx LP pc_ pd co X)) s.heap.size) s.heap ll (pW cx LP pc_ pd co X) dd_46 nn_46 ss_46 ll_46 gg_46 H locs ∧ lv_has ls 7 [(0, .ref t0), (1, .ref f), (2, .ref g), (3, Iz ((pd f) - (pd g))), (4, .ref (co g (pd g).toNat)), (5, Iz (k)), (6, Iz (i))]) (g := fun ls => F0 m 46 ls []) (fun N_ ce sl H locs ls hI ih_46 => ?_) _ _ _ _ _ _ ⟨_, _, _, _, _, (va_up v_19 ta (v_19 (co f ((pd g) + k).toNat))), 0, rfl, rfl, rfl, hN, (Int.le_refl 0), (by omega), (fun j h => by omega), (fun j _ h => by rw [va_up_ne _ _ (sca f mf _ (by omega))]; exact c1 j h), (by rw [va_up_self]; exact c1 _ (by omega)), (fun b h1 h2 h3 h4 => by rw [va_up_ne _ _ h2]; exact c2 b h1 h2 h3 h4), hV, lv_sub hl [1, 2, 3, 4, 5, 6, 0] rfl⟩
    obtain ⟨dd_46, nn_46, ss_46, ll_46, gg_46, v_46, i, rfl, rfl, rfl, hN, i0, i1, g1, g2, g3, g4, hV, hl⟩ := hI
    refine lv_iload hx hb dX9_leave_46 (lv_at hl 6 rfl) ?_
    refine lv_aload_n hx hb dX9_leave_48 rfl (lv_at hl 2 rfl) ?_
    refine y_getdeg E hK hV mg rfl cf_9_59 dX9_leave_49 ?_
    refine lv_iload hx hb dX9_leave_52 (lv_at hl 5 rfl) ?_
    refine g_iadd hx hb dX9_leave_54 ?_
    refine g_icmp_ge (tgt := 144) hx hb ⟨by omega, by omega⟩ ⟨by omega, by omega⟩ dX9_leave_55 (by decide) (fun c_55 => ?_) (fun c_55 => ?_)
    · skip
      refine g_iinc (k := 5) (z := k) (n := (-1)) (lv' := [(5, Iz (k + (-1))), (0, .ref t0), (1, .ref f), (2, .ref g), (3, Iz ((pd f) - (pd g))), (4, .ref (co g (pd g).toNat)), (6, Iz (i))]) hx hb dX9_leave_144 hl rfl (by decide) rfl (fun ls hl => ?_)
      refine lv_goto (tgt := 19) hx hb dX9_leave_147 (by decide) ?_
      exact ih_19 _ (by omega) _ _ _ _ _ ⟨_, _, _, _, _, v_46, (k + (-1)), rfl, rfl, rfl, hN, (by omega), (by omega), (fun j h => by
                rw [show (pd f - pd g - (k + (-1))).toNat = (pd f - pd g - k).toNat + 1 by omega]
                show v_46 (co f j) = lvStep _ _ ((pd f - pd g).toNat - (pd f - pd g - k).toNat) (lvP (fun i => v (co g i)) (pd g).toNat (pd f - pd g).toNat (fun i => v (co f i)) (pd f - pd g - k).toNat) j
                rw [show (pd f - pd g).toNat - (pd f - pd g - k).toNat = k.toNat by omega]
                by_cases w : (j : Int) < i
                · exact g1 j w
                · unfold lvStep
                  rw [if_neg (by omega)]
                  exact g2 j (by omega) h), (g4), hV, lv_sub hl [1, 2, 3, 4, 5, 0] rfl⟩
    · skip
      refine lv_aload_n hx hb dX9_leave_58 rfl (lv_at hl 0 rfl) ?_
      refine x_get E hK hV (ci := 9) (C := RX9) (T := TX9) (N := 8) rfl w0c_in9 (pW_x hTo) 3 (by decide) rfl cf_9_24 rfl dX9_leave_59 ?_
      refine lv_aload_n hx hb dX9_leave_62 rfl (lv_at hl 1 rfl) ?_
      refine y_getc E hK hV mf cf_9_74 dX9_leave_63 ?_
      refine lv_iload hx hb dX9_leave_66 (lv_at hl 6 rfl) ?_
      refine y_aald hx hb hK hV mf (by omega) (by omega) dX9_leave_68 ?_
      refine lv_aload hx hb dX9_leave_69 (lv_at hl 4 rfl) ?_
      have gG : v_46 (co g (pd g).toNat) = v (co g (pd g).toNat) := g4 _ (fun j h q_ => nfg (hO.2 _ mg _ mf _ _ (by omega) (by omega) q_).1.symm) (sca g mg _ (by omega)) (sct g mg _ (by omega)) (scu g mg _ (by omega))
      have sf71 : ((v_46 (co f (i).toNat)).natAbs : Int) < 1073741824 ^ 80 := by rw [g2 _ (by omega) (by omega)]; exact sF _ (by omega) _ (by omega)
      have sg71 : ((v_46 (co g (pd g).toNat)).natAbs : Int) < 1073741824 ^ 80 := by rw [gG]; exact sG _ (by omega)
      have s71a := num1_le (hN _ (hO.1 f mf _ (by omega))) sf71
      have s71b := num1_le (hN _ (hO.1 g mg _ (by omega))) sg71
      refine c_callv (As := [.ref (co f (i).toNat), .ref (co g (pd g).toNat)]) (rest := []) E (k0_times (v := v_46) (h0 := tt) (a := (co f (i).toNat)) (b := (co g (pd g).toNat)) mtt hN (hO.1 f mf _ (by omega)) (hO.1 g mg _ (by omega)) (Ne.symm (sct f mf _ (by omega))) (Ne.symm (sct g mg _ (by omega))) (by omega)) (cwV 2 hts (cGood cl_X9_114 ci_X0_times cs_X0_times cn_RX0 cc_X0_times) rfl rfl rfl (by decide +kernel) ⟨Nat.le_of_ble_eq_true rfl, Nat.le_of_ble_eq_true rfl⟩) (b_recv hK hV mtt) hK hV hA hR rfl hl.1 (Nat.le_of_ble_eq_true rfl) dX9_leave_71 (fun X71 dd71 nn71 ss71 ll71 gg71 H locs q71 hV hm71 => ?_)
      obtain ⟨e1_, hN⟩ := q71
      obtain rfl := e1_.symm
      have x71 : (va_up v_46 tt (v_46 (co f (i).toNat) * v_46 (co g (pd g).toNat))) tt = lvP (fun i => v (co g i)) (pd g).toNat (pd f - pd g).toNat (fun i => v (co f i)) (pd f - pd g - k).toNat i.toNat * v (co g (pd g).toNat) := by rw [va_up_self, g2 i.toNat (by omega) (by omega), gG]
      refine lv_iload hx hb dX9_leave_74 (lv_at hl 6 rfl) ?_
      refine lv_iload hx hb dX9_leave_76 (lv_at hl 5 rfl) ?_
      refine g_icmp_ge (tgt := 98) hx hb ⟨by omega, by omega⟩ ⟨by omega, by omega⟩ dX9_leave_78 (by decide) (fun c_78 => ?_) (fun c_78 => ?_)
      · skip
        refine lv_aload_n hx hb dX9_leave_98 rfl (lv_at hl 0 rfl) ?_
        refine x_get E hK hV (ci := 9) (C := RX9) (T := TX9) (N := 8) rfl w0c_in9 (pW_x hTo) 4 (by decide) rfl cf_9_27 rfl dX9_leave_99 ?_
        refine lv_aload_n hx hb dX9_leave_102 rfl (lv_at hl 0 rfl) ?_
        refine x_get E hK hV (ci := 9) (C := RX9) (T := TX9) (N := 8) rfl w0c_in9 (pW_x hTo) 0 (by decide) rfl cf_9_12 rfl dX9_leave_103 ?_
        refine lv_aload_n hx hb dX9_leave_106 rfl (lv_at hl 2 rfl) ?_
        refine y_getc E hK hV mg cf_9_74 dX9_leave_107 ?_
        refine lv_iload hx hb dX9_leave_110 (lv_at hl 6 rfl) ?_
        refine lv_iload hx hb dX9_leave_112 (lv_at hl 5 rfl) ?_
        refine g_isub hx hb dX9_leave_114 ?_
        refine y_aald hx hb hK hV mg (by omega) (by omega) dX9_leave_115 ?_
        have e116 : (va_up v_46 tt (v_46 (co f (i).toNat) * v_46 (co g (pd g).toNat))) ta = lvP (fun i => v (co g i)) (pd g).toNat (pd f - pd g).toNat (fun i => v (co f i)) (pd f - pd g - k).toNat (pd g + k).toNat := by rw [va_up_ne _ _ nat_]; exact g3
        have e116b : (va_up v_46 tt (v_46 (co f (i).toNat) * v_46 (co g (pd g).toNat))) (co g (i - k).toNat) = v (co g (i - k).toNat) := by rw [va_up_ne _ _ (sct g mg _ (by omega))]; exact g4 _ (fun j h q_ => nfg (hO.2 _ mg _ mf _ _ (by omega) (by omega) q_).1.symm) (sca g mg _ (by omega)) (sct g mg _ (by omega)) (scu g mg _ (by omega))
        have sf116 : (((va_up v_46 tt (v_46 (co f (i).toNat) * v_46 (co g (pd g).toNat))) ta).natAbs : Int) < 1073741824 ^ 80 := by rw [e116]; exact sF _ (by omega) _ (by omega)
        have sg116 : (((va_up v_46 tt (v_46 (co f (i).toNat) * v_46 (co g (pd g).toNat))) (co g (i - k).toNat)).natAbs : Int) < 1073741824 ^ 80 := by rw [e116b]; exact sG _ (by omega)
        have s116a := num1_le (hN _ mta) sf116
        have s116b := num1_le (hN _ (hO.1 g mg _ (by omega))) sg116
        refine c_callv (As := [.ref ta, .ref (co g (i - k).toNat)]) (rest := []) E (k0_times (v := (va_up v_46 tt (v_46 (co f (i).toNat) * v_46 (co g (pd g).toNat)))) (h0 := tu) (a := ta) (b := (co g (i - k).toNat)) mtu hN mta (hO.1 g mg _ (by omega)) (Ne.symm nau) (Ne.symm (scu g mg _ (by omega))) (by omega)) (cwV 2 hts (cGood cl_X9_114 ci_X0_times cs_X0_times cn_RX0 cc_X0_times) rfl rfl rfl (by decide +kernel) ⟨Nat.le_of_ble_eq_true rfl, Nat.le_of_ble_eq_true rfl⟩) (b_recv hK hV mtu) hK hV hA hR rfl hl.1 (Nat.le_of_ble_eq_true rfl) dX9_leave_116 (fun X116 dd116 nn116 ss116 ll116 gg116 H locs q116 hV hm116 => ?_)
        obtain ⟨e1_, hN⟩ := q116
        obtain rfl := e1_.symm
        refine lv_aload_n hx hb dX9_leave_119 rfl (lv_at hl 1 rfl) ?_
        refine y_getc E hK hV mf cf_9_74 dX9_leave_120 ?_
        refine lv_iload hx hb dX9_leave_123 (lv_at hl 6 rfl) ?_
        refine y_aald hx hb hK hV mf (by omega) (by omega) dX9_leave_125 ?_
        refine lv_aload_n hx hb dX9_leave_126 rfl (lv_at hl 0 rfl) ?_
        refine x_get E hK hV (ci := 9) (C := RX9) (T := TX9) (N := 8) rfl w0c_in9 (pW_x hTo) 3 (by decide) rfl cf_9_24 rfl dX9_leave_127 ?_
        refine lv_aload_n hx hb dX9_leave_130 rfl (lv_at hl 0 rfl) ?_
        refine x_get E hK hV (ci := 9) (C := RX9) (T := TX9) (N := 8) rfl w0c_in9 (pW_x hTo) 4 (by decide) rfl cf_9_27 rfl dX9_leave_131 ?_
        refine lv_iconst (v := Int32.ofInt (-1)) hx hb dX9_leave_134 (by decide) ?_
        have e135 : (va_up (va_up v_46 tt (v_46 (co f (i).toNat) * v_46 (co g (pd g).toNat))) tu ((va_up v_46 tt (v_46 (co f (i).toNat) * v_46 (co g (pd g).toNat))) ta * (va_up v_46 tt (v_46 (co f (i).toNat) * v_46 (co g (pd g).toNat))) (co g (i - k).toNat))) tu = lvP (fun i => v (co g i)) (pd g).toNat (pd f - pd g).toNat (fun i => v (co f i)) (pd f - pd g - k).toNat (pd g + k).toNat * v (co g (i - k).toNat) := by rw [va_up_self, e116, e116b]
        have e135t : (va_up (va_up v_46 tt (v_46 (co f (i).toNat) * v_46 (co g (pd g).toNat))) tu ((va_up v_46 tt (v_46 (co f (i).toNat) * v_46 (co g (pd g).toNat))) ta * (va_up v_46 tt (v_46 (co f (i).toNat) * v_46 (co g (pd g).toNat))) (co g (i - k).toNat))) tt = lvP (fun i => v (co g i)) (pd g).toNat (pd f - pd g).toNat (fun i => v (co f i)) (pd f - pd g - k).toNat i.toNat * v (co g (pd g).toNat) := by rw [va_up_ne _ _ ntu]; exact x71
        have s135a := num1_le (hN _ mtt) (show (((va_up (va_up v_46 tt (v_46 (co f (i).toNat) * v_46 (co g (pd g).toNat))) tu ((va_up v_46 tt (v_46 (co f (i).toNat) * v_46 (co g (pd g).toNat))) ta * (va_up v_46 tt (v_46 (co f (i).toNat) * v_46 (co g (pd g).toNat))) (co g (i - k).toNat))) tt).natAbs : Int) < 1073741824 ^ (80 + 80) by rw [va_up_ne _ _ ntu, va_up_self]; exact sz_mul sf71 sg71)
        have s135b := num1_le (hN _ mtu) (show (((va_up (va_up v_46 tt (v_46 (co f (i).toNat) * v_46 (co g (pd g).toNat))) tu ((va_up v_46 tt (v_46 (co f (i).toNat) * v_46 (co g (pd g).toNat))) ta * (va_up v_46 tt (v_46 (co f (i).toNat) * v_46 (co g (pd g).toNat))) (co g (i - k).toNat))) tu).natAbs : Int) < 1073741824 ^ (80 + 80) by rw [va_up_self]; exact sz_mul sf116 sg116)
        refine c_callv (As := [.ref tt, .ref tu, Iz ((-1))]) (rest := []) E (k0_join (v := (va_up (va_up v_46 tt (v_46 (co f (i).toNat) * v_46 (co g (pd g).toNat))) tu ((va_up v_46 tt (v_46 (co f (i).toNat) * v_46 (co g (pd g).toNat))) ta * (va_up v_46 tt (v_46 (co f (i).toNat) * v_46 (co g (pd g).toNat))) (co g (i - k).toNat)))) (h0 := (co f (i).toNat)) (a := tt) (b := tu) (fac := -1) (hO.1 f mf _ (by omega)) hN mtt mtu (sct f mf _ (by omega)) (scu f mf _ (by omega)) (by omega) (by omega) ⟨by decide, by decide⟩) (cwV 3 hts (cGood cl_X9_118 ci_X0_join cs_X0_join cn_RX0 cc_X0_join) rfl rfl rfl (by decide +kernel) ⟨Nat.le_of_ble_eq_true rfl, Nat.le_of_ble_eq_true rfl⟩) (b_recv hK hV (hO.1 f mf _ (by omega))) hK hV hA hR rfl hl.1 (Nat.le_of_ble_eq_true rfl) dX9_leave_135 (fun X135 dd135 nn135 ss135 ll135 gg135 H locs q135 hV hm135 => ?_)
        obtain ⟨e1_, hN⟩ := q135
        obtain rfl := e1_.symm
        refine g_iinc (k := 6) (z := i) (n := (1)) (lv' := [(6, Iz (i + 1)), (0, .ref t0), (1, .ref f), (2, .ref g), (3, Iz ((pd f) - (pd g))), (4, .ref (co g (pd g).toNat)), (5, Iz (k))]) hx hb dX9_leave_138 hl rfl (by decide) rfl (fun ls hl => ?_)
        refine lv_goto (tgt := 46) hx hb dX9_leave_141 (by decide) ?_
        exact ih_46 _ (by omega) _ _ _ _ _ ⟨_, _, _, _, _, (va_up (va_up (va_up v_46 tt (v_46 (co f (i).toNat) * v_46 (co g (pd g).toNat))) tu ((va_up v_46 tt (v_46 (co f (i).toNat) * v_46 (co g (pd g).toNat))) ta * (va_up v_46 tt (v_46 (co f (i).toNat) * v_46 (co g (pd g).toNat))) (co g (i - k).toNat))) (co f (i).toNat) ((va_up (va_up v_46 tt (v_46 (co f (i).toNat) * v_46 (co g (pd g).toNat))) tu ((va_up v_46 tt (v_46 (co f (i).toNat) * v_46 (co g (pd g).toNat))) ta * (va_up v_46 tt (v_46 (co f (i).toNat) * v_46 (co g (pd g).toNat))) (co g (i - k).toNat))) tt + (if (-1 : Int) < 0 then -((va_up (va_up v_46 tt (v_46 (co f (i).toNat) * v_46 (co g (pd g).toNat))) tu ((va_up v_46 tt (v_46 (co f (i).toNat) * v_46 (co g (pd g).toNat))) ta * (va_up v_46 tt (v_46 (co f (i).toNat) * v_46 (co g (pd g).toNat))) (co g (i - k).toNat))) tu) else (va_up (va_up v_46 tt (v_46 (co f (i).toNat) * v_46 (co g (pd g).toNat))) tu ((va_up v_46 tt (v_46 (co f (i).toNat) * v_46 (co g (pd g).toNat))) ta * (va_up v_46 tt (v_46 (co f (i).toNat) * v_46 (co g (pd g).toNat))) (co g (i - k).toNat))) tu))), (i + 1), rfl, rfl, rfl, hN, (by omega), (by omega), (fun j h => by
                  by_cases w : j = i.toNat
                  · rw [w]
                    unfold lvStep
                    rw [if_pos (show i.toNat < (pd g).toNat + k.toNat by omega)]
                    first
                    | (rw [va_up_self, x71, if_neg (by omega), Int.sub_zero]; done)
                    | (rw [va_up_self, e135t, e135, if_pos (by decide), if_pos (by omega), show (pd g).toNat + k.toNat = (pd g + k).toNat by omega, show i.toNat - k.toNat = (i - k).toNat by omega]; rfl)
                  · first
                    | (rw [va_up_ne _ _ (fun q_ => w (hO.2 _ mf _ mf _ _ (by omega) (by omega) q_).2), va_up_ne _ _ (sct f mf _ (by omega))]; exact g1 j (by omega))
                    | (rw [va_up_ne _ _ (fun q_ => w (hO.2 _ mf _ mf _ _ (by omega) (by omega) q_).2), va_up_ne _ _ (scu f mf _ (by omega)), va_up_ne _ _ (sct f mf _ (by omega))]; exact g1 j (by omega))), (fun j h h2 => by
                  have w : co f j ≠ co f i.toNat := fun q_ => by have := (hO.2 _ mf _ mf _ _ (by omega) (by omega) q_).2; omega
                  first
                  | (rw [va_up_ne _ _ w, va_up_ne _ _ (sct f mf _ (by omega))]; exact g2 j (by omega) h2)
                  | (rw [va_up_ne _ _ w, va_up_ne _ _ (scu f mf _ (by omega)), va_up_ne _ _ (sct f mf _ (by omega))]; exact g2 j (by omega) h2)), (by
                  first
                  | (rw [va_up_ne _ _ (Ne.symm (sca f mf _ (by omega))), va_up_ne _ _ nat_]; exact g3)
                  | (rw [va_up_ne _ _ (Ne.symm (sca f mf _ (by omega))), va_up_ne _ _ nau, va_up_ne _ _ nat_]; exact g3)), (fun b h1 h2 h3 h4 => by
                  first
                  | (rw [va_up_ne _ _ (h1 _ (by omega)), va_up_ne _ _ h3]; exact g4 b h1 h2 h3 h4)
                  | (rw [va_up_ne _ _ (h1 _ (by omega)), va_up_ne _ _ h4, va_up_ne _ _ h3]; exact g4 b h1 h2 h3 h4)), hV, lv_sub hl [1, 2, 3, 4, 5, 6, 0] rfl⟩
      · skip
        refine lv_aload_n hx hb dX9_leave_81 rfl (lv_at hl 1 rfl) ?_
        refine y_getc E hK hV mf cf_9_74 dX9_leave_82 ?_
        refine lv_iload hx hb dX9_leave_85 (lv_at hl 6 rfl) ?_
        refine y_aald hx hb hK hV mf (by omega) (by omega) dX9_leave_87 ?_
        refine lv_aload_n hx hb dX9_leave_88 rfl (lv_at hl 0 rfl) ?_
        refine x_get E hK hV (ci := 9) (C := RX9) (T := TX9) (N := 8) rfl w0c_in9 (pW_x hTo) 3 (by decide) rfl cf_9_24 rfl dX9_leave_89 ?_
        have s92 := num1_le (hN _ mtt) (show (((va_up v_46 tt (v_46 (co f (i).toNat) * v_46 (co g (pd g).toNat))) tt).natAbs : Int) < 1073741824 ^ (80 + 80) by rw [va_up_self]; exact sz_mul sf71 sg71)
        refine c_callv (As := [.ref tt]) (rest := []) E (k0_copy (v := (va_up v_46 tt (v_46 (co f (i).toNat) * v_46 (co g (pd g).toNat)))) (h0 := (co f (i).toNat)) (a := tt) (hO.1 f mf _ (by omega)) hN mtt (sct f mf _ (by omega)) (by omega)) (cwV 1 hts (cGood cl_X9_66 ci_X0_copy cs_X0_copy cn_RX0 cc_X0_copy) rfl rfl rfl (by decide +kernel) ⟨Nat.le_of_ble_eq_true rfl, Nat.le_of_ble_eq_true rfl⟩) (b_recv hK hV (hO.1 f mf _ (by omega))) hK hV hA hR rfl hl.1 (Nat.le_of_ble_eq_true rfl) dX9_leave_92 (fun X92 dd92 nn92 ss92 ll92 gg92 H locs q92 hV hm92 => ?_)
        obtain ⟨e1_, hN⟩ := q92
        obtain rfl := e1_.symm
        refine lv_goto (tgt := 138) hx hb dX9_leave_95 (by decide) ?_
        refine g_iinc (k := 6) (z := i) (n := (1)) (lv' := [(6, Iz (i + 1)), (0, .ref t0), (1, .ref f), (2, .ref g), (3, Iz ((pd f) - (pd g))), (4, .ref (co g (pd g).toNat)), (5, Iz (k))]) hx hb dX9_leave_138 hl rfl (by decide) rfl (fun ls hl => ?_)
        refine lv_goto (tgt := 46) hx hb dX9_leave_141 (by decide) ?_
        exact ih_46 _ (by omega) _ _ _ _ _ ⟨_, _, _, _, _, (va_up (va_up v_46 tt (v_46 (co f (i).toNat) * v_46 (co g (pd g).toNat))) (co f (i).toNat) ((va_up v_46 tt (v_46 (co f (i).toNat) * v_46 (co g (pd g).toNat))) tt)), (i + 1), rfl, rfl, rfl, hN, (by omega), (by omega), (fun j h => by
                  by_cases w : j = i.toNat
                  · rw [w]
                    unfold lvStep
                    rw [if_pos (show i.toNat < (pd g).toNat + k.toNat by omega)]
                    first
                    | (rw [va_up_self, x71, if_neg (by omega), Int.sub_zero]; done)
                    | (rw [va_up_self, e135t, e135, if_pos (by decide), if_pos (by omega), show (pd g).toNat + k.toNat = (pd g + k).toNat by omega, show i.toNat - k.toNat = (i - k).toNat by omega]; rfl)
                  · first
                    | (rw [va_up_ne _ _ (fun q_ => w (hO.2 _ mf _ mf _ _ (by omega) (by omega) q_).2), va_up_ne _ _ (sct f mf _ (by omega))]; exact g1 j (by omega))
                    | (rw [va_up_ne _ _ (fun q_ => w (hO.2 _ mf _ mf _ _ (by omega) (by omega) q_).2), va_up_ne _ _ (scu f mf _ (by omega)), va_up_ne _ _ (sct f mf _ (by omega))]; exact g1 j (by omega))), (fun j h h2 => by
                  have w : co f j ≠ co f i.toNat := fun q_ => by have := (hO.2 _ mf _ mf _ _ (by omega) (by omega) q_).2; omega
                  first
                  | (rw [va_up_ne _ _ w, va_up_ne _ _ (sct f mf _ (by omega))]; exact g2 j (by omega) h2)
                  | (rw [va_up_ne _ _ w, va_up_ne _ _ (scu f mf _ (by omega)), va_up_ne _ _ (sct f mf _ (by omega))]; exact g2 j (by omega) h2)), (by
                  first
                  | (rw [va_up_ne _ _ (Ne.symm (sca f mf _ (by omega))), va_up_ne _ _ nat_]; exact g3)
                  | (rw [va_up_ne _ _ (Ne.symm (sca f mf _ (by omega))), va_up_ne _ _ nau, va_up_ne _ _ nat_]; exact g3)), (fun b h1 h2 h3 h4 => by
                  first
                  | (rw [va_up_ne _ _ (h1 _ (by omega)), va_up_ne _ _ h3]; exact g4 b h1 h2 h3 h4)
                  | (rw [va_up_ne _ _ (h1 _ (by omega)), va_up_ne _ _ h4, va_up_ne _ _ h3]; exact g4 b h1 h2 h3 h4)), hV, lv_sub hl [1, 2, 3, 4, 5, 6, 0] rfl⟩
theorem p2_lt {a b : Nat} (h : a < b) : (2 : Int) ^ a < 2 ^ b := by
  obtain ⟨d, hd⟩ := Nat.exists_eq_add_of_le (Nat.succ_le_of_lt h)
  rw [hd, Int.pow_add, Int.pow_succ]
  have h1 := i_p2 d
  have h2 := i_p2 a
  have h9 : (2 : Int) ^ a * 2 * 1 ≤ 2 ^ a * 2 * 2 ^ d := Int.mul_le_mul_of_nonneg_left (by omega) (by omega)
  omega
set_option maxHeartbeats 4000000 in
set_option maxRecDepth 100000 in
theorem k9_eval {l : Launch} {dC : Nat → ClassId} {dI : Nat → Nat → Nat} {cx : Nat → Nat} {LB : List Nat} {LP : List Nat} {pc_ : Nat → Nat} {pd : Nat → Int} {co : Nat → Nat → Nat} {X : va_W} {dd : Nat → Nat} {nn ss : Nat → Int} {ll : Nat → Nat} {gg : Nat → Int → Int} {H0 : Heap} {v : Nat → Int} {f x ou : Nat} {ex_ : Int} {t0 ta tb tq tt tu tw tm : Nat} {tf : Int} (mf : f ∈ LP) (hO : pOK LB LP co) (hN : cR LB nn ss ll gg v) (hTo : (t0, (.inr (9, [.ref ta, .ref tb, .ref tq, .ref tt, .ref tu, .ref tw, .ref tm, Iz tf]) : va_E)) ∈ X) (hS : tOK LB LP co ta tb tq tt tu) (mx : x ∈ LB) (mo : ou ∈ LB) (nox : ou ≠ x) (ntx : tt ≠ x) (nto : tt ≠ ou) (nuo : tu ≠ ou) (nux : tu ≠ x) (sco : ∀ p ∈ LP, ∀ i : Nat, i < 13 → co p i ≠ ou) (d0 : 0 ≤ pd f) (d2 : pd f ≤ 12) (e0 : 0 ≤ ex_) (e1 : ex_ ≤ 250) (sE : ∀ m : Nat, m ≤ (pd f).toNat → ((evP (fun i => v (co f i)) (v x) ex_ (pd f).toNat m).natAbs : Int) < 1073741824 ^ 80) (sX : ((v x).natAbs : Int) < 1073741824 ^ 80) (sF : ∀ i : Nat, (i : Int) ≤ pd f → ((v (co f i)).natAbs : Int) < 1073741824 ^ 80) : Met l yX9_eval (Cond.code yX9_eval cX9_eval 7 none :: w0c) (cRm 3 90 LB ll) (cPc dC dI cx LB (pW cx LP pc_ pd co X) dd nn ss ll gg H0 [.ref t0, .ref f, .ref x, .null, Iz (ex_), .ref ou]) (cQv dC dI cx LB (va_A (bW (cx 0) LB dd nn ss ll gg (pW cx LP pc_ pd co X)) H0.size) ll H0 (fun X' dd' nn' ss' ll' gg' => ∃ v' : Nat → Int, X' = (pW cx LP pc_ pd co X) ∧ cR LB nn' ss' ll' gg' v' ∧ v' ou = evP (fun i => v (co f i)) (v x) ex_ (pd f).toNat (pd f).toNat ∧ ∀ b : Nat, b ≠ ou → b ≠ tt → b ≠ tu → v' b = v b)) (cMc LB ll) (2 * cMc LB ll) (va_A (bW (cx 0) LB dd nn ss ll gg (pW cx LP pc_ pd co X)) H0.size) := by
  refine Met.ofW (cc := cX9_eval) (maxL := 7) (ret := none) (by decide) rfl ?_
  intro p e s m args below meth c s₁ B hml hv
  obtain ⟨rfl, hH0, hP, hK, hD0, hC0⟩ := hv
  have hx := B.exec
  have hb := B.bytes
  have hr := B.returns
  have hts := atoms_spec (ws := Cond.code yX9_eval cX9_eval 7 none :: w0c) B.pre
  have hown : s.vm.findClass RX9 = some m.cls := findClass_of_methodNamed B.named
  have hlocks := B.notSynchronized
  have E : CallFix p m c cX9_eval 7 s _ (Cond.code yX9_eval cX9_eval 7 none :: w0c) RX9 := ⟨hx, hb, hml, hown, hts⟩
  subst hH0
  have hD := va_D.self (sz := s.heap.size) hD0
  have hA : ∀ q : Nat, s.heap.size ≤ q → va_A (bW (cx 0) LB dd nn ss ll gg (pW cx LP pc_ pd co X)) s.heap.size q := fun q h => Or.inr h
  have hV : cV dC dI cx LB (va_A (bW (cx 0) LB dd nn ss ll gg (pW cx LP pc_ pd co X)) s.heap.size) s.heap ll (pW cx LP pc_ pd co X) dd nn ss ll gg s.heap [] := ⟨hP, hD, va_S.rf, fun _ _ => Nat.le_refl _, hC0⟩
  have hR : (headSpec (Cond.code yX9_eval cX9_eval 7 none :: w0c) (cRm 3 90 LB ll)).room.cells = cMc LB ll ∧ (headSpec (Cond.code yX9_eval cX9_eval 7 none :: w0c) (cRm 3 90 LB ll)).room.slots = 2 * cMc LB ll := ⟨rfl, rfl⟩
  refine W.widen (k := cP LB ll - cP LB ll) (n := 2 * (cP LB ll - cP LB ll)) (Nat.zero_le _) (Nat.zero_le _) ?_
  have hl := lv_entry ([.ref t0, .ref f, .ref x, .null, Iz (ex_), .ref ou]) (n := 7) (Nat.le_of_ble_eq_true rfl)
  rw [lg_entry_eq]
  generalize (lg_sl ([.ref t0, .ref f, .ref x, .null, Iz (ex_), .ref ou]) ++ List.replicate (7 - (lg_sl ([.ref t0, .ref f, .ref x, .null, Iz (ex_), .ref ou])).length) Slot.unset).toArray = ls at hl ⊢
  have hl : lv_has ls 7 [(0, .ref t0), (1, .ref f), (2, .ref x), (3, .null), (4, Iz (ex_)), (5, .ref ou)] := hl
  obtain ⟨⟨mta, mtb, mtq, mtt, mtu⟩, ⟨nab, naq, nat_, nau⟩, ⟨nbq, nbt, nbu⟩, ⟨nqt, nqu⟩, ntu, scA⟩ := id hS
  have sca : ∀ p ∈ LP, ∀ i : Nat, i < 13 → co p i ≠ ta := fun p h i w => (scA p h i w).1
  have sct : ∀ p ∈ LP, ∀ i : Nat, i < 13 → co p i ≠ tt := fun p h i w => (scA p h i w).2.2.2.1
  have scu : ∀ p ∈ LP, ∀ i : Nat, i < 13 → co p i ≠ tu := fun p h i w => (scA p h i w).2.2.2.2
  refine lv_aload_n hx hb dX9_eval_0 rfl (lv_at hl 1 rfl) ?_
  refine y_getdeg E hK hV mf rfl cf_9_59 dX9_eval_1 ?_
  refine g_if_ge (tgt := 13) hx hb ⟨by omega, by omega⟩ dX9_eval_4 (by decide) (fun c_4 => ?_) (fun c_4 => ?_)
  · skip
    refine lv_aload hx hb dX9_eval_13 (lv_at hl 5 rfl) ?_
    refine lv_aload_n hx hb dX9_eval_15 rfl (lv_at hl 1 rfl) ?_
    refine c_callr (As := []) (rest := [.ref ou]) E (k4_lead (p0 := f) mf (by omega) (by omega)) (cwV 0 hts (cGood cl_X9_62 ci_X4_lead cs_X4_lead cn_RX4 cc_X4_lead) rfl rfl rfl (by decide +kernel) ⟨Nat.le_of_ble_eq_true rfl, Nat.le_of_ble_eq_true rfl⟩) (y_recv hK hV mf) hK hV hA hR rfl hl.1 (Nat.le_of_ble_eq_true rfl) dX9_eval_16 (fun a16 X16 dd16 nn16 ss16 ll16 gg16 H locs q16 hV hm16 => ?_)
    obtain ⟨e1_, e2_, e3_, e4_, e5_, e6_, q16⟩ := q16
    obtain rfl := e1_.symm
    obtain rfl := e2_.symm
    obtain rfl := e3_.symm
    obtain rfl := e4_.symm
    obtain rfl := e5_.symm
    obtain rfl := e6_.symm
    subst q16
    have s19 := num1_le (hN _ (hO.1 f mf _ (by omega))) (show ((v (co f (pd f).toNat)).natAbs : Int) < 1073741824 ^ 80 from sF _ (by omega))
    refine c_callv (As := [.ref (co f (pd f).toNat)]) (rest := []) E (k0_copy (v := v) (h0 := ou) (a := (co f (pd f).toNat)) mo hN (hO.1 f mf _ (by omega)) (Ne.symm (sco f mf _ (by omega))) (by omega)) (cwV 1 hts (cGood cl_X9_66 ci_X0_copy cs_X0_copy cn_RX0 cc_X0_copy) rfl rfl rfl (by decide +kernel) ⟨Nat.le_of_ble_eq_true rfl, Nat.le_of_ble_eq_true rfl⟩) (b_recv hK hV mo) hK hV hA hR rfl hl.1 (Nat.le_of_ble_eq_true rfl) dX9_eval_19 (fun X19 dd19 nn19 ss19 ll19 gg19 H locs q19 hV hm19 => ?_)
    obtain ⟨e1_, hN⟩ := q19
    obtain rfl := e1_.symm
    refine lv_aload_nN hx hb dX9_eval_22 rfl (lv_at hl 3 rfl) ?_
    refine lv_ifnullN (tgt := 34) hx hb dX9_eval_23 (by decide) ?_
    refine lv_aload_n hx hb dX9_eval_34 rfl (lv_at hl 1 rfl) ?_
    refine y_getdeg E hK hV mf rfl cf_9_59 dX9_eval_35 ?_
    refine lv_iconst (v := Int32.ofInt (1)) hx hb dX9_eval_38 (by decide) ?_
    refine g_isub hx hb dX9_eval_39 ?_
    refine lv_istore (lv' := [(6, Iz ((pd f) - 1)), (0, .ref t0), (1, .ref f), (2, .ref x), (3, .null), (4, Iz (ex_)), (5, .ref ou)]) hx hb dX9_eval_40 hl (by decide) rfl (fun ls hl => ?_)
    refine r_loop2 (P := fun N_ ce sl H locs ls => ∃ dd_42 : Nat → Nat, ∃ nn_42 ss_42 : Nat → Int, ∃ ll_42 : Nat → Nat, ∃ gg_42 : Nat → Int → Int, ∃ v_42 : Nat → Int, ∃ i : Int, N_ = (i + 1).toNat ∧ ce = cP LB ll_42 - cP LB ll ∧ sl = 2 * (cP LB ll_42 - cP LB ll) ∧ cR LB nn_42 ss_42 ll_42 gg_42 v_42 ∧ (-1 ≤ i) ∧ (i ≤ pd f - 1) ∧ (v_42 ou = evP (fun i => v (co f i)) (v x) ex_ (pd f).toNat (pd f - 1 - i).toNat) ∧ (∀ b : Nat, b ≠ ou → b ≠ tt → b ≠ tu → v_42 b = v b) ∧ cV dC dI cx LB (va_A (bW (cx 0) LB dd nn ss ll gg (pW cx LP pc_ pd co X)) s.heap.size) s.heap ll (pW cx LP pc_ pd co X) dd_42 nn_42 ss_42 ll_42 gg_42 H locs ∧ lv_has ls 7 [(0, .ref t0), (1, .ref f), (2, .ref x), (3, .null), (4, Iz (ex_)), (5, .ref ou), (6, Iz (i))]) (g := fun ls => F0 m 42 ls []) (fun N_ ce sl H locs ls hI ih_42 => ?_) _ _ _ _ _ _ ⟨_, _, _, _, _, (va_up v ou (v (co f (pd f).toNat))), ((pd f) - 1), rfl, rfl, rfl, hN, (by omega), (Int.le_refl _), (by rw [va_up_self, show (pd f - 1 - (pd f - 1)).toNat = 0 by omega]; rfl), (fun b h1 _ _ => va_up_ne _ _ h1), hV, lv_sub hl [1, 2, 3, 4, 5, 6, 0] rfl⟩
    obtain ⟨dd_42, nn_42, ss_42, ll_42, gg_42, v_42, i, rfl, rfl, rfl, hN, i0, i1, c1, c2, hV, hl⟩ := hI
    refine lv_iload hx hb dX9_eval_42 (lv_at hl 6 rfl) ?_
    refine g_if_lt (tgt := 149) hx hb ⟨by omega, by omega⟩ dX9_eval_44 (by decide) (fun c_44 => ?_) (fun c_44 => ?_)
    · skip
      have hpost : ∃ v' : Nat → Int, (pW cx LP pc_ pd co X) = (pW cx LP pc_ pd co X) ∧ cR LB nn_42 ss_42 ll_42 gg_42 v' ∧ v' ou = evP (fun i => v (co f i)) (v x) ex_ (pd f).toNat (pd f).toNat ∧ ∀ b : Nat, b ≠ ou → b ≠ tt → b ≠ tu → v' b = v b := ⟨_, rfl, hN, by rw [c1, show (pd f - 1 - i).toNat = (pd f).toNat by omega], c2⟩
      exact c_vret hx hb hr hK hV hpost dX9_eval_149 hlocks
    · skip
      refine lv_aload_n hx hb dX9_eval_47 rfl (lv_at hl 0 rfl) ?_
      refine x_get E hK hV (ci := 9) (C := RX9) (T := TX9) (N := 8) rfl w0c_in9 (pW_x hTo) 3 (by decide) rfl cf_9_24 rfl dX9_eval_48 ?_
      refine lv_aload hx hb dX9_eval_51 (lv_at hl 5 rfl) ?_
      refine lv_aload_n hx hb dX9_eval_53 rfl (lv_at hl 2 rfl) ?_
      have ex54 : v_42 x = v x := c2 _ (Ne.symm nox) (Ne.symm ntx) (Ne.symm nux)
      have sf54 : ((v_42 ou).natAbs : Int) < 1073741824 ^ 80 := by rw [c1]; exact sE _ (by omega)
      have sg54 : ((v_42 x).natAbs : Int) < 1073741824 ^ 80 := by rw [ex54]; exact sX
      have s54a := num1_le (hN _ mo) sf54
      have s54b := num1_le (hN _ mx) sg54
      refine c_callv (As := [.ref ou, .ref x]) (rest := []) E (k0_times (v := v_42) (h0 := tt) (a := ou) (b := x) mtt hN mo mx nto ntx (by omega)) (cwV 2 hts (cGood cl_X9_114 ci_X0_times cs_X0_times cn_RX0 cc_X0_times) rfl rfl rfl (by decide +kernel) ⟨Nat.le_of_ble_eq_true rfl, Nat.le_of_ble_eq_true rfl⟩) (b_recv hK hV mtt) hK hV hA hR rfl hl.1 (Nat.le_of_ble_eq_true rfl) dX9_eval_54 (fun X54 dd54 nn54 ss54 ll54 gg54 H locs q54 hV hm54 => ?_)
      obtain ⟨e1_, hN⟩ := q54
      obtain rfl := e1_.symm
      refine lv_aload_nN hx hb dX9_eval_57 rfl (lv_at hl 3 rfl) ?_
      refine lv_ifnonnullN hx hb dX9_eval_58 ?_
      refine lv_aload_n hx hb dX9_eval_61 rfl (lv_at hl 0 rfl) ?_
      refine x_get E hK hV (ci := 9) (C := RX9) (T := TX9) (N := 8) rfl w0c_in9 (pW_x hTo) 4 (by decide) rfl cf_9_27 rfl dX9_eval_62 ?_
      refine lv_aload_n hx hb dX9_eval_65 rfl (lv_at hl 1 rfl) ?_
      refine y_getc E hK hV mf cf_9_74 dX9_eval_66 ?_
      refine lv_iload hx hb dX9_eval_69 (lv_at hl 6 rfl) ?_
      refine y_aald hx hb hK hV mf (by omega) (by omega) dX9_eval_71 ?_
      refine lv_iload hx hb dX9_eval_72 (lv_at hl 4 rfl) ?_
      refine lv_aload_n hx hb dX9_eval_74 rfl (lv_at hl 1 rfl) ?_
      refine y_getdeg E hK hV mf rfl cf_9_59 dX9_eval_75 ?_
      refine lv_iload hx hb dX9_eval_78 (lv_at hl 6 rfl) ?_
      refine g_isub hx hb dX9_eval_80 ?_
      refine g_imul hx hb dX9_eval_81 ?_
      have kk0 : 0 ≤ ex_ * (pd f - i) := Int.mul_nonneg e0 (by omega)
      have kk1 : ex_ * (pd f - i) ≤ 250 * 12 := Int.mul_le_mul e1 (by omega) (by omega) (by decide)
      have ec82 : (va_up v_42 tt (v_42 ou * v_42 x)) (co f (i).toNat) = v (co f (i).toNat) := by rw [va_up_ne _ _ (sct f mf _ (by omega))]; exact c2 _ (sco f mf _ (by omega)) (sct f mf _ (by omega)) (scu f mf _ (by omega))
      have sf82 : (((va_up v_42 tt (v_42 ou * v_42 x)) (co f (i).toNat)).natAbs : Int) < 1073741824 ^ 80 := by rw [ec82]; exact sF _ (by omega)
      have s82 := num1_le (hN _ (hO.1 f mf _ (by omega))) sf82
      refine c_callv (As := [.ref (co f (i).toNat), Iz (ex_ * ((pd f) - i))]) (rest := []) E (k0_raise (v := (va_up v_42 tt (v_42 ou * v_42 x))) (h0 := tu) (a := (co f (i).toNat)) (kk := ex_ * (pd f - i)) mtu hN (hO.1 f mf _ (by omega)) (Ne.symm (scu f mf _ (by omega))) kk0 (by omega)) (cwV 2 hts (cGood cl_X9_129 ci_X0_raise cs_X0_raise cn_RX0 cc_X0_raise) rfl rfl rfl (by decide +kernel) ⟨Nat.le_of_ble_eq_true rfl, Nat.le_of_ble_eq_true rfl⟩) (b_recv hK hV mtu) hK hV hA hR rfl hl.1 (Nat.le_of_ble_eq_true rfl) dX9_eval_82 (fun X82 dd82 nn82 ss82 ll82 gg82 H locs q82 hV hm82 => ?_)
      obtain ⟨e1_, hN⟩ := q82
      obtain rfl := e1_.symm
      refine lv_goto (tgt := 129) hx hb dX9_eval_85 (by decide) ?_
      refine lv_aload hx hb dX9_eval_129 (lv_at hl 5 rfl) ?_
      refine lv_aload_n hx hb dX9_eval_131 rfl (lv_at hl 0 rfl) ?_
      refine x_get E hK hV (ci := 9) (C := RX9) (T := TX9) (N := 8) rfl w0c_in9 (pW_x hTo) 3 (by decide) rfl cf_9_24 rfl dX9_eval_132 ?_
      refine lv_aload_n hx hb dX9_eval_135 rfl (lv_at hl 0 rfl) ?_
      refine x_get E hK hV (ci := 9) (C := RX9) (T := TX9) (N := 8) rfl w0c_in9 (pW_x hTo) 4 (by decide) rfl cf_9_27 rfl dX9_eval_136 ?_
      refine lv_iconst (v := Int32.ofInt (1)) hx hb dX9_eval_139 (by decide) ?_
      have et140 : (va_up (va_up v_42 tt (v_42 ou * v_42 x)) tu ((va_up v_42 tt (v_42 ou * v_42 x)) (co f (i).toNat) * 2 ^ (ex_ * (pd f - i)).toNat)) tt = v_42 ou * v_42 x := by rw [va_up_ne _ _ ntu, va_up_self]
      have eu140 : (va_up (va_up v_42 tt (v_42 ou * v_42 x)) tu ((va_up v_42 tt (v_42 ou * v_42 x)) (co f (i).toNat) * 2 ^ (ex_ * (pd f - i)).toNat)) tu = v (co f i.toNat) * 2 ^ (ex_ * (pd f - i)).toNat := by rw [va_up_self, ec82]
      have s140a := num1_le (hN _ mtt) (show (((va_up (va_up v_42 tt (v_42 ou * v_42 x)) tu ((va_up v_42 tt (v_42 ou * v_42 x)) (co f (i).toNat) * 2 ^ (ex_ * (pd f - i)).toNat)) tt).natAbs : Int) < 1073741824 ^ (80 + 80) by rw [et140]; exact sz_mul sf54 sg54)
      have p140 : (((2 : Int) ^ (ex_ * (pd f - i)).toNat).natAbs : Int) < 1073741824 ^ 101 := by
        have e9 : (((2 : Int) ^ (ex_ * (pd f - i)).toNat).natAbs : Int) = 2 ^ (ex_ * (pd f - i)).toNat := by have := i_p2 (ex_ * (pd f - i)).toNat; omega
        rw [e9, p30]
        exact p2_lt (by omega)
      have s140b := num1_le (hN _ mtu) (show (((va_up (va_up v_42 tt (v_42 ou * v_42 x)) tu ((va_up v_42 tt (v_42 ou * v_42 x)) (co f (i).toNat) * 2 ^ (ex_ * (pd f - i)).toNat)) tu).natAbs : Int) < 1073741824 ^ (80 + 101) by rw [eu140, ← ec82]; exact sz_mul sf82 p140)
      refine c_callv (As := [.ref tt, .ref tu, Iz (1)]) (rest := []) E (k0_join (v := (va_up (va_up v_42 tt (v_42 ou * v_42 x)) tu ((va_up v_42 tt (v_42 ou * v_42 x)) (co f (i).toNat) * 2 ^ (ex_ * (pd f - i)).toNat))) (h0 := ou) (a := tt) (b := tu) (fac := 1) mo hN mtt mtu (Ne.symm nto) (Ne.symm nuo) (by omega) (by omega) ⟨by decide, by decide⟩) (cwV 3 hts (cGood cl_X9_118 ci_X0_join cs_X0_join cn_RX0 cc_X0_join) rfl rfl rfl (by decide +kernel) ⟨Nat.le_of_ble_eq_true rfl, Nat.le_of_ble_eq_true rfl⟩) (b_recv hK hV mo) hK hV hA hR rfl hl.1 (Nat.le_of_ble_eq_true rfl) dX9_eval_140 (fun X140 dd140 nn140 ss140 ll140 gg140 H locs q140 hV hm140 => ?_)
      obtain ⟨e1_, hN⟩ := q140
      obtain rfl := e1_.symm
      refine g_iinc (k := 6) (z := i) (n := (-1)) (lv' := [(6, Iz (i + (-1))), (0, .ref t0), (1, .ref f), (2, .ref x), (3, .null), (4, Iz (ex_)), (5, .ref ou)]) hx hb dX9_eval_143 hl rfl (by decide) rfl (fun ls hl => ?_)
      refine lv_goto (tgt := 42) hx hb dX9_eval_146 (by decide) ?_
      exact ih_42 _ (by omega) _ _ _ _ _ ⟨_, _, _, _, _, (va_up (va_up (va_up v_42 tt (v_42 ou * v_42 x)) tu ((va_up v_42 tt (v_42 ou * v_42 x)) (co f (i).toNat) * 2 ^ (ex_ * (pd f - i)).toNat)) ou ((va_up (va_up v_42 tt (v_42 ou * v_42 x)) tu ((va_up v_42 tt (v_42 ou * v_42 x)) (co f (i).toNat) * 2 ^ (ex_ * (pd f - i)).toNat)) tt + (if (1 : Int) < 0 then -((va_up (va_up v_42 tt (v_42 ou * v_42 x)) tu ((va_up v_42 tt (v_42 ou * v_42 x)) (co f (i).toNat) * 2 ^ (ex_ * (pd f - i)).toNat)) tu) else (va_up (va_up v_42 tt (v_42 ou * v_42 x)) tu ((va_up v_42 tt (v_42 ou * v_42 x)) (co f (i).toNat) * 2 ^ (ex_ * (pd f - i)).toNat)) tu))), (i + (-1)), rfl, rfl, rfl, hN, (by omega), (by omega), (by
                rw [va_up_self, et140, eu140, if_neg (by decide), ex54, c1, show (pd f - 1 - (i + (-1))).toNat = (pd f - 1 - i).toNat + 1 by omega]
                show _ = evP _ _ _ _ _ * _ + v (co f ((pd f).toNat - ((pd f - 1 - i).toNat + 1))) * 2 ^ (ex_ * ((((pd f - 1 - i).toNat : Nat) : Int) + 1)).toNat
                rw [show (pd f).toNat - ((pd f - 1 - i).toNat + 1) = i.toNat by omega, show (((pd f - 1 - i).toNat : Nat) : Int) + 1 = pd f - i by omega]), (fun b h1 h2 h3 => by rw [va_up_ne _ _ h1, va_up_ne _ _ h3, va_up_ne _ _ h2]; exact c2 b h1 h2 h3), hV, lv_sub hl [1, 2, 3, 4, 5, 6, 0] rfl⟩
  · omega
