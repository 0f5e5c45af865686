section CSL
variable {p : Program} {l : Launch} {e : Env} {R : Room} {s : State} {m : MethodId} {args : Array Value} {below : List Frame} {meth : Method} {c : Code} {H : Heap} {locs : List Loc} {cells slots : Nat} {Q : State → Prop}
variable {cc : ByteArray} {pc nL : Nat} {ls : Array Slot} {rest : List Value} {dC : Nat → ClassId} {dI : Nat → Nat → Nat} {cx : Nat → Nat} {LB : List Nat} {A : Nat → Prop} {H0 : Heap} {ll0 : Nat → Nat} {X : va_W} {dd : Nat → Nat} {nn ss : Nat → Int} {ll : Nat → Nat} {gg : Nat → Int → Int} {c0 : Cond} {own : String} {b index : Nat}
theorem c_callsl (E : CallFix p m c cc nL s args (c0 :: w0c) own) {y : MethodName} {bytes : ByteArray} {maxL n f kl : Nat} {ret : Option FieldType} {As : List Value} {P : Int → va_W → (Nat → Nat) → (Nat → Int) → (Nat → Int) → (Nat → Nat) → (Nat → Int → Int) → Prop}
    (hM : Met l y (Cond.code y bytes maxL ret :: w0c) (cRm f kl LB ll) (cPc dC dI cx LB X dd nn ss ll gg H As) (cQl dC dI cx LB (va_A (bW (cx 0) LB dd nn ss ll gg X) H.size) ll H P) (cMc LB ll) (2 * cMc LB ll) (va_A (bW (cx 0) LB dd nn ss ll gg X) H.size)) (cw : CallB R s args own index y bytes maxL ret (Cond.code y bytes maxL ret :: w0c) (cRm f kl LB ll) (cMc LB ll) (2 * cMc LB ll) n ∧ (Cond.static y).before args s = true)
    (hK : va_K (dC, dI) ccl (cty cx) s) (hV : cV dC dI cx LB A s.heap ll0 X dd nn ss ll gg H locs) (hA : ∀ q, s.heap.size ≤ q → A q) (hR : R.cells = cMc LB ll0 ∧ R.slots = 2 * cMc LB ll0) (hn : As.length = n) (hl : ls.size = nL) (hW : (rest.map fun v => v.category).sum ≤ 8) (hd : decode cc pc = .ok (.invokestatic index, 3))
    (kk : ∀ (z : Int) (X' : va_W) (dd' : Nat → Nat) (nn' ss' : Nat → Int) (ll' : Nat → Nat) (gg' : Nat → Int → Int) (H1 : Heap) (locs1 : List Loc), P z X' dd' nn' ss' ll' gg' → cV dC dI cx LB A s.heap ll0 X' dd' nn' ss' ll' gg' H1 locs1 → (∀ b ∈ LB, ll b ≤ ll' b) → W p l e R s m args below meth c H1 locs1 (cP LB ll' - cP LB ll0) (2 * (cP LB ll' - cP LB ll0)) Q (F0 m (pc + 3) ls (Jz z :: rest))) : W p l e R s m args below meth c H locs (cP LB ll - cP LB ll0) (2 * (cP LB ll - cP LB ll0)) Q (F0 m pc ls (As.reverse ++ rest)) := by
  refine W.know fun hG => ?_
  have hb := cV_bd hV
  refine va_calll (va_runS (As := As) (rest := rest) E hM cw ⟨c_blind, fun U hU hW => ⟨rfl, hU, by rw [hU]; exact hV.1, va_K.moved hW.alike hK, hV.2.1.weaken (fun _ _ _ _ => trivial), hV.2.2.2.2⟩⟩ rfl hn hl rfl (lv_room hW) hd (by rw [hR.1, hR.2]; unfold cMc; omega)) hV.2.2.1 (fun q _ h => c_sub hV hA q h) (c_sub hV hA) (fun r u t H1 locs1 ht hvm hw hB hz1 hk1 hS1 => ?_)
  obtain ⟨X', dd', nn', ss', ll', gg'⟩ := u
  obtain ⟨z, rfl, hp⟩ := hw
  obtain ⟨g1, g2, g3⟩ := c_back (k1 := 0) hG hV hA ht hS1 hB
  exact W.retake g3 (kk z X' dd' nn' ss' ll' gg' H1 locs1 hp g1 g2)
end CSL
/-- the greatest common divisor of the upper coefficients -/
def cgN (F : Nat → Int) (n : Nat) : Nat → Nat
  | 0 => (F n).natAbs
  | m + 1 => Nat.gcd (cgN F n m) (F (n - (m + 1))).natAbs
theorem cgN_pos {F : Nat → Int} {n : Nat} (h : F n ≠ 0) : ∀ m, 0 < cgN F n m
  | 0 => Int.natAbs_pos.mpr h
  | m + 1 => Nat.gcd_pos_of_pos_left _ (cgN_pos h m)
theorem cgN_one {F : Nat → Int} {n : Nat} {m : Nat} (h : cgN F n m = 1) : ∀ k, cgN F n (m + k) = 1
  | 0 => h
  | k + 1 => by
      show Nat.gcd (cgN F n (m + k)) _ = 1
      rw [cgN_one h k, Nat.gcd_one_left]
def PM (ta tb tt sh nx ot : Nat) : Prop := (sh = ta ∧ nx = tb ∧ ot = tt) ∨ (sh = tb ∧ nx = tt ∧ ot = ta) ∨ (sh = tt ∧ nx = ta ∧ ot = tb)
theorem PM.rot {ta tb tt sh nx ot : Nat} (h : PM ta tb tt sh nx ot) : PM ta tb tt nx ot sh := by
  rcases h with h | h | h
  · exact Or.inr (Or.inl ⟨h.2.1, h.2.2, h.1⟩)
  · exact Or.inr (Or.inr ⟨h.2.1, h.2.2, h.1⟩)
  · exact Or.inl ⟨h.2.1, h.2.2, h.1⟩
theorem PM.ne {ta tb tt sh nx ot : Nat} (h : PM ta tb tt sh nx ot) {b : Nat} (h1 : b ≠ ta) (h2 : b ≠ tb) (h3 : b ≠ tt) : b ≠ sh ∧ b ≠ nx ∧ b ≠ ot := by
  rcases h with ⟨rfl, rfl, rfl⟩ | ⟨rfl, rfl, rfl⟩ | ⟨rfl, rfl, rfl⟩
  · exact ⟨h1, h2, h3⟩
  · exact ⟨h2, h3, h1⟩
  · exact ⟨h3, h1, h2⟩
theorem PM.ok {LB LP : List Nat} {co : Nat → Nat → Nat} {ta tb tq tt tu sh nx ot : Nat} (h : PM ta tb tt sh nx ot) (hS : tOK LB LP co ta tb tq tt tu) : (sh ∈ LB ∧ nx ∈ LB ∧ ot ∈ LB) ∧ (sh ≠ nx ∧ sh ≠ ot ∧ nx ≠ ot) ∧ (sh ≠ tq ∧ nx ≠ tq ∧ ot ≠ tq) ∧ (sh ≠ tu ∧ nx ≠ tu ∧ ot ≠ tu) ∧ (∀ p ∈ LP, ∀ i : Nat, i < 13 → co p i ≠ sh) ∧ (∀ p ∈ LP, ∀ i : Nat, i < 13 → co p i ≠ nx) ∧ ∀ p ∈ LP, ∀ i : Nat, i < 13 → co p i ≠ ot := by
  obtain ⟨⟨mta, mtb, mtq, mtt, mtu⟩, ⟨nab, naq, nat_, nau⟩, ⟨nbq, nbt, nbu⟩, ⟨nqt, nqu⟩, ntu, scA⟩ := id hS
  rcases h with ⟨rfl, rfl, rfl⟩ | ⟨rfl, rfl, rfl⟩ | ⟨rfl, rfl, rfl⟩
  · exact ⟨⟨mta, mtb, mtt⟩, ⟨nab, nat_, nbt⟩, ⟨naq, nbq, Ne.symm nqt⟩, ⟨nau, nbu, ntu⟩, fun p h i w => (scA p h i w).1, fun p h i w => (scA p h i w).2.1, fun p h i w => (scA p h i w).2.2.2.1⟩
  · exact ⟨⟨mtb, mtt, mta⟩, ⟨nbt, Ne.symm nab, Ne.symm nat_⟩, ⟨nbq, Ne.symm nqt, naq⟩, ⟨nbu, ntu, nau⟩, fun p h i w => (scA p h i w).2.1, fun p h i w => (scA p h i w).2.2.2.1, fun p h i w => (scA p h i w).1⟩
  · exact ⟨⟨mtt, mta, mtb⟩, ⟨Ne.symm nat_, Ne.symm nbt, nab⟩, ⟨Ne.symm nqt, naq, nbq⟩, ⟨ntu, nau, nbu⟩, fun p h i w => (scA p h i w).2.2.2.1, fun p h i w => (scA p h i w).1, fun p h i w => (scA p h i w).2.1⟩
theorem ng_st (a b : Nat) : Nat.gcd b (a % b) = Nat.gcd a b := by
  rw [Nat.gcd_comm b, ← Nat.gcd_rec, Nat.gcd_comm]
theorem num1_2 {n s : Int} {k : Nat} {f : Int → Int} {V : Int} (h : num1 n s k f V) (q : n ≤ 2) : (V.natAbs : Int) < 1152921504606846976 := by
  have h1 := num1_lt h
  have h0 := h.1
  have h2 : n.toNat = 0 ∨ n.toNat = 1 ∨ n.toNat = 2 := by omega
  rcases h2 with e | e | e <;> rw [e] at h1
  · exact Int.lt_trans h1 (by decide)
  · exact Int.lt_trans h1 (by decide)
  · exact h1
theorem eu_k {A B j : Int} (hj : 0 ≤ j) (hb : B ≠ 0) (z2 : (B.natAbs : Int) < 1073741824 ^ 80) (h : j = 0 ∨ ((B.natAbs : Int) < (A.natAbs : Int) ∧ (A.natAbs : Int) * (B.natAbs : Int) * 2 ^ (j - 1).toNat ≤ 1073741824 ^ 80 * 1073741824 ^ 80)) : (((A.tmod B).natAbs : Nat) : Int) < (B.natAbs : Int) ∧ (B.natAbs : Int) * (((A.tmod B).natAbs : Nat) : Int) * 2 ^ (j + 1 - 1).toNat ≤ 1073741824 ^ 80 * 1073741824 ^ 80 := by
  have p := kb_pow_pos 80
  have e : (((A.tmod B).natAbs : Nat) : Int) = (A.natAbs : Int) % (B.natAbs : Int) := by rw [Int.natAbs_tmod]; rfl
  rw [e]
  have b0 := Int.natAbs_pos.mpr hb
  exact gcs (by omega) (by omega) hj (Int.mul_le_mul (by omega) (by omega) (by omega) (by omega)) h
theorem p2_80 : (1073741824 : Int) ^ 80 * 1073741824 ^ 80 < 2 ^ 999999 := by
  rw [show (1073741824 : Int) = 2 ^ 30 from by decide, ← Int.pow_mul, ← Int.pow_add]
  exact Int.pow_lt_pow_of_lt (by decide) (by decide)
theorem td_le (a b : Int) : ((a.tdiv b).natAbs : Int) ≤ (a.natAbs : Int) := by
  rw [Int.natAbs_tdiv]
  have h : a.natAbs.div b.natAbs ≤ a.natAbs := Nat.div_le_self _ _
  omega
set_option maxHeartbeats 4000000 in
set_option maxRecDepth 100000 in
theorem k9_tidy {l : Launch} {dC : Nat → ClassId} {dI : Nat → Nat → Nat} {cx : Nat → Nat} {LB : List Nat} {LP : List Nat} {pc_ : Nat → Nat} {pd : Nat → Int} {co : Nat → Nat → Nat} {X : va_W} {dd : Nat → Nat} {nn ss : Nat → Int} {ll : Nat → Nat} {gg : Nat → Int → Int} {H0 : Heap} {v : Nat → Int} {f : Nat} {t0 ta tb tq tt tu tw tm : Nat} {tf : Int} (mf : f ∈ LP) (hO : pOK LB LP co) (hN : cR LB nn ss ll gg v) (hTo : (t0, (.inr (9, [.ref ta, .ref tb, .ref tq, .ref tt, .ref tu, .ref tw, .ref tm, Iz tf]) : va_E)) ∈ X) (hS : tOK LB LP co ta tb tq tt tu) (d0 : 0 ≤ pd f) (d2 : pd f ≤ 12) (sF : ∀ i : Nat, (i : Int) ≤ pd f → ((v (co f i)).natAbs : Int) < 1073741824 ^ 80) (ldz : (v (co f (pd f).toNat)) ≠ 0) : Met l yX9_tidy (Cond.code yX9_tidy cX9_tidy 8 none :: w0c) (cRm 4 131 LB ll) (cPc dC dI cx LB (pW cx LP pc_ pd co X) dd nn ss ll gg H0 [.ref t0, .ref f]) (cQv dC dI cx LB (va_A (bW (cx 0) LB dd nn ss ll gg (pW cx LP pc_ pd co X)) H0.size) ll H0 (fun X' dd' nn' ss' ll' gg' => ∃ v' : Nat → Int, X' = (pW cx LP pc_ pd co X) ∧ cR LB nn' ss' ll' gg' v' ∧ (∀ j : Nat, (j : Int) ≤ pd f → v' (co f j) = (if (v (co f (pd f).toNat)) < 0 then -((v (co f j)).tdiv ((cgN (fun i => v (co f i)) (pd f).toNat (pd f).toNat : Nat) : Int)) else (v (co f j)).tdiv ((cgN (fun i => v (co f i)) (pd f).toNat (pd f).toNat : Nat) : Int))) ∧ ∀ b : Nat, (∀ j : Nat, (j : Int) ≤ pd f → b ≠ co f j) → b ≠ ta → b ≠ tb → b ≠ tq → b ≠ tt → b ≠ tu → v' b = v b)) (cMc LB ll) (2 * cMc LB ll) (va_A (bW (cx 0) LB dd nn ss ll gg (pW cx LP pc_ pd co X)) H0.size) := by
  refine Met.ofW (cc := cX9_tidy) (maxL := 8) (ret := none) (by decide) rfl ?_
  intro p e s m args below meth c s₁ B hml hv
  obtain ⟨rfl, hH0, hP, hK, hD0, hC0⟩ := hv
  have hx := B.exec
  have hb := B.bytes
  have hr := B.returns
  have hts := atoms_spec (ws := Cond.code yX9_tidy cX9_tidy 8 none :: w0c) B.pre
  have hown : s.vm.findClass RX9 = some m.cls := findClass_of_methodNamed B.named
  have hlocks := B.notSynchronized
  have E : CallFix p m c cX9_tidy 8 s _ (Cond.code yX9_tidy cX9_tidy 8 none :: w0c) RX9 := ⟨hx, hb, hml, hown, hts⟩
  subst hH0
  have hD := va_D.self (sz := s.heap.size) hD0
  have hA : ∀ q : Nat, s.heap.size ≤ q → va_A (bW (cx 0) LB dd nn ss ll gg (pW cx LP pc_ pd co X)) s.heap.size q := fun q h => Or.inr h
  have hV : cV dC dI cx LB (va_A (bW (cx 0) LB dd nn ss ll gg (pW cx LP pc_ pd co X)) s.heap.size) s.heap ll (pW cx LP pc_ pd co X) dd nn ss ll gg s.heap [] := ⟨hP, hD, va_S.rf, fun _ _ => Nat.le_refl _, hC0⟩
  have hR : (headSpec (Cond.code yX9_tidy cX9_tidy 8 none :: w0c) (cRm 4 131 LB ll)).room.cells = cMc LB ll ∧ (headSpec (Cond.code yX9_tidy cX9_tidy 8 none :: w0c) (cRm 4 131 LB ll)).room.slots = 2 * cMc LB ll := ⟨rfl, rfl⟩
  refine W.widen (k := cP LB ll - cP LB ll) (n := 2 * (cP LB ll - cP LB ll)) (Nat.zero_le _) (Nat.zero_le _) ?_
  have hl := lv_entry ([.ref t0, .ref f]) (n := 8) (Nat.le_of_ble_eq_true rfl)
  rw [lg_entry_eq]
  generalize (lg_sl ([.ref t0, .ref f]) ++ List.replicate (8 - (lg_sl ([.ref t0, .ref f])).length) Slot.unset).toArray = ls at hl ⊢
  have hl : lv_has ls 8 [(0, .ref t0), (1, .ref f)] := hl
  obtain ⟨⟨mta, mtb, mtq, mtt, mtu⟩, ⟨nab, naq, nat_, nau⟩, ⟨nbq, nbt, nbu⟩, ⟨nqt, nqu⟩, ntu, scA⟩ := id hS
  have sca : ∀ p ∈ LP, ∀ i : Nat, i < 13 → co p i ≠ ta := fun p h i w => (scA p h i w).1
  have sct : ∀ p ∈ LP, ∀ i : Nat, i < 13 → co p i ≠ tt := fun p h i w => (scA p h i w).2.2.2.1
  have scu : ∀ p ∈ LP, ∀ i : Nat, i < 13 → co p i ≠ tu := fun p h i w => (scA p h i w).2.2.2.2
  have scb : ∀ p ∈ LP, ∀ i : Nat, i < 13 → co p i ≠ tb := fun p h i w => (scA p h i w).2.1
  have scq : ∀ p ∈ LP, ∀ i : Nat, i < 13 → co p i ≠ tq := fun p h i w => (scA p h i w).2.2.1
  refine lv_aload_n hx hb dX9_tidy_0 rfl (lv_at hl 1 rfl) ?_
  refine y_getdeg E hK hV mf rfl cf_9_59 dX9_tidy_1 ?_
  refine g_if_ge (tgt := 8) hx hb (by first | assumption | exact ⟨by omega, by omega⟩) dX9_tidy_4 (by decide) (fun c_4 => ?_) (fun c_4 => ?_)
  · skip
    refine lv_aload_n hx hb dX9_tidy_8 rfl (lv_at hl 0 rfl) ?_
    refine x_get E hK hV (ci := 9) (C := RX9) (T := TX9) (N := 8) rfl w0c_in9 (pW_x hTo) 0 (by decide) rfl cf_9_12 rfl dX9_tidy_9 ?_
    refine lv_astore_n (lv' := [(2, .ref ta), (0, .ref t0), (1, .ref f)]) hx hb dX9_tidy_12 rfl hl (by decide) rfl (fun ls hl => ?_)
    refine lv_aload_n hx hb dX9_tidy_13 rfl (lv_at hl 1 rfl) ?_
    refine x_get E hK hV (ci := 9) (C := RX9) (T := TX9) (N := 8) rfl w0c_in9 (pW_x hTo) 1 (by decide) rfl cf_9_18 rfl dX9_tidy_14 ?_
    refine lv_astore_n (lv' := [(3, .ref tb), (2, .ref ta), (0, .ref t0), (1, .ref f)]) hx hb dX9_tidy_17 rfl hl (by decide) rfl (fun ls hl => ?_)
    refine lv_aload_n hx hb dX9_tidy_18 rfl (lv_at hl 2 rfl) ?_
    refine x_get E hK hV (ci := 9) (C := RX9) (T := TX9) (N := 8) rfl w0c_in9 (pW_x hTo) 3 (by decide) rfl cf_9_24 rfl dX9_tidy_19 ?_
    refine lv_astore (lv' := [(4, .ref tt), (3, .ref tb), (2, .ref ta), (0, .ref t0), (1, .ref f)]) hx hb dX9_tidy_22 hl (by decide) rfl (fun ls hl => ?_)
    refine lv_aload_n hx hb dX9_tidy_24 rfl (lv_at hl 2 rfl) ?_
    refine lv_aload_n hx hb dX9_tidy_25 rfl (lv_at hl 4 rfl) ?_
    refine c_callr (As := []) (rest := [.ref ta]) E (k4_lead (p0 := f) mf (by omega) (by omega)) (cwV 0 hts (cGood cl_X9_62 ci_X4_lead cs_X4_lead cn_RX4 cc_X4_lead) rfl rfl rfl (by decide +kernel) ⟨Nat.le_of_ble_eq_true rfl, Nat.le_of_ble_eq_true rfl⟩) (y_recv hK hV mf) hK hV hA hR rfl hl.1 (Nat.le_of_ble_eq_true rfl) dX9_tidy_26 (fun a26 X26 dd26 nn26 ss26 ll26 gg26 H locs q26 hV hm26 => ?_)
    obtain ⟨e1_, e2_, e3_, e4_, e5_, e6_, q26⟩ := q26
    obtain rfl := e1_.symm
    obtain rfl := e2_.symm
    obtain rfl := e3_.symm
    obtain rfl := e4_.symm
    obtain rfl := e5_.symm
    obtain rfl := e6_.symm
    subst q26
    have s29 := num1_le (hN _ (hO.1 f mf _ (by omega))) (sF (pd f).toNat (by omega))
    refine c_callv (As := [.ref (co f (pd f).toNat)]) (rest := []) E (k0_copy (v := v) (h0 := ta) (a := (co f (pd f).toNat)) mta hN (hO.1 f mf _ (by omega)) (Ne.symm (sca f mf _ (by omega))) (by omega)) (cwV 1 hts (cGood cl_X9_66 ci_X0_copy cs_X0_copy cn_RX0 cc_X0_copy) rfl rfl rfl (by decide +kernel) ⟨Nat.le_of_ble_eq_true rfl, Nat.le_of_ble_eq_true rfl⟩) (b_recv hK hV mta) hK hV hA hR rfl hl.1 (Nat.le_of_ble_eq_true rfl) dX9_tidy_29 (fun X29 dd29 nn29 ss29 ll29 gg29 H locs q29 hV hm29 => ?_)
    obtain ⟨e1_, hN⟩ := q29
    obtain rfl := e1_.symm
    refine lv_aload_n hx hb dX9_tidy_32 rfl (lv_at hl 4 rfl) ?_
    refine y_getdeg E hK hV mf rfl cf_9_59 dX9_tidy_33 ?_
    refine lv_iconst (v := Int32.ofInt (1)) hx hb dX9_tidy_36 (by decide) ?_
    refine g_isub hx hb dX9_tidy_37 ?_
    refine lv_istore (lv' := [(5, Iz ((pd f) - 1)), (4, .ref tt), (3, .ref tb), (2, .ref ta), (0, .ref t0), (1, .ref f)]) hx hb dX9_tidy_38 hl (by decide) rfl (fun ls hl => ?_)
    refine r_loop2 (P := fun N_ ce sl H locs ls => ∃ dd_40 : Nat → Nat, ∃ nn_40 ss_40 : Nat → Int, ∃ ll_40 : Nat → Nat, ∃ gg_40 : Nat → Int → Int, ∃ v_40 : Nat → Int, ∃ i : Int, ∃ sh : Nat, ∃ nx : Nat, ∃ ot : Nat, N_ = (i + 1).toNat ∧ ce = cP LB ll_40 - cP LB ll ∧ sl = 2 * (cP LB ll_40 - cP LB ll) ∧ cR LB nn_40 ss_40 ll_40 gg_40 v_40 ∧ (-1 ≤ i) ∧ (i ≤ pd f - 1) ∧ (PM ta tb tt sh nx ot) ∧ ((v_40 sh).natAbs = cgN (fun i => v (co f i)) (pd f).toNat (pd f - 1 - i).toNat) ∧ (((v_40 sh).natAbs : Int) < 1073741824 ^ 80) ∧ (∀ b : Nat, b ≠ ta → b ≠ tb → b ≠ tq → b ≠ tt → v_40 b = v b) ∧ cV dC dI cx LB (va_A (bW (cx 0) LB dd nn ss ll gg (pW cx LP pc_ pd co X)) s.heap.size) s.heap ll (pW cx LP pc_ pd co X) dd_40 nn_40 ss_40 ll_40 gg_40 H locs ∧ lv_has ls 8 [(0, .ref t0), (1, .ref f), (2, .ref sh), (3, .ref nx), (4, .ref ot), (5, Iz (i))]) (g := fun ls => F0 m 40 ls []) (fun N_ ce sl H locs ls hI ih_40 => ?_) _ _ _ _ _ _ ⟨_, _, _, _, _, (va_up v ta (v (co f (pd f).toNat))), ((pd f) - 1), ta, tb, tt, rfl, rfl, rfl, hN, (by omega), (by omega), (Or.inl ⟨rfl, rfl, rfl⟩), (by rw [va_up_self, show (pd f - 1 - (pd f - 1)).toNat = 0 by omega]; rfl), (by rw [va_up_self]; exact sF _ (by omega)), (fun b h1 _ _ _ => va_up_ne _ _ h1), hV, lv_sub hl [4, 5, 3, 2, 1, 0] rfl⟩
    obtain ⟨dd_40, nn_40, ss_40, ll_40, gg_40, v_40, i, sh, nx, ot, rfl, rfl, rfl, hN, i0, i1, pm, c1, sz1, c2, hV, hl⟩ := hI
    obtain ⟨⟨msh, mnx, mot⟩, ⟨nshnx, nshot, nnxot⟩, ⟨nshtq, nnxtq, nottq⟩, ⟨nshtu, nnxtu, nottu⟩, scsh, scnx, scot⟩ := PM.ok pm hS
    refine lv_iload hx hb dX9_tidy_40 (lv_at hl 5 rfl) ?_
    refine g_if_lt (tgt := 149) hx hb ⟨by omega, by omega⟩ dX9_tidy_42 (by decide) (fun c_42 => ?_) (fun c_42 => ?_)
    · skip
      have x149 : (v_40 sh).natAbs = cgN (fun i => v (co f i)) (pd f).toNat (pd f).toNat := by
        first
          | (rw [c1, show (pd f - 1 - i).toNat = (pd f).toNat by omega])
          | (have o1 : (v_40 sh).natAbs = 1 := by
               apply Classical.byContradiction
               intro w
               rw [if_neg w] at q46
               omega
             have o2 := cgN_one (c1.symm.trans o1) ((pd f).toNat - (pd f - 1 - i).toNat)
             rw [show (pd f - 1 - i).toNat + ((pd f).toNat - (pd f - 1 - i).toNat) = (pd f).toNat by omega] at o2
             rw [o1, o2])
      have gp := cgN_pos (F := (fun i => v (co f i))) (n := (pd f).toNat) ldz (pd f).toNat
      refine lv_aload_n hx hb dX9_tidy_149 rfl (lv_at hl 2 rfl) ?_
      refine lv_iconst (v := Int32.ofInt (1)) hx hb dX9_tidy_150 (by decide) ?_
      refine t_puts E hK hV msh rfl cf_9_79 dX9_tidy_151 (fun H locs hV => ?_)
      have hN : cR LB nn_40 (va_up ss_40 sh 1) ll_40 gg_40 (va_up v_40 sh ((cgN (fun i => v (co f i)) (pd f).toNat (pd f).toNat : Nat) : Int)) := cR_sign hN msh (by rw [x149]; rfl) (by unfold sg; rw [if_pos (by omega)])
      refine lv_aload_n hx hb dX9_tidy_154 rfl (lv_at hl 1 rfl) ?_
      refine c_callr (As := []) (rest := []) E (k4_lead (p0 := f) mf (by omega) (by omega)) (cwV 0 hts (cGood cl_X9_62 ci_X4_lead cs_X4_lead cn_RX4 cc_X4_lead) rfl rfl rfl (by decide +kernel) ⟨Nat.le_of_ble_eq_true rfl, Nat.le_of_ble_eq_true rfl⟩) (y_recv hK hV mf) hK hV hA hR rfl hl.1 (Nat.le_of_ble_eq_true rfl) dX9_tidy_155 (fun a155 X155 dd155 nn155 ss155 ll155 gg155 H locs q155 hV hm155 => ?_)
      obtain ⟨e1_, e2_, e3_, e4_, e5_, e6_, q155⟩ := q155
      obtain rfl := e1_.symm
      obtain rfl := e2_.symm
      obtain rfl := e3_.symm
      obtain rfl := e4_.symm
      obtain rfl := e5_.symm
      obtain rfl := e6_.symm
      subst q155
      refine t_gets E hK hV (hO.1 f mf _ (by omega)) ((va_up_ne _ _ (scsh f mf _ (by omega))).trans rfl) cf_9_79 dX9_tidy_158 ?_
      have cld : v_40 (co f (pd f).toNat) = (v (co f (pd f).toNat)) := c2 _ (sca f mf _ (by omega)) (scb f mf _ (by omega)) (scq f mf _ (by omega)) (sct f mf _ (by omega))
      have sgl := num1_sg (hN (co f (pd f).toNat) (hO.1 f mf _ (by omega)))
      rw [va_up_ne _ _ (scsh f mf _ (by omega)), va_up_ne _ _ (scsh f mf _ (by omega)), cld] at sgl
      have sgn_ := @sg_neg (v (co f (pd f).toNat))
      have sgb_ := sg_bd (v (co f (pd f).toNat))
      refine r_join (P := fun z : Int => z = (if (v (co f (pd f).toNat)) < 0 then 1 else 0)) (g := fun z => F0 m 169 ls [Iz z]) (fun fl hfl => ?_) (fun k_169 => ?_)
      · skip
        refine lv_istore (lv' := [(5, Iz (fl)), (0, .ref t0), (1, .ref f), (2, .ref sh), (3, .ref nx), (4, .ref ot)]) hx hb dX9_tidy_169 hl (by decide) rfl (fun ls hl => ?_)
        refine lv_aload_n hx hb dX9_tidy_171 rfl (lv_at hl 3 rfl) ?_
        refine c_calli (As := []) (rest := []) E (k0_isOne (v := va_up v_40 sh ((cgN (fun i => v (co f i)) (pd f).toNat (pd f).toNat : Nat) : Int)) (h0 := sh) msh hN) (cwV 0 hts (cGood cl_X9_70 ci_X0_isOne cs_X0_isOne cn_RX0 cc_X0_isOne) rfl rfl rfl (by decide +kernel) ⟨Nat.le_of_ble_eq_true rfl, Nat.le_of_ble_eq_true rfl⟩) (b_recv hK hV msh) hK hV hA hR rfl hl.1 (Nat.le_of_ble_eq_true rfl) dX9_tidy_172 (fun z172 X172 dd172 nn172 ss172 ll172 gg172 H locs q172 hV hm172 => ?_)
        obtain ⟨e1_, e2_, e3_, e4_, e5_, e6_, q172⟩ := q172
        obtain rfl := e1_.symm
        obtain rfl := e2_.symm
        obtain rfl := e3_.symm
        obtain rfl := e4_.symm
        obtain rfl := e5_.symm
        obtain rfl := e6_.symm
        have wh : z172 = 0 ∨ ((cgN (fun i => v (co f i)) (pd f).toNat (pd f).toNat : Nat) : Int) = 1 := by
          rw [va_up_self] at q172
          by_cases w : (((cgN (fun i => v (co f i)) (pd f).toNat (pd f).toNat : Nat) : Int)).natAbs = 1
          · exact Or.inr (by omega)
          · rw [if_neg w] at q172; exact Or.inl q172
        refine lv_istore (lv' := [(6, Iz (z172)), (5, Iz (fl)), (0, .ref t0), (1, .ref f), (2, .ref sh), (3, .ref nx), (4, .ref ot)]) hx hb dX9_tidy_175 hl (by decide) rfl (fun ls hl => ?_)
        refine lv_iconst (v := Int32.ofInt (0)) hx hb dX9_tidy_177 (by decide) ?_
        refine lv_istore (lv' := [(7, Iz (0)), (6, Iz (z172)), (5, Iz (fl)), (0, .ref t0), (1, .ref f), (2, .ref sh), (3, .ref nx), (4, .ref ot)]) hx hb dX9_tidy_178 hl (by decide) rfl (fun ls hl => ?_)
        refine r_loop2 (P := fun N_ ce sl H locs ls => ∃ dd_180 : Nat → Nat, ∃ nn_180 ss_180 : Nat → Int, ∃ ll_180 : Nat → Nat, ∃ gg_180 : Nat → Int → Int, ∃ v_180 : Nat → Int, ∃ k : Int, N_ = (pd f + 1 - k).toNat ∧ ce = cP LB ll_180 - cP LB ll ∧ sl = 2 * (cP LB ll_180 - cP LB ll) ∧ cR LB nn_180 ss_180 ll_180 gg_180 v_180 ∧ (0 ≤ k) ∧ (k ≤ pd f + 1) ∧ (∀ j : Nat, (j : Int) < k → v_180 (co f j) = (if (v (co f (pd f).toNat)) < 0 then -((v (co f j)).tdiv ((cgN (fun i => v (co f i)) (pd f).toNat (pd f).toNat : Nat) : Int)) else (v (co f j)).tdiv ((cgN (fun i => v (co f i)) (pd f).toNat (pd f).toNat : Nat) : Int))) ∧ (∀ j : Nat, k ≤ (j : Int) → (j : Int) ≤ pd f → v_180 (co f j) = v (co f j)) ∧ (v_180 sh = ((cgN (fun i => v (co f i)) (pd f).toNat (pd f).toNat : Nat) : Int)) ∧ (∀ b : Nat, (∀ j : Nat, (j : Int) ≤ pd f → b ≠ co f j) → b ≠ ta → b ≠ tb → b ≠ tq → b ≠ tt → b ≠ tu → v_180 b = v b) ∧ cV dC dI cx LB (va_A (bW (cx 0) LB dd nn ss ll gg (pW cx LP pc_ pd co X)) s.heap.size) s.heap ll (pW cx LP pc_ pd co X) dd_180 nn_180 ss_180 ll_180 gg_180 H locs ∧ lv_has ls 8 [(0, .ref t0), (1, .ref f), (2, .ref sh), (5, Iz (fl)), (6, Iz (z172)), (7, Iz (k))]) (g := fun ls => F0 m 180 ls []) (fun N_ ce sl H locs ls hI ih_180 => ?_) _ _ _ _ _ _ ⟨_, _, _, _, _, (va_up v_40 sh ((cgN (fun i => v (co f i)) (pd f).toNat (pd f).toNat : Nat) : Int)), 0, rfl, rfl, rfl, hN, (Int.le_refl 0), (by omega), (fun j h => by omega), (fun j _ h => by rw [va_up_ne _ _ (scsh f mf _ (by omega))]; exact c2 _ (sca f mf _ (by omega)) (scb f mf _ (by omega)) (scq f mf _ (by omega)) (sct f mf _ (by omega))), (by rw [va_up_self]), (fun b _ h1 h2 h3 h4 _ => by rw [va_up_ne _ _ (pm.ne h1 h2 h4).1]; exact c2 b h1 h2 h3 h4), hV, lv_sub hl [3, 4, 5, 2, 1, 0] rfl⟩
        obtain ⟨dd_180, nn_180, ss_180, ll_180, gg_180, v_180, k, rfl, rfl, rfl, hN, k0, k1, r1, r2, r3, r4, hV, hl⟩ := hI
        refine lv_iload hx hb dX9_tidy_180 (lv_at hl 5 rfl) ?_
        refine lv_aload_n hx hb dX9_tidy_182 rfl (lv_at hl 1 rfl) ?_
        refine y_getdeg E hK hV mf rfl cf_9_59 dX9_tidy_183 ?_
        refine g_icmp_gt (tgt := 248) hx hb ⟨by omega, by omega⟩ ⟨by omega, by omega⟩ dX9_tidy_186 (by decide) (fun c_186 => ?_) (fun c_186 => ?_)
        · skip
          have hpost : ∃ v' : Nat → Int, (pW cx LP pc_ pd co X) = (pW cx LP pc_ pd co X) ∧ cR LB nn_180 ss_180 ll_180 gg_180 v' ∧ (∀ j : Nat, (j : Int) ≤ pd f → v' (co f j) = (if (v (co f (pd f).toNat)) < 0 then -((v (co f j)).tdiv ((cgN (fun i => v (co f i)) (pd f).toNat (pd f).toNat : Nat) : Int)) else (v (co f j)).tdiv ((cgN (fun i => v (co f i)) (pd f).toNat (pd f).toNat : Nat) : Int))) ∧ ∀ b : Nat, (∀ j : Nat, (j : Int) ≤ pd f → b ≠ co f j) → b ≠ ta → b ≠ tb → b ≠ tq → b ≠ tt → b ≠ tu → v' b = v b := ⟨_, rfl, hN, fun j h => r1 j (by omega), r4⟩
          exact c_vret hx hb hr hK hV hpost dX9_tidy_248 hlocks
        · skip
          refine lv_iload hx hb dX9_tidy_189 (lv_at hl 4 rfl) ?_
          refine g_if_ne (tgt := 227) hx hb ⟨by omega, by omega⟩ dX9_tidy_191 (by decide) (fun c_191 => ?_) (fun c_191 => ?_)
          · skip
            refine lv_iload hx hb dX9_tidy_227 (lv_at hl 3 rfl) ?_
            refine g_if_eq (tgt := 242) hx hb ⟨by omega, by omega⟩ dX9_tidy_229 (by decide) (fun c_229 => ?_) (fun c_229 => ?_)
            · skip
              have x242 : v_180 (co f k.toNat) = (if (v (co f (pd f).toNat)) < 0 then -((v (co f k.toNat)).tdiv ((cgN (fun i => v (co f i)) (pd f).toNat (pd f).toNat : Nat) : Int)) else (v (co f k.toNat)).tdiv ((cgN (fun i => v (co f i)) (pd f).toNat (pd f).toNat : Nat) : Int)) := by
                have w1 := r2 k.toNat (by omega) (by omega)
                have np : fl = 0 → ¬ (v (co f (pd f).toNat)) < 0 := fun h q => by rw [if_pos q] at hfl; omega
                have pp : fl ≠ 0 → (v (co f (pd f).toNat)) < 0 := fun h => by
                  apply Classical.byContradiction
                  intro q
                  rw [if_neg q] at hfl
                  exact h hfl
                first
                  | (rw [w1, if_neg (np (by omega)), show ((cgN (fun i => v (co f i)) (pd f).toNat (pd f).toNat : Nat) : Int) = 1 by omega, Int.tdiv_one]; done)
                  | (rw [va_up_self, w1, if_pos (pp (by omega)), show ((cgN (fun i => v (co f i)) (pd f).toNat (pd f).toNat : Nat) : Int) = 1 by omega, Int.tdiv_one]; done)
                  | (rw [va_up_self, va_up_self, w1, r3, if_neg (np (by omega))]; done)
                  | (rw [va_up_self, va_up_self, va_up_self, w1, r3, if_pos (pp (by omega))]; done)
              have y242 : ∀ b : Nat, b ≠ co f k.toNat → b ≠ tu → b ≠ tq → v_180 b = v_180 b := fun b h1 h2 h3 => by
                first
                  | rfl
                  | (rw [va_up_ne _ _ h1]; done)
                  | (rw [va_up_ne _ _ h1, va_up_ne _ _ h3, va_up_ne _ _ h2]; done)
                  | (rw [va_up_ne _ _ h1, va_up_ne _ _ h1, va_up_ne _ _ h3, va_up_ne _ _ h2]; done)
              refine g_iinc (k := 5) (z := k) (n := (1)) (lv' := [(7, Iz (k + 1)), (0, .ref t0), (1, .ref f), (2, .ref sh), (5, Iz (fl)), (6, Iz (z172))]) hx hb dX9_tidy_242 hl rfl (by decide) rfl (fun ls hl => ?_)
              refine lv_goto (tgt := 180) hx hb dX9_tidy_245 (by decide) ?_
              exact ih_180 _ (by omega) _ _ _ _ _ ⟨_, _, _, _, _, v_180, (k + 1), rfl, rfl, rfl, hN, (by omega), (by omega), (fun j h => by
                        by_cases w : j = k.toNat
                        · rw [w]; exact x242
                        · rw [y242 _ (fun q_ => w (hO.2 _ mf _ mf _ _ (by omega) (by omega) q_).2) (scu f mf _ (by omega)) (scq f mf _ (by omega))]; exact r1 j (by omega)), (fun j h h2 => by rw [y242 _ (fun q_ => by have := (hO.2 _ mf _ mf _ _ (by omega) (by omega) q_).2; omega) (scu f mf _ (by omega)) (scq f mf _ (by omega))]; exact r2 j (by omega) h2), (by rw [y242 _ (Ne.symm (scsh f mf _ (by omega))) nshtu nshtq]; exact r3), (fun b h h1 h2 h3 h4 h5 => by rw [y242 _ (h _ (by omega)) h5 h3]; exact r4 b h h1 h2 h3 h4 h5), hV, lv_sub hl [1, 2, 3, 4, 5, 0] rfl⟩
            · skip
              refine lv_aload_n hx hb dX9_tidy_232 rfl (lv_at hl 1 rfl) ?_
              refine y_getc E hK hV mf cf_9_74 dX9_tidy_233 ?_
              refine lv_iload hx hb dX9_tidy_236 (lv_at hl 5 rfl) ?_
              refine y_aald hx hb hK hV mf (by omega) (by omega) dX9_tidy_238 ?_
              refine c_callv (As := []) (rest := []) E (k0_flip (v := v_180) (h0 := (co f (k).toNat)) (hO.1 f mf _ (by omega)) hN) (cwV 0 hts (cGood cl_X9_101 ci_X0_flip cs_X0_flip cn_RX0 cc_X0_flip) rfl rfl rfl (by decide +kernel) ⟨Nat.le_of_ble_eq_true rfl, Nat.le_of_ble_eq_true rfl⟩) (b_recv hK hV (hO.1 f mf _ (by omega))) hK hV hA hR rfl hl.1 (Nat.le_of_ble_eq_true rfl) dX9_tidy_239 (fun X239 dd239 nn239 ss239 ll239 gg239 H locs q239 hV hm239 => ?_)
              obtain ⟨e1_, hN⟩ := q239
              obtain rfl := e1_.symm
              have x242 : (va_up v_180 (co f (k).toNat) (-(v_180 (co f (k).toNat)))) (co f k.toNat) = (if (v (co f (pd f).toNat)) < 0 then -((v (co f k.toNat)).tdiv ((cgN (fun i => v (co f i)) (pd f).toNat (pd f).toNat : Nat) : Int)) else (v (co f k.toNat)).tdiv ((cgN (fun i => v (co f i)) (pd f).toNat (pd f).toNat : Nat) : Int)) := by
                have w1 := r2 k.toNat (by omega) (by omega)
                have np : fl = 0 → ¬ (v (co f (pd f).toNat)) < 0 := fun h q => by rw [if_pos q] at hfl; omega
                have pp : fl ≠ 0 → (v (co f (pd f).toNat)) < 0 := fun h => by
                  apply Classical.byContradiction
                  intro q
                  rw [if_neg q] at hfl
                  exact h hfl
                first
                  | (rw [w1, if_neg (np (by omega)), show ((cgN (fun i => v (co f i)) (pd f).toNat (pd f).toNat : Nat) : Int) = 1 by omega, Int.tdiv_one]; done)
                  | (rw [va_up_self, w1, if_pos (pp (by omega)), show ((cgN (fun i => v (co f i)) (pd f).toNat (pd f).toNat : Nat) : Int) = 1 by omega, Int.tdiv_one]; done)
                  | (rw [va_up_self, va_up_self, w1, r3, if_neg (np (by omega))]; done)
                  | (rw [va_up_self, va_up_self, va_up_self, w1, r3, if_pos (pp (by omega))]; done)
              have y242 : ∀ b : Nat, b ≠ co f k.toNat → b ≠ tu → b ≠ tq → (va_up v_180 (co f (k).toNat) (-(v_180 (co f (k).toNat)))) b = v_180 b := fun b h1 h2 h3 => by
                first
                  | rfl
                  | (rw [va_up_ne _ _ h1]; done)
                  | (rw [va_up_ne _ _ h1, va_up_ne _ _ h3, va_up_ne _ _ h2]; done)
                  | (rw [va_up_ne _ _ h1, va_up_ne _ _ h1, va_up_ne _ _ h3, va_up_ne _ _ h2]; done)
              refine g_iinc (k := 5) (z := k) (n := (1)) (lv' := [(7, Iz (k + 1)), (0, .ref t0), (1, .ref f), (2, .ref sh), (5, Iz (fl)), (6, Iz (z172))]) hx hb dX9_tidy_242 hl rfl (by decide) rfl (fun ls hl => ?_)
              refine lv_goto (tgt := 180) hx hb dX9_tidy_245 (by decide) ?_
              exact ih_180 _ (by omega) _ _ _ _ _ ⟨_, _, _, _, _, (va_up v_180 (co f (k).toNat) (-(v_180 (co f (k).toNat)))), (k + 1), rfl, rfl, rfl, hN, (by omega), (by omega), (fun j h => by
                        by_cases w : j = k.toNat
                        · rw [w]; exact x242
                        · rw [y242 _ (fun q_ => w (hO.2 _ mf _ mf _ _ (by omega) (by omega) q_).2) (scu f mf _ (by omega)) (scq f mf _ (by omega))]; exact r1 j (by omega)), (fun j h h2 => by rw [y242 _ (fun q_ => by have := (hO.2 _ mf _ mf _ _ (by omega) (by omega) q_).2; omega) (scu f mf _ (by omega)) (scq f mf _ (by omega))]; exact r2 j (by omega) h2), (by rw [y242 _ (Ne.symm (scsh f mf _ (by omega))) nshtu nshtq]; exact r3), (fun b h h1 h2 h3 h4 h5 => by rw [y242 _ (h _ (by omega)) h5 h3]; exact r4 b h h1 h2 h3 h4 h5), hV, lv_sub hl [1, 2, 3, 4, 5, 0] rfl⟩
          · skip
            refine lv_aload_n hx hb dX9_tidy_194 rfl (lv_at hl 0 rfl) ?_
            refine x_get E hK hV (ci := 9) (C := RX9) (T := TX9) (N := 8) rfl w0c_in9 (pW_x hTo) 4 (by decide) rfl cf_9_27 rfl dX9_tidy_195 ?_
            refine lv_aload_n hx hb dX9_tidy_198 rfl (lv_at hl 1 rfl) ?_
            refine y_getc E hK hV mf cf_9_74 dX9_tidy_199 ?_
            refine lv_iload hx hb dX9_tidy_202 (lv_at hl 5 rfl) ?_
            refine y_aald hx hb hK hV mf (by omega) (by omega) dX9_tidy_204 ?_
            refine lv_aload_n hx hb dX9_tidy_205 rfl (lv_at hl 2 rfl) ?_
            refine lv_aload_n hx hb dX9_tidy_206 rfl (lv_at hl 0 rfl) ?_
            refine x_get E hK hV (ci := 9) (C := RX9) (T := TX9) (N := 8) rfl w0c_in9 (pW_x hTo) 2 (by decide) rfl cf_9_21 rfl dX9_tidy_207 ?_
            have s210 := num1_le (hN _ (hO.1 f mf _ (by omega))) (show ((v_180 (co f (k).toNat)).natAbs : Int) < 1073741824 ^ 80 by rw [r2 _ (by omega) (by omega)]; exact sF _ (by omega))
            refine c_callv (As := [.ref (co f (k).toNat), .ref sh, .ref tq]) (rest := []) E (k0_rest (v := v_180) (h0 := tu) (a := (co f (k).toNat)) (b := sh) (qq := tq) mtu hN (hO.1 f mf _ (by omega)) msh mtq (Ne.symm (scu f mf _ (by omega))) (Ne.symm nshtu) (Ne.symm nqu) (scq f mf _ (by omega)) nshtq (by omega)) (cwV 3 hts (cGood cl_X9_97 ci_X0_rest cs_X0_rest cn_RX0 cc_X0_rest) rfl rfl rfl (by decide +kernel) ⟨Nat.le_of_ble_eq_true rfl, Nat.le_of_ble_eq_true rfl⟩) (b_recv hK hV mtu) hK hV hA hR rfl hl.1 (Nat.le_of_ble_eq_true rfl) dX9_tidy_210 (fun X210 dd210 nn210 ss210 ll210 gg210 H locs q210 hV hm210 => ?_)
            obtain ⟨e1_, hN⟩ := q210
            obtain rfl := e1_.symm
            refine lv_aload_n hx hb dX9_tidy_213 rfl (lv_at hl 1 rfl) ?_
            refine y_getc E hK hV mf cf_9_74 dX9_tidy_214 ?_
            refine lv_iload hx hb dX9_tidy_217 (lv_at hl 5 rfl) ?_
            refine y_aald hx hb hK hV mf (by omega) (by omega) dX9_tidy_219 ?_
            refine lv_aload_n hx hb dX9_tidy_220 rfl (lv_at hl 0 rfl) ?_
            refine x_get E hK hV (ci := 9) (C := RX9) (T := TX9) (N := 8) rfl w0c_in9 (pW_x hTo) 2 (by decide) rfl cf_9_21 rfl dX9_tidy_221 ?_
            have s224 := num1_le (hN _ mtq) (t := 80) (by rw [va_up_self]; have h1 := td_le (v_180 (co f k.toNat)) (v_180 sh); rw [r2 _ (by omega) (by omega)] at h1; exact Int.lt_of_le_of_lt (by rw [r2 _ (by omega) (by omega)]; exact h1) (sF k.toNat (by omega)))
            refine c_callv (As := [.ref tq]) (rest := []) E (k0_copy (v := (va_up (va_up v_180 tu ((v_180 (co f (k).toNat)).tmod (v_180 sh))) tq ((v_180 (co f (k).toNat)).tdiv (v_180 sh)))) (h0 := (co f (k).toNat)) (a := tq) (hO.1 f mf _ (by omega)) hN mtq (scq f mf _ (by omega)) (by omega)) (cwV 1 hts (cGood cl_X9_66 ci_X0_copy cs_X0_copy cn_RX0 cc_X0_copy) rfl rfl rfl (by decide +kernel) ⟨Nat.le_of_ble_eq_true rfl, Nat.le_of_ble_eq_true rfl⟩) (b_recv hK hV (hO.1 f mf _ (by omega))) hK hV hA hR rfl hl.1 (Nat.le_of_ble_eq_true rfl) dX9_tidy_224 (fun X224 dd224 nn224 ss224 ll224 gg224 H locs q224 hV hm224 => ?_)
            obtain ⟨e1_, hN⟩ := q224
            obtain rfl := e1_.symm
            refine lv_iload hx hb dX9_tidy_227 (lv_at hl 3 rfl) ?_
            refine g_if_eq (tgt := 242) hx hb ⟨by omega, by omega⟩ dX9_tidy_229 (by decide) (fun c_229 => ?_) (fun c_229 => ?_)
            · skip
              have x242 : (va_up (va_up (va_up v_180 tu ((v_180 (co f (k).toNat)).tmod (v_180 sh))) tq ((v_180 (co f (k).toNat)).tdiv (v_180 sh))) (co f (k).toNat) ((va_up (va_up v_180 tu ((v_180 (co f (k).toNat)).tmod (v_180 sh))) tq ((v_180 (co f (k).toNat)).tdiv (v_180 sh))) tq)) (co f k.toNat) = (if (v (co f (pd f).toNat)) < 0 then -((v (co f k.toNat)).tdiv ((cgN (fun i => v (co f i)) (pd f).toNat (pd f).toNat : Nat) : Int)) else (v (co f k.toNat)).tdiv ((cgN (fun i => v (co f i)) (pd f).toNat (pd f).toNat : Nat) : Int)) := by
                have w1 := r2 k.toNat (by omega) (by omega)
                have np : fl = 0 → ¬ (v (co f (pd f).toNat)) < 0 := fun h q => by rw [if_pos q] at hfl; omega
                have pp : fl ≠ 0 → (v (co f (pd f).toNat)) < 0 := fun h => by
                  apply Classical.byContradiction
                  intro q
                  rw [if_neg q] at hfl
                  exact h hfl
                first
                  | (rw [w1, if_neg (np (by omega)), show ((cgN (fun i => v (co f i)) (pd f).toNat (pd f).toNat : Nat) : Int) = 1 by omega, Int.tdiv_one]; done)
                  | (rw [va_up_self, w1, if_pos (pp (by omega)), show ((cgN (fun i => v (co f i)) (pd f).toNat (pd f).toNat : Nat) : Int) = 1 by omega, Int.tdiv_one]; done)
                  | (rw [va_up_self, va_up_self, w1, r3, if_neg (np (by omega))]; done)
                  | (rw [va_up_self, va_up_self, va_up_self, w1, r3, if_pos (pp (by omega))]; done)
              have y242 : ∀ b : Nat, b ≠ co f k.toNat → b ≠ tu → b ≠ tq → (va_up (va_up (va_up v_180 tu ((v_180 (co f (k).toNat)).tmod (v_180 sh))) tq ((v_180 (co f (k).toNat)).tdiv (v_180 sh))) (co f (k).toNat) ((va_up (va_up v_180 tu ((v_180 (co f (k).toNat)).tmod (v_180 sh))) tq ((v_180 (co f (k).toNat)).tdiv (v_180 sh))) tq)) b = v_180 b := fun b h1 h2 h3 => by
                first
                  | rfl
                  | (rw [va_up_ne _ _ h1]; done)
                  | (rw [va_up_ne _ _ h1, va_up_ne _ _ h3, va_up_ne _ _ h2]; done)
                  | (rw [va_up_ne _ _ h1, va_up_ne _ _ h1, va_up_ne _ _ h3, va_up_ne _ _ h2]; done)
              refine g_iinc (k := 5) (z := k) (n := (1)) (lv' := [(7, Iz (k + 1)), (0, .ref t0), (1, .ref f), (2, .ref sh), (5, Iz (fl)), (6, Iz (z172))]) hx hb dX9_tidy_242 hl rfl (by decide) rfl (fun ls hl => ?_)
              refine lv_goto (tgt := 180) hx hb dX9_tidy_245 (by decide) ?_
              exact ih_180 _ (by omega) _ _ _ _ _ ⟨_, _, _, _, _, (va_up (va_up (va_up v_180 tu ((v_180 (co f (k).toNat)).tmod (v_180 sh))) tq ((v_180 (co f (k).toNat)).tdiv (v_180 sh))) (co f (k).toNat) ((va_up (va_up v_180 tu ((v_180 (co f (k).toNat)).tmod (v_180 sh))) tq ((v_180 (co f (k).toNat)).tdiv (v_180 sh))) tq)), (k + 1), rfl, rfl, rfl, hN, (by omega), (by omega), (fun j h => by
                        by_cases w : j = k.toNat
                        · rw [w]; exact x242
                        · rw [y242 _ (fun q_ => w (hO.2 _ mf _ mf _ _ (by omega) (by omega) q_).2) (scu f mf _ (by omega)) (scq f mf _ (by omega))]; exact r1 j (by omega)), (fun j h h2 => by rw [y242 _ (fun q_ => by have := (hO.2 _ mf _ mf _ _ (by omega) (by omega) q_).2; omega) (scu f mf _ (by omega)) (scq f mf _ (by omega))]; exact r2 j (by omega) h2), (by rw [y242 _ (Ne.symm (scsh f mf _ (by omega))) nshtu nshtq]; exact r3), (fun b h h1 h2 h3 h4 h5 => by rw [y242 _ (h _ (by omega)) h5 h3]; exact r4 b h h1 h2 h3 h4 h5), hV, lv_sub hl [1, 2, 3, 4, 5, 0] rfl⟩
            · skip
              refine lv_aload_n hx hb dX9_tidy_232 rfl (lv_at hl 1 rfl) ?_
              refine y_getc E hK hV mf cf_9_74 dX9_tidy_233 ?_
              refine lv_iload hx hb dX9_tidy_236 (lv_at hl 5 rfl) ?_
              refine y_aald hx hb hK hV mf (by omega) (by omega) dX9_tidy_238 ?_
              refine c_callv (As := []) (rest := []) E (k0_flip (v := (va_up (va_up (va_up v_180 tu ((v_180 (co f (k).toNat)).tmod (v_180 sh))) tq ((v_180 (co f (k).toNat)).tdiv (v_180 sh))) (co f (k).toNat) ((va_up (va_up v_180 tu ((v_180 (co f (k).toNat)).tmod (v_180 sh))) tq ((v_180 (co f (k).toNat)).tdiv (v_180 sh))) tq))) (h0 := (co f (k).toNat)) (hO.1 f mf _ (by omega)) hN) (cwV 0 hts (cGood cl_X9_101 ci_X0_flip cs_X0_flip cn_RX0 cc_X0_flip) rfl rfl rfl (by decide +kernel) ⟨Nat.le_of_ble_eq_true rfl, Nat.le_of_ble_eq_true rfl⟩) (b_recv hK hV (hO.1 f mf _ (by omega))) hK hV hA hR rfl hl.1 (Nat.le_of_ble_eq_true rfl) dX9_tidy_239 (fun X239 dd239 nn239 ss239 ll239 gg239 H locs q239 hV hm239 => ?_)
              obtain ⟨e1_, hN⟩ := q239
              obtain rfl := e1_.symm
              have x242 : (va_up (va_up (va_up (va_up v_180 tu ((v_180 (co f (k).toNat)).tmod (v_180 sh))) tq ((v_180 (co f (k).toNat)).tdiv (v_180 sh))) (co f (k).toNat) ((va_up (va_up v_180 tu ((v_180 (co f (k).toNat)).tmod (v_180 sh))) tq ((v_180 (co f (k).toNat)).tdiv (v_180 sh))) tq)) (co f (k).toNat) (-((va_up (va_up (va_up v_180 tu ((v_180 (co f (k).toNat)).tmod (v_180 sh))) tq ((v_180 (co f (k).toNat)).tdiv (v_180 sh))) (co f (k).toNat) ((va_up (va_up v_180 tu ((v_180 (co f (k).toNat)).tmod (v_180 sh))) tq ((v_180 (co f (k).toNat)).tdiv (v_180 sh))) tq)) (co f (k).toNat)))) (co f k.toNat) = (if (v (co f (pd f).toNat)) < 0 then -((v (co f k.toNat)).tdiv ((cgN (fun i => v (co f i)) (pd f).toNat (pd f).toNat : Nat) : Int)) else (v (co f k.toNat)).tdiv ((cgN (fun i => v (co f i)) (pd f).toNat (pd f).toNat : Nat) : Int)) := by
                have w1 := r2 k.toNat (by omega) (by omega)
                have np : fl = 0 → ¬ (v (co f (pd f).toNat)) < 0 := fun h q => by rw [if_pos q] at hfl; omega
                have pp : fl ≠ 0 → (v (co f (pd f).toNat)) < 0 := fun h => by
                  apply Classical.byContradiction
                  intro q
                  rw [if_neg q] at hfl
                  exact h hfl
                first
                  | (rw [w1, if_neg (np (by omega)), show ((cgN (fun i => v (co f i)) (pd f).toNat (pd f).toNat : Nat) : Int) = 1 by omega, Int.tdiv_one]; done)
                  | (rw [va_up_self, w1, if_pos (pp (by omega)), show ((cgN (fun i => v (co f i)) (pd f).toNat (pd f).toNat : Nat) : Int) = 1 by omega, Int.tdiv_one]; done)
                  | (rw [va_up_self, va_up_self, w1, r3, if_neg (np (by omega))]; done)
                  | (rw [va_up_self, va_up_self, va_up_self, w1, r3, if_pos (pp (by omega))]; done)
              have y242 : ∀ b : Nat, b ≠ co f k.toNat → b ≠ tu → b ≠ tq → (va_up (va_up (va_up (va_up v_180 tu ((v_180 (co f (k).toNat)).tmod (v_180 sh))) tq ((v_180 (co f (k).toNat)).tdiv (v_180 sh))) (co f (k).toNat) ((va_up (va_up v_180 tu ((v_180 (co f (k).toNat)).tmod (v_180 sh))) tq ((v_180 (co f (k).toNat)).tdiv (v_180 sh))) tq)) (co f (k).toNat) (-((va_up (va_up (va_up v_180 tu ((v_180 (co f (k).toNat)).tmod (v_180 sh))) tq ((v_180 (co f (k).toNat)).tdiv (v_180 sh))) (co f (k).toNat) ((va_up (va_up v_180 tu ((v_180 (co f (k).toNat)).tmod (v_180 sh))) tq ((v_180 (co f (k).toNat)).tdiv (v_180 sh))) tq)) (co f (k).toNat)))) b = v_180 b := fun b h1 h2 h3 => by
                first
                  | rfl
                  | (rw [va_up_ne _ _ h1]; done)
                  | (rw [va_up_ne _ _ h1, va_up_ne _ _ h3, va_up_ne _ _ h2]; done)
                  | (rw [va_up_ne _ _ h1, va_up_ne _ _ h1, va_up_ne _ _ h3, va_up_ne _ _ h2]; done)
              refine g_iinc (k := 5) (z := k) (n := (1)) (lv' := [(7, Iz (k + 1)), (0, .ref t0), (1, .ref f), (2, .ref sh), (5, Iz (fl)), (6, Iz (z172))]) hx hb dX9_tidy_242 hl rfl (by decide) rfl (fun ls hl => ?_)
              refine lv_goto (tgt := 180) hx hb dX9_tidy_245 (by decide) ?_
              exact ih_180 _ (by omega) _ _ _ _ _ ⟨_, _, _, _, _, (va_up (va_up (va_up (va_up v_180 tu ((v_180 (co f (k).toNat)).tmod (v_180 sh))) tq ((v_180 (co f (k).toNat)).tdiv (v_180 sh))) (co f (k).toNat) ((va_up (va_up v_180 tu ((v_180 (co f (k).toNat)).tmod (v_180 sh))) tq ((v_180 (co f (k).toNat)).tdiv (v_180 sh))) tq)) (co f (k).toNat) (-((va_up (va_up (va_up v_180 tu ((v_180 (co f (k).toNat)).tmod (v_180 sh))) tq ((v_180 (co f (k).toNat)).tdiv (v_180 sh))) (co f (k).toNat) ((va_up (va_up v_180 tu ((v_180 (co f (k).toNat)).tmod (v_180 sh))) tq ((v_180 (co f (k).toNat)).tdiv (v_180 sh))) tq)) (co f (k).toNat)))), (k + 1), rfl, rfl, rfl, hN, (by omega), (by omega), (fun j h => by
                        by_cases w : j = k.toNat
                        · rw [w]; exact x242
                        · rw [y242 _ (fun q_ => w (hO.2 _ mf _ mf _ _ (by omega) (by omega) q_).2) (scu f mf _ (by omega)) (scq f mf _ (by omega))]; exact r1 j (by omega)), (fun j h h2 => by rw [y242 _ (fun q_ => by have := (hO.2 _ mf _ mf _ _ (by omega) (by omega) q_).2; omega) (scu f mf _ (by omega)) (scq f mf _ (by omega))]; exact r2 j (by omega) h2), (by rw [y242 _ (Ne.symm (scsh f mf _ (by omega))) nshtu nshtq]; exact r3), (fun b h h1 h2 h3 h4 h5 => by rw [y242 _ (h _ (by omega)) h5 h3]; exact r4 b h h1 h2 h3 h4 h5), hV, lv_sub hl [1, 2, 3, 4, 5, 0] rfl⟩
      · skip
        refine g_if_ge (tgt := 168) hx hb (by first | assumption | exact ⟨by omega, by omega⟩) dX9_tidy_161 (by decide) (fun c_161 => ?_) (fun c_161 => ?_)
        · skip
          refine lv_iconst (v := Int32.ofInt (0)) hx hb dX9_tidy_168 (by decide) ?_
          exact k_169 _ (by first | rw [if_pos (by omega)] | rw [if_neg (by omega)])
        · skip
          refine lv_iconst (v := Int32.ofInt (1)) hx hb dX9_tidy_164 (by decide) ?_
          refine lv_goto (tgt := 169) hx hb dX9_tidy_165 (by decide) ?_
          exact k_169 _ (by first | rw [if_pos (by omega)] | rw [if_neg (by omega)])
    · skip
      refine lv_aload_n hx hb dX9_tidy_45 rfl (lv_at hl 2 rfl) ?_
      refine c_calli (As := []) (rest := []) E (k0_isOne (v := v_40) (h0 := sh) msh hN) (cwV 0 hts (cGood cl_X9_70 ci_X0_isOne cs_X0_isOne cn_RX0 cc_X0_isOne) rfl rfl rfl (by decide +kernel) ⟨Nat.le_of_ble_eq_true rfl, Nat.le_of_ble_eq_true rfl⟩) (b_recv hK hV msh) hK hV hA hR rfl hl.1 (Nat.le_of_ble_eq_true rfl) dX9_tidy_46 (fun z46 X46 dd46 nn46 ss46 ll46 gg46 H locs q46 hV hm46 => ?_)
      obtain ⟨e1_, e2_, e3_, e4_, e5_, e6_, q46⟩ := q46
      obtain rfl := e1_.symm
      obtain rfl := e2_.symm
      obtain rfl := e3_.symm
      obtain rfl := e4_.symm
      obtain rfl := e5_.symm
      obtain rfl := e6_.symm
      refine g_if_ne (tgt := 149) hx hb ⟨by omega, by omega⟩ dX9_tidy_49 (by decide) (fun c_49 => ?_) (fun c_49 => ?_)
      · skip
        have x149 : (v_40 sh).natAbs = cgN (fun i => v (co f i)) (pd f).toNat (pd f).toNat := by
          first
            | (rw [c1, show (pd f - 1 - i).toNat = (pd f).toNat by omega])
            | (have o1 : (v_40 sh).natAbs = 1 := by
                 apply Classical.byContradiction
                 intro w
                 rw [if_neg w] at q46
                 omega
               have o2 := cgN_one (c1.symm.trans o1) ((pd f).toNat - (pd f - 1 - i).toNat)
               rw [show (pd f - 1 - i).toNat + ((pd f).toNat - (pd f - 1 - i).toNat) = (pd f).toNat by omega] at o2
               rw [o1, o2])
        have gp := cgN_pos (F := (fun i => v (co f i))) (n := (pd f).toNat) ldz (pd f).toNat
        refine lv_aload_n hx hb dX9_tidy_149 rfl (lv_at hl 2 rfl) ?_
        refine lv_iconst (v := Int32.ofInt (1)) hx hb dX9_tidy_150 (by decide) ?_
        refine t_puts E hK hV msh rfl cf_9_79 dX9_tidy_151 (fun H locs hV => ?_)
        have hN : cR LB nn_40 (va_up ss_40 sh 1) ll_40 gg_40 (va_up v_40 sh ((cgN (fun i => v (co f i)) (pd f).toNat (pd f).toNat : Nat) : Int)) := cR_sign hN msh (by rw [x149]; rfl) (by unfold sg; rw [if_pos (by omega)])
        refine lv_aload_n hx hb dX9_tidy_154 rfl (lv_at hl 1 rfl) ?_
        refine c_callr (As := []) (rest := []) E (k4_lead (p0 := f) mf (by omega) (by omega)) (cwV 0 hts (cGood cl_X9_62 ci_X4_lead cs_X4_lead cn_RX4 cc_X4_lead) rfl rfl rfl (by decide +kernel) ⟨Nat.le_of_ble_eq_true rfl, Nat.le_of_ble_eq_true rfl⟩) (y_recv hK hV mf) hK hV hA hR rfl hl.1 (Nat.le_of_ble_eq_true rfl) dX9_tidy_155 (fun a155 X155 dd155 nn155 ss155 ll155 gg155 H locs q155 hV hm155 => ?_)
        obtain ⟨e1_, e2_, e3_, e4_, e5_, e6_, q155⟩ := q155
        obtain rfl := e1_.symm
        obtain rfl := e2_.symm
        obtain rfl := e3_.symm
        obtain rfl := e4_.symm
        obtain rfl := e5_.symm
        obtain rfl := e6_.symm
        subst q155
        refine t_gets E hK hV (hO.1 f mf _ (by omega)) ((va_up_ne _ _ (scsh f mf _ (by omega))).trans rfl) cf_9_79 dX9_tidy_158 ?_
        have cld : v_40 (co f (pd f).toNat) = (v (co f (pd f).toNat)) := c2 _ (sca f mf _ (by omega)) (scb f mf _ (by omega)) (scq f mf _ (by omega)) (sct f mf _ (by omega))
        have sgl := num1_sg (hN (co f (pd f).toNat) (hO.1 f mf _ (by omega)))
        rw [va_up_ne _ _ (scsh f mf _ (by omega)), va_up_ne _ _ (scsh f mf _ (by omega)), cld] at sgl
        have sgn_ := @sg_neg (v (co f (pd f).toNat))
        have sgb_ := sg_bd (v (co f (pd f).toNat))
        refine r_join (P := fun z : Int => z = (if (v (co f (pd f).toNat)) < 0 then 1 else 0)) (g := fun z => F0 m 169 ls [Iz z]) (fun fl hfl => ?_) (fun k_169 => ?_)
        · skip
          refine lv_istore (lv' := [(5, Iz (fl)), (0, .ref t0), (1, .ref f), (2, .ref sh), (3, .ref nx), (4, .ref ot)]) hx hb dX9_tidy_169 hl (by decide) rfl (fun ls hl => ?_)
          refine lv_aload_n hx hb dX9_tidy_171 rfl (lv_at hl 3 rfl) ?_
          refine c_calli (As := []) (rest := []) E (k0_isOne (v := va_up v_40 sh ((cgN (fun i => v (co f i)) (pd f).toNat (pd f).toNat : Nat) : Int)) (h0 := sh) msh hN) (cwV 0 hts (cGood cl_X9_70 ci_X0_isOne cs_X0_isOne cn_RX0 cc_X0_isOne) rfl rfl rfl (by decide +kernel) ⟨Nat.le_of_ble_eq_true rfl, Nat.le_of_ble_eq_true rfl⟩) (b_recv hK hV msh) hK hV hA hR rfl hl.1 (Nat.le_of_ble_eq_true rfl) dX9_tidy_172 (fun z172 X172 dd172 nn172 ss172 ll172 gg172 H locs q172 hV hm172 => ?_)
          obtain ⟨e1_, e2_, e3_, e4_, e5_, e6_, q172⟩ := q172
          obtain rfl := e1_.symm
          obtain rfl := e2_.symm
          obtain rfl := e3_.symm
          obtain rfl := e4_.symm
          obtain rfl := e5_.symm
          obtain rfl := e6_.symm
          have wh : z172 = 0 ∨ ((cgN (fun i => v (co f i)) (pd f).toNat (pd f).toNat : Nat) : Int) = 1 := by
            rw [va_up_self] at q172
            by_cases w : (((cgN (fun i => v (co f i)) (pd f).toNat (pd f).toNat : Nat) : Int)).natAbs = 1
            · exact Or.inr (by omega)
            · rw [if_neg w] at q172; exact Or.inl q172
          refine lv_istore (lv' := [(6, Iz (z172)), (5, Iz (fl)), (0, .ref t0), (1, .ref f), (2, .ref sh), (3, .ref nx), (4, .ref ot)]) hx hb dX9_tidy_175 hl (by decide) rfl (fun ls hl => ?_)
          refine lv_iconst (v := Int32.ofInt (0)) hx hb dX9_tidy_177 (by decide) ?_
          refine lv_istore (lv' := [(7, Iz (0)), (6, Iz (z172)), (5, Iz (fl)), (0, .ref t0), (1, .ref f), (2, .ref sh), (3, .ref nx), (4, .ref ot)]) hx hb dX9_tidy_178 hl (by decide) rfl (fun ls hl => ?_)
          refine r_loop2 (P := fun N_ ce sl H locs ls => ∃ dd_180 : Nat → Nat, ∃ nn_180 ss_180 : Nat → Int, ∃ ll_180 : Nat → Nat, ∃ gg_180 : Nat → Int → Int, ∃ v_180 : Nat → Int, ∃ k : Int, N_ = (pd f + 1 - k).toNat ∧ ce = cP LB ll_180 - cP LB ll ∧ sl = 2 * (cP LB ll_180 - cP LB ll) ∧ cR LB nn_180 ss_180 ll_180 gg_180 v_180 ∧ (0 ≤ k) ∧ (k ≤ pd f + 1) ∧ (∀ j : Nat, (j : Int) < k → v_180 (co f j) = (if (v (co f (pd f).toNat)) < 0 then -((v (co f j)).tdiv ((cgN (fun i => v (co f i)) (pd f).toNat (pd f).toNat : Nat) : Int)) else (v (co f j)).tdiv ((cgN (fun i => v (co f i)) (pd f).toNat (pd f).toNat : Nat) : Int))) ∧ (∀ j : Nat, k ≤ (j : Int) → (j : Int) ≤ pd f → v_180 (co f j) = v (co f j)) ∧ (v_180 sh = ((cgN (fun i => v (co f i)) (pd f).toNat (pd f).toNat : Nat) : Int)) ∧ (∀ b : Nat, (∀ j : Nat, (j : Int) ≤ pd f → b ≠ co f j) → b ≠ ta → b ≠ tb → b ≠ tq → b ≠ tt → b ≠ tu → v_180 b = v b) ∧ cV dC dI cx LB (va_A (bW (cx 0) LB dd nn ss ll gg (pW cx LP pc_ pd co X)) s.heap.size) s.heap ll (pW cx LP pc_ pd co X) dd_180 nn_180 ss_180 ll_180 gg_180 H locs ∧ lv_has ls 8 [(0, .ref t0), (1, .ref f), (2, .ref sh), (5, Iz (fl)), (6, Iz (z172)), (7, Iz (k))]) (g := fun ls => F0 m 180 ls []) (fun N_ ce sl H locs ls hI ih_180 => ?_) _ _ _ _ _ _ ⟨_, _, _, _, _, (va_up v_40 sh ((cgN (fun i => v (co f i)) (pd f).toNat (pd f).toNat : Nat) : Int)), 0, rfl, rfl, rfl, hN, (Int.le_refl 0), (by omega), (fun j h => by omega), (fun j _ h => by rw [va_up_ne _ _ (scsh f mf _ (by omega))]; exact c2 _ (sca f mf _ (by omega)) (scb f mf _ (by omega)) (scq f mf _ (by omega)) (sct f mf _ (by omega))), (by rw [va_up_self]), (fun b _ h1 h2 h3 h4 _ => by rw [va_up_ne _ _ (pm.ne h1 h2 h4).1]; exact c2 b h1 h2 h3 h4), hV, lv_sub hl [3, 4, 5, 2, 1, 0] rfl⟩
          obtain ⟨dd_180, nn_180, ss_180, ll_180, gg_180, v_180, k, rfl, rfl, rfl, hN, k0, k1, r1, r2, r3, r4, hV, hl⟩ := hI
          refine lv_iload hx hb dX9_tidy_180 (lv_at hl 5 rfl) ?_
          refine lv_aload_n hx hb dX9_tidy_182 rfl (lv_at hl 1 rfl) ?_
          refine y_getdeg E hK hV mf rfl cf_9_59 dX9_tidy_183 ?_
          refine g_icmp_gt (tgt := 248) hx hb ⟨by omega, by omega⟩ ⟨by omega, by omega⟩ dX9_tidy_186 (by decide) (fun c_186 => ?_) (fun c_186 => ?_)
          · skip
            have hpost : ∃ v' : Nat → Int, (pW cx LP pc_ pd co X) = (pW cx LP pc_ pd co X) ∧ cR LB nn_180 ss_180 ll_180 gg_180 v' ∧ (∀ j : Nat, (j : Int) ≤ pd f → v' (co f j) = (if (v (co f (pd f).toNat)) < 0 then -((v (co f j)).tdiv ((cgN (fun i => v (co f i)) (pd f).toNat (pd f).toNat : Nat) : Int)) else (v (co f j)).tdiv ((cgN (fun i => v (co f i)) (pd f).toNat (pd f).toNat : Nat) : Int))) ∧ ∀ b : Nat, (∀ j : Nat, (j : Int) ≤ pd f → b ≠ co f j) → b ≠ ta → b ≠ tb → b ≠ tq → b ≠ tt → b ≠ tu → v' b = v b := ⟨_, rfl, hN, fun j h => r1 j (by omega), r4⟩
            exact c_vret hx hb hr hK hV hpost dX9_tidy_248 hlocks
          · skip
            refine lv_iload hx hb dX9_tidy_189 (lv_at hl 4 rfl) ?_
            refine g_if_ne (tgt := 227) hx hb ⟨by omega, by omega⟩ dX9_tidy_191 (by decide) (fun c_191 => ?_) (fun c_191 => ?_)
            · skip
              refine lv_iload hx hb dX9_tidy_227 (lv_at hl 3 rfl) ?_
              refine g_if_eq (tgt := 242) hx hb ⟨by omega, by omega⟩ dX9_tidy_229 (by decide) (fun c_229 => ?_) (fun c_229 => ?_)
              · skip
                have x242 : v_180 (co f k.toNat) = (if (v (co f (pd f).toNat)) < 0 then -((v (co f k.toNat)).tdiv ((cgN (fun i => v (co f i)) (pd f).toNat (pd f).toNat : Nat) : Int)) else (v (co f k.toNat)).tdiv ((cgN (fun i => v (co f i)) (pd f).toNat (pd f).toNat : Nat) : Int)) := by
                  have w1 := r2 k.toNat (by omega) (by omega)
                  have np : fl = 0 → ¬ (v (co f (pd f).toNat)) < 0 := fun h q => by rw [if_pos q] at hfl; omega
                  have pp : fl ≠ 0 → (v (co f (pd f).toNat)) < 0 := fun h => by
                    apply Classical.byContradiction
                    intro q
                    rw [if_neg q] at hfl
                    exact h hfl
                  first
                    | (rw [w1, if_neg (np (by omega)), show ((cgN (fun i => v (co f i)) (pd f).toNat (pd f).toNat : Nat) : Int) = 1 by omega, Int.tdiv_one]; done)
                    | (rw [va_up_self, w1, if_pos (pp (by omega)), show ((cgN (fun i => v (co f i)) (pd f).toNat (pd f).toNat : Nat) : Int) = 1 by omega, Int.tdiv_one]; done)
                    | (rw [va_up_self, va_up_self, w1, r3, if_neg (np (by omega))]; done)
                    | (rw [va_up_self, va_up_self, va_up_self, w1, r3, if_pos (pp (by omega))]; done)
                have y242 : ∀ b : Nat, b ≠ co f k.toNat → b ≠ tu → b ≠ tq → v_180 b = v_180 b := fun b h1 h2 h3 => by
                  first
                    | rfl
                    | (rw [va_up_ne _ _ h1]; done)
                    | (rw [va_up_ne _ _ h1, va_up_ne _ _ h3, va_up_ne _ _ h2]; done)
                    | (rw [va_up_ne _ _ h1, va_up_ne _ _ h1, va_up_ne _ _ h3, va_up_ne _ _ h2]; done)
                refine g_iinc (k := 5) (z := k) (n := (1)) (lv' := [(7, Iz (k + 1)), (0, .ref t0), (1, .ref f), (2, .ref sh), (5, Iz (fl)), (6, Iz (z172))]) hx hb dX9_tidy_242 hl rfl (by decide) rfl (fun ls hl => ?_)
                refine lv_goto (tgt := 180) hx hb dX9_tidy_245 (by decide) ?_
                exact ih_180 _ (by omega) _ _ _ _ _ ⟨_, _, _, _, _, v_180, (k + 1), rfl, rfl, rfl, hN, (by omega), (by omega), (fun j h => by
                          by_cases w : j = k.toNat
                          · rw [w]; exact x242
                          · rw [y242 _ (fun q_ => w (hO.2 _ mf _ mf _ _ (by omega) (by omega) q_).2) (scu f mf _ (by omega)) (scq f mf _ (by omega))]; exact r1 j (by omega)), (fun j h h2 => by rw [y242 _ (fun q_ => by have := (hO.2 _ mf _ mf _ _ (by omega) (by omega) q_).2; omega) (scu f mf _ (by omega)) (scq f mf _ (by omega))]; exact r2 j (by omega) h2), (by rw [y242 _ (Ne.symm (scsh f mf _ (by omega))) nshtu nshtq]; exact r3), (fun b h h1 h2 h3 h4 h5 => by rw [y242 _ (h _ (by omega)) h5 h3]; exact r4 b h h1 h2 h3 h4 h5), hV, lv_sub hl [1, 2, 3, 4, 5, 0] rfl⟩
              · skip
                refine lv_aload_n hx hb dX9_tidy_232 rfl (lv_at hl 1 rfl) ?_
                refine y_getc E hK hV mf cf_9_74 dX9_tidy_233 ?_
                refine lv_iload hx hb dX9_tidy_236 (lv_at hl 5 rfl) ?_
                refine y_aald hx hb hK hV mf (by omega) (by omega) dX9_tidy_238 ?_
                refine c_callv (As := []) (rest := []) E (k0_flip (v := v_180) (h0 := (co f (k).toNat)) (hO.1 f mf _ (by omega)) hN) (cwV 0 hts (cGood cl_X9_101 ci_X0_flip cs_X0_flip cn_RX0 cc_X0_flip) rfl rfl rfl (by decide +kernel) ⟨Nat.le_of_ble_eq_true rfl, Nat.le_of_ble_eq_true rfl⟩) (b_recv hK hV (hO.1 f mf _ (by omega))) hK hV hA hR rfl hl.1 (Nat.le_of_ble_eq_true rfl) dX9_tidy_239 (fun X239 dd239 nn239 ss239 ll239 gg239 H locs q239 hV hm239 => ?_)
                obtain ⟨e1_, hN⟩ := q239
                obtain rfl := e1_.symm
                have x242 : (va_up v_180 (co f (k).toNat) (-(v_180 (co f (k).toNat)))) (co f k.toNat) = (if (v (co f (pd f).toNat)) < 0 then -((v (co f k.toNat)).tdiv ((cgN (fun i => v (co f i)) (pd f).toNat (pd f).toNat : Nat) : Int)) else (v (co f k.toNat)).tdiv ((cgN (fun i => v (co f i)) (pd f).toNat (pd f).toNat : Nat) : Int)) := by
                  have w1 := r2 k.toNat (by omega) (by omega)
                  have np : fl = 0 → ¬ (v (co f (pd f).toNat)) < 0 := fun h q => by rw [if_pos q] at hfl; omega
                  have pp : fl ≠ 0 → (v (co f (pd f).toNat)) < 0 := fun h => by
                    apply Classical.byContradiction
                    intro q
                    rw [if_neg q] at hfl
                    exact h hfl
                  first
                    | (rw [w1, if_neg (np (by omega)), show ((cgN (fun i => v (co f i)) (pd f).toNat (pd f).toNat : Nat) : Int) = 1 by omega, Int.tdiv_one]; done)
                    | (rw [va_up_self, w1, if_pos (pp (by omega)), show ((cgN (fun i => v (co f i)) (pd f).toNat (pd f).toNat : Nat) : Int) = 1 by omega, Int.tdiv_one]; done)
                    | (rw [va_up_self, va_up_self, w1, r3, if_neg (np (by omega))]; done)
                    | (rw [va_up_self, va_up_self, va_up_self, w1, r3, if_pos (pp (by omega))]; done)
                have y242 : ∀ b : Nat, b ≠ co f k.toNat → b ≠ tu → b ≠ tq → (va_up v_180 (co f (k).toNat) (-(v_180 (co f (k).toNat)))) b = v_180 b := fun b h1 h2 h3 => by
                  first
                    | rfl
                    | (rw [va_up_ne _ _ h1]; done)
                    | (rw [va_up_ne _ _ h1, va_up_ne _ _ h3, va_up_ne _ _ h2]; done)
                    | (rw [va_up_ne _ _ h1, va_up_ne _ _ h1, va_up_ne _ _ h3, va_up_ne _ _ h2]; done)
                refine g_iinc (k := 5) (z := k) (n := (1)) (lv' := [(7, Iz (k + 1)), (0, .ref t0), (1, .ref f), (2, .ref sh), (5, Iz (fl)), (6, Iz (z172))]) hx hb dX9_tidy_242 hl rfl (by decide) rfl (fun ls hl => ?_)
                refine lv_goto (tgt := 180) hx hb dX9_tidy_245 (by decide) ?_
                exact ih_180 _ (by omega) _ _ _ _ _ ⟨_, _, _, _, _, (va_up v_180 (co f (k).toNat) (-(v_180 (co f (k).toNat)))), (k + 1), rfl, rfl, rfl, hN, (by omega), (by omega), (fun j h => by
                          by_cases w : j = k.toNat
                          · rw [w]; exact x242
                          · rw [y242 _ (fun q_ => w (hO.2 _ mf _ mf _ _ (by omega) (by omega) q_).2) (scu f mf _ (by omega)) (scq f mf _ (by omega))]; exact r1 j (by omega)), (fun j h h2 => by rw [y242 _ (fun q_ => by have := (hO.2 _ mf _ mf _ _ (by omega) (by omega) q_).2; omega) (scu f mf _ (by omega)) (scq f mf _ (by omega))]; exact r2 j (by omega) h2), (by rw [y242 _ (Ne.symm (scsh f mf _ (by omega))) nshtu nshtq]; exact r3), (fun b h h1 h2 h3 h4 h5 => by rw [y242 _ (h _ (by omega)) h5 h3]; exact r4 b h h1 h2 h3 h4 h5), hV, lv_sub hl [1, 2, 3, 4, 5, 0] rfl⟩
            · skip
              refine lv_aload_n hx hb dX9_tidy_194 rfl (lv_at hl 0 rfl) ?_
              refine x_get E hK hV (ci := 9) (C := RX9) (T := TX9) (N := 8) rfl w0c_in9 (pW_x hTo) 4 (by decide) rfl cf_9_27 rfl dX9_tidy_195 ?_
              refine lv_aload_n hx hb dX9_tidy_198 rfl (lv_at hl 1 rfl) ?_
              refine y_getc E hK hV mf cf_9_74 dX9_tidy_199 ?_
              refine lv_iload hx hb dX9_tidy_202 (lv_at hl 5 rfl) ?_
              refine y_aald hx hb hK hV mf (by omega) (by omega) dX9_tidy_204 ?_
              refine lv_aload_n hx hb dX9_tidy_205 rfl (lv_at hl 2 rfl) ?_
              refine lv_aload_n hx hb dX9_tidy_206 rfl (lv_at hl 0 rfl) ?_
              refine x_get E hK hV (ci := 9) (C := RX9) (T := TX9) (N := 8) rfl w0c_in9 (pW_x hTo) 2 (by decide) rfl cf_9_21 rfl dX9_tidy_207 ?_
              have s210 := num1_le (hN _ (hO.1 f mf _ (by omega))) (show ((v_180 (co f (k).toNat)).natAbs : Int) < 1073741824 ^ 80 by rw [r2 _ (by omega) (by omega)]; exact sF _ (by omega))
              refine c_callv (As := [.ref (co f (k).toNat), .ref sh, .ref tq]) (rest := []) E (k0_rest (v := v_180) (h0 := tu) (a := (co f (k).toNat)) (b := sh) (qq := tq) mtu hN (hO.1 f mf _ (by omega)) msh mtq (Ne.symm (scu f mf _ (by omega))) (Ne.symm nshtu) (Ne.symm nqu) (scq f mf _ (by omega)) nshtq (by omega)) (cwV 3 hts (cGood cl_X9_97 ci_X0_rest cs_X0_rest cn_RX0 cc_X0_rest) rfl rfl rfl (by decide +kernel) ⟨Nat.le_of_ble_eq_true rfl, Nat.le_of_ble_eq_true rfl⟩) (b_recv hK hV mtu) hK hV hA hR rfl hl.1 (Nat.le_of_ble_eq_true rfl) dX9_tidy_210 (fun X210 dd210 nn210 ss210 ll210 gg210 H locs q210 hV hm210 => ?_)
              obtain ⟨e1_, hN⟩ := q210
              obtain rfl := e1_.symm
              refine lv_aload_n hx hb dX9_tidy_213 rfl (lv_at hl 1 rfl) ?_
              refine y_getc E hK hV mf cf_9_74 dX9_tidy_214 ?_
              refine lv_iload hx hb dX9_tidy_217 (lv_at hl 5 rfl) ?_
              refine y_aald hx hb hK hV mf (by omega) (by omega) dX9_tidy_219 ?_
              refine lv_aload_n hx hb dX9_tidy_220 rfl (lv_at hl 0 rfl) ?_
              refine x_get E hK hV (ci := 9) (C := RX9) (T := TX9) (N := 8) rfl w0c_in9 (pW_x hTo) 2 (by decide) rfl cf_9_21 rfl dX9_tidy_221 ?_
              have s224 := num1_le (hN _ mtq) (t := 80) (by rw [va_up_self]; have h1 := td_le (v_180 (co f k.toNat)) (v_180 sh); rw [r2 _ (by omega) (by omega)] at h1; exact Int.lt_of_le_of_lt (by rw [r2 _ (by omega) (by omega)]; exact h1) (sF k.toNat (by omega)))
              refine c_callv (As := [.ref tq]) (rest := []) E (k0_copy (v := (va_up (va_up v_180 tu ((v_180 (co f (k).toNat)).tmod (v_180 sh))) tq ((v_180 (co f (k).toNat)).tdiv (v_180 sh)))) (h0 := (co f (k).toNat)) (a := tq) (hO.1 f mf _ (by omega)) hN mtq (scq f mf _ (by omega)) (by omega)) (cwV 1 hts (cGood cl_X9_66 ci_X0_copy cs_X0_copy cn_RX0 cc_X0_copy) rfl rfl rfl (by decide +kernel) ⟨Nat.le_of_ble_eq_true rfl, Nat.le_of_ble_eq_true rfl⟩) (b_recv hK hV (hO.1 f mf _ (by omega))) hK hV hA hR rfl hl.1 (Nat.le_of_ble_eq_true rfl) dX9_tidy_224 (fun X224 dd224 nn224 ss224 ll224 gg224 H locs q224 hV hm224 => ?_)
              obtain ⟨e1_, hN⟩ := q224
              obtain rfl := e1_.symm
              refine lv_iload hx hb dX9_tidy_227 (lv_at hl 3 rfl) ?_
              refine g_if_eq (tgt := 242) hx hb ⟨by omega, by omega⟩ dX9_tidy_229 (by decide) (fun c_229 => ?_) (fun c_229 => ?_)
              · skip
                have x242 : (va_up (va_up (va_up v_180 tu ((v_180 (co f (k).toNat)).tmod (v_180 sh))) tq ((v_180 (co f (k).toNat)).tdiv (v_180 sh))) (co f (k).toNat) ((va_up (va_up v_180 tu ((v_180 (co f (k).toNat)).tmod (v_180 sh))) tq ((v_180 (co f (k).toNat)).tdiv (v_180 sh))) tq)) (co f k.toNat) = (if (v (co f (pd f).toNat)) < 0 then -((v (co f k.toNat)).tdiv ((cgN (fun i => v (co f i)) (pd f).toNat (pd f).toNat : Nat) : Int)) else (v (co f k.toNat)).tdiv ((cgN (fun i => v (co f i)) (pd f).toNat (pd f).toNat : Nat) : Int)) := by
                  have w1 := r2 k.toNat (by omega) (by omega)
                  have np : fl = 0 → ¬ (v (co f (pd f).toNat)) < 0 := fun h q => by rw [if_pos q] at hfl; omega
                  have pp : fl ≠ 0 → (v (co f (pd f).toNat)) < 0 := fun h => by
                    apply Classical.byContradiction
                    intro q
                    rw [if_neg q] at hfl
                    exact h hfl
                  first
                    | (rw [w1, if_neg (np (by omega)), show ((cgN (fun i => v (co f i)) (pd f).toNat (pd f).toNat : Nat) : Int) = 1 by omega, Int.tdiv_one]; done)
                    | (rw [va_up_self, w1, if_pos (pp (by omega)), show ((cgN (fun i => v (co f i)) (pd f).toNat (pd f).toNat : Nat) : Int) = 1 by omega, Int.tdiv_one]; done)
                    | (rw [va_up_self, va_up_self, w1, r3, if_neg (np (by omega))]; done)
                    | (rw [va_up_self, va_up_self, va_up_self, w1, r3, if_pos (pp (by omega))]; done)
                have y242 : ∀ b : Nat, b ≠ co f k.toNat → b ≠ tu → b ≠ tq → (va_up (va_up (va_up v_180 tu ((v_180 (co f (k).toNat)).tmod (v_180 sh))) tq ((v_180 (co f (k).toNat)).tdiv (v_180 sh))) (co f (k).toNat) ((va_up (va_up v_180 tu ((v_180 (co f (k).toNat)).tmod (v_180 sh))) tq ((v_180 (co f (k).toNat)).tdiv (v_180 sh))) tq)) b = v_180 b := fun b h1 h2 h3 => by
                  first
                    | rfl
                    | (rw [va_up_ne _ _ h1]; done)
                    | (rw [va_up_ne _ _ h1, va_up_ne _ _ h3, va_up_ne _ _ h2]; done)
                    | (rw [va_up_ne _ _ h1, va_up_ne _ _ h1, va_up_ne _ _ h3, va_up_ne _ _ h2]; done)
                refine g_iinc (k := 5) (z := k) (n := (1)) (lv' := [(7, Iz (k + 1)), (0, .ref t0), (1, .ref f), (2, .ref sh), (5, Iz (fl)), (6, Iz (z172))]) hx hb dX9_tidy_242 hl rfl (by decide) rfl (fun ls hl => ?_)
                refine lv_goto (tgt := 180) hx hb dX9_tidy_245 (by decide) ?_
                exact ih_180 _ (by omega) _ _ _ _ _ ⟨_, _, _, _, _, (va_up (va_up (va_up v_180 tu ((v_180 (co f (k).toNat)).tmod (v_180 sh))) tq ((v_180 (co f (k).toNat)).tdiv (v_180 sh))) (co f (k).toNat) ((va_up (va_up v_180 tu ((v_180 (co f (k).toNat)).tmod (v_180 sh))) tq ((v_180 (co f (k).toNat)).tdiv (v_180 sh))) tq)), (k + 1), rfl, rfl, rfl, hN, (by omega), (by omega), (fun j h => by
                          by_cases w : j = k.toNat
                          · rw [w]; exact x242
                          · rw [y242 _ (fun q_ => w (hO.2 _ mf _ mf _ _ (by omega) (by omega) q_).2) (scu f mf _ (by omega)) (scq f mf _ (by omega))]; exact r1 j (by omega)), (fun j h h2 => by rw [y242 _ (fun q_ => by have := (hO.2 _ mf _ mf _ _ (by omega) (by omega) q_).2; omega) (scu f mf _ (by omega)) (scq f mf _ (by omega))]; exact r2 j (by omega) h2), (by rw [y242 _ (Ne.symm (scsh f mf _ (by omega))) nshtu nshtq]; exact r3), (fun b h h1 h2 h3 h4 h5 => by rw [y242 _ (h _ (by omega)) h5 h3]; exact r4 b h h1 h2 h3 h4 h5), hV, lv_sub hl [1, 2, 3, 4, 5, 0] rfl⟩
              · skip
                refine lv_aload_n hx hb dX9_tidy_232 rfl (lv_at hl 1 rfl) ?_
                refine y_getc E hK hV mf cf_9_74 dX9_tidy_233 ?_
                refine lv_iload hx hb dX9_tidy_236 (lv_at hl 5 rfl) ?_
                refine y_aald hx hb hK hV mf (by omega) (by omega) dX9_tidy_238 ?_
                refine c_callv (As := []) (rest := []) E (k0_flip (v := (va_up (va_up (va_up v_180 tu ((v_180 (co f (k).toNat)).tmod (v_180 sh))) tq ((v_180 (co f (k).toNat)).tdiv (v_180 sh))) (co f (k).toNat) ((va_up (va_up v_180 tu ((v_180 (co f (k).toNat)).tmod (v_180 sh))) tq ((v_180 (co f (k).toNat)).tdiv (v_180 sh))) tq))) (h0 := (co f (k).toNat)) (hO.1 f mf _ (by omega)) hN) (cwV 0 hts (cGood cl_X9_101 ci_X0_flip cs_X0_flip cn_RX0 cc_X0_flip) rfl rfl rfl (by decide +kernel) ⟨Nat.le_of_ble_eq_true rfl, Nat.le_of_ble_eq_true rfl⟩) (b_recv hK hV (hO.1 f mf _ (by omega))) hK hV hA hR rfl hl.1 (Nat.le_of_ble_eq_true rfl) dX9_tidy_239 (fun X239 dd239 nn239 ss239 ll239 gg239 H locs q239 hV hm239 => ?_)
                obtain ⟨e1_, hN⟩ := q239
                obtain rfl := e1_.symm
                have x242 : (va_up (va_up (va_up (va_up v_180 tu ((v_180 (co f (k).toNat)).tmod (v_180 sh))) tq ((v_180 (co f (k).toNat)).tdiv (v_180 sh))) (co f (k).toNat) ((va_up (va_up v_180 tu ((v_180 (co f (k).toNat)).tmod (v_180 sh))) tq ((v_180 (co f (k).toNat)).tdiv (v_180 sh))) tq)) (co f (k).toNat) (-((va_up (va_up (va_up v_180 tu ((v_180 (co f (k).toNat)).tmod (v_180 sh))) tq ((v_180 (co f (k).toNat)).tdiv (v_180 sh))) (co f (k).toNat) ((va_up (va_up v_180 tu ((v_180 (co f (k).toNat)).tmod (v_180 sh))) tq ((v_180 (co f (k).toNat)).tdiv (v_180 sh))) tq)) (co f (k).toNat)))) (co f k.toNat) = (if (v (co f (pd f).toNat)) < 0 then -((v (co f k.toNat)).tdiv ((cgN (fun i => v (co f i)) (pd f).toNat (pd f).toNat : Nat) : Int)) else (v (co f k.toNat)).tdiv ((cgN (fun i => v (co f i)) (pd f).toNat (pd f).toNat : Nat) : Int)) := by
                  have w1 := r2 k.toNat (by omega) (by omega)
                  have np : fl = 0 → ¬ (v (co f (pd f).toNat)) < 0 := fun h q => by rw [if_pos q] at hfl; omega
                  have pp : fl ≠ 0 → (v (co f (pd f).toNat)) < 0 := fun h => by
                    apply Classical.byContradiction
                    intro q
                    rw [if_neg q] at hfl
                    exact h hfl
                  first
                    | (rw [w1, if_neg (np (by omega)), show ((cgN (fun i => v (co f i)) (pd f).toNat (pd f).toNat : Nat) : Int) = 1 by omega, Int.tdiv_one]; done)
                    | (rw [va_up_self, w1, if_pos (pp (by omega)), show ((cgN (fun i => v (co f i)) (pd f).toNat (pd f).toNat : Nat) : Int) = 1 by omega, Int.tdiv_one]; done)
                    | (rw [va_up_self, va_up_self, w1, r3, if_neg (np (by omega))]; done)
                    | (rw [va_up_self, va_up_self, va_up_self, w1, r3, if_pos (pp (by omega))]; done)
                have y242 : ∀ b : Nat, b ≠ co f k.toNat → b ≠ tu → b ≠ tq → (va_up (va_up (va_up (va_up v_180 tu ((v_180 (co f (k).toNat)).tmod (v_180 sh))) tq ((v_180 (co f (k).toNat)).tdiv (v_180 sh))) (co f (k).toNat) ((va_up (va_up v_180 tu ((v_180 (co f (k).toNat)).tmod (v_180 sh))) tq ((v_180 (co f (k).toNat)).tdiv (v_180 sh))) tq)) (co f (k).toNat) (-((va_up (va_up (va_up v_180 tu ((v_180 (co f (k).toNat)).tmod (v_180 sh))) tq ((v_180 (co f (k).toNat)).tdiv (v_180 sh))) (co f (k).toNat) ((va_up (va_up v_180 tu ((v_180 (co f (k).toNat)).tmod (v_180 sh))) tq ((v_180 (co f (k).toNat)).tdiv (v_180 sh))) tq)) (co f (k).toNat)))) b = v_180 b := fun b h1 h2 h3 => by
                  first
                    | rfl
                    | (rw [va_up_ne _ _ h1]; done)
                    | (rw [va_up_ne _ _ h1, va_up_ne _ _ h3, va_up_ne _ _ h2]; done)
                    | (rw [va_up_ne _ _ h1, va_up_ne _ _ h1, va_up_ne _ _ h3, va_up_ne _ _ h2]; done)
                refine g_iinc (k := 5) (z := k) (n := (1)) (lv' := [(7, Iz (k + 1)), (0, .ref t0), (1, .ref f), (2, .ref sh), (5, Iz (fl)), (6, Iz (z172))]) hx hb dX9_tidy_242 hl rfl (by decide) rfl (fun ls hl => ?_)
                refine lv_goto (tgt := 180) hx hb dX9_tidy_245 (by decide) ?_
                exact ih_180 _ (by omega) _ _ _ _ _ ⟨_, _, _, _, _, (va_up (va_up (va_up (va_up v_180 tu ((v_180 (co f (k).toNat)).tmod (v_180 sh))) tq ((v_180 (co f (k).toNat)).tdiv (v_180 sh))) (co f (k).toNat) ((va_up (va_up v_180 tu ((v_180 (co f (k).toNat)).tmod (v_180 sh))) tq ((v_180 (co f (k).toNat)).tdiv (v_180 sh))) tq)) (co f (k).toNat) (-((va_up (va_up (va_up v_180 tu ((v_180 (co f (k).toNat)).tmod (v_180 sh))) tq ((v_180 (co f (k).toNat)).tdiv (v_180 sh))) (co f (k).toNat) ((va_up (va_up v_180 tu ((v_180 (co f (k).toNat)).tmod (v_180 sh))) tq ((v_180 (co f (k).toNat)).tdiv (v_180 sh))) tq)) (co f (k).toNat)))), (k + 1), rfl, rfl, rfl, hN, (by omega), (by omega), (fun j h => by
                          by_cases w : j = k.toNat
                          · rw [w]; exact x242
                          · rw [y242 _ (fun q_ => w (hO.2 _ mf _ mf _ _ (by omega) (by omega) q_).2) (scu f mf _ (by omega)) (scq f mf _ (by omega))]; exact r1 j (by omega)), (fun j h h2 => by rw [y242 _ (fun q_ => by have := (hO.2 _ mf _ mf _ _ (by omega) (by omega) q_).2; omega) (scu f mf _ (by omega)) (scq f mf _ (by omega))]; exact r2 j (by omega) h2), (by rw [y242 _ (Ne.symm (scsh f mf _ (by omega))) nshtu nshtq]; exact r3), (fun b h h1 h2 h3 h4 h5 => by rw [y242 _ (h _ (by omega)) h5 h3]; exact r4 b h h1 h2 h3 h4 h5), hV, lv_sub hl [1, 2, 3, 4, 5, 0] rfl⟩
        · skip
          refine g_if_ge (tgt := 168) hx hb (by first | assumption | exact ⟨by omega, by omega⟩) dX9_tidy_161 (by decide) (fun c_161 => ?_) (fun c_161 => ?_)
          · skip
            refine lv_iconst (v := Int32.ofInt (0)) hx hb dX9_tidy_168 (by decide) ?_
            exact k_169 _ (by first | rw [if_pos (by omega)] | rw [if_neg (by omega)])
          · skip
            refine lv_iconst (v := Int32.ofInt (1)) hx hb dX9_tidy_164 (by decide) ?_
            refine lv_goto (tgt := 169) hx hb dX9_tidy_165 (by decide) ?_
            exact k_169 _ (by first | rw [if_pos (by omega)] | rw [if_neg (by omega)])
      · skip
        have cfi : v_40 (co f i.toNat) = v (co f i.toNat) := c2 _ (sca f mf _ (by omega)) (scb f mf _ (by omega)) (scq f mf _ (by omega)) (sct f mf _ (by omega))
        refine lv_aload_n hx hb dX9_tidy_52 rfl (lv_at hl 3 rfl) ?_
        refine lv_aload_n hx hb dX9_tidy_53 rfl (lv_at hl 1 rfl) ?_
        refine y_getc E hK hV mf cf_9_74 dX9_tidy_54 ?_
        refine lv_iload hx hb dX9_tidy_57 (lv_at hl 5 rfl) ?_
        refine y_aald hx hb hK hV mf (by omega) (by omega) dX9_tidy_59 ?_
        have s60 := num1_le (hN _ (hO.1 f mf _ (by omega))) (show ((v_40 (co f (i).toNat)).natAbs : Int) < 1073741824 ^ 80 by rw [cfi]; exact sF _ (by omega))
        refine c_callv (As := [.ref (co f (i).toNat)]) (rest := []) E (k0_copy (v := v_40) (h0 := nx) (a := (co f (i).toNat)) mnx hN (hO.1 f mf _ (by omega)) (Ne.symm (scnx f mf _ (by omega))) (by omega)) (cwV 1 hts (cGood cl_X9_66 ci_X0_copy cs_X0_copy cn_RX0 cc_X0_copy) rfl rfl rfl (by decide +kernel) ⟨Nat.le_of_ble_eq_true rfl, Nat.le_of_ble_eq_true rfl⟩) (b_recv hK hV mnx) hK hV hA hR rfl hl.1 (Nat.le_of_ble_eq_true rfl) dX9_tidy_60 (fun X60 dd60 nn60 ss60 ll60 gg60 H locs q60 hV hm60 => ?_)
        obtain ⟨e1_, hN⟩ := q60
        obtain rfl := e1_.symm
        refine lv_iconst (v := Int32.ofInt (0)) hx hb dX9_tidy_63 (by decide) ?_
        refine lv_istore (lv' := [(6, Iz (0)), (0, .ref t0), (1, .ref f), (2, .ref sh), (3, .ref nx), (4, .ref ot), (5, Iz (i))]) hx hb dX9_tidy_64 hl (by decide) rfl (fun ls hl => ?_)
        refine r_loop2 (P := fun N_ ce sl H locs ls => ∃ dd_66 : Nat → Nat, ∃ nn_66 ss_66 : Nat → Int, ∃ ll_66 : Nat → Nat, ∃ gg_66 : Nat → Int → Int, ∃ v_66 : Nat → Int, ∃ j : Int, ∃ sj : Nat, ∃ nj : Nat, ∃ oj : Nat, N_ = (1000001 - j).toNat ∧ ce = cP LB ll_66 - cP LB ll ∧ sl = 2 * (cP LB ll_66 - cP LB ll) ∧ cR LB nn_66 ss_66 ll_66 gg_66 v_66 ∧ (0 ≤ j) ∧ (j ≤ 1000000) ∧ (PM ta tb tt sj nj oj) ∧ (Nat.gcd (v_66 sj).natAbs (v_66 nj).natAbs = Nat.gcd (cgN (fun i => v (co f i)) (pd f).toNat (pd f - 1 - i).toNat) (v (co f i.toNat)).natAbs) ∧ (((v_66 sj).natAbs : Int) < 1073741824 ^ 80) ∧ (((v_66 nj).natAbs : Int) < 1073741824 ^ 80) ∧ (j = 0 ∨ (((v_66 nj).natAbs : Int) < ((v_66 sj).natAbs : Int) ∧ ((v_66 sj).natAbs : Int) * ((v_66 nj).natAbs : Int) * 2 ^ (j - 1).toNat ≤ 1073741824 ^ 80 * 1073741824 ^ 80)) ∧ (∀ b : Nat, b ≠ ta → b ≠ tb → b ≠ tq → b ≠ tt → v_66 b = v b) ∧ cV dC dI cx LB (va_A (bW (cx 0) LB dd nn ss ll gg (pW cx LP pc_ pd co X)) s.heap.size) s.heap ll (pW cx LP pc_ pd co X) dd_66 nn_66 ss_66 ll_66 gg_66 H locs ∧ lv_has ls 8 [(0, .ref t0), (1, .ref f), (2, .ref sj), (3, .ref nj), (4, .ref oj), (5, Iz (i)), (6, Iz (j))]) (g := fun ls => F0 m 66 ls []) (fun N_ ce sl H locs ls hI ih_66 => ?_) _ _ _ _ _ _ ⟨_, _, _, _, _, (va_up v_40 nx (v_40 (co f (i).toNat))), 0, sh, nx, ot, rfl, rfl, rfl, hN, (Int.le_refl 0), (by omega), (pm), (by rw [va_up_self, va_up_ne _ _ nshnx, c1, cfi]), (by rw [va_up_ne _ _ nshnx]; exact sz1), (by rw [va_up_self, cfi]; exact sF _ (by omega)), (Or.inl rfl), (fun b h1 h2 h3 h4 => by rw [va_up_ne _ _ (pm.ne h1 h2 h4).2.1]; exact c2 b h1 h2 h3 h4), hV, lv_sub hl [1, 2, 3, 4, 5, 6, 0] rfl⟩
        obtain ⟨dd_66, nn_66, ss_66, ll_66, gg_66, v_66, j, sj, nj, oj, rfl, rfl, rfl, hN, j0, j1, pm2, g1, z1, z2, kk_, g4, hV, hl⟩ := hI
        obtain ⟨⟨msj, mnj, moj⟩, ⟨nsjnj, nsjoj, nnjoj⟩, ⟨nsjtq, nnjtq, nojtq⟩, ⟨nsjtu, nnjtu, nojtu⟩, scsj, scnj, scoj⟩ := PM.ok pm2 hS
        have sgj := num1_sg (hN nj mnj)
        have sgbj := sg_bd (v_66 nj)
        have n0s := (hN sj msj).1
        have n0n := (hN nj mnj).1
        have n1s := num1_le (hN sj msj) z1
        have n1n := num1_le (hN nj mnj) z2
        have szj := @sg_zero (v_66 nj)
        refine lv_iload hx hb dX9_tidy_66 (lv_at hl 6 rfl) ?_
        refine lv_ldc (v := Int32.ofInt (1000000)) hx hb hown (hts _ (List.mem_cons_of_mem _ ck_X9_78)) dX9_tidy_68 ?_
        refine g_icmp_ge (tgt := 143) hx hb (by first | assumption | exact ⟨by omega, by omega⟩) (by first | assumption | exact ⟨by omega, by omega⟩) dX9_tidy_70 (by decide) (fun c_70 => ?_) (fun c_70 => ?_)
        · skip
          have x143 : (v_66 sj).natAbs = Nat.gcd (v_66 sj).natAbs (v_66 nj).natAbs := by
            first
              | (rw [va_up_self, q105, q98, q102]; unfold gd; rw [Int.toNat_natCast, Int.toNat_natCast]; rfl)
              | (rw [show v_66 nj = 0 by omega, Int.natAbs_zero, Nat.gcd_zero_right])
              | (have z9 := gcz 999999 (by omega) kk_ (by omega) p2_80
                 rw [show v_66 nj = 0 by omega, Int.natAbs_zero, Nat.gcd_zero_right])
          refine g_iinc (k := 5) (z := i) (n := (-1)) (lv' := [(5, Iz (i + (-1))), (0, .ref t0), (1, .ref f), (2, .ref sj), (3, .ref nj), (4, .ref oj), (6, Iz (j))]) hx hb dX9_tidy_143 hl rfl (by decide) rfl (fun ls hl => ?_)
          refine lv_goto (tgt := 40) hx hb dX9_tidy_146 (by decide) ?_
          exact ih_40 _ (by omega) _ _ _ _ _ ⟨_, _, _, _, _, v_66, (i + (-1)), sj, nj, oj, rfl, rfl, rfl, hN, (by omega), (by omega), (pm2), (by rw [x143, g1, show (pd f - 1 - (i + (-1))).toNat = (pd f - 1 - i).toNat + 1 by omega]; show _ = Nat.gcd _ _; rw [show (pd f).toNat - ((pd f - 1 - i).toNat + 1) = i.toNat by omega]), (by first | (rw [va_up_self]; omega) | exact z1), (fun b h1 h2 h3 h4 => by first | (rw [va_up_ne _ _ (pm2.ne h1 h2 h4).1]; exact g4 b h1 h2 h3 h4) | exact g4 b h1 h2 h3 h4), hV, lv_sub hl [1, 2, 3, 4, 5, 0] rfl⟩
        · skip
          refine lv_aload_n hx hb dX9_tidy_73 rfl (lv_at hl 3 rfl) ?_
          refine t_gets E hK hV mnj rfl cf_9_79 dX9_tidy_74 ?_
          refine g_if_eq (tgt := 143) hx hb (by first | assumption | exact ⟨by omega, by omega⟩) dX9_tidy_77 (by decide) (fun c_77 => ?_) (fun c_77 => ?_)
          · skip
            have x143 : (v_66 sj).natAbs = Nat.gcd (v_66 sj).natAbs (v_66 nj).natAbs := by
              first
                | (rw [va_up_self, q105, q98, q102]; unfold gd; rw [Int.toNat_natCast, Int.toNat_natCast]; rfl)
                | (rw [show v_66 nj = 0 by omega, Int.natAbs_zero, Nat.gcd_zero_right])
                | (have z9 := gcz 999999 (by omega) kk_ (by omega) p2_80
                   rw [show v_66 nj = 0 by omega, Int.natAbs_zero, Nat.gcd_zero_right])
            refine g_iinc (k := 5) (z := i) (n := (-1)) (lv' := [(5, Iz (i + (-1))), (0, .ref t0), (1, .ref f), (2, .ref sj), (3, .ref nj), (4, .ref oj), (6, Iz (j))]) hx hb dX9_tidy_143 hl rfl (by decide) rfl (fun ls hl => ?_)
            refine lv_goto (tgt := 40) hx hb dX9_tidy_146 (by decide) ?_
            exact ih_40 _ (by omega) _ _ _ _ _ ⟨_, _, _, _, _, v_66, (i + (-1)), sj, nj, oj, rfl, rfl, rfl, hN, (by omega), (by omega), (pm2), (by rw [x143, g1, show (pd f - 1 - (i + (-1))).toNat = (pd f - 1 - i).toNat + 1 by omega]; show _ = Nat.gcd _ _; rw [show (pd f).toNat - ((pd f - 1 - i).toNat + 1) = i.toNat by omega]), (by first | (rw [va_up_self]; omega) | exact z1), (fun b h1 h2 h3 h4 => by first | (rw [va_up_ne _ _ (pm2.ne h1 h2 h4).1]; exact g4 b h1 h2 h3 h4) | exact g4 b h1 h2 h3 h4), hV, lv_sub hl [1, 2, 3, 4, 5, 0] rfl⟩
          · skip
            refine lv_aload_n hx hb dX9_tidy_80 rfl (lv_at hl 2 rfl) ?_
            refine t_getn E hK hV msj rfl cf_9_82 dX9_tidy_81 ?_
            refine lv_iconst (v := Int32.ofInt (2)) hx hb dX9_tidy_84 (by decide) ?_
            refine g_icmp_gt (tgt := 114) hx hb (by first | assumption | exact ⟨by omega, by omega⟩) (by first | assumption | exact ⟨by omega, by omega⟩) dX9_tidy_85 (by decide) (fun c_85 => ?_) (fun c_85 => ?_)
            · skip
              refine lv_aload hx hb dX9_tidy_114 (lv_at hl 4 rfl) ?_
              refine lv_aload_n hx hb dX9_tidy_116 rfl (lv_at hl 2 rfl) ?_
              refine lv_aload_n hx hb dX9_tidy_117 rfl (lv_at hl 3 rfl) ?_
              refine lv_aload_n hx hb dX9_tidy_118 rfl (lv_at hl 0 rfl) ?_
              refine x_get E hK hV (ci := 9) (C := RX9) (T := TX9) (N := 8) rfl w0c_in9 (pW_x hTo) 2 (by decide) rfl cf_9_21 rfl dX9_tidy_119 ?_
              have s122 := num1_le (hN sj msj) z1
              refine c_callv (As := [.ref sj, .ref nj, .ref tq]) (rest := []) E (k0_rest (v := v_66) (h0 := oj) (a := sj) (b := nj) (qq := tq) moj hN msj mnj mtq (Ne.symm nsjoj) (Ne.symm nnjoj) nojtq nsjtq nnjtq (by omega)) (cwV 3 hts (cGood cl_X9_97 ci_X0_rest cs_X0_rest cn_RX0 cc_X0_rest) rfl rfl rfl (by decide +kernel) ⟨Nat.le_of_ble_eq_true rfl, Nat.le_of_ble_eq_true rfl⟩) (b_recv hK hV moj) hK hV hA hR rfl hl.1 (Nat.le_of_ble_eq_true rfl) dX9_tidy_122 (fun X122 dd122 nn122 ss122 ll122 gg122 H locs q122 hV hm122 => ?_)
              obtain ⟨e1_, hN⟩ := q122
              obtain rfl := e1_.symm
              refine lv_aload_n hx hb dX9_tidy_125 rfl (lv_at hl 2 rfl) ?_
              refine lv_astore (lv' := [(7, .ref sj), (0, .ref t0), (1, .ref f), (2, .ref sj), (3, .ref nj), (4, .ref oj), (5, Iz (i)), (6, Iz (j))]) hx hb dX9_tidy_126 hl (by decide) rfl (fun ls hl => ?_)
              refine lv_aload_n hx hb dX9_tidy_128 rfl (lv_at hl 4 rfl) ?_
              refine lv_astore_n (lv' := [(2, .ref nj), (7, .ref sj), (0, .ref t0), (1, .ref f), (3, .ref nj), (4, .ref oj), (5, Iz (i)), (6, Iz (j))]) hx hb dX9_tidy_129 rfl hl (by decide) rfl (fun ls hl => ?_)
              refine lv_aload hx hb dX9_tidy_130 (lv_at hl 5 rfl) ?_
              refine lv_astore_n (lv' := [(3, .ref oj), (2, .ref nj), (7, .ref sj), (0, .ref t0), (1, .ref f), (4, .ref oj), (5, Iz (i)), (6, Iz (j))]) hx hb dX9_tidy_132 rfl hl (by decide) rfl (fun ls hl => ?_)
              refine lv_aload hx hb dX9_tidy_133 (lv_at hl 2 rfl) ?_
              refine lv_astore (lv' := [(4, .ref sj), (3, .ref oj), (2, .ref nj), (7, .ref sj), (0, .ref t0), (1, .ref f), (5, Iz (i)), (6, Iz (j))]) hx hb dX9_tidy_135 hl (by decide) rfl (fun ls hl => ?_)
              refine g_iinc (k := 7) (z := j) (n := (1)) (lv' := [(6, Iz (j + 1)), (4, .ref sj), (3, .ref oj), (2, .ref nj), (7, .ref sj), (0, .ref t0), (1, .ref f), (5, Iz (i))]) hx hb dX9_tidy_137 hl rfl (by decide) rfl (fun ls hl => ?_)
              refine lv_goto (tgt := 66) hx hb dX9_tidy_140 (by decide) ?_
              exact ih_66 _ (by omega) _ _ _ _ _ ⟨_, _, _, _, _, (va_up (va_up v_66 oj ((v_66 sj).tmod (v_66 nj))) tq ((v_66 sj).tdiv (v_66 nj))), (j + 1), nj, oj, sj, rfl, rfl, rfl, hN, (by omega), (by omega), (pm2.rot), (by rw [va_up_ne _ _ nnjtq, va_up_ne _ _ nnjoj, va_up_ne _ _ nojtq, va_up_self, Int.natAbs_tmod, ng_st]; exact g1), (by rw [va_up_ne _ _ nnjtq, va_up_ne _ _ nnjoj]; exact z2), (by rw [va_up_ne _ _ nojtq, va_up_self, Int.natAbs_tmod]; have := Nat.mod_le (v_66 sj).natAbs (v_66 nj).natAbs; omega), (Or.inr (by rw [va_up_ne _ _ nnjtq, va_up_ne _ _ nnjoj, va_up_ne _ _ nojtq, va_up_self]; exact eu_k j0 (by omega) z2 kk_)), (fun b h1 h2 h3 h4 => by rw [va_up_ne _ _ h3, va_up_ne _ _ (pm2.ne h1 h2 h4).2.2]; exact g4 b h1 h2 h3 h4), hV, lv_sub hl [5, 6, 3, 2, 1, 7, 0] rfl⟩
            · skip
              refine lv_aload_n hx hb dX9_tidy_88 rfl (lv_at hl 3 rfl) ?_
              refine t_getn E hK hV mnj rfl cf_9_82 dX9_tidy_89 ?_
              refine lv_iconst (v := Int32.ofInt (2)) hx hb dX9_tidy_92 (by decide) ?_
              refine g_icmp_gt (tgt := 114) hx hb (by first | assumption | exact ⟨by omega, by omega⟩) (by first | assumption | exact ⟨by omega, by omega⟩) dX9_tidy_93 (by decide) (fun c_93 => ?_) (fun c_93 => ?_)
              · skip
                refine lv_aload hx hb dX9_tidy_114 (lv_at hl 4 rfl) ?_
                refine lv_aload_n hx hb dX9_tidy_116 rfl (lv_at hl 2 rfl) ?_
                refine lv_aload_n hx hb dX9_tidy_117 rfl (lv_at hl 3 rfl) ?_
                refine lv_aload_n hx hb dX9_tidy_118 rfl (lv_at hl 0 rfl) ?_
                refine x_get E hK hV (ci := 9) (C := RX9) (T := TX9) (N := 8) rfl w0c_in9 (pW_x hTo) 2 (by decide) rfl cf_9_21 rfl dX9_tidy_119 ?_
                have s122 := num1_le (hN sj msj) z1
                refine c_callv (As := [.ref sj, .ref nj, .ref tq]) (rest := []) E (k0_rest (v := v_66) (h0 := oj) (a := sj) (b := nj) (qq := tq) moj hN msj mnj mtq (Ne.symm nsjoj) (Ne.symm nnjoj) nojtq nsjtq nnjtq (by omega)) (cwV 3 hts (cGood cl_X9_97 ci_X0_rest cs_X0_rest cn_RX0 cc_X0_rest) rfl rfl rfl (by decide +kernel) ⟨Nat.le_of_ble_eq_true rfl, Nat.le_of_ble_eq_true rfl⟩) (b_recv hK hV moj) hK hV hA hR rfl hl.1 (Nat.le_of_ble_eq_true rfl) dX9_tidy_122 (fun X122 dd122 nn122 ss122 ll122 gg122 H locs q122 hV hm122 => ?_)
                obtain ⟨e1_, hN⟩ := q122
                obtain rfl := e1_.symm
                refine lv_aload_n hx hb dX9_tidy_125 rfl (lv_at hl 2 rfl) ?_
                refine lv_astore (lv' := [(7, .ref sj), (0, .ref t0), (1, .ref f), (2, .ref sj), (3, .ref nj), (4, .ref oj), (5, Iz (i)), (6, Iz (j))]) hx hb dX9_tidy_126 hl (by decide) rfl (fun ls hl => ?_)
                refine lv_aload_n hx hb dX9_tidy_128 rfl (lv_at hl 4 rfl) ?_
                refine lv_astore_n (lv' := [(2, .ref nj), (7, .ref sj), (0, .ref t0), (1, .ref f), (3, .ref nj), (4, .ref oj), (5, Iz (i)), (6, Iz (j))]) hx hb dX9_tidy_129 rfl hl (by decide) rfl (fun ls hl => ?_)
                refine lv_aload hx hb dX9_tidy_130 (lv_at hl 5 rfl) ?_
                refine lv_astore_n (lv' := [(3, .ref oj), (2, .ref nj), (7, .ref sj), (0, .ref t0), (1, .ref f), (4, .ref oj), (5, Iz (i)), (6, Iz (j))]) hx hb dX9_tidy_132 rfl hl (by decide) rfl (fun ls hl => ?_)
                refine lv_aload hx hb dX9_tidy_133 (lv_at hl 2 rfl) ?_
                refine lv_astore (lv' := [(4, .ref sj), (3, .ref oj), (2, .ref nj), (7, .ref sj), (0, .ref t0), (1, .ref f), (5, Iz (i)), (6, Iz (j))]) hx hb dX9_tidy_135 hl (by decide) rfl (fun ls hl => ?_)
                refine g_iinc (k := 7) (z := j) (n := (1)) (lv' := [(6, Iz (j + 1)), (4, .ref sj), (3, .ref oj), (2, .ref nj), (7, .ref sj), (0, .ref t0), (1, .ref f), (5, Iz (i))]) hx hb dX9_tidy_137 hl rfl (by decide) rfl (fun ls hl => ?_)
                refine lv_goto (tgt := 66) hx hb dX9_tidy_140 (by decide) ?_
                exact ih_66 _ (by omega) _ _ _ _ _ ⟨_, _, _, _, _, (va_up (va_up v_66 oj ((v_66 sj).tmod (v_66 nj))) tq ((v_66 sj).tdiv (v_66 nj))), (j + 1), nj, oj, sj, rfl, rfl, rfl, hN, (by omega), (by omega), (pm2.rot), (by rw [va_up_ne _ _ nnjtq, va_up_ne _ _ nnjoj, va_up_ne _ _ nojtq, va_up_self, Int.natAbs_tmod, ng_st]; exact g1), (by rw [va_up_ne _ _ nnjtq, va_up_ne _ _ nnjoj]; exact z2), (by rw [va_up_ne _ _ nojtq, va_up_self, Int.natAbs_tmod]; have := Nat.mod_le (v_66 sj).natAbs (v_66 nj).natAbs; omega), (Or.inr (by rw [va_up_ne _ _ nnjtq, va_up_ne _ _ nnjoj, va_up_ne _ _ nojtq, va_up_self]; exact eu_k j0 (by omega) z2 kk_)), (fun b h1 h2 h3 h4 => by rw [va_up_ne _ _ h3, va_up_ne _ _ (pm2.ne h1 h2 h4).2.2]; exact g4 b h1 h2 h3 h4), hV, lv_sub hl [5, 6, 3, 2, 1, 7, 0] rfl⟩
              · skip
                refine lv_aload_n hx hb dX9_tidy_96 rfl (lv_at hl 2 rfl) ?_
                refine lv_aload_n hx hb dX9_tidy_97 rfl (lv_at hl 2 rfl) ?_
                refine c_callsl (As := [.ref sj]) (rest := [.ref sj]) E (k9_low (x := sj) (V := v_66 sj) msj (hN _ msj) (by omega)) (c_cwS 1 hts cl_X9_85 ct_X9_low cn_RX9 cc_X9_low rfl rfl (by decide +kernel) ⟨Nat.le_of_ble_eq_true rfl, Nat.le_of_ble_eq_true rfl⟩) hK hV hA hR rfl hl.1 (Nat.le_of_ble_eq_true rfl) dX9_tidy_98 (fun z98 X98 dd98 nn98 ss98 ll98 gg98 H locs q98 hV hm98 => ?_)
                obtain ⟨e1_, e2_, e3_, e4_, e5_, e6_, q98⟩ := q98
                obtain rfl := e1_.symm
                obtain rfl := e2_.symm
                obtain rfl := e3_.symm
                obtain rfl := e4_.symm
                obtain rfl := e5_.symm
                obtain rfl := e6_.symm
                refine lv_aload_n hx hb dX9_tidy_101 rfl (lv_at hl 3 rfl) ?_
                refine c_callsl (As := [.ref nj]) (rest := [Jz (z98), .ref sj]) E (k9_low (x := nj) (V := v_66 nj) mnj (hN _ mnj) (by omega)) (c_cwS 1 hts cl_X9_85 ct_X9_low cn_RX9 cc_X9_low rfl rfl (by decide +kernel) ⟨Nat.le_of_ble_eq_true rfl, Nat.le_of_ble_eq_true rfl⟩) hK hV hA hR rfl hl.1 (Nat.le_of_ble_eq_true rfl) dX9_tidy_102 (fun z102 X102 dd102 nn102 ss102 ll102 gg102 H locs q102 hV hm102 => ?_)
                obtain ⟨e1_, e2_, e3_, e4_, e5_, e6_, q102⟩ := q102
                obtain rfl := e1_.symm
                obtain rfl := e2_.symm
                obtain rfl := e3_.symm
                obtain rfl := e4_.symm
                obtain rfl := e5_.symm
                obtain rfl := e6_.symm
                have l98 := num1_2 (hN sj msj) (by omega)
                have l102 := num1_2 (hN nj mnj) (by omega)
                refine c_callsl (As := [Jz (z98), Jz (z102)]) (rest := [.ref sj]) E (k9_shared (xa := z98) (ya := z102) (by omega) (by omega) (by omega) (by omega)) (c_cwS 2 hts cl_X9_89 ct_X9_shared cn_RX9 cc_X9_shared rfl rfl (by decide +kernel) ⟨Nat.le_of_ble_eq_true rfl, Nat.le_of_ble_eq_true rfl⟩) hK hV hA hR rfl hl.1 (Nat.le_of_ble_eq_true rfl) dX9_tidy_105 (fun z105 X105 dd105 nn105 ss105 ll105 gg105 H locs q105 hV hm105 => ?_)
                obtain ⟨e1_, e2_, e3_, e4_, e5_, e6_, q105⟩ := q105
                obtain rfl := e1_.symm
                obtain rfl := e2_.symm
                obtain rfl := e3_.symm
                obtain rfl := e4_.symm
                obtain rfl := e5_.symm
                obtain rfl := e6_.symm
                have gb : gd z98 z102 ≤ z102.toNat := Nat.gcd_le_right _ (by omega)
                refine c_callv (As := [Jz (z105)]) (rest := []) E (k0_put (v := v_66) (h0 := sj) (x := z105) msj hN (by omega) (by omega)) (cwV 1 hts (cGood cl_X9_93 ci_X0_put cs_X0_put cn_RX0 cc_X0_put) rfl rfl rfl (by decide +kernel) ⟨Nat.le_of_ble_eq_true rfl, Nat.le_of_ble_eq_true rfl⟩) (b_recv hK hV msj) hK hV hA hR rfl hl.1 (Nat.le_of_ble_eq_true rfl) dX9_tidy_108 (fun X108 dd108 nn108 ss108 ll108 gg108 H locs q108 hV hm108 => ?_)
                obtain ⟨e1_, hN⟩ := q108
                obtain rfl := e1_.symm
                refine lv_goto (tgt := 143) hx hb dX9_tidy_111 (by decide) ?_
                have x143 : ((va_up v_66 sj z105) sj).natAbs = Nat.gcd (v_66 sj).natAbs (v_66 nj).natAbs := by
                  first
                    | (rw [va_up_self, q105, q98, q102]; unfold gd; rw [Int.toNat_natCast, Int.toNat_natCast]; rfl)
                    | (rw [show v_66 nj = 0 by omega, Int.natAbs_zero, Nat.gcd_zero_right])
                    | (have z9 := gcz 999999 (by omega) kk_ (by omega) p2_80
                       rw [show v_66 nj = 0 by omega, Int.natAbs_zero, Nat.gcd_zero_right])
                refine g_iinc (k := 5) (z := i) (n := (-1)) (lv' := [(5, Iz (i + (-1))), (0, .ref t0), (1, .ref f), (2, .ref sj), (3, .ref nj), (4, .ref oj), (6, Iz (j))]) hx hb dX9_tidy_143 hl rfl (by decide) rfl (fun ls hl => ?_)
                refine lv_goto (tgt := 40) hx hb dX9_tidy_146 (by decide) ?_
                exact ih_40 _ (by omega) _ _ _ _ _ ⟨_, _, _, _, _, (va_up v_66 sj z105), (i + (-1)), sj, nj, oj, rfl, rfl, rfl, hN, (by omega), (by omega), (pm2), (by rw [x143, g1, show (pd f - 1 - (i + (-1))).toNat = (pd f - 1 - i).toNat + 1 by omega]; show _ = Nat.gcd _ _; rw [show (pd f).toNat - ((pd f - 1 - i).toNat + 1) = i.toNat by omega]), (by first | (rw [va_up_self]; omega) | exact z1), (fun b h1 h2 h3 h4 => by first | (rw [va_up_ne _ _ (pm2.ne h1 h2 h4).1]; exact g4 b h1 h2 h3 h4) | exact g4 b h1 h2 h3 h4), hV, lv_sub hl [1, 2, 3, 4, 5, 0] rfl⟩
  · omega
