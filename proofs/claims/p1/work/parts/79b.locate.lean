set_option maxHeartbeats 4000000 in
set_option maxRecDepth 100000 in
theorem k7_locate_a {l : Launch}
  {dC : Nat → ClassId}
  {dI : Nat → Nat → Nat}
  {cx : Nat → Nat}
  (LB : List Nat)
  (LP : List Nat)
  {pc_ : Nat → Nat}
  {pd : Nat → Int}
  {co : Nat → Nat → Nat}
  (X : va_W)
  {dd : Nat → Nat}
  {nn ss : Nat → Int}
  {ll : Nat → Nat}
  {gg : Nat → Int → Int}
  {v : Nat → Int}
  {cp : Nat → Nat}
  {n lo hi : Nat}
  {ii : Int}
  (C : Nat → Nat → Int)
  {t0 ta tb tq tt tu tw tm : Nat}
  {tf : Int}
  {s0 ch ug uh uq ut uu : Nat}
  (hO : pOK LB LP co)
  (hSo : (s0,
      Sum.inr
        (7,
          [Iz (lowC n C - uppC n C), Value.ref t0, Value.ref ch, Iz (((n : Nat) : Int) + 1), Iz (lowC n C), Value.ref ug, Value.ref uh,
            Value.ref uq, Value.ref ut, Value.ref uu])) ∈
    X)
  (hU : uOK LB LP co ta tb tq tt tu ug uh uq ut uu)
  (hTo : (t0,
      Sum.inr
        (9,
          [Value.ref ta, Value.ref tb, Value.ref tq, Value.ref tt, Value.ref tu, Value.ref tw, Value.ref tm, Iz tf])) ∈
    X)
  (hS : tOK LB LP co ta tb tq tt tu)
  (hch : (ch, Sum.inl (cx 3, 14, Sum.inr (Sum.inr (Sum.inr (Sum.inr fun i => some (cp i)))))) ∈ X)
  (hcp : ∀ (i : Nat), i < 14 → cp i ∈ LP)
  (hcj : ∀ (i j : Nat), i < 14 → j < 14 → cp i = cp j → i = j)
  (hcd : ∀ (j : Nat), j ≤ n → pd (cp j) = ((n : Nat) : Int) - ((j : Nat) : Int))
  (hcv : ∀ (j k : Nat), j ≤ n → k ≤ n - j → v (co (cp j) k) = C j k)
  (hC : chOK n C)
  (hC200 : ∀ (j k : Nat), j ≤ n → k ≤ n - j → (((C j k).natAbs : Nat) : Int) < 2 ^ 200)
  (mlo : lo ∈ LB)
  (mhi : hi ∈ LB)
  (nlh : lo ≠ hi)
  (slo : LOK ta tb tq tt tu ug uh uq ut uu lo)
  (shi : LOK ta tb tq tt tu ug uh uq ut uu hi)
  (clo : ∀ (p : Nat), p ∈ LP → ∀ (i : Nat), i < 13 → co p i ≠ lo)
  (chi : ∀ (p : Nat), p ∈ LP → ∀ (i : Nat), i < 13 → co p i ≠ hi)
  (ii0 : 0 ≤ ii)
  (ii1 : ii ≤ 12)
  (hL : locP n C ii 60 (-2 ^ (farF n (C 0) n).toNat) (2 ^ (farF n (C 0) n).toNat) 0 0 (lowC n C - uppC n C))
  {p : Program}
  {e : Env}
  {s : State}
  {m : MethodId}
  {below : List Frame}
  {meth : Method}
  {c : Code}
  {s₁ : State}
  (hml : c.maxLocals = 11)
  (B : BodyLoose p l yX7_locate (headSpec (Cond.code yX7_locate cX7_locate 11 (some FieldType.int) :: w0c) (cRm 5 142 LB ll))
    cX7_locate 11 (some FieldType.int) e s m #[Value.ref s0, Iz ii, Value.ref lo, Value.ref hi] below meth c s₁)
  (hP : va_P (dC, dI) ccl (bW (cx 0) LB dd nn ss ll gg (pW cx LP pc_ pd co X)) s.heap)
  (hK : va_K (dC, dI) ccl (cty cx) s)
  (hD0 : va_D (fun x => True) (bW (cx 0) LB dd nn ss ll gg (pW cx LP pc_ pd co X)))
  (hC0 : ∀ (b : Nat), b ∈ LB → 5 ≤ ll b ∧ ll b ≤ 400)
  (hx : p.tables.exec = Jvm.exec)
  (hb : c.code = cX7_locate)
  (hr : meth.sig.returnType = some FieldType.int)
  (hts : ∀ (c : Cond),
    c ∈ Cond.code yX7_locate cX7_locate 11 (some FieldType.int) :: w0c →
      c.before #[Value.ref s0, Iz ii, Value.ref lo, Value.ref hi] s = true)
  (hown : s.vm.findClass RX7 = some m.cls)
  (hlocks : meth.locks = false)
  (E : CallFix p m c cX7_locate 11 s #[Value.ref s0, Iz ii, Value.ref lo, Value.ref hi]
    (Cond.code yX7_locate cX7_locate 11 (some FieldType.int) :: w0c) RX7)
  (hD : va_D (va_A (bW (cx 0) LB dd nn ss ll gg (pW cx LP pc_ pd co X)) (Array.size s.heap))
    (bW (cx 0) LB dd nn ss ll gg (pW cx LP pc_ pd co X)))
  (hA : ∀ (q : Nat), Array.size s.heap ≤ q → va_A (bW (cx 0) LB dd nn ss ll gg (pW cx LP pc_ pd co X)) (Array.size s.heap) q)
  (hR : (headSpec (Cond.code yX7_locate cX7_locate 11 (some FieldType.int) :: w0c) (cRm 5 142 LB ll)).room.cells = cMc LB ll ∧
    (headSpec (Cond.code yX7_locate cX7_locate 11 (some FieldType.int) :: w0c) (cRm 5 142 LB ll)).room.slots =
      2 * cMc LB ll)
  (mta : ta ∈ LB)
  (mtb : tb ∈ LB)
  (mtq : tq ∈ LB)
  (mtt : tt ∈ LB)
  (mtu : tu ∈ LB)
  (nab : ta ≠ tb)
  (naq : ta ≠ tq)
  (nat_ : ta ≠ tt)
  (nau : ta ≠ tu)
  (nbq : tb ≠ tq)
  (nbt : tb ≠ tt)
  (nbu : tb ≠ tu)
  (nqt : tq ≠ tt)
  (nqu : tq ≠ tu)
  (ntu : tt ≠ tu)
  (scA : ∀ (p : Nat), p ∈ LP → ∀ (i : Nat), i < 13 → co p i ≠ ta ∧ co p i ≠ tb ∧ co p i ≠ tq ∧ co p i ≠ tt ∧ co p i ≠ tu)
  (sca : ∀ (p : Nat), p ∈ LP → ∀ (i : Nat), i < 13 → co p i ≠ ta)
  (sct : ∀ (p : Nat), p ∈ LP → ∀ (i : Nat), i < 13 → co p i ≠ tt)
  (scu : ∀ (p : Nat), p ∈ LP → ∀ (i : Nat), i < 13 → co p i ≠ tu)
  (mug : ug ∈ LB)
  (muh : uh ∈ LB)
  (muq : uq ∈ LB)
  (mUt : ut ∈ LB)
  (muu : uu ∈ LB)
  (ngh : ug ≠ uh)
  (ngq : ug ≠ uq)
  (ngt : ug ≠ ut)
  (ngu : ug ≠ uu)
  (nhq : uh ≠ uq)
  (nht : uh ≠ ut)
  (nhu : uh ≠ uu)
  (nqt_ : uq ≠ ut)
  (nqu_ : uq ≠ uu)
  (ntu_ : ut ≠ uu)
  (ucA : ∀ (p : Nat), p ∈ LP → ∀ (i : Nat), i < 13 → co p i ≠ ug ∧ co p i ≠ uh ∧ co p i ≠ uq ∧ co p i ≠ ut ∧ co p i ≠ uu)
  (utA : ∀ (x : Nat), x = ta ∨ x = tb ∨ x = tq ∨ x = tt ∨ x = tu → x ≠ ug ∧ x ≠ uh ∧ x ≠ uq ∧ x ≠ ut ∧ x ≠ uu)
  (scg_ : ∀ (p : Nat), p ∈ LP → ∀ (i : Nat), i < 13 → co p i ≠ ug)
  (sch_ : ∀ (p : Nat), p ∈ LP → ∀ (i : Nat), i < 13 → co p i ≠ uh)
  (scq_ : ∀ (p : Nat), p ∈ LP → ∀ (i : Nat), i < 13 → co p i ≠ uq)
  (sct_ : ∀ (p : Nat), p ∈ LP → ∀ (i : Nat), i < 13 → co p i ≠ ut)
  (scu_ : ∀ (p : Nat), p ∈ LP → ∀ (i : Nat), i < 13 → co p i ≠ uu)
  (hC1 : ∀ (i : Nat),
    2 ≤ i →
      i ≤ n →
        (∀ (m : Nat), m ≤ 2 → ∀ (k : Nat), k ≤ n - (i - 2) → (((chL n C i m k).natAbs : Nat) : Int) < 1073741824 ^ 80) ∧
          chL n C i 2 (n - i) ≠ 0 ∧ ∀ (k : Nat), k ≤ n - i → C i k = -(chL n C i 2 k).tdiv (chG n C i * chG n C i ^ 1))
  (hC2 : ∀ (i : Nat), i ≤ n → C i (n - i) ≠ 0 ∧ ∀ (k : Nat), k ≤ n - i → (((C i k).natAbs : Nat) : Int) < 1073741824 ^ 80)
  (hC3 : ∀ (k : Nat), k < n → C 1 k = C 0 (k + 1) * (((k : Nat) : Int) + 1))
  (hn0 : 2 ≤ n)
  (hn1 : n ≤ 10)
  (hd0 : pd (cp 0) = ((n : Nat) : Int))
  (hdg_ : ∀ (j : Nat), ((j : Nat) : Int) < ((n : Nat) : Int) + 1 → 0 ≤ pd (cp j) ∧ pd (cp j) ≤ 12)
  (lw_ : 0 ≤ (chgS (cfC n C 1) (n + 1)).fst ∧ (chgS (cfC n C 1) (n + 1)).fst ≤ (((n + 1) : Nat) : Int))
  (lw0 : 0 ≤ lowC n C)
  (lw1 : lowC n C ≤ 14)
  (up_ : 0 ≤ (chgS (cfC n C 0) (n + 1)).fst ∧ (chgS (cfC n C 0) (n + 1)).fst ≤ (((n + 1) : Nat) : Int))
  (up0 : 0 ≤ uppC n C)
  (up1 : uppC n C ≤ 14)
  (szk : ∀ (k : Nat), k ≤ n → (((v (co (cp 0) k)).natAbs : Nat) : Int) < 2 ^ 200)
  (blk : ∀ (k : Nat), k ≤ n → 0 ≤ bl (C 0 k) ∧ bl (C 0 k) ≤ 200)
  (utx : uu ≠ tt ∧ uu ≠ tu)
  {k fr : Int}
  (k0 : 1 ≤ k)
  (k1 : k ≤ ((n : Nat) : Int) + 1)
  (f0 : 0 ≤ fr)
  (f1 : fr ≤ 301)
  (fe : fr = farF n (C 0) (k - 1).toNat)
  (c_33 : pd (cp 0) < k)
  {dd111 : Nat → Nat}
  {nn111 ss111 : Nat → Int}
  {ll111 : Nat → Nat}
  {gg111 : Nat → Int → Int}
  (hm111 : ∀ (b : Nat), b ∈ LB → ll b ≤ ll111 b)
  (nz118 : nn111 hi ≤ ((1 : Nat) : Int))
  {dd118 : Nat → Nat}
  {nn118 ss118 : Nat → Int}
  {ll118 : Nat → Nat}
  {gg118 : Nat → Int → Int}
  (hm118 : ∀ (b : Nat), b ∈ LB → ll111 b ≤ ll118 b)
  (fz123 : (((va_up v hi (2 ^ fr.toNat) hi).natAbs : Nat) : Int) < 1073741824 ^ 20)
  (nz123 : nn118 hi ≤ ((20 : Nat) : Int))
  {dd123 : Nat → Nat}
  {nn123 ss123 : Nat → Int}
  {ll123 : Nat → Nat}
  {gg123 : Nat → Int → Int}
  (hm123 : ∀ (b : Nat), b ∈ LB → ll118 b ≤ ll123 b)
  {dd127 : Nat → Nat}
  {nn127 ss127 : Nat → Int}
  {ll127 : Nat → Nat}
  {gg127 : Nat → Int → Int}
  (hm127 : ∀ (b : Nat), b ∈ LB → ll123 b ≤ ll127 b)
  {ls : Array Slot}
  {dd_133 : Nat → Nat}
  {nn_133 ss_133 : Nat → Int}
  {ll_133 : Nat → Nat}
  {gg_133 : Nat → Int → Int}
  {v_133 : Nat → Int}
  {t ee be up : Int}
  (ih_133 : ∀ (n' : Nat),
    n' < (100 - t).toNat →
      ∀ (ce' sl' : Nat) (H' : Heap) (locs' : List Loc) (ls' : Array Slot),
        (∃ dd_133 nn_133 ss_133 ll_133 gg_133 v_133 t ee be up,
            n' = (100 - t).toNat ∧
              ce' = cP LB ll_133 - cP LB ll ∧
                sl' = 2 * (cP LB ll_133 - cP LB ll) ∧
                  cR LB nn_133 ss_133 ll_133 gg_133 v_133 ∧
                    0 ≤ t ∧
                      t ≤ 60 ∧
                        -20 ≤ be ∧
                          be ≤ 20 ∧
                            -20 ≤ up ∧
                              up ≤ 20 ∧
                                locP n C ii (60 - t).toNat (v_133 lo) (v_133 hi) ee be up ∧
                                  (∀ (b : Nat), b ≠ lo → b ≠ hi → b ≠ uu → b ≠ ut → b ≠ tt → b ≠ tu → v_133 b = v b) ∧
                                    cV dC dI cx LB
                                        (va_A (bW (cx 0) LB dd nn ss ll gg (pW cx LP pc_ pd co X)) (Array.size s.heap))
                                        s.heap ll (pW cx LP pc_ pd co X) dd_133 nn_133 ss_133 ll_133 gg_133 H' locs' ∧
                                      lv_has ls' 11
                                        [(0, Value.ref s0), (1, Iz ii), (2, Value.ref lo), (3, Value.ref hi),
                                          (5, Iz ee), (6, Iz be), (7, Iz up), (9, Iz t)]) →
          W p l e (headSpec (Cond.code yX7_locate cX7_locate 11 (some FieldType.int) :: w0c) (cRm 5 142 LB ll)).room s m
            #[Value.ref s0, Iz ii, Value.ref lo, Value.ref hi] below meth c H' locs' ce' sl'
            (MQ below
              (cQi dC dI cx LB (va_A (bW (cx 0) LB dd nn ss ll gg (pW cx LP pc_ pd co X)) (Array.size s.heap)) ll s.heap
                fun z X' dd' nn' ss' ll' gg' =>
                ∃ v',
                  X' = pW cx LP pc_ pd co X ∧
                    cR LB nn' ss' ll' gg' v' ∧
                      0 ≤ z ∧
                        z ≤ 58 ∧
                          (((v' lo).natAbs : Nat) : Int) < 2 ^ 58 ∧
                            ∀ (b : Nat), b ≠ lo → b ≠ hi → b ≠ uu → b ≠ ut → b ≠ tt → b ≠ tu → v' b = v b)
              #[Value.ref s0, Iz ii, Value.ref lo, Value.ref hi] s (cMc LB ll) (2 * cMc LB ll)
              (va_A (bW (cx 0) LB dd nn ss ll gg (pW cx LP pc_ pd co X)) (Array.size s.heap)))
            (F0 m 133 ls' []))
  (t0_ : 0 ≤ t)
  (t1_ : t ≤ 60)
  (be0 : -20 ≤ be)
  (be1 : be ≤ 20)
  (up0_ : -20 ≤ up)
  (up1_ : up ≤ 20)
  (cf : ∀ (b : Nat), b ≠ lo → b ≠ hi → b ≠ uu → b ≠ ut → b ≠ tt → b ≠ tu → v_133 b = v b)
  (hl : lv_has ls 11
    [(0, Value.ref s0), (1, Iz ii), (2, Value.ref lo), (3, Value.ref hi), (5, Iz ee), (6, Iz be), (7, Iz up), (9, Iz t)])
  (c_137 : t < 100000)
  {m60 : Nat}
  (hm60 : (60 - t).toNat = m60 + 1)
  (hP2 : ¬(be = ii ∧ up = ii + 1) →
    ((v_133 lo + v_133 hi) % 2 = 1 →
        (ii < upV n C (v_133 lo + v_133 hi) (ee + 1) →
            locP n C ii m60 (v_133 lo * 2) (v_133 lo + v_133 hi) (ee + 1) be (upV n C (v_133 lo + v_133 hi) (ee + 1))) ∧
          (¬ii < upV n C (v_133 lo + v_133 hi) (ee + 1) →
            locP n C ii m60 (v_133 lo + v_133 hi) (v_133 hi * 2) (ee + 1) (upV n C (v_133 lo + v_133 hi) (ee + 1))
              up)) ∧
      ((v_133 lo + v_133 hi) % 2 = 0 →
        (ii < upV n C ((v_133 lo + v_133 hi) / 2) ee →
            locP n C ii m60 (v_133 lo) ((v_133 lo + v_133 hi) / 2) ee be (upV n C ((v_133 lo + v_133 hi) / 2) ee)) ∧
          (¬ii < upV n C ((v_133 lo + v_133 hi) / 2) ee →
            locP n C ii m60 ((v_133 lo + v_133 hi) / 2) (v_133 hi) ee (upV n C ((v_133 lo + v_133 hi) / 2) ee) up)))
  (pe0 : 0 ≤ ee)
  (pe1 : ee ≤ 58)
  (pL : (((v_133 lo).natAbs : Nat) : Int) < 2 ^ 58)
  (pH : (((v_133 hi).natAbs : Nat) : Int) < 2 ^ 58)
  (m60e : (60 - (t + 1)).toNat = m60)
  (HCV : ∀ (j k : Nat), j ≤ n → k ≤ n - j → v_133 (co (cp j) k) = C j k)
  (s58 : (2 : Int) ^ 58 = 288230376151711744)
  (s60 : (2 : Int) ^ 60 = 1152921504606846976)
  (h_154 : ¬(be = ii ∧ up = ii + 1))
  (hJ : ¬(be = ii ∧ up = ii + 1))
  (nL : nn_133 lo ≤ ((2 : Nat) : Int))
  (nH : nn_133 hi ≤ ((2 : Nat) : Int))
  {dd161 : Nat → Nat}
  {nn161 ss161 : Nat → Int}
  {ll161 : Nat → Nat}
  {gg161 : Nat → Int → Int}
  (hm161 : ∀ (b : Nat), b ∈ LB → ll_133 b ≤ ll161 b)
  (hN : cR LB nn161 ss161 ll161 gg161 (va_up v_133 uu (v_133 lo + v_133 hi)))
  {H : Heap}
  {locs : List Loc}
  (e1_ : pW cx LP pc_ pd co X = pW cx LP pc_ pd co X)
  (e2_ : dd161 = dd161)
  (e3_ : nn161 = nn161)
  (e4_ : ss161 = ss161)
  (hm168 : ∀ (b : Nat), b ∈ LB → ll161 b ≤ ll161 b)
  (e5_ : ll161 = ll161)
  (e6_ : gg161 = gg161)
  (hV : cV dC dI cx LB (va_A (bW (cx 0) LB dd nn ss ll gg (pW cx LP pc_ pd co X)) (Array.size s.heap)) s.heap ll
    (pW cx LP pc_ pd co X) dd161 nn161 ss161 ll161 gg161 H locs)
  (c_171 : (v_133 lo + v_133 hi) % 2 = 0) :
  W p l e (headSpec (Cond.code yX7_locate cX7_locate 11 (some FieldType.int) :: w0c) (cRm 5 142 LB ll)).room s m
    #[Value.ref s0, Iz ii, Value.ref lo, Value.ref hi] below meth c H locs (cP LB ll161 - cP LB ll)
    (2 * (cP LB ll161 - cP LB ll))
    (MQ below
      (cQi dC dI cx LB (va_A (bW (cx 0) LB dd nn ss ll gg (pW cx LP pc_ pd co X)) (Array.size s.heap)) ll s.heap
        fun z X' dd' nn' ss' ll' gg' =>
        ∃ v',
          X' = pW cx LP pc_ pd co X ∧
            cR LB nn' ss' ll' gg' v' ∧
              0 ≤ z ∧
                z ≤ 58 ∧
                  (((v' lo).natAbs : Nat) : Int) < 2 ^ 58 ∧
                    ∀ (b : Nat), b ≠ lo → b ≠ hi → b ≠ uu → b ≠ ut → b ≠ tt → b ≠ tu → v' b = v b)
      #[Value.ref s0, Iz ii, Value.ref lo, Value.ref hi] s (cMc LB ll) (2 * cMc LB ll)
      (va_A (bW (cx 0) LB dd nn ss ll gg (pW cx LP pc_ pd co X)) (Array.size s.heap)))
    (F0 m 192 ls []) := by
  refine lv_aload_n hx hb dX7_locate_192 rfl (lv_at hl 0 rfl) ?_
  refine x_get E hK hV (ci := 7) (C := RX7) (T := TX7) (N := 10) rfl w0c_in7 (pW_x hSo) 9 (by decide) rfl cf_7_31 rfl dX7_locate_193 ?_
  refine lv_aload_n hx hb dX7_locate_196 rfl (lv_at hl 0 rfl) ?_
  refine x_get E hK hV (ci := 7) (C := RX7) (T := TX7) (N := 10) rfl w0c_in7 (pW_x hSo) 9 (by decide) rfl cf_7_31 rfl dX7_locate_197 ?_
  refine lv_iconst (v := Int32.ofInt (1)) hx hb dX7_locate_200 (by decide) ?_
  refine lv_iconst (v := Int32.ofInt (0)) hx hb dX7_locate_201 (by decide) ?_
  have ev_ : (v_133 lo + v_133 hi) % 2 = 0 := c_171
  refine c_callv (As := [.ref uu, Iz (1), Iz (0)]) (rest := []) E (k0_lower (v := (va_up v_133 uu (v_133 lo + v_133 hi))) (h0 := uu) muu hN (by rw [va_up_self]; exact ev_)) (cwV 3 hts (cGood cl_X7_139 ci_X0_lower cs_X0_lower cn_RX0 cc_X0_lower) rfl rfl rfl (by decide +kernel) ⟨Nat.le_of_ble_eq_true rfl, Nat.le_of_ble_eq_true rfl⟩) (b_recv hK hV muu) hK hV hA hR rfl hl.1 (Nat.le_of_ble_eq_true rfl) dX7_locate_202 (fun X202 dd202 nn202 ss202 ll202 gg202 H locs q202 hV hm202 => ?_)
  obtain ⟨e1_, hN⟩ := q202
  obtain rfl := e1_.symm
  rw [va_up_up, va_up_self] at hN
  have hP3 := (hP2 hJ).2 ev_
  refine lv_aload_n hx hb dX7_locate_205 rfl (lv_at hl 0 rfl) ?_
  refine lv_aload_n hx hb dX7_locate_206 rfl (lv_at hl 0 rfl) ?_
  refine x_get E hK hV (ci := 7) (C := RX7) (T := TX7) (N := 10) rfl w0c_in7 (pW_x hSo) 9 (by decide) rfl cf_7_31 rfl dX7_locate_207 ?_
  refine lv_null hx hb dX7_locate_210 ?_
  refine lv_iload hx hb dX7_locate_211 (lv_at hl 4 rfl) ?_
  have X213 : ∃ y : Int, (va_up v_133 uu ((v_133 lo + v_133 hi) / 2)) uu = y ∧ (y.natAbs : Int) < 2 ^ 60 := ⟨_, rfl, by first | (rw [va_up_ne _ _ (Ne.symm shi.2.2.2.2.2), va_up_ne _ _ (Ne.symm slo.2.2.2.2.2), va_up_self]; omega) | (rw [va_up_self]; omega)⟩
  obtain ⟨y, hy, hy60⟩ := X213
  have H213 : ∀ j k : Nat, j ≤ n → k ≤ n - j → (va_up v_133 uu ((v_133 lo + v_133 hi) / 2)) (co (cp j) k) = C j k := fun j k hj hk => by
    have z1 := clo _ (hcp j (by omega)) k (by omega)
    have z2 := chi _ (hcp j (by omega)) k (by omega)
    have z3 := scu_ _ (hcp j (by omega)) k (by omega)
    first
    | (rw [va_up_ne _ _ z2, va_up_ne _ _ z1, va_up_ne _ _ z3]; exact HCV j k hj hk)
    | (rw [va_up_ne _ _ z3]; exact HCV j k hj hk)
  refine c_calli (As := [.ref uu, .null, Iz (ee)]) (rest := []) E (k7_upTo (v := (va_up v_133 uu ((v_133 lo + v_133 hi) / 2))) (cp := cp) (x := uu) (ex_ := ee) hO hN hSo hU hTo hS hch hcp hdg_ (by omega) (by omega) muu ntu_ (Ne.symm utx.1) (Ne.symm utx.2) (by omega) (by omega) lw0 lw1 (fun j hj m hm => by rw [hcd j (by omega), show ((n : Int) - j).toNat = n - j by omega] at hm ⊢; exact evP_80 (by rw [hy]; exact hy60) (by omega) (by omega) (fun k hk => by have h_ := hC200 j k (by omega) (by omega); rw [← H213 j k (by omega) (by omega)] at h_; exact h_) (by omega) m (by omega)) (lt_B (by rw [hy]; exact hy60) (by omega)) (fun j hj k hk => by rw [hcd j (by omega)] at hk; rw [H213 j k (by omega) (by omega)]; exact lt_B (hC200 j k (by omega) (by omega)) (by omega))) (cwV 3 hts (cGood cl_X7_143 ci_X7_upTo cs_X7_upTo cn_RX7 cc_X7_upTo) rfl rfl rfl (by decide +kernel) ⟨Nat.le_of_ble_eq_true rfl, Nat.le_of_ble_eq_true rfl⟩) (x_recv (q := (RX7, TX7, 10)) hK hV (ci := 7) rfl (pW_x hSo)) hK hV hA hR rfl hl.1 (Nat.le_of_ble_eq_true rfl) dX7_locate_213 (fun z213 X213 dd213 nn213 ss213 ll213 gg213 H locs q213 hV hm213 => ?_)
  obtain ⟨v213, e1_, hN, vz213, vo213⟩ := q213
  obtain rfl := e1_.symm
  rw [up_eq hcd H213, hy] at vz213
  have vu213 : v213 uu = y := (vo213 uu (Ne.symm ntu_) utx.1 utx.2).trans hy
  have hb213 := upV_bd n C y ee
  rw [← vz213] at hb213
  have y3 : y = (if (v_133 lo + v_133 hi) % 2 = 1 then v_133 lo + v_133 hi else (v_133 lo + v_133 hi) / 2) := by
    rw [← hy]
    first
    | (rw [if_pos ev_, va_up_ne _ _ (Ne.symm shi.2.2.2.2.2), va_up_ne _ _ (Ne.symm slo.2.2.2.2.2), va_up_self]; done)
    | (rw [if_neg (by omega), va_up_self]; done)
  first | rw [if_pos ev_] at y3 | rw [if_neg (by omega)] at y3
  refine lv_istore (lv' := [(10, Iz (z213)), (0, .ref s0), (1, Iz (ii)), (2, .ref lo), (3, .ref hi), (5, Iz (ee)), (6, Iz (be)), (7, Iz (up)), (9, Iz (t))]) hx hb dX7_locate_216 hl (by decide) rfl (fun ls hl => ?_)
  refine lv_iload hx hb dX7_locate_218 (lv_at hl 0 rfl) ?_
  refine lv_iload_n hx hb dX7_locate_220 rfl (lv_at hl 2 rfl) ?_
  refine g_icmp_le (tgt := 239) hx hb (by first | assumption | exact ⟨by omega, by omega⟩) (by first | assumption | exact ⟨by omega, by omega⟩) dX7_locate_221 (by decide) (fun c_221 => ?_) (fun c_221 => ?_)
  · skip
    refine lv_aload_n hx hb dX7_locate_239 rfl (lv_at hl 3 rfl) ?_
    refine lv_aload_n hx hb dX7_locate_240 rfl (lv_at hl 1 rfl) ?_
    refine x_get E hK hV (ci := 7) (C := RX7) (T := TX7) (N := 10) rfl w0c_in7 (pW_x hSo) 9 (by decide) rfl cf_7_31 rfl dX7_locate_241 ?_
    have n244 := num1_le (hN _ muu) (t := 2) (by rw [vu213]; exact lt_B hy60 (by omega))
    refine c_callv (As := [.ref uu]) (rest := []) E (k0_copy (v := v213) (h0 := lo) (a := uu) mlo hN muu slo.2.2.2.2.2 (by omega)) (cwV 1 hts (cGood cl_X7_72 ci_X0_copy cs_X0_copy cn_RX0 cc_X0_copy) rfl rfl rfl (by decide +kernel) ⟨Nat.le_of_ble_eq_true rfl, Nat.le_of_ble_eq_true rfl⟩) (b_recv hK hV mlo) hK hV hA hR rfl hl.1 (Nat.le_of_ble_eq_true rfl) dX7_locate_244 (fun X244 dd244 nn244 ss244 ll244 gg244 H locs q244 hV hm244 => ?_)
    obtain ⟨e1_, hN⟩ := q244
    obtain rfl := e1_.symm
    rw [vu213] at hN
    refine lv_iload hx hb dX7_locate_247 (lv_at hl 0 rfl) ?_
    refine lv_istore (lv' := [(6, Iz (z213)), (10, Iz (z213)), (0, .ref s0), (1, Iz (ii)), (2, .ref lo), (3, .ref hi), (5, Iz (ee)), (7, Iz (up)), (9, Iz (t))]) hx hb dX7_locate_249 hl (by decide) rfl (fun ls hl => ?_)
    refine g_iinc (k := 8) (z := t) (n := (1)) (lv' := [(9, Iz (t + 1)), (6, Iz (z213)), (10, Iz (z213)), (0, .ref s0), (1, Iz (ii)), (2, .ref lo), (3, .ref hi), (5, Iz (ee)), (7, Iz (up))]) hx hb dX7_locate_251 hl rfl (by decide) rfl (fun ls hl => ?_)
    refine lv_goto (tgt := 133) hx hb dX7_locate_254 (by decide) ?_
    exact ih_133 _ (by omega) _ _ _ _ _ ⟨_, _, _, _, _, (va_up v213 lo y), (t + 1), ee, z213, up, rfl, rfl, rfl, hN, (by omega), (by omega), (by omega), (by omega), (by omega), (by omega), (by
              rw [m60e]
              first
              | (rw [va_up_self, va_up_ne _ _ nlh, vo213 lo slo.2.2.2.2.1 slo.1.2.2.2.1 slo.1.2.2.2.2, va_up_ne _ _ nlh, va_up_self, vz213, y3]; exact hP3.1 (by rw [← y3, ← vz213]; omega))
              | (rw [va_up_self, va_up_ne _ _ (Ne.symm nlh), vo213 hi shi.2.2.2.2.1 shi.1.2.2.2.1 shi.1.2.2.2.2, va_up_self, vz213, y3]; exact hP3.2 (by rw [← y3, ← vz213]; omega))
              | (rw [va_up_self, va_up_ne _ _ nlh, vo213 lo slo.2.2.2.2.1 slo.1.2.2.2.1 slo.1.2.2.2.2, va_up_ne _ _ slo.2.2.2.2.2, vz213, y3]; exact hP3.1 (by rw [← y3, ← vz213]; omega))
              | (rw [va_up_self, va_up_ne _ _ (Ne.symm nlh), vo213 hi shi.2.2.2.2.1 shi.1.2.2.2.1 shi.1.2.2.2.2, va_up_ne _ _ shi.2.2.2.2.2, vz213, y3]; exact hP3.2 (by rw [← y3, ← vz213]; omega))), (fun b h1 h2 h3 h4 h5 h6 => by
              first
              | (rw [va_up_ne _ _ h2, vo213 b h4 h5 h6, va_up_ne _ _ h2, va_up_ne _ _ h1, va_up_ne _ _ h3]; exact cf b h1 h2 h3 h4 h5 h6)
              | (rw [va_up_ne _ _ h1, vo213 b h4 h5 h6, va_up_ne _ _ h2, va_up_ne _ _ h1, va_up_ne _ _ h3]; exact cf b h1 h2 h3 h4 h5 h6)
              | (rw [va_up_ne _ _ h2, vo213 b h4 h5 h6, va_up_ne _ _ h3]; exact cf b h1 h2 h3 h4 h5 h6)
              | (rw [va_up_ne _ _ h1, vo213 b h4 h5 h6, va_up_ne _ _ h3]; exact cf b h1 h2 h3 h4 h5 h6)), hV, lv_sub hl [3, 4, 5, 6, 7, 1, 8, 0] rfl⟩
  · skip
    refine lv_aload_n hx hb dX7_locate_224 rfl (lv_at hl 4 rfl) ?_
    refine lv_aload_n hx hb dX7_locate_225 rfl (lv_at hl 1 rfl) ?_
    refine x_get E hK hV (ci := 7) (C := RX7) (T := TX7) (N := 10) rfl w0c_in7 (pW_x hSo) 9 (by decide) rfl cf_7_31 rfl dX7_locate_226 ?_
    have n229 := num1_le (hN _ muu) (t := 2) (by rw [vu213]; exact lt_B hy60 (by omega))
    refine c_callv (As := [.ref uu]) (rest := []) E (k0_copy (v := v213) (h0 := hi) (a := uu) mhi hN muu shi.2.2.2.2.2 (by omega)) (cwV 1 hts (cGood cl_X7_72 ci_X0_copy cs_X0_copy cn_RX0 cc_X0_copy) rfl rfl rfl (by decide +kernel) ⟨Nat.le_of_ble_eq_true rfl, Nat.le_of_ble_eq_true rfl⟩) (b_recv hK hV mhi) hK hV hA hR rfl hl.1 (Nat.le_of_ble_eq_true rfl) dX7_locate_229 (fun X229 dd229 nn229 ss229 ll229 gg229 H locs q229 hV hm229 => ?_)
    obtain ⟨e1_, hN⟩ := q229
    obtain rfl := e1_.symm
    rw [vu213] at hN
    refine lv_iload hx hb dX7_locate_232 (lv_at hl 0 rfl) ?_
    refine lv_istore (lv' := [(7, Iz (z213)), (10, Iz (z213)), (0, .ref s0), (1, Iz (ii)), (2, .ref lo), (3, .ref hi), (5, Iz (ee)), (6, Iz (be)), (9, Iz (t))]) hx hb dX7_locate_234 hl (by decide) rfl (fun ls hl => ?_)
    refine lv_goto (tgt := 251) hx hb dX7_locate_236 (by decide) ?_
    refine g_iinc (k := 8) (z := t) (n := (1)) (lv' := [(9, Iz (t + 1)), (7, Iz (z213)), (10, Iz (z213)), (0, .ref s0), (1, Iz (ii)), (2, .ref lo), (3, .ref hi), (5, Iz (ee)), (6, Iz (be))]) hx hb dX7_locate_251 hl rfl (by decide) rfl (fun ls hl => ?_)
    refine lv_goto (tgt := 133) hx hb dX7_locate_254 (by decide) ?_
    exact ih_133 _ (by omega) _ _ _ _ _ ⟨_, _, _, _, _, (va_up v213 hi y), (t + 1), ee, be, z213, rfl, rfl, rfl, hN, (by omega), (by omega), (by omega), (by omega), (by omega), (by omega), (by
              rw [m60e]
              first
              | (rw [va_up_self, va_up_ne _ _ nlh, vo213 lo slo.2.2.2.2.1 slo.1.2.2.2.1 slo.1.2.2.2.2, va_up_ne _ _ nlh, va_up_self, vz213, y3]; exact hP3.1 (by rw [← y3, ← vz213]; omega))
              | (rw [va_up_self, va_up_ne _ _ (Ne.symm nlh), vo213 hi shi.2.2.2.2.1 shi.1.2.2.2.1 shi.1.2.2.2.2, va_up_self, vz213, y3]; exact hP3.2 (by rw [← y3, ← vz213]; omega))
              | (rw [va_up_self, va_up_ne _ _ nlh, vo213 lo slo.2.2.2.2.1 slo.1.2.2.2.1 slo.1.2.2.2.2, va_up_ne _ _ slo.2.2.2.2.2, vz213, y3]; exact hP3.1 (by rw [← y3, ← vz213]; omega))
              | (rw [va_up_self, va_up_ne _ _ (Ne.symm nlh), vo213 hi shi.2.2.2.2.1 shi.1.2.2.2.1 shi.1.2.2.2.2, va_up_ne _ _ shi.2.2.2.2.2, vz213, y3]; exact hP3.2 (by rw [← y3, ← vz213]; omega))), (fun b h1 h2 h3 h4 h5 h6 => by
              first
              | (rw [va_up_ne _ _ h2, vo213 b h4 h5 h6, va_up_ne _ _ h2, va_up_ne _ _ h1, va_up_ne _ _ h3]; exact cf b h1 h2 h3 h4 h5 h6)
              | (rw [va_up_ne _ _ h1, vo213 b h4 h5 h6, va_up_ne _ _ h2, va_up_ne _ _ h1, va_up_ne _ _ h3]; exact cf b h1 h2 h3 h4 h5 h6)
              | (rw [va_up_ne _ _ h2, vo213 b h4 h5 h6, va_up_ne _ _ h3]; exact cf b h1 h2 h3 h4 h5 h6)
              | (rw [va_up_ne _ _ h1, vo213 b h4 h5 h6, va_up_ne _ _ h3]; exact cf b h1 h2 h3 h4 h5 h6)), hV, lv_sub hl [3, 4, 5, 6, 7, 8, 1, 0] rfl⟩
