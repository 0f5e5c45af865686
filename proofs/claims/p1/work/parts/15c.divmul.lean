set_option maxHeartbeats 4000000 in
set_option maxRecDepth 100000 in
theorem c_divide316 {l : Launch}
  {dC : Nat → ClassId}
  {dI : Nat → Nat → Nat}
  {h0 : Nat}
  {ad : Nat → Nat}
  {cI cJ cB cZ : Nat}
  {F : Nat → Int}
  {ar : Nat → Int → Int}
  {a b : Int}
  (t0 : 0 ≤ F 2)
  (a0 : 0 ≤ a)
  (b0 : 0 ≤ b)
  (hk : hok (ar 1))
  (na : nm (ar 1) a)
  (nb : nm (ar 1) b)
  (hb1 : 1 ≤ nsz (ar 1) b)
  {p : Program}
  {e : Env}
  {s : State}
  {m : MethodId}
  {below : List Frame}
  {meth : Method}
  {c : Code}
  {s₁ : State}
  (hml : c.maxLocals = 26)
  (B : BodyLoose p l yX12_divide (headSpec (Cond.code yX12_divide cX12_divide 26 none :: w0r) (rRm 3 80)) cX12_divide 26 none
    e s m #[Value.ref h0, Iz a, Iz b] below meth c s₁)
  (hK : va_K (dC, dI) rcl (rty cI cJ cB cZ) s)
  (hD0 : va_D (fun x => True) (mW h0 ad cI cJ cB cZ F ar))
  (hx : p.tables.exec = Jvm.exec)
  (hb : c.code = cX12_divide)
  (hr : meth.sig.returnType = none)
  (hts : ∀ (c : Cond), c ∈ Cond.code yX12_divide cX12_divide 26 none :: w0r → c.before #[Value.ref h0, Iz a, Iz b] s = true)
  (hown : s.vm.findClass RX12 = some m.cls)
  (hlocks : meth.locks = false)
  (E : CallFix p m c cX12_divide 26 s #[Value.ref h0, Iz a, Iz b] (Cond.code yX12_divide cX12_divide 26 none :: w0r) RX12)
  (hA : ∀ (q : Nat), Array.size s.heap ≤ q → rA h0 ad (Array.size s.heap) q)
  (s0 : 0 ≤ nsz (ar 1) a)
  (s2 : 0 ≤ nsz (ar 1) b)
  {z3 : Int}
  (q3 : -1 ≤ z3 ∧ z3 ≤ 1 ∧ (z3 < 0 → nv (ar 1) a < nv (ar 1) b) ∧ (0 ≤ z3 → nsz (ar 1) b ≤ nsz (ar 1) a))
  (c_6 : 0 ≤ z3)
  (c_36 : nsz (ar 1) b ≠ 1)
  {n2 : Nat}
  (hn2 : nsz (ar 1) b = ↑n2 + 2)
  (tb0 : 1 ≤ ar 1 (b + nsz (ar 1) b))
  {sh : Int}
  (sh0 : 0 ≤ sh)
  (sh1 : sh < 31)
  {F75 : Nat → Int}
  {ar75 : Nat → Int → Int}
  (x1 : nK F F75 ar ar75)
  (x2 : nm (ar75 1) (F 2))
  (nb75 : nm (ar75 1) b)
  (vb75 : nv (ar75 1) b = nv (ar 1) b)
  (xs0 : 0 ≤ nsz (ar75 1) (F 2))
  {F84 : Nat → Int}
  {ar84 : Nat → Int → Int}
  (y1 : nK F75 F84 ar75 ar84)
  (y2 : nm (ar84 1) (F75 2))
  (ys : nsz (ar84 1) (F75 2) = nsz (ar 1) b ∧ 1073741824 ≤ ar84 1 (F75 2 + nsz (ar 1) b))
  (e1_ : F84 = F84)
  (e2_ : ar84 = ar84)
  (e3_ : nsz (ar84 1) (F 2) = nsz (ar84 1) (F 2))
  {M : Int}
  (hM : M = nsz (ar84 1) (F 2) - nsz (ar 1) b)
  {w0 : Int}
  (hw0 : w0 = F84 2)
  {ar3 : Nat → Int → Int}
  {i : Int}
  (i0 : 0 ≤ i)
  (i1 : i ≤ nsz (ar 1) b + M)
  (q1 : ∀ (j : Nat), j ≠ 1 → ar3 j = ar84 j)
  (q2 : ∀ (t : Int), t < w0 → ar3 1 t = ar84 1 t)
  (q3' : ∀ (t : Int), 0 ≤ t → t < i → ar3 1 (w0 + t) = ar84 1 (F 2 + 1 + t))
  (q4 : hok (ar3 1))
  (c_114 : nsz (ar 1) b + M ≤ i)
  {h5 : Int → Int}
  (hh5 : h5 = iup (ar3 1) (w0 + nsz (ar 1) b + M) 0)
  (hok5 : hok h5)
  {q0 : Int}
  (hq0 : q0 = w0 + nsz (ar 1) b + M + 1)
  {v1 : Int}
  (hv1 : v1 = h5 (F75 2 + nsz (ar 1) b))
  {v2 : Int}
  (hv2 : v2 = h5 (F75 2 + nsz (ar 1) b - 1))
  (ylt : F75 2 + nsz (ar 1) b < w0)
  {V : Int}
  (hV : V = nv (ar84 1) (F75 2))
  (ysn : (nsz (ar84 1) (F75 2)).toNat = n2 + 2)
  (hVk : V = kn_v (fun t => ar84 1 (F75 2 + 1 + t)) (n2 + 2))
  (yd : kn_d (fun i => ar84 1 (F75 2 + 1 + i)) (n2 + 2))
  (ev1 : v1 = ar84 1 (F75 2 + nsz (ar 1) b))
  (ev2 : v2 = ar84 1 (F75 2 + nsz (ar 1) b - 1))
  (Vlo : 2147483648 ^ (n2 + 1) ≤ V)
  (Vhi : V < 2147483648 ^ (n2 + 2))
  (Pn : (0 : Int) < 2147483648 ^ n2)
  {ar4 : Nat → Int → Int}
  {j : Int}
  (ih_199 : ∀ (n' : Nat),
    n' < (j + 1).toNat →
      ∀ (H' : Heap) (locs' : List Loc) (ls' : Array Slot),
        (∃ ar4 j,
            n' = (j + 1).toNat ∧
              -1 ≤ j ∧
                j ≤ M ∧
                  (∀ (k : Nat), k ≠ 1 → ar4 k = ar84 k) ∧
                    (∀ (t : Int), t < w0 → ar4 1 t = ar84 1 t) ∧
                      hok (ar4 1) ∧
                        (∀ (t : Int), 0 ≤ t → t ≤ nsz (ar 1) b + M → 0 ≤ ar4 1 (w0 + t)) ∧
                          kn_v (fun t => ar4 1 (w0 + (j + 1) + t)) (n2 + 2) < V ∧
                            (∀ (t : Int), j < t → t ≤ M → 0 ≤ ar4 1 (q0 + 1 + t)) ∧
                              va_P (dC, dI) rcl (mW h0 ad cI cJ cB cZ F84 ar4) H' ∧
                                va_D (rA h0 ad (Array.size s.heap)) (mW h0 ad cI cJ cB cZ F84 ar4) ∧
                                  va_S (rA h0 ad (Array.size s.heap)) s.heap H' locs' ∧
                                    lv_has ls' 26
                                      [(0, Value.ref h0), (1, Iz a), (2, Iz b), (3, Iz (nsz (ar 1) b)), (4, Iz sh),
                                        (5, Iz (F 2)), (6, Iz (F75 2)), (7, Iz M), (8, Iz w0), (9, Iz q0), (10, Jz v1),
                                        (12, Jz v2), (14, Iz j)]) →
          W p l e (headSpec (Cond.code yX12_divide cX12_divide 26 none :: w0r) (rRm 3 80)).room s m
            #[Value.ref h0, Iz a, Iz b] below meth c H' locs' 0 0
            (MQ below
              (rQv dC dI h0 ad cI cJ cB cZ (Array.size s.heap) fun F' ar' =>
                dvP F F' ar ar' a b (8 * nsz (ar 1) a + 30))
              #[Value.ref h0, Iz a, Iz b] s 0 0 (rA h0 ad (Array.size s.heap)))
            (F0 m 199 ls' []))
  (j0 : -1 ≤ j)
  (j1 : j ≤ M)
  (r1 : ∀ (k : Nat), k ≠ 1 → ar4 k = ar84 k)
  (r2 : ∀ (t : Int), t < w0 → ar4 1 t = ar84 1 t)
  (r4 : hok (ar4 1))
  (rd : ∀ (t : Int), 0 ≤ t → t ≤ nsz (ar 1) b + M → 0 ≤ ar4 1 (w0 + t))
  (rv : kn_v (fun t => ar4 1 (w0 + (j + 1) + t)) (n2 + 2) < V)
  (rq : ∀ (t : Int), j < t → t ≤ M → 0 ≤ ar4 1 (q0 + 1 + t))
  (c_201 : 0 ≤ j)
  (bdN : 0 ≤ w0 + j + nsz (ar 1) b ∧ w0 + j + nsz (ar 1) b < 6000000)
  (bdq : 0 ≤ q0 + 1 + j ∧ q0 + 1 + j < 6000000)
  (bdw : 0 ≤ w0 ∧ w0 + nsz (ar 1) b + M < 6000000 ∧ nsz (ar 1) b < 6000000 ∧ 0 ≤ F75 2 ∧ 0 ≤ M)
  (dg : ∀ (t : Int), 0 ≤ t → t ≤ nsz (ar 1) b → 0 ≤ ar4 1 (w0 + j + t))
  {u2 : Int}
  (hu2 : u2 = ar4 1 (w0 + j + nsz (ar 1) b))
  {u1 u0 : Int}
  (u2a : 0 ≤ u2)
  (u2b : u2 < 2147483648)
  (dW : kn_d (fun t => ar4 1 (w0 + j + t)) (n2 + 3))
  {U : Int}
  (hU : U = kn_v (fun t => ar4 1 (w0 + j + t)) (n2 + 3))
  {up : Int}
  {H : Heap}
  {locs : List Loc}
  {ls : Array Slot}
  {g r : Int}
  (g0 : 0 ≤ g)
  (r0 : 0 ≤ r)
  (gU : U < (g + 1) * V)
  (hP : va_P (dC, dI) rcl (mW h0 ad cI cJ cB cZ F84 ar4) H)
  (hD : va_D (rA h0 ad (Array.size s.heap)) (mW h0 ad cI cJ cB cZ F84 ar4))
  (hS : va_S (rA h0 ad (Array.size s.heap)) s.heap H locs)
  (hl : lv_has ls 26
    [(0, Value.ref h0), (1, Iz a), (2, Iz b), (3, Iz (nsz (ar 1) b)), (4, Iz sh), (5, Iz (F 2)), (6, Iz (F75 2)),
      (7, Iz M), (8, Iz w0), (9, Iz q0), (10, Jz v1), (12, Jz v2), (14, Iz j), (15, Jz up), (17, Jz g), (19, Jz r)])
  (gE : g * V ≤ U + V)
  (gB : g < 2147483648) :
  W p l e (headSpec (Cond.code yX12_divide cX12_divide 26 none :: w0r) (rRm 3 80)).room s m #[Value.ref h0, Iz a, Iz b]
    below meth c H locs 0 0
    (MQ below
      (rQv dC dI h0 ad cI cJ cB cZ (Array.size s.heap) fun F' ar' => dvP F F' ar ar' a b (8 * nsz (ar 1) a + 30))
      #[Value.ref h0, Iz a, Iz b] s 0 0 (rA h0 ad (Array.size s.heap)))
    (F0 m 316 ls []) := by
  refine lv_lconst (v := Int64.ofInt 0) hx hb dX12_divide_316 rfl ?_
  refine lv_lstore (lv' := [(21, Jz (0)), (0, .ref h0), (1, Iz (a)), (2, Iz (b)), (3, Iz (nsz (ar 1) b)), (4, Iz (sh)), (5, Iz (F 2)), (6, Iz (F75 2)), (7, Iz (M)), (8, Iz (w0)), (9, Iz (q0)), (10, Jz (v1)), (12, Jz (v2)), (14, Iz (j)), (15, Jz (up)), (17, Jz (g)), (19, Jz (r))]) hx hb dX12_divide_317 hl (by decide) rfl (fun ls hl => ?_)
  refine lv_lconst (v := Int64.ofInt 0) hx hb dX12_divide_319 rfl ?_
  refine lv_lstore (lv' := [(23, Jz (0)), (21, Jz (0)), (0, .ref h0), (1, Iz (a)), (2, Iz (b)), (3, Iz (nsz (ar 1) b)), (4, Iz (sh)), (5, Iz (F 2)), (6, Iz (F75 2)), (7, Iz (M)), (8, Iz (w0)), (9, Iz (q0)), (10, Jz (v1)), (12, Jz (v2)), (14, Iz (j)), (15, Jz (up)), (17, Jz (g)), (19, Jz (r))]) hx hb dX12_divide_320 hl (by decide) rfl (fun ls hl => ?_)
  refine lv_iconst (v := Int32.ofInt (0)) hx hb dX12_divide_322 (by decide) ?_
  refine lv_istore (lv' := [(25, Iz (0)), (23, Jz (0)), (21, Jz (0)), (0, .ref h0), (1, Iz (a)), (2, Iz (b)), (3, Iz (nsz (ar 1) b)), (4, Iz (sh)), (5, Iz (F 2)), (6, Iz (F75 2)), (7, Iz (M)), (8, Iz (w0)), (9, Iz (q0)), (10, Jz (v1)), (12, Jz (v2)), (14, Iz (j)), (15, Jz (up)), (17, Jz (g)), (19, Jz (r))]) hx hb dX12_divide_323 hl (by decide) rfl (fun ls hl => ?_)
  refine r_loop (P := fun N_ H locs ls => ∃ (ar5 : Nat → Int → Int) (i : Int) (bo : Int) (cy : Int), N_ = (nsz (ar 1) b - i).toNat ∧ (0 ≤ i) ∧ (i ≤ nsz (ar 1) b) ∧ (0 ≤ cy) ∧ (cy < 2147483648) ∧ (-1 ≤ bo) ∧ (bo ≤ 0) ∧ (∀ k : Nat, k ≠ 1 → ar5 k = ar84 k) ∧ (∀ t : Int, (t < w0 + j ∨ w0 + j + i ≤ t) → ar5 1 t = ar4 1 t) ∧ (hok (ar5 1)) ∧ (∀ t : Int, 0 ≤ t → t < i → 0 ≤ ar5 1 (w0 + j + t)) ∧ (kn_v (fun t => ar5 1 (w0 + j + t)) i.toNat = kn_v (fun t => ar4 1 (w0 + j + t)) i.toNat - g * kn_v (fun t => ar84 1 (F75 2 + 1 + t)) i.toNat + (cy - bo) * 2147483648 ^ i.toNat) ∧ va_P (dC, dI) rcl (mW h0 ad cI cJ cB cZ F84 ar5) H ∧ va_D (rA h0 ad s.heap.size) (mW h0 ad cI cJ cB cZ F84 ar5) ∧ va_S (rA h0 ad s.heap.size) s.heap H locs ∧ lv_has ls 26 [(0, .ref h0), (1, Iz (a)), (2, Iz (b)), (3, Iz (nsz (ar 1) b)), (4, Iz (sh)), (5, Iz (F 2)), (6, Iz (F75 2)), (7, Iz (M)), (8, Iz (w0)), (9, Iz (q0)), (10, Jz (v1)), (12, Jz (v2)), (14, Iz (j)), (17, Jz (g)), (21, Jz (bo)), (23, Jz (cy)), (25, Iz (i))]) (g := fun ls => F0 m 325 ls []) (fun N_ H locs ls hI ih_325 => ?_) _ _ _ _ ⟨ar4, 0, 0, 0, rfl, (Int.le_refl 0), (by omega), (Int.le_refl 0), (by omega), (by omega), (Int.le_refl 0), (r1), (fun _ _ => rfl), (r4), (fun t a b => by omega), (by show (0 : Int) = 0 - g * 0 + (0 - 0) * 1; omega), hP, hD, hS, lv_sub hl [3, 4, 5, 6, 7, 8, 9, 10, 11, 12, 13, 14, 15, 17, 2, 1, 0] rfl⟩
  obtain ⟨ar5, i, bo, cy, rfl, mi0, mi1, mc0, mc1, mb0, mb1, mt1, mt2, mt4, mtd, mtv, hP, hD, hS, hl⟩ := hI
  refine lv_iload hx hb dX12_divide_325 (lv_at hl 16 rfl) ?_
  refine lv_iload_n hx hb dX12_divide_327 rfl (lv_at hl 3 rfl) ?_
  refine g_icmp_ge (tgt := 418) hx hb ⟨by omega, by omega⟩ ⟨by omega, by omega⟩ dX12_divide_328 (by decide) (fun c_328 => ?_) (fun c_328 => ?_)
  · skip
    have hiN : i = nsz (ar 1) b := by omega
    have eu : ar5 1 (w0 + j + nsz (ar 1) b) = u2 := (mt2 _ (Or.inr (by omega))).trans hu2.symm
    have hN2 : i.toNat = n2 + 2 := by omega
    rw [hN2, ← hVk] at mtv
    have hUt : U = kn_v (fun t => ar4 1 (w0 + j + t)) (n2 + 2) + u2 * 2147483648 ^ (n2 + 2) := by rw [hU]; show kn_v _ (n2 + 2) + ar4 1 (w0 + j + ((n2 + 2 : Nat) : Int)) * _ = _; rw [show w0 + j + ((n2 + 2 : Nat) : Int) = w0 + j + nsz (ar 1) b by omega, ← hu2]
    have Rd : kn_d (fun t => ar5 1 (w0 + j + t)) (n2 + 2) := fun t a b => ⟨mtd t a (by omega), (mt4 _).2⟩
    have R0 := kn_v_nonneg Rd
    have R1 := kn_v_lt Rd
    have PN := kn_pow_pos (n2 + 2)
    refine lv_lload hx hb dX12_divide_418 (lv_at hl 14 rfl) ?_
    refine lv_aload_n hx hb dX12_divide_420 rfl (lv_at hl 0 rfl) ?_
    refine r_geti E hK hP (k := 1) (v := .ref (ad 1)) (by decide) mf_7 rfl rfl dX12_divide_421 ?_
    refine lv_iload hx hb dX12_divide_424 (lv_at hl 8 rfl) ?_
    refine lv_iload hx hb dX12_divide_426 (lv_at hl 12 rfl) ?_
    refine g_iadd hx hb dX12_divide_428 ?_
    refine lv_iload_n hx hb dX12_divide_429 rfl (lv_at hl 3 rfl) ?_
    refine g_iadd hx hb dX12_divide_430 ?_
    refine g_iald (f := (ar5 1)) hx hb hK hP 1 0 rfl rfl bdN.1 bdN.2 (by decide) dX12_divide_431 ?_
    rw [eu]
    refine g_i2l hx hb ⟨by omega, by omega⟩ dX12_divide_432 ?_
    refine g_ladd hx hb dX12_divide_433 ?_
    refine lv_lload hx hb dX12_divide_434 (lv_at hl 15 rfl) ?_
    refine g_lsub hx hb dX12_divide_436 ?_
    obtain ⟨bb, hbb⟩ : ∃ bb : Int, bb = bo + u2 - cy := ⟨_, rfl⟩
    rw [← hbb]
    have hend := dv_tot hUt mtv hbb
    refine lv_lstore (lv' := [(21, Jz (bb)), (0, .ref h0), (1, Iz (a)), (2, Iz (b)), (3, Iz (nsz (ar 1) b)), (4, Iz (sh)), (5, Iz (F 2)), (6, Iz (F75 2)), (7, Iz (M)), (8, Iz (w0)), (9, Iz (q0)), (10, Jz (v1)), (12, Jz (v2)), (14, Iz (j)), (17, Jz (g)), (23, Jz (cy)), (25, Iz (i))]) hx hb dX12_divide_437 hl (by decide) rfl (fun ls hl => ?_)
    refine lv_aload_n hx hb dX12_divide_439 rfl (lv_at hl 1 rfl) ?_
    refine r_geti E hK hP (k := 1) (v := .ref (ad 1)) (by decide) mf_7 rfl rfl dX12_divide_440 ?_
    refine lv_iload hx hb dX12_divide_443 (lv_at hl 9 rfl) ?_
    refine lv_iload hx hb dX12_divide_445 (lv_at hl 13 rfl) ?_
    refine g_iadd hx hb dX12_divide_447 ?_
    refine lv_iload_n hx hb dX12_divide_448 rfl (lv_at hl 4 rfl) ?_
    refine g_iadd hx hb dX12_divide_449 ?_
    refine lv_lload hx hb dX12_divide_450 (lv_at hl 0 rfl) ?_
    refine lv_ldc2 (v := Int64.ofInt (2147483647)) hx hb hown (hts _ (List.mem_cons_of_mem _ mj_14)) dX12_divide_452 ?_
    refine g_landM hx hb dX12_divide_455 ?_
    refine g_l2i hx hb dX12_divide_456 ?_
    refine g_iast (f := (ar5 1)) hx hb hK hP hD hS 1 0 rfl rfl bdN.1 bdN.2 (by decide) dX12_divide_457 (fun H locs hP hD hS => ?_)
    rw [sa_1] at hP hD
    refine lv_lload hx hb dX12_divide_458 (lv_at hl 0 rfl) ?_
    refine lv_lconst (v := Int64.ofInt 0) hx hb dX12_divide_460 rfl ?_
    refine g_lcmp hx hb ⟨by omega, by omega⟩ ⟨by omega, by omega⟩ dX12_divide_461 ?_
    refine g_if_ge (tgt := 582) hx hb (g_cmp_i _ _) dX12_divide_462 (by decide) (fun c_462 => ?_) (fun c_462 => ?_)
    · skip
      obtain ⟨hb9, xb, gq, e9, fA, fB, fC, fD, xb0, xb1, gq0, gq1⟩ : ∃ (hb9 : Int → Int) (xb gq : Int), (iup hb9 (w0 + j + nsz (ar 1) b) xb = (iup (ar5 1) ((w0 + j) + (nsz (ar 1) b)) (bb % 2147483648)) ∧ gq = g) ∧ (∀ t : Int, (t < w0 + j ∨ w0 + j + nsz (ar 1) b < t) → hb9 t = ar4 1 t) ∧ hok hb9 ∧ (∀ t : Int, 0 ≤ t → t < nsz (ar 1) b → 0 ≤ hb9 (w0 + j + t)) ∧ kn_v (fun t => hb9 (w0 + j + t)) (n2 + 2) < V ∧ 0 ≤ xb ∧ xb < 2147483648 ∧ 0 ≤ gq ∧ gq < 2147483648 := by
        first
        | exact ⟨ar6 1, _, _, ⟨rfl, rfl⟩, sA, sb4, sC, fD6, Int.emod_nonneg _ (by decide), Int.emod_lt_of_pos _ (by decide), g1a, g1b⟩
        | exact ⟨ar5 1, _, _, ⟨rfl, rfl⟩, fun t ht => mt2 t (by omega), mt4, fun t a b => mtd t a (by omega), dv_end0 hend R0 (Int.le_of_lt Vhi) PN gU (g_cmp_ge.mp c_462), by omega, by omega, g0, gB⟩
      refine lv_aload_n hx hb dX12_divide_582 rfl (lv_at hl 1 rfl) ?_
      refine r_geti E hK hP (k := 1) (v := .ref (ad 1)) (by decide) mf_7 rfl rfl dX12_divide_583 ?_
      refine lv_iload hx hb dX12_divide_586 (lv_at hl 10 rfl) ?_
      refine lv_iconst (v := Int32.ofInt (1)) hx hb dX12_divide_588 (by decide) ?_
      refine g_iadd hx hb dX12_divide_589 ?_
      refine lv_iload hx hb dX12_divide_590 (lv_at hl 13 rfl) ?_
      refine g_iadd hx hb dX12_divide_592 ?_
      refine lv_lload hx hb dX12_divide_593 (lv_at hl 14 rfl) ?_
      refine g_l2i hx hb dX12_divide_595 ?_
      refine g_iast (f := (iup (ar5 1) ((w0 + j) + (nsz (ar 1) b)) (bb % 2147483648))) hx hb hK hP hD hS 1 0 rfl rfl bdq.1 bdq.2 (by decide) dX12_divide_596 (fun H locs hP hD hS => ?_)
      rw [sa_1] at hP hD
      have fin := dv_fin (h84 := ar84 1) hn2 hq0 (by omega) j1 r2 rd rq fA fB fC fD xb0 xb1 gq0 gq1
      rw [e9.1, e9.2] at fin
      refine g_iinc (k := 13) (z := j) (n := (-1)) (lv' := [(14, Iz (j + (-1))), (21, Jz (bb)), (0, .ref h0), (1, Iz (a)), (2, Iz (b)), (3, Iz (nsz (ar 1) b)), (4, Iz (sh)), (5, Iz (F 2)), (6, Iz (F75 2)), (7, Iz (M)), (8, Iz (w0)), (9, Iz (q0)), (10, Jz (v1)), (12, Jz (v2)), (17, Jz (g)), (23, Jz (cy)), (25, Iz (i))]) hx hb dX12_divide_597 hl rfl (by decide) rfl (fun ls hl => ?_)
      refine lv_goto (tgt := 199) hx hb dX12_divide_600 (by decide) ?_
      exact ih_199 _ (by omega) _ _ _ ⟨(aup (aup ar5 1 (iup (ar5 1) ((w0 + j) + (nsz (ar 1) b)) (bb % 2147483648))) 1 (iup (iup (ar5 1) ((w0 + j) + (nsz (ar 1) b)) (bb % 2147483648)) ((q0 + 1) + j) g)), (j + (-1)), rfl, (by omega), (by omega), (fun k hk => by rw [aup_ne _ _ hk, aup_ne _ _ hk]; first | exact sb1 k hk | exact mt1 k hk), (fin.1), (fin.2.1), (fin.2.2.1), (fin.2.2.2.1), (fin.2.2.2.2), hP, hD, hS, lv_sub hl [2, 3, 4, 5, 6, 7, 8, 9, 10, 11, 12, 13, 0] rfl⟩
    · skip
      have bneg : bb < 0 := g_cmp_lt.mp c_462
      have gpos2 : 1 ≤ g := by
        rcases Int.lt_or_le g 1 with q | q
        · have e : g = 0 := by omega
          have hU0 := kn_v_nonneg dW
          have h1 : bb * 2147483648 ^ (n2 + 2) ≤ (-1) * 2147483648 ^ (n2 + 2) := Int.mul_le_mul_of_nonneg_right (by omega) (by omega)
          rw [e, Int.zero_mul] at hend
          omega
        · exact q
      refine lv_lload hx hb dX12_divide_465 (lv_at hl 14 rfl) ?_
      refine lv_lconst (v := Int64.ofInt 1) hx hb dX12_divide_467 rfl ?_
      refine g_lsub hx hb dX12_divide_468 ?_
      refine lv_lstore (lv' := [(17, Jz (g - 1)), (21, Jz (bb)), (0, .ref h0), (1, Iz (a)), (2, Iz (b)), (3, Iz (nsz (ar 1) b)), (4, Iz (sh)), (5, Iz (F 2)), (6, Iz (F75 2)), (7, Iz (M)), (8, Iz (w0)), (9, Iz (q0)), (10, Jz (v1)), (12, Jz (v2)), (14, Iz (j)), (23, Jz (cy)), (25, Iz (i))]) hx hb dX12_divide_469 hl (by decide) rfl (fun ls hl => ?_)
      refine lv_lconst (v := Int64.ofInt 0) hx hb dX12_divide_471 rfl ?_
      refine lv_lstore (lv' := [(23, Jz (0)), (17, Jz (g - 1)), (21, Jz (bb)), (0, .ref h0), (1, Iz (a)), (2, Iz (b)), (3, Iz (nsz (ar 1) b)), (4, Iz (sh)), (5, Iz (F 2)), (6, Iz (F75 2)), (7, Iz (M)), (8, Iz (w0)), (9, Iz (q0)), (10, Jz (v1)), (12, Jz (v2)), (14, Iz (j)), (25, Iz (i))]) hx hb dX12_divide_472 hl (by decide) rfl (fun ls hl => ?_)
      have g1a : 0 ≤ g - 1 := by omega
      have g1b : g - 1 < 2147483648 := by omega
      obtain ⟨h6, hh6⟩ : ∃ h6, h6 = (iup (ar5 1) ((w0 + j) + (nsz (ar 1) b)) (bb % 2147483648)) := ⟨_, rfl⟩
      have h6a : ∀ t : Int, t ≠ w0 + j + nsz (ar 1) b → h6 t = ar5 1 t := fun t ht => by rw [hh6, iup_ne ht]
      have h6k : hok h6 := by rw [hh6]; exact hok_up mt4 (by omega) (by omega)
      refine lv_iconst (v := Int32.ofInt (0)) hx hb dX12_divide_474 (by decide) ?_
      refine lv_istore (lv' := [(25, Iz (0)), (23, Jz (0)), (17, Jz (g - 1)), (21, Jz (bb)), (0, .ref h0), (1, Iz (a)), (2, Iz (b)), (3, Iz (nsz (ar 1) b)), (4, Iz (sh)), (5, Iz (F 2)), (6, Iz (F75 2)), (7, Iz (M)), (8, Iz (w0)), (9, Iz (q0)), (10, Jz (v1)), (12, Jz (v2)), (14, Iz (j))]) hx hb dX12_divide_475 hl (by decide) rfl (fun ls hl => ?_)
      refine r_loop (P := fun N_ H locs ls => ∃ (ar6 : Nat → Int → Int) (i : Int) (cf : Int), N_ = (nsz (ar 1) b - i).toNat ∧ (0 ≤ i) ∧ (i ≤ nsz (ar 1) b) ∧ (0 ≤ cf) ∧ (cf ≤ 1) ∧ (∀ k : Nat, k ≠ 1 → ar6 k = ar84 k) ∧ (∀ t : Int, (t < w0 + j ∨ w0 + j + i ≤ t) → ar6 1 t = h6 t) ∧ (hok (ar6 1)) ∧ (∀ t : Int, 0 ≤ t → t < i → 0 ≤ ar6 1 (w0 + j + t)) ∧ (kn_v (fun t => ar6 1 (w0 + j + t)) i.toNat + cf * 2147483648 ^ i.toNat = kn_v (fun t => h6 (w0 + j + t)) i.toNat + kn_v (fun t => ar84 1 (F75 2 + 1 + t)) i.toNat) ∧ va_P (dC, dI) rcl (mW h0 ad cI cJ cB cZ F84 ar6) H ∧ va_D (rA h0 ad s.heap.size) (mW h0 ad cI cJ cB cZ F84 ar6) ∧ va_S (rA h0 ad s.heap.size) s.heap H locs ∧ lv_has ls 26 [(0, .ref h0), (1, Iz (a)), (2, Iz (b)), (3, Iz (nsz (ar 1) b)), (4, Iz (sh)), (5, Iz (F 2)), (6, Iz (F75 2)), (7, Iz (M)), (8, Iz (w0)), (9, Iz (q0)), (10, Jz (v1)), (12, Jz (v2)), (14, Iz (j)), (17, Jz (g - 1)), (21, Jz (bb)), (23, Jz (cf)), (25, Iz (i))]) (g := fun ls => F0 m 477 ls []) (fun N_ H locs ls hI ih_477 => ?_) _ _ _ _ ⟨(aup ar5 1 (iup (ar5 1) ((w0 + j) + (nsz (ar 1) b)) (bb % 2147483648))), 0, 0, rfl, (Int.le_refl 0), (by omega), (Int.le_refl 0), (by omega), (fun k hk => by rw [aup_ne _ _ hk]; exact mt1 k hk), (fun t _ => by rw [hh6]; rfl), (by have h := h6k; rw [hh6] at h; exact h), (fun t a b => by omega), (by show (0 : Int) + 0 * 1 = 0 + 0; omega), hP, hD, hS, lv_sub hl [4, 5, 6, 7, 8, 9, 10, 11, 12, 13, 14, 15, 16, 2, 3, 1, 0] rfl⟩
      obtain ⟨ar6, i, cf, rfl, si0, si1, sc0, sc1, sb1, sb2, sb4, sbd, sbv, hP, hD, hS, hl⟩ := hI
      refine lv_iload hx hb dX12_divide_477 (lv_at hl 16 rfl) ?_
      refine lv_iload_n hx hb dX12_divide_479 rfl (lv_at hl 3 rfl) ?_
      refine g_icmp_ge (tgt := 549) hx hb ⟨by omega, by omega⟩ ⟨by omega, by omega⟩ dX12_divide_480 (by decide) (fun c_480 => ?_) (fun c_480 => ?_)
      · skip
        have hiN2 : i = nsz (ar 1) b := by omega
        have hN3 : i.toNat = n2 + 2 := by omega
        rw [hN3, ← hVk] at sbv
        have e6 : kn_v (fun t => h6 (w0 + j + t)) (n2 + 2) = kn_v (fun t => ar5 1 (w0 + j + t)) (n2 + 2) := kn_v_congr (fun t a b => h6a _ (by omega))
        rw [e6] at sbv
        have Rd6 : kn_d (fun t => ar6 1 (w0 + j + t)) (n2 + 2) := fun t a b => ⟨sbd t a (by omega), (sb4 _).2⟩
        have fD6 := dv_end1 hend sbv R1 (kn_v_nonneg Rd6) (kn_v_lt Rd6) (Int.le_of_lt Vhi) PN gE bneg
        clear sbv hend mtv hUt e6 gE gU Rd Rd6 R0 R1 Vlo Vhi Pn PN hV hVk hU
        have sA : ∀ t : Int, (t < w0 + j ∨ w0 + j + nsz (ar 1) b < t) → ar6 1 t = ar4 1 t := fun t ht => (sb2 t (by omega)).trans ((h6a t (by omega)).trans (mt2 t (by omega)))
        have sC : ∀ t : Int, 0 ≤ t → t < nsz (ar 1) b → 0 ≤ ar6 1 (w0 + j + t) := fun t a b => sbd t a (by omega)
        refine lv_aload_n hx hb dX12_divide_549 rfl (lv_at hl 0 rfl) ?_
        refine r_geti E hK hP (k := 1) (v := .ref (ad 1)) (by decide) mf_7 rfl rfl dX12_divide_550 ?_
        refine lv_iload hx hb dX12_divide_553 (lv_at hl 8 rfl) ?_
        refine lv_iload hx hb dX12_divide_555 (lv_at hl 12 rfl) ?_
        refine g_iadd hx hb dX12_divide_557 ?_
        refine lv_iload_n hx hb dX12_divide_558 rfl (lv_at hl 3 rfl) ?_
        refine g_iadd hx hb dX12_divide_559 ?_
        refine lv_aload_n hx hb dX12_divide_560 rfl (lv_at hl 0 rfl) ?_
        refine r_geti E hK hP (k := 1) (v := .ref (ad 1)) (by decide) mf_7 rfl rfl dX12_divide_561 ?_
        refine lv_iload hx hb dX12_divide_564 (lv_at hl 8 rfl) ?_
        refine lv_iload hx hb dX12_divide_566 (lv_at hl 12 rfl) ?_
        refine g_iadd hx hb dX12_divide_568 ?_
        refine lv_iload_n hx hb dX12_divide_569 rfl (lv_at hl 3 rfl) ?_
        refine g_iadd hx hb dX12_divide_570 ?_
        refine g_iald (f := (ar6 1)) hx hb hK hP 1 0 rfl rfl bdN.1 bdN.2 (by decide) dX12_divide_571 ?_
        refine g_i2l hx hb (hok_i sb4 _) dX12_divide_572 ?_
        refine lv_lload hx hb dX12_divide_573 (lv_at hl 15 rfl) ?_
        refine g_ladd hx hb dX12_divide_575 ?_
        refine lv_ldc2 (v := Int64.ofInt (2147483647)) hx hb hown (hts _ (List.mem_cons_of_mem _ mj_14)) dX12_divide_576 ?_
        refine g_landM hx hb dX12_divide_579 ?_
        refine g_l2i hx hb dX12_divide_580 ?_
        refine g_iast (f := (ar6 1)) hx hb hK hP hD hS 1 0 rfl rfl bdN.1 bdN.2 (by decide) dX12_divide_581 (fun H locs hP hD hS => ?_)
        rw [sa_1] at hP hD
        obtain ⟨hb9, xb, gq, e9, fA, fB, fC, fD, xb0, xb1, gq0, gq1⟩ : ∃ (hb9 : Int → Int) (xb gq : Int), (iup hb9 (w0 + j + nsz (ar 1) b) xb = (iup (ar6 1) ((w0 + j) + (nsz (ar 1) b)) ((((ar6 1) ((w0 + j) + (nsz (ar 1) b))) + cf) % 2147483648)) ∧ gq = (g - 1)) ∧ (∀ t : Int, (t < w0 + j ∨ w0 + j + nsz (ar 1) b < t) → hb9 t = ar4 1 t) ∧ hok hb9 ∧ (∀ t : Int, 0 ≤ t → t < nsz (ar 1) b → 0 ≤ hb9 (w0 + j + t)) ∧ kn_v (fun t => hb9 (w0 + j + t)) (n2 + 2) < V ∧ 0 ≤ xb ∧ xb < 2147483648 ∧ 0 ≤ gq ∧ gq < 2147483648 := by
          first
          | exact ⟨ar6 1, _, _, ⟨rfl, rfl⟩, sA, sb4, sC, fD6, Int.emod_nonneg _ (by decide), Int.emod_lt_of_pos _ (by decide), g1a, g1b⟩
          | exact ⟨ar5 1, _, _, ⟨rfl, rfl⟩, fun t ht => mt2 t (by omega), mt4, fun t a b => mtd t a (by omega), dv_end0 hend R0 (Int.le_of_lt Vhi) PN gU (g_cmp_ge.mp c_462), by omega, by omega, g0, gB⟩
        refine lv_aload_n hx hb dX12_divide_582 rfl (lv_at hl 0 rfl) ?_
        refine r_geti E hK hP (k := 1) (v := .ref (ad 1)) (by decide) mf_7 rfl rfl dX12_divide_583 ?_
        refine lv_iload hx hb dX12_divide_586 (lv_at hl 9 rfl) ?_
        refine lv_iconst (v := Int32.ofInt (1)) hx hb dX12_divide_588 (by decide) ?_
        refine g_iadd hx hb dX12_divide_589 ?_
        refine lv_iload hx hb dX12_divide_590 (lv_at hl 12 rfl) ?_
        refine g_iadd hx hb dX12_divide_592 ?_
        refine lv_lload hx hb dX12_divide_593 (lv_at hl 13 rfl) ?_
        refine g_l2i hx hb dX12_divide_595 ?_
        refine g_iast (f := (iup (ar6 1) ((w0 + j) + (nsz (ar 1) b)) ((((ar6 1) ((w0 + j) + (nsz (ar 1) b))) + cf) % 2147483648))) hx hb hK hP hD hS 1 0 rfl rfl bdq.1 bdq.2 (by decide) dX12_divide_596 (fun H locs hP hD hS => ?_)
        rw [sa_1] at hP hD
        have fin := dv_fin (h84 := ar84 1) hn2 hq0 (by omega) j1 r2 rd rq fA fB fC fD xb0 xb1 gq0 gq1
        rw [e9.1, e9.2] at fin
        refine g_iinc (k := 12) (z := j) (n := (-1)) (lv' := [(14, Iz (j + (-1))), (0, .ref h0), (1, Iz (a)), (2, Iz (b)), (3, Iz (nsz (ar 1) b)), (4, Iz (sh)), (5, Iz (F 2)), (6, Iz (F75 2)), (7, Iz (M)), (8, Iz (w0)), (9, Iz (q0)), (10, Jz (v1)), (12, Jz (v2)), (17, Jz (g - 1)), (21, Jz (bb)), (23, Jz (cf)), (25, Iz (i))]) hx hb dX12_divide_597 hl rfl (by decide) rfl (fun ls hl => ?_)
        refine lv_goto (tgt := 199) hx hb dX12_divide_600 (by decide) ?_
        exact ih_199 _ (by omega) _ _ _ ⟨(aup (aup ar6 1 (iup (ar6 1) ((w0 + j) + (nsz (ar 1) b)) ((((ar6 1) ((w0 + j) + (nsz (ar 1) b))) + cf) % 2147483648))) 1 (iup (iup (ar6 1) ((w0 + j) + (nsz (ar 1) b)) ((((ar6 1) ((w0 + j) + (nsz (ar 1) b))) + cf) % 2147483648)) ((q0 + 1) + j) (g - 1))), (j + (-1)), rfl, (by omega), (by omega), (fun k hk => by rw [aup_ne _ _ hk, aup_ne _ _ hk]; first | exact sb1 k hk | exact mt1 k hk), (fin.1), (fin.2.1), (fin.2.2.1), (fin.2.2.2.1), (fin.2.2.2.2), hP, hD, hS, lv_sub hl [1, 2, 3, 4, 5, 6, 7, 8, 9, 10, 11, 12, 0] rfl⟩
      · skip
        have ey : ar6 1 (F75 2 + 1 + i) = ar84 1 (F75 2 + 1 + i) := (sb2 _ (Or.inl (by omega))).trans ((h6a _ (by omega)).trans ((mt2 _ (Or.inl (by omega))).trans (r2 _ (by omega))))
        have ew : ar6 1 (w0 + i + j) = h6 (w0 + j + i) := by rw [show w0 + i + j = w0 + j + i by omega]; exact sb2 _ (Or.inr (by omega))
        obtain ⟨yi, hyi⟩ : ∃ yi : Int, yi = ar84 1 (F75 2 + 1 + i) := ⟨_, rfl⟩
        obtain ⟨wi, hwi⟩ : ∃ wi : Int, wi = h6 (w0 + j + i) := ⟨_, rfl⟩
        rw [← hyi] at ey
        rw [← hwi] at ew
        have yi0 : 0 ≤ yi := by rw [hyi]; exact (yd i si0 (by omega)).1
        have yi1 : yi < 2147483648 := by rw [hyi]; exact (y1.2.2.2 _).2
        have wi0 : 0 ≤ wi := by rw [hwi, h6a _ (by omega)]; exact mtd i si0 (by omega)
        have wi1 : wi < 2147483648 := by rw [hwi]; exact (h6k _).2
        refine lv_lload hx hb dX12_divide_483 (lv_at hl 15 rfl) ?_
        refine lv_aload_n hx hb dX12_divide_485 rfl (lv_at hl 0 rfl) ?_
        refine r_geti E hK hP (k := 1) (v := .ref (ad 1)) (by decide) mf_7 rfl rfl dX12_divide_486 ?_
        refine lv_iload hx hb dX12_divide_489 (lv_at hl 8 rfl) ?_
        refine lv_iload hx hb dX12_divide_491 (lv_at hl 16 rfl) ?_
        refine g_iadd hx hb dX12_divide_493 ?_
        refine lv_iload hx hb dX12_divide_494 (lv_at hl 12 rfl) ?_
        refine g_iadd hx hb dX12_divide_496 ?_
        refine g_iald (f := (ar6 1)) hx hb hK hP 1 0 rfl rfl (by omega) (by omega) (by decide) dX12_divide_497 ?_
        rw [ew]
        refine g_i2l hx hb ⟨by omega, by omega⟩ dX12_divide_498 ?_
        refine g_ladd hx hb dX12_divide_499 ?_
        refine lv_aload_n hx hb dX12_divide_500 rfl (lv_at hl 0 rfl) ?_
        refine r_geti E hK hP (k := 1) (v := .ref (ad 1)) (by decide) mf_7 rfl rfl dX12_divide_501 ?_
        refine lv_iload hx hb dX12_divide_504 (lv_at hl 6 rfl) ?_
        refine lv_iconst (v := Int32.ofInt (1)) hx hb dX12_divide_506 (by decide) ?_
        refine g_iadd hx hb dX12_divide_507 ?_
        refine lv_iload hx hb dX12_divide_508 (lv_at hl 16 rfl) ?_
        refine g_iadd hx hb dX12_divide_510 ?_
        refine g_iald (f := (ar6 1)) hx hb hK hP 1 0 rfl rfl (by omega) (by omega) (by decide) dX12_divide_511 ?_
        rw [ey]
        refine g_i2l hx hb ⟨by omega, by omega⟩ dX12_divide_512 ?_
        refine g_ladd hx hb dX12_divide_513 ?_
        obtain ⟨c1, hc1⟩ : ∃ c1 : Int, c1 = cf + wi + yi := ⟨_, rfl⟩
        rw [← hc1]
        refine lv_lstore (lv' := [(23, Jz (c1)), (0, .ref h0), (1, Iz (a)), (2, Iz (b)), (3, Iz (nsz (ar 1) b)), (4, Iz (sh)), (5, Iz (F 2)), (6, Iz (F75 2)), (7, Iz (M)), (8, Iz (w0)), (9, Iz (q0)), (10, Jz (v1)), (12, Jz (v2)), (14, Iz (j)), (17, Jz (g - 1)), (21, Jz (bb)), (25, Iz (i))]) hx hb dX12_divide_514 hl (by decide) rfl (fun ls hl => ?_)
        refine lv_aload_n hx hb dX12_divide_516 rfl (lv_at hl 1 rfl) ?_
        refine r_geti E hK hP (k := 1) (v := .ref (ad 1)) (by decide) mf_7 rfl rfl dX12_divide_517 ?_
        refine lv_iload hx hb dX12_divide_520 (lv_at hl 9 rfl) ?_
        refine lv_iload hx hb dX12_divide_522 (lv_at hl 16 rfl) ?_
        refine g_iadd hx hb dX12_divide_524 ?_
        refine lv_iload hx hb dX12_divide_525 (lv_at hl 13 rfl) ?_
        refine g_iadd hx hb dX12_divide_527 ?_
        refine lv_lload hx hb dX12_divide_528 (lv_at hl 0 rfl) ?_
        refine lv_ldc2 (v := Int64.ofInt (2147483647)) hx hb hown (hts _ (List.mem_cons_of_mem _ mj_14)) dX12_divide_530 ?_
        refine g_landM hx hb dX12_divide_533 ?_
        refine g_l2i hx hb dX12_divide_534 ?_
        refine g_iast (f := (ar6 1)) hx hb hK hP hD hS 1 0 rfl rfl (by omega) (by omega) (by decide) dX12_divide_535 (fun H locs hP hD hS => ?_)
        rw [sa_1] at hP hD
        refine lv_lload hx hb dX12_divide_536 (lv_at hl 0 rfl) ?_
        refine lv_bipush (v := Int32.ofInt (31)) hx hb dX12_divide_538 (by decide) ?_
        refine g_lshr hx hb ⟨by omega, by omega⟩ (by omega) (by omega) dX12_divide_540 ?_
        rw [show (2 : Int) ^ (31 : Int).toNat = 2147483648 from rfl]
        refine lv_lstore (lv' := [(23, Jz (c1 / 2147483648)), (0, .ref h0), (1, Iz (a)), (2, Iz (b)), (3, Iz (nsz (ar 1) b)), (4, Iz (sh)), (5, Iz (F 2)), (6, Iz (F75 2)), (7, Iz (M)), (8, Iz (w0)), (9, Iz (q0)), (10, Jz (v1)), (12, Jz (v2)), (14, Iz (j)), (17, Jz (g - 1)), (21, Jz (bb)), (25, Iz (i))]) hx hb dX12_divide_541 hl (by decide) rfl (fun ls hl => ?_)
        have hi1 : (i + 1).toNat = i.toNat + 1 := by omega
        have k1 : kn_v (fun t => (iup (ar6 1) ((w0 + i) + j) (c1 % 2147483648)) (w0 + j + t)) (i.toNat + 1) = kn_v (fun t => ar6 1 (w0 + j + t)) i.toNat + (c1 % 2147483648) * 2147483648 ^ i.toNat := kn_v_up (fun t a b => iup_ne (by omega)) (by show iup _ _ _ (w0 + j + _) = _; rw [show w0 + j + ((i.toNat : Nat) : Int) = w0 + i + j by omega, iup_self])
        have k2 : kn_v (fun t => h6 (w0 + j + t)) (i.toNat + 1) = kn_v (fun t => h6 (w0 + j + t)) i.toNat + wi * 2147483648 ^ i.toNat := kn_v_up (fun t a b => rfl) (by show h6 (w0 + j + _) = _; rw [show w0 + j + ((i.toNat : Nat) : Int) = w0 + j + i by omega]; exact hwi.symm)
        have k3 : kn_v (fun t => ar84 1 (F75 2 + 1 + t)) (i.toNat + 1) = kn_v (fun t => ar84 1 (F75 2 + 1 + t)) i.toNat + yi * 2147483648 ^ i.toNat := kn_v_up (fun t a b => rfl) (by show ar84 1 (F75 2 + 1 + _) = _; rw [show F75 2 + 1 + ((i.toNat : Nat) : Int) = F75 2 + 1 + i by omega]; exact hyi.symm)
        have ms := dv_ab (w := wi) (y := yi) (d := c1 % 2147483648) (cy' := c1 / 2147483648) sbv (by have h := Int.mul_ediv_add_emod c1 2147483648; omega)
        refine g_iinc (k := 16) (z := i) (n := (1)) (lv' := [(25, Iz (i + 1)), (23, Jz (c1 / 2147483648)), (0, .ref h0), (1, Iz (a)), (2, Iz (b)), (3, Iz (nsz (ar 1) b)), (4, Iz (sh)), (5, Iz (F 2)), (6, Iz (F75 2)), (7, Iz (M)), (8, Iz (w0)), (9, Iz (q0)), (10, Jz (v1)), (12, Jz (v2)), (14, Iz (j)), (17, Jz (g - 1)), (21, Jz (bb))]) hx hb dX12_divide_543 hl rfl (by decide) rfl (fun ls hl => ?_)
        refine lv_goto (tgt := 477) hx hb dX12_divide_546 (by decide) ?_
        exact ih_477 _ (by omega) _ _ _ ⟨(aup ar6 1 (iup (ar6 1) ((w0 + i) + j) (c1 % 2147483648))), (i + 1), (c1 / 2147483648), rfl, (by omega), (by omega), (by omega), (by omega), (fun k hk => by rw [aup_ne _ _ hk]; exact sb1 k hk), (fun t ht => by show iup _ _ _ t = _; rw [iup_ne (by omega)]; exact sb2 t (by omega)), (hok_up sb4 (by omega) (by omega)), (fun t h1 h2 => by show 0 ≤ iup _ _ _ _; by_cases e : t = i; (· rw [show w0 + j + t = w0 + i + j by omega, iup_self]; omega); (· rw [iup_ne (by omega)]; exact sbd t h1 (by omega))), (by rw [hi1, k2, k3, kn_pow_succ]; exact (congrArg (· + _) k1).trans ms), hP, hD, hS, lv_sub hl [2, 3, 4, 5, 6, 7, 8, 9, 10, 11, 12, 13, 14, 15, 16, 1, 0] rfl⟩
  · skip
    have ey : ar5 1 (F75 2 + 1 + i) = ar84 1 (F75 2 + 1 + i) := (mt2 _ (Or.inl (by omega))).trans (r2 _ (by omega))
    have ew : ar5 1 (w0 + i + j) = ar4 1 (w0 + j + i) := by rw [show w0 + i + j = w0 + j + i by omega]; exact mt2 _ (Or.inr (by omega))
    obtain ⟨yi, hyi⟩ : ∃ yi : Int, yi = ar84 1 (F75 2 + 1 + i) := ⟨_, rfl⟩
    obtain ⟨wi, hwi⟩ : ∃ wi : Int, wi = ar4 1 (w0 + j + i) := ⟨_, rfl⟩
    rw [← hyi] at ey
    rw [← hwi] at ew
    have yi0 : 0 ≤ yi := by rw [hyi]; exact (yd i mi0 (by omega)).1
    have yi1 : yi < 2147483648 := by rw [hyi]; exact (y1.2.2.2 _).2
    have wi0 : 0 ≤ wi := by rw [hwi]; exact dg i mi0 (by omega)
    have wi1 : wi < 2147483648 := by rw [hwi]; exact (r4 _).2
    have gy := mul_bd g0 (by omega) yi0 (by omega : yi ≤ 2147483647)
    refine lv_lload hx hb dX12_divide_331 (lv_at hl 15 rfl) ?_
    refine lv_lload hx hb dX12_divide_333 (lv_at hl 13 rfl) ?_
    refine lv_aload_n hx hb dX12_divide_335 rfl (lv_at hl 0 rfl) ?_
    refine r_geti E hK hP (k := 1) (v := .ref (ad 1)) (by decide) mf_7 rfl rfl dX12_divide_336 ?_
    refine lv_iload hx hb dX12_divide_339 (lv_at hl 6 rfl) ?_
    refine lv_iconst (v := Int32.ofInt (1)) hx hb dX12_divide_341 (by decide) ?_
    refine g_iadd hx hb dX12_divide_342 ?_
    refine lv_iload hx hb dX12_divide_343 (lv_at hl 16 rfl) ?_
    refine g_iadd hx hb dX12_divide_345 ?_
    refine g_iald (f := (ar5 1)) hx hb hK hP 1 0 rfl rfl (by omega) (by omega) (by decide) dX12_divide_346 ?_
    rw [ey]
    refine g_i2l hx hb ⟨by omega, by omega⟩ dX12_divide_347 ?_
    refine g_lmul hx hb dX12_divide_348 ?_
    refine g_ladd hx hb dX12_divide_349 ?_
    obtain ⟨c1, hc1⟩ : ∃ c1 : Int, c1 = cy + g * yi := ⟨_, rfl⟩
    rw [← hc1]
    refine lv_lstore (lv' := [(23, Jz (c1)), (0, .ref h0), (1, Iz (a)), (2, Iz (b)), (3, Iz (nsz (ar 1) b)), (4, Iz (sh)), (5, Iz (F 2)), (6, Iz (F75 2)), (7, Iz (M)), (8, Iz (w0)), (9, Iz (q0)), (10, Jz (v1)), (12, Jz (v2)), (14, Iz (j)), (17, Jz (g)), (21, Jz (bo)), (25, Iz (i))]) hx hb dX12_divide_350 hl (by decide) rfl (fun ls hl => ?_)
    refine lv_lload hx hb dX12_divide_352 (lv_at hl 15 rfl) ?_
    refine lv_aload_n hx hb dX12_divide_354 rfl (lv_at hl 1 rfl) ?_
    refine r_geti E hK hP (k := 1) (v := .ref (ad 1)) (by decide) mf_7 rfl rfl dX12_divide_355 ?_
    refine lv_iload hx hb dX12_divide_358 (lv_at hl 9 rfl) ?_
    refine lv_iload hx hb dX12_divide_360 (lv_at hl 16 rfl) ?_
    refine g_iadd hx hb dX12_divide_362 ?_
    refine lv_iload hx hb dX12_divide_363 (lv_at hl 13 rfl) ?_
    refine g_iadd hx hb dX12_divide_365 ?_
    refine g_iald (f := (ar5 1)) hx hb hK hP 1 0 rfl rfl (by omega) (by omega) (by decide) dX12_divide_366 ?_
    rw [ew]
    refine g_i2l hx hb ⟨by omega, by omega⟩ dX12_divide_367 ?_
    refine g_ladd hx hb dX12_divide_368 ?_
    refine lv_lload hx hb dX12_divide_369 (lv_at hl 0 rfl) ?_
    refine lv_ldc2 (v := Int64.ofInt (2147483647)) hx hb hown (hts _ (List.mem_cons_of_mem _ mj_14)) dX12_divide_371 ?_
    refine g_landM hx hb dX12_divide_374 ?_
    refine g_lsub hx hb dX12_divide_375 ?_
    obtain ⟨b2, hb2⟩ : ∃ b2 : Int, b2 = bo + wi - c1 % 2147483648 := ⟨_, rfl⟩
    rw [← hb2]
    refine lv_lstore (lv' := [(21, Jz (b2)), (23, Jz (c1)), (0, .ref h0), (1, Iz (a)), (2, Iz (b)), (3, Iz (nsz (ar 1) b)), (4, Iz (sh)), (5, Iz (F 2)), (6, Iz (F75 2)), (7, Iz (M)), (8, Iz (w0)), (9, Iz (q0)), (10, Jz (v1)), (12, Jz (v2)), (14, Iz (j)), (17, Jz (g)), (25, Iz (i))]) hx hb dX12_divide_376 hl (by decide) rfl (fun ls hl => ?_)
    refine lv_lload hx hb dX12_divide_378 (lv_at hl 1 rfl) ?_
    refine lv_bipush (v := Int32.ofInt (31)) hx hb dX12_divide_380 (by decide) ?_
    refine g_lushr hx hb (by omega) (by omega) (by omega) (by omega) dX12_divide_382 ?_
    rw [show (2 : Int) ^ (31 : Int).toNat = 2147483648 from rfl]
    refine lv_lstore (lv' := [(23, Jz (c1 / 2147483648)), (21, Jz (b2)), (0, .ref h0), (1, Iz (a)), (2, Iz (b)), (3, Iz (nsz (ar 1) b)), (4, Iz (sh)), (5, Iz (F 2)), (6, Iz (F75 2)), (7, Iz (M)), (8, Iz (w0)), (9, Iz (q0)), (10, Jz (v1)), (12, Jz (v2)), (14, Iz (j)), (17, Jz (g)), (25, Iz (i))]) hx hb dX12_divide_383 hl (by decide) rfl (fun ls hl => ?_)
    refine lv_aload_n hx hb dX12_divide_385 rfl (lv_at hl 2 rfl) ?_
    refine r_geti E hK hP (k := 1) (v := .ref (ad 1)) (by decide) mf_7 rfl rfl dX12_divide_386 ?_
    refine lv_iload hx hb dX12_divide_389 (lv_at hl 10 rfl) ?_
    refine lv_iload hx hb dX12_divide_391 (lv_at hl 16 rfl) ?_
    refine g_iadd hx hb dX12_divide_393 ?_
    refine lv_iload hx hb dX12_divide_394 (lv_at hl 14 rfl) ?_
    refine g_iadd hx hb dX12_divide_396 ?_
    refine lv_lload hx hb dX12_divide_397 (lv_at hl 1 rfl) ?_
    refine lv_ldc2 (v := Int64.ofInt (2147483647)) hx hb hown (hts _ (List.mem_cons_of_mem _ mj_14)) dX12_divide_399 ?_
    refine g_landM hx hb dX12_divide_402 ?_
    refine g_l2i hx hb dX12_divide_403 ?_
    refine g_iast (f := (ar5 1)) hx hb hK hP hD hS 1 0 rfl rfl (by omega) (by omega) (by decide) dX12_divide_404 (fun H locs hP hD hS => ?_)
    rw [sa_1] at hP hD
    refine lv_lload hx hb dX12_divide_405 (lv_at hl 1 rfl) ?_
    refine lv_bipush (v := Int32.ofInt (31)) hx hb dX12_divide_407 (by decide) ?_
    refine g_lshr hx hb ⟨by omega, by omega⟩ (by omega) (by omega) dX12_divide_409 ?_
    rw [show (2 : Int) ^ (31 : Int).toNat = 2147483648 from rfl]
    refine lv_lstore (lv' := [(21, Jz (b2 / 2147483648)), (23, Jz (c1 / 2147483648)), (0, .ref h0), (1, Iz (a)), (2, Iz (b)), (3, Iz (nsz (ar 1) b)), (4, Iz (sh)), (5, Iz (F 2)), (6, Iz (F75 2)), (7, Iz (M)), (8, Iz (w0)), (9, Iz (q0)), (10, Jz (v1)), (12, Jz (v2)), (14, Iz (j)), (17, Jz (g)), (25, Iz (i))]) hx hb dX12_divide_410 hl (by decide) rfl (fun ls hl => ?_)
    have hi1 : (i + 1).toNat = i.toNat + 1 := by omega
    have k1 : kn_v (fun t => (iup (ar5 1) ((w0 + i) + j) (b2 % 2147483648)) (w0 + j + t)) (i.toNat + 1) = kn_v (fun t => ar5 1 (w0 + j + t)) i.toNat + (b2 % 2147483648) * 2147483648 ^ i.toNat := kn_v_up (fun t a b => iup_ne (by omega)) (by show iup _ _ _ (w0 + j + _) = _; rw [show w0 + j + ((i.toNat : Nat) : Int) = w0 + i + j by omega, iup_self])
    have k2 : kn_v (fun t => ar4 1 (w0 + j + t)) (i.toNat + 1) = kn_v (fun t => ar4 1 (w0 + j + t)) i.toNat + wi * 2147483648 ^ i.toNat := kn_v_up (fun t a b => rfl) (by show ar4 1 (w0 + j + _) = _; rw [show w0 + j + ((i.toNat : Nat) : Int) = w0 + j + i by omega]; exact hwi.symm)
    have k3 : kn_v (fun t => ar84 1 (F75 2 + 1 + t)) (i.toNat + 1) = kn_v (fun t => ar84 1 (F75 2 + 1 + t)) i.toNat + yi * 2147483648 ^ i.toNat := kn_v_up (fun t a b => rfl) (by show ar84 1 (F75 2 + 1 + _) = _; rw [show F75 2 + 1 + ((i.toNat : Nat) : Int) = F75 2 + 1 + i by omega]; exact hyi.symm)
    have ms := dv_ms (w := wi) (y := yi) (cq := c1 / 2147483648) (cr := c1 % 2147483648) (d := b2 % 2147483648) (bo' := b2 / 2147483648) mtv (by have h := Int.mul_ediv_add_emod c1 2147483648; omega) (by have h := Int.mul_ediv_add_emod b2 2147483648; omega)
    refine g_iinc (k := 16) (z := i) (n := (1)) (lv' := [(25, Iz (i + 1)), (21, Jz (b2 / 2147483648)), (23, Jz (c1 / 2147483648)), (0, .ref h0), (1, Iz (a)), (2, Iz (b)), (3, Iz (nsz (ar 1) b)), (4, Iz (sh)), (5, Iz (F 2)), (6, Iz (F75 2)), (7, Iz (M)), (8, Iz (w0)), (9, Iz (q0)), (10, Jz (v1)), (12, Jz (v2)), (14, Iz (j)), (17, Jz (g))]) hx hb dX12_divide_412 hl rfl (by decide) rfl (fun ls hl => ?_)
    refine lv_goto (tgt := 325) hx hb dX12_divide_415 (by decide) ?_
    exact ih_325 _ (by omega) _ _ _ ⟨(aup ar5 1 (iup (ar5 1) ((w0 + i) + j) (b2 % 2147483648))), (i + 1), (b2 / 2147483648), (c1 / 2147483648), rfl, (by omega), (by omega), (by omega), (by omega), (by omega), (by omega), (fun k hk => by rw [aup_ne _ _ hk]; exact mt1 k hk), (fun t ht => by show iup _ _ _ t = _; rw [iup_ne (by omega)]; exact mt2 t (by omega)), (hok_up mt4 (by omega) (by omega)), (fun t h1 h2 => by show 0 ≤ iup _ _ _ _; by_cases e : t = i; (· rw [show w0 + j + t = w0 + i + j by omega, iup_self]; omega); (· rw [iup_ne (by omega)]; exact mtd t h1 (by omega))), (by rw [hi1, k2, k3, kn_pow_succ]; exact k1.trans ms), hP, hD, hS, lv_sub hl [3, 4, 5, 6, 7, 8, 9, 10, 11, 12, 13, 14, 15, 16, 1, 2, 0] rfl⟩
