/-- the digits of a number, 0 behind them -/
def ex (f : Int → Int) (n : Int) : Int → Int := fun i => if i < n then f i else 0
theorem ex_bd {f : Int → Int} {n i : Int} (h : kb_d f n.toNat) (i0 : 0 ≤ i) : 0 ≤ ex f n i ∧ ex f n i < 1073741824 := by
  unfold ex
  split
  · exact h i i0 (by omega)
  · omega
theorem ex_v {f : Int → Int} {n : Int} {t : Nat} (n0 : 0 ≤ n) (h : n ≤ t) : kb_v (ex f n) t = kb_v f n.toNat := by
  rw [kb_v_zero (f := ex f n) (k := n.toNat) (by omega) (fun i a b => if_neg (by omega))]
  exact kb_v_congr (fun i a b => if_pos (by omega))
theorem gat_step {f A B : Int → Int} {i c d c' : Int} (i0 : 0 ≤ i) (e : kb_v f i.toNat + c * 1073741824 ^ i.toNat = kb_v A i.toNat + kb_v B i.toNat) (hd : d + c' * 1073741824 = A i + B i + c) : kb_v (iup f i d) (i + 1).toNat + c' * 1073741824 ^ (i + 1).toNat = kb_v A (i + 1).toNat + kb_v B (i + 1).toNat := by
  have e1 : (i + 1).toNat = i.toNat + 1 := by omega
  have e2 : ((i.toNat : Nat) : Int) = i := Int.toNat_of_nonneg i0
  have u : kb_v (iup f i d) (i.toNat + 1) = kb_v f i.toNat + d * 1073741824 ^ i.toNat := kb_v_up (fun j h0 h1 => iup_ne (by omega)) (by rw [e2]; exact iup_self)
  have ua : kb_v A (i.toNat + 1) = kb_v A i.toNat + A ((i.toNat : Nat) : Int) * 1073741824 ^ i.toNat := rfl
  have ub : kb_v B (i.toNat + 1) = kb_v B i.toNat + B ((i.toNat : Nat) : Int) * 1073741824 ^ i.toNat := rfl
  rw [e2] at ua ub
  rw [e1, u, ua, ub, kb_pow_succ]
  grind
theorem les_step {f A B : Int → Int} {i c d c' : Int} (i0 : 0 ≤ i) (e : kb_v f i.toNat - c * 1073741824 ^ i.toNat = kb_v A i.toNat - kb_v B i.toNat) (hd : d - c' * 1073741824 = A i - B i - c) : kb_v (iup f i d) (i + 1).toNat - c' * 1073741824 ^ (i + 1).toNat = kb_v A (i + 1).toNat - kb_v B (i + 1).toNat := by
  have e1 : (i + 1).toNat = i.toNat + 1 := by omega
  have e2 : ((i.toNat : Nat) : Int) = i := Int.toNat_of_nonneg i0
  have u : kb_v (iup f i d) (i.toNat + 1) = kb_v f i.toNat + d * 1073741824 ^ i.toNat := kb_v_up (fun j h0 h1 => iup_ne (by omega)) (by rw [e2]; exact iup_self)
  have ua : kb_v A (i.toNat + 1) = kb_v A i.toNat + A ((i.toNat : Nat) : Int) * 1073741824 ^ i.toNat := rfl
  have ub : kb_v B (i.toNat + 1) = kb_v B i.toNat + B ((i.toNat : Nat) : Int) * 1073741824 ^ i.toNat := rfl
  rw [e2] at ua ub
  rw [e1, u, ua, ub, kb_pow_succ]
  grind
theorem kb_d_zero (f : Int → Int) : kb_d f (0 : Int).toNat := fun j h0 h1 => by exfalso; have : ((0 : Int).toNat : Int) = 0 := rfl; omega
theorem kb_d_step {f : Int → Int} {i d : Int} (i0 : 0 ≤ i) (h : kb_d f i.toNat) (d0 : 0 ≤ d) (d1 : d < 1073741824) : kb_d (iup f i d) (i + 1).toNat := by
  rw [show (i + 1).toNat = i.toNat + 1 by omega]
  exact kb_d_iup h (by omega) d0 d1
/-- a top digit is not 0 where the value is large -/
theorem kb_top {f : Int → Int} {n : Int} (n1 : 1 ≤ n) (h : kb_d f n.toNat) (q : 1073741824 ^ (n - 1).toNat ≤ kb_v f n.toNat) : f (n - 1) ≠ 0 := by
  intro z
  have e : n.toNat = (n - 1).toNat + 1 := by omega
  rw [e] at h q
  have u : kb_v f ((n - 1).toNat + 1) = kb_v f (n - 1).toNat + f (((n - 1).toNat : Nat) : Int) * 1073741824 ^ (n - 1).toNat := rfl
  rw [show (((n - 1).toNat : Nat) : Int) = n - 1 by omega, z] at u
  have := kb_v_lt (kb_d_of_le h (Nat.le_succ _))
  omega
set_option maxHeartbeats 4000000 in
set_option maxRecDepth 100000 in
theorem k0_gather {l : Launch} {dC : Nat → ClassId} {dI : Nat → Nat → Nat} {cx : Nat → Nat} {LB : List Nat} {X : va_W} {dd : Nat → Nat} {nn ss : Nat → Int} {ll : Nat → Nat} {gg : Nat → Int → Int} {H0 : Heap} {v : Nat → Int} {h0 a b : Nat} {top : Int} (m0 : h0 ∈ LB) (ma : a ∈ LB) (mb : b ∈ LB) (na : h0 ≠ a) (nb : h0 ≠ b) (NA : num1 (nn a) (ss a) (ll a) (gg a) (v a)) (NB : num1 (nn b) (ss b) (ll b) (gg b) (v b)) (t0 : nn a ≤ top) (t1 : nn b ≤ top) (t2 : top = nn a ∨ top = nn b) (t3 : top < ll h0) : Met l yX0_gather (Cond.code yX0_gather cX0_gather 9 none :: w0c) (cRm 0 0 LB ll) (cPc dC dI cx LB X dd nn ss ll gg H0 [.ref h0, .ref a, .ref b, Iz (top)]) (cQv dC dI cx LB (va_A (bW (cx 0) LB dd nn ss ll gg X) H0.size) ll H0 (fun X' dd' nn' ss' ll' gg' => X' = X ∧ dd' = dd ∧ ll' = ll ∧ ss' = ss ∧ ∃ (f1 : Int → Int) (n1 : Int), nn' = va_up nn h0 n1 ∧ gg' = va_up gg h0 f1 ∧ 0 ≤ n1 ∧ n1 ≤ ll h0 ∧ kb_d f1 n1.toNat ∧ (0 < n1 → f1 (n1 - 1) ≠ 0) ∧ kb_v f1 n1.toNat = ((v a).natAbs : Int) + ((v b).natAbs : Int))) (cMc LB ll) (2 * cMc LB ll) (va_A (bW (cx 0) LB dd nn ss ll gg X) H0.size) := by
  refine Met.ofW (cc := cX0_gather) (maxL := 9) (ret := none) (by decide) rfl ?_
  intro p e s m args below meth c s₁ B hml hv
  obtain ⟨rfl, hH0, hP, hK, hD0, hC0⟩ := hv
  have hx := B.exec
  have hb := B.bytes
  have hr := B.returns
  have hts := atoms_spec (ws := Cond.code yX0_gather cX0_gather 9 none :: w0c) B.pre
  have hown : s.vm.findClass RX0 = some m.cls := findClass_of_methodNamed B.named
  have hlocks := B.notSynchronized
  have E : CallFix p m c cX0_gather 9 s _ (Cond.code yX0_gather cX0_gather 9 none :: w0c) RX0 := ⟨hx, hb, hml, hown, hts⟩
  subst hH0
  have hD := va_D.self (sz := s.heap.size) hD0
  have hA : ∀ q : Nat, s.heap.size ≤ q → va_A (bW (cx 0) LB dd nn ss ll gg X) s.heap.size q := fun q h => Or.inr h
  have hV : cV dC dI cx LB (va_A (bW (cx 0) LB dd nn ss ll gg X) s.heap.size) s.heap ll X dd nn ss ll gg s.heap [] := ⟨hP, hD, va_S.rf, fun _ _ => Nat.le_refl _, hC0⟩
  have hR : (headSpec (Cond.code yX0_gather cX0_gather 9 none :: w0c) (cRm 0 0 LB ll)).room.cells = cMc LB ll ∧ (headSpec (Cond.code yX0_gather cX0_gather 9 none :: w0c) (cRm 0 0 LB ll)).room.slots = 2 * cMc LB ll := ⟨rfl, rfl⟩
  refine W.widen (k := cP LB ll - cP LB ll) (n := 2 * (cP LB ll - cP LB ll)) (Nat.zero_le _) (Nat.zero_le _) ?_
  have hl := lv_entry ([.ref h0, .ref a, .ref b, Iz (top)]) (n := 9) (Nat.le_of_ble_eq_true rfl)
  rw [lg_entry_eq]
  generalize (lg_sl ([.ref h0, .ref a, .ref b, Iz (top)]) ++ List.replicate (9 - (lg_sl ([.ref h0, .ref a, .ref b, Iz (top)])).length) Slot.unset).toArray = ls at hl ⊢
  have hl : lv_has ls 9 [(0, .ref h0), (1, .ref a), (2, .ref b), (3, Iz (top))] := hl
  have c4_ := (hC0 h0 m0)
  have c4a := (hC0 a ma).2
  have c4b := (hC0 b mb).2
  obtain ⟨n0a, n1a, k5a, dga, tpa, sga, vla⟩ := id NA
  obtain ⟨n0b, n1b, k5b, dgb, tpb, sgb, vlb⟩ := id NB
  refine lv_aload_n hx hb dX0_gather_0 rfl (lv_at hl 1 rfl) ?_
  refine t_getn E hK hV ma rfl cf_0_13 dX0_gather_1 ?_
  refine lv_istore (lv' := [(4, Iz (nn a)), (0, .ref h0), (1, .ref a), (2, .ref b), (3, Iz (top))]) hx hb dX0_gather_4 hl (by decide) rfl (fun ls hl => ?_)
  refine lv_aload_n hx hb dX0_gather_6 rfl (lv_at hl 3 rfl) ?_
  refine t_getn E hK hV mb rfl cf_0_13 dX0_gather_7 ?_
  refine lv_istore (lv' := [(5, Iz (nn b)), (4, Iz (nn a)), (0, .ref h0), (1, .ref a), (2, .ref b), (3, Iz (top))]) hx hb dX0_gather_10 hl (by decide) rfl (fun ls hl => ?_)
  refine lv_iconst (v := Int32.ofInt (0)) hx hb dX0_gather_12 (by decide) ?_
  refine lv_istore (lv' := [(6, Iz (0)), (5, Iz (nn b)), (4, Iz (nn a)), (0, .ref h0), (1, .ref a), (2, .ref b), (3, Iz (top))]) hx hb dX0_gather_13 hl (by decide) rfl (fun ls hl => ?_)
  refine lv_iconst (v := Int32.ofInt (0)) hx hb dX0_gather_15 (by decide) ?_
  refine lv_istore (lv' := [(7, Iz (0)), (6, Iz (0)), (5, Iz (nn b)), (4, Iz (nn a)), (0, .ref h0), (1, .ref a), (2, .ref b), (3, Iz (top))]) hx hb dX0_gather_16 hl (by decide) rfl (fun ls hl => ?_)
  have hV := cV_nor hV (va_up_id gg h0).symm
  refine r_loop (P := fun N_ H locs ls => ∃ f : Int → Int, ∃ cy : Int, ∃ i : Int, N_ = (top - i).toNat ∧ (0 ≤ i) ∧ (i ≤ top) ∧ (0 ≤ cy) ∧ (cy ≤ 1) ∧ (kb_d f i.toNat) ∧ (kb_v f i.toNat + cy * 1073741824 ^ i.toNat = kb_v (ex (gg a) (nn a)) i.toNat + kb_v (ex (gg b) (nn b)) i.toNat) ∧ cV dC dI cx LB (va_A (bW (cx 0) LB dd nn ss ll gg X) s.heap.size) s.heap ll X dd nn ss ll (va_up gg h0 f) H locs ∧ lv_has ls 9 [(0, .ref h0), (1, .ref a), (2, .ref b), (3, Iz (top)), (4, Iz (nn a)), (5, Iz (nn b)), (6, Iz (cy)), (7, Iz (i))]) (g := fun ls => F0 m 18 ls []) (fun N_ H locs ls hI ih_18 => ?_) _ _ _ _ ⟨(gg h0), 0, 0, rfl, (Int.le_refl 0), (by omega), (Int.le_refl 0), (by omega), (kb_d_zero _), (rfl), hV, lv_sub hl [4, 5, 6, 7, 3, 2, 1, 0] rfl⟩
  obtain ⟨f, cy, i, rfl, i0, i1, cy0, cy1, fd, fv, hV, hl⟩ := hI
  refine lv_iload hx hb dX0_gather_18 (lv_at hl 7 rfl) ?_
  refine lv_iload_n hx hb dX0_gather_20 rfl (lv_at hl 3 rfl) ?_
  refine g_icmp_ge (tgt := 91) hx hb ⟨by omega, by omega⟩ ⟨by omega, by omega⟩ dX0_gather_21 (by decide) (fun c_21 => ?_) (fun c_21 => ?_)
  · skip
    have ei : i = top := by omega
    rw [ei] at fd fv
    rw [ex_v n0a (by omega), ex_v n0b (by omega), vla, vlb] at fv
    refine lv_aload_n hx hb dX0_gather_91 rfl (lv_at hl 0 rfl) ?_
    refine t_getd E hK hV m0 rfl cf_0_9 dX0_gather_92 ?_
    refine lv_iload_n hx hb dX0_gather_95 rfl (lv_at hl 3 rfl) ?_
    refine lv_iload hx hb dX0_gather_96 (lv_at hl 6 rfl) ?_
    refine t_ast (z := top) (v := cy) (gf := (va_up gg h0 (iup f top cy))) hx hb hK hV m0 rfl ((congrArg (fun q => va_up (va_up gg h0 f) h0 (iup q top cy)) (va_up_self _ _ _)).trans (va_up_up _ _ _ _)) rfl (by omega) (by omega) dX0_gather_98 (fun H locs hV => ?_)
    refine lv_aload_n hx hb dX0_gather_99 rfl (lv_at hl 0 rfl) ?_
    refine lv_iload hx hb dX0_gather_100 (lv_at hl 6 rfl) ?_
    refine g_if_ne (tgt := 109) hx hb ⟨by omega, by omega⟩ dX0_gather_102 (by decide) (fun c_102 => ?_) (fun c_102 => ?_)
    · skip
      refine lv_iload_n hx hb dX0_gather_109 rfl (lv_at hl 3 rfl) ?_
      refine lv_iconst (v := Int32.ofInt (1)) hx hb dX0_gather_110 (by decide) ?_
      refine g_iadd hx hb dX0_gather_111 ?_
      refine t_putn E hK hV m0 rfl cf_0_13 dX0_gather_112 (fun H locs hV => ?_)
      have hpost : X = X ∧ dd = dd ∧ ll = ll ∧ ss = ss ∧ ∃ (f1 : Int → Int) (n1 : Int), (va_up nn h0 (top + 1)) = va_up nn h0 n1 ∧ (va_up gg h0 (iup f top cy)) = va_up gg h0 f1 ∧ 0 ≤ n1 ∧ n1 ≤ ll h0 ∧ kb_d f1 n1.toNat ∧ (0 < n1 → f1 (n1 - 1) ≠ 0) ∧ kb_v f1 n1.toNat = ((v a).natAbs : Int) + ((v b).natAbs : Int) := by
          have t0_ : 0 ≤ top := by omega
          have fd1 := kb_d_step t0_ fd (show 0 ≤ cy by omega) (by omega)
          have ge : top = 0 ∨ 1073741824 ^ (top - 1).toNat ≤ ((v a).natAbs : Int) + ((v b).natAbs : Int) := by
            rcases Int.lt_or_le 0 top with q | q
            · rcases t2 with q2 | q2
              · have := num1_ge NA (by omega); rw [← q2] at this; right; omega
              · have := num1_ge NB (by omega); rw [← q2] at this; right; omega
            · left; omega
          have kz : kb_v (iup f top cy) top.toNat = kb_v f top.toNat := kb_v_congr (fun j h0 h1 => iup_ne (by omega))
          have kz1 : kb_v (iup f top cy) (top + 1).toNat = kb_v f top.toNat + cy * 1073741824 ^ top.toNat := by
            rw [show (top + 1).toNat = top.toNat + 1 by omega]
            exact kb_v_up (fun j h0 h1 => iup_ne (by omega)) (by rw [Int.toNat_of_nonneg t0_]; exact iup_self)
          first
          | (have e0 : cy = 0 := by omega
             refine ⟨rfl, rfl, rfl, rfl, _, _, rfl, rfl, by omega, by omega, kb_d_of_le fd1 (by omega), fun q => ?_, ?_⟩
             · refine kb_top (by omega) (kb_d_of_le fd1 (by omega)) ?_
               rw [kz]
               rw [e0, Int.zero_mul, Int.add_zero] at fv
               omega
             · rw [kz, ← fv, e0]; omega)
          | (have e1 : cy = 1 := by omega
             refine ⟨rfl, rfl, rfl, rfl, _, _, rfl, rfl, by omega, by omega, fd1, fun q => ?_, ?_⟩
             · rw [show top + 1 - 1 = top by omega, iup_self]; omega
             · rw [kz1, fv])
      exact c_vret hx hb hr hK hV hpost dX0_gather_115 hlocks
    · skip
      refine lv_iload_n hx hb dX0_gather_105 rfl (lv_at hl 3 rfl) ?_
      refine lv_goto (tgt := 112) hx hb dX0_gather_106 (by decide) ?_
      refine t_putn E hK hV m0 rfl cf_0_13 dX0_gather_112 (fun H locs hV => ?_)
      have hpost : X = X ∧ dd = dd ∧ ll = ll ∧ ss = ss ∧ ∃ (f1 : Int → Int) (n1 : Int), (va_up nn h0 top) = va_up nn h0 n1 ∧ (va_up gg h0 (iup f top cy)) = va_up gg h0 f1 ∧ 0 ≤ n1 ∧ n1 ≤ ll h0 ∧ kb_d f1 n1.toNat ∧ (0 < n1 → f1 (n1 - 1) ≠ 0) ∧ kb_v f1 n1.toNat = ((v a).natAbs : Int) + ((v b).natAbs : Int) := by
          have t0_ : 0 ≤ top := by omega
          have fd1 := kb_d_step t0_ fd (show 0 ≤ cy by omega) (by omega)
          have ge : top = 0 ∨ 1073741824 ^ (top - 1).toNat ≤ ((v a).natAbs : Int) + ((v b).natAbs : Int) := by
            rcases Int.lt_or_le 0 top with q | q
            · rcases t2 with q2 | q2
              · have := num1_ge NA (by omega); rw [← q2] at this; right; omega
              · have := num1_ge NB (by omega); rw [← q2] at this; right; omega
            · left; omega
          have kz : kb_v (iup f top cy) top.toNat = kb_v f top.toNat := kb_v_congr (fun j h0 h1 => iup_ne (by omega))
          have kz1 : kb_v (iup f top cy) (top + 1).toNat = kb_v f top.toNat + cy * 1073741824 ^ top.toNat := by
            rw [show (top + 1).toNat = top.toNat + 1 by omega]
            exact kb_v_up (fun j h0 h1 => iup_ne (by omega)) (by rw [Int.toNat_of_nonneg t0_]; exact iup_self)
          first
          | (have e0 : cy = 0 := by omega
             refine ⟨rfl, rfl, rfl, rfl, _, _, rfl, rfl, by omega, by omega, kb_d_of_le fd1 (by omega), fun q => ?_, ?_⟩
             · refine kb_top (by omega) (kb_d_of_le fd1 (by omega)) ?_
               rw [kz]
               rw [e0, Int.zero_mul, Int.add_zero] at fv
               omega
             · rw [kz, ← fv, e0]; omega)
          | (have e1 : cy = 1 := by omega
             refine ⟨rfl, rfl, rfl, rfl, _, _, rfl, rfl, by omega, by omega, fd1, fun q => ?_, ?_⟩
             · rw [show top + 1 - 1 = top by omega, iup_self]; omega
             · rw [kz1, fv])
      exact c_vret hx hb hr hK hV hpost dX0_gather_115 hlocks
  · skip
    refine r_join (P := fun z : Int => z = ex (gg a) (nn a) i) (g := fun z => F0 m 42 ls [Iz z]) (fun xa hxa => ?_) (fun k_42 => ?_)
    · skip
      have xa_ := ex_bd (i := i) dga i0
      rw [← hxa] at xa_
      refine r_join (P := fun z : Int => z = ex (gg b) (nn b) i) (g := fun z => F0 m 60 ls [Iz z, Iz (xa)]) (fun xb hxb => ?_) (fun k_60 => ?_)
      · skip
        have xb_ := ex_bd (i := i) dgb i0
        rw [← hxb] at xb_
        refine g_iadd hx hb dX0_gather_60 ?_
        refine lv_iload hx hb dX0_gather_61 (lv_at hl 6 rfl) ?_
        refine g_iadd hx hb dX0_gather_63 ?_
        refine lv_istore (lv' := [(8, Iz ((xa + xb) + cy)), (0, .ref h0), (1, .ref a), (2, .ref b), (3, Iz (top)), (4, Iz (nn a)), (5, Iz (nn b)), (6, Iz (cy)), (7, Iz (i))]) hx hb dX0_gather_64 hl (by decide) rfl (fun ls hl => ?_)
        refine lv_aload_n hx hb dX0_gather_66 rfl (lv_at hl 1 rfl) ?_
        refine t_getd E hK hV m0 rfl cf_0_9 dX0_gather_67 ?_
        refine lv_iload hx hb dX0_gather_70 (lv_at hl 8 rfl) ?_
        refine lv_iload hx hb dX0_gather_72 (lv_at hl 0 rfl) ?_
        refine lv_ldc (v := Int32.ofInt (1073741823)) hx hb hown (hts _ (List.mem_cons_of_mem _ ck_X0_59)) dX0_gather_74 ?_
        refine g_iand30 hx hb dX0_gather_76 ?_
        refine t_ast (z := i) (v := (((xa + xb) + cy) % 1073741824)) (gf := (va_up gg h0 (iup f i (((xa + xb) + cy) % 1073741824)))) hx hb hK hV m0 rfl ((congrArg (fun q => va_up (va_up gg h0 f) h0 (iup q i (((xa + xb) + cy) % 1073741824))) (va_up_self _ _ _)).trans (va_up_up _ _ _ _)) rfl (by omega) (by omega) dX0_gather_77 (fun H locs hV => ?_)
        refine lv_iload hx hb dX0_gather_78 (lv_at hl 0 rfl) ?_
        refine lv_bipush (v := Int32.ofInt (30)) hx hb dX0_gather_80 (by decide) ?_
        refine g_iushr hx hb (by omega) (by omega) (by omega) (by omega) dX0_gather_82 ?_
        rw [show (2 : Int) ^ (30 : Int).toNat = 1073741824 from rfl]
        refine lv_istore (lv' := [(6, Iz (((xa + xb) + cy) / 1073741824)), (8, Iz ((xa + xb) + cy)), (0, .ref h0), (1, .ref a), (2, .ref b), (3, Iz (top)), (4, Iz (nn a)), (5, Iz (nn b)), (7, Iz (i))]) hx hb dX0_gather_83 hl (by decide) rfl (fun ls hl => ?_)
        refine g_iinc (k := 8) (z := i) (n := (1)) (lv' := [(7, Iz (i + 1)), (6, Iz (((xa + xb) + cy) / 1073741824)), (8, Iz ((xa + xb) + cy)), (0, .ref h0), (1, .ref a), (2, .ref b), (3, Iz (top)), (4, Iz (nn a)), (5, Iz (nn b))]) hx hb dX0_gather_85 hl rfl (by decide) rfl (fun ls hl => ?_)
        refine lv_goto (tgt := 18) hx hb dX0_gather_88 (by decide) ?_
        exact ih_18 _ (by omega) _ _ _ ⟨(iup f i (((xa + xb) + cy) % 1073741824)), (((xa + xb) + cy) / 1073741824), (i + 1), rfl, (by omega), (by omega), (by omega), (by omega), (kb_d_step i0 fd (by omega) (by omega)), (gat_step i0 fv (by rw [← hxa, ← hxb]; omega)), hV, lv_sub hl [3, 4, 5, 6, 7, 8, 1, 0] rfl⟩
      · skip
        refine lv_iload hx hb dX0_gather_42 (lv_at hl 7 rfl) ?_
        refine lv_iload hx hb dX0_gather_44 (lv_at hl 5 rfl) ?_
        refine g_icmp_ge (tgt := 59) hx hb ⟨by omega, by omega⟩ ⟨by omega, by omega⟩ dX0_gather_46 (by decide) (fun c_46 => ?_) (fun c_46 => ?_)
        · skip
          refine lv_iconst (v := Int32.ofInt (0)) hx hb dX0_gather_59 (by decide) ?_
          exact k_60 _ (by unfold ex; first | rw [if_pos (by omega)] | rw [if_neg (by omega)])
        · skip
          refine lv_aload_n hx hb dX0_gather_49 rfl (lv_at hl 2 rfl) ?_
          refine t_getd E hK hV mb rfl cf_0_9 dX0_gather_50 ?_
          refine lv_iload hx hb dX0_gather_53 (lv_at hl 7 rfl) ?_
          refine t_ald (z := i) (v := gg b i) hx hb hK hV mb rfl (congrFun ((va_up_ne _ _ (Ne.symm nb)).trans rfl) _) rfl (by omega) (by omega) dX0_gather_55 ?_
          refine lv_goto (tgt := 60) hx hb dX0_gather_56 (by decide) ?_
          exact k_60 _ (by unfold ex; first | rw [if_pos (by omega)] | rw [if_neg (by omega)])
    · skip
      refine lv_iload hx hb dX0_gather_24 (lv_at hl 7 rfl) ?_
      refine lv_iload hx hb dX0_gather_26 (lv_at hl 4 rfl) ?_
      refine g_icmp_ge (tgt := 41) hx hb ⟨by omega, by omega⟩ ⟨by omega, by omega⟩ dX0_gather_28 (by decide) (fun c_28 => ?_) (fun c_28 => ?_)
      · skip
        refine lv_iconst (v := Int32.ofInt (0)) hx hb dX0_gather_41 (by decide) ?_
        exact k_42 _ (by unfold ex; first | rw [if_pos (by omega)] | rw [if_neg (by omega)])
      · skip
        refine lv_aload_n hx hb dX0_gather_31 rfl (lv_at hl 1 rfl) ?_
        refine t_getd E hK hV ma rfl cf_0_9 dX0_gather_32 ?_
        refine lv_iload hx hb dX0_gather_35 (lv_at hl 7 rfl) ?_
        refine t_ald (z := i) (v := gg a i) hx hb hK hV ma rfl (congrFun ((va_up_ne _ _ (Ne.symm na)).trans rfl) _) rfl (by omega) (by omega) dX0_gather_37 ?_
        refine lv_goto (tgt := 42) hx hb dX0_gather_38 (by decide) ?_
        exact k_42 _ (by unfold ex; first | rw [if_pos (by omega)] | rw [if_neg (by omega)])
set_option maxHeartbeats 4000000 in
set_option maxRecDepth 100000 in
theorem k0_lessen {l : Launch} {dC : Nat → ClassId} {dI : Nat → Nat → Nat} {cx : Nat → Nat} {LB : List Nat} {X : va_W} {dd : Nat → Nat} {nn ss : Nat → Int} {ll : Nat → Nat} {gg : Nat → Int → Int} {H0 : Heap} {v : Nat → Int} {h0 a b : Nat} (m0 : h0 ∈ LB) (ma : a ∈ LB) (mb : b ∈ LB) (na : h0 ≠ a) (nb : h0 ≠ b) (NA : num1 (nn a) (ss a) (ll a) (gg a) (v a)) (NB : num1 (nn b) (ss b) (ll b) (gg b) (v b)) (t0 : ((v b).natAbs : Int) < ((v a).natAbs : Int)) (t1 : nn a ≤ ll h0) : Met l yX0_lessen (Cond.code yX0_lessen cX0_lessen 8 none :: w0c) (cRm 0 0 LB ll) (cPc dC dI cx LB X dd nn ss ll gg H0 [.ref h0, .ref a, .ref b]) (cQv dC dI cx LB (va_A (bW (cx 0) LB dd nn ss ll gg X) H0.size) ll H0 (fun X' dd' nn' ss' ll' gg' => X' = X ∧ dd' = dd ∧ ll' = ll ∧ ss' = ss ∧ ∃ (f1 : Int → Int) (n1 : Int), nn' = va_up nn h0 n1 ∧ gg' = va_up gg h0 f1 ∧ 0 ≤ n1 ∧ n1 ≤ ll h0 ∧ kb_d f1 n1.toNat ∧ (0 < n1 → f1 (n1 - 1) ≠ 0) ∧ kb_v f1 n1.toNat = ((v a).natAbs : Int) - ((v b).natAbs : Int))) (cMc LB ll) (2 * cMc LB ll) (va_A (bW (cx 0) LB dd nn ss ll gg X) H0.size) := by
  refine Met.ofW (cc := cX0_lessen) (maxL := 8) (ret := none) (by decide) rfl ?_
  intro p e s m args below meth c s₁ B hml hv
  obtain ⟨rfl, hH0, hP, hK, hD0, hC0⟩ := hv
  have hx := B.exec
  have hb := B.bytes
  have hr := B.returns
  have hts := atoms_spec (ws := Cond.code yX0_lessen cX0_lessen 8 none :: w0c) B.pre
  have hown : s.vm.findClass RX0 = some m.cls := findClass_of_methodNamed B.named
  have hlocks := B.notSynchronized
  have E : CallFix p m c cX0_lessen 8 s _ (Cond.code yX0_lessen cX0_lessen 8 none :: w0c) RX0 := ⟨hx, hb, hml, hown, hts⟩
  subst hH0
  have hD := va_D.self (sz := s.heap.size) hD0
  have hA : ∀ q : Nat, s.heap.size ≤ q → va_A (bW (cx 0) LB dd nn ss ll gg X) s.heap.size q := fun q h => Or.inr h
  have hV : cV dC dI cx LB (va_A (bW (cx 0) LB dd nn ss ll gg X) s.heap.size) s.heap ll X dd nn ss ll gg s.heap [] := ⟨hP, hD, va_S.rf, fun _ _ => Nat.le_refl _, hC0⟩
  have hR : (headSpec (Cond.code yX0_lessen cX0_lessen 8 none :: w0c) (cRm 0 0 LB ll)).room.cells = cMc LB ll ∧ (headSpec (Cond.code yX0_lessen cX0_lessen 8 none :: w0c) (cRm 0 0 LB ll)).room.slots = 2 * cMc LB ll := ⟨rfl, rfl⟩
  refine W.widen (k := cP LB ll - cP LB ll) (n := 2 * (cP LB ll - cP LB ll)) (Nat.zero_le _) (Nat.zero_le _) ?_
  have hl := lv_entry ([.ref h0, .ref a, .ref b]) (n := 8) (Nat.le_of_ble_eq_true rfl)
  rw [lg_entry_eq]
  generalize (lg_sl ([.ref h0, .ref a, .ref b]) ++ List.replicate (8 - (lg_sl ([.ref h0, .ref a, .ref b])).length) Slot.unset).toArray = ls at hl ⊢
  have hl : lv_has ls 8 [(0, .ref h0), (1, .ref a), (2, .ref b)] := hl
  have c4_ := (hC0 h0 m0)
  have c4a := (hC0 a ma).2
  have c4b := (hC0 b mb).2
  obtain ⟨n0a, n1a, k5a, dga, tpa, sga, vla⟩ := id NA
  obtain ⟨n0b, n1b, k5b, dgb, tpb, sgb, vlb⟩ := id NB
  have hba : nn b ≤ nn a := by rcases Int.lt_or_le (nn a) (nn b) with q | q; (· have := num1_size_lt NA NB q; omega); (· exact q)
  refine lv_aload_n hx hb dX0_lessen_0 rfl (lv_at hl 1 rfl) ?_
  refine t_getn E hK hV ma rfl cf_0_13 dX0_lessen_1 ?_
  refine lv_istore_n (lv' := [(3, Iz (nn a)), (0, .ref h0), (1, .ref a), (2, .ref b)]) hx hb dX0_lessen_4 rfl hl (by decide) rfl (fun ls hl => ?_)
  refine lv_aload_n hx hb dX0_lessen_5 rfl (lv_at hl 3 rfl) ?_
  refine t_getn E hK hV mb rfl cf_0_13 dX0_lessen_6 ?_
  refine lv_istore (lv' := [(4, Iz (nn b)), (3, Iz (nn a)), (0, .ref h0), (1, .ref a), (2, .ref b)]) hx hb dX0_lessen_9 hl (by decide) rfl (fun ls hl => ?_)
  refine lv_iconst (v := Int32.ofInt (0)) hx hb dX0_lessen_11 (by decide) ?_
  refine lv_istore (lv' := [(5, Iz (0)), (4, Iz (nn b)), (3, Iz (nn a)), (0, .ref h0), (1, .ref a), (2, .ref b)]) hx hb dX0_lessen_12 hl (by decide) rfl (fun ls hl => ?_)
  refine lv_iconst (v := Int32.ofInt (0)) hx hb dX0_lessen_14 (by decide) ?_
  refine lv_istore (lv' := [(6, Iz (0)), (5, Iz (0)), (4, Iz (nn b)), (3, Iz (nn a)), (0, .ref h0), (1, .ref a), (2, .ref b)]) hx hb dX0_lessen_15 hl (by decide) rfl (fun ls hl => ?_)
  have hV := cV_nor hV (va_up_id gg h0).symm
  refine r_loop (P := fun N_ H locs ls => ∃ f : Int → Int, ∃ bo : Int, ∃ i : Int, N_ = (nn a - i).toNat ∧ (0 ≤ i) ∧ (i ≤ nn a) ∧ (0 ≤ bo) ∧ (bo ≤ 1) ∧ (kb_d f i.toNat) ∧ (kb_v f i.toNat - bo * 1073741824 ^ i.toNat = kb_v (ex (gg a) (nn a)) i.toNat - kb_v (ex (gg b) (nn b)) i.toNat) ∧ cV dC dI cx LB (va_A (bW (cx 0) LB dd nn ss ll gg X) s.heap.size) s.heap ll X dd nn ss ll (va_up gg h0 f) H locs ∧ lv_has ls 8 [(0, .ref h0), (1, .ref a), (2, .ref b), (3, Iz (nn a)), (4, Iz (nn b)), (5, Iz (bo)), (6, Iz (i))]) (g := fun ls => F0 m 17 ls []) (fun N_ H locs ls hI ih_17 => ?_) _ _ _ _ ⟨(gg h0), 0, 0, rfl, (Int.le_refl 0), (by omega), (Int.le_refl 0), (by omega), (kb_d_zero _), (rfl), hV, lv_sub hl [4, 5, 6, 3, 2, 1, 0] rfl⟩
  obtain ⟨f, bo, i, rfl, i0, i1, b0_, b1_, fd, fv, hV, hl⟩ := hI
  refine lv_iload hx hb dX0_lessen_17 (lv_at hl 6 rfl) ?_
  refine lv_iload_n hx hb dX0_lessen_19 rfl (lv_at hl 3 rfl) ?_
  refine g_icmp_ge (tgt := 84) hx hb ⟨by omega, by omega⟩ ⟨by omega, by omega⟩ dX0_lessen_20 (by decide) (fun c_20 => ?_) (fun c_20 => ?_)
  · skip
    have ei : i = nn a := by omega
    rw [ei] at fd fv
    rw [ex_v n0a (by omega), ex_v n0b (by omega), vla, vlb] at fv
    have pl_ := kb_v_lt fd
    have pn_ := kb_v_nonneg fd
    have eb : bo = 0 := by rcases (show bo = 0 ∨ bo = 1 by omega) with q | q; (· exact q); (· rw [q, Int.one_mul] at fv; omega)
    rw [eb, Int.zero_mul, Int.sub_zero] at fv
    refine lv_aload_n hx hb dX0_lessen_84 rfl (lv_at hl 0 rfl) ?_
    refine lv_iload_n hx hb dX0_lessen_85 rfl (lv_at hl 3 rfl) ?_
    refine t_putn E hK hV m0 rfl cf_0_13 dX0_lessen_86 (fun H locs hV => ?_)
    refine r_loop (P := fun N_ H locs ls => ∃ k : Int, N_ = k.toNat ∧ (0 ≤ k) ∧ (k ≤ nn a) ∧ (∀ j : Int, k ≤ j → j < nn a → f j = 0) ∧ cV dC dI cx LB (va_A (bW (cx 0) LB dd nn ss ll gg X) s.heap.size) s.heap ll X dd (va_up nn h0 k) ss ll (va_up gg h0 f) H locs ∧ lv_has ls 8 [(0, .ref h0), (1, .ref a), (2, .ref b)]) (g := fun ls => F0 m 89 ls []) (fun N_ H locs ls hI ih_89 => ?_) _ _ _ _ ⟨(nn a), rfl, (n0a), (Int.le_refl _), (fun j p q => by omega), hV, lv_sub hl [0, 1, 2] rfl⟩
    obtain ⟨k, rfl, k0, k1, kz, hV, hl⟩ := hI
    refine lv_aload_n hx hb dX0_lessen_89 rfl (lv_at hl 0 rfl) ?_
    refine t_getn E hK hV m0 (va_up_self _ _ _) cf_0_13 dX0_lessen_90 ?_
    refine g_if_le (tgt := 123) hx hb ⟨by omega, by omega⟩ dX0_lessen_93 (by decide) (fun c_93 => ?_) (fun c_93 => ?_)
    · skip
      have hpost : X = X ∧ dd = dd ∧ ll = ll ∧ ss = ss ∧ ∃ (f1 : Int → Int) (n1 : Int), (va_up nn h0 k) = va_up nn h0 n1 ∧ (va_up gg h0 f) = va_up gg h0 f1 ∧ 0 ≤ n1 ∧ n1 ≤ ll h0 ∧ kb_d f1 n1.toNat ∧ (0 < n1 → f1 (n1 - 1) ≠ 0) ∧ kb_v f1 n1.toNat = ((v a).natAbs : Int) - ((v b).natAbs : Int) := ⟨rfl, rfl, rfl, rfl, _, _, rfl, rfl, k0, by omega, kb_d_of_le fd (by omega), fun q => by first | (exfalso; omega) | exact c_107, by rw [← fv]; exact (kb_v_zero (by omega) (fun j p q => kz j (by omega) (by omega))).symm⟩
      exact c_vret hx hb hr hK hV hpost dX0_lessen_123 hlocks
    · skip
      refine lv_aload_n hx hb dX0_lessen_96 rfl (lv_at hl 0 rfl) ?_
      refine t_getd E hK hV m0 rfl cf_0_9 dX0_lessen_97 ?_
      refine lv_aload_n hx hb dX0_lessen_100 rfl (lv_at hl 0 rfl) ?_
      refine t_getn E hK hV m0 (va_up_self _ _ _) cf_0_13 dX0_lessen_101 ?_
      refine lv_iconst (v := Int32.ofInt (1)) hx hb dX0_lessen_104 (by decide) ?_
      refine g_isub hx hb dX0_lessen_105 ?_
      refine t_ald (z := (k - 1)) (v := f (k - 1)) hx hb hK hV m0 rfl (congrFun (va_up_self _ _ _) _) rfl (by omega) (by omega) dX0_lessen_106 ?_
      refine g_if_ne (tgt := 123) hx hb ⟨by have := (fd (k - 1) (by omega) (by omega)).1; omega, by have := (fd (k - 1) (by omega) (by omega)).2; omega⟩ dX0_lessen_107 (by decide) (fun c_107 => ?_) (fun c_107 => ?_)
      · skip
        have hpost : X = X ∧ dd = dd ∧ ll = ll ∧ ss = ss ∧ ∃ (f1 : Int → Int) (n1 : Int), (va_up nn h0 k) = va_up nn h0 n1 ∧ (va_up gg h0 f) = va_up gg h0 f1 ∧ 0 ≤ n1 ∧ n1 ≤ ll h0 ∧ kb_d f1 n1.toNat ∧ (0 < n1 → f1 (n1 - 1) ≠ 0) ∧ kb_v f1 n1.toNat = ((v a).natAbs : Int) - ((v b).natAbs : Int) := ⟨rfl, rfl, rfl, rfl, _, _, rfl, rfl, k0, by omega, kb_d_of_le fd (by omega), fun q => by first | (exfalso; omega) | exact c_107, by rw [← fv]; exact (kb_v_zero (by omega) (fun j p q => kz j (by omega) (by omega))).symm⟩
        exact c_vret hx hb hr hK hV hpost dX0_lessen_123 hlocks
      · skip
        refine lv_aload_n hx hb dX0_lessen_110 rfl (lv_at hl 0 rfl) ?_
        refine lv_dup hx hb dX0_lessen_111 rfl ?_
        refine t_getn E hK hV m0 (va_up_self _ _ _) cf_0_13 dX0_lessen_112 ?_
        refine lv_iconst (v := Int32.ofInt (1)) hx hb dX0_lessen_115 (by decide) ?_
        refine g_isub hx hb dX0_lessen_116 ?_
        refine t_putn E hK hV m0 (va_up_up _ _ _ _) cf_0_13 dX0_lessen_117 (fun H locs hV => ?_)
        refine lv_goto (tgt := 89) hx hb dX0_lessen_120 (by decide) ?_
        exact ih_89 _ (by omega) _ _ _ ⟨(k - 1), rfl, (by omega), (by omega), (fun j p q => by rcases Int.lt_or_le j k with w | w; (· rw [show j = k - 1 by omega]; exact c_107); (· exact kz j w q)), hV, lv_sub hl [0, 1, 2] rfl⟩
  · skip
    refine lv_aload_n hx hb dX0_lessen_23 rfl (lv_at hl 1 rfl) ?_
    refine t_getd E hK hV ma rfl cf_0_9 dX0_lessen_24 ?_
    refine lv_iload hx hb dX0_lessen_27 (lv_at hl 6 rfl) ?_
    refine t_ald (z := i) (v := gg a i) hx hb hK hV ma rfl (congrFun ((va_up_ne _ _ (Ne.symm na)).trans rfl) _) rfl (by omega) (by omega) dX0_lessen_29 ?_
    refine lv_iload hx hb dX0_lessen_30 (lv_at hl 6 rfl) ?_
    refine lv_iload hx hb dX0_lessen_32 (lv_at hl 4 rfl) ?_
    refine g_icmp_ge (tgt := 47) hx hb ⟨by omega, by omega⟩ ⟨by omega, by omega⟩ dX0_lessen_34 (by decide) (fun c_34 => ?_) (fun c_34 => ?_)
    · skip
      refine lv_iconst (v := Int32.ofInt (0)) hx hb dX0_lessen_47 (by decide) ?_
      refine g_isub hx hb dX0_lessen_48 ?_
      refine lv_iload hx hb dX0_lessen_49 (lv_at hl 5 rfl) ?_
      refine g_isub hx hb dX0_lessen_51 ?_
      refine lv_istore (lv' := [(7, Iz (((gg a i) - 0) - bo)), (0, .ref h0), (1, .ref a), (2, .ref b), (3, Iz (nn a)), (4, Iz (nn b)), (5, Iz (bo)), (6, Iz (i))]) hx hb dX0_lessen_52 hl (by decide) rfl (fun ls hl => ?_)
      refine lv_iload hx hb dX0_lessen_54 (lv_at hl 0 rfl) ?_
      refine g_if_ge (tgt := 63) hx hb (by have xa_ := dga i i0 (by omega); first | (have xb_ := dgb i i0 (by omega); exact ⟨by omega, by omega⟩) | exact ⟨by omega, by omega⟩) dX0_lessen_56 (by decide) (fun c_56 => ?_) (fun c_56 => ?_)
      · skip
        refine lv_iconst (v := Int32.ofInt (0)) hx hb dX0_lessen_63 (by decide) ?_
        refine lv_istore (lv' := [(5, Iz (0)), (7, Iz (((gg a i) - 0) - bo)), (0, .ref h0), (1, .ref a), (2, .ref b), (3, Iz (nn a)), (4, Iz (nn b)), (6, Iz (i))]) hx hb dX0_lessen_64 hl (by decide) rfl (fun ls hl => ?_)
        refine lv_aload_n hx hb dX0_lessen_66 rfl (lv_at hl 2 rfl) ?_
        refine t_getd E hK hV m0 rfl cf_0_9 dX0_lessen_67 ?_
        refine lv_iload hx hb dX0_lessen_70 (lv_at hl 7 rfl) ?_
        refine lv_iload hx hb dX0_lessen_72 (lv_at hl 1 rfl) ?_
        refine lv_ldc (v := Int32.ofInt (1073741823)) hx hb hown (hts _ (List.mem_cons_of_mem _ ck_X0_59)) dX0_lessen_74 ?_
        refine g_iand30 hx hb dX0_lessen_76 ?_
        refine t_ast (z := i) (v := ((((gg a i) - 0) - bo) % 1073741824)) (gf := (va_up gg h0 (iup f i ((((gg a i) - 0) - bo) % 1073741824)))) hx hb hK hV m0 rfl ((congrArg (fun q => va_up (va_up gg h0 f) h0 (iup q i ((((gg a i) - 0) - bo) % 1073741824))) (va_up_self _ _ _)).trans (va_up_up _ _ _ _)) rfl (by omega) (by omega) dX0_lessen_77 (fun H locs hV => ?_)
        refine g_iinc (k := 7) (z := i) (n := (1)) (lv' := [(6, Iz (i + 1)), (5, Iz (0)), (7, Iz (((gg a i) - 0) - bo)), (0, .ref h0), (1, .ref a), (2, .ref b), (3, Iz (nn a)), (4, Iz (nn b))]) hx hb dX0_lessen_78 hl rfl (by decide) rfl (fun ls hl => ?_)
        refine lv_goto (tgt := 17) hx hb dX0_lessen_81 (by decide) ?_
        exact ih_17 _ (by omega) _ _ _ ⟨(iup f i ((((gg a i) - 0) - bo) % 1073741824)), 0, (i + 1), rfl, (by omega), (by omega), (by omega), (by omega), (kb_d_step i0 fd (by omega) (by omega)), (les_step i0 fv (by have xa_ := dga i i0 (by omega); have e0 : i < nn b → 0 ≤ gg b i ∧ gg b i < 1073741824 := fun q => dgb i i0 (by omega); have e1 : ex (gg a) (nn a) i = gg a i := if_pos (by omega); have e2 : ex (gg b) (nn b) i = (if i < nn b then gg b i else 0) := rfl; rw [e1, e2]; first | (rw [if_pos (by omega)]; omega) | (rw [if_neg (by omega)]; omega))), hV, lv_sub hl [3, 4, 5, 6, 7, 1, 0] rfl⟩
      · skip
        refine lv_iconst (v := Int32.ofInt (1)) hx hb dX0_lessen_59 (by decide) ?_
        refine lv_goto (tgt := 64) hx hb dX0_lessen_60 (by decide) ?_
        refine lv_istore (lv' := [(5, Iz (1)), (7, Iz (((gg a i) - 0) - bo)), (0, .ref h0), (1, .ref a), (2, .ref b), (3, Iz (nn a)), (4, Iz (nn b)), (6, Iz (i))]) hx hb dX0_lessen_64 hl (by decide) rfl (fun ls hl => ?_)
        refine lv_aload_n hx hb dX0_lessen_66 rfl (lv_at hl 2 rfl) ?_
        refine t_getd E hK hV m0 rfl cf_0_9 dX0_lessen_67 ?_
        refine lv_iload hx hb dX0_lessen_70 (lv_at hl 7 rfl) ?_
        refine lv_iload hx hb dX0_lessen_72 (lv_at hl 1 rfl) ?_
        refine lv_ldc (v := Int32.ofInt (1073741823)) hx hb hown (hts _ (List.mem_cons_of_mem _ ck_X0_59)) dX0_lessen_74 ?_
        refine g_iand30 hx hb dX0_lessen_76 ?_
        refine t_ast (z := i) (v := ((((gg a i) - 0) - bo) % 1073741824)) (gf := (va_up gg h0 (iup f i ((((gg a i) - 0) - bo) % 1073741824)))) hx hb hK hV m0 rfl ((congrArg (fun q => va_up (va_up gg h0 f) h0 (iup q i ((((gg a i) - 0) - bo) % 1073741824))) (va_up_self _ _ _)).trans (va_up_up _ _ _ _)) rfl (by omega) (by omega) dX0_lessen_77 (fun H locs hV => ?_)
        refine g_iinc (k := 7) (z := i) (n := (1)) (lv' := [(6, Iz (i + 1)), (5, Iz (1)), (7, Iz (((gg a i) - 0) - bo)), (0, .ref h0), (1, .ref a), (2, .ref b), (3, Iz (nn a)), (4, Iz (nn b))]) hx hb dX0_lessen_78 hl rfl (by decide) rfl (fun ls hl => ?_)
        refine lv_goto (tgt := 17) hx hb dX0_lessen_81 (by decide) ?_
        exact ih_17 _ (by omega) _ _ _ ⟨(iup f i ((((gg a i) - 0) - bo) % 1073741824)), 1, (i + 1), rfl, (by omega), (by omega), (by omega), (by omega), (kb_d_step i0 fd (by omega) (by omega)), (les_step i0 fv (by have xa_ := dga i i0 (by omega); have e0 : i < nn b → 0 ≤ gg b i ∧ gg b i < 1073741824 := fun q => dgb i i0 (by omega); have e1 : ex (gg a) (nn a) i = gg a i := if_pos (by omega); have e2 : ex (gg b) (nn b) i = (if i < nn b then gg b i else 0) := rfl; rw [e1, e2]; first | (rw [if_pos (by omega)]; omega) | (rw [if_neg (by omega)]; omega))), hV, lv_sub hl [3, 4, 5, 6, 7, 1, 0] rfl⟩
    · skip
      refine lv_aload_n hx hb dX0_lessen_37 rfl (lv_at hl 2 rfl) ?_
      refine t_getd E hK hV mb rfl cf_0_9 dX0_lessen_38 ?_
      refine lv_iload hx hb dX0_lessen_41 (lv_at hl 6 rfl) ?_
      refine t_ald (z := i) (v := gg b i) hx hb hK hV mb rfl (congrFun ((va_up_ne _ _ (Ne.symm nb)).trans rfl) _) rfl (by omega) (by omega) dX0_lessen_43 ?_
      refine lv_goto (tgt := 48) hx hb dX0_lessen_44 (by decide) ?_
      refine g_isub hx hb dX0_lessen_48 ?_
      refine lv_iload hx hb dX0_lessen_49 (lv_at hl 5 rfl) ?_
      refine g_isub hx hb dX0_lessen_51 ?_
      refine lv_istore (lv' := [(7, Iz (((gg a i) - (gg b i)) - bo)), (0, .ref h0), (1, .ref a), (2, .ref b), (3, Iz (nn a)), (4, Iz (nn b)), (5, Iz (bo)), (6, Iz (i))]) hx hb dX0_lessen_52 hl (by decide) rfl (fun ls hl => ?_)
      refine lv_iload hx hb dX0_lessen_54 (lv_at hl 0 rfl) ?_
      refine g_if_ge (tgt := 63) hx hb (by have xa_ := dga i i0 (by omega); first | (have xb_ := dgb i i0 (by omega); exact ⟨by omega, by omega⟩) | exact ⟨by omega, by omega⟩) dX0_lessen_56 (by decide) (fun c_56 => ?_) (fun c_56 => ?_)
      · skip
        refine lv_iconst (v := Int32.ofInt (0)) hx hb dX0_lessen_63 (by decide) ?_
        refine lv_istore (lv' := [(5, Iz (0)), (7, Iz (((gg a i) - (gg b i)) - bo)), (0, .ref h0), (1, .ref a), (2, .ref b), (3, Iz (nn a)), (4, Iz (nn b)), (6, Iz (i))]) hx hb dX0_lessen_64 hl (by decide) rfl (fun ls hl => ?_)
        refine lv_aload_n hx hb dX0_lessen_66 rfl (lv_at hl 2 rfl) ?_
        refine t_getd E hK hV m0 rfl cf_0_9 dX0_lessen_67 ?_
        refine lv_iload hx hb dX0_lessen_70 (lv_at hl 7 rfl) ?_
        refine lv_iload hx hb dX0_lessen_72 (lv_at hl 1 rfl) ?_
        refine lv_ldc (v := Int32.ofInt (1073741823)) hx hb hown (hts _ (List.mem_cons_of_mem _ ck_X0_59)) dX0_lessen_74 ?_
        refine g_iand30 hx hb dX0_lessen_76 ?_
        refine t_ast (z := i) (v := ((((gg a i) - (gg b i)) - bo) % 1073741824)) (gf := (va_up gg h0 (iup f i ((((gg a i) - (gg b i)) - bo) % 1073741824)))) hx hb hK hV m0 rfl ((congrArg (fun q => va_up (va_up gg h0 f) h0 (iup q i ((((gg a i) - (gg b i)) - bo) % 1073741824))) (va_up_self _ _ _)).trans (va_up_up _ _ _ _)) rfl (by omega) (by omega) dX0_lessen_77 (fun H locs hV => ?_)
        refine g_iinc (k := 7) (z := i) (n := (1)) (lv' := [(6, Iz (i + 1)), (5, Iz (0)), (7, Iz (((gg a i) - (gg b i)) - bo)), (0, .ref h0), (1, .ref a), (2, .ref b), (3, Iz (nn a)), (4, Iz (nn b))]) hx hb dX0_lessen_78 hl rfl (by decide) rfl (fun ls hl => ?_)
        refine lv_goto (tgt := 17) hx hb dX0_lessen_81 (by decide) ?_
        exact ih_17 _ (by omega) _ _ _ ⟨(iup f i ((((gg a i) - (gg b i)) - bo) % 1073741824)), 0, (i + 1), rfl, (by omega), (by omega), (by omega), (by omega), (kb_d_step i0 fd (by omega) (by omega)), (les_step i0 fv (by have xa_ := dga i i0 (by omega); have e0 : i < nn b → 0 ≤ gg b i ∧ gg b i < 1073741824 := fun q => dgb i i0 (by omega); have e1 : ex (gg a) (nn a) i = gg a i := if_pos (by omega); have e2 : ex (gg b) (nn b) i = (if i < nn b then gg b i else 0) := rfl; rw [e1, e2]; first | (rw [if_pos (by omega)]; omega) | (rw [if_neg (by omega)]; omega))), hV, lv_sub hl [3, 4, 5, 6, 7, 1, 0] rfl⟩
      · skip
        refine lv_iconst (v := Int32.ofInt (1)) hx hb dX0_lessen_59 (by decide) ?_
        refine lv_goto (tgt := 64) hx hb dX0_lessen_60 (by decide) ?_
        refine lv_istore (lv' := [(5, Iz (1)), (7, Iz (((gg a i) - (gg b i)) - bo)), (0, .ref h0), (1, .ref a), (2, .ref b), (3, Iz (nn a)), (4, Iz (nn b)), (6, Iz (i))]) hx hb dX0_lessen_64 hl (by decide) rfl (fun ls hl => ?_)
        refine lv_aload_n hx hb dX0_lessen_66 rfl (lv_at hl 2 rfl) ?_
        refine t_getd E hK hV m0 rfl cf_0_9 dX0_lessen_67 ?_
        refine lv_iload hx hb dX0_lessen_70 (lv_at hl 7 rfl) ?_
        refine lv_iload hx hb dX0_lessen_72 (lv_at hl 1 rfl) ?_
        refine lv_ldc (v := Int32.ofInt (1073741823)) hx hb hown (hts _ (List.mem_cons_of_mem _ ck_X0_59)) dX0_lessen_74 ?_
        refine g_iand30 hx hb dX0_lessen_76 ?_
        refine t_ast (z := i) (v := ((((gg a i) - (gg b i)) - bo) % 1073741824)) (gf := (va_up gg h0 (iup f i ((((gg a i) - (gg b i)) - bo) % 1073741824)))) hx hb hK hV m0 rfl ((congrArg (fun q => va_up (va_up gg h0 f) h0 (iup q i ((((gg a i) - (gg b i)) - bo) % 1073741824))) (va_up_self _ _ _)).trans (va_up_up _ _ _ _)) rfl (by omega) (by omega) dX0_lessen_77 (fun H locs hV => ?_)
        refine g_iinc (k := 7) (z := i) (n := (1)) (lv' := [(6, Iz (i + 1)), (5, Iz (1)), (7, Iz (((gg a i) - (gg b i)) - bo)), (0, .ref h0), (1, .ref a), (2, .ref b), (3, Iz (nn a)), (4, Iz (nn b))]) hx hb dX0_lessen_78 hl rfl (by decide) rfl (fun ls hl => ?_)
        refine lv_goto (tgt := 17) hx hb dX0_lessen_81 (by decide) ?_
        exact ih_17 _ (by omega) _ _ _ ⟨(iup f i ((((gg a i) - (gg b i)) - bo) % 1073741824)), 1, (i + 1), rfl, (by omega), (by omega), (by omega), (by omega), (kb_d_step i0 fd (by omega) (by omega)), (les_step i0 fv (by have xa_ := dga i i0 (by omega); have e0 : i < nn b → 0 ≤ gg b i ∧ gg b i < 1073741824 := fun q => dgb i i0 (by omega); have e1 : ex (gg a) (nn a) i = gg a i := if_pos (by omega); have e2 : ex (gg b) (nn b) i = (if i < nn b then gg b i else 0) := rfl; rw [e1, e2]; first | (rw [if_pos (by omega)]; omega) | (rw [if_neg (by omega)]; omega))), hV, lv_sub hl [3, 4, 5, 6, 7, 1, 0] rfl⟩
