/-- digit i of a number times T = 2^r; U = 2^(30 - r) -/
def rdg (g : Int → Int) (n T U : Int) : Int → Int := fun i => (ex g n i * T) % 1073741824 + (if 0 < i then ex g n (i - 1) else 0) / U
theorem div_TU {x T U : Int} (hT : 0 < T) (hB : T * U = 1073741824) : (x * T) / 1073741824 = x / U := by
  rw [← hB, Int.mul_comm T U]
  exact Int.mul_ediv_mul_of_pos_left x U hT
theorem mod_TU {x T U : Int} (hT : 0 < T) (hB : T * U = 1073741824) : (x * T) % 1073741824 = (x % U) * T := by
  have hU : 0 < U := by
    rcases Int.lt_or_le 0 U with q | q
    · exact q
    · have := Int.mul_nonpos_of_nonneg_of_nonpos (Int.le_of_lt hT) q
      omega
  have e := Int.mul_ediv_add_emod x U
  have h1 := Int.emod_nonneg x (show U ≠ 0 by omega)
  have h2 := Int.emod_lt_of_pos x hU
  have h3 : (x % U + 1) * T ≤ U * T := Int.mul_le_mul_of_nonneg_right (by omega) (by omega)
  have h4 := Int.mul_nonneg h1 (Int.le_of_lt hT)
  rw [Int.add_mul, Int.one_mul] at h3
  have e2 : x * T = (x % U) * T + (T * U) * (x / U) := by
    generalize x / U = q at *
    generalize x % U = m at *
    subst e
    grind
  rw [← hB, e2, Int.add_mul_emod_self_left, Int.emod_eq_of_lt h4 (by rw [Int.mul_comm T U]; omega)]
theorem rdg_v {g : Int → Int} {n T U : Int} (hT : 0 < T) (hB : T * U = 1073741824) : ∀ j : Nat, kb_v (rdg g n T U) j + ((if 0 < (j : Int) then ex g n ((j : Int) - 1) else 0) / U) * 1073741824 ^ j = kb_v (ex g n) j * T
  | 0 => by
    rw [if_neg (by omega), Int.zero_ediv]
    show (0 : Int) + 0 * 1073741824 ^ 0 = 0 * T
    rw [Int.zero_mul, Int.zero_mul, Int.add_zero]
  | j + 1 => by
    have h := rdg_v (g := g) (n := n) hT hB j
    have e1 : kb_v (rdg g n T U) (j + 1) = kb_v (rdg g n T U) j + rdg g n T U (j : Int) * 1073741824 ^ j := rfl
    have e2 : kb_v (ex g n) (j + 1) = kb_v (ex g n) j + ex g n (j : Int) * 1073741824 ^ j := rfl
    have e3 : rdg g n T U (j : Int) = (ex g n (j : Int) * T) % 1073741824 + (if 0 < (j : Int) then ex g n ((j : Int) - 1) else 0) / U := rfl
    rw [if_pos (by omega), show (((j + 1 : Nat) : Int)) - 1 = (j : Int) by omega, e1, e2, e3, kb_pow_succ, ← div_TU (x := ex g n (j : Int)) hT hB]
    generalize (if 0 < (j : Int) then ex g n ((j : Int) - 1) else 0) / U = cj at *
    generalize (1073741824 : Int) ^ j = P at *
    generalize kb_v (rdg g n T U) j = K at *
    generalize kb_v (ex g n) j = E at *
    generalize ex g n (j : Int) = x at *
    have hd := Int.mul_ediv_add_emod (x * T) 1073741824
    generalize (x * T) / 1073741824 = q at *
    generalize (x * T) % 1073741824 = mm at *
    clear e1 e2 e3 hB hT
    grind
theorem hi_bd {x T U : Int} (hT : 0 < T) (hU : 0 < U) (hB : T * U = 1073741824) : 0 ≤ (x * T) % 1073741824 ∧ (x * T) % 1073741824 ≤ 1073741824 - T ∧ (x * T) % 1073741824 % T = 0 := by
  rw [mod_TU hT hB]
  have h1 := Int.emod_nonneg x (show U ≠ 0 by omega)
  have h2 := Int.emod_lt_of_pos x hU
  refine ⟨Int.mul_nonneg h1 (by omega), ?_, Int.mul_emod_left _ _⟩
  have h3 : (x % U + 1) * T ≤ U * T := Int.mul_le_mul_of_nonneg_right (by omega) (by omega)
  rw [Int.add_mul, Int.one_mul, Int.mul_comm U T, hB] at h3
  omega
theorem lo_bd {y T U : Int} (y0 : 0 ≤ y) (y1 : y < 1073741824) (hU : 0 < U) (hB : T * U = 1073741824) : 0 ≤ y / U ∧ y / U < T := by
  refine ⟨Int.ediv_nonneg y0 (by omega), Int.ediv_lt_of_lt_mul hU (by omega)⟩
theorem TU30 {r : Int} (r0 : 0 ≤ r) (r1 : r ≤ 30) : (2 : Int) ^ r.toNat * 2 ^ (30 - r).toNat = 1073741824 := by
  rw [← Int.pow_add, show r.toNat + (30 - r).toNat = 30 by omega]
  rfl
theorem im_or' {a b : Int} {k : Nat} (ha0 : 0 ≤ a) (ha : a < 2 ^ k) (hb0 : 0 ≤ b) (hm : b % 2 ^ k = 0) (hs : b + a < 4294967296) : Int32.ofInt b ||| Int32.ofInt a = Int32.ofInt (b + a) := by
  rw [Int32.or_comm, im_or ha0 ha hb0 hm (by omega), Int.add_comm]
theorem rdg_bd {g : Int → Int} {n r i : Int} (hg : kb_d g n.toNat) (r0 : 0 ≤ r) (r1 : r < 30) (i0 : 0 ≤ i) : 0 ≤ rdg g n (2 ^ r.toNat) (2 ^ (30 - r).toNat) i ∧ rdg g n (2 ^ r.toNat) (2 ^ (30 - r).toNat) i < 1073741824 := by
  have hB := TU30 r0 (show r ≤ 30 by omega)
  have hT := i_p2 r.toNat
  have hU := i_p2 (30 - r).toNat
  have h1 := hi_bd (x := ex g n i) hT hU hB
  unfold rdg
  by_cases q : 0 < i
  · rw [if_pos q]
    have e := ex_bd (i := i - 1) hg (by omega)
    have h2 := lo_bd e.1 e.2 hU hB
    omega
  · rw [if_neg q, Int.zero_ediv]
    omega
/-- the value of what raise() leaves -/
theorem rai_v {f g : Int → Int} {n w r V : Int} (n0 : 0 ≤ n) (w0 : 0 ≤ w) (r0 : 0 ≤ r) (r1 : r < 30) (hg : kb_d g n.toNat) (hv : kb_v g n.toNat = V) (hz : ∀ t : Int, 0 ≤ t → t < w → f t = 0) (hr : ∀ t : Int, 0 ≤ t → t ≤ n → f (t + w) = rdg g n (2 ^ r.toNat) (2 ^ (30 - r).toNat) t) : kb_d f (n + w + 1).toNat ∧ kb_v f (n + w + 1).toNat = V * 2 ^ (r + 30 * w).toNat := by
  have hB := TU30 r0 (show r ≤ 30 by omega)
  have hT := i_p2 r.toNat
  have hU := i_p2 (30 - r).toNat
  constructor
  · intro t h0 h1
    rcases Int.lt_or_le t w with q | q
    · rw [hz t h0 q]; omega
    · have := hr (t - w) (by omega) (by omega)
      rw [show t - w + w = t by omega] at this
      rw [this]
      exact rdg_bd hg r0 r1 (by omega)
  · have e1 : (n + w + 1).toNat = w.toNat + (n + 1).toNat := by omega
    rw [e1, kb_v_split, kb_v_zero (f := f) (k := 0) (n := w.toNat) (Nat.zero_le _) (fun t a b => hz t (by omega) (by omega))]
    have hc : kb_v (fun i => f ((w.toNat : Int) + i)) (n + 1).toNat = kb_v (rdg g n (2 ^ r.toNat) (2 ^ (30 - r).toNat)) (n + 1).toNat := kb_v_congr (fun t a b => by rw [Int.add_comm, Int.toNat_of_nonneg w0]; exact hr t a (by omega))
    rw [hc]
    have h := rdg_v (g := g) (n := n) hT hB (n + 1).toNat
    rw [if_pos (by omega), show (((n + 1).toNat : Nat) : Int) - 1 = n by omega, show ex g n n = 0 from if_neg (by omega), Int.zero_ediv, Int.zero_mul, Int.add_zero, ex_v n0 (by omega), hv] at h
    rw [h, p30]
    show 0 + V * 2 ^ r.toNat * 2 ^ (30 * w.toNat) = _
    rw [Int.zero_add, Int.mul_assoc, ← Int.pow_add, show r.toNat + 30 * w.toNat = (r + 30 * w).toNat by omega]
theorem sg_p2 {A : Int} (k : Nat) : sg (A * 2 ^ k) = sg A := sg_mul_pos (i_p2 k)
theorem abs_p2 {A : Int} (k : Nat) : ((A * 2 ^ k).natAbs : Int) = (A.natAbs : Int) * 2 ^ k := by
  have e : (((2 : Int) ^ k).natAbs : Int) = 2 ^ k := by have := i_p2 k; omega
  rw [Int.natAbs_mul, Int.natCast_mul, e]
set_option maxHeartbeats 4000000 in
set_option maxRecDepth 100000 in
theorem k0_raise {l : Launch} {dC : Nat → ClassId} {dI : Nat → Nat → Nat} {cx : Nat → Nat} {LB : List Nat} {X : va_W} {dd : Nat → Nat} {nn ss : Nat → Int} {ll : Nat → Nat} {gg : Nat → Int → Int} {H0 : Heap} {v : Nat → Int} {h0 a : Nat} {kk : Int} (m0 : h0 ∈ LB) (hN : cR LB nn ss ll gg v) (ma : a ∈ LB) (na : h0 ≠ a) (k0 : 0 ≤ kk) (k1 : nn a + kk / 30 ≤ 198) : Met l yX0_raise (Cond.code yX0_raise cX0_raise 9 none :: w0c) (cRm 2 62 LB ll) (cPc dC dI cx LB X dd nn ss ll gg H0 [.ref h0, .ref a, Iz (kk)]) (cQv dC dI cx LB (va_A (bW (cx 0) LB dd nn ss ll gg X) H0.size) ll H0 (fun X' dd' nn' ss' ll' gg' => X' = X ∧ cR LB nn' ss' ll' gg' (va_up v h0 (v a * 2 ^ kk.toNat)))) (cMc LB ll) (2 * cMc LB ll) (va_A (bW (cx 0) LB dd nn ss ll gg X) H0.size) := by
  refine Met.ofW (cc := cX0_raise) (maxL := 9) (ret := none) (by decide) rfl ?_
  intro p e s m args below meth c s₁ B hml hv
  obtain ⟨rfl, hH0, hP, hK, hD0, hC0⟩ := hv
  have hx := B.exec
  have hb := B.bytes
  have hr := B.returns
  have hts := atoms_spec (ws := Cond.code yX0_raise cX0_raise 9 none :: w0c) B.pre
  have hown : s.vm.findClass RX0 = some m.cls := findClass_of_methodNamed B.named
  have hlocks := B.notSynchronized
  have E : CallFix p m c cX0_raise 9 s _ (Cond.code yX0_raise cX0_raise 9 none :: w0c) RX0 := ⟨hx, hb, hml, hown, hts⟩
  subst hH0
  have hD := va_D.self (sz := s.heap.size) hD0
  have hA : ∀ q : Nat, s.heap.size ≤ q → va_A (bW (cx 0) LB dd nn ss ll gg X) s.heap.size q := fun q h => Or.inr h
  have hV : cV dC dI cx LB (va_A (bW (cx 0) LB dd nn ss ll gg X) s.heap.size) s.heap ll X dd nn ss ll gg s.heap [] := ⟨hP, hD, va_S.rf, fun _ _ => Nat.le_refl _, hC0⟩
  have hR : (headSpec (Cond.code yX0_raise cX0_raise 9 none :: w0c) (cRm 2 62 LB ll)).room.cells = cMc LB ll ∧ (headSpec (Cond.code yX0_raise cX0_raise 9 none :: w0c) (cRm 2 62 LB ll)).room.slots = 2 * cMc LB ll := ⟨rfl, rfl⟩
  refine W.widen (k := cP LB ll - cP LB ll) (n := 2 * (cP LB ll - cP LB ll)) (Nat.zero_le _) (Nat.zero_le _) ?_
  have hl := lv_entry ([.ref h0, .ref a, Iz (kk)]) (n := 9) (Nat.le_of_ble_eq_true rfl)
  rw [lg_entry_eq]
  generalize (lg_sl ([.ref h0, .ref a, Iz (kk)]) ++ List.replicate (9 - (lg_sl ([.ref h0, .ref a, Iz (kk)])).length) Slot.unset).toArray = ls at hl ⊢
  have hl : lv_has ls 9 [(0, .ref h0), (1, .ref a), (2, Iz (kk))] := hl
  have N0 := hN h0 m0
  obtain ⟨n0_, n1_, k5_, dg_, tp_, sg_, vl_⟩ := hN h0 m0
  have c4_ := (hC0 h0 m0).2
  have sb_ := sg_bd (v h0)
  have NA := hN a ma
  obtain ⟨n0a, n1a, k5a, dga, tpa, sga, vla⟩ := hN a ma
  have c4a := (hC0 a ma).2
  have sba := sg_bd (v a)
  have kq : kk = 30 * (kk / 30) + kk % 30 := by omega
  refine lv_aload_n hx hb dX0_raise_0 rfl (lv_at hl 1 rfl) ?_
  refine t_getn E hK hV ma rfl cf_0_13 dX0_raise_1 ?_
  refine g_if_eq (tgt := 11) hx hb ⟨by omega, by omega⟩ dX0_raise_4 (by decide) (fun c_4 => ?_) (fun c_4 => ?_)
  · skip
    refine lv_aload_n hx hb dX0_raise_11 rfl (lv_at hl 0 rfl) ?_
    refine lv_iconst (v := Int32.ofInt (0)) hx hb dX0_raise_12 (by decide) ?_
    refine t_putn E hK hV m0 rfl cf_0_13 dX0_raise_13 (fun H locs hV => ?_)
    refine lv_aload_n hx hb dX0_raise_16 rfl (lv_at hl 0 rfl) ?_
    refine lv_iconst (v := Int32.ofInt (0)) hx hb dX0_raise_17 (by decide) ?_
    refine t_puts E hK hV m0 rfl cf_0_17 dX0_raise_18 (fun H locs hV => ?_)
    have hpost : X = X ∧ cR LB (va_up nn h0 0) (va_up ss h0 0) ll gg (va_up v h0 (v a * 2 ^ kk.toNat)) := ⟨rfl, by
          have h := cR_up (h0 := h0) hN (show num1 0 0 (ll h0) (gg h0) (v a * 2 ^ kk.toNat) from ⟨Int.le_refl 0, by omega, k5_, kb_d_zero _, fun h => absurd h (by decide), by rw [(num1_zero NA).mp c_4, Int.zero_mul]; rfl, by rw [(num1_zero NA).mp c_4, Int.zero_mul]; rfl⟩)
          rw [va_up_id, va_up_id] at h
          exact h⟩
    exact c_vret hx hb hr hK hV hpost dX0_raise_21 hlocks
  · skip
    refine lv_iload_n hx hb dX0_raise_7 rfl (lv_at hl 2 rfl) ?_
    refine g_if_ge (tgt := 22) hx hb ⟨by omega, by omega⟩ dX0_raise_8 (by decide) (fun c_8 => ?_) (fun c_8 => ?_)
    · skip
      refine lv_iload_n hx hb dX0_raise_22 rfl (lv_at hl 2 rfl) ?_
      refine lv_bipush (v := Int32.ofInt (30)) hx hb dX0_raise_23 (by decide) ?_
      refine g_idiv hx hb (by omega) (by omega) (by omega) (by omega) dX0_raise_25 ?_
      refine lv_istore_n (lv' := [(3, Iz (kk / 30)), (0, .ref h0), (1, .ref a), (2, Iz (kk))]) hx hb dX0_raise_26 rfl hl (by decide) rfl (fun ls hl => ?_)
      refine lv_iload_n hx hb dX0_raise_27 rfl (lv_at hl 3 rfl) ?_
      refine lv_bipush (v := Int32.ofInt (30)) hx hb dX0_raise_28 (by decide) ?_
      refine g_irem hx hb (by omega) (by omega) (by omega) (by omega) dX0_raise_30 ?_
      refine lv_istore (lv' := [(4, Iz (kk % 30)), (3, Iz (kk / 30)), (0, .ref h0), (1, .ref a), (2, Iz (kk))]) hx hb dX0_raise_31 hl (by decide) rfl (fun ls hl => ?_)
      refine lv_aload_n hx hb dX0_raise_33 rfl (lv_at hl 3 rfl) ?_
      refine t_getn E hK hV ma rfl cf_0_13 dX0_raise_34 ?_
      refine lv_istore (lv' := [(5, Iz (nn a)), (4, Iz (kk % 30)), (3, Iz (kk / 30)), (0, .ref h0), (1, .ref a), (2, Iz (kk))]) hx hb dX0_raise_37 hl (by decide) rfl (fun ls hl => ?_)
      refine lv_iload hx hb dX0_raise_39 (lv_at hl 0 rfl) ?_
      refine lv_iload_n hx hb dX0_raise_41 rfl (lv_at hl 2 rfl) ?_
      refine g_iadd hx hb dX0_raise_42 ?_
      refine lv_iconst (v := Int32.ofInt (1)) hx hb dX0_raise_43 (by decide) ?_
      refine g_iadd hx hb dX0_raise_44 ?_
      refine lv_istore (lv' := [(6, Iz (((nn a) + (kk / 30)) + 1)), (5, Iz (nn a)), (4, Iz (kk % 30)), (3, Iz (kk / 30)), (0, .ref h0), (1, .ref a), (2, Iz (kk))]) hx hb dX0_raise_45 hl (by decide) rfl (fun ls hl => ?_)
      refine lv_iload hx hb dX0_raise_47 (lv_at hl 0 rfl) ?_
      refine lv_aload_n hx hb dX0_raise_49 rfl (lv_at hl 4 rfl) ?_
      refine t_getd E hK hV m0 rfl cf_0_9 dX0_raise_50 ?_
      refine t_len hx hb hK hV m0 rfl rfl dX0_raise_53 ?_
      refine g_icmp_le (tgt := 72) hx hb (by first | assumption | exact ⟨by omega, by omega⟩) (by first | assumption | exact ⟨by omega, by omega⟩) dX0_raise_54 (by decide) (fun c_54 => ?_) (fun c_54 => ?_)
      · skip
        have kl : nn a + kk / 30 + 1 ≤ (((ll h0) : Nat) : Int) := by omega
        have k5 : 5 ≤ (((ll h0) : Nat) : Int) := by omega
        refine lv_iload hx hb dX0_raise_72 (lv_at hl 1 rfl) ?_
        refine lv_istore (lv' := [(7, Iz (nn a)), (6, Iz (((nn a) + (kk / 30)) + 1)), (5, Iz (nn a)), (4, Iz (kk % 30)), (3, Iz (kk / 30)), (0, .ref h0), (1, .ref a), (2, Iz (kk))]) hx hb dX0_raise_74 hl (by decide) rfl (fun ls hl => ?_)
        have hV := cV_nor hV (va_up_id gg h0).symm
        refine r_loop (P := fun N_ H locs ls => ∃ f : Int → Int, ∃ i : Int, N_ = (i + 1).toNat ∧ (-1 ≤ i) ∧ (i ≤ nn a) ∧ (∀ t : Int, i < t → t ≤ nn a → f (t + kk / 30) = rdg (gg a) (nn a) (2 ^ (kk % 30).toNat) (2 ^ (30 - kk % 30).toNat) t) ∧ cV dC dI cx LB (va_A (bW (cx 0) LB dd nn ss ll gg X) s.heap.size) s.heap ll X dd nn ss ll (va_up gg h0 f) H locs ∧ lv_has ls 9 [(0, .ref h0), (1, .ref a), (2, Iz (kk)), (3, Iz (kk / 30)), (4, Iz (kk % 30)), (5, Iz (nn a)), (6, Iz (((nn a) + (kk / 30)) + 1)), (7, Iz (i))]) (g := fun ls => F0 m 76 ls []) (fun N_ H locs ls hI ih_76 => ?_) _ _ _ _ ⟨(gg h0), (nn a), rfl, (by omega), (Int.le_refl _), (fun t p q => by omega), hV, lv_sub hl [5, 6, 7, 4, 3, 2, 1, 0] rfl⟩
        obtain ⟨f, i, rfl, i0, i1, fr, hV, hl⟩ := hI
        refine lv_iload hx hb dX0_raise_76 (lv_at hl 7 rfl) ?_
        refine g_if_lt (tgt := 149) hx hb ⟨by omega, by omega⟩ dX0_raise_78 (by decide) (fun c_78 => ?_) (fun c_78 => ?_)
        · skip
          refine lv_iconst (v := Int32.ofInt (0)) hx hb dX0_raise_149 (by decide) ?_
          refine lv_istore (lv' := [(7, Iz (0)), (0, .ref h0), (1, .ref a), (2, Iz (kk)), (3, Iz (kk / 30)), (4, Iz (kk % 30)), (5, Iz (nn a)), (6, Iz (((nn a) + (kk / 30)) + 1))]) hx hb dX0_raise_150 hl (by decide) rfl (fun ls hl => ?_)
          refine r_loop (P := fun N_ H locs ls => ∃ f : Int → Int, ∃ i : Int, N_ = (kk / 30 - i).toNat ∧ (0 ≤ i) ∧ (i ≤ kk / 30) ∧ (∀ t : Int, 0 ≤ t → t < i → f t = 0) ∧ (∀ t : Int, -1 < t → t ≤ nn a → f (t + kk / 30) = rdg (gg a) (nn a) (2 ^ (kk % 30).toNat) (2 ^ (30 - kk % 30).toNat) t) ∧ cV dC dI cx LB (va_A (bW (cx 0) LB dd nn ss ll gg X) s.heap.size) s.heap ll X dd nn ss ll (va_up gg h0 f) H locs ∧ lv_has ls 9 [(0, .ref h0), (1, .ref a), (2, Iz (kk)), (3, Iz (kk / 30)), (4, Iz (kk % 30)), (5, Iz (nn a)), (6, Iz (((nn a) + (kk / 30)) + 1)), (7, Iz (i))]) (g := fun ls => F0 m 152 ls []) (fun N_ H locs ls hI ih_152 => ?_) _ _ _ _ ⟨f, 0, rfl, (Int.le_refl 0), (by omega), (fun t p q => by omega), (fun t p q => fr t (by omega) q), hV, lv_sub hl [1, 2, 3, 4, 5, 6, 7, 0] rfl⟩
          obtain ⟨f, i, rfl, i0, i1, fz, fr, hV, hl⟩ := hI
          refine lv_iload hx hb dX0_raise_152 (lv_at hl 7 rfl) ?_
          refine lv_iload_n hx hb dX0_raise_154 rfl (lv_at hl 3 rfl) ?_
          refine g_icmp_ge (tgt := 172) hx hb (by first | assumption | exact ⟨by omega, by omega⟩) (by first | assumption | exact ⟨by omega, by omega⟩) dX0_raise_155 (by decide) (fun c_155 => ?_) (fun c_155 => ?_)
          · skip
            have rv := rai_v (f := f) (w := kk / 30) n0a (by omega) (show 0 ≤ kk % 30 by omega) (by omega) dga vla (fun t p q => fz t p (by omega)) (fun t p q => fr t (by omega) q)
            rw [show (kk % 30 + 30 * (kk / 30)).toNat = kk.toNat by omega] at rv
            refine lv_aload_n hx hb dX0_raise_172 rfl (lv_at hl 0 rfl) ?_
            refine lv_aload_n hx hb dX0_raise_173 rfl (lv_at hl 1 rfl) ?_
            refine t_gets E hK hV ma rfl cf_0_17 dX0_raise_174 ?_
            refine t_puts E hK hV m0 rfl cf_0_17 dX0_raise_177 (fun H locs hV => ?_)
            refine lv_aload_n hx hb dX0_raise_180 rfl (lv_at hl 0 rfl) ?_
            refine lv_aload_n hx hb dX0_raise_181 rfl (lv_at hl 0 rfl) ?_
            refine t_getd E hK hV m0 rfl cf_0_9 dX0_raise_182 ?_
            refine lv_iload hx hb dX0_raise_185 (lv_at hl 6 rfl) ?_
            refine lv_iconst (v := Int32.ofInt (1)) hx hb dX0_raise_187 (by decide) ?_
            refine g_isub hx hb dX0_raise_188 ?_
            refine t_ald (z := ((((nn a) + (kk / 30)) + 1) - 1)) (v := f ((((nn a) + (kk / 30)) + 1) - 1)) hx hb hK hV m0 rfl (congrFun (va_up_self _ _ _) _) rfl (by omega) (by omega) dX0_raise_189 ?_
            refine g_if_ne (tgt := 200) hx hb ⟨by have := (rv.1 (nn a + kk / 30 + 1 - 1) (by omega) (by omega)).1; omega, by have := (rv.1 (nn a + kk / 30 + 1 - 1) (by omega) (by omega)).2; omega⟩ dX0_raise_190 (by decide) (fun c_190 => ?_) (fun c_190 => ?_)
            · skip
              refine lv_iload hx hb dX0_raise_200 (lv_at hl 6 rfl) ?_
              refine t_putn E hK hV m0 rfl cf_0_13 dX0_raise_202 (fun H locs hV => ?_)
              have hpost : X = X ∧ cR LB (va_up nn h0 (((nn a) + (kk / 30)) + 1)) (va_up ss h0 (ss a)) ll (va_up gg h0 f) (va_up v h0 (v a * 2 ^ kk.toNat)) := ⟨rfl, by
                    have tt := num1_top (s := ss a) (V := v a * 2 ^ kk.toNat) (f := f) (k := (ll h0)) (top := nn a + kk / 30 + 1) (by omega) (by omega) (by omega) rv.1 (by rw [sg_p2]; exact sga) (by rw [rv.2, abs_p2]) (fun _ => by
                      have h1 := num1_ge NA (by omega)
                      have h2 : (1073741824 : Int) ^ (kk / 30).toNat ≤ 2 ^ kk.toNat := by
                        rw [p30, show kk.toNat = 30 * (kk / 30).toNat + (kk % 30).toNat by omega, Int.pow_add]
                        have p1 := i_p2 (30 * (kk / 30).toNat)
                        have p2 := i_p2 (kk % 30).toNat
                        have h9 : (2 : Int) ^ (30 * (kk / 30).toNat) * 1 ≤ 2 ^ (30 * (kk / 30).toNat) * 2 ^ (kk % 30).toNat := Int.mul_le_mul_of_nonneg_left (by omega) (by omega)
                        omega
                      have h3 := mul_big h1 (Int.le_refl (1073741824 ^ (kk / 30).toNat))
                      have h4 : ((v a).natAbs : Int) * 1073741824 ^ (kk / 30).toNat ≤ ((v a).natAbs : Int) * 2 ^ kk.toNat := Int.mul_le_mul_of_nonneg_left h2 (by omega)
                      rw [abs_p2, show (nn a + kk / 30 + 1 - 2).toNat = (nn a - 1).toNat + (kk / 30).toNat by omega]
                      omega)
                    have h := cR_up (h0 := h0) hN (by first | exact tt.1 c_190 | exact tt.2 c_190)
                    first
                    | exact h
                    | (rw [va_up_id] at h; exact h)
                    | (simp only [va_up_id] at h ⊢; exact h)⟩
              exact c_vret hx hb hr hK hV hpost dX0_raise_205 hlocks
            · skip
              refine lv_iload hx hb dX0_raise_193 (lv_at hl 6 rfl) ?_
              refine lv_iconst (v := Int32.ofInt (1)) hx hb dX0_raise_195 (by decide) ?_
              refine g_isub hx hb dX0_raise_196 ?_
              refine lv_goto (tgt := 202) hx hb dX0_raise_197 (by decide) ?_
              refine t_putn E hK hV m0 rfl cf_0_13 dX0_raise_202 (fun H locs hV => ?_)
              have hpost : X = X ∧ cR LB (va_up nn h0 ((((nn a) + (kk / 30)) + 1) - 1)) (va_up ss h0 (ss a)) ll (va_up gg h0 f) (va_up v h0 (v a * 2 ^ kk.toNat)) := ⟨rfl, by
                    have tt := num1_top (s := ss a) (V := v a * 2 ^ kk.toNat) (f := f) (k := (ll h0)) (top := nn a + kk / 30 + 1) (by omega) (by omega) (by omega) rv.1 (by rw [sg_p2]; exact sga) (by rw [rv.2, abs_p2]) (fun _ => by
                      have h1 := num1_ge NA (by omega)
                      have h2 : (1073741824 : Int) ^ (kk / 30).toNat ≤ 2 ^ kk.toNat := by
                        rw [p30, show kk.toNat = 30 * (kk / 30).toNat + (kk % 30).toNat by omega, Int.pow_add]
                        have p1 := i_p2 (30 * (kk / 30).toNat)
                        have p2 := i_p2 (kk % 30).toNat
                        have h9 : (2 : Int) ^ (30 * (kk / 30).toNat) * 1 ≤ 2 ^ (30 * (kk / 30).toNat) * 2 ^ (kk % 30).toNat := Int.mul_le_mul_of_nonneg_left (by omega) (by omega)
                        omega
                      have h3 := mul_big h1 (Int.le_refl (1073741824 ^ (kk / 30).toNat))
                      have h4 : ((v a).natAbs : Int) * 1073741824 ^ (kk / 30).toNat ≤ ((v a).natAbs : Int) * 2 ^ kk.toNat := Int.mul_le_mul_of_nonneg_left h2 (by omega)
                      rw [abs_p2, show (nn a + kk / 30 + 1 - 2).toNat = (nn a - 1).toNat + (kk / 30).toNat by omega]
                      omega)
                    have h := cR_up (h0 := h0) hN (by first | exact tt.1 c_190 | exact tt.2 c_190)
                    first
                    | exact h
                    | (rw [va_up_id] at h; exact h)
                    | (simp only [va_up_id] at h ⊢; exact h)⟩
              exact c_vret hx hb hr hK hV hpost dX0_raise_205 hlocks
          · skip
            refine lv_aload_n hx hb dX0_raise_158 rfl (lv_at hl 0 rfl) ?_
            refine t_getd E hK hV m0 rfl cf_0_9 dX0_raise_159 ?_
            refine lv_iload hx hb dX0_raise_162 (lv_at hl 7 rfl) ?_
            refine lv_iconst (v := Int32.ofInt (0)) hx hb dX0_raise_164 (by decide) ?_
            refine t_ast (z := i) (v := 0) (gf := (va_up gg h0 (iup f i 0))) hx hb hK hV m0 rfl ((congrArg (fun q => va_up (va_up gg h0 f) h0 (iup q i 0)) (va_up_self _ _ _)).trans (va_up_up _ _ _ _)) rfl (by omega) (by omega) dX0_raise_165 (fun H locs hV => ?_)
            refine g_iinc (k := 7) (z := i) (n := (1)) (lv' := [(7, Iz (i + 1)), (0, .ref h0), (1, .ref a), (2, Iz (kk)), (3, Iz (kk / 30)), (4, Iz (kk % 30)), (5, Iz (nn a)), (6, Iz (((nn a) + (kk / 30)) + 1))]) hx hb dX0_raise_166 hl rfl (by decide) rfl (fun ls hl => ?_)
            refine lv_goto (tgt := 152) hx hb dX0_raise_169 (by decide) ?_
            exact ih_152 _ (by omega) _ _ _ ⟨(iup f i 0), (i + 1), rfl, (by omega), (by omega), (fun t p q => by by_cases u : t = i; (· subst u; exact iup_self); (· rw [iup_ne u]; exact fz t p (by omega))), (fun t p q => by rw [iup_ne (by omega)]; exact fr t p q), hV, lv_sub hl [1, 2, 3, 4, 5, 6, 7, 0] rfl⟩
        · skip
          have i0_ : 0 ≤ i := by omega
          have xr := ex_bd (n := (nn a)) (i := i) dga i0_
          have hT := i_p2 (kk % 30).toNat
          have hU := i_p2 (30 - kk % 30).toNat
          have hB := TU30 (r := kk % 30) (by omega) (by omega)
          refine r_join (P := fun z : Int => z = (ex (gg a) (nn a) i * 2 ^ (kk % 30).toNat) % 1073741824) (g := fun z => F0 m 105 ls [Iz z]) (fun hi hhi => ?_) (fun k_105 => ?_)
          · skip
            have hi_ := hi_bd (x := ex (gg a) (nn a) i) hT hU hB
            rw [← hhi] at hi_
            refine lv_istore (lv' := [(8, Iz (hi)), (0, .ref h0), (1, .ref a), (2, Iz (kk)), (3, Iz (kk / 30)), (4, Iz (kk % 30)), (5, Iz (nn a)), (6, Iz (((nn a) + (kk / 30)) + 1)), (7, Iz (i))]) hx hb dX0_raise_105 hl (by decide) rfl (fun ls hl => ?_)
            refine lv_aload_n hx hb dX0_raise_107 rfl (lv_at hl 1 rfl) ?_
            refine t_getd E hK hV m0 rfl cf_0_9 dX0_raise_108 ?_
            refine lv_iload hx hb dX0_raise_111 (lv_at hl 8 rfl) ?_
            refine lv_iload_n hx hb dX0_raise_113 rfl (lv_at hl 4 rfl) ?_
            refine g_iadd hx hb dX0_raise_114 ?_
            refine lv_iload hx hb dX0_raise_115 (lv_at hl 0 rfl) ?_
            refine r_join (P := fun z : Int => z = (if 0 < i then ex (gg a) (nn a) (i - 1) else 0) / 2 ^ (30 - kk % 30).toNat) (g := fun z => F0 m 141 ls [Iz z, Iz (hi), Iz (i + (kk / 30)), .ref (dd h0)]) (fun lo hlo => ?_) (fun k_141 => ?_)
            · skip
              have lo_ : 0 ≤ lo ∧ lo < 2 ^ (kk % 30).toNat := by
                rw [hlo]
                split
                · have e := ex_bd (n := (nn a)) (i := i - 1) dga (by omega); exact lo_bd e.1 e.2 hU hB
                · rw [Int.zero_ediv]; omega
              have el : 2 ^ (kk % 30).toNat = 2 ^ (kk % 30).toNat := rfl
              refine g_ior hx hb (im_or' (k := (kk % 30).toNat) lo_.1 lo_.2 hi_.1 hi_.2.2 (by omega)) dX0_raise_141 ?_
              refine t_ast (z := (i + (kk / 30))) (v := (hi + lo)) (gf := (va_up gg h0 (iup f (i + (kk / 30)) (hi + lo)))) hx hb hK hV m0 rfl ((congrArg (fun q => va_up (va_up gg h0 f) h0 (iup q (i + (kk / 30)) (hi + lo))) (va_up_self _ _ _)).trans (va_up_up _ _ _ _)) rfl (by omega) (by omega) dX0_raise_142 (fun H locs hV => ?_)
              refine g_iinc (k := 8) (z := i) (n := (-1)) (lv' := [(7, Iz (i + (-1))), (8, Iz (hi)), (0, .ref h0), (1, .ref a), (2, Iz (kk)), (3, Iz (kk / 30)), (4, Iz (kk % 30)), (5, Iz (nn a)), (6, Iz (((nn a) + (kk / 30)) + 1))]) hx hb dX0_raise_143 hl rfl (by decide) rfl (fun ls hl => ?_)
              refine lv_goto (tgt := 76) hx hb dX0_raise_146 (by decide) ?_
              exact ih_76 _ (by omega) _ _ _ ⟨(iup f (i + (kk / 30)) (hi + lo)), (i + (-1)), rfl, (by omega), (by omega), (fun t p q => by by_cases u : t = i; (· subst u; rw [iup_self, hhi, hlo]; rfl); (· rw [iup_ne (by omega)]; exact fr t (by omega) q)), hV, lv_sub hl [2, 3, 4, 5, 6, 7, 8, 0] rfl⟩
            · skip
              refine lv_iload hx hb dX0_raise_117 (lv_at hl 8 rfl) ?_
              refine g_if_le (tgt := 140) hx hb ⟨by omega, by omega⟩ dX0_raise_119 (by decide) (fun c_119 => ?_) (fun c_119 => ?_)
              · skip
                refine lv_iconst (v := Int32.ofInt (0)) hx hb dX0_raise_140 (by decide) ?_
                exact k_141 _ (by first | (rw [if_pos (by omega)]; unfold ex; rw [if_pos (by omega)]) | (rw [if_neg (by omega), Int.zero_ediv]))
              · skip
                refine lv_aload_n hx hb dX0_raise_122 rfl (lv_at hl 2 rfl) ?_
                refine t_getd E hK hV ma rfl cf_0_9 dX0_raise_123 ?_
                refine lv_iload hx hb dX0_raise_126 (lv_at hl 8 rfl) ?_
                refine lv_iconst (v := Int32.ofInt (1)) hx hb dX0_raise_128 (by decide) ?_
                refine g_isub hx hb dX0_raise_129 ?_
                refine t_ald (z := (i - 1)) (v := gg a (i - 1)) hx hb hK hV ma rfl (congrFun ((va_up_ne _ _ (Ne.symm na)).trans rfl) _) rfl (by omega) (by omega) dX0_raise_130 ?_
                refine lv_bipush (v := Int32.ofInt (30)) hx hb dX0_raise_131 (by decide) ?_
                refine lv_iload hx hb dX0_raise_133 (lv_at hl 5 rfl) ?_
                refine g_isub hx hb dX0_raise_135 ?_
                refine g_iushr hx hb (by have := (dga (i - 1) (by omega) (by omega)).1; omega) (by have := (dga (i - 1) (by omega) (by omega)).2; omega) (by omega) (by omega) dX0_raise_136 ?_
                refine lv_goto (tgt := 141) hx hb dX0_raise_137 (by decide) ?_
                exact k_141 _ (by first | (rw [if_pos (by omega)]; unfold ex; rw [if_pos (by omega)]) | (rw [if_neg (by omega), Int.zero_ediv]))
          · skip
            refine lv_iload hx hb dX0_raise_81 (lv_at hl 7 rfl) ?_
            refine lv_iload hx hb dX0_raise_83 (lv_at hl 5 rfl) ?_
            refine g_icmp_ge (tgt := 104) hx hb ⟨by omega, by omega⟩ ⟨by omega, by omega⟩ dX0_raise_85 (by decide) (fun c_85 => ?_) (fun c_85 => ?_)
            · skip
              refine lv_iconst (v := Int32.ofInt (0)) hx hb dX0_raise_104 (by decide) ?_
              exact k_105 _ (by unfold ex; first | rw [if_pos (by omega)] | (rw [if_neg (by omega), Int.zero_mul]; rfl))
            · skip
              refine lv_aload_n hx hb dX0_raise_88 rfl (lv_at hl 1 rfl) ?_
              refine t_getd E hK hV ma rfl cf_0_9 dX0_raise_89 ?_
              refine lv_iload hx hb dX0_raise_92 (lv_at hl 7 rfl) ?_
              refine t_ald (z := i) (v := gg a i) hx hb hK hV ma rfl (congrFun ((va_up_ne _ _ (Ne.symm na)).trans rfl) _) rfl (by omega) (by omega) dX0_raise_94 ?_
              refine lv_iload hx hb dX0_raise_95 (lv_at hl 4 rfl) ?_
              refine g_ishl hx hb (by omega) (by omega) dX0_raise_97 ?_
              refine lv_ldc (v := Int32.ofInt (1073741823)) hx hb hown (hts _ (List.mem_cons_of_mem _ ck_X0_59)) dX0_raise_98 ?_
              refine g_iand30 hx hb dX0_raise_100 ?_
              refine lv_goto (tgt := 105) hx hb dX0_raise_101 (by decide) ?_
              exact k_105 _ (by unfold ex; first | rw [if_pos (by omega)] | (rw [if_neg (by omega), Int.zero_mul]; rfl))
      · skip
        refine lv_aload_n hx hb dX0_raise_57 rfl (lv_at hl 4 rfl) ?_
        refine lv_aload_n hx hb dX0_raise_58 rfl (lv_at hl 4 rfl) ?_
        refine t_getd E hK hV m0 rfl cf_0_9 dX0_raise_59 ?_
        refine lv_iconst (v := Int32.ofInt (2)) hx hb dX0_raise_62 (by decide) ?_
        refine lv_iload hx hb dX0_raise_63 (lv_at hl 0 rfl) ?_
        refine g_imul hx hb dX0_raise_65 ?_
        refine c_copyOf (rest := [.ref h0]) E (c_cwS 2 hts cl_X0_42 ct_J7_copyOf_59c91 cn_RJ7 cc_J7_copyOf_59c91 rfl rfl (by decide +kernel) ⟨Nat.le_of_ble_eq_true rfl, Nat.le_of_ble_eq_true rfl⟩) hK hV hA hR hl.1 (Nat.le_of_ble_eq_true rfl) m0 rfl rfl rfl (by omega) (by omega) dX0_raise_66 (fun q66 H locs hV => ?_)
        refine t_putd E hK hV m0 rfl rfl rfl (by omega) (by omega) cf_0_9 dX0_raise_69 (fun H locs hV => ?_)
        have kl : nn a + kk / 30 + 1 ≤ ((((2 * (((nn a) + (kk / 30)) + 1)).toNat) : Nat) : Int) := by omega
        have k5 : 5 ≤ ((((2 * (((nn a) + (kk / 30)) + 1)).toNat) : Nat) : Int) := by omega
        refine lv_iload hx hb dX0_raise_72 (lv_at hl 1 rfl) ?_
        refine lv_istore (lv' := [(7, Iz (nn a)), (6, Iz (((nn a) + (kk / 30)) + 1)), (5, Iz (nn a)), (4, Iz (kk % 30)), (3, Iz (kk / 30)), (0, .ref h0), (1, .ref a), (2, Iz (kk))]) hx hb dX0_raise_74 hl (by decide) rfl (fun ls hl => ?_)
        refine r_loop (P := fun N_ H locs ls => ∃ f : Int → Int, ∃ i : Int, N_ = (i + 1).toNat ∧ (-1 ≤ i) ∧ (i ≤ nn a) ∧ (∀ t : Int, i < t → t ≤ nn a → f (t + kk / 30) = rdg (gg a) (nn a) (2 ^ (kk % 30).toNat) (2 ^ (30 - kk % 30).toNat) t) ∧ cV dC dI cx LB (va_A (bW (cx 0) LB dd nn ss ll gg X) s.heap.size) s.heap ll X (va_up dd h0 q66) nn ss (va_up ll h0 ((2 * (((nn a) + (kk / 30)) + 1)).toNat)) (va_up gg h0 f) H locs ∧ lv_has ls 9 [(0, .ref h0), (1, .ref a), (2, Iz (kk)), (3, Iz (kk / 30)), (4, Iz (kk % 30)), (5, Iz (nn a)), (6, Iz (((nn a) + (kk / 30)) + 1)), (7, Iz (i))]) (g := fun ls => F0 m 76 ls []) (fun N_ H locs ls hI ih_76 => ?_) _ _ _ _ ⟨(cpf (gg h0) (fun _ => 0) (ll h0)), (nn a), rfl, (by omega), (Int.le_refl _), (fun t p q => by omega), hV, lv_sub hl [5, 6, 7, 4, 3, 2, 1, 0] rfl⟩
        obtain ⟨f, i, rfl, i0, i1, fr, hV, hl⟩ := hI
        refine lv_iload hx hb dX0_raise_76 (lv_at hl 7 rfl) ?_
        refine g_if_lt (tgt := 149) hx hb ⟨by omega, by omega⟩ dX0_raise_78 (by decide) (fun c_78 => ?_) (fun c_78 => ?_)
        · skip
          refine lv_iconst (v := Int32.ofInt (0)) hx hb dX0_raise_149 (by decide) ?_
          refine lv_istore (lv' := [(7, Iz (0)), (0, .ref h0), (1, .ref a), (2, Iz (kk)), (3, Iz (kk / 30)), (4, Iz (kk % 30)), (5, Iz (nn a)), (6, Iz (((nn a) + (kk / 30)) + 1))]) hx hb dX0_raise_150 hl (by decide) rfl (fun ls hl => ?_)
          refine r_loop (P := fun N_ H locs ls => ∃ f : Int → Int, ∃ i : Int, N_ = (kk / 30 - i).toNat ∧ (0 ≤ i) ∧ (i ≤ kk / 30) ∧ (∀ t : Int, 0 ≤ t → t < i → f t = 0) ∧ (∀ t : Int, -1 < t → t ≤ nn a → f (t + kk / 30) = rdg (gg a) (nn a) (2 ^ (kk % 30).toNat) (2 ^ (30 - kk % 30).toNat) t) ∧ cV dC dI cx LB (va_A (bW (cx 0) LB dd nn ss ll gg X) s.heap.size) s.heap ll X (va_up dd h0 q66) nn ss (va_up ll h0 ((2 * (((nn a) + (kk / 30)) + 1)).toNat)) (va_up gg h0 f) H locs ∧ lv_has ls 9 [(0, .ref h0), (1, .ref a), (2, Iz (kk)), (3, Iz (kk / 30)), (4, Iz (kk % 30)), (5, Iz (nn a)), (6, Iz (((nn a) + (kk / 30)) + 1)), (7, Iz (i))]) (g := fun ls => F0 m 152 ls []) (fun N_ H locs ls hI ih_152 => ?_) _ _ _ _ ⟨f, 0, rfl, (Int.le_refl 0), (by omega), (fun t p q => by omega), (fun t p q => fr t (by omega) q), hV, lv_sub hl [1, 2, 3, 4, 5, 6, 7, 0] rfl⟩
          obtain ⟨f, i, rfl, i0, i1, fz, fr, hV, hl⟩ := hI
          refine lv_iload hx hb dX0_raise_152 (lv_at hl 7 rfl) ?_
          refine lv_iload_n hx hb dX0_raise_154 rfl (lv_at hl 3 rfl) ?_
          refine g_icmp_ge (tgt := 172) hx hb (by first | assumption | exact ⟨by omega, by omega⟩) (by first | assumption | exact ⟨by omega, by omega⟩) dX0_raise_155 (by decide) (fun c_155 => ?_) (fun c_155 => ?_)
          · skip
            have rv := rai_v (f := f) (w := kk / 30) n0a (by omega) (show 0 ≤ kk % 30 by omega) (by omega) dga vla (fun t p q => fz t p (by omega)) (fun t p q => fr t (by omega) q)
            rw [show (kk % 30 + 30 * (kk / 30)).toNat = kk.toNat by omega] at rv
            refine lv_aload_n hx hb dX0_raise_172 rfl (lv_at hl 0 rfl) ?_
            refine lv_aload_n hx hb dX0_raise_173 rfl (lv_at hl 1 rfl) ?_
            refine t_gets E hK hV ma rfl cf_0_17 dX0_raise_174 ?_
            refine t_puts E hK hV m0 rfl cf_0_17 dX0_raise_177 (fun H locs hV => ?_)
            refine lv_aload_n hx hb dX0_raise_180 rfl (lv_at hl 0 rfl) ?_
            refine lv_aload_n hx hb dX0_raise_181 rfl (lv_at hl 0 rfl) ?_
            refine t_getd E hK hV m0 (va_up_self _ _ _) cf_0_9 dX0_raise_182 ?_
            refine lv_iload hx hb dX0_raise_185 (lv_at hl 6 rfl) ?_
            refine lv_iconst (v := Int32.ofInt (1)) hx hb dX0_raise_187 (by decide) ?_
            refine g_isub hx hb dX0_raise_188 ?_
            refine t_ald (z := ((((nn a) + (kk / 30)) + 1) - 1)) (v := f ((((nn a) + (kk / 30)) + 1) - 1)) hx hb hK hV m0 (va_up_self _ _ _) (congrFun (va_up_self _ _ _) _) (va_up_self _ _ _) (by omega) (by omega) dX0_raise_189 ?_
            refine g_if_ne (tgt := 200) hx hb ⟨by have := (rv.1 (nn a + kk / 30 + 1 - 1) (by omega) (by omega)).1; omega, by have := (rv.1 (nn a + kk / 30 + 1 - 1) (by omega) (by omega)).2; omega⟩ dX0_raise_190 (by decide) (fun c_190 => ?_) (fun c_190 => ?_)
            · skip
              refine lv_iload hx hb dX0_raise_200 (lv_at hl 6 rfl) ?_
              refine t_putn E hK hV m0 rfl cf_0_13 dX0_raise_202 (fun H locs hV => ?_)
              have hpost : X = X ∧ cR LB (va_up nn h0 (((nn a) + (kk / 30)) + 1)) (va_up ss h0 (ss a)) (va_up ll h0 ((2 * (((nn a) + (kk / 30)) + 1)).toNat)) (va_up gg h0 f) (va_up v h0 (v a * 2 ^ kk.toNat)) := ⟨rfl, by
                    have tt := num1_top (s := ss a) (V := v a * 2 ^ kk.toNat) (f := f) (k := ((2 * (((nn a) + (kk / 30)) + 1)).toNat)) (top := nn a + kk / 30 + 1) (by omega) (by omega) (by omega) rv.1 (by rw [sg_p2]; exact sga) (by rw [rv.2, abs_p2]) (fun _ => by
                      have h1 := num1_ge NA (by omega)
                      have h2 : (1073741824 : Int) ^ (kk / 30).toNat ≤ 2 ^ kk.toNat := by
                        rw [p30, show kk.toNat = 30 * (kk / 30).toNat + (kk % 30).toNat by omega, Int.pow_add]
                        have p1 := i_p2 (30 * (kk / 30).toNat)
                        have p2 := i_p2 (kk % 30).toNat
                        have h9 : (2 : Int) ^ (30 * (kk / 30).toNat) * 1 ≤ 2 ^ (30 * (kk / 30).toNat) * 2 ^ (kk % 30).toNat := Int.mul_le_mul_of_nonneg_left (by omega) (by omega)
                        omega
                      have h3 := mul_big h1 (Int.le_refl (1073741824 ^ (kk / 30).toNat))
                      have h4 : ((v a).natAbs : Int) * 1073741824 ^ (kk / 30).toNat ≤ ((v a).natAbs : Int) * 2 ^ kk.toNat := Int.mul_le_mul_of_nonneg_left h2 (by omega)
                      rw [abs_p2, show (nn a + kk / 30 + 1 - 2).toNat = (nn a - 1).toNat + (kk / 30).toNat by omega]
                      omega)
                    have h := cR_up (h0 := h0) hN (by first | exact tt.1 c_190 | exact tt.2 c_190)
                    first
                    | exact h
                    | (rw [va_up_id] at h; exact h)
                    | (simp only [va_up_id] at h ⊢; exact h)⟩
              exact c_vret hx hb hr hK hV hpost dX0_raise_205 hlocks
            · skip
              refine lv_iload hx hb dX0_raise_193 (lv_at hl 6 rfl) ?_
              refine lv_iconst (v := Int32.ofInt (1)) hx hb dX0_raise_195 (by decide) ?_
              refine g_isub hx hb dX0_raise_196 ?_
              refine lv_goto (tgt := 202) hx hb dX0_raise_197 (by decide) ?_
              refine t_putn E hK hV m0 rfl cf_0_13 dX0_raise_202 (fun H locs hV => ?_)
              have hpost : X = X ∧ cR LB (va_up nn h0 ((((nn a) + (kk / 30)) + 1) - 1)) (va_up ss h0 (ss a)) (va_up ll h0 ((2 * (((nn a) + (kk / 30)) + 1)).toNat)) (va_up gg h0 f) (va_up v h0 (v a * 2 ^ kk.toNat)) := ⟨rfl, by
                    have tt := num1_top (s := ss a) (V := v a * 2 ^ kk.toNat) (f := f) (k := ((2 * (((nn a) + (kk / 30)) + 1)).toNat)) (top := nn a + kk / 30 + 1) (by omega) (by omega) (by omega) rv.1 (by rw [sg_p2]; exact sga) (by rw [rv.2, abs_p2]) (fun _ => by
                      have h1 := num1_ge NA (by omega)
                      have h2 : (1073741824 : Int) ^ (kk / 30).toNat ≤ 2 ^ kk.toNat := by
                        rw [p30, show kk.toNat = 30 * (kk / 30).toNat + (kk % 30).toNat by omega, Int.pow_add]
                        have p1 := i_p2 (30 * (kk / 30).toNat)
                        have p2 := i_p2 (kk % 30).toNat
                        have h9 : (2 : Int) ^ (30 * (kk / 30).toNat) * 1 ≤ 2 ^ (30 * (kk / 30).toNat) * 2 ^ (kk % 30).toNat := Int.mul_le_mul_of_nonneg_left (by omega) (by omega)
                        omega
                      have h3 := mul_big h1 (Int.le_refl (1073741824 ^ (kk / 30).toNat))
                      have h4 : ((v a).natAbs : Int) * 1073741824 ^ (kk / 30).toNat ≤ ((v a).natAbs : Int) * 2 ^ kk.toNat := Int.mul_le_mul_of_nonneg_left h2 (by omega)
                      rw [abs_p2, show (nn a + kk / 30 + 1 - 2).toNat = (nn a - 1).toNat + (kk / 30).toNat by omega]
                      omega)
                    have h := cR_up (h0 := h0) hN (by first | exact tt.1 c_190 | exact tt.2 c_190)
                    first
                    | exact h
                    | (rw [va_up_id] at h; exact h)
                    | (simp only [va_up_id] at h ⊢; exact h)⟩
              exact c_vret hx hb hr hK hV hpost dX0_raise_205 hlocks
          · skip
            refine lv_aload_n hx hb dX0_raise_158 rfl (lv_at hl 0 rfl) ?_
            refine t_getd E hK hV m0 (va_up_self _ _ _) cf_0_9 dX0_raise_159 ?_
            refine lv_iload hx hb dX0_raise_162 (lv_at hl 7 rfl) ?_
            refine lv_iconst (v := Int32.ofInt (0)) hx hb dX0_raise_164 (by decide) ?_
            refine t_ast (z := i) (v := 0) (gf := (va_up gg h0 (iup f i 0))) hx hb hK hV m0 (va_up_self _ _ _) ((congrArg (fun q => va_up (va_up gg h0 f) h0 (iup q i 0)) (va_up_self _ _ _)).trans (va_up_up _ _ _ _)) (va_up_self _ _ _) (by omega) (by omega) dX0_raise_165 (fun H locs hV => ?_)
            refine g_iinc (k := 7) (z := i) (n := (1)) (lv' := [(7, Iz (i + 1)), (0, .ref h0), (1, .ref a), (2, Iz (kk)), (3, Iz (kk / 30)), (4, Iz (kk % 30)), (5, Iz (nn a)), (6, Iz (((nn a) + (kk / 30)) + 1))]) hx hb dX0_raise_166 hl rfl (by decide) rfl (fun ls hl => ?_)
            refine lv_goto (tgt := 152) hx hb dX0_raise_169 (by decide) ?_
            exact ih_152 _ (by omega) _ _ _ ⟨(iup f i 0), (i + 1), rfl, (by omega), (by omega), (fun t p q => by by_cases u : t = i; (· subst u; exact iup_self); (· rw [iup_ne u]; exact fz t p (by omega))), (fun t p q => by rw [iup_ne (by omega)]; exact fr t p q), hV, lv_sub hl [1, 2, 3, 4, 5, 6, 7, 0] rfl⟩
        · skip
          have i0_ : 0 ≤ i := by omega
          have xr := ex_bd (n := (nn a)) (i := i) dga i0_
          have hT := i_p2 (kk % 30).toNat
          have hU := i_p2 (30 - kk % 30).toNat
          have hB := TU30 (r := kk % 30) (by omega) (by omega)
          refine r_join (P := fun z : Int => z = (ex (gg a) (nn a) i * 2 ^ (kk % 30).toNat) % 1073741824) (g := fun z => F0 m 105 ls [Iz z]) (fun hi hhi => ?_) (fun k_105 => ?_)
          · skip
            have hi_ := hi_bd (x := ex (gg a) (nn a) i) hT hU hB
            rw [← hhi] at hi_
            refine lv_istore (lv' := [(8, Iz (hi)), (0, .ref h0), (1, .ref a), (2, Iz (kk)), (3, Iz (kk / 30)), (4, Iz (kk % 30)), (5, Iz (nn a)), (6, Iz (((nn a) + (kk / 30)) + 1)), (7, Iz (i))]) hx hb dX0_raise_105 hl (by decide) rfl (fun ls hl => ?_)
            refine lv_aload_n hx hb dX0_raise_107 rfl (lv_at hl 1 rfl) ?_
            refine t_getd E hK hV m0 (va_up_self _ _ _) cf_0_9 dX0_raise_108 ?_
            refine lv_iload hx hb dX0_raise_111 (lv_at hl 8 rfl) ?_
            refine lv_iload_n hx hb dX0_raise_113 rfl (lv_at hl 4 rfl) ?_
            refine g_iadd hx hb dX0_raise_114 ?_
            refine lv_iload hx hb dX0_raise_115 (lv_at hl 0 rfl) ?_
            refine r_join (P := fun z : Int => z = (if 0 < i then ex (gg a) (nn a) (i - 1) else 0) / 2 ^ (30 - kk % 30).toNat) (g := fun z => F0 m 141 ls [Iz z, Iz (hi), Iz (i + (kk / 30)), .ref q66]) (fun lo hlo => ?_) (fun k_141 => ?_)
            · skip
              have lo_ : 0 ≤ lo ∧ lo < 2 ^ (kk % 30).toNat := by
                rw [hlo]
                split
                · have e := ex_bd (n := (nn a)) (i := i - 1) dga (by omega); exact lo_bd e.1 e.2 hU hB
                · rw [Int.zero_ediv]; omega
              have el : 2 ^ (kk % 30).toNat = 2 ^ (kk % 30).toNat := rfl
              refine g_ior hx hb (im_or' (k := (kk % 30).toNat) lo_.1 lo_.2 hi_.1 hi_.2.2 (by omega)) dX0_raise_141 ?_
              refine t_ast (z := (i + (kk / 30))) (v := (hi + lo)) (gf := (va_up gg h0 (iup f (i + (kk / 30)) (hi + lo)))) hx hb hK hV m0 (va_up_self _ _ _) ((congrArg (fun q => va_up (va_up gg h0 f) h0 (iup q (i + (kk / 30)) (hi + lo))) (va_up_self _ _ _)).trans (va_up_up _ _ _ _)) (va_up_self _ _ _) (by omega) (by omega) dX0_raise_142 (fun H locs hV => ?_)
              refine g_iinc (k := 8) (z := i) (n := (-1)) (lv' := [(7, Iz (i + (-1))), (8, Iz (hi)), (0, .ref h0), (1, .ref a), (2, Iz (kk)), (3, Iz (kk / 30)), (4, Iz (kk % 30)), (5, Iz (nn a)), (6, Iz (((nn a) + (kk / 30)) + 1))]) hx hb dX0_raise_143 hl rfl (by decide) rfl (fun ls hl => ?_)
              refine lv_goto (tgt := 76) hx hb dX0_raise_146 (by decide) ?_
              exact ih_76 _ (by omega) _ _ _ ⟨(iup f (i + (kk / 30)) (hi + lo)), (i + (-1)), rfl, (by omega), (by omega), (fun t p q => by by_cases u : t = i; (· subst u; rw [iup_self, hhi, hlo]; rfl); (· rw [iup_ne (by omega)]; exact fr t (by omega) q)), hV, lv_sub hl [2, 3, 4, 5, 6, 7, 8, 0] rfl⟩
            · skip
              refine lv_iload hx hb dX0_raise_117 (lv_at hl 8 rfl) ?_
              refine g_if_le (tgt := 140) hx hb ⟨by omega, by omega⟩ dX0_raise_119 (by decide) (fun c_119 => ?_) (fun c_119 => ?_)
              · skip
                refine lv_iconst (v := Int32.ofInt (0)) hx hb dX0_raise_140 (by decide) ?_
                exact k_141 _ (by first | (rw [if_pos (by omega)]; unfold ex; rw [if_pos (by omega)]) | (rw [if_neg (by omega), Int.zero_ediv]))
              · skip
                refine lv_aload_n hx hb dX0_raise_122 rfl (lv_at hl 2 rfl) ?_
                refine t_getd E hK hV ma ((va_up_ne _ _ (Ne.symm na)).trans rfl) cf_0_9 dX0_raise_123 ?_
                refine lv_iload hx hb dX0_raise_126 (lv_at hl 8 rfl) ?_
                refine lv_iconst (v := Int32.ofInt (1)) hx hb dX0_raise_128 (by decide) ?_
                refine g_isub hx hb dX0_raise_129 ?_
                refine t_ald (z := (i - 1)) (v := gg a (i - 1)) hx hb hK hV ma ((va_up_ne _ _ (Ne.symm na)).trans rfl) (congrFun ((va_up_ne _ _ (Ne.symm na)).trans rfl) _) ((va_up_ne _ _ (Ne.symm na)).trans rfl) (by omega) (by omega) dX0_raise_130 ?_
                refine lv_bipush (v := Int32.ofInt (30)) hx hb dX0_raise_131 (by decide) ?_
                refine lv_iload hx hb dX0_raise_133 (lv_at hl 5 rfl) ?_
                refine g_isub hx hb dX0_raise_135 ?_
                refine g_iushr hx hb (by have := (dga (i - 1) (by omega) (by omega)).1; omega) (by have := (dga (i - 1) (by omega) (by omega)).2; omega) (by omega) (by omega) dX0_raise_136 ?_
                refine lv_goto (tgt := 141) hx hb dX0_raise_137 (by decide) ?_
                exact k_141 _ (by first | (rw [if_pos (by omega)]; unfold ex; rw [if_pos (by omega)]) | (rw [if_neg (by omega), Int.zero_ediv]))
          · skip
            refine lv_iload hx hb dX0_raise_81 (lv_at hl 7 rfl) ?_
            refine lv_iload hx hb dX0_raise_83 (lv_at hl 5 rfl) ?_
            refine g_icmp_ge (tgt := 104) hx hb ⟨by omega, by omega⟩ ⟨by omega, by omega⟩ dX0_raise_85 (by decide) (fun c_85 => ?_) (fun c_85 => ?_)
            · skip
              refine lv_iconst (v := Int32.ofInt (0)) hx hb dX0_raise_104 (by decide) ?_
              exact k_105 _ (by unfold ex; first | rw [if_pos (by omega)] | (rw [if_neg (by omega), Int.zero_mul]; rfl))
            · skip
              refine lv_aload_n hx hb dX0_raise_88 rfl (lv_at hl 1 rfl) ?_
              refine t_getd E hK hV ma ((va_up_ne _ _ (Ne.symm na)).trans rfl) cf_0_9 dX0_raise_89 ?_
              refine lv_iload hx hb dX0_raise_92 (lv_at hl 7 rfl) ?_
              refine t_ald (z := i) (v := gg a i) hx hb hK hV ma ((va_up_ne _ _ (Ne.symm na)).trans rfl) (congrFun ((va_up_ne _ _ (Ne.symm na)).trans rfl) _) ((va_up_ne _ _ (Ne.symm na)).trans rfl) (by omega) (by omega) dX0_raise_94 ?_
              refine lv_iload hx hb dX0_raise_95 (lv_at hl 4 rfl) ?_
              refine g_ishl hx hb (by omega) (by omega) dX0_raise_97 ?_
              refine lv_ldc (v := Int32.ofInt (1073741823)) hx hb hown (hts _ (List.mem_cons_of_mem _ ck_X0_59)) dX0_raise_98 ?_
              refine g_iand30 hx hb dX0_raise_100 ?_
              refine lv_goto (tgt := 105) hx hb dX0_raise_101 (by decide) ?_
              exact k_105 _ (by unfold ex; first | rw [if_pos (by omega)] | (rw [if_neg (by omega), Int.zero_mul]; rfl))
    · omega
set_option maxHeartbeats 4000000 in
set_option maxRecDepth 100000 in
theorem k0_raiseS {l : Launch} {dC : Nat → ClassId} {dI : Nat → Nat → Nat} {cx : Nat → Nat} {LB : List Nat} {X : va_W} {dd : Nat → Nat} {nn ss : Nat → Int} {ll : Nat → Nat} {gg : Nat → Int → Int} {H0 : Heap} {v : Nat → Int} {h0 : Nat} {kk : Int} (m0 : h0 ∈ LB) (hN : cR LB nn ss ll gg v) (k0 : 0 ≤ kk) (k1 : nn h0 + kk / 30 ≤ 198) : Met l yX0_raise (Cond.code yX0_raise cX0_raise 9 none :: w0c) (cRm 2 62 LB ll) (cPc dC dI cx LB X dd nn ss ll gg H0 [.ref h0, .ref h0, Iz (kk)]) (cQv dC dI cx LB (va_A (bW (cx 0) LB dd nn ss ll gg X) H0.size) ll H0 (fun X' dd' nn' ss' ll' gg' => X' = X ∧ cR LB nn' ss' ll' gg' (va_up v h0 (v h0 * 2 ^ kk.toNat)))) (cMc LB ll) (2 * cMc LB ll) (va_A (bW (cx 0) LB dd nn ss ll gg X) H0.size) := by
  refine Met.ofW (cc := cX0_raise) (maxL := 9) (ret := none) (by decide) rfl ?_
  intro p e s m args below meth c s₁ B hml hv
  obtain ⟨rfl, hH0, hP, hK, hD0, hC0⟩ := hv
  have hx := B.exec
  have hb := B.bytes
  have hr := B.returns
  have hts := atoms_spec (ws := Cond.code yX0_raise cX0_raise 9 none :: w0c) B.pre
  have hown : s.vm.findClass RX0 = some m.cls := findClass_of_methodNamed B.named
  have hlocks := B.notSynchronized
  have E : CallFix p m c cX0_raise 9 s _ (Cond.code yX0_raise cX0_raise 9 none :: w0c) RX0 := ⟨hx, hb, hml, hown, hts⟩
  subst hH0
  have hD := va_D.self (sz := s.heap.size) hD0
  have hA : ∀ q : Nat, s.heap.size ≤ q → va_A (bW (cx 0) LB dd nn ss ll gg X) s.heap.size q := fun q h => Or.inr h
  have hV : cV dC dI cx LB (va_A (bW (cx 0) LB dd nn ss ll gg X) s.heap.size) s.heap ll X dd nn ss ll gg s.heap [] := ⟨hP, hD, va_S.rf, fun _ _ => Nat.le_refl _, hC0⟩
  have hR : (headSpec (Cond.code yX0_raise cX0_raise 9 none :: w0c) (cRm 2 62 LB ll)).room.cells = cMc LB ll ∧ (headSpec (Cond.code yX0_raise cX0_raise 9 none :: w0c) (cRm 2 62 LB ll)).room.slots = 2 * cMc LB ll := ⟨rfl, rfl⟩
  refine W.widen (k := cP LB ll - cP LB ll) (n := 2 * (cP LB ll - cP LB ll)) (Nat.zero_le _) (Nat.zero_le _) ?_
  have hl := lv_entry ([.ref h0, .ref h0, Iz (kk)]) (n := 9) (Nat.le_of_ble_eq_true rfl)
  rw [lg_entry_eq]
  generalize (lg_sl ([.ref h0, .ref h0, Iz (kk)]) ++ List.replicate (9 - (lg_sl ([.ref h0, .ref h0, Iz (kk)])).length) Slot.unset).toArray = ls at hl ⊢
  have hl : lv_has ls 9 [(0, .ref h0), (1, .ref h0), (2, Iz (kk))] := hl
  have N0 := hN h0 m0
  obtain ⟨n0_, n1_, k5_, dg_, tp_, sg_, vl_⟩ := hN h0 m0
  have c4_ := (hC0 h0 m0).2
  have sb_ := sg_bd (v h0)
  have kq : kk = 30 * (kk / 30) + kk % 30 := by omega
  refine lv_aload_n hx hb dX0_raise_0 rfl (lv_at hl 1 rfl) ?_
  refine t_getn E hK hV m0 rfl cf_0_13 dX0_raise_1 ?_
  refine g_if_eq (tgt := 11) hx hb ⟨by omega, by omega⟩ dX0_raise_4 (by decide) (fun c_4 => ?_) (fun c_4 => ?_)
  · skip
    refine lv_aload_n hx hb dX0_raise_11 rfl (lv_at hl 0 rfl) ?_
    refine lv_iconst (v := Int32.ofInt (0)) hx hb dX0_raise_12 (by decide) ?_
    refine t_putn E hK hV m0 rfl cf_0_13 dX0_raise_13 (fun H locs hV => ?_)
    refine lv_aload_n hx hb dX0_raise_16 rfl (lv_at hl 0 rfl) ?_
    refine lv_iconst (v := Int32.ofInt (0)) hx hb dX0_raise_17 (by decide) ?_
    refine t_puts E hK hV m0 rfl cf_0_17 dX0_raise_18 (fun H locs hV => ?_)
    have hpost : X = X ∧ cR LB (va_up nn h0 0) (va_up ss h0 0) ll gg (va_up v h0 (v h0 * 2 ^ kk.toNat)) := ⟨rfl, by
          have h := cR_up (h0 := h0) hN (show num1 0 0 (ll h0) (gg h0) (v h0 * 2 ^ kk.toNat) from ⟨Int.le_refl 0, by omega, k5_, kb_d_zero _, fun h => absurd h (by decide), by rw [(num1_zero N0).mp c_4, Int.zero_mul]; rfl, by rw [(num1_zero N0).mp c_4, Int.zero_mul]; rfl⟩)
          rw [va_up_id, va_up_id] at h
          exact h⟩
    exact c_vret hx hb hr hK hV hpost dX0_raise_21 hlocks
  · skip
    refine lv_iload_n hx hb dX0_raise_7 rfl (lv_at hl 2 rfl) ?_
    refine g_if_ge (tgt := 22) hx hb ⟨by omega, by omega⟩ dX0_raise_8 (by decide) (fun c_8 => ?_) (fun c_8 => ?_)
    · skip
      refine lv_iload_n hx hb dX0_raise_22 rfl (lv_at hl 2 rfl) ?_
      refine lv_bipush (v := Int32.ofInt (30)) hx hb dX0_raise_23 (by decide) ?_
      refine g_idiv hx hb (by omega) (by omega) (by omega) (by omega) dX0_raise_25 ?_
      refine lv_istore_n (lv' := [(3, Iz (kk / 30)), (0, .ref h0), (1, .ref h0), (2, Iz (kk))]) hx hb dX0_raise_26 rfl hl (by decide) rfl (fun ls hl => ?_)
      refine lv_iload_n hx hb dX0_raise_27 rfl (lv_at hl 3 rfl) ?_
      refine lv_bipush (v := Int32.ofInt (30)) hx hb dX0_raise_28 (by decide) ?_
      refine g_irem hx hb (by omega) (by omega) (by omega) (by omega) dX0_raise_30 ?_
      refine lv_istore (lv' := [(4, Iz (kk % 30)), (3, Iz (kk / 30)), (0, .ref h0), (1, .ref h0), (2, Iz (kk))]) hx hb dX0_raise_31 hl (by decide) rfl (fun ls hl => ?_)
      refine lv_aload_n hx hb dX0_raise_33 rfl (lv_at hl 3 rfl) ?_
      refine t_getn E hK hV m0 rfl cf_0_13 dX0_raise_34 ?_
      refine lv_istore (lv' := [(5, Iz (nn h0)), (4, Iz (kk % 30)), (3, Iz (kk / 30)), (0, .ref h0), (1, .ref h0), (2, Iz (kk))]) hx hb dX0_raise_37 hl (by decide) rfl (fun ls hl => ?_)
      refine lv_iload hx hb dX0_raise_39 (lv_at hl 0 rfl) ?_
      refine lv_iload_n hx hb dX0_raise_41 rfl (lv_at hl 2 rfl) ?_
      refine g_iadd hx hb dX0_raise_42 ?_
      refine lv_iconst (v := Int32.ofInt (1)) hx hb dX0_raise_43 (by decide) ?_
      refine g_iadd hx hb dX0_raise_44 ?_
      refine lv_istore (lv' := [(6, Iz (((nn h0) + (kk / 30)) + 1)), (5, Iz (nn h0)), (4, Iz (kk % 30)), (3, Iz (kk / 30)), (0, .ref h0), (1, .ref h0), (2, Iz (kk))]) hx hb dX0_raise_45 hl (by decide) rfl (fun ls hl => ?_)
      refine lv_iload hx hb dX0_raise_47 (lv_at hl 0 rfl) ?_
      refine lv_aload_n hx hb dX0_raise_49 rfl (lv_at hl 4 rfl) ?_
      refine t_getd E hK hV m0 rfl cf_0_9 dX0_raise_50 ?_
      refine t_len hx hb hK hV m0 rfl rfl dX0_raise_53 ?_
      refine g_icmp_le (tgt := 72) hx hb (by first | assumption | exact ⟨by omega, by omega⟩) (by first | assumption | exact ⟨by omega, by omega⟩) dX0_raise_54 (by decide) (fun c_54 => ?_) (fun c_54 => ?_)
      · skip
        have kl : nn h0 + kk / 30 + 1 ≤ (((ll h0) : Nat) : Int) := by omega
        have k5 : 5 ≤ (((ll h0) : Nat) : Int) := by omega
        refine lv_iload hx hb dX0_raise_72 (lv_at hl 1 rfl) ?_
        refine lv_istore (lv' := [(7, Iz (nn h0)), (6, Iz (((nn h0) + (kk / 30)) + 1)), (5, Iz (nn h0)), (4, Iz (kk % 30)), (3, Iz (kk / 30)), (0, .ref h0), (1, .ref h0), (2, Iz (kk))]) hx hb dX0_raise_74 hl (by decide) rfl (fun ls hl => ?_)
        have hV := cV_nor hV (va_up_id gg h0).symm
        refine r_loop (P := fun N_ H locs ls => ∃ f : Int → Int, ∃ i : Int, N_ = (i + 1).toNat ∧ (-1 ≤ i) ∧ (i ≤ nn h0) ∧ (∀ t : Int, i < t → t ≤ nn h0 → f (t + kk / 30) = rdg (gg h0) (nn h0) (2 ^ (kk % 30).toNat) (2 ^ (30 - kk % 30).toNat) t) ∧ (∀ t : Int, 0 ≤ t → t < nn h0 → t < i + 1 + kk / 30 → f t = gg h0 t) ∧ cV dC dI cx LB (va_A (bW (cx 0) LB dd nn ss ll gg X) s.heap.size) s.heap ll X dd nn ss ll (va_up gg h0 f) H locs ∧ lv_has ls 9 [(0, .ref h0), (1, .ref h0), (2, Iz (kk)), (3, Iz (kk / 30)), (4, Iz (kk % 30)), (5, Iz (nn h0)), (6, Iz (((nn h0) + (kk / 30)) + 1)), (7, Iz (i))]) (g := fun ls => F0 m 76 ls []) (fun N_ H locs ls hI ih_76 => ?_) _ _ _ _ ⟨(gg h0), (nn h0), rfl, (by omega), (Int.le_refl _), (fun t p q => by omega), (fun t p q r => by first | rfl | exact if_pos (by omega)), hV, lv_sub hl [5, 6, 7, 4, 3, 2, 1, 0] rfl⟩
        obtain ⟨f, i, rfl, i0, i1, fr, hs, hV, hl⟩ := hI
        refine lv_iload hx hb dX0_raise_76 (lv_at hl 7 rfl) ?_
        refine g_if_lt (tgt := 149) hx hb ⟨by omega, by omega⟩ dX0_raise_78 (by decide) (fun c_78 => ?_) (fun c_78 => ?_)
        · skip
          refine lv_iconst (v := Int32.ofInt (0)) hx hb dX0_raise_149 (by decide) ?_
          refine lv_istore (lv' := [(7, Iz (0)), (0, .ref h0), (1, .ref h0), (2, Iz (kk)), (3, Iz (kk / 30)), (4, Iz (kk % 30)), (5, Iz (nn h0)), (6, Iz (((nn h0) + (kk / 30)) + 1))]) hx hb dX0_raise_150 hl (by decide) rfl (fun ls hl => ?_)
          refine r_loop (P := fun N_ H locs ls => ∃ f : Int → Int, ∃ i : Int, N_ = (kk / 30 - i).toNat ∧ (0 ≤ i) ∧ (i ≤ kk / 30) ∧ (∀ t : Int, 0 ≤ t → t < i → f t = 0) ∧ (∀ t : Int, -1 < t → t ≤ nn h0 → f (t + kk / 30) = rdg (gg h0) (nn h0) (2 ^ (kk % 30).toNat) (2 ^ (30 - kk % 30).toNat) t) ∧ cV dC dI cx LB (va_A (bW (cx 0) LB dd nn ss ll gg X) s.heap.size) s.heap ll X dd nn ss ll (va_up gg h0 f) H locs ∧ lv_has ls 9 [(0, .ref h0), (1, .ref h0), (2, Iz (kk)), (3, Iz (kk / 30)), (4, Iz (kk % 30)), (5, Iz (nn h0)), (6, Iz (((nn h0) + (kk / 30)) + 1)), (7, Iz (i))]) (g := fun ls => F0 m 152 ls []) (fun N_ H locs ls hI ih_152 => ?_) _ _ _ _ ⟨f, 0, rfl, (Int.le_refl 0), (by omega), (fun t p q => by omega), (fun t p q => fr t (by omega) q), hV, lv_sub hl [1, 2, 3, 4, 5, 6, 7, 0] rfl⟩
          obtain ⟨f, i, rfl, i0, i1, fz, fr, hV, hl⟩ := hI
          refine lv_iload hx hb dX0_raise_152 (lv_at hl 7 rfl) ?_
          refine lv_iload_n hx hb dX0_raise_154 rfl (lv_at hl 3 rfl) ?_
          refine g_icmp_ge (tgt := 172) hx hb (by first | assumption | exact ⟨by omega, by omega⟩) (by first | assumption | exact ⟨by omega, by omega⟩) dX0_raise_155 (by decide) (fun c_155 => ?_) (fun c_155 => ?_)
          · skip
            have rv := rai_v (f := f) (w := kk / 30) n0_ (by omega) (show 0 ≤ kk % 30 by omega) (by omega) dg_ vl_ (fun t p q => fz t p (by omega)) (fun t p q => fr t (by omega) q)
            rw [show (kk % 30 + 30 * (kk / 30)).toNat = kk.toNat by omega] at rv
            refine lv_aload_n hx hb dX0_raise_172 rfl (lv_at hl 0 rfl) ?_
            refine lv_aload_n hx hb dX0_raise_173 rfl (lv_at hl 1 rfl) ?_
            refine t_gets E hK hV m0 rfl cf_0_17 dX0_raise_174 ?_
            refine t_puts E hK hV m0 rfl cf_0_17 dX0_raise_177 (fun H locs hV => ?_)
            refine lv_aload_n hx hb dX0_raise_180 rfl (lv_at hl 0 rfl) ?_
            refine lv_aload_n hx hb dX0_raise_181 rfl (lv_at hl 0 rfl) ?_
            refine t_getd E hK hV m0 rfl cf_0_9 dX0_raise_182 ?_
            refine lv_iload hx hb dX0_raise_185 (lv_at hl 6 rfl) ?_
            refine lv_iconst (v := Int32.ofInt (1)) hx hb dX0_raise_187 (by decide) ?_
            refine g_isub hx hb dX0_raise_188 ?_
            refine t_ald (z := ((((nn h0) + (kk / 30)) + 1) - 1)) (v := f ((((nn h0) + (kk / 30)) + 1) - 1)) hx hb hK hV m0 rfl (congrFun (va_up_self _ _ _) _) rfl (by omega) (by omega) dX0_raise_189 ?_
            refine g_if_ne (tgt := 200) hx hb ⟨by have := (rv.1 (nn h0 + kk / 30 + 1 - 1) (by omega) (by omega)).1; omega, by have := (rv.1 (nn h0 + kk / 30 + 1 - 1) (by omega) (by omega)).2; omega⟩ dX0_raise_190 (by decide) (fun c_190 => ?_) (fun c_190 => ?_)
            · skip
              refine lv_iload hx hb dX0_raise_200 (lv_at hl 6 rfl) ?_
              refine t_putn E hK hV m0 rfl cf_0_13 dX0_raise_202 (fun H locs hV => ?_)
              have hpost : X = X ∧ cR LB (va_up nn h0 (((nn h0) + (kk / 30)) + 1)) (va_up ss h0 (ss h0)) ll (va_up gg h0 f) (va_up v h0 (v h0 * 2 ^ kk.toNat)) := ⟨rfl, by
                    have tt := num1_top (s := ss h0) (V := v h0 * 2 ^ kk.toNat) (f := f) (k := (ll h0)) (top := nn h0 + kk / 30 + 1) (by omega) (by omega) (by omega) rv.1 (by rw [sg_p2]; exact sg_) (by rw [rv.2, abs_p2]) (fun _ => by
                      have h1 := num1_ge N0 (by omega)
                      have h2 : (1073741824 : Int) ^ (kk / 30).toNat ≤ 2 ^ kk.toNat := by
                        rw [p30, show kk.toNat = 30 * (kk / 30).toNat + (kk % 30).toNat by omega, Int.pow_add]
                        have p1 := i_p2 (30 * (kk / 30).toNat)
                        have p2 := i_p2 (kk % 30).toNat
                        have h9 : (2 : Int) ^ (30 * (kk / 30).toNat) * 1 ≤ 2 ^ (30 * (kk / 30).toNat) * 2 ^ (kk % 30).toNat := Int.mul_le_mul_of_nonneg_left (by omega) (by omega)
                        omega
                      have h3 := mul_big h1 (Int.le_refl (1073741824 ^ (kk / 30).toNat))
                      have h4 : ((v h0).natAbs : Int) * 1073741824 ^ (kk / 30).toNat ≤ ((v h0).natAbs : Int) * 2 ^ kk.toNat := Int.mul_le_mul_of_nonneg_left h2 (by omega)
                      rw [abs_p2, show (nn h0 + kk / 30 + 1 - 2).toNat = (nn h0 - 1).toNat + (kk / 30).toNat by omega]
                      omega)
                    have h := cR_up (h0 := h0) hN (by first | exact tt.1 c_190 | exact tt.2 c_190)
                    first
                    | exact h
                    | (rw [va_up_id] at h; exact h)
                    | (simp only [va_up_id] at h ⊢; exact h)⟩
              exact c_vret hx hb hr hK hV hpost dX0_raise_205 hlocks
            · skip
              refine lv_iload hx hb dX0_raise_193 (lv_at hl 6 rfl) ?_
              refine lv_iconst (v := Int32.ofInt (1)) hx hb dX0_raise_195 (by decide) ?_
              refine g_isub hx hb dX0_raise_196 ?_
              refine lv_goto (tgt := 202) hx hb dX0_raise_197 (by decide) ?_
              refine t_putn E hK hV m0 rfl cf_0_13 dX0_raise_202 (fun H locs hV => ?_)
              have hpost : X = X ∧ cR LB (va_up nn h0 ((((nn h0) + (kk / 30)) + 1) - 1)) (va_up ss h0 (ss h0)) ll (va_up gg h0 f) (va_up v h0 (v h0 * 2 ^ kk.toNat)) := ⟨rfl, by
                    have tt := num1_top (s := ss h0) (V := v h0 * 2 ^ kk.toNat) (f := f) (k := (ll h0)) (top := nn h0 + kk / 30 + 1) (by omega) (by omega) (by omega) rv.1 (by rw [sg_p2]; exact sg_) (by rw [rv.2, abs_p2]) (fun _ => by
                      have h1 := num1_ge N0 (by omega)
                      have h2 : (1073741824 : Int) ^ (kk / 30).toNat ≤ 2 ^ kk.toNat := by
                        rw [p30, show kk.toNat = 30 * (kk / 30).toNat + (kk % 30).toNat by omega, Int.pow_add]
                        have p1 := i_p2 (30 * (kk / 30).toNat)
                        have p2 := i_p2 (kk % 30).toNat
                        have h9 : (2 : Int) ^ (30 * (kk / 30).toNat) * 1 ≤ 2 ^ (30 * (kk / 30).toNat) * 2 ^ (kk % 30).toNat := Int.mul_le_mul_of_nonneg_left (by omega) (by omega)
                        omega
                      have h3 := mul_big h1 (Int.le_refl (1073741824 ^ (kk / 30).toNat))
                      have h4 : ((v h0).natAbs : Int) * 1073741824 ^ (kk / 30).toNat ≤ ((v h0).natAbs : Int) * 2 ^ kk.toNat := Int.mul_le_mul_of_nonneg_left h2 (by omega)
                      rw [abs_p2, show (nn h0 + kk / 30 + 1 - 2).toNat = (nn h0 - 1).toNat + (kk / 30).toNat by omega]
                      omega)
                    have h := cR_up (h0 := h0) hN (by first | exact tt.1 c_190 | exact tt.2 c_190)
                    first
                    | exact h
                    | (rw [va_up_id] at h; exact h)
                    | (simp only [va_up_id] at h ⊢; exact h)⟩
              exact c_vret hx hb hr hK hV hpost dX0_raise_205 hlocks
          · skip
            refine lv_aload_n hx hb dX0_raise_158 rfl (lv_at hl 0 rfl) ?_
            refine t_getd E hK hV m0 rfl cf_0_9 dX0_raise_159 ?_
            refine lv_iload hx hb dX0_raise_162 (lv_at hl 7 rfl) ?_
            refine lv_iconst (v := Int32.ofInt (0)) hx hb dX0_raise_164 (by decide) ?_
            refine t_ast (z := i) (v := 0) (gf := (va_up gg h0 (iup f i 0))) hx hb hK hV m0 rfl ((congrArg (fun q => va_up (va_up gg h0 f) h0 (iup q i 0)) (va_up_self _ _ _)).trans (va_up_up _ _ _ _)) rfl (by omega) (by omega) dX0_raise_165 (fun H locs hV => ?_)
            refine g_iinc (k := 7) (z := i) (n := (1)) (lv' := [(7, Iz (i + 1)), (0, .ref h0), (1, .ref h0), (2, Iz (kk)), (3, Iz (kk / 30)), (4, Iz (kk % 30)), (5, Iz (nn h0)), (6, Iz (((nn h0) + (kk / 30)) + 1))]) hx hb dX0_raise_166 hl rfl (by decide) rfl (fun ls hl => ?_)
            refine lv_goto (tgt := 152) hx hb dX0_raise_169 (by decide) ?_
            exact ih_152 _ (by omega) _ _ _ ⟨(iup f i 0), (i + 1), rfl, (by omega), (by omega), (fun t p q => by by_cases u : t = i; (· subst u; exact iup_self); (· rw [iup_ne u]; exact fz t p (by omega))), (fun t p q => by rw [iup_ne (by omega)]; exact fr t p q), hV, lv_sub hl [1, 2, 3, 4, 5, 6, 7, 0] rfl⟩
        · skip
          have i0_ : 0 ≤ i := by omega
          have xr := ex_bd (n := (nn h0)) (i := i) dg_ i0_
          have hT := i_p2 (kk % 30).toNat
          have hU := i_p2 (30 - kk % 30).toNat
          have hB := TU30 (r := kk % 30) (by omega) (by omega)
          refine r_join (P := fun z : Int => z = (ex (gg h0) (nn h0) i * 2 ^ (kk % 30).toNat) % 1073741824) (g := fun z => F0 m 105 ls [Iz z]) (fun hi hhi => ?_) (fun k_105 => ?_)
          · skip
            have hi_ := hi_bd (x := ex (gg h0) (nn h0) i) hT hU hB
            rw [← hhi] at hi_
            refine lv_istore (lv' := [(8, Iz (hi)), (0, .ref h0), (1, .ref h0), (2, Iz (kk)), (3, Iz (kk / 30)), (4, Iz (kk % 30)), (5, Iz (nn h0)), (6, Iz (((nn h0) + (kk / 30)) + 1)), (7, Iz (i))]) hx hb dX0_raise_105 hl (by decide) rfl (fun ls hl => ?_)
            refine lv_aload_n hx hb dX0_raise_107 rfl (lv_at hl 1 rfl) ?_
            refine t_getd E hK hV m0 rfl cf_0_9 dX0_raise_108 ?_
            refine lv_iload hx hb dX0_raise_111 (lv_at hl 8 rfl) ?_
            refine lv_iload_n hx hb dX0_raise_113 rfl (lv_at hl 4 rfl) ?_
            refine g_iadd hx hb dX0_raise_114 ?_
            refine lv_iload hx hb dX0_raise_115 (lv_at hl 0 rfl) ?_
            refine r_join (P := fun z : Int => z = (if 0 < i then ex (gg h0) (nn h0) (i - 1) else 0) / 2 ^ (30 - kk % 30).toNat) (g := fun z => F0 m 141 ls [Iz z, Iz (hi), Iz (i + (kk / 30)), .ref (dd h0)]) (fun lo hlo => ?_) (fun k_141 => ?_)
            · skip
              have lo_ : 0 ≤ lo ∧ lo < 2 ^ (kk % 30).toNat := by
                rw [hlo]
                split
                · have e := ex_bd (n := (nn h0)) (i := i - 1) dg_ (by omega); exact lo_bd e.1 e.2 hU hB
                · rw [Int.zero_ediv]; omega
              have el : 2 ^ (kk % 30).toNat = 2 ^ (kk % 30).toNat := rfl
              refine g_ior hx hb (im_or' (k := (kk % 30).toNat) lo_.1 lo_.2 hi_.1 hi_.2.2 (by omega)) dX0_raise_141 ?_
              refine t_ast (z := (i + (kk / 30))) (v := (hi + lo)) (gf := (va_up gg h0 (iup f (i + (kk / 30)) (hi + lo)))) hx hb hK hV m0 rfl ((congrArg (fun q => va_up (va_up gg h0 f) h0 (iup q (i + (kk / 30)) (hi + lo))) (va_up_self _ _ _)).trans (va_up_up _ _ _ _)) rfl (by omega) (by omega) dX0_raise_142 (fun H locs hV => ?_)
              refine g_iinc (k := 8) (z := i) (n := (-1)) (lv' := [(7, Iz (i + (-1))), (8, Iz (hi)), (0, .ref h0), (1, .ref h0), (2, Iz (kk)), (3, Iz (kk / 30)), (4, Iz (kk % 30)), (5, Iz (nn h0)), (6, Iz (((nn h0) + (kk / 30)) + 1))]) hx hb dX0_raise_143 hl rfl (by decide) rfl (fun ls hl => ?_)
              refine lv_goto (tgt := 76) hx hb dX0_raise_146 (by decide) ?_
              exact ih_76 _ (by omega) _ _ _ ⟨(iup f (i + (kk / 30)) (hi + lo)), (i + (-1)), rfl, (by omega), (by omega), (fun t p q => by by_cases u : t = i; (· subst u; rw [iup_self, hhi, hlo]; rfl); (· rw [iup_ne (by omega)]; exact fr t (by omega) q)), (fun t p q r => by rw [iup_ne (by omega)]; exact hs t p q (by omega)), hV, lv_sub hl [2, 3, 4, 5, 6, 7, 8, 0] rfl⟩
            · skip
              refine lv_iload hx hb dX0_raise_117 (lv_at hl 8 rfl) ?_
              refine g_if_le (tgt := 140) hx hb ⟨by omega, by omega⟩ dX0_raise_119 (by decide) (fun c_119 => ?_) (fun c_119 => ?_)
              · skip
                refine lv_iconst (v := Int32.ofInt (0)) hx hb dX0_raise_140 (by decide) ?_
                exact k_141 _ (by first | (rw [if_pos (by omega)]; unfold ex; rw [if_pos (by omega)]) | (rw [if_neg (by omega), Int.zero_ediv]))
              · skip
                refine lv_aload_n hx hb dX0_raise_122 rfl (lv_at hl 2 rfl) ?_
                refine t_getd E hK hV m0 rfl cf_0_9 dX0_raise_123 ?_
                refine lv_iload hx hb dX0_raise_126 (lv_at hl 8 rfl) ?_
                refine lv_iconst (v := Int32.ofInt (1)) hx hb dX0_raise_128 (by decide) ?_
                refine g_isub hx hb dX0_raise_129 ?_
                refine t_ald (z := (i - 1)) (v := (gg h0 (i - 1))) hx hb hK hV m0 rfl ((congrFun (va_up_self _ _ _) _).trans (hs (i - 1) (by omega) (by omega) (by omega))) rfl (by omega) (by omega) dX0_raise_130 ?_
                refine lv_bipush (v := Int32.ofInt (30)) hx hb dX0_raise_131 (by decide) ?_
                refine lv_iload hx hb dX0_raise_133 (lv_at hl 5 rfl) ?_
                refine g_isub hx hb dX0_raise_135 ?_
                refine g_iushr hx hb (by have := (dg_ (i - 1) (by omega) (by omega)).1; omega) (by have := (dg_ (i - 1) (by omega) (by omega)).2; omega) (by omega) (by omega) dX0_raise_136 ?_
                refine lv_goto (tgt := 141) hx hb dX0_raise_137 (by decide) ?_
                exact k_141 _ (by first | (rw [if_pos (by omega)]; unfold ex; rw [if_pos (by omega)]) | (rw [if_neg (by omega), Int.zero_ediv]))
          · skip
            refine lv_iload hx hb dX0_raise_81 (lv_at hl 7 rfl) ?_
            refine lv_iload hx hb dX0_raise_83 (lv_at hl 5 rfl) ?_
            refine g_icmp_ge (tgt := 104) hx hb ⟨by omega, by omega⟩ ⟨by omega, by omega⟩ dX0_raise_85 (by decide) (fun c_85 => ?_) (fun c_85 => ?_)
            · skip
              refine lv_iconst (v := Int32.ofInt (0)) hx hb dX0_raise_104 (by decide) ?_
              exact k_105 _ (by unfold ex; first | rw [if_pos (by omega)] | (rw [if_neg (by omega), Int.zero_mul]; rfl))
            · skip
              refine lv_aload_n hx hb dX0_raise_88 rfl (lv_at hl 1 rfl) ?_
              refine t_getd E hK hV m0 rfl cf_0_9 dX0_raise_89 ?_
              refine lv_iload hx hb dX0_raise_92 (lv_at hl 7 rfl) ?_
              refine t_ald (z := i) (v := (gg h0 (i))) hx hb hK hV m0 rfl ((congrFun (va_up_self _ _ _) _).trans (hs (i) (by omega) (by omega) (by omega))) rfl (by omega) (by omega) dX0_raise_94 ?_
              refine lv_iload hx hb dX0_raise_95 (lv_at hl 4 rfl) ?_
              refine g_ishl hx hb (by omega) (by omega) dX0_raise_97 ?_
              refine lv_ldc (v := Int32.ofInt (1073741823)) hx hb hown (hts _ (List.mem_cons_of_mem _ ck_X0_59)) dX0_raise_98 ?_
              refine g_iand30 hx hb dX0_raise_100 ?_
              refine lv_goto (tgt := 105) hx hb dX0_raise_101 (by decide) ?_
              exact k_105 _ (by unfold ex; first | rw [if_pos (by omega)] | (rw [if_neg (by omega), Int.zero_mul]; rfl))
      · skip
        refine lv_aload_n hx hb dX0_raise_57 rfl (lv_at hl 4 rfl) ?_
        refine lv_aload_n hx hb dX0_raise_58 rfl (lv_at hl 4 rfl) ?_
        refine t_getd E hK hV m0 rfl cf_0_9 dX0_raise_59 ?_
        refine lv_iconst (v := Int32.ofInt (2)) hx hb dX0_raise_62 (by decide) ?_
        refine lv_iload hx hb dX0_raise_63 (lv_at hl 0 rfl) ?_
        refine g_imul hx hb dX0_raise_65 ?_
        refine c_copyOf (rest := [.ref h0]) E (c_cwS 2 hts cl_X0_42 ct_J7_copyOf_59c91 cn_RJ7 cc_J7_copyOf_59c91 rfl rfl (by decide +kernel) ⟨Nat.le_of_ble_eq_true rfl, Nat.le_of_ble_eq_true rfl⟩) hK hV hA hR hl.1 (Nat.le_of_ble_eq_true rfl) m0 rfl rfl rfl (by omega) (by omega) dX0_raise_66 (fun q66 H locs hV => ?_)
        refine t_putd E hK hV m0 rfl rfl rfl (by omega) (by omega) cf_0_9 dX0_raise_69 (fun H locs hV => ?_)
        have kl : nn h0 + kk / 30 + 1 ≤ ((((2 * (((nn h0) + (kk / 30)) + 1)).toNat) : Nat) : Int) := by omega
        have k5 : 5 ≤ ((((2 * (((nn h0) + (kk / 30)) + 1)).toNat) : Nat) : Int) := by omega
        refine lv_iload hx hb dX0_raise_72 (lv_at hl 1 rfl) ?_
        refine lv_istore (lv' := [(7, Iz (nn h0)), (6, Iz (((nn h0) + (kk / 30)) + 1)), (5, Iz (nn h0)), (4, Iz (kk % 30)), (3, Iz (kk / 30)), (0, .ref h0), (1, .ref h0), (2, Iz (kk))]) hx hb dX0_raise_74 hl (by decide) rfl (fun ls hl => ?_)
        refine r_loop (P := fun N_ H locs ls => ∃ f : Int → Int, ∃ i : Int, N_ = (i + 1).toNat ∧ (-1 ≤ i) ∧ (i ≤ nn h0) ∧ (∀ t : Int, i < t → t ≤ nn h0 → f (t + kk / 30) = rdg (gg h0) (nn h0) (2 ^ (kk % 30).toNat) (2 ^ (30 - kk % 30).toNat) t) ∧ (∀ t : Int, 0 ≤ t → t < nn h0 → t < i + 1 + kk / 30 → f t = gg h0 t) ∧ cV dC dI cx LB (va_A (bW (cx 0) LB dd nn ss ll gg X) s.heap.size) s.heap ll X (va_up dd h0 q66) nn ss (va_up ll h0 ((2 * (((nn h0) + (kk / 30)) + 1)).toNat)) (va_up gg h0 f) H locs ∧ lv_has ls 9 [(0, .ref h0), (1, .ref h0), (2, Iz (kk)), (3, Iz (kk / 30)), (4, Iz (kk % 30)), (5, Iz (nn h0)), (6, Iz (((nn h0) + (kk / 30)) + 1)), (7, Iz (i))]) (g := fun ls => F0 m 76 ls []) (fun N_ H locs ls hI ih_76 => ?_) _ _ _ _ ⟨(cpf (gg h0) (fun _ => 0) (ll h0)), (nn h0), rfl, (by omega), (Int.le_refl _), (fun t p q => by omega), (fun t p q r => by first | rfl | exact if_pos (by omega)), hV, lv_sub hl [5, 6, 7, 4, 3, 2, 1, 0] rfl⟩
        obtain ⟨f, i, rfl, i0, i1, fr, hs, hV, hl⟩ := hI
        refine lv_iload hx hb dX0_raise_76 (lv_at hl 7 rfl) ?_
        refine g_if_lt (tgt := 149) hx hb ⟨by omega, by omega⟩ dX0_raise_78 (by decide) (fun c_78 => ?_) (fun c_78 => ?_)
        · skip
          refine lv_iconst (v := Int32.ofInt (0)) hx hb dX0_raise_149 (by decide) ?_
          refine lv_istore (lv' := [(7, Iz (0)), (0, .ref h0), (1, .ref h0), (2, Iz (kk)), (3, Iz (kk / 30)), (4, Iz (kk % 30)), (5, Iz (nn h0)), (6, Iz (((nn h0) + (kk / 30)) + 1))]) hx hb dX0_raise_150 hl (by decide) rfl (fun ls hl => ?_)
          refine r_loop (P := fun N_ H locs ls => ∃ f : Int → Int, ∃ i : Int, N_ = (kk / 30 - i).toNat ∧ (0 ≤ i) ∧ (i ≤ kk / 30) ∧ (∀ t : Int, 0 ≤ t → t < i → f t = 0) ∧ (∀ t : Int, -1 < t → t ≤ nn h0 → f (t + kk / 30) = rdg (gg h0) (nn h0) (2 ^ (kk % 30).toNat) (2 ^ (30 - kk % 30).toNat) t) ∧ cV dC dI cx LB (va_A (bW (cx 0) LB dd nn ss ll gg X) s.heap.size) s.heap ll X (va_up dd h0 q66) nn ss (va_up ll h0 ((2 * (((nn h0) + (kk / 30)) + 1)).toNat)) (va_up gg h0 f) H locs ∧ lv_has ls 9 [(0, .ref h0), (1, .ref h0), (2, Iz (kk)), (3, Iz (kk / 30)), (4, Iz (kk % 30)), (5, Iz (nn h0)), (6, Iz (((nn h0) + (kk / 30)) + 1)), (7, Iz (i))]) (g := fun ls => F0 m 152 ls []) (fun N_ H locs ls hI ih_152 => ?_) _ _ _ _ ⟨f, 0, rfl, (Int.le_refl 0), (by omega), (fun t p q => by omega), (fun t p q => fr t (by omega) q), hV, lv_sub hl [1, 2, 3, 4, 5, 6, 7, 0] rfl⟩
          obtain ⟨f, i, rfl, i0, i1, fz, fr, hV, hl⟩ := hI
          refine lv_iload hx hb dX0_raise_152 (lv_at hl 7 rfl) ?_
          refine lv_iload_n hx hb dX0_raise_154 rfl (lv_at hl 3 rfl) ?_
          refine g_icmp_ge (tgt := 172) hx hb (by first | assumption | exact ⟨by omega, by omega⟩) (by first | assumption | exact ⟨by omega, by omega⟩) dX0_raise_155 (by decide) (fun c_155 => ?_) (fun c_155 => ?_)
          · skip
            have rv := rai_v (f := f) (w := kk / 30) n0_ (by omega) (show 0 ≤ kk % 30 by omega) (by omega) dg_ vl_ (fun t p q => fz t p (by omega)) (fun t p q => fr t (by omega) q)
            rw [show (kk % 30 + 30 * (kk / 30)).toNat = kk.toNat by omega] at rv
            refine lv_aload_n hx hb dX0_raise_172 rfl (lv_at hl 0 rfl) ?_
            refine lv_aload_n hx hb dX0_raise_173 rfl (lv_at hl 1 rfl) ?_
            refine t_gets E hK hV m0 rfl cf_0_17 dX0_raise_174 ?_
            refine t_puts E hK hV m0 rfl cf_0_17 dX0_raise_177 (fun H locs hV => ?_)
            refine lv_aload_n hx hb dX0_raise_180 rfl (lv_at hl 0 rfl) ?_
            refine lv_aload_n hx hb dX0_raise_181 rfl (lv_at hl 0 rfl) ?_
            refine t_getd E hK hV m0 (va_up_self _ _ _) cf_0_9 dX0_raise_182 ?_
            refine lv_iload hx hb dX0_raise_185 (lv_at hl 6 rfl) ?_
            refine lv_iconst (v := Int32.ofInt (1)) hx hb dX0_raise_187 (by decide) ?_
            refine g_isub hx hb dX0_raise_188 ?_
            refine t_ald (z := ((((nn h0) + (kk / 30)) + 1) - 1)) (v := f ((((nn h0) + (kk / 30)) + 1) - 1)) hx hb hK hV m0 (va_up_self _ _ _) (congrFun (va_up_self _ _ _) _) (va_up_self _ _ _) (by omega) (by omega) dX0_raise_189 ?_
            refine g_if_ne (tgt := 200) hx hb ⟨by have := (rv.1 (nn h0 + kk / 30 + 1 - 1) (by omega) (by omega)).1; omega, by have := (rv.1 (nn h0 + kk / 30 + 1 - 1) (by omega) (by omega)).2; omega⟩ dX0_raise_190 (by decide) (fun c_190 => ?_) (fun c_190 => ?_)
            · skip
              refine lv_iload hx hb dX0_raise_200 (lv_at hl 6 rfl) ?_
              refine t_putn E hK hV m0 rfl cf_0_13 dX0_raise_202 (fun H locs hV => ?_)
              have hpost : X = X ∧ cR LB (va_up nn h0 (((nn h0) + (kk / 30)) + 1)) (va_up ss h0 (ss h0)) (va_up ll h0 ((2 * (((nn h0) + (kk / 30)) + 1)).toNat)) (va_up gg h0 f) (va_up v h0 (v h0 * 2 ^ kk.toNat)) := ⟨rfl, by
                    have tt := num1_top (s := ss h0) (V := v h0 * 2 ^ kk.toNat) (f := f) (k := ((2 * (((nn h0) + (kk / 30)) + 1)).toNat)) (top := nn h0 + kk / 30 + 1) (by omega) (by omega) (by omega) rv.1 (by rw [sg_p2]; exact sg_) (by rw [rv.2, abs_p2]) (fun _ => by
                      have h1 := num1_ge N0 (by omega)
                      have h2 : (1073741824 : Int) ^ (kk / 30).toNat ≤ 2 ^ kk.toNat := by
                        rw [p30, show kk.toNat = 30 * (kk / 30).toNat + (kk % 30).toNat by omega, Int.pow_add]
                        have p1 := i_p2 (30 * (kk / 30).toNat)
                        have p2 := i_p2 (kk % 30).toNat
                        have h9 : (2 : Int) ^ (30 * (kk / 30).toNat) * 1 ≤ 2 ^ (30 * (kk / 30).toNat) * 2 ^ (kk % 30).toNat := Int.mul_le_mul_of_nonneg_left (by omega) (by omega)
                        omega
                      have h3 := mul_big h1 (Int.le_refl (1073741824 ^ (kk / 30).toNat))
                      have h4 : ((v h0).natAbs : Int) * 1073741824 ^ (kk / 30).toNat ≤ ((v h0).natAbs : Int) * 2 ^ kk.toNat := Int.mul_le_mul_of_nonneg_left h2 (by omega)
                      rw [abs_p2, show (nn h0 + kk / 30 + 1 - 2).toNat = (nn h0 - 1).toNat + (kk / 30).toNat by omega]
                      omega)
                    have h := cR_up (h0 := h0) hN (by first | exact tt.1 c_190 | exact tt.2 c_190)
                    first
                    | exact h
                    | (rw [va_up_id] at h; exact h)
                    | (simp only [va_up_id] at h ⊢; exact h)⟩
              exact c_vret hx hb hr hK hV hpost dX0_raise_205 hlocks
            · skip
              refine lv_iload hx hb dX0_raise_193 (lv_at hl 6 rfl) ?_
              refine lv_iconst (v := Int32.ofInt (1)) hx hb dX0_raise_195 (by decide) ?_
              refine g_isub hx hb dX0_raise_196 ?_
              refine lv_goto (tgt := 202) hx hb dX0_raise_197 (by decide) ?_
              refine t_putn E hK hV m0 rfl cf_0_13 dX0_raise_202 (fun H locs hV => ?_)
              have hpost : X = X ∧ cR LB (va_up nn h0 ((((nn h0) + (kk / 30)) + 1) - 1)) (va_up ss h0 (ss h0)) (va_up ll h0 ((2 * (((nn h0) + (kk / 30)) + 1)).toNat)) (va_up gg h0 f) (va_up v h0 (v h0 * 2 ^ kk.toNat)) := ⟨rfl, by
                    have tt := num1_top (s := ss h0) (V := v h0 * 2 ^ kk.toNat) (f := f) (k := ((2 * (((nn h0) + (kk / 30)) + 1)).toNat)) (top := nn h0 + kk / 30 + 1) (by omega) (by omega) (by omega) rv.1 (by rw [sg_p2]; exact sg_) (by rw [rv.2, abs_p2]) (fun _ => by
                      have h1 := num1_ge N0 (by omega)
                      have h2 : (1073741824 : Int) ^ (kk / 30).toNat ≤ 2 ^ kk.toNat := by
                        rw [p30, show kk.toNat = 30 * (kk / 30).toNat + (kk % 30).toNat by omega, Int.pow_add]
                        have p1 := i_p2 (30 * (kk / 30).toNat)
                        have p2 := i_p2 (kk % 30).toNat
                        have h9 : (2 : Int) ^ (30 * (kk / 30).toNat) * 1 ≤ 2 ^ (30 * (kk / 30).toNat) * 2 ^ (kk % 30).toNat := Int.mul_le_mul_of_nonneg_left (by omega) (by omega)
                        omega
                      have h3 := mul_big h1 (Int.le_refl (1073741824 ^ (kk / 30).toNat))
                      have h4 : ((v h0).natAbs : Int) * 1073741824 ^ (kk / 30).toNat ≤ ((v h0).natAbs : Int) * 2 ^ kk.toNat := Int.mul_le_mul_of_nonneg_left h2 (by omega)
                      rw [abs_p2, show (nn h0 + kk / 30 + 1 - 2).toNat = (nn h0 - 1).toNat + (kk / 30).toNat by omega]
                      omega)
                    have h := cR_up (h0 := h0) hN (by first | exact tt.1 c_190 | exact tt.2 c_190)
                    first
                    | exact h
                    | (rw [va_up_id] at h; exact h)
                    | (simp only [va_up_id] at h ⊢; exact h)⟩
              exact c_vret hx hb hr hK hV hpost dX0_raise_205 hlocks
          · skip
            refine lv_aload_n hx hb dX0_raise_158 rfl (lv_at hl 0 rfl) ?_
            refine t_getd E hK hV m0 (va_up_self _ _ _) cf_0_9 dX0_raise_159 ?_
            refine lv_iload hx hb dX0_raise_162 (lv_at hl 7 rfl) ?_
            refine lv_iconst (v := Int32.ofInt (0)) hx hb dX0_raise_164 (by decide) ?_
            refine t_ast (z := i) (v := 0) (gf := (va_up gg h0 (iup f i 0))) hx hb hK hV m0 (va_up_self _ _ _) ((congrArg (fun q => va_up (va_up gg h0 f) h0 (iup q i 0)) (va_up_self _ _ _)).trans (va_up_up _ _ _ _)) (va_up_self _ _ _) (by omega) (by omega) dX0_raise_165 (fun H locs hV => ?_)
            refine g_iinc (k := 7) (z := i) (n := (1)) (lv' := [(7, Iz (i + 1)), (0, .ref h0), (1, .ref h0), (2, Iz (kk)), (3, Iz (kk / 30)), (4, Iz (kk % 30)), (5, Iz (nn h0)), (6, Iz (((nn h0) + (kk / 30)) + 1))]) hx hb dX0_raise_166 hl rfl (by decide) rfl (fun ls hl => ?_)
            refine lv_goto (tgt := 152) hx hb dX0_raise_169 (by decide) ?_
            exact ih_152 _ (by omega) _ _ _ ⟨(iup f i 0), (i + 1), rfl, (by omega), (by omega), (fun t p q => by by_cases u : t = i; (· subst u; exact iup_self); (· rw [iup_ne u]; exact fz t p (by omega))), (fun t p q => by rw [iup_ne (by omega)]; exact fr t p q), hV, lv_sub hl [1, 2, 3, 4, 5, 6, 7, 0] rfl⟩
        · skip
          have i0_ : 0 ≤ i := by omega
          have xr := ex_bd (n := (nn h0)) (i := i) dg_ i0_
          have hT := i_p2 (kk % 30).toNat
          have hU := i_p2 (30 - kk % 30).toNat
          have hB := TU30 (r := kk % 30) (by omega) (by omega)
          refine r_join (P := fun z : Int => z = (ex (gg h0) (nn h0) i * 2 ^ (kk % 30).toNat) % 1073741824) (g := fun z => F0 m 105 ls [Iz z]) (fun hi hhi => ?_) (fun k_105 => ?_)
          · skip
            have hi_ := hi_bd (x := ex (gg h0) (nn h0) i) hT hU hB
            rw [← hhi] at hi_
            refine lv_istore (lv' := [(8, Iz (hi)), (0, .ref h0), (1, .ref h0), (2, Iz (kk)), (3, Iz (kk / 30)), (4, Iz (kk % 30)), (5, Iz (nn h0)), (6, Iz (((nn h0) + (kk / 30)) + 1)), (7, Iz (i))]) hx hb dX0_raise_105 hl (by decide) rfl (fun ls hl => ?_)
            refine lv_aload_n hx hb dX0_raise_107 rfl (lv_at hl 1 rfl) ?_
            refine t_getd E hK hV m0 (va_up_self _ _ _) cf_0_9 dX0_raise_108 ?_
            refine lv_iload hx hb dX0_raise_111 (lv_at hl 8 rfl) ?_
            refine lv_iload_n hx hb dX0_raise_113 rfl (lv_at hl 4 rfl) ?_
            refine g_iadd hx hb dX0_raise_114 ?_
            refine lv_iload hx hb dX0_raise_115 (lv_at hl 0 rfl) ?_
            refine r_join (P := fun z : Int => z = (if 0 < i then ex (gg h0) (nn h0) (i - 1) else 0) / 2 ^ (30 - kk % 30).toNat) (g := fun z => F0 m 141 ls [Iz z, Iz (hi), Iz (i + (kk / 30)), .ref q66]) (fun lo hlo => ?_) (fun k_141 => ?_)
            · skip
              have lo_ : 0 ≤ lo ∧ lo < 2 ^ (kk % 30).toNat := by
                rw [hlo]
                split
                · have e := ex_bd (n := (nn h0)) (i := i - 1) dg_ (by omega); exact lo_bd e.1 e.2 hU hB
                · rw [Int.zero_ediv]; omega
              have el : 2 ^ (kk % 30).toNat = 2 ^ (kk % 30).toNat := rfl
              refine g_ior hx hb (im_or' (k := (kk % 30).toNat) lo_.1 lo_.2 hi_.1 hi_.2.2 (by omega)) dX0_raise_141 ?_
              refine t_ast (z := (i + (kk / 30))) (v := (hi + lo)) (gf := (va_up gg h0 (iup f (i + (kk / 30)) (hi + lo)))) hx hb hK hV m0 (va_up_self _ _ _) ((congrArg (fun q => va_up (va_up gg h0 f) h0 (iup q (i + (kk / 30)) (hi + lo))) (va_up_self _ _ _)).trans (va_up_up _ _ _ _)) (va_up_self _ _ _) (by omega) (by omega) dX0_raise_142 (fun H locs hV => ?_)
              refine g_iinc (k := 8) (z := i) (n := (-1)) (lv' := [(7, Iz (i + (-1))), (8, Iz (hi)), (0, .ref h0), (1, .ref h0), (2, Iz (kk)), (3, Iz (kk / 30)), (4, Iz (kk % 30)), (5, Iz (nn h0)), (6, Iz (((nn h0) + (kk / 30)) + 1))]) hx hb dX0_raise_143 hl rfl (by decide) rfl (fun ls hl => ?_)
              refine lv_goto (tgt := 76) hx hb dX0_raise_146 (by decide) ?_
              exact ih_76 _ (by omega) _ _ _ ⟨(iup f (i + (kk / 30)) (hi + lo)), (i + (-1)), rfl, (by omega), (by omega), (fun t p q => by by_cases u : t = i; (· subst u; rw [iup_self, hhi, hlo]; rfl); (· rw [iup_ne (by omega)]; exact fr t (by omega) q)), (fun t p q r => by rw [iup_ne (by omega)]; exact hs t p q (by omega)), hV, lv_sub hl [2, 3, 4, 5, 6, 7, 8, 0] rfl⟩
            · skip
              refine lv_iload hx hb dX0_raise_117 (lv_at hl 8 rfl) ?_
              refine g_if_le (tgt := 140) hx hb ⟨by omega, by omega⟩ dX0_raise_119 (by decide) (fun c_119 => ?_) (fun c_119 => ?_)
              · skip
                refine lv_iconst (v := Int32.ofInt (0)) hx hb dX0_raise_140 (by decide) ?_
                exact k_141 _ (by first | (rw [if_pos (by omega)]; unfold ex; rw [if_pos (by omega)]) | (rw [if_neg (by omega), Int.zero_ediv]))
              · skip
                refine lv_aload_n hx hb dX0_raise_122 rfl (lv_at hl 2 rfl) ?_
                refine t_getd E hK hV m0 (va_up_self _ _ _) cf_0_9 dX0_raise_123 ?_
                refine lv_iload hx hb dX0_raise_126 (lv_at hl 8 rfl) ?_
                refine lv_iconst (v := Int32.ofInt (1)) hx hb dX0_raise_128 (by decide) ?_
                refine g_isub hx hb dX0_raise_129 ?_
                refine t_ald (z := (i - 1)) (v := (gg h0 (i - 1))) hx hb hK hV m0 (va_up_self _ _ _) ((congrFun (va_up_self _ _ _) _).trans (hs (i - 1) (by omega) (by omega) (by omega))) (va_up_self _ _ _) (by omega) (by omega) dX0_raise_130 ?_
                refine lv_bipush (v := Int32.ofInt (30)) hx hb dX0_raise_131 (by decide) ?_
                refine lv_iload hx hb dX0_raise_133 (lv_at hl 5 rfl) ?_
                refine g_isub hx hb dX0_raise_135 ?_
                refine g_iushr hx hb (by have := (dg_ (i - 1) (by omega) (by omega)).1; omega) (by have := (dg_ (i - 1) (by omega) (by omega)).2; omega) (by omega) (by omega) dX0_raise_136 ?_
                refine lv_goto (tgt := 141) hx hb dX0_raise_137 (by decide) ?_
                exact k_141 _ (by first | (rw [if_pos (by omega)]; unfold ex; rw [if_pos (by omega)]) | (rw [if_neg (by omega), Int.zero_ediv]))
          · skip
            refine lv_iload hx hb dX0_raise_81 (lv_at hl 7 rfl) ?_
            refine lv_iload hx hb dX0_raise_83 (lv_at hl 5 rfl) ?_
            refine g_icmp_ge (tgt := 104) hx hb ⟨by omega, by omega⟩ ⟨by omega, by omega⟩ dX0_raise_85 (by decide) (fun c_85 => ?_) (fun c_85 => ?_)
            · skip
              refine lv_iconst (v := Int32.ofInt (0)) hx hb dX0_raise_104 (by decide) ?_
              exact k_105 _ (by unfold ex; first | rw [if_pos (by omega)] | (rw [if_neg (by omega), Int.zero_mul]; rfl))
            · skip
              refine lv_aload_n hx hb dX0_raise_88 rfl (lv_at hl 1 rfl) ?_
              refine t_getd E hK hV m0 (va_up_self _ _ _) cf_0_9 dX0_raise_89 ?_
              refine lv_iload hx hb dX0_raise_92 (lv_at hl 7 rfl) ?_
              refine t_ald (z := i) (v := (gg h0 (i))) hx hb hK hV m0 (va_up_self _ _ _) ((congrFun (va_up_self _ _ _) _).trans (hs (i) (by omega) (by omega) (by omega))) (va_up_self _ _ _) (by omega) (by omega) dX0_raise_94 ?_
              refine lv_iload hx hb dX0_raise_95 (lv_at hl 4 rfl) ?_
              refine g_ishl hx hb (by omega) (by omega) dX0_raise_97 ?_
              refine lv_ldc (v := Int32.ofInt (1073741823)) hx hb hown (hts _ (List.mem_cons_of_mem _ ck_X0_59)) dX0_raise_98 ?_
              refine g_iand30 hx hb dX0_raise_100 ?_
              refine lv_goto (tgt := 105) hx hb dX0_raise_101 (by decide) ?_
              exact k_105 _ (by unfold ex; first | rw [if_pos (by omega)] | (rw [if_neg (by omega), Int.zero_mul]; rfl))
    · omega
