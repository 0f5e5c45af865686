/-- how many of 1 .. k share nothing with n -/
def copn (n : Nat) : Nat → Int
  | 0 => 0
  | k + 1 => copn n k + (if Nat.gcd (k + 1) n = 1 then 1 else 0)
theorem copn_bd (n : Nat) : ∀ k : Nat, 0 ≤ copn n k ∧ copn n k ≤ k
  | 0 => ⟨Int.le_refl 0, Int.le_refl 0⟩
  | k + 1 => by
    have h := copn_bd n k
    show 0 ≤ copn n k + (if Nat.gcd (k + 1) n = 1 then 1 else 0) ∧ copn n k + (if Nat.gcd (k + 1) n = 1 then 1 else 0) ≤ ((k + 1 : Nat) : Int)
    split <;> omega
/-- what moebius() holds behind p = 2 .. k + 1: what is left of n, and the sign -/
def mobs (n : Int) : Nat → Int × Int
  | 0 => (n, 1)
  | k + 1 => if (mobs n k).1 % ((k : Int) + 2) = 0 then ((mobs n k).1 / ((k : Int) + 2), if (mobs n k).1 / ((k : Int) + 2) % ((k : Int) + 2) = 0 then 0 else 0 - (mobs n k).2) else mobs n k
theorem mobs_bd {n : Int} (h0 : 0 ≤ n) (h1 : n < 100000) : ∀ k : Nat, 0 ≤ (mobs n k).1 ∧ (mobs n k).1 < 100000 ∧ -1 ≤ (mobs n k).2 ∧ (mobs n k).2 ≤ 1
  | 0 => ⟨h0, h1, by show (-1 : Int) ≤ 1; decide, Int.le_refl 1⟩
  | k + 1 => by
    have h := mobs_bd h0 h1 k
    have hq : 0 ≤ (mobs n k).1 / ((k : Int) + 2) := Int.ediv_nonneg h.1 (by omega)
    have hq2 : (mobs n k).1 / ((k : Int) + 2) ≤ (mobs n k).1 := Int.ediv_le_self _ h.1
    unfold mobs
    split
    · refine ⟨hq, by show (mobs n k).1 / ((k : Int) + 2) < 100000; omega, ?_, ?_⟩
      · show -1 ≤ (if (mobs n k).1 / ((k : Int) + 2) % ((k : Int) + 2) = 0 then 0 else 0 - (mobs n k).2)
        split <;> omega
      · show (if (mobs n k).1 / ((k : Int) + 2) % ((k : Int) + 2) = 0 then 0 else 0 - (mobs n k).2) ≤ 1
        split <;> omega
    · exact h
set_option maxHeartbeats 4000000 in
set_option maxRecDepth 100000 in
theorem c_coprime {l : Launch} {n : Int} (n0 : 1 ≤ n) (n1 : n < 10000) : Met l yX12_coprime (Cond.code yX12_coprime cX12_coprime 3 (some .int) :: w0r) (rRm 1 29) (tPc [Iz (n)]) (tQi (fun z => z = copn n.toNat n.toNat)) 0 0 (fun _ => False) := by
  refine Met.ofW (cc := cX12_coprime) (maxL := 3) (ret := (some .int)) (by decide) rfl ?_
  intro p e s m args below meth c s₁ B hml hv
  obtain ⟨rfl, -⟩ := hv
  have hx := B.exec
  have hb := B.bytes
  have hr := B.returns
  have hts := atoms_spec (ws := Cond.code yX12_coprime cX12_coprime 3 (some .int) :: w0r) B.pre
  have hown : s.vm.findClass RX12 = some m.cls := findClass_of_methodNamed B.named
  have hlocks := B.notSynchronized
  have E : CallFix p m c cX12_coprime 3 s _ (Cond.code yX12_coprime cX12_coprime 3 (some .int) :: w0r) RX12 := ⟨hx, hb, hml, hown, hts⟩
  have hS : va_S (fun _ => False) s.heap s.heap [] := va_S.rf
  have hl := lv_entry ([Iz (n)]) (n := 3) (Nat.le_of_ble_eq_true rfl)
  rw [lg_entry_eq]
  generalize (lg_sl ([Iz (n)]) ++ List.replicate (3 - (lg_sl ([Iz (n)])).length) Slot.unset).toArray = ls at hl ⊢
  have hl : lv_has ls 3 [(0, Iz (n))] := hl
  refine lv_iconst (v := Int32.ofInt (0)) hx hb dX12_coprime_0 (by decide) ?_
  refine lv_istore_n (lv' := [(1, Iz (0)), (0, Iz (n))]) hx hb dX12_coprime_1 rfl hl (by decide) rfl (fun ls hl => ?_)
  refine lv_iconst (v := Int32.ofInt (1)) hx hb dX12_coprime_2 (by decide) ?_
  refine lv_istore_n (lv' := [(2, Iz (1)), (1, Iz (0)), (0, Iz (n))]) hx hb dX12_coprime_3 rfl hl (by decide) rfl (fun ls hl => ?_)
  refine r_loop (P := fun N_ H locs ls => ∃ (i : Int) (c : Int), N_ = (n + 1 - i).toNat ∧ (1 ≤ i) ∧ (i ≤ n + 1) ∧ (c = copn n.toNat (i - 1).toNat) ∧ va_S (fun _ => False) s.heap H locs ∧ lv_has ls 3 [(0, Iz (n)), (1, Iz (c)), (2, Iz (i))]) (g := fun ls => F0 m 4 ls []) (fun N_ H locs ls hI ih_4 => ?_) _ _ _ _ ⟨1, 0, rfl, (Int.le_refl 1), (by omega), (rfl), hS, lv_sub hl [2, 1, 0] rfl⟩
  obtain ⟨i, c, rfl, i0, i1, ci, hS, hl⟩ := hI
  refine lv_iload_n hx hb dX12_coprime_4 rfl (lv_at hl 2 rfl) ?_
  refine lv_iload_n hx hb dX12_coprime_5 rfl (lv_at hl 0 rfl) ?_
  refine g_icmp_gt (tgt := 35) hx hb ⟨by omega, by omega⟩ ⟨by omega, by omega⟩ dX12_coprime_6 (by decide) (fun c_6 => ?_) (fun c_6 => ?_)
  · skip
    refine lv_iload_n hx hb dX12_coprime_35 rfl (lv_at hl 1 rfl) ?_
    have hpost : (c : Int) = copn n.toNat n.toNat := by rw [ci, show (i - 1).toNat = n.toNat by omega]
    exact W.iret (v := Int32.ofInt (c)) hx hb hr (fun t ht hW => ⟨⟨_, (), rfl, ⟨_, rfl, hpost⟩, trivial⟩, hS.F ht⟩) hS.2.2 dX12_coprime_36
  · skip
    refine lv_iload_n hx hb dX12_coprime_9 rfl (lv_at hl 1 rfl) ?_
    refine lv_iload_n hx hb dX12_coprime_10 rfl (lv_at hl 2 rfl) ?_
    refine g_i2l hx hb ⟨by omega, by omega⟩ dX12_coprime_11 ?_
    refine lv_iload_n hx hb dX12_coprime_12 rfl (lv_at hl 0 rfl) ?_
    refine g_i2l hx hb ⟨by omega, by omega⟩ dX12_coprime_13 ?_
    refine r_callsl (As := [Jz (i), Jz (n)]) (rest := [Iz (c)]) E (c_divisorOf (a := i) (b := n) (by omega) (by omega) (by omega) (by omega)) (cwS 2 hts (rGoodS ml_481 mt_divisorOf mn_RX12 mc_divisorOf) rfl rfl rfl (by decide +kernel) ⟨Nat.le_of_ble_eq_true rfl, Nat.le_of_ble_eq_true rfl⟩) (B := fun _ => True) (fun _ _ => trivial) hS rfl hl.1 (Nat.le_of_ble_eq_true rfl) dX12_coprime_14 ⟨Nat.le_refl 0, Nat.le_refl 0⟩ (fun z14 H locs q14 _ hS => ?_)
    have gb : Nat.gcd i.toNat n.toNat ≤ n.toNat := Nat.gcd_le_right _ (by omega)
    refine lv_lconst (v := Int64.ofInt 1) hx hb dX12_coprime_17 rfl ?_
    refine g_lcmp hx hb ⟨by omega, by omega⟩ ⟨by omega, by omega⟩ dX12_coprime_18 ?_
    refine r_join (P := fun z : Int => z = (if Nat.gcd i.toNat n.toNat = 1 then 1 else 0)) (g := fun z => F0 m 27 ls [Iz z, Iz (c)]) (fun w hw => ?_) (fun k_27 => ?_)
    · skip
      refine g_iadd hx hb dX12_coprime_27 ?_
      refine lv_istore_n (lv' := [(1, Iz (c + w)), (0, Iz (n)), (2, Iz (i))]) hx hb dX12_coprime_28 rfl hl (by decide) rfl (fun ls hl => ?_)
      refine g_iinc (k := 2) (z := i) (n := (1)) (lv' := [(2, Iz (i + 1)), (1, Iz (c + w)), (0, Iz (n))]) hx hb dX12_coprime_29 hl rfl (by decide) rfl (fun ls hl => ?_)
      refine lv_goto (tgt := 4) hx hb dX12_coprime_32 (by decide) ?_
      exact ih_4 _ (by omega) _ _ _ ⟨(i + 1), (c + w), rfl, (by omega), (by omega), (by rw [show (i + 1 - 1).toNat = (i - 1).toNat + 1 by omega, ci, hw]; show _ = copn n.toNat (i - 1).toNat + (if Nat.gcd ((i - 1).toNat + 1) n.toNat = 1 then 1 else 0); rw [show (i - 1).toNat + 1 = i.toNat by omega]), hS, lv_sub hl [2, 1, 0] rfl⟩
    · skip
      refine g_if_ne (tgt := 26) hx hb (g_cmp_i _ _) dX12_coprime_19 (by decide) (fun c_19 => ?_) (fun c_19 => ?_)
      · skip
        refine lv_iconst (v := Int32.ofInt (0)) hx hb dX12_coprime_26 (by decide) ?_
        exact k_27 _ (by first | (rw [if_neg (by have h := mt g_cmp_eq.mpr c_19; omega)]; done) | (rw [if_pos (by have h := g_cmp_eq.mp c_19; omega)]; done))
      · skip
        refine lv_iconst (v := Int32.ofInt (1)) hx hb dX12_coprime_22 (by decide) ?_
        refine lv_goto (tgt := 27) hx hb dX12_coprime_23 (by decide) ?_
        exact k_27 _ (by first | (rw [if_neg (by have h := mt g_cmp_eq.mpr c_19; omega)]; done) | (rw [if_pos (by have h := g_cmp_eq.mp c_19; omega)]; done))
set_option maxHeartbeats 4000000 in
set_option maxRecDepth 100000 in
theorem c_moebius {l : Launch} {n : Int} (n0 : 1 ≤ n) (n1 : n < 100000) : Met l yX12_moebius (Cond.code yX12_moebius cX12_moebius 4 (some .int) :: w0r) (rRm 0 0) (tPc [Iz (n)]) (tQi (fun z => z = (mobs n (n - 1).toNat).2)) 0 0 (fun _ => False) := by
  refine Met.ofW (cc := cX12_moebius) (maxL := 4) (ret := (some .int)) (by decide) rfl ?_
  intro p e s m args below meth c s₁ B hml hv
  obtain ⟨rfl, -⟩ := hv
  have hx := B.exec
  have hb := B.bytes
  have hr := B.returns
  have hts := atoms_spec (ws := Cond.code yX12_moebius cX12_moebius 4 (some .int) :: w0r) B.pre
  have hown : s.vm.findClass RX12 = some m.cls := findClass_of_methodNamed B.named
  have hlocks := B.notSynchronized
  have E : CallFix p m c cX12_moebius 4 s _ (Cond.code yX12_moebius cX12_moebius 4 (some .int) :: w0r) RX12 := ⟨hx, hb, hml, hown, hts⟩
  have hS : va_S (fun _ => False) s.heap s.heap [] := va_S.rf
  have hl := lv_entry ([Iz (n)]) (n := 4) (Nat.le_of_ble_eq_true rfl)
  rw [lg_entry_eq]
  generalize (lg_sl ([Iz (n)]) ++ List.replicate (4 - (lg_sl ([Iz (n)])).length) Slot.unset).toArray = ls at hl ⊢
  have hl : lv_has ls 4 [(0, Iz (n))] := hl
  refine lv_iload_n hx hb dX12_moebius_0 rfl (lv_at hl 0 rfl) ?_
  refine lv_istore_n (lv' := [(1, Iz (n)), (0, Iz (n))]) hx hb dX12_moebius_1 rfl hl (by decide) rfl (fun ls hl => ?_)
  refine lv_iconst (v := Int32.ofInt (1)) hx hb dX12_moebius_2 (by decide) ?_
  refine lv_istore_n (lv' := [(2, Iz (1)), (1, Iz (n)), (0, Iz (n))]) hx hb dX12_moebius_3 rfl hl (by decide) rfl (fun ls hl => ?_)
  refine lv_iconst (v := Int32.ofInt (2)) hx hb dX12_moebius_4 (by decide) ?_
  refine lv_istore_n (lv' := [(3, Iz (2)), (2, Iz (1)), (1, Iz (n)), (0, Iz (n))]) hx hb dX12_moebius_5 rfl hl (by decide) rfl (fun ls hl => ?_)
  refine r_loop (P := fun N_ H locs ls => ∃ (p_ : Int) (le : Int) (si : Int), N_ = (n + 1 - p_).toNat ∧ (2 ≤ p_) ∧ (p_ ≤ n + 1 ∨ p_ = 2) ∧ ((le, si) = mobs n (p_ - 2).toNat) ∧ va_S (fun _ => False) s.heap H locs ∧ lv_has ls 4 [(0, Iz (n)), (1, Iz (le)), (2, Iz (si)), (3, Iz (p_))]) (g := fun ls => F0 m 6 ls []) (fun N_ H locs ls hI ih_6 => ?_) _ _ _ _ ⟨2, n, 1, rfl, (Int.le_refl 2), (Or.inr rfl), (rfl), hS, lv_sub hl [3, 2, 1, 0] rfl⟩
  obtain ⟨p_, le, si, rfl, p0, p1, hs, hS, hl⟩ := hI
  refine lv_iload_n hx hb dX12_moebius_6 rfl (lv_at hl 3 rfl) ?_
  refine lv_iload_n hx hb dX12_moebius_7 rfl (lv_at hl 0 rfl) ?_
  refine g_icmp_gt (tgt := 41) hx hb ⟨by omega, by omega⟩ ⟨by omega, by omega⟩ dX12_moebius_8 (by decide) (fun c_8 => ?_) (fun c_8 => ?_)
  · skip
    refine lv_iload_n hx hb dX12_moebius_41 rfl (lv_at hl 2 rfl) ?_
    have hpost : (si : Int) = (mobs n (n - 1).toNat).2 := by have e : (p_ - 2).toNat = (n - 1).toNat := (by omega); rw [← e, ← hs]
    exact W.iret (v := Int32.ofInt (si)) hx hb hr (fun t ht hW => ⟨⟨_, (), rfl, ⟨_, rfl, hpost⟩, trivial⟩, hS.F ht⟩) hS.2.2 dX12_moebius_42
  · skip
    have bd := mobs_bd (by omega) n1 (p_ - 2).toNat
    rw [← hs] at bd
    have lq : 0 ≤ le / p_ := Int.ediv_nonneg bd.1 (by omega)
    have lq2 : le / p_ ≤ le := Int.ediv_le_self _ bd.1
    have ek : (p_ + 1 - 2).toNat = (p_ - 2).toNat + 1 := by omega
    have ep : (((p_ - 2).toNat : Nat) : Int) + 2 = p_ := by omega
    refine lv_iload_n hx hb dX12_moebius_11 rfl (lv_at hl 1 rfl) ?_
    refine lv_iload_n hx hb dX12_moebius_12 rfl (lv_at hl 3 rfl) ?_
    refine g_irem hx hb (by omega) (by omega) (by omega) (by omega) dX12_moebius_13 ?_
    refine g_if_ne (tgt := 35) hx hb ⟨by have := Int.emod_nonneg le (show p_ ≠ 0 by omega); omega, by have := Int.emod_lt_of_pos le (show 0 < p_ by omega); omega⟩ dX12_moebius_14 (by decide) (fun c_14 => ?_) (fun c_14 => ?_)
    · skip
      refine g_iinc (k := 3) (z := p_) (n := (1)) (lv' := [(3, Iz (p_ + 1)), (0, Iz (n)), (1, Iz (le)), (2, Iz (si))]) hx hb dX12_moebius_35 hl rfl (by decide) rfl (fun ls hl => ?_)
      refine lv_goto (tgt := 6) hx hb dX12_moebius_38 (by decide) ?_
      exact ih_6 _ (by omega) _ _ _ ⟨(p_ + 1), le, si, rfl, (by omega), (by omega), (by rw [ek]; show _ = (if (mobs n (p_ - 2).toNat).1 % ((((p_ - 2).toNat : Nat) : Int) + 2) = 0 then ((mobs n (p_ - 2).toNat).1 / ((((p_ - 2).toNat : Nat) : Int) + 2), if (mobs n (p_ - 2).toNat).1 / ((((p_ - 2).toNat : Nat) : Int) + 2) % ((((p_ - 2).toNat : Nat) : Int) + 2) = 0 then 0 else 0 - (mobs n (p_ - 2).toNat).2) else mobs n (p_ - 2).toNat); rw [ep, ← hs]; first | (rw [if_pos c_14, ← hw]; done) | (rw [if_neg c_14]; done)), hS, lv_sub hl [1, 2, 3, 0] rfl⟩
    · skip
      refine lv_iload_n hx hb dX12_moebius_17 rfl (lv_at hl 1 rfl) ?_
      refine lv_iload_n hx hb dX12_moebius_18 rfl (lv_at hl 3 rfl) ?_
      refine g_idiv hx hb (by omega) (by omega) (by omega) (by omega) dX12_moebius_19 ?_
      refine lv_istore_n (lv' := [(1, Iz (le / p_)), (0, Iz (n)), (2, Iz (si)), (3, Iz (p_))]) hx hb dX12_moebius_20 rfl hl (by decide) rfl (fun ls hl => ?_)
      refine lv_iload_n hx hb dX12_moebius_21 rfl (lv_at hl 0 rfl) ?_
      refine lv_iload_n hx hb dX12_moebius_22 rfl (lv_at hl 3 rfl) ?_
      refine g_irem hx hb (by omega) (by omega) (by omega) (by omega) dX12_moebius_23 ?_
      refine r_join (P := fun z : Int => z = (if le / p_ % p_ = 0 then 0 else 0 - si)) (g := fun z => F0 m 34 ls [Iz z]) (fun w hw => ?_) (fun k_34 => ?_)
      · skip
        refine lv_istore_n (lv' := [(2, Iz (w)), (1, Iz (le / p_)), (0, Iz (n)), (3, Iz (p_))]) hx hb dX12_moebius_34 rfl hl (by decide) rfl (fun ls hl => ?_)
        refine g_iinc (k := 3) (z := p_) (n := (1)) (lv' := [(3, Iz (p_ + 1)), (2, Iz (w)), (1, Iz (le / p_)), (0, Iz (n))]) hx hb dX12_moebius_35 hl rfl (by decide) rfl (fun ls hl => ?_)
        refine lv_goto (tgt := 6) hx hb dX12_moebius_38 (by decide) ?_
        exact ih_6 _ (by omega) _ _ _ ⟨(p_ + 1), (le / p_), w, rfl, (by omega), (by omega), (by rw [ek]; show _ = (if (mobs n (p_ - 2).toNat).1 % ((((p_ - 2).toNat : Nat) : Int) + 2) = 0 then ((mobs n (p_ - 2).toNat).1 / ((((p_ - 2).toNat : Nat) : Int) + 2), if (mobs n (p_ - 2).toNat).1 / ((((p_ - 2).toNat : Nat) : Int) + 2) % ((((p_ - 2).toNat : Nat) : Int) + 2) = 0 then 0 else 0 - (mobs n (p_ - 2).toNat).2) else mobs n (p_ - 2).toNat); rw [ep, ← hs]; first | (rw [if_pos c_14, ← hw]; done) | (rw [if_neg c_14]; done)), hS, lv_sub hl [3, 2, 1, 0] rfl⟩
      · skip
        refine g_if_ne (tgt := 31) hx hb ⟨by have := Int.emod_nonneg (le / p_) (show p_ ≠ 0 by omega); omega, by have := Int.emod_lt_of_pos (le / p_) (show 0 < p_ by omega); omega⟩ dX12_moebius_24 (by decide) (fun c_24 => ?_) (fun c_24 => ?_)
        · skip
          refine lv_iconst (v := Int32.ofInt (0)) hx hb dX12_moebius_31 (by decide) ?_
          refine lv_iload_n hx hb dX12_moebius_32 rfl (lv_at hl 2 rfl) ?_
          refine g_isub hx hb dX12_moebius_33 ?_
          exact k_34 _ (by first | (rw [if_neg c_24]; done) | (rw [if_pos c_24]; done))
        · skip
          refine lv_iconst (v := Int32.ofInt (0)) hx hb dX12_moebius_27 (by decide) ?_
          refine lv_goto (tgt := 34) hx hb dX12_moebius_28 (by decide) ?_
          exact k_34 _ (by first | (rw [if_neg c_24]; done) | (rw [if_pos c_24]; done))
