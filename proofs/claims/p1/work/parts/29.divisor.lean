/-- the greatest common divisor, by Euclid -/
theorem gcd_step {x y : Int} (hx : 0 ≤ x) (hy : 0 < y) : 0 ≤ x % y ∧ x % y < y := ⟨Int.emod_nonneg _ (by omega), Int.emod_lt_of_pos _ hy⟩
set_option maxHeartbeats 4000000 in
set_option maxRecDepth 100000 in
theorem c_divisorOf {l : Launch} {a b : Int} (a0 : 0 ≤ a) (a1 : a < 1000000000) (b0 : 0 ≤ b) (b1 : b < 1000000000) : Met l yX12_divisorOf (Cond.code yX12_divisorOf cX12_divisorOf 10 (some .long) :: w0r) (rRm 0 0) (tPc [Jz (a), Jz (b)]) (tQl (fun z => z = (Nat.gcd a.toNat b.toNat : Int))) 0 0 (fun _ => False) := by
  refine Met.ofW (cc := cX12_divisorOf) (maxL := 10) (ret := (some .long)) (by decide) rfl ?_
  intro p e s m args below meth c s₁ B hml hv
  obtain ⟨rfl, -⟩ := hv
  have hx := B.exec
  have hb := B.bytes
  have hr := B.returns
  have hts := atoms_spec (ws := Cond.code yX12_divisorOf cX12_divisorOf 10 (some .long) :: w0r) B.pre
  have hown : s.vm.findClass RX12 = some m.cls := findClass_of_methodNamed B.named
  have hlocks := B.notSynchronized
  have E : CallFix p m c cX12_divisorOf 10 s _ (Cond.code yX12_divisorOf cX12_divisorOf 10 (some .long) :: w0r) RX12 := ⟨hx, hb, hml, hown, hts⟩
  have hS : va_S (fun _ => False) s.heap s.heap [] := va_S.rf
  have hl := lv_entry ([Jz (a), Jz (b)]) (n := 10) (Nat.le_of_ble_eq_true rfl)
  rw [lg_entry_eq]
  generalize (lg_sl ([Jz (a), Jz (b)]) ++ List.replicate (10 - (lg_sl ([Jz (a), Jz (b)])).length) Slot.unset).toArray = ls at hl ⊢
  have hl : lv_has ls 10 [(0, Jz (a)), (2, Jz (b))] := hl
  refine lv_lload_n hx hb dX12_divisorOf_0 rfl (lv_at hl 0 rfl) ?_
  refine lv_lstore (lv' := [(4, Jz (a)), (0, Jz (a)), (2, Jz (b))]) hx hb dX12_divisorOf_1 hl (by decide) rfl (fun ls hl => ?_)
  refine lv_lload_n hx hb dX12_divisorOf_3 rfl (lv_at hl 2 rfl) ?_
  refine lv_lstore (lv' := [(6, Jz (b)), (4, Jz (a)), (0, Jz (a)), (2, Jz (b))]) hx hb dX12_divisorOf_4 hl (by decide) rfl (fun ls hl => ?_)
  refine r_loop (P := fun N_ H locs ls => ∃ (x : Int) (y : Int), N_ = y.toNat ∧ (0 ≤ x) ∧ (x < 1000000000) ∧ (0 ≤ y) ∧ (y < 1000000000) ∧ (Nat.gcd x.toNat y.toNat = Nat.gcd a.toNat b.toNat) ∧ va_S (fun _ => False) s.heap H locs ∧ lv_has ls 10 [(0, Jz (a)), (2, Jz (b)), (4, Jz (x)), (6, Jz (y))]) (g := fun ls => F0 m 6 ls []) (fun N_ H locs ls hI ih_6 => ?_) _ _ _ _ ⟨a, b, rfl, (a0), (a1), (b0), (b1), (rfl), hS, lv_sub hl [2, 3, 1, 0] rfl⟩
  obtain ⟨x, y, rfl, x0, x1, y0, y1, gi, hS, hl⟩ := hI
  refine lv_lload hx hb dX12_divisorOf_6 (lv_at hl 3 rfl) ?_
  refine lv_lconst (v := Int64.ofInt 0) hx hb dX12_divisorOf_8 rfl ?_
  refine g_lcmp hx hb ⟨by omega, by omega⟩ ⟨by omega, by omega⟩ dX12_divisorOf_9 ?_
  refine g_if_eq (tgt := 31) hx hb (g_cmp_i _ _) dX12_divisorOf_10 (by decide) (fun c_10 => ?_) (fun c_10 => ?_)
  · skip
    have yz : y = 0 := g_cmp_eq.mp c_10
    refine lv_lload hx hb dX12_divisorOf_31 (lv_at hl 2 rfl) ?_
    have hpost : (x : Int) = (Nat.gcd a.toNat b.toNat : Int) := by rw [yz] at gi; have h : Nat.gcd x.toNat 0 = x.toNat := Nat.gcd_zero_right _; have h2 : (0 : Int).toNat = 0 := rfl; rw [h2, h] at gi; rw [← gi]; omega
    exact W.lret (v := Int64.ofInt (x)) hx hb hr (fun t ht hW => ⟨⟨_, (), rfl, ⟨_, rfl, hpost⟩, trivial⟩, hS.F ht⟩) hS.2.2 dX12_divisorOf_33
  · skip
    have yn : y ≠ 0 := mt g_cmp_eq.mpr c_10
    have ey := gcd_step x0 (show 0 < y by omega)
    have eg : Nat.gcd y.toNat (x % y).toNat = Nat.gcd x.toNat y.toNat := by rw [Int.toNat_emod x0 y0, Nat.gcd_comm x.toNat y.toNat]; exact (Nat.gcd_rec y.toNat x.toNat).symm ▸ (Nat.gcd_comm _ _)
    refine lv_lload hx hb dX12_divisorOf_13 (lv_at hl 2 rfl) ?_
    refine lv_lload hx hb dX12_divisorOf_15 (lv_at hl 3 rfl) ?_
    refine g_lrem hx hb (by omega) (by omega) (by omega) (by omega) dX12_divisorOf_17 ?_
    refine lv_lstore (lv' := [(8, Jz (x % y)), (0, Jz (a)), (2, Jz (b)), (4, Jz (x)), (6, Jz (y))]) hx hb dX12_divisorOf_18 hl (by decide) rfl (fun ls hl => ?_)
    refine lv_lload hx hb dX12_divisorOf_20 (lv_at hl 4 rfl) ?_
    refine lv_lstore (lv' := [(4, Jz (y)), (8, Jz (x % y)), (0, Jz (a)), (2, Jz (b)), (6, Jz (y))]) hx hb dX12_divisorOf_22 hl (by decide) rfl (fun ls hl => ?_)
    refine lv_lload hx hb dX12_divisorOf_24 (lv_at hl 1 rfl) ?_
    refine lv_lstore (lv' := [(6, Jz (x % y)), (4, Jz (y)), (8, Jz (x % y)), (0, Jz (a)), (2, Jz (b))]) hx hb dX12_divisorOf_26 hl (by decide) rfl (fun ls hl => ?_)
    refine lv_goto (tgt := 6) hx hb dX12_divisorOf_28 (by decide) ?_
    exact ih_6 _ (by omega) _ _ _ ⟨y, (x % y), rfl, (y0), (y1), (ey.1), (by omega), (eg.trans gi), hS, lv_sub hl [3, 4, 1, 0] rfl⟩
