theorem size3 {h : Int → Int} {z : Int} (hk : hok h) (hn : nm h z) (hv : nv h z < 2147483648 ^ 3) : nsz h z ≤ 3 := by
  have s0 := nsz_nonneg h z
  rcases Int.lt_or_le 3 (nsz h z) with w | w
  · exfalso
    obtain ⟨k, ek⟩ : ∃ k : Nat, (nsz h z).toNat = k + 1 := ⟨(nsz h z).toNat - 1, by omega⟩
    have hd := nm_d hk hn
    rw [ek] at hd
    have lo := kn_v_lo hd (by
      have := hn.2 (by omega)
      rw [show z + nsz h z = z + 1 + (k : Int) by omega] at this
      exact this)
    have mo_ := kn_pow_mono (show 3 ≤ k by omega)
    have e : nv h z = kn_v (fun i => h (z + 1 + i)) (k + 1) := by unfold nv; rw [ek]
    omega
  · exact w
set_option maxHeartbeats 4000000 in
set_option maxRecDepth 100000 in
theorem c_putCosine {l : Launch} {dC : Nat → ClassId} {dI : Nat → Nat → Nat} {h0 : Nat} {ad : Nat → Nat} {cI cJ cB cZ : Nat} {F : Nat → Int} {ar : Nat → Int → Int} {sz : Nat} {sl up n : Int} (s0 : 0 ≤ sl) (s1 : sl < 260) (u0 : 0 ≤ up) (u1 : up ≤ n) (n0 : 1 ≤ n) (n1 : n ≤ 480) (f0 : 1 ≤ F 25) (f1 : F 25 ≤ 10) (hk : hok (ar 1)) (hk5 : hok (ar 5)) (hk6 : hok (ar 6)) : Met l yX12_putCosine (Cond.code yX12_putCosine cX12_putCosine 10 (some .int) :: w0r) (rRm 12 400) (rPc dC dI h0 ad cI cJ cB cZ F ar sz [Iz (sl), Iz (up), Iz (n)]) (rQi dC dI h0 ad cI cJ cB cZ sz (fun z F' ar' => z = (if n < 3 then 0 else if F 25 < copn n.toNat n.toNat / 2 then -105 else 0) ∧ (∀ j : Nat, j ≠ 2 → j ≠ 3 → j ≠ 4 → F' j = F j))) 0 0 (rA h0 ad sz) := by
  refine Met.ofW (cc := cX12_putCosine) (maxL := 10) (ret := (some .int)) (by decide) rfl ?_
  intro p e s m args below meth c s₁ B hml hv
  obtain ⟨rfl, hsz, hP, hK, hD0⟩ := hv
  have hx := B.exec
  have hb := B.bytes
  have hr := B.returns
  have hts := atoms_spec (ws := Cond.code yX12_putCosine cX12_putCosine 10 (some .int) :: w0r) B.pre
  have hown : s.vm.findClass RX12 = some m.cls := findClass_of_methodNamed B.named
  have hlocks := B.notSynchronized
  have E : CallFix p m c cX12_putCosine 10 s _ (Cond.code yX12_putCosine cX12_putCosine 10 (some .int) :: w0r) RX12 := ⟨hx, hb, hml, hown, hts⟩
  subst hsz
  have hD := rA_self s.heap.size hD0
  have hA : ∀ q : Nat, s.heap.size ≤ q → rA h0 ad s.heap.size q := fun q h => Or.inr h
  have hS : va_S (rA h0 ad s.heap.size) s.heap s.heap [] := va_S.rf
  have hl := lv_entry ([.ref h0, Iz (sl), Iz (up), Iz (n)]) (n := 10) (Nat.le_of_ble_eq_true rfl)
  rw [lg_entry_eq]
  generalize (lg_sl ([.ref h0, Iz (sl), Iz (up), Iz (n)]) ++ List.replicate (10 - (lg_sl ([.ref h0, Iz (sl), Iz (up), Iz (n)])).length) Slot.unset).toArray = ls at hl ⊢
  have hl : lv_has ls 10 [(0, .ref h0), (1, Iz (sl)), (2, Iz (up)), (3, Iz (n))] := hl
  refine lv_aload_n hx hb dX12_putCosine_0 rfl (lv_at hl 0 rfl) ?_
  refine r_callv (As := []) (rest := []) E (c_clear (F := F) (ar := ar)) (cwV 0 hts (rGood ml_301 mi_clear ms_clear mn_RX12 mc_clear) rfl rfl rfl (by decide +kernel) ⟨Nat.le_of_ble_eq_true rfl, Nat.le_of_ble_eq_true rfl⟩) hK hP hD hS hA rfl hl.1 (Nat.le_of_ble_eq_true rfl) dX12_putCosine_1 ⟨Nat.le_refl 0, Nat.le_refl 0⟩ (fun F1 ar1 H locs q1 hP hD hS => ?_)
  obtain ⟨ez, ea⟩ := q1
  obtain rfl := ez.symm
  obtain rfl := ea.symm
  refine lv_iload_n hx hb dX12_putCosine_4 rfl (lv_at hl 3 rfl) ?_
  refine lv_iconst (v := Int32.ofInt (3)) hx hb dX12_putCosine_5 (by decide) ?_
  refine g_icmp_ge (tgt := 36) hx hb (by first | assumption | exact ⟨by omega, by omega⟩ | exact Hh _) (by first | assumption | exact ⟨by omega, by omega⟩ | exact Hh _) dX12_putCosine_6 (by decide) (fun c_6 => ?_) (fun c_6 => ?_)
  · skip
    refine lv_iload_n hx hb dX12_putCosine_36 rfl (lv_at hl 3 rfl) ?_
    refine r_callsi (As := [Iz (n)]) (rest := []) E (c_coprime (by omega) (by omega)) (cwS 1 hts (rGoodS ml_495 mt_coprime mn_RX12 mc_coprime) rfl rfl rfl (by decide +kernel) ⟨Nat.le_of_ble_eq_true rfl, Nat.le_of_ble_eq_true rfl⟩) (B := va_P (dC, dI) rcl (mW h0 ad cI cJ cB cZ (fup F 2 0) ar)) (r_kept hP) hS rfl hl.1 (Nat.le_of_ble_eq_true rfl) dX12_putCosine_37 ⟨Nat.le_refl 0, Nat.le_refl 0⟩ (fun z37 H locs q37 hP hS => ?_)
    have cb := copn_bd n.toNat n.toNat
    rw [← q37] at cb
    refine lv_iconst (v := Int32.ofInt (2)) hx hb dX12_putCosine_40 (by decide) ?_
    refine g_idiv hx hb (by omega) (by omega) (by omega) (by omega) dX12_putCosine_41 ?_
    obtain ⟨hf, ehf⟩ : ∃ y : Int, y = z37 / 2 := ⟨_, rfl⟩
    rw [← ehf]
    have hf0 : 0 ≤ hf := by omega
    refine lv_istore (lv' := [(4, Iz (hf)), (0, .ref h0), (1, Iz (sl)), (2, Iz (up)), (3, Iz (n))]) hx hb dX12_putCosine_42 hl (by decide) rfl (fun ls hl => ?_)
    refine lv_iload hx hb dX12_putCosine_44 (lv_at hl 0 rfl) ?_
    refine lv_aload_n hx hb dX12_putCosine_46 rfl (lv_at hl 1 rfl) ?_
    refine r_geti E hK hP (k := 25) (v := Iz (F 25)) (by decide) mf_283 rfl rfl dX12_putCosine_47 ?_
    refine g_icmp_le (tgt := 56) hx hb (by first | assumption | exact ⟨by omega, by omega⟩ | exact Hh _) (by first | assumption | exact ⟨by omega, by omega⟩ | exact Hh _) dX12_putCosine_50 (by decide) (fun c_50 => ?_) (fun c_50 => ?_)
    · skip
      have cyO := cyc_ok (n := n) (by omega) n1 (by rw [← q37]; omega)
      refine lv_aload_n hx hb dX12_putCosine_56 rfl (lv_at hl 1 rfl) ?_
      refine lv_iload_n hx hb dX12_putCosine_57 rfl (lv_at hl 4 rfl) ?_
      refine r_calli (As := [Iz (n)]) (rest := []) E (c_makeCycle (F := (fup F 2 0)) (ar := ar) (n := n) (by omega) (by omega) cyO.1 cyO.2) (cwV 1 hts (rGood ml_498 mi_makeCycle ms_makeCycle mn_RX12 mc_makeCycle) rfl rfl rfl (by decide +kernel) ⟨Nat.le_of_ble_eq_true rfl, Nat.le_of_ble_eq_true rfl⟩) hK hP hD hS hA rfl hl.1 (Nat.le_of_ble_eq_true rfl) dX12_putCosine_58 ⟨Nat.le_refl 0, Nat.le_refl 0⟩ (fun z58 F58 ar58 H locs q58 hP hD hS => ?_)
      obtain ⟨y1, y2, y3⟩ := q58
      obtain rfl := y2.symm
      refine lv_istore (lv' := [(5, Iz (z58)), (4, Iz (hf)), (0, .ref h0), (1, Iz (sl)), (2, Iz (up)), (3, Iz (n))]) hx hb dX12_putCosine_61 hl (by decide) rfl (fun ls hl => ?_)
      refine lv_iconst (v := Int32.ofInt (0)) hx hb dX12_putCosine_63 (by decide) ?_
      refine lv_istore (lv' := [(6, Iz (0)), (5, Iz (z58)), (4, Iz (hf)), (0, .ref h0), (1, Iz (sl)), (2, Iz (up)), (3, Iz (n))]) hx hb dX12_putCosine_64 hl (by decide) rfl (fun ls hl => ?_)
      refine r_loop (P := fun N_ H locs ls => ∃ (ar1 : Nat → Int → Int) (i : Int), N_ = (16 - i).toNat ∧ (0 ≤ i) ∧ (i ≤ 16) ∧ (∀ j : Nat, j ≠ 51 → j ≠ 49 → j ≠ 50 → ar1 j = ar58 j) ∧ va_P (dC, dI) rcl (mW h0 ad cI cJ cB cZ (fup F 2 0) ar1) H ∧ va_D (rA h0 ad s.heap.size) (mW h0 ad cI cJ cB cZ (fup F 2 0) ar1) ∧ va_S (rA h0 ad s.heap.size) s.heap H locs ∧ lv_has ls 10 [(0, .ref h0), (1, Iz (sl)), (2, Iz (up)), (3, Iz (n)), (4, Iz (hf)), (6, Iz (i))]) (g := fun ls => F0 m 66 ls []) (fun N_ H locs ls hI ih_66 => ?_) _ _ _ _ ⟨ar58, 0, rfl, (Int.le_refl 0), (by decide), (fun _ _ _ _ => rfl), hP, hD, hS, lv_sub hl [3, 4, 5, 6, 2, 0] rfl⟩
      obtain ⟨ar1, i, rfl, i0, i1, q1, hP, hD, hS, hl⟩ := hI
      refine lv_iload hx hb dX12_putCosine_66 (lv_at hl 5 rfl) ?_
      refine lv_bipush (v := Int32.ofInt (16)) hx hb dX12_putCosine_68 (by decide) ?_
      refine g_icmp_ge (tgt := 103) hx hb (by first | assumption | exact ⟨by omega, by omega⟩ | exact Hh _) (by first | assumption | exact ⟨by omega, by omega⟩ | exact Hh _) dX12_putCosine_70 (by decide) (fun c_70 => ?_) (fun c_70 => ?_)
      · skip
        refine lv_aload_n hx hb dX12_putCosine_103 rfl (lv_at hl 0 rfl) ?_
        refine r_geti E hK hP (k := 51) (v := .ref (ad 51)) (by decide) mf_501 rfl rfl dX12_putCosine_104 ?_
        refine lv_iconst (v := Int32.ofInt (0)) hx hb dX12_putCosine_107 (by decide) ?_
        refine lv_aload_n hx hb dX12_putCosine_108 rfl (lv_at hl 0 rfl) ?_
        refine r_geti E hK hP (k := 48) (v := .ref (ad 48)) (by decide) mf_485 rfl rfl dX12_putCosine_109 ?_
        refine lv_iload hx hb dX12_putCosine_112 (lv_at hl 4 rfl) ?_
        refine g_lald (f := (ar1 48)) hx hb hK hP 22 1 rfl rfl (by omega) (by omega) (by decide) dX12_putCosine_114 ?_
        refine g_last (f := (ar1 51)) hx hb hK hP hD hS 25 1 rfl rfl (by omega) (by omega) (by decide) dX12_putCosine_115 (fun H locs hP hD hS => ?_)
        rw [sa_51] at hP hD
        refine lv_aload_n hx hb dX12_putCosine_116 rfl (lv_at hl 0 rfl) ?_
        refine r_geti E hK hP (k := 49) (v := .ref (ad 49)) (by decide) mf_504 rfl rfl dX12_putCosine_117 ?_
        refine lv_iconst (v := Int32.ofInt (0)) hx hb dX12_putCosine_120 (by decide) ?_
        refine lv_ldc2 (v := Int64.ofInt (2)) hx hb hown (hts _ (List.mem_cons_of_mem _ mj_510)) dX12_putCosine_121 ?_
        refine g_last (f := (ar1 49)) hx hb hK hP hD hS 23 1 rfl rfl (by omega) (by omega) (by decide) dX12_putCosine_124 (fun H locs hP hD hS => ?_)
        rw [sa_49] at hP hD
        refine lv_aload_n hx hb dX12_putCosine_125 rfl (lv_at hl 0 rfl) ?_
        refine r_geti E hK hP (k := 50) (v := .ref (ad 50)) (by decide) mf_507 rfl rfl dX12_putCosine_126 ?_
        refine lv_iconst (v := Int32.ofInt (1)) hx hb dX12_putCosine_129 (by decide) ?_
        refine lv_lconst (v := Int64.ofInt 1) hx hb dX12_putCosine_130 rfl ?_
        refine g_last (f := (ar1 50)) hx hb hK hP hD hS 24 1 rfl rfl (by omega) (by omega) (by decide) dX12_putCosine_131 (fun H locs hP hD hS => ?_)
        rw [sa_50] at hP hD
        refine lv_iconst (v := Int32.ofInt (1)) hx hb dX12_putCosine_132 (by decide) ?_
        refine lv_istore (lv' := [(6, Iz (1)), (0, .ref h0), (1, Iz (sl)), (2, Iz (up)), (3, Iz (n)), (4, Iz (hf))]) hx hb dX12_putCosine_133 hl (by decide) rfl (fun ls hl => ?_)
        refine r_loop (P := fun N_ H locs ls => ∃ (ar2 : Nat → Int → Int) (j2 : Int), N_ = (20 - j2).toNat ∧ (1 ≤ j2) ∧ (j2 ≤ hf + 1) ∧ (∀ j : Nat, j ≠ 51 → j ≠ 49 → j ≠ 50 → ar2 j = ar58 j) ∧ va_P (dC, dI) rcl (mW h0 ad cI cJ cB cZ (fup F 2 0) ar2) H ∧ va_D (rA h0 ad s.heap.size) (mW h0 ad cI cJ cB cZ (fup F 2 0) ar2) ∧ va_S (rA h0 ad s.heap.size) s.heap H locs ∧ lv_has ls 10 [(0, .ref h0), (1, Iz (sl)), (2, Iz (up)), (3, Iz (n)), (4, Iz (hf)), (6, Iz (j2))]) (g := fun ls => F0 m 135 ls []) (fun N_ H locs ls hI ih_135 => ?_) _ _ _ _ ⟨(aup (aup (aup ar1 51 (iup (ar1 51) 0 ((ar1 48) hf))) 49 (iup (ar1 49) 0 2)) 50 (iup (ar1 50) 1 1)), 1, rfl, (Int.le_refl 1), (by omega), (fun j h1 h2 h3 => by rw [aup_ne _ _ h3, aup_ne _ _ h2, aup_ne _ _ h1]; exact q1 j h1 h2 h3), hP, hD, hS, lv_sub hl [1, 2, 3, 4, 5, 0] rfl⟩
        obtain ⟨ar2, j2, rfl, j0, j1, q2, hP, hD, hS, hl⟩ := hI
        refine lv_iload hx hb dX12_putCosine_135 (lv_at hl 5 rfl) ?_
        refine lv_iload hx hb dX12_putCosine_137 (lv_at hl 4 rfl) ?_
        refine g_icmp_gt (tgt := 263) hx hb (by first | assumption | exact ⟨by omega, by omega⟩ | exact Hh _) (by first | assumption | exact ⟨by omega, by omega⟩ | exact Hh _) dX12_putCosine_139 (by decide) (fun c_139 => ?_) (fun c_139 => ?_)
        · skip
          refine lv_iconst (v := Int32.ofInt (0)) hx hb dX12_putCosine_263 (by decide) ?_
          refine lv_istore (lv' := [(6, Iz (0)), (0, .ref h0), (1, Iz (sl)), (2, Iz (up)), (3, Iz (n)), (4, Iz (hf))]) hx hb dX12_putCosine_264 hl (by decide) rfl (fun ls hl => ?_)
          refine r_loop (P := fun N_ H locs ls => ∃ (F5 : Nat → Int) (ar5 : Nat → Int → Int) (i : Int), N_ = (20 - i).toNat ∧ (0 ≤ i) ∧ (i ≤ hf + 1) ∧ (∀ j : Nat, j ≠ 2 → F5 j = F j) ∧ (0 ≤ F5 2) ∧ (F5 2 ≤ 20 * i) ∧ (hok (ar5 1)) ∧ (hok (ar5 6)) ∧ (ar5 5 = ar 5) ∧ (∀ t : Int, 0 ≤ t → t < i → 0 ≤ ar5 6 t ∧ ar5 6 t + nsz (ar5 1) (ar5 6 t) < F5 2 ∧ nsz (ar5 1) (ar5 6 t) ≤ 3 ∧ nm (ar5 1) (ar5 6 t)) ∧ va_P (dC, dI) rcl (mW h0 ad cI cJ cB cZ F5 ar5) H ∧ va_D (rA h0 ad s.heap.size) (mW h0 ad cI cJ cB cZ F5 ar5) ∧ va_S (rA h0 ad s.heap.size) s.heap H locs ∧ lv_has ls 10 [(0, .ref h0), (1, Iz (sl)), (2, Iz (up)), (3, Iz (n)), (4, Iz (hf)), (6, Iz (i))]) (g := fun ls => F0 m 266 ls []) (fun N_ H locs ls hI ih_266 => ?_) _ _ _ _ ⟨(fup F 2 0), ar2, 0, rfl, (Int.le_refl 0), (by omega), (fun j a => fup_ne _ _ a), (Int.le_refl 0), (by show (0 : Int) ≤ 20 * 0; decide), (by rw [q2 1 (by decide) (by decide) (by decide), y3 1 (by decide) (by decide)]; exact hk), (by rw [q2 6 (by decide) (by decide) (by decide), y3 6 (by decide) (by decide)]; exact hk6), ((q2 5 (by decide) (by decide) (by decide)).trans (y3 5 (by decide) (by decide))), (fun t a b => by omega), hP, hD, hS, lv_sub hl [1, 2, 3, 4, 5, 0] rfl⟩
          obtain ⟨F5, ar5, i, rfl, i0, i1, f2, t0, t1, h1, h6, h5, rw_, hP, hD, hS, hl⟩ := hI
          refine lv_iload hx hb dX12_putCosine_266 (lv_at hl 5 rfl) ?_
          refine lv_iload hx hb dX12_putCosine_268 (lv_at hl 4 rfl) ?_
          refine g_icmp_gt (tgt := 303) hx hb (by first | assumption | exact ⟨by omega, by omega⟩ | exact Hh _) (by first | assumption | exact ⟨by omega, by omega⟩ | exact Hh _) dX12_putCosine_270 (by decide) (fun c_270 => ?_) (fun c_270 => ?_)
          · skip
            have kk : ∀ t : Int, 0 ≤ t → t < hf + 1 → 0 ≤ ar5 6 t ∧ ar5 6 t < 6000000 := fun t a b => by
                                          have w7 := rw_ t a (by omega)
                                          have s7 := nsz_nonneg (ar5 1) (ar5 6 t)
                                          omega
            refine lv_aload_n hx hb dX12_putCosine_303 rfl (lv_at hl 0 rfl) ?_
            refine lv_aload_n hx hb dX12_putCosine_304 rfl (lv_at hl 0 rfl) ?_
            refine lv_iload hx hb dX12_putCosine_305 (lv_at hl 4 rfl) ?_
            refine lv_iconst (v := Int32.ofInt (1)) hx hb dX12_putCosine_307 (by decide) ?_
            refine g_iadd hx hb dX12_putCosine_308 ?_
            refine r_calli (As := [Iz (hf + 1)]) (rest := [.ref h0]) E (c_polynomialOf (F := F5) (ar := ar5) (n := hf + 1) t0 (by omega) (by omega) (by omega) h1 h6 kk) (cwV 1 hts (rGood ml_89 mi_polynomialOf ms_polynomialOf mn_RX12 mc_polynomialOf) rfl rfl rfl (by decide +kernel) ⟨Nat.le_of_ble_eq_true rfl, Nat.le_of_ble_eq_true rfl⟩) hK hP hD hS hA rfl hl.1 (Nat.le_of_ble_eq_true rfl) dX12_putCosine_309 ⟨Nat.le_refl 0, Nat.le_refl 0⟩ (fun z309 F309 ar309 H locs q309 hP hD hS => ?_)
            obtain ⟨dd, d1, d2, zz, d4, d5, d6, d7, d8⟩ := q309
            obtain rfl : z309 = F5 2 := zz
            have ag9 : ∀ y : Int, y < F5 2 → ar309 1 y = ar5 1 y := d4.2.2.1
            have pz : ∀ t : Int, 0 ≤ t → t ≤ ar309 1 (F5 2) → 0 ≤ ar309 1 (F5 2 + 1 + t) ∧ ar309 1 (F5 2 + 1 + t) + nsz (ar309 1) (ar309 1 (F5 2 + 1 + t)) < F309 2 ∧ nsz (ar309 1) (ar309 1 (F5 2 + 1 + t)) ≤ 3 ∧ nm (ar309 1) (ar309 1 (F5 2 + 1 + t)) := fun t a b => by
                                          rw [d5] at b
                                          have w7 := rw_ t a (by omega)
                                          have s7 := nsz_nonneg (ar5 1) (ar5 6 t)
                                          rw [d6 t a b, nsz_agree (ag9 (ar5 6 t) (by omega))]
                                          exact ⟨by omega, by omega, by omega, nm_agree (fun y p q => ag9 y (by omega)) w7.2.2.2⟩
            have le9 : 0 ≤ ar309 1 (F5 2) → nsz (ar309 1) (ar309 1 (F5 2 + 1 + ar309 1 (F5 2))) ≠ 0 := fun h => by
                                          rw [d5] at h ⊢
                                          have w7 := rw_ dd h (by omega)
                                          have s7 := nsz_nonneg (ar5 1) (ar5 6 dd)
                                          rw [d6 dd h (Int.le_refl _), nsz_agree (ag9 (ar5 6 dd) (by omega))]
                                          exact d8 h
            refine r_calli (As := [Iz (F5 2)]) (rest := []) E (c_least (F := F309) (ar := ar309) (q := F5 2) (by omega) (by omega) t0 (by rw [d5]; omega) (by rw [d5]; exact d1) (by rw [d5]; omega) d4.2.2.2 (by rw [d4.2.1 5 (by decide), h5]; exact hk5) (by rw [d4.2.1 6 (by decide)]; exact h6) pz le9) (cwV 1 hts (rGood ml_116 mi_least ms_least mn_RX12 mc_least) rfl rfl rfl (by decide +kernel) ⟨Nat.le_of_ble_eq_true rfl, Nat.le_of_ble_eq_true rfl⟩) hK hP hD hS hA rfl hl.1 (Nat.le_of_ble_eq_true rfl) dX12_putCosine_312 ⟨Nat.le_refl 0, Nat.le_refl 0⟩ (fun z312 F312 ar312 H locs q312 hP hD hS => ?_)
            obtain ⟨x1, x2, x3, x4, x5, x6, x7, x8, x9, x10⟩ := q312
            refine lv_istore (lv' := [(6, Iz (z312)), (0, .ref h0), (1, Iz (sl)), (2, Iz (up)), (3, Iz (n)), (4, Iz (hf))]) hx hb dX12_putCosine_315 hl (by decide) rfl (fun ls hl => ?_)
            refine r_join (P := fun z : Int => 0 ≤ z ∧ z ≤ n) (g := fun z => F0 m 331 ls [Iz z]) (fun uu huu => ?_) (fun k_331 => ?_)
            · skip
              refine lv_istore (lv' := [(7, Iz (uu)), (6, Iz (z312)), (0, .ref h0), (1, Iz (sl)), (2, Iz (up)), (3, Iz (n)), (4, Iz (hf))]) hx hb dX12_putCosine_331 hl (by decide) rfl (fun ls hl => ?_)
              refine lv_iconst (v := Int32.ofInt (0)) hx hb dX12_putCosine_333 (by decide) ?_
              refine lv_istore (lv' := [(8, Iz (0)), (7, Iz (uu)), (6, Iz (z312)), (0, .ref h0), (1, Iz (sl)), (2, Iz (up)), (3, Iz (n)), (4, Iz (hf))]) hx hb dX12_putCosine_334 hl (by decide) rfl (fun ls hl => ?_)
              refine lv_iload hx hb dX12_putCosine_336 (lv_at hl 1 rfl) ?_
              refine lv_iconst (v := Int32.ofInt (1)) hx hb dX12_putCosine_338 (by decide) ?_
              refine g_iadd hx hb dX12_putCosine_339 ?_
              refine lv_istore (lv' := [(9, Iz (uu + 1)), (8, Iz (0)), (7, Iz (uu)), (6, Iz (z312)), (0, .ref h0), (1, Iz (sl)), (2, Iz (up)), (3, Iz (n)), (4, Iz (hf))]) hx hb dX12_putCosine_340 hl (by decide) rfl (fun ls hl => ?_)
              refine r_loop (P := fun N_ H locs ls => ∃ (l8 : Int) (l9 : Int), N_ = (n + 2 - l9).toNat ∧ (1 ≤ l9) ∧ (l9 ≤ n + 1) ∧ (0 ≤ l8) ∧ (l8 ≤ l9) ∧ va_P (dC, dI) rcl (mW h0 ad cI cJ cB cZ F312 ar312) H ∧ va_D (rA h0 ad s.heap.size) (mW h0 ad cI cJ cB cZ F312 ar312) ∧ va_S (rA h0 ad s.heap.size) s.heap H locs ∧ lv_has ls 10 [(0, .ref h0), (1, Iz (sl)), (2, Iz (up)), (3, Iz (n)), (4, Iz (hf)), (6, Iz (z312)), (7, Iz (uu)), (8, Iz (l8)), (9, Iz (l9))]) (g := fun ls => F0 m 342 ls []) (fun N_ H locs ls hI ih_342 => ?_) _ _ _ _ ⟨0, (uu + 1), rfl, (by omega), (by omega), (by omega), (by omega), hP, hD, hS, lv_sub hl [4, 5, 6, 7, 8, 3, 2, 1, 0] rfl⟩
              obtain ⟨l8, l9, rfl, b0_, b1_, b2_, b3_, hP, hD, hS, hl⟩ := hI
              refine lv_iconst (v := Int32.ofInt (2)) hx hb dX12_putCosine_342 (by decide) ?_
              refine lv_iload hx hb dX12_putCosine_343 (lv_at hl 8 rfl) ?_
              refine g_imul hx hb dX12_putCosine_345 ?_
              refine lv_iload_n hx hb dX12_putCosine_346 rfl (lv_at hl 3 rfl) ?_
              refine g_icmp_ge (tgt := 379) hx hb (by first | assumption | exact ⟨by omega, by omega⟩ | exact Hh _) (by first | assumption | exact ⟨by omega, by omega⟩ | exact Hh _) dX12_putCosine_347 (by decide) (fun c_347 => ?_) (fun c_347 => ?_)
              · skip
                refine lv_aload_n hx hb dX12_putCosine_379 rfl (lv_at hl 0 rfl) ?_
                refine lv_iload_n hx hb dX12_putCosine_380 rfl (lv_at hl 1 rfl) ?_
                refine lv_iload hx hb dX12_putCosine_381 (lv_at hl 5 rfl) ?_
                refine lv_iload hx hb dX12_putCosine_383 (lv_at hl 7 rfl) ?_
                have r25 : F312 25 = F 25 := (x1 25 (by decide) (by decide) (by decide)).trans ((d4.1 25 (by decide)).trans (f2 25 (by decide)))
                have d9 : ar312 1 z312 ≤ dd := by rw [← d5]; exact x9
                refine r_calli (As := [Iz (sl), Iz (z312), Iz (l8)]) (rest := []) E (c_put (F := F312) (ar := ar312) (sl := sl) (q := z312) (pl := l8) x6 x7 x3 x8 (by omega) x10 (by omega) (by omega) s0 s1) (cwV 3 hts (rGood ml_295 mi_put ms_put mn_RX12 mc_put) rfl rfl rfl (by decide +kernel) ⟨Nat.le_of_ble_eq_true rfl, Nat.le_of_ble_eq_true rfl⟩) hK hP hD hS hA rfl hl.1 (Nat.le_of_ble_eq_true rfl) dX12_putCosine_385 ⟨Nat.le_refl 0, Nat.le_refl 0⟩ (fun z385 F385 ar385 H locs q385 hP hD hS => ?_)
                obtain ⟨zz9, p2_, p3_⟩ := q385
                have hpost : (z385 : Int) = (if n < 3 then 0 else if F 25 < copn n.toNat n.toNat / 2 then -105 else 0) ∧ (∀ j : Nat, j ≠ 2 → j ≠ 3 → j ≠ 4 → F385 j = F j) := ⟨by rw [if_neg (by omega), if_neg (by rw [← q37]; omega)]; exact zz9, fun j a b c => by rw [p2_]; exact (x1 j a b c).trans ((d4.1 j a).trans (f2 j a))⟩
                exact W.iret (v := Int32.ofInt (z385)) hx hb hr (fun t ht hW => ⟨⟨_, (F385, ar385), rfl, ⟨_, rfl, hpost⟩, by rw [ht]; exact hP, va_K.moved hW.alike hK, hD⟩, hS.F ht⟩) hS.2.2 dX12_putCosine_388
              · skip
                refine lv_iload hx hb dX12_putCosine_350 (lv_at hl 7 rfl) ?_
                refine lv_iload hx hb dX12_putCosine_352 (lv_at hl 8 rfl) ?_
                refine g_i2l hx hb ⟨by omega, by omega⟩ dX12_putCosine_354 ?_
                refine lv_iload_n hx hb dX12_putCosine_355 rfl (lv_at hl 3 rfl) ?_
                refine g_i2l hx hb (by first | assumption | exact ⟨by omega, by omega⟩ | exact Hh _) dX12_putCosine_356 ?_
                refine r_callsl (As := [Jz (l9), Jz (n)]) (rest := [Iz (l8)]) E (c_divisorOf (by omega) (by omega) (by omega) (by omega)) (cwS 2 hts (rGoodS ml_481 mt_divisorOf mn_RX12 mc_divisorOf) rfl rfl rfl (by decide +kernel) ⟨Nat.le_of_ble_eq_true rfl, Nat.le_of_ble_eq_true rfl⟩) (B := va_P (dC, dI) rcl (mW h0 ad cI cJ cB cZ F312 ar312)) (r_kept hP) hS rfl hl.1 (Nat.le_of_ble_eq_true rfl) dX12_putCosine_357 ⟨Nat.le_refl 0, Nat.le_refl 0⟩ (fun z357 H locs q357 hP hS => ?_)
                have gb : 0 ≤ z357 ∧ z357 ≤ 480 := by
                                          rw [q357]
                                          have := Nat.gcd_le_right l9.toNat (n := n.toNat) (by omega)
                                          omega
                refine lv_lconst (v := Int64.ofInt 1) hx hb dX12_putCosine_360 rfl ?_
                refine g_lcmp hx hb ⟨by omega, by omega⟩ ⟨by omega, by omega⟩ dX12_putCosine_361 ?_
                refine g_if_ne (tgt := 369) hx hb (g_cmp_i _ _) dX12_putCosine_362 (by decide) (fun c_362 => ?_) (fun c_362 => ?_)
                · skip
                  refine lv_iconst (v := Int32.ofInt (0)) hx hb dX12_putCosine_369 (by decide) ?_
                  refine g_iadd hx hb dX12_putCosine_370 ?_
                  refine lv_istore (lv' := [(8, Iz (l8 + 0)), (0, .ref h0), (1, Iz (sl)), (2, Iz (up)), (3, Iz (n)), (4, Iz (hf)), (6, Iz (z312)), (7, Iz (uu)), (9, Iz (l9))]) hx hb dX12_putCosine_371 hl (by decide) rfl (fun ls hl => ?_)
                  refine g_iinc (k := 8) (z := l9) (n := (1)) (lv' := [(9, Iz (l9 + 1)), (8, Iz (l8 + 0)), (0, .ref h0), (1, Iz (sl)), (2, Iz (up)), (3, Iz (n)), (4, Iz (hf)), (6, Iz (z312)), (7, Iz (uu))]) hx hb dX12_putCosine_373 hl rfl (by decide) rfl (fun ls hl => ?_)
                  refine lv_goto (tgt := 342) hx hb dX12_putCosine_376 (by decide) ?_
                  exact ih_342 _ (by omega) _ _ _ ⟨(l8 + 0), (l9 + 1), rfl, (by omega), (by omega), (by omega), (by omega), hP, hD, hS, lv_sub hl [2, 3, 4, 5, 6, 7, 8, 1, 0] rfl⟩
                · skip
                  refine lv_iconst (v := Int32.ofInt (1)) hx hb dX12_putCosine_365 (by decide) ?_
                  refine lv_goto (tgt := 370) hx hb dX12_putCosine_366 (by decide) ?_
                  refine g_iadd hx hb dX12_putCosine_370 ?_
                  refine lv_istore (lv' := [(8, Iz (l8 + 1)), (0, .ref h0), (1, Iz (sl)), (2, Iz (up)), (3, Iz (n)), (4, Iz (hf)), (6, Iz (z312)), (7, Iz (uu)), (9, Iz (l9))]) hx hb dX12_putCosine_371 hl (by decide) rfl (fun ls hl => ?_)
                  refine g_iinc (k := 8) (z := l9) (n := (1)) (lv' := [(9, Iz (l9 + 1)), (8, Iz (l8 + 1)), (0, .ref h0), (1, Iz (sl)), (2, Iz (up)), (3, Iz (n)), (4, Iz (hf)), (6, Iz (z312)), (7, Iz (uu))]) hx hb dX12_putCosine_373 hl rfl (by decide) rfl (fun ls hl => ?_)
                  refine lv_goto (tgt := 342) hx hb dX12_putCosine_376 (by decide) ?_
                  exact ih_342 _ (by omega) _ _ _ ⟨(l8 + 1), (l9 + 1), rfl, (by omega), (by omega), (by omega), (by omega), hP, hD, hS, lv_sub hl [2, 3, 4, 5, 6, 7, 8, 1, 0] rfl⟩
            · skip
              refine lv_iconst (v := Int32.ofInt (2)) hx hb dX12_putCosine_317 (by decide) ?_
              refine lv_iload_n hx hb dX12_putCosine_318 rfl (lv_at hl 3 rfl) ?_
              refine g_imul hx hb dX12_putCosine_319 ?_
              refine lv_iload_n hx hb dX12_putCosine_320 rfl (lv_at hl 4 rfl) ?_
              refine g_icmp_le (tgt := 330) hx hb (by first | assumption | exact ⟨by omega, by omega⟩ | exact Hh _) (by first | assumption | exact ⟨by omega, by omega⟩ | exact Hh _) dX12_putCosine_321 (by decide) (fun c_321 => ?_) (fun c_321 => ?_)
              · skip
                refine lv_iload_n hx hb dX12_putCosine_330 rfl (lv_at hl 3 rfl) ?_
                exact k_331 _ (by omega)
              · skip
                refine lv_iload_n hx hb dX12_putCosine_324 rfl (lv_at hl 4 rfl) ?_
                refine lv_iload_n hx hb dX12_putCosine_325 rfl (lv_at hl 3 rfl) ?_
                refine g_isub hx hb dX12_putCosine_326 ?_
                refine lv_goto (tgt := 331) hx hb dX12_putCosine_327 (by decide) ?_
                exact k_331 _ (by omega)
          · skip
            refine lv_aload_n hx hb dX12_putCosine_273 rfl (lv_at hl 0 rfl) ?_
            refine r_geti E hK hP (k := 6) (v := .ref (ad 6)) (by decide) mf_86 rfl rfl dX12_putCosine_274 ?_
            refine lv_iload hx hb dX12_putCosine_277 (lv_at hl 5 rfl) ?_
            refine lv_aload_n hx hb dX12_putCosine_279 rfl (lv_at hl 0 rfl) ?_
            refine lv_aload_n hx hb dX12_putCosine_280 rfl (lv_at hl 0 rfl) ?_
            refine lv_aload_n hx hb dX12_putCosine_281 rfl (lv_at hl 0 rfl) ?_
            refine r_geti E hK hP (k := 51) (v := .ref (ad 51)) (by decide) mf_501 rfl rfl dX12_putCosine_282 ?_
            refine lv_iload hx hb dX12_putCosine_285 (lv_at hl 5 rfl) ?_
            refine g_lald (f := (ar5 51)) hx hb hK hP 25 1 rfl rfl (by omega) (by omega) (by decide) dX12_putCosine_287 ?_
            obtain ⟨wv, ewv, wv0, wv1⟩ : ∃ w : Int, Jz (ar5 51 i) = Jz w ∧ -9223372036854775808 ≤ w ∧ w < 9223372036854775808 := ⟨(Int64.ofInt (ar5 51 i)).toInt, (congrArg Value.long (Int64.ofInt_toInt _)).symm, by have := Int64.le_toInt (Int64.ofInt (ar5 51 i)); omega, by have := Int64.toInt_lt (Int64.ofInt (ar5 51 i)); omega⟩
            rw [ewv]
            refine r_calli (As := [Jz (wv)]) (rest := [.ref h0, Iz (i), .ref (ad 6)]) E (c_whole (F := F5) (ar := ar5) t0 (by omega) h1 wv0 wv1) (cwV 1 hts (rGood ml_41 mi_whole ms_whole mn_RX12 mc_whole) rfl rfl rfl (by decide +kernel) ⟨Nat.le_of_ble_eq_true rfl, Nat.le_of_ble_eq_true rfl⟩) hK hP hD hS hA rfl hl.1 (Nat.le_of_ble_eq_true rfl) dX12_putCosine_288 ⟨Nat.le_refl 0, Nat.le_refl 0⟩ (fun z288 F288 ar288 H locs q288 hP hD hS => ?_)
            obtain ⟨zz, w1, w2, w3, w4, w5, w6⟩ := q288
            obtain rfl : z288 = F5 2 := zz
            have sw := nsz_nonneg (ar288 1) (F5 2)
            refine lv_iload hx hb dX12_putCosine_291 (lv_at hl 5 rfl) ?_
            refine r_calli (As := [Iz (F5 2), Iz (i)]) (rest := [Iz (i), .ref (ad 6)]) E (c_raised (F := F288) (ar := ar288) (a := F5 2) (sh := i) (by omega) (by omega) (by omega) (by omega) w1.2.2.2 w2 (by omega) (by omega)) (cwV 2 hts (rGood ml_56 mi_raised ms_raised mn_RX12 mc_raised) rfl rfl rfl (by decide +kernel) ⟨Nat.le_of_ble_eq_true rfl, Nat.le_of_ble_eq_true rfl⟩) hK hP hD hS hA rfl hl.1 (Nat.le_of_ble_eq_true rfl) dX12_putCosine_293 ⟨Nat.le_refl 0, Nat.le_refl 0⟩ (fun z293 F293 ar293 H locs q293 hP hD hS => ?_)
            obtain ⟨zz2, v1, v2, v3, v4, v5⟩ := q293
            obtain rfl : z293 = F288 2 := zz2
            refine g_iast (f := (ar293 6)) hx hb hK hP hD hS 3 0 rfl rfl (by omega) (by omega) (by decide) dX12_putCosine_296 (fun H locs hP hD hS => ?_)
            rw [sa_6] at hP hD
            have e6 : ar293 6 = ar5 6 := (v1.2.1 6 (by decide)).trans (w1.2.1 6 (by decide))
            have sv := nsz_nonneg (ar293 1) (F288 2)
            have pw : ∀ k : Nat, k ≤ 10 → (2 : Int) ^ k ≤ 1024 ∧ 0 ≤ (2 : Int) ^ k := by decide
            have pi_ := pw i.toNat (by omega)
            have sv3 : nsz (ar293 1) (F288 2) ≤ 3 := size3 v1.2.2.2 v2 (by
                                          rw [v5, w6]
                                          have m1_ : (if wv < 0 then 0 - wv else wv) * 2 ^ i.toNat ≤ 9223372036854775808 * 1024 := Int.mul_le_mul (by split <;> omega) pi_.1 pi_.2 (by decide)
                                          have m2_ : (9223372036854775808 : Int) * 1024 < 2147483648 ^ 3 := by decide
                                          omega)
            have rn : ∀ t : Int, 0 ≤ t → t < i + 1 → 0 ≤ iup (ar293 6) i (F288 2) t ∧ iup (ar293 6) i (F288 2) t + nsz (ar293 1) (iup (ar293 6) i (F288 2) t) < F293 2 ∧ nsz (ar293 1) (iup (ar293 6) i (F288 2) t) ≤ 3 ∧ nm (ar293 1) (iup (ar293 6) i (F288 2) t) := by
                                          intro t h1_ h2_
                                          by_cases e : t = i
                                          · rw [e, iup_self]; exact ⟨by omega, by omega, sv3, v2⟩
                                          · rw [iup_ne (by omega), e6]
                                            have w7 := rw_ t h1_ (by omega)
                                            have s7 := nsz_nonneg (ar5 1) (ar5 6 t)
                                            have ag : ∀ y : Int, y < F5 2 → ar293 1 y = ar5 1 y := fun y hy => (v1.2.2.1 y (by omega)).trans (w1.2.2.1 y hy)
                                            have en : nsz (ar293 1) (ar5 6 t) = nsz (ar5 1) (ar5 6 t) := nsz_agree (ag _ (by omega))
                                            rw [en]
                                            exact ⟨by omega, by omega, by omega, nm_agree (fun y a b => ag y (by omega)) w7.2.2.2⟩
            refine g_iinc (k := 5) (z := i) (n := (1)) (lv' := [(6, Iz (i + 1)), (0, .ref h0), (1, Iz (sl)), (2, Iz (up)), (3, Iz (n)), (4, Iz (hf))]) hx hb dX12_putCosine_297 hl rfl (by decide) rfl (fun ls hl => ?_)
            refine lv_goto (tgt := 266) hx hb dX12_putCosine_300 (by decide) ?_
            exact ih_266 _ (by omega) _ _ _ ⟨F293, (aup ar293 6 (iup (ar293 6) i (F288 2))), (i + 1), rfl, (by omega), (by omega), (fun j a => (v1.1 j a).trans ((w1.1 j a).trans (f2 j a))), (by omega), (by omega), (v1.2.2.2), (hok_up (by rw [e6]; exact h6) (by omega) (by omega)), ((v1.2.1 5 (by decide)).trans ((w1.2.1 5 (by decide)).trans h5)), (rn), hP, hD, hS, lv_sub hl [1, 2, 3, 4, 5, 0] rfl⟩
        · skip
          refine lv_iconst (v := Int32.ofInt (0)) hx hb dX12_putCosine_142 (by decide) ?_
          refine lv_istore (lv' := [(7, Iz (0)), (0, .ref h0), (1, Iz (sl)), (2, Iz (up)), (3, Iz (n)), (4, Iz (hf)), (6, Iz (j2))]) hx hb dX12_putCosine_143 hl (by decide) rfl (fun ls hl => ?_)
          refine r_loop (P := fun N_ H locs ls => ∃ (ar3 : Nat → Int → Int) (k2 : Int), N_ = (20 - k2).toNat ∧ (0 ≤ k2) ∧ (k2 ≤ hf + 1) ∧ (∀ j : Nat, j ≠ 51 → j ≠ 49 → j ≠ 50 → ar3 j = ar58 j) ∧ va_P (dC, dI) rcl (mW h0 ad cI cJ cB cZ (fup F 2 0) ar3) H ∧ va_D (rA h0 ad s.heap.size) (mW h0 ad cI cJ cB cZ (fup F 2 0) ar3) ∧ va_S (rA h0 ad s.heap.size) s.heap H locs ∧ lv_has ls 10 [(0, .ref h0), (1, Iz (sl)), (2, Iz (up)), (3, Iz (n)), (4, Iz (hf)), (6, Iz (j2)), (7, Iz (k2))]) (g := fun ls => F0 m 145 ls []) (fun N_ H locs ls hI ih_145 => ?_) _ _ _ _ ⟨ar2, 0, rfl, (Int.le_refl 0), (by omega), (q2), hP, hD, hS, lv_sub hl [1, 2, 3, 4, 5, 6, 0] rfl⟩
          obtain ⟨ar3, k2, rfl, k0_, k1_, q3, hP, hD, hS, hl⟩ := hI
          refine lv_iload hx hb dX12_putCosine_145 (lv_at hl 6 rfl) ?_
          refine lv_iload hx hb dX12_putCosine_147 (lv_at hl 4 rfl) ?_
          refine g_icmp_gt (tgt := 191) hx hb (by first | assumption | exact ⟨by omega, by omega⟩ | exact Hh _) (by first | assumption | exact ⟨by omega, by omega⟩ | exact Hh _) dX12_putCosine_149 (by decide) (fun c_149 => ?_) (fun c_149 => ?_)
          · skip
            refine lv_bipush (v := Int32.ofInt (15)) hx hb dX12_putCosine_191 (by decide) ?_
            refine lv_istore (lv' := [(7, Iz (15)), (0, .ref h0), (1, Iz (sl)), (2, Iz (up)), (3, Iz (n)), (4, Iz (hf)), (6, Iz (j2))]) hx hb dX12_putCosine_193 hl (by decide) rfl (fun ls hl => ?_)
            refine r_loop (P := fun N_ H locs ls => ∃ (ar4 : Nat → Int → Int) (k3 : Int), N_ = (k3 + 1).toNat ∧ (-1 ≤ k3) ∧ (k3 ≤ 15) ∧ (∀ j : Nat, j ≠ 51 → j ≠ 49 → j ≠ 50 → ar4 j = ar58 j) ∧ va_P (dC, dI) rcl (mW h0 ad cI cJ cB cZ (fup F 2 0) ar4) H ∧ va_D (rA h0 ad s.heap.size) (mW h0 ad cI cJ cB cZ (fup F 2 0) ar4) ∧ va_S (rA h0 ad s.heap.size) s.heap H locs ∧ lv_has ls 10 [(0, .ref h0), (1, Iz (sl)), (2, Iz (up)), (3, Iz (n)), (4, Iz (hf)), (6, Iz (j2)), (7, Iz (k3))]) (g := fun ls => F0 m 195 ls []) (fun N_ H locs ls hI ih_195 => ?_) _ _ _ _ ⟨ar3, 15, rfl, (by decide), (by decide), (q3), hP, hD, hS, lv_sub hl [1, 2, 3, 4, 5, 6, 0] rfl⟩
            obtain ⟨ar4, k3, rfl, m0_, m1_, q4, hP, hD, hS, hl⟩ := hI
            refine lv_iload hx hb dX12_putCosine_195 (lv_at hl 6 rfl) ?_
            refine g_if_lt (tgt := 257) hx hb (by first | assumption | exact ⟨by omega, by omega⟩ | exact Hh _) dX12_putCosine_197 (by decide) (fun c_197 => ?_) (fun c_197 => ?_)
            · skip
              refine g_iinc (k := 5) (z := j2) (n := (1)) (lv' := [(6, Iz (j2 + 1)), (0, .ref h0), (1, Iz (sl)), (2, Iz (up)), (3, Iz (n)), (4, Iz (hf)), (7, Iz (k3))]) hx hb dX12_putCosine_257 hl rfl (by decide) rfl (fun ls hl => ?_)
              refine lv_goto (tgt := 135) hx hb dX12_putCosine_260 (by decide) ?_
              exact ih_135 _ (by omega) _ _ _ ⟨ar4, (j2 + 1), rfl, (by omega), (by omega), (q4), hP, hD, hS, lv_sub hl [1, 2, 3, 4, 5, 0] rfl⟩
            · skip
              refine r_join (P := fun z : Int => z = z) (g := fun z => F0 m 218 ls [Jz z]) (fun pv hpv => ?_) (fun k_218 => ?_)
              · skip
                refine lv_aload_n hx hb dX12_putCosine_218 rfl (lv_at hl 0 rfl) ?_
                refine r_geti E hK hP (k := 49) (v := .ref (ad 49)) (by decide) mf_504 rfl rfl dX12_putCosine_219 ?_
                refine lv_iload hx hb dX12_putCosine_222 (lv_at hl 6 rfl) ?_
                refine g_lald (f := (ar4 49)) hx hb hK hP 23 1 rfl rfl (by omega) (by omega) (by decide) dX12_putCosine_224 ?_
                refine g_lsub hx hb dX12_putCosine_225 ?_
                refine lv_lstore (lv' := [(8, Jz (pv - ((ar4 49) k3))), (0, .ref h0), (1, Iz (sl)), (2, Iz (up)), (3, Iz (n)), (4, Iz (hf)), (6, Iz (j2)), (7, Iz (k3))]) hx hb dX12_putCosine_226 hl (by decide) rfl (fun ls hl => ?_)
                refine lv_aload_n hx hb dX12_putCosine_228 rfl (lv_at hl 1 rfl) ?_
                refine r_geti E hK hP (k := 49) (v := .ref (ad 49)) (by decide) mf_504 rfl rfl dX12_putCosine_229 ?_
                refine lv_iload hx hb dX12_putCosine_232 (lv_at hl 7 rfl) ?_
                refine lv_aload_n hx hb dX12_putCosine_234 rfl (lv_at hl 1 rfl) ?_
                refine r_geti E hK hP (k := 50) (v := .ref (ad 50)) (by decide) mf_507 rfl rfl dX12_putCosine_235 ?_
                refine lv_iload hx hb dX12_putCosine_238 (lv_at hl 7 rfl) ?_
                refine g_lald (f := (ar4 50)) hx hb hK hP 24 1 rfl rfl (by omega) (by omega) (by decide) dX12_putCosine_240 ?_
                refine g_last (f := (ar4 49)) hx hb hK hP hD hS 23 1 rfl rfl (by omega) (by omega) (by decide) dX12_putCosine_241 (fun H locs hP hD hS => ?_)
                rw [sa_49] at hP hD
                refine lv_aload_n hx hb dX12_putCosine_242 rfl (lv_at hl 1 rfl) ?_
                refine r_geti E hK hP (k := 50) (v := .ref (ad 50)) (by decide) mf_507 rfl rfl dX12_putCosine_243 ?_
                refine lv_iload hx hb dX12_putCosine_246 (lv_at hl 7 rfl) ?_
                refine lv_lload hx hb dX12_putCosine_248 (lv_at hl 0 rfl) ?_
                refine g_last (f := (ar4 50)) hx hb hK hP hD hS 24 1 rfl rfl (by omega) (by omega) (by decide) dX12_putCosine_250 (fun H locs hP hD hS => ?_)
                rw [sa_50] at hP hD
                refine g_iinc (k := 7) (z := k3) (n := (-1)) (lv' := [(7, Iz (k3 + (-1))), (8, Jz (pv - ((ar4 49) k3))), (0, .ref h0), (1, Iz (sl)), (2, Iz (up)), (3, Iz (n)), (4, Iz (hf)), (6, Iz (j2))]) hx hb dX12_putCosine_251 hl rfl (by decide) rfl (fun ls hl => ?_)
                refine lv_goto (tgt := 195) hx hb dX12_putCosine_254 (by decide) ?_
                exact ih_195 _ (by omega) _ _ _ ⟨(aup (aup ar4 49 (iup (ar4 49) k3 ((ar4 50) k3))) 50 (iup (ar4 50) k3 (pv - ((ar4 49) k3)))), (k3 + (-1)), rfl, (by omega), (by omega), (fun j h1 h2 h3 => by rw [aup_ne _ _ h3, aup_ne _ _ h2]; exact q4 j h1 h2 h3), hP, hD, hS, lv_sub hl [2, 3, 4, 5, 6, 7, 0] rfl⟩
              · skip
                refine lv_iload hx hb dX12_putCosine_200 (lv_at hl 6 rfl) ?_
                refine g_if_le (tgt := 217) hx hb (by first | assumption | exact ⟨by omega, by omega⟩ | exact Hh _) dX12_putCosine_202 (by decide) (fun c_202 => ?_) (fun c_202 => ?_)
                · skip
                  refine lv_lconst (v := Int64.ofInt 0) hx hb dX12_putCosine_217 rfl ?_
                  exact k_218 _ rfl
                · skip
                  refine lv_aload_n hx hb dX12_putCosine_205 rfl (lv_at hl 0 rfl) ?_
                  refine r_geti E hK hP (k := 50) (v := .ref (ad 50)) (by decide) mf_507 rfl rfl dX12_putCosine_206 ?_
                  refine lv_iload hx hb dX12_putCosine_209 (lv_at hl 6 rfl) ?_
                  refine lv_iconst (v := Int32.ofInt (1)) hx hb dX12_putCosine_211 (by decide) ?_
                  refine g_isub hx hb dX12_putCosine_212 ?_
                  refine g_lald (f := (ar4 50)) hx hb hK hP 24 1 rfl rfl (by omega) (by omega) (by decide) dX12_putCosine_213 ?_
                  refine lv_goto (tgt := 218) hx hb dX12_putCosine_214 (by decide) ?_
                  exact k_218 _ rfl
          · skip
            refine lv_aload_n hx hb dX12_putCosine_152 rfl (lv_at hl 0 rfl) ?_
            refine r_geti E hK hP (k := 51) (v := .ref (ad 51)) (by decide) mf_501 rfl rfl dX12_putCosine_153 ?_
            refine lv_iload hx hb dX12_putCosine_156 (lv_at hl 6 rfl) ?_
            refine lv_aload_n hx hb dX12_putCosine_158 rfl (lv_at hl 0 rfl) ?_
            refine r_geti E hK hP (k := 51) (v := .ref (ad 51)) (by decide) mf_501 rfl rfl dX12_putCosine_159 ?_
            refine lv_iload hx hb dX12_putCosine_162 (lv_at hl 6 rfl) ?_
            refine g_lald (f := (ar3 51)) hx hb hK hP 25 1 rfl rfl (by omega) (by omega) (by decide) dX12_putCosine_164 ?_
            refine lv_aload_n hx hb dX12_putCosine_165 rfl (lv_at hl 0 rfl) ?_
            refine r_geti E hK hP (k := 48) (v := .ref (ad 48)) (by decide) mf_485 rfl rfl dX12_putCosine_166 ?_
            refine lv_iload hx hb dX12_putCosine_169 (lv_at hl 4 rfl) ?_
            refine lv_iload hx hb dX12_putCosine_171 (lv_at hl 5 rfl) ?_
            refine g_iadd hx hb dX12_putCosine_173 ?_
            refine g_lald (f := (ar3 48)) hx hb hK hP 22 1 rfl rfl (by omega) (by omega) (by decide) dX12_putCosine_174 ?_
            refine lv_aload_n hx hb dX12_putCosine_175 rfl (lv_at hl 0 rfl) ?_
            refine r_geti E hK hP (k := 50) (v := .ref (ad 50)) (by decide) mf_507 rfl rfl dX12_putCosine_176 ?_
            refine lv_iload hx hb dX12_putCosine_179 (lv_at hl 6 rfl) ?_
            refine g_lald (f := (ar3 50)) hx hb hK hP 24 1 rfl rfl (by omega) (by omega) (by decide) dX12_putCosine_181 ?_
            refine g_lmul hx hb dX12_putCosine_182 ?_
            refine g_ladd hx hb dX12_putCosine_183 ?_
            refine g_last (f := (ar3 51)) hx hb hK hP hD hS 25 1 rfl rfl (by omega) (by omega) (by decide) dX12_putCosine_184 (fun H locs hP hD hS => ?_)
            rw [sa_51] at hP hD
            refine g_iinc (k := 6) (z := k2) (n := (1)) (lv' := [(7, Iz (k2 + 1)), (0, .ref h0), (1, Iz (sl)), (2, Iz (up)), (3, Iz (n)), (4, Iz (hf)), (6, Iz (j2))]) hx hb dX12_putCosine_185 hl rfl (by decide) rfl (fun ls hl => ?_)
            refine lv_goto (tgt := 145) hx hb dX12_putCosine_188 (by decide) ?_
            exact ih_145 _ (by omega) _ _ _ ⟨(aup ar3 51 (iup (ar3 51) k2 (((ar3 51) k2) + (((ar3 48) (hf + j2)) * ((ar3 50) k2))))), (k2 + 1), rfl, (by omega), (by omega), (fun j h1 h2 h3 => by rw [aup_ne _ _ h1]; exact q3 j h1 h2 h3), hP, hD, hS, lv_sub hl [1, 2, 3, 4, 5, 6, 0] rfl⟩
      · skip
        refine lv_aload_n hx hb dX12_putCosine_73 rfl (lv_at hl 0 rfl) ?_
        refine r_geti E hK hP (k := 51) (v := .ref (ad 51)) (by decide) mf_501 rfl rfl dX12_putCosine_74 ?_
        refine lv_iload hx hb dX12_putCosine_77 (lv_at hl 5 rfl) ?_
        refine lv_lconst (v := Int64.ofInt 0) hx hb dX12_putCosine_79 rfl ?_
        refine g_last (f := (ar1 51)) hx hb hK hP hD hS 25 1 rfl rfl (by omega) (by omega) (by decide) dX12_putCosine_80 (fun H locs hP hD hS => ?_)
        rw [sa_51] at hP hD
        refine lv_aload_n hx hb dX12_putCosine_81 rfl (lv_at hl 0 rfl) ?_
        refine r_geti E hK hP (k := 49) (v := .ref (ad 49)) (by decide) mf_504 rfl rfl dX12_putCosine_82 ?_
        refine lv_iload hx hb dX12_putCosine_85 (lv_at hl 5 rfl) ?_
        refine lv_lconst (v := Int64.ofInt 0) hx hb dX12_putCosine_87 rfl ?_
        refine g_last (f := (ar1 49)) hx hb hK hP hD hS 23 1 rfl rfl (by omega) (by omega) (by decide) dX12_putCosine_88 (fun H locs hP hD hS => ?_)
        rw [sa_49] at hP hD
        refine lv_aload_n hx hb dX12_putCosine_89 rfl (lv_at hl 0 rfl) ?_
        refine r_geti E hK hP (k := 50) (v := .ref (ad 50)) (by decide) mf_507 rfl rfl dX12_putCosine_90 ?_
        refine lv_iload hx hb dX12_putCosine_93 (lv_at hl 5 rfl) ?_
        refine lv_lconst (v := Int64.ofInt 0) hx hb dX12_putCosine_95 rfl ?_
        refine g_last (f := (ar1 50)) hx hb hK hP hD hS 24 1 rfl rfl (by omega) (by omega) (by decide) dX12_putCosine_96 (fun H locs hP hD hS => ?_)
        rw [sa_50] at hP hD
        refine g_iinc (k := 5) (z := i) (n := (1)) (lv' := [(6, Iz (i + 1)), (0, .ref h0), (1, Iz (sl)), (2, Iz (up)), (3, Iz (n)), (4, Iz (hf))]) hx hb dX12_putCosine_97 hl rfl (by decide) rfl (fun ls hl => ?_)
        refine lv_goto (tgt := 66) hx hb dX12_putCosine_100 (by decide) ?_
        exact ih_66 _ (by omega) _ _ _ ⟨(aup (aup (aup ar1 51 (iup (ar1 51) i 0)) 49 (iup (ar1 49) i 0)) 50 (iup (ar1 50) i 0)), (i + 1), rfl, (by omega), (by omega), (fun j h1 h2 h3 => by rw [aup_ne _ _ h3, aup_ne _ _ h2, aup_ne _ _ h1]; exact q1 j h1 h2 h3), hP, hD, hS, lv_sub hl [1, 2, 3, 4, 5, 0] rfl⟩
    · skip
      refine lv_bipush (v := Int32.ofInt (-105)) hx hb dX12_putCosine_53 (by decide) ?_
      have hpost : ((-105) : Int) = (if n < 3 then 0 else if F 25 < copn n.toNat n.toNat / 2 then -105 else 0) ∧ (∀ j : Nat, j ≠ 2 → j ≠ 3 → j ≠ 4 → (fup F 2 0) j = F j) := ⟨by rw [if_neg (by omega), if_pos (by rw [← q37]; omega)], fun j a b c => fup_ne _ _ a⟩
      exact W.iret (v := Int32.ofInt ((-105))) hx hb hr (fun t ht hW => ⟨⟨_, ((fup F 2 0), ar), rfl, ⟨_, rfl, hpost⟩, by rw [ht]; exact hP, va_K.moved hW.alike hK, hD⟩, hS.F ht⟩) hS.2.2 dX12_putCosine_55
  · skip
    refine lv_aload_n hx hb dX12_putCosine_9 rfl (lv_at hl 0 rfl) ?_
    refine lv_iload_n hx hb dX12_putCosine_10 rfl (lv_at hl 1 rfl) ?_
    refine lv_aload_n hx hb dX12_putCosine_11 rfl (lv_at hl 0 rfl) ?_
    refine lv_iload_n hx hb dX12_putCosine_12 rfl (lv_at hl 3 rfl) ?_
    refine lv_iconst (v := Int32.ofInt (1)) hx hb dX12_putCosine_13 (by decide) ?_
    refine g_icmp_ne (tgt := 21) hx hb (by first | assumption | exact ⟨by omega, by omega⟩ | exact Hh _) (by first | assumption | exact ⟨by omega, by omega⟩ | exact Hh _) dX12_putCosine_14 (by decide) (fun c_14 => ?_) (fun c_14 => ?_)
    · skip
      refine lv_ldc2 (v := Int64.ofInt (-1)) hx hb hown (hts _ (List.mem_cons_of_mem _ mj_208)) dX12_putCosine_21 ?_
      refine r_calli (As := [Jz (-1)]) (rest := [Iz (sl), .ref h0]) E (c_whole (F := (fup F 2 0)) (ar := ar) (Int.le_refl 0) (show (0 : Int) + 4 < 6000000 by decide) hk (by decide) (by decide)) (cwV 1 hts (rGood ml_41 mi_whole ms_whole mn_RX12 mc_whole) rfl rfl rfl (by decide +kernel) ⟨Nat.le_of_ble_eq_true rfl, Nat.le_of_ble_eq_true rfl⟩) hK hP hD hS hA rfl hl.1 (Nat.le_of_ble_eq_true rfl) dX12_putCosine_24 ⟨Nat.le_refl 0, Nat.le_refl 0⟩ (fun z24 F24 ar24 H locs q24 hP hD hS => ?_)
      obtain ⟨zz, w1, w2, w3, w4, w5, w6⟩ := q24
      obtain rfl : z24 = 0 := zz
      refine lv_aload_n hx hb dX12_putCosine_27 rfl (lv_at hl 0 rfl) ?_
      refine lv_lconst (v := Int64.ofInt 1) hx hb dX12_putCosine_28 rfl ?_
      have sw24 := nsz_nonneg (ar24 1) 0
      refine r_calli (As := [Jz (1)]) (rest := [Iz (0), Iz (sl), .ref h0]) E (c_whole (F := F24) (ar := ar24) (by omega) (by omega) w1.2.2.2 (by decide) (by decide)) (cwV 1 hts (rGood ml_41 mi_whole ms_whole mn_RX12 mc_whole) rfl rfl rfl (by decide +kernel) ⟨Nat.le_of_ble_eq_true rfl, Nat.le_of_ble_eq_true rfl⟩) hK hP hD hS hA rfl hl.1 (Nat.le_of_ble_eq_true rfl) dX12_putCosine_29 ⟨Nat.le_refl 0, Nat.le_refl 0⟩ (fun z29 F29 ar29 H locs q29 hP hD hS => ?_)
      obtain ⟨zz, k1, k2, k3, k4, k5_, k6⟩ := q29
      obtain rfl : z29 = F24 2 := zz
      have sw41 := nsz_nonneg (ar29 1) (F24 2)
      have e36 : nsz (ar29 1) 0 = nsz (ar24 1) 0 := nsz_agree (k1.2.2.1 0 (by omega))
      have n36 : nm (ar29 1) 0 := nm_agree (fun i h1 h2 => k1.2.2.1 i (by omega)) w2
      have k5 : ar29 5 = ar 5 := (k1.2.1 5 (by decide)).trans (w1.2.1 5 (by decide))
      have k6_ : ar29 6 = ar 6 := (k1.2.1 6 (by decide)).trans (w1.2.1 6 (by decide))
      have q25 : F29 25 = F 25 := (k1.1 25 (by decide)).trans ((w1.1 25 (by decide)).trans rfl)
      refine r_calli (As := [Iz (sl), Iz (0), Iz (F24 2)]) (rest := []) E (c_putFraction (F := F29) (ar := ar29) (sl := sl) (u := 0) (lo := F24 2) (by omega) (by omega) (Int.le_refl 0) (by omega) (by omega) n36 (by omega) (by omega) k4 k2 (fun q => by have := k5_ q; omega) s0 s1 (by omega) (by omega) k1.2.2.2 (by rw [k5]; exact hk5) (by rw [k6_]; exact hk6)) (cwV 3 hts (rGood ml_407 mi_putFraction ms_putFraction mn_RX12 mc_putFraction) rfl rfl rfl (by decide +kernel) ⟨Nat.le_of_ble_eq_true rfl, Nat.le_of_ble_eq_true rfl⟩) hK hP hD hS hA rfl hl.1 (Nat.le_of_ble_eq_true rfl) dX12_putCosine_32 ⟨Nat.le_refl 0, Nat.le_refl 0⟩ (fun z32 F32 ar32 H locs q32 hP hD hS => ?_)
      obtain ⟨zz, s2, s3⟩ := q32
      obtain rfl : z32 = 0 := zz
      have hpost : (0 : Int) = (if n < 3 then 0 else if F 25 < copn n.toNat n.toNat / 2 then -105 else 0) ∧ (∀ j : Nat, j ≠ 2 → j ≠ 3 → j ≠ 4 → F32 j = F j) := ⟨by rw [if_pos (by omega)], fun j a b c => (s2 j a b c).trans ((k1.1 j a).trans ((w1.1 j a).trans (fup_ne _ _ a)))⟩
      exact W.iret (v := Int32.ofInt (0)) hx hb hr (fun t ht hW => ⟨⟨_, (F32, ar32), rfl, ⟨_, rfl, hpost⟩, by rw [ht]; exact hP, va_K.moved hW.alike hK, hD⟩, hS.F ht⟩) hS.2.2 dX12_putCosine_35
    · skip
      refine lv_lconst (v := Int64.ofInt 1) hx hb dX12_putCosine_17 rfl ?_
      refine lv_goto (tgt := 24) hx hb dX12_putCosine_18 (by decide) ?_
      refine r_calli (As := [Jz (1)]) (rest := [Iz (sl), .ref h0]) E (c_whole (F := (fup F 2 0)) (ar := ar) (Int.le_refl 0) (show (0 : Int) + 4 < 6000000 by decide) hk (by decide) (by decide)) (cwV 1 hts (rGood ml_41 mi_whole ms_whole mn_RX12 mc_whole) rfl rfl rfl (by decide +kernel) ⟨Nat.le_of_ble_eq_true rfl, Nat.le_of_ble_eq_true rfl⟩) hK hP hD hS hA rfl hl.1 (Nat.le_of_ble_eq_true rfl) dX12_putCosine_24 ⟨Nat.le_refl 0, Nat.le_refl 0⟩ (fun z24 F24 ar24 H locs q24 hP hD hS => ?_)
      obtain ⟨zz, w1, w2, w3, w4, w5, w6⟩ := q24
      obtain rfl : z24 = 0 := zz
      refine lv_aload_n hx hb dX12_putCosine_27 rfl (lv_at hl 0 rfl) ?_
      refine lv_lconst (v := Int64.ofInt 1) hx hb dX12_putCosine_28 rfl ?_
      have sw24 := nsz_nonneg (ar24 1) 0
      refine r_calli (As := [Jz (1)]) (rest := [Iz (0), Iz (sl), .ref h0]) E (c_whole (F := F24) (ar := ar24) (by omega) (by omega) w1.2.2.2 (by decide) (by decide)) (cwV 1 hts (rGood ml_41 mi_whole ms_whole mn_RX12 mc_whole) rfl rfl rfl (by decide +kernel) ⟨Nat.le_of_ble_eq_true rfl, Nat.le_of_ble_eq_true rfl⟩) hK hP hD hS hA rfl hl.1 (Nat.le_of_ble_eq_true rfl) dX12_putCosine_29 ⟨Nat.le_refl 0, Nat.le_refl 0⟩ (fun z29 F29 ar29 H locs q29 hP hD hS => ?_)
      obtain ⟨zz, k1, k2, k3, k4, k5_, k6⟩ := q29
      obtain rfl : z29 = F24 2 := zz
      have sw41 := nsz_nonneg (ar29 1) (F24 2)
      have e36 : nsz (ar29 1) 0 = nsz (ar24 1) 0 := nsz_agree (k1.2.2.1 0 (by omega))
      have n36 : nm (ar29 1) 0 := nm_agree (fun i h1 h2 => k1.2.2.1 i (by omega)) w2
      have k5 : ar29 5 = ar 5 := (k1.2.1 5 (by decide)).trans (w1.2.1 5 (by decide))
      have k6_ : ar29 6 = ar 6 := (k1.2.1 6 (by decide)).trans (w1.2.1 6 (by decide))
      have q25 : F29 25 = F 25 := (k1.1 25 (by decide)).trans ((w1.1 25 (by decide)).trans rfl)
      refine r_calli (As := [Iz (sl), Iz (0), Iz (F24 2)]) (rest := []) E (c_putFraction (F := F29) (ar := ar29) (sl := sl) (u := 0) (lo := F24 2) (by omega) (by omega) (Int.le_refl 0) (by omega) (by omega) n36 (by omega) (by omega) k4 k2 (fun q => by have := k5_ q; omega) s0 s1 (by omega) (by omega) k1.2.2.2 (by rw [k5]; exact hk5) (by rw [k6_]; exact hk6)) (cwV 3 hts (rGood ml_407 mi_putFraction ms_putFraction mn_RX12 mc_putFraction) rfl rfl rfl (by decide +kernel) ⟨Nat.le_of_ble_eq_true rfl, Nat.le_of_ble_eq_true rfl⟩) hK hP hD hS hA rfl hl.1 (Nat.le_of_ble_eq_true rfl) dX12_putCosine_32 ⟨Nat.le_refl 0, Nat.le_refl 0⟩ (fun z32 F32 ar32 H locs q32 hP hD hS => ?_)
      obtain ⟨zz, s2, s3⟩ := q32
      obtain rfl : z32 = 0 := zz
      have hpost : (0 : Int) = (if n < 3 then 0 else if F 25 < copn n.toNat n.toNat / 2 then -105 else 0) ∧ (∀ j : Nat, j ≠ 2 → j ≠ 3 → j ≠ 4 → F32 j = F j) := ⟨by rw [if_pos (by omega)], fun j a b c => (s2 j a b c).trans ((k1.1 j a).trans ((w1.1 j a).trans (fup_ne _ _ a)))⟩
      exact W.iret (v := Int32.ofInt (0)) hx hb hr (fun t ht hW => ⟨⟨_, (F32, ar32), rfl, ⟨_, rfl, hpost⟩, by rw [ht]; exact hP, va_K.moved hW.alike hK, hD⟩, hS.F ht⟩) hS.2.2 dX12_putCosine_35
