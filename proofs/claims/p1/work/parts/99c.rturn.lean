theorem tm_em {x y : Int} (hy : 0 < y) : x % y = (if x.tmod y < 0 then x.tmod y + y else x.tmod y) := by
  have e0 := Int.emod_nonneg x (show y ≠ 0 by omega)
  have e1 := Int.emod_lt_of_pos x hy
  rcases Int.lt_or_le x 0 with h | h
  · have t := (td_neg hy h).2
    by_cases w : x.tmod y = 0
    · rw [if_pos w] at t
      rw [if_neg (by omega)]; exact t
    · rw [if_neg w] at t
      rw [if_pos (by omega)]; exact t
  · have t : x.tmod y = x % y := Int.tmod_eq_emod_of_nonneg h
    rw [t, if_neg (by omega)]
theorem gc_neg {a D : Nat} (h : a ≤ D) : Nat.gcd (D - a) D = Nat.gcd a D := by
  apply Nat.dvd_antisymm
  · refine Nat.dvd_gcd ?_ (Nat.gcd_dvd_right _ _)
    have h1 := Nat.dvd_sub (Nat.gcd_dvd_right (D - a) D) (Nat.gcd_dvd_left (D - a) D)
    rwa [show D - (D - a) = a by omega] at h1
  · exact Nat.dvd_gcd (Nat.dvd_sub (Nat.gcd_dvd_right a D) (Nat.gcd_dvd_left a D)) (Nat.gcd_dvd_right _ _)
theorem gd_neg {a D : Int} (h0 : 0 ≤ a) (h1 : a ≤ D) : gd (D - a) D = gd a D := by
  unfold gd
  rw [show (D - a).toNat = D.toNat - a.toNat by omega]
  exact gc_neg (by omega)
/-- the other sine's turn has the same denominator -/
theorem dn_gd {up low sn x : Int} (l0 : 1 ≤ low) (hx : x = (if sn = 0 then up % low else 4 * (up % low) - low)) : 0 ≤ (if x < 0 then x + dnD low sn else x) ∧ (if x < 0 then x + dnD low sn else x) < dnD low sn ∧ gd (if x < 0 then x + dnD low sn else x) (dnD low sn) = gd (dnN up low sn) (dnD low sn) := by
  have e0 := Int.emod_nonneg up (show low ≠ 0 by omega)
  have e1 := Int.emod_lt_of_pos up (show 0 < low by omega)
  unfold dnN dnD
  by_cases w : sn = 0
  · rw [if_pos w] at hx
    rw [if_pos w, if_pos w, if_neg (by omega), hx]
    exact ⟨e0, e1, rfl⟩
  · rw [if_neg w] at hx
    rw [if_neg w, if_neg w]
    by_cases v : x < 0
    · rw [if_pos v]
      refine ⟨by omega, by omega, ?_⟩
      rw [show low - 4 * (up % low) = -x by omega, Int.emod_eq_of_lt (by omega) (by omega), show x + 4 * low = 4 * low - -x by omega]
      exact gd_neg (by omega) (by omega)
    · rw [if_neg v]
      refine ⟨by omega, by omega, ?_⟩
      by_cases z : x = 0
      · rw [show low - 4 * (up % low) = 0 by omega, Int.zero_emod, z]
      · have e : (low - 4 * (up % low)) % (4 * low) = 4 * low - x := by
          rw [show low - 4 * (up % low) = (4 * low - x) - 4 * low by omega, Int.sub_emod_right]
          exact Int.emod_eq_of_lt (by omega) (by omega)
        rw [e]
        exact (gd_neg (by omega) (by omega)).symm
theorem cop_unN (n : Int) (h : 0 ≤ n) : ∀ k : Nat, copn n.toNat k = unN n k
  | 0 => rfl
  | k + 1 => by
      have e1 : copn n.toNat (k + 1) = copn n.toNat k + (if Nat.gcd (k + 1) n.toNat = 1 then 1 else 0) := rfl
      have e2 : unN n (k + 1) = unN n k + if gd ((k : Int) + 1) n = 1 then 1 else 0 := rfl
      rw [e1, e2, cop_unN n h k]
      unfold gd
      rw [show ((k : Int) + 1).toNat = k + 1 by omega]
theorem hf_cop {n m : Int} (n1 : 1 ≤ n) (m1 : 1 ≤ m) : (if n < 3 then (0 : Int) else if m < copn n.toNat n.toNat / 2 then -105 else 0) = (if m < hfO n then -105 else 0) := by
  unfold hfO
  by_cases w : n < 3
  · rw [if_pos w, if_pos w, if_neg (by omega)]
  · rw [if_neg w, if_neg w]
    obtain ⟨k, hk⟩ : ∃ k : Nat, n.toNat = k + 1 := ⟨n.toNat - 1, by omega⟩
    have e : copn n.toNat n.toNat = unN n (n - 1).toNat := by
      rw [cop_unN n (by omega), hk, show (n - 1).toNat = k by omega]
      have e2 : unN n (k + 1) = unN n k + if gd ((k : Int) + 1) n = 1 then 1 else 0 := rfl
      rw [e2, if_neg (fun q => by
        unfold gd at q
        rw [show ((k : Int) + 1).toNat = n.toNat by omega, Nat.gcd_self] at q
        omega), Int.add_zero]
    rw [e]
set_option maxHeartbeats 4000000 in
set_option maxRecDepth 100000 in
theorem c_putTurn {l : Launch} {dC : Nat → ClassId} {dI : Nat → Nat → Nat} {h0 : Nat} {ad : Nat → Nat} {cI cJ cB cZ : Nat} {F : Nat → Int} {ar : Nat → Int → Int} {sz : Nat} {sl up low sn : Int} (s0 : 0 ≤ sl) (s1 : sl < 260) (u0 : -9223372036854775808 ≤ up) (u1 : up ≤ 9223372036854775807) (l0 : 1 ≤ low) (l1 : low ≤ 120) (m0 : -2147483648 ≤ sn) (m1 : sn ≤ 2147483647) (f0 : 1 ≤ F 25) (f1 : F 25 ≤ 10) (hk : hok (ar 1)) (hk5 : hok (ar 5)) (hk6 : hok (ar 6)) : Met l yX12_putTurn (Cond.code yX12_putTurn cX12_putTurn 14 (some .int) :: w0r) (rRm 13 440) (rPc dC dI h0 ad cI cJ cB cZ F ar sz [Iz (sl), Jz (up), Iz (low), Iz (sn)]) (rQi dC dI h0 ad cI cJ cB cZ sz (fun z F' ar' => z = (if F 25 < hfO (dnm up low sn) then -105 else 0) ∧ (∀ j : Nat, j ≠ 2 → j ≠ 3 → j ≠ 4 → F' j = F j))) 0 0 (rA h0 ad sz) := by
  refine Met.ofW (cc := cX12_putTurn) (maxL := 14) (ret := (some .int)) (by decide) rfl ?_
  intro p e s m args below meth c s₁ B hml hv
  obtain ⟨rfl, hsz, hP, hK, hD0⟩ := hv
  have hx := B.exec
  have hb := B.bytes
  have hr := B.returns
  have hts := atoms_spec (ws := Cond.code yX12_putTurn cX12_putTurn 14 (some .int) :: w0r) B.pre
  have hown : s.vm.findClass RX12 = some m.cls := findClass_of_methodNamed B.named
  have hlocks := B.notSynchronized
  have E : CallFix p m c cX12_putTurn 14 s _ (Cond.code yX12_putTurn cX12_putTurn 14 (some .int) :: w0r) RX12 := ⟨hx, hb, hml, hown, hts⟩
  subst hsz
  have hD := rA_self s.heap.size hD0
  have hA : ∀ q : Nat, s.heap.size ≤ q → rA h0 ad s.heap.size q := fun q h => Or.inr h
  have hS : va_S (rA h0 ad s.heap.size) s.heap s.heap [] := va_S.rf
  have hl := lv_entry ([.ref h0, Iz (sl), Jz (up), Iz (low), Iz (sn)]) (n := 14) (Nat.le_of_ble_eq_true rfl)
  rw [lg_entry_eq]
  generalize (lg_sl ([.ref h0, Iz (sl), Jz (up), Iz (low), Iz (sn)]) ++ List.replicate (14 - (lg_sl ([.ref h0, Iz (sl), Jz (up), Iz (low), Iz (sn)])).length) Slot.unset).toArray = ls at hl ⊢
  have hl : lv_has ls 14 [(0, .ref h0), (1, Iz (sl)), (2, Jz (up)), (4, Iz (low)), (5, Iz (sn))] := hl
  refine lv_lload_n hx hb dX12_putTurn_0 rfl (lv_at hl 2 rfl) ?_
  refine lv_iload hx hb dX12_putTurn_1 (lv_at hl 3 rfl) ?_
  refine g_i2l hx hb ⟨by omega, by omega⟩ dX12_putTurn_3 ?_
  refine g_lremT hx hb ⟨by omega, by omega⟩ (by omega) (by omega) dX12_putTurn_4 ?_
  obtain ⟨t0, et0⟩ : ∃ y : Int, y = up.tmod low := ⟨_, rfl⟩
  rw [← et0]
  have et := tm_em (x := up) (y := low) (by omega)
  rw [← et0] at et
  have tb := tm_bd (x := up) (y := low) (by omega)
  rw [← et0] at tb
  have e0_ := Int.emod_nonneg up (show low ≠ 0 by omega)
  have e1_ := Int.emod_lt_of_pos up (show 0 < low by omega)
  have cg := @g_cmp_lt t0 0
  refine lv_lstore (lv' := [(6, Jz (t0)), (0, .ref h0), (1, Iz (sl)), (2, Jz (up)), (4, Iz (low)), (5, Iz (sn))]) hx hb dX12_putTurn_5 hl (by decide) rfl (fun ls hl => ?_)
  refine r_join (P := fun z : Int => z = up % low) (g := fun z => F0 m 25 ls [Jz z]) (fun t1 ht1 => ?_) (fun k_25 => ?_)
  · skip
    refine lv_lstore (lv' := [(6, Jz (t1)), (0, .ref h0), (1, Iz (sl)), (2, Jz (up)), (4, Iz (low)), (5, Iz (sn))]) hx hb dX12_putTurn_25 hl (by decide) rfl (fun ls hl => ?_)
    refine r_join (P := fun z : Int => z = (if sn = 0 then up % low else 4 * (up % low) - low)) (g := fun z => F0 m 47 ls [Jz z]) (fun nv hnv => ?_) (fun k_47 => ?_)
    · skip
      refine lv_lstore (lv' := [(8, Jz (nv)), (6, Jz (t1)), (0, .ref h0), (1, Iz (sl)), (2, Jz (up)), (4, Iz (low)), (5, Iz (sn))]) hx hb dX12_putTurn_47 hl (by decide) rfl (fun ls hl => ?_)
      refine r_join (P := fun z : Int => z = dnD low sn) (g := fun z => F0 m 67 ls [Jz z]) (fun dv hdv => ?_) (fun k_67 => ?_)
      · skip
        refine lv_lstore (lv' := [(10, Jz (dv)), (8, Jz (nv)), (6, Jz (t1)), (0, .ref h0), (1, Iz (sl)), (2, Jz (up)), (4, Iz (low)), (5, Iz (sn))]) hx hb dX12_putTurn_67 hl (by decide) rfl (fun ls hl => ?_)
        have cg2 := @g_cmp_lt nv 0
        have dq := dn_gd (up := up) (sn := sn) l0 hnv
        have dd_ : dnD low sn ≤ 480 ∧ 1 ≤ dnD low sn := by unfold dnD; split <;> omega
        have nb : -1000 ≤ nv ∧ nv ≤ 1000 := by rw [hnv]; split <;> omega
        refine r_join (P := fun z : Int => 0 ≤ z ∧ z < dnD low sn ∧ gd z (dnD low sn) = gd (dnN up low sn) (dnD low sn)) (g := fun z => F0 m 86 ls [Jz z]) (fun mv hmv => ?_) (fun k_86 => ?_)
        · skip
          refine lv_lstore (lv' := [(8, Jz (mv)), (10, Jz (dv)), (6, Jz (t1)), (0, .ref h0), (1, Iz (sl)), (2, Jz (up)), (4, Iz (low)), (5, Iz (sn))]) hx hb dX12_putTurn_86 hl (by decide) rfl (fun ls hl => ?_)
          refine lv_lload hx hb dX12_putTurn_88 (lv_at hl 0 rfl) ?_
          refine lv_lload hx hb dX12_putTurn_90 (lv_at hl 1 rfl) ?_
          refine r_callsl (As := [Jz (mv), Jz (dv)]) (rest := []) E (c_divisorOf (by omega) (by omega) (by omega) (by omega)) (cwS 2 hts (rGoodS ml_481 mt_divisorOf mn_RX12 mc_divisorOf) rfl rfl rfl (by decide +kernel) ⟨Nat.le_of_ble_eq_true rfl, Nat.le_of_ble_eq_true rfl⟩) (B := va_P (dC, dI) rcl (mW h0 ad cI cJ cB cZ F ar)) (r_kept hP) hS rfl hl.1 (Nat.le_of_ble_eq_true rfl) dX12_putTurn_92 ⟨Nat.le_refl 0, Nat.le_refl 0⟩ (fun z92 H locs q92 hP hS => ?_)
          obtain ⟨g1_, g2_, a0, a1, a2, a3, a4⟩ := gd_q (x := mv) (y := dv) (g := z92) hmv.1 (by rw [hdv]; exact hmv.2.1) q92
          have eD : dv / z92 = dnm up low sn := by unfold dnm; rw [q92, hdv]; unfold gd at hmv; show _ / ((Nat.gcd mv.toNat (dnD low sn).toNat : Nat) : Int) = _; rw [hmv.2.2]; rfl
          refine lv_lstore (lv' := [(12, Jz (z92)), (8, Jz (mv)), (10, Jz (dv)), (6, Jz (t1)), (0, .ref h0), (1, Iz (sl)), (2, Jz (up)), (4, Iz (low)), (5, Iz (sn))]) hx hb dX12_putTurn_95 hl (by decide) rfl (fun ls hl => ?_)
          refine lv_aload_n hx hb dX12_putTurn_97 rfl (lv_at hl 4 rfl) ?_
          refine lv_iload_n hx hb dX12_putTurn_98 rfl (lv_at hl 5 rfl) ?_
          refine lv_lload hx hb dX12_putTurn_99 (lv_at hl 1 rfl) ?_
          refine lv_lload hx hb dX12_putTurn_101 (lv_at hl 0 rfl) ?_
          refine g_ldiv hx hb (by omega) (by omega) (by omega) (by omega) dX12_putTurn_103 ?_
          refine g_l2i hx hb dX12_putTurn_104 ?_
          refine lv_lload hx hb dX12_putTurn_105 (lv_at hl 2 rfl) ?_
          refine lv_lload hx hb dX12_putTurn_107 (lv_at hl 0 rfl) ?_
          refine g_ldiv hx hb (by omega) (by omega) (by omega) (by omega) dX12_putTurn_109 ?_
          refine g_l2i hx hb dX12_putTurn_110 ?_
          refine r_calli (As := [Iz (sl), Iz (mv / z92), Iz (dv / z92)]) (rest := []) E (c_putCosine (F := F) (ar := ar) s0 s1 (by omega) (by omega) (by omega) (by omega) f0 f1 hk hk5 hk6) (cwV 3 hts (rGood ml_514 mi_putCosine ms_putCosine mn_RX12 mc_putCosine) rfl rfl rfl (by decide +kernel) ⟨Nat.le_of_ble_eq_true rfl, Nat.le_of_ble_eq_true rfl⟩) hK hP hD hS hA rfl hl.1 (Nat.le_of_ble_eq_true rfl) dX12_putTurn_111 ⟨Nat.le_refl 0, Nat.le_refl 0⟩ (fun z111 F111 ar111 H locs q111 hP hD hS => ?_)
          obtain ⟨z9, s9⟩ := q111
          have hpost : (z111 : Int) = (if F 25 < hfO (dnm up low sn) then -105 else 0) ∧ (∀ j : Nat, j ≠ 2 → j ≠ 3 → j ≠ 4 → F111 j = F j) := ⟨by rw [z9, hf_cop (by omega) f0, eD], s9⟩
          exact W.iret (v := Int32.ofInt (z111)) hx hb hr (fun t ht hW => ⟨⟨_, (F111, ar111), rfl, ⟨_, rfl, hpost⟩, by rw [ht]; exact hP, va_K.moved hW.alike hK, hD⟩, hS.F ht⟩) hS.2.2 dX12_putTurn_114
        · skip
          refine lv_lload hx hb dX12_putTurn_69 (lv_at hl 1 rfl) ?_
          refine lv_lconst (v := Int64.ofInt 0) hx hb dX12_putTurn_71 rfl ?_
          refine g_lcmp hx hb ⟨by omega, by omega⟩ ⟨by omega, by omega⟩ dX12_putTurn_72 ?_
          refine g_if_ge (tgt := 84) hx hb (g_cmp_i _ _) dX12_putTurn_73 (by decide) (fun c_73 => ?_) (fun c_73 => ?_)
          · skip
            refine lv_lload hx hb dX12_putTurn_84 (lv_at hl 1 rfl) ?_
            exact k_86 _ (by first | (rw [if_neg (by omega)] at dq; exact dq) | (rw [if_pos (by omega)] at dq; rw [hdv]; exact dq))
          · skip
            refine lv_lload hx hb dX12_putTurn_76 (lv_at hl 1 rfl) ?_
            refine lv_lload hx hb dX12_putTurn_78 (lv_at hl 0 rfl) ?_
            refine g_ladd hx hb dX12_putTurn_80 ?_
            refine lv_goto (tgt := 86) hx hb dX12_putTurn_81 (by decide) ?_
            exact k_86 _ (by first | (rw [if_neg (by omega)] at dq; exact dq) | (rw [if_pos (by omega)] at dq; rw [hdv]; exact dq))
      · skip
        refine lv_iload hx hb dX12_putTurn_49 (lv_at hl 6 rfl) ?_
        refine g_if_eq (tgt := 64) hx hb (by first | assumption | exact ⟨by omega, by omega⟩ | exact Hh _) dX12_putTurn_51 (by decide) (fun c_51 => ?_) (fun c_51 => ?_)
        · skip
          refine lv_iload hx hb dX12_putTurn_64 (lv_at hl 5 rfl) ?_
          refine g_i2l hx hb ⟨by omega, by omega⟩ dX12_putTurn_66 ?_
          exact k_67 _ (by unfold dnD; first | (rw [if_pos (by omega)]; done) | (rw [if_neg (by omega)]; done))
        · skip
          refine lv_ldc2 (v := Int64.ofInt (4)) hx hb hown (hts _ (List.mem_cons_of_mem _ mj_512)) dX12_putTurn_54 ?_
          refine lv_iload hx hb dX12_putTurn_57 (lv_at hl 5 rfl) ?_
          refine g_i2l hx hb ⟨by omega, by omega⟩ dX12_putTurn_59 ?_
          refine g_lmul hx hb dX12_putTurn_60 ?_
          refine lv_goto (tgt := 67) hx hb dX12_putTurn_61 (by decide) ?_
          exact k_67 _ (by unfold dnD; first | (rw [if_pos (by omega)]; done) | (rw [if_neg (by omega)]; done))
    · skip
      refine lv_iload hx hb dX12_putTurn_27 (lv_at hl 5 rfl) ?_
      refine g_if_eq (tgt := 45) hx hb (by first | assumption | exact ⟨by omega, by omega⟩ | exact Hh _) dX12_putTurn_29 (by decide) (fun c_29 => ?_) (fun c_29 => ?_)
      · skip
        refine lv_lload hx hb dX12_putTurn_45 (lv_at hl 0 rfl) ?_
        exact k_47 _ (by first | (rw [if_pos (by omega)]; exact ht1) | (rw [if_neg (by omega), ← ht1]))
      · skip
        refine lv_ldc2 (v := Int64.ofInt (4)) hx hb hown (hts _ (List.mem_cons_of_mem _ mj_512)) dX12_putTurn_32 ?_
        refine lv_lload hx hb dX12_putTurn_35 (lv_at hl 0 rfl) ?_
        refine g_lmul hx hb dX12_putTurn_37 ?_
        refine lv_iload hx hb dX12_putTurn_38 (lv_at hl 4 rfl) ?_
        refine g_i2l hx hb ⟨by omega, by omega⟩ dX12_putTurn_40 ?_
        refine g_lsub hx hb dX12_putTurn_41 ?_
        refine lv_goto (tgt := 47) hx hb dX12_putTurn_42 (by decide) ?_
        exact k_47 _ (by first | (rw [if_pos (by omega)]; exact ht1) | (rw [if_neg (by omega), ← ht1]))
  · skip
    refine lv_lload hx hb dX12_putTurn_7 (lv_at hl 0 rfl) ?_
    refine lv_lconst (v := Int64.ofInt 0) hx hb dX12_putTurn_9 rfl ?_
    refine g_lcmp hx hb ⟨by omega, by omega⟩ ⟨by omega, by omega⟩ dX12_putTurn_10 ?_
    refine g_if_ge (tgt := 23) hx hb (g_cmp_i _ _) dX12_putTurn_11 (by decide) (fun c_11 => ?_) (fun c_11 => ?_)
    · skip
      refine lv_lload hx hb dX12_putTurn_23 (lv_at hl 0 rfl) ?_
      exact k_25 _ (by rw [et]; first | rw [if_neg (by omega)] | rw [if_pos (by omega)])
    · skip
      refine lv_lload hx hb dX12_putTurn_14 (lv_at hl 0 rfl) ?_
      refine lv_iload hx hb dX12_putTurn_16 (lv_at hl 4 rfl) ?_
      refine g_i2l hx hb ⟨by omega, by omega⟩ dX12_putTurn_18 ?_
      refine g_ladd hx hb dX12_putTurn_19 ?_
      refine lv_goto (tgt := 25) hx hb dX12_putTurn_20 (by decide) ?_
      exact k_25 _ (by rw [et]; first | rw [if_neg (by omega)] | rw [if_pos (by omega)])
set_option maxHeartbeats 4000000 in
set_option maxRecDepth 100000 in
theorem c_turn {l : Launch} {dC : Nat → ClassId} {dI : Nat → Nat → Nat} {h0 : Nat} {ad : Nat → Nat} {cI cJ cB cZ : Nat} {F : Nat → Int} {ar : Nat → Int → Int} {sz : Nat} {up low sn : Int} (n0 : F 24 = 0) (u0 : -9223372036854775808 ≤ up) (u1 : up ≤ 9223372036854775807) (low0 : -2147483648 ≤ low) (low1 : low ≤ 2147483647) (m0 : -2147483648 ≤ sn) (m1 : sn ≤ 2147483647) (f0 : 1 ≤ F 25) (f1 : F 25 ≤ 10) (hk : hok (ar 1)) (hk5 : hok (ar 5)) (hk6 : hok (ar 6)) : Met l yX12_turn (Cond.code yX12_turn cX12_turn 5 (some .int) :: w0r) (rRm 14 480) (rPc dC dI h0 ad cI cJ cB cZ F ar sz [Jz (up), Iz (low), Iz (sn)]) (rQi dC dI h0 ad cI cJ cB cZ sz (fun z F' ar' => z = (if low < 1 ∨ 120 < low then -102 else if F 25 < hfO (dnm up low sn) then -105 else 0) ∧ F' 0 = 0)) 0 0 (rA h0 ad sz) := by
  refine Met.ofW (cc := cX12_turn) (maxL := 5) (ret := (some .int)) (by decide) rfl ?_
  intro p e s m args below meth c s₁ B hml hv
  obtain ⟨rfl, hsz, hP, hK, hD0⟩ := hv
  have hx := B.exec
  have hb := B.bytes
  have hr := B.returns
  have hts := atoms_spec (ws := Cond.code yX12_turn cX12_turn 5 (some .int) :: w0r) B.pre
  have hown : s.vm.findClass RX12 = some m.cls := findClass_of_methodNamed B.named
  have hlocks := B.notSynchronized
  have E : CallFix p m c cX12_turn 5 s _ (Cond.code yX12_turn cX12_turn 5 (some .int) :: w0r) RX12 := ⟨hx, hb, hml, hown, hts⟩
  subst hsz
  have hD := rA_self s.heap.size hD0
  have hA : ∀ q : Nat, s.heap.size ≤ q → rA h0 ad s.heap.size q := fun q h => Or.inr h
  have hS : va_S (rA h0 ad s.heap.size) s.heap s.heap [] := va_S.rf
  have hl := lv_entry ([.ref h0, Jz (up), Iz (low), Iz (sn)]) (n := 5) (Nat.le_of_ble_eq_true rfl)
  rw [lg_entry_eq]
  generalize (lg_sl ([.ref h0, Jz (up), Iz (low), Iz (sn)]) ++ List.replicate (5 - (lg_sl ([.ref h0, Jz (up), Iz (low), Iz (sn)])).length) Slot.unset).toArray = ls at hl ⊢
  have hl : lv_has ls 5 [(0, .ref h0), (1, Jz (up)), (3, Iz (low)), (4, Iz (sn))] := hl
  refine lv_aload_n hx hb dX12_turn_0 rfl (lv_at hl 0 rfl) ?_
  refine lv_iconst (v := Int32.ofInt (0)) hx hb dX12_turn_1 (by decide) ?_
  refine r_puti E hK hP hD hS 0 (by decide) mf_1 rfl rfl (by decide +kernel) (sp_0 h0 ad cI cJ cB cZ _ _) dX12_turn_2 (fun H locs hP hD hS => ?_)
  refine lv_iload_n hx hb dX12_turn_5 rfl (lv_at hl 2 rfl) ?_
  refine g_i2l hx hb (by first | assumption | exact ⟨by omega, by omega⟩ | exact Hh _) dX12_turn_6 ?_
  refine lv_lconst (v := Int64.ofInt 1) hx hb dX12_turn_7 rfl ?_
  refine lv_ldc2 (v := Int64.ofInt (120)) hx hb hown (hts _ (List.mem_cons_of_mem _ mj_602)) dX12_turn_8 ?_
  refine r_callsi (As := [Jz (low), Jz (1), Jz (120)]) (rest := []) E (c_in (by omega) (by omega) (by omega) (by omega) (by omega) (by omega)) (cwS 3 hts (rGoodS ml_571 mt_in mn_RX12 mc_in) rfl rfl rfl (by decide +kernel) ⟨Nat.le_of_ble_eq_true rfl, Nat.le_of_ble_eq_true rfl⟩) (B := va_P (dC, dI) rcl (mW h0 ad cI cJ cB cZ (fup F 0 0) ar)) (r_kept hP) hS rfl hl.1 (Nat.le_of_ble_eq_true rfl) dX12_turn_11 ⟨Nat.le_refl 0, Nat.le_refl 0⟩ (fun z11 H locs q11 hP hS => ?_)
  have b11 : (z11 = 1 ∧ 1 ≤ low ∧ low ≤ 120) ∨ (z11 = 0 ∧ (low < 1 ∨ 120 < low)) := by
      rw [q11]
      by_cases w : 1 ≤ low ∧ low ≤ 120
      · exact Or.inl ⟨if_pos w, w⟩
      · exact Or.inr ⟨if_neg w, by omega⟩
  refine g_if_ne (tgt := 20) hx hb (by first | assumption | exact ⟨by omega, by omega⟩ | exact Hh _) dX12_turn_14 (by decide) (fun c_14 => ?_) (fun c_14 => ?_)
  · skip
    refine lv_aload_n hx hb dX12_turn_20 rfl (lv_at hl 0 rfl) ?_
    refine lv_aload_n hx hb dX12_turn_21 rfl (lv_at hl 0 rfl) ?_
    refine lv_aload_n hx hb dX12_turn_22 rfl (lv_at hl 0 rfl) ?_
    refine r_geti E hK hP (k := 24) (v := Iz (F 24)) (by decide) mf_568 rfl rfl dX12_turn_23 ?_
    rw [n0]
    refine lv_lload_n hx hb dX12_turn_26 rfl (lv_at hl 1 rfl) ?_
    refine lv_iload_n hx hb dX12_turn_27 rfl (lv_at hl 2 rfl) ?_
    refine lv_iload hx hb dX12_turn_28 (lv_at hl 3 rfl) ?_
    refine r_calli (As := [Iz (0), Jz (up), Iz (low), Iz (sn)]) (rest := [.ref h0]) E (c_putTurn (F := (fup F 0 0)) (ar := ar) (sl := 0) (up := up) (low := low) (sn := sn) (by decide) (by decide) u0 u1 (by omega) (by omega) m0 m1 f0 f1 hk hk5 hk6) (cwV 4 hts (rGood ml_604 mi_putTurn ms_putTurn mn_RX12 mc_putTurn) rfl rfl rfl (by decide +kernel) ⟨Nat.le_of_ble_eq_true rfl, Nat.le_of_ble_eq_true rfl⟩) hK hP hD hS hA rfl hl.1 (Nat.le_of_ble_eq_true rfl) dX12_turn_30 ⟨Nat.le_refl 0, Nat.le_refl 0⟩ (fun z30 F30 ar30 H locs q30 hP hD hS => ?_)
    obtain ⟨zt, st_⟩ := q30
    have z30b : -105 ≤ z30 ∧ z30 ≤ 0 := by rw [zt]; split <;> omega
    have st24 : F30 24 = 0 := (st_ 24 (by decide) (by decide) (by decide)).trans n0
    have st0 : F30 0 = 0 := (st_ 0 (by decide) (by decide) (by decide)).trans rfl
    refine r_calli (As := [Iz (z30)]) (rest := []) E (c_finish (F := F30) (ar := ar30) (how := z30) (by omega) (by omega) (by omega) (by omega)) (cwV 1 hts (rGood ml_578 mi_finish ms_finish mn_RX12 mc_finish) rfl rfl rfl (by decide +kernel) ⟨Nat.le_of_ble_eq_true rfl, Nat.le_of_ble_eq_true rfl⟩) hK hP hD hS hA rfl hl.1 (Nat.le_of_ble_eq_true rfl) dX12_turn_33 ⟨Nat.le_refl 0, Nat.le_refl 0⟩ (fun z33 F33 ar33 H locs q33 hP hD hS => ?_)
    obtain ⟨f1_, f2_⟩ := q33
    have hpost : (z33 : Int) = (if low < 1 ∨ 120 < low then -102 else if F 25 < hfO (dnm up low sn) then -105 else 0) ∧ F33 0 = 0 := by
      rw [if_neg (by omega)]
      by_cases w : F 25 < hfO (dnm up low sn)
      · have zt2 := zt.trans (if_pos w)
        obtain ⟨y1, y2, y3⟩ := f1_ (by omega)
        rw [if_pos w]
        exact ⟨by omega, by rw [y2]; exact st0⟩
      · have zt2 := zt.trans (if_neg w)
        obtain ⟨y1, y2, y3⟩ := f2_ (by omega)
        rw [if_neg w]
        exact ⟨by omega, by rw [y2, fup_ne _ _ (by decide)]; exact st0⟩
    exact W.iret (v := Int32.ofInt (z33)) hx hb hr (fun t ht hW => ⟨⟨_, (F33, ar33), rfl, ⟨_, rfl, hpost⟩, by rw [ht]; exact hP, va_K.moved hW.alike hK, hD⟩, hS.F ht⟩) hS.2.2 dX12_turn_36
  · skip
    refine lv_bipush (v := Int32.ofInt (-102)) hx hb dX12_turn_17 (by decide) ?_
    have hpost : ((-102) : Int) = (if low < 1 ∨ 120 < low then -102 else if F 25 < hfO (dnm up low sn) then -105 else 0) ∧ (fup F 0 0) 0 = 0 := ⟨by rw [if_pos (by omega)], rfl⟩
    exact W.iret (v := Int32.ofInt ((-102))) hx hb hr (fun t ht hW => ⟨⟨_, ((fup F 0 0), ar), rfl, ⟨_, rfl, hpost⟩, by rw [ht]; exact hP, va_K.moved hW.alike hK, hD⟩, hS.F ht⟩) hS.2.2 dX12_turn_19
