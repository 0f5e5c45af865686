/-- the sign of moebius() -/
def mob (n : Int) : Int := (mobs n (n - 1).toNat).2
/-- the degree that makeCycle() holds behind e = k, in its first and in its second round -/
def cyc0 (n : Int) : Nat → Int
  | 0 => 0
  | k + 1 => if n % ((k : Int) + 1) = 0 ∧ mob (n / ((k : Int) + 1)) = 1 then cyc0 n k + ((k : Int) + 1) else cyc0 n k
def cyc1 (n : Int) : Nat → Int
  | 0 => cyc0 n n.toNat
  | k + 1 => if n % ((k : Int) + 1) = 0 ∧ mob (n / ((k : Int) + 1)) = -1 then cyc1 n k - ((k : Int) + 1) else cyc1 n k
def cyc (ro n : Int) (k : Nat) : Int := if ro = 0 then cyc0 n k else cyc1 n k
set_option maxHeartbeats 4000000 in
set_option maxRecDepth 100000 in
theorem c_makeCycle {l : Launch} {dC : Nat → ClassId} {dI : Nat → Nat → Nat} {h0 : Nat} {ad : Nat → Nat} {cI cJ cB cZ : Nat} {F : Nat → Int} {ar : Nat → Int → Int} {sz : Nat} {n : Int} (n0 : 1 ≤ n) (n1 : n < 1000) (c0 : ∀ k : Nat, (k : Int) ≤ n → 0 ≤ cyc0 n k ∧ cyc0 n k ≤ 139) (c1 : ∀ k : Nat, (k : Int) ≤ n → 0 ≤ cyc1 n k ∧ cyc1 n k ≤ 139) : Met l yX12_makeCycle (Cond.code yX12_makeCycle cX12_makeCycle 7 (some .int) :: w0r) (rRm 1 23) (rPc dC dI h0 ad cI cJ cB cZ F ar sz [Iz (n)]) (rQi dC dI h0 ad cI cJ cB cZ sz (fun z F' ar' => z = cyc1 n n.toNat ∧ F' = F ∧ (∀ j : Nat, j ≠ 47 → j ≠ 48 → ar' j = ar j))) 0 0 (rA h0 ad sz) := by
  refine Met.ofW (cc := cX12_makeCycle) (maxL := 7) (ret := (some .int)) (by decide) rfl ?_
  intro p e s m args below meth c s₁ B hml hv
  obtain ⟨rfl, hsz, hP, hK, hD0⟩ := hv
  have hx := B.exec
  have hb := B.bytes
  have hr := B.returns
  have hts := atoms_spec (ws := Cond.code yX12_makeCycle cX12_makeCycle 7 (some .int) :: w0r) B.pre
  have hown : s.vm.findClass RX12 = some m.cls := findClass_of_methodNamed B.named
  have hlocks := B.notSynchronized
  have E : CallFix p m c cX12_makeCycle 7 s _ (Cond.code yX12_makeCycle cX12_makeCycle 7 (some .int) :: w0r) RX12 := ⟨hx, hb, hml, hown, hts⟩
  subst hsz
  have hD := rA_self s.heap.size hD0
  have hA : ∀ q : Nat, s.heap.size ≤ q → rA h0 ad s.heap.size q := fun q h => Or.inr h
  have hS : va_S (rA h0 ad s.heap.size) s.heap s.heap [] := va_S.rf
  have hl := lv_entry ([.ref h0, Iz (n)]) (n := 7) (Nat.le_of_ble_eq_true rfl)
  rw [lg_entry_eq]
  generalize (lg_sl ([.ref h0, Iz (n)]) ++ List.replicate (7 - (lg_sl ([.ref h0, Iz (n)])).length) Slot.unset).toArray = ls at hl ⊢
  have hl : lv_has ls 7 [(0, .ref h0), (1, Iz (n))] := hl
  refine lv_iconst (v := Int32.ofInt (0)) hx hb dX12_makeCycle_0 (by decide) ?_
  refine lv_istore_n (lv' := [(2, Iz (0)), (0, .ref h0), (1, Iz (n))]) hx hb dX12_makeCycle_1 rfl hl (by decide) rfl (fun ls hl => ?_)
  refine r_loop (P := fun N_ H locs ls => ∃ (ar1 : Nat → Int → Int) (i : Int), N_ = (140 - i).toNat ∧ (0 ≤ i) ∧ (i ≤ 140) ∧ (∀ j : Nat, j ≠ 47 → j ≠ 48 → ar1 j = ar j) ∧ va_P (dC, dI) rcl (mW h0 ad cI cJ cB cZ F ar1) H ∧ va_D (rA h0 ad s.heap.size) (mW h0 ad cI cJ cB cZ F ar1) ∧ va_S (rA h0 ad s.heap.size) s.heap H locs ∧ lv_has ls 7 [(0, .ref h0), (1, Iz (n)), (2, Iz (i))]) (g := fun ls => F0 m 2 ls []) (fun N_ H locs ls hI ih_2 => ?_) _ _ _ _ ⟨ar, 0, rfl, (Int.le_refl 0), (by omega), (fun _ _ _ => rfl), hP, hD, hS, lv_sub hl [1, 2, 0] rfl⟩
  obtain ⟨ar1, i, rfl, i0, i1, q1, hP, hD, hS, hl⟩ := hI
  refine lv_iload_n hx hb dX12_makeCycle_2 rfl (lv_at hl 2 rfl) ?_
  refine lv_sipush (v := Int32.ofInt (140)) hx hb dX12_makeCycle_3 (by decide) ?_
  refine g_icmp_ge (tgt := 22) hx hb ⟨by omega, by omega⟩ ⟨by omega, by omega⟩ dX12_makeCycle_6 (by decide) (fun c_6 => ?_) (fun c_6 => ?_)
  · skip
    refine lv_aload_n hx hb dX12_makeCycle_22 rfl (lv_at hl 0 rfl) ?_
    refine r_geti E hK hP (k := 48) (v := .ref (ad 48)) (by decide) mf_485 rfl rfl dX12_makeCycle_23 ?_
    refine lv_iconst (v := Int32.ofInt (0)) hx hb dX12_makeCycle_26 (by decide) ?_
    refine lv_lconst (v := Int64.ofInt 1) hx hb dX12_makeCycle_27 rfl ?_
    refine g_last (f := (ar1 48)) hx hb hK hP hD hS 22 1 rfl rfl (by omega) (by omega) (by decide) dX12_makeCycle_28 (fun H locs hP hD hS => ?_)
    rw [sa_48] at hP hD
    refine lv_iconst (v := Int32.ofInt (0)) hx hb dX12_makeCycle_29 (by decide) ?_
    refine lv_istore_n (lv' := [(2, Iz (0)), (0, .ref h0), (1, Iz (n))]) hx hb dX12_makeCycle_30 rfl hl (by decide) rfl (fun ls hl => ?_)
    refine lv_iconst (v := Int32.ofInt (0)) hx hb dX12_makeCycle_31 (by decide) ?_
    refine lv_istore_n (lv' := [(3, Iz (0)), (2, Iz (0)), (0, .ref h0), (1, Iz (n))]) hx hb dX12_makeCycle_32 rfl hl (by decide) rfl (fun ls hl => ?_)
    refine r_loop (P := fun N_ H locs ls => ∃ (ar2 : Nat → Int → Int) (ro : Int) (d : Int), N_ = (2 - ro).toNat ∧ (0 ≤ ro) ∧ (ro ≤ 2) ∧ (∀ j : Nat, j ≠ 47 → j ≠ 48 → ar2 j = ar j) ∧ (d = if ro = 0 then 0 else if ro = 1 then cyc0 n n.toNat else cyc1 n n.toNat) ∧ va_P (dC, dI) rcl (mW h0 ad cI cJ cB cZ F ar2) H ∧ va_D (rA h0 ad s.heap.size) (mW h0 ad cI cJ cB cZ F ar2) ∧ va_S (rA h0 ad s.heap.size) s.heap H locs ∧ lv_has ls 7 [(0, .ref h0), (1, Iz (n)), (2, Iz (d)), (3, Iz (ro))]) (g := fun ls => F0 m 33 ls []) (fun N_ H locs ls hI ih_33 => ?_) _ _ _ _ ⟨(aup ar1 48 (iup (ar1 48) 0 1)), 0, 0, rfl, (Int.le_refl 0), (by omega), (fun j h1 h2 => by rw [aup_ne _ _ h2]; exact q1 j h1 h2), (rfl), hP, hD, hS, lv_sub hl [2, 3, 1, 0] rfl⟩
    obtain ⟨ar2, ro, d, rfl, r0_, r1_, q2, hr_, hP, hD, hS, hl⟩ := hI
    refine lv_iload_n hx hb dX12_makeCycle_33 rfl (lv_at hl 3 rfl) ?_
    refine lv_iconst (v := Int32.ofInt (2)) hx hb dX12_makeCycle_34 (by decide) ?_
    refine g_icmp_ge (tgt := 281) hx hb ⟨by omega, by omega⟩ ⟨by omega, by omega⟩ dX12_makeCycle_35 (by decide) (fun c_35 => ?_) (fun c_35 => ?_)
    · skip
      refine lv_iload_n hx hb dX12_makeCycle_281 rfl (lv_at hl 2 rfl) ?_
      have hpost : (d : Int) = cyc1 n n.toNat ∧ F = F ∧ (∀ j : Nat, j ≠ 47 → j ≠ 48 → ar2 j = ar j) := ⟨by rw [hr_, if_neg (by omega), if_neg (by omega)], rfl, q2⟩
      exact W.iret (v := Int32.ofInt (d)) hx hb hr (fun t ht hW => ⟨⟨_, (F, ar2), rfl, ⟨_, rfl, hpost⟩, by rw [ht]; exact hP, va_K.moved hW.alike hK, hD⟩, hS.F ht⟩) hS.2.2 dX12_makeCycle_282
    · skip
      refine lv_iconst (v := Int32.ofInt (1)) hx hb dX12_makeCycle_38 (by decide) ?_
      refine lv_istore (lv' := [(4, Iz (1)), (0, .ref h0), (1, Iz (n)), (2, Iz (d)), (3, Iz (ro))]) hx hb dX12_makeCycle_39 hl (by decide) rfl (fun ls hl => ?_)
      refine r_loop (P := fun N_ H locs ls => ∃ (ar3 : Nat → Int → Int) (e : Int) (d : Int), N_ = (n + 1 - e).toNat ∧ (1 ≤ e) ∧ (e ≤ n + 1) ∧ (∀ j : Nat, j ≠ 47 → j ≠ 48 → ar3 j = ar j) ∧ (d = cyc ro n (e - 1).toNat) ∧ va_P (dC, dI) rcl (mW h0 ad cI cJ cB cZ F ar3) H ∧ va_D (rA h0 ad s.heap.size) (mW h0 ad cI cJ cB cZ F ar3) ∧ va_S (rA h0 ad s.heap.size) s.heap H locs ∧ lv_has ls 7 [(0, .ref h0), (1, Iz (n)), (2, Iz (d)), (3, Iz (ro)), (4, Iz (e))]) (g := fun ls => F0 m 41 ls []) (fun N_ H locs ls hI ih_41 => ?_) _ _ _ _ ⟨ar2, 1, d, rfl, (Int.le_refl 1), (by omega), (q2), (by rw [hr_]; unfold cyc; by_cases r0 : ro = 0; (· rw [if_pos r0, if_pos r0]; rfl); (· rw [if_neg r0, if_neg r0, if_pos (by omega)]; rfl)), hP, hD, hS, lv_sub hl [1, 2, 3, 4, 0] rfl⟩
      obtain ⟨ar3, e, d, rfl, e0, e1, q3, hd, hP, hD, hS, hl⟩ := hI
      refine lv_iload hx hb dX12_makeCycle_41 (lv_at hl 4 rfl) ?_
      refine lv_iload_n hx hb dX12_makeCycle_43 rfl (lv_at hl 1 rfl) ?_
      refine g_icmp_gt (tgt := 275) hx hb ⟨by omega, by omega⟩ ⟨by omega, by omega⟩ dX12_makeCycle_44 (by decide) (fun c_44 => ?_) (fun c_44 => ?_)
      · skip
        refine g_iinc (k := 3) (z := ro) (n := (1)) (lv' := [(3, Iz (ro + 1)), (0, .ref h0), (1, Iz (n)), (2, Iz (d)), (4, Iz (e))]) hx hb dX12_makeCycle_275 hl rfl (by decide) rfl (fun ls hl => ?_)
        refine lv_goto (tgt := 33) hx hb dX12_makeCycle_278 (by decide) ?_
        exact ih_33 _ (by omega) _ _ _ ⟨ar3, (ro + 1), d, rfl, (by omega), (by omega), (q3), (by rw [hd, show (e - 1).toNat = n.toNat by omega]; unfold cyc; by_cases r0 : ro = 0; (· rw [if_pos r0, if_neg (by omega), if_pos (by omega)]); (· rw [if_neg r0, if_neg (by omega), if_neg (by omega)])), hP, hD, hS, lv_sub hl [1, 2, 3, 0] rfl⟩
      · skip
        have ek : (e + 1 - 1).toNat = (e - 1).toNat + 1 := by omega
        have ee : (((e - 1).toNat : Nat) : Int) + 1 = e := by omega
        have ca := c0 ((e - 1).toNat + 1) (by omega)
        have cb := c1 ((e - 1).toNat + 1) (by omega)
        have cc := c0 ((e - 1).toNat) (by omega)
        have cd := c1 ((e - 1).toNat) (by omega)
        have u0 : cyc0 n ((e - 1).toNat + 1) = if n % e = 0 ∧ mob (n / e) = 1 then cyc0 n (e - 1).toNat + e else cyc0 n (e - 1).toNat := by show (if n % ((((e - 1).toNat : Nat) : Int) + 1) = 0 ∧ mob (n / ((((e - 1).toNat : Nat) : Int) + 1)) = 1 then cyc0 n (e - 1).toNat + ((((e - 1).toNat : Nat) : Int) + 1) else cyc0 n (e - 1).toNat) = _; rw [ee]
        have u1 : cyc1 n ((e - 1).toNat + 1) = if n % e = 0 ∧ mob (n / e) = -1 then cyc1 n (e - 1).toNat - e else cyc1 n (e - 1).toNat := by show (if n % ((((e - 1).toNat : Nat) : Int) + 1) = 0 ∧ mob (n / ((((e - 1).toNat : Nat) : Int) + 1)) = -1 then cyc1 n (e - 1).toNat - ((((e - 1).toNat : Nat) : Int) + 1) else cyc1 n (e - 1).toNat) = _; rw [ee]
        have nq0 : 1 ≤ n / e := Int.le_ediv_of_mul_le (by omega) (by omega)
        have nq1 : n / e ≤ n := Int.ediv_le_self _ (by omega)
        have mb := mobs_bd (n := n / e) (by omega) (by omega) (n / e - 1).toNat
        have dd : 0 ≤ d ∧ d ≤ 139 := by rw [hd]; unfold cyc; split <;> omega
        refine lv_iload_n hx hb dX12_makeCycle_47 rfl (lv_at hl 1 rfl) ?_
        refine lv_iload hx hb dX12_makeCycle_48 (lv_at hl 4 rfl) ?_
        refine g_irem hx hb (by omega) (by omega) (by omega) (by omega) dX12_makeCycle_50 ?_
        refine g_if_ne (tgt := 64) hx hb ⟨by have := Int.emod_nonneg n (show e ≠ 0 by omega); omega, by have := Int.emod_lt_of_pos n (show 0 < e by omega); omega⟩ dX12_makeCycle_51 (by decide) (fun c_51 => ?_) (fun c_51 => ?_)
        · skip
          refine lv_iconst (v := Int32.ofInt (0)) hx hb dX12_makeCycle_64 (by decide) ?_
          refine lv_istore (lv' := [(5, Iz (0)), (0, .ref h0), (1, Iz (n)), (2, Iz (d)), (3, Iz (ro)), (4, Iz (e))]) hx hb dX12_makeCycle_65 hl (by decide) rfl (fun ls hl => ?_)
          refine lv_iload_n hx hb dX12_makeCycle_67 rfl (lv_at hl 4 rfl) ?_
          refine g_if_ne (tgt := 135) hx hb ⟨by omega, by omega⟩ dX12_makeCycle_68 (by decide) (fun c_68 => ?_) (fun c_68 => ?_)
          · skip
            refine lv_iload_n hx hb dX12_makeCycle_135 rfl (lv_at hl 4 rfl) ?_
            refine lv_iconst (v := Int32.ofInt (1)) hx hb dX12_makeCycle_136 (by decide) ?_
            refine g_icmp_ne (tgt := 269) hx hb ⟨by omega, by omega⟩ ⟨by omega, by omega⟩ dX12_makeCycle_137 (by decide) (fun c_137 => ?_) (fun c_137 => ?_)
            · skip
              refine g_iinc (k := 5) (z := e) (n := (1)) (lv' := [(4, Iz (e + 1)), (5, Iz (0)), (0, .ref h0), (1, Iz (n)), (2, Iz (d)), (3, Iz (ro))]) hx hb dX12_makeCycle_269 hl rfl (by decide) rfl (fun ls hl => ?_)
              refine lv_goto (tgt := 41) hx hb dX12_makeCycle_272 (by decide) ?_
              exact ih_41 _ (by omega) _ _ _ ⟨ar3, (e + 1), d, rfl, (by omega), (by omega), (by first | exact q7 | exact q4 | exact q3), (by
              rw [ek]
              unfold cyc
              by_cases r0 : ro = 0
              · rw [if_pos r0, u0]
                have dv : d = cyc0 n (e - 1).toNat := by rw [hd]; unfold cyc; rw [if_pos r0]
                first
                | (rw [if_neg (fun q => c_51 q.1)]; exact dv)
                | (rw [if_pos ⟨c_51, by unfold mob; rw [← q58]; exact c_74⟩, ← dv]; done)
                | (rw [if_neg (fun q => c_74 (by have h := q.2; unfold mob at h; rw [← q58] at h; exact h))]; exact dv)
                | omega
              · rw [if_neg r0, u1]
                have dv : d = cyc1 n (e - 1).toNat := by rw [hd]; unfold cyc; rw [if_neg r0]
                first
                | (rw [if_neg (fun q => c_51 q.1)]; exact dv)
                | (rw [if_pos ⟨c_51, by unfold mob; rw [← q58]; exact c_143⟩, ← dv]; done)
                | (rw [if_neg (fun q => c_143 (by have h := q.2; unfold mob at h; rw [← q58] at h; exact h))]; exact dv)
                | omega), hP, hD, hS, lv_sub hl [2, 3, 4, 5, 0] rfl⟩
            · skip
              refine lv_iload hx hb dX12_makeCycle_140 (lv_at hl 0 rfl) ?_
              refine lv_iconst (v := Int32.ofInt (-1)) hx hb dX12_makeCycle_142 (by decide) ?_
              refine g_icmp_ne (tgt := 269) hx hb ⟨by omega, by omega⟩ ⟨by omega, by omega⟩ dX12_makeCycle_143 (by decide) (fun c_143 => ?_) (fun c_143 => ?_)
              · skip
                refine g_iinc (k := 5) (z := e) (n := (1)) (lv' := [(4, Iz (e + 1)), (5, Iz (0)), (0, .ref h0), (1, Iz (n)), (2, Iz (d)), (3, Iz (ro))]) hx hb dX12_makeCycle_269 hl rfl (by decide) rfl (fun ls hl => ?_)
                refine lv_goto (tgt := 41) hx hb dX12_makeCycle_272 (by decide) ?_
                exact ih_41 _ (by omega) _ _ _ ⟨ar3, (e + 1), d, rfl, (by omega), (by omega), (by first | exact q7 | exact q4 | exact q3), (by
              rw [ek]
              unfold cyc
              by_cases r0 : ro = 0
              · rw [if_pos r0, u0]
                have dv : d = cyc0 n (e - 1).toNat := by rw [hd]; unfold cyc; rw [if_pos r0]
                first
                | (rw [if_neg (fun q => c_51 q.1)]; exact dv)
                | (rw [if_pos ⟨c_51, by unfold mob; rw [← q58]; exact c_74⟩, ← dv]; done)
                | (rw [if_neg (fun q => c_74 (by have h := q.2; unfold mob at h; rw [← q58] at h; exact h))]; exact dv)
                | omega
              · rw [if_neg r0, u1]
                have dv : d = cyc1 n (e - 1).toNat := by rw [hd]; unfold cyc; rw [if_neg r0]
                first
                | (rw [if_neg (fun q => c_51 q.1)]; exact dv)
                | (rw [if_pos ⟨c_51, by unfold mob; rw [← q58]; exact c_143⟩, ← dv]; done)
                | (rw [if_neg (fun q => c_143 (by have h := q.2; unfold mob at h; rw [← q58] at h; exact h))]; exact dv)
                | omega), hP, hD, hS, lv_sub hl [2, 3, 4, 5, 0] rfl⟩
              · omega
          · skip
            refine lv_iload hx hb dX12_makeCycle_71 (lv_at hl 0 rfl) ?_
            refine lv_iconst (v := Int32.ofInt (1)) hx hb dX12_makeCycle_73 (by decide) ?_
            refine g_icmp_ne (tgt := 135) hx hb ⟨by omega, by omega⟩ ⟨by omega, by omega⟩ dX12_makeCycle_74 (by decide) (fun c_74 => ?_) (fun c_74 => ?_)
            · skip
              refine lv_iload_n hx hb dX12_makeCycle_135 rfl (lv_at hl 4 rfl) ?_
              refine lv_iconst (v := Int32.ofInt (1)) hx hb dX12_makeCycle_136 (by decide) ?_
              refine g_icmp_ne (tgt := 269) hx hb ⟨by omega, by omega⟩ ⟨by omega, by omega⟩ dX12_makeCycle_137 (by decide) (fun c_137 => ?_) (fun c_137 => ?_)
              · skip
                refine g_iinc (k := 5) (z := e) (n := (1)) (lv' := [(4, Iz (e + 1)), (5, Iz (0)), (0, .ref h0), (1, Iz (n)), (2, Iz (d)), (3, Iz (ro))]) hx hb dX12_makeCycle_269 hl rfl (by decide) rfl (fun ls hl => ?_)
                refine lv_goto (tgt := 41) hx hb dX12_makeCycle_272 (by decide) ?_
                exact ih_41 _ (by omega) _ _ _ ⟨ar3, (e + 1), d, rfl, (by omega), (by omega), (by first | exact q7 | exact q4 | exact q3), (by
              rw [ek]
              unfold cyc
              by_cases r0 : ro = 0
              · rw [if_pos r0, u0]
                have dv : d = cyc0 n (e - 1).toNat := by rw [hd]; unfold cyc; rw [if_pos r0]
                first
                | (rw [if_neg (fun q => c_51 q.1)]; exact dv)
                | (rw [if_pos ⟨c_51, by unfold mob; rw [← q58]; exact c_74⟩, ← dv]; done)
                | (rw [if_neg (fun q => c_74 (by have h := q.2; unfold mob at h; rw [← q58] at h; exact h))]; exact dv)
                | omega
              · rw [if_neg r0, u1]
                have dv : d = cyc1 n (e - 1).toNat := by rw [hd]; unfold cyc; rw [if_neg r0]
                first
                | (rw [if_neg (fun q => c_51 q.1)]; exact dv)
                | (rw [if_pos ⟨c_51, by unfold mob; rw [← q58]; exact c_143⟩, ← dv]; done)
                | (rw [if_neg (fun q => c_143 (by have h := q.2; unfold mob at h; rw [← q58] at h; exact h))]; exact dv)
                | omega), hP, hD, hS, lv_sub hl [2, 3, 4, 5, 0] rfl⟩
              · skip
                refine lv_iload hx hb dX12_makeCycle_140 (lv_at hl 0 rfl) ?_
                refine lv_iconst (v := Int32.ofInt (-1)) hx hb dX12_makeCycle_142 (by decide) ?_
                refine g_icmp_ne (tgt := 269) hx hb ⟨by omega, by omega⟩ ⟨by omega, by omega⟩ dX12_makeCycle_143 (by decide) (fun c_143 => ?_) (fun c_143 => ?_)
                · skip
                  refine g_iinc (k := 5) (z := e) (n := (1)) (lv' := [(4, Iz (e + 1)), (5, Iz (0)), (0, .ref h0), (1, Iz (n)), (2, Iz (d)), (3, Iz (ro))]) hx hb dX12_makeCycle_269 hl rfl (by decide) rfl (fun ls hl => ?_)
                  refine lv_goto (tgt := 41) hx hb dX12_makeCycle_272 (by decide) ?_
                  exact ih_41 _ (by omega) _ _ _ ⟨ar3, (e + 1), d, rfl, (by omega), (by omega), (by first | exact q7 | exact q4 | exact q3), (by
              rw [ek]
              unfold cyc
              by_cases r0 : ro = 0
              · rw [if_pos r0, u0]
                have dv : d = cyc0 n (e - 1).toNat := by rw [hd]; unfold cyc; rw [if_pos r0]
                first
                | (rw [if_neg (fun q => c_51 q.1)]; exact dv)
                | (rw [if_pos ⟨c_51, by unfold mob; rw [← q58]; exact c_74⟩, ← dv]; done)
                | (rw [if_neg (fun q => c_74 (by have h := q.2; unfold mob at h; rw [← q58] at h; exact h))]; exact dv)
                | omega
              · rw [if_neg r0, u1]
                have dv : d = cyc1 n (e - 1).toNat := by rw [hd]; unfold cyc; rw [if_neg r0]
                first
                | (rw [if_neg (fun q => c_51 q.1)]; exact dv)
                | (rw [if_pos ⟨c_51, by unfold mob; rw [← q58]; exact c_143⟩, ← dv]; done)
                | (rw [if_neg (fun q => c_143 (by have h := q.2; unfold mob at h; rw [← q58] at h; exact h))]; exact dv)
                | omega), hP, hD, hS, lv_sub hl [2, 3, 4, 5, 0] rfl⟩
                · omega
            · omega
        · skip
          refine lv_iload_n hx hb dX12_makeCycle_54 rfl (lv_at hl 1 rfl) ?_
          refine lv_iload hx hb dX12_makeCycle_55 (lv_at hl 4 rfl) ?_
          refine g_idiv hx hb (by omega) (by omega) (by omega) (by omega) dX12_makeCycle_57 ?_
          refine r_callsi (As := [Iz (n / e)]) (rest := []) E (c_moebius (n := n / e) nq0 (by omega)) (cwS 1 hts (rGoodS ml_489 mt_moebius mn_RX12 mc_moebius) rfl rfl rfl (by decide +kernel) ⟨Nat.le_of_ble_eq_true rfl, Nat.le_of_ble_eq_true rfl⟩) (B := va_P (dC, dI) rcl (mW h0 ad cI cJ cB cZ F ar3)) (r_kept hP) hS rfl hl.1 (Nat.le_of_ble_eq_true rfl) dX12_makeCycle_58 ⟨Nat.le_refl 0, Nat.le_refl 0⟩ (fun z58 H locs q58 hP hS => ?_)
          refine lv_goto (tgt := 65) hx hb dX12_makeCycle_61 (by decide) ?_
          refine lv_istore (lv' := [(5, Iz (z58)), (0, .ref h0), (1, Iz (n)), (2, Iz (d)), (3, Iz (ro)), (4, Iz (e))]) hx hb dX12_makeCycle_65 hl (by decide) rfl (fun ls hl => ?_)
          refine lv_iload_n hx hb dX12_makeCycle_67 rfl (lv_at hl 4 rfl) ?_
          refine g_if_ne (tgt := 135) hx hb ⟨by omega, by omega⟩ dX12_makeCycle_68 (by decide) (fun c_68 => ?_) (fun c_68 => ?_)
          · skip
            refine lv_iload_n hx hb dX12_makeCycle_135 rfl (lv_at hl 4 rfl) ?_
            refine lv_iconst (v := Int32.ofInt (1)) hx hb dX12_makeCycle_136 (by decide) ?_
            refine g_icmp_ne (tgt := 269) hx hb ⟨by omega, by omega⟩ ⟨by omega, by omega⟩ dX12_makeCycle_137 (by decide) (fun c_137 => ?_) (fun c_137 => ?_)
            · skip
              refine g_iinc (k := 5) (z := e) (n := (1)) (lv' := [(4, Iz (e + 1)), (5, Iz (z58)), (0, .ref h0), (1, Iz (n)), (2, Iz (d)), (3, Iz (ro))]) hx hb dX12_makeCycle_269 hl rfl (by decide) rfl (fun ls hl => ?_)
              refine lv_goto (tgt := 41) hx hb dX12_makeCycle_272 (by decide) ?_
              exact ih_41 _ (by omega) _ _ _ ⟨ar3, (e + 1), d, rfl, (by omega), (by omega), (by first | exact q7 | exact q4 | exact q3), (by
              rw [ek]
              unfold cyc
              by_cases r0 : ro = 0
              · rw [if_pos r0, u0]
                have dv : d = cyc0 n (e - 1).toNat := by rw [hd]; unfold cyc; rw [if_pos r0]
                first
                | (rw [if_neg (fun q => c_51 q.1)]; exact dv)
                | (rw [if_pos ⟨c_51, by unfold mob; rw [← q58]; exact c_74⟩, ← dv]; done)
                | (rw [if_neg (fun q => c_74 (by have h := q.2; unfold mob at h; rw [← q58] at h; exact h))]; exact dv)
                | omega
              · rw [if_neg r0, u1]
                have dv : d = cyc1 n (e - 1).toNat := by rw [hd]; unfold cyc; rw [if_neg r0]
                first
                | (rw [if_neg (fun q => c_51 q.1)]; exact dv)
                | (rw [if_pos ⟨c_51, by unfold mob; rw [← q58]; exact c_143⟩, ← dv]; done)
                | (rw [if_neg (fun q => c_143 (by have h := q.2; unfold mob at h; rw [← q58] at h; exact h))]; exact dv)
                | omega), hP, hD, hS, lv_sub hl [2, 3, 4, 5, 0] rfl⟩
            · skip
              refine lv_iload hx hb dX12_makeCycle_140 (lv_at hl 0 rfl) ?_
              refine lv_iconst (v := Int32.ofInt (-1)) hx hb dX12_makeCycle_142 (by decide) ?_
              refine g_icmp_ne (tgt := 269) hx hb ⟨by omega, by omega⟩ ⟨by omega, by omega⟩ dX12_makeCycle_143 (by decide) (fun c_143 => ?_) (fun c_143 => ?_)
              · skip
                refine g_iinc (k := 5) (z := e) (n := (1)) (lv' := [(4, Iz (e + 1)), (5, Iz (z58)), (0, .ref h0), (1, Iz (n)), (2, Iz (d)), (3, Iz (ro))]) hx hb dX12_makeCycle_269 hl rfl (by decide) rfl (fun ls hl => ?_)
                refine lv_goto (tgt := 41) hx hb dX12_makeCycle_272 (by decide) ?_
                exact ih_41 _ (by omega) _ _ _ ⟨ar3, (e + 1), d, rfl, (by omega), (by omega), (by first | exact q7 | exact q4 | exact q3), (by
              rw [ek]
              unfold cyc
              by_cases r0 : ro = 0
              · rw [if_pos r0, u0]
                have dv : d = cyc0 n (e - 1).toNat := by rw [hd]; unfold cyc; rw [if_pos r0]
                first
                | (rw [if_neg (fun q => c_51 q.1)]; exact dv)
                | (rw [if_pos ⟨c_51, by unfold mob; rw [← q58]; exact c_74⟩, ← dv]; done)
                | (rw [if_neg (fun q => c_74 (by have h := q.2; unfold mob at h; rw [← q58] at h; exact h))]; exact dv)
                | omega
              · rw [if_neg r0, u1]
                have dv : d = cyc1 n (e - 1).toNat := by rw [hd]; unfold cyc; rw [if_neg r0]
                first
                | (rw [if_neg (fun q => c_51 q.1)]; exact dv)
                | (rw [if_pos ⟨c_51, by unfold mob; rw [← q58]; exact c_143⟩, ← dv]; done)
                | (rw [if_neg (fun q => c_143 (by have h := q.2; unfold mob at h; rw [← q58] at h; exact h))]; exact dv)
                | omega), hP, hD, hS, lv_sub hl [2, 3, 4, 5, 0] rfl⟩
              · skip
                have r0 : ro ≠ 0 := by omega
                have dv : d = cyc1 n (e - 1).toNat := by rw [hd]; unfold cyc; rw [if_neg r0]
                have nx : cyc1 n ((e - 1).toNat + 1) = d - e := by rw [u1, if_pos ⟨c_51, by unfold mob; rw [← q58]; exact c_143⟩, dv]
                refine lv_iconst (v := Int32.ofInt (0)) hx hb dX12_makeCycle_146 (by decide) ?_
                refine lv_istore (lv' := [(6, Iz (0)), (5, Iz (z58)), (0, .ref h0), (1, Iz (n)), (2, Iz (d)), (3, Iz (ro)), (4, Iz (e))]) hx hb dX12_makeCycle_147 hl (by decide) rfl (fun ls hl => ?_)
                refine r_loop (P := fun N_ H locs ls => ∃ (ar5 : Nat → Int → Int) (i : Int), N_ = (d + 1 - i).toNat ∧ (0 ≤ i) ∧ (i ≤ d + 1) ∧ (∀ j : Nat, j ≠ 47 → j ≠ 48 → ar5 j = ar j) ∧ va_P (dC, dI) rcl (mW h0 ad cI cJ cB cZ F ar5) H ∧ va_D (rA h0 ad s.heap.size) (mW h0 ad cI cJ cB cZ F ar5) ∧ va_S (rA h0 ad s.heap.size) s.heap H locs ∧ lv_has ls 7 [(0, .ref h0), (1, Iz (n)), (2, Iz (d)), (3, Iz (ro)), (4, Iz (e)), (5, Iz (z58)), (6, Iz (i))]) (g := fun ls => F0 m 149 ls []) (fun N_ H locs ls hI ih_149 => ?_) _ _ _ _ ⟨ar3, 0, rfl, (Int.le_refl 0), (by omega), (by first | exact q3 | (exfalso; omega)), hP, hD, hS, lv_sub hl [2, 3, 4, 5, 6, 1, 0] rfl⟩
                obtain ⟨ar5, i, rfl, i0, i1, q5, hP, hD, hS, hl⟩ := hI
                refine lv_iload hx hb dX12_makeCycle_149 (lv_at hl 6 rfl) ?_
                refine lv_iload_n hx hb dX12_makeCycle_151 rfl (lv_at hl 2 rfl) ?_
                refine g_icmp_gt (tgt := 175) hx hb ⟨by omega, by omega⟩ ⟨by omega, by omega⟩ dX12_makeCycle_152 (by decide) (fun c_152 => ?_) (fun c_152 => ?_)
                · skip
                  refine lv_iload_n hx hb dX12_makeCycle_175 rfl (lv_at hl 2 rfl) ?_
                  refine lv_istore (lv' := [(6, Iz (d)), (0, .ref h0), (1, Iz (n)), (2, Iz (d)), (3, Iz (ro)), (4, Iz (e)), (5, Iz (z58))]) hx hb dX12_makeCycle_176 hl (by decide) rfl (fun ls hl => ?_)
                  refine r_loop (P := fun N_ H locs ls => ∃ (ar6 : Nat → Int → Int) (i : Int), N_ = (i - e + 1).toNat ∧ (e - 1 ≤ i) ∧ (i ≤ d) ∧ (∀ j : Nat, j ≠ 47 → j ≠ 48 → ar6 j = ar j) ∧ va_P (dC, dI) rcl (mW h0 ad cI cJ cB cZ F ar6) H ∧ va_D (rA h0 ad s.heap.size) (mW h0 ad cI cJ cB cZ F ar6) ∧ va_S (rA h0 ad s.heap.size) s.heap H locs ∧ lv_has ls 7 [(0, .ref h0), (1, Iz (n)), (2, Iz (d)), (3, Iz (ro)), (4, Iz (e)), (5, Iz (z58)), (6, Iz (i))]) (g := fun ls => F0 m 178 ls []) (fun N_ H locs ls hI ih_178 => ?_) _ _ _ _ ⟨ar5, d, rfl, (by omega), (by omega), (q5), hP, hD, hS, lv_sub hl [1, 2, 3, 4, 5, 6, 0] rfl⟩
                  obtain ⟨ar6, i, rfl, i0, i1, q6, hP, hD, hS, hl⟩ := hI
                  refine lv_iload hx hb dX12_makeCycle_178 (lv_at hl 6 rfl) ?_
                  refine lv_iload hx hb dX12_makeCycle_180 (lv_at hl 4 rfl) ?_
                  refine g_icmp_lt (tgt := 236) hx hb ⟨by omega, by omega⟩ ⟨by omega, by omega⟩ dX12_makeCycle_182 (by decide) (fun c_182 => ?_) (fun c_182 => ?_)
                  · skip
                    refine lv_iload_n hx hb dX12_makeCycle_236 rfl (lv_at hl 2 rfl) ?_
                    refine lv_iload hx hb dX12_makeCycle_237 (lv_at hl 4 rfl) ?_
                    refine g_isub hx hb dX12_makeCycle_239 ?_
                    refine lv_iconst (v := Int32.ofInt (1)) hx hb dX12_makeCycle_240 (by decide) ?_
                    refine g_iadd hx hb dX12_makeCycle_241 ?_
                    refine lv_istore (lv' := [(6, Iz ((d - e) + 1)), (0, .ref h0), (1, Iz (n)), (2, Iz (d)), (3, Iz (ro)), (4, Iz (e)), (5, Iz (z58))]) hx hb dX12_makeCycle_242 hl (by decide) rfl (fun ls hl => ?_)
                    refine r_loop (P := fun N_ H locs ls => ∃ (ar7 : Nat → Int → Int) (i : Int), N_ = (d + 1 - i).toNat ∧ (d - e + 1 ≤ i) ∧ (i ≤ d + 1) ∧ (∀ j : Nat, j ≠ 47 → j ≠ 48 → ar7 j = ar j) ∧ va_P (dC, dI) rcl (mW h0 ad cI cJ cB cZ F ar7) H ∧ va_D (rA h0 ad s.heap.size) (mW h0 ad cI cJ cB cZ F ar7) ∧ va_S (rA h0 ad s.heap.size) s.heap H locs ∧ lv_has ls 7 [(0, .ref h0), (1, Iz (n)), (2, Iz (d)), (3, Iz (ro)), (4, Iz (e)), (5, Iz (z58)), (6, Iz (i))]) (g := fun ls => F0 m 244 ls []) (fun N_ H locs ls hI ih_244 => ?_) _ _ _ _ ⟨ar6, ((d - e) + 1), rfl, (by omega), (by omega), (q6), hP, hD, hS, lv_sub hl [1, 2, 3, 4, 5, 6, 0] rfl⟩
                    obtain ⟨ar7, i, rfl, i0, i1, q7, hP, hD, hS, hl⟩ := hI
                    refine lv_iload hx hb dX12_makeCycle_244 (lv_at hl 6 rfl) ?_
                    refine lv_iload_n hx hb dX12_makeCycle_246 rfl (lv_at hl 2 rfl) ?_
                    refine g_icmp_gt (tgt := 264) hx hb ⟨by omega, by omega⟩ ⟨by omega, by omega⟩ dX12_makeCycle_247 (by decide) (fun c_247 => ?_) (fun c_247 => ?_)
                    · skip
                      refine lv_iload_n hx hb dX12_makeCycle_264 rfl (lv_at hl 2 rfl) ?_
                      refine lv_iload hx hb dX12_makeCycle_265 (lv_at hl 4 rfl) ?_
                      refine g_isub hx hb dX12_makeCycle_267 ?_
                      refine lv_istore_n (lv' := [(2, Iz (d - e)), (0, .ref h0), (1, Iz (n)), (3, Iz (ro)), (4, Iz (e)), (5, Iz (z58)), (6, Iz (i))]) hx hb dX12_makeCycle_268 rfl hl (by decide) rfl (fun ls hl => ?_)
                      refine g_iinc (k := 4) (z := e) (n := (1)) (lv' := [(4, Iz (e + 1)), (2, Iz (d - e)), (0, .ref h0), (1, Iz (n)), (3, Iz (ro)), (5, Iz (z58)), (6, Iz (i))]) hx hb dX12_makeCycle_269 hl rfl (by decide) rfl (fun ls hl => ?_)
                      refine lv_goto (tgt := 41) hx hb dX12_makeCycle_272 (by decide) ?_
                      exact ih_41 _ (by omega) _ _ _ ⟨ar7, (e + 1), (d - e), rfl, (by omega), (by omega), (by first | exact q7 | exact q4 | exact q3), (by
              rw [ek]
              unfold cyc
              by_cases r0 : ro = 0
              · rw [if_pos r0, u0]
                have dv : d = cyc0 n (e - 1).toNat := by rw [hd]; unfold cyc; rw [if_pos r0]
                first
                | (rw [if_neg (fun q => c_51 q.1)]; exact dv)
                | (rw [if_pos ⟨c_51, by unfold mob; rw [← q58]; exact c_74⟩, ← dv]; done)
                | (rw [if_neg (fun q => c_74 (by have h := q.2; unfold mob at h; rw [← q58] at h; exact h))]; exact dv)
                | omega
              · rw [if_neg r0, u1]
                have dv : d = cyc1 n (e - 1).toNat := by rw [hd]; unfold cyc; rw [if_neg r0]
                first
                | (rw [if_neg (fun q => c_51 q.1)]; exact dv)
                | (rw [if_pos ⟨c_51, by unfold mob; rw [← q58]; exact c_143⟩, ← dv]; done)
                | (rw [if_neg (fun q => c_143 (by have h := q.2; unfold mob at h; rw [← q58] at h; exact h))]; exact dv)
                | omega), hP, hD, hS, lv_sub hl [2, 3, 1, 4, 0] rfl⟩
                    · skip
                      refine lv_aload_n hx hb dX12_makeCycle_250 rfl (lv_at hl 0 rfl) ?_
                      refine r_geti E hK hP (k := 48) (v := .ref (ad 48)) (by decide) mf_485 rfl rfl dX12_makeCycle_251 ?_
                      refine lv_iload hx hb dX12_makeCycle_254 (lv_at hl 6 rfl) ?_
                      refine lv_lconst (v := Int64.ofInt 0) hx hb dX12_makeCycle_256 rfl ?_
                      refine g_last (f := (ar7 48)) hx hb hK hP hD hS 22 1 rfl rfl (by omega) (by omega) (by decide) dX12_makeCycle_257 (fun H locs hP hD hS => ?_)
                      rw [sa_48] at hP hD
                      refine g_iinc (k := 6) (z := i) (n := (1)) (lv' := [(6, Iz (i + 1)), (0, .ref h0), (1, Iz (n)), (2, Iz (d)), (3, Iz (ro)), (4, Iz (e)), (5, Iz (z58))]) hx hb dX12_makeCycle_258 hl rfl (by decide) rfl (fun ls hl => ?_)
                      refine lv_goto (tgt := 244) hx hb dX12_makeCycle_261 (by decide) ?_
                      exact ih_244 _ (by omega) _ _ _ ⟨(aup ar7 48 (iup (ar7 48) i 0)), (i + 1), rfl, (by omega), (by omega), (fun j h1 h2 => by rw [aup_ne _ _ h2]; exact q7 j h1 h2), hP, hD, hS, lv_sub hl [1, 2, 3, 4, 5, 6, 0] rfl⟩
                  · skip
                    refine lv_aload_n hx hb dX12_makeCycle_185 rfl (lv_at hl 0 rfl) ?_
                    refine r_geti E hK hP (k := 48) (v := .ref (ad 48)) (by decide) mf_485 rfl rfl dX12_makeCycle_186 ?_
                    refine lv_iload hx hb dX12_makeCycle_189 (lv_at hl 6 rfl) ?_
                    refine lv_iload hx hb dX12_makeCycle_191 (lv_at hl 4 rfl) ?_
                    refine g_isub hx hb dX12_makeCycle_193 ?_
                    refine lv_aload_n hx hb dX12_makeCycle_194 rfl (lv_at hl 0 rfl) ?_
                    refine r_geti E hK hP (k := 47) (v := .ref (ad 47)) (by decide) mf_492 rfl rfl dX12_makeCycle_195 ?_
                    refine lv_iload hx hb dX12_makeCycle_198 (lv_at hl 6 rfl) ?_
                    refine g_lald (f := (ar6 47)) hx hb hK hP 21 1 rfl rfl (by omega) (by omega) (by decide) dX12_makeCycle_200 ?_
                    refine g_last (f := (ar6 48)) hx hb hK hP hD hS 22 1 rfl rfl (by omega) (by omega) (by decide) dX12_makeCycle_201 (fun H locs hP hD hS => ?_)
                    rw [sa_48] at hP hD
                    refine lv_aload_n hx hb dX12_makeCycle_202 rfl (lv_at hl 0 rfl) ?_
                    refine r_geti E hK hP (k := 47) (v := .ref (ad 47)) (by decide) mf_492 rfl rfl dX12_makeCycle_203 ?_
                    refine lv_iload hx hb dX12_makeCycle_206 (lv_at hl 6 rfl) ?_
                    refine lv_iload hx hb dX12_makeCycle_208 (lv_at hl 4 rfl) ?_
                    refine g_isub hx hb dX12_makeCycle_210 ?_
                    refine lv_aload_n hx hb dX12_makeCycle_211 rfl (lv_at hl 0 rfl) ?_
                    refine r_geti E hK hP (k := 47) (v := .ref (ad 47)) (by decide) mf_492 rfl rfl dX12_makeCycle_212 ?_
                    refine lv_iload hx hb dX12_makeCycle_215 (lv_at hl 6 rfl) ?_
                    refine lv_iload hx hb dX12_makeCycle_217 (lv_at hl 4 rfl) ?_
                    refine g_isub hx hb dX12_makeCycle_219 ?_
                    refine g_lald (f := (ar6 47)) hx hb hK hP 21 1 rfl rfl (by omega) (by omega) (by decide) dX12_makeCycle_220 ?_
                    refine lv_aload_n hx hb dX12_makeCycle_221 rfl (lv_at hl 0 rfl) ?_
                    refine r_geti E hK hP (k := 47) (v := .ref (ad 47)) (by decide) mf_492 rfl rfl dX12_makeCycle_222 ?_
                    refine lv_iload hx hb dX12_makeCycle_225 (lv_at hl 6 rfl) ?_
                    refine g_lald (f := (ar6 47)) hx hb hK hP 21 1 rfl rfl (by omega) (by omega) (by decide) dX12_makeCycle_227 ?_
                    refine g_ladd hx hb dX12_makeCycle_228 ?_
                    refine g_last (f := (ar6 47)) hx hb hK hP hD hS 21 1 rfl rfl (by omega) (by omega) (by decide) dX12_makeCycle_229 (fun H locs hP hD hS => ?_)
                    rw [sa_47] at hP hD
                    refine g_iinc (k := 6) (z := i) (n := (-1)) (lv' := [(6, Iz (i + (-1))), (0, .ref h0), (1, Iz (n)), (2, Iz (d)), (3, Iz (ro)), (4, Iz (e)), (5, Iz (z58))]) hx hb dX12_makeCycle_230 hl rfl (by decide) rfl (fun ls hl => ?_)
                    refine lv_goto (tgt := 178) hx hb dX12_makeCycle_233 (by decide) ?_
                    exact ih_178 _ (by omega) _ _ _ ⟨(aup (aup ar6 48 (iup (ar6 48) (i - e) ((ar6 47) i))) 47 (iup (ar6 47) (i - e) (((ar6 47) (i - e)) + ((ar6 47) i)))), (i + (-1)), rfl, (by omega), (by omega), (fun j h1 h2 => by rw [aup_ne _ _ h1, aup_ne _ _ h2]; exact q6 j h1 h2), hP, hD, hS, lv_sub hl [1, 2, 3, 4, 5, 6, 0] rfl⟩
                · skip
                  refine lv_aload_n hx hb dX12_makeCycle_155 rfl (lv_at hl 0 rfl) ?_
                  refine r_geti E hK hP (k := 47) (v := .ref (ad 47)) (by decide) mf_492 rfl rfl dX12_makeCycle_156 ?_
                  refine lv_iload hx hb dX12_makeCycle_159 (lv_at hl 6 rfl) ?_
                  refine lv_aload_n hx hb dX12_makeCycle_161 rfl (lv_at hl 0 rfl) ?_
                  refine r_geti E hK hP (k := 48) (v := .ref (ad 48)) (by decide) mf_485 rfl rfl dX12_makeCycle_162 ?_
                  refine lv_iload hx hb dX12_makeCycle_165 (lv_at hl 6 rfl) ?_
                  refine g_lald (f := (ar5 48)) hx hb hK hP 22 1 rfl rfl (by omega) (by omega) (by decide) dX12_makeCycle_167 ?_
                  refine g_last (f := (ar5 47)) hx hb hK hP hD hS 21 1 rfl rfl (by omega) (by omega) (by decide) dX12_makeCycle_168 (fun H locs hP hD hS => ?_)
                  rw [sa_47] at hP hD
                  refine g_iinc (k := 6) (z := i) (n := (1)) (lv' := [(6, Iz (i + 1)), (0, .ref h0), (1, Iz (n)), (2, Iz (d)), (3, Iz (ro)), (4, Iz (e)), (5, Iz (z58))]) hx hb dX12_makeCycle_169 hl rfl (by decide) rfl (fun ls hl => ?_)
                  refine lv_goto (tgt := 149) hx hb dX12_makeCycle_172 (by decide) ?_
                  exact ih_149 _ (by omega) _ _ _ ⟨(aup ar5 47 (iup (ar5 47) i ((ar5 48) i))), (i + 1), rfl, (by omega), (by omega), (fun j h1 h2 => by rw [aup_ne _ _ h1]; exact q5 j h1 h2), hP, hD, hS, lv_sub hl [1, 2, 3, 4, 5, 6, 0] rfl⟩
          · skip
            refine lv_iload hx hb dX12_makeCycle_71 (lv_at hl 0 rfl) ?_
            refine lv_iconst (v := Int32.ofInt (1)) hx hb dX12_makeCycle_73 (by decide) ?_
            refine g_icmp_ne (tgt := 135) hx hb ⟨by omega, by omega⟩ ⟨by omega, by omega⟩ dX12_makeCycle_74 (by decide) (fun c_74 => ?_) (fun c_74 => ?_)
            · skip
              refine lv_iload_n hx hb dX12_makeCycle_135 rfl (lv_at hl 4 rfl) ?_
              refine lv_iconst (v := Int32.ofInt (1)) hx hb dX12_makeCycle_136 (by decide) ?_
              refine g_icmp_ne (tgt := 269) hx hb ⟨by omega, by omega⟩ ⟨by omega, by omega⟩ dX12_makeCycle_137 (by decide) (fun c_137 => ?_) (fun c_137 => ?_)
              · skip
                refine g_iinc (k := 5) (z := e) (n := (1)) (lv' := [(4, Iz (e + 1)), (5, Iz (z58)), (0, .ref h0), (1, Iz (n)), (2, Iz (d)), (3, Iz (ro))]) hx hb dX12_makeCycle_269 hl rfl (by decide) rfl (fun ls hl => ?_)
                refine lv_goto (tgt := 41) hx hb dX12_makeCycle_272 (by decide) ?_
                exact ih_41 _ (by omega) _ _ _ ⟨ar3, (e + 1), d, rfl, (by omega), (by omega), (by first | exact q7 | exact q4 | exact q3), (by
              rw [ek]
              unfold cyc
              by_cases r0 : ro = 0
              · rw [if_pos r0, u0]
                have dv : d = cyc0 n (e - 1).toNat := by rw [hd]; unfold cyc; rw [if_pos r0]
                first
                | (rw [if_neg (fun q => c_51 q.1)]; exact dv)
                | (rw [if_pos ⟨c_51, by unfold mob; rw [← q58]; exact c_74⟩, ← dv]; done)
                | (rw [if_neg (fun q => c_74 (by have h := q.2; unfold mob at h; rw [← q58] at h; exact h))]; exact dv)
                | omega
              · rw [if_neg r0, u1]
                have dv : d = cyc1 n (e - 1).toNat := by rw [hd]; unfold cyc; rw [if_neg r0]
                first
                | (rw [if_neg (fun q => c_51 q.1)]; exact dv)
                | (rw [if_pos ⟨c_51, by unfold mob; rw [← q58]; exact c_143⟩, ← dv]; done)
                | (rw [if_neg (fun q => c_143 (by have h := q.2; unfold mob at h; rw [← q58] at h; exact h))]; exact dv)
                | omega), hP, hD, hS, lv_sub hl [2, 3, 4, 5, 0] rfl⟩
              · skip
                refine lv_iload hx hb dX12_makeCycle_140 (lv_at hl 0 rfl) ?_
                refine lv_iconst (v := Int32.ofInt (-1)) hx hb dX12_makeCycle_142 (by decide) ?_
                refine g_icmp_ne (tgt := 269) hx hb ⟨by omega, by omega⟩ ⟨by omega, by omega⟩ dX12_makeCycle_143 (by decide) (fun c_143 => ?_) (fun c_143 => ?_)
                · skip
                  refine g_iinc (k := 5) (z := e) (n := (1)) (lv' := [(4, Iz (e + 1)), (5, Iz (z58)), (0, .ref h0), (1, Iz (n)), (2, Iz (d)), (3, Iz (ro))]) hx hb dX12_makeCycle_269 hl rfl (by decide) rfl (fun ls hl => ?_)
                  refine lv_goto (tgt := 41) hx hb dX12_makeCycle_272 (by decide) ?_
                  exact ih_41 _ (by omega) _ _ _ ⟨ar3, (e + 1), d, rfl, (by omega), (by omega), (by first | exact q7 | exact q4 | exact q3), (by
              rw [ek]
              unfold cyc
              by_cases r0 : ro = 0
              · rw [if_pos r0, u0]
                have dv : d = cyc0 n (e - 1).toNat := by rw [hd]; unfold cyc; rw [if_pos r0]
                first
                | (rw [if_neg (fun q => c_51 q.1)]; exact dv)
                | (rw [if_pos ⟨c_51, by unfold mob; rw [← q58]; exact c_74⟩, ← dv]; done)
                | (rw [if_neg (fun q => c_74 (by have h := q.2; unfold mob at h; rw [← q58] at h; exact h))]; exact dv)
                | omega
              · rw [if_neg r0, u1]
                have dv : d = cyc1 n (e - 1).toNat := by rw [hd]; unfold cyc; rw [if_neg r0]
                first
                | (rw [if_neg (fun q => c_51 q.1)]; exact dv)
                | (rw [if_pos ⟨c_51, by unfold mob; rw [← q58]; exact c_143⟩, ← dv]; done)
                | (rw [if_neg (fun q => c_143 (by have h := q.2; unfold mob at h; rw [← q58] at h; exact h))]; exact dv)
                | omega), hP, hD, hS, lv_sub hl [2, 3, 4, 5, 0] rfl⟩
                · skip
                  have r0 : ro ≠ 0 := by omega
                  have dv : d = cyc1 n (e - 1).toNat := by rw [hd]; unfold cyc; rw [if_neg r0]
                  have nx : cyc1 n ((e - 1).toNat + 1) = d - e := by rw [u1, if_pos ⟨c_51, by unfold mob; rw [← q58]; exact c_143⟩, dv]
                  refine lv_iconst (v := Int32.ofInt (0)) hx hb dX12_makeCycle_146 (by decide) ?_
                  refine lv_istore (lv' := [(6, Iz (0)), (5, Iz (z58)), (0, .ref h0), (1, Iz (n)), (2, Iz (d)), (3, Iz (ro)), (4, Iz (e))]) hx hb dX12_makeCycle_147 hl (by decide) rfl (fun ls hl => ?_)
                  refine r_loop (P := fun N_ H locs ls => ∃ (ar5 : Nat → Int → Int) (i : Int), N_ = (d + 1 - i).toNat ∧ (0 ≤ i) ∧ (i ≤ d + 1) ∧ (∀ j : Nat, j ≠ 47 → j ≠ 48 → ar5 j = ar j) ∧ va_P (dC, dI) rcl (mW h0 ad cI cJ cB cZ F ar5) H ∧ va_D (rA h0 ad s.heap.size) (mW h0 ad cI cJ cB cZ F ar5) ∧ va_S (rA h0 ad s.heap.size) s.heap H locs ∧ lv_has ls 7 [(0, .ref h0), (1, Iz (n)), (2, Iz (d)), (3, Iz (ro)), (4, Iz (e)), (5, Iz (z58)), (6, Iz (i))]) (g := fun ls => F0 m 149 ls []) (fun N_ H locs ls hI ih_149 => ?_) _ _ _ _ ⟨ar3, 0, rfl, (Int.le_refl 0), (by omega), (by first | exact q3 | (exfalso; omega)), hP, hD, hS, lv_sub hl [2, 3, 4, 5, 6, 1, 0] rfl⟩
                  obtain ⟨ar5, i, rfl, i0, i1, q5, hP, hD, hS, hl⟩ := hI
                  refine lv_iload hx hb dX12_makeCycle_149 (lv_at hl 6 rfl) ?_
                  refine lv_iload_n hx hb dX12_makeCycle_151 rfl (lv_at hl 2 rfl) ?_
                  refine g_icmp_gt (tgt := 175) hx hb ⟨by omega, by omega⟩ ⟨by omega, by omega⟩ dX12_makeCycle_152 (by decide) (fun c_152 => ?_) (fun c_152 => ?_)
                  · skip
                    refine lv_iload_n hx hb dX12_makeCycle_175 rfl (lv_at hl 2 rfl) ?_
                    refine lv_istore (lv' := [(6, Iz (d)), (0, .ref h0), (1, Iz (n)), (2, Iz (d)), (3, Iz (ro)), (4, Iz (e)), (5, Iz (z58))]) hx hb dX12_makeCycle_176 hl (by decide) rfl (fun ls hl => ?_)
                    refine r_loop (P := fun N_ H locs ls => ∃ (ar6 : Nat → Int → Int) (i : Int), N_ = (i - e + 1).toNat ∧ (e - 1 ≤ i) ∧ (i ≤ d) ∧ (∀ j : Nat, j ≠ 47 → j ≠ 48 → ar6 j = ar j) ∧ va_P (dC, dI) rcl (mW h0 ad cI cJ cB cZ F ar6) H ∧ va_D (rA h0 ad s.heap.size) (mW h0 ad cI cJ cB cZ F ar6) ∧ va_S (rA h0 ad s.heap.size) s.heap H locs ∧ lv_has ls 7 [(0, .ref h0), (1, Iz (n)), (2, Iz (d)), (3, Iz (ro)), (4, Iz (e)), (5, Iz (z58)), (6, Iz (i))]) (g := fun ls => F0 m 178 ls []) (fun N_ H locs ls hI ih_178 => ?_) _ _ _ _ ⟨ar5, d, rfl, (by omega), (by omega), (q5), hP, hD, hS, lv_sub hl [1, 2, 3, 4, 5, 6, 0] rfl⟩
                    obtain ⟨ar6, i, rfl, i0, i1, q6, hP, hD, hS, hl⟩ := hI
                    refine lv_iload hx hb dX12_makeCycle_178 (lv_at hl 6 rfl) ?_
                    refine lv_iload hx hb dX12_makeCycle_180 (lv_at hl 4 rfl) ?_
                    refine g_icmp_lt (tgt := 236) hx hb ⟨by omega, by omega⟩ ⟨by omega, by omega⟩ dX12_makeCycle_182 (by decide) (fun c_182 => ?_) (fun c_182 => ?_)
                    · skip
                      refine lv_iload_n hx hb dX12_makeCycle_236 rfl (lv_at hl 2 rfl) ?_
                      refine lv_iload hx hb dX12_makeCycle_237 (lv_at hl 4 rfl) ?_
                      refine g_isub hx hb dX12_makeCycle_239 ?_
                      refine lv_iconst (v := Int32.ofInt (1)) hx hb dX12_makeCycle_240 (by decide) ?_
                      refine g_iadd hx hb dX12_makeCycle_241 ?_
                      refine lv_istore (lv' := [(6, Iz ((d - e) + 1)), (0, .ref h0), (1, Iz (n)), (2, Iz (d)), (3, Iz (ro)), (4, Iz (e)), (5, Iz (z58))]) hx hb dX12_makeCycle_242 hl (by decide) rfl (fun ls hl => ?_)
                      refine r_loop (P := fun N_ H locs ls => ∃ (ar7 : Nat → Int → Int) (i : Int), N_ = (d + 1 - i).toNat ∧ (d - e + 1 ≤ i) ∧ (i ≤ d + 1) ∧ (∀ j : Nat, j ≠ 47 → j ≠ 48 → ar7 j = ar j) ∧ va_P (dC, dI) rcl (mW h0 ad cI cJ cB cZ F ar7) H ∧ va_D (rA h0 ad s.heap.size) (mW h0 ad cI cJ cB cZ F ar7) ∧ va_S (rA h0 ad s.heap.size) s.heap H locs ∧ lv_has ls 7 [(0, .ref h0), (1, Iz (n)), (2, Iz (d)), (3, Iz (ro)), (4, Iz (e)), (5, Iz (z58)), (6, Iz (i))]) (g := fun ls => F0 m 244 ls []) (fun N_ H locs ls hI ih_244 => ?_) _ _ _ _ ⟨ar6, ((d - e) + 1), rfl, (by omega), (by omega), (q6), hP, hD, hS, lv_sub hl [1, 2, 3, 4, 5, 6, 0] rfl⟩
                      obtain ⟨ar7, i, rfl, i0, i1, q7, hP, hD, hS, hl⟩ := hI
                      refine lv_iload hx hb dX12_makeCycle_244 (lv_at hl 6 rfl) ?_
                      refine lv_iload_n hx hb dX12_makeCycle_246 rfl (lv_at hl 2 rfl) ?_
                      refine g_icmp_gt (tgt := 264) hx hb ⟨by omega, by omega⟩ ⟨by omega, by omega⟩ dX12_makeCycle_247 (by decide) (fun c_247 => ?_) (fun c_247 => ?_)
                      · skip
                        refine lv_iload_n hx hb dX12_makeCycle_264 rfl (lv_at hl 2 rfl) ?_
                        refine lv_iload hx hb dX12_makeCycle_265 (lv_at hl 4 rfl) ?_
                        refine g_isub hx hb dX12_makeCycle_267 ?_
                        refine lv_istore_n (lv' := [(2, Iz (d - e)), (0, .ref h0), (1, Iz (n)), (3, Iz (ro)), (4, Iz (e)), (5, Iz (z58)), (6, Iz (i))]) hx hb dX12_makeCycle_268 rfl hl (by decide) rfl (fun ls hl => ?_)
                        refine g_iinc (k := 4) (z := e) (n := (1)) (lv' := [(4, Iz (e + 1)), (2, Iz (d - e)), (0, .ref h0), (1, Iz (n)), (3, Iz (ro)), (5, Iz (z58)), (6, Iz (i))]) hx hb dX12_makeCycle_269 hl rfl (by decide) rfl (fun ls hl => ?_)
                        refine lv_goto (tgt := 41) hx hb dX12_makeCycle_272 (by decide) ?_
                        exact ih_41 _ (by omega) _ _ _ ⟨ar7, (e + 1), (d - e), rfl, (by omega), (by omega), (by first | exact q7 | exact q4 | exact q3), (by
              rw [ek]
              unfold cyc
              by_cases r0 : ro = 0
              · rw [if_pos r0, u0]
                have dv : d = cyc0 n (e - 1).toNat := by rw [hd]; unfold cyc; rw [if_pos r0]
                first
                | (rw [if_neg (fun q => c_51 q.1)]; exact dv)
                | (rw [if_pos ⟨c_51, by unfold mob; rw [← q58]; exact c_74⟩, ← dv]; done)
                | (rw [if_neg (fun q => c_74 (by have h := q.2; unfold mob at h; rw [← q58] at h; exact h))]; exact dv)
                | omega
              · rw [if_neg r0, u1]
                have dv : d = cyc1 n (e - 1).toNat := by rw [hd]; unfold cyc; rw [if_neg r0]
                first
                | (rw [if_neg (fun q => c_51 q.1)]; exact dv)
                | (rw [if_pos ⟨c_51, by unfold mob; rw [← q58]; exact c_143⟩, ← dv]; done)
                | (rw [if_neg (fun q => c_143 (by have h := q.2; unfold mob at h; rw [← q58] at h; exact h))]; exact dv)
                | omega), hP, hD, hS, lv_sub hl [2, 3, 1, 4, 0] rfl⟩
                      · skip
                        refine lv_aload_n hx hb dX12_makeCycle_250 rfl (lv_at hl 0 rfl) ?_
                        refine r_geti E hK hP (k := 48) (v := .ref (ad 48)) (by decide) mf_485 rfl rfl dX12_makeCycle_251 ?_
                        refine lv_iload hx hb dX12_makeCycle_254 (lv_at hl 6 rfl) ?_
                        refine lv_lconst (v := Int64.ofInt 0) hx hb dX12_makeCycle_256 rfl ?_
                        refine g_last (f := (ar7 48)) hx hb hK hP hD hS 22 1 rfl rfl (by omega) (by omega) (by decide) dX12_makeCycle_257 (fun H locs hP hD hS => ?_)
                        rw [sa_48] at hP hD
                        refine g_iinc (k := 6) (z := i) (n := (1)) (lv' := [(6, Iz (i + 1)), (0, .ref h0), (1, Iz (n)), (2, Iz (d)), (3, Iz (ro)), (4, Iz (e)), (5, Iz (z58))]) hx hb dX12_makeCycle_258 hl rfl (by decide) rfl (fun ls hl => ?_)
                        refine lv_goto (tgt := 244) hx hb dX12_makeCycle_261 (by decide) ?_
                        exact ih_244 _ (by omega) _ _ _ ⟨(aup ar7 48 (iup (ar7 48) i 0)), (i + 1), rfl, (by omega), (by omega), (fun j h1 h2 => by rw [aup_ne _ _ h2]; exact q7 j h1 h2), hP, hD, hS, lv_sub hl [1, 2, 3, 4, 5, 6, 0] rfl⟩
                    · skip
                      refine lv_aload_n hx hb dX12_makeCycle_185 rfl (lv_at hl 0 rfl) ?_
                      refine r_geti E hK hP (k := 48) (v := .ref (ad 48)) (by decide) mf_485 rfl rfl dX12_makeCycle_186 ?_
                      refine lv_iload hx hb dX12_makeCycle_189 (lv_at hl 6 rfl) ?_
                      refine lv_iload hx hb dX12_makeCycle_191 (lv_at hl 4 rfl) ?_
                      refine g_isub hx hb dX12_makeCycle_193 ?_
                      refine lv_aload_n hx hb dX12_makeCycle_194 rfl (lv_at hl 0 rfl) ?_
                      refine r_geti E hK hP (k := 47) (v := .ref (ad 47)) (by decide) mf_492 rfl rfl dX12_makeCycle_195 ?_
                      refine lv_iload hx hb dX12_makeCycle_198 (lv_at hl 6 rfl) ?_
                      refine g_lald (f := (ar6 47)) hx hb hK hP 21 1 rfl rfl (by omega) (by omega) (by decide) dX12_makeCycle_200 ?_
                      refine g_last (f := (ar6 48)) hx hb hK hP hD hS 22 1 rfl rfl (by omega) (by omega) (by decide) dX12_makeCycle_201 (fun H locs hP hD hS => ?_)
                      rw [sa_48] at hP hD
                      refine lv_aload_n hx hb dX12_makeCycle_202 rfl (lv_at hl 0 rfl) ?_
                      refine r_geti E hK hP (k := 47) (v := .ref (ad 47)) (by decide) mf_492 rfl rfl dX12_makeCycle_203 ?_
                      refine lv_iload hx hb dX12_makeCycle_206 (lv_at hl 6 rfl) ?_
                      refine lv_iload hx hb dX12_makeCycle_208 (lv_at hl 4 rfl) ?_
                      refine g_isub hx hb dX12_makeCycle_210 ?_
                      refine lv_aload_n hx hb dX12_makeCycle_211 rfl (lv_at hl 0 rfl) ?_
                      refine r_geti E hK hP (k := 47) (v := .ref (ad 47)) (by decide) mf_492 rfl rfl dX12_makeCycle_212 ?_
                      refine lv_iload hx hb dX12_makeCycle_215 (lv_at hl 6 rfl) ?_
                      refine lv_iload hx hb dX12_makeCycle_217 (lv_at hl 4 rfl) ?_
                      refine g_isub hx hb dX12_makeCycle_219 ?_
                      refine g_lald (f := (ar6 47)) hx hb hK hP 21 1 rfl rfl (by omega) (by omega) (by decide) dX12_makeCycle_220 ?_
                      refine lv_aload_n hx hb dX12_makeCycle_221 rfl (lv_at hl 0 rfl) ?_
                      refine r_geti E hK hP (k := 47) (v := .ref (ad 47)) (by decide) mf_492 rfl rfl dX12_makeCycle_222 ?_
                      refine lv_iload hx hb dX12_makeCycle_225 (lv_at hl 6 rfl) ?_
                      refine g_lald (f := (ar6 47)) hx hb hK hP 21 1 rfl rfl (by omega) (by omega) (by decide) dX12_makeCycle_227 ?_
                      refine g_ladd hx hb dX12_makeCycle_228 ?_
                      refine g_last (f := (ar6 47)) hx hb hK hP hD hS 21 1 rfl rfl (by omega) (by omega) (by decide) dX12_makeCycle_229 (fun H locs hP hD hS => ?_)
                      rw [sa_47] at hP hD
                      refine g_iinc (k := 6) (z := i) (n := (-1)) (lv' := [(6, Iz (i + (-1))), (0, .ref h0), (1, Iz (n)), (2, Iz (d)), (3, Iz (ro)), (4, Iz (e)), (5, Iz (z58))]) hx hb dX12_makeCycle_230 hl rfl (by decide) rfl (fun ls hl => ?_)
                      refine lv_goto (tgt := 178) hx hb dX12_makeCycle_233 (by decide) ?_
                      exact ih_178 _ (by omega) _ _ _ ⟨(aup (aup ar6 48 (iup (ar6 48) (i - e) ((ar6 47) i))) 47 (iup (ar6 47) (i - e) (((ar6 47) (i - e)) + ((ar6 47) i)))), (i + (-1)), rfl, (by omega), (by omega), (fun j h1 h2 => by rw [aup_ne _ _ h1, aup_ne _ _ h2]; exact q6 j h1 h2), hP, hD, hS, lv_sub hl [1, 2, 3, 4, 5, 6, 0] rfl⟩
                  · skip
                    refine lv_aload_n hx hb dX12_makeCycle_155 rfl (lv_at hl 0 rfl) ?_
                    refine r_geti E hK hP (k := 47) (v := .ref (ad 47)) (by decide) mf_492 rfl rfl dX12_makeCycle_156 ?_
                    refine lv_iload hx hb dX12_makeCycle_159 (lv_at hl 6 rfl) ?_
                    refine lv_aload_n hx hb dX12_makeCycle_161 rfl (lv_at hl 0 rfl) ?_
                    refine r_geti E hK hP (k := 48) (v := .ref (ad 48)) (by decide) mf_485 rfl rfl dX12_makeCycle_162 ?_
                    refine lv_iload hx hb dX12_makeCycle_165 (lv_at hl 6 rfl) ?_
                    refine g_lald (f := (ar5 48)) hx hb hK hP 22 1 rfl rfl (by omega) (by omega) (by decide) dX12_makeCycle_167 ?_
                    refine g_last (f := (ar5 47)) hx hb hK hP hD hS 21 1 rfl rfl (by omega) (by omega) (by decide) dX12_makeCycle_168 (fun H locs hP hD hS => ?_)
                    rw [sa_47] at hP hD
                    refine g_iinc (k := 6) (z := i) (n := (1)) (lv' := [(6, Iz (i + 1)), (0, .ref h0), (1, Iz (n)), (2, Iz (d)), (3, Iz (ro)), (4, Iz (e)), (5, Iz (z58))]) hx hb dX12_makeCycle_169 hl rfl (by decide) rfl (fun ls hl => ?_)
                    refine lv_goto (tgt := 149) hx hb dX12_makeCycle_172 (by decide) ?_
                    exact ih_149 _ (by omega) _ _ _ ⟨(aup ar5 47 (iup (ar5 47) i ((ar5 48) i))), (i + 1), rfl, (by omega), (by omega), (fun j h1 h2 => by rw [aup_ne _ _ h1]; exact q5 j h1 h2), hP, hD, hS, lv_sub hl [1, 2, 3, 4, 5, 6, 0] rfl⟩
            · skip
              have r0 : ro = 0 := c_68
              have dv : d = cyc0 n (e - 1).toNat := by rw [hd]; unfold cyc; rw [if_pos r0]
              have nx : cyc0 n ((e - 1).toNat + 1) = d + e := by rw [u0, if_pos ⟨c_51, by unfold mob; rw [← q58]; exact c_74⟩, dv]
              refine lv_iload_n hx hb dX12_makeCycle_77 rfl (lv_at hl 3 rfl) ?_
              refine lv_iload hx hb dX12_makeCycle_78 (lv_at hl 5 rfl) ?_
              refine g_iadd hx hb dX12_makeCycle_80 ?_
              refine lv_istore (lv' := [(6, Iz (d + e)), (5, Iz (z58)), (0, .ref h0), (1, Iz (n)), (2, Iz (d)), (3, Iz (ro)), (4, Iz (e))]) hx hb dX12_makeCycle_81 hl (by decide) rfl (fun ls hl => ?_)
              refine r_loop (P := fun N_ H locs ls => ∃ (ar4 : Nat → Int → Int) (i : Int), N_ = (i + 1).toNat ∧ (-1 ≤ i) ∧ (i ≤ d + e) ∧ (∀ j : Nat, j ≠ 47 → j ≠ 48 → ar4 j = ar j) ∧ va_P (dC, dI) rcl (mW h0 ad cI cJ cB cZ F ar4) H ∧ va_D (rA h0 ad s.heap.size) (mW h0 ad cI cJ cB cZ F ar4) ∧ va_S (rA h0 ad s.heap.size) s.heap H locs ∧ lv_has ls 7 [(0, .ref h0), (1, Iz (n)), (2, Iz (d)), (3, Iz (ro)), (4, Iz (e)), (5, Iz (z58)), (6, Iz (i))]) (g := fun ls => F0 m 83 ls []) (fun N_ H locs ls hI ih_83 => ?_) _ _ _ _ ⟨ar3, (d + e), rfl, (by omega), (Int.le_refl _), (q3), hP, hD, hS, lv_sub hl [2, 3, 4, 5, 6, 1, 0] rfl⟩
              obtain ⟨ar4, i, rfl, i0, i1, q4, hP, hD, hS, hl⟩ := hI
              refine lv_iload hx hb dX12_makeCycle_83 (lv_at hl 6 rfl) ?_
              refine g_if_lt (tgt := 130) hx hb ⟨by omega, by omega⟩ dX12_makeCycle_85 (by decide) (fun c_85 => ?_) (fun c_85 => ?_)
              · skip
                refine lv_iload_n hx hb dX12_makeCycle_130 rfl (lv_at hl 2 rfl) ?_
                refine lv_iload hx hb dX12_makeCycle_131 (lv_at hl 4 rfl) ?_
                refine g_iadd hx hb dX12_makeCycle_133 ?_
                refine lv_istore_n (lv' := [(2, Iz (d + e)), (0, .ref h0), (1, Iz (n)), (3, Iz (ro)), (4, Iz (e)), (5, Iz (z58)), (6, Iz (i))]) hx hb dX12_makeCycle_134 rfl hl (by decide) rfl (fun ls hl => ?_)
                refine lv_iload_n hx hb dX12_makeCycle_135 rfl (lv_at hl 3 rfl) ?_
                refine lv_iconst (v := Int32.ofInt (1)) hx hb dX12_makeCycle_136 (by decide) ?_
                refine g_icmp_ne (tgt := 269) hx hb ⟨by omega, by omega⟩ ⟨by omega, by omega⟩ dX12_makeCycle_137 (by decide) (fun c_137 => ?_) (fun c_137 => ?_)
                · skip
                  refine g_iinc (k := 4) (z := e) (n := (1)) (lv' := [(4, Iz (e + 1)), (2, Iz (d + e)), (0, .ref h0), (1, Iz (n)), (3, Iz (ro)), (5, Iz (z58)), (6, Iz (i))]) hx hb dX12_makeCycle_269 hl rfl (by decide) rfl (fun ls hl => ?_)
                  refine lv_goto (tgt := 41) hx hb dX12_makeCycle_272 (by decide) ?_
                  exact ih_41 _ (by omega) _ _ _ ⟨ar4, (e + 1), (d + e), rfl, (by omega), (by omega), (by first | exact q7 | exact q4 | exact q3), (by
              rw [ek]
              unfold cyc
              by_cases r0 : ro = 0
              · rw [if_pos r0, u0]
                have dv : d = cyc0 n (e - 1).toNat := by rw [hd]; unfold cyc; rw [if_pos r0]
                first
                | (rw [if_neg (fun q => c_51 q.1)]; exact dv)
                | (rw [if_pos ⟨c_51, by unfold mob; rw [← q58]; exact c_74⟩, ← dv]; done)
                | (rw [if_neg (fun q => c_74 (by have h := q.2; unfold mob at h; rw [← q58] at h; exact h))]; exact dv)
                | omega
              · rw [if_neg r0, u1]
                have dv : d = cyc1 n (e - 1).toNat := by rw [hd]; unfold cyc; rw [if_neg r0]
                first
                | (rw [if_neg (fun q => c_51 q.1)]; exact dv)
                | (rw [if_pos ⟨c_51, by unfold mob; rw [← q58]; exact c_143⟩, ← dv]; done)
                | (rw [if_neg (fun q => c_143 (by have h := q.2; unfold mob at h; rw [← q58] at h; exact h))]; exact dv)
                | omega), hP, hD, hS, lv_sub hl [2, 3, 1, 4, 0] rfl⟩
                · skip
                  refine lv_iload hx hb dX12_makeCycle_140 (lv_at hl 5 rfl) ?_
                  refine lv_iconst (v := Int32.ofInt (-1)) hx hb dX12_makeCycle_142 (by decide) ?_
                  refine g_icmp_ne (tgt := 269) hx hb ⟨by omega, by omega⟩ ⟨by omega, by omega⟩ dX12_makeCycle_143 (by decide) (fun c_143 => ?_) (fun c_143 => ?_)
                  · skip
                    refine g_iinc (k := 4) (z := e) (n := (1)) (lv' := [(4, Iz (e + 1)), (2, Iz (d + e)), (0, .ref h0), (1, Iz (n)), (3, Iz (ro)), (5, Iz (z58)), (6, Iz (i))]) hx hb dX12_makeCycle_269 hl rfl (by decide) rfl (fun ls hl => ?_)
                    refine lv_goto (tgt := 41) hx hb dX12_makeCycle_272 (by decide) ?_
                    exact ih_41 _ (by omega) _ _ _ ⟨ar4, (e + 1), (d + e), rfl, (by omega), (by omega), (by first | exact q7 | exact q4 | exact q3), (by
              rw [ek]
              unfold cyc
              by_cases r0 : ro = 0
              · rw [if_pos r0, u0]
                have dv : d = cyc0 n (e - 1).toNat := by rw [hd]; unfold cyc; rw [if_pos r0]
                first
                | (rw [if_neg (fun q => c_51 q.1)]; exact dv)
                | (rw [if_pos ⟨c_51, by unfold mob; rw [← q58]; exact c_74⟩, ← dv]; done)
                | (rw [if_neg (fun q => c_74 (by have h := q.2; unfold mob at h; rw [← q58] at h; exact h))]; exact dv)
                | omega
              · rw [if_neg r0, u1]
                have dv : d = cyc1 n (e - 1).toNat := by rw [hd]; unfold cyc; rw [if_neg r0]
                first
                | (rw [if_neg (fun q => c_51 q.1)]; exact dv)
                | (rw [if_pos ⟨c_51, by unfold mob; rw [← q58]; exact c_143⟩, ← dv]; done)
                | (rw [if_neg (fun q => c_143 (by have h := q.2; unfold mob at h; rw [← q58] at h; exact h))]; exact dv)
                | omega), hP, hD, hS, lv_sub hl [2, 3, 1, 4, 0] rfl⟩
                  · skip
                    have r0 : ro ≠ 0 := by omega
                    have dv : d = cyc1 n (e - 1).toNat := by rw [hd]; unfold cyc; rw [if_neg r0]
                    have nx : cyc1 n ((e - 1).toNat + 1) = d - e := by rw [u1, if_pos ⟨c_51, by unfold mob; rw [← q58]; exact c_143⟩, dv]
                    refine lv_iconst (v := Int32.ofInt (0)) hx hb dX12_makeCycle_146 (by decide) ?_
                    refine lv_istore (lv' := [(6, Iz (0)), (2, Iz (d + e)), (0, .ref h0), (1, Iz (n)), (3, Iz (ro)), (4, Iz (e)), (5, Iz (z58))]) hx hb dX12_makeCycle_147 hl (by decide) rfl (fun ls hl => ?_)
                    refine r_loop (P := fun N_ H locs ls => ∃ (ar5 : Nat → Int → Int) (i : Int), N_ = (d + 1 - i).toNat ∧ (0 ≤ i) ∧ (i ≤ d + 1) ∧ (∀ j : Nat, j ≠ 47 → j ≠ 48 → ar5 j = ar j) ∧ va_P (dC, dI) rcl (mW h0 ad cI cJ cB cZ F ar5) H ∧ va_D (rA h0 ad s.heap.size) (mW h0 ad cI cJ cB cZ F ar5) ∧ va_S (rA h0 ad s.heap.size) s.heap H locs ∧ lv_has ls 7 [(0, .ref h0), (1, Iz (n)), (2, Iz (d + e)), (3, Iz (ro)), (4, Iz (e)), (5, Iz (z58)), (6, Iz (i))]) (g := fun ls => F0 m 149 ls []) (fun N_ H locs ls hI ih_149 => ?_) _ _ _ _ ⟨ar4, 0, rfl, (Int.le_refl 0), (by omega), (by first | exact q3 | (exfalso; omega)), hP, hD, hS, lv_sub hl [2, 3, 1, 4, 5, 6, 0] rfl⟩
                    obtain ⟨ar5, i, rfl, i0, i1, q5, hP, hD, hS, hl⟩ := hI
                    refine lv_iload hx hb dX12_makeCycle_149 (lv_at hl 6 rfl) ?_
                    refine lv_iload_n hx hb dX12_makeCycle_151 rfl (lv_at hl 2 rfl) ?_
                    refine g_icmp_gt (tgt := 175) hx hb ⟨by omega, by omega⟩ ⟨by omega, by omega⟩ dX12_makeCycle_152 (by decide) (fun c_152 => ?_) (fun c_152 => ?_)
                    · skip
                      refine lv_iload_n hx hb dX12_makeCycle_175 rfl (lv_at hl 2 rfl) ?_
                      refine lv_istore (lv' := [(6, Iz (d + e)), (0, .ref h0), (1, Iz (n)), (2, Iz (d + e)), (3, Iz (ro)), (4, Iz (e)), (5, Iz (z58))]) hx hb dX12_makeCycle_176 hl (by decide) rfl (fun ls hl => ?_)
                      refine r_loop (P := fun N_ H locs ls => ∃ (ar6 : Nat → Int → Int) (i : Int), N_ = (i - e + 1).toNat ∧ (e - 1 ≤ i) ∧ (i ≤ d) ∧ (∀ j : Nat, j ≠ 47 → j ≠ 48 → ar6 j = ar j) ∧ va_P (dC, dI) rcl (mW h0 ad cI cJ cB cZ F ar6) H ∧ va_D (rA h0 ad s.heap.size) (mW h0 ad cI cJ cB cZ F ar6) ∧ va_S (rA h0 ad s.heap.size) s.heap H locs ∧ lv_has ls 7 [(0, .ref h0), (1, Iz (n)), (2, Iz (d + e)), (3, Iz (ro)), (4, Iz (e)), (5, Iz (z58)), (6, Iz (i))]) (g := fun ls => F0 m 178 ls []) (fun N_ H locs ls hI ih_178 => ?_) _ _ _ _ ⟨ar5, (d + e), rfl, (by omega), (by omega), (q5), hP, hD, hS, lv_sub hl [1, 2, 3, 4, 5, 6, 0] rfl⟩
                      obtain ⟨ar6, i, rfl, i0, i1, q6, hP, hD, hS, hl⟩ := hI
                      refine lv_iload hx hb dX12_makeCycle_178 (lv_at hl 6 rfl) ?_
                      refine lv_iload hx hb dX12_makeCycle_180 (lv_at hl 4 rfl) ?_
                      refine g_icmp_lt (tgt := 236) hx hb ⟨by omega, by omega⟩ ⟨by omega, by omega⟩ dX12_makeCycle_182 (by decide) (fun c_182 => ?_) (fun c_182 => ?_)
                      · skip
                        refine lv_iload_n hx hb dX12_makeCycle_236 rfl (lv_at hl 2 rfl) ?_
                        refine lv_iload hx hb dX12_makeCycle_237 (lv_at hl 4 rfl) ?_
                        refine g_isub hx hb dX12_makeCycle_239 ?_
                        refine lv_iconst (v := Int32.ofInt (1)) hx hb dX12_makeCycle_240 (by decide) ?_
                        refine g_iadd hx hb dX12_makeCycle_241 ?_
                        refine lv_istore (lv' := [(6, Iz (((d + e) - e) + 1)), (0, .ref h0), (1, Iz (n)), (2, Iz (d + e)), (3, Iz (ro)), (4, Iz (e)), (5, Iz (z58))]) hx hb dX12_makeCycle_242 hl (by decide) rfl (fun ls hl => ?_)
                        refine r_loop (P := fun N_ H locs ls => ∃ (ar7 : Nat → Int → Int) (i : Int), N_ = (d + 1 - i).toNat ∧ (d - e + 1 ≤ i) ∧ (i ≤ d + 1) ∧ (∀ j : Nat, j ≠ 47 → j ≠ 48 → ar7 j = ar j) ∧ va_P (dC, dI) rcl (mW h0 ad cI cJ cB cZ F ar7) H ∧ va_D (rA h0 ad s.heap.size) (mW h0 ad cI cJ cB cZ F ar7) ∧ va_S (rA h0 ad s.heap.size) s.heap H locs ∧ lv_has ls 7 [(0, .ref h0), (1, Iz (n)), (2, Iz (d + e)), (3, Iz (ro)), (4, Iz (e)), (5, Iz (z58)), (6, Iz (i))]) (g := fun ls => F0 m 244 ls []) (fun N_ H locs ls hI ih_244 => ?_) _ _ _ _ ⟨ar6, (((d + e) - e) + 1), rfl, (by omega), (by omega), (q6), hP, hD, hS, lv_sub hl [1, 2, 3, 4, 5, 6, 0] rfl⟩
                        obtain ⟨ar7, i, rfl, i0, i1, q7, hP, hD, hS, hl⟩ := hI
                        refine lv_iload hx hb dX12_makeCycle_244 (lv_at hl 6 rfl) ?_
                        refine lv_iload_n hx hb dX12_makeCycle_246 rfl (lv_at hl 2 rfl) ?_
                        refine g_icmp_gt (tgt := 264) hx hb ⟨by omega, by omega⟩ ⟨by omega, by omega⟩ dX12_makeCycle_247 (by decide) (fun c_247 => ?_) (fun c_247 => ?_)
                        · skip
                          refine lv_iload_n hx hb dX12_makeCycle_264 rfl (lv_at hl 2 rfl) ?_
                          refine lv_iload hx hb dX12_makeCycle_265 (lv_at hl 4 rfl) ?_
                          refine g_isub hx hb dX12_makeCycle_267 ?_
                          refine lv_istore_n (lv' := [(2, Iz ((d + e) - e)), (0, .ref h0), (1, Iz (n)), (3, Iz (ro)), (4, Iz (e)), (5, Iz (z58)), (6, Iz (i))]) hx hb dX12_makeCycle_268 rfl hl (by decide) rfl (fun ls hl => ?_)
                          refine g_iinc (k := 4) (z := e) (n := (1)) (lv' := [(4, Iz (e + 1)), (2, Iz ((d + e) - e)), (0, .ref h0), (1, Iz (n)), (3, Iz (ro)), (5, Iz (z58)), (6, Iz (i))]) hx hb dX12_makeCycle_269 hl rfl (by decide) rfl (fun ls hl => ?_)
                          refine lv_goto (tgt := 41) hx hb dX12_makeCycle_272 (by decide) ?_
                          exact ih_41 _ (by omega) _ _ _ ⟨ar7, (e + 1), ((d + e) - e), rfl, (by omega), (by omega), (by first | exact q7 | exact q4 | exact q3), (by
              rw [ek]
              unfold cyc
              by_cases r0 : ro = 0
              · rw [if_pos r0, u0]
                have dv : d = cyc0 n (e - 1).toNat := by rw [hd]; unfold cyc; rw [if_pos r0]
                first
                | (rw [if_neg (fun q => c_51 q.1)]; exact dv)
                | (rw [if_pos ⟨c_51, by unfold mob; rw [← q58]; exact c_74⟩, ← dv]; done)
                | (rw [if_neg (fun q => c_74 (by have h := q.2; unfold mob at h; rw [← q58] at h; exact h))]; exact dv)
                | omega
              · rw [if_neg r0, u1]
                have dv : d = cyc1 n (e - 1).toNat := by rw [hd]; unfold cyc; rw [if_neg r0]
                first
                | (rw [if_neg (fun q => c_51 q.1)]; exact dv)
                | (rw [if_pos ⟨c_51, by unfold mob; rw [← q58]; exact c_143⟩, ← dv]; done)
                | (rw [if_neg (fun q => c_143 (by have h := q.2; unfold mob at h; rw [← q58] at h; exact h))]; exact dv)
                | omega), hP, hD, hS, lv_sub hl [2, 3, 1, 4, 0] rfl⟩
                        · skip
                          refine lv_aload_n hx hb dX12_makeCycle_250 rfl (lv_at hl 0 rfl) ?_
                          refine r_geti E hK hP (k := 48) (v := .ref (ad 48)) (by decide) mf_485 rfl rfl dX12_makeCycle_251 ?_
                          refine lv_iload hx hb dX12_makeCycle_254 (lv_at hl 6 rfl) ?_
                          refine lv_lconst (v := Int64.ofInt 0) hx hb dX12_makeCycle_256 rfl ?_
                          refine g_last (f := (ar7 48)) hx hb hK hP hD hS 22 1 rfl rfl (by omega) (by omega) (by decide) dX12_makeCycle_257 (fun H locs hP hD hS => ?_)
                          rw [sa_48] at hP hD
                          refine g_iinc (k := 6) (z := i) (n := (1)) (lv' := [(6, Iz (i + 1)), (0, .ref h0), (1, Iz (n)), (2, Iz (d + e)), (3, Iz (ro)), (4, Iz (e)), (5, Iz (z58))]) hx hb dX12_makeCycle_258 hl rfl (by decide) rfl (fun ls hl => ?_)
                          refine lv_goto (tgt := 244) hx hb dX12_makeCycle_261 (by decide) ?_
                          exact ih_244 _ (by omega) _ _ _ ⟨(aup ar7 48 (iup (ar7 48) i 0)), (i + 1), rfl, (by omega), (by omega), (fun j h1 h2 => by rw [aup_ne _ _ h2]; exact q7 j h1 h2), hP, hD, hS, lv_sub hl [1, 2, 3, 4, 5, 6, 0] rfl⟩
                      · skip
                        refine lv_aload_n hx hb dX12_makeCycle_185 rfl (lv_at hl 0 rfl) ?_
                        refine r_geti E hK hP (k := 48) (v := .ref (ad 48)) (by decide) mf_485 rfl rfl dX12_makeCycle_186 ?_
                        refine lv_iload hx hb dX12_makeCycle_189 (lv_at hl 6 rfl) ?_
                        refine lv_iload hx hb dX12_makeCycle_191 (lv_at hl 4 rfl) ?_
                        refine g_isub hx hb dX12_makeCycle_193 ?_
                        refine lv_aload_n hx hb dX12_makeCycle_194 rfl (lv_at hl 0 rfl) ?_
                        refine r_geti E hK hP (k := 47) (v := .ref (ad 47)) (by decide) mf_492 rfl rfl dX12_makeCycle_195 ?_
                        refine lv_iload hx hb dX12_makeCycle_198 (lv_at hl 6 rfl) ?_
                        refine g_lald (f := (ar6 47)) hx hb hK hP 21 1 rfl rfl (by omega) (by omega) (by decide) dX12_makeCycle_200 ?_
                        refine g_last (f := (ar6 48)) hx hb hK hP hD hS 22 1 rfl rfl (by omega) (by omega) (by decide) dX12_makeCycle_201 (fun H locs hP hD hS => ?_)
                        rw [sa_48] at hP hD
                        refine lv_aload_n hx hb dX12_makeCycle_202 rfl (lv_at hl 0 rfl) ?_
                        refine r_geti E hK hP (k := 47) (v := .ref (ad 47)) (by decide) mf_492 rfl rfl dX12_makeCycle_203 ?_
                        refine lv_iload hx hb dX12_makeCycle_206 (lv_at hl 6 rfl) ?_
                        refine lv_iload hx hb dX12_makeCycle_208 (lv_at hl 4 rfl) ?_
                        refine g_isub hx hb dX12_makeCycle_210 ?_
                        refine lv_aload_n hx hb dX12_makeCycle_211 rfl (lv_at hl 0 rfl) ?_
                        refine r_geti E hK hP (k := 47) (v := .ref (ad 47)) (by decide) mf_492 rfl rfl dX12_makeCycle_212 ?_
                        refine lv_iload hx hb dX12_makeCycle_215 (lv_at hl 6 rfl) ?_
                        refine lv_iload hx hb dX12_makeCycle_217 (lv_at hl 4 rfl) ?_
                        refine g_isub hx hb dX12_makeCycle_219 ?_
                        refine g_lald (f := (ar6 47)) hx hb hK hP 21 1 rfl rfl (by omega) (by omega) (by decide) dX12_makeCycle_220 ?_
                        refine lv_aload_n hx hb dX12_makeCycle_221 rfl (lv_at hl 0 rfl) ?_
                        refine r_geti E hK hP (k := 47) (v := .ref (ad 47)) (by decide) mf_492 rfl rfl dX12_makeCycle_222 ?_
                        refine lv_iload hx hb dX12_makeCycle_225 (lv_at hl 6 rfl) ?_
                        refine g_lald (f := (ar6 47)) hx hb hK hP 21 1 rfl rfl (by omega) (by omega) (by decide) dX12_makeCycle_227 ?_
                        refine g_ladd hx hb dX12_makeCycle_228 ?_
                        refine g_last (f := (ar6 47)) hx hb hK hP hD hS 21 1 rfl rfl (by omega) (by omega) (by decide) dX12_makeCycle_229 (fun H locs hP hD hS => ?_)
                        rw [sa_47] at hP hD
                        refine g_iinc (k := 6) (z := i) (n := (-1)) (lv' := [(6, Iz (i + (-1))), (0, .ref h0), (1, Iz (n)), (2, Iz (d + e)), (3, Iz (ro)), (4, Iz (e)), (5, Iz (z58))]) hx hb dX12_makeCycle_230 hl rfl (by decide) rfl (fun ls hl => ?_)
                        refine lv_goto (tgt := 178) hx hb dX12_makeCycle_233 (by decide) ?_
                        exact ih_178 _ (by omega) _ _ _ ⟨(aup (aup ar6 48 (iup (ar6 48) (i - e) ((ar6 47) i))) 47 (iup (ar6 47) (i - e) (((ar6 47) (i - e)) + ((ar6 47) i)))), (i + (-1)), rfl, (by omega), (by omega), (fun j h1 h2 => by rw [aup_ne _ _ h1, aup_ne _ _ h2]; exact q6 j h1 h2), hP, hD, hS, lv_sub hl [1, 2, 3, 4, 5, 6, 0] rfl⟩
                    · skip
                      refine lv_aload_n hx hb dX12_makeCycle_155 rfl (lv_at hl 0 rfl) ?_
                      refine r_geti E hK hP (k := 47) (v := .ref (ad 47)) (by decide) mf_492 rfl rfl dX12_makeCycle_156 ?_
                      refine lv_iload hx hb dX12_makeCycle_159 (lv_at hl 6 rfl) ?_
                      refine lv_aload_n hx hb dX12_makeCycle_161 rfl (lv_at hl 0 rfl) ?_
                      refine r_geti E hK hP (k := 48) (v := .ref (ad 48)) (by decide) mf_485 rfl rfl dX12_makeCycle_162 ?_
                      refine lv_iload hx hb dX12_makeCycle_165 (lv_at hl 6 rfl) ?_
                      refine g_lald (f := (ar5 48)) hx hb hK hP 22 1 rfl rfl (by omega) (by omega) (by decide) dX12_makeCycle_167 ?_
                      refine g_last (f := (ar5 47)) hx hb hK hP hD hS 21 1 rfl rfl (by omega) (by omega) (by decide) dX12_makeCycle_168 (fun H locs hP hD hS => ?_)
                      rw [sa_47] at hP hD
                      refine g_iinc (k := 6) (z := i) (n := (1)) (lv' := [(6, Iz (i + 1)), (0, .ref h0), (1, Iz (n)), (2, Iz (d + e)), (3, Iz (ro)), (4, Iz (e)), (5, Iz (z58))]) hx hb dX12_makeCycle_169 hl rfl (by decide) rfl (fun ls hl => ?_)
                      refine lv_goto (tgt := 149) hx hb dX12_makeCycle_172 (by decide) ?_
                      exact ih_149 _ (by omega) _ _ _ ⟨(aup ar5 47 (iup (ar5 47) i ((ar5 48) i))), (i + 1), rfl, (by omega), (by omega), (fun j h1 h2 => by rw [aup_ne _ _ h1]; exact q5 j h1 h2), hP, hD, hS, lv_sub hl [1, 2, 3, 4, 5, 6, 0] rfl⟩
              · skip
                refine lv_aload_n hx hb dX12_makeCycle_88 rfl (lv_at hl 0 rfl) ?_
                refine r_geti E hK hP (k := 48) (v := .ref (ad 48)) (by decide) mf_485 rfl rfl dX12_makeCycle_89 ?_
                refine lv_iload hx hb dX12_makeCycle_92 (lv_at hl 6 rfl) ?_
                refine lv_iload hx hb dX12_makeCycle_94 (lv_at hl 6 rfl) ?_
                refine lv_iload hx hb dX12_makeCycle_96 (lv_at hl 4 rfl) ?_
                refine r_join (P := fun z : Int => z = z) (g := fun z => F0 m 115 ls [Jz z, Iz (i), .ref (ad 48)]) (fun w hw => ?_) (fun k_115 => ?_)
                · skip
                  refine lv_aload_n hx hb dX12_makeCycle_115 rfl (lv_at hl 0 rfl) ?_
                  refine r_geti E hK hP (k := 48) (v := .ref (ad 48)) (by decide) mf_485 rfl rfl dX12_makeCycle_116 ?_
                  refine lv_iload hx hb dX12_makeCycle_119 (lv_at hl 6 rfl) ?_
                  refine g_lald (f := (ar4 48)) hx hb hK hP 22 1 rfl rfl (by omega) (by omega) (by decide) dX12_makeCycle_121 ?_
                  refine g_lsub hx hb dX12_makeCycle_122 ?_
                  refine g_last (f := (ar4 48)) hx hb hK hP hD hS 22 1 rfl rfl (by omega) (by omega) (by decide) dX12_makeCycle_123 (fun H locs hP hD hS => ?_)
                  rw [sa_48] at hP hD
                  refine g_iinc (k := 6) (z := i) (n := (-1)) (lv' := [(6, Iz (i + (-1))), (0, .ref h0), (1, Iz (n)), (2, Iz (d)), (3, Iz (ro)), (4, Iz (e)), (5, Iz (z58))]) hx hb dX12_makeCycle_124 hl rfl (by decide) rfl (fun ls hl => ?_)
                  refine lv_goto (tgt := 83) hx hb dX12_makeCycle_127 (by decide) ?_
                  exact ih_83 _ (by omega) _ _ _ ⟨(aup ar4 48 (iup (ar4 48) i (w - ((ar4 48) i)))), (i + (-1)), rfl, (by omega), (by omega), (fun j h1 h2 => by rw [aup_ne _ _ h2]; exact q4 j h1 h2), hP, hD, hS, lv_sub hl [1, 2, 3, 4, 5, 6, 0] rfl⟩
                · skip
                  refine g_icmp_lt (tgt := 114) hx hb ⟨by omega, by omega⟩ ⟨by omega, by omega⟩ dX12_makeCycle_98 (by decide) (fun c_98 => ?_) (fun c_98 => ?_)
                  · skip
                    refine lv_lconst (v := Int64.ofInt 0) hx hb dX12_makeCycle_114 rfl ?_
                    exact k_115 _ rfl
                  · skip
                    refine lv_aload_n hx hb dX12_makeCycle_101 rfl (lv_at hl 0 rfl) ?_
                    refine r_geti E hK hP (k := 48) (v := .ref (ad 48)) (by decide) mf_485 rfl rfl dX12_makeCycle_102 ?_
                    refine lv_iload hx hb dX12_makeCycle_105 (lv_at hl 6 rfl) ?_
                    refine lv_iload hx hb dX12_makeCycle_107 (lv_at hl 4 rfl) ?_
                    refine g_isub hx hb dX12_makeCycle_109 ?_
                    refine g_lald (f := (ar4 48)) hx hb hK hP 22 1 rfl rfl (by omega) (by omega) (by decide) dX12_makeCycle_110 ?_
                    refine lv_goto (tgt := 115) hx hb dX12_makeCycle_111 (by decide) ?_
                    exact k_115 _ rfl
  · skip
    refine lv_aload_n hx hb dX12_makeCycle_9 rfl (lv_at hl 0 rfl) ?_
    refine r_geti E hK hP (k := 48) (v := .ref (ad 48)) (by decide) mf_485 rfl rfl dX12_makeCycle_10 ?_
    refine lv_iload_n hx hb dX12_makeCycle_13 rfl (lv_at hl 2 rfl) ?_
    refine lv_lconst (v := Int64.ofInt 0) hx hb dX12_makeCycle_14 rfl ?_
    refine g_last (f := (ar1 48)) hx hb hK hP hD hS 22 1 rfl rfl (by omega) (by omega) (by decide) dX12_makeCycle_15 (fun H locs hP hD hS => ?_)
    rw [sa_48] at hP hD
    refine g_iinc (k := 2) (z := i) (n := (1)) (lv' := [(2, Iz (i + 1)), (0, .ref h0), (1, Iz (n))]) hx hb dX12_makeCycle_16 hl rfl (by decide) rfl (fun ls hl => ?_)
    refine lv_goto (tgt := 2) hx hb dX12_makeCycle_19 (by decide) ?_
    exact ih_2 _ (by omega) _ _ _ ⟨(aup ar1 48 (iup (ar1 48) i 0)), (i + 1), rfl, (by omega), (by omega), (fun j h1 h2 => by rw [aup_ne _ _ h2]; exact q1 j h1 h2), hP, hD, hS, lv_sub hl [1, 2, 0] rfl⟩
