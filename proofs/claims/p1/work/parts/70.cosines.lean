/-- a row of 14 longs told by a list -/
def rowIs (f : Int → Int) (L : List Int) : Prop := L.length = 14 ∧ ∀ t : Int, 0 ≤ t → t < 14 → f t = lg L t.toNat
theorem lg_set {L : List Int} {i j : Nat} {x : Int} (hi : i < L.length) : lg (L.set i x) j = if j = i then x else lg L j := by
  unfold lg
  rw [List.getD_eq_getElem?_getD, List.getD_eq_getElem?_getD]
  by_cases w : j = i
  · rw [if_pos w, w, List.getElem?_set_self hi]; rfl
  · rw [if_neg w, List.getElem?_set_ne (Ne.symm w)]
theorem rowIs_set {f : Int → Int} {L : List Int} {z v : Int} (h : rowIs f L) (h0 : 0 ≤ z) (h1 : z < 14) : rowIs (iup f z v) (L.set z.toNat v) := by
  refine ⟨by rw [List.length_set]; exact h.1, fun t t0 t1 => ?_⟩
  rw [lg_set (by rw [h.1]; omega)]
  by_cases w : t = z
  · rw [w, iup_self, if_pos rfl]
  · rw [iup_ne w, if_neg (by omega)]; exact h.2 t t0 t1
theorem rowIs_zero {f : Int → Int} (h : ∀ t : Int, 0 ≤ t → t < (14 : Nat) → f t = 0) : rowIs f (List.replicate 14 0) := by
  refine ⟨List.length_replicate, fun t t0 t1 => ?_⟩
  rw [h t t0 (by omega)]
  unfold lg
  rw [List.getD_eq_getElem?_getD, List.getElem?_replicate_of_lt (by omega)]
  rfl
/-- the steps of cosines() -/
def dnL (k : Nat) : Nat → List Int → List Int
  | 0, L => L
  | m + 1, L => dnL k m (L.set (k + m) (lg L (k + m) - lg L m))
def upL (k : Nat) : Nat → Nat → List Int → List Int
  | 0, _, L => L
  | m + 1, i, L => upL k m (i + 1) (L.set i (lg L i + lg L (i - k)))
def srt (da : Int) (k : Nat) : Int := if da % (k : Int) = 0 then sqf 999 2 (da / (k : Int)) 1 else 0
def stA (da : Int) (ha k : Nat) (L : List Int) : List Int := if srt da k < 0 then upL k (ha + 1 - k) k (if 0 < srt da k then dnL k (ha + 1 - k) L else L) else (if 0 < srt da k then dnL k (ha + 1 - k) L else L)
def cosK (da : Int) (ha : Nat) : Nat → Nat → List Int → List Int
  | 0, _, L => L
  | f + 1, k, L => cosK da ha f (k + 1) (stA da ha k L)
def smL (c : Int) (N : List Int) : Nat → Nat → List Int → List Int
  | 0, _, S => S
  | m + 1, i, S => smL c N m (i + 1) (S.set i (lg S i + c * lg N i))
def bfL (N : List Int) : Nat → List Int → List Int
  | 0, B => B
  | m + 1, B => bfL N m (B.set m ((if 0 < m then lg N (m - 1) else 0) - lg B m))
def cosJ (ha : Nat) (A : List Int) : Nat → Nat → List Int → List Int → List Int → List Int
  | 0, _, _, _, S => S
  | f + 1, j, N, B, S => cosJ ha A f (j + 1) (bfL N (j + 2) B) N (smL (lg A (ha - j)) N (j + 1) 0 S)
def z14 : List Int := List.replicate 14 0
def cosA (da : Int) (ha : Nat) : List Int := cosK da ha ha 1 (z14.set 0 1)
def cosS (da : Int) (ha : Nat) : List Int := cosJ ha (cosA da ha) ha 1 (z14.set 1 1) (z14.set 0 2) (z14.set 0 (lg (cosA da ha) ha))
def cosF (da : Int) (ha k : Nat) : Int := lg (cosS da ha) k * 2 ^ k
def cosC (da : Int) (ha k : Nat) : Int := if cosF da ha ha < 0 then -((cosF da ha k).tdiv ((cgN (cosF da ha) ha ha : Nat) : Int)) else (cosF da ha k).tdiv ((cgN (cosF da ha) ha ha : Nat) : Int)
theorem dk_bd {d k : Int} (hd : 0 < d) (hk : 0 < k) (h : d % k = 0) : 1 ≤ d / k ∧ d / k ≤ d := by
  have a := Int.mul_ediv_add_emod d k
  refine ⟨?_, Int.ediv_le_self _ (by omega)⟩
  rcases Int.lt_or_le (d / k) 1 with w | w
  · exfalso
    have h2 := Int.mul_le_mul_of_nonneg_left (show d / k ≤ 0 by omega) (show 0 ≤ k by omega)
    omega
  · exact w
theorem cgN_congr {F G : Nat → Int} {n : Nat} (h : ∀ k, k ≤ n → F k = G k) : ∀ m, cgN F n m = cgN G n m
  | 0 => by show (F n).natAbs = (G n).natAbs; rw [h n (Nat.le_refl _)]
  | m + 1 => by
      show Nat.gcd (cgN F n m) (F (n - (m + 1))).natAbs = Nat.gcd (cgN G n m) (G (n - (m + 1))).natAbs
      rw [cgN_congr h m, h _ (Nat.sub_le _ _)]
theorem sqf_bd : ∀ f k n so, -1 ≤ so → so ≤ 1 → -1 ≤ sqf f k n so ∧ sqf f k n so ≤ 1
  | 0, _, _, _, h0, h1 => ⟨h0, h1⟩
  | f + 1, k, n, so, h0, h1 => by
      show -1 ≤ (if n < k then so else if n % k = 0 then (if n / k % k = 0 then 0 else sqf f (k + 1) (n / k) (-so)) else sqf f (k + 1) n so) ∧ (if n < k then so else if n % k = 0 then (if n / k % k = 0 then 0 else sqf f (k + 1) (n / k) (-so)) else sqf f (k + 1) n so) ≤ 1
      have i1 := sqf_bd f (k + 1) (n / k) (-so) (by omega) (by omega)
      have i2 := sqf_bd f (k + 1) n so h0 h1
      split
      · exact ⟨h0, h1⟩
      · split
        · split
          · omega
          · exact i1
        · exact i2
theorem srt_bd (da : Int) (k : Nat) : -1 ≤ srt da k ∧ srt da k ≤ 1 := by
  unfold srt
  split
  · exact sqf_bd _ _ _ _ (by decide) (by decide)
  · omega
set_option maxHeartbeats 4000000 in
set_option maxRecDepth 100000 in
theorem k2_cosines {l : Launch} {dC : Nat → ClassId} {dI : Nat → Nat → Nat} {cx : Nat → Nat} {LB : List Nat} {LP : List Nat} {pc_ : Nat → Nat} {pd : Nat → Int} {co : Nat → Nat → Nat} {X : va_W} {dd : Nat → Nat} {nn ss : Nat → Int} {ll : Nat → Nat} {gg : Nat → Int → Int} {H0 : Heap} {v : Nat → Int} {fo : Nat} {da ha : Int} {t0 ta tb tq tt tu tw tm : Nat} {tf : Int}{no ra rp rq : Nat} {xs : Nat → Value} {f0 f1 f2 : Int → Int}  (mo : fo ∈ LP) (hO : pOK LB LP co) (hN : cR LB nn ss ll gg v) (hTo : (t0, (.inr (9, [.ref ta, .ref tb, .ref tq, .ref tt, .ref tu, .ref tw, .ref tm, Iz tf]) : va_E)) ∈ X) (hS : tOK LB LP co ta tb tq tt tu) (hNo : (no, (.inr (2, [(xs 0), (xs 1), (xs 2), (xs 3), (xs 4), .ref t0, (xs 6), (xs 7), (xs 8), (xs 9), (xs 10), .ref rp, .ref rq, .ref ra, (xs 14), (xs 15), (xs 16), (xs 17), (xs 18)]) : va_E)) ∈ X) (h_ra : (ra, (.inl (cx 1, 14, .inr (.inl (jm f0))) : va_E)) ∈ X) (h_rp : (rp, (.inl (cx 1, 14, .inr (.inl (jm f1))) : va_E)) ∈ X) (h_rq : (rq, (.inl (cx 1, 14, .inr (.inl (jm f2))) : va_E)) ∈ X) (nap : ra ≠ rp) (naq_ : ra ≠ rq) (npq : rp ≠ rq) (d0 : 1 ≤ da) (d1 : da ≤ 480) (h0_ : 1 ≤ ha) (h1_ : ha ≤ 10) (hd3 : da < 3 → ha = 1) (sS : 3 ≤ da → (∀ k : Nat, (k : Int) ≤ ha → ((cosF da ha.toNat k).natAbs : Int) < 2 ^ 60) ∧ cosF da ha.toNat ha.toNat ≠ 0) : Met l yX2_cosines (Cond.code yX2_cosines cX2_cosines 10 none :: w0c) (eRm 5 158 LB ll 1 14) (cPc dC dI cx LB (pW cx LP pc_ pd co X) dd nn ss ll gg H0 [.ref no, Iz (da), Iz (ha), .ref fo]) (eQv dC dI cx LB (va_A (bW (cx 0) LB dd nn ss ll gg (pW cx LP pc_ pd co X)) H0.size) ll H0 1 14 (fun X' dd' nn' ss' ll' gg' => ∃ (v' : Nat → Int) (X2' : va_W), X' = pW cx LP pc_ (va_up pd fo ha) co X2' ∧ cR LB nn' ss' ll' gg' v' ∧ (∀ q ∈ X, q.1 ≠ ra → q.1 ≠ rp → q.1 ≠ rq → q ∈ X2') ∧ (3 ≤ da → ∀ k : Nat, (k : Int) ≤ ha → v' (co fo k) = cosC da ha.toNat k) ∧ (∀ b : Nat, (∀ k : Nat, k < 13 → b ≠ co fo k) → b ≠ ta → b ≠ tb → b ≠ tq → b ≠ tt → b ≠ tu → v' b = v b))) (cMc LB ll + 1) (2 * cMc LB ll + 14) (va_A (bW (cx 0) LB dd nn ss ll gg (pW cx LP pc_ pd co X)) H0.size) := by
  refine Met.ofW (cc := cX2_cosines) (maxL := 10) (ret := none) (by decide) rfl ?_
  intro p e s m args below meth c s₁ B hml hv
  obtain ⟨rfl, hH0, hP, hK, hD0, hC0⟩ := hv
  have hx := B.exec
  have hb := B.bytes
  have hr := B.returns
  have hts := atoms_spec (ws := Cond.code yX2_cosines cX2_cosines 10 none :: w0c) B.pre
  have hown : s.vm.findClass RX2 = some m.cls := findClass_of_methodNamed B.named
  have hlocks := B.notSynchronized
  have E : CallFix p m c cX2_cosines 10 s _ (Cond.code yX2_cosines cX2_cosines 10 none :: w0c) RX2 := ⟨hx, hb, hml, hown, hts⟩
  subst hH0
  have hD := va_D.self (sz := s.heap.size) hD0
  have hA : ∀ q : Nat, s.heap.size ≤ q → va_A (bW (cx 0) LB dd nn ss ll gg (pW cx LP pc_ pd co X)) s.heap.size q := fun q h => Or.inr h
  have hV : cV dC dI cx LB (va_A (bW (cx 0) LB dd nn ss ll gg (pW cx LP pc_ pd co X)) s.heap.size) s.heap ll (pW cx LP pc_ pd co X) dd nn ss ll gg s.heap [] := ⟨hP, hD, va_S.rf, fun _ _ => Nat.le_refl _, hC0⟩
  have hR : (headSpec (Cond.code yX2_cosines cX2_cosines 10 none :: w0c) (eRm 5 158 LB ll 1 14)).room.cells = cMc LB ll + 1 ∧ (headSpec (Cond.code yX2_cosines cX2_cosines 10 none :: w0c) (eRm 5 158 LB ll 1 14)).room.slots = 2 * cMc LB ll + 14 := ⟨rfl, rfl⟩
  refine W.widen (k := cP LB ll - cP LB ll + 0) (n := 2 * (cP LB ll - cP LB ll) + 0) (Nat.zero_le _) (Nat.zero_le _) ?_
  have hl := lv_entry ([.ref no, Iz (da), Iz (ha), .ref fo]) (n := 10) (Nat.le_of_ble_eq_true rfl)
  rw [lg_entry_eq]
  generalize (lg_sl ([.ref no, Iz (da), Iz (ha), .ref fo]) ++ List.replicate (10 - (lg_sl ([.ref no, Iz (da), Iz (ha), .ref fo])).length) Slot.unset).toArray = ls at hl ⊢
  have hl : lv_has ls 10 [(0, .ref no), (1, Iz (da)), (2, Iz (ha)), (3, .ref fo)] := hl
  obtain ⟨⟨mta, mtb, mtq, mtt, mtu⟩, ⟨nab, naq, nat_, nau⟩, ⟨nbq, nbt, nbu⟩, ⟨nqt, nqu⟩, ntu, scA⟩ := id hS
  have sca : ∀ p ∈ LP, ∀ i : Nat, i < 13 → co p i ≠ ta := fun p h i w => (scA p h i w).1
  have sct : ∀ p ∈ LP, ∀ i : Nat, i < 13 → co p i ≠ tt := fun p h i w => (scA p h i w).2.2.2.1
  have scu : ∀ p ∈ LP, ∀ i : Nat, i < 13 → co p i ≠ tu := fun p h i w => (scA p h i w).2.2.2.2
  have kpX : ∀ q ∈ X, q.1 ≠ ra → q.1 ≠ rp → q.1 ≠ rq → q ∈ X := fun _ h _ _ _ => h
  have nna : no ≠ ra := y_ne hV hNo h_ra (fun q => nomatch q)
  have nnp : no ≠ rp := y_ne hV hNo h_rp (fun q => nomatch q)
  have nnq : no ≠ rq := y_ne hV hNo h_rq (fun q => nomatch q)
  have nta : t0 ≠ ra := y_ne hV hTo h_ra (fun q => nomatch q)
  have ntp : t0 ≠ rp := y_ne hV hTo h_rp (fun q => nomatch q)
  have ntq : t0 ≠ rq := y_ne hV hTo h_rq (fun q => nomatch q)
  refine lv_aload_n hx hb dX2_cosines_0 rfl (lv_at hl 0 rfl) ?_
  refine x_get E hK hV (ci := 2) (C := RX2) (T := TX2) (N := 19) rfl w0c_in2 (pW_x (kpX _ hNo nna nnp nnq)) 13 (by decide) rfl cf_2_56 rfl dX2_cosines_1 ?_
  refine lv_astore (lv' := [(4, .ref ra), (0, .ref no), (1, Iz (da)), (2, Iz (ha)), (3, .ref fo)]) hx hb dX2_cosines_4 hl (by decide) rfl (fun ls hl => ?_)
  refine lv_aload_n hx hb dX2_cosines_6 rfl (lv_at hl 1 rfl) ?_
  refine x_get E hK hV (ci := 2) (C := RX2) (T := TX2) (N := 19) rfl w0c_in2 (pW_x (kpX _ hNo nna nnp nnq)) 11 (by decide) rfl cf_2_49 rfl dX2_cosines_7 ?_
  refine lv_astore (lv' := [(5, .ref rp), (4, .ref ra), (0, .ref no), (1, Iz (da)), (2, Iz (ha)), (3, .ref fo)]) hx hb dX2_cosines_10 hl (by decide) rfl (fun ls hl => ?_)
  refine lv_aload_n hx hb dX2_cosines_12 rfl (lv_at hl 2 rfl) ?_
  refine x_get E hK hV (ci := 2) (C := RX2) (T := TX2) (N := 19) rfl w0c_in2 (pW_x (kpX _ hNo nna nnp nnq)) 12 (by decide) rfl cf_2_53 rfl dX2_cosines_13 ?_
  refine lv_astore (lv' := [(6, .ref rq), (5, .ref rp), (4, .ref ra), (0, .ref no), (1, Iz (da)), (2, Iz (ha)), (3, .ref fo)]) hx hb dX2_cosines_16 hl (by decide) rfl (fun ls hl => ?_)
  refine lv_aload hx hb dX2_cosines_18 (lv_at hl 2 rfl) ?_
  refine lv_lconst (v := Int64.ofInt 0) hx hb dX2_cosines_20 rfl ?_
  refine e_callsv (k2 := 0) (n2 := 0) (f := 0) (kl := 0) (As := [.ref ra, Jz (0)]) (rest := []) E (e0v (kJ7_fill (x := 0) h_ra (by decide))) (c_cwS 2 hts cl_X2_231 ct_J7_fill_d0a16 cn_RJ7 cc_J7_fill_d0a16 rfl rfl (by decide +kernel) ⟨Nat.le_of_ble_eq_true rfl, Nat.le_of_ble_eq_true rfl⟩) hK hV hA hR ⟨by decide, by decide⟩ rfl hl.1 (Nat.le_of_ble_eq_true rfl) dX2_cosines_21 (fun X_ dd_ nn_ ss_ ll_ gg_ H locs q_ hV hm_ => ?_)
  obtain ⟨e2_, e3_, e4_, e5_, e6_, f21_, e1_, z21_⟩ := q_
  obtain rfl := e1_.symm
  obtain rfl := e2_.symm
  obtain rfl := e3_.symm
  obtain rfl := e4_.symm
  obtain rfl := e5_.symm
  obtain rfl := e6_.symm
  obtain ⟨X2_21, eX_, h__, kp_⟩ : ∃ X2_ : va_W, X2_ = wup X ra (.inl (cx 1, 14, .inr (.inl (jm f21_))) : va_E) ∧ (ra, (.inl (cx 1, 14, .inr (.inl (jm f21_))) : va_E)) ∈ X2_ ∧ ∀ q ∈ X, q.1 ≠ ra → q ∈ X2_ := ⟨_, rfl, wup_self h_ra, fun _ h n => wup_ne h n⟩
  replace hV := (show cV dC dI cx LB (va_A (bW (cx 0) LB dd nn ss ll gg (pW cx LP pc_ pd co X)) s.heap.size) s.heap ll (pW cx LP pc_ pd co (wup X ra (.inl (cx 1, 14, .inr (.inl (jm f21_))) : va_E))) dd nn ss ll gg H locs from hV)
  rw [← eX_] at hV
  have h_rp := kp_ _ h_rp (Ne.symm nap)
  have h_rq := kp_ _ h_rq (Ne.symm naq_)
  have kpX : ∀ q ∈ X, q.1 ≠ ra → q.1 ≠ rp → q.1 ≠ rq → q ∈ X2_21 := fun q h n_ra n_rp n_rq => kp_ q (kpX q h n_ra n_rp n_rq) n_ra
  have h_ra := h__
  refine W.widen (k := cP LB ll - cP LB ll + 0) (n := 2 * (cP LB ll - cP LB ll) + 0) (Nat.le_refl _) (Nat.le_refl _) ?_
  have r21 := rowIs_zero z21_
  refine lv_aload hx hb dX2_cosines_24 (lv_at hl 2 rfl) ?_
  refine lv_iconst (v := Int32.ofInt (0)) hx hb dX2_cosines_26 (by decide) ?_
  refine lv_lconst (v := Int64.ofInt 1) hx hb dX2_cosines_27 rfl ?_
  refine y_last3 (z := 0) (v := 1) hx hb hK hV h_ra (by omega) (by omega) (by decide) dX2_cosines_28 (fun H locs X2_28 h__ kp_ hV => ?_)
  have h_rp := kp_ _ h_rp (Ne.symm nap)
  have h_rq := kp_ _ h_rq (Ne.symm naq_)
  have kpX : ∀ q ∈ X, q.1 ≠ ra → q.1 ≠ rp → q.1 ≠ rq → q ∈ X2_28 := fun q h n_ra n_rp n_rq => kp_ q (kpX q h n_ra n_rp n_rq) n_ra
  have h_ra := h__
  refine lv_iload_n hx hb dX2_cosines_29 rfl (lv_at hl 4 rfl) ?_
  refine lv_iconst (v := Int32.ofInt (3)) hx hb dX2_cosines_30 (by decide) ?_
  refine g_icmp_ge (tgt := 61) hx hb (by first | assumption | exact ⟨by omega, by omega⟩) (by first | assumption | exact ⟨by omega, by omega⟩) dX2_cosines_31 (by decide) (fun c_31 => ?_) (fun c_31 => ?_)
  · skip
    have r61 := rowIs_set (z := 0) (v := 1) r21 (by decide) (by decide)
    refine lv_iconst (v := Int32.ofInt (1)) hx hb dX2_cosines_61 (by decide) ?_
    refine lv_istore (lv' := [(7, Iz (1)), (6, .ref rq), (5, .ref rp), (4, .ref ra), (0, .ref no), (1, Iz (da)), (2, Iz (ha)), (3, .ref fo)]) hx hb dX2_cosines_62 hl (by decide) rfl (fun ls hl => ?_)
    refine r_loop (P := fun N_ H locs ls => ∃ X2_64 : va_W, ∃ fa : Int → Int, ∃ k : Int, ∃ La : List Int, N_ = (20 - k).toNat ∧ ((ra, (.inl (cx 1, 14, .inr (.inl (jm fa))) : va_E)) ∈ X2_64) ∧ ((rp, (.inl (cx 1, 14, .inr (.inl (jm f1))) : va_E)) ∈ X2_64) ∧ ((rq, (.inl (cx 1, 14, .inr (.inl (jm f2))) : va_E)) ∈ X2_64) ∧ (∀ q ∈ X, q.1 ≠ ra → q.1 ≠ rp → q.1 ≠ rq → q ∈ X2_64) ∧ (1 ≤ k) ∧ (k ≤ ha + 1) ∧ (rowIs fa La) ∧ (cosK da ha.toNat (ha + 1 - k).toNat k.toNat La = cosA da ha.toNat) ∧ cV dC dI cx LB (va_A (bW (cx 0) LB dd nn ss ll gg (pW cx LP pc_ pd co X)) s.heap.size) s.heap ll (pW cx LP pc_ pd co X2_64) dd nn ss ll gg H locs ∧ lv_has ls 10 [(0, .ref no), (1, Iz (da)), (2, Iz (ha)), (3, .ref fo), (4, .ref ra), (5, .ref rp), (6, .ref rq), (7, Iz (k))]) (g := fun ls => F0 m 64 ls []) (fun N_ H locs ls hI ih_64 => ?_) _ _ _ _ ⟨X2_28, (iup f21_ 0 1), 1, (z14.set 0 1), rfl, h_ra, h_rp, h_rq, kpX, (by omega), (by omega), (r61), (by rw [show (ha + 1 - 1).toNat = ha.toNat by omega]; rfl), hV, lv_sub hl [4, 5, 6, 7, 3, 2, 1, 0] rfl⟩
    obtain ⟨X2_64, fa, k, La, rfl, h_ra, h_rp, h_rq, kpX, k0, k1, ra_, ca, hV, hl⟩ := hI
    refine lv_iload hx hb dX2_cosines_64 (lv_at hl 7 rfl) ?_
    refine lv_iload_n hx hb dX2_cosines_66 rfl (lv_at hl 2 rfl) ?_
    refine g_icmp_gt (tgt := 170) hx hb (by first | assumption | exact ⟨by omega, by omega⟩) (by first | assumption | exact ⟨by omega, by omega⟩) dX2_cosines_67 (by decide) (fun c_67 => ?_) (fun c_67 => ?_)
    · skip
      have e170 : La = cosA da ha.toNat := by rw [← ca, show (ha + 1 - k).toNat = 0 by omega]; rfl
      refine lv_aload hx hb dX2_cosines_170 (lv_at hl 5 rfl) ?_
      refine lv_lconst (v := Int64.ofInt 0) hx hb dX2_cosines_172 rfl ?_
      refine e_callsv (k2 := 0) (n2 := 0) (f := 0) (kl := 0) (As := [.ref rp, Jz (0)]) (rest := []) E (e0v (kJ7_fill (x := 0) h_rp (by decide))) (c_cwS 2 hts cl_X2_231 ct_J7_fill_d0a16 cn_RJ7 cc_J7_fill_d0a16 rfl rfl (by decide +kernel) ⟨Nat.le_of_ble_eq_true rfl, Nat.le_of_ble_eq_true rfl⟩) hK hV hA hR ⟨by decide, by decide⟩ rfl hl.1 (Nat.le_of_ble_eq_true rfl) dX2_cosines_173 (fun X_ dd_ nn_ ss_ ll_ gg_ H locs q_ hV hm_ => ?_)
      obtain ⟨e2_, e3_, e4_, e5_, e6_, f173_, e1_, z173_⟩ := q_
      obtain rfl := e1_.symm
      obtain rfl := e2_.symm
      obtain rfl := e3_.symm
      obtain rfl := e4_.symm
      obtain rfl := e5_.symm
      obtain rfl := e6_.symm
      obtain ⟨X2_173, eX_, h__, kp_⟩ : ∃ X2_ : va_W, X2_ = wup X2_64 rp (.inl (cx 1, 14, .inr (.inl (jm f173_))) : va_E) ∧ (rp, (.inl (cx 1, 14, .inr (.inl (jm f173_))) : va_E)) ∈ X2_ ∧ ∀ q ∈ X2_64, q.1 ≠ rp → q ∈ X2_ := ⟨_, rfl, wup_self h_rp, fun _ h n => wup_ne h n⟩
      replace hV := (show cV dC dI cx LB (va_A (bW (cx 0) LB dd nn ss ll gg (pW cx LP pc_ pd co X)) s.heap.size) s.heap ll (pW cx LP pc_ pd co (wup X2_64 rp (.inl (cx 1, 14, .inr (.inl (jm f173_))) : va_E))) dd nn ss ll gg H locs from hV)
      rw [← eX_] at hV
      have h_ra := kp_ _ h_ra nap
      have h_rq := kp_ _ h_rq (Ne.symm npq)
      have kpX : ∀ q ∈ X, q.1 ≠ ra → q.1 ≠ rp → q.1 ≠ rq → q ∈ X2_173 := fun q h n_ra n_rp n_rq => kp_ q (kpX q h n_ra n_rp n_rq) n_rp
      have h_rp := h__
      refine W.widen (k := cP LB ll - cP LB ll + 0) (n := 2 * (cP LB ll - cP LB ll) + 0) (Nat.le_refl _) (Nat.le_refl _) ?_
      have r173 := rowIs_zero z173_
      refine lv_aload hx hb dX2_cosines_176 (lv_at hl 6 rfl) ?_
      refine lv_lconst (v := Int64.ofInt 0) hx hb dX2_cosines_178 rfl ?_
      refine e_callsv (k2 := 0) (n2 := 0) (f := 0) (kl := 0) (As := [.ref rq, Jz (0)]) (rest := []) E (e0v (kJ7_fill (x := 0) h_rq (by decide))) (c_cwS 2 hts cl_X2_231 ct_J7_fill_d0a16 cn_RJ7 cc_J7_fill_d0a16 rfl rfl (by decide +kernel) ⟨Nat.le_of_ble_eq_true rfl, Nat.le_of_ble_eq_true rfl⟩) hK hV hA hR ⟨by decide, by decide⟩ rfl hl.1 (Nat.le_of_ble_eq_true rfl) dX2_cosines_179 (fun X_ dd_ nn_ ss_ ll_ gg_ H locs q_ hV hm_ => ?_)
      obtain ⟨e2_, e3_, e4_, e5_, e6_, f179_, e1_, z179_⟩ := q_
      obtain rfl := e1_.symm
      obtain rfl := e2_.symm
      obtain rfl := e3_.symm
      obtain rfl := e4_.symm
      obtain rfl := e5_.symm
      obtain rfl := e6_.symm
      obtain ⟨X2_179, eX_, h__, kp_⟩ : ∃ X2_ : va_W, X2_ = wup X2_173 rq (.inl (cx 1, 14, .inr (.inl (jm f179_))) : va_E) ∧ (rq, (.inl (cx 1, 14, .inr (.inl (jm f179_))) : va_E)) ∈ X2_ ∧ ∀ q ∈ X2_173, q.1 ≠ rq → q ∈ X2_ := ⟨_, rfl, wup_self h_rq, fun _ h n => wup_ne h n⟩
      replace hV := (show cV dC dI cx LB (va_A (bW (cx 0) LB dd nn ss ll gg (pW cx LP pc_ pd co X)) s.heap.size) s.heap ll (pW cx LP pc_ pd co (wup X2_173 rq (.inl (cx 1, 14, .inr (.inl (jm f179_))) : va_E))) dd nn ss ll gg H locs from hV)
      rw [← eX_] at hV
      have h_ra := kp_ _ h_ra naq_
      have h_rp := kp_ _ h_rp npq
      have kpX : ∀ q ∈ X, q.1 ≠ ra → q.1 ≠ rp → q.1 ≠ rq → q ∈ X2_179 := fun q h n_ra n_rp n_rq => kp_ q (kpX q h n_ra n_rp n_rq) n_rq
      have h_rq := h__
      refine W.widen (k := cP LB ll - cP LB ll + 0) (n := 2 * (cP LB ll - cP LB ll) + 0) (Nat.le_refl _) (Nat.le_refl _) ?_
      have r179 := rowIs_zero z179_
      refine lv_aload hx hb dX2_cosines_182 (lv_at hl 6 rfl) ?_
      refine lv_iconst (v := Int32.ofInt (0)) hx hb dX2_cosines_184 (by decide) ?_
      refine lv_ldc2 (v := Int64.ofInt (2)) hx hb hown (hts _ (List.mem_cons_of_mem _ cj_X2_242)) dX2_cosines_185 ?_
      refine y_last3 (z := 0) (v := 2) hx hb hK hV h_rq (by omega) (by omega) (by decide) dX2_cosines_188 (fun H locs X2_188 h__ kp_ hV => ?_)
      have h_ra := kp_ _ h_ra naq_
      have h_rp := kp_ _ h_rp npq
      have kpX : ∀ q ∈ X, q.1 ≠ ra → q.1 ≠ rp → q.1 ≠ rq → q ∈ X2_188 := fun q h n_ra n_rp n_rq => kp_ q (kpX q h n_ra n_rp n_rq) n_rq
      have h_rq := h__
      refine lv_aload hx hb dX2_cosines_189 (lv_at hl 5 rfl) ?_
      refine lv_iconst (v := Int32.ofInt (1)) hx hb dX2_cosines_191 (by decide) ?_
      refine lv_lconst (v := Int64.ofInt 1) hx hb dX2_cosines_192 rfl ?_
      refine y_last3 (z := 1) (v := 1) hx hb hK hV h_rp (by omega) (by omega) (by decide) dX2_cosines_193 (fun H locs X2_193 h__ kp_ hV => ?_)
      have h_ra := kp_ _ h_ra nap
      have h_rq := kp_ _ h_rq (Ne.symm npq)
      have kpX : ∀ q ∈ X, q.1 ≠ ra → q.1 ≠ rp → q.1 ≠ rq → q ∈ X2_193 := fun q h n_ra n_rp n_rq => kp_ q (kpX q h n_ra n_rp n_rq) n_rp
      have h_rp := h__
      refine lv_bipush (v := Int32.ofInt (14)) hx hb dX2_cosines_194 (by decide) ?_
      refine y_newl E hK hV hA (by omega) (by omega) (e_room (k1 := 1) (n1 := 14) hV hR ⟨by decide, by decide⟩).1 (e_room (k1 := 1) (n1 := 14) hV hR ⟨by decide, by decide⟩).2 dX2_cosines_196 (fun q196 H nq_ hV => ?_)
      refine W.widen (k := cP LB ll - cP LB ll + 1) (n := 2 * (cP LB ll - cP LB ll) + 14) (Nat.le_refl _) (Nat.le_refl _) ?_
      have ne_ra_q196 : ra ≠ q196 := nq_ _ h_ra
      have ne_rp_q196 : rp ≠ q196 := nq_ _ h_rp
      have ne_rq_q196 : rq ≠ q196 := nq_ _ h_rq
      have nk_q196 : ∀ q_ ∈ X, q_.1 ≠ ra → q_.1 ≠ rp → q_.1 ≠ rq → q_.1 ≠ q196 := fun q_ h n_ra n_rp n_rq => nq_ q_ (kpX q_ h n_ra n_rp n_rq)
      obtain ⟨X2_196, eX_, h_q196, kp_⟩ : ∃ X2_ : va_W, X2_ = X2_193 ++ [(q196, .inl (cx 1, 14, .inr (.inl (jm (fun _ => 0)))))] ∧ (q196, (.inl (cx 1, 14, .inr (.inl (jm (fun _ => 0)))) : va_E)) ∈ X2_ ∧ ∀ q_ ∈ X2_193, q_ ∈ X2_ := ⟨_, rfl, List.mem_append_right _ List.mem_cons_self, fun _ h => List.mem_append_left _ h⟩
      replace hV := (show cV dC dI cx LB (va_A (bW (cx 0) LB dd nn ss ll gg (pW cx LP pc_ pd co X)) s.heap.size) s.heap ll (pW cx LP pc_ pd co (X2_193 ++ [(q196, .inl (cx 1, 14, .inr (.inl (jm (fun _ => 0)))))])) dd nn ss ll gg H locs from hV)
      rw [← eX_] at hV
      have h_ra := kp_ _ h_ra
      have h_rp := kp_ _ h_rp
      have h_rq := kp_ _ h_rq
      have kpX : ∀ q ∈ X, q.1 ≠ ra → q.1 ≠ rp → q.1 ≠ rq → q ∈ X2_196 := fun q h n_ra n_rp n_rq => kp_ q (kpX q h n_ra n_rp n_rq)
      refine lv_astore (lv' := [(7, .ref q196), (0, .ref no), (1, Iz (da)), (2, Iz (ha)), (3, .ref fo), (4, .ref ra), (5, .ref rp), (6, .ref rq)]) hx hb dX2_cosines_198 hl (by decide) rfl (fun ls hl => ?_)
      refine lv_aload hx hb dX2_cosines_200 (lv_at hl 0 rfl) ?_
      refine lv_iconst (v := Int32.ofInt (0)) hx hb dX2_cosines_202 (by decide) ?_
      refine lv_aload hx hb dX2_cosines_203 (lv_at hl 5 rfl) ?_
      refine lv_iload_n hx hb dX2_cosines_205 rfl (lv_at hl 3 rfl) ?_
      refine y_lald hx hb hK hV h_ra (z := ha) (by omega) (by omega) (by decide) dX2_cosines_206 ?_
      refine y_last3 (z := 0) (v := fa ha) hx hb hK hV h_q196 (by omega) (by omega) (by decide) dX2_cosines_207 (fun H locs X2_207 h__ kp_ hV => ?_)
      have h_ra := kp_ _ h_ra ne_ra_q196
      have h_rp := kp_ _ h_rp ne_rp_q196
      have h_rq := kp_ _ h_rq ne_rq_q196
      have kpX : ∀ q ∈ X, q.1 ≠ ra → q.1 ≠ rp → q.1 ≠ rq → q ∈ X2_207 := fun q h n_ra n_rp n_rq => kp_ q (kpX q h n_ra n_rp n_rq) (nk_q196 q h n_ra n_rp n_rq)
      have h_q196 := h__
      have rB := rowIs_set (z := 0) (v := 2) r179 (by decide) (by decide)
      have rN := rowIs_set (z := 1) (v := 1) r173 (by decide) (by decide)
      have rS0 : rowIs (fun _ => 0) z14 := rowIs_zero (fun _ _ _ => rfl)
      have e208 : fa ha = lg (cosA da ha.toNat) ha.toNat := by rw [ra_.2 ha (by omega) (by omega), e170]
      have rS : rowIs (iup (fun _ => 0) 0 (fa ha)) (z14.set 0 (lg (cosA da ha.toNat) ha.toNat)) := by rw [← e208]; exact rowIs_set rS0 (by decide) (by decide)
      refine lv_iconst (v := Int32.ofInt (1)) hx hb dX2_cosines_208 (by decide) ?_
      refine lv_istore (lv' := [(8, Iz (1)), (7, .ref q196), (0, .ref no), (1, Iz (da)), (2, Iz (ha)), (3, .ref fo), (4, .ref ra), (5, .ref rp), (6, .ref rq)]) hx hb dX2_cosines_209 hl (by decide) rfl (fun ls hl => ?_)
      refine r_loop (P := fun N_ H locs ls => ∃ X2_211 : va_W, ∃ x : Nat, ∃ y : Nat, ∃ fx : Int → Int, ∃ fy : Int → Int, ∃ fs : Int → Int, ∃ j : Int, ∃ Ln : List Int, ∃ Lb_ : List Int, ∃ Ls : List Int, N_ = (20 - j).toNat ∧ ((x, (.inl (cx 1, 14, .inr (.inl (jm fx))) : va_E)) ∈ X2_211) ∧ ((y, (.inl (cx 1, 14, .inr (.inl (jm fy))) : va_E)) ∈ X2_211) ∧ ((q196, (.inl (cx 1, 14, .inr (.inl (jm fs))) : va_E)) ∈ X2_211) ∧ ((ra, (.inl (cx 1, 14, .inr (.inl (jm fa))) : va_E)) ∈ X2_211) ∧ (∀ q ∈ X, q.1 ≠ ra → q.1 ≠ rp → q.1 ≠ rq → q ∈ X2_211) ∧ ((x = rp ∧ y = rq) ∨ (x = rq ∧ y = rp)) ∧ (1 ≤ j) ∧ (j ≤ ha + 1) ∧ (rowIs fx Ln) ∧ (rowIs fy Lb_) ∧ (rowIs fs Ls) ∧ (cosJ ha.toNat (cosA da ha.toNat) (ha + 1 - j).toNat j.toNat Ln Lb_ Ls = cosS da ha.toNat) ∧ cV dC dI cx LB (va_A (bW (cx 0) LB dd nn ss ll gg (pW cx LP pc_ pd co X)) s.heap.size) s.heap ll (pW cx LP pc_ pd co X2_211) dd nn ss ll gg H locs ∧ lv_has ls 10 [(0, .ref no), (1, Iz (da)), (2, Iz (ha)), (3, .ref fo), (4, .ref ra), (5, .ref x), (6, .ref y), (7, .ref q196), (8, Iz (j))]) (g := fun ls => F0 m 211 ls []) (fun N_ H locs ls hI ih_211 => ?_) _ _ _ _ ⟨X2_207, rp, rq, (iup f173_ 1 1), (iup f179_ 0 2), (iup (fun _ => 0) 0 (fa ha)), 1, (z14.set 1 1), (z14.set 0 2), (z14.set 0 (lg (cosA da ha.toNat) ha.toNat)), rfl, h_rp, h_rq, h_q196, h_ra, kpX, (Or.inl ⟨rfl, rfl⟩), (by omega), (by omega), (rN), (rB), (rS), (by rw [show (ha + 1 - 1).toNat = ha.toNat by omega]; rfl), hV, lv_sub hl [2, 3, 4, 5, 6, 7, 8, 1, 0] rfl⟩
      obtain ⟨X2_211, x, y, fx, fy, fs, j, Ln, Lb_, Ls, rfl, h_x, h_y, h_q196, h_ra, kpX, hxy, j0, j1, rn, rb, rs_, cj, hV, hl⟩ := hI
      have nxy : x ≠ y := hxy.elim (fun h => by rw [h.1, h.2]; exact npq) (fun h => by rw [h.1, h.2]; exact Ne.symm npq)
      have nax : ra ≠ x := hxy.elim (fun h => by rw [h.1]; exact nap) (fun h => by rw [h.1]; exact naq_)
      have nay : ra ≠ y := hxy.elim (fun h => by rw [h.2]; exact naq_) (fun h => by rw [h.2]; exact nap)
      have nxq : x ≠ q196 := hxy.elim (fun h => by rw [h.1]; exact ne_rp_q196) (fun h => by rw [h.1]; exact ne_rq_q196)
      have nyq : y ≠ q196 := hxy.elim (fun h => by rw [h.2]; exact ne_rq_q196) (fun h => by rw [h.2]; exact ne_rp_q196)
      refine lv_iload hx hb dX2_cosines_211 (lv_at hl 8 rfl) ?_
      refine lv_iload_n hx hb dX2_cosines_213 rfl (lv_at hl 2 rfl) ?_
      refine g_icmp_gt (tgt := 316) hx hb (by first | assumption | exact ⟨by omega, by omega⟩) (by first | assumption | exact ⟨by omega, by omega⟩) dX2_cosines_214 (by decide) (fun c_214 => ?_) (fun c_214 => ?_)
      · skip
        have e316 : Ls = cosS da ha.toNat := by rw [← cj, show (ha + 1 - j).toNat = 0 by omega]; rfl
        obtain ⟨sS1, sS2⟩ := sS (by omega)
        refine lv_iconst (v := Int32.ofInt (0)) hx hb dX2_cosines_316 (by decide) ?_
        refine lv_istore (lv' := [(8, Iz (0)), (0, .ref no), (1, Iz (da)), (2, Iz (ha)), (3, .ref fo), (4, .ref ra), (5, .ref x), (6, .ref y), (7, .ref q196)]) hx hb dX2_cosines_317 hl (by decide) rfl (fun ls hl => ?_)
        refine r_loop2 (P := fun N_ ce sl H locs ls => ∃ dd_319 : Nat → Nat, ∃ nn_319 ss_319 : Nat → Int, ∃ ll_319 : Nat → Nat, ∃ gg_319 : Nat → Int → Int, ∃ v_319 : Nat → Int, ∃ i : Int, N_ = (20 - i).toNat ∧ ce = cP LB ll_319 - cP LB ll + 1 ∧ sl = 2 * (cP LB ll_319 - cP LB ll) + 14 ∧ cR LB nn_319 ss_319 ll_319 gg_319 v_319 ∧ (0 ≤ i) ∧ (i ≤ ha + 1) ∧ (∀ k : Nat, (k : Int) < i → v_319 (co fo k) = cosF da ha.toNat k) ∧ (∀ b : Nat, (∀ k : Nat, k < 13 → b ≠ co fo k) → v_319 b = v b) ∧ cV dC dI cx LB (va_A (bW (cx 0) LB dd nn ss ll gg (pW cx LP pc_ pd co X)) s.heap.size) s.heap ll (pW cx LP pc_ pd co X2_211) dd_319 nn_319 ss_319 ll_319 gg_319 H locs ∧ lv_has ls 10 [(0, .ref no), (1, Iz (da)), (2, Iz (ha)), (3, .ref fo), (4, .ref ra), (5, .ref x), (6, .ref y), (7, .ref q196), (8, Iz (i))]) (g := fun ls => F0 m 319 ls []) (fun N_ ce sl H locs ls hI ih_319 => ?_) _ _ _ _ _ _ ⟨_, _, _, _, _, v, 0, rfl, rfl, rfl, hN, (by omega), (by omega), (fun k hk => by omega), (fun b _ => rfl), hV, lv_sub hl [1, 2, 3, 4, 5, 6, 7, 8, 0] rfl⟩
        obtain ⟨dd_319, nn_319, ss_319, ll_319, gg_319, v_319, i, rfl, rfl, rfl, hN, i0, i1, c1, c2, hV, hl⟩ := hI
        refine lv_iload hx hb dX2_cosines_319 (lv_at hl 8 rfl) ?_
        refine lv_iload_n hx hb dX2_cosines_321 rfl (lv_at hl 2 rfl) ?_
        refine g_icmp_gt (tgt := 349) hx hb (by first | assumption | exact ⟨by omega, by omega⟩) (by first | assumption | exact ⟨by omega, by omega⟩) dX2_cosines_322 (by decide) (fun c_322 => ?_) (fun c_322 => ?_)
        · skip
          refine lv_aload_n hx hb dX2_cosines_349 rfl (lv_at hl 3 rfl) ?_
          refine lv_iload_n hx hb dX2_cosines_350 rfl (lv_at hl 2 rfl) ?_
          refine y_putdeg E hK hV mo rfl cf_2_77 dX2_cosines_351 (fun H locs hV => ?_)
          refine lv_aload_n hx hb dX2_cosines_354 rfl (lv_at hl 0 rfl) ?_
          refine x_get E hK hV (ci := 2) (C := RX2) (T := TX2) (N := 19) rfl w0c_in2 (pW_x (kpX _ hNo nna nnp nnq)) 5 (by decide) rfl cf_2_69 rfl dX2_cosines_355 ?_
          refine lv_aload_n hx hb dX2_cosines_358 rfl (lv_at hl 3 rfl) ?_
          have w359 : ∀ k : Nat, (k : Int) ≤ va_up pd fo ha fo → v_319 (co fo k) = cosF da ha.toNat k := fun k hk => by rw [va_up_self] at hk; exact c1 k (by omega)
          have l359 : v_319 (co fo (va_up pd fo ha fo).toNat) ≠ 0 := by rw [w359 _ (by rw [va_up_self]; omega), va_up_self]; exact sS2
          refine e_callv (k2 := 0) (n2 := 0) (f := 4) (kl := 131) (As := [.ref fo]) (rest := []) E (e0v (k9_tidy (v := v_319) (f := fo) mo hO hN (kpX _ hTo nta ntp ntq) hS (by rw [va_up_self]; omega) (by rw [va_up_self]; omega) (fun k hk => by rw [w359 k hk]; rw [va_up_self] at hk; exact lt_B (sS1 k hk) (by omega)) l359)) (cwV 1 hts (cGood cl_X2_101 ci_X9_tidy cs_X9_tidy cn_RX9 cc_X9_tidy) rfl rfl rfl (by decide +kernel) ⟨Nat.le_of_ble_eq_true rfl, Nat.le_of_ble_eq_true rfl⟩) (x_recv (q := (RX9, TX9, 8)) hK hV (ci := 9) rfl (pW_x (kpX _ hTo nta ntp ntq))) hK hV hA hR ⟨by decide, by decide⟩ rfl hl.1 (Nat.le_of_ble_eq_true rfl) dX2_cosines_359 (fun X359 dd359 nn359 ss359 ll359 gg359 H locs q359 hV hm359 => ?_)
          obtain ⟨v359, e1_, hN, vt359, vo359⟩ := q359
          obtain rfl := e1_.symm
          refine W.widen (k := cP LB ll359 - cP LB ll + 1) (n := 2 * (cP LB ll359 - cP LB ll) + 14) (Nat.le_refl _) (Nat.le_refl _) ?_
          have hpost : ∃ (v' : Nat → Int) (X2' : va_W), (pW cx LP pc_ (va_up pd fo ha) co X2_211) = pW cx LP pc_ (va_up pd fo ha) co X2' ∧ cR LB nn359 ss359 ll359 gg359 v' ∧ (∀ q ∈ X, q.1 ≠ ra → q.1 ≠ rp → q.1 ≠ rq → q ∈ X2') ∧ (3 ≤ da → ∀ k : Nat, (k : Int) ≤ ha → v' (co fo k) = cosC da ha.toNat k) ∧ (∀ b : Nat, (∀ k : Nat, k < 13 → b ≠ co fo k) → b ≠ ta → b ≠ tb → b ≠ tq → b ≠ tt → b ≠ tu → v' b = v b) := ⟨_, _, rfl, hN, kpX, fun _ k hk => by
                rw [vt359 k (by rw [va_up_self]; omega), w359 k (by rw [va_up_self]; omega), w359 _ (by rw [va_up_self]; omega), va_up_self, cgN_congr (G := cosF da ha.toNat) (fun j hj => w359 j (by rw [va_up_self]; omega))]
                rfl, fun b h q1 q2 q3 q4 q5 => (vo359 b (fun k hk => h k (by rw [va_up_self] at hk; omega)) q1 q2 q3 q4 q5).trans (c2 b h)⟩
          exact e_vret hx hb hr hK hV ⟨by decide, by decide⟩ hpost dX2_cosines_362 hlocks
        · skip
          refine lv_aload_n hx hb dX2_cosines_325 rfl (lv_at hl 3 rfl) ?_
          refine y_getc E hK hV mo cf_2_136 dX2_cosines_326 ?_
          refine lv_iload hx hb dX2_cosines_329 (lv_at hl 8 rfl) ?_
          refine y_aald hx hb hK hV mo (by omega) (by omega) dX2_cosines_331 ?_
          refine lv_aload hx hb dX2_cosines_332 (lv_at hl 7 rfl) ?_
          refine lv_iload hx hb dX2_cosines_334 (lv_at hl 8 rfl) ?_
          refine y_lald hx hb hK hV h_q196 (z := i) (by omega) (by omega) (by decide) dX2_cosines_336 ?_
          refine lv_iload hx hb dX2_cosines_337 (lv_at hl 8 rfl) ?_
          refine g_lshl hx hb (by omega) (by omega) dX2_cosines_339 ?_
          have f340 : fs i * 2 ^ i.toNat = cosF da ha.toNat i.toNat := by unfold cosF; rw [rs_.2 i (by omega) (by omega), e316]
          have b340 := sS1 i.toNat (by omega)
          have s60 : (2 : Int) ^ 60 = 1152921504606846976 := by decide
          rw [f340]
          refine e_callv (k2 := 0) (n2 := 0) (f := 0) (kl := 0) (As := [Jz (cosF da ha.toNat i.toNat)]) (rest := []) E (e0v (k0_put (v := v_319) (h0 := (co fo (i).toNat)) (x := cosF da ha.toNat i.toNat) (hO.1 fo mo _ (by omega)) hN (by omega) (by omega))) (cwV 1 hts (cGood cl_X2_114 ci_X0_put cs_X0_put cn_RX0 cc_X0_put) rfl rfl rfl (by decide +kernel) ⟨Nat.le_of_ble_eq_true rfl, Nat.le_of_ble_eq_true rfl⟩) (b_recv hK hV (hO.1 fo mo _ (by omega))) hK hV hA hR ⟨by decide, by decide⟩ rfl hl.1 (Nat.le_of_ble_eq_true rfl) dX2_cosines_340 (fun X340 dd340 nn340 ss340 ll340 gg340 H locs q340 hV hm340 => ?_)
          obtain ⟨e1_, hN⟩ := q340
          obtain rfl := e1_.symm
          refine W.widen (k := cP LB ll340 - cP LB ll + 1) (n := 2 * (cP LB ll340 - cP LB ll) + 14) (Nat.le_refl _) (Nat.le_refl _) ?_
          refine g_iinc (k := 8) (z := i) (n := (1)) (lv' := [(8, Iz (i + 1)), (0, .ref no), (1, Iz (da)), (2, Iz (ha)), (3, .ref fo), (4, .ref ra), (5, .ref x), (6, .ref y), (7, .ref q196)]) hx hb dX2_cosines_343 hl rfl (by decide) rfl (fun ls hl => ?_)
          refine lv_goto (tgt := 319) hx hb dX2_cosines_346 (by decide) ?_
          exact ih_319 _ (by omega) _ _ _ _ _ ⟨_, _, _, _, _, (va_up v_319 (co fo (i).toNat) (cosF da ha.toNat i.toNat)), (i + 1), rfl, rfl, rfl, hN, (by omega), (by omega), (fun k hk => by
                    by_cases w : k = i.toNat
                    · rw [w, va_up_self]
                    · rw [va_up_ne _ _ (fun q_ => w (hO.2 _ mo _ mo _ _ (by omega) (by omega) q_).2)]; exact c1 k (by omega)), (fun b h => by rw [va_up_ne _ _ (h _ (by omega))]; exact c2 b h), hV, lv_sub hl [1, 2, 3, 4, 5, 6, 7, 8, 0] rfl⟩
      · skip
        refine lv_iconst (v := Int32.ofInt (0)) hx hb dX2_cosines_217 (by decide) ?_
        refine lv_istore (lv' := [(9, Iz (0)), (0, .ref no), (1, Iz (da)), (2, Iz (ha)), (3, .ref fo), (4, .ref ra), (5, .ref x), (6, .ref y), (7, .ref q196), (8, Iz (j))]) hx hb dX2_cosines_218 hl (by decide) rfl (fun ls hl => ?_)
        refine r_loop (P := fun N_ H locs ls => ∃ X2_220 : va_W, ∃ fs1 : Int → Int, ∃ i : Int, ∃ Ls1 : List Int, N_ = (20 - i).toNat ∧ ((q196, (.inl (cx 1, 14, .inr (.inl (jm fs1))) : va_E)) ∈ X2_220) ∧ ((ra, (.inl (cx 1, 14, .inr (.inl (jm fa))) : va_E)) ∈ X2_220) ∧ ((x, (.inl (cx 1, 14, .inr (.inl (jm fx))) : va_E)) ∈ X2_220) ∧ ((y, (.inl (cx 1, 14, .inr (.inl (jm fy))) : va_E)) ∈ X2_220) ∧ (∀ q ∈ X, q.1 ≠ ra → q.1 ≠ rp → q.1 ≠ rq → q ∈ X2_220) ∧ (0 ≤ i) ∧ (i ≤ j + 1) ∧ (rowIs fs1 Ls1) ∧ (smL (lg La (ha.toNat - j.toNat)) Ln (j + 1 - i).toNat i.toNat Ls1 = smL (lg La (ha.toNat - j.toNat)) Ln (j.toNat + 1) 0 Ls) ∧ cV dC dI cx LB (va_A (bW (cx 0) LB dd nn ss ll gg (pW cx LP pc_ pd co X)) s.heap.size) s.heap ll (pW cx LP pc_ pd co X2_220) dd nn ss ll gg H locs ∧ lv_has ls 10 [(0, .ref no), (1, Iz (da)), (2, Iz (ha)), (3, .ref fo), (4, .ref ra), (5, .ref x), (6, .ref y), (7, .ref q196), (8, Iz (j)), (9, Iz (i))]) (g := fun ls => F0 m 220 ls []) (fun N_ H locs ls hI ih_220 => ?_) _ _ _ _ ⟨X2_211, fs, 0, Ls, rfl, h_q196, h_ra, h_x, h_y, kpX, (by omega), (by omega), (rs_), (by rw [show (j + 1 - 0).toNat = j.toNat + 1 by omega]; rfl), hV, lv_sub hl [1, 2, 3, 4, 5, 6, 7, 8, 9, 0] rfl⟩
        obtain ⟨X2_220, fs1, i, Ls1, rfl, h_q196, h_ra, h_x, h_y, kpX, i0, i1, rs1, cs, hV, hl⟩ := hI
        refine lv_iload hx hb dX2_cosines_220 (lv_at hl 9 rfl) ?_
        refine lv_iload hx hb dX2_cosines_222 (lv_at hl 8 rfl) ?_
        refine g_icmp_gt (tgt := 254) hx hb (by first | assumption | exact ⟨by omega, by omega⟩) (by first | assumption | exact ⟨by omega, by omega⟩) dX2_cosines_224 (by decide) (fun c_224 => ?_) (fun c_224 => ?_)
        · skip
          have e254 : Ls1 = smL (lg La (ha.toNat - j.toNat)) Ln (j.toNat + 1) 0 Ls := by rw [← cs, show (j + 1 - i).toNat = 0 by omega]; rfl
          refine lv_iload hx hb dX2_cosines_254 (lv_at hl 8 rfl) ?_
          refine lv_iconst (v := Int32.ofInt (1)) hx hb dX2_cosines_256 (by decide) ?_
          refine g_iadd hx hb dX2_cosines_257 ?_
          refine lv_istore (lv' := [(9, Iz (j + 1)), (0, .ref no), (1, Iz (da)), (2, Iz (ha)), (3, .ref fo), (4, .ref ra), (5, .ref x), (6, .ref y), (7, .ref q196), (8, Iz (j))]) hx hb dX2_cosines_258 hl (by decide) rfl (fun ls hl => ?_)
          refine r_loop (P := fun N_ H locs ls => ∃ X2_260 : va_W, ∃ fy1 : Int → Int, ∃ i : Int, ∃ Lb1 : List Int, N_ = (i + 1).toNat ∧ ((y, (.inl (cx 1, 14, .inr (.inl (jm fy1))) : va_E)) ∈ X2_260) ∧ ((ra, (.inl (cx 1, 14, .inr (.inl (jm fa))) : va_E)) ∈ X2_260) ∧ ((x, (.inl (cx 1, 14, .inr (.inl (jm fx))) : va_E)) ∈ X2_260) ∧ ((q196, (.inl (cx 1, 14, .inr (.inl (jm fs1))) : va_E)) ∈ X2_260) ∧ (∀ q ∈ X, q.1 ≠ ra → q.1 ≠ rp → q.1 ≠ rq → q ∈ X2_260) ∧ (-1 ≤ i) ∧ (i ≤ j + 1) ∧ (rowIs fy1 Lb1) ∧ (bfL Ln (i + 1).toNat Lb1 = bfL Ln (j.toNat + 2) Lb_) ∧ cV dC dI cx LB (va_A (bW (cx 0) LB dd nn ss ll gg (pW cx LP pc_ pd co X)) s.heap.size) s.heap ll (pW cx LP pc_ pd co X2_260) dd nn ss ll gg H locs ∧ lv_has ls 10 [(0, .ref no), (1, Iz (da)), (2, Iz (ha)), (3, .ref fo), (4, .ref ra), (5, .ref x), (6, .ref y), (7, .ref q196), (8, Iz (j)), (9, Iz (i))]) (g := fun ls => F0 m 260 ls []) (fun N_ H locs ls hI ih_260 => ?_) _ _ _ _ ⟨X2_220, fy, (j + 1), Lb_, rfl, h_y, h_ra, h_x, h_q196, kpX, (by omega), (by omega), (rb), (by rw [show (j + 1 + 1).toNat = j.toNat + 2 by omega]), hV, lv_sub hl [1, 2, 3, 4, 5, 6, 7, 8, 9, 0] rfl⟩
          obtain ⟨X2_260, fy1, i, Lb1, rfl, h_y, h_ra, h_x, h_q196, kpX, i0, i1, rb1, cb1, hV, hl⟩ := hI
          refine lv_iload hx hb dX2_cosines_260 (lv_at hl 9 rfl) ?_
          refine g_if_lt (tgt := 298) hx hb (by first | assumption | exact ⟨by omega, by omega⟩) dX2_cosines_262 (by decide) (fun c_262 => ?_) (fun c_262 => ?_)
          · skip
            have e298 : Lb1 = bfL Ln (j.toNat + 2) Lb_ := by rw [← cb1, show (i + 1).toNat = 0 by omega]; rfl
            refine lv_aload hx hb dX2_cosines_298 (lv_at hl 6 rfl) ?_
            refine lv_astore (lv' := [(9, .ref y), (0, .ref no), (1, Iz (da)), (2, Iz (ha)), (3, .ref fo), (4, .ref ra), (5, .ref x), (6, .ref y), (7, .ref q196), (8, Iz (j))]) hx hb dX2_cosines_300 hl (by decide) rfl (fun ls hl => ?_)
            refine lv_aload hx hb dX2_cosines_302 (lv_at hl 6 rfl) ?_
            refine lv_astore (lv' := [(6, .ref x), (9, .ref y), (0, .ref no), (1, Iz (da)), (2, Iz (ha)), (3, .ref fo), (4, .ref ra), (5, .ref x), (7, .ref q196), (8, Iz (j))]) hx hb dX2_cosines_304 hl (by decide) rfl (fun ls hl => ?_)
            refine lv_aload hx hb dX2_cosines_306 (lv_at hl 1 rfl) ?_
            refine lv_astore (lv' := [(5, .ref y), (6, .ref x), (9, .ref y), (0, .ref no), (1, Iz (da)), (2, Iz (ha)), (3, .ref fo), (4, .ref ra), (7, .ref q196), (8, Iz (j))]) hx hb dX2_cosines_308 hl (by decide) rfl (fun ls hl => ?_)
            refine g_iinc (k := 9) (z := j) (n := (1)) (lv' := [(8, Iz (j + 1)), (5, .ref y), (6, .ref x), (9, .ref y), (0, .ref no), (1, Iz (da)), (2, Iz (ha)), (3, .ref fo), (4, .ref ra), (7, .ref q196)]) hx hb dX2_cosines_310 hl rfl (by decide) rfl (fun ls hl => ?_)
            refine lv_goto (tgt := 211) hx hb dX2_cosines_313 (by decide) ?_
            exact ih_211 _ (by omega) _ _ _ ⟨X2_260, y, x, fy1, fx, fs1, (j + 1), Lb1, Ln, Ls1, rfl, h_y, h_x, h_q196, h_ra, kpX, (hxy.elim (fun h => Or.inr ⟨h.2, h.1⟩) (fun h => Or.inl ⟨h.2, h.1⟩)), (by omega), (by omega), (rb1), (rn), (rs1), (by rw [← cj, show (ha + 1 - j).toNat = (ha + 1 - (j + 1)).toNat + 1 by omega, e254, e298, e170, show (j + 1).toNat = j.toNat + 1 by omega]; rfl), hV, lv_sub hl [4, 5, 6, 7, 8, 1, 2, 9, 0] rfl⟩
          · skip
            refine lv_aload hx hb dX2_cosines_265 (lv_at hl 6 rfl) ?_
            refine lv_iload hx hb dX2_cosines_267 (lv_at hl 9 rfl) ?_
            refine r_join (P := fun z : Int => z = (if 0 < i then fx (i - 1) else 0)) (g := fun z => F0 m 285 ls [Jz z, Iz (i), .ref y]) (fun pv hpv => ?_) (fun k_285 => ?_)
            · skip
              refine lv_aload hx hb dX2_cosines_285 (lv_at hl 6 rfl) ?_
              refine lv_iload hx hb dX2_cosines_287 (lv_at hl 9 rfl) ?_
              refine y_lald hx hb hK hV h_y (z := i) (by omega) (by omega) (by decide) dX2_cosines_289 ?_
              refine g_lsub hx hb dX2_cosines_290 ?_
              refine y_last3 (z := i) (v := pv - (fy1 i)) hx hb hK hV h_y (by omega) (by omega) (by decide) dX2_cosines_291 (fun H locs X2_291 h__ kp_ hV => ?_)
              have h_ra := kp_ _ h_ra nay
              have h_x := kp_ _ h_x nxy
              have h_q196 := kp_ _ h_q196 (Ne.symm nyq)
              have kpX : ∀ q ∈ X, q.1 ≠ ra → q.1 ≠ rp → q.1 ≠ rq → q ∈ X2_291 := fun q h n_ra n_rp n_rq => kp_ q (kpX q h n_ra n_rp n_rq) (hxy.elim (fun e_ w_ => n_rq (w_.trans e_.2)) (fun e_ w_ => n_rp (w_.trans e_.2)))
              have h_y := h__
              refine g_iinc (k := 9) (z := i) (n := (-1)) (lv' := [(9, Iz (i + (-1))), (0, .ref no), (1, Iz (da)), (2, Iz (ha)), (3, .ref fo), (4, .ref ra), (5, .ref x), (6, .ref y), (7, .ref q196), (8, Iz (j))]) hx hb dX2_cosines_292 hl rfl (by decide) rfl (fun ls hl => ?_)
              refine lv_goto (tgt := 260) hx hb dX2_cosines_295 (by decide) ?_
              exact ih_260 _ (by omega) _ _ _ ⟨X2_291, (iup fy1 i (pv - (fy1 i))), (i + (-1)), (Lb1.set i.toNat (pv - fy1 i)), rfl, h_y, h_ra, h_x, h_q196, kpX, (by omega), (by omega), (rowIs_set rb1 (by omega) (by omega)), (by
                        rw [← cb1, show (i + 1).toNat = (i + -1 + 1).toNat + 1 by omega]
                        show _ = bfL Ln (i + -1 + 1).toNat (Lb1.set (i + -1 + 1).toNat ((if 0 < (i + -1 + 1).toNat then lg Ln ((i + -1 + 1).toNat - 1) else 0) - lg Lb1 (i + -1 + 1).toNat))
                        rw [show (i + -1 + 1).toNat = i.toNat by omega, rb1.2 i (by omega) (by omega), hpv]
                        by_cases w : 0 < i
                        · rw [if_pos w, if_pos (by omega), rn.2 (i - 1) (by omega) (by omega), show (i - 1).toNat = i.toNat - 1 by omega]
                        · rw [if_neg w, if_neg (by omega)]), hV, lv_sub hl [1, 2, 3, 4, 5, 6, 7, 8, 9, 0] rfl⟩
            · skip
              refine lv_iload hx hb dX2_cosines_269 (lv_at hl 9 rfl) ?_
              refine g_if_le (tgt := 284) hx hb (by first | assumption | exact ⟨by omega, by omega⟩) dX2_cosines_271 (by decide) (fun c_271 => ?_) (fun c_271 => ?_)
              · skip
                refine lv_lconst (v := Int64.ofInt 0) hx hb dX2_cosines_284 rfl ?_
                exact k_285 _ (by first | rw [if_pos (by omega)] | rw [if_neg (by omega)])
              · skip
                refine lv_aload hx hb dX2_cosines_274 (lv_at hl 5 rfl) ?_
                refine lv_iload hx hb dX2_cosines_276 (lv_at hl 9 rfl) ?_
                refine lv_iconst (v := Int32.ofInt (1)) hx hb dX2_cosines_278 (by decide) ?_
                refine g_isub hx hb dX2_cosines_279 ?_
                refine y_lald hx hb hK hV h_x (z := i - 1) (by omega) (by omega) (by decide) dX2_cosines_280 ?_
                refine lv_goto (tgt := 285) hx hb dX2_cosines_281 (by decide) ?_
                exact k_285 _ (by first | rw [if_pos (by omega)] | rw [if_neg (by omega)])
        · skip
          refine lv_aload hx hb dX2_cosines_227 (lv_at hl 7 rfl) ?_
          refine lv_iload hx hb dX2_cosines_229 (lv_at hl 9 rfl) ?_
          refine lv_dup2_11 hx hb dX2_cosines_231 rfl rfl ?_
          refine y_lald hx hb hK hV h_q196 (z := i) (by omega) (by omega) (by decide) dX2_cosines_232 ?_
          refine lv_aload hx hb dX2_cosines_233 (lv_at hl 4 rfl) ?_
          refine lv_iload_n hx hb dX2_cosines_235 rfl (lv_at hl 2 rfl) ?_
          refine lv_iload hx hb dX2_cosines_236 (lv_at hl 8 rfl) ?_
          refine g_isub hx hb dX2_cosines_238 ?_
          refine y_lald hx hb hK hV h_ra (z := ha - j) (by omega) (by omega) (by decide) dX2_cosines_239 ?_
          refine lv_aload hx hb dX2_cosines_240 (lv_at hl 5 rfl) ?_
          refine lv_iload hx hb dX2_cosines_242 (lv_at hl 9 rfl) ?_
          refine y_lald hx hb hK hV h_x (z := i) (by omega) (by omega) (by decide) dX2_cosines_244 ?_
          refine g_lmul hx hb dX2_cosines_245 ?_
          refine g_ladd hx hb dX2_cosines_246 ?_
          refine y_last3 (z := i) (v := (fs1 i) + ((fa (ha - j)) * (fx i))) hx hb hK hV h_q196 (by omega) (by omega) (by decide) dX2_cosines_247 (fun H locs X2_247 h__ kp_ hV => ?_)
          have h_ra := kp_ _ h_ra ne_ra_q196
          have h_x := kp_ _ h_x nxq
          have h_y := kp_ _ h_y nyq
          have kpX : ∀ q ∈ X, q.1 ≠ ra → q.1 ≠ rp → q.1 ≠ rq → q ∈ X2_247 := fun q h n_ra n_rp n_rq => kp_ q (kpX q h n_ra n_rp n_rq) (nk_q196 q h n_ra n_rp n_rq)
          have h_q196 := h__
          refine g_iinc (k := 9) (z := i) (n := (1)) (lv' := [(9, Iz (i + 1)), (0, .ref no), (1, Iz (da)), (2, Iz (ha)), (3, .ref fo), (4, .ref ra), (5, .ref x), (6, .ref y), (7, .ref q196), (8, Iz (j))]) hx hb dX2_cosines_248 hl rfl (by decide) rfl (fun ls hl => ?_)
          refine lv_goto (tgt := 220) hx hb dX2_cosines_251 (by decide) ?_
          exact ih_220 _ (by omega) _ _ _ ⟨X2_247, (iup fs1 i ((fs1 i) + ((fa (ha - j)) * (fx i)))), (i + 1), (Ls1.set i.toNat (fs1 i + fa (ha - j) * fx i)), rfl, h_q196, h_ra, h_x, h_y, kpX, (by omega), (by omega), (rowIs_set rs1 (by omega) (by omega)), (by
                    rw [← cs, show (j + 1 - i).toNat = (j + 1 - (i + 1)).toNat + 1 by omega]
                    show _ = smL (lg La (ha.toNat - j.toNat)) Ln (j + 1 - (i + 1)).toNat (i.toNat + 1) (Ls1.set i.toNat (lg Ls1 i.toNat + lg La (ha.toNat - j.toNat) * lg Ln i.toNat))
                    rw [rs1.2 i (by omega) (by omega), ra_.2 (ha - j) (by omega) (by omega), rn.2 i (by omega) (by omega), show (ha - j).toNat = ha.toNat - j.toNat by omega, show (i + 1).toNat = i.toNat + 1 by omega]), hV, lv_sub hl [1, 2, 3, 4, 5, 6, 7, 8, 9, 0] rfl⟩
    · skip
      have km := Int.emod_nonneg da (show k ≠ 0 by omega)
      have km2 := Int.emod_lt_of_pos da (show 0 < k by omega)
      refine r_cutZ (P := fun so ce sl H locs => ce = cP LB ll - cP LB ll + 0 ∧ sl = 2 * (cP LB ll - cP LB ll) + 0 ∧ (so = (if da % k = 0 then sqf 999 2 (da / k) 1 else 0)) ∧ cV dC dI cx LB (va_A (bW (cx 0) LB dd nn ss ll gg (pW cx LP pc_ pd co X)) s.heap.size) s.heap ll (pW cx LP pc_ pd co X2_64) dd nn ss ll gg H locs) (g := fun so => F0 m 88 ls [Iz so]) (fun so ce sl H locs hI => ?_) (fun k_88 => ?_)
      · skip
        obtain ⟨rfl, rfl, hso, hV⟩ := hI
        refine lv_istore (lv' := [(8, Iz (so)), (0, .ref no), (1, Iz (da)), (2, Iz (ha)), (3, .ref fo), (4, .ref ra), (5, .ref rp), (6, .ref rq), (7, Iz (k))]) hx hb dX2_cosines_88 hl (by decide) rfl (fun ls hl => ?_)
        obtain ⟨L1, eL1⟩ : ∃ L1 : List Int, L1 = (if 0 < so then dnL k.toNat (ha.toNat + 1 - k.toNat) La else La) := ⟨_, rfl⟩
        obtain ⟨L2, eL2⟩ : ∃ L2 : List Int, L2 = (if so < 0 then upL k.toNat (ha.toNat + 1 - k.toNat) k.toNat L1 else L1) := ⟨_, rfl⟩
        have sbd := srt_bd da k.toNat
        have eso : srt da k.toNat = so := by unfold srt; rw [show ((k.toNat : Nat) : Int) = k by omega]; exact hso.symm
        rw [eso] at sbd
        refine lv_iload_n hx hb dX2_cosines_90 rfl (lv_at hl 3 rfl) ?_
        refine lv_istore (lv' := [(9, Iz (ha)), (8, Iz (so)), (0, .ref no), (1, Iz (da)), (2, Iz (ha)), (3, .ref fo), (4, .ref ra), (5, .ref rp), (6, .ref rq), (7, Iz (k))]) hx hb dX2_cosines_91 hl (by decide) rfl (fun ls hl => ?_)
        refine r_loop (P := fun N_ H locs ls => ∃ X2_93 : va_W, ∃ fb : Int → Int, ∃ i : Int, ∃ Lb : List Int, N_ = (i + 1).toNat ∧ ((ra, (.inl (cx 1, 14, .inr (.inl (jm fb))) : va_E)) ∈ X2_93) ∧ ((rp, (.inl (cx 1, 14, .inr (.inl (jm f1))) : va_E)) ∈ X2_93) ∧ ((rq, (.inl (cx 1, 14, .inr (.inl (jm f2))) : va_E)) ∈ X2_93) ∧ (∀ q ∈ X, q.1 ≠ ra → q.1 ≠ rp → q.1 ≠ rq → q ∈ X2_93) ∧ (k - 1 ≤ i) ∧ (i ≤ ha) ∧ (rowIs fb Lb) ∧ ((if 0 < so then dnL k.toNat (i + 1 - k).toNat Lb else Lb) = L1) ∧ cV dC dI cx LB (va_A (bW (cx 0) LB dd nn ss ll gg (pW cx LP pc_ pd co X)) s.heap.size) s.heap ll (pW cx LP pc_ pd co X2_93) dd nn ss ll gg H locs ∧ lv_has ls 10 [(0, .ref no), (1, Iz (da)), (2, Iz (ha)), (3, .ref fo), (4, .ref ra), (5, .ref rp), (6, .ref rq), (7, Iz (k)), (8, Iz (so)), (9, Iz (i))]) (g := fun ls => F0 m 93 ls []) (fun N_ H locs ls hI ih_93 => ?_) _ _ _ _ ⟨X2_64, fa, ha, La, rfl, h_ra, h_rp, h_rq, kpX, (by omega), (by omega), (ra_), (by rw [eL1, show (ha + 1 - k).toNat = ha.toNat + 1 - k.toNat by omega]), hV, lv_sub hl [2, 3, 4, 5, 6, 7, 8, 9, 1, 0] rfl⟩
        obtain ⟨X2_93, fb, i, Lb, rfl, h_ra, h_rp, h_rq, kpX, i0, i1, rb, cb, hV, hl⟩ := hI
        refine lv_iload hx hb dX2_cosines_93 (lv_at hl 9 rfl) ?_
        refine lv_iload hx hb dX2_cosines_95 (lv_at hl 7 rfl) ?_
        refine g_icmp_lt (tgt := 127) hx hb (by first | assumption | exact ⟨by omega, by omega⟩) (by first | assumption | exact ⟨by omega, by omega⟩) dX2_cosines_97 (by decide) (fun c_97 => ?_) (fun c_97 => ?_)
        · skip
          have e127 : Lb = L1 := by
            rw [← cb]
            by_cases w : 0 < so
            · first
              | (rw [if_pos w, show (i + 1 - k).toNat = 0 by omega]; rfl)
              | (exfalso; omega)
            · rw [if_neg w]
          refine lv_iload hx hb dX2_cosines_127 (lv_at hl 7 rfl) ?_
          refine lv_istore (lv' := [(9, Iz (k)), (0, .ref no), (1, Iz (da)), (2, Iz (ha)), (3, .ref fo), (4, .ref ra), (5, .ref rp), (6, .ref rq), (7, Iz (k)), (8, Iz (so))]) hx hb dX2_cosines_129 hl (by decide) rfl (fun ls hl => ?_)
          refine r_loop (P := fun N_ H locs ls => ∃ X2_131 : va_W, ∃ fc : Int → Int, ∃ i2 : Int, ∃ Lc : List Int, N_ = (20 - i2).toNat ∧ ((ra, (.inl (cx 1, 14, .inr (.inl (jm fc))) : va_E)) ∈ X2_131) ∧ ((rp, (.inl (cx 1, 14, .inr (.inl (jm f1))) : va_E)) ∈ X2_131) ∧ ((rq, (.inl (cx 1, 14, .inr (.inl (jm f2))) : va_E)) ∈ X2_131) ∧ (∀ q ∈ X, q.1 ≠ ra → q.1 ≠ rp → q.1 ≠ rq → q ∈ X2_131) ∧ (k ≤ i2) ∧ (i2 ≤ ha + 1) ∧ (rowIs fc Lc) ∧ ((if so < 0 then upL k.toNat (ha + 1 - i2).toNat i2.toNat Lc else Lc) = L2) ∧ cV dC dI cx LB (va_A (bW (cx 0) LB dd nn ss ll gg (pW cx LP pc_ pd co X)) s.heap.size) s.heap ll (pW cx LP pc_ pd co X2_131) dd nn ss ll gg H locs ∧ lv_has ls 10 [(0, .ref no), (1, Iz (da)), (2, Iz (ha)), (3, .ref fo), (4, .ref ra), (5, .ref rp), (6, .ref rq), (7, Iz (k)), (8, Iz (so)), (9, Iz (i2))]) (g := fun ls => F0 m 131 ls []) (fun N_ H locs ls hI ih_131 => ?_) _ _ _ _ ⟨X2_93, fb, k, Lb, rfl, h_ra, h_rp, h_rq, kpX, (by omega), (by omega), (rb), (by rw [eL2, e127, show (ha + 1 - k).toNat = ha.toNat + 1 - k.toNat by omega]), hV, lv_sub hl [1, 2, 3, 4, 5, 6, 7, 8, 9, 0] rfl⟩
          obtain ⟨X2_131, fc, i2, Lc, rfl, h_ra, h_rp, h_rq, kpX, j0, j1, rc, cc_, hV, hl⟩ := hI
          refine lv_iload hx hb dX2_cosines_131 (lv_at hl 9 rfl) ?_
          refine lv_iload_n hx hb dX2_cosines_133 rfl (lv_at hl 2 rfl) ?_
          refine g_icmp_gt (tgt := 164) hx hb (by first | assumption | exact ⟨by omega, by omega⟩) (by first | assumption | exact ⟨by omega, by omega⟩) dX2_cosines_134 (by decide) (fun c_134 => ?_) (fun c_134 => ?_)
          · skip
            have e164 : Lc = L2 := by
              rw [← cc_]
              by_cases w : so < 0
              · first
                | (rw [if_pos w, show (ha + 1 - i2).toNat = 0 by omega]; rfl)
                | (exfalso; omega)
              · rw [if_neg w]
            have e164b : stA da ha.toNat k.toNat La = Lc := by unfold stA; rw [eso, ← eL1, ← eL2, e164]
            refine g_iinc (k := 7) (z := k) (n := (1)) (lv' := [(7, Iz (k + 1)), (0, .ref no), (1, Iz (da)), (2, Iz (ha)), (3, .ref fo), (4, .ref ra), (5, .ref rp), (6, .ref rq), (8, Iz (so)), (9, Iz (i2))]) hx hb dX2_cosines_164 hl rfl (by decide) rfl (fun ls hl => ?_)
            refine lv_goto (tgt := 64) hx hb dX2_cosines_167 (by decide) ?_
            exact ih_64 _ (by omega) _ _ _ ⟨X2_131, fc, (k + 1), Lc, rfl, h_ra, h_rp, h_rq, kpX, (by omega), (by omega), (rc), (by rw [← ca, show (ha + 1 - k).toNat = (ha + 1 - (k + 1)).toNat + 1 by omega, ← e164b, show (k + 1).toNat = k.toNat + 1 by omega]; rfl), hV, lv_sub hl [1, 2, 3, 4, 5, 6, 7, 0] rfl⟩
          · skip
            refine lv_iload hx hb dX2_cosines_137 (lv_at hl 8 rfl) ?_
            refine g_if_ge (tgt := 164) hx hb ⟨by omega, by omega⟩ dX2_cosines_139 (by decide) (fun c_139 => ?_) (fun c_139 => ?_)
            · skip
              have e164 : Lc = L2 := by
                rw [← cc_]
                by_cases w : so < 0
                · first
                  | (rw [if_pos w, show (ha + 1 - i2).toNat = 0 by omega]; rfl)
                  | (exfalso; omega)
                · rw [if_neg w]
              have e164b : stA da ha.toNat k.toNat La = Lc := by unfold stA; rw [eso, ← eL1, ← eL2, e164]
              refine g_iinc (k := 7) (z := k) (n := (1)) (lv' := [(7, Iz (k + 1)), (0, .ref no), (1, Iz (da)), (2, Iz (ha)), (3, .ref fo), (4, .ref ra), (5, .ref rp), (6, .ref rq), (8, Iz (so)), (9, Iz (i2))]) hx hb dX2_cosines_164 hl rfl (by decide) rfl (fun ls hl => ?_)
              refine lv_goto (tgt := 64) hx hb dX2_cosines_167 (by decide) ?_
              exact ih_64 _ (by omega) _ _ _ ⟨X2_131, fc, (k + 1), Lc, rfl, h_ra, h_rp, h_rq, kpX, (by omega), (by omega), (rc), (by rw [← ca, show (ha + 1 - k).toNat = (ha + 1 - (k + 1)).toNat + 1 by omega, ← e164b, show (k + 1).toNat = k.toNat + 1 by omega]; rfl), hV, lv_sub hl [1, 2, 3, 4, 5, 6, 7, 0] rfl⟩
            · skip
              refine lv_aload hx hb dX2_cosines_142 (lv_at hl 4 rfl) ?_
              refine lv_iload hx hb dX2_cosines_144 (lv_at hl 9 rfl) ?_
              refine lv_dup2_11 hx hb dX2_cosines_146 rfl rfl ?_
              refine y_lald hx hb hK hV h_ra (z := i2) (by omega) (by omega) (by decide) dX2_cosines_147 ?_
              refine lv_aload hx hb dX2_cosines_148 (lv_at hl 4 rfl) ?_
              refine lv_iload hx hb dX2_cosines_150 (lv_at hl 9 rfl) ?_
              refine lv_iload hx hb dX2_cosines_152 (lv_at hl 7 rfl) ?_
              refine g_isub hx hb dX2_cosines_154 ?_
              refine y_lald hx hb hK hV h_ra (z := i2 - k) (by omega) (by omega) (by decide) dX2_cosines_155 ?_
              refine g_ladd hx hb dX2_cosines_156 ?_
              refine y_last3 (z := i2) (v := (fc i2) + (fc (i2 - k))) hx hb hK hV h_ra (by omega) (by omega) (by decide) dX2_cosines_157 (fun H locs X2_157 h__ kp_ hV => ?_)
              have h_rp := kp_ _ h_rp (Ne.symm nap)
              have h_rq := kp_ _ h_rq (Ne.symm naq_)
              have kpX : ∀ q ∈ X, q.1 ≠ ra → q.1 ≠ rp → q.1 ≠ rq → q ∈ X2_157 := fun q h n_ra n_rp n_rq => kp_ q (kpX q h n_ra n_rp n_rq) n_ra
              have h_ra := h__
              refine g_iinc (k := 9) (z := i2) (n := (1)) (lv' := [(9, Iz (i2 + 1)), (0, .ref no), (1, Iz (da)), (2, Iz (ha)), (3, .ref fo), (4, .ref ra), (5, .ref rp), (6, .ref rq), (7, Iz (k)), (8, Iz (so))]) hx hb dX2_cosines_158 hl rfl (by decide) rfl (fun ls hl => ?_)
              refine lv_goto (tgt := 131) hx hb dX2_cosines_161 (by decide) ?_
              exact ih_131 _ (by omega) _ _ _ ⟨X2_157, (iup fc i2 ((fc i2) + (fc (i2 - k)))), (i2 + 1), (Lc.set i2.toNat (fc i2 + fc (i2 - k))), rfl, h_ra, h_rp, h_rq, kpX, (by omega), (by omega), (rowIs_set rc (by omega) (by omega)), (by
                        rw [← cc_, if_pos (by omega), if_pos (by omega), show (ha + 1 - i2).toNat = (ha + 1 - (i2 + 1)).toNat + 1 by omega]
                        show _ = upL k.toNat (ha + 1 - (i2 + 1)).toNat (i2.toNat + 1) (Lc.set i2.toNat (lg Lc i2.toNat + lg Lc (i2.toNat - k.toNat)))
                        rw [rc.2 i2 (by omega) (by omega), rc.2 (i2 - k) (by omega) (by omega), show (i2 - k).toNat = i2.toNat - k.toNat by omega, show (i2 + 1).toNat = i2.toNat + 1 by omega]), hV, lv_sub hl [1, 2, 3, 4, 5, 6, 7, 8, 9, 0] rfl⟩
        · skip
          refine lv_iload hx hb dX2_cosines_100 (lv_at hl 8 rfl) ?_
          refine g_if_le (tgt := 127) hx hb ⟨by omega, by omega⟩ dX2_cosines_102 (by decide) (fun c_102 => ?_) (fun c_102 => ?_)
          · skip
            have e127 : Lb = L1 := by
              rw [← cb]
              by_cases w : 0 < so
              · first
                | (rw [if_pos w, show (i + 1 - k).toNat = 0 by omega]; rfl)
                | (exfalso; omega)
              · rw [if_neg w]
            refine lv_iload hx hb dX2_cosines_127 (lv_at hl 7 rfl) ?_
            refine lv_istore (lv' := [(9, Iz (k)), (0, .ref no), (1, Iz (da)), (2, Iz (ha)), (3, .ref fo), (4, .ref ra), (5, .ref rp), (6, .ref rq), (7, Iz (k)), (8, Iz (so))]) hx hb dX2_cosines_129 hl (by decide) rfl (fun ls hl => ?_)
            refine r_loop (P := fun N_ H locs ls => ∃ X2_131 : va_W, ∃ fc : Int → Int, ∃ i2 : Int, ∃ Lc : List Int, N_ = (20 - i2).toNat ∧ ((ra, (.inl (cx 1, 14, .inr (.inl (jm fc))) : va_E)) ∈ X2_131) ∧ ((rp, (.inl (cx 1, 14, .inr (.inl (jm f1))) : va_E)) ∈ X2_131) ∧ ((rq, (.inl (cx 1, 14, .inr (.inl (jm f2))) : va_E)) ∈ X2_131) ∧ (∀ q ∈ X, q.1 ≠ ra → q.1 ≠ rp → q.1 ≠ rq → q ∈ X2_131) ∧ (k ≤ i2) ∧ (i2 ≤ ha + 1) ∧ (rowIs fc Lc) ∧ ((if so < 0 then upL k.toNat (ha + 1 - i2).toNat i2.toNat Lc else Lc) = L2) ∧ cV dC dI cx LB (va_A (bW (cx 0) LB dd nn ss ll gg (pW cx LP pc_ pd co X)) s.heap.size) s.heap ll (pW cx LP pc_ pd co X2_131) dd nn ss ll gg H locs ∧ lv_has ls 10 [(0, .ref no), (1, Iz (da)), (2, Iz (ha)), (3, .ref fo), (4, .ref ra), (5, .ref rp), (6, .ref rq), (7, Iz (k)), (8, Iz (so)), (9, Iz (i2))]) (g := fun ls => F0 m 131 ls []) (fun N_ H locs ls hI ih_131 => ?_) _ _ _ _ ⟨X2_93, fb, k, Lb, rfl, h_ra, h_rp, h_rq, kpX, (by omega), (by omega), (rb), (by rw [eL2, e127, show (ha + 1 - k).toNat = ha.toNat + 1 - k.toNat by omega]), hV, lv_sub hl [1, 2, 3, 4, 5, 6, 7, 8, 9, 0] rfl⟩
            obtain ⟨X2_131, fc, i2, Lc, rfl, h_ra, h_rp, h_rq, kpX, j0, j1, rc, cc_, hV, hl⟩ := hI
            refine lv_iload hx hb dX2_cosines_131 (lv_at hl 9 rfl) ?_
            refine lv_iload_n hx hb dX2_cosines_133 rfl (lv_at hl 2 rfl) ?_
            refine g_icmp_gt (tgt := 164) hx hb (by first | assumption | exact ⟨by omega, by omega⟩) (by first | assumption | exact ⟨by omega, by omega⟩) dX2_cosines_134 (by decide) (fun c_134 => ?_) (fun c_134 => ?_)
            · skip
              have e164 : Lc = L2 := by
                rw [← cc_]
                by_cases w : so < 0
                · first
                  | (rw [if_pos w, show (ha + 1 - i2).toNat = 0 by omega]; rfl)
                  | (exfalso; omega)
                · rw [if_neg w]
              have e164b : stA da ha.toNat k.toNat La = Lc := by unfold stA; rw [eso, ← eL1, ← eL2, e164]
              refine g_iinc (k := 7) (z := k) (n := (1)) (lv' := [(7, Iz (k + 1)), (0, .ref no), (1, Iz (da)), (2, Iz (ha)), (3, .ref fo), (4, .ref ra), (5, .ref rp), (6, .ref rq), (8, Iz (so)), (9, Iz (i2))]) hx hb dX2_cosines_164 hl rfl (by decide) rfl (fun ls hl => ?_)
              refine lv_goto (tgt := 64) hx hb dX2_cosines_167 (by decide) ?_
              exact ih_64 _ (by omega) _ _ _ ⟨X2_131, fc, (k + 1), Lc, rfl, h_ra, h_rp, h_rq, kpX, (by omega), (by omega), (rc), (by rw [← ca, show (ha + 1 - k).toNat = (ha + 1 - (k + 1)).toNat + 1 by omega, ← e164b, show (k + 1).toNat = k.toNat + 1 by omega]; rfl), hV, lv_sub hl [1, 2, 3, 4, 5, 6, 7, 0] rfl⟩
            · skip
              refine lv_iload hx hb dX2_cosines_137 (lv_at hl 8 rfl) ?_
              refine g_if_ge (tgt := 164) hx hb ⟨by omega, by omega⟩ dX2_cosines_139 (by decide) (fun c_139 => ?_) (fun c_139 => ?_)
              · skip
                have e164 : Lc = L2 := by
                  rw [← cc_]
                  by_cases w : so < 0
                  · first
                    | (rw [if_pos w, show (ha + 1 - i2).toNat = 0 by omega]; rfl)
                    | (exfalso; omega)
                  · rw [if_neg w]
                have e164b : stA da ha.toNat k.toNat La = Lc := by unfold stA; rw [eso, ← eL1, ← eL2, e164]
                refine g_iinc (k := 7) (z := k) (n := (1)) (lv' := [(7, Iz (k + 1)), (0, .ref no), (1, Iz (da)), (2, Iz (ha)), (3, .ref fo), (4, .ref ra), (5, .ref rp), (6, .ref rq), (8, Iz (so)), (9, Iz (i2))]) hx hb dX2_cosines_164 hl rfl (by decide) rfl (fun ls hl => ?_)
                refine lv_goto (tgt := 64) hx hb dX2_cosines_167 (by decide) ?_
                exact ih_64 _ (by omega) _ _ _ ⟨X2_131, fc, (k + 1), Lc, rfl, h_ra, h_rp, h_rq, kpX, (by omega), (by omega), (rc), (by rw [← ca, show (ha + 1 - k).toNat = (ha + 1 - (k + 1)).toNat + 1 by omega, ← e164b, show (k + 1).toNat = k.toNat + 1 by omega]; rfl), hV, lv_sub hl [1, 2, 3, 4, 5, 6, 7, 0] rfl⟩
              · skip
                refine lv_aload hx hb dX2_cosines_142 (lv_at hl 4 rfl) ?_
                refine lv_iload hx hb dX2_cosines_144 (lv_at hl 9 rfl) ?_
                refine lv_dup2_11 hx hb dX2_cosines_146 rfl rfl ?_
                refine y_lald hx hb hK hV h_ra (z := i2) (by omega) (by omega) (by decide) dX2_cosines_147 ?_
                refine lv_aload hx hb dX2_cosines_148 (lv_at hl 4 rfl) ?_
                refine lv_iload hx hb dX2_cosines_150 (lv_at hl 9 rfl) ?_
                refine lv_iload hx hb dX2_cosines_152 (lv_at hl 7 rfl) ?_
                refine g_isub hx hb dX2_cosines_154 ?_
                refine y_lald hx hb hK hV h_ra (z := i2 - k) (by omega) (by omega) (by decide) dX2_cosines_155 ?_
                refine g_ladd hx hb dX2_cosines_156 ?_
                refine y_last3 (z := i2) (v := (fc i2) + (fc (i2 - k))) hx hb hK hV h_ra (by omega) (by omega) (by decide) dX2_cosines_157 (fun H locs X2_157 h__ kp_ hV => ?_)
                have h_rp := kp_ _ h_rp (Ne.symm nap)
                have h_rq := kp_ _ h_rq (Ne.symm naq_)
                have kpX : ∀ q ∈ X, q.1 ≠ ra → q.1 ≠ rp → q.1 ≠ rq → q ∈ X2_157 := fun q h n_ra n_rp n_rq => kp_ q (kpX q h n_ra n_rp n_rq) n_ra
                have h_ra := h__
                refine g_iinc (k := 9) (z := i2) (n := (1)) (lv' := [(9, Iz (i2 + 1)), (0, .ref no), (1, Iz (da)), (2, Iz (ha)), (3, .ref fo), (4, .ref ra), (5, .ref rp), (6, .ref rq), (7, Iz (k)), (8, Iz (so))]) hx hb dX2_cosines_158 hl rfl (by decide) rfl (fun ls hl => ?_)
                refine lv_goto (tgt := 131) hx hb dX2_cosines_161 (by decide) ?_
                exact ih_131 _ (by omega) _ _ _ ⟨X2_157, (iup fc i2 ((fc i2) + (fc (i2 - k)))), (i2 + 1), (Lc.set i2.toNat (fc i2 + fc (i2 - k))), rfl, h_ra, h_rp, h_rq, kpX, (by omega), (by omega), (rowIs_set rc (by omega) (by omega)), (by
                          rw [← cc_, if_pos (by omega), if_pos (by omega), show (ha + 1 - i2).toNat = (ha + 1 - (i2 + 1)).toNat + 1 by omega]
                          show _ = upL k.toNat (ha + 1 - (i2 + 1)).toNat (i2.toNat + 1) (Lc.set i2.toNat (lg Lc i2.toNat + lg Lc (i2.toNat - k.toNat)))
                          rw [rc.2 i2 (by omega) (by omega), rc.2 (i2 - k) (by omega) (by omega), show (i2 - k).toNat = i2.toNat - k.toNat by omega, show (i2 + 1).toNat = i2.toNat + 1 by omega]), hV, lv_sub hl [1, 2, 3, 4, 5, 6, 7, 8, 9, 0] rfl⟩
          · skip
            refine lv_aload hx hb dX2_cosines_105 (lv_at hl 4 rfl) ?_
            refine lv_iload hx hb dX2_cosines_107 (lv_at hl 9 rfl) ?_
            refine lv_dup2_11 hx hb dX2_cosines_109 rfl rfl ?_
            refine y_lald hx hb hK hV h_ra (z := i) (by omega) (by omega) (by decide) dX2_cosines_110 ?_
            refine lv_aload hx hb dX2_cosines_111 (lv_at hl 4 rfl) ?_
            refine lv_iload hx hb dX2_cosines_113 (lv_at hl 9 rfl) ?_
            refine lv_iload hx hb dX2_cosines_115 (lv_at hl 7 rfl) ?_
            refine g_isub hx hb dX2_cosines_117 ?_
            refine y_lald hx hb hK hV h_ra (z := i - k) (by omega) (by omega) (by decide) dX2_cosines_118 ?_
            refine g_lsub hx hb dX2_cosines_119 ?_
            refine y_last3 (z := i) (v := (fb i) - (fb (i - k))) hx hb hK hV h_ra (by omega) (by omega) (by decide) dX2_cosines_120 (fun H locs X2_120 h__ kp_ hV => ?_)
            have h_rp := kp_ _ h_rp (Ne.symm nap)
            have h_rq := kp_ _ h_rq (Ne.symm naq_)
            have kpX : ∀ q ∈ X, q.1 ≠ ra → q.1 ≠ rp → q.1 ≠ rq → q ∈ X2_120 := fun q h n_ra n_rp n_rq => kp_ q (kpX q h n_ra n_rp n_rq) n_ra
            have h_ra := h__
            refine g_iinc (k := 9) (z := i) (n := (-1)) (lv' := [(9, Iz (i + (-1))), (0, .ref no), (1, Iz (da)), (2, Iz (ha)), (3, .ref fo), (4, .ref ra), (5, .ref rp), (6, .ref rq), (7, Iz (k)), (8, Iz (so))]) hx hb dX2_cosines_121 hl rfl (by decide) rfl (fun ls hl => ?_)
            refine lv_goto (tgt := 93) hx hb dX2_cosines_124 (by decide) ?_
            exact ih_93 _ (by omega) _ _ _ ⟨X2_120, (iup fb i ((fb i) - (fb (i - k)))), (i + (-1)), (Lb.set i.toNat (fb i - fb (i - k))), rfl, h_ra, h_rp, h_rq, kpX, (by omega), (by omega), (rowIs_set rb (by omega) (by omega)), (by
                      rw [← cb, if_pos (by omega), if_pos (by omega), show (i + 1 - k).toNat = (i + -1 + 1 - k).toNat + 1 by omega]
                      show _ = dnL k.toNat (i + -1 + 1 - k).toNat (Lb.set (k.toNat + (i + -1 + 1 - k).toNat) (lg Lb (k.toNat + (i + -1 + 1 - k).toNat) - lg Lb (i + -1 + 1 - k).toNat))
                      rw [show k.toNat + (i + -1 + 1 - k).toNat = i.toNat by omega, rb.2 i (by omega) (by omega), rb.2 (i - k) (by omega) (by omega), show (i + -1 + 1 - k).toNat = (i - k).toNat by omega]), hV, lv_sub hl [1, 2, 3, 4, 5, 6, 7, 8, 9, 0] rfl⟩
      · skip
        refine lv_iload_n hx hb dX2_cosines_70 rfl (lv_at hl 1 rfl) ?_
        refine lv_iload hx hb dX2_cosines_71 (lv_at hl 7 rfl) ?_
        refine g_irem hx hb (by omega) (by omega) (by omega) (by omega) dX2_cosines_73 ?_
        refine g_if_ne (tgt := 87) hx hb ⟨by omega, by omega⟩ dX2_cosines_74 (by decide) (fun c_74 => ?_) (fun c_74 => ?_)
        · skip
          refine lv_iconst (v := Int32.ofInt (0)) hx hb dX2_cosines_87 (by decide) ?_
          exact k_88 _ _ _ _ _ ⟨rfl, rfl, (by first | rw [if_pos (by omega)] | rw [if_neg (by omega)]), hV⟩
        · skip
          have dk := dk_bd (d := da) (k := k) (by omega) (by omega) (by omega)
          refine lv_iload_n hx hb dX2_cosines_77 rfl (lv_at hl 1 rfl) ?_
          refine lv_iload hx hb dX2_cosines_78 (lv_at hl 7 rfl) ?_
          refine g_idiv hx hb (by omega) (by omega) (by omega) (by omega) dX2_cosines_80 ?_
          refine e_callsi (k2 := 0) (n2 := 0) (f := 0) (kl := 0) (As := [Iz (da / k)]) (rest := []) E (e0i (k2_square dk.1 (by omega))) (c_cwS 1 hts cl_X2_239 ct_X2_square cn_RX2 cc_X2_square rfl rfl (by decide +kernel) ⟨Nat.le_of_ble_eq_true rfl, Nat.le_of_ble_eq_true rfl⟩) hK hV hA hR ⟨by decide, by decide⟩ rfl hl.1 (Nat.le_of_ble_eq_true rfl) dX2_cosines_81 (fun z81 X81 dd81 nn81 ss81 ll81 gg81 H locs q81 hV hm81 => ?_)
          obtain ⟨e1_, e2_, e3_, e4_, e5_, e6_, q81⟩ := q81
          obtain rfl := e1_.symm
          obtain rfl := e2_.symm
          obtain rfl := e3_.symm
          obtain rfl := e4_.symm
          obtain rfl := e5_.symm
          obtain rfl := e6_.symm
          subst q81
          refine W.widen (k := cP LB ll - cP LB ll + 0) (n := 2 * (cP LB ll - cP LB ll) + 0) (Nat.le_refl _) (Nat.le_refl _) ?_
          refine lv_goto (tgt := 88) hx hb dX2_cosines_84 (by decide) ?_
          exact k_88 _ _ _ _ _ ⟨rfl, rfl, (by first | rw [if_pos (by omega)] | rw [if_neg (by omega)]), hV⟩
  · skip
    have ea : ha = 1 := hd3 (by omega)
    refine lv_aload_n hx hb dX2_cosines_34 rfl (lv_at hl 6 rfl) ?_
    refine lv_iconst (v := Int32.ofInt (1)) hx hb dX2_cosines_35 (by decide) ?_
    refine e_callv (k2 := 0) (n2 := 0) (f := 1) (kl := 25) (As := [Iz (1)]) (rest := []) E (e0v (k4_monomial (v := v) (p0 := fo) (k := 1) mo hO hN (by omega) (by omega))) (cwV 1 hts (cGood cl_X2_93 ci_X4_monomial cs_X4_monomial cn_RX4 cc_X4_monomial) rfl rfl rfl (by decide +kernel) ⟨Nat.le_of_ble_eq_true rfl, Nat.le_of_ble_eq_true rfl⟩) (y_recv hK hV mo) hK hV hA hR ⟨by decide, by decide⟩ rfl hl.1 (Nat.le_of_ble_eq_true rfl) dX2_cosines_36 (fun X36 dd36 nn36 ss36 ll36 gg36 H locs q36 hV hm36 => ?_)
    obtain ⟨v36, e1_, hN, cp36, cr36, cq36⟩ := q36
    obtain rfl := e1_.symm
    refine W.widen (k := cP LB ll36 - cP LB ll + 0) (n := 2 * (cP LB ll36 - cP LB ll) + 0) (Nat.le_refl _) (Nat.le_refl _) ?_
    refine lv_aload_n hx hb dX2_cosines_39 rfl (lv_at hl 6 rfl) ?_
    refine y_getc E hK hV mo cf_2_136 dX2_cosines_40 ?_
    refine lv_iconst (v := Int32.ofInt (0)) hx hb dX2_cosines_43 (by decide) ?_
    refine y_aald hx hb hK hV mo (by omega) (by omega) dX2_cosines_44 ?_
    refine r_join (P := fun z : Int => z = -1 ∨ z = 1) (g := fun z => F0 m 57 ls [Jz z, .ref (co fo 0)]) (fun uv huv => ?_) (fun k_57 => ?_)
    · skip
      refine e_callv (k2 := 0) (n2 := 0) (f := 0) (kl := 0) (As := [Jz (uv)]) (rest := []) E (e0v (k0_put (v := v36) (h0 := (co fo 0)) (x := uv) (hO.1 fo mo _ (by omega)) hN (by omega) (by omega))) (cwV 1 hts (cGood cl_X2_114 ci_X0_put cs_X0_put cn_RX0 cc_X0_put) rfl rfl rfl (by decide +kernel) ⟨Nat.le_of_ble_eq_true rfl, Nat.le_of_ble_eq_true rfl⟩) (b_recv hK hV (hO.1 fo mo _ (by omega))) hK hV hA hR ⟨by decide, by decide⟩ rfl hl.1 (Nat.le_of_ble_eq_true rfl) dX2_cosines_57 (fun X57 dd57 nn57 ss57 ll57 gg57 H locs q57 hV hm57 => ?_)
      obtain ⟨e1_, hN⟩ := q57
      obtain rfl := e1_.symm
      refine W.widen (k := cP LB ll57 - cP LB ll + 0) (n := 2 * (cP LB ll57 - cP LB ll) + 0) (Nat.le_refl _) (Nat.le_refl _) ?_
      have hpost : ∃ (v' : Nat → Int) (X2' : va_W), (pW cx LP pc_ (va_up pd fo 1) co X2_28) = pW cx LP pc_ (va_up pd fo ha) co X2' ∧ cR LB nn57 ss57 ll57 gg57 v' ∧ (∀ q ∈ X, q.1 ≠ ra → q.1 ≠ rp → q.1 ≠ rq → q ∈ X2') ∧ (3 ≤ da → ∀ k : Nat, (k : Int) ≤ ha → v' (co fo k) = cosC da ha.toNat k) ∧ (∀ b : Nat, (∀ k : Nat, k < 13 → b ≠ co fo k) → b ≠ ta → b ≠ tb → b ≠ tq → b ≠ tt → b ≠ tu → v' b = v b) := ⟨_, _, by rw [ea], hN, kpX, fun h => by omega, fun b h _ _ _ _ _ => by rw [va_up_ne _ _ (h 0 (by omega))]; exact cq36 b (fun k hk => h k (by omega))⟩
      exact e_vret hx hb hr hK hV ⟨by decide, by decide⟩ hpost dX2_cosines_60 hlocks
    · skip
      refine lv_iload_n hx hb dX2_cosines_45 rfl (lv_at hl 4 rfl) ?_
      refine lv_iconst (v := Int32.ofInt (1)) hx hb dX2_cosines_46 (by decide) ?_
      refine g_icmp_ne (tgt := 56) hx hb (by first | assumption | exact ⟨by omega, by omega⟩) (by first | assumption | exact ⟨by omega, by omega⟩) dX2_cosines_47 (by decide) (fun c_47 => ?_) (fun c_47 => ?_)
      · skip
        refine lv_lconst (v := Int64.ofInt 1) hx hb dX2_cosines_56 rfl ?_
        exact k_57 _ (by first | exact Or.inl rfl | exact Or.inr rfl)
      · skip
        refine lv_ldc2 (v := Int64.ofInt (-1)) hx hb hown (hts _ (List.mem_cons_of_mem _ cj_X2_237)) dX2_cosines_50 ?_
        refine lv_goto (tgt := 57) hx hb dX2_cosines_53 (by decide) ?_
        exact k_57 _ (by first | exact Or.inl rfl | exact Or.inr rfl)
