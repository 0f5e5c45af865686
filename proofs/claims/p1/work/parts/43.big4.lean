theorem c_cwS {R : Room} {s : State} {args : Array Value} {own : String} {index maxL mc ms : Nat} {y : MethodName} {bytes : ByteArray} {ret : Option FieldType} {rm : Room} {c0 : Cond} (n : Nat) (ht : ∀ w ∈ c0 :: w0c, w.before args s = true) (h1 : Cond.methodLink own index y ∈ w0c) (h2 : Cond.static y ∈ w0c) (h4 : Cond.initialized y.cls ∈ w0c) (h5 : Cond.code y bytes maxL ret ∈ w0c) (hrc : rm.cells = mc) (hrs : rm.slots = ms) (hd : y.cls ≠ "java/lang/invoke/MethodHandle" ∧ y.cls ≠ "java/lang/invoke/VarHandle" ∧ (parseMethodDescriptor y.desc).map (fun d => d.parameters.length) = some n) (hR : rm.frames + 1 ≤ R.frames ∧ 8 + (maxL + 11) + rm.locals ≤ R.locals) : CallB R s args own index y bytes maxL ret (Cond.code y bytes maxL ret :: w0c) rm mc ms n ∧ (Cond.static y).before args s = true := by
  have hin : ∀ w ∈ w0c, w.before args s = true := fun w h => ht w (List.mem_cons_of_mem _ h)
  refine ⟨callB_of n ht (fun w h => ?_) rfl hrc hrs (hin _ h4) (hin _ h1) hd hR, hin _ h2⟩
  have hw : w ∈ w0c := by
    rcases List.mem_cons.mp h with rfl | h
    · exact h5
    · exact h
  exact ⟨List.mem_cons_of_mem _ hw, good_of_word (List.all_eq_true.mp w0c_good w hw)⟩
theorem num1_cpf2 {n s mm : Int} {k k' : Nat} {f g : Int → Int} {V : Int} (h : num1 n s k f V) (hm : n ≤ mm) (h1 : n ≤ k') (h2 : 5 ≤ k') : num1 n s k' (cpf f g mm) V := by
  obtain ⟨a1, a2, a3, a4, a5, a6, a7⟩ := h
  refine ⟨a1, h1, h2, fun j q0 q1 => ?_, fun q => ?_, a6, ?_⟩
  · unfold cpf; rw [if_pos (by omega)]; exact a4 j q0 q1
  · unfold cpf; rw [if_pos (by omega)]; exact a5 q
  · rw [← a7]; exact kb_v_congr (fun j q0 q1 => if_pos (by omega))
theorem jn_same {A V : Int} (h : sg A = sg V) : sg A = sg (A + V) ∧ (A.natAbs : Int) + (V.natAbs : Int) = ((A + V).natAbs : Int) := by
  unfold sg at h ⊢
  split at h <;> split at h <;> (try split at h) <;> (try split at h) <;> (refine ⟨?_, by omega⟩) <;> split <;> (try split) <;> omega
theorem jn_gt {A V : Int} (h : sg A ≠ sg V) (h1 : (V.natAbs : Int) < (A.natAbs : Int)) : sg A = sg (A + V) ∧ (A.natAbs : Int) - (V.natAbs : Int) = ((A + V).natAbs : Int) := by
  have e : (0 < A ∧ V ≤ 0) ∨ (A < 0 ∧ 0 ≤ V) ∨ A = 0 := by
    unfold sg at h
    split at h <;> split at h <;> (try split at h) <;> (try split at h) <;> omega
  refine ⟨?_, by omega⟩
  unfold sg
  split <;> (try split) <;> (try split) <;> (try split) <;> omega
theorem jn_eq {A V : Int} (h : sg A ≠ sg V) (h1 : (A.natAbs : Int) = (V.natAbs : Int)) : A + V = 0 := by
  unfold sg at h
  split at h <;> split at h <;> (try split at h) <;> (try split at h) <;> omega
theorem jn_abs {fac B : Int} : (if fac < 0 then -B else B).natAbs = B.natAbs := by
  split
  · exact Int.natAbs_neg B
  · rfl
theorem sg_flip {B : Int} : -(sg B) = sg (-B) := by unfold sg; split <;> (try split) <;> (try split) <;> (try split) <;> omega
theorem cR_sign {LB : List Nat} {nn ss : Nat → Int} {ll : Nat → Nat} {gg : Nat → Int → Int} {v : Nat → Int} {h0 : Nat} {s V : Int} (h : cR LB nn ss ll gg v) (m0 : h0 ∈ LB) (e : V.natAbs = (v h0).natAbs) (hs : s = sg V) : cR LB nn (va_up ss h0 s) ll gg (va_up v h0 V) := by
  obtain ⟨a1, a2, a3, a4, a5, a6, a7⟩ := h h0 m0
  have h := cR_up (h0 := h0) h (show num1 (nn h0) s (ll h0) (gg h0) V from ⟨a1, a2, a3, a4, a5, hs, by rw [e]; exact a7⟩)
  rw [va_up_id, va_up_id, va_up_id] at h
  exact h
set_option maxHeartbeats 4000000 in
set_option maxRecDepth 100000 in
theorem k0_join {l : Launch} {dC : Nat → ClassId} {dI : Nat → Nat → Nat} {cx : Nat → Nat} {LB : List Nat} {X : va_W} {dd : Nat → Nat} {nn ss : Nat → Int} {ll : Nat → Nat} {gg : Nat → Int → Int} {H0 : Heap} {v : Nat → Int} {h0 a b : Nat} {fac : Int} (m0 : h0 ∈ LB) (hN : cR LB nn ss ll gg v) (ma : a ∈ LB) (mb : b ∈ LB) (na : h0 ≠ a) (nb : h0 ≠ b) (ka : nn a ≤ 198) (kb : nn b ≤ 198) (kf : g_i fac) : Met l yX0_join (Cond.code yX0_join cX0_join 8 none :: w0c) (cRm 2 62 LB ll) (cPc dC dI cx LB X dd nn ss ll gg H0 [.ref h0, .ref a, .ref b, Iz (fac)]) (cQv dC dI cx LB (va_A (bW (cx 0) LB dd nn ss ll gg X) H0.size) ll H0 (fun X' dd' nn' ss' ll' gg' => X' = X ∧ cR LB nn' ss' ll' gg' (va_up v h0 (v a + (if fac < 0 then -(v b) else v b))))) (cMc LB ll) (2 * cMc LB ll) (va_A (bW (cx 0) LB dd nn ss ll gg X) H0.size) := by
  refine Met.ofW (cc := cX0_join) (maxL := 8) (ret := none) (by decide) rfl ?_
  intro p e s m args below meth c s₁ B hml hv
  obtain ⟨rfl, hH0, hP, hK, hD0, hC0⟩ := hv
  have hx := B.exec
  have hb := B.bytes
  have hr := B.returns
  have hts := atoms_spec (ws := Cond.code yX0_join cX0_join 8 none :: w0c) B.pre
  have hown : s.vm.findClass RX0 = some m.cls := findClass_of_methodNamed B.named
  have hlocks := B.notSynchronized
  have E : CallFix p m c cX0_join 8 s _ (Cond.code yX0_join cX0_join 8 none :: w0c) RX0 := ⟨hx, hb, hml, hown, hts⟩
  subst hH0
  have hD := va_D.self (sz := s.heap.size) hD0
  have hA : ∀ q : Nat, s.heap.size ≤ q → va_A (bW (cx 0) LB dd nn ss ll gg X) s.heap.size q := fun q h => Or.inr h
  have hV : cV dC dI cx LB (va_A (bW (cx 0) LB dd nn ss ll gg X) s.heap.size) s.heap ll X dd nn ss ll gg s.heap [] := ⟨hP, hD, va_S.rf, fun _ _ => Nat.le_refl _, hC0⟩
  have hR : (headSpec (Cond.code yX0_join cX0_join 8 none :: w0c) (cRm 2 62 LB ll)).room.cells = cMc LB ll ∧ (headSpec (Cond.code yX0_join cX0_join 8 none :: w0c) (cRm 2 62 LB ll)).room.slots = 2 * cMc LB ll := ⟨rfl, rfl⟩
  refine W.widen (k := cP LB ll - cP LB ll) (n := 2 * (cP LB ll - cP LB ll)) (Nat.zero_le _) (Nat.zero_le _) ?_
  have hl := lv_entry ([.ref h0, .ref a, .ref b, Iz (fac)]) (n := 8) (Nat.le_of_ble_eq_true rfl)
  rw [lg_entry_eq]
  generalize (lg_sl ([.ref h0, .ref a, .ref b, Iz (fac)]) ++ List.replicate (8 - (lg_sl ([.ref h0, .ref a, .ref b, Iz (fac)])).length) Slot.unset).toArray = ls at hl ⊢
  have hl : lv_has ls 8 [(0, .ref h0), (1, .ref a), (2, .ref b), (3, Iz (fac))] := hl
  have N0 := hN h0 m0
  obtain ⟨n0_, n1_, k5_, dg_, tp_, sg_, vl_⟩ := hN h0 m0
  have c4_ := (hC0 h0 m0).2
  have sb_ := sg_bd (v h0)
  have NA := hN a ma
  obtain ⟨n0a, n1a, k5a, dga, tpa, sga, vla⟩ := hN a ma
  have c4a := (hC0 a ma).2
  have sba := sg_bd (v a)
  have NB := hN b mb
  obtain ⟨n0b, n1b, k5b, dgb, tpb, sgb, vlb⟩ := hN b mb
  have c4b := (hC0 b mb).2
  have sbb := sg_bd (v b)
  obtain ⟨Vb, hVb⟩ : ∃ Vb : Int, Vb = (if fac < 0 then -(v b) else v b) := ⟨_, rfl⟩
  have hVa : Vb.natAbs = (v b).natAbs := by rw [hVb]; exact jn_abs
  have sVb := sg_bd Vb
  refine lv_aload_n hx hb dX0_join_0 rfl (lv_at hl 1 rfl) ?_
  refine t_gets E hK hV ma rfl cf_0_17 dX0_join_1 ?_
  refine lv_istore (lv' := [(4, Iz (ss a)), (0, .ref h0), (1, .ref a), (2, .ref b), (3, Iz (fac))]) hx hb dX0_join_4 hl (by decide) rfl (fun ls hl => ?_)
  refine r_join (P := fun z : Int => z = sg Vb) (g := fun z => F0 m 22 ls [Iz z]) (fun sb hsb => ?_) (fun k_22 => ?_)
  · skip
    obtain rfl := hsb.symm
    refine lv_istore (lv' := [(5, Iz (sg Vb)), (4, Iz (ss a)), (0, .ref h0), (1, .ref a), (2, .ref b), (3, Iz (fac))]) hx hb dX0_join_22 hl (by decide) rfl (fun ls hl => ?_)
    refine lv_iload hx hb dX0_join_24 (lv_at hl 1 rfl) ?_
    refine g_if_eq (tgt := 34) hx hb ⟨by omega, by omega⟩ dX0_join_26 (by decide) (fun c_26 => ?_) (fun c_26 => ?_)
    · skip
      refine lv_aload_n hx hb dX0_join_34 rfl (lv_at hl 2 rfl) ?_
      refine lv_iload hx hb dX0_join_35 (lv_at hl 0 rfl) ?_
      refine g_if_ne (tgt := 44) hx hb (by first | assumption | exact ⟨by omega, by omega⟩) dX0_join_37 (by decide) (fun c_37 => ?_) (fun c_37 => ?_)
      · skip
        refine lv_aload_n hx hb dX0_join_44 rfl (lv_at hl 4 rfl) ?_
        refine c_callv (As := [.ref b]) (rest := []) E (k0_copy (v := v) (h0 := h0) (a := b) m0 hN mb nb (by omega)) (cwV 1 hts (cGood cl_X0_32 ci_X0_copy cs_X0_copy cn_RX0 cc_X0_copy) rfl rfl rfl (by decide +kernel) ⟨Nat.le_of_ble_eq_true rfl, Nat.le_of_ble_eq_true rfl⟩) (b_recv hK hV m0) hK hV hA hR rfl hl.1 (Nat.le_of_ble_eq_true rfl) dX0_join_45 (fun X45 dd45 nn45 ss45 ll45 gg45 H locs q45 hV hm45 => ?_)
        obtain ⟨e1_, hN⟩ := q45
        obtain rfl := e1_.symm
        refine lv_aload_n hx hb dX0_join_48 rfl (lv_at hl 2 rfl) ?_
        refine lv_iload hx hb dX0_join_49 (lv_at hl 0 rfl) ?_
        refine g_if_ne (tgt := 59) hx hb (by first | assumption | exact ⟨by omega, by omega⟩) dX0_join_51 (by decide) (fun c_51 => ?_) (fun c_51 => ?_)
        · skip
          refine lv_iload hx hb dX0_join_59 (lv_at hl 0 rfl) ?_
          refine t_puts E hK hV m0 rfl cf_0_17 dX0_join_61 (fun H locs hV => ?_)
          have hpost : X = X ∧ cR LB nn45 (va_up ss45 h0 (sg Vb)) ll45 gg45 (va_up v h0 (v a + (if fac < 0 then -(v b) else v b))) := ⟨rfl, by
                rw [← hVb]
                first
                | exact absurd c_31 c_37
                | exact absurd c_37 c_51
                | exact absurd c_51 c_37
                | (have e := sg_zero.mp c_37
                   have h := cR_sign (s := ss a) (V := v a + Vb) hN m0 (by rw [va_up_self, e, Int.add_zero]) (by rw [e, Int.add_zero]; exact sga)
                   rw [va_up_up] at h
                   exact h)
                | (have e := sg_zero.mp (sga.symm.trans c_26)
                   have h := cR_sign (s := sg Vb) (V := v a + Vb) hN m0 (by rw [va_up_self, e, Int.zero_add]; exact hVa) (by rw [e, Int.zero_add])
                   rw [va_up_up] at h
                   exact h)⟩
          exact c_vret hx hb hr hK hV hpost dX0_join_64 hlocks
        · skip
          refine lv_iload hx hb dX0_join_54 (lv_at hl 1 rfl) ?_
          refine lv_goto (tgt := 61) hx hb dX0_join_56 (by decide) ?_
          refine t_puts E hK hV m0 rfl cf_0_17 dX0_join_61 (fun H locs hV => ?_)
          have hpost : X = X ∧ cR LB nn45 (va_up ss45 h0 (ss a)) ll45 gg45 (va_up v h0 (v a + (if fac < 0 then -(v b) else v b))) := ⟨rfl, by
                rw [← hVb]
                first
                | exact absurd c_31 c_37
                | exact absurd c_37 c_51
                | exact absurd c_51 c_37
                | (have e := sg_zero.mp c_37
                   have h := cR_sign (s := ss a) (V := v a + Vb) hN m0 (by rw [va_up_self, e, Int.add_zero]) (by rw [e, Int.add_zero]; exact sga)
                   rw [va_up_up] at h
                   exact h)
                | (have e := sg_zero.mp (sga.symm.trans c_26)
                   have h := cR_sign (s := sg Vb) (V := v a + Vb) hN m0 (by rw [va_up_self, e, Int.zero_add]; exact hVa) (by rw [e, Int.zero_add])
                   rw [va_up_up] at h
                   exact h)⟩
          exact c_vret hx hb hr hK hV hpost dX0_join_64 hlocks
      · skip
        refine lv_aload_n hx hb dX0_join_40 rfl (lv_at hl 3 rfl) ?_
        refine lv_goto (tgt := 45) hx hb dX0_join_41 (by decide) ?_
        refine c_callv (As := [.ref a]) (rest := []) E (k0_copy (v := v) (h0 := h0) (a := a) m0 hN ma na (by omega)) (cwV 1 hts (cGood cl_X0_32 ci_X0_copy cs_X0_copy cn_RX0 cc_X0_copy) rfl rfl rfl (by decide +kernel) ⟨Nat.le_of_ble_eq_true rfl, Nat.le_of_ble_eq_true rfl⟩) (b_recv hK hV m0) hK hV hA hR rfl hl.1 (Nat.le_of_ble_eq_true rfl) dX0_join_45 (fun X45 dd45 nn45 ss45 ll45 gg45 H locs q45 hV hm45 => ?_)
        obtain ⟨e1_, hN⟩ := q45
        obtain rfl := e1_.symm
        refine lv_aload_n hx hb dX0_join_48 rfl (lv_at hl 2 rfl) ?_
        refine lv_iload hx hb dX0_join_49 (lv_at hl 0 rfl) ?_
        refine g_if_ne (tgt := 59) hx hb (by first | assumption | exact ⟨by omega, by omega⟩) dX0_join_51 (by decide) (fun c_51 => ?_) (fun c_51 => ?_)
        · skip
          refine lv_iload hx hb dX0_join_59 (lv_at hl 0 rfl) ?_
          refine t_puts E hK hV m0 rfl cf_0_17 dX0_join_61 (fun H locs hV => ?_)
          have hpost : X = X ∧ cR LB nn45 (va_up ss45 h0 (sg Vb)) ll45 gg45 (va_up v h0 (v a + (if fac < 0 then -(v b) else v b))) := ⟨rfl, by
                rw [← hVb]
                first
                | exact absurd c_31 c_37
                | exact absurd c_37 c_51
                | exact absurd c_51 c_37
                | (have e := sg_zero.mp c_37
                   have h := cR_sign (s := ss a) (V := v a + Vb) hN m0 (by rw [va_up_self, e, Int.add_zero]) (by rw [e, Int.add_zero]; exact sga)
                   rw [va_up_up] at h
                   exact h)
                | (have e := sg_zero.mp (sga.symm.trans c_26)
                   have h := cR_sign (s := sg Vb) (V := v a + Vb) hN m0 (by rw [va_up_self, e, Int.zero_add]; exact hVa) (by rw [e, Int.zero_add])
                   rw [va_up_up] at h
                   exact h)⟩
          exact c_vret hx hb hr hK hV hpost dX0_join_64 hlocks
        · skip
          refine lv_iload hx hb dX0_join_54 (lv_at hl 1 rfl) ?_
          refine lv_goto (tgt := 61) hx hb dX0_join_56 (by decide) ?_
          refine t_puts E hK hV m0 rfl cf_0_17 dX0_join_61 (fun H locs hV => ?_)
          have hpost : X = X ∧ cR LB nn45 (va_up ss45 h0 (ss a)) ll45 gg45 (va_up v h0 (v a + (if fac < 0 then -(v b) else v b))) := ⟨rfl, by
                rw [← hVb]
                first
                | exact absurd c_31 c_37
                | exact absurd c_37 c_51
                | exact absurd c_51 c_37
                | (have e := sg_zero.mp c_37
                   have h := cR_sign (s := ss a) (V := v a + Vb) hN m0 (by rw [va_up_self, e, Int.add_zero]) (by rw [e, Int.add_zero]; exact sga)
                   rw [va_up_up] at h
                   exact h)
                | (have e := sg_zero.mp (sga.symm.trans c_26)
                   have h := cR_sign (s := sg Vb) (V := v a + Vb) hN m0 (by rw [va_up_self, e, Int.zero_add]; exact hVa) (by rw [e, Int.zero_add])
                   rw [va_up_up] at h
                   exact h)⟩
          exact c_vret hx hb hr hK hV hpost dX0_join_64 hlocks
    · skip
      refine lv_iload hx hb dX0_join_29 (lv_at hl 0 rfl) ?_
      refine g_if_ne (tgt := 65) hx hb (by first | assumption | exact ⟨by omega, by omega⟩) dX0_join_31 (by decide) (fun c_31 => ?_) (fun c_31 => ?_)
      · skip
        refine lv_aload_n hx hb dX0_join_65 rfl (lv_at hl 3 rfl) ?_
        refine t_getn E hK hV ma rfl cf_0_13 dX0_join_66 ?_
        refine lv_aload_n hx hb dX0_join_69 rfl (lv_at hl 4 rfl) ?_
        refine t_getn E hK hV mb rfl cf_0_13 dX0_join_70 ?_
        refine g_max E hl.1 cl_X0_36 (Nat.le_of_ble_eq_true rfl) (Nat.le_of_ble_eq_true rfl) (c_room hV hR).1 (c_room hV hR).2 ⟨by omega, by omega⟩ ⟨by omega, by omega⟩ dX0_join_73 ?_
        obtain ⟨mx, emx⟩ : ∃ mx : Int, mx = (if nn a < nn b then nn b else nn a) := ⟨_, rfl⟩
        rw [← emx]
        have mx1 : (mx = nn a ∧ nn b ≤ nn a) ∨ (mx = nn b ∧ nn a ≤ nn b) := by rw [emx]; split <;> omega
        refine lv_istore (lv' := [(6, Iz (mx)), (5, Iz (sg Vb)), (4, Iz (ss a)), (0, .ref h0), (1, .ref a), (2, .ref b), (3, Iz (fac))]) hx hb dX0_join_76 hl (by decide) rfl (fun ls hl => ?_)
        refine lv_iload hx hb dX0_join_78 (lv_at hl 0 rfl) ?_
        refine lv_aload_n hx hb dX0_join_80 rfl (lv_at hl 3 rfl) ?_
        refine t_getd E hK hV m0 rfl cf_0_9 dX0_join_81 ?_
        refine t_len hx hb hK hV m0 rfl rfl dX0_join_84 ?_
        refine g_icmp_lt (tgt := 105) hx hb (by first | assumption | exact ⟨by omega, by omega⟩) (by first | assumption | exact ⟨by omega, by omega⟩) dX0_join_85 (by decide) (fun c_85 => ?_) (fun c_85 => ?_)
        · skip
          have hN2 : cR LB nn ss ll gg v := by first | exact hN | (have h := cR_up (h0 := h0) hN (num1_cpf2 (k' := (ll h0)) (g := fun _ => 0) (hN h0 m0) n1_ (by omega) (by omega)); rw [va_up_id, va_up_id, va_up_id] at h; exact h)
          refine lv_iload hx hb dX0_join_105 (lv_at hl 2 rfl) ?_
          refine lv_iload hx hb dX0_join_107 (lv_at hl 1 rfl) ?_
          refine g_icmp_ne (tgt := 127) hx hb (by first | assumption | exact ⟨by omega, by omega⟩) (by first | assumption | exact ⟨by omega, by omega⟩) dX0_join_109 (by decide) (fun c_109 => ?_) (fun c_109 => ?_)
          · skip
            refine lv_aload_n hx hb dX0_join_127 rfl (lv_at hl 4 rfl) ?_
            refine lv_aload_n hx hb dX0_join_128 rfl (lv_at hl 5 rfl) ?_
            refine c_calli (As := [.ref b]) (rest := []) E (k0_against (v := v) (h0 := a) (a := b) ma hN2 mb) (cwV 1 hts (cGood cl_X0_28 ci_X0_against cs_X0_against cn_RX0 cc_X0_against) rfl rfl rfl (by decide +kernel) ⟨Nat.le_of_ble_eq_true rfl, Nat.le_of_ble_eq_true rfl⟩) (b_recv hK hV ma) hK hV hA hR rfl hl.1 (Nat.le_of_ble_eq_true rfl) dX0_join_129 (fun z129 X129 dd129 nn129 ss129 ll129 gg129 H locs q129 hV hm129 => ?_)
            obtain ⟨e1_, e2_, e3_, e4_, e5_, e6_, q129⟩ := q129
            obtain rfl := e1_.symm
            obtain rfl := e2_.symm
            obtain rfl := e3_.symm
            obtain rfl := e4_.symm
            obtain rfl := e5_.symm
            obtain rfl := e6_.symm
            have cq1 := g_cmp_gt (x := ((v a).natAbs : Int)) (y := ((v b).natAbs : Int))
            have cq2 := g_cmp_lt (x := ((v a).natAbs : Int)) (y := ((v b).natAbs : Int))
            have cq3 := g_cmp_eq (x := ((v a).natAbs : Int)) (y := ((v b).natAbs : Int))
            rw [← q129] at cq1 cq2 cq3
            have cgi := g_cmp_i (((v a).natAbs : Nat) : Int) (((v b).natAbs : Nat) : Int)
            rw [← q129] at cgi
            refine lv_istore (lv' := [(7, Iz (z129)), (6, Iz (mx)), (5, Iz (sg Vb)), (4, Iz (ss a)), (0, .ref h0), (1, .ref a), (2, .ref b), (3, Iz (fac))]) hx hb dX0_join_132 hl (by decide) rfl (fun ls hl => ?_)
            refine lv_iload hx hb dX0_join_134 (lv_at hl 0 rfl) ?_
            refine g_if_ne (tgt := 144) hx hb (by first | assumption | exact ⟨by omega, by omega⟩) dX0_join_136 (by decide) (fun c_136 => ?_) (fun c_136 => ?_)
            · skip
              refine lv_iload hx hb dX0_join_144 (lv_at hl 0 rfl) ?_
              refine g_if_le (tgt := 158) hx hb (by first | assumption | exact ⟨by omega, by omega⟩) dX0_join_146 (by decide) (fun c_146 => ?_) (fun c_146 => ?_)
              · skip
                refine lv_aload_n hx hb dX0_join_158 rfl (lv_at hl 4 rfl) ?_
                refine lv_aload_n hx hb dX0_join_159 rfl (lv_at hl 6 rfl) ?_
                refine lv_aload_n hx hb dX0_join_160 rfl (lv_at hl 5 rfl) ?_
                refine c_callv (As := [.ref b, .ref a]) (rest := []) E (k0_lessen (v := v) (h0 := h0) (a := b) (b := a) m0 mb ma nb na (hN2 b mb) (hN2 a ma) (cq2.mp (by omega)) (by first | omega | (rw [va_up_self]; omega))) (cwV 2 hts (cGood cl_X0_55 ci_X0_lessen cs_X0_lessen cn_RX0 cc_X0_lessen) rfl rfl rfl (by decide +kernel) ⟨Nat.le_of_ble_eq_true rfl, Nat.le_of_ble_eq_true rfl⟩) (b_recv hK hV m0) hK hV hA hR rfl hl.1 (Nat.le_of_ble_eq_true rfl) dX0_join_161 (fun X161 dd161 nn161 ss161 ll161 gg161 H locs q161 hV hm161 => ?_)
                obtain ⟨e1_, e2_, e3_, e4_, f1161, n1161, e5_, e6_, w0161, w1161, wd161, wt161, wv161⟩ := q161
                obtain rfl := e1_.symm
                obtain rfl := e2_.symm
                obtain rfl := e3_.symm
                obtain rfl := e4_.symm
                obtain rfl := e5_.symm
                obtain rfl := e6_.symm
                try simp only [va_up_self] at w1161
                refine lv_aload_n hx hb dX0_join_164 rfl (lv_at hl 4 rfl) ?_
                refine lv_iload hx hb dX0_join_165 (lv_at hl 0 rfl) ?_
                refine g_if_le (tgt := 175) hx hb (by first | assumption | exact ⟨by omega, by omega⟩) dX0_join_167 (by decide) (fun c_167 => ?_) (fun c_167 => ?_)
                · skip
                  refine lv_iload hx hb dX0_join_175 (lv_at hl 2 rfl) ?_
                  refine t_puts E hK hV m0 rfl cf_0_17 dX0_join_177 (fun H locs hV => ?_)
                  have hpost : X = X ∧ cR LB (va_up nn h0 n1161) (va_up ss h0 (sg Vb)) ll (va_up gg h0 f1161) (va_up v h0 (v a + (if fac < 0 then -(v b) else v b))) := ⟨rfl, by
                        rw [← hVb]
                        have cn : sg (v a) ≠ sg Vb := fun q => c_109 (sga.trans q)
                        first
                        | exact absurd c_146 (Int.not_lt.mpr c_167)
                        | exact absurd c_167 (Int.not_lt.mpr c_146)
                        | (have jj := jn_gt cn (by rw [hVa]; exact cq1.mp c_146)
                           have h := cR_up (h0 := h0) hN (show num1 n1152 (ss a) (ll h0) f1152 (v a + Vb) from ⟨w0152, w1152, by omega, wd152, wt152, sga.trans jj.1, by rw [wv152, ← hVa]; exact jj.2⟩)
                           first
                           | exact h
                           | (rw [va_up_id] at h; exact h))
                        | (have hlt : ((v a).natAbs : Int) < ((v b).natAbs : Int) := cq2.mp (by omega)
                           have jj := jn_gt (Ne.symm cn) (by rw [hVa]; exact hlt)
                           rw [Int.add_comm Vb] at jj
                           have h := cR_up (h0 := h0) hN (show num1 n1161 (sg Vb) (ll h0) f1161 (v a + Vb) from ⟨w0161, w1161, by omega, wd161, wt161, jj.1, by rw [wv161, ← hVa]; exact jj.2⟩)
                           first
                           | exact h
                           | (rw [va_up_id] at h; exact h))⟩
                  exact c_vret hx hb hr hK hV hpost dX0_join_180 hlocks
                · skip
                  refine lv_iload hx hb dX0_join_170 (lv_at hl 3 rfl) ?_
                  refine lv_goto (tgt := 177) hx hb dX0_join_172 (by decide) ?_
                  refine t_puts E hK hV m0 rfl cf_0_17 dX0_join_177 (fun H locs hV => ?_)
                  have hpost : X = X ∧ cR LB (va_up nn h0 n1161) (va_up ss h0 (ss a)) ll (va_up gg h0 f1161) (va_up v h0 (v a + (if fac < 0 then -(v b) else v b))) := ⟨rfl, by
                        rw [← hVb]
                        have cn : sg (v a) ≠ sg Vb := fun q => c_109 (sga.trans q)
                        first
                        | exact absurd c_146 (Int.not_lt.mpr c_167)
                        | exact absurd c_167 (Int.not_lt.mpr c_146)
                        | (have jj := jn_gt cn (by rw [hVa]; exact cq1.mp c_146)
                           have h := cR_up (h0 := h0) hN (show num1 n1152 (ss a) (ll h0) f1152 (v a + Vb) from ⟨w0152, w1152, by omega, wd152, wt152, sga.trans jj.1, by rw [wv152, ← hVa]; exact jj.2⟩)
                           first
                           | exact h
                           | (rw [va_up_id] at h; exact h))
                        | (have hlt : ((v a).natAbs : Int) < ((v b).natAbs : Int) := cq2.mp (by omega)
                           have jj := jn_gt (Ne.symm cn) (by rw [hVa]; exact hlt)
                           rw [Int.add_comm Vb] at jj
                           have h := cR_up (h0 := h0) hN (show num1 n1161 (sg Vb) (ll h0) f1161 (v a + Vb) from ⟨w0161, w1161, by omega, wd161, wt161, jj.1, by rw [wv161, ← hVa]; exact jj.2⟩)
                           first
                           | exact h
                           | (rw [va_up_id] at h; exact h))⟩
                  exact c_vret hx hb hr hK hV hpost dX0_join_180 hlocks
              · skip
                refine lv_aload_n hx hb dX0_join_149 rfl (lv_at hl 4 rfl) ?_
                refine lv_aload_n hx hb dX0_join_150 rfl (lv_at hl 5 rfl) ?_
                refine lv_aload_n hx hb dX0_join_151 rfl (lv_at hl 6 rfl) ?_
                refine c_callv (As := [.ref a, .ref b]) (rest := []) E (k0_lessen (v := v) (h0 := h0) (a := a) (b := b) m0 ma mb na nb (hN2 a ma) (hN2 b mb) (cq1.mp c_146) (by first | omega | (rw [va_up_self]; omega))) (cwV 2 hts (cGood cl_X0_55 ci_X0_lessen cs_X0_lessen cn_RX0 cc_X0_lessen) rfl rfl rfl (by decide +kernel) ⟨Nat.le_of_ble_eq_true rfl, Nat.le_of_ble_eq_true rfl⟩) (b_recv hK hV m0) hK hV hA hR rfl hl.1 (Nat.le_of_ble_eq_true rfl) dX0_join_152 (fun X152 dd152 nn152 ss152 ll152 gg152 H locs q152 hV hm152 => ?_)
                obtain ⟨e1_, e2_, e3_, e4_, f1152, n1152, e5_, e6_, w0152, w1152, wd152, wt152, wv152⟩ := q152
                obtain rfl := e1_.symm
                obtain rfl := e2_.symm
                obtain rfl := e3_.symm
                obtain rfl := e4_.symm
                obtain rfl := e5_.symm
                obtain rfl := e6_.symm
                try simp only [va_up_self] at w1152
                refine lv_goto (tgt := 164) hx hb dX0_join_155 (by decide) ?_
                refine lv_aload_n hx hb dX0_join_164 rfl (lv_at hl 4 rfl) ?_
                refine lv_iload hx hb dX0_join_165 (lv_at hl 0 rfl) ?_
                refine g_if_le (tgt := 175) hx hb (by first | assumption | exact ⟨by omega, by omega⟩) dX0_join_167 (by decide) (fun c_167 => ?_) (fun c_167 => ?_)
                · skip
                  refine lv_iload hx hb dX0_join_175 (lv_at hl 2 rfl) ?_
                  refine t_puts E hK hV m0 rfl cf_0_17 dX0_join_177 (fun H locs hV => ?_)
                  have hpost : X = X ∧ cR LB (va_up nn h0 n1152) (va_up ss h0 (sg Vb)) ll (va_up gg h0 f1152) (va_up v h0 (v a + (if fac < 0 then -(v b) else v b))) := ⟨rfl, by
                        rw [← hVb]
                        have cn : sg (v a) ≠ sg Vb := fun q => c_109 (sga.trans q)
                        first
                        | exact absurd c_146 (Int.not_lt.mpr c_167)
                        | exact absurd c_167 (Int.not_lt.mpr c_146)
                        | (have jj := jn_gt cn (by rw [hVa]; exact cq1.mp c_146)
                           have h := cR_up (h0 := h0) hN (show num1 n1152 (ss a) (ll h0) f1152 (v a + Vb) from ⟨w0152, w1152, by omega, wd152, wt152, sga.trans jj.1, by rw [wv152, ← hVa]; exact jj.2⟩)
                           first
                           | exact h
                           | (rw [va_up_id] at h; exact h))
                        | (have hlt : ((v a).natAbs : Int) < ((v b).natAbs : Int) := cq2.mp (by omega)
                           have jj := jn_gt (Ne.symm cn) (by rw [hVa]; exact hlt)
                           rw [Int.add_comm Vb] at jj
                           have h := cR_up (h0 := h0) hN (show num1 n1161 (sg Vb) (ll h0) f1161 (v a + Vb) from ⟨w0161, w1161, by omega, wd161, wt161, jj.1, by rw [wv161, ← hVa]; exact jj.2⟩)
                           first
                           | exact h
                           | (rw [va_up_id] at h; exact h))⟩
                  exact c_vret hx hb hr hK hV hpost dX0_join_180 hlocks
                · skip
                  refine lv_iload hx hb dX0_join_170 (lv_at hl 3 rfl) ?_
                  refine lv_goto (tgt := 177) hx hb dX0_join_172 (by decide) ?_
                  refine t_puts E hK hV m0 rfl cf_0_17 dX0_join_177 (fun H locs hV => ?_)
                  have hpost : X = X ∧ cR LB (va_up nn h0 n1152) (va_up ss h0 (ss a)) ll (va_up gg h0 f1152) (va_up v h0 (v a + (if fac < 0 then -(v b) else v b))) := ⟨rfl, by
                        rw [← hVb]
                        have cn : sg (v a) ≠ sg Vb := fun q => c_109 (sga.trans q)
                        first
                        | exact absurd c_146 (Int.not_lt.mpr c_167)
                        | exact absurd c_167 (Int.not_lt.mpr c_146)
                        | (have jj := jn_gt cn (by rw [hVa]; exact cq1.mp c_146)
                           have h := cR_up (h0 := h0) hN (show num1 n1152 (ss a) (ll h0) f1152 (v a + Vb) from ⟨w0152, w1152, by omega, wd152, wt152, sga.trans jj.1, by rw [wv152, ← hVa]; exact jj.2⟩)
                           first
                           | exact h
                           | (rw [va_up_id] at h; exact h))
                        | (have hlt : ((v a).natAbs : Int) < ((v b).natAbs : Int) := cq2.mp (by omega)
                           have jj := jn_gt (Ne.symm cn) (by rw [hVa]; exact hlt)
                           rw [Int.add_comm Vb] at jj
                           have h := cR_up (h0 := h0) hN (show num1 n1161 (sg Vb) (ll h0) f1161 (v a + Vb) from ⟨w0161, w1161, by omega, wd161, wt161, jj.1, by rw [wv161, ← hVa]; exact jj.2⟩)
                           first
                           | exact h
                           | (rw [va_up_id] at h; exact h))⟩
                  exact c_vret hx hb hr hK hV hpost dX0_join_180 hlocks
            · skip
              refine lv_aload_n hx hb dX0_join_139 rfl (lv_at hl 4 rfl) ?_
              refine c_callv (As := []) (rest := []) E (k0_clear (v := v) (h0 := h0) m0 hN2) (cwV 0 hts (cGood cl_X0_52 ci_X0_clear cs_X0_clear cn_RX0 cc_X0_clear) rfl rfl rfl (by decide +kernel) ⟨Nat.le_of_ble_eq_true rfl, Nat.le_of_ble_eq_true rfl⟩) (b_recv hK hV m0) hK hV hA hR rfl hl.1 (Nat.le_of_ble_eq_true rfl) dX0_join_140 (fun X140 dd140 nn140 ss140 ll140 gg140 H locs q140 hV hm140 => ?_)
              obtain ⟨e1_, hN⟩ := q140
              obtain rfl := e1_.symm
              have hpost : X = X ∧ cR LB nn140 ss140 ll140 gg140 (va_up v h0 (v a + (if fac < 0 then -(v b) else v b))) := ⟨rfl, by
                    rw [← hVb]
                    have e : v a + Vb = 0 := jn_eq (fun q => c_109 (sga.trans q)) (by rw [hVa]; exact cq3.mp c_136)
                    rw [e]
                    exact hN⟩
              exact c_vret hx hb hr hK hV hpost dX0_join_143 hlocks
          · skip
            refine lv_aload_n hx hb dX0_join_112 rfl (lv_at hl 3 rfl) ?_
            refine lv_aload_n hx hb dX0_join_113 rfl (lv_at hl 4 rfl) ?_
            refine lv_aload_n hx hb dX0_join_114 rfl (lv_at hl 5 rfl) ?_
            refine lv_iload hx hb dX0_join_115 (lv_at hl 0 rfl) ?_
            refine c_callv (As := [.ref a, .ref b, Iz (mx)]) (rest := []) E (k0_gather (v := v) (h0 := h0) (a := a) (b := b) (top := mx) m0 ma mb na nb (hN2 a ma) (hN2 b mb) (by omega) (by omega) (by omega) (by first | omega | (rw [va_up_self]; omega))) (cwV 3 hts (cGood cl_X0_48 ci_X0_gather cs_X0_gather cn_RX0 cc_X0_gather) rfl rfl rfl (by decide +kernel) ⟨Nat.le_of_ble_eq_true rfl, Nat.le_of_ble_eq_true rfl⟩) (b_recv hK hV m0) hK hV hA hR rfl hl.1 (Nat.le_of_ble_eq_true rfl) dX0_join_117 (fun X117 dd117 nn117 ss117 ll117 gg117 H locs q117 hV hm117 => ?_)
            obtain ⟨e1_, e2_, e3_, e4_, f1117, n1117, e5_, e6_, w0117, w1117, wd117, wt117, wv117⟩ := q117
            obtain rfl := e1_.symm
            obtain rfl := e2_.symm
            obtain rfl := e3_.symm
            obtain rfl := e4_.symm
            obtain rfl := e5_.symm
            obtain rfl := e6_.symm
            try simp only [va_up_self] at w1117
            refine lv_aload_n hx hb dX0_join_120 rfl (lv_at hl 3 rfl) ?_
            refine lv_iload hx hb dX0_join_121 (lv_at hl 2 rfl) ?_
            refine t_puts E hK hV m0 rfl cf_0_17 dX0_join_123 (fun H locs hV => ?_)
            have hpost : X = X ∧ cR LB (va_up nn h0 n1117) (va_up ss h0 (ss a)) ll (va_up gg h0 f1117) (va_up v h0 (v a + (if fac < 0 then -(v b) else v b))) := ⟨rfl, by
                  rw [← hVb]
                  have jj := jn_same (A := v a) (V := Vb) (by rw [← sga]; exact c_109)
                  have h := cR_up (h0 := h0) hN (show num1 n1117 (ss a) (ll h0) f1117 (v a + Vb) from ⟨w0117, w1117, by omega, wd117, wt117, sga.trans jj.1, by rw [wv117, ← hVa]; exact jj.2⟩)
                  first
                  | exact h
                  | (rw [va_up_id] at h; exact h)⟩
            exact c_vret hx hb hr hK hV hpost dX0_join_126 hlocks
        · skip
          refine lv_aload_n hx hb dX0_join_88 rfl (lv_at hl 3 rfl) ?_
          refine lv_aload_n hx hb dX0_join_89 rfl (lv_at hl 3 rfl) ?_
          refine t_getd E hK hV m0 rfl cf_0_9 dX0_join_90 ?_
          refine lv_iconst (v := Int32.ofInt (2)) hx hb dX0_join_93 (by decide) ?_
          refine lv_iload hx hb dX0_join_94 (lv_at hl 0 rfl) ?_
          refine g_imul hx hb dX0_join_96 ?_
          refine lv_iconst (v := Int32.ofInt (2)) hx hb dX0_join_97 (by decide) ?_
          refine g_iadd hx hb dX0_join_98 ?_
          refine c_copyOf (rest := [.ref h0]) E (c_cwS 2 hts cl_X0_42 ct_J7_copyOf_59c91 cn_RJ7 cc_J7_copyOf_59c91 rfl rfl (by decide +kernel) ⟨Nat.le_of_ble_eq_true rfl, Nat.le_of_ble_eq_true rfl⟩) hK hV hA hR hl.1 (Nat.le_of_ble_eq_true rfl) m0 rfl rfl rfl (by omega) (by omega) dX0_join_99 (fun q99 H locs hV => ?_)
          refine t_putd E hK hV m0 rfl rfl rfl (by omega) (by omega) cf_0_9 dX0_join_102 (fun H locs hV => ?_)
          have hN2 : cR LB nn ss (va_up ll h0 (((2 * mx) + 2).toNat)) (va_up gg h0 (cpf (gg h0) (fun _ => 0) (ll h0))) v := by first | exact hN | (have h := cR_up (h0 := h0) hN (num1_cpf2 (k' := (((2 * mx) + 2).toNat)) (g := fun _ => 0) (hN h0 m0) n1_ (by omega) (by omega)); rw [va_up_id, va_up_id, va_up_id] at h; exact h)
          refine lv_iload hx hb dX0_join_105 (lv_at hl 2 rfl) ?_
          refine lv_iload hx hb dX0_join_107 (lv_at hl 1 rfl) ?_
          refine g_icmp_ne (tgt := 127) hx hb (by first | assumption | exact ⟨by omega, by omega⟩) (by first | assumption | exact ⟨by omega, by omega⟩) dX0_join_109 (by decide) (fun c_109 => ?_) (fun c_109 => ?_)
          · skip
            refine lv_aload_n hx hb dX0_join_127 rfl (lv_at hl 4 rfl) ?_
            refine lv_aload_n hx hb dX0_join_128 rfl (lv_at hl 5 rfl) ?_
            refine c_calli (As := [.ref b]) (rest := []) E (k0_against (v := v) (h0 := a) (a := b) ma hN2 mb) (cwV 1 hts (cGood cl_X0_28 ci_X0_against cs_X0_against cn_RX0 cc_X0_against) rfl rfl rfl (by decide +kernel) ⟨Nat.le_of_ble_eq_true rfl, Nat.le_of_ble_eq_true rfl⟩) (b_recv hK hV ma) hK hV hA hR rfl hl.1 (Nat.le_of_ble_eq_true rfl) dX0_join_129 (fun z129 X129 dd129 nn129 ss129 ll129 gg129 H locs q129 hV hm129 => ?_)
            obtain ⟨e1_, e2_, e3_, e4_, e5_, e6_, q129⟩ := q129
            obtain rfl := e1_.symm
            obtain rfl := e2_.symm
            obtain rfl := e3_.symm
            obtain rfl := e4_.symm
            obtain rfl := e5_.symm
            obtain rfl := e6_.symm
            have cq1 := g_cmp_gt (x := ((v a).natAbs : Int)) (y := ((v b).natAbs : Int))
            have cq2 := g_cmp_lt (x := ((v a).natAbs : Int)) (y := ((v b).natAbs : Int))
            have cq3 := g_cmp_eq (x := ((v a).natAbs : Int)) (y := ((v b).natAbs : Int))
            rw [← q129] at cq1 cq2 cq3
            have cgi := g_cmp_i (((v a).natAbs : Nat) : Int) (((v b).natAbs : Nat) : Int)
            rw [← q129] at cgi
            refine lv_istore (lv' := [(7, Iz (z129)), (6, Iz (mx)), (5, Iz (sg Vb)), (4, Iz (ss a)), (0, .ref h0), (1, .ref a), (2, .ref b), (3, Iz (fac))]) hx hb dX0_join_132 hl (by decide) rfl (fun ls hl => ?_)
            refine lv_iload hx hb dX0_join_134 (lv_at hl 0 rfl) ?_
            refine g_if_ne (tgt := 144) hx hb (by first | assumption | exact ⟨by omega, by omega⟩) dX0_join_136 (by decide) (fun c_136 => ?_) (fun c_136 => ?_)
            · skip
              refine lv_iload hx hb dX0_join_144 (lv_at hl 0 rfl) ?_
              refine g_if_le (tgt := 158) hx hb (by first | assumption | exact ⟨by omega, by omega⟩) dX0_join_146 (by decide) (fun c_146 => ?_) (fun c_146 => ?_)
              · skip
                refine lv_aload_n hx hb dX0_join_158 rfl (lv_at hl 4 rfl) ?_
                refine lv_aload_n hx hb dX0_join_159 rfl (lv_at hl 6 rfl) ?_
                refine lv_aload_n hx hb dX0_join_160 rfl (lv_at hl 5 rfl) ?_
                refine c_callv (As := [.ref b, .ref a]) (rest := []) E (k0_lessen (v := v) (h0 := h0) (a := b) (b := a) m0 mb ma nb na (hN2 b mb) (hN2 a ma) (cq2.mp (by omega)) (by first | omega | (rw [va_up_self]; omega))) (cwV 2 hts (cGood cl_X0_55 ci_X0_lessen cs_X0_lessen cn_RX0 cc_X0_lessen) rfl rfl rfl (by decide +kernel) ⟨Nat.le_of_ble_eq_true rfl, Nat.le_of_ble_eq_true rfl⟩) (b_recv hK hV m0) hK hV hA hR rfl hl.1 (Nat.le_of_ble_eq_true rfl) dX0_join_161 (fun X161 dd161 nn161 ss161 ll161 gg161 H locs q161 hV hm161 => ?_)
                obtain ⟨e1_, e2_, e3_, e4_, f1161, n1161, e5_, e6_, w0161, w1161, wd161, wt161, wv161⟩ := q161
                obtain rfl := e1_.symm
                obtain rfl := e2_.symm
                obtain rfl := e3_.symm
                obtain rfl := e4_.symm
                obtain rfl := e5_.symm
                obtain rfl := e6_.symm
                try simp only [va_up_self] at w1161
                rw [va_up_up] at hV
                refine lv_aload_n hx hb dX0_join_164 rfl (lv_at hl 4 rfl) ?_
                refine lv_iload hx hb dX0_join_165 (lv_at hl 0 rfl) ?_
                refine g_if_le (tgt := 175) hx hb (by first | assumption | exact ⟨by omega, by omega⟩) dX0_join_167 (by decide) (fun c_167 => ?_) (fun c_167 => ?_)
                · skip
                  refine lv_iload hx hb dX0_join_175 (lv_at hl 2 rfl) ?_
                  refine t_puts E hK hV m0 rfl cf_0_17 dX0_join_177 (fun H locs hV => ?_)
                  have hpost : X = X ∧ cR LB (va_up nn h0 n1161) (va_up ss h0 (sg Vb)) (va_up ll h0 (((2 * mx) + 2).toNat)) (va_up gg h0 f1161) (va_up v h0 (v a + (if fac < 0 then -(v b) else v b))) := ⟨rfl, by
                        rw [← hVb]
                        have cn : sg (v a) ≠ sg Vb := fun q => c_109 (sga.trans q)
                        first
                        | exact absurd c_146 (Int.not_lt.mpr c_167)
                        | exact absurd c_167 (Int.not_lt.mpr c_146)
                        | (have jj := jn_gt cn (by rw [hVa]; exact cq1.mp c_146)
                           have h := cR_up (h0 := h0) hN (show num1 n1152 (ss a) (((2 * mx) + 2).toNat) f1152 (v a + Vb) from ⟨w0152, w1152, by omega, wd152, wt152, sga.trans jj.1, by rw [wv152, ← hVa]; exact jj.2⟩)
                           first
                           | exact h
                           | (rw [va_up_id] at h; exact h))
                        | (have hlt : ((v a).natAbs : Int) < ((v b).natAbs : Int) := cq2.mp (by omega)
                           have jj := jn_gt (Ne.symm cn) (by rw [hVa]; exact hlt)
                           rw [Int.add_comm Vb] at jj
                           have h := cR_up (h0 := h0) hN (show num1 n1161 (sg Vb) (((2 * mx) + 2).toNat) f1161 (v a + Vb) from ⟨w0161, w1161, by omega, wd161, wt161, jj.1, by rw [wv161, ← hVa]; exact jj.2⟩)
                           first
                           | exact h
                           | (rw [va_up_id] at h; exact h))⟩
                  exact c_vret hx hb hr hK hV hpost dX0_join_180 hlocks
                · skip
                  refine lv_iload hx hb dX0_join_170 (lv_at hl 3 rfl) ?_
                  refine lv_goto (tgt := 177) hx hb dX0_join_172 (by decide) ?_
                  refine t_puts E hK hV m0 rfl cf_0_17 dX0_join_177 (fun H locs hV => ?_)
                  have hpost : X = X ∧ cR LB (va_up nn h0 n1161) (va_up ss h0 (ss a)) (va_up ll h0 (((2 * mx) + 2).toNat)) (va_up gg h0 f1161) (va_up v h0 (v a + (if fac < 0 then -(v b) else v b))) := ⟨rfl, by
                        rw [← hVb]
                        have cn : sg (v a) ≠ sg Vb := fun q => c_109 (sga.trans q)
                        first
                        | exact absurd c_146 (Int.not_lt.mpr c_167)
                        | exact absurd c_167 (Int.not_lt.mpr c_146)
                        | (have jj := jn_gt cn (by rw [hVa]; exact cq1.mp c_146)
                           have h := cR_up (h0 := h0) hN (show num1 n1152 (ss a) (((2 * mx) + 2).toNat) f1152 (v a + Vb) from ⟨w0152, w1152, by omega, wd152, wt152, sga.trans jj.1, by rw [wv152, ← hVa]; exact jj.2⟩)
                           first
                           | exact h
                           | (rw [va_up_id] at h; exact h))
                        | (have hlt : ((v a).natAbs : Int) < ((v b).natAbs : Int) := cq2.mp (by omega)
                           have jj := jn_gt (Ne.symm cn) (by rw [hVa]; exact hlt)
                           rw [Int.add_comm Vb] at jj
                           have h := cR_up (h0 := h0) hN (show num1 n1161 (sg Vb) (((2 * mx) + 2).toNat) f1161 (v a + Vb) from ⟨w0161, w1161, by omega, wd161, wt161, jj.1, by rw [wv161, ← hVa]; exact jj.2⟩)
                           first
                           | exact h
                           | (rw [va_up_id] at h; exact h))⟩
                  exact c_vret hx hb hr hK hV hpost dX0_join_180 hlocks
              · skip
                refine lv_aload_n hx hb dX0_join_149 rfl (lv_at hl 4 rfl) ?_
                refine lv_aload_n hx hb dX0_join_150 rfl (lv_at hl 5 rfl) ?_
                refine lv_aload_n hx hb dX0_join_151 rfl (lv_at hl 6 rfl) ?_
                refine c_callv (As := [.ref a, .ref b]) (rest := []) E (k0_lessen (v := v) (h0 := h0) (a := a) (b := b) m0 ma mb na nb (hN2 a ma) (hN2 b mb) (cq1.mp c_146) (by first | omega | (rw [va_up_self]; omega))) (cwV 2 hts (cGood cl_X0_55 ci_X0_lessen cs_X0_lessen cn_RX0 cc_X0_lessen) rfl rfl rfl (by decide +kernel) ⟨Nat.le_of_ble_eq_true rfl, Nat.le_of_ble_eq_true rfl⟩) (b_recv hK hV m0) hK hV hA hR rfl hl.1 (Nat.le_of_ble_eq_true rfl) dX0_join_152 (fun X152 dd152 nn152 ss152 ll152 gg152 H locs q152 hV hm152 => ?_)
                obtain ⟨e1_, e2_, e3_, e4_, f1152, n1152, e5_, e6_, w0152, w1152, wd152, wt152, wv152⟩ := q152
                obtain rfl := e1_.symm
                obtain rfl := e2_.symm
                obtain rfl := e3_.symm
                obtain rfl := e4_.symm
                obtain rfl := e5_.symm
                obtain rfl := e6_.symm
                try simp only [va_up_self] at w1152
                rw [va_up_up] at hV
                refine lv_goto (tgt := 164) hx hb dX0_join_155 (by decide) ?_
                refine lv_aload_n hx hb dX0_join_164 rfl (lv_at hl 4 rfl) ?_
                refine lv_iload hx hb dX0_join_165 (lv_at hl 0 rfl) ?_
                refine g_if_le (tgt := 175) hx hb (by first | assumption | exact ⟨by omega, by omega⟩) dX0_join_167 (by decide) (fun c_167 => ?_) (fun c_167 => ?_)
                · skip
                  refine lv_iload hx hb dX0_join_175 (lv_at hl 2 rfl) ?_
                  refine t_puts E hK hV m0 rfl cf_0_17 dX0_join_177 (fun H locs hV => ?_)
                  have hpost : X = X ∧ cR LB (va_up nn h0 n1152) (va_up ss h0 (sg Vb)) (va_up ll h0 (((2 * mx) + 2).toNat)) (va_up gg h0 f1152) (va_up v h0 (v a + (if fac < 0 then -(v b) else v b))) := ⟨rfl, by
                        rw [← hVb]
                        have cn : sg (v a) ≠ sg Vb := fun q => c_109 (sga.trans q)
                        first
                        | exact absurd c_146 (Int.not_lt.mpr c_167)
                        | exact absurd c_167 (Int.not_lt.mpr c_146)
                        | (have jj := jn_gt cn (by rw [hVa]; exact cq1.mp c_146)
                           have h := cR_up (h0 := h0) hN (show num1 n1152 (ss a) (((2 * mx) + 2).toNat) f1152 (v a + Vb) from ⟨w0152, w1152, by omega, wd152, wt152, sga.trans jj.1, by rw [wv152, ← hVa]; exact jj.2⟩)
                           first
                           | exact h
                           | (rw [va_up_id] at h; exact h))
                        | (have hlt : ((v a).natAbs : Int) < ((v b).natAbs : Int) := cq2.mp (by omega)
                           have jj := jn_gt (Ne.symm cn) (by rw [hVa]; exact hlt)
                           rw [Int.add_comm Vb] at jj
                           have h := cR_up (h0 := h0) hN (show num1 n1161 (sg Vb) (((2 * mx) + 2).toNat) f1161 (v a + Vb) from ⟨w0161, w1161, by omega, wd161, wt161, jj.1, by rw [wv161, ← hVa]; exact jj.2⟩)
                           first
                           | exact h
                           | (rw [va_up_id] at h; exact h))⟩
                  exact c_vret hx hb hr hK hV hpost dX0_join_180 hlocks
                · skip
                  refine lv_iload hx hb dX0_join_170 (lv_at hl 3 rfl) ?_
                  refine lv_goto (tgt := 177) hx hb dX0_join_172 (by decide) ?_
                  refine t_puts E hK hV m0 rfl cf_0_17 dX0_join_177 (fun H locs hV => ?_)
                  have hpost : X = X ∧ cR LB (va_up nn h0 n1152) (va_up ss h0 (ss a)) (va_up ll h0 (((2 * mx) + 2).toNat)) (va_up gg h0 f1152) (va_up v h0 (v a + (if fac < 0 then -(v b) else v b))) := ⟨rfl, by
                        rw [← hVb]
                        have cn : sg (v a) ≠ sg Vb := fun q => c_109 (sga.trans q)
                        first
                        | exact absurd c_146 (Int.not_lt.mpr c_167)
                        | exact absurd c_167 (Int.not_lt.mpr c_146)
                        | (have jj := jn_gt cn (by rw [hVa]; exact cq1.mp c_146)
                           have h := cR_up (h0 := h0) hN (show num1 n1152 (ss a) (((2 * mx) + 2).toNat) f1152 (v a + Vb) from ⟨w0152, w1152, by omega, wd152, wt152, sga.trans jj.1, by rw [wv152, ← hVa]; exact jj.2⟩)
                           first
                           | exact h
                           | (rw [va_up_id] at h; exact h))
                        | (have hlt : ((v a).natAbs : Int) < ((v b).natAbs : Int) := cq2.mp (by omega)
                           have jj := jn_gt (Ne.symm cn) (by rw [hVa]; exact hlt)
                           rw [Int.add_comm Vb] at jj
                           have h := cR_up (h0 := h0) hN (show num1 n1161 (sg Vb) (((2 * mx) + 2).toNat) f1161 (v a + Vb) from ⟨w0161, w1161, by omega, wd161, wt161, jj.1, by rw [wv161, ← hVa]; exact jj.2⟩)
                           first
                           | exact h
                           | (rw [va_up_id] at h; exact h))⟩
                  exact c_vret hx hb hr hK hV hpost dX0_join_180 hlocks
            · skip
              refine lv_aload_n hx hb dX0_join_139 rfl (lv_at hl 4 rfl) ?_
              refine c_callv (As := []) (rest := []) E (k0_clear (v := v) (h0 := h0) m0 hN2) (cwV 0 hts (cGood cl_X0_52 ci_X0_clear cs_X0_clear cn_RX0 cc_X0_clear) rfl rfl rfl (by decide +kernel) ⟨Nat.le_of_ble_eq_true rfl, Nat.le_of_ble_eq_true rfl⟩) (b_recv hK hV m0) hK hV hA hR rfl hl.1 (Nat.le_of_ble_eq_true rfl) dX0_join_140 (fun X140 dd140 nn140 ss140 ll140 gg140 H locs q140 hV hm140 => ?_)
              obtain ⟨e1_, hN⟩ := q140
              obtain rfl := e1_.symm
              have hpost : X = X ∧ cR LB nn140 ss140 ll140 gg140 (va_up v h0 (v a + (if fac < 0 then -(v b) else v b))) := ⟨rfl, by
                    rw [← hVb]
                    have e : v a + Vb = 0 := jn_eq (fun q => c_109 (sga.trans q)) (by rw [hVa]; exact cq3.mp c_136)
                    rw [e]
                    exact hN⟩
              exact c_vret hx hb hr hK hV hpost dX0_join_143 hlocks
          · skip
            refine lv_aload_n hx hb dX0_join_112 rfl (lv_at hl 3 rfl) ?_
            refine lv_aload_n hx hb dX0_join_113 rfl (lv_at hl 4 rfl) ?_
            refine lv_aload_n hx hb dX0_join_114 rfl (lv_at hl 5 rfl) ?_
            refine lv_iload hx hb dX0_join_115 (lv_at hl 0 rfl) ?_
            refine c_callv (As := [.ref a, .ref b, Iz (mx)]) (rest := []) E (k0_gather (v := v) (h0 := h0) (a := a) (b := b) (top := mx) m0 ma mb na nb (hN2 a ma) (hN2 b mb) (by omega) (by omega) (by omega) (by first | omega | (rw [va_up_self]; omega))) (cwV 3 hts (cGood cl_X0_48 ci_X0_gather cs_X0_gather cn_RX0 cc_X0_gather) rfl rfl rfl (by decide +kernel) ⟨Nat.le_of_ble_eq_true rfl, Nat.le_of_ble_eq_true rfl⟩) (b_recv hK hV m0) hK hV hA hR rfl hl.1 (Nat.le_of_ble_eq_true rfl) dX0_join_117 (fun X117 dd117 nn117 ss117 ll117 gg117 H locs q117 hV hm117 => ?_)
            obtain ⟨e1_, e2_, e3_, e4_, f1117, n1117, e5_, e6_, w0117, w1117, wd117, wt117, wv117⟩ := q117
            obtain rfl := e1_.symm
            obtain rfl := e2_.symm
            obtain rfl := e3_.symm
            obtain rfl := e4_.symm
            obtain rfl := e5_.symm
            obtain rfl := e6_.symm
            try simp only [va_up_self] at w1117
            rw [va_up_up] at hV
            refine lv_aload_n hx hb dX0_join_120 rfl (lv_at hl 3 rfl) ?_
            refine lv_iload hx hb dX0_join_121 (lv_at hl 2 rfl) ?_
            refine t_puts E hK hV m0 rfl cf_0_17 dX0_join_123 (fun H locs hV => ?_)
            have hpost : X = X ∧ cR LB (va_up nn h0 n1117) (va_up ss h0 (ss a)) (va_up ll h0 (((2 * mx) + 2).toNat)) (va_up gg h0 f1117) (va_up v h0 (v a + (if fac < 0 then -(v b) else v b))) := ⟨rfl, by
                  rw [← hVb]
                  have jj := jn_same (A := v a) (V := Vb) (by rw [← sga]; exact c_109)
                  have h := cR_up (h0 := h0) hN (show num1 n1117 (ss a) (((2 * mx) + 2).toNat) f1117 (v a + Vb) from ⟨w0117, w1117, by omega, wd117, wt117, sga.trans jj.1, by rw [wv117, ← hVa]; exact jj.2⟩)
                  first
                  | exact h
                  | (rw [va_up_id] at h; exact h)⟩
            exact c_vret hx hb hr hK hV hpost dX0_join_126 hlocks
      · skip
        refine lv_aload_n hx hb dX0_join_34 rfl (lv_at hl 2 rfl) ?_
        refine lv_iload hx hb dX0_join_35 (lv_at hl 0 rfl) ?_
        refine g_if_ne (tgt := 44) hx hb (by first | assumption | exact ⟨by omega, by omega⟩) dX0_join_37 (by decide) (fun c_37 => ?_) (fun c_37 => ?_)
        · skip
          refine lv_aload_n hx hb dX0_join_44 rfl (lv_at hl 4 rfl) ?_
          refine c_callv (As := [.ref b]) (rest := []) E (k0_copy (v := v) (h0 := h0) (a := b) m0 hN mb nb (by omega)) (cwV 1 hts (cGood cl_X0_32 ci_X0_copy cs_X0_copy cn_RX0 cc_X0_copy) rfl rfl rfl (by decide +kernel) ⟨Nat.le_of_ble_eq_true rfl, Nat.le_of_ble_eq_true rfl⟩) (b_recv hK hV m0) hK hV hA hR rfl hl.1 (Nat.le_of_ble_eq_true rfl) dX0_join_45 (fun X45 dd45 nn45 ss45 ll45 gg45 H locs q45 hV hm45 => ?_)
          obtain ⟨e1_, hN⟩ := q45
          obtain rfl := e1_.symm
          refine lv_aload_n hx hb dX0_join_48 rfl (lv_at hl 2 rfl) ?_
          refine lv_iload hx hb dX0_join_49 (lv_at hl 0 rfl) ?_
          refine g_if_ne (tgt := 59) hx hb (by first | assumption | exact ⟨by omega, by omega⟩) dX0_join_51 (by decide) (fun c_51 => ?_) (fun c_51 => ?_)
          · skip
            refine lv_iload hx hb dX0_join_59 (lv_at hl 0 rfl) ?_
            refine t_puts E hK hV m0 rfl cf_0_17 dX0_join_61 (fun H locs hV => ?_)
            have hpost : X = X ∧ cR LB nn45 (va_up ss45 h0 (sg Vb)) ll45 gg45 (va_up v h0 (v a + (if fac < 0 then -(v b) else v b))) := ⟨rfl, by
                  rw [← hVb]
                  first
                  | exact absurd c_31 c_37
                  | exact absurd c_37 c_51
                  | exact absurd c_51 c_37
                  | (have e := sg_zero.mp c_37
                     have h := cR_sign (s := ss a) (V := v a + Vb) hN m0 (by rw [va_up_self, e, Int.add_zero]) (by rw [e, Int.add_zero]; exact sga)
                     rw [va_up_up] at h
                     exact h)
                  | (have e := sg_zero.mp (sga.symm.trans c_26)
                     have h := cR_sign (s := sg Vb) (V := v a + Vb) hN m0 (by rw [va_up_self, e, Int.zero_add]; exact hVa) (by rw [e, Int.zero_add])
                     rw [va_up_up] at h
                     exact h)⟩
            exact c_vret hx hb hr hK hV hpost dX0_join_64 hlocks
          · skip
            refine lv_iload hx hb dX0_join_54 (lv_at hl 1 rfl) ?_
            refine lv_goto (tgt := 61) hx hb dX0_join_56 (by decide) ?_
            refine t_puts E hK hV m0 rfl cf_0_17 dX0_join_61 (fun H locs hV => ?_)
            have hpost : X = X ∧ cR LB nn45 (va_up ss45 h0 (ss a)) ll45 gg45 (va_up v h0 (v a + (if fac < 0 then -(v b) else v b))) := ⟨rfl, by
                  rw [← hVb]
                  first
                  | exact absurd c_31 c_37
                  | exact absurd c_37 c_51
                  | exact absurd c_51 c_37
                  | (have e := sg_zero.mp c_37
                     have h := cR_sign (s := ss a) (V := v a + Vb) hN m0 (by rw [va_up_self, e, Int.add_zero]) (by rw [e, Int.add_zero]; exact sga)
                     rw [va_up_up] at h
                     exact h)
                  | (have e := sg_zero.mp (sga.symm.trans c_26)
                     have h := cR_sign (s := sg Vb) (V := v a + Vb) hN m0 (by rw [va_up_self, e, Int.zero_add]; exact hVa) (by rw [e, Int.zero_add])
                     rw [va_up_up] at h
                     exact h)⟩
            exact c_vret hx hb hr hK hV hpost dX0_join_64 hlocks
        · skip
          refine lv_aload_n hx hb dX0_join_40 rfl (lv_at hl 3 rfl) ?_
          refine lv_goto (tgt := 45) hx hb dX0_join_41 (by decide) ?_
          refine c_callv (As := [.ref a]) (rest := []) E (k0_copy (v := v) (h0 := h0) (a := a) m0 hN ma na (by omega)) (cwV 1 hts (cGood cl_X0_32 ci_X0_copy cs_X0_copy cn_RX0 cc_X0_copy) rfl rfl rfl (by decide +kernel) ⟨Nat.le_of_ble_eq_true rfl, Nat.le_of_ble_eq_true rfl⟩) (b_recv hK hV m0) hK hV hA hR rfl hl.1 (Nat.le_of_ble_eq_true rfl) dX0_join_45 (fun X45 dd45 nn45 ss45 ll45 gg45 H locs q45 hV hm45 => ?_)
          obtain ⟨e1_, hN⟩ := q45
          obtain rfl := e1_.symm
          refine lv_aload_n hx hb dX0_join_48 rfl (lv_at hl 2 rfl) ?_
          refine lv_iload hx hb dX0_join_49 (lv_at hl 0 rfl) ?_
          refine g_if_ne (tgt := 59) hx hb (by first | assumption | exact ⟨by omega, by omega⟩) dX0_join_51 (by decide) (fun c_51 => ?_) (fun c_51 => ?_)
          · skip
            refine lv_iload hx hb dX0_join_59 (lv_at hl 0 rfl) ?_
            refine t_puts E hK hV m0 rfl cf_0_17 dX0_join_61 (fun H locs hV => ?_)
            have hpost : X = X ∧ cR LB nn45 (va_up ss45 h0 (sg Vb)) ll45 gg45 (va_up v h0 (v a + (if fac < 0 then -(v b) else v b))) := ⟨rfl, by
                  rw [← hVb]
                  first
                  | exact absurd c_31 c_37
                  | exact absurd c_37 c_51
                  | exact absurd c_51 c_37
                  | (have e := sg_zero.mp c_37
                     have h := cR_sign (s := ss a) (V := v a + Vb) hN m0 (by rw [va_up_self, e, Int.add_zero]) (by rw [e, Int.add_zero]; exact sga)
                     rw [va_up_up] at h
                     exact h)
                  | (have e := sg_zero.mp (sga.symm.trans c_26)
                     have h := cR_sign (s := sg Vb) (V := v a + Vb) hN m0 (by rw [va_up_self, e, Int.zero_add]; exact hVa) (by rw [e, Int.zero_add])
                     rw [va_up_up] at h
                     exact h)⟩
            exact c_vret hx hb hr hK hV hpost dX0_join_64 hlocks
          · skip
            refine lv_iload hx hb dX0_join_54 (lv_at hl 1 rfl) ?_
            refine lv_goto (tgt := 61) hx hb dX0_join_56 (by decide) ?_
            refine t_puts E hK hV m0 rfl cf_0_17 dX0_join_61 (fun H locs hV => ?_)
            have hpost : X = X ∧ cR LB nn45 (va_up ss45 h0 (ss a)) ll45 gg45 (va_up v h0 (v a + (if fac < 0 then -(v b) else v b))) := ⟨rfl, by
                  rw [← hVb]
                  first
                  | exact absurd c_31 c_37
                  | exact absurd c_37 c_51
                  | exact absurd c_51 c_37
                  | (have e := sg_zero.mp c_37
                     have h := cR_sign (s := ss a) (V := v a + Vb) hN m0 (by rw [va_up_self, e, Int.add_zero]) (by rw [e, Int.add_zero]; exact sga)
                     rw [va_up_up] at h
                     exact h)
                  | (have e := sg_zero.mp (sga.symm.trans c_26)
                     have h := cR_sign (s := sg Vb) (V := v a + Vb) hN m0 (by rw [va_up_self, e, Int.zero_add]; exact hVa) (by rw [e, Int.zero_add])
                     rw [va_up_up] at h
                     exact h)⟩
            exact c_vret hx hb hr hK hV hpost dX0_join_64 hlocks
  · skip
    refine lv_iload_n hx hb dX0_join_6 rfl (lv_at hl 4 rfl) ?_
    refine g_if_ge (tgt := 18) hx hb kf dX0_join_7 (by decide) (fun c_7 => ?_) (fun c_7 => ?_)
    · skip
      refine lv_aload_n hx hb dX0_join_18 rfl (lv_at hl 3 rfl) ?_
      refine t_gets E hK hV mb rfl cf_0_17 dX0_join_19 ?_
      exact k_22 _ (by rw [hVb]; first | (rw [if_pos (by omega), sgb]; exact sg_flip) | (rw [if_neg (by omega)]; exact sgb))
    · skip
      refine lv_aload_n hx hb dX0_join_10 rfl (lv_at hl 3 rfl) ?_
      refine t_gets E hK hV mb rfl cf_0_17 dX0_join_11 ?_
      refine g_ineg hx hb dX0_join_14 ?_
      refine lv_goto (tgt := 22) hx hb dX0_join_15 (by decide) ?_
      exact k_22 _ (by rw [hVb]; first | (rw [if_pos (by omega), sgb]; exact sg_flip) | (rw [if_neg (by omega)]; exact sgb))
