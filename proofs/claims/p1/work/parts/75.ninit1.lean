theorem gW_p2 {cx : Nat → Nat} {Qs : List nQt} {Ps : List (Nat × Nat)} {X : va_W} {q : nQt} (h : q ∈ Qs) {b : Nat} (e : q.1 = b) : (b, (.inr (4, [.ref q.2.1, Iz (-1)]) : va_E)) ∈ gW cx Qs Ps X := by
  subst e
  exact gW_p h
set_option maxHeartbeats 4000000 in
set_option maxRecDepth 100000 in
theorem n0_init {l : Launch} {dC : Nat → ClassId} {dI : Nat → Nat → Nat} {cx : Nat → Nat} {H0 : Heap} {h0 : Nat}   : Met l yX0_init (Cond.code yX0_init cX0_init 1 none :: w0c) (nRm 1 20 1 5) (nPc dC dI cx h0 (.inr (0, [.null, Iz 0, Iz 0])) H0 []) (nQv dC dI cx h0 (.inr (0, [.null, Iz 0, Iz 0])) H0 (fun Qs Ps X => ∃ r : Nat, Qs = [] ∧ Ps = [(h0, r)] ∧ X = [])) 1 5 (va_A [(h0, (.inr (0, [.null, Iz 0, Iz 0])))] H0.size) := by
  refine Met.ofW (cc := cX0_init) (maxL := 1) (ret := none) (by decide) rfl ?_
  intro p e s m args below meth c s₁ B hml hv
  obtain ⟨rfl, hH0, hP, hK, hC⟩ := hv
  have hx := B.exec
  have hb := B.bytes
  have hr := B.returns
  have hin : meth.name = "<init>" := (name_of_methodNamed B.named B.method).1
  have hts := atoms_spec (ws := Cond.code yX0_init cX0_init 1 none :: w0c) B.pre
  have hown : s.vm.findClass RX0 = some m.cls := findClass_of_methodNamed B.named
  have hlocks := B.notSynchronized
  have E : CallFix p m c cX0_init 1 s _ (Cond.code yX0_init cX0_init 1 none :: w0c) RX0 := ⟨hx, hb, hml, hown, hts⟩
  subst hH0
  have hA : ∀ q : Nat, s.heap.size ≤ q → va_A [(h0, (.inr (0, [.null, Iz 0, Iz 0])))] s.heap.size q := fun q h => Or.inr h
  have hV : nV dC dI cx (va_A [(h0, (.inr (0, [.null, Iz 0, Iz 0])))] s.heap.size) s.heap [] [] [(h0, (.inr (0, [.null, Iz 0, Iz 0])))] s.heap [] := n_start hP
  have hl := lv_entry ([.ref h0]) (n := 1) (Nat.le_of_ble_eq_true rfl)
  rw [lg_entry_eq]
  generalize (lg_sl ([.ref h0]) ++ List.replicate (1 - (lg_sl ([.ref h0])).length) Slot.unset).toArray = ls at hl ⊢
  have hl : lv_has ls 1 [(0, .ref h0)] := hl
  refine lv_aload_n hx hb dX0_init_0 rfl (lv_at hl 0 rfl) ?_
  refine W.objInit hx hb hown (hts _ (List.mem_cons_of_mem _ cl_X0_3)) (hts _ (List.mem_cons_of_mem _ ci_objectInit)) (hts _ (List.mem_cons_of_mem _ cc_objectInit)) rfl (by rw [hml]; exact hl.1) rfl dX0_init_1 (Nat.le_of_ble_eq_true rfl) (Nat.le_of_ble_eq_true rfl) ?_
  refine lv_aload_n hx hb dX0_init_4 rfl (lv_at hl 0 rfl) ?_
  refine lv_iconst (v := Int32.ofInt (5)) hx hb dX0_init_5 (by decide) ?_
  refine n_newi E hK hV hA (by omega) (by omega) (by show 0 + 1 ≤ 1; omega) (by show 0 + 5 ≤ 5; omega) dX0_init_6 (fun q6 H hV => ?_)
  replace hV := (show nV dC dI cx (va_A [(h0, (.inr (0, [.null, Iz 0, Iz 0])))] s.heap.size) s.heap ([]) ([]) [(h0, .inr (0, [.null, Iz 0, Iz 0])), (q6, .inl (cx 0, 5, .inl (im (fun _ => 0))))] H [] from hV)
  refine W.widen (k := 1) (n := 5) (by omega) (by omega) ?_
  refine n_put E hK hV (ci := 0) (C := RX0) (T := TX0) (N := 3) (ty := tyX0) rfl w0c_in0 tyX0_ok nmX0 0 rfl 0 (by decide) cf_0_9 rfl rfl (v := .ref q6) rfl rfl (Nat.le_of_ble_eq_true rfl) dX0_init_8 (fun H locs hV => ?_)
  replace hV := (show nV dC dI cx (va_A [(h0, (.inr (0, [.null, Iz 0, Iz 0])))] s.heap.size) s.heap ([]) ([]) [(h0, .inr (0, [.ref q6, Iz 0, Iz 0])), (q6, .inl (cx 0, 5, .inl (im (fun _ => 0))))] H locs from hV)
  replace hV := (show nV dC dI cx (va_A [(h0, (.inr (0, [.null, Iz 0, Iz 0])))] s.heap.size) s.heap [] [(h0, q6)] [] H locs from hV)
  refine W.widen (k := 1) (n := 5) (by omega) (by omega) ?_
  exact n_ret hx hb hr hK hV (⟨_, rfl, rfl, rfl⟩) dX0_init_11 hlocks
set_option maxHeartbeats 4000000 in
set_option maxRecDepth 100000 in
theorem n4_init {l : Launch} {dC : Nat → ClassId} {dI : Nat → Nat → Nat} {cx : Nat → Nat} {H0 : Heap} {h0 : Nat}   : Met l yX4_init (Cond.code yX4_init cX4_init 2 none :: w0c) (nRm 2 60 70 200) (nPc dC dI cx h0 (.inr (4, [.null, Iz 0])) H0 []) (nQv dC dI cx h0 (.inr (4, [.null, Iz 0])) H0 (fun Qs Ps X => ∃ q : nQt, q.1 = h0 ∧ Qs = [q] ∧ Ps = [] ∧ X = [])) 70 200 (va_A [(h0, (.inr (4, [.null, Iz 0])))] H0.size) := by
  refine Met.ofW (cc := cX4_init) (maxL := 2) (ret := none) (by decide) rfl ?_
  intro p e s m args below meth c s₁ B hml hv
  obtain ⟨rfl, hH0, hP, hK, hC⟩ := hv
  have hx := B.exec
  have hb := B.bytes
  have hr := B.returns
  have hin : meth.name = "<init>" := (name_of_methodNamed B.named B.method).1
  have hts := atoms_spec (ws := Cond.code yX4_init cX4_init 2 none :: w0c) B.pre
  have hown : s.vm.findClass RX4 = some m.cls := findClass_of_methodNamed B.named
  have hlocks := B.notSynchronized
  have E : CallFix p m c cX4_init 2 s _ (Cond.code yX4_init cX4_init 2 none :: w0c) RX4 := ⟨hx, hb, hml, hown, hts⟩
  subst hH0
  have hA : ∀ q : Nat, s.heap.size ≤ q → va_A [(h0, (.inr (4, [.null, Iz 0])))] s.heap.size q := fun q h => Or.inr h
  have hV : nV dC dI cx (va_A [(h0, (.inr (4, [.null, Iz 0])))] s.heap.size) s.heap [] [] [(h0, (.inr (4, [.null, Iz 0])))] s.heap [] := n_start hP
  have hl := lv_entry ([.ref h0]) (n := 2) (Nat.le_of_ble_eq_true rfl)
  rw [lg_entry_eq]
  generalize (lg_sl ([.ref h0]) ++ List.replicate (2 - (lg_sl ([.ref h0])).length) Slot.unset).toArray = ls at hl ⊢
  have hl : lv_has ls 2 [(0, .ref h0)] := hl
  refine lv_aload_n hx hb dX4_init_0 rfl (lv_at hl 0 rfl) ?_
  refine W.objInit hx hb hown (hts _ (List.mem_cons_of_mem _ cl_X4_1)) (hts _ (List.mem_cons_of_mem _ ci_objectInit)) (hts _ (List.mem_cons_of_mem _ cc_objectInit)) rfl (by rw [hml]; exact hl.1) rfl dX4_init_1 (Nat.le_of_ble_eq_true rfl) (Nat.le_of_ble_eq_true rfl) ?_
  refine lv_aload_n hx hb dX4_init_4 rfl (lv_at hl 0 rfl) ?_
  refine lv_bipush (v := Int32.ofInt (13)) hx hb dX4_init_5 (by decide) ?_
  refine n_newq E hK hV hA (by omega) (by omega) (C := RX0) (t0 := 2) (cA0 := cx 2) rfl ca_X4_9 hC.2.1 (by show 0 + 1 ≤ 70; omega) (by show 0 + 13 ≤ 200; omega) dX4_init_7 (fun q7 H hV => ?_)
  replace hV := (show nV dC dI cx (va_A [(h0, (.inr (4, [.null, Iz 0])))] s.heap.size) s.heap ([]) ([]) [(h0, .inr (4, [.null, Iz 0])), (q7, .inl (cx 2, 13, .inr (.inr (.inr (.inr (fun _ => none))))))] H [] from hV)
  refine W.widen (k := 1) (n := 13) (by omega) (by omega) ?_
  refine n_putF E hK hV hin (ci := 4) (C := RX4) (T := TX4) (N := 2) (ty := tyX4) rfl w0c_in4 tyX4_ok nmX4 0 rfl 0 (by decide) cf_4_11 rfl rfl rfl (v := .ref q7) rfl rfl (Nat.le_of_ble_eq_true rfl) dX4_init_10 (fun H locs hV => ?_)
  replace hV := (show nV dC dI cx (va_A [(h0, (.inr (4, [.null, Iz 0])))] s.heap.size) s.heap ([]) ([]) [(h0, .inr (4, [.ref q7, Iz 0])), (q7, .inl (cx 2, 13, .inr (.inr (.inr (.inr (fun _ => none))))))] H locs from hV)
  refine lv_aload_n hx hb dX4_init_13 rfl (lv_at hl 0 rfl) ?_
  refine lv_iconst (v := Int32.ofInt (-1)) hx hb dX4_init_14 (by decide) ?_
  refine n_put E hK hV (ci := 4) (C := RX4) (T := TX4) (N := 2) (ty := tyX4) rfl w0c_in4 tyX4_ok nmX4 0 rfl 1 (by decide) cf_4_15 rfl rfl (v := Iz ((-1))) rfl rfl (Nat.le_of_ble_eq_true rfl) dX4_init_15 (fun H locs hV => ?_)
  replace hV := (show nV dC dI cx (va_A [(h0, (.inr (4, [.null, Iz 0])))] s.heap.size) s.heap ([]) ([]) [(h0, .inr (4, [.ref q7, Iz ((-1))])), (q7, .inl (cx 2, 13, .inr (.inr (.inr (.inr (fun _ => none))))))] H locs from hV)
  refine lv_iconst (v := Int32.ofInt (0)) hx hb dX4_init_18 (by decide) ?_
  refine lv_istore_n (lv' := [(1, Iz (0)), (0, .ref h0)]) hx hb dX4_init_19 rfl hl (by decide) rfl (fun ls hl => ?_)
  replace hV := (show nV dC dI cx (va_A [(h0, (.inr (4, [.null, Iz 0])))] s.heap.size) s.heap [] (nPr (0, 0, (fun _ => 0), (fun _ => 0)) (0 : Int).toNat) [(h0, .inr (4, [.ref q7, Iz ((-1))])), (q7, .inl (cx 2, 13, .inr (.inr (.inr (.inr (fun _ => none))))))] H locs from hV)
  refine r_loop2 (P := fun N_ ce sl H locs ls => ∃ co : Nat → Nat, ∃ dd : Nat → Nat, ∃ f : Nat → Option Nat, ∃ i : Int, N_ = (14 - i).toNat ∧ ce = 1 + 2 * i.toNat ∧ sl = 13 + 8 * i.toNat ∧ (0 ≤ i) ∧ (i ≤ 13) ∧ (∀ j : Nat, (j : Int) < i → f j = some (co j)) ∧ nV dC dI cx (va_A [(h0, (.inr (4, [.null, Iz 0])))] s.heap.size) s.heap ([]) (nPr (0, 0, co, dd) i.toNat) [(h0, .inr (4, [.ref q7, Iz ((-1))])), (q7, .inl (cx 2, 13, .inr (.inr (.inr (.inr f)))))] H locs ∧ lv_has ls 2 [(0, .ref h0), (1, Iz (i))]) (g := fun ls => F0 m 20 ls []) (fun N_ ce sl H locs ls hI ih_20 => ?_) _ _ _ _ _ _ ⟨(fun _ => 0), (fun _ => 0), (fun _ => none), 0, rfl, (by omega), (by omega), by omega, by omega, fun j hj => by omega, hV, lv_sub hl [1, 0] rfl⟩
  obtain ⟨co, dd, f, i, rfl, rfl, rfl, i0, i1, hf, hV, hl⟩ := hI
  refine W.widen (k := 2 * i.toNat + 1) (n := 8 * i.toNat + 13) (by omega) (by omega) ?_
  refine lv_iload_n hx hb dX4_init_20 rfl (lv_at hl 1 rfl) ?_
  refine lv_bipush (v := Int32.ofInt (12)) hx hb dX4_init_21 (by decide) ?_
  refine g_icmp_gt (tgt := 45) hx hb ⟨by omega, by omega⟩ ⟨by omega, by omega⟩ dX4_init_23 (by decide) (fun c_23 => ?_) (fun c_23 => ?_)
  · skip
    obtain rfl : i = 13 := by omega
    replace hV := n_poly (co := co) (dd := dd) (f := f) hV (fun j hj => hf j (by omega))
    refine W.widen (k := 70) (n := 200) (by omega) (by omega) ?_
    exact n_ret hx hb hr hK hV (⟨_, rfl, rfl, rfl, rfl⟩) dX4_init_45 hlocks
  · skip
    refine lv_aload_n hx hb dX4_init_26 rfl (lv_at hl 0 rfl) ?_
    refine n_get E hK hV (ci := 4) (C := RX4) (T := TX4) (N := 2) rfl w0c_in4 0 rfl 0 (by decide) rfl cf_4_11 rfl dX4_init_27 ?_
    refine lv_iload_n hx hb dX4_init_30 rfl (lv_at hl 1 rfl) ?_
    refine n_new E hK hV hA (ci := 0) (C := RX0) (T := TX0) (N := 3) (ty := tyX0) rfl w0c_in0 tyX0_ok ca_X4_9 cw_X0 cn_RX0 (fs := [.null, Iz 0, Iz 0]) bl_ok0 (by show 2 * i.toNat + 1 + 1 ≤ 70; omega) (by show 8 * i.toNat + 13 + 3 ≤ 200; omega) dX4_init_31 (fun q31 H hV => ?_)
    replace hV := (show nV dC dI cx (va_A [(h0, (.inr (4, [.null, Iz 0])))] s.heap.size) s.heap ([]) (nPr (0, 0, co, dd) i.toNat) [(h0, .inr (4, [.ref q7, Iz ((-1))])), (q7, .inl (cx 2, 13, .inr (.inr (.inr (.inr f))))), (q31, .inr (0, [.null, Iz 0, Iz 0]))] H locs from hV)
    refine W.widen (k := 2 * i.toNat + 2) (n := 8 * i.toNat + 16) (by omega) (by omega) ?_
    refine lv_dup hx hb dX4_init_34 rfl ?_
    refine n_callN (As := []) (rest := [.ref q31, Iz (i), .ref q7]) (X := [(h0, .inr (4, [.ref q7, Iz ((-1))])), (q7, .inl (cx 2, 13, .inr (.inr (.inr (.inr f)))))]) (q := q31) E (n0_init ) (n_cwN 0 hts hC (by decide +kernel) ci_X0_init cn_RX0 cc_X0_init rfl rfl rfl (by decide +kernel) ⟨Nat.le_of_ble_eq_true rfl, Nat.le_of_ble_eq_true rfl⟩) hK hC hV hA rfl hl.1 (Nat.le_of_ble_eq_true rfl) dX4_init_35 ⟨by show 2 * i.toNat + 2 + 1 ≤ 70; omega, by show 8 * i.toNat + 16 + 5 ≤ 200; omega⟩ (fun Q35 P35 X35 H locs p35 hV => ?_)
    obtain ⟨r35, rfl, rfl, rfl⟩ := p35
    simp only [List.append_nil, List.nil_append, List.cons_append] at hV
    replace hV := (show nV dC dI cx (va_A [(h0, (.inr (4, [.null, Iz 0])))] s.heap.size) s.heap ([]) (nPr (0, 0, co, dd) i.toNat ++ [(q31, r35)]) [(h0, .inr (4, [.ref q7, Iz ((-1))])), (q7, .inl (cx 2, 13, .inr (.inr (.inr (.inr f)))))] H locs from hV)
    refine W.widen (k := 2 * i.toNat + 3) (n := 8 * i.toNat + 21) (by omega) (by omega) ?_
    refine n_astq hx hb hK hV 1 (t0 := 2) (ci := 0) rfl rfl (gW_b (q := (q31, r35)) (by simp)) rfl (by omega) (by omega) (by decide) dX4_init_38 (fun H locs hV => ?_)
    replace hV := (show nV dC dI cx (va_A [(h0, (.inr (4, [.null, Iz 0])))] s.heap.size) s.heap ([]) (nPr (0, 0, co, dd) i.toNat ++ [(q31, r35)]) [(h0, .inr (4, [.ref q7, Iz ((-1))])), (q7, .inl (cx 2, 13, .inr (.inr (.inr (.inr (va_up f i.toNat (some q31)))))))] H locs from hV)
    refine g_iinc (k := 1) (z := i) (n := (1)) (lv' := [(1, Iz (i + 1)), (0, .ref h0)]) hx hb dX4_init_39 hl rfl (by decide) rfl (fun ls hl => ?_)
    refine lv_goto (tgt := 20) hx hb dX4_init_42 (by decide) ?_
    rw [← nPr_up, show i.toNat + 1 = (i + 1).toNat by omega] at hV
    exact ih_20 _ (by omega) _ _ _ _ _ ⟨(va_up co i.toNat q31), (va_up dd i.toNat r35), (va_up f i.toNat (some q31)), (i + 1), rfl, (by omega), (by omega), by omega, by omega, fun j hj => by
              by_cases w : j = i.toNat
              · rw [w, va_up_self, va_up_self]
              · rw [va_up_ne _ _ w, va_up_ne _ _ w]; exact hf j (by omega), hV, lv_sub hl [1, 0] rfl⟩
set_option maxHeartbeats 4000000 in
set_option maxRecDepth 100000 in
theorem n5_init {l : Launch} {dC : Nat → ClassId} {dI : Nat → Nat → Nat} {cx : Nat → Nat} {H0 : Heap} {h0 : Nat}   : Met l yX5_init (Cond.code yX5_init cX5_init 1 none :: w0c) (nRm 3 100 90 300) (nPc dC dI cx h0 (.inr (5, [.null, .null, .null, Iz 0, Iz 0, Iz 0, Iz 0])) H0 []) (nQv dC dI cx h0 (.inr (5, [.null, .null, .null, Iz 0, Iz 0, Iz 0, Iz 0])) H0 (fun Qs Ps X => ∃ (q : nQt) (b1 b2 : Nat × Nat), Qs = [q] ∧ Ps = [b1, b2] ∧ X = [(h0, .inr (5, [.ref q.1, .ref b1.1, .ref b2.1, Iz 0, Iz 0, Iz 0, Iz 0]))])) 90 300 (va_A [(h0, (.inr (5, [.null, .null, .null, Iz 0, Iz 0, Iz 0, Iz 0])))] H0.size) := by
  refine Met.ofW (cc := cX5_init) (maxL := 1) (ret := none) (by decide) rfl ?_
  intro p e s m args below meth c s₁ B hml hv
  obtain ⟨rfl, hH0, hP, hK, hC⟩ := hv
  have hx := B.exec
  have hb := B.bytes
  have hr := B.returns
  have hin : meth.name = "<init>" := (name_of_methodNamed B.named B.method).1
  have hts := atoms_spec (ws := Cond.code yX5_init cX5_init 1 none :: w0c) B.pre
  have hown : s.vm.findClass RX5 = some m.cls := findClass_of_methodNamed B.named
  have hlocks := B.notSynchronized
  have E : CallFix p m c cX5_init 1 s _ (Cond.code yX5_init cX5_init 1 none :: w0c) RX5 := ⟨hx, hb, hml, hown, hts⟩
  subst hH0
  have hA : ∀ q : Nat, s.heap.size ≤ q → va_A [(h0, (.inr (5, [.null, .null, .null, Iz 0, Iz 0, Iz 0, Iz 0])))] s.heap.size q := fun q h => Or.inr h
  have hV : nV dC dI cx (va_A [(h0, (.inr (5, [.null, .null, .null, Iz 0, Iz 0, Iz 0, Iz 0])))] s.heap.size) s.heap [] [] [(h0, (.inr (5, [.null, .null, .null, Iz 0, Iz 0, Iz 0, Iz 0])))] s.heap [] := n_start hP
  have hl := lv_entry ([.ref h0]) (n := 1) (Nat.le_of_ble_eq_true rfl)
  rw [lg_entry_eq]
  generalize (lg_sl ([.ref h0]) ++ List.replicate (1 - (lg_sl ([.ref h0])).length) Slot.unset).toArray = ls at hl ⊢
  have hl : lv_has ls 1 [(0, .ref h0)] := hl
  refine lv_aload_n hx hb dX5_init_0 rfl (lv_at hl 0 rfl) ?_
  refine W.objInit hx hb hown (hts _ (List.mem_cons_of_mem _ cl_X5_1)) (hts _ (List.mem_cons_of_mem _ ci_objectInit)) (hts _ (List.mem_cons_of_mem _ cc_objectInit)) rfl (by rw [hml]; exact hl.1) rfl dX5_init_1 (Nat.le_of_ble_eq_true rfl) (Nat.le_of_ble_eq_true rfl) ?_
  refine lv_aload_n hx hb dX5_init_4 rfl (lv_at hl 0 rfl) ?_
  refine n_new E hK hV hA (ci := 4) (C := RX4) (T := TX4) (N := 2) (ty := tyX4) rfl w0c_in4 tyX4_ok ca_X5_7 cw_X4 cn_RX4 (fs := [.null, Iz 0]) bl_ok4 (by show 0 + 1 ≤ 90; omega) (by show 0 + 2 ≤ 300; omega) dX5_init_5 (fun q5 H hV => ?_)
  replace hV := (show nV dC dI cx (va_A [(h0, (.inr (5, [.null, .null, .null, Iz 0, Iz 0, Iz 0, Iz 0])))] s.heap.size) s.heap ([]) ([]) [(h0, .inr (5, [.null, .null, .null, Iz 0, Iz 0, Iz 0, Iz 0])), (q5, .inr (4, [.null, Iz 0]))] H [] from hV)
  refine W.widen (k := 1) (n := 2) (by omega) (by omega) ?_
  refine lv_dup hx hb dX5_init_8 rfl ?_
  refine n_callI (As := []) (rest := [.ref q5, .ref h0]) (X := [(h0, .inr (5, [.null, .null, .null, Iz 0, Iz 0, Iz 0, Iz 0]))]) (q := q5) E (n4_init ) (n_cwI 0 hts cl_X5_9 ci_X4_init cn_RX4 cc_X4_init rfl rfl rfl (by decide +kernel) ⟨Nat.le_of_ble_eq_true rfl, Nat.le_of_ble_eq_true rfl⟩) hK hC hV hA rfl hl.1 (Nat.le_of_ble_eq_true rfl) dX5_init_9 ⟨by show 1 + 70 ≤ 90; omega, by show 2 + 200 ≤ 300; omega⟩ (fun Q9 P9 X9 H locs p9 hV => ?_)
  obtain ⟨k9, ek9, rfl, rfl, rfl⟩ := p9
  simp only [List.append_nil, List.nil_append, List.cons_append] at hV
  replace hV := (show nV dC dI cx (va_A [(h0, (.inr (5, [.null, .null, .null, Iz 0, Iz 0, Iz 0, Iz 0])))] s.heap.size) s.heap ([k9]) ([]) [(h0, .inr (5, [.null, .null, .null, Iz 0, Iz 0, Iz 0, Iz 0]))] H locs from hV)
  refine W.widen (k := 71) (n := 202) (by omega) (by omega) ?_
  refine n_putF E hK hV hin (ci := 5) (C := RX5) (T := TX5) (N := 7) (ty := tyX5) rfl w0c_in5 tyX5_ok nmX5 0 rfl 0 (by decide) cf_5_10 rfl rfl rfl (v := .ref q5) rfl rfl (Nat.le_of_ble_eq_true rfl) dX5_init_12 (fun H locs hV => ?_)
  replace hV := (show nV dC dI cx (va_A [(h0, (.inr (5, [.null, .null, .null, Iz 0, Iz 0, Iz 0, Iz 0])))] s.heap.size) s.heap ([k9]) ([]) [(h0, .inr (5, [.ref q5, .null, .null, Iz 0, Iz 0, Iz 0, Iz 0]))] H locs from hV)
  refine lv_aload_n hx hb dX5_init_15 rfl (lv_at hl 0 rfl) ?_
  refine n_new E hK hV hA (ci := 0) (C := RX0) (T := TX0) (N := 3) (ty := tyX0) rfl w0c_in0 tyX0_ok ca_X5_16 cw_X0 cn_RX0 (fs := [.null, Iz 0, Iz 0]) bl_ok0 (by show 71 + 1 ≤ 90; omega) (by show 202 + 3 ≤ 300; omega) dX5_init_16 (fun q16 H hV => ?_)
  replace hV := (show nV dC dI cx (va_A [(h0, (.inr (5, [.null, .null, .null, Iz 0, Iz 0, Iz 0, Iz 0])))] s.heap.size) s.heap ([k9]) ([]) [(h0, .inr (5, [.ref q5, .null, .null, Iz 0, Iz 0, Iz 0, Iz 0])), (q16, .inr (0, [.null, Iz 0, Iz 0]))] H locs from hV)
  refine W.widen (k := 72) (n := 205) (by omega) (by omega) ?_
  refine lv_dup hx hb dX5_init_19 rfl ?_
  refine n_callN (As := []) (rest := [.ref q16, .ref h0]) (X := [(h0, .inr (5, [.ref q5, .null, .null, Iz 0, Iz 0, Iz 0, Iz 0]))]) (q := q16) E (n0_init ) (n_cwN 0 hts hC (by decide +kernel) ci_X0_init cn_RX0 cc_X0_init rfl rfl rfl (by decide +kernel) ⟨Nat.le_of_ble_eq_true rfl, Nat.le_of_ble_eq_true rfl⟩) hK hC hV hA rfl hl.1 (Nat.le_of_ble_eq_true rfl) dX5_init_20 ⟨by show 72 + 1 ≤ 90; omega, by show 205 + 5 ≤ 300; omega⟩ (fun Q20 P20 X20 H locs p20 hV => ?_)
  obtain ⟨r20, rfl, rfl, rfl⟩ := p20
  simp only [List.append_nil, List.nil_append, List.cons_append] at hV
  replace hV := (show nV dC dI cx (va_A [(h0, (.inr (5, [.null, .null, .null, Iz 0, Iz 0, Iz 0, Iz 0])))] s.heap.size) s.heap ([k9]) ([(q16, r20)]) [(h0, .inr (5, [.ref q5, .null, .null, Iz 0, Iz 0, Iz 0, Iz 0]))] H locs from hV)
  refine W.widen (k := 73) (n := 210) (by omega) (by omega) ?_
  refine n_putF E hK hV hin (ci := 5) (C := RX5) (T := TX5) (N := 7) (ty := tyX5) rfl w0c_in5 tyX5_ok nmX5 0 rfl 1 (by decide) cf_5_19 rfl rfl rfl (v := .ref q16) rfl rfl (Nat.le_of_ble_eq_true rfl) dX5_init_23 (fun H locs hV => ?_)
  replace hV := (show nV dC dI cx (va_A [(h0, (.inr (5, [.null, .null, .null, Iz 0, Iz 0, Iz 0, Iz 0])))] s.heap.size) s.heap ([k9]) ([(q16, r20)]) [(h0, .inr (5, [.ref q5, .ref q16, .null, Iz 0, Iz 0, Iz 0, Iz 0]))] H locs from hV)
  refine lv_aload_n hx hb dX5_init_26 rfl (lv_at hl 0 rfl) ?_
  refine n_new E hK hV hA (ci := 0) (C := RX0) (T := TX0) (N := 3) (ty := tyX0) rfl w0c_in0 tyX0_ok ca_X5_16 cw_X0 cn_RX0 (fs := [.null, Iz 0, Iz 0]) bl_ok0 (by show 73 + 1 ≤ 90; omega) (by show 210 + 3 ≤ 300; omega) dX5_init_27 (fun q27 H hV => ?_)
  replace hV := (show nV dC dI cx (va_A [(h0, (.inr (5, [.null, .null, .null, Iz 0, Iz 0, Iz 0, Iz 0])))] s.heap.size) s.heap ([k9]) ([(q16, r20)]) [(h0, .inr (5, [.ref q5, .ref q16, .null, Iz 0, Iz 0, Iz 0, Iz 0])), (q27, .inr (0, [.null, Iz 0, Iz 0]))] H locs from hV)
  refine W.widen (k := 74) (n := 213) (by omega) (by omega) ?_
  refine lv_dup hx hb dX5_init_30 rfl ?_
  refine n_callN (As := []) (rest := [.ref q27, .ref h0]) (X := [(h0, .inr (5, [.ref q5, .ref q16, .null, Iz 0, Iz 0, Iz 0, Iz 0]))]) (q := q27) E (n0_init ) (n_cwN 0 hts hC (by decide +kernel) ci_X0_init cn_RX0 cc_X0_init rfl rfl rfl (by decide +kernel) ⟨Nat.le_of_ble_eq_true rfl, Nat.le_of_ble_eq_true rfl⟩) hK hC hV hA rfl hl.1 (Nat.le_of_ble_eq_true rfl) dX5_init_31 ⟨by show 74 + 1 ≤ 90; omega, by show 213 + 5 ≤ 300; omega⟩ (fun Q31 P31 X31 H locs p31 hV => ?_)
  obtain ⟨r31, rfl, rfl, rfl⟩ := p31
  simp only [List.append_nil, List.nil_append, List.cons_append] at hV
  replace hV := (show nV dC dI cx (va_A [(h0, (.inr (5, [.null, .null, .null, Iz 0, Iz 0, Iz 0, Iz 0])))] s.heap.size) s.heap ([k9]) ([(q16, r20)] ++ [(q27, r31)]) [(h0, .inr (5, [.ref q5, .ref q16, .null, Iz 0, Iz 0, Iz 0, Iz 0]))] H locs from hV)
  refine W.widen (k := 75) (n := 218) (by omega) (by omega) ?_
  refine n_putF E hK hV hin (ci := 5) (C := RX5) (T := TX5) (N := 7) (ty := tyX5) rfl w0c_in5 tyX5_ok nmX5 0 rfl 2 (by decide) cf_5_23 rfl rfl rfl (v := .ref q27) rfl rfl (Nat.le_of_ble_eq_true rfl) dX5_init_34 (fun H locs hV => ?_)
  replace hV := (show nV dC dI cx (va_A [(h0, (.inr (5, [.null, .null, .null, Iz 0, Iz 0, Iz 0, Iz 0])))] s.heap.size) s.heap ([k9]) ([(q16, r20)] ++ [(q27, r31)]) [(h0, .inr (5, [.ref q5, .ref q16, .ref q27, Iz 0, Iz 0, Iz 0, Iz 0]))] H locs from hV)
  refine W.widen (k := 90) (n := 300) (by omega) (by omega) ?_
  exact n_ret hx hb hr hK hV (⟨k9, (q16, r20), (q27, r31), rfl, rfl, by rw [ek9]⟩) dX5_init_37 hlocks
set_option maxHeartbeats 4000000 in
set_option maxRecDepth 100000 in
theorem n6_init {l : Launch} {dC : Nat → ClassId} {dI : Nat → Nat → Nat} {cx : Nat → Nat} {H0 : Heap} {h0 : Nat}   : Met l yX6_init (Cond.code yX6_init cX6_init 1 none :: w0c) (nRm 1 20 2 30) (nPc dC dI cx h0 (.inr (6, [.null, Iz 0])) H0 []) (nQv dC dI cx h0 (.inr (6, [.null, Iz 0])) H0 (fun Qs Ps X => ∃ fs : List Value, Qs = [] ∧ Ps = [] ∧ X = [(h0, .inr (6, fs))])) 2 30 (va_A [(h0, (.inr (6, [.null, Iz 0])))] H0.size) := by
  refine Met.ofW (cc := cX6_init) (maxL := 1) (ret := none) (by decide) rfl ?_
  intro p e s m args below meth c s₁ B hml hv
  obtain ⟨rfl, hH0, hP, hK, hC⟩ := hv
  have hx := B.exec
  have hb := B.bytes
  have hr := B.returns
  have hin : meth.name = "<init>" := (name_of_methodNamed B.named B.method).1
  have hts := atoms_spec (ws := Cond.code yX6_init cX6_init 1 none :: w0c) B.pre
  have hown : s.vm.findClass RX6 = some m.cls := findClass_of_methodNamed B.named
  have hlocks := B.notSynchronized
  have E : CallFix p m c cX6_init 1 s _ (Cond.code yX6_init cX6_init 1 none :: w0c) RX6 := ⟨hx, hb, hml, hown, hts⟩
  subst hH0
  have hA : ∀ q : Nat, s.heap.size ≤ q → va_A [(h0, (.inr (6, [.null, Iz 0])))] s.heap.size q := fun q h => Or.inr h
  have hV : nV dC dI cx (va_A [(h0, (.inr (6, [.null, Iz 0])))] s.heap.size) s.heap [] [] [(h0, (.inr (6, [.null, Iz 0])))] s.heap [] := n_start hP
  have hl := lv_entry ([.ref h0]) (n := 1) (Nat.le_of_ble_eq_true rfl)
  rw [lg_entry_eq]
  generalize (lg_sl ([.ref h0]) ++ List.replicate (1 - (lg_sl ([.ref h0])).length) Slot.unset).toArray = ls at hl ⊢
  have hl : lv_has ls 1 [(0, .ref h0)] := hl
  refine lv_aload_n hx hb dX6_init_0 rfl (lv_at hl 0 rfl) ?_
  refine W.objInit hx hb hown (hts _ (List.mem_cons_of_mem _ cl_X6_1)) (hts _ (List.mem_cons_of_mem _ ci_objectInit)) (hts _ (List.mem_cons_of_mem _ cc_objectInit)) rfl (by rw [hml]; exact hl.1) rfl dX6_init_1 (Nat.le_of_ble_eq_true rfl) (Nat.le_of_ble_eq_true rfl) ?_
  refine lv_aload_n hx hb dX6_init_4 rfl (lv_at hl 0 rfl) ?_
  refine lv_bipush (v := Int32.ofInt (28)) hx hb dX6_init_5 (by decide) ?_
  refine n_newl E hK hV hA (by omega) (by omega) (by show 0 + 1 ≤ 2; omega) (by show 0 + 28 ≤ 30; omega) dX6_init_7 (fun q7 H hV => ?_)
  replace hV := (show nV dC dI cx (va_A [(h0, (.inr (6, [.null, Iz 0])))] s.heap.size) s.heap ([]) ([]) [(h0, .inr (6, [.null, Iz 0])), (q7, .inl (cx 1, 28, .inr (.inl (jm (fun _ => 0)))))] H [] from hV)
  refine W.widen (k := 1) (n := 28) (by omega) (by omega) ?_
  refine n_put E hK hV (ci := 6) (C := RX6) (T := TX6) (N := 2) (ty := tyX6) rfl w0c_in6 tyX6_ok nmX6 0 rfl 0 (by decide) cf_6_7 rfl rfl (v := .ref q7) rfl rfl (Nat.le_of_ble_eq_true rfl) dX6_init_9 (fun H locs hV => ?_)
  replace hV := (show nV dC dI cx (va_A [(h0, (.inr (6, [.null, Iz 0])))] s.heap.size) s.heap ([]) ([]) [(h0, .inr (6, [.ref q7, Iz 0])), (q7, .inl (cx 1, 28, .inr (.inl (jm (fun _ => 0)))))] H locs from hV)
  refine lv_aload_n hx hb dX6_init_12 rfl (lv_at hl 0 rfl) ?_
  refine lv_iconst (v := Int32.ofInt (-1)) hx hb dX6_init_13 (by decide) ?_
  refine n_put E hK hV (ci := 6) (C := RX6) (T := TX6) (N := 2) (ty := tyX6) rfl w0c_in6 tyX6_ok nmX6 0 rfl 1 (by decide) cf_6_13 rfl rfl (v := Iz ((-1))) rfl rfl (Nat.le_of_ble_eq_true rfl) dX6_init_14 (fun H locs hV => ?_)
  replace hV := (show nV dC dI cx (va_A [(h0, (.inr (6, [.null, Iz 0])))] s.heap.size) s.heap ([]) ([]) [(h0, .inr (6, [.ref q7, Iz ((-1))])), (q7, .inl (cx 1, 28, .inr (.inl (jm (fun _ => 0)))))] H locs from hV)
  replace hV := n_sub (X' := [(h0, .inr (6, [.ref q7, Iz (-1)]))]) hV (by simp)
  refine W.widen (k := 2) (n := 30) (by omega) (by omega) ?_
  exact n_ret hx hb hr hK hV (⟨_, rfl, rfl, rfl⟩) dX6_init_17 hlocks
set_option maxHeartbeats 4000000 in
set_option maxRecDepth 100000 in
theorem n9_init {l : Launch} {dC : Nat → ClassId} {dI : Nat → Nat → Nat} {cx : Nat → Nat} {H0 : Heap} {h0 : Nat}   : Met l yX9_init (Cond.code yX9_init cX9_init 1 none :: w0c) (nRm 3 100 100 300) (nPc dC dI cx h0 (.inr (9, [.null, .null, .null, .null, .null, .null, .null, Iz 0])) H0 []) (nQv dC dI cx h0 (.inr (9, [.null, .null, .null, .null, .null, .null, .null, Iz 0])) H0 (fun Qs Ps X => ∃ (q : nQt) (b1 b2 b3 b4 b5 : Nat × Nat) (tm : Nat), Qs = [q] ∧ Ps = [b1, b2, b3, b4, b5] ∧ X = [(h0, .inr (9, [.ref b1.1, .ref b2.1, .ref b3.1, .ref b4.1, .ref b5.1, .ref q.1, .ref tm, Iz 0]))])) 100 300 (va_A [(h0, (.inr (9, [.null, .null, .null, .null, .null, .null, .null, Iz 0])))] H0.size) := by
  refine Met.ofW (cc := cX9_init) (maxL := 1) (ret := none) (by decide) rfl ?_
  intro p e s m args below meth c s₁ B hml hv
  obtain ⟨rfl, hH0, hP, hK, hC⟩ := hv
  have hx := B.exec
  have hb := B.bytes
  have hr := B.returns
  have hin : meth.name = "<init>" := (name_of_methodNamed B.named B.method).1
  have hts := atoms_spec (ws := Cond.code yX9_init cX9_init 1 none :: w0c) B.pre
  have hown : s.vm.findClass RX9 = some m.cls := findClass_of_methodNamed B.named
  have hlocks := B.notSynchronized
  have E : CallFix p m c cX9_init 1 s _ (Cond.code yX9_init cX9_init 1 none :: w0c) RX9 := ⟨hx, hb, hml, hown, hts⟩
  subst hH0
  have hA : ∀ q : Nat, s.heap.size ≤ q → va_A [(h0, (.inr (9, [.null, .null, .null, .null, .null, .null, .null, Iz 0])))] s.heap.size q := fun q h => Or.inr h
  have hV : nV dC dI cx (va_A [(h0, (.inr (9, [.null, .null, .null, .null, .null, .null, .null, Iz 0])))] s.heap.size) s.heap [] [] [(h0, (.inr (9, [.null, .null, .null, .null, .null, .null, .null, Iz 0])))] s.heap [] := n_start hP
  have hl := lv_entry ([.ref h0]) (n := 1) (Nat.le_of_ble_eq_true rfl)
  rw [lg_entry_eq]
  generalize (lg_sl ([.ref h0]) ++ List.replicate (1 - (lg_sl ([.ref h0])).length) Slot.unset).toArray = ls at hl ⊢
  have hl : lv_has ls 1 [(0, .ref h0)] := hl
  refine lv_aload_n hx hb dX9_init_0 rfl (lv_at hl 0 rfl) ?_
  refine W.objInit hx hb hown (hts _ (List.mem_cons_of_mem _ cl_X9_3)) (hts _ (List.mem_cons_of_mem _ ci_objectInit)) (hts _ (List.mem_cons_of_mem _ cc_objectInit)) rfl (by rw [hml]; exact hl.1) rfl dX9_init_1 (Nat.le_of_ble_eq_true rfl) (Nat.le_of_ble_eq_true rfl) ?_
  refine lv_aload_n hx hb dX9_init_4 rfl (lv_at hl 0 rfl) ?_
  refine n_new E hK hV hA (ci := 0) (C := RX0) (T := TX0) (N := 3) (ty := tyX0) rfl w0c_in0 tyX0_ok ca_X9_9 cw_X0 cn_RX0 (fs := [.null, Iz 0, Iz 0]) bl_ok0 (by show 0 + 1 ≤ 100; omega) (by show 0 + 3 ≤ 300; omega) dX9_init_5 (fun q5 H hV => ?_)
  replace hV := (show nV dC dI cx (va_A [(h0, (.inr (9, [.null, .null, .null, .null, .null, .null, .null, Iz 0])))] s.heap.size) s.heap ([]) ([]) [(h0, .inr (9, [.null, .null, .null, .null, .null, .null, .null, Iz 0])), (q5, .inr (0, [.null, Iz 0, Iz 0]))] H [] from hV)
  refine W.widen (k := 1) (n := 3) (by omega) (by omega) ?_
  refine lv_dup hx hb dX9_init_8 rfl ?_
  refine n_callN (As := []) (rest := [.ref q5, .ref h0]) (X := [(h0, .inr (9, [.null, .null, .null, .null, .null, .null, .null, Iz 0]))]) (q := q5) E (n0_init ) (n_cwN 0 hts hC (by decide +kernel) ci_X0_init cn_RX0 cc_X0_init rfl rfl rfl (by decide +kernel) ⟨Nat.le_of_ble_eq_true rfl, Nat.le_of_ble_eq_true rfl⟩) hK hC hV hA rfl hl.1 (Nat.le_of_ble_eq_true rfl) dX9_init_9 ⟨by show 1 + 1 ≤ 100; omega, by show 3 + 5 ≤ 300; omega⟩ (fun Q9 P9 X9 H locs p9 hV => ?_)
  obtain ⟨r9, rfl, rfl, rfl⟩ := p9
  simp only [List.append_nil, List.nil_append, List.cons_append] at hV
  replace hV := (show nV dC dI cx (va_A [(h0, (.inr (9, [.null, .null, .null, .null, .null, .null, .null, Iz 0])))] s.heap.size) s.heap ([]) ([(q5, r9)]) [(h0, .inr (9, [.null, .null, .null, .null, .null, .null, .null, Iz 0]))] H locs from hV)
  refine W.widen (k := 2) (n := 8) (by omega) (by omega) ?_
  refine n_putF E hK hV hin (ci := 9) (C := RX9) (T := TX9) (N := 8) (ty := tyX9) rfl w0c_in9 tyX9_ok nmX9 0 rfl 0 (by decide) cf_9_12 rfl rfl rfl (v := .ref q5) rfl rfl (Nat.le_of_ble_eq_true rfl) dX9_init_12 (fun H locs hV => ?_)
  replace hV := (show nV dC dI cx (va_A [(h0, (.inr (9, [.null, .null, .null, .null, .null, .null, .null, Iz 0])))] s.heap.size) s.heap ([]) ([(q5, r9)]) [(h0, .inr (9, [.ref q5, .null, .null, .null, .null, .null, .null, Iz 0]))] H locs from hV)
  refine lv_aload_n hx hb dX9_init_15 rfl (lv_at hl 0 rfl) ?_
  refine n_new E hK hV hA (ci := 0) (C := RX0) (T := TX0) (N := 3) (ty := tyX0) rfl w0c_in0 tyX0_ok ca_X9_9 cw_X0 cn_RX0 (fs := [.null, Iz 0, Iz 0]) bl_ok0 (by show 2 + 1 ≤ 100; omega) (by show 8 + 3 ≤ 300; omega) dX9_init_16 (fun q16 H hV => ?_)
  replace hV := (show nV dC dI cx (va_A [(h0, (.inr (9, [.null, .null, .null, .null, .null, .null, .null, Iz 0])))] s.heap.size) s.heap ([]) ([(q5, r9)]) [(h0, .inr (9, [.ref q5, .null, .null, .null, .null, .null, .null, Iz 0])), (q16, .inr (0, [.null, Iz 0, Iz 0]))] H locs from hV)
  refine W.widen (k := 3) (n := 11) (by omega) (by omega) ?_
  refine lv_dup hx hb dX9_init_19 rfl ?_
  refine n_callN (As := []) (rest := [.ref q16, .ref h0]) (X := [(h0, .inr (9, [.ref q5, .null, .null, .null, .null, .null, .null, Iz 0]))]) (q := q16) E (n0_init ) (n_cwN 0 hts hC (by decide +kernel) ci_X0_init cn_RX0 cc_X0_init rfl rfl rfl (by decide +kernel) ⟨Nat.le_of_ble_eq_true rfl, Nat.le_of_ble_eq_true rfl⟩) hK hC hV hA rfl hl.1 (Nat.le_of_ble_eq_true rfl) dX9_init_20 ⟨by show 3 + 1 ≤ 100; omega, by show 11 + 5 ≤ 300; omega⟩ (fun Q20 P20 X20 H locs p20 hV => ?_)
  obtain ⟨r20, rfl, rfl, rfl⟩ := p20
  simp only [List.append_nil, List.nil_append, List.cons_append] at hV
  replace hV := (show nV dC dI cx (va_A [(h0, (.inr (9, [.null, .null, .null, .null, .null, .null, .null, Iz 0])))] s.heap.size) s.heap ([]) ([(q5, r9)] ++ [(q16, r20)]) [(h0, .inr (9, [.ref q5, .null, .null, .null, .null, .null, .null, Iz 0]))] H locs from hV)
  refine W.widen (k := 4) (n := 16) (by omega) (by omega) ?_
  refine n_putF E hK hV hin (ci := 9) (C := RX9) (T := TX9) (N := 8) (ty := tyX9) rfl w0c_in9 tyX9_ok nmX9 0 rfl 1 (by decide) cf_9_18 rfl rfl rfl (v := .ref q16) rfl rfl (Nat.le_of_ble_eq_true rfl) dX9_init_23 (fun H locs hV => ?_)
  replace hV := (show nV dC dI cx (va_A [(h0, (.inr (9, [.null, .null, .null, .null, .null, .null, .null, Iz 0])))] s.heap.size) s.heap ([]) ([(q5, r9)] ++ [(q16, r20)]) [(h0, .inr (9, [.ref q5, .ref q16, .null, .null, .null, .null, .null, Iz 0]))] H locs from hV)
  refine lv_aload_n hx hb dX9_init_26 rfl (lv_at hl 0 rfl) ?_
  refine n_new E hK hV hA (ci := 0) (C := RX0) (T := TX0) (N := 3) (ty := tyX0) rfl w0c_in0 tyX0_ok ca_X9_9 cw_X0 cn_RX0 (fs := [.null, Iz 0, Iz 0]) bl_ok0 (by show 4 + 1 ≤ 100; omega) (by show 16 + 3 ≤ 300; omega) dX9_init_27 (fun q27 H hV => ?_)
  replace hV := (show nV dC dI cx (va_A [(h0, (.inr (9, [.null, .null, .null, .null, .null, .null, .null, Iz 0])))] s.heap.size) s.heap ([]) ([(q5, r9)] ++ [(q16, r20)]) [(h0, .inr (9, [.ref q5, .ref q16, .null, .null, .null, .null, .null, Iz 0])), (q27, .inr (0, [.null, Iz 0, Iz 0]))] H locs from hV)
  refine W.widen (k := 5) (n := 19) (by omega) (by omega) ?_
  refine lv_dup hx hb dX9_init_30 rfl ?_
  refine n_callN (As := []) (rest := [.ref q27, .ref h0]) (X := [(h0, .inr (9, [.ref q5, .ref q16, .null, .null, .null, .null, .null, Iz 0]))]) (q := q27) E (n0_init ) (n_cwN 0 hts hC (by decide +kernel) ci_X0_init cn_RX0 cc_X0_init rfl rfl rfl (by decide +kernel) ⟨Nat.le_of_ble_eq_true rfl, Nat.le_of_ble_eq_true rfl⟩) hK hC hV hA rfl hl.1 (Nat.le_of_ble_eq_true rfl) dX9_init_31 ⟨by show 5 + 1 ≤ 100; omega, by show 19 + 5 ≤ 300; omega⟩ (fun Q31 P31 X31 H locs p31 hV => ?_)
  obtain ⟨r31, rfl, rfl, rfl⟩ := p31
  simp only [List.append_nil, List.nil_append, List.cons_append] at hV
  replace hV := (show nV dC dI cx (va_A [(h0, (.inr (9, [.null, .null, .null, .null, .null, .null, .null, Iz 0])))] s.heap.size) s.heap ([]) ([(q5, r9)] ++ [(q16, r20)] ++ [(q27, r31)]) [(h0, .inr (9, [.ref q5, .ref q16, .null, .null, .null, .null, .null, Iz 0]))] H locs from hV)
  refine W.widen (k := 6) (n := 24) (by omega) (by omega) ?_
  refine n_putF E hK hV hin (ci := 9) (C := RX9) (T := TX9) (N := 8) (ty := tyX9) rfl w0c_in9 tyX9_ok nmX9 0 rfl 2 (by decide) cf_9_21 rfl rfl rfl (v := .ref q27) rfl rfl (Nat.le_of_ble_eq_true rfl) dX9_init_34 (fun H locs hV => ?_)
  replace hV := (show nV dC dI cx (va_A [(h0, (.inr (9, [.null, .null, .null, .null, .null, .null, .null, Iz 0])))] s.heap.size) s.heap ([]) ([(q5, r9)] ++ [(q16, r20)] ++ [(q27, r31)]) [(h0, .inr (9, [.ref q5, .ref q16, .ref q27, .null, .null, .null, .null, Iz 0]))] H locs from hV)
  refine lv_aload_n hx hb dX9_init_37 rfl (lv_at hl 0 rfl) ?_
  refine n_new E hK hV hA (ci := 0) (C := RX0) (T := TX0) (N := 3) (ty := tyX0) rfl w0c_in0 tyX0_ok ca_X9_9 cw_X0 cn_RX0 (fs := [.null, Iz 0, Iz 0]) bl_ok0 (by show 6 + 1 ≤ 100; omega) (by show 24 + 3 ≤ 300; omega) dX9_init_38 (fun q38 H hV => ?_)
  replace hV := (show nV dC dI cx (va_A [(h0, (.inr (9, [.null, .null, .null, .null, .null, .null, .null, Iz 0])))] s.heap.size) s.heap ([]) ([(q5, r9)] ++ [(q16, r20)] ++ [(q27, r31)]) [(h0, .inr (9, [.ref q5, .ref q16, .ref q27, .null, .null, .null, .null, Iz 0])), (q38, .inr (0, [.null, Iz 0, Iz 0]))] H locs from hV)
  refine W.widen (k := 7) (n := 27) (by omega) (by omega) ?_
  refine lv_dup hx hb dX9_init_41 rfl ?_
  refine n_callN (As := []) (rest := [.ref q38, .ref h0]) (X := [(h0, .inr (9, [.ref q5, .ref q16, .ref q27, .null, .null, .null, .null, Iz 0]))]) (q := q38) E (n0_init ) (n_cwN 0 hts hC (by decide +kernel) ci_X0_init cn_RX0 cc_X0_init rfl rfl rfl (by decide +kernel) ⟨Nat.le_of_ble_eq_true rfl, Nat.le_of_ble_eq_true rfl⟩) hK hC hV hA rfl hl.1 (Nat.le_of_ble_eq_true rfl) dX9_init_42 ⟨by show 7 + 1 ≤ 100; omega, by show 27 + 5 ≤ 300; omega⟩ (fun Q42 P42 X42 H locs p42 hV => ?_)
  obtain ⟨r42, rfl, rfl, rfl⟩ := p42
  simp only [List.append_nil, List.nil_append, List.cons_append] at hV
  replace hV := (show nV dC dI cx (va_A [(h0, (.inr (9, [.null, .null, .null, .null, .null, .null, .null, Iz 0])))] s.heap.size) s.heap ([]) ([(q5, r9)] ++ [(q16, r20)] ++ [(q27, r31)] ++ [(q38, r42)]) [(h0, .inr (9, [.ref q5, .ref q16, .ref q27, .null, .null, .null, .null, Iz 0]))] H locs from hV)
  refine W.widen (k := 8) (n := 32) (by omega) (by omega) ?_
  refine n_putF E hK hV hin (ci := 9) (C := RX9) (T := TX9) (N := 8) (ty := tyX9) rfl w0c_in9 tyX9_ok nmX9 0 rfl 3 (by decide) cf_9_24 rfl rfl rfl (v := .ref q38) rfl rfl (Nat.le_of_ble_eq_true rfl) dX9_init_45 (fun H locs hV => ?_)
  replace hV := (show nV dC dI cx (va_A [(h0, (.inr (9, [.null, .null, .null, .null, .null, .null, .null, Iz 0])))] s.heap.size) s.heap ([]) ([(q5, r9)] ++ [(q16, r20)] ++ [(q27, r31)] ++ [(q38, r42)]) [(h0, .inr (9, [.ref q5, .ref q16, .ref q27, .ref q38, .null, .null, .null, Iz 0]))] H locs from hV)
  refine lv_aload_n hx hb dX9_init_48 rfl (lv_at hl 0 rfl) ?_
  refine n_new E hK hV hA (ci := 0) (C := RX0) (T := TX0) (N := 3) (ty := tyX0) rfl w0c_in0 tyX0_ok ca_X9_9 cw_X0 cn_RX0 (fs := [.null, Iz 0, Iz 0]) bl_ok0 (by show 8 + 1 ≤ 100; omega) (by show 32 + 3 ≤ 300; omega) dX9_init_49 (fun q49 H hV => ?_)
  replace hV := (show nV dC dI cx (va_A [(h0, (.inr (9, [.null, .null, .null, .null, .null, .null, .null, Iz 0])))] s.heap.size) s.heap ([]) ([(q5, r9)] ++ [(q16, r20)] ++ [(q27, r31)] ++ [(q38, r42)]) [(h0, .inr (9, [.ref q5, .ref q16, .ref q27, .ref q38, .null, .null, .null, Iz 0])), (q49, .inr (0, [.null, Iz 0, Iz 0]))] H locs from hV)
  refine W.widen (k := 9) (n := 35) (by omega) (by omega) ?_
  refine lv_dup hx hb dX9_init_52 rfl ?_
  refine n_callN (As := []) (rest := [.ref q49, .ref h0]) (X := [(h0, .inr (9, [.ref q5, .ref q16, .ref q27, .ref q38, .null, .null, .null, Iz 0]))]) (q := q49) E (n0_init ) (n_cwN 0 hts hC (by decide +kernel) ci_X0_init cn_RX0 cc_X0_init rfl rfl rfl (by decide +kernel) ⟨Nat.le_of_ble_eq_true rfl, Nat.le_of_ble_eq_true rfl⟩) hK hC hV hA rfl hl.1 (Nat.le_of_ble_eq_true rfl) dX9_init_53 ⟨by show 9 + 1 ≤ 100; omega, by show 35 + 5 ≤ 300; omega⟩ (fun Q53 P53 X53 H locs p53 hV => ?_)
  obtain ⟨r53, rfl, rfl, rfl⟩ := p53
  simp only [List.append_nil, List.nil_append, List.cons_append] at hV
  replace hV := (show nV dC dI cx (va_A [(h0, (.inr (9, [.null, .null, .null, .null, .null, .null, .null, Iz 0])))] s.heap.size) s.heap ([]) ([(q5, r9)] ++ [(q16, r20)] ++ [(q27, r31)] ++ [(q38, r42)] ++ [(q49, r53)]) [(h0, .inr (9, [.ref q5, .ref q16, .ref q27, .ref q38, .null, .null, .null, Iz 0]))] H locs from hV)
  refine W.widen (k := 10) (n := 40) (by omega) (by omega) ?_
  refine n_putF E hK hV hin (ci := 9) (C := RX9) (T := TX9) (N := 8) (ty := tyX9) rfl w0c_in9 tyX9_ok nmX9 0 rfl 4 (by decide) cf_9_27 rfl rfl rfl (v := .ref q49) rfl rfl (Nat.le_of_ble_eq_true rfl) dX9_init_56 (fun H locs hV => ?_)
  replace hV := (show nV dC dI cx (va_A [(h0, (.inr (9, [.null, .null, .null, .null, .null, .null, .null, Iz 0])))] s.heap.size) s.heap ([]) ([(q5, r9)] ++ [(q16, r20)] ++ [(q27, r31)] ++ [(q38, r42)] ++ [(q49, r53)]) [(h0, .inr (9, [.ref q5, .ref q16, .ref q27, .ref q38, .ref q49, .null, .null, Iz 0]))] H locs from hV)
  refine lv_aload_n hx hb dX9_init_59 rfl (lv_at hl 0 rfl) ?_
  refine n_new E hK hV hA (ci := 4) (C := RX4) (T := TX4) (N := 2) (ty := tyX4) rfl w0c_in4 tyX4_ok ca_X9_30 cw_X4 cn_RX4 (fs := [.null, Iz 0]) bl_ok4 (by show 10 + 1 ≤ 100; omega) (by show 40 + 2 ≤ 300; omega) dX9_init_60 (fun q60 H hV => ?_)
  replace hV := (show nV dC dI cx (va_A [(h0, (.inr (9, [.null, .null, .null, .null, .null, .null, .null, Iz 0])))] s.heap.size) s.heap ([]) ([(q5, r9)] ++ [(q16, r20)] ++ [(q27, r31)] ++ [(q38, r42)] ++ [(q49, r53)]) [(h0, .inr (9, [.ref q5, .ref q16, .ref q27, .ref q38, .ref q49, .null, .null, Iz 0])), (q60, .inr (4, [.null, Iz 0]))] H locs from hV)
  refine W.widen (k := 11) (n := 42) (by omega) (by omega) ?_
  refine lv_dup hx hb dX9_init_63 rfl ?_
  refine n_callI (As := []) (rest := [.ref q60, .ref h0]) (X := [(h0, .inr (9, [.ref q5, .ref q16, .ref q27, .ref q38, .ref q49, .null, .null, Iz 0]))]) (q := q60) E (n4_init ) (n_cwI 0 hts cl_X9_32 ci_X4_init cn_RX4 cc_X4_init rfl rfl rfl (by decide +kernel) ⟨Nat.le_of_ble_eq_true rfl, Nat.le_of_ble_eq_true rfl⟩) hK hC hV hA rfl hl.1 (Nat.le_of_ble_eq_true rfl) dX9_init_64 ⟨by show 11 + 70 ≤ 100; omega, by show 42 + 200 ≤ 300; omega⟩ (fun Q64 P64 X64 H locs p64 hV => ?_)
  obtain ⟨k64, ek64, rfl, rfl, rfl⟩ := p64
  simp only [List.append_nil, List.nil_append, List.cons_append] at hV
  replace hV := (show nV dC dI cx (va_A [(h0, (.inr (9, [.null, .null, .null, .null, .null, .null, .null, Iz 0])))] s.heap.size) s.heap ([k64]) ([(q5, r9)] ++ [(q16, r20)] ++ [(q27, r31)] ++ [(q38, r42)] ++ [(q49, r53)]) [(h0, .inr (9, [.ref q5, .ref q16, .ref q27, .ref q38, .ref q49, .null, .null, Iz 0]))] H locs from hV)
  refine W.widen (k := 81) (n := 242) (by omega) (by omega) ?_
  refine n_putF E hK hV hin (ci := 9) (C := RX9) (T := TX9) (N := 8) (ty := tyX9) rfl w0c_in9 tyX9_ok nmX9 0 rfl 5 (by decide) cf_9_33 rfl rfl rfl (v := .ref q60) rfl rfl (Nat.le_of_ble_eq_true rfl) dX9_init_67 (fun H locs hV => ?_)
  replace hV := (show nV dC dI cx (va_A [(h0, (.inr (9, [.null, .null, .null, .null, .null, .null, .null, Iz 0])))] s.heap.size) s.heap ([k64]) ([(q5, r9)] ++ [(q16, r20)] ++ [(q27, r31)] ++ [(q38, r42)] ++ [(q49, r53)]) [(h0, .inr (9, [.ref q5, .ref q16, .ref q27, .ref q38, .ref q49, .ref q60, .null, Iz 0]))] H locs from hV)
  refine lv_aload_n hx hb dX9_init_70 rfl (lv_at hl 0 rfl) ?_
  refine lv_bipush (v := Int32.ofInt (8)) hx hb dX9_init_71 (by decide) ?_
  refine n_newi E hK hV hA (by omega) (by omega) (by show 81 + 1 ≤ 100; omega) (by show 242 + 8 ≤ 300; omega) dX9_init_73 (fun q73 H hV => ?_)
  replace hV := (show nV dC dI cx (va_A [(h0, (.inr (9, [.null, .null, .null, .null, .null, .null, .null, Iz 0])))] s.heap.size) s.heap ([k64]) ([(q5, r9)] ++ [(q16, r20)] ++ [(q27, r31)] ++ [(q38, r42)] ++ [(q49, r53)]) [(h0, .inr (9, [.ref q5, .ref q16, .ref q27, .ref q38, .ref q49, .ref q60, .null, Iz 0])), (q73, .inl (cx 0, 8, .inl (im (fun _ => 0))))] H locs from hV)
  refine W.widen (k := 82) (n := 250) (by omega) (by omega) ?_
  refine n_put E hK hV (ci := 9) (C := RX9) (T := TX9) (N := 8) (ty := tyX9) rfl w0c_in9 tyX9_ok nmX9 0 rfl 6 (by decide) cf_9_37 rfl rfl (v := .ref q73) rfl rfl (Nat.le_of_ble_eq_true rfl) dX9_init_75 (fun H locs hV => ?_)
  replace hV := (show nV dC dI cx (va_A [(h0, (.inr (9, [.null, .null, .null, .null, .null, .null, .null, Iz 0])))] s.heap.size) s.heap ([k64]) ([(q5, r9)] ++ [(q16, r20)] ++ [(q27, r31)] ++ [(q38, r42)] ++ [(q49, r53)]) [(h0, .inr (9, [.ref q5, .ref q16, .ref q27, .ref q38, .ref q49, .ref q60, .ref q73, Iz 0])), (q73, .inl (cx 0, 8, .inl (im (fun _ => 0))))] H locs from hV)
  replace hV := n_subX (X' := [(h0, .inr (9, [.ref q5, .ref q16, .ref q27, .ref q38, .ref q49, .ref q60, .ref q73, Iz 0]))]) hV (by simp)
  refine W.widen (k := 100) (n := 300) (by omega) (by omega) ?_
  exact n_ret hx hb hr hK hV (⟨k64, (q5, r9), (q16, r20), (q27, r31), (q38, r42), (q49, r53), q73, rfl, rfl, by rw [ek64]⟩) dX9_init_78 hlocks
