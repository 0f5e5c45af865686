section LRows
variable {p : Program} {l : Launch} {e : Env} {R : Room} {s : State} {m : MethodId} {args : Array Value} {below : List Frame} {meth : Method} {c : Code} {H : Heap} {locs : List Loc} {cells slots : Nat} {Q : State → Prop}
variable {cc : ByteArray} {pc nL index : Nat} {ls : Array Slot} {rest : List Value} {A : Nat → Prop} {Ts : List Cond} {own : String}
variable {dC : Nat → ClassId} {dI : Nat → Nat → Nat} {cx : Nat → Nat} {LB : List Nat} {X : va_W} {dd : Nat → Nat} {nn ss : Nat → Int} {ll : Nat → Nat} {gg : Nat → Int → Int}
/-- a call's words among any that hold the class's, or the reference's -/
theorem lgV {Cn : String} {y : MethodName} {bytes : ByteArray} {maxL : Nat} {ret : Option FieldType} {ws : List Cond} (hc : GoodIn Ts ws) (h1 : Cond.methodLink own index y ∈ Ts) (h2 : Cond.instanceMethod y ∈ Ts) (h3 : Cond.selects Cn y y ∈ Ts) (h4 : Cond.initialized Cn ∈ Ts) (h5 : Cond.code y bytes maxL ret ∈ ws) : GoodIn Ts (wsV own index Cn y (Cond.code y bytes maxL ret :: ws)) := by
  intro w h
  unfold wsV at h
  simp only [List.cons_append, List.nil_append, List.mem_cons] at h
  rcases h with rfl | rfl | rfl | rfl | rfl | h
  · exact ⟨h1, good_of_word rfl⟩
  · exact ⟨h2, good_of_word rfl⟩
  · exact ⟨h3, good_of_word rfl⟩
  · exact ⟨h4, good_of_word rfl⟩
  · exact hc _ h5
  · exact hc _ h
/-- a method of the class on an object, called from the law or its helpers: what it leaves of the object isn't told -/
theorem L_calli (E : CallFix p m c cc nL s args Ts own) {y : MethodName} {bytes : ByteArray} {maxL n h f kl K N : Nat} {ret : Option FieldType} {Cn : String} {As : List Value} {Pc' : Array Value → State → Prop} {P : Int → va_W → (Nat → Nat) → (Nat → Int) → (Nat → Int) → (Nat → Nat) → (Nat → Int → Int) → Prop}
    (hM : Met l y (Cond.code y bytes maxL ret :: w0c) (eRm f kl LB ll K N) Pc' (eQi dC dI cx LB (va_A (bW (cx 0) LB dd nn ss ll gg X) H.size) ll H K N P) (cMc LB ll + K) (2 * cMc LB ll + N) (va_A (bW (cx 0) LB dd nn ss ll gg X) H.size)) (cw : CallW R s args own Cn index y bytes maxL ret (Cond.code y bytes maxL ret :: w0c) (eRm f kl LB ll K N) (cMc LB ll + K) (2 * cMc LB ll + N) n) (hp : PreV s H Cn h Pc' As)
    (hS : va_S A s.heap H locs) (hsub : ∀ q, va_A (bW (cx 0) LB dd nn ss ll gg X) H.size q → A q) (hn : As.length = n) (hl : ls.size = nL) (hW : (rest.map fun v => v.category).sum ≤ 8) (hd : decode cc pc = .ok (.invokevirtual index, 3)) (hf : cells + (cMc LB ll + K) ≤ R.cells ∧ slots + (2 * cMc LB ll + N) ≤ R.slots)
    (kk : ∀ (z : Int) (H1 : Heap) (locs1 : List Loc), (∃ (X' : va_W) (dd' : Nat → Nat) (nn' ss' : Nat → Int) (ll' : Nat → Nat) (gg' : Nat → Int → Int), P z X' dd' nn' ss' ll' gg') → H.size ≤ H1.size → (∀ q : Nat, q < H.size → ¬ va_A (bW (cx 0) LB dd nn ss ll gg X) H.size q → H1[q]? = H[q]?) → va_S A s.heap H1 locs1 → W p l e R s m args below meth c H1 locs1 (cells + (cMc LB ll + K)) (slots + (2 * cMc LB ll + N)) Q (F0 m (pc + 3) ls (Iz z :: rest))) : W p l e R s m args below meth c H locs cells slots Q (F0 m pc ls (As.reverse ++ .ref h :: rest)) :=
  va_calli (va_runV (As := As) (rest := rest) E hM cw hp rfl hn hl rfl (lv_room hW) hd hf) hS (fun q _ h => hsub q h) hsub (fun r u t H1 locs1 ht hvm hw hB hz1 hk1 hS1 => by
    obtain ⟨z, rfl, hz⟩ := hw
    exact kk z H1 locs1 ⟨_, _, _, _, _, _, hz⟩ hz1 hk1 hS1)
theorem L_callv (E : CallFix p m c cc nL s args Ts own) {y : MethodName} {bytes : ByteArray} {maxL n h f kl K N : Nat} {ret : Option FieldType} {Cn : String} {As : List Value} {Pc' : Array Value → State → Prop} {P : va_W → (Nat → Nat) → (Nat → Int) → (Nat → Int) → (Nat → Nat) → (Nat → Int → Int) → Prop}
    (hM : Met l y (Cond.code y bytes maxL ret :: w0c) (eRm f kl LB ll K N) Pc' (eQv dC dI cx LB (va_A (bW (cx 0) LB dd nn ss ll gg X) H.size) ll H K N P) (cMc LB ll + K) (2 * cMc LB ll + N) (va_A (bW (cx 0) LB dd nn ss ll gg X) H.size)) (cw : CallW R s args own Cn index y bytes maxL ret (Cond.code y bytes maxL ret :: w0c) (eRm f kl LB ll K N) (cMc LB ll + K) (2 * cMc LB ll + N) n) (hp : PreV s H Cn h Pc' As)
    (hS : va_S A s.heap H locs) (hsub : ∀ q, va_A (bW (cx 0) LB dd nn ss ll gg X) H.size q → A q) (hn : As.length = n) (hl : ls.size = nL) (hW : (rest.map fun v => v.category).sum ≤ 8) (hd : decode cc pc = .ok (.invokevirtual index, 3)) (hf : cells + (cMc LB ll + K) ≤ R.cells ∧ slots + (2 * cMc LB ll + N) ≤ R.slots)
    (kk : ∀ (H1 : Heap) (locs1 : List Loc), H.size ≤ H1.size → (∀ q : Nat, q < H.size → ¬ va_A (bW (cx 0) LB dd nn ss ll gg X) H.size q → H1[q]? = H[q]?) → va_S A s.heap H1 locs1 → W p l e R s m args below meth c H1 locs1 (cells + (cMc LB ll + K)) (slots + (2 * cMc LB ll + N)) Q (F0 m (pc + 3) ls rest)) : W p l e R s m args below meth c H locs cells slots Q (F0 m pc ls (As.reverse ++ .ref h :: rest)) :=
  va_callv (va_runV (As := As) (rest := rest) E hM cw hp rfl hn hl rfl (lv_room hW) hd hf) hS (fun q _ h => hsub q h) hsub (fun u t H1 locs1 ht hvm hw hB hz1 hk1 hS1 => kk H1 locs1 hz1 hk1 hS1)
theorem L_recv (hK : va_K (dC, dI) ccl (cty cx) s) (hP : va_P (dC, dI) ccl (bW (cx 0) LB dd nn ss ll gg X) H) {h ci : Nat} {fs : List Value} {q : vw_C} (hc : ccl[ci]? = some q) (hx : (h, (.inr (ci, fs) : va_E)) ∈ X) : ∃ cell : Cell, H[h]? = some cell ∧ cell.vm.isStatics = false ∧ s.vm.findClass q.1 = some cell.cls := by
  obtain ⟨k, hk⟩ := List.getElem?_of_mem (bW_x (cI := cx 0) (LB := LB) (dd := dd) (nn := nn) (ss := ss) (ll := ll) (gg := gg) hx)
  exact va_recv hK hP (q0 := k) hc hk
theorem L_preC (hK : va_K (dC, dI) ccl (cty cx) s) (hP : va_P (dC, dI) ccl (bW (cx 0) LB dd nn ss ll gg X) H) (hD : va_D A (bW (cx 0) LB dd nn ss ll gg X)) (hb : ∀ b ∈ LB, 5 ≤ ll b ∧ ll b ≤ 400) {h : Nat} {fs : List Value} (hx : (h, (.inr (11, fs) : va_E)) ∈ X) (As : List Value) : PreV s H RX11 h (cPc dC dI cx LB X dd nn ss ll gg H (.ref h :: As)) As :=
  ⟨c_blind, L_recv (q := (RX11, TX11, 20)) hK hP rfl hx, fun U hU hW => ⟨rfl, hU, by rw [hU]; exact hP, va_K.moved hW.alike hK, hD.weaken (fun _ _ _ _ => trivial), hb⟩⟩
theorem L_preN (hK : va_K (dC, dI) ccl (cty cx) s) (hC : CN s) (hP : va_P (dC, dI) ccl (bW (cx 0) LB dd nn ss ll gg X) H) (hD : va_D A (bW (cx 0) LB dd nn ss ll gg X)) (hb : ∀ b ∈ LB, 5 ≤ ll b ∧ ll b ≤ 400) {h : Nat} {fs : List Value} (hx : (h, (.inr (11, fs) : va_E)) ∈ X) (As : List Value) : PreV s H RX11 h (cPn dC dI cx LB X dd nn ss ll gg H (.ref h :: As)) As :=
  ⟨c_blindN, L_recv (q := (RX11, TX11, 20)) hK hP rfl hx, fun U hU hW => ⟨rfl, hU, by rw [hU]; exact hP, va_K.moved hW.alike hK, hD.weaken (fun _ _ _ _ => trivial), hb, CN.moved hW hC⟩⟩
variable {h1 : Nat} {ad : Nat → Nat} {cI cJ cB cZ : Nat} {F : Nat → Int} {ar : Nat → Int → Int}
/-- a method of the reference, called from the law -/
theorem R_calli (E : CallFix p m c cc nL s args Ts own) {y : MethodName} {bytes : ByteArray} {maxL n : Nat} {ret : Option FieldType} {rm : Room} {As : List Value} {P : Int → (Nat → Int) → (Nat → Int → Int) → Prop}
    (hM : Met l y (Cond.code y bytes maxL ret :: w0r) rm (rPc dC dI h1 ad cI cJ cB cZ F ar H.size As) (rQi dC dI h1 ad cI cJ cB cZ H.size P) 0 0 (rA h1 ad H.size)) (cw : CallW R s args own RX12 index y bytes maxL ret (Cond.code y bytes maxL ret :: w0r) rm 0 0 n)
    (hK : va_K (dC, dI) rcl (rty cI cJ cB cZ) s) (hP : va_P (dC, dI) rcl (mW h1 ad cI cJ cB cZ F ar) H) (hD : va_D A (mW h1 ad cI cJ cB cZ F ar)) (hS : va_S A s.heap H locs) (hA : ∀ q : Nat, s.heap.size ≤ q → A q) (hn : As.length = n) (hl : ls.size = nL) (hW : (rest.map fun v => v.category).sum ≤ 8) (hd : decode cc pc = .ok (.invokevirtual index, 3)) (hf : cells + 0 ≤ R.cells ∧ slots + 0 ≤ R.slots)
    (kk : ∀ (z : Int) (F' : Nat → Int) (ar' : Nat → Int → Int) (H1 : Heap) (locs1 : List Loc), P z F' ar' → va_P (dC, dI) rcl (mW h1 ad cI cJ cB cZ F' ar') H1 → H.size ≤ H1.size → (∀ q : Nat, q < H.size → ¬ rA h1 ad H.size q → H1[q]? = H[q]?) → va_S A s.heap H1 locs1 → W p l e R s m args below meth c H1 locs1 cells slots Q (F0 m (pc + 3) ls (Iz z :: rest))) : W p l e R s m args below meth c H locs cells slots Q (F0 m pc ls (As.reverse ++ .ref h1 :: rest)) := by
  have hsub : ∀ q, rA h1 ad H.size q → A q := rA_sub hD hS.1 hA
  refine va_calli (va_runV (As := As) (rest := rest) E hM cw ⟨fun a U g mk q => by obtain ⟨q0, q1, qP, qK, qD⟩ := q; exact ⟨q0, q1, qP, va_K.moved (u := U) (U := U.calling g mk a) (Vm.Alike.refl U.vm) qK, qD⟩, va_recv hK hP (ci := 0) (q0 := 0) rfl rfl, fun U hU hW => ⟨rfl, by rw [hU], by rw [hU]; exact hP, va_K.moved hW.alike hK, hD.weaken (fun _ _ _ _ => trivial)⟩⟩ rfl hn hl rfl (lv_room hW) hd hf) hS (fun q _ h => hsub q h) hsub (fun r u t H1 locs1 ht hvm hw hB hz1 hk1 hS1 => ?_)
  obtain ⟨F', ar'⟩ := u
  obtain ⟨z, rfl, hp⟩ := hw
  obtain ⟨hP1, hK1, hD1⟩ := hB
  rw [ht] at hP1
  exact kk z F' ar' H1 locs1 hp hP1 hz1 hk1 hS1
theorem R_callv (E : CallFix p m c cc nL s args Ts own) {y : MethodName} {bytes : ByteArray} {maxL n : Nat} {ret : Option FieldType} {rm : Room} {As : List Value} {P : (Nat → Int) → (Nat → Int → Int) → Prop}
    (hM : Met l y (Cond.code y bytes maxL ret :: w0r) rm (rPc dC dI h1 ad cI cJ cB cZ F ar H.size As) (rQv dC dI h1 ad cI cJ cB cZ H.size P) 0 0 (rA h1 ad H.size)) (cw : CallW R s args own RX12 index y bytes maxL ret (Cond.code y bytes maxL ret :: w0r) rm 0 0 n)
    (hK : va_K (dC, dI) rcl (rty cI cJ cB cZ) s) (hP : va_P (dC, dI) rcl (mW h1 ad cI cJ cB cZ F ar) H) (hD : va_D A (mW h1 ad cI cJ cB cZ F ar)) (hS : va_S A s.heap H locs) (hA : ∀ q : Nat, s.heap.size ≤ q → A q) (hn : As.length = n) (hl : ls.size = nL) (hW : (rest.map fun v => v.category).sum ≤ 8) (hd : decode cc pc = .ok (.invokevirtual index, 3)) (hf : cells + 0 ≤ R.cells ∧ slots + 0 ≤ R.slots)
    (kk : ∀ (F' : Nat → Int) (ar' : Nat → Int → Int) (H1 : Heap) (locs1 : List Loc), P F' ar' → va_P (dC, dI) rcl (mW h1 ad cI cJ cB cZ F' ar') H1 → H.size ≤ H1.size → (∀ q : Nat, q < H.size → ¬ rA h1 ad H.size q → H1[q]? = H[q]?) → va_S A s.heap H1 locs1 → W p l e R s m args below meth c H1 locs1 cells slots Q (F0 m (pc + 3) ls rest)) : W p l e R s m args below meth c H locs cells slots Q (F0 m pc ls (As.reverse ++ .ref h1 :: rest)) := by
  have hsub : ∀ q, rA h1 ad H.size q → A q := rA_sub hD hS.1 hA
  refine va_callv (va_runV (As := As) (rest := rest) E hM cw ⟨fun a U g mk q => by obtain ⟨q0, q1, qP, qK, qD⟩ := q; exact ⟨q0, q1, qP, va_K.moved (u := U) (U := U.calling g mk a) (Vm.Alike.refl U.vm) qK, qD⟩, va_recv hK hP (ci := 0) (q0 := 0) rfl rfl, fun U hU hW => ⟨rfl, by rw [hU], by rw [hU]; exact hP, va_K.moved hW.alike hK, hD.weaken (fun _ _ _ _ => trivial)⟩⟩ rfl hn hl rfl (lv_room hW) hd hf) hS (fun q _ h => hsub q h) hsub (fun u t H1 locs1 ht hvm hw hB hz1 hk1 hS1 => ?_)
  obtain ⟨F', ar'⟩ := u
  obtain ⟨hP1, hK1, hD1⟩ := hB
  rw [ht] at hP1
  exact kk F' ar' H1 locs1 hw hP1 hz1 hk1 hS1
/-- the script's places, in the law's only turn -/
theorem i32_lo (x : Int32) : -2147483648 ≤ x.toInt := Int32.le_toInt x
theorem i32_hi (x : Int32) : x.toInt ≤ 2147483647 := by have := Int32.toInt_lt x; omega
theorem i64_lo (x : Int64) : -9223372036854775808 ≤ x.toInt := Int64.le_toInt x
theorem i64_hi (x : Int64) : x.toInt ≤ 9223372036854775807 := by have := Int64.toInt_lt x; omega
theorem i32_of (x : Int32) : Value.int x = Iz x.toInt := congrArg Value.int (Int32.ofInt_toInt x).symm
theorem i64_of (x : Int64) : Value.long x = Jz x.toInt := congrArg Value.long (Int64.ofInt_toInt x).symm
theorem L_ld {b : Nat} {xs : Nat → Int32} (hx : p.tables.exec = Jvm.exec) (hb : c.code = cc) (hX : va_X b 7 xs s s.heap) (hbl : b < s.heap.size) (hbA : ¬ A b) (hS : va_S A s.heap H locs) (hl : lv_has ls 7 [(0, .ref b), (4, .int 1)]) {j : Nat} {n : Int} {v w : Int32} (d0 : decode cc pc = .ok (.aload_n 0, 1)) (d1 : decode cc (pc + 1) = .ok (.iload 4, 2)) (d2 : decode cc (pc + 3) = .ok (.iconst n, 1)) (d3 : decode cc (pc + 4) = .ok (.iadd, 1)) (d4 : decode cc (pc + 5) = .ok (.iaload, 1)) (hv : Int32.ofInt n = v) (hw : 1 + v = w) (hin : vp_in w 7) (hj : w.toNatClampNeg = j)
    (kk : W p l e R s m args below meth c H locs cells slots Q (F0 m (pc + 6) ls (Iz (xs j).toInt :: rest))) : W p l e R s m args below meth c H locs cells slots Q (F0 m pc ls rest) := by
  refine lv_aload_n hx hb d0 rfl (lv_at hl 0 rfl) ?_
  refine lv_iload hx hb d1 (lv_at hl 1 rfl) ?_
  refine lv_iconst (v := v) hx hb d2 hv ?_
  refine lv_iadd hx hb d3 ?_
  rw [hw]
  refine va_sld hx hb hX hbl hbA hS hin d4 ?_
  rw [hj, i32_of]
  exact kk
/-- a long out of two places of the script -/
def lgv (x y : Int32) : Int64 := (x.toInt64 <<< ((32 : Int32).toInt64 &&& 63)) ||| (y.toInt64 &&& 4294967295)
theorem L_lg {b : Nat} {xs : Nat → Int32} (hx : p.tables.exec = Jvm.exec) (hb : c.code = cc) (hown : s.vm.findClass own = some m.cls) (hk : (Jvm.Cond.constantLong own 42 4294967295).before args s = true) (hX : va_X b 7 xs s s.heap) (hbl : b < s.heap.size) (hbA : ¬ A b) (hS : va_S A s.heap H locs) (hl : lv_has ls 7 [(0, .ref b), (4, .int 1)]) {j j' : Nat} {n n' : Int} {v w v' w' : Int32} (d0 : decode cc pc = .ok (.aload_n 0, 1)) (d1 : decode cc (pc + 1) = .ok (.iload 4, 2)) (d2 : decode cc (pc + 3) = .ok (.iconst n, 1)) (d3 : decode cc (pc + 4) = .ok (.iadd, 1)) (d4 : decode cc (pc + 5) = .ok (.iaload, 1)) (d5 : decode cc (pc + 6) = .ok (.i2l, 1)) (d6 : decode cc (pc + 7) = .ok (.bipush 32, 2)) (d7 : decode cc (pc + 9) = .ok (.lshl, 1)) (d8 : decode cc (pc + 10) = .ok (.aload_n 0, 1)) (d9 : decode cc (pc + 11) = .ok (.iload 4, 2)) (d10 : decode cc (pc + 13) = .ok (.iconst n', 1)) (d11 : decode cc (pc + 14) = .ok (.iadd, 1)) (d12 : decode cc (pc + 15) = .ok (.iaload, 1)) (d13 : decode cc (pc + 16) = .ok (.i2l, 1)) (d14 : decode cc (pc + 17) = .ok (.ldc2_w 42, 3)) (d15 : decode cc (pc + 20) = .ok (.land, 1)) (d16 : decode cc (pc + 21) = .ok (.lor, 1)) (hv : Int32.ofInt n = v) (hw : 1 + v = w) (hin : vp_in w 7) (hj : w.toNatClampNeg = j) (hv' : Int32.ofInt n' = v') (hw' : 1 + v' = w') (hin' : vp_in w' 7) (hj' : w'.toNatClampNeg = j')
    (kk : W p l e R s m args below meth c H locs cells slots Q (F0 m (pc + 22) ls (Jz (lgv (xs j) (xs j')).toInt :: rest))) : W p l e R s m args below meth c H locs cells slots Q (F0 m pc ls rest) := by
  refine L_ld hx hb hX hbl hbA hS hl d0 d1 d2 d3 d4 hv hw hin hj ?_
  rw [← i32_of]
  refine lv_i2l hx hb d5 rfl ?_
  refine lv_bipush (v := 32) hx hb d6 (by decide) ?_
  refine lv_lshl hx hb d7 rfl ?_
  refine L_ld hx hb hX hbl hbA hS hl d8 d9 d10 d11 d12 hv' hw' hin' hj' ?_
  rw [← i32_of]
  refine lv_i2l hx hb d13 rfl ?_
  refine lv_ldc2 hx hb hown hk d14 ?_
  refine lv_land hx hb d15 ?_
  refine lv_lor hx hb d16 ?_
  rw [i64_of]
  exact kk
/-- script[i + 4] != 0 -/
theorem L_bool (hx : p.tables.exec = Jvm.exec) (hb : c.code = cc) {x : Int32} (d0 : decode cc pc = .ok (.ifCond .eq 7, 3)) (d1 : decode cc (pc + 3) = .ok (.iconst 1, 1)) (d2 : decode cc (pc + 4) = .ok (.goto 4, 3)) (d3 : decode cc (pc + 7) = .ok (.iconst 0, 1)) (kk : W p l e R s m args below meth c H locs cells slots Q (F0 m (pc + 8) ls (Iz (if x.toInt = 0 then 0 else 1) :: rest))) : W p l e R s m args below meth c H locs cells slots Q (F0 m pc ls (Iz x.toInt :: rest)) := by
  refine g_if_eq (tgt := pc + 7) hx hb ⟨i32_lo x, by have := i32_hi x; omega⟩ d0 (by omega) (fun c_0 => ?_) (fun c_0 => ?_)
  · refine lv_iconst (v := 0) hx hb d3 rfl ?_
    rw [if_pos c_0] at kk
    exact kk
  · refine lv_iconst (v := 1) hx hb d1 rfl ?_
    refine lv_goto (tgt := pc + 8) hx hb d2 (by omega) ?_
    rw [if_neg c_0] at kk
    exact kk
end LRows
