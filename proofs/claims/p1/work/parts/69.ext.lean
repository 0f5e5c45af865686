section CExt
abbrev eRm (f k : Nat) (LB : List Nat) (ll : Nat → Nat) (K N : Nat) : Room := { frames := f, cells := cMc LB ll + K, slots := 2 * cMc LB ll + N, locals := k }
abbrev eBk (dC : Nat → ClassId) (dI : Nat → Nat → Nat) (cx : Nat → Nat) (LB : List Nat) (A : Nat → Prop) (ll : Nat → Nat) (H0 : Heap) (K N : Nat) (u : cS6) (t : State) : Prop :=
  va_P (dC, dI) ccl (bW (cx 0) LB u.2.1 u.2.2.1 u.2.2.2.1 u.2.2.2.2.1 u.2.2.2.2.2 u.1) t.heap ∧ va_K (dC, dI) ccl (cty cx) t ∧ va_D A (bW (cx 0) LB u.2.1 u.2.2.1 u.2.2.2.1 u.2.2.2.2.1 u.2.2.2.2.2 u.1) ∧ (∀ b ∈ LB, ll b ≤ u.2.2.2.2.1 b ∧ u.2.2.2.2.1 b ≤ 400) ∧ cG H0 t.heap (cP LB u.2.2.2.2.1 - cP LB ll + K) (2 * (cP LB u.2.2.2.2.1 - cP LB ll) + N)
abbrev eQi (dC : Nat → ClassId) (dI : Nat → Nat → Nat) (cx : Nat → Nat) (LB : List Nat) (A : Nat → Prop) (ll : Nat → Nat) (H0 : Heap) (K N : Nat) (P : Int → va_W → (Nat → Nat) → (Nat → Int) → (Nat → Int) → (Nat → Nat) → (Nat → Int → Int) → Prop) : Array Value → State → Outcome → State → Prop :=
  va_Qi (fun (r : Int32) (u : cS6) => ∃ z : Int, r = Int32.ofInt z ∧ P z u.1 u.2.1 u.2.2.1 u.2.2.2.1 u.2.2.2.2.1 u.2.2.2.2.2) (fun u t => eBk dC dI cx LB A ll H0 K N u t) A
abbrev eQl (dC : Nat → ClassId) (dI : Nat → Nat → Nat) (cx : Nat → Nat) (LB : List Nat) (A : Nat → Prop) (ll : Nat → Nat) (H0 : Heap) (K N : Nat) (P : Int → va_W → (Nat → Nat) → (Nat → Int) → (Nat → Int) → (Nat → Nat) → (Nat → Int → Int) → Prop) : Array Value → State → Outcome → State → Prop :=
  va_Ql (fun (r : Int64) (u : cS6) => ∃ z : Int, r = Int64.ofInt z ∧ P z u.1 u.2.1 u.2.2.1 u.2.2.2.1 u.2.2.2.2.1 u.2.2.2.2.2) (fun u t => eBk dC dI cx LB A ll H0 K N u t) A
abbrev eQv (dC : Nat → ClassId) (dI : Nat → Nat → Nat) (cx : Nat → Nat) (LB : List Nat) (A : Nat → Prop) (ll : Nat → Nat) (H0 : Heap) (K N : Nat) (P : va_W → (Nat → Nat) → (Nat → Int) → (Nat → Int) → (Nat → Nat) → (Nat → Int → Int) → Prop) : Array Value → State → Outcome → State → Prop :=
  va_Qv (fun (u : cS6) => P u.1 u.2.1 u.2.2.1 u.2.2.2.1 u.2.2.2.2.1 u.2.2.2.2.2) (fun u t => eBk dC dI cx LB A ll H0 K N u t) A
variable {p : Program} {l : Launch} {e : Env} {R : Room} {s : State} {m : MethodId} {args : Array Value} {below : List Frame} {meth : Method} {c : Code} {H : Heap} {locs : List Loc} {cells slots : Nat} {Q : State → Prop}
variable {cc : ByteArray} {pc nL : Nat} {ls : Array Slot} {rest : List Value} {dC : Nat → ClassId} {dI : Nat → Nat → Nat} {cx : Nat → Nat} {LB : List Nat} {A : Nat → Prop} {H0 : Heap} {ll0 : Nat → Nat} {X : va_W} {dd : Nat → Nat} {nn ss : Nat → Int} {ll : Nat → Nat} {gg : Nat → Int → Int} {c0 : Cond} {own : String} {b index : Nat}
variable {LP : List Nat} {pc_ : Nat → Nat} {pd : Nat → Int} {co : Nat → Nat → Nat} {k1 n1 k2 n2 K N : Nat}
theorem e_back {X' : va_W} {dd' : Nat → Nat} {nn' ss' : Nat → Int} {ll' : Nat → Nat} {gg' : Nat → Int → Int} {H1 : Heap} {locs1 : List Loc} {t : State} (hG : cG s.heap H (cP LB ll - cP LB ll0 + k1) (2 * (cP LB ll - cP LB ll0) + n1)) (hV : cV dC dI cx LB A s.heap ll0 X dd nn ss ll gg H locs) (hA : ∀ q, s.heap.size ≤ q → A q) (ht : t.heap = H1) (hS1 : va_S A s.heap H1 locs1) (hB : eBk dC dI cx LB (va_A (bW (cx 0) LB dd nn ss ll gg X) H.size) ll H k2 n2 (X', dd', nn', ss', ll', gg') t) :
    cV dC dI cx LB A s.heap ll0 X' dd' nn' ss' ll' gg' H1 locs1 ∧ (∀ b ∈ LB, ll b ≤ ll' b) ∧ cG s.heap H1 (cP LB ll' - cP LB ll0 + (k1 + k2)) (2 * (cP LB ll' - cP LB ll0) + (n1 + n2)) := by
  obtain ⟨h1, h2, h3, h4, h5⟩ := hB
  rw [ht] at h1 h5
  dsimp only at h1 h2 h3 h4 h5
  have hm : cP LB ll ≤ cP LB ll' := cP_mono fun b hb => (h4 b hb).1
  have hb := cV_bd hV
  refine ⟨⟨h1, h3.weaken (fun k q _ h => c_sub hV hA q.1 h), hS1, fun b hb => Nat.le_trans (hV.2.2.2.1 b hb) (h4 b hb).1, fun b hb => ⟨Nat.le_trans (hV.2.2.2.2 b hb).1 (h4 b hb).1, (h4 b hb).2⟩⟩, fun b hb => (h4 b hb).1, cG_le (cG_tr hG h5) (by omega) (by omega)⟩
theorem e_callv (E : CallFix p m c cc nL s args (c0 :: w0c) own) {y : MethodName} {bytes : ByteArray} {maxL n h f kl : Nat} {ret : Option FieldType} {Cn : String} {As : List Value} {P : va_W → (Nat → Nat) → (Nat → Int) → (Nat → Int) → (Nat → Nat) → (Nat → Int → Int) → Prop}
    (hM : Met l y (Cond.code y bytes maxL ret :: w0c) (eRm f kl LB ll k2 n2) (cPc dC dI cx LB X dd nn ss ll gg H (.ref h :: As)) (eQv dC dI cx LB (va_A (bW (cx 0) LB dd nn ss ll gg X) H.size) ll H k2 n2 P) (cMc LB ll + k2) (2 * cMc LB ll + n2) (va_A (bW (cx 0) LB dd nn ss ll gg X) H.size)) (cw : CallW R s args own Cn index y bytes maxL ret (Cond.code y bytes maxL ret :: w0c) (eRm f kl LB ll k2 n2) (cMc LB ll + k2) (2 * cMc LB ll + n2) n) (hrecv : ∃ cell : Cell, H[h]? = some cell ∧ cell.vm.isStatics = false ∧ s.vm.findClass Cn = some cell.cls)
    (hK : va_K (dC, dI) ccl (cty cx) s) (hV : cV dC dI cx LB A s.heap ll0 X dd nn ss ll gg H locs) (hA : ∀ q, s.heap.size ≤ q → A q) (hR : R.cells = cMc LB ll0 + K ∧ R.slots = 2 * cMc LB ll0 + N) (hkn : k1 + k2 ≤ K ∧ n1 + n2 ≤ N) (hn : As.length = n) (hl : ls.size = nL) (hW : (rest.map fun v => v.category).sum ≤ 8) (hd : decode cc pc = .ok (.invokevirtual index, 3))
    (kk : ∀ (X' : va_W) (dd' : Nat → Nat) (nn' ss' : Nat → Int) (ll' : Nat → Nat) (gg' : Nat → Int → Int) (H1 : Heap) (locs1 : List Loc), P X' dd' nn' ss' ll' gg' → cV dC dI cx LB A s.heap ll0 X' dd' nn' ss' ll' gg' H1 locs1 → (∀ b ∈ LB, ll b ≤ ll' b) → W p l e R s m args below meth c H1 locs1 (cP LB ll' - cP LB ll0 + (k1 + k2)) (2 * (cP LB ll' - cP LB ll0) + (n1 + n2)) Q (F0 m (pc + 3) ls rest)) : W p l e R s m args below meth c H locs (cP LB ll - cP LB ll0 + k1) (2 * (cP LB ll - cP LB ll0) + n1) Q (F0 m pc ls (As.reverse ++ .ref h :: rest)) := by
  refine W.know fun hG => ?_
  have hb := cV_bd hV
  refine va_callv (va_runV (As := As) (rest := rest) E hM cw ⟨c_blind, hrecv, fun U hU hW => ⟨rfl, hU, by rw [hU]; exact hV.1, va_K.moved hW.alike hK, hV.2.1.weaken (fun _ _ _ _ => trivial), hV.2.2.2.2⟩⟩ rfl hn hl rfl (lv_room hW) hd (by rw [hR.1, hR.2]; unfold cMc; omega)) hV.2.2.1 (fun q _ h => c_sub hV hA q h) (c_sub hV hA) (fun u t H1 locs1 ht hvm hw hB hz1 hk1 hS1 => ?_)
  obtain ⟨X', dd', nn', ss', ll', gg'⟩ := u
  obtain ⟨g1, g2, g3⟩ := e_back hG hV hA ht hS1 hB
  exact W.retake g3 (kk X' dd' nn' ss' ll' gg' H1 locs1 hw g1 g2)
theorem e_calli (E : CallFix p m c cc nL s args (c0 :: w0c) own) {y : MethodName} {bytes : ByteArray} {maxL n h f kl : Nat} {ret : Option FieldType} {Cn : String} {As : List Value} {P : Int → va_W → (Nat → Nat) → (Nat → Int) → (Nat → Int) → (Nat → Nat) → (Nat → Int → Int) → Prop}
    (hM : Met l y (Cond.code y bytes maxL ret :: w0c) (eRm f kl LB ll k2 n2) (cPc dC dI cx LB X dd nn ss ll gg H (.ref h :: As)) (eQi dC dI cx LB (va_A (bW (cx 0) LB dd nn ss ll gg X) H.size) ll H k2 n2 P) (cMc LB ll + k2) (2 * cMc LB ll + n2) (va_A (bW (cx 0) LB dd nn ss ll gg X) H.size)) (cw : CallW R s args own Cn index y bytes maxL ret (Cond.code y bytes maxL ret :: w0c) (eRm f kl LB ll k2 n2) (cMc LB ll + k2) (2 * cMc LB ll + n2) n) (hrecv : ∃ cell : Cell, H[h]? = some cell ∧ cell.vm.isStatics = false ∧ s.vm.findClass Cn = some cell.cls)
    (hK : va_K (dC, dI) ccl (cty cx) s) (hV : cV dC dI cx LB A s.heap ll0 X dd nn ss ll gg H locs) (hA : ∀ q, s.heap.size ≤ q → A q) (hR : R.cells = cMc LB ll0 + K ∧ R.slots = 2 * cMc LB ll0 + N) (hkn : k1 + k2 ≤ K ∧ n1 + n2 ≤ N) (hn : As.length = n) (hl : ls.size = nL) (hW : (rest.map fun v => v.category).sum ≤ 8) (hd : decode cc pc = .ok (.invokevirtual index, 3))
    (kk : ∀ (z : Int) (X' : va_W) (dd' : Nat → Nat) (nn' ss' : Nat → Int) (ll' : Nat → Nat) (gg' : Nat → Int → Int) (H1 : Heap) (locs1 : List Loc), P z X' dd' nn' ss' ll' gg' → cV dC dI cx LB A s.heap ll0 X' dd' nn' ss' ll' gg' H1 locs1 → (∀ b ∈ LB, ll b ≤ ll' b) → W p l e R s m args below meth c H1 locs1 (cP LB ll' - cP LB ll0 + (k1 + k2)) (2 * (cP LB ll' - cP LB ll0) + (n1 + n2)) Q (F0 m (pc + 3) ls (Iz z :: rest))) : W p l e R s m args below meth c H locs (cP LB ll - cP LB ll0 + k1) (2 * (cP LB ll - cP LB ll0) + n1) Q (F0 m pc ls (As.reverse ++ .ref h :: rest)) := by
  refine W.know fun hG => ?_
  have hb := cV_bd hV
  refine va_calli (va_runV (As := As) (rest := rest) E hM cw ⟨c_blind, hrecv, fun U hU hW => ⟨rfl, hU, by rw [hU]; exact hV.1, va_K.moved hW.alike hK, hV.2.1.weaken (fun _ _ _ _ => trivial), hV.2.2.2.2⟩⟩ rfl hn hl rfl (lv_room hW) hd (by rw [hR.1, hR.2]; unfold cMc; omega)) hV.2.2.1 (fun q _ h => c_sub hV hA q h) (c_sub hV hA) (fun r u t H1 locs1 ht hvm hw hB hz1 hk1 hS1 => ?_)
  obtain ⟨X', dd', nn', ss', ll', gg'⟩ := u
  obtain ⟨z, rfl, hp⟩ := hw
  obtain ⟨g1, g2, g3⟩ := e_back hG hV hA ht hS1 hB
  exact W.retake g3 (kk z X' dd' nn' ss' ll' gg' H1 locs1 hp g1 g2)
theorem e_callsi (E : CallFix p m c cc nL s args (c0 :: w0c) own) {y : MethodName} {bytes : ByteArray} {maxL n f kl : Nat} {ret : Option FieldType} {As : List Value} {P : Int → va_W → (Nat → Nat) → (Nat → Int) → (Nat → Int) → (Nat → Nat) → (Nat → Int → Int) → Prop}
    (hM : Met l y (Cond.code y bytes maxL ret :: w0c) (eRm f kl LB ll k2 n2) (cPc dC dI cx LB X dd nn ss ll gg H As) (eQi dC dI cx LB (va_A (bW (cx 0) LB dd nn ss ll gg X) H.size) ll H k2 n2 P) (cMc LB ll + k2) (2 * cMc LB ll + n2) (va_A (bW (cx 0) LB dd nn ss ll gg X) H.size)) (cw : CallB R s args own index y bytes maxL ret (Cond.code y bytes maxL ret :: w0c) (eRm f kl LB ll k2 n2) (cMc LB ll + k2) (2 * cMc LB ll + n2) n ∧ (Cond.static y).before args s = true)
    (hK : va_K (dC, dI) ccl (cty cx) s) (hV : cV dC dI cx LB A s.heap ll0 X dd nn ss ll gg H locs) (hA : ∀ q, s.heap.size ≤ q → A q) (hR : R.cells = cMc LB ll0 + K ∧ R.slots = 2 * cMc LB ll0 + N) (hkn : k1 + k2 ≤ K ∧ n1 + n2 ≤ N) (hn : As.length = n) (hl : ls.size = nL) (hW : (rest.map fun v => v.category).sum ≤ 8) (hd : decode cc pc = .ok (.invokestatic index, 3))
    (kk : ∀ (z : Int) (X' : va_W) (dd' : Nat → Nat) (nn' ss' : Nat → Int) (ll' : Nat → Nat) (gg' : Nat → Int → Int) (H1 : Heap) (locs1 : List Loc), P z X' dd' nn' ss' ll' gg' → cV dC dI cx LB A s.heap ll0 X' dd' nn' ss' ll' gg' H1 locs1 → (∀ b ∈ LB, ll b ≤ ll' b) → W p l e R s m args below meth c H1 locs1 (cP LB ll' - cP LB ll0 + (k1 + k2)) (2 * (cP LB ll' - cP LB ll0) + (n1 + n2)) Q (F0 m (pc + 3) ls (Iz z :: rest))) : W p l e R s m args below meth c H locs (cP LB ll - cP LB ll0 + k1) (2 * (cP LB ll - cP LB ll0) + n1) Q (F0 m pc ls (As.reverse ++ rest)) := by
  refine W.know fun hG => ?_
  have hb := cV_bd hV
  refine va_calli (va_runS (As := As) (rest := rest) E hM cw ⟨c_blind, fun U hU hW => ⟨rfl, hU, by rw [hU]; exact hV.1, va_K.moved hW.alike hK, hV.2.1.weaken (fun _ _ _ _ => trivial), hV.2.2.2.2⟩⟩ rfl hn hl rfl (lv_room hW) hd (by rw [hR.1, hR.2]; unfold cMc; omega)) hV.2.2.1 (fun q _ h => c_sub hV hA q h) (c_sub hV hA) (fun r u t H1 locs1 ht hvm hw hB hz1 hk1 hS1 => ?_)
  obtain ⟨X', dd', nn', ss', ll', gg'⟩ := u
  obtain ⟨z, rfl, hp⟩ := hw
  obtain ⟨g1, g2, g3⟩ := e_back hG hV hA ht hS1 hB
  exact W.retake g3 (kk z X' dd' nn' ss' ll' gg' H1 locs1 hp g1 g2)
theorem e_callsl (E : CallFix p m c cc nL s args (c0 :: w0c) own) {y : MethodName} {bytes : ByteArray} {maxL n f kl : Nat} {ret : Option FieldType} {As : List Value} {P : Int → va_W → (Nat → Nat) → (Nat → Int) → (Nat → Int) → (Nat → Nat) → (Nat → Int → Int) → Prop}
    (hM : Met l y (Cond.code y bytes maxL ret :: w0c) (eRm f kl LB ll k2 n2) (cPc dC dI cx LB X dd nn ss ll gg H As) (eQl dC dI cx LB (va_A (bW (cx 0) LB dd nn ss ll gg X) H.size) ll H k2 n2 P) (cMc LB ll + k2) (2 * cMc LB ll + n2) (va_A (bW (cx 0) LB dd nn ss ll gg X) H.size)) (cw : CallB R s args own index y bytes maxL ret (Cond.code y bytes maxL ret :: w0c) (eRm f kl LB ll k2 n2) (cMc LB ll + k2) (2 * cMc LB ll + n2) n ∧ (Cond.static y).before args s = true)
    (hK : va_K (dC, dI) ccl (cty cx) s) (hV : cV dC dI cx LB A s.heap ll0 X dd nn ss ll gg H locs) (hA : ∀ q, s.heap.size ≤ q → A q) (hR : R.cells = cMc LB ll0 + K ∧ R.slots = 2 * cMc LB ll0 + N) (hkn : k1 + k2 ≤ K ∧ n1 + n2 ≤ N) (hn : As.length = n) (hl : ls.size = nL) (hW : (rest.map fun v => v.category).sum ≤ 8) (hd : decode cc pc = .ok (.invokestatic index, 3))
    (kk : ∀ (z : Int) (X' : va_W) (dd' : Nat → Nat) (nn' ss' : Nat → Int) (ll' : Nat → Nat) (gg' : Nat → Int → Int) (H1 : Heap) (locs1 : List Loc), P z X' dd' nn' ss' ll' gg' → cV dC dI cx LB A s.heap ll0 X' dd' nn' ss' ll' gg' H1 locs1 → (∀ b ∈ LB, ll b ≤ ll' b) → W p l e R s m args below meth c H1 locs1 (cP LB ll' - cP LB ll0 + (k1 + k2)) (2 * (cP LB ll' - cP LB ll0) + (n1 + n2)) Q (F0 m (pc + 3) ls (Jz z :: rest))) : W p l e R s m args below meth c H locs (cP LB ll - cP LB ll0 + k1) (2 * (cP LB ll - cP LB ll0) + n1) Q (F0 m pc ls (As.reverse ++ rest)) := by
  refine W.know fun hG => ?_
  have hb := cV_bd hV
  refine va_calll (va_runS (As := As) (rest := rest) E hM cw ⟨c_blind, fun U hU hW => ⟨rfl, hU, by rw [hU]; exact hV.1, va_K.moved hW.alike hK, hV.2.1.weaken (fun _ _ _ _ => trivial), hV.2.2.2.2⟩⟩ rfl hn hl rfl (lv_room hW) hd (by rw [hR.1, hR.2]; unfold cMc; omega)) hV.2.2.1 (fun q _ h => c_sub hV hA q h) (c_sub hV hA) (fun r u t H1 locs1 ht hvm hw hB hz1 hk1 hS1 => ?_)
  obtain ⟨X', dd', nn', ss', ll', gg'⟩ := u
  obtain ⟨z, rfl, hp⟩ := hw
  obtain ⟨g1, g2, g3⟩ := e_back hG hV hA ht hS1 hB
  exact W.retake g3 (kk z X' dd' nn' ss' ll' gg' H1 locs1 hp g1 g2)
theorem e_callsv (E : CallFix p m c cc nL s args (c0 :: w0c) own) {y : MethodName} {bytes : ByteArray} {maxL n f kl : Nat} {ret : Option FieldType} {As : List Value} {P : va_W → (Nat → Nat) → (Nat → Int) → (Nat → Int) → (Nat → Nat) → (Nat → Int → Int) → Prop}
    (hM : Met l y (Cond.code y bytes maxL ret :: w0c) (eRm f kl LB ll k2 n2) (cPc dC dI cx LB X dd nn ss ll gg H As) (eQv dC dI cx LB (va_A (bW (cx 0) LB dd nn ss ll gg X) H.size) ll H k2 n2 P) (cMc LB ll + k2) (2 * cMc LB ll + n2) (va_A (bW (cx 0) LB dd nn ss ll gg X) H.size)) (cw : CallB R s args own index y bytes maxL ret (Cond.code y bytes maxL ret :: w0c) (eRm f kl LB ll k2 n2) (cMc LB ll + k2) (2 * cMc LB ll + n2) n ∧ (Cond.static y).before args s = true)
    (hK : va_K (dC, dI) ccl (cty cx) s) (hV : cV dC dI cx LB A s.heap ll0 X dd nn ss ll gg H locs) (hA : ∀ q, s.heap.size ≤ q → A q) (hR : R.cells = cMc LB ll0 + K ∧ R.slots = 2 * cMc LB ll0 + N) (hkn : k1 + k2 ≤ K ∧ n1 + n2 ≤ N) (hn : As.length = n) (hl : ls.size = nL) (hW : (rest.map fun v => v.category).sum ≤ 8) (hd : decode cc pc = .ok (.invokestatic index, 3))
    (kk : ∀ (X' : va_W) (dd' : Nat → Nat) (nn' ss' : Nat → Int) (ll' : Nat → Nat) (gg' : Nat → Int → Int) (H1 : Heap) (locs1 : List Loc), P X' dd' nn' ss' ll' gg' → cV dC dI cx LB A s.heap ll0 X' dd' nn' ss' ll' gg' H1 locs1 → (∀ b ∈ LB, ll b ≤ ll' b) → W p l e R s m args below meth c H1 locs1 (cP LB ll' - cP LB ll0 + (k1 + k2)) (2 * (cP LB ll' - cP LB ll0) + (n1 + n2)) Q (F0 m (pc + 3) ls rest)) : W p l e R s m args below meth c H locs (cP LB ll - cP LB ll0 + k1) (2 * (cP LB ll - cP LB ll0) + n1) Q (F0 m pc ls (As.reverse ++ rest)) := by
  refine W.know fun hG => ?_
  have hb := cV_bd hV
  refine va_callv (va_runS (As := As) (rest := rest) E hM cw ⟨c_blind, fun U hU hW => ⟨rfl, hU, by rw [hU]; exact hV.1, va_K.moved hW.alike hK, hV.2.1.weaken (fun _ _ _ _ => trivial), hV.2.2.2.2⟩⟩ rfl hn hl rfl (lv_room hW) hd (by rw [hR.1, hR.2]; unfold cMc; omega)) hV.2.2.1 (fun q _ h => c_sub hV hA q h) (c_sub hV hA) (fun u t H1 locs1 ht hvm hw hB hz1 hk1 hS1 => ?_)
  obtain ⟨X', dd', nn', ss', ll', gg'⟩ := u
  obtain ⟨g1, g2, g3⟩ := e_back hG hV hA ht hS1 hB
  exact W.retake g3 (kk X' dd' nn' ss' ll' gg' H1 locs1 hw g1 g2)
theorem e_room (hV : cV dC dI cx LB A H0 ll0 X dd nn ss ll gg H locs) (hR : R.cells = cMc LB ll0 + K ∧ R.slots = 2 * cMc LB ll0 + N) (hkn : k1 ≤ K ∧ n1 ≤ N) : cP LB ll - cP LB ll0 + k1 ≤ R.cells ∧ 2 * (cP LB ll - cP LB ll0) + n1 ≤ R.slots := by
  have h1 := cV_bd hV
  rw [hR.1, hR.2]
  unfold cMc
  omega
theorem e_end (hK : va_K (dC, dI) ccl (cty cx) s) (hV : cV dC dI cx LB A s.heap ll0 X dd nn ss ll gg H locs) (hG : cG s.heap H (cP LB ll - cP LB ll0 + k1) (2 * (cP LB ll - cP LB ll0) + n1)) (hkn : k1 ≤ K ∧ n1 ≤ N) {t : State} (ht : t.heap = H) (hW : s.WarmedH t.vm) : eBk dC dI cx LB A ll0 s.heap K N (X, dd, nn, ss, ll, gg) t :=
  ⟨by rw [ht]; exact hV.1, va_K.moved hW.alike hK, hV.2.1, fun b hb => ⟨hV.2.2.2.1 b hb, (hV.2.2.2.2 b hb).2⟩, by rw [ht]; exact cG_le hG (Nat.add_le_add_left hkn.1 _) (Nat.add_le_add_left hkn.2 _)⟩
theorem e_vret (hx : p.tables.exec = Jvm.exec) (hb : c.code = cc) (hr : meth.sig.returnType = none) {P : va_W → (Nat → Nat) → (Nat → Int) → (Nat → Int) → (Nat → Nat) → (Nat → Int → Int) → Prop} (hK : va_K (dC, dI) ccl (cty cx) s) (hV : cV dC dI cx LB A s.heap ll0 X dd nn ss ll gg H locs) (hkn : k1 ≤ K ∧ n1 ≤ N) (hp : P X dd nn ss ll gg) (hd : decode cc pc = .ok (.return_, 1)) (hlocks : meth.locks = false) : W p l e R s m args below meth c H locs (cP LB ll - cP LB ll0 + k1) (2 * (cP LB ll - cP LB ll0) + n1) (MQ below (eQv dC dI cx LB A ll0 s.heap K N P) args s (cMc LB ll0 + K) (2 * cMc LB ll0 + N) A) (F0 m pc ls []) := by
  refine W.know fun hG => ?_
  have h1 := cV_bd hV
  refine W.widen (k := cMc LB ll0 + K) (n := 2 * cMc LB ll0 + N) (by unfold cMc; omega) (by unfold cMc; omega) ?_
  exact W.vret hx hb hr (fun t ht hW => ⟨⟨(X, dd, nn, ss, ll, gg), rfl, hp, e_end hK hV hG hkn ht hW⟩, hV.2.2.1.F ht⟩) hV.2.2.1.2.2 hd hlocks
theorem e_iret (hx : p.tables.exec = Jvm.exec) (hb : c.code = cc) (hr : meth.sig.returnType = some .int) {P : Int → va_W → (Nat → Nat) → (Nat → Int) → (Nat → Int) → (Nat → Nat) → (Nat → Int → Int) → Prop} (hK : va_K (dC, dI) ccl (cty cx) s) (hV : cV dC dI cx LB A s.heap ll0 X dd nn ss ll gg H locs) (hkn : k1 ≤ K ∧ n1 ≤ N) {z : Int} (hp : P z X dd nn ss ll gg) (hd : decode cc pc = .ok (.ireturn, 1)) (hlocks : meth.locks = false) : W p l e R s m args below meth c H locs (cP LB ll - cP LB ll0 + k1) (2 * (cP LB ll - cP LB ll0) + n1) (MQ below (eQi dC dI cx LB A ll0 s.heap K N P) args s (cMc LB ll0 + K) (2 * cMc LB ll0 + N) A) (F0 m pc ls [Iz z]) := by
  refine W.know fun hG => ?_
  have h1 := cV_bd hV
  refine W.widen (k := cMc LB ll0 + K) (n := 2 * cMc LB ll0 + N) (by unfold cMc; omega) (by unfold cMc; omega) ?_
  exact W.iret (v := Int32.ofInt z) hx hb hr (fun t ht hW => ⟨⟨_, (X, dd, nn, ss, ll, gg), rfl, ⟨z, rfl, hp⟩, e_end hK hV hG hkn ht hW⟩, hV.2.2.1.F ht⟩) hV.2.2.1.2.2 hd hlocks
/-- a new row of longs -/
theorem y_newl (E : CallFix p m c cc nL s args (c0 :: w0c) own) (hK : va_K (dC, dI) ccl (cty cx) s) (hV : cV dC dI cx LB A s.heap ll0 (pW cx LP pc_ pd co X) dd nn ss ll gg H locs) (hA : ∀ q, s.heap.size ≤ q → A q) {z : Int} (h0 : 0 ≤ z) (h1 : z ≤ 400) (hcells : cells + 1 ≤ R.cells) (hslots : slots + z.toNat ≤ R.slots) (hd : decode cc pc = .ok (.newarray .long, 2)) (kk : ∀ (q0 : Nat) (H1 : Heap), (∀ q ∈ X, q.1 ≠ q0) → cV dC dI cx LB A s.heap ll0 (pW cx LP pc_ pd co (X ++ [(q0, .inl (cx 1, z.toNat, .inr (.inl (jm (fun _ => 0)))))])) dd nn ss ll gg H1 locs → W p l e R s m args below meth c H1 locs (cells + 1) (slots + z.toNat) Q (F0 m (pc + 2) ls (.ref q0 :: rest))) : W p l e R s m args below meth c H locs cells slots Q (F0 m pc ls (Iz z :: rest)) := by
  have hz : (Int32.ofInt z).toNatClampNeg = z.toNat := g_nat h0 (by omega)
  have hneg : ¬ Int32.ofInt z < 0 := fun q => by
    have h3 : Int32.ofInt z < Int32.ofInt 0 := q
    rw [g_lt ⟨by omega, by omega⟩ ⟨by decide, by decide⟩] at h3
    omega
  refine va_newa (atype := .long) (ty := .long) (N' := z.toNat) (a0 := (z.toNat, .inr (.inl (jm (fun _ => 0))))) E.1 E.2.1 (E.2.2.2.2 _ (List.mem_cons_of_mem _ car_long)) rfl hK hV.1 hV.2.1 hV.2.2.1 hA (fun cA => ?_) hneg hz (by show z.toNat * 8 ≤ 536870912; omega) hcells hslots hd (fun q0 cA H1 k1 k2 k3 k4 => ?_)
  · exact rfl
  · have e1 := (k1.2 6 (cA, .long) rfl).2
    have e2 := (hK.2 1 (cx 1, .long) rfl).2
    have e3 : cA = cx 1 := Option.some.inj ((show s.vm.findClass ("[" ++ FieldType.long.toString) = some cA from e1).symm.trans e2)
    subst e3
    have ew : bW (cx 0) LB dd nn ss ll gg (pW cx LP pc_ pd co (X ++ [(q0, .inl (cx 1, z.toNat, .inr (.inl (jm (fun _ => 0)))))])) = bW (cx 0) LB dd nn ss ll gg (pW cx LP pc_ pd co X) ++ [(q0, .inl (cx 1, z.toNat, .inr (.inl (jm (fun _ => 0)))))] := by
      unfold bW pW
      rw [List.append_assoc, List.append_assoc, List.append_assoc, List.append_assoc]
    have hV1 : cV dC dI cx LB A s.heap ll0 (pW cx LP pc_ pd co (X ++ [(q0, .inl (cx 1, z.toNat, .inr (.inl (jm (fun _ => 0)))))])) dd nn ss ll gg H1 locs := ⟨by rw [ew]; exact k2, by rw [ew]; exact k3, k4, hV.2.2.2⟩
    refine kk q0 H1 (fun q hq w => ?_) hV1
    have hD := (va_D_iff.mp hV1.2.1).1
    rw [bW_fst, List.nodup_append, List.nodup_append, pW_fst, List.nodup_append, List.nodup_append] at hD
    obtain ⟨-, ⟨-, ⟨hp, ⟨hp1, hp2, hp3⟩, hp4⟩, -⟩, -⟩ := hD
    rw [List.map_append, List.nodup_append] at hp2
    exact hp2.2.2 q.1 (List.mem_map_of_mem hq) q0 List.mem_cons_self w
/-- new entries and fields, all else told by what stays -/
theorem y_last3 (hx : p.tables.exec = Jvm.exec) (hc : c.code = cc) (hK : va_K (dC, dI) ccl (cty cx) s) (hV : cV dC dI cx LB A H0 ll0 (pW cx LP pc_ pd co X) dd nn ss ll gg H locs) {a n : Nat} {f : Int → Int} (hm : (a, (.inl (cx 1, n, .inr (.inl (jm f))) : va_E)) ∈ X) {z v : Int} (h0 : 0 ≤ z) (h1 : z < n) (hn : n ≤ 2147483648) (hd : decode cc pc = .ok (.lastore, 1)) (kk : ∀ (H1 : Heap) (locs1 : List Loc) (X3 : va_W), (a, (.inl (cx 1, n, .inr (.inl (jm (iup f z v)))) : va_E)) ∈ X3 → (∀ q ∈ X, q.1 ≠ a → q ∈ X3) → cV dC dI cx LB A H0 ll0 (pW cx LP pc_ pd co X3) dd nn ss ll gg H1 locs1 → W p l e R s m args below meth c H1 locs1 cells slots Q (F0 m (pc + 1) ls rest)) : W p l e R s m args below meth c H locs cells slots Q (F0 m pc ls (Jz v :: Iz z :: .ref a :: rest)) :=
  y_last hx hc hK hV hm h0 h1 hn rfl hd (fun H1 locs1 hV1 => kk H1 locs1 _ (wup_self hm) (fun _ hq hne => wup_ne hq hne) hV1)
/-- a contract of the plain room, told with more room -/
theorem e0v {y : MethodName} {ws : List Cond} {f kl : Nat} {Pc : Array Value → State → Prop} {P : va_W → (Nat → Nat) → (Nat → Int) → (Nat → Int) → (Nat → Nat) → (Nat → Int → Int) → Prop} {fr : Addr → Prop} (h : Met l y ws (cRm f kl LB ll) Pc (cQv dC dI cx LB A ll H0 P) (cMc LB ll) (2 * cMc LB ll) fr) : Met l y ws (eRm f kl LB ll 0 0) Pc (eQv dC dI cx LB A ll H0 0 0 P) (cMc LB ll + 0) (2 * cMc LB ll + 0) fr := h
theorem e0i {y : MethodName} {ws : List Cond} {f kl : Nat} {Pc : Array Value → State → Prop} {P : Int → va_W → (Nat → Nat) → (Nat → Int) → (Nat → Int) → (Nat → Nat) → (Nat → Int → Int) → Prop} {fr : Addr → Prop} (h : Met l y ws (cRm f kl LB ll) Pc (cQi dC dI cx LB A ll H0 P) (cMc LB ll) (2 * cMc LB ll) fr) : Met l y ws (eRm f kl LB ll 0 0) Pc (eQi dC dI cx LB A ll H0 0 0 P) (cMc LB ll + 0) (2 * cMc LB ll + 0) fr := h
theorem e0l {y : MethodName} {ws : List Cond} {f kl : Nat} {Pc : Array Value → State → Prop} {P : Int → va_W → (Nat → Nat) → (Nat → Int) → (Nat → Int) → (Nat → Nat) → (Nat → Int → Int) → Prop} {fr : Addr → Prop} (h : Met l y ws (cRm f kl LB ll) Pc (cQl dC dI cx LB A ll H0 P) (cMc LB ll) (2 * cMc LB ll) fr) : Met l y ws (eRm f kl LB ll 0 0) Pc (eQl dC dI cx LB A ll H0 0 0 P) (cMc LB ll + 0) (2 * cMc LB ll + 0) fr := h
end CExt
