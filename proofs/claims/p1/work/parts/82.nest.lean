section CNest
abbrev cPn (dC : Nat → ClassId) (dI : Nat → Nat → Nat) (cx : Nat → Nat) (LB : List Nat) (X : va_W) (dd : Nat → Nat) (nn ss : Nat → Int) (ll : Nat → Nat) (gg : Nat → Int → Int) (H0 : Heap) (As : List Value) : Array Value → State → Prop :=
  va_Pc As (fun U => U.heap = H0 ∧ va_P (dC, dI) ccl (bW (cx 0) LB dd nn ss ll gg X) U.heap ∧ va_K (dC, dI) ccl (cty cx) U ∧ va_D (fun _ => True) (bW (cx 0) LB dd nn ss ll gg X) ∧ (∀ b ∈ LB, 5 ≤ ll b ∧ ll b ≤ 400) ∧ CN U)
variable {p : Program} {l : Launch} {e : Env} {R : Room} {s : State} {m : MethodId} {args : Array Value} {below : List Frame} {meth : Method} {c : Code} {H : Heap} {locs : List Loc} {cells slots : Nat} {Q : State → Prop}
variable {cc : ByteArray} {pc nL : Nat} {ls : Array Slot} {rest : List Value} {dC : Nat → ClassId} {dI : Nat → Nat → Nat} {cx : Nat → Nat} {LB : List Nat} {A : Nat → Prop} {H0 : Heap} {ll0 : Nat → Nat} {X : va_W} {dd : Nat → Nat} {nn ss : Nat → Int} {ll : Nat → Nat} {gg : Nat → Int → Int} {c0 : Cond} {own : String} {a index : Nat}
variable {k1 n1 k2 n2 K N : Nat}
theorem c_blindN {As : List Value} {H1 : Heap} : FrameBlind (cPn dC dI cx LB X dd nn ss ll gg H1 As) := fun a U g mk q => by
  obtain ⟨q0, q1, qP, qK, qD, qL, qC⟩ := q
  exact ⟨q0, q1, qP, va_K.moved (u := U) (U := U.calling g mk a) (Vm.Alike.refl U.vm) qK, qD, qL, CN.same (u := U) (U := U.calling g mk a) rfl qC⟩
theorem e_calliC (E : CallFix p m c cc nL s args (c0 :: w0c) own) {y : MethodName} {bytes : ByteArray} {maxL n h f kl : Nat} {ret : Option FieldType} {Cn : String} {As : List Value} {P : Int → va_W → (Nat → Nat) → (Nat → Int) → (Nat → Int) → (Nat → Nat) → (Nat → Int → Int) → Prop}
    (hM : Met l y (Cond.code y bytes maxL ret :: w0c) (eRm f kl LB ll k2 n2) (cPn dC dI cx LB X dd nn ss ll gg H (.ref h :: As)) (eQi dC dI cx LB (va_A (bW (cx 0) LB dd nn ss ll gg X) H.size) ll H k2 n2 P) (cMc LB ll + k2) (2 * cMc LB ll + n2) (va_A (bW (cx 0) LB dd nn ss ll gg X) H.size)) (cw : CallW R s args own Cn index y bytes maxL ret (Cond.code y bytes maxL ret :: w0c) (eRm f kl LB ll k2 n2) (cMc LB ll + k2) (2 * cMc LB ll + n2) n) (hrecv : ∃ cell : Cell, H[h]? = some cell ∧ cell.vm.isStatics = false ∧ s.vm.findClass Cn = some cell.cls)
    (hK : va_K (dC, dI) ccl (cty cx) s) (hC : CN s) (hV : cV dC dI cx LB A s.heap ll0 X dd nn ss ll gg H locs) (hA : ∀ q, s.heap.size ≤ q → A q) (hR : R.cells = cMc LB ll0 + K ∧ R.slots = 2 * cMc LB ll0 + N) (hkn : k1 + k2 ≤ K ∧ n1 + n2 ≤ N) (hn : As.length = n) (hl : ls.size = nL) (hW : (rest.map fun v => v.category).sum ≤ 8) (hd : decode cc pc = .ok (.invokevirtual index, 3))
    (kk : ∀ (z : Int) (X' : va_W) (dd' : Nat → Nat) (nn' ss' : Nat → Int) (ll' : Nat → Nat) (gg' : Nat → Int → Int) (H1 : Heap) (locs1 : List Loc), P z X' dd' nn' ss' ll' gg' → cV dC dI cx LB A s.heap ll0 X' dd' nn' ss' ll' gg' H1 locs1 → (∀ b ∈ LB, ll b ≤ ll' b) → W p l e R s m args below meth c H1 locs1 (cP LB ll' - cP LB ll0 + (k1 + k2)) (2 * (cP LB ll' - cP LB ll0) + (n1 + n2)) Q (F0 m (pc + 3) ls (Iz z :: rest))) : W p l e R s m args below meth c H locs (cP LB ll - cP LB ll0 + k1) (2 * (cP LB ll - cP LB ll0) + n1) Q (F0 m pc ls (As.reverse ++ .ref h :: rest)) := by
  refine W.know fun hG => ?_
  have hb := cV_bd hV
  refine va_calli (va_runV (As := As) (rest := rest) E hM cw ⟨c_blindN, hrecv, fun U hU hW => ⟨rfl, hU, by rw [hU]; exact hV.1, va_K.moved hW.alike hK, hV.2.1.weaken (fun _ _ _ _ => trivial), hV.2.2.2.2, CN.moved hW hC⟩⟩ rfl hn hl rfl (lv_room hW) hd (by rw [hR.1, hR.2]; unfold cMc; omega)) hV.2.2.1 (fun q _ h => c_sub hV hA q h) (c_sub hV hA) (fun r u t H1 locs1 ht hvm hw hB hz1 hk1 hS1 => ?_)
  obtain ⟨X', dd', nn', ss', ll', gg'⟩ := u
  obtain ⟨z, rfl, hp⟩ := hw
  obtain ⟨g1, g2, g3⟩ := e_back hG hV hA ht hS1 hB
  exact W.retake g3 (kk z X' dd' nn' ss' ll' gg' H1 locs1 hp g1 g2)
end CNest
