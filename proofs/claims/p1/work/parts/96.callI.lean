section CCall
variable {p : Program} {l : Launch} {e : Env} {R : Room} {s : State} {m : MethodId} {args : Array Value} {below : List Frame} {meth : Method} {c : Code} {H : Heap} {locs : List Loc} {cells slots : Nat} {Q : State → Prop}
variable {cc : ByteArray} {pc nL : Nat} {ls : Array Slot} {rest : List Value} {dC : Nat → ClassId} {dI : Nat → Nat → Nat} {cx : Nat → Nat} {LB : List Nat} {A : Nat → Prop} {H0 : Heap} {ll0 : Nat → Nat} {X : va_W} {dd : Nat → Nat} {nn ss : Nat → Int} {ll : Nat → Nat} {gg : Nat → Int → Int} {c0 : Cond} {own : String} {a index : Nat}
variable {LP : List Nat} {pc_ : Nat → Nat} {pd : Nat → Int} {co : Nat → Nat → Nat}
/-- a constructor called on an object just made, of which one cell is told -/
theorem y_callI (E : CallFix p m c cc nL s args (c0 :: w0c) own) {y : MethodName} {bytes : ByteArray} {maxL n f kl mc ms q : Nat} {e0 : va_E} {As : List Value} {P : List nQt → List (Nat × Nat) → va_W → Prop}
    (hM : Met l y (Cond.code y bytes maxL none :: w0c) (nRm f kl mc ms) (nPc dC dI cx q e0 H As) (nQv dC dI cx q e0 H P) mc ms (va_A [(q, e0)] H.size)) (cw : CallB R s args own index y bytes maxL none (Cond.code y bytes maxL none :: w0c) (nRm f kl mc ms) mc ms n ∧ y.name = "<init>" ∧ (Cond.instanceMethod y).before args s = true)
    (hK : va_K (dC, dI) ccl (cty cx) s) (hC : CN s) (hV : cV dC dI cx LB A s.heap ll0 (pW cx LP pc_ pd co (X ++ [(q, e0)])) dd nn ss ll gg H locs) (hA : ∀ q, s.heap.size ≤ q → A q) (hn : As.length = n) (hl : ls.size = nL) (hW : (rest.map fun v => v.category).sum ≤ 8) (hd : decode cc pc = .ok (.invokespecial index, 3)) (hroom : cells + mc ≤ R.cells ∧ slots + ms ≤ R.slots) {T : va_E → Prop} (hsel : ∀ Qs2 Ps2 X2, P Qs2 Ps2 X2 → ∃ e1 : va_E, T e1 ∧ (q, e1) ∈ gW cx Qs2 Ps2 X2)
    (kk : ∀ (e1 : va_E) (H1 : Heap) (locs1 : List Loc), T e1 → cV dC dI cx LB A s.heap ll0 (pW cx LP pc_ pd co (X ++ [(q, e1)])) dd nn ss ll gg H1 locs1 → W p l e R s m args below meth c H1 locs1 (cells + mc) (slots + ms) Q (F0 m (pc + 3) ls rest)) : W p l e R s m args below meth c H locs cells slots Q (F0 m pc ls (As.reverse ++ .ref q :: rest)) := by
  have hP0 := hV.1
  have hD0 := hV.2.1
  rw [ap_end] at hP0 hD0
  have nd := (va_D_iff.mp hD0).1
  rw [List.map_append, List.nodup_append] at nd
  have hlast : va_P (dC, dI) ccl [(q, e0)] H := va_P_iff.mpr fun x hx => va_P_iff.mp hP0 x (List.mem_append_right _ hx)
  have hfree : ∀ x, va_A [(q, e0)] H.size x → A x := fun x w => by
    rcases w with ⟨k, ee, hk⟩ | w
    · have := List.mem_of_getElem? hk
      rw [List.mem_singleton] at this
      rw [show x = q from congrArg Prod.fst this]
      exact (va_D_iff.mp hD0).2 (q, e0) (List.mem_append_right _ List.mem_cons_self)
    · exact hA x (Nat.le_trans hV.2.2.1.1 w)
  refine va_callv (va_runI (As := As) (rest := rest) E hM cw ⟨n_blind, fun U hU hW => ⟨rfl, hU, by rw [hU]; exact hlast, va_K.moved hW.alike hK, CN.moved hW hC⟩⟩ rfl hn hl rfl (lv_room hW) hd hroom) hV.2.2.1 (fun x _ h => hfree x h) hfree (fun u t H1 locs1 ht hvm hw hB hz1 hk1 hS1 => ?_)
  obtain ⟨Qs2, Ps2, X2⟩ := u
  obtain ⟨g1, -, -⟩ := hB
  rw [ht] at g1
  obtain ⟨e1, hT, he1⟩ := hsel Qs2 Ps2 X2 hw
  refine kk e1 H1 locs1 hT ⟨?_, ?_, hS1, hV.2.2.2⟩
  · rw [ap_end]
    refine va_P_iff.mpr fun x hx => ?_
    rcases List.mem_append.mp hx with hx | hx
    · refine (va_P_iff.mp hP0 x (List.mem_append_left _ hx)).kept (hk1 x.1 (va_P_iff.mp hP0 x (List.mem_append_left _ hx)).lt (fun w => ?_))
      rcases w with ⟨k, ee, hk⟩ | w
      · have := List.mem_of_getElem? hk
        rw [List.mem_singleton] at this
        exact nd.2.2 x.1 (List.mem_map_of_mem hx) q List.mem_cons_self (congrArg Prod.fst this)
      · have := (va_P_iff.mp hP0 x (List.mem_append_left _ hx)).lt; omega
    · rw [List.mem_singleton] at hx
      rw [hx]
      exact va_P_iff.mp g1 _ he1
  · rw [ap_end]
    refine va_D_iff.mpr ⟨?_, fun x hx => ?_⟩
    · have h := (va_D_iff.mp hD0).1
      rw [List.map_append] at h ⊢
      exact h
    · rcases List.mem_append.mp hx with hx | hx
      · exact (va_D_iff.mp hD0).2 x (List.mem_append_left _ hx)
      · rw [List.mem_singleton] at hx
        rw [hx]
        exact (va_D_iff.mp hD0).2 (q, e0) (List.mem_append_right _ List.mem_cons_self)
end CCall
