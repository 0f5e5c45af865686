set_option maxHeartbeats 4000000 in
set_option maxRecDepth 100000 in
theorem kJ7_fill {l : Launch} {dC : Nat → ClassId} {dI : Nat → Nat → Nat} {cx : Nat → Nat} {LB LP : List Nat} {pc_ : Nat → Nat} {pd : Nat → Int} {co : Nat → Nat → Nat} {X : va_W} {dd : Nat → Nat} {nn ss : Nat → Int} {ll : Nat → Nat} {gg : Nat → Int → Int} {H0 : Heap} {a n : Nat} {f : Int → Int} {x : Int} (hm : (a, (.inl (cx 1, n, .inr (.inl (jm f))) : va_E)) ∈ X) (hn : n ≤ 1000) : Met l yJ7_fill_d0a16 (Cond.code yJ7_fill_d0a16 cJ7_fill_d0a16 5 none :: w0c) (cRm 0 0 LB ll) (cPc dC dI cx LB (pW cx LP pc_ pd co X) dd nn ss ll gg H0 [.ref a, Jz x]) (cQv dC dI cx LB (va_A (bW (cx 0) LB dd nn ss ll gg (pW cx LP pc_ pd co X)) H0.size) ll H0 (fun X' dd' nn' ss' ll' gg' => dd' = dd ∧ nn' = nn ∧ ss' = ss ∧ ll' = ll ∧ gg' = gg ∧ ∃ f' : Int → Int, X' = pW cx LP pc_ pd co (wup X a (.inl (cx 1, n, .inr (.inl (jm f'))))) ∧ ∀ t : Int, 0 ≤ t → t < n → f' t = x)) (cMc LB ll) (2 * cMc LB ll) (va_A (bW (cx 0) LB dd nn ss ll gg (pW cx LP pc_ pd co X)) H0.size) := by
  refine Met.ofW (cc := cJ7_fill_d0a16) (maxL := 5) (ret := none) (by decide) rfl ?_
  intro p e s m args below meth c s₁ B hml hv
  obtain ⟨rfl, hH0, hP, hK, hD0, hC0⟩ := hv
  have hx := B.exec
  have hb := B.bytes
  have hr := B.returns
  have hts := atoms_spec (ws := Cond.code yJ7_fill_d0a16 cJ7_fill_d0a16 5 none :: w0c) B.pre
  have hown : s.vm.findClass RJ7 = some m.cls := findClass_of_methodNamed B.named
  have hlocks := B.notSynchronized
  subst hH0
  have hD := va_D.self (sz := s.heap.size) hD0
  have hA : ∀ q : Nat, s.heap.size ≤ q → va_A (bW (cx 0) LB dd nn ss ll gg (pW cx LP pc_ pd co X)) s.heap.size q := fun q h => Or.inr h
  have hV : cV dC dI cx LB (va_A (bW (cx 0) LB dd nn ss ll gg (pW cx LP pc_ pd co X)) s.heap.size) s.heap ll (pW cx LP pc_ pd co X) dd nn ss ll gg s.heap [] := ⟨hP, hD, va_S.rf, fun _ _ => Nat.le_refl _, hC0⟩
  refine W.widen (k := cP LB ll - cP LB ll) (n := 2 * (cP LB ll - cP LB ll)) (Nat.zero_le _) (Nat.zero_le _) ?_
  have hl := lv_entry ([.ref a, Jz x]) (n := 5) (Nat.le_of_ble_eq_true rfl)
  rw [lg_entry_eq]
  generalize (lg_sl ([.ref a, Jz x]) ++ List.replicate (5 - (lg_sl ([.ref a, Jz x])).length) Slot.unset).toArray = ls at hl ⊢
  have hl : lv_has ls 5 [(0, .ref a), (1, Jz x)] := hl
  refine lv_iconst (v := Int32.ofInt (0)) hx hb dJ7_fill_d0a16_0 (by decide) ?_
  refine lv_istore_n (lv' := [(3, Iz (0)), (0, .ref a), (1, Jz x)]) hx hb dJ7_fill_d0a16_1 rfl hl (by decide) rfl (fun ls hl => ?_)
  refine lv_aload_n hx hb dJ7_fill_d0a16_2 rfl (lv_at hl 1 rfl) ?_
  refine y_alen hx hb hK hV (t0 := 1) rfl (pW_x hm) dJ7_fill_d0a16_3 ?_
  refine lv_istore (lv' := [(4, Iz (n : Int)), (3, Iz (0)), (0, .ref a), (1, Jz x)]) hx hb dJ7_fill_d0a16_4 hl (by decide) rfl (fun ls hl => ?_)
  refine r_loop (P := fun N_ H locs ls => ∃ h : Int → Int, ∃ i : Int, N_ = ((n : Int) - i).toNat ∧ (0 ≤ i) ∧ (i ≤ n) ∧ (∀ t : Int, 0 ≤ t → t < i → h t = x) ∧ cV dC dI cx LB (va_A (bW (cx 0) LB dd nn ss ll gg (pW cx LP pc_ pd co X)) s.heap.size) s.heap ll (pW cx LP pc_ pd co (wup X a (.inl (cx 1, n, .inr (.inl (jm h)))))) dd nn ss ll gg H locs ∧ lv_has ls 5 [(0, .ref a), (1, Jz x), (3, Iz i), (4, Iz (n : Int))]) (g := fun ls => F0 m 6 ls []) (fun N_ H locs ls hI ih_6 => ?_) _ _ _ _ ⟨f, 0, rfl, Int.le_refl 0, by omega, fun t p q => by omega, y_same hV hm, lv_sub hl [2, 3, 1, 0] rfl⟩
  obtain ⟨h, i, rfl, i0, i1, hf, hV, hl⟩ := hI
  refine lv_iload_n hx hb dJ7_fill_d0a16_6 rfl (lv_at hl 2 rfl) ?_
  refine lv_iload hx hb dJ7_fill_d0a16_7 (lv_at hl 3 rfl) ?_
  refine g_icmp_ge (tgt := 22) hx hb ⟨by omega, by omega⟩ ⟨by omega, by omega⟩ dJ7_fill_d0a16_9 (by decide) (fun c_9 => ?_) (fun c_9 => ?_)
  · have hpost : dd = dd ∧ nn = nn ∧ ss = ss ∧ ll = ll ∧ gg = gg ∧ ∃ f' : Int → Int, pW cx LP pc_ pd co (wup X a (.inl (cx 1, n, .inr (.inl (jm h))))) = pW cx LP pc_ pd co (wup X a (.inl (cx 1, n, .inr (.inl (jm f'))))) ∧ ∀ t : Int, 0 ≤ t → t < n → f' t = x := ⟨rfl, rfl, rfl, rfl, rfl, h, rfl, fun t p q => hf t p (by omega)⟩
    exact c_vret hx hb hr hK hV hpost dJ7_fill_d0a16_22 hlocks
  · refine lv_aload_n hx hb dJ7_fill_d0a16_12 rfl (lv_at hl 0 rfl) ?_
    refine lv_iload_n hx hb dJ7_fill_d0a16_13 rfl (lv_at hl 2 rfl) ?_
    refine lv_lload_n hx hb dJ7_fill_d0a16_14 rfl (lv_at hl 1 rfl) ?_
    refine y_last (X2 := wup X a (.inl (cx 1, n, .inr (.inl (jm (iup h i x)))))) hx hb hK hV (wup_self hm) i0 c_9 (by omega) wup_up dJ7_fill_d0a16_15 (fun H locs hV => ?_)
    refine g_iinc (k := 2) (z := i) (n := (1)) (lv' := [(3, Iz (i + 1)), (0, .ref a), (1, Jz x), (4, Iz (n : Int))]) hx hb dJ7_fill_d0a16_16 hl rfl (by decide) rfl (fun ls hl => ?_)
    refine lv_goto (tgt := 6) hx hb dJ7_fill_d0a16_19 (by decide) ?_
    exact ih_6 _ (by omega) _ _ _ ⟨iup h i x, i + 1, rfl, by omega, by omega, fun t p q => by
      by_cases w : t = i
      · rw [w, iup_self]
      · rw [iup_ne w]; exact hf t p (by omega), hV, lv_sub hl [1, 2, 0, 3] rfl⟩
