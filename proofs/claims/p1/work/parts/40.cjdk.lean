section CJdk
/-- the first n of f, behind them g -/
def cpf (f g : Int → Int) (n : Int) : Int → Int := fun i => if i < n then f i else g i
theorem cpf_im (f g : Int → Int) {n : Int} (h0 : 0 ≤ n) (h1 : n < 2147483648) : va_cpy (im f) (im g) (Int32.ofInt 0).toNatClampNeg (Int32.ofInt 0).toNatClampNeg (Int32.ofInt n).toNatClampNeg = im (cpf f g n) := by
  funext k
  have e0 : (Int32.ofInt 0).toNatClampNeg = 0 := g_nat (by decide) (by decide)
  rw [e0, g_nat h0 h1]
  unfold va_cpy im cpf
  by_cases q : (k : Int) < n
  · rw [if_pos ⟨Nat.zero_le _, by omega⟩, if_pos q, show 0 + (k - 0) = k by omega]
  · rw [if_neg (by omega), if_neg q]
variable {p : Program} {l : Launch} {e : Env} {R : Room} {s : State} {m : MethodId} {args : Array Value} {below : List Frame} {meth : Method} {c : Code} {H : Heap} {locs : List Loc} {cells slots : Nat} {Q : State → Prop}
variable {cc : ByteArray} {pc nL : Nat} {ls : Array Slot} {rest : List Value} {dC : Nat → ClassId} {dI : Nat → Nat → Nat} {cx : Nat → Nat} {LB : List Nat} {A : Nat → Prop} {H0 : Heap} {ll0 : Nat → Nat} {X : va_W} {dd : Nat → Nat} {nn ss : Nat → Int} {ll : Nat → Nat} {gg : Nat → Int → Int} {c0 : Cond} {own : String} {b index : Nat}
theorem t_acopy (E : CallFix p m c cc nL s args (c0 :: w0c) own) (hls : ls.size = nL) (hlink : Cond.methodLink own index arraycopyName ∈ w0c) (hfr : 1 ≤ R.frames) (hlo : (rest.map fun v => v.category).sum + (nativeFrameWords "java/lang/System" "arraycopy" 5 + 11) ≤ R.locals) (hK : va_K (dC, dI) ccl (cty cx) s) (hV : cV dC dI cx LB A H0 ll0 X dd nn ss ll gg H locs) {a : Nat} (ha : a ∈ LB) (hb : b ∈ LB) {d1 d2 : Nat} {n : Int} {f : Int → Int} {gf : Nat → Int → Int} (e1 : dd a = d1) (e2 : dd b = d2) (ef : gg b = f) (eg : va_up gg b (cpf (gg a) f n) = gf) {ka kb : Nat} (el : ll a = ka) (el2 : ll b = kb) (h0 : 0 ≤ n) (h1 : n ≤ ka) (h2 : n ≤ kb) (hd : decode cc pc = .ok (.invokestatic index, 3)) (kk : ∀ (H1 : Heap) (locs1 : List Loc), cV dC dI cx LB A H0 ll0 X dd nn ss ll gf H1 locs1 → W p l e R s m args below meth c H1 locs1 cells slots Q (F0 m (pc + 3) ls rest)) : W p l e R s m args below meth c H locs cells slots Q (F0 m pc ls (Iz n :: Iz 0 :: .ref d2 :: Iz 0 :: .ref d1 :: rest)) := by
  subst e1; subst e2; subst ef; subst eg; subst el; subst el2
  have hw : ∀ w ∈ w0c, w.before args s = true := fun w h => E.2.2.2.2 w (List.mem_cons_of_mem _ h)
  obtain ⟨k1, hk1⟩ := List.getElem?_of_mem (bW_r (cI := cx 0) (dd := dd) (nn := nn) (ss := ss) (ll := ll) (gg := gg) (X := X) ha)
  obtain ⟨k2, hk2⟩ := List.getElem?_of_mem (bW_r (cI := cx 0) (dd := dd) (nn := nn) (ss := ss) (ll := ll) (gg := gg) (X := X) hb)
  have ca := (hV.2.2.2.2 a ha).2
  have hz : (Int32.ofInt 0).toNatClampNeg = 0 := g_nat (by decide) (by decide)
  have hn : (Int32.ofInt n).toNatClampNeg = n.toNat := g_nat h0 (by omega)
  have hneg : ¬ Int32.ofInt n < 0 := fun q => by
    have h3 : Int32.ofInt n < Int32.ofInt 0 := q
    rw [g_lt ⟨by omega, by omega⟩ ⟨by decide, by decide⟩] at h3
    omega
  refine va_copyi E.1 E.2.1 (E.2.2.1.trans hls.symm) E.2.2.2.1 (hw _ hlink) (hw _ cv_arraycopyName) (hw _ ct_arraycopyName) (hw _ cn_java_lang_System) hK hV.1 hV.2.1 hV.2.2.1 k1 k2 0 0 hk1 hk2 rfl rfl rfl (by decide) (by decide) hneg (by rw [hz, hn]; omega) (by rw [hz, hn]; omega) (fun i _ => rfl) hfr hlo hd (fun H1 locs1 q1 q2 q3 => ?_)
  rw [cpf_im _ _ h0 (by omega)] at q1
  obtain ⟨p1, p2⟩ := bW_putR (gg' := va_up gg b (cpf (gg a) (gg b) n)) hk2 (by rw [va_up_self]; exact q1) hV.2.1 hb (fun x h => va_up_ne _ _ h)
  exact kk H1 locs1 ⟨p1, p2, q3, hV.2.2.2⟩
/-- into a row that is no number's yet -/
theorem t_acopyX (E : CallFix p m c cc nL s args (c0 :: w0c) own) (hls : ls.size = nL) (hlink : Cond.methodLink own index arraycopyName ∈ w0c) (hfr : 1 ≤ R.frames) (hlo : (rest.map fun v => v.category).sum + (nativeFrameWords "java/lang/System" "arraycopy" 5 + 11) ≤ R.locals) (hK : va_K (dC, dI) ccl (cty cx) s) {q0 N : Nat} {g : Int → Int} (hV : cV dC dI cx LB A H0 ll0 (X ++ [(q0, .inl (cx 0, N, .inl (im g)))]) dd nn ss ll gg H locs) {a : Nat} (ha : a ∈ LB) {n : Int} (h0 : 0 ≤ n) (h1 : n ≤ ll a) (h2 : n ≤ N) (hd : decode cc pc = .ok (.invokestatic index, 3)) (kk : ∀ (H1 : Heap) (locs1 : List Loc), cV dC dI cx LB A H0 ll0 (X ++ [(q0, .inl (cx 0, N, .inl (im (cpf (gg a) g n))))]) dd nn ss ll gg H1 locs1 → W p l e R s m args below meth c H1 locs1 cells slots Q (F0 m (pc + 3) ls rest)) : W p l e R s m args below meth c H locs cells slots Q (F0 m pc ls (Iz n :: Iz 0 :: .ref q0 :: Iz 0 :: .ref (dd a) :: rest)) := by
  have hw : ∀ w ∈ w0c, w.before args s = true := fun w h => E.2.2.2.2 w (List.mem_cons_of_mem _ h)
  obtain ⟨k1, hk1⟩ := List.getElem?_of_mem (bW_r (cI := cx 0) (dd := dd) (nn := nn) (ss := ss) (ll := ll) (gg := gg) (X := X ++ [(q0, .inl (cx 0, N, .inl (im g)))]) ha)
  have hX : (q0, (.inl (cx 0, N, .inl (im g)) : va_E)) ∈ X ++ [(q0, .inl (cx 0, N, .inl (im g)))] := List.mem_append_right _ List.mem_cons_self
  obtain ⟨k2, hk2⟩ := List.getElem?_of_mem (bW_x (cI := cx 0) (LB := LB) (dd := dd) (nn := nn) (ss := ss) (ll := ll) (gg := gg) hX)
  have ca := (hV.2.2.2.2 a ha).2
  have hz : (Int32.ofInt 0).toNatClampNeg = 0 := g_nat (by decide) (by decide)
  have hn : (Int32.ofInt n).toNatClampNeg = n.toNat := g_nat h0 (by omega)
  have hneg : ¬ Int32.ofInt n < 0 := fun q => by
    have h3 : Int32.ofInt n < Int32.ofInt 0 := q
    rw [g_lt ⟨by omega, by omega⟩ ⟨by decide, by decide⟩] at h3
    omega
  refine va_copyi E.1 E.2.1 (E.2.2.1.trans hls.symm) E.2.2.2.1 (hw _ hlink) (hw _ cv_arraycopyName) (hw _ ct_arraycopyName) (hw _ cn_java_lang_System) hK hV.1 hV.2.1 hV.2.2.1 k1 k2 0 0 hk1 hk2 rfl rfl rfl (by decide) (by decide) hneg (by rw [hz, hn]; omega) (by rw [hz, hn]; omega) (fun i _ => rfl) hfr hlo hd (fun H1 locs1 q1 q2 q3 => ?_)
  rw [cpf_im _ _ h0 (by omega)] at q1
  have hDX : ∀ q ∈ X, q.1 ≠ q0 := by
    have h := (va_D_iff.mp hV.2.1).1
    rw [bW_fst, List.nodup_append, List.nodup_append, List.map_append, List.nodup_append] at h
    intro q hq z
    exact h.2.1.2.1.2.2 q.1 (List.mem_map_of_mem hq) q0 List.mem_cons_self z
  obtain ⟨p1, p2⟩ := bW_putX (X' := X ++ [(q0, .inl (cx 0, N, .inl (im (cpf (gg a) g n))))]) hk2 q1 hV.2.1 hX (by rw [List.map_append, List.map_append]; rfl) (fun q hq => by
    rcases List.mem_append.mp hq with h | h
    · exact Or.inr ⟨List.mem_append_left _ h, hDX q h⟩
    · exact Or.inl (List.mem_singleton.mp h))
  exact kk H1 locs1 ⟨p1, p2, q3, hV.2.2.2⟩
/-- Arrays.copyOf of a number's row -/
theorem kJ7_copyOf {b : Nat} (mb : b ∈ LB) {N : Int} (n0 : 2 * (ll b : Int) ≤ N) (n1 : N ≤ 400) : Met l yJ7_copyOf_59c91 (Cond.code yJ7_copyOf_59c91 cJ7_copyOf_59c91 3 (some (.array .int)) :: w0c) { frames := 1, cells := 1, slots := N.toNat, locals := 40 } (cPc dC dI cx LB X dd nn ss ll gg H0 [.ref (dd b), Iz N])
    (va_Qr (fun (_ : Unit) => True) (fun _ q0 t => va_P (dC, dI) ccl (bW (cx 0) LB dd nn ss ll gg (X ++ [(q0, .inl (cx 0, N.toNat, .inl (im (cpf (gg b) (fun _ => 0) (ll b)))))])) t.heap ∧ va_K (dC, dI) ccl (cty cx) t ∧ va_D (va_A (bW (cx 0) LB dd nn ss ll gg X) H0.size) (bW (cx 0) LB dd nn ss ll gg (X ++ [(q0, .inl (cx 0, N.toNat, .inl (im (cpf (gg b) (fun _ => 0) (ll b)))))])) ∧ cG H0 t.heap 1 N.toNat) (va_A (bW (cx 0) LB dd nn ss ll gg X) H0.size)) 1 N.toNat (va_A (bW (cx 0) LB dd nn ss ll gg X) H0.size) := by
  refine Met.ofW (cc := cJ7_copyOf_59c91) (maxL := 3) (ret := (some (.array .int))) (by decide) rfl ?_
  intro p e s m args below meth c s₁ B hml hv
  obtain ⟨rfl, hH0, hP, hK, hD0, hC0⟩ := hv
  have hx := B.exec
  have hb := B.bytes
  have hr := B.returns
  have hts := atoms_spec (ws := Cond.code yJ7_copyOf_59c91 cJ7_copyOf_59c91 3 (some (.array .int)) :: w0c) B.pre
  have hown : s.vm.findClass RJ7 = some m.cls := findClass_of_methodNamed B.named
  have hlocks := B.notSynchronized
  have E : CallFix p m c cJ7_copyOf_59c91 3 s _ (Cond.code yJ7_copyOf_59c91 cJ7_copyOf_59c91 3 (some (.array .int)) :: w0c) RJ7 := ⟨hx, hb, hml, hown, hts⟩
  subst hH0
  have hD := va_D.self (sz := s.heap.size) hD0
  have hA : ∀ q : Nat, s.heap.size ≤ q → va_A (bW (cx 0) LB dd nn ss ll gg X) s.heap.size q := fun q h => Or.inr h
  have hV : cV dC dI cx LB (va_A (bW (cx 0) LB dd nn ss ll gg X) s.heap.size) s.heap ll X dd nn ss ll gg s.heap [] := ⟨hP, hD, va_S.rf, fun _ _ => Nat.le_refl _, hC0⟩
  have c5 := (hC0 b mb).1
  have hl := lv_entry ([.ref (dd b), Iz N]) (n := 3) (Nat.le_of_ble_eq_true rfl)
  rw [lg_entry_eq]
  generalize (lg_sl ([.ref (dd b), Iz N]) ++ List.replicate (3 - (lg_sl ([.ref (dd b), Iz N])).length) Slot.unset).toArray = ls at hl ⊢
  have hl : lv_has ls 3 [(0, .ref (dd b)), (1, Iz N)] := hl
  refine lv_iload_n hx hb dJ7_copyOf_59c91_0 rfl (lv_at hl 1 rfl) ?_
  refine lv_aload_n hx hb dJ7_copyOf_59c91_1 rfl (lv_at hl 0 rfl) ?_
  refine t_len hx hb hK hV mb rfl rfl dJ7_copyOf_59c91_2 ?_
  refine g_icmp_ne (tgt := 14) hx hb ⟨by omega, by omega⟩ ⟨by omega, by omega⟩ dJ7_copyOf_59c91_3 (by decide) (fun _ => ?_) (fun q => by omega)
  refine lv_iload_n hx hb dJ7_copyOf_59c91_14 rfl (lv_at hl 1 rfl) ?_
  refine b_new E hK hV hA (by omega) n1 (Nat.le_refl 1) (by show 0 + N.toNat ≤ N.toNat; omega) dJ7_copyOf_59c91_15 (fun q0 H hV => ?_)
  refine lv_astore_n (lv' := [(2, .ref q0), (0, .ref (dd b)), (1, Iz N)]) hx hb dJ7_copyOf_59c91_17 rfl hl (by decide) rfl (fun ls hl => ?_)
  refine lv_aload_n hx hb dJ7_copyOf_59c91_18 rfl (lv_at hl 1 rfl) ?_
  refine lv_iconst (v := Int32.ofInt (0)) hx hb dJ7_copyOf_59c91_19 (by decide) ?_
  refine lv_aload_n hx hb dJ7_copyOf_59c91_20 rfl (lv_at hl 0 rfl) ?_
  refine lv_iconst (v := Int32.ofInt (0)) hx hb dJ7_copyOf_59c91_21 (by decide) ?_
  refine lv_aload_n hx hb dJ7_copyOf_59c91_22 rfl (lv_at hl 1 rfl) ?_
  refine t_len hx hb hK hV mb rfl rfl dJ7_copyOf_59c91_23 ?_
  refine lv_iload_n hx hb dJ7_copyOf_59c91_24 rfl (lv_at hl 2 rfl) ?_
  refine g_min E hl.1 cl_J7_304 (Nat.le_of_ble_eq_true rfl) (Nat.le_of_ble_eq_true rfl) (Nat.le_refl 1) (by show 0 + N.toNat ≤ N.toNat; omega) ⟨by omega, by omega⟩ ⟨by omega, by omega⟩ dJ7_copyOf_59c91_25 ?_
  rw [if_neg (by omega)]
  refine t_acopyX E hl.1 cl_J7_150 (Nat.le_of_ble_eq_true rfl) (Nat.le_of_ble_eq_true rfl) hK hV mb (by omega) (Int.le_refl _) (by omega) dJ7_copyOf_59c91_28 (fun H locs hV => ?_)
  refine lv_aload_n hx hb dJ7_copyOf_59c91_31 rfl (lv_at hl 0 rfl) ?_
  refine W.know fun hG => ?_
  refine W.widen (k := 1) (n := N.toNat) (by omega) (by omega) ?_
  exact W.aret (v := .ref q0) hx hb hr (Or.inr ⟨_, rfl⟩) (Or.inr ⟨q0, rfl⟩) (fun t ht hW => ⟨⟨(), q0, rfl, trivial, by rw [ht]; exact hV.1, va_K.moved hW.alike hK, hV.2.1, by rw [ht]; exact cG_le hG (by omega) (by omega)⟩, hV.2.2.1.F ht⟩) hV.2.2.1.2.2 dJ7_copyOf_59c91_32 hlocks
theorem c_copyOf {N : Int} (E : CallFix p m c cc nL s args (c0 :: w0c) own) (hcw : CallB R s args own index yJ7_copyOf_59c91 cJ7_copyOf_59c91 3 (some (.array .int)) (Cond.code yJ7_copyOf_59c91 cJ7_copyOf_59c91 3 (some (.array .int)) :: w0c) { frames := 1, cells := 1, slots := N.toNat, locals := 40 } 1 N.toNat 2 ∧ (Cond.static yJ7_copyOf_59c91).before args s = true)
    (hK : va_K (dC, dI) ccl (cty cx) s) (hV : cV dC dI cx LB A s.heap ll0 X dd nn ss ll gg H locs) (hA : ∀ q, s.heap.size ≤ q → A q) (hR : R.cells = cMc LB ll0 ∧ R.slots = 2 * cMc LB ll0) (hl : ls.size = nL) (hW : (rest.map fun v => v.category).sum ≤ 8) {b : Nat} (mb : b ∈ LB) {d : Nat} {f : Int → Int} {k : Nat} (ed : dd b = d) (ef : gg b = f) (ek : ll b = k) (n0 : 2 * (ll b : Int) ≤ N) (n1 : N ≤ 400) (hd : decode cc pc = .ok (.invokestatic index, 3))
    (kk : ∀ (q0 : Nat) (H1 : Heap) (locs1 : List Loc), cV dC dI cx LB A s.heap ll0 (X ++ [(q0, .inl (cx 0, N.toNat, .inl (im (cpf f (fun _ => 0) k))))]) dd nn ss ll gg H1 locs1 → W p l e R s m args below meth c H1 locs1 (cP LB ll - cP LB ll0 + 1) (2 * (cP LB ll - cP LB ll0) + N.toNat) Q (F0 m (pc + 3) ls (.ref q0 :: rest))) : W p l e R s m args below meth c H locs (cP LB ll - cP LB ll0) (2 * (cP LB ll - cP LB ll0)) Q (F0 m pc ls (Iz N :: .ref d :: rest)) := by
  subst ed; subst ef; subst ek
  have h2 := cP_up (ll := ll) (N := N.toNat) (cV_nd hV) mb
  have h3 := (hV.2.2.2.2 b mb).1
  have h4 : cP LB (va_up ll b N.toNat) ≤ LB.length * 400 := cP_le fun x hx => by
    by_cases q : x = b
    · subst q; rw [va_up_self]; omega
    · rw [va_up_ne _ _ q]; exact (hV.2.2.2.2 x hx).2
  have h5 := cV_bd hV
  refine va_callr (va_runS (As := [.ref (dd b), Iz N]) (rest := rest) E (kJ7_copyOf (dC := dC) (dI := dI) (cx := cx) (LB := LB) (X := X) (dd := dd) (nn := nn) (ss := ss) (ll := ll) (gg := gg) (H0 := H) mb n0 n1) hcw ⟨c_blind, fun U hU hW => ⟨rfl, hU, by rw [hU]; exact hV.1, va_K.moved hW.alike hK, hV.2.1.weaken (fun _ _ _ _ => trivial), hV.2.2.2.2⟩⟩ rfl rfl hl rfl (lv_room hW) hd (by rw [hR.1, hR.2]; unfold cMc; omega)) hV.2.2.1 (fun q _ h => c_sub hV hA q h) (c_sub hV hA) (fun u q0 t H1 locs1 ht hvm hw hB hz1 hk1 hS1 => ?_)
  obtain ⟨g1, g2, g3, g4⟩ := hB
  rw [ht] at g1
  exact kk q0 H1 locs1 ⟨g1, g3.weaken (fun k q _ h => c_sub hV hA q.1 h), hS1, hV.2.2.2⟩
end CJdk
