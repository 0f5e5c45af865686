section NRows
variable {p : Program} {l : Launch} {e : Env} {R : Room} {s : State} {m : MethodId} {args : Array Value} {below : List Frame} {meth : Method} {c : Code} {H : Heap} {locs : List Loc} {cells slots : Nat} {Q : State → Prop}
variable {cc : ByteArray} {pc nL : Nat} {ls : Array Slot} {rest : List Value} {dC : Nat → ClassId} {dI : Nat → Nat → Nat} {cx : Nat → Nat} {A : Nat → Prop} {H0 : Heap} {c0 : Cond} {own : String} {a index : Nat} {Qs : List nQt} {Ps : List (Nat × Nat)} {X : va_W}
/-- a new object -/
theorem n_new (E : CallFix p m c cc nL s args (c0 :: w0c) own) (hK : va_K (dC, dI) ccl (cty cx) s) (hV : nV dC dI cx A s.heap Qs Ps X H locs) (hA : ∀ q, s.heap.size ≤ q → A q) {ci : Nat} {C : String} {T : u_T} {N : Nat} {ty : Nat → FieldType} (hc : ccl[ci]? = some (C, T, N)) (hin : ∀ w ∈ u_ws C T N, w ∈ w0c) (hty : ∀ k, k < N → parseFieldDescriptor (T k).2.2.1 = some (ty k)) (hcl : Cond.classLink own index C ∈ w0c) (hinst : Cond.instantiable C N ∈ w0c) (hini : Cond.initialized C ∈ w0c) {fs : List Value} (hfs : ∀ j, j < N → defaultValue (ty j) = vp_V fs j) (hcells : cells + 1 ≤ R.cells) (hslots : slots + N ≤ R.slots) (hd : decode cc pc = .ok (.new index, 3))
    (kk : ∀ (q : Nat) (H1 : Heap), nV dC dI cx A s.heap Qs Ps (X ++ [(q, .inr (ci, fs))]) H1 locs → W p l e R s m args below meth c H1 locs (cells + 1) (slots + N) Q (F0 m (pc + 3) ls (.ref q :: rest))) : W p l e R s m args below meth c H locs cells slots Q (F0 m pc ls rest) :=
  va_new (D := (dC, dI)) E.1 E.2.1 E.2.2.2.2 (fun w h => List.mem_cons_of_mem _ (hin w h)) ty hty E.2.2.2.1 (E.2.2.2.2 _ (List.mem_cons_of_mem _ hcl)) (E.2.2.2.2 _ (List.mem_cons_of_mem _ hinst)) (E.2.2.2.2 _ (List.mem_cons_of_mem _ hini)) hK hV.1 hV.2.1 hV.2.2 hA hc hfs hcells hslots hd (fun q H1 h1 h2 h3 => kk q H1 (n_snoc h1 h2 h3))
/-- new rows -/
theorem n_newi (E : CallFix p m c cc nL s args (c0 :: w0c) own) (hK : va_K (dC, dI) ccl (cty cx) s) (hV : nV dC dI cx A s.heap Qs Ps X H locs) (hA : ∀ q, s.heap.size ≤ q → A q) {z : Int} (h0 : 0 ≤ z) (h1 : z ≤ 2000) (hcells : cells + 1 ≤ R.cells) (hslots : slots + z.toNat ≤ R.slots) (hd : decode cc pc = .ok (.newarray .int, 2))
    (kk : ∀ (q0 : Nat) (H1 : Heap), nV dC dI cx A s.heap Qs Ps (X ++ [(q0, .inl (cx 0, z.toNat, .inl (im (fun _ => 0))))]) H1 locs → W p l e R s m args below meth c H1 locs (cells + 1) (slots + z.toNat) Q (F0 m (pc + 2) ls (.ref q0 :: rest))) : W p l e R s m args below meth c H locs cells slots Q (F0 m pc ls (Iz z :: rest)) := by
  have hz : (Int32.ofInt z).toNatClampNeg = z.toNat := g_nat h0 (by omega)
  have hneg : ¬ Int32.ofInt z < 0 := fun q => by
    have h3 : Int32.ofInt z < Int32.ofInt 0 := q
    rw [g_lt ⟨by omega, by omega⟩ ⟨by decide, by decide⟩] at h3
    omega
  refine va_newa (atype := .int) (ty := .int) (N' := z.toNat) (a0 := (z.toNat, .inl (im (fun _ => 0)))) E.1 E.2.1 (E.2.2.2.2 _ (List.mem_cons_of_mem _ car_int)) rfl hK hV.1 hV.2.1 hV.2.2 hA (fun cA => rfl) hneg hz (by show z.toNat * 4 ≤ 536870912; omega) hcells hslots hd (fun q0 cA H1 k1 k2 k3 k4 => ?_)
  have e1 := (k1.2 6 (cA, .int) rfl).2
  have e2 := (hK.2 0 (cx 0, .int) rfl).2
  have e3 : cA = cx 0 := Option.some.inj ((show s.vm.findClass ("[" ++ FieldType.int.toString) = some cA from e1).symm.trans e2)
  subst e3
  exact kk q0 H1 (n_snoc k2 k3 k4)
theorem n_newl (E : CallFix p m c cc nL s args (c0 :: w0c) own) (hK : va_K (dC, dI) ccl (cty cx) s) (hV : nV dC dI cx A s.heap Qs Ps X H locs) (hA : ∀ q, s.heap.size ≤ q → A q) {z : Int} (h0 : 0 ≤ z) (h1 : z ≤ 2000) (hcells : cells + 1 ≤ R.cells) (hslots : slots + z.toNat ≤ R.slots) (hd : decode cc pc = .ok (.newarray .long, 2))
    (kk : ∀ (q0 : Nat) (H1 : Heap), nV dC dI cx A s.heap Qs Ps (X ++ [(q0, .inl (cx 1, z.toNat, .inr (.inl (jm (fun _ => 0)))))]) H1 locs → W p l e R s m args below meth c H1 locs (cells + 1) (slots + z.toNat) Q (F0 m (pc + 2) ls (.ref q0 :: rest))) : W p l e R s m args below meth c H locs cells slots Q (F0 m pc ls (Iz z :: rest)) := by
  have hz : (Int32.ofInt z).toNatClampNeg = z.toNat := g_nat h0 (by omega)
  have hneg : ¬ Int32.ofInt z < 0 := fun q => by
    have h3 : Int32.ofInt z < Int32.ofInt 0 := q
    rw [g_lt ⟨by omega, by omega⟩ ⟨by decide, by decide⟩] at h3
    omega
  refine va_newa (atype := .long) (ty := .long) (N' := z.toNat) (a0 := (z.toNat, .inr (.inl (jm (fun _ => 0))))) E.1 E.2.1 (E.2.2.2.2 _ (List.mem_cons_of_mem _ car_long)) rfl hK hV.1 hV.2.1 hV.2.2 hA (fun cA => rfl) hneg hz (by show z.toNat * 8 ≤ 536870912; omega) hcells hslots hd (fun q0 cA H1 k1 k2 k3 k4 => ?_)
  have e1 := (k1.2 6 (cA, .long) rfl).2
  have e2 := (hK.2 1 (cx 1, .long) rfl).2
  have e3 : cA = cx 1 := Option.some.inj ((show s.vm.findClass ("[" ++ FieldType.long.toString) = some cA from e1).symm.trans e2)
  subst e3
  exact kk q0 H1 (n_snoc k2 k3 k4)
theorem n_newq (E : CallFix p m c cc nL s args (c0 :: w0c) own) (hK : va_K (dC, dI) ccl (cty cx) s) (hV : nV dC dI cx A s.heap Qs Ps X H locs) (hA : ∀ q, s.heap.size ≤ q → A q) {z : Int} (h0 : 0 ≤ z) (h1 : z ≤ 2000) {C : String} {t0 : Nat} {cA0 : ClassId} (ht : (cty cx)[t0]? = some (cA0, .object C)) (hcl : Cond.classLink own index C ∈ w0c) (hover : va_AO C s) (hcells : cells + 1 ≤ R.cells) (hslots : slots + z.toNat ≤ R.slots) (hd : decode cc pc = .ok (.anewarray index, 3))
    (kk : ∀ (q0 : Nat) (H1 : Heap), nV dC dI cx A s.heap Qs Ps (X ++ [(q0, .inl (cA0, z.toNat, .inr (.inr (.inr (.inr (fun _ => none))))))]) H1 locs → W p l e R s m args below meth c H1 locs (cells + 1) (slots + z.toNat) Q (F0 m (pc + 3) ls (.ref q0 :: rest))) : W p l e R s m args below meth c H locs cells slots Q (F0 m pc ls (Iz z :: rest)) := by
  have hz : (Int32.ofInt z).toNatClampNeg = z.toNat := g_nat h0 (by omega)
  have hneg : ¬ Int32.ofInt z < 0 := fun q => by
    have h3 : Int32.ofInt z < Int32.ofInt 0 := q
    rw [g_lt ⟨by omega, by omega⟩ ⟨by decide, by decide⟩] at h3
    omega
  refine va_newq (D := (dC, dI)) (cl := ccl) (tys := cty cx) E.1 E.2.1 E.2.2.2.1 (E.2.2.2.2 _ (List.mem_cons_of_mem _ hcl)) hover hK hV.1 hV.2.1 hV.2.2 hA hneg hz (by omega) hcells hslots hd (fun q0 cA H1 k1 k2 k3 k4 => ?_)
  obtain ⟨kA, comp, -, -, -, e1⟩ := (k1.2 6 (cA, .object C) rfl).2
  obtain ⟨kA', comp', -, -, -, e2⟩ := (hK.2 t0 (cA0, .object C) ht).2
  have e3 : cA = cA0 := Option.some.inj (e1.symm.trans e2)
  subst e3
  exact kk q0 H1 (n_snoc k2 k3 k4)
/-- a field set, final or not -/
theorem n_putF (E : CallFix p m c cc nL s args (c0 :: w0c) own) (hK : va_K (dC, dI) ccl (cty cx) s) (hV : nV dC dI cx A H0 Qs Ps X H locs) (hin2 : meth.name = "<init>") {ci : Nat} {C : String} {T : u_T} {N : Nat} {ty : Nat → FieldType} {fs : List Value} (hc : ccl[ci]? = some (C, T, N)) (hin : ∀ w ∈ u_ws C T N, w ∈ w0c) (hty : ∀ k, k < N → parseFieldDescriptor (T k).2.2.1 = some (ty k)) (hnm : ∀ a, a < N → ∀ b, b < N → a ≠ b → (T a).2.1 ≠ (T b).2.1) (k0 : Nat) (hx : X[k0]? = some (a, .inr (ci, fs))) (k : Nat) (hk : k < N) (hlink : Cond.fieldLink own index C (T k).2.1 (T k).2.2.1 ∈ w0c) (ho : (T k).1 = C) (hown : C = own) (hfin : (T k).2.2.2 = true) {v : Value} (hn : narrow (ty k) v = v) (hfit : fits (ty k) v = true) (hl : k < fs.length) (hd : decode cc pc = .ok (.putfield index, 3))
    (kk : ∀ (H1 : Heap) (locs1 : List Loc), nV dC dI cx A H0 Qs Ps (X.set k0 (a, .inr (ci, fs.set k v))) H1 locs1 → W p l e R s m args below meth c H1 locs1 cells slots Q (F0 m (pc + 3) ls rest)) : W p l e R s m args below meth c H locs cells slots Q (F0 m pc ls (v :: .ref a :: rest)) :=
  va_putF (D := (dC, dI)) (ci := ci) (C := C) (T := T) (N := N) (ty := ty k) E.1 E.2.1 E.2.2.2.2 (fun w h => List.mem_cons_of_mem _ (hin w h)) ty hty hnm E.2.2.2.1 hK hV.1 hV.2.1 hV.2.2 k0 (n_at hx) hc k hk (E.2.2.2.2 _ (List.mem_cons_of_mem _ hlink)) (by rw [ho]; exact fun _ h9 => h9) hfin hin2 (ho.trans hown) (hty k hk) hn hfit hl hd (fun H1 locs1 q1 q2 q3 => kk H1 locs1 (n_set hx (n_at hx) q1 hV.2.1 q3))
theorem n_put (E : CallFix p m c cc nL s args (c0 :: w0c) own) (hK : va_K (dC, dI) ccl (cty cx) s) (hV : nV dC dI cx A H0 Qs Ps X H locs) {ci : Nat} {C : String} {T : u_T} {N : Nat} {ty : Nat → FieldType} {fs : List Value} (hc : ccl[ci]? = some (C, T, N)) (hin : ∀ w ∈ u_ws C T N, w ∈ w0c) (hty : ∀ k, k < N → parseFieldDescriptor (T k).2.2.1 = some (ty k)) (hnm : ∀ a, a < N → ∀ b, b < N → a ≠ b → (T a).2.1 ≠ (T b).2.1) (k0 : Nat) (hx : X[k0]? = some (a, .inr (ci, fs))) (k : Nat) (hk : k < N) (hlink : Cond.fieldLink own index C (T k).2.1 (T k).2.2.1 ∈ w0c) (ho : (T k).1 = C) (hfin : (T k).2.2.2 = false) {v : Value} (hn : narrow (ty k) v = v) (hfit : fits (ty k) v = true) (hl : k < fs.length) (hd : decode cc pc = .ok (.putfield index, 3))
    (kk : ∀ (H1 : Heap) (locs1 : List Loc), nV dC dI cx A H0 Qs Ps (X.set k0 (a, .inr (ci, fs.set k v))) H1 locs1 → W p l e R s m args below meth c H1 locs1 cells slots Q (F0 m (pc + 3) ls rest)) : W p l e R s m args below meth c H locs cells slots Q (F0 m pc ls (v :: .ref a :: rest)) :=
  va_put (D := (dC, dI)) (ci := ci) (C := C) (T := T) (N := N) (ty := ty k) E.1 E.2.1 E.2.2.2.2 (fun w h => List.mem_cons_of_mem _ (hin w h)) ty hty hnm E.2.2.2.1 hK hV.1 hV.2.1 hV.2.2 k0 (n_at hx) hc k hk (E.2.2.2.2 _ (List.mem_cons_of_mem _ hlink)) (by rw [ho]; exact fun _ h9 => h9) hfin (hty k hk) hn hfit hl hd (fun H1 locs1 q1 q2 q3 => kk H1 locs1 (n_set hx (n_at hx) q1 hV.2.1 q3))
theorem n_get (E : CallFix p m c cc nL s args (c0 :: w0c) own) (hK : va_K (dC, dI) ccl (cty cx) s) (hV : nV dC dI cx A H0 Qs Ps X H locs) {ci : Nat} {C : String} {T : u_T} {N : Nat} {fs : List Value} (hc : ccl[ci]? = some (C, T, N)) (hin : ∀ w ∈ u_ws C T N, w ∈ w0c) (k0 : Nat) (hx : X[k0]? = some (a, .inr (ci, fs))) (k : Nat) (hk : k < N) {v : Value} (hv : fs[k]? = some v) (hlink : Cond.fieldLink own index C (T k).2.1 (T k).2.2.1 ∈ w0c) (ho : (T k).1 = C) (hd : decode cc pc = .ok (.getfield index, 3)) (kk : W p l e R s m args below meth c H locs cells slots Q (F0 m (pc + 3) ls (v :: rest))) : W p l e R s m args below meth c H locs cells slots Q (F0 m pc ls (.ref a :: rest)) :=
  va_get (D := (dC, dI)) (ci := ci) (C := C) (T := T) (N := N) E.1 E.2.1 E.2.2.2.2 (fun w h => List.mem_cons_of_mem _ (hin w h)) E.2.2.2.1 hK hV.1 k0 (n_at hx) hc k hk (E.2.2.2.2 _ (List.mem_cons_of_mem _ hlink)) (by rw [ho]; exact fun _ h9 => h9) hv hd kk
theorem n_alen (hx : p.tables.exec = Jvm.exec) (hc : c.code = cc) (hK : va_K (dC, dI) ccl (cty cx) s) (hV : nV dC dI cx A H0 Qs Ps X H locs) {t0 : Nat} {cA : ClassId} {x : vp_A} {ty : FieldType} (ht : (cty cx)[t0]? = some (cA, ty)) (k0 : Nat) (hm : X[k0]? = some (a, .inl (cA, x))) (hd : decode cc pc = .ok (.arraylength, 1)) (kk : W p l e R s m args below meth c H locs cells slots Q (F0 m (pc + 1) ls (Iz (x.1 : Int) :: rest))) : W p l e R s m args below meth c H locs cells slots Q (F0 m pc ls (.ref a :: rest)) :=
  va_alen hx hc hK hV.1 k0 t0 (n_at hm) ht (v := Int32.ofInt (x.1 : Int)) (by exact (Int32.ofInt_eq_ofNat).symm) hd kk
/-- an entry of a row of references set -/
theorem n_astq (hx : p.tables.exec = Jvm.exec) (hc : c.code = cc) (hK : va_K (dC, dI) ccl (cty cx) s) (hV : nV dC dI cx A H0 Qs Ps X H locs) (k0 : Nat) {t0 ci n v : Nat} {cA : ClassId} {r : vw_C} {vs : List Value} {f : Nat → Option Nat} (ha : X[k0]? = some (a, .inl (cA, n, .inr (.inr (.inr (.inr f)))))) (ht : (cty cx)[t0]? = some (cA, .object r.1)) (hv : (v, (.inr (ci, vs) : va_E)) ∈ gW cx Qs Ps X) (hcc : ccl[ci]? = some r) {z : Int} (h0 : 0 ≤ z) (h1 : z < n) (hn : n ≤ 2147483648) (hd : decode cc pc = .ok (.aastore, 1))
    (kk : ∀ (H1 : Heap) (locs1 : List Loc), nV dC dI cx A H0 Qs Ps (X.set k0 (a, .inl (cA, n, .inr (.inr (.inr (.inr (va_up f z.toNat (some v)))))))) H1 locs1 → W p l e R s m args below meth c H1 locs1 cells slots Q (F0 m (pc + 1) ls rest)) : W p l e R s m args below meth c H locs cells slots Q (F0 m pc ls (.ref v :: Iz z :: .ref a :: rest)) := by
  obtain ⟨qk, hqk⟩ := List.getElem?_of_mem hv
  refine va_astq (D := (dC, dI)) hx hc hK hV.1 hV.2.1 hV.2.2 k0 t0 qk ci (n_at ha) ht hqk hcc (g_in h0 h1 hn) hd (fun H1 locs1 q1 q2 q3 => ?_)
  rw [g_nat h0 (by omega)] at q1
  exact kk H1 locs1 (n_set ha (n_at ha) q1 hV.2.1 q3)
/-- behind a constructor's call: what it made beside what was there -/
theorem n_back {q : Nat} {e0 : va_E} {Qs2 : List nQt} {Ps2 : List (Nat × Nat)} {X2 : va_W} {H1 : Heap} {locs1 : List Loc} (hV : nV dC dI cx A H0 Qs Ps (X ++ [(q, e0)]) H locs) (hA : ∀ x, H0.size ≤ x → A x) (hk : ∀ x : Nat, x < H.size → ¬ va_A [(q, e0)] H.size x → H1[x]? = H[x]?) (h1 : va_P (dC, dI) ccl (gW cx Qs2 Ps2 X2) H1) (h2 : va_D (va_A [(q, e0)] H.size) (gW cx Qs2 Ps2 X2)) (h3 : va_S A H0 H1 locs1) : nV dC dI cx A H0 (Qs ++ Qs2) (Ps ++ Ps2) (X ++ X2) H1 locs1 := by
  have hP0 := va_P_perm hV.1 (gW_snoc (cx := cx) (Qs := Qs) (Ps := Ps) (X := X) (x := (q, e0))).symm
  have hD0 := va_D_perm hV.2.1 (gW_snoc (cx := cx) (Qs := Qs) (Ps := Ps) (X := X) (x := (q, e0))).symm
  have nd := (va_D_iff.mp hD0).1
  rw [List.map_append, List.nodup_append] at nd
  have hq : ∀ x ∈ gW cx Qs Ps X, x.1 < H.size ∧ x.1 ≠ q := fun x hx => ⟨(va_P_iff.mp hP0 x (List.mem_append_left _ hx)).lt, nd.2.2 x.1 (List.mem_map_of_mem hx) q List.mem_cons_self⟩
  have hn : ∀ x ∈ gW cx Qs Ps X, ¬ va_A [(q, e0)] H.size x.1 := fun x hx w => by
    rcases w with ⟨k, ee, hk⟩ | w
    · have := List.mem_of_getElem? hk
      rw [List.mem_singleton] at this
      exact (hq x hx).2 (congrArg Prod.fst this)
    · have := (hq x hx).1; omega
  have p1 : va_P (dC, dI) ccl (gW cx Qs Ps X) H1 := va_P_iff.mpr fun x hx => (va_P_iff.mp hP0 x (List.mem_append_left _ hx)).kept (hk x.1 (hq x hx).1 (hn x hx))
  refine ⟨va_P_perm (va_P_iff.mpr fun x hx => ?_) gW_app, va_D_perm (va_D_iff.mpr ⟨?_, fun x hx => ?_⟩) gW_app, h3⟩
  · rcases List.mem_append.mp hx with h | h
    · exact va_P_iff.mp p1 x h
    · exact va_P_iff.mp h1 x h
  · rw [List.map_append, List.nodup_append]
    refine ⟨nd.1, (va_D_iff.mp h2).1, fun x hx y hy w => ?_⟩
    obtain ⟨x', hx', rfl⟩ := List.mem_map.mp hx
    obtain ⟨y', hy', rfl⟩ := List.mem_map.mp hy
    exact hn x' hx' (by rw [w]; exact (va_D_iff.mp h2).2 y' hy')
  · rcases List.mem_append.mp hx with h | h
    · exact (va_D_iff.mp hD0).2 x (List.mem_append_left _ h)
    · rcases (va_D_iff.mp h2).2 x h with ⟨k, ee, hk⟩ | w
      · have := List.mem_of_getElem? hk
        rw [List.mem_singleton] at this
        rw [show x.1 = q from congrArg Prod.fst this]
        exact (va_D_iff.mp hD0).2 (q, e0) (List.mem_append_right _ List.mem_cons_self)
      · exact hA x.1 (Nat.le_trans hV.2.2.1 w)
theorem n_free {q : Nat} {e0 : va_E} (hV : nV dC dI cx A H0 Qs Ps (X ++ [(q, e0)]) H locs) (hA : ∀ x, H0.size ≤ x → A x) : ∀ x, va_A [(q, e0)] H.size x → A x := fun x w => by
  rcases w with ⟨k, ee, hk⟩ | w
  · have := List.mem_of_getElem? hk
    rw [List.mem_singleton] at this
    rw [show x = q from congrArg Prod.fst this]
    exact (va_D_iff.mp (va_D_perm hV.2.1 (gW_snoc (cx := cx) (Qs := Qs) (Ps := Ps) (X := X) (x := (q, e0))).symm)).2 (q, e0) (List.mem_append_right _ List.mem_cons_self)
  · exact hA x (Nat.le_trans hV.2.2.1 w)
theorem n_last {q : Nat} {e0 : va_E} (hV : nV dC dI cx A H0 Qs Ps (X ++ [(q, e0)]) H locs) : va_P (dC, dI) ccl [(q, e0)] H := va_P_iff.mpr fun x hx => va_P_iff.mp (va_P_perm hV.1 (gW_snoc (cx := cx) (Qs := Qs) (Ps := Ps) (X := X) (x := (q, e0))).symm) x (List.mem_append_right _ hx)
/-- a constructor of a nest mate called; an own one -/
theorem n_callN (E : CallFix p m c cc nL s args (c0 :: w0c) own) {y : MethodName} {bytes : ByteArray} {maxL n f kl mc ms q : Nat} {e0 : va_E} {As : List Value} {P : List nQt → List (Nat × Nat) → va_W → Prop}
    (hM : Met l y (Cond.code y bytes maxL none :: w0c) (nRm f kl mc ms) (nPc dC dI cx q e0 H As) (nQv dC dI cx q e0 H P) mc ms (va_A [(q, e0)] H.size)) (cw : va_CN R s args own index y RX11 bytes maxL none (Cond.code y bytes maxL none :: w0c) (nRm f kl mc ms) mc ms n ∧ y.name = "<init>" ∧ (Cond.instanceMethod y).before args s = true)
    (hK : va_K (dC, dI) ccl (cty cx) s) (hC : CN s) (hV : nV dC dI cx A s.heap Qs Ps (X ++ [(q, e0)]) H locs) (hA : ∀ q, s.heap.size ≤ q → A q) (hn : As.length = n) (hl : ls.size = nL) (hW : (rest.map fun v => v.category).sum ≤ 8) (hd : decode cc pc = .ok (.invokespecial index, 3)) (hroom : cells + mc ≤ R.cells ∧ slots + ms ≤ R.slots)
    (kk : ∀ (Qs2 : List nQt) (Ps2 : List (Nat × Nat)) (X2 : va_W) (H1 : Heap) (locs1 : List Loc), P Qs2 Ps2 X2 → nV dC dI cx A s.heap (Qs ++ Qs2) (Ps ++ Ps2) (X ++ X2) H1 locs1 → W p l e R s m args below meth c H1 locs1 (cells + mc) (slots + ms) Q (F0 m (pc + 3) ls rest)) : W p l e R s m args below meth c H locs cells slots Q (F0 m pc ls (As.reverse ++ .ref q :: rest)) := by
  refine va_callv (va_runIN (As := As) (rest := rest) E hM cw ⟨n_blind, fun U hU hW => ⟨rfl, hU, by rw [hU]; exact n_last hV, va_K.moved hW.alike hK, CN.moved hW hC⟩⟩ rfl hn hl rfl (lv_room hW) hd hroom) hV.2.2 (fun x _ h => n_free hV hA x h) (n_free hV hA) (fun u t H1 locs1 ht hvm hw hB hz1 hk1 hS1 => ?_)
  obtain ⟨Qs2, Ps2, X2⟩ := u
  obtain ⟨g1, -, g3⟩ := hB
  rw [ht] at g1
  exact kk Qs2 Ps2 X2 H1 locs1 hw (n_back hV hA hk1 g1 g3 hS1)
theorem n_callI (E : CallFix p m c cc nL s args (c0 :: w0c) own) {y : MethodName} {bytes : ByteArray} {maxL n f kl mc ms q : Nat} {e0 : va_E} {As : List Value} {P : List nQt → List (Nat × Nat) → va_W → Prop}
    (hM : Met l y (Cond.code y bytes maxL none :: w0c) (nRm f kl mc ms) (nPc dC dI cx q e0 H As) (nQv dC dI cx q e0 H P) mc ms (va_A [(q, e0)] H.size)) (cw : CallB R s args own index y bytes maxL none (Cond.code y bytes maxL none :: w0c) (nRm f kl mc ms) mc ms n ∧ y.name = "<init>" ∧ (Cond.instanceMethod y).before args s = true)
    (hK : va_K (dC, dI) ccl (cty cx) s) (hC : CN s) (hV : nV dC dI cx A s.heap Qs Ps (X ++ [(q, e0)]) H locs) (hA : ∀ q, s.heap.size ≤ q → A q) (hn : As.length = n) (hl : ls.size = nL) (hW : (rest.map fun v => v.category).sum ≤ 8) (hd : decode cc pc = .ok (.invokespecial index, 3)) (hroom : cells + mc ≤ R.cells ∧ slots + ms ≤ R.slots)
    (kk : ∀ (Qs2 : List nQt) (Ps2 : List (Nat × Nat)) (X2 : va_W) (H1 : Heap) (locs1 : List Loc), P Qs2 Ps2 X2 → nV dC dI cx A s.heap (Qs ++ Qs2) (Ps ++ Ps2) (X ++ X2) H1 locs1 → W p l e R s m args below meth c H1 locs1 (cells + mc) (slots + ms) Q (F0 m (pc + 3) ls rest)) : W p l e R s m args below meth c H locs cells slots Q (F0 m pc ls (As.reverse ++ .ref q :: rest)) := by
  refine va_callv (va_runI (As := As) (rest := rest) E hM cw ⟨n_blind, fun U hU hW => ⟨rfl, hU, by rw [hU]; exact n_last hV, va_K.moved hW.alike hK, CN.moved hW hC⟩⟩ rfl hn hl rfl (lv_room hW) hd hroom) hV.2.2 (fun x _ h => n_free hV hA x h) (n_free hV hA) (fun u t H1 locs1 ht hvm hw hB hz1 hk1 hS1 => ?_)
  obtain ⟨Qs2, Ps2, X2⟩ := u
  obtain ⟨g1, -, g3⟩ := hB
  rw [ht] at g1
  exact kk Qs2 Ps2 X2 H1 locs1 hw (n_back hV hA hk1 g1 g3 hS1)
/-- cells no longer told -/
theorem n_sub {X' : va_W} (hV : nV dC dI cx A H0 Qs Ps X H locs) (h : X'.Sublist X) : nV dC dI cx A H0 [] [] X' H locs := by
  have hm : ∀ q ∈ gW cx [] [] X', q ∈ gW cx Qs Ps X := fun q hq => by
    have hq' : q ∈ X' := by
      rcases List.mem_append.mp hq with w | w
      · exact w
      · exact absurd w (by show ¬ q ∈ ([] : va_W); exact List.not_mem_nil)
    exact List.mem_append_left _ (h.subset hq')
  refine ⟨va_P_iff.mpr fun q hq => va_P_iff.mp hV.1 q (hm q hq), va_D_iff.mpr ⟨?_, fun q hq => (va_D_iff.mp hV.2.1).2 q (hm q hq)⟩, hV.2.2⟩
  have hn := (va_D_iff.mp hV.2.1).1
  have hs : (gW cx [] [] X').Sublist (gW cx Qs Ps X) := by
    show (X' ++ []).Sublist (X ++ _)
    rw [List.append_nil]
    exact h.trans (List.sublist_append_left X _)
  exact hn.sublist (hs.map Prod.fst)
theorem n_cwN (n : Nat) {maxL mc ms : Nat} {y : MethodName} {bytes : ByteArray} {rm : Room} (ht : ∀ w ∈ c0 :: w0c, w.before args s = true) (hC : CN s) (h1 : (own, index, y) ∈ nestL) (h2 : Cond.instanceMethod y ∈ w0c) (h4 : Cond.initialized y.cls ∈ w0c) (h5 : Cond.code y bytes maxL none ∈ w0c) (hrc : rm.cells = mc) (hrs : rm.slots = ms) (hy1 : y.name = "<init>") (hd : y.cls ≠ "java/lang/invoke/MethodHandle" ∧ y.cls ≠ "java/lang/invoke/VarHandle" ∧ (parseMethodDescriptor y.desc).map (fun d => d.parameters.length) = some n) (hR : rm.frames + 1 ≤ R.frames ∧ 8 + (maxL + 11) + rm.locals ≤ R.locals) : va_CN R s args own index y RX11 bytes maxL none (Cond.code y bytes maxL none :: w0c) rm mc ms n ∧ y.name = "<init>" ∧ (Cond.instanceMethod y).before args s = true := by
  refine ⟨va_cnB n ht ?_ rfl hrc hrs (hC.1 _ h1) (ht _ (List.mem_cons_of_mem _ h4)) hd hR, hy1, ht _ (List.mem_cons_of_mem _ h2)⟩
  intro w h
  have hw : w ∈ w0c := by
    rcases List.mem_cons.mp h with rfl | h
    · exact h5
    · exact h
  exact ⟨List.mem_cons_of_mem _ hw, good_of_word (List.all_eq_true.mp w0c_good w hw)⟩
theorem n_cwI (n : Nat) {maxL mc ms : Nat} {y : MethodName} {bytes : ByteArray} {rm : Room} (ht : ∀ w ∈ c0 :: w0c, w.before args s = true) (h1 : Cond.methodLink own index y ∈ w0c) (h2 : Cond.instanceMethod y ∈ w0c) (h4 : Cond.initialized y.cls ∈ w0c) (h5 : Cond.code y bytes maxL none ∈ w0c) (hrc : rm.cells = mc) (hrs : rm.slots = ms) (hy1 : y.name = "<init>") (hd : y.cls ≠ "java/lang/invoke/MethodHandle" ∧ y.cls ≠ "java/lang/invoke/VarHandle" ∧ (parseMethodDescriptor y.desc).map (fun d => d.parameters.length) = some n) (hR : rm.frames + 1 ≤ R.frames ∧ 8 + (maxL + 11) + rm.locals ≤ R.locals) : CallB R s args own index y bytes maxL none (Cond.code y bytes maxL none :: w0c) rm mc ms n ∧ y.name = "<init>" ∧ (Cond.instanceMethod y).before args s = true := by
  refine cwI n ht ?_ rfl hrc hrs (ht _ (List.mem_cons_of_mem _ h4)) (ht _ (List.mem_cons_of_mem _ h1)) (ht _ (List.mem_cons_of_mem _ h2)) hy1 hd hR
  intro w h
  have hw : w ∈ w0c := by
    rcases List.mem_cons.mp h with rfl | h
    · exact h5
    · exact h
  exact ⟨List.mem_cons_of_mem _ hw, good_of_word (List.all_eq_true.mp w0c_good w hw)⟩
end NRows
