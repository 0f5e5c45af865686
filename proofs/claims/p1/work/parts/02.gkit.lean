section GKit
variable {p : Program} {l : Launch} {e : Env} {R : Room} {s : State} {m : MethodId} {args : Array Value} {below : List Frame} {meth : Method} {c : Code} {H : Heap} {locs : List Loc} {cells slots : Nat} {Q : State → Prop}
variable {cc : ByteArray} {pc : Nat} {ls : Array Slot} {rest : List Value}
/-- an int, a long, told by a whole number -/
abbrev Iz (z : Int) : Value := .int (Int32.ofInt z)
abbrev Jz (z : Int) : Value := .long (Int64.ofInt z)
def g_i (z : Int) : Prop := -2147483648 ≤ z ∧ z < 2147483648
def g_j (z : Int) : Prop := -9223372036854775808 ≤ z ∧ z < 9223372036854775808
theorem g_i_of {z : Int} (h0 : -2147483648 ≤ z) (h1 : z < 2147483648) : g_i z := ⟨h0, h1⟩
theorem g_toInt {z : Int} (h : g_i z) : (Int32.ofInt z).toInt = z := Int32.toInt_ofInt_of_le h.1 h.2
theorem g_toIntL {z : Int} (h : g_j z) : (Int64.ofInt z).toInt = z := Int64.toInt_ofInt_of_le h.1 h.2
theorem g_inj {x y : Int} (hx : g_i x) (hy : g_i y) : Int32.ofInt x = Int32.ofInt y ↔ x = y := by
  constructor
  · intro h
    have h1 := congrArg Int32.toInt h
    rw [g_toInt hx, g_toInt hy] at h1
    exact h1
  · intro h; rw [h]
theorem g_le {x y : Int} (hx : g_i x) (hy : g_i y) : Int32.ofInt x ≤ Int32.ofInt y ↔ x ≤ y := by
  rw [Int32.le_iff_toInt_le, g_toInt hx, g_toInt hy]
theorem g_lt {x y : Int} (hx : g_i x) (hy : g_i y) : Int32.ofInt x < Int32.ofInt y ↔ x < y := by
  rw [Int32.lt_iff_toInt_lt, g_toInt hx, g_toInt hy]
theorem g_injL {x y : Int} (hx : g_j x) (hy : g_j y) : Int64.ofInt x = Int64.ofInt y ↔ x = y := by
  constructor
  · intro h
    have h1 := congrArg Int64.toInt h
    rw [g_toIntL hx, g_toIntL hy] at h1
    exact h1
  · intro h; rw [h]
theorem g_ltL {x y : Int} (hx : g_j x) (hy : g_j y) : Int64.ofInt x < Int64.ofInt y ↔ x < y := by
  rw [Int64.lt_iff_toInt_lt, g_toIntL hx, g_toIntL hy]
theorem g_nat {z : Int} (h0 : 0 ≤ z) (h1 : z < 2147483648) : (Int32.ofInt z).toNatClampNeg = z.toNat := Int32.toNatClampNeg_ofInt_of_le (by omega) h1
theorem g_in {z : Int} {n : Nat} (h0 : 0 ≤ z) (h1 : z < n) (hn : n ≤ 2147483648) : vp_in (Int32.ofInt z) n := by
  have h2 : z < 2147483648 := by omega
  intro h
  rcases h with h | h
  · have h3 : Int32.ofInt z < Int32.ofInt 0 := h
    rw [g_lt ⟨by omega, by omega⟩ ⟨by decide, by decide⟩] at h3
    omega
  · rw [g_nat h0 h2] at h
    omega
-- arithmetic
theorem g_iadd (hx : p.tables.exec = Jvm.exec) (hb : c.code = cc) {x y : Int} (hd : decode cc pc = .ok (.iadd, 1)) (k : W p l e R s m args below meth c H locs cells slots Q (F0 m (pc + 1) ls (Iz (x + y) :: rest))) : W p l e R s m args below meth c H locs cells slots Q (F0 m pc ls (Iz y :: Iz x :: rest)) :=
  lv_iadd hx hb hd (by rw [← Int32.ofInt_add]; exact k)
theorem g_isub (hx : p.tables.exec = Jvm.exec) (hb : c.code = cc) {x y : Int} (hd : decode cc pc = .ok (.isub, 1)) (k : W p l e R s m args below meth c H locs cells slots Q (F0 m (pc + 1) ls (Iz (x - y) :: rest))) : W p l e R s m args below meth c H locs cells slots Q (F0 m pc ls (Iz y :: Iz x :: rest)) :=
  lv_isub hx hb hd (by rw [← Int32.ofInt_sub]; exact k)
theorem g_imul (hx : p.tables.exec = Jvm.exec) (hb : c.code = cc) {x y : Int} (hd : decode cc pc = .ok (.imul, 1)) (k : W p l e R s m args below meth c H locs cells slots Q (F0 m (pc + 1) ls (Iz (x * y) :: rest))) : W p l e R s m args below meth c H locs cells slots Q (F0 m pc ls (Iz y :: Iz x :: rest)) :=
  lv_imul hx hb hd (by rw [← Int32.ofInt_mul]; exact k)
theorem g_ladd (hx : p.tables.exec = Jvm.exec) (hb : c.code = cc) {x y : Int} (hd : decode cc pc = .ok (.ladd, 1)) (k : W p l e R s m args below meth c H locs cells slots Q (F0 m (pc + 1) ls (Jz (x + y) :: rest))) : W p l e R s m args below meth c H locs cells slots Q (F0 m pc ls (Jz y :: Jz x :: rest)) :=
  lv_ladd hx hb hd (by rw [← Int64.ofInt_add]; exact k)
theorem g_lsub (hx : p.tables.exec = Jvm.exec) (hb : c.code = cc) {x y : Int} (hd : decode cc pc = .ok (.lsub, 1)) (k : W p l e R s m args below meth c H locs cells slots Q (F0 m (pc + 1) ls (Jz (x - y) :: rest))) : W p l e R s m args below meth c H locs cells slots Q (F0 m pc ls (Jz y :: Jz x :: rest)) :=
  lv_lsub hx hb hd (by rw [← Int64.ofInt_sub]; exact k)
theorem g_lmul (hx : p.tables.exec = Jvm.exec) (hb : c.code = cc) {x y : Int} (hd : decode cc pc = .ok (.lmul, 1)) (k : W p l e R s m args below meth c H locs cells slots Q (F0 m (pc + 1) ls (Jz (x * y) :: rest))) : W p l e R s m args below meth c H locs cells slots Q (F0 m pc ls (Jz y :: Jz x :: rest)) :=
  lv_lmul hx hb hd (by rw [← Int64.ofInt_mul]; exact k)
theorem g_i2l (hx : p.tables.exec = Jvm.exec) (hb : c.code = cc) {x : Int} (hr : g_i x) (hd : decode cc pc = .ok (.i2l, 1)) (k : W p l e R s m args below meth c H locs cells slots Q (F0 m (pc + 1) ls (Jz x :: rest))) : W p l e R s m args below meth c H locs cells slots Q (F0 m pc ls (Iz x :: rest)) :=
  lv_i2l hx hb hd (Int32.toInt64_ofInt hr.1 (by have := hr.2; show x ≤ 2147483647; omega)) k
theorem g_l2i (hx : p.tables.exec = Jvm.exec) (hb : c.code = cc) {x : Int} (hd : decode cc pc = .ok (.l2i, 1)) (k : W p l e R s m args below meth c H locs cells slots Q (F0 m (pc + 1) ls (Iz x :: rest))) : W p l e R s m args below meth c H locs cells slots Q (F0 m pc ls (Jz x :: rest)) :=
  lv_l2i hx hb hd Int64.toInt32_ofInt k
theorem g_iinc (hx : p.tables.exec = Jvm.exec) (hb : c.code = cc) {i nL k : Nat} {n z : Int} {lv lv' : List (Nat × Value)} (hd : decode cc pc = .ok (.iinc i n, 3)) (h : lv_has ls nL lv) (hk : lv[k]? = some (i, Iz z)) (hn : i < nL) (hl : (i, Iz (z + n)) :: lv.filter (fun q => !(q.1 == i) && !(q.1 + 1 == i && q.2.category == 2)) = lv')
    (kk : ∀ ls' : Array Slot, lv_has ls' nL lv' → W p l e R s m args below meth c H locs cells slots Q (F0 m (pc + 3) ls' rest)) : W p l e R s m args below meth c H locs cells slots Q (F0 m pc ls rest) :=
  lv_iinc hx hb hd h hk (Int32.ofInt_add _ _).symm hn hl kk
-- branches
theorem g_icmp_lt (hx : p.tables.exec = Jvm.exec) (hb : c.code = cc) {x y : Int} {off : Int} {tgt : Nat} (h1 : g_i x) (h2 : g_i y) (hd : decode cc pc = .ok (.if_icmp .lt off, 3)) (ht : (pc : Int) + off = (tgt : Int)) (kt : x < y → W p l e R s m args below meth c H locs cells slots Q (F0 m tgt ls rest)) (kf : y ≤ x → W p l e R s m args below meth c H locs cells slots Q (F0 m (pc + 3) ls rest)) : W p l e R s m args below meth c H locs cells slots Q (F0 m pc ls (Iz y :: Iz x :: rest)) :=
  lv_icmp_lt hx hb hd ht (fun q => kt ((g_lt h1 h2).mp q)) (fun q => kf (by have := mt (g_lt h1 h2).mpr q; omega))
theorem g_icmp_ge (hx : p.tables.exec = Jvm.exec) (hb : c.code = cc) {x y : Int} {off : Int} {tgt : Nat} (h1 : g_i x) (h2 : g_i y) (hd : decode cc pc = .ok (.if_icmp .ge off, 3)) (ht : (pc : Int) + off = (tgt : Int)) (kt : y ≤ x → W p l e R s m args below meth c H locs cells slots Q (F0 m tgt ls rest)) (kf : x < y → W p l e R s m args below meth c H locs cells slots Q (F0 m (pc + 3) ls rest)) : W p l e R s m args below meth c H locs cells slots Q (F0 m pc ls (Iz y :: Iz x :: rest)) :=
  lv_icmp_ge hx hb hd ht (fun q => kt ((g_le h2 h1).mp q)) (fun q => kf (by have := mt (g_le h2 h1).mpr q; omega))
theorem g_icmp_gt (hx : p.tables.exec = Jvm.exec) (hb : c.code = cc) {x y : Int} {off : Int} {tgt : Nat} (h1 : g_i x) (h2 : g_i y) (hd : decode cc pc = .ok (.if_icmp .gt off, 3)) (ht : (pc : Int) + off = (tgt : Int)) (kt : y < x → W p l e R s m args below meth c H locs cells slots Q (F0 m tgt ls rest)) (kf : x ≤ y → W p l e R s m args below meth c H locs cells slots Q (F0 m (pc + 3) ls rest)) : W p l e R s m args below meth c H locs cells slots Q (F0 m pc ls (Iz y :: Iz x :: rest)) :=
  lv_icmp_gt hx hb hd ht (fun q => kt ((g_lt h2 h1).mp q)) (fun q => kf (by have := mt (g_lt h2 h1).mpr q; omega))
theorem g_icmp_le (hx : p.tables.exec = Jvm.exec) (hb : c.code = cc) {x y : Int} {off : Int} {tgt : Nat} (h1 : g_i x) (h2 : g_i y) (hd : decode cc pc = .ok (.if_icmp .le off, 3)) (ht : (pc : Int) + off = (tgt : Int)) (kt : x ≤ y → W p l e R s m args below meth c H locs cells slots Q (F0 m tgt ls rest)) (kf : y < x → W p l e R s m args below meth c H locs cells slots Q (F0 m (pc + 3) ls rest)) : W p l e R s m args below meth c H locs cells slots Q (F0 m pc ls (Iz y :: Iz x :: rest)) :=
  lv_icmp_le hx hb hd ht (fun q => kt ((g_le h1 h2).mp q)) (fun q => kf (by have := mt (g_le h1 h2).mpr q; omega))
theorem g_icmp_eq (hx : p.tables.exec = Jvm.exec) (hb : c.code = cc) {x y : Int} {off : Int} {tgt : Nat} (h1 : g_i x) (h2 : g_i y) (hd : decode cc pc = .ok (.if_icmp .eq off, 3)) (ht : (pc : Int) + off = (tgt : Int)) (kt : x = y → W p l e R s m args below meth c H locs cells slots Q (F0 m tgt ls rest)) (kf : x ≠ y → W p l e R s m args below meth c H locs cells slots Q (F0 m (pc + 3) ls rest)) : W p l e R s m args below meth c H locs cells slots Q (F0 m pc ls (Iz y :: Iz x :: rest)) :=
  lv_icmp_eq hx hb hd ht (fun q => kt ((g_inj h1 h2).mp q)) (fun q => kf (mt (g_inj h1 h2).mpr q))
theorem g_icmp_ne (hx : p.tables.exec = Jvm.exec) (hb : c.code = cc) {x y : Int} {off : Int} {tgt : Nat} (h1 : g_i x) (h2 : g_i y) (hd : decode cc pc = .ok (.if_icmp .ne off, 3)) (ht : (pc : Int) + off = (tgt : Int)) (kt : x ≠ y → W p l e R s m args below meth c H locs cells slots Q (F0 m tgt ls rest)) (kf : x = y → W p l e R s m args below meth c H locs cells slots Q (F0 m (pc + 3) ls rest)) : W p l e R s m args below meth c H locs cells slots Q (F0 m pc ls (Iz y :: Iz x :: rest)) :=
  lv_icmp_ne hx hb hd ht (fun q => kt (mt (g_inj h1 h2).mpr q)) (fun q => kf ((g_inj h1 h2).mp q))
theorem g_0 : g_i 0 := ⟨by decide, by decide⟩
theorem g_if_lt (hx : p.tables.exec = Jvm.exec) (hb : c.code = cc) {x : Int} {off : Int} {tgt : Nat} (h1 : g_i x) (hd : decode cc pc = .ok (.ifCond .lt off, 3)) (ht : (pc : Int) + off = (tgt : Int)) (kt : x < 0 → W p l e R s m args below meth c H locs cells slots Q (F0 m tgt ls rest)) (kf : 0 ≤ x → W p l e R s m args below meth c H locs cells slots Q (F0 m (pc + 3) ls rest)) : W p l e R s m args below meth c H locs cells slots Q (F0 m pc ls (Iz x :: rest)) :=
  lv_if_lt hx hb hd ht (fun q => kt ((g_lt h1 g_0).mp q)) (fun q => kf (by have := mt (g_lt h1 g_0).mpr q; omega))
theorem g_if_ge (hx : p.tables.exec = Jvm.exec) (hb : c.code = cc) {x : Int} {off : Int} {tgt : Nat} (h1 : g_i x) (hd : decode cc pc = .ok (.ifCond .ge off, 3)) (ht : (pc : Int) + off = (tgt : Int)) (kt : 0 ≤ x → W p l e R s m args below meth c H locs cells slots Q (F0 m tgt ls rest)) (kf : x < 0 → W p l e R s m args below meth c H locs cells slots Q (F0 m (pc + 3) ls rest)) : W p l e R s m args below meth c H locs cells slots Q (F0 m pc ls (Iz x :: rest)) :=
  lv_if_ge hx hb hd ht (fun q => kt ((g_le g_0 h1).mp q)) (fun q => kf (by have := mt (g_le g_0 h1).mpr q; omega))
theorem g_if_gt (hx : p.tables.exec = Jvm.exec) (hb : c.code = cc) {x : Int} {off : Int} {tgt : Nat} (h1 : g_i x) (hd : decode cc pc = .ok (.ifCond .gt off, 3)) (ht : (pc : Int) + off = (tgt : Int)) (kt : 0 < x → W p l e R s m args below meth c H locs cells slots Q (F0 m tgt ls rest)) (kf : x ≤ 0 → W p l e R s m args below meth c H locs cells slots Q (F0 m (pc + 3) ls rest)) : W p l e R s m args below meth c H locs cells slots Q (F0 m pc ls (Iz x :: rest)) :=
  lv_if_gt hx hb hd ht (fun q => kt ((g_lt g_0 h1).mp q)) (fun q => kf (by have := mt (g_lt g_0 h1).mpr q; omega))
theorem g_if_le (hx : p.tables.exec = Jvm.exec) (hb : c.code = cc) {x : Int} {off : Int} {tgt : Nat} (h1 : g_i x) (hd : decode cc pc = .ok (.ifCond .le off, 3)) (ht : (pc : Int) + off = (tgt : Int)) (kt : x ≤ 0 → W p l e R s m args below meth c H locs cells slots Q (F0 m tgt ls rest)) (kf : 0 < x → W p l e R s m args below meth c H locs cells slots Q (F0 m (pc + 3) ls rest)) : W p l e R s m args below meth c H locs cells slots Q (F0 m pc ls (Iz x :: rest)) :=
  lv_if_le hx hb hd ht (fun q => kt ((g_le h1 g_0).mp q)) (fun q => kf (by have := mt (g_le h1 g_0).mpr q; omega))
theorem g_if_eq (hx : p.tables.exec = Jvm.exec) (hb : c.code = cc) {x : Int} {off : Int} {tgt : Nat} (h1 : g_i x) (hd : decode cc pc = .ok (.ifCond .eq off, 3)) (ht : (pc : Int) + off = (tgt : Int)) (kt : x = 0 → W p l e R s m args below meth c H locs cells slots Q (F0 m tgt ls rest)) (kf : x ≠ 0 → W p l e R s m args below meth c H locs cells slots Q (F0 m (pc + 3) ls rest)) : W p l e R s m args below meth c H locs cells slots Q (F0 m pc ls (Iz x :: rest)) :=
  lv_if_eq hx hb hd ht (fun q => kt ((g_inj h1 g_0).mp q)) (fun q => kf (mt (g_inj h1 g_0).mpr q))
theorem g_if_ne (hx : p.tables.exec = Jvm.exec) (hb : c.code = cc) {x : Int} {off : Int} {tgt : Nat} (h1 : g_i x) (hd : decode cc pc = .ok (.ifCond .ne off, 3)) (ht : (pc : Int) + off = (tgt : Int)) (kt : x ≠ 0 → W p l e R s m args below meth c H locs cells slots Q (F0 m tgt ls rest)) (kf : x = 0 → W p l e R s m args below meth c H locs cells slots Q (F0 m (pc + 3) ls rest)) : W p l e R s m args below meth c H locs cells slots Q (F0 m pc ls (Iz x :: rest)) :=
  lv_if_ne hx hb hd ht (fun q => kt (mt (g_inj h1 g_0).mpr q)) (fun q => kf ((g_inj h1 g_0).mp q))
/-- what lcmp answers -/
def g_cmp (x y : Int) : Int := if y < x then 1 else if x < y then -1 else 0
theorem g_lcmp (hx : p.tables.exec = Jvm.exec) (hb : c.code = cc) {x y : Int} (h1 : g_j x) (h2 : g_j y) (hd : decode cc pc = .ok (.lcmp, 1)) (k : W p l e R s m args below meth c H locs cells slots Q (F0 m (pc + 1) ls (Iz (g_cmp x y) :: rest))) : W p l e R s m args below meth c H locs cells slots Q (F0 m pc ls (Jz y :: Jz x :: rest)) := by
  refine W.lcmp hx hb hd ?_
  have h : lg_cmp (Int64.ofInt x) (Int64.ofInt y) = Int32.ofInt (g_cmp x y) := by
    unfold lg_cmp g_cmp
    simp only [g_ltL h2 h1, g_injL h1 h2]
    by_cases q1 : y < x
    · rw [if_pos q1, if_pos q1]; rfl
    · rw [if_neg q1, if_neg q1]
      by_cases q2 : x = y
      · rw [if_pos q2, if_neg (by omega)]; rfl
      · rw [if_neg q2, if_pos (by omega)]; rfl
  rw [h]
  exact k
theorem g_cmp_i (x y : Int) : g_i (g_cmp x y) := by
  unfold g_cmp g_i
  split
  · omega
  · split <;> omega
theorem g_cmp_lt {x y : Int} : g_cmp x y < 0 ↔ x < y := by
  unfold g_cmp
  split
  · omega
  · split <;> omega
theorem g_cmp_le {x y : Int} : g_cmp x y ≤ 0 ↔ x ≤ y := by
  unfold g_cmp
  split
  · omega
  · split <;> omega
theorem g_cmp_eq {x y : Int} : g_cmp x y = 0 ↔ x = y := by
  unfold g_cmp
  split
  · omega
  · split <;> omega
-- rows of numbers, told by whole numbers
def im (h : Int → Int) : Nat → Int32 := fun i => Int32.ofInt (h (i : Int))
def jm (h : Int → Int) : Nat → Int64 := fun i => Int64.ofInt (h (i : Int))
def iup (h : Int → Int) (k v : Int) : Int → Int := fun i => if i = k then v else h i
theorem iup_self {h : Int → Int} {k v : Int} : iup h k v k = v := if_pos rfl
theorem iup_ne {h : Int → Int} {k v i : Int} (q : i ≠ k) : iup h k v i = h i := if_neg q
theorem im_up {h : Int → Int} {z v : Int} (h0 : 0 ≤ z) (h1 : z < 2147483648) : upd (im h) (Int32.ofInt z).toNatClampNeg (Int32.ofInt v) = im (iup h z v) := by
  funext j
  rw [g_nat h0 h1]
  unfold upd im iup
  by_cases q : j = z.toNat
  · rw [if_pos q, if_pos (by omega)]
  · rw [if_neg q, if_neg (by omega)]
theorem im_at {h : Int → Int} {z : Int} (h0 : 0 ≤ z) (h1 : z < 2147483648) : im h (Int32.ofInt z).toNatClampNeg = Int32.ofInt (h z) := by
  rw [g_nat h0 h1]
  unfold im
  rw [Int.toNat_of_nonneg h0]
variable {D : va_G} {cl : List vw_C} {A : Nat → Prop} {a : Nat} {tys : List (ClassId × FieldType)} {ws : va_W} {H0 : Heap}
theorem g_iald (hx : p.tables.exec = Jvm.exec) (hb : c.code = cc) (hK : va_K D cl tys s) (hP : va_P D cl ws H) (q0 t0 : Nat) {cA : ClassId} {n : Nat} {f : Int → Int} (ha : ws[q0]? = some (a, .inl (cA, n, .inl (im f)))) (ht : tys[t0]? = some (cA, .int)) {z : Int} (h0 : 0 ≤ z) (h1 : z < n) (hn : n ≤ 2147483648) (hd : decode cc pc = .ok (.iaload, 1))
    (kk : W p l e R s m args below meth c H locs cells slots Q (F0 m (pc + 1) ls (Iz (f z) :: rest))) : W p l e R s m args below meth c H locs cells slots Q (F0 m pc ls (Iz z :: .ref a :: rest)) :=
  va_iald hx hb hK hP q0 t0 ha ht (g_in h0 h1 hn) hd (by rw [im_at h0 (by omega)]; exact kk)
theorem g_iast (hx : p.tables.exec = Jvm.exec) (hb : c.code = cc) (hK : va_K D cl tys s) (hP : va_P D cl ws H) (hD : va_D A ws) (hS : va_S A H0 H locs) (q0 t0 : Nat) {cA : ClassId} {n : Nat} {f : Int → Int} (ha : ws[q0]? = some (a, .inl (cA, n, .inl (im f)))) (ht : tys[t0]? = some (cA, .int)) {z v : Int} (h0 : 0 ≤ z) (h1 : z < n) (hn : n ≤ 2147483648) (hd : decode cc pc = .ok (.iastore, 1))
    (kk : ∀ (H1 : Heap) (locs1 : List Loc), va_P D cl (ws.set q0 (a, .inl (cA, n, .inl (im (iup f z v))))) H1 → va_D A (ws.set q0 (a, .inl (cA, n, .inl (im (iup f z v))))) → va_S A H0 H1 locs1 → W p l e R s m args below meth c H1 locs1 cells slots Q (F0 m (pc + 1) ls rest)) : W p l e R s m args below meth c H locs cells slots Q (F0 m pc ls (Iz v :: Iz z :: .ref a :: rest)) :=
  va_iast hx hb hK hP hD hS q0 t0 ha ht (g_in h0 h1 hn) hd (by rw [im_up h0 (by omega)]; exact kk)
end GKit
