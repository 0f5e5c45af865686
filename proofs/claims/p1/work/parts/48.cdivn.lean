section CCut
variable {p : Program} {l : Launch} {e : Env} {R : Room} {s : State} {m : MethodId} {args : Array Value} {below : List Frame} {meth : Method} {c : Code} {Q : State → Prop}
theorem r_cutH {P : Nat → Nat → Heap → List Loc → Prop} {g g0 : JFrame} {H0 : Heap} {locs0 : List Loc} {ce0 sl0 : Nat} (k : ∀ (ce sl : Nat) (H : Heap) (locs : List Loc), P ce sl H locs → W p l e R s m args below meth c H locs ce sl Q g) (h : (∀ (ce sl : Nat) (H : Heap) (locs : List Loc), P ce sl H locs → W p l e R s m args below meth c H locs ce sl Q g) → W p l e R s m args below meth c H0 locs0 ce0 sl0 Q g0) : W p l e R s m args below meth c H0 locs0 ce0 sl0 Q g0 := h k
theorem r_cutZ {P : Int → Nat → Nat → Heap → List Loc → Prop} {g : Int → JFrame} {g0 : JFrame} {H0 : Heap} {locs0 : List Loc} {ce0 sl0 : Nat} (k : ∀ (z : Int) (ce sl : Nat) (H : Heap) (locs : List Loc), P z ce sl H locs → W p l e R s m args below meth c H locs ce sl Q (g z)) (h : (∀ (z : Int) (ce sl : Nat) (H : Heap) (locs : List Loc), P z ce sl H locs → W p l e R s m args below meth c H locs ce sl Q (g z)) → W p l e R s m args below meth c H0 locs0 ce0 sl0 Q g0) : W p l e R s m args below meth c H0 locs0 ce0 sl0 Q g0 := h k
end CCut
theorem tm_small {a b : Int} (h : (a.natAbs : Int) < (b.natAbs : Int)) : a.tmod b = a ∧ a.tdiv b = 0 := by
  have h1 : (a.tdiv b).natAbs = 0 := by rw [Int.natAbs_tdiv]; exact Nat.div_eq_of_lt (by omega)
  have h2 : a.tdiv b = 0 := by omega
  have e := Int.mul_tdiv_add_tmod a b
  rw [h2, Int.mul_zero, Int.zero_add] at e
  exact ⟨e, h2⟩
theorem top_ge {n s mm : Int} {k : Nat} {f : Int → Int} {V : Int} (h : num1 n s k f V) (h1 : 1073741824 ^ (mm - 1).toNat ≤ (V.natAbs : Int)) (h2 : 0 < mm) : mm ≤ n := by
  have h3 := num1_lt h
  have h0 := h.1
  have := kb_pow_lt (Int.lt_of_le_of_lt h1 h3)
  omega
theorem top_le {n s n' s' sh : Int} {k k' : Nat} {f f' : Int → Int} {V : Int} (h : num1 n s k f V) (h' : num1 n' s' k' f' (V * 2 ^ sh.toNat)) (s1 : sh < 30) : n' ≤ n + 1 := by
  have h3 := num1_lt h
  have h0 := h.1
  have e : ((V * 2 ^ sh.toNat).natAbs : Int) < 1073741824 ^ (n.toNat + 1) := by
    rw [abs_p2, kb_pow_succ]
    have h5 : (2 : Int) ^ sh.toNat ≤ 1073741824 := by
      have e1 : (2 : Int) ^ sh.toNat * 2 ^ (30 - sh.toNat) = 1073741824 := by rw [← Int.pow_add, show sh.toNat + (30 - sh.toNat) = 30 by omega]; rfl
      have := i_p2 (30 - sh.toNat)
      have h9 : (2 : Int) ^ sh.toNat * 1 ≤ 2 ^ sh.toNat * 2 ^ (30 - sh.toNat) := Int.mul_le_mul_of_nonneg_left (by omega) (Int.le_of_lt (i_p2 _))
      omega
    have h6 : (V.natAbs : Int) * 2 ^ sh.toNat ≤ (V.natAbs : Int) * 1073741824 := Int.mul_le_mul_of_nonneg_left h5 (by omega)
    have h7 : (V.natAbs : Int) * 1073741824 < 1073741824 ^ n.toNat * 1073741824 := Int.mul_lt_mul_of_pos_right h3 (by omega)
    omega
  have := num1_le h' e
  omega
theorem dv_next {f f' g g' : Int → Int} {j j' n KK A V q : Int} (ej : j' = j + (-1)) (j0 : 0 ≤ j) (jk : j ≤ KK) (n0 : 0 ≤ n) (fd : ∀ t : Int, 0 ≤ t → t ≤ KK + n → 0 ≤ f t ∧ f t < 1073741824) (fz : ∀ t : Int, j + 1 + n ≤ t → t ≤ KK + n → f t = 0) (hA : A = kb_v (wn g (j + 1)) (KK - j).toNat * V * 1073741824 ^ (j + 1).toNat + kb_v f (j + 1 + n).toNat) (gd : kb_d (wn g (j + 1)) (KK - j).toNat)
    (ho : ∀ t : Int, t < j ∨ j + n < t → f' t = f t) (hd : kb_d (wn f' j) (n + 1).toNat) (hW : kb_v (wn f' j) (n + 1).toNat = kb_v (wn f j) (n + 1).toNat - q * V) (r1 : kb_v (wn f j) (n + 1).toNat - q * V < V) (hV : V ≤ 1073741824 ^ n.toNat) (hg : g' j = q) (hgo : ∀ t : Int, j < t → g' t = g t) (q0 : 0 ≤ q) (q1 : q < 1073741824) :
    -1 ≤ j' ∧ j' ≤ KK ∧ (∀ t : Int, 0 ≤ t → t ≤ KK + n → 0 ≤ f' t ∧ f' t < 1073741824) ∧ (∀ t : Int, j' + 1 + n ≤ t → t ≤ KK + n → f' t = 0) ∧ kb_v (wn f' (j' + 1)) n.toNat < V ∧ A = kb_v (wn g' (j' + 1)) (KK - j').toNat * V * 1073741824 ^ (j' + 1).toNat + kb_v f' (j' + 1 + n).toNat ∧ kb_d (wn g' (j' + 1)) (KK - j').toNat := by
  obtain ⟨z0, z1, z2⟩ := dv_step' j0 jk n0 hA (fun t h => ho t (Or.inl h)) hW hd (by omega) hg hgo
  have e1 : j' + 1 = j := by omega
  have e2 : KK - j' = KK + 1 - j := by omega
  rw [e1, e2]
  refine ⟨by omega, by omega, fun t a b => ?_, fun t a b => ?_, by rw [z1, hW]; exact r1, z2, fun t a b => ?_⟩
  · by_cases w : t < j ∨ j + n < t
    · rw [ho t w]; exact fd t a b
    · have := hd (t - j) (by omega) (by omega)
      unfold wn at this
      rw [show t - j + j = t by omega] at this
      exact this
  · by_cases w : t = j + n
    · rw [w, Int.add_comm]; exact z0
    · rw [ho t (Or.inr (by omega))]; exact fz t (by omega) b
  · unfold wn
    by_cases w : t = 0
    · rw [w, Int.zero_add, hg]; exact ⟨q0, q1⟩
    · rw [hgo (t + j) (by omega)]
      have := gd (t - 1) (by omega) (by omega)
      unfold wn at this
      rw [show t - 1 + (j + 1) = t + j by omega] at this
      exact this
theorem lm_or30 {x y : Int} (x0 : 0 ≤ x) (x1 : x < 8589934592) (y0 : 0 ≤ y) (y1 : y < 1073741824) : Int64.ofInt (x * 1073741824) ||| Int64.ofInt y = Int64.ofInt (x * 1073741824 + y) := by
  have e : (2 : Int) ^ 30 = 1073741824 := by decide
  exact lm_or' (k := 30) y0 (by rw [e]; exact y1) (by omega) (by rw [e]; exact Int.mul_emod_left _ _) (by omega)
theorem kb_d_wn0 {f : Int → Int} {n : Int} {N : Int} (h : ∀ t : Int, 0 ≤ t → t ≤ N → 0 ≤ f t ∧ f t < 1073741824) {j : Int} (j0 : 0 ≤ j) (hn : n + j ≤ N + 1) : kb_d (wn f j) n.toNat := fun t a b => h (t + j) (by omega) (by omega)
theorem dv_start {F G g : Int → Int} {top n V A : Int} (n0 : 0 < n) (hn : n ≤ top) (hF : ∀ t : Int, 0 ≤ t → t < top → F t = g t) (hd : kb_d g top.toNat) (hv : kb_v g top.toNat = A) (lo : 1073741824 ^ n.toNat ≤ 2 * V) : (∀ t : Int, 0 ≤ t → t ≤ top - n + n → 0 ≤ iup F top 0 t ∧ iup F top 0 t < 1073741824) ∧ kb_v (wn (iup F top 0) (top - n + 1)) n.toNat < V ∧ A = kb_v (wn G (top - n + 1)) (top - n - (top - n)).toNat * V * 1073741824 ^ (top - n + 1).toNat + kb_v (iup F top 0) (top - n + 1 + n).toNat := by
  have fd : ∀ t : Int, 0 ≤ t → t ≤ top - n + n → 0 ≤ iup F top 0 t ∧ iup F top 0 t < 1073741824 := fun t a b => by
    by_cases q : t = top
    · rw [q, iup_self]; omega
    · rw [iup_ne q, hF t a (by omega)]; exact hd t a (by omega)
  refine ⟨fd, ?_, ?_⟩
  · have hw : kb_d (wn (iup F top 0) (top - n + 1)) n.toNat := kb_d_wn0 fd (by omega) (by omega)
    rw [kb_v_hi n0]
    have z : wn (iup F top 0) (top - n + 1) (n - 1) = 0 := by
      unfold wn
      rw [show n - 1 + (top - n + 1) = top by omega, iup_self]
    rw [z, Int.zero_mul, Int.add_zero]
    have := kb_v_lt (kb_d_of_le hw (show (n - 1).toNat ≤ n.toNat by omega))
    rw [pow_hi n0] at lo
    have := kb_pow_pos (n - 1).toNat
    omega
  · rw [show (top - n - (top - n)).toNat = 0 by omega, show top - n + 1 + n = top + 1 by omega, kb_v_next (by omega), iup_self, Int.zero_mul, Int.add_zero]
    show A = 0 * V * _ + _
    rw [Int.zero_mul, Int.zero_mul, Int.zero_add, ← hv]
    exact (kb_v_congr (fun t a b => by rw [iup_ne (by omega)]; exact hF t a (by omega))).symm
theorem gs_exit {n V g ov t : Int} {W Y : Int → Int} (hn : 0 < n) (hw : kb_d W (n + 1).toNat) (hy : kb_d Y n.toNat) (hv : kb_v Y n.toNat = V) (hl : 0 < Y (n - 1)) (et : t = W n * 1073741824 + W (n - 1)) (eo : g * Y (n - 1) + ov = t) (g0 : 0 ≤ g) (g1 : g < 1073741824) (o0 : 0 ≤ ov) (ht : 2 ≤ n → g * Y (n - 2) ≤ ov * 1073741824 + W (n - 2)) : g * V ≤ kb_v W (n + 1).toNat + V := by
  rcases Int.lt_or_le 1 n with q | q
  · exact gs_left (by omega) hw hy hv hl et eo g0 g1 (ht (by omega))
  · have e : n = 1 := by omega
    subst e
    have e1 : kb_v W ((1 : Int) + 1).toNat = W 0 + W 1 * 1073741824 := by
      show 0 + W ((0 : Nat) : Int) * 1073741824 ^ 0 + W ((1 : Nat) : Int) * 1073741824 ^ 1 = _
      simp
    have e2 : kb_v Y (1 : Int).toNat = Y 0 := kb_v_one
    rw [e2] at hv
    rw [e1]
    simp at et eo hl
    rw [← hv]
    omega
theorem un_end {x y r T : Int} (h : x * T + r = y * T) (r0 : 0 ≤ r) (r1 : r < T) : x = y := by
  have hT : 0 < T := by omega
  have e : (y - x) * T = r := by rw [Int.sub_mul]; omega
  rcases Int.lt_trichotomy (y - x) 0 with q | q | q
  · have := Int.mul_neg_of_neg_of_pos q hT; omega
  · omega
  · have : 1 * T ≤ (y - x) * T := Int.mul_le_mul_of_nonneg_right q (by omega)
    omega
theorem n_zero {f : Int → Int} {n top V : Int} (h0 : 0 ≤ n) (h1 : n ≤ top) (hd : kb_d f top.toNat) (tp : 0 < n → f (n - 1) ≠ 0) (tz : ∀ i : Int, n ≤ i → i < top → f i = 0) (hv : kb_v f top.toNat = (V.natAbs : Int)) : n = 0 ↔ V = 0 := by
  have e : kb_v f top.toNat = kb_v f n.toNat := kb_v_zero (by omega) (fun i a b => tz i (by omega) (by omega))
  constructor
  · intro q
    rw [e, q] at hv
    have : kb_v f (0 : Int).toNat = 0 := rfl
    omega
  · intro q
    rcases Int.lt_or_le 0 n with w | w
    · exfalso
      obtain ⟨j, hj⟩ : ∃ j : Nat, n.toNat = j + 1 := ⟨n.toNat - 1, by omega⟩
      have d2 := kb_d_of_le hd (show n.toNat ≤ top.toNat by omega)
      rw [e, hj, q] at hv
      rw [hj] at d2
      have := kb_v_lo d2 (by have := tp w; rw [show n - 1 = (j : Int) by omega] at this; exact this)
      have := kb_pow_pos j
      have : ((0 : Int).natAbs : Int) = 0 := rfl
      omega
    · omega
