theorem un_digit {x y T U : Int} (hT : 0 < T) (hU : 0 < U) (hB : T * U = 1073741824) : (x / T + (y * U) % 1073741824) * T + x % T = x + (y % T) * 1073741824 := by
  have e := mod_TU (x := y) hU (show U * T = 1073741824 by rw [Int.mul_comm]; exact hB)
  have h := Int.mul_ediv_add_emod x T
  rw [e]
  generalize y % T = m at *
  generalize x / T = q at *
  generalize x % T = r at *
  subst h
  rw [← hB]
  grind
theorem bl_n {n s : Int} {k : Nat} {f : Int → Int} {V : Int} (h : num1 n s k f V) (hn : 0 < n) : 30 * (n - 1) + 1 ≤ bl V ∧ bl V ≤ 30 * n := by
  have hz := num1_zero h
  have h1 := num1_lt h
  have h2 := num1_ge h hn
  rw [p30] at h1 h2
  have h3 := bl_le h1
  have hv : V ≠ 0 := fun q => by have := hz.mpr q; omega
  have h4 := (bl_bd hv).2.2
  have h5 : (2 : Int) ^ (30 * (n - 1).toNat) < 2 ^ (bl V).toNat := Int.lt_of_le_of_lt h2 h4
  have h6 : 30 * (n - 1).toNat < (bl V).toNat := by
    rcases Nat.lt_or_ge (30 * (n - 1).toNat) (bl V).toNat with z | z
    · exact z
    · obtain ⟨d, hd⟩ := Nat.exists_eq_add_of_le z
      rw [hd, Int.pow_add] at h5
      have := i_p2 d
      have h9 : (2 : Int) ^ (bl V).toNat * 1 ≤ 2 ^ (bl V).toNat * 2 ^ d := Int.mul_le_mul_of_nonneg_left (by omega) (Int.le_of_lt (i_p2 _))
      omega
  omega
/-- the divisor, shifted so that its highest digit is full -/
theorem yv {n s sh : Int} {k : Nat} {f : Int → Int} {V : Int} (h : num1 n s k f V) (hn : 0 < n) (hs : sh = 30 * n - bl V) : kb_v (rdg f n (2 ^ sh.toNat) (2 ^ (30 - sh).toNat)) n.toNat = (V.natAbs : Int) * 2 ^ sh.toNat ∧ (V.natAbs : Int) * 2 ^ sh.toNat < 1073741824 ^ n.toNat ∧ 1073741824 ^ n.toNat ≤ 2 * ((V.natAbs : Int) * 2 ^ sh.toNat) := by
  have hb := bl_n h hn
  have hz := num1_zero h
  have hv : V ≠ 0 := fun q => by have := hz.mpr q; omega
  obtain ⟨b1, b2, b3⟩ := bl_bd hv
  have s0 : 0 ≤ sh := by omega
  have s1 : sh < 30 := by omega
  have hT := i_p2 sh.toNat
  have hU := i_p2 (30 - sh).toNat
  have hB := TU30 (r := sh) s0 (by omega)
  obtain ⟨h0, h1, h2, h3, h4, h5, h6⟩ := h
  have up : (V.natAbs : Int) * 2 ^ sh.toNat < 1073741824 ^ n.toNat := by
    rw [p30, show 30 * n.toNat = (bl V).toNat + sh.toNat by omega, Int.pow_add]
    exact Int.mul_lt_mul_of_pos_right b3 hT
  have lo : 1073741824 ^ n.toNat ≤ 2 * ((V.natAbs : Int) * 2 ^ sh.toNat) := by
    rw [p30, show 30 * n.toNat = (bl V - 1).toNat + sh.toNat + 1 by omega, Int.pow_succ, Int.pow_add]
    have := Int.mul_le_mul_of_nonneg_right b2 (Int.le_of_lt hT)
    omega
  refine ⟨?_, up, lo⟩
  have r := rdg_v (g := f) (n := n) hT hB n.toNat
  rw [if_pos (by omega), show ((n.toNat : Nat) : Int) - 1 = n - 1 by omega, ex_v h0 (by omega), h6] at r
  have e1 : ex f n (n - 1) = f (n - 1) := if_pos (by omega)
  rw [e1] at r
  have d0 := (h3 (n - 1) (by omega) (by omega)).1
  have c0 : 0 ≤ f (n - 1) / 2 ^ (30 - sh).toNat := Int.ediv_nonneg d0 (by omega)
  have k0 : 0 ≤ kb_v (rdg f n (2 ^ sh.toNat) (2 ^ (30 - sh).toNat)) n.toNat := kb_v_nonneg (fun i i0 _ => rdg_bd h3 s0 s1 i0)
  have hp := kb_pow_pos n.toNat
  have cz : f (n - 1) / 2 ^ (30 - sh).toNat = 0 := by
    rcases Int.lt_or_le (f (n - 1) / 2 ^ (30 - sh).toNat) 1 with q | q
    · omega
    · have : 1 * 1073741824 ^ n.toNat ≤ f (n - 1) / 2 ^ (30 - sh).toNat * 1073741824 ^ n.toNat := Int.mul_le_mul_of_nonneg_right q (by omega)
      omega
  rw [cz, Int.zero_mul, Int.add_zero] at r
  exact r
/-- a value by its highest digit -/
theorem kb_v_hi {g : Int → Int} {n : Int} (hn : 0 < n) : kb_v g n.toNat = kb_v g (n - 1).toNat + g (n - 1) * 1073741824 ^ (n - 1).toNat := by
  have h := kb_v_next (g := g) (i := n - 1) (by omega)
  rw [show n - 1 + 1 = n by omega] at h
  exact h
theorem pow_hi {n : Int} (hn : 0 < n) : (1073741824 : Int) ^ n.toNat = 1073741824 ^ (n - 1).toNat * 1073741824 := by
  have h := pow_next (i := n - 1) (by omega)
  rw [show n - 1 + 1 = n by omega] at h
  exact h
theorem ylead {n V : Int} {Y : Int → Int} (hn : 0 < n) (hd : kb_d Y n.toNat) (hv : kb_v Y n.toNat = V) (lo : 1073741824 ^ n.toNat ≤ 2 * V) : 536870912 ≤ Y (n - 1) ∧ Y (n - 1) < 1073741824 := by
  have hdn := hd (n - 1) (by omega) (by omega)
  refine ⟨?_, hdn.2⟩
  have h1 := kb_v_hi (g := Y) hn
  have h2 := kb_v_lt (kb_d_of_le hd (show (n - 1).toNat ≤ n.toNat by omega))
  have hp := kb_pow_pos (n - 1).toNat
  rw [pow_hi hn] at lo
  rcases Int.lt_or_le (Y (n - 1)) 536870912 with q | q
  · have : (Y (n - 1) + 1) * 1073741824 ^ (n - 1).toNat ≤ 536870912 * 1073741824 ^ (n - 1).toNat := Int.mul_le_mul_of_nonneg_right (by omega) (by omega)
    rw [Int.add_mul, Int.one_mul] at this
    omega
  · exact q
/-- the first guess: u the window's value, of n + 1 digits; V the divisor's -/
theorem gs_first {n V R u2 u1 u0 lead t g : Int} {W Y : Int → Int} (hn : 0 < n) (hw : kb_d W (n + 1).toNat) (hy : kb_d Y n.toNat) (hv : kb_v Y n.toNat = V) (hR0 : 0 ≤ R) (hR : R < V) (e0 : kb_v W (n + 1).toNat = R * 1073741824 + u0) (hu0 : 0 ≤ u0 ∧ u0 < 1073741824) (eu2 : W n = u2) (eu1 : W (n - 1) = u1) (el : Y (n - 1) = lead) (hl : 536870912 ≤ lead) (et : t = u2 * 1073741824 + u1) (eg : g = if 1073741823 < t / lead then 1073741823 else t / lead) : 0 ≤ g ∧ g < 1073741824 ∧ 0 ≤ t - g * lead ∧ t - g * lead < 2147483648 ∧ kb_v W (n + 1).toNat < (g + 1) * V ∧ g * V ≤ kb_v W (n + 1).toNat + 2 * V ∧ u2 ≤ lead ∧ 0 ≤ t ∧ t < 1152921504606846976 := by
  have w2 := hw n (by omega) (by omega)
  have w1 := hw (n - 1) (by omega) (by omega)
  have l1 := (hy (n - 1) (by omega) (by omega)).2
  rw [eu2] at w2
  rw [eu1] at w1
  rw [el] at l1
  have hW : kb_v W (n + 1).toNat = kb_v W (n - 1).toNat + t * 1073741824 ^ (n - 1).toNat := by
    rw [kb_v_next (g := W) (i := n) (by omega), kb_v_hi (g := W) hn, pow_hi hn, eu2, eu1, et]
    generalize (1073741824 : Int) ^ (n - 1).toNat = P
    generalize kb_v W (n - 1).toNat = K
    grind
  have hV : V = kb_v Y (n - 1).toNat + lead * 1073741824 ^ (n - 1).toNat := by rw [← hv, kb_v_hi (g := Y) hn, el]
  have a0 := kb_v_nonneg (kb_d_of_le hw (show (n - 1).toNat ≤ (n + 1).toNat by omega))
  have a1 := kb_v_lt (kb_d_of_le hw (show (n - 1).toNat ≤ (n + 1).toNat by omega))
  have b0 := kb_v_nonneg (kb_d_of_le hy (show (n - 1).toNat ≤ n.toNat by omega))
  have b1 := kb_v_lt (kb_d_of_le hy (show (n - 1).toNat ≤ n.toNat by omega))
  have hp := kb_pow_pos (n - 1).toNat
  have hUV : kb_v W (n + 1).toNat < 1073741824 * V := by
    have : (R + 1) * 1073741824 ≤ V * 1073741824 := Int.mul_le_mul_of_nonneg_right (by omega) (by omega)
    omega
  generalize hU : kb_v W (n + 1).toNat = U at *
  generalize kb_v W (n - 1).toNat = Wl at *
  generalize kb_v Y (n - 1).toNat = Yl at *
  generalize (1073741824 : Int) ^ (n - 1).toNat = P at *
  have t0 : 0 ≤ t := by omega
  have hu2 : u2 ≤ lead := by
    rcases Int.lt_or_le lead u2 with q | q
    · exfalso
      have h1 : (lead + 1) * (1073741824 * P) ≤ u2 * (1073741824 * P) := Int.mul_le_mul_of_nonneg_right (by omega) (by omega)
      have h2 : t * P = u2 * (1073741824 * P) + u1 * P := by subst et; grind
      have h3 : 0 ≤ u1 * P := Int.mul_nonneg w1.1 (by omega)
      have h4 : 1073741824 * V = 1073741824 * Yl + lead * (1073741824 * P) := by subst hV; grind
      have h5 : (lead + 1) * (1073741824 * P) = lead * (1073741824 * P) + 1073741824 * P := by grind
      omega
    · exact q
  have q0 : 0 ≤ t / lead := Int.ediv_nonneg t0 (by omega)
  have qm := Int.mul_ediv_add_emod t lead
  have ql := Int.emod_lt_of_pos t (show 0 < lead by omega)
  have qn := Int.emod_nonneg t (show lead ≠ 0 by omega)
  have g0 : 0 ≤ g := by subst eg; split <;> omega
  have g1 : g < 1073741824 := by subst eg; split <;> omega
  have gt : g ≤ t / lead := by subst eg; split <;> omega
  have gl : g * lead ≤ t / lead * lead := Int.mul_le_mul_of_nonneg_right gt (by omega)
  have ec : t / lead * lead = lead * (t / lead) := Int.mul_comm _ _
  have ov0 : 0 ≤ t - g * lead := by omega
  have tb : t < 1152921504606846976 := by omega
  refine ⟨g0, g1, ov0, ?_, ?_, ?_, hu2, t0, tb⟩
  · rcases Int.lt_or_le 1073741823 (t / lead) with q | q
    · have e : g = 1073741823 := by rw [eg, if_pos q]
      rw [e]
      omega
    · have e : g = t / lead := by rw [eg, if_neg (by omega)]
      rw [e]
      omega
  · rcases Int.lt_or_le 1073741823 (t / lead) with q | q
    · have e : g = 1073741823 := by rw [eg, if_pos q]
      rw [e]
      omega
    · have e : g = t / lead := by rw [eg, if_neg (by omega)]
      have h1 : (t + 1) * P ≤ ((g + 1) * lead) * P := Int.mul_le_mul_of_nonneg_right (by rw [e, Int.add_mul, Int.one_mul]; omega) (by omega)
      have h2 : (t + 1) * P = t * P + P := by grind
      have h3 : (g + 1) * V = (g + 1) * Yl + ((g + 1) * lead) * P := by subst hV; grind
      have h4 : 0 ≤ (g + 1) * Yl := Int.mul_nonneg (by omega) b0
      omega
  · have h1 : (g * lead) * P ≤ t * P := Int.mul_le_mul_of_nonneg_right (by omega) (by omega)
    have h2 : g * V = g * Yl + (g * lead) * P := by subst hV; grind
    have h3 : g * Yl ≤ g * P := Int.mul_le_mul_of_nonneg_left (by omega) g0
    have h4 : g * P ≤ 1073741823 * P := Int.mul_le_mul_of_nonneg_right (by omega) (by omega)
    have h5 : 536870912 * P ≤ lead * P := Int.mul_le_mul_of_nonneg_right hl (by omega)
    omega
/-- the window's value and the divisor's, by their three and two highest digits -/
theorem gs_top {n : Int} {W Y : Int → Int} (hn : 2 ≤ n) : kb_v W (n + 1).toNat = ((W n * 1073741824 + W (n - 1)) * 1073741824 + W (n - 2)) * 1073741824 ^ (n - 2).toNat + kb_v W (n - 2).toNat ∧ kb_v Y n.toNat = (Y (n - 1) * 1073741824 + Y (n - 2)) * 1073741824 ^ (n - 2).toNat + kb_v Y (n - 2).toNat := by
  have h3 := db_top3 (f := W) (n - 2).toNat
  have h2 := db_top2 (f := Y) (n - 2).toNat
  rw [show (n - 2).toNat + 3 = (n + 1).toNat by omega, show (((n - 2).toNat + 2 : Nat) : Int) = n by omega, show (((n - 2).toNat + 1 : Nat) : Int) = n - 1 by omega, show (((n - 2).toNat : Nat) : Int) = n - 2 by omega] at h3
  rw [show (n - 2).toNat + 2 = n.toNat by omega, show (((n - 2).toNat + 1 : Nat) : Int) = n - 1 by omega, show (((n - 2).toNat : Nat) : Int) = n - 2 by omega] at h2
  exact ⟨h3, h2⟩
theorem gs_lower {n V g ov t : Int} {W Y : Int → Int} (hn : 2 ≤ n) (hw : kb_d W (n + 1).toNat) (hy : kb_d Y n.toNat) (hv : kb_v Y n.toNat = V) (et : t = W n * 1073741824 + W (n - 1)) (eo : g * Y (n - 1) + ov = t) (g0 : 0 ≤ g) (ht : ov * 1073741824 + W (n - 2) < g * Y (n - 2)) : kb_v W (n + 1).toNat < g * V := by
  obtain ⟨h3, h2⟩ := gs_top (W := W) (Y := Y) hn
  rw [h3, ← hv, h2]
  exact kb_lower (by omega) ht g0 (kb_pow_pos _) (kb_v_lt (kb_d_of_le hw (by omega))) (kb_v_nonneg (kb_d_of_le hy (by omega)))
theorem gs_left {n V g ov t : Int} {W Y : Int → Int} (hn : 2 ≤ n) (hw : kb_d W (n + 1).toNat) (hy : kb_d Y n.toNat) (hv : kb_v Y n.toNat = V) (hl : 0 < Y (n - 1)) (et : t = W n * 1073741824 + W (n - 1)) (eo : g * Y (n - 1) + ov = t) (g0 : 0 ≤ g) (g1 : g < 1073741824) (ht : g * Y (n - 2) ≤ ov * 1073741824 + W (n - 2)) : g * V ≤ kb_v W (n + 1).toNat + V := by
  obtain ⟨h3, h2⟩ := gs_top (W := W) (Y := Y) hn
  rw [h3, ← hv, h2]
  exact kb_left (by omega) ht g0 g1 hl (hy (n - 2) (by omega) (by omega)).1 (kb_pow_pos _) (kb_v_nonneg (kb_d_of_le hw (by omega))) (kb_v_nonneg (kb_d_of_le hy (by omega))) (kb_v_lt (kb_d_of_le hy (by omega)))
theorem gs_three {g U V : Int} (h1 : U < (g + 1) * V) (h2 : (g + 3) * V ≤ U + 2 * V) : False := by
  have e1 : (g + 3) * V = (g + 1) * V + 2 * V := by grind
  omega
/-- one digit of the quotient -/
theorem dv_digit {g U V z W1 PN : Int} (hU0 : 0 ≤ U) (h1 : U < (g + 1) * V) (h2 : g * V ≤ U + V) (hz : z = 0 ∨ z = 1) (hW : W1 = U - g * V + z * PN) (w0 : 0 ≤ W1) (w1 : W1 < PN) (hV : V ≤ PN) (hV0 : 0 < V) : (z = 0 → 0 ≤ U - g * V ∧ U - g * V < V ∧ W1 = U - g * V) ∧ (z = 1 → ∀ c W2 : Int, (c = 0 ∨ c = 1) → W2 = W1 + V - c * PN → 0 ≤ W2 → W2 < PN → 0 ≤ U - (g - 1) * V ∧ U - (g - 1) * V < V ∧ W2 = U - (g - 1) * V) := by
  have e1 : (g + 1) * V = g * V + V := by grind
  have e2 : (g - 1) * V = g * V - V := by grind
  rw [e1] at h1
  rw [e2]
  generalize g * V = G at *
  constructor
  · intro q
    subst q
    omega
  · intro q c W2 hc e a b
    subst q
    rcases hc with rfl | rfl
    · omega
    · omega
theorem wn_split {f : Int → Int} {j n : Int} (j0 : 0 ≤ j) (n0 : 0 ≤ n) : kb_v f (j + n).toNat = kb_v f j.toNat + kb_v (wn f j) n.toNat * 1073741824 ^ j.toNat := by
  rw [show (j + n).toNat = j.toNat + n.toNat by omega, kb_v_split]
  congr 2
  refine kb_v_congr (fun i a b => ?_)
  unfold wn
  rw [Int.toNat_of_nonneg j0, Int.add_comm]
theorem wn_low {f : Int → Int} {j n : Int} (n0 : 0 ≤ n) : kb_v (wn f j) (n + 1).toNat = kb_v (wn f (j + 1)) n.toNat * 1073741824 + f j := by
  rw [show (n + 1).toNat = n.toNat + 1 by omega, kb_v_low, Int.add_comm]
  congr 1
  · congr 1
    refine kb_v_congr (fun i a b => ?_)
    unfold wn
    congr 1
    omega
  · unfold wn
    rw [Int.zero_add]
/-- the highest digit is 0 where the value is small -/
theorem kb_hi0 {g : Int → Int} {n : Int} (n0 : 0 ≤ n) (h : kb_d g (n + 1).toNat) (q : kb_v g (n + 1).toNat < 1073741824 ^ n.toNat) : g n = 0 ∧ kb_v g n.toNat = kb_v g (n + 1).toNat := by
  have e := kb_v_next (g := g) n0
  have l0 := kb_v_nonneg (kb_d_of_le h (show n.toNat ≤ (n + 1).toNat by omega))
  have d := (h n n0 (by omega)).1
  have hp := kb_pow_pos n.toNat
  have z : g n = 0 := by
    rcases Int.lt_or_le (g n) 1 with w | w
    · omega
    · have : 1 * 1073741824 ^ n.toNat ≤ g n * 1073741824 ^ n.toNat := Int.mul_le_mul_of_nonneg_right w (by omega)
      omega
  refine ⟨z, ?_⟩
  rw [e, z]
  omega
/-- the step of the whole division: what stands at j + 1 goes to j -/
theorem dv_step' {f f1 g g1 : Int → Int} {j n kk A V q : Int} (j0 : 0 ≤ j) (jk : j ≤ kk) (n0 : 0 ≤ n) (hA : A = kb_v (wn g (j + 1)) (kk - j).toNat * V * 1073741824 ^ (j + 1).toNat + kb_v f (j + 1 + n).toNat) (ho : ∀ t : Int, t < j → f1 t = f t) (hW : kb_v (wn f1 j) (n + 1).toNat = kb_v (wn f j) (n + 1).toNat - q * V) (hd : kb_d (wn f1 j) (n + 1).toNat) (hs : kb_v (wn f1 j) (n + 1).toNat < 1073741824 ^ n.toNat) (hg : g1 j = q) (hgo : ∀ t : Int, j < t → g1 t = g t) : f1 (n + j) = 0 ∧ kb_v (wn f1 j) n.toNat = kb_v (wn f1 j) (n + 1).toNat ∧ A = kb_v (wn g1 j) (kk + 1 - j).toNat * V * 1073741824 ^ j.toNat + kb_v f1 (j + n).toNat := by
  obtain ⟨z0, z1⟩ := kb_hi0 n0 hd hs
  refine ⟨z0, z1, ?_⟩
  rw [wn_split (f := f1) j0 n0, z1, hW, hA]
  have e1 := wn_split (f := f) j0 (show 0 ≤ n + 1 by omega)
  rw [show j + (n + 1) = j + 1 + n by omega] at e1
  rw [e1, pow_next j0]
  have e2 : kb_v f1 j.toNat = kb_v f j.toNat := kb_v_congr (fun t a b => ho t (by omega))
  have e3 := wn_low (f := g1) (j := j) (n := kk - j) (by omega)
  rw [show kk - j + 1 = kk + 1 - j by omega] at e3
  have e4 : kb_v (wn g1 (j + 1)) (kk - j).toNat = kb_v (wn g (j + 1)) (kk - j).toNat := kb_v_congr (fun t a b => hgo _ (by omega))
  rw [e2, e3, e4, hg]
  generalize kb_v (wn g (j + 1)) (kk - j).toNat = Q
  generalize (1073741824 : Int) ^ j.toNat = P
  generalize kb_v (wn f j) (n + 1).toNat = U
  generalize kb_v f j.toNat = F
  grind
/-- the end of a division, undone the shift -/
theorem dv_undo {A V a b Q R T : Int} (hT : 0 < T) (ha : A = a * T) (hb : V = b * T) (a0 : 0 ≤ a) (b0 : 0 < b) (hQ : A = Q * V + R) (r0 : 0 ≤ R) (r1 : R < V) : Q = a / b ∧ R = (a % b) * T := by
  have e1 : (a - Q * b) * T = R := by
    rw [ha, hb] at hQ
    grind
  have c0 : 0 ≤ a - Q * b := by
    rcases Int.lt_or_le (a - Q * b) 0 with q | q
    · have := Int.mul_neg_of_neg_of_pos q hT
      omega
    · exact q
  have c1 : a - Q * b < b := by
    rcases Int.lt_or_le (a - Q * b) b with q | q
    · exact q
    · have : b * T ≤ (a - Q * b) * T := Int.mul_le_mul_of_nonneg_right q (by omega)
      omega
  have e2 : a = (a - Q * b) + b * Q := by rw [Int.mul_comm b Q]; omega
  have e3 : a / b = Q := by
    rw [e2, Int.add_mul_ediv_left _ _ (by omega), Int.ediv_eq_zero_of_lt c0 c1, Int.zero_add]
  have e4 : a % b = a - Q * b := by
    have := Int.mul_ediv_add_emod a b
    rw [e3, Int.mul_comm] at this
    omega
  exact ⟨e3.symm, by rw [e4]; exact e1.symm⟩
theorem un_step {f F : Int → Int} {i n T U r d : Int} (i0 : 0 ≤ i) (hT : 0 < T) (hU : 0 < U) (hB : T * U = 1073741824) (e : kb_v f i.toNat * T + r = kb_v F i.toNat + (if i < n then F i % T else 0) * 1073741824 ^ i.toNat) (h1 : i < n) (hd : d = F i / T + (if i + 1 < n then (F (i + 1) * U) % 1073741824 else 0)) : kb_v (iup f i d) (i + 1).toNat * T + r = kb_v F (i + 1).toNat + (if i + 1 < n then F (i + 1) % T else 0) * 1073741824 ^ (i + 1).toNat := by
  rw [if_pos h1] at e
  have u : kb_v (iup f i d) (i + 1).toNat = kb_v f i.toNat + d * 1073741824 ^ i.toNat := by
    rw [show (i + 1).toNat = i.toNat + 1 by omega]
    exact kb_v_up (fun t h0 h1 => iup_ne (by omega)) (by rw [Int.toNat_of_nonneg i0]; exact iup_self)
  have key : d * T + F i % T = F i + (if i + 1 < n then F (i + 1) % T else 0) * 1073741824 := by
    rw [hd]
    by_cases q : i + 1 < n
    · rw [if_pos q, if_pos q]; exact un_digit hT hU hB
    · rw [if_neg q, if_neg q]
      have := Int.mul_ediv_add_emod (F i) T
      rw [Int.add_zero, Int.zero_mul, Int.mul_comm]
      omega
  rw [u, kb_v_next (g := F) i0, pow_next i0]
  generalize (if i + 1 < n then F (i + 1) % T else 0) = y at *
  generalize F i % T = x at *
  generalize (1073741824 : Int) ^ i.toNat = P at *
  generalize kb_v F i.toNat = K at *
  generalize kb_v f i.toNat = K1 at *
  have h : F i = d * T + x - y * 1073741824 := by omega
  rw [h]
  grind
theorem un_bd {x y T U : Int} (x0 : 0 ≤ x) (x1 : x < 1073741824) (hT : 0 < T) (hU : 0 < U) (hB : T * U = 1073741824) : 0 ≤ x / T ∧ x / T < U ∧ 0 ≤ (y * U) % 1073741824 ∧ (y * U) % 1073741824 ≤ 1073741824 - U ∧ (y * U) % 1073741824 % U = 0 := by
  have h1 := lo_bd x0 x1 hT (show U * T = 1073741824 by rw [Int.mul_comm]; exact hB)
  have h2 := hi_bd (x := y) hU hT (show U * T = 1073741824 by rw [Int.mul_comm]; exact hB)
  exact ⟨h1.1, h1.2, h2.1, h2.2.1, h2.2.2⟩
theorem sg_tmod {a b n : Int} (h : n = 0 ↔ a.tmod b = 0) : (if n = 0 then 0 else sg a) = sg (a.tmod b) := by
  by_cases q : n = 0
  · rw [if_pos q, h.mp q]; rfl
  · rw [if_neg q]
    have q2 : a.tmod b ≠ 0 := fun z => q (h.mpr z)
    rcases Int.lt_trichotomy a 0 with z | z | z
    · have h2 : a.tmod b ≤ 0 := by
        have := Int.tmod_nonneg b (show 0 ≤ -a by omega)
        rw [Int.neg_tmod] at this
        omega
      rw [sg_neg.mpr z, sg_neg.mpr (by omega)]
    · rw [z, Int.zero_tmod] at q2
      exact absurd rfl q2
    · have := Int.tmod_nonneg b (show 0 ≤ a by omega)
      rw [sg_pos.mpr z, sg_pos.mpr (by omega)]
theorem sg_tdiv {a b n : Int} (h : n = 0 ↔ a.tdiv b = 0) : (if n = 0 then 0 else sg a * sg b) = sg (a.tdiv b) := by
  by_cases q : n = 0
  · rw [if_pos q, h.mp q]; rfl
  · rw [if_neg q]
    have q2 : a.tdiv b ≠ 0 := fun z => q (h.mpr z)
    rw [sg_mul]
    have e := Int.mul_tdiv_add_tmod a b
    rcases Int.lt_trichotomy a 0 with z | z | z
    · rcases Int.lt_trichotomy b 0 with y | y | y
      · have := Int.tdiv_nonneg_of_nonpos_of_nonpos (Int.le_of_lt z) (Int.le_of_lt y)
        rw [sg_pos.mpr (Int.mul_pos_of_neg_of_neg z y), sg_pos.mpr (by omega)]
      · rw [y, Int.tdiv_zero] at q2; exact absurd rfl q2
      · have h3 : 0 ≤ (-a).tdiv b := Int.tdiv_nonneg (by omega) (by omega)
        rw [Int.neg_tdiv] at h3
        rw [sg_neg.mpr (Int.mul_neg_of_neg_of_pos z y), sg_neg.mpr (by omega)]
    · rw [z, Int.zero_tdiv] at q2; exact absurd rfl q2
    · rcases Int.lt_trichotomy b 0 with y | y | y
      · have h3 : 0 ≤ a.tdiv (-b) := Int.tdiv_nonneg (by omega) (by omega)
        rw [Int.tdiv_neg] at h3
        rw [sg_neg.mpr (Int.mul_neg_of_pos_of_neg z y), sg_neg.mpr (by omega)]
      · rw [y, Int.tdiv_zero] at q2; exact absurd rfl q2
      · have := Int.tdiv_nonneg (show 0 ≤ a by omega) (show 0 ≤ b by omega)
        rw [sg_pos.mpr (Int.mul_pos z y), sg_pos.mpr (by omega)]
theorem num1_uniq {n s n' s' : Int} {k k' : Nat} {f f' : Int → Int} {V : Int} (h : num1 n s k f V) (h' : num1 n' s' k' f' V) : n = n' := by
  rcases Int.lt_trichotomy n n' with q | q | q
  · have := num1_size_lt h h' q; omega
  · exact q
  · have := num1_size_lt h' h q; omega
