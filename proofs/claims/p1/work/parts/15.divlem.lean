theorem dv_ms {A0 Y R g cy bo Q w y cq cr d bo' : Int} (e : R = A0 - g * Y + (cy - bo) * Q) (hc : cq * 2147483648 + cr = cy + g * y) (hb : d + bo' * 2147483648 = bo + w - cr) : R + d * Q = (A0 + w * Q) - g * (Y + y * Q) + (cq - bo') * (Q * 2147483648) := by
  grind
theorem dv_ab {R0 Y R cy Q w y d cy' : Int} (e : R + cy * Q = R0 + Y) (hd : d + cy' * 2147483648 = cy + w + y) : (R + d * Q) + cy' * (Q * 2147483648) = (R0 + w * Q) + (Y + y * Q) := by
  grind
theorem dv_end0 {R b g U V PN : Int} (e : U - g * V = R + b * PN) (R0 : 0 ≤ R) (hV : V ≤ PN) (hP : 0 < PN) (hU : U < (g + 1) * V) (hb : 0 ≤ b) : R < V := by
  have h1 : (g + 1) * V = g * V + V := by rw [Int.add_mul, Int.one_mul]
  rcases Int.lt_or_le 0 b with q | q
  · have h2 : 1 * PN ≤ b * PN := Int.mul_le_mul_of_nonneg_right (by omega) (Int.le_of_lt hP)
    omega
  · have : b = 0 := by omega
    rw [this, Int.zero_mul] at e
    omega
theorem dv_end1 {R R' b cf g U V PN : Int} (e : U - g * V = R + b * PN) (eR : R' + cf * PN = R + V) (R1 : R < PN) (R0' : 0 ≤ R') (R1' : R' < PN) (hV : V ≤ PN) (hP : 0 < PN) (hU : g * V ≤ U + V) (hb : b < 0) : R' < V := by
  have h1 : b * PN ≤ (-1) * PN := Int.mul_le_mul_of_nonneg_right (by omega) (Int.le_of_lt hP)
  have h2 : U - g * V + V = R' + (b + cf) * PN := by rw [Int.add_mul]; omega
  rcases Int.lt_or_le 0 (b + cf) with q | q
  · have h3 : 1 * PN ≤ (b + cf) * PN := Int.mul_le_mul_of_nonneg_right (by omega) (Int.le_of_lt hP)
    omega
  · rcases Int.lt_or_le (b + cf) 0 with q2 | q2
    · have h3 : (b + cf) * PN ≤ (-1) * PN := Int.mul_le_mul_of_nonneg_right (by omega) (Int.le_of_lt hP)
      omega
    · have : b + cf = 0 := by omega
      rw [this, Int.zero_mul] at h2
      omega
/-- the three highest digits, and the two of the divisor -/
theorem dv_top3 {f : Int → Int} (n : Nat) : kn_v f (n + 3) = ((f ((n + 2 : Nat) : Int) * 2147483648 + f ((n + 1 : Nat) : Int)) * 2147483648 + f (n : Int)) * 2147483648 ^ n + kn_v f n := by
  show ((kn_v f n + f (n : Int) * 2147483648 ^ n) + f ((n + 1 : Nat) : Int) * 2147483648 ^ (n + 1)) + f ((n + 2 : Nat) : Int) * 2147483648 ^ (n + 2) = _
  have h1 := kn_pow_succ n
  have h2 := kn_pow_succ (n + 1)
  grind
theorem dv_top2 {f : Int → Int} (n : Nat) : kn_v f (n + 2) = (f ((n + 1 : Nat) : Int) * 2147483648 + f (n : Int)) * 2147483648 ^ n + kn_v f n := by
  show (kn_v f n + f (n : Int) * 2147483648 ^ n) + f ((n + 1 : Nat) : Int) * 2147483648 ^ (n + 1) = _
  have h1 := kn_pow_succ n
  grind
theorem nv_zero {h : Int → Int} {a : Int} (hk : hok h) (hn : nm h a) (q : nv h a = 0) : nsz h a = 0 := by
  have h0 := nsz_nonneg h a
  rcases Int.lt_or_le 0 (nsz h a) with q2 | q2
  · obtain ⟨n, e⟩ : ∃ n : Nat, nsz h a = (n : Int) + 1 := ⟨(nsz h a - 1).toNat, by omega⟩
    have hd := nm_d hk hn
    have e2 : (nsz h a).toNat = n + 1 := by omega
    rw [e2] at hd
    have h2 := kn_v_lo hd (by
      have := hn.2 q2
      rw [e, show a + ((n : Int) + 1) = a + 1 + (n : Int) by omega] at this
      exact this)
    have h3 := kn_pow_pos n
    unfold nv at q
    rw [e2] at q
    omega
  · omega
/-- the divisor moved up fills its digits -/
theorem dv_size {h g : Int → Int} {b y s : Int} {n : Nat} (hk : hok h) (gk : hok g) (hb : nm h b) (gy : nm g y) (hN : nsz h b = (n : Int) + 1) (s0 : 0 ≤ s) (s1 : s < 31) (t0 : 1073741824 ≤ h (b + nsz h b) * 2 ^ s.toNat) (t1 : h (b + nsz h b) * 2 ^ s.toNat < 2147483648) (e : nv g y = nv h b * 2 ^ s.toNat) :
    nsz g y = nsz h b ∧ 1073741824 ≤ g (y + nsz h b) := by
  obtain ⟨M, M0, MB⟩ := p2_m s0 s1
  have p2 := p2_bd s0 s1
  have hd := nm_d hk hb
  have e2 : (nsz h b).toNat = n + 1 := by omega
  rw [e2] at hd
  have ev : nv h b = kn_v (fun i => h (b + 1 + i)) n + h (b + nsz h b) * 2147483648 ^ n := by
    unfold nv
    rw [e2]
    show kn_v _ n + h (b + 1 + (n : Int)) * _ = _
    rw [show b + 1 + (n : Int) = b + nsz h b by omega]
  have k0 := kn_v_nonneg (kn_d_of_le hd (Nat.le_succ n))
  have k1 := kn_v_lt (kn_d_of_le hd (Nat.le_succ n))
  have Qp := kn_pow_pos n
  generalize ht : h (b + nsz h b) = tb at *
  generalize hK : kn_v (fun i => h (b + 1 + i)) n = K at *
  generalize hQ : (2147483648 : Int) ^ n = Q at *
  generalize hP : (2 : Int) ^ s.toNat = P at *
  have tb0 : 0 ≤ tb := by
    have h7 : 0 ≤ h (b + 1 + (n : Int)) := (hd (n : Int) (by omega) (by omega)).1
    rw [show b + 1 + (n : Int) = b + nsz h b by omega, ht] at h7
    exact h7
  have tM : tb + 1 ≤ M := by
    rcases Int.lt_or_le tb M with q | q
    · omega
    · have h1 : M * P ≤ tb * P := Int.mul_le_mul_of_nonneg_right q (by omega)
      have h2 : M * P = 2147483648 := by rw [Int.mul_comm]; exact MB
      omega
  have up : nv g y < 2147483648 * Q := by
    rw [e, ev]
    have h1 : (K + tb * Q) * P < ((tb + 1) * Q) * P := Int.mul_lt_mul_of_pos_right (by rw [Int.add_mul]; omega) (by omega)
    have h2 : ((tb + 1) * Q) * P ≤ (M * Q) * P := Int.mul_le_mul_of_nonneg_right (Int.mul_le_mul_of_nonneg_right tM (by omega)) (by omega)
    have h3 : (M * Q) * P = 2147483648 * Q := by rw [← MB]; grind
    omega
  have lo : 1073741824 * Q ≤ nv g y := by
    rw [e, ev]
    have h1 : (tb * Q) * P ≤ (K + tb * Q) * P := Int.mul_le_mul_of_nonneg_right (by omega) (by omega)
    have h2 : 1073741824 * Q ≤ (tb * P) * Q := Int.mul_le_mul_of_nonneg_right t0 (by omega)
    have h3 : (tb * P) * Q = (tb * Q) * P := by grind
    omega
  have g0 := nsz_nonneg g y
  have gd := nm_d gk gy
  have sz : nsz g y = (n : Int) + 1 := by
    rcases Int.lt_or_le (nsz g y) ((n : Int) + 1) with q | q
    · have h1 := kn_v_lt gd
      have h2 := kn_pow_mono (show (nsz g y).toNat ≤ n by omega)
      have h3 : nv g y < 2147483648 ^ (nsz g y).toNat := h1
      rw [hQ] at h2
      omega
    · rcases Int.lt_or_le ((n : Int) + 1) (nsz g y) with q2 | q2
      · obtain ⟨k, ek⟩ : ∃ k : Nat, nsz g y = (k : Int) + 1 := ⟨(nsz g y - 1).toNat, by omega⟩
        have e3 : (nsz g y).toNat = k + 1 := by omega
        rw [e3] at gd
        have h1 := kn_v_lo gd (by
          have := gy.2 (by omega)
          rw [ek, show y + ((k : Int) + 1) = y + 1 + (k : Int) by omega] at this
          exact this)
        have h2 := kn_pow_mono (show n + 1 ≤ k by omega)
        have h3 := kn_pow_succ n
        have h4 : nv g y = kn_v (fun i => g (y + 1 + i)) (k + 1) := by unfold nv; rw [e3]
        rw [hQ] at h3
        omega
      · omega
  refine ⟨by omega, ?_⟩
  have e3 : (nsz g y).toNat = n + 1 := by omega
  rw [e3] at gd
  have ev2 : nv g y = kn_v (fun i => g (y + 1 + i)) n + g (y + nsz h b) * Q := by
    unfold nv
    rw [e3, ← hQ]
    show kn_v _ n + g (y + 1 + (n : Int)) * _ = _
    rw [show y + 1 + (n : Int) = y + nsz h b by omega]
  have k2 := kn_v_lt (kn_d_of_le gd (Nat.le_succ n))
  rw [hQ] at k2
  rcases Int.lt_or_le (g (y + nsz h b)) 1073741824 with q | q
  · have h1 : (g (y + nsz h b) + 1) * Q ≤ 1073741824 * Q := Int.mul_le_mul_of_nonneg_right (by omega) (by omega)
    rw [Int.add_mul, Int.one_mul] at h1
    omega
  · exact q
theorem dvP_lim {F F' : Nat → Int} {ar ar' : Nat → Int → Int} {a b lim lim' : Int} (h : dvP F F' ar ar' a b lim) (q : lim ≤ lim') : dvP F F' ar ar' a b lim' := by
  obtain ⟨h1, h2, h3, h4, h5, h6, h7, h8, h9, h10, h11, h12, h13⟩ := h
  exact ⟨h1, h2, h3, h4, h5, h6, h7, h8, h9, h10, h11, h12, by omega⟩
theorem g_cmp_gt {x y : Int} : 0 < g_cmp x y ↔ y < x := by
  have := @g_cmp_le x y
  omega
theorem mul_bd {x y : Int} (x0 : 0 ≤ x) (x1 : x ≤ 2147483647) (y0 : 0 ≤ y) (y1 : y ≤ 2147483647) : 0 ≤ x * y ∧ x * y ≤ 4611686014132420609 := by
  have h1 := Int.mul_nonneg x0 y0
  have h2 : x * y ≤ 2147483647 * y := Int.mul_le_mul_of_nonneg_right x1 y0
  omega
theorem im_shl {x k : Int} (h0 : 0 ≤ k) (h1 : k < 32) : Int32.ofInt x <<< (Int32.ofInt k &&& 31) = Int32.ofInt (x * 2 ^ k.toNat) := by
  have hs : ∀ j : Fin 32, ((Int32.ofInt (j.val : Int) &&& 31).toBitVec.smod 32) = BitVec.ofNat 32 j.val := by decide +kernel
  have hk : ((Int32.ofInt k &&& 31).toBitVec.smod 32) = BitVec.ofNat 32 k.toNat := by
    have h := hs ⟨k.toNat, by omega⟩
    have e : ((k.toNat : Nat) : Int) = k := Int.toNat_of_nonneg h0
    simpa [e] using h
  apply Int32.toBitVec_inj.mp
  show (BitVec.ofInt 32 x) <<< ((Int32.ofInt k &&& 31).toBitVec.smod 32) = BitVec.ofInt 32 (x * 2 ^ k.toNat)
  rw [hk]
  apply BitVec.eq_of_toNat_eq
  have e2 : (BitVec.ofNat 32 k.toNat).toNat = k.toNat := by
    rw [BitVec.toNat_ofNat]
    exact Nat.mod_eq_of_lt (Nat.lt_of_lt_of_le (show k.toNat < 32 by omega) (by decide))
  rw [BitVec.shiftLeft_eq', BitVec.toNat_shiftLeft, e2, BitVec.toNat_ofInt, BitVec.toNat_ofInt, Nat.shiftLeft_eq]
  have e3 : ((((x % ((2 ^ 32 : Nat) : Int)).toNat * 2 ^ k.toNat) % 2 ^ 32 : Nat) : Int) = x * 2 ^ k.toNat % ((2 ^ 32 : Nat) : Int) := by
    rw [Int.natCast_emod, Int.natCast_mul, Int.toNat_of_nonneg (Int.emod_nonneg _ (by omega)), Int.natCast_pow]
    rw [Int.mul_emod, Int.emod_emod, ← Int.mul_emod]
    rfl
  rw [← e3]
  rfl
section DvRows
variable {p : Program} {l : Launch} {e : Env} {R : Room} {s : State} {m : MethodId} {args : Array Value} {below : List Frame} {meth : Method} {c : Code} {H : Heap} {locs : List Loc} {cells slots : Nat} {Q : State → Prop}
variable {cc : ByteArray} {pc : Nat} {ls : Array Slot} {rest : List Value}
theorem g_ishl (hx : p.tables.exec = Jvm.exec) (hb : c.code = cc) {x y : Int} (h0 : 0 ≤ y) (h1 : y < 32) (hd : decode cc pc = .ok (.ishl, 1)) (k : W p l e R s m args below meth c H locs cells slots Q (F0 m (pc + 1) ls (Iz (x * 2 ^ y.toNat) :: rest))) : W p l e R s m args below meth c H locs cells slots Q (F0 m pc ls (Iz y :: Iz x :: rest)) :=
  lv_ishl hx hb hd (by rw [im_shl h0 h1]; exact k)
theorem r_cut {P : Prop} {g g0 : JFrame} (k : P → W p l e R s m args below meth c H locs cells slots Q g) (h : (P → W p l e R s m args below meth c H locs cells slots Q g) → W p l e R s m args below meth c H locs cells slots Q g0) : W p l e R s m args below meth c H locs cells slots Q g0 := h k
end DvRows
