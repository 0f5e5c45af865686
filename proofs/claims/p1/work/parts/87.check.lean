section CTab
/-- the value of a polynomial, told by a list, as eval() finds it: quickly -/
def hvF (F : Nat → Int) (X : Int) (e dg : Nat) : Nat → Nat → Int → Int
  | 0, _, acc => acc
  | f + 1, m, acc => hvF F X e dg f (m + 1) (acc * X + F (dg - m) * ((2 ^ (e * m) : Nat) : Int))
theorem hvF_ev (F : Nat → Int) (X : Int) (e dg : Nat) : ∀ f m, hvF F X e dg f (m + 1) (evP F X (e : Int) dg m) = evP F X (e : Int) dg (m + f)
  | 0, m => rfl
  | f + 1, m => by
      have h := hvF_ev F X e dg f (m + 1)
      rw [show m + (f + 1) = m + 1 + f by omega, ← h]
      show hvF F X e dg f (m + 1 + 1) (evP F X (e : Int) dg m * X + F (dg - (m + 1)) * ((2 ^ (e * (m + 1)) : Nat) : Int)) = hvF F X e dg f (m + 1 + 1) (evP F X (e : Int) dg m * X + F (dg - (m + 1)) * 2 ^ ((e : Int) * ((m : Int) + 1)).toNat)
      have e1 : ((e : Int) * ((m : Int) + 1)).toNat = e * (m + 1) := by
        rw [show ((e : Int) * ((m : Int) + 1)) = ((e * (m + 1) : Nat) : Int) by push_cast; rfl]
        exact Int.toNat_natCast _
      rw [e1, Int.natCast_pow]
      rfl
def vS (Ls : List (List Int)) (n : Nat) (X : Int) (e i : Nat) : Int := hvF (lg (Ls.getD i [])) X e (n - i) (n - i) 1 (lg (Ls.getD i []) (n - i))
abbrev cL (Ls : List (List Int)) : Nat → Nat → Int := fun i => lg (Ls.getD i [])
theorem vS_ev (Ls : List (List Int)) (n : Nat) (X : Int) (e i : Nat) : vS Ls n X e i = evP (cL Ls i) X (e : Int) (n - i) (n - i) := by
  have h := hvF_ev (lg (Ls.getD i [])) X e (n - i) (n - i) 0
  rw [show 0 + (n - i) = n - i from Nat.zero_add _] at h
  exact h
def chF (Ls : List (List Int)) (n : Nat) (X : Int) (e : Nat) : Nat → Nat → Nat → Int → Nat
  | 0, _, cnt, _ => cnt
  | f + 1, i, cnt, last => if 0 < vS Ls n X e i then (if last < 0 then chF Ls n X e f (i + 1) (cnt + 1) 1 else chF Ls n X e f (i + 1) cnt 1)
      else if vS Ls n X e i < 0 then (if 0 < last then chF Ls n X e f (i + 1) (cnt + 1) (-1) else chF Ls n X e f (i + 1) cnt (-1)) else chF Ls n X e f (i + 1) cnt last
theorem chF_ch (Ls : List (List Int)) (n : Nat) (X : Int) (e : Nat) : ∀ (f i cnt : Nat) (last : Int), (cnt : Int) = (chgS (fun i => sg (vS Ls n X e i)) i).1 → last = (chgS (fun i => sg (vS Ls n X e i)) i).2 → ((chF Ls n X e f i cnt last : Nat) : Int) = (chgS (fun i => sg (vS Ls n X e i)) (i + f)).1
  | 0, i, cnt, last, h1, _ => h1
  | f + 1, i, cnt, last, h1, h2 => by
      rw [show i + (f + 1) = i + 1 + f by omega]
      have k1 : (chgS (fun i => sg (vS Ls n X e i)) (i + 1)).1 = (chgS (fun i => sg (vS Ls n X e i)) i).1 + (if sg (vS Ls n X e i) * (chgS (fun i => sg (vS Ls n X e i)) i).2 < 0 then 1 else 0) := rfl
      have k2 : (chgS (fun i => sg (vS Ls n X e i)) (i + 1)).2 = (if sg (vS Ls n X e i) = 0 then (chgS (fun i => sg (vS Ls n X e i)) i).2 else sg (vS Ls n X e i)) := rfl
      rw [← h1, ← h2] at k1
      rw [← h2] at k2
      show ((if 0 < vS Ls n X e i then (if last < 0 then chF Ls n X e f (i + 1) (cnt + 1) 1 else chF Ls n X e f (i + 1) cnt 1)
        else if vS Ls n X e i < 0 then (if 0 < last then chF Ls n X e f (i + 1) (cnt + 1) (-1) else chF Ls n X e f (i + 1) cnt (-1)) else chF Ls n X e f (i + 1) cnt last : Nat) : Int) = _
      by_cases p : 0 < vS Ls n X e i
      · have s1 : sg (vS Ls n X e i) = 1 := sg_pos.mpr p
        rw [s1] at k1 k2
        rw [if_pos p]
        rw [if_neg (by decide)] at k2
        by_cases q : last < 0
        · rw [if_pos q]
          rw [if_pos (by omega)] at k1
          exact chF_ch Ls n X e f (i + 1) (cnt + 1) 1 (by rw [k1]; omega) k2.symm
        · rw [if_neg q]
          rw [if_neg (by omega)] at k1
          exact chF_ch Ls n X e f (i + 1) cnt 1 (by rw [k1]; omega) k2.symm
      · rw [if_neg p]
        by_cases p2 : vS Ls n X e i < 0
        · have s1 : sg (vS Ls n X e i) = -1 := sg_neg.mpr p2
          rw [s1] at k1 k2
          rw [if_pos p2]
          rw [if_neg (by decide)] at k2
          by_cases q : 0 < last
          · rw [if_pos q]
            rw [if_pos (by omega)] at k1
            exact chF_ch Ls n X e f (i + 1) (cnt + 1) (-1) (by rw [k1]; omega) k2.symm
          · rw [if_neg q]
            rw [if_neg (by omega)] at k1
            exact chF_ch Ls n X e f (i + 1) cnt (-1) (by rw [k1]; omega) k2.symm
        · have s1 : sg (vS Ls n X e i) = 0 := sg_zero.mpr (by omega)
          rw [s1] at k1 k2
          rw [if_neg p2]
          rw [if_pos rfl] at k2
          rw [if_neg (by omega)] at k1
          exact chF_ch Ls n X e f (i + 1) cnt last (by rw [k1]; omega) k2.symm
def upF (Ls : List (List Int)) (n : Nat) (low X : Int) (e : Nat) : Int := low - ((chF Ls n X e (n + 1) 0 0 0 : Nat) : Int)
theorem upF_up (Ls : List (List Int)) (n : Nat) (X : Int) (e : Nat) : upF Ls n (lowC n (cL Ls)) X e = upV n (cL Ls) X (e : Int) := by
  unfold upF upV
  rw [chF_ch Ls n X e (n + 1) 0 0 0 rfl rfl, Nat.zero_add]
  rw [show (fun i => sg (vS Ls n X e i)) = (fun i => sg (evP (cL Ls i) X (e : Int) (n - i) (n - i))) from funext fun i => by rw [vS_ev]]
abbrev rdT : Type := Int × Int × Nat × Int × Int
def bdF (L H : Int) (e : Nat) : Bool := decide (e ≤ 58) && decide (L.natAbs < 288230376151711744) && decide (H.natAbs < 288230376151711744)
def okR (Ls : List (List Int)) (n : Nat) (low i : Int) : List rdT → Int → Int → Nat → Int → Int → Bool
  | [], L, H, e, be, up => bdF L H e && (decide (be = i) && decide (up = i + 1))
  | (L', H', e', be', up') :: r, L, H, e, be, up => bdF L H e && (okR Ls n low i r L' H' e' be' up' &&
      (if (L + H) % 2 = 1 then decide (e' = e + 1) && ((decide (L' = L * 2) && decide (H' = L + H) && decide (be' = be) && decide (i < up') && decide (up' = upF Ls n low (L + H) (e + 1))) ||
          (decide (L' = L + H) && decide (H' = H * 2) && decide (up' = up) && decide (¬ i < be') && decide (be' = upF Ls n low (L + H) (e + 1))))
        else decide (e' = e) && ((decide (L' = L) && decide (H' = (L + H) / 2) && decide (be' = be) && decide (i < up') && decide (up' = upF Ls n low ((L + H) / 2) e)) ||
          (decide (L' = (L + H) / 2) && decide (H' = H) && decide (up' = up) && decide (¬ i < be') && decide (be' = upF Ls n low ((L + H) / 2) e)))))
theorem okR_loc {Ls : List (List Int)} {n : Nat} {i : Int} : ∀ (r : List rdT) (L H : Int) (e : Nat) (be up : Int) (m : Nat), r.length < m → okR Ls n (lowC n (cL Ls)) i r L H e be up = true → locP n (cL Ls) i m L H (e : Int) be up
  | _, _, _, _, _, _, 0, h, _ => absurd h (Nat.not_lt_zero _)
  | [], L, H, e, be, up, m + 1, _, h => by
      unfold okR bdF at h
      simp only [Bool.and_eq_true, decide_eq_true_eq] at h
      obtain ⟨⟨⟨b1, b2⟩, b3⟩, c1, c2⟩ := h
      have s58 : (2 : Int) ^ 58 = 288230376151711744 := by decide
      unfold locP
      exact ⟨by rw [s58]; omega, fun w => absurd ⟨c1, c2⟩ w⟩
  | (L', H', e', be', up') :: r, L, H, e, be, up, m + 1, hm, h => by
      have hr : r.length < m := by rw [List.length_cons] at hm; omega
      unfold okR bdF at h
      simp only [Bool.and_eq_true, decide_eq_true_eq] at h
      obtain ⟨⟨⟨b1, b2⟩, b3⟩, hk, hs⟩ := h
      have ih := okR_loc r L' H' e' be' up' m hr hk
      have s58 : (2 : Int) ^ 58 = 288230376151711744 := by decide
      unfold locP
      refine ⟨by rw [s58]; omega, fun _ => ⟨fun w => ?_, fun w => ?_⟩⟩
      · rw [if_pos w] at hs
        simp only [Bool.and_eq_true, Bool.or_eq_true, decide_eq_true_eq] at hs
        obtain ⟨he, hs⟩ := hs
        subst he
        rw [upF_up] at hs
        push_cast at ih hs ⊢
        rcases hs with ⟨⟨⟨⟨rfl, rfl⟩, rfl⟩, hi⟩, hu⟩ | ⟨⟨⟨⟨rfl, rfl⟩, rfl⟩, hi⟩, hu⟩
        · rw [← hu]; exact ⟨fun _ => ih, fun w2 => absurd hi w2⟩
        · rw [← hu]; exact ⟨fun w2 => absurd w2 hi, fun _ => ih⟩
      · rw [if_neg (by omega)] at hs
        simp only [Bool.and_eq_true, Bool.or_eq_true, decide_eq_true_eq] at hs
        obtain ⟨he, hs⟩ := hs
        subst he
        rw [upF_up] at hs
        rcases hs with ⟨⟨⟨⟨rfl, rfl⟩, rfl⟩, hi⟩, hu⟩ | ⟨⟨⟨⟨rfl, rfl⟩, rfl⟩, hi⟩, hu⟩
        · rw [← hu]; exact ⟨fun _ => ih, fun w2 => absurd hi w2⟩
        · rw [← hu]; exact ⟨fun w2 => absurd w2 hi, fun _ => ih⟩
end CTab
