theorem g_cmp_ge {x y : Int} : 0 ≤ g_cmp x y ↔ y ≤ x := by
  have := @g_cmp_lt x y
  omega
theorem dv_tot {U K u2 Q R g V cy bo bb : Int} (h1 : U = K + u2 * Q) (h2 : R = K - g * V + (cy - bo) * Q) (h3 : bb = bo + u2 - cy) : U - g * V = R + bb * Q := by
  grind
/-- what a step of the long division leaves -/
theorem dv_fin {h84 h4 h : Int → Int} {w0 q0 j NB M x gq V : Int} {n2 : Nat} (hn2 : NB = (n2 : Int) + 2) (hq0 : q0 = w0 + NB + M + 1) (j0 : 0 ≤ j) (j1 : j ≤ M) (r2 : ∀ t : Int, t < w0 → h4 t = h84 t) (rd : ∀ t : Int, 0 ≤ t → t ≤ NB + M → 0 ≤ h4 (w0 + t)) (rq : ∀ t : Int, j < t → t ≤ M → 0 ≤ h4 (q0 + 1 + t))
    (fA : ∀ t : Int, (t < w0 + j ∨ w0 + j + NB < t) → h t = h4 t) (fB : hok h) (fC : ∀ t : Int, 0 ≤ t → t < NB → 0 ≤ h (w0 + j + t)) (fD : kn_v (fun t => h (w0 + j + t)) (n2 + 2) < V) (x0 : 0 ≤ x) (x1 : x < 2147483648) (g0 : 0 ≤ gq) (g1 : gq < 2147483648) :
    (∀ t : Int, t < w0 → iup (iup h (w0 + j + NB) x) (q0 + 1 + j) gq t = h84 t) ∧ hok (iup (iup h (w0 + j + NB) x) (q0 + 1 + j) gq) ∧ (∀ t : Int, 0 ≤ t → t ≤ NB + M → 0 ≤ iup (iup h (w0 + j + NB) x) (q0 + 1 + j) gq (w0 + t)) ∧ kn_v (fun t => iup (iup h (w0 + j + NB) x) (q0 + 1 + j) gq (w0 + (j + (-1) + 1) + t)) (n2 + 2) < V ∧ (∀ t : Int, j + (-1) < t → t ≤ M → 0 ≤ iup (iup h (w0 + j + NB) x) (q0 + 1 + j) gq (q0 + 1 + t)) := by
  refine ⟨fun t ht => ?_, hok_up (hok_up fB (by omega) x1) (by omega) g1, fun t h1 h2 => ?_, ?_, fun t h1 h2 => ?_⟩
  · rw [iup_ne (by omega), iup_ne (by omega), fA t (Or.inl (by omega))]; exact r2 t ht
  · rw [iup_ne (by omega)]
    by_cases e : t = j + NB
    · rw [show w0 + t = w0 + j + NB by omega, iup_self]; exact x0
    · rw [iup_ne (by omega)]
      by_cases e2 : j ≤ t ∧ t < j + NB
      · rw [show w0 + t = w0 + j + (t - j) by omega]; exact fC _ (by omega) (by omega)
      · rw [fA _ (by omega)]; exact rd t h1 h2
  · have e : kn_v (fun t => iup (iup h (w0 + j + NB) x) (q0 + 1 + j) gq (w0 + (j + (-1) + 1) + t)) (n2 + 2) = kn_v (fun t => h (w0 + j + t)) (n2 + 2) := kn_v_congr (fun t a b => by
      show iup (iup h (w0 + j + NB) x) (q0 + 1 + j) gq (w0 + (j + (-1) + 1) + t) = _
      rw [iup_ne (by omega), iup_ne (by omega), show w0 + (j + (-1) + 1) + t = w0 + j + t by omega])
    rw [e]; exact fD
  · by_cases e : t = j
    · rw [e, iup_self]; exact g0
    · rw [iup_ne (by omega), iup_ne (by omega), fA _ (by omega)]; exact rq t (by omega) h2
theorem nv_lt_of_mul {x y P : Int} (hP : 0 < P) (h : x * P < y * P) : x < y := by
  rcases Int.lt_or_le x y with q | q
  · exact q
  · have := Int.mul_le_mul_of_nonneg_right q (Int.le_of_lt hP)
    omega
