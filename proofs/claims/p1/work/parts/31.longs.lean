section GLongs
variable {p : Program} {l : Launch} {e : Env} {R : Room} {s : State} {m : MethodId} {args : Array Value} {below : List Frame} {meth : Method} {c : Code} {H : Heap} {locs : List Loc} {cells slots : Nat} {Q : State → Prop}
variable {cc : ByteArray} {pc : Nat} {ls : Array Slot} {rest : List Value} {D : va_G} {cl : List vw_C} {A : Nat → Prop} {a : Nat} {tys : List (ClassId × FieldType)} {ws : va_W} {H0 : Heap}
theorem jm_up {h : Int → Int} {z v : Int} (h0 : 0 ≤ z) (h1 : z < 2147483648) : vp_updL (jm h) (Int32.ofInt z).toNatClampNeg (Int64.ofInt v) = jm (iup h z v) := by
  funext j
  rw [g_nat h0 h1]
  unfold vp_updL jm iup
  by_cases q : j = z.toNat
  · rw [if_pos q, if_pos (by omega)]
  · rw [if_neg q, if_neg (by omega)]
theorem jm_at {h : Int → Int} {z : Int} (h0 : 0 ≤ z) (h1 : z < 2147483648) : jm h (Int32.ofInt z).toNatClampNeg = Int64.ofInt (h z) := by
  rw [g_nat h0 h1]
  unfold jm
  rw [Int.toNat_of_nonneg h0]
theorem g_lald (hx : p.tables.exec = Jvm.exec) (hb : c.code = cc) (hK : va_K D cl tys s) (hP : va_P D cl ws H) (q0 t0 : Nat) {cA : ClassId} {n : Nat} {f : Int → Int} (ha : ws[q0]? = some (a, .inl (cA, n, .inr (.inl (jm f))))) (ht : tys[t0]? = some (cA, .long)) {z : Int} (h0 : 0 ≤ z) (h1 : z < n) (hn : n ≤ 2147483648) (hd : decode cc pc = .ok (.laload, 1))
    (kk : W p l e R s m args below meth c H locs cells slots Q (F0 m (pc + 1) ls (Jz (f z) :: rest))) : W p l e R s m args below meth c H locs cells slots Q (F0 m pc ls (Iz z :: .ref a :: rest)) :=
  va_lald hx hb hK hP q0 t0 ha ht (g_in h0 h1 hn) hd (by rw [jm_at h0 (by omega)]; exact kk)
theorem g_last (hx : p.tables.exec = Jvm.exec) (hb : c.code = cc) (hK : va_K D cl tys s) (hP : va_P D cl ws H) (hD : va_D A ws) (hS : va_S A H0 H locs) (q0 t0 : Nat) {cA : ClassId} {n : Nat} {f : Int → Int} (ha : ws[q0]? = some (a, .inl (cA, n, .inr (.inl (jm f))))) (ht : tys[t0]? = some (cA, .long)) {z v : Int} (h0 : 0 ≤ z) (h1 : z < n) (hn : n ≤ 2147483648) (hd : decode cc pc = .ok (.lastore, 1))
    (kk : ∀ (H1 : Heap) (locs1 : List Loc), va_P D cl (ws.set q0 (a, .inl (cA, n, .inr (.inl (jm (iup f z v)))))) H1 → va_D A (ws.set q0 (a, .inl (cA, n, .inr (.inl (jm (iup f z v)))))) → va_S A H0 H1 locs1 → W p l e R s m args below meth c H1 locs1 cells slots Q (F0 m (pc + 1) ls rest)) : W p l e R s m args below meth c H locs cells slots Q (F0 m pc ls (Jz v :: Iz z :: .ref a :: rest)) :=
  va_last hx hb hK hP hD hS q0 t0 ha ht (g_in h0 h1 hn) hd (by rw [jm_up h0 (by omega)]; exact kk)
end GLongs
