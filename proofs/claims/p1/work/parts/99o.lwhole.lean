section LWhole
theorem bl_ok12 : ∀ j : Nat, j < 81 → defaultValue (tyX12 j) = vp_V [Iz 0, .null, Iz 0, Iz 0, Iz 0, .null, .null, .null, Iz 0, Iz 0, Iz 0, .null, Iz 0, .null, Iz 0, .null, Iz 0, Iz 0, .null, Iz 0, Iz 0, .null, .null, .null, Iz 0, Iz 0, Iz 0, Iz 0, Iz 0, .null, .null, Iz 0, Iz 0, .null, .null, Iz 0, .null, .null, Iz 0, Iz 0, Iz 0, .null, Iz 0, .null, Iz 0, Iz 0, .null, .null, .null, .null, .null, .null, .null, Iz 0, .null, Iz 0, .null, Iz 0, .null, Iz 0, .null, Iz 0, Iz 0, Iz 0, .null, Iz 0, .null, .null, .null, Iz 0, Iz 0, Iz 0, Iz 0, Iz 0, Iz 0, .null, .null, .null, .null, .null, Iz 0] j := fun j hj => by
  rcases (show j = 0 ∨ j = 1 ∨ j = 2 ∨ j = 3 ∨ j = 4 ∨ j = 5 ∨ j = 6 ∨ j = 7 ∨ j = 8 ∨ j = 9 ∨ j = 10 ∨ j = 11 ∨ j = 12 ∨ j = 13 ∨ j = 14 ∨ j = 15 ∨ j = 16 ∨ j = 17 ∨ j = 18 ∨ j = 19 ∨ j = 20 ∨ j = 21 ∨ j = 22 ∨ j = 23 ∨ j = 24 ∨ j = 25 ∨ j = 26 ∨ j = 27 ∨ j = 28 ∨ j = 29 ∨ j = 30 ∨ j = 31 ∨ j = 32 ∨ j = 33 ∨ j = 34 ∨ j = 35 ∨ j = 36 ∨ j = 37 ∨ j = 38 ∨ j = 39 ∨ j = 40 ∨ j = 41 ∨ j = 42 ∨ j = 43 ∨ j = 44 ∨ j = 45 ∨ j = 46 ∨ j = 47 ∨ j = 48 ∨ j = 49 ∨ j = 50 ∨ j = 51 ∨ j = 52 ∨ j = 53 ∨ j = 54 ∨ j = 55 ∨ j = 56 ∨ j = 57 ∨ j = 58 ∨ j = 59 ∨ j = 60 ∨ j = 61 ∨ j = 62 ∨ j = 63 ∨ j = 64 ∨ j = 65 ∨ j = 66 ∨ j = 67 ∨ j = 68 ∨ j = 69 ∨ j = 70 ∨ j = 71 ∨ j = 72 ∨ j = 73 ∨ j = 74 ∨ j = 75 ∨ j = 76 ∨ j = 77 ∨ j = 78 ∨ j = 79 ∨ j = 80 by omega) with rfl | rfl | rfl | rfl | rfl | rfl | rfl | rfl | rfl | rfl | rfl | rfl | rfl | rfl | rfl | rfl | rfl | rfl | rfl | rfl | rfl | rfl | rfl | rfl | rfl | rfl | rfl | rfl | rfl | rfl | rfl | rfl | rfl | rfl | rfl | rfl | rfl | rfl | rfl | rfl | rfl | rfl | rfl | rfl | rfl | rfl | rfl | rfl | rfl | rfl | rfl | rfl | rfl | rfl | rfl | rfl | rfl | rfl | rfl | rfl | rfl | rfl | rfl | rfl | rfl | rfl | rfl | rfl | rfl | rfl | rfl | rfl | rfl | rfl | rfl | rfl | rfl | rfl | rfl | rfl | rfl <;> rfl
theorem most_clamp (a : Int) : mostR a = clampM a := by
  unfold mostR clampM
  by_cases h3 : a < 10
  · rw [if_pos h3]
    by_cases h1 : a < 1
    · rw [if_pos h1, if_neg (show ¬ 1 < a by omega)]
    · rw [if_neg h1, if_neg (show ¬ 10 < a by omega)]
      by_cases h4 : 1 < a
      · rw [if_pos h4]
      · rw [if_neg h4]; omega
  · rw [if_neg h3, if_neg (show ¬ a < 1 by omega), if_pos (show (1 : Int) < 10 by decide)]
    by_cases h2 : 10 < a
    · rw [if_pos h2]
    · rw [if_neg h2]; omega
theorem clamp_bd (a : Int) : 1 ≤ clampM a ∧ clampM a ≤ 10 := by
  rw [← most_clamp]
  unfold mostR
  split
  · exact ⟨by decide, by decide⟩
  · split
    · exact ⟨by decide, by decide⟩
    · omega
/-- the script's first int, 0 where there is none -/
def l0 (L : Nat) (xs : Nat → Int32) : Int32 := if L = 0 then 0 else xs 0
theorem kL_cell {l : Launch} {b L : Nat} {xs : Nat → Int32} (hL : L ≤ 7) : Met l yL_cell (Cond.code yL_cell cL_cell 2 (some .int) :: []) { frames := 0, cells := 0, slots := 0, locals := 0 } (va_Pc [.ref b, Iz 0] (fun U => va_X b L xs U U.heap)) (va_Qi (fun (r : Int32) (_ : Unit) => r = l0 L xs) (fun _ _ => True) (fun _ => False)) 0 0 (fun _ => False) := by
  refine Met.ofW (cc := cL_cell) (maxL := 2) (ret := (some .int)) (by decide) rfl ?_
  intro p e s m args below meth c s₁ B hml hv
  obtain ⟨rfl, hX⟩ := hv
  have hx := B.exec
  have hb := B.bytes
  have hr := B.returns
  have hlocks := B.notSynchronized
  have hbl : b < s.heap.size := by
    obtain ⟨scr, h1, -⟩ := hX
    exact (Array.getElem?_eq_some_iff.mp h1).1
  have hbA : ¬ (fun _ : Nat => False) b := fun h => h
  have hS : va_S (fun _ : Nat => False) s.heap s.heap [] := va_S.rf
  have hl := lv_entry ([.ref b, Iz 0]) (n := 2) (Nat.le_of_ble_eq_true rfl)
  rw [lg_entry_eq]
  generalize (lg_sl ([.ref b, Iz 0]) ++ List.replicate (2 - (lg_sl ([.ref b, Iz 0])).length) Slot.unset).toArray = ls at hl ⊢
  have hl : lv_has ls 2 [(0, .ref b), (1, .int 0)] := hl
  refine lv_iload_n hx hb dL_cell_0 rfl (lv_at hl 1 rfl) ?_
  refine lv_aload_n hx hb dL_cell_1 rfl (lv_at hl 0 rfl) ?_
  refine va_slen hx hb hX hbl hbA hS dL_cell_2 ?_
  refine lv_icmp_ge (tgt := 12) hx hb dL_cell_3 (by decide) (fun c_3 => ?_) (fun c_3 => ?_)
  · have h0 : L = 0 := by
      rcases (show L = 0 ∨ L = 1 ∨ L = 2 ∨ L = 3 ∨ L = 4 ∨ L = 5 ∨ L = 6 ∨ L = 7 by omega) with h | h | h | h | h | h | h | h
      · exact h
      all_goals
        rw [h] at c_3
        exact absurd c_3 (by decide)
    refine lv_iconst (v := 0) hx hb dL_cell_12 rfl ?_
    exact W.iret (v := 0) hx hb hr (fun t ht hW => ⟨⟨_, (), rfl, by unfold l0; rw [if_pos h0], trivial⟩, hS.F ht⟩) hS.2.2 dL_cell_13
  · have h0 : ¬ L = 0 := fun h => c_3 (by rw [h]; decide)
    refine lv_aload_n hx hb dL_cell_6 rfl (lv_at hl 0 rfl) ?_
    refine lv_iload_n hx hb dL_cell_7 rfl (lv_at hl 1 rfl) ?_
    refine va_sld hx hb hX hbl hbA hS (i := 0) (fun h => h.elim (fun h => absurd h (by decide)) (fun h => h0 (Nat.le_zero.mp h))) dL_cell_8 ?_
    refine lv_goto (tgt := 13) hx hb dL_cell_9 (by decide) ?_
    exact W.iret (v := xs 0) hx hb hr (fun t ht hW => ⟨⟨_, (), rfl, by unfold l0; rw [if_neg h0], trivial⟩, hS.F ht⟩) hS.2.2 dL_cell_13
section
variable {p : Program} {l : Launch} {e : Env} {R : Room} {s : State} {m : MethodId} {args : Array Value} {below : List Frame} {meth : Method} {c : Code} {H : Heap} {locs : List Loc} {cells slots : Nat} {Q : State → Prop} {cc : ByteArray} {pc : Nat} {ls : Array Slot} {rest : List Value} {D : va_G} {cl : List vw_C} {tys : List (ClassId × FieldType)} {A : Nat → Prop} {H0 : Heap}
/-- a new object, in a world of its own; what is told: where it lies, that all else stays (follows the kit's row va_new) -/
theorem L_new {c0 : Code} (hexec : p.tables.exec = Jvm.exec) (hb : c0.code = cc) {own C : String} {T : u_T} {N ci index : Nat} {Ts : List Cond} (hts : ∀ w ∈ Ts, w.before args s = true) (hin : ∀ w ∈ u_ws C T N, w ∈ Ts) (ty : Nat → FieldType) (hty : ∀ k, k < N → parseFieldDescriptor (T k).2.2.1 = some (ty k)) (hown : s.vm.findClass own = some m.cls) (hcl : (Cond.classLink own index C).before args s = true) (hinst : (Cond.instantiable C N).before args s = true) (hini : (Cond.initialized C).before args s = true)
    (hK : va_K D cl tys s) (hS : va_S A H0 H locs) (hc : cl[ci]? = some (C, T, N)) {fs : List Value} (hfs : ∀ j, j < N → defaultValue (ty j) = vp_V fs j) (hcells : cells + 1 ≤ R.cells) (hslots : slots + N ≤ R.slots) (hdg : decode cc pc = .ok (.new index, 3))
    (kk : ∀ H1 : Heap, va_P D cl [(H.size, .inr (ci, fs))] H1 → H1.size = H.size + 1 → (∀ x : Nat, x < H.size → H1[x]? = H[x]?) → va_S A H0 H1 locs →
      W p l e R s m args below meth c0 H1 locs (cells + 1) (slots + N) Q (F0 m (pc + 3) ls (.ref H.size :: rest))) : W p l e R s m args below meth c0 H locs cells slots Q (F0 m pc ls rest) := by
  have hKn := hK.1 ci _ hc
  refine W.newcK hexec hb hown hcl hinst hini rfl hdg hcells hslots hKn.2.1 rfl fun H1 kC hkC e1 z1 o1 => ?_
  refine kk H1 (va_P_iff.mpr fun q hq => ?_) z1 o1 ⟨Nat.le_trans hS.1 (by omega), fun x h1 h2 => (o1 x (Nat.lt_of_lt_of_le h1 hS.1)).trans (hS.2.1 x h1 h2), hS.2.2⟩
  rw [List.mem_singleton.mp hq]
  exact ⟨_, hc, (u_born ty hts hin hKn hkC e1 hty).to hfs⟩
end

set_option maxHeartbeats 4000000 in
set_option maxRecDepth 100000 in
/-- from a case's end to the law's own end -/
theorem law_tail {p : Program} {l : Launch} {e : Env} {s : State} {m : MethodId} {below : List Frame} {meth : Method} {c : Code} {b : Nat} {xs : Nat → Int32} (hx : p.tables.exec = Jvm.exec) (hb : c.code = code) (hr : meth.sig.returnType = ret) (hlocks : meth.locks = false) (hX : va_X b 7 xs s s.heap) (hbl : b < s.heap.size) : LT p l e s m below meth c b := by
  intro H locs ls hS hl
  have hbA : ¬ (fun q : Nat => s.heap.size ≤ q) b := Nat.not_le.mpr hbl
  refine lv_iinc (v := 7) (lv' := [(4, .int 7), (0, .ref b)]) hx hb dL_law_1388 hl (k := 1) rfl (by decide) (by decide) rfl (fun ls hl => ?_)
  refine lv_goto (tgt := 33) hx hb dL_law_1391 (by decide) ?_
  refine lv_iload hx hb dL_law_33 (lv_at hl 0 rfl) ?_
  refine lv_aload_n hx hb dL_law_35 rfl (lv_at hl 1 rfl) ?_
  refine va_slen hx hb hX hbl hbA hS dL_law_36 ?_
  refine lv_bipush (v := 6) hx hb dL_law_37 (by decide) ?_
  refine lv_isub hx hb dL_law_39 ?_
  refine lv_icmp_gt (tgt := 1394) hx hb dL_law_40 (by decide) (fun _ => ?_) (fun q => absurd (by decide) q)
  refine lv_iconst (v := 1) hx hb dL_law_1394 rfl ?_
  refine va_forget (fun q hq => hS.2.2 q hq) ?_
  refine W.widen (k := 193330) (n := 8521466) (by omega) (by omega) ?_
  exact lw_ret hx hb hr hlocks dL_law_1395
set_option maxHeartbeats 4000000 in
set_option maxRecDepth 100000 in
/-- the law's one turn -/
theorem law_turn {p : Program} {l : Launch} {e : Env} {s : State} {m : MethodId} {below : List Frame} {meth : Method} {c : Code} {b : Nat} {xs : Nat → Int32} {dC : Nat → ClassId} {dI : Nat → Nat → Nat} {cx : Nat → Nat} {eC : Nat → ClassId} {eI : Nat → Nat → Nat} {cI cJ cB cZ : Nat} {H : Heap} {locs : List Loc} {ls : Array Slot} {h0 h1 q3 n1 n2 : Nat} {mo : Int} (C : LA p l s m c b xs dC dI cx eC eI cI cJ cB cZ) (Z : LZ dC dI cx eC eI cI cJ cB cZ s b H locs ls h0 h1 q3 n1 n2 mo) (T : LT p l e s m below meth c b) : W p l e room_1 s m #[Value.ref b] below meth c H locs 5000 6200000 (lw_Z below #[Value.ref b] s) (F0 m 33 ls []) := by
  have C' := C
  have Z' := Z
  obtain ⟨hx, hb, hml, hown, hts, hX, hbl, -⟩ := C
  obtain ⟨hS, hl, -⟩ := Z
  have hbA : ¬ (fun q : Nat => s.heap.size ≤ q) b := Nat.not_le.mpr hbl
  refine lv_iload hx hb dL_law_33 (lv_at hl 4 rfl) ?_
  refine lv_aload_n hx hb dL_law_35 rfl (lv_at hl 0 rfl) ?_
  refine va_slen hx hb hX hbl hbA hS dL_law_36 ?_
  refine lv_bipush (v := 6) hx hb dL_law_37 (by decide) ?_
  refine lv_isub hx hb dL_law_39 ?_
  refine lv_icmp_gt (tgt := 1394) hx hb dL_law_40 (by decide) (fun q => absurd q (by decide)) (fun _ => ?_)
  refine lv_aload_n hx hb dL_law_43 rfl (lv_at hl 0 rfl) ?_
  refine lv_iload hx hb dL_law_44 (lv_at hl 4 rfl) ?_
  refine va_sld hx hb hX hbl hbA hS (i := 1) (by unfold vp_in; decide) dL_law_46 ?_
  refine lv_bipush (v := 31) hx hb dL_law_47 (by decide) ?_
  refine lv_iand hx hb dL_law_49 ?_
  refine lv_topi (fun x ex => ?_)
  by_cases hr : 0 ≤ x.toInt ∧ x.toInt ≤ 27
  · rcases (show x.toInt = 0 ∨ x.toInt = 1 ∨ x.toInt = 2 ∨ x.toInt = 3 ∨ x.toInt = 4 ∨ x.toInt = 5 ∨ x.toInt = 6 ∨ x.toInt = 7 ∨ x.toInt = 8 ∨ x.toInt = 9 ∨ x.toInt = 10 ∨ x.toInt = 11 ∨ x.toInt = 12 ∨ x.toInt = 13 ∨ x.toInt = 14 ∨ x.toInt = 15 ∨ x.toInt = 16 ∨ x.toInt = 17 ∨ x.toInt = 18 ∨ x.toInt = 19 ∨ x.toInt = 20 ∨ x.toInt = 21 ∨ x.toInt = 22 ∨ x.toInt = 23 ∨ x.toInt = 24 ∨ x.toInt = 25 ∨ x.toInt = 26 ∨ x.toInt = 27 by omega) with h | h | h | h | h | h | h | h | h | h | h | h | h | h | h | h | h | h | h | h | h | h | h | h | h | h | h | h
    · exact lv_tableIn (off := 126) (tgt := 176) hx hb dL_law_50 (by omega) (by omega) (by rw [h]; rfl) (by decide) (lc_fraction C' Z' T)
    · exact lv_tableIn (off := 258) (tgt := 308) hx hb dL_law_50 (by omega) (by omega) (by rw [h]; rfl) (by decide) (lc_apply C' Z' T)
    · exact lv_tableIn (off := 307) (tgt := 357) hx hb dL_law_50 (by omega) (by omega) (by rw [h]; rfl) (by decide) (lc_plain C' Z' T)
    · exact lv_tableIn (off := 375) (tgt := 425) hx hb dL_law_50 (by omega) (by omega) (by rw [h]; rfl) (by decide) (lc_power C' Z' T)
    · exact lv_tableIn (off := 412) (tgt := 462) hx hb dL_law_50 (by omega) (by omega) (by rw [h]; rfl) (by decide) (lc_root C' Z' T)
    · exact lv_tableIn (off := 449) (tgt := 499) hx hb dL_law_50 (by omega) (by omega) (by rw [h]; rfl) (by decide) (lc_turn C' Z' T)
    · exact lv_tableIn (off := 546) (tgt := 596) hx hb dL_law_50 (by omega) (by omega) (by rw [h]; rfl) (by decide) (lc_beside C' Z' T)
    · exact lv_tableIn (off := 583) (tgt := 633) hx hb dL_law_50 (by omega) (by omega) (by rw [h]; rfl) (by decide) (lc_value C' Z' T)
    · exact lv_tableIn (off := 620) (tgt := 670) hx hb dL_law_50 (by omega) (by omega) (by rw [h]; rfl) (by decide) (lc_rootOf C' Z' T)
    · exact lv_tableIn (off := 657) (tgt := 707) hx hb dL_law_50 (by omega) (by omega) (by rw [h]; rfl) (by decide) (lc_common C' Z' T)
    · exact lv_tableIn (off := 694) (tgt := 744) hx hb dL_law_50 (by omega) (by omega) (by rw [h]; rfl) (by decide) (lc_read C' Z' T)
    · exact lv_tableIn (off := 707) (tgt := 757) hx hb dL_law_50 (by omega) (by omega) (by rw [h]; rfl) (by decide) (lc_drop C' Z' T)
    · exact lv_tableIn (off := 720) (tgt := 770) hx hb dL_law_50 (by omega) (by omega) (by rw [h]; rfl) (by decide) (lc_compare C' Z' T)
    · exact lv_tableIn (off := 757) (tgt := 807) hx hb dL_law_50 (by omega) (by omega) (by rw [h]; rfl) (by decide) (lc_sign C' Z' T)
    · exact lv_tableIn (off := 782) (tgt := 832) hx hb dL_law_50 (by omega) (by omega) (by rw [h]; rfl) (by decide) (lc_about C' Z' T)
    · exact lv_tableIn (off := 819) (tgt := 869) hx hb dL_law_50 (by omega) (by omega) (by rw [h]; rfl) (by decide) (lc_within C' Z' T)
    · exact lv_tableIn (off := 856) (tgt := 906) hx hb dL_law_50 (by omega) (by omega) (by rw [h]; rfl) (by decide) (lc_polynomial C' Z' T)
    · exact lv_tableIn (off := 869) (tgt := 919) hx hb dL_law_50 (by omega) (by omega) (by rw [h]; rfl) (by decide) (lc_coefficient C' Z' T)
    · exact lv_tableIn (off := 950) (tgt := 1000) hx hb dL_law_50 (by omega) (by omega) (by rw [h]; rfl) (by decide) (lc_roots C' Z' T)
    · exact lv_tableIn (off := 975) (tgt := 1025) hx hb dL_law_50 (by omega) (by omega) (by rw [h]; rfl) (by decide) (lc_between C' Z' T)
    · exact lv_tableIn (off := 1024) (tgt := 1074) hx hb dL_law_50 (by omega) (by omega) (by rw [h]; rfl) (by decide) (lc_parts C' Z' T)
    · exact lv_tableIn (off := 1049) (tgt := 1099) hx hb dL_law_50 (by omega) (by omega) (by rw [h]; rfl) (by decide) (lc_part C' Z' T)
    · exact lv_tableIn (off := 1086) (tgt := 1136) hx hb dL_law_50 (by omega) (by omega) (by rw [h]; rfl) (by decide) (lc_write C' Z' T)
    · exact lv_tableIn (off := 1123) (tgt := 1173) hx hb dL_law_50 (by omega) (by omega) (by rw [h]; rfl) (by decide) (lc_writeLeast C' Z' T)
    · exact lv_tableIn (off := 1148) (tgt := 1198) hx hb dL_law_50 (by omega) (by omega) (by rw [h]; rfl) (by decide) (lc_writePart C' Z' T)
    · exact lv_tableIn (off := 1173) (tgt := 1223) hx hb dL_law_50 (by omega) (by omega) (by rw [h]; rfl) (by decide) (lc_at C' Z' T)
    · exact lv_tableIn (off := 1198) (tgt := 1248) hx hb dL_law_50 (by omega) (by omega) (by rw [h]; rfl) (by decide) (lc_feed C' Z' T)
    · exact lv_tableIn (off := 1302) (tgt := 1352) hx hb dL_law_50 (by omega) (by omega) (by rw [h]; rfl) (by decide) (lc_end C' Z' T)
  · refine lv_tableOut (tgt := 1388) hx hb dL_law_50 (by omega) (by decide) ?_
    refine W.widen (k := 100000) (n := 6400000) (by omega) (by omega) ?_
    exact T H locs ls hS (lv_sub hl [0, 4] rfl)
set_option maxHeartbeats 4000000 in
set_option maxRecDepth 100000 in
/-- a script too short for a call: the law's end at once -/
theorem law_short {p : Program} {l : Launch} {e : Env} {s : State} {m : MethodId} {below : List Frame} {meth : Method} {c : Code} {b L : Nat} {xs : Nat → Int32} (hx : p.tables.exec = Jvm.exec) (hb : c.code = code) (hr : meth.sig.returnType = ret) (hlocks : meth.locks = false) (hX : va_X b L xs s s.heap) (hbl : b < s.heap.size) (hL : L ≤ 6) {H : Heap} {locs : List Loc} {ls : Array Slot} (hS : va_S (fun q => s.heap.size ≤ q) s.heap H locs) (hl : lv_has ls 7 [(0, .ref b), (4, .int 1)]) : W p l e room_1 s m #[Value.ref b] below meth c H locs 5000 6200000 (lw_Z below #[Value.ref b] s) (F0 m 33 ls []) := by
  have hbA : ¬ (fun q : Nat => s.heap.size ≤ q) b := Nat.not_le.mpr hbl
  refine lv_iload hx hb dL_law_33 (lv_at hl 1 rfl) ?_
  refine lv_aload_n hx hb dL_law_35 rfl (lv_at hl 0 rfl) ?_
  refine va_slen hx hb hX hbl hbA hS dL_law_36 ?_
  refine lv_bipush (v := 6) hx hb dL_law_37 (by decide) ?_
  refine lv_isub hx hb dL_law_39 ?_
  refine lv_icmp_gt (tgt := 1394) hx hb dL_law_40 (by decide) (fun _ => ?_) (fun q => ?_)
  · refine lv_iconst (v := 1) hx hb dL_law_1394 rfl ?_
    refine va_forget (fun q hq => hS.2.2 q hq) ?_
    refine W.widen (k := 193330) (n := 8521466) (by omega) (by omega) ?_
    exact lw_ret hx hb hr hlocks dL_law_1395
  · exfalso
    rcases (show L = 0 ∨ L = 1 ∨ L = 2 ∨ L = 3 ∨ L = 4 ∨ L = 5 ∨ L = 6 by omega) with h | h | h | h | h | h | h <;> (rw [h] at q; exact q (by decide))
theorem gd_cell : GoodIn lw_tbl (wsS RL 31 yL_cell (Cond.code yL_cell cL_cell 2 (some .int) :: [])) := by
  intro w h
  unfold wsS at h
  simp only [List.cons_append, List.nil_append, List.mem_cons, List.not_mem_nil, or_false] at h
  rcases h with rfl | rfl | rfl | rfl
  · exact ⟨(w0L_gd _ ll_31).1, good_of_word rfl⟩
  · exact ⟨(w0L_gd _ lt_L_cell).1, good_of_word rfl⟩
  · exact ⟨(w0L_gd _ ln_RL).1, good_of_word rfl⟩
  · exact ⟨(w0L_gd _ lcd_L_cell).1, good_of_word rfl⟩
theorem gd_X11_init : GoodIn lw_tbl (Cond.code yX11_init cX11_init 2 none :: w0c) := fun w h => (List.mem_cons.mp h).elim (fun e => by rw [e]; exact w0L_gd _ lcd_X11_init) (w0c_gd w)
theorem gd_X12_init : GoodIn lw_tbl (Cond.code yX12_init cX12_init 2 none :: w0r) := fun w h => (List.mem_cons.mp h).elim (fun e => by rw [e]; exact w0L_gd _ lcd_X12_init) (w0r_gd w)
set_option maxHeartbeats 4000000 in
set_option maxRecDepth 100000 in
theorem whole_start {p : Program} {e : Env} {s : State} {m : MethodId} {below : List Frame} {meth : Method} {c : Code} (l : Launch) (hflags : l.flags = flags0) {b L : Nat} {xs : Nat → Int32} (hL : L ≤ 7) (C0 : lw_At p s m meth c b L xs) : W p l e room_1 s m #[Value.ref b] below meth c s.heap [] 0 0 (lw_Z below #[Value.ref b] s) (entryFrame m ([Value.ref b] : List Value).toArray 7) := by
  obtain ⟨hx, hb, hr, hml, hown, hts, hX, hbl, hlocks, hgv⟩ := C0
  have hbA : ¬ (fun q : Nat => s.heap.size ≤ q) b := Nat.not_le.mpr hbl
  obtain ⟨dC, dI, cx, hK⟩ := st_K hts
  obtain ⟨eC, eI, cI, cJ, cB, cZ, hKr⟩ := st_Kr hts
  have hCN := st_CN hts
  have hS : va_S (fun q : Nat => s.heap.size ≤ q) s.heap s.heap [] := va_S.rf
  have hl := lv_entry ([.ref b]) (n := 7) (Nat.le_of_ble_eq_true rfl)
  rw [lg_entry_eq]
  generalize (lg_sl ([.ref b]) ++ List.replicate (7 - (lg_sl ([.ref b])).length) Slot.unset).toArray = ls at hl ⊢
  have hl : lv_has ls 7 [(0, .ref b)] := hl
  -- the class's object
  refine L_new (ci := 11) (C := RX11) (T := TX11) (N := 20) hx hb hts wsX110_t tyX11 tyX11_ok hown (hts _ (w0L_gd _ la_8).1) (hts _ (w0L_gd _ lw_RX11).1) (hts _ (w0L_gd _ ln_RX11).1) hK hS rfl bl_ok11 (Nat.le_of_ble_eq_true rfl) (Nat.le_of_ble_eq_true rfl) dL_law_0 (fun H1 hP1 z1 o1 hS => ?_)
  refine lv_dup hx hb dL_law_3 rfl ?_
  refine lv_aload_n hx hb dL_law_4 rfl (lv_at hl 0 rfl) ?_
  refine lv_iconst (v := Int32.ofInt 0) hx hb dL_law_5 rfl ?_
  refine va_calli (va_runS (As := [.ref b, Iz 0]) (rest := [.ref s.heap.size, .ref s.heap.size]) ⟨hx, hb, hml, hown, hts⟩ (kL_cell (l := l) (b := b) (xs := xs) hL) (cwS 2 hts gd_cell rfl rfl rfl (by decide +kernel) ⟨Nat.le_of_ble_eq_true rfl, Nat.le_of_ble_eq_true rfl⟩) ⟨fun a U g mk q => q, fun U hU hW => ⟨rfl, va_X.moved hW.alike (by rw [hU]; exact hX.kept (hS.2.1 b hbl hbA))⟩⟩ rfl rfl hl.1 rfl (lv_room (Nat.le_of_ble_eq_true rfl)) dL_law_6 ⟨Nat.le_of_ble_eq_true rfl, Nat.le_of_ble_eq_true rfl⟩) hS (fun _ _ h => h.elim) (fun _ h => h.elim) (fun r u t H2 locs2 ht hvm hw hB z2 o2 hS => ?_)
  obtain rfl : r = l0 L xs := hw
  rw [i32_of]
  have hP2 : va_P (dC, dI) ccl [(s.heap.size, .inr (11, [Iz 0, .null, Iz 0, .null, Iz 0, .null, .null, Iz 0, .null, .null, .null, .null, .null, .null, .null, .null, .null, .null, .null, .null]))] H2 := va_P_iff.mpr fun q hq => (va_P_iff.mp hP1 q hq).kept (o2 q.1 (va_P_iff.mp hP1 q hq).lt (fun h => h))
  have hf1 : ∀ q, va_A [(s.heap.size, .inr (11, [Iz 0, .null, Iz 0, .null, Iz 0, .null, .null, Iz 0, .null, .null, .null, .null, .null, .null, .null, .null, .null, .null, .null, .null]))] H2.size q → (fun q : Nat => s.heap.size ≤ q) q := fun q h => by
    rcases h with ⟨k, e0, h⟩ | h
    · rcases List.mem_singleton.mp (List.mem_of_getElem? h) with h9
      have : q = s.heap.size := congrArg Prod.fst h9
      exact Nat.le_of_eq this.symm
    · exact Nat.le_trans hS.1 h
  refine va_callv (va_runI (As := [Iz (l0 L xs).toInt]) (rest := [.ref s.heap.size]) ⟨hx, hb, hml, hown, hts⟩ (n11_init (l := l) (dC := dC) (dI := dI) (cx := cx) (H0 := H2) (h0 := s.heap.size) (i32_lo _) (i32_hi _)) (cwI 1 hts gd_X11_init rfl rfl rfl (hts _ (w0L_gd _ ln_RX11).1) (hts _ (w0L_gd _ ll_37).1) (hts _ (w0L_gd _ li_X11_init).1) rfl (by decide +kernel) ⟨Nat.le_of_ble_eq_true rfl, Nat.le_of_ble_eq_true rfl⟩) ⟨n_blind, fun U hU hW => ⟨rfl, hU, by rw [hU]; exact hP2, va_K.moved hW.alike hK, CN.moved hW hCN⟩⟩ rfl rfl hl.1 rfl (lv_room (Nat.le_of_ble_eq_true rfl)) dL_law_9 ⟨Nat.le_of_ble_eq_true rfl, Nat.le_of_ble_eq_true rfl⟩) hS (fun q _ h => hf1 q h) hf1 (fun u t H3 locs3 ht hvm hw hB z3 o3 hS => ?_)
  obtain ⟨Qs, Ps, X⟩ := u
  obtain ⟨q0, qw, qf, bb, vs, nu, tol, pi_, ti_, fr, stk, t0, tm, no, rp, rq, ra, pa, s0, ch, zo, tx, tp, tw, tk, tf, ts, tb, eQ, eP, eX⟩ := hw
  obtain ⟨hP3, -, hD3⟩ := hB
  dsimp only at eQ eP eX hP3 hD3
  rw [ht] at hP3
  rw [eQ, eP, eX] at hP3 hD3
  have hF3 : FW dC dI cx s.heap.size H3.size H3 s.heap.size (clampM (l0 L xs).toInt) := FW.of hP3 (hD3.weaken fun k q _ h => hf1 q.1 h)
  clear hP3 hD3 eQ eP eX hP2 hP1 hf1
  refine lv_astore_n (lv' := [(1, .ref s.heap.size), (0, .ref b)]) hx hb dL_law_12 rfl hl (by decide) rfl (fun ls hl => ?_)
  -- the reference's object
  refine L_new (ci := 0) (C := RX12) (T := TX12) (N := 81) hx hb hts wsX120_t tyX12 tyX12_ok hown (hts _ (w0L_gd _ la_39).1) (hts _ (w0L_gd _ lw_RX12).1) (hts _ (w0L_gd _ ln_RX12).1) hKr hS rfl bl_ok12 (Nat.le_of_ble_eq_true rfl) (Nat.le_of_ble_eq_true rfl) dL_law_13 (fun H4 hP4 z4 o4 hS => ?_)
  refine lv_dup hx hb dL_law_16 rfl ?_
  refine lv_aload_n hx hb dL_law_17 rfl (lv_at hl 1 rfl) ?_
  refine lv_iconst (v := Int32.ofInt 0) hx hb dL_law_18 rfl ?_
  refine va_calli (va_runS (As := [.ref b, Iz 0]) (rest := [.ref H3.size, .ref H3.size]) ⟨hx, hb, hml, hown, hts⟩ (kL_cell (l := l) (b := b) (xs := xs) hL) (cwS 2 hts gd_cell rfl rfl rfl (by decide +kernel) ⟨Nat.le_of_ble_eq_true rfl, Nat.le_of_ble_eq_true rfl⟩) ⟨fun a U g mk q => q, fun U hU hW => ⟨rfl, va_X.moved hW.alike (by rw [hU]; exact hX.kept (hS.2.1 b hbl hbA))⟩⟩ rfl rfl hl.1 rfl (lv_room (Nat.le_of_ble_eq_true rfl)) dL_law_19 ⟨Nat.le_of_ble_eq_true rfl, Nat.le_of_ble_eq_true rfl⟩) hS (fun _ _ h => h.elim) (fun _ h => h.elim) (fun r u t H5 locs5 ht hvm hw hB z5 o5 hS => ?_)
  obtain rfl : r = l0 L xs := hw
  rw [i32_of]
  have hP5 : va_P (eC, eI) rcl [(H3.size, .inr (0, [Iz 0, .null, Iz 0, Iz 0, Iz 0, .null, .null, .null, Iz 0, Iz 0, Iz 0, .null, Iz 0, .null, Iz 0, .null, Iz 0, Iz 0, .null, Iz 0, Iz 0, .null, .null, .null, Iz 0, Iz 0, Iz 0, Iz 0, Iz 0, .null, .null, Iz 0, Iz 0, .null, .null, Iz 0, .null, .null, Iz 0, Iz 0, Iz 0, .null, Iz 0, .null, Iz 0, Iz 0, .null, .null, .null, .null, .null, .null, .null, Iz 0, .null, Iz 0, .null, Iz 0, .null, Iz 0, .null, Iz 0, Iz 0, Iz 0, .null, Iz 0, .null, .null, .null, Iz 0, Iz 0, Iz 0, Iz 0, Iz 0, Iz 0, .null, .null, .null, .null, .null, Iz 0]))] H5 := va_P_iff.mpr fun q hq => (va_P_iff.mp hP4 q hq).kept (o5 q.1 (va_P_iff.mp hP4 q hq).lt (fun h => h))
  have hs3 : s.heap.size ≤ H3.size := by have := z3; have := z2; omega
  have hf2 : ∀ q, va_A [(H3.size, .inr (0, [Iz 0, .null, Iz 0, Iz 0, Iz 0, .null, .null, .null, Iz 0, Iz 0, Iz 0, .null, Iz 0, .null, Iz 0, .null, Iz 0, Iz 0, .null, Iz 0, Iz 0, .null, .null, .null, Iz 0, Iz 0, Iz 0, Iz 0, Iz 0, .null, .null, Iz 0, Iz 0, .null, .null, Iz 0, .null, .null, Iz 0, Iz 0, Iz 0, .null, Iz 0, .null, Iz 0, Iz 0, .null, .null, .null, .null, .null, .null, .null, Iz 0, .null, Iz 0, .null, Iz 0, .null, Iz 0, .null, Iz 0, Iz 0, Iz 0, .null, Iz 0, .null, .null, .null, Iz 0, Iz 0, Iz 0, Iz 0, Iz 0, Iz 0, .null, .null, .null, .null, .null, Iz 0]))] H5.size q → H3.size ≤ q := fun q h => by
    rcases h with ⟨k, e0, h⟩ | h
    · rcases List.mem_singleton.mp (List.mem_of_getElem? h) with h9
      have : q = H3.size := congrArg Prod.fst h9
      omega
    · omega
  refine va_callv (va_runI (As := [Iz (l0 L xs).toInt]) (rest := [.ref H3.size]) ⟨hx, hb, hml, hown, hts⟩ (c_init (l := l) (dC := eC) (dI := eI) (cI := cI) (cJ := cJ) (cB := cB) (cZ := cZ) (H0 := H5) (h0 := H3.size) (i32_lo _) (i32_hi _)) (cwI 1 hts gd_X12_init rfl rfl rfl (hts _ (w0L_gd _ ln_RX12).1) (hts _ (w0L_gd _ ll_41).1) (hts _ (w0L_gd _ li_X12_init).1) rfl (by decide +kernel) ⟨Nat.le_of_ble_eq_true rfl, Nat.le_of_ble_eq_true rfl⟩) ⟨fun a U g mk q => by obtain ⟨r0, r1, rP, rK⟩ := q; exact ⟨r0, r1, rP, va_K.moved (u := U) (U := U.calling g mk a) (Vm.Alike.refl U.vm) rK⟩, fun U hU hW => ⟨rfl, hU, by rw [hU]; exact hP5, va_K.moved hW.alike hKr⟩⟩ rfl rfl hl.1 rfl (lv_room (Nat.le_of_ble_eq_true rfl)) dL_law_22 ⟨Nat.le_of_ble_eq_true rfl, Nat.le_of_ble_eq_true rfl⟩) hS (fun q _ h => Nat.le_trans hs3 (hf2 q h)) (fun q h => Nat.le_trans hs3 (hf2 q h)) (fun qs t H6 locs6 ht hvm hw hB z6 o6 hS => ?_)
  obtain ⟨hP6, -, hD6⟩ := hB
  rw [ht] at hP6
  rw [most_clamp] at hP6 hD6
  have hR6 : RW eC eI cI cJ cB cZ H3.size H6.size H6 H3.size (clampM (l0 L xs).toInt) := RW.of hP6 (hD6.weaken fun k q _ h => hf2 q.1 h)
  have hF6 : FW dC dI cx s.heap.size H3.size H6 s.heap.size (clampM (l0 L xs).toInt) := FW.kept (n2 := 0) hF3 fun q h1 h2 h3 => ((o6 q (by omega) (fun h => by have := hf2 q h; omega)).trans (o5 q (by omega) (fun h => h))).trans (o4 q h3)
  clear hP6 hD6 hP5 hP4 hF3
  refine lv_astore_n (lv' := [(2, .ref H3.size), (1, .ref s.heap.size), (0, .ref b)]) hx hb dL_law_25 rfl hl (by decide) rfl (fun ls hl => ?_)
  -- the row of one long
  refine lv_iconst (v := 1) hx hb dL_law_26 rfl ?_
  refine va_newaK (atype := .long) (N := 1) hx hb (hts _ (w0c_gd _ car_long).1) rfl dL_law_27 rfl (by decide) (by decide) (by decide) (Nat.le_of_ble_eq_true rfl) (Nat.le_of_ble_eq_true rfl) (h := H6.size) rfl (fun H7 cA e7 z7 o7 a7 f7 => ?_)
  have e3 : cA = cx 1 := Option.some.inj (f7.symm.trans (hK.2 1 (cx 1, .long) rfl).2)
  subst e3
  have hP7 : va_P (dC, dI) ccl (oW cx H6.size (fun _ => 0)) H7 := va_P_iff.mpr fun q hq => by
    rw [List.mem_singleton.mp hq]
    exact e7
  have hS : va_S (fun q : Nat => s.heap.size ≤ q) s.heap H7 locs6 := ⟨Nat.le_trans hS.1 (by omega), fun x h1 h2 => (o7 x (Nat.lt_of_lt_of_le h1 hS.1)).trans (hS.2.1 x h1 h2), hS.2.2⟩
  have hF7 : FW dC dI cx s.heap.size H3.size H7 s.heap.size (clampM (l0 L xs).toInt) := FW.kept (n2 := 0) hF6 fun q h1 h2 h3 => o7 q h3
  have hR7 : RW eC eI cI cJ cB cZ H3.size H6.size H7 H3.size (clampM (l0 L xs).toInt) := hR6.kept fun q h1 h2 => o7 q h2
  refine W.widen (k := 5000) (n := 6200000) (by omega) (by omega) ?_
  refine lv_astore_n (lv' := [(3, .ref H6.size), (2, .ref H3.size), (1, .ref s.heap.size), (0, .ref b)]) hx hb dL_law_29 rfl hl (by decide) rfl (fun ls hl => ?_)
  refine lv_iconst (v := 1) hx hb dL_law_30 rfl ?_
  refine lv_istore (lv' := [(4, .int 1), (3, .ref H6.size), (2, .ref H3.size), (1, .ref s.heap.size), (0, .ref b)]) hx hb dL_law_31 hl (by decide) rfl (fun ls hl => ?_)
  by_cases h7 : L = 7
  · subst h7
    exact law_turn (C := ⟨hx, hb, hml, hown, hts, hX, hbl, hK, hKr, hCN, st_CX hts, st_CY hts, st_CZ hts hgv, st_lt hflags⟩) (Z := ⟨hS, lv_sub hl [4, 3, 2, 1, 0] rfl, hF7, hR7, hP7, Nat.le_refl _, hs3, by omega, (clamp_bd _).1, (clamp_bd _).2⟩) (law_tail hx hb hr hlocks hX hbl)
  · exact law_short hx hb hr hlocks hX hbl (by omega) hS (lv_sub hl [4, 0] rfl)
end LWhole
