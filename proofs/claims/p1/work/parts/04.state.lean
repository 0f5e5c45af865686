section RState
/-- f, but v at k -/
def fup (F : Nat → Int) (k : Nat) (v : Int) : Nat → Int := fun j => cond (Nat.beq j k) v (F j)
def aup (ar : Nat → Int → Int) (k : Nat) (g : Int → Int) : Nat → Int → Int := fun j => cond (Nat.beq j k) g (ar j)
theorem fup_self (F : Nat → Int) (k : Nat) (v : Int) : fup F k v k = v := by unfold fup; rw [Nat.beq_refl]; rfl
theorem fup_ne (F : Nat → Int) {k j : Nat} (v : Int) (h : j ≠ k) : fup F k v j = F j := by
  unfold fup
  cases hq : Nat.beq j k with
  | true => exact absurd (Nat.eq_of_beq_eq_true hq) h
  | false => rfl
/-- the reference's own classes, its row types -/
abbrev rcl : List vw_C := [(RX12, TX12, 81)]
abbrev rty (cI cJ cB cZ : Nat) : List (ClassId × FieldType) := [(cI, .int), (cJ, .long), (cB, .byte), (cZ, .boolean)]
/-- the fields: F tells the numbers, ad where the rows lie -/
def mo (ad : Nat → Nat) (F : Nat → Int) : List Value := [Iz (F 0), .ref (ad 1), Iz (F 2), Iz (F 3), Iz (F 4), .ref (ad 5), .ref (ad 6), .ref (ad 7), Iz (F 8), Iz (F 9), Iz (F 10), .ref (ad 11), Iz (F 12), .ref (ad 13), Iz (F 14), .ref (ad 15), Iz (F 16), Iz (F 17), .ref (ad 18), Iz (F 19), Iz (F 20), .ref (ad 21), .ref (ad 22), .ref (ad 23), Iz (F 24), Iz (F 25), Iz (F 26), Iz (F 27), Iz (F 28), .ref (ad 29), .ref (ad 30), Iz (F 31), Iz (F 32), .ref (ad 33), .ref (ad 34), Iz (F 35), .ref (ad 36), .ref (ad 37), Iz (F 38), Iz (F 39), Iz (F 40), .ref (ad 41), Iz (F 42), .ref (ad 43), Iz (F 44), Iz (F 45), .ref (ad 46), .ref (ad 47), .ref (ad 48), .ref (ad 49), .ref (ad 50), .ref (ad 51), .ref (ad 52), Iz (F 53), .ref (ad 54), Iz (F 55), .ref (ad 56), Iz (F 57), .ref (ad 58), Iz (F 59), .ref (ad 60), Iz (F 61), Iz (F 62), Iz (F 63), .ref (ad 64), Iz (F 65), .ref (ad 66), .ref (ad 67), .ref (ad 68), Iz (F 69), Iz (F 70), Iz (F 71), Iz (F 72), Iz (F 73), Iz (F 74), .ref (ad 75), .ref (ad 76), .ref (ad 77), .ref (ad 78), .ref (ad 79), Iz (F 80)]
/-- all its cells -/
def mW (h0 : Nat) (ad : Nat → Nat) (cI cJ cB cZ : Nat) (F : Nat → Int) (ar : Nat → Int → Int) : va_W := (h0, .inr (0, mo ad F)) :: [(ad 1, .inl (cI, 6000000, .inl (im (ar 1)))), (ad 5, .inl (cI, 48, .inl (im (ar 5)))), (ad 6, .inl (cI, 40, .inl (im (ar 6)))), (ad 7, .inl (cI, 16, .inl (im (ar 7)))), (ad 11, .inl (cI, 16, .inl (im (ar 11)))), (ad 13, .inl (cI, 16, .inl (im (ar 13)))), (ad 15, .inl (cI, 16, .inl (im (ar 15)))), (ad 18, .inl (cI, 14, .inl (im (ar 18)))), (ad 21, .inl (cI, 70980, .inl (im (ar 21)))), (ad 22, .inl (cI, 260, .inl (im (ar 22)))), (ad 23, .inl (cI, 260, .inl (im (ar 23)))), (ad 29, .inl (cI, 12, .inl (im (ar 29)))), (ad 30, .inl (cI, 12, .inl (im (ar 30)))), (ad 33, .inl (cI, 12, .inl (im (ar 33)))), (ad 34, .inl (cI, 30, .inl (im (ar 34)))), (ad 36, .inl (cI, 300, .inl (im (ar 36)))), (ad 37, .inl (cI, 12, .inl (im (ar 37)))), (ad 41, .inl (cI, 14, .inl (im (ar 41)))), (ad 43, .inl (cI, 12, .inl (im (ar 43)))), (ad 46, .inl (cI, 14, .inl (im (ar 46)))), (ad 47, .inl (cJ, 140, .inr (.inl (jm (ar 47))))), (ad 48, .inl (cJ, 140, .inr (.inl (jm (ar 48))))), (ad 49, .inl (cJ, 16, .inr (.inl (jm (ar 49))))), (ad 50, .inl (cJ, 16, .inr (.inl (jm (ar 50))))), (ad 51, .inl (cJ, 16, .inr (.inl (jm (ar 51))))), (ad 52, .inl (cB, 300, .inl (im (ar 52)))), (ad 54, .inl (cB, 300, .inl (im (ar 54)))), (ad 56, .inl (cJ, 390, .inr (.inl (jm (ar 56))))), (ad 58, .inl (cI, 12, .inl (im (ar 58)))), (ad 60, .inl (cB, 4000, .inl (im (ar 60)))), (ad 64, .inl (cB, 600, .inl (im (ar 64)))), (ad 66, .inl (cI, 700, .inl (im (ar 66)))), (ad 67, .inl (cI, 700, .inl (im (ar 67)))), (ad 68, .inl (cI, 700, .inl (im (ar 68)))), (ad 75, .inl (cI, 12, .inl (im (ar 75)))), (ad 76, .inl (cI, 12, .inl (im (ar 76)))), (ad 77, .inl (cI, 12, .inl (im (ar 77)))), (ad 78, .inl (cZ, 12, .inl (im (ar 78)))), (ad 79, .inl (cI, 12, .inl (im (ar 79))))]
theorem sp_0 (h0 : Nat) (ad : Nat → Nat) (cI cJ cB cZ : Nat) (F : Nat → Int) (ar : Nat → Int → Int) (v : Int) : (mW h0 ad cI cJ cB cZ F ar).set 0 (h0, .inr (0, (mo ad F).set 0 (Iz v))) = mW h0 ad cI cJ cB cZ (fup F 0 v) ar := rfl
theorem sa_1 (h0 : Nat) (ad : Nat → Nat) (cI cJ cB cZ : Nat) (F : Nat → Int) (ar : Nat → Int → Int) (g : Int → Int) : (mW h0 ad cI cJ cB cZ F ar).set 1 (ad 1, .inl (cI, 6000000, .inl (im g))) = mW h0 ad cI cJ cB cZ F (aup ar 1 g) := rfl
theorem sp_2 (h0 : Nat) (ad : Nat → Nat) (cI cJ cB cZ : Nat) (F : Nat → Int) (ar : Nat → Int → Int) (v : Int) : (mW h0 ad cI cJ cB cZ F ar).set 0 (h0, .inr (0, (mo ad F).set 2 (Iz v))) = mW h0 ad cI cJ cB cZ (fup F 2 v) ar := rfl
theorem sp_3 (h0 : Nat) (ad : Nat → Nat) (cI cJ cB cZ : Nat) (F : Nat → Int) (ar : Nat → Int → Int) (v : Int) : (mW h0 ad cI cJ cB cZ F ar).set 0 (h0, .inr (0, (mo ad F).set 3 (Iz v))) = mW h0 ad cI cJ cB cZ (fup F 3 v) ar := rfl
theorem sp_4 (h0 : Nat) (ad : Nat → Nat) (cI cJ cB cZ : Nat) (F : Nat → Int) (ar : Nat → Int → Int) (v : Int) : (mW h0 ad cI cJ cB cZ F ar).set 0 (h0, .inr (0, (mo ad F).set 4 (Iz v))) = mW h0 ad cI cJ cB cZ (fup F 4 v) ar := rfl
theorem sa_5 (h0 : Nat) (ad : Nat → Nat) (cI cJ cB cZ : Nat) (F : Nat → Int) (ar : Nat → Int → Int) (g : Int → Int) : (mW h0 ad cI cJ cB cZ F ar).set 2 (ad 5, .inl (cI, 48, .inl (im g))) = mW h0 ad cI cJ cB cZ F (aup ar 5 g) := rfl
theorem sa_6 (h0 : Nat) (ad : Nat → Nat) (cI cJ cB cZ : Nat) (F : Nat → Int) (ar : Nat → Int → Int) (g : Int → Int) : (mW h0 ad cI cJ cB cZ F ar).set 3 (ad 6, .inl (cI, 40, .inl (im g))) = mW h0 ad cI cJ cB cZ F (aup ar 6 g) := rfl
theorem sa_7 (h0 : Nat) (ad : Nat → Nat) (cI cJ cB cZ : Nat) (F : Nat → Int) (ar : Nat → Int → Int) (g : Int → Int) : (mW h0 ad cI cJ cB cZ F ar).set 4 (ad 7, .inl (cI, 16, .inl (im g))) = mW h0 ad cI cJ cB cZ F (aup ar 7 g) := rfl
theorem sp_8 (h0 : Nat) (ad : Nat → Nat) (cI cJ cB cZ : Nat) (F : Nat → Int) (ar : Nat → Int → Int) (v : Int) : (mW h0 ad cI cJ cB cZ F ar).set 0 (h0, .inr (0, (mo ad F).set 8 (Iz v))) = mW h0 ad cI cJ cB cZ (fup F 8 v) ar := rfl
theorem sp_9 (h0 : Nat) (ad : Nat → Nat) (cI cJ cB cZ : Nat) (F : Nat → Int) (ar : Nat → Int → Int) (v : Int) : (mW h0 ad cI cJ cB cZ F ar).set 0 (h0, .inr (0, (mo ad F).set 9 (Iz v))) = mW h0 ad cI cJ cB cZ (fup F 9 v) ar := rfl
theorem sp_10 (h0 : Nat) (ad : Nat → Nat) (cI cJ cB cZ : Nat) (F : Nat → Int) (ar : Nat → Int → Int) (v : Int) : (mW h0 ad cI cJ cB cZ F ar).set 0 (h0, .inr (0, (mo ad F).set 10 (Iz v))) = mW h0 ad cI cJ cB cZ (fup F 10 v) ar := rfl
theorem sa_11 (h0 : Nat) (ad : Nat → Nat) (cI cJ cB cZ : Nat) (F : Nat → Int) (ar : Nat → Int → Int) (g : Int → Int) : (mW h0 ad cI cJ cB cZ F ar).set 5 (ad 11, .inl (cI, 16, .inl (im g))) = mW h0 ad cI cJ cB cZ F (aup ar 11 g) := rfl
theorem sp_12 (h0 : Nat) (ad : Nat → Nat) (cI cJ cB cZ : Nat) (F : Nat → Int) (ar : Nat → Int → Int) (v : Int) : (mW h0 ad cI cJ cB cZ F ar).set 0 (h0, .inr (0, (mo ad F).set 12 (Iz v))) = mW h0 ad cI cJ cB cZ (fup F 12 v) ar := rfl
theorem sa_13 (h0 : Nat) (ad : Nat → Nat) (cI cJ cB cZ : Nat) (F : Nat → Int) (ar : Nat → Int → Int) (g : Int → Int) : (mW h0 ad cI cJ cB cZ F ar).set 6 (ad 13, .inl (cI, 16, .inl (im g))) = mW h0 ad cI cJ cB cZ F (aup ar 13 g) := rfl
theorem sp_14 (h0 : Nat) (ad : Nat → Nat) (cI cJ cB cZ : Nat) (F : Nat → Int) (ar : Nat → Int → Int) (v : Int) : (mW h0 ad cI cJ cB cZ F ar).set 0 (h0, .inr (0, (mo ad F).set 14 (Iz v))) = mW h0 ad cI cJ cB cZ (fup F 14 v) ar := rfl
theorem sa_15 (h0 : Nat) (ad : Nat → Nat) (cI cJ cB cZ : Nat) (F : Nat → Int) (ar : Nat → Int → Int) (g : Int → Int) : (mW h0 ad cI cJ cB cZ F ar).set 7 (ad 15, .inl (cI, 16, .inl (im g))) = mW h0 ad cI cJ cB cZ F (aup ar 15 g) := rfl
theorem sp_16 (h0 : Nat) (ad : Nat → Nat) (cI cJ cB cZ : Nat) (F : Nat → Int) (ar : Nat → Int → Int) (v : Int) : (mW h0 ad cI cJ cB cZ F ar).set 0 (h0, .inr (0, (mo ad F).set 16 (Iz v))) = mW h0 ad cI cJ cB cZ (fup F 16 v) ar := rfl
theorem sp_17 (h0 : Nat) (ad : Nat → Nat) (cI cJ cB cZ : Nat) (F : Nat → Int) (ar : Nat → Int → Int) (v : Int) : (mW h0 ad cI cJ cB cZ F ar).set 0 (h0, .inr (0, (mo ad F).set 17 (Iz v))) = mW h0 ad cI cJ cB cZ (fup F 17 v) ar := rfl
theorem sa_18 (h0 : Nat) (ad : Nat → Nat) (cI cJ cB cZ : Nat) (F : Nat → Int) (ar : Nat → Int → Int) (g : Int → Int) : (mW h0 ad cI cJ cB cZ F ar).set 8 (ad 18, .inl (cI, 14, .inl (im g))) = mW h0 ad cI cJ cB cZ F (aup ar 18 g) := rfl
theorem sp_19 (h0 : Nat) (ad : Nat → Nat) (cI cJ cB cZ : Nat) (F : Nat → Int) (ar : Nat → Int → Int) (v : Int) : (mW h0 ad cI cJ cB cZ F ar).set 0 (h0, .inr (0, (mo ad F).set 19 (Iz v))) = mW h0 ad cI cJ cB cZ (fup F 19 v) ar := rfl
theorem sp_20 (h0 : Nat) (ad : Nat → Nat) (cI cJ cB cZ : Nat) (F : Nat → Int) (ar : Nat → Int → Int) (v : Int) : (mW h0 ad cI cJ cB cZ F ar).set 0 (h0, .inr (0, (mo ad F).set 20 (Iz v))) = mW h0 ad cI cJ cB cZ (fup F 20 v) ar := rfl
theorem sa_21 (h0 : Nat) (ad : Nat → Nat) (cI cJ cB cZ : Nat) (F : Nat → Int) (ar : Nat → Int → Int) (g : Int → Int) : (mW h0 ad cI cJ cB cZ F ar).set 9 (ad 21, .inl (cI, 70980, .inl (im g))) = mW h0 ad cI cJ cB cZ F (aup ar 21 g) := rfl
theorem sa_22 (h0 : Nat) (ad : Nat → Nat) (cI cJ cB cZ : Nat) (F : Nat → Int) (ar : Nat → Int → Int) (g : Int → Int) : (mW h0 ad cI cJ cB cZ F ar).set 10 (ad 22, .inl (cI, 260, .inl (im g))) = mW h0 ad cI cJ cB cZ F (aup ar 22 g) := rfl
theorem sa_23 (h0 : Nat) (ad : Nat → Nat) (cI cJ cB cZ : Nat) (F : Nat → Int) (ar : Nat → Int → Int) (g : Int → Int) : (mW h0 ad cI cJ cB cZ F ar).set 11 (ad 23, .inl (cI, 260, .inl (im g))) = mW h0 ad cI cJ cB cZ F (aup ar 23 g) := rfl
theorem sp_24 (h0 : Nat) (ad : Nat → Nat) (cI cJ cB cZ : Nat) (F : Nat → Int) (ar : Nat → Int → Int) (v : Int) : (mW h0 ad cI cJ cB cZ F ar).set 0 (h0, .inr (0, (mo ad F).set 24 (Iz v))) = mW h0 ad cI cJ cB cZ (fup F 24 v) ar := rfl
theorem sp_25 (h0 : Nat) (ad : Nat → Nat) (cI cJ cB cZ : Nat) (F : Nat → Int) (ar : Nat → Int → Int) (v : Int) : (mW h0 ad cI cJ cB cZ F ar).set 0 (h0, .inr (0, (mo ad F).set 25 (Iz v))) = mW h0 ad cI cJ cB cZ (fup F 25 v) ar := rfl
theorem sp_26 (h0 : Nat) (ad : Nat → Nat) (cI cJ cB cZ : Nat) (F : Nat → Int) (ar : Nat → Int → Int) (v : Int) : (mW h0 ad cI cJ cB cZ F ar).set 0 (h0, .inr (0, (mo ad F).set 26 (Iz v))) = mW h0 ad cI cJ cB cZ (fup F 26 v) ar := rfl
theorem sp_27 (h0 : Nat) (ad : Nat → Nat) (cI cJ cB cZ : Nat) (F : Nat → Int) (ar : Nat → Int → Int) (v : Int) : (mW h0 ad cI cJ cB cZ F ar).set 0 (h0, .inr (0, (mo ad F).set 27 (Iz v))) = mW h0 ad cI cJ cB cZ (fup F 27 v) ar := rfl
theorem sp_28 (h0 : Nat) (ad : Nat → Nat) (cI cJ cB cZ : Nat) (F : Nat → Int) (ar : Nat → Int → Int) (v : Int) : (mW h0 ad cI cJ cB cZ F ar).set 0 (h0, .inr (0, (mo ad F).set 28 (Iz v))) = mW h0 ad cI cJ cB cZ (fup F 28 v) ar := rfl
theorem sa_29 (h0 : Nat) (ad : Nat → Nat) (cI cJ cB cZ : Nat) (F : Nat → Int) (ar : Nat → Int → Int) (g : Int → Int) : (mW h0 ad cI cJ cB cZ F ar).set 12 (ad 29, .inl (cI, 12, .inl (im g))) = mW h0 ad cI cJ cB cZ F (aup ar 29 g) := rfl
theorem sa_30 (h0 : Nat) (ad : Nat → Nat) (cI cJ cB cZ : Nat) (F : Nat → Int) (ar : Nat → Int → Int) (g : Int → Int) : (mW h0 ad cI cJ cB cZ F ar).set 13 (ad 30, .inl (cI, 12, .inl (im g))) = mW h0 ad cI cJ cB cZ F (aup ar 30 g) := rfl
theorem sp_31 (h0 : Nat) (ad : Nat → Nat) (cI cJ cB cZ : Nat) (F : Nat → Int) (ar : Nat → Int → Int) (v : Int) : (mW h0 ad cI cJ cB cZ F ar).set 0 (h0, .inr (0, (mo ad F).set 31 (Iz v))) = mW h0 ad cI cJ cB cZ (fup F 31 v) ar := rfl
theorem sp_32 (h0 : Nat) (ad : Nat → Nat) (cI cJ cB cZ : Nat) (F : Nat → Int) (ar : Nat → Int → Int) (v : Int) : (mW h0 ad cI cJ cB cZ F ar).set 0 (h0, .inr (0, (mo ad F).set 32 (Iz v))) = mW h0 ad cI cJ cB cZ (fup F 32 v) ar := rfl
theorem sa_33 (h0 : Nat) (ad : Nat → Nat) (cI cJ cB cZ : Nat) (F : Nat → Int) (ar : Nat → Int → Int) (g : Int → Int) : (mW h0 ad cI cJ cB cZ F ar).set 14 (ad 33, .inl (cI, 12, .inl (im g))) = mW h0 ad cI cJ cB cZ F (aup ar 33 g) := rfl
theorem sa_34 (h0 : Nat) (ad : Nat → Nat) (cI cJ cB cZ : Nat) (F : Nat → Int) (ar : Nat → Int → Int) (g : Int → Int) : (mW h0 ad cI cJ cB cZ F ar).set 15 (ad 34, .inl (cI, 30, .inl (im g))) = mW h0 ad cI cJ cB cZ F (aup ar 34 g) := rfl
theorem sp_35 (h0 : Nat) (ad : Nat → Nat) (cI cJ cB cZ : Nat) (F : Nat → Int) (ar : Nat → Int → Int) (v : Int) : (mW h0 ad cI cJ cB cZ F ar).set 0 (h0, .inr (0, (mo ad F).set 35 (Iz v))) = mW h0 ad cI cJ cB cZ (fup F 35 v) ar := rfl
theorem sa_36 (h0 : Nat) (ad : Nat → Nat) (cI cJ cB cZ : Nat) (F : Nat → Int) (ar : Nat → Int → Int) (g : Int → Int) : (mW h0 ad cI cJ cB cZ F ar).set 16 (ad 36, .inl (cI, 300, .inl (im g))) = mW h0 ad cI cJ cB cZ F (aup ar 36 g) := rfl
theorem sa_37 (h0 : Nat) (ad : Nat → Nat) (cI cJ cB cZ : Nat) (F : Nat → Int) (ar : Nat → Int → Int) (g : Int → Int) : (mW h0 ad cI cJ cB cZ F ar).set 17 (ad 37, .inl (cI, 12, .inl (im g))) = mW h0 ad cI cJ cB cZ F (aup ar 37 g) := rfl
theorem sp_38 (h0 : Nat) (ad : Nat → Nat) (cI cJ cB cZ : Nat) (F : Nat → Int) (ar : Nat → Int → Int) (v : Int) : (mW h0 ad cI cJ cB cZ F ar).set 0 (h0, .inr (0, (mo ad F).set 38 (Iz v))) = mW h0 ad cI cJ cB cZ (fup F 38 v) ar := rfl
theorem sp_39 (h0 : Nat) (ad : Nat → Nat) (cI cJ cB cZ : Nat) (F : Nat → Int) (ar : Nat → Int → Int) (v : Int) : (mW h0 ad cI cJ cB cZ F ar).set 0 (h0, .inr (0, (mo ad F).set 39 (Iz v))) = mW h0 ad cI cJ cB cZ (fup F 39 v) ar := rfl
theorem sp_40 (h0 : Nat) (ad : Nat → Nat) (cI cJ cB cZ : Nat) (F : Nat → Int) (ar : Nat → Int → Int) (v : Int) : (mW h0 ad cI cJ cB cZ F ar).set 0 (h0, .inr (0, (mo ad F).set 40 (Iz v))) = mW h0 ad cI cJ cB cZ (fup F 40 v) ar := rfl
theorem sa_41 (h0 : Nat) (ad : Nat → Nat) (cI cJ cB cZ : Nat) (F : Nat → Int) (ar : Nat → Int → Int) (g : Int → Int) : (mW h0 ad cI cJ cB cZ F ar).set 18 (ad 41, .inl (cI, 14, .inl (im g))) = mW h0 ad cI cJ cB cZ F (aup ar 41 g) := rfl
theorem sp_42 (h0 : Nat) (ad : Nat → Nat) (cI cJ cB cZ : Nat) (F : Nat → Int) (ar : Nat → Int → Int) (v : Int) : (mW h0 ad cI cJ cB cZ F ar).set 0 (h0, .inr (0, (mo ad F).set 42 (Iz v))) = mW h0 ad cI cJ cB cZ (fup F 42 v) ar := rfl
theorem sa_43 (h0 : Nat) (ad : Nat → Nat) (cI cJ cB cZ : Nat) (F : Nat → Int) (ar : Nat → Int → Int) (g : Int → Int) : (mW h0 ad cI cJ cB cZ F ar).set 19 (ad 43, .inl (cI, 12, .inl (im g))) = mW h0 ad cI cJ cB cZ F (aup ar 43 g) := rfl
theorem sp_44 (h0 : Nat) (ad : Nat → Nat) (cI cJ cB cZ : Nat) (F : Nat → Int) (ar : Nat → Int → Int) (v : Int) : (mW h0 ad cI cJ cB cZ F ar).set 0 (h0, .inr (0, (mo ad F).set 44 (Iz v))) = mW h0 ad cI cJ cB cZ (fup F 44 v) ar := rfl
theorem sp_45 (h0 : Nat) (ad : Nat → Nat) (cI cJ cB cZ : Nat) (F : Nat → Int) (ar : Nat → Int → Int) (v : Int) : (mW h0 ad cI cJ cB cZ F ar).set 0 (h0, .inr (0, (mo ad F).set 45 (Iz v))) = mW h0 ad cI cJ cB cZ (fup F 45 v) ar := rfl
theorem sa_46 (h0 : Nat) (ad : Nat → Nat) (cI cJ cB cZ : Nat) (F : Nat → Int) (ar : Nat → Int → Int) (g : Int → Int) : (mW h0 ad cI cJ cB cZ F ar).set 20 (ad 46, .inl (cI, 14, .inl (im g))) = mW h0 ad cI cJ cB cZ F (aup ar 46 g) := rfl
theorem sa_47 (h0 : Nat) (ad : Nat → Nat) (cI cJ cB cZ : Nat) (F : Nat → Int) (ar : Nat → Int → Int) (g : Int → Int) : (mW h0 ad cI cJ cB cZ F ar).set 21 (ad 47, .inl (cJ, 140, .inr (.inl (jm g)))) = mW h0 ad cI cJ cB cZ F (aup ar 47 g) := rfl
theorem sa_48 (h0 : Nat) (ad : Nat → Nat) (cI cJ cB cZ : Nat) (F : Nat → Int) (ar : Nat → Int → Int) (g : Int → Int) : (mW h0 ad cI cJ cB cZ F ar).set 22 (ad 48, .inl (cJ, 140, .inr (.inl (jm g)))) = mW h0 ad cI cJ cB cZ F (aup ar 48 g) := rfl
theorem sa_49 (h0 : Nat) (ad : Nat → Nat) (cI cJ cB cZ : Nat) (F : Nat → Int) (ar : Nat → Int → Int) (g : Int → Int) : (mW h0 ad cI cJ cB cZ F ar).set 23 (ad 49, .inl (cJ, 16, .inr (.inl (jm g)))) = mW h0 ad cI cJ cB cZ F (aup ar 49 g) := rfl
theorem sa_50 (h0 : Nat) (ad : Nat → Nat) (cI cJ cB cZ : Nat) (F : Nat → Int) (ar : Nat → Int → Int) (g : Int → Int) : (mW h0 ad cI cJ cB cZ F ar).set 24 (ad 50, .inl (cJ, 16, .inr (.inl (jm g)))) = mW h0 ad cI cJ cB cZ F (aup ar 50 g) := rfl
theorem sa_51 (h0 : Nat) (ad : Nat → Nat) (cI cJ cB cZ : Nat) (F : Nat → Int) (ar : Nat → Int → Int) (g : Int → Int) : (mW h0 ad cI cJ cB cZ F ar).set 25 (ad 51, .inl (cJ, 16, .inr (.inl (jm g)))) = mW h0 ad cI cJ cB cZ F (aup ar 51 g) := rfl
theorem sa_52 (h0 : Nat) (ad : Nat → Nat) (cI cJ cB cZ : Nat) (F : Nat → Int) (ar : Nat → Int → Int) (g : Int → Int) : (mW h0 ad cI cJ cB cZ F ar).set 26 (ad 52, .inl (cB, 300, .inl (im g))) = mW h0 ad cI cJ cB cZ F (aup ar 52 g) := rfl
theorem sp_53 (h0 : Nat) (ad : Nat → Nat) (cI cJ cB cZ : Nat) (F : Nat → Int) (ar : Nat → Int → Int) (v : Int) : (mW h0 ad cI cJ cB cZ F ar).set 0 (h0, .inr (0, (mo ad F).set 53 (Iz v))) = mW h0 ad cI cJ cB cZ (fup F 53 v) ar := rfl
theorem sa_54 (h0 : Nat) (ad : Nat → Nat) (cI cJ cB cZ : Nat) (F : Nat → Int) (ar : Nat → Int → Int) (g : Int → Int) : (mW h0 ad cI cJ cB cZ F ar).set 27 (ad 54, .inl (cB, 300, .inl (im g))) = mW h0 ad cI cJ cB cZ F (aup ar 54 g) := rfl
theorem sp_55 (h0 : Nat) (ad : Nat → Nat) (cI cJ cB cZ : Nat) (F : Nat → Int) (ar : Nat → Int → Int) (v : Int) : (mW h0 ad cI cJ cB cZ F ar).set 0 (h0, .inr (0, (mo ad F).set 55 (Iz v))) = mW h0 ad cI cJ cB cZ (fup F 55 v) ar := rfl
theorem sa_56 (h0 : Nat) (ad : Nat → Nat) (cI cJ cB cZ : Nat) (F : Nat → Int) (ar : Nat → Int → Int) (g : Int → Int) : (mW h0 ad cI cJ cB cZ F ar).set 28 (ad 56, .inl (cJ, 390, .inr (.inl (jm g)))) = mW h0 ad cI cJ cB cZ F (aup ar 56 g) := rfl
theorem sp_57 (h0 : Nat) (ad : Nat → Nat) (cI cJ cB cZ : Nat) (F : Nat → Int) (ar : Nat → Int → Int) (v : Int) : (mW h0 ad cI cJ cB cZ F ar).set 0 (h0, .inr (0, (mo ad F).set 57 (Iz v))) = mW h0 ad cI cJ cB cZ (fup F 57 v) ar := rfl
theorem sa_58 (h0 : Nat) (ad : Nat → Nat) (cI cJ cB cZ : Nat) (F : Nat → Int) (ar : Nat → Int → Int) (g : Int → Int) : (mW h0 ad cI cJ cB cZ F ar).set 29 (ad 58, .inl (cI, 12, .inl (im g))) = mW h0 ad cI cJ cB cZ F (aup ar 58 g) := rfl
theorem sp_59 (h0 : Nat) (ad : Nat → Nat) (cI cJ cB cZ : Nat) (F : Nat → Int) (ar : Nat → Int → Int) (v : Int) : (mW h0 ad cI cJ cB cZ F ar).set 0 (h0, .inr (0, (mo ad F).set 59 (Iz v))) = mW h0 ad cI cJ cB cZ (fup F 59 v) ar := rfl
theorem sa_60 (h0 : Nat) (ad : Nat → Nat) (cI cJ cB cZ : Nat) (F : Nat → Int) (ar : Nat → Int → Int) (g : Int → Int) : (mW h0 ad cI cJ cB cZ F ar).set 30 (ad 60, .inl (cB, 4000, .inl (im g))) = mW h0 ad cI cJ cB cZ F (aup ar 60 g) := rfl
theorem sp_61 (h0 : Nat) (ad : Nat → Nat) (cI cJ cB cZ : Nat) (F : Nat → Int) (ar : Nat → Int → Int) (v : Int) : (mW h0 ad cI cJ cB cZ F ar).set 0 (h0, .inr (0, (mo ad F).set 61 (Iz v))) = mW h0 ad cI cJ cB cZ (fup F 61 v) ar := rfl
theorem sp_62 (h0 : Nat) (ad : Nat → Nat) (cI cJ cB cZ : Nat) (F : Nat → Int) (ar : Nat → Int → Int) (v : Int) : (mW h0 ad cI cJ cB cZ F ar).set 0 (h0, .inr (0, (mo ad F).set 62 (Iz v))) = mW h0 ad cI cJ cB cZ (fup F 62 v) ar := rfl
theorem sp_63 (h0 : Nat) (ad : Nat → Nat) (cI cJ cB cZ : Nat) (F : Nat → Int) (ar : Nat → Int → Int) (v : Int) : (mW h0 ad cI cJ cB cZ F ar).set 0 (h0, .inr (0, (mo ad F).set 63 (Iz v))) = mW h0 ad cI cJ cB cZ (fup F 63 v) ar := rfl
theorem sa_64 (h0 : Nat) (ad : Nat → Nat) (cI cJ cB cZ : Nat) (F : Nat → Int) (ar : Nat → Int → Int) (g : Int → Int) : (mW h0 ad cI cJ cB cZ F ar).set 31 (ad 64, .inl (cB, 600, .inl (im g))) = mW h0 ad cI cJ cB cZ F (aup ar 64 g) := rfl
theorem sp_65 (h0 : Nat) (ad : Nat → Nat) (cI cJ cB cZ : Nat) (F : Nat → Int) (ar : Nat → Int → Int) (v : Int) : (mW h0 ad cI cJ cB cZ F ar).set 0 (h0, .inr (0, (mo ad F).set 65 (Iz v))) = mW h0 ad cI cJ cB cZ (fup F 65 v) ar := rfl
theorem sa_66 (h0 : Nat) (ad : Nat → Nat) (cI cJ cB cZ : Nat) (F : Nat → Int) (ar : Nat → Int → Int) (g : Int → Int) : (mW h0 ad cI cJ cB cZ F ar).set 32 (ad 66, .inl (cI, 700, .inl (im g))) = mW h0 ad cI cJ cB cZ F (aup ar 66 g) := rfl
theorem sa_67 (h0 : Nat) (ad : Nat → Nat) (cI cJ cB cZ : Nat) (F : Nat → Int) (ar : Nat → Int → Int) (g : Int → Int) : (mW h0 ad cI cJ cB cZ F ar).set 33 (ad 67, .inl (cI, 700, .inl (im g))) = mW h0 ad cI cJ cB cZ F (aup ar 67 g) := rfl
theorem sa_68 (h0 : Nat) (ad : Nat → Nat) (cI cJ cB cZ : Nat) (F : Nat → Int) (ar : Nat → Int → Int) (g : Int → Int) : (mW h0 ad cI cJ cB cZ F ar).set 34 (ad 68, .inl (cI, 700, .inl (im g))) = mW h0 ad cI cJ cB cZ F (aup ar 68 g) := rfl
theorem sp_69 (h0 : Nat) (ad : Nat → Nat) (cI cJ cB cZ : Nat) (F : Nat → Int) (ar : Nat → Int → Int) (v : Int) : (mW h0 ad cI cJ cB cZ F ar).set 0 (h0, .inr (0, (mo ad F).set 69 (Iz v))) = mW h0 ad cI cJ cB cZ (fup F 69 v) ar := rfl
theorem sp_70 (h0 : Nat) (ad : Nat → Nat) (cI cJ cB cZ : Nat) (F : Nat → Int) (ar : Nat → Int → Int) (v : Int) : (mW h0 ad cI cJ cB cZ F ar).set 0 (h0, .inr (0, (mo ad F).set 70 (Iz v))) = mW h0 ad cI cJ cB cZ (fup F 70 v) ar := rfl
theorem sp_71 (h0 : Nat) (ad : Nat → Nat) (cI cJ cB cZ : Nat) (F : Nat → Int) (ar : Nat → Int → Int) (v : Int) : (mW h0 ad cI cJ cB cZ F ar).set 0 (h0, .inr (0, (mo ad F).set 71 (Iz v))) = mW h0 ad cI cJ cB cZ (fup F 71 v) ar := rfl
theorem sp_72 (h0 : Nat) (ad : Nat → Nat) (cI cJ cB cZ : Nat) (F : Nat → Int) (ar : Nat → Int → Int) (v : Int) : (mW h0 ad cI cJ cB cZ F ar).set 0 (h0, .inr (0, (mo ad F).set 72 (Iz v))) = mW h0 ad cI cJ cB cZ (fup F 72 v) ar := rfl
theorem sp_73 (h0 : Nat) (ad : Nat → Nat) (cI cJ cB cZ : Nat) (F : Nat → Int) (ar : Nat → Int → Int) (v : Int) : (mW h0 ad cI cJ cB cZ F ar).set 0 (h0, .inr (0, (mo ad F).set 73 (Iz v))) = mW h0 ad cI cJ cB cZ (fup F 73 v) ar := rfl
theorem sp_74 (h0 : Nat) (ad : Nat → Nat) (cI cJ cB cZ : Nat) (F : Nat → Int) (ar : Nat → Int → Int) (v : Int) : (mW h0 ad cI cJ cB cZ F ar).set 0 (h0, .inr (0, (mo ad F).set 74 (Iz v))) = mW h0 ad cI cJ cB cZ (fup F 74 v) ar := rfl
theorem sa_75 (h0 : Nat) (ad : Nat → Nat) (cI cJ cB cZ : Nat) (F : Nat → Int) (ar : Nat → Int → Int) (g : Int → Int) : (mW h0 ad cI cJ cB cZ F ar).set 35 (ad 75, .inl (cI, 12, .inl (im g))) = mW h0 ad cI cJ cB cZ F (aup ar 75 g) := rfl
theorem sa_76 (h0 : Nat) (ad : Nat → Nat) (cI cJ cB cZ : Nat) (F : Nat → Int) (ar : Nat → Int → Int) (g : Int → Int) : (mW h0 ad cI cJ cB cZ F ar).set 36 (ad 76, .inl (cI, 12, .inl (im g))) = mW h0 ad cI cJ cB cZ F (aup ar 76 g) := rfl
theorem sa_77 (h0 : Nat) (ad : Nat → Nat) (cI cJ cB cZ : Nat) (F : Nat → Int) (ar : Nat → Int → Int) (g : Int → Int) : (mW h0 ad cI cJ cB cZ F ar).set 37 (ad 77, .inl (cI, 12, .inl (im g))) = mW h0 ad cI cJ cB cZ F (aup ar 77 g) := rfl
theorem sa_78 (h0 : Nat) (ad : Nat → Nat) (cI cJ cB cZ : Nat) (F : Nat → Int) (ar : Nat → Int → Int) (g : Int → Int) : (mW h0 ad cI cJ cB cZ F ar).set 38 (ad 78, .inl (cZ, 12, .inl (im g))) = mW h0 ad cI cJ cB cZ F (aup ar 78 g) := rfl
theorem sa_79 (h0 : Nat) (ad : Nat → Nat) (cI cJ cB cZ : Nat) (F : Nat → Int) (ar : Nat → Int → Int) (g : Int → Int) : (mW h0 ad cI cJ cB cZ F ar).set 39 (ad 79, .inl (cI, 12, .inl (im g))) = mW h0 ad cI cJ cB cZ F (aup ar 79 g) := rfl
theorem sp_80 (h0 : Nat) (ad : Nat → Nat) (cI cJ cB cZ : Nat) (F : Nat → Int) (ar : Nat → Int → Int) (v : Int) : (mW h0 ad cI cJ cB cZ F ar).set 0 (h0, .inr (0, (mo ad F).set 80 (Iz v))) = mW h0 ad cI cJ cB cZ (fup F 80 v) ar := rfl
/-- where its cells lie -/
def mA (h0 : Nat) (ad : Nat → Nat) : List Nat := h0 :: [ad 1, ad 5, ad 6, ad 7, ad 11, ad 13, ad 15, ad 18, ad 21, ad 22, ad 23, ad 29, ad 30, ad 33, ad 34, ad 36, ad 37, ad 41, ad 43, ad 46, ad 47, ad 48, ad 49, ad 50, ad 51, ad 52, ad 54, ad 56, ad 58, ad 60, ad 64, ad 66, ad 67, ad 68, ad 75, ad 76, ad 77, ad 78, ad 79]
theorem mA_map (h0 : Nat) (ad : Nat → Nat) (cI cJ cB cZ : Nat) (F : Nat → Int) (ar : Nat → Int → Int) : (mW h0 ad cI cJ cB cZ F ar).map Prod.fst = mA h0 ad := rfl
def rA (h0 : Nat) (ad : Nat → Nat) (sz : Nat) : Nat → Prop := fun q => q ∈ mA h0 ad ∨ sz ≤ q
theorem rA_self {h0 : Nat} {ad : Nat → Nat} {cI cJ cB cZ : Nat} {F : Nat → Int} {ar : Nat → Int → Int} {A : Nat → Prop} (sz : Nat) (h : va_D A (mW h0 ad cI cJ cB cZ F ar)) : va_D (rA h0 ad sz) (mW h0 ad cI cJ cB cZ F ar) :=
  ⟨h.1, fun k q hk => Or.inl (by
    rw [← mA_map h0 ad cI cJ cB cZ F ar]
    exact List.mem_map_of_mem (List.mem_of_getElem? hk))⟩
theorem rA_sub {h0 : Nat} {ad : Nat → Nat} {cI cJ cB cZ : Nat} {F : Nat → Int} {ar : Nat → Int → Int} {A : Nat → Prop} {n sz : Nat} (h : va_D A (mW h0 ad cI cJ cB cZ F ar)) (hn : n ≤ sz) (hA : ∀ q : Nat, n ≤ q → A q) (q : Nat) (hq : rA h0 ad sz q) : A q := by
  rcases hq with hq | hq
  · rw [← mA_map h0 ad cI cJ cB cZ F ar] at hq
    obtain ⟨x, hx, rfl⟩ := List.mem_map.mp hq
    obtain ⟨k, hk⟩ := List.mem_iff_getElem?.mp hx
    exact h.2 k x hk
  · exact hA q (Nat.le_trans hn hq)
def rB (dC : Nat → ClassId) (dI : Nat → Nat → Nat) (h0 : Nat) (ad : Nat → Nat) (cI cJ cB cZ : Nat) (F : Nat → Int) (ar : Nat → Int → Int) (A : Nat → Prop) (U : State) : Prop := va_P (dC, dI) rcl (mW h0 ad cI cJ cB cZ F ar) U.heap ∧ va_K (dC, dI) rcl (rty cI cJ cB cZ) U ∧ va_D A (mW h0 ad cI cJ cB cZ F ar)
abbrev rS : Type := (Nat → Int) × (Nat → Int → Int)
/-- a method's start, and its end with an int: P tells the int and the state behind -/
abbrev rPc (dC : Nat → ClassId) (dI : Nat → Nat → Nat) (h0 : Nat) (ad : Nat → Nat) (cI cJ cB cZ : Nat) (F : Nat → Int) (ar : Nat → Int → Int) (sz : Nat) (As : List Value) : Array Value → State → Prop := va_Pc (.ref h0 :: As) (fun U => U.heap.size = sz ∧ rB dC dI h0 ad cI cJ cB cZ F ar (fun _ => True) U)
abbrev rQi (dC : Nat → ClassId) (dI : Nat → Nat → Nat) (h0 : Nat) (ad : Nat → Nat) (cI cJ cB cZ : Nat) (sz : Nat) (P : Int → (Nat → Int) → (Nat → Int → Int) → Prop) : Array Value → State → Outcome → State → Prop := va_Qi (fun (r : Int32) (u : rS) => ∃ z : Int, r = Int32.ofInt z ∧ P z u.1 u.2) (fun u t => rB dC dI h0 ad cI cJ cB cZ u.1 u.2 (rA h0 ad sz) t) (rA h0 ad sz)
abbrev rQv (dC : Nat → ClassId) (dI : Nat → Nat → Nat) (h0 : Nat) (ad : Nat → Nat) (cI cJ cB cZ : Nat) (sz : Nat) (P : (Nat → Int) → (Nat → Int → Int) → Prop) : Array Value → State → Outcome → State → Prop := va_Qv (fun (u : rS) => P u.1 u.2) (fun u t => rB dC dI h0 ad cI cJ cB cZ u.1 u.2 (rA h0 ad sz) t) (rA h0 ad sz)
abbrev rRm (f k : Nat) : Room := { frames := f, cells := 0, slots := 0, locals := k }
theorem rGood {c0 : Cond} {idx maxL : Nat} {y : MethodName} {bytes : ByteArray} {ret : Option FieldType} (h1 : Cond.methodLink RX12 idx y ∈ w0r) (h2 : Cond.instanceMethod y ∈ w0r) (h3 : Cond.selects RX12 y y ∈ w0r) (h4 : Cond.initialized RX12 ∈ w0r) (h5 : Cond.code y bytes maxL ret ∈ w0r) : GoodIn (c0 :: w0r) (wsV RX12 idx RX12 y (Cond.code y bytes maxL ret :: w0r)) := by
  intro w h
  have hw : w ∈ w0r := by
    unfold wsV at h
    simp only [List.cons_append, List.nil_append, List.mem_cons] at h
    rcases h with rfl | rfl | rfl | rfl | rfl | h
    · exact h1
    · exact h2
    · exact h3
    · exact h4
    · exact h5
    · exact h
  exact ⟨List.mem_cons_of_mem _ hw, good_of_word (List.all_eq_true.mp w0r_good w hw)⟩
theorem rGoodS {c0 : Cond} {idx maxL : Nat} {y : MethodName} {bytes : ByteArray} {ret : Option FieldType} (h1 : Cond.methodLink RX12 idx y ∈ w0r) (h2 : Cond.static y ∈ w0r) (h4 : Cond.initialized RX12 ∈ w0r) (h5 : Cond.code y bytes maxL ret ∈ w0r) : GoodIn (c0 :: w0r) (wsS RX12 idx y (Cond.code y bytes maxL ret :: w0r)) := by
  intro w h
  have hw : w ∈ w0r := by
    unfold wsS at h
    simp only [List.cons_append, List.nil_append, List.mem_cons] at h
    rcases h with rfl | rfl | rfl | rfl | h
    · exact h1
    · exact h2
    · exact h4
    · exact h5
    · exact h
  exact ⟨List.mem_cons_of_mem _ hw, good_of_word (List.all_eq_true.mp w0r_good w hw)⟩
variable {p : Program} {l : Launch} {e : Env} {R : Room} {s : State} {m : MethodId} {args : Array Value} {below : List Frame} {meth : Method} {c : Code} {H : Heap} {locs : List Loc} {cells slots : Nat} {Q : State → Prop}
variable {cc : ByteArray} {pc nL : Nat} {ls : Array Slot} {rest : List Value} {dC : Nat → ClassId} {dI : Nat → Nat → Nat} {h0 : Nat} {ad : Nat → Nat} {cI cJ cB cZ : Nat} {F : Nat → Int} {ar : Nat → Int → Int} {A : Nat → Prop} {H0 : Heap} {c0 : Cond}
theorem r_join {P : Int → Prop} {g : Int → JFrame} {g0 : JFrame} (k : ∀ z : Int, P z → W p l e R s m args below meth c H locs cells slots Q (g z)) (h : (∀ z : Int, P z → W p l e R s m args below meth c H locs cells slots Q (g z)) → W p l e R s m args below meth c H locs cells slots Q g0) : W p l e R s m args below meth c H locs cells slots Q g0 := h k
theorem r_loop {P : Nat → Heap → List Loc → Array Slot → Prop} {g : Array Slot → JFrame} (step : ∀ (n : Nat) (H : Heap) (locs : List Loc) (ls : Array Slot), P n H locs ls → (∀ n' : Nat, n' < n → ∀ (H' : Heap) (locs' : List Loc) (ls' : Array Slot), P n' H' locs' ls' → W p l e R s m args below meth c H' locs' cells slots Q (g ls')) → W p l e R s m args below meth c H locs cells slots Q (g ls)) : ∀ (n : Nat) (H : Heap) (locs : List Loc) (ls : Array Slot), P n H locs ls → W p l e R s m args below meth c H locs cells slots Q (g ls) := by
  intro n
  induction n using Nat.strongRecOn with
  | _ n ih => exact fun H locs ls h => step n H locs ls h (fun n' hn' => ih n' hn')
theorem r_geti (E : CallFix p m c cc nL s args (c0 :: w0r) RX12) (hK : va_K (dC, dI) rcl (rty cI cJ cB cZ) s) (hP : va_P (dC, dI) rcl (mW h0 ad cI cJ cB cZ F ar) H) {k index : Nat} {v : Value} (hk : k < 81) (hlink : Cond.fieldLink RX12 index RX12 (TX12 k).2.1 (TX12 k).2.2.1 ∈ w0r) (hown : (TX12 k).1 = RX12) (hv : (mo ad F)[k]? = some v) (hd : decode cc pc = .ok (.getfield index, 3)) (kk : W p l e R s m args below meth c H locs cells slots Q (F0 m (pc + 3) ls (v :: rest))) : W p l e R s m args below meth c H locs cells slots Q (F0 m pc ls (.ref h0 :: rest)) :=
  va_get (D := (dC, dI)) (ci := 0) (C := RX12) (T := TX12) (N := 81) E.1 E.2.1 E.2.2.2.2 (fun w h => List.mem_cons_of_mem _ (w0r_in w h)) E.2.2.2.1 hK hP 0 rfl rfl k hk (E.2.2.2.2 _ (List.mem_cons_of_mem _ hlink)) (by rw [hown]; exact fun _ h9 => h9) hv hd kk
theorem r_puti (E : CallFix p m c cc nL s args (c0 :: w0r) RX12) (hK : va_K (dC, dI) rcl (rty cI cJ cB cZ) s) (hP : va_P (dC, dI) rcl (mW h0 ad cI cJ cB cZ F ar) H) (hD : va_D A (mW h0 ad cI cJ cB cZ F ar)) (hS : va_S A H0 H locs) (k : Nat) {index : Nat} {v : Int} (hk : k < 81) (hlink : Cond.fieldLink RX12 index RX12 (TX12 k).2.1 (TX12 k).2.2.1 ∈ w0r) (hown : (TX12 k).1 = RX12) (hfin : (TX12 k).2.2.2 = false) (hdesc : parseFieldDescriptor (TX12 k).2.2.1 = some .int) (hsp : ∀ v : Int, (mW h0 ad cI cJ cB cZ F ar).set 0 (h0, .inr (0, (mo ad F).set k (Iz v))) = mW h0 ad cI cJ cB cZ (fup F k v) ar) (hd : decode cc pc = .ok (.putfield index, 3)) (kk : ∀ (H1 : Heap) (locs1 : List Loc), va_P (dC, dI) rcl (mW h0 ad cI cJ cB cZ (fup F k v) ar) H1 → va_D A (mW h0 ad cI cJ cB cZ (fup F k v) ar) → va_S A H0 H1 locs1 → W p l e R s m args below meth c H1 locs1 cells slots Q (F0 m (pc + 3) ls rest)) : W p l e R s m args below meth c H locs cells slots Q (F0 m pc ls (Iz v :: .ref h0 :: rest)) :=
  va_put (D := (dC, dI)) (ci := 0) (C := RX12) (T := TX12) (N := 81) (v := Iz v) (ty := .int) E.1 E.2.1 E.2.2.2.2 (fun w h => List.mem_cons_of_mem _ (w0r_in w h)) tyX12 tyX12_ok nmX12 E.2.2.2.1 hK hP hD hS 0 rfl rfl k hk (E.2.2.2.2 _ (List.mem_cons_of_mem _ hlink)) (by rw [hown]; exact fun _ h9 => h9) hfin hdesc rfl rfl (show k < 81 from hk) hd (fun H1 locs1 q1 q2 q3 => kk H1 locs1 (by rw [← hsp]; exact q1) (by rw [← hsp]; exact q2) q3)
theorem r_calli (E : CallFix p m c cc nL s args (c0 :: w0r) RX12) {y : MethodName} {bytes : ByteArray} {maxL index n : Nat} {ret : Option FieldType} {rm : Room} {As : List Value} {P : Int → (Nat → Int) → (Nat → Int → Int) → Prop}
    (hM : Met l y (Cond.code y bytes maxL ret :: w0r) rm (rPc dC dI h0 ad cI cJ cB cZ F ar H.size As) (rQi dC dI h0 ad cI cJ cB cZ H.size P) 0 0 (rA h0 ad H.size)) (cw : CallW R s args RX12 RX12 index y bytes maxL ret (Cond.code y bytes maxL ret :: w0r) rm 0 0 n)
    (hK : va_K (dC, dI) rcl (rty cI cJ cB cZ) s) (hP : va_P (dC, dI) rcl (mW h0 ad cI cJ cB cZ F ar) H) (hD : va_D A (mW h0 ad cI cJ cB cZ F ar)) (hS : va_S A H0 H locs) (hA : ∀ q : Nat, H0.size ≤ q → A q) (hn : As.length = n) (hl : ls.size = nL) (hW : (rest.map fun v => v.category).sum ≤ 8) (hd : decode cc pc = .ok (.invokevirtual index, 3)) (hf : cells + 0 ≤ R.cells ∧ slots + 0 ≤ R.slots)
    (kk : ∀ (z : Int) (F' : Nat → Int) (ar' : Nat → Int → Int) (H1 : Heap) (locs1 : List Loc), P z F' ar' → va_P (dC, dI) rcl (mW h0 ad cI cJ cB cZ F' ar') H1 → va_D A (mW h0 ad cI cJ cB cZ F' ar') → va_S A H0 H1 locs1 → W p l e R s m args below meth c H1 locs1 cells slots Q (F0 m (pc + 3) ls (Iz z :: rest))) : W p l e R s m args below meth c H locs cells slots Q (F0 m pc ls (As.reverse ++ .ref h0 :: rest)) := by
  have hsub : ∀ q, rA h0 ad H.size q → A q := rA_sub hD hS.1 hA
  refine va_calli (va_runV (As := As) (rest := rest) E hM cw ⟨fun a U g mk q => by obtain ⟨q0, q1, qP, qK, qD⟩ := q; exact ⟨q0, q1, qP, va_K.moved (u := U) (U := U.calling g mk a) (Vm.Alike.refl U.vm) qK, qD⟩, va_recv hK hP (ci := 0) (q0 := 0) rfl rfl, fun U hU hW => ⟨rfl, by rw [hU], by rw [hU]; exact hP, va_K.moved hW.alike hK, hD.weaken (fun _ _ _ _ => trivial)⟩⟩ rfl hn hl rfl (lv_room hW) hd hf) hS (fun q _ h => hsub q h) hsub (fun r u t H1 locs1 ht hvm hw hB hz1 hk1 hS1 => ?_)
  obtain ⟨F', ar'⟩ := u
  obtain ⟨z, rfl, hp⟩ := hw
  obtain ⟨hP1, hK1, hD1⟩ := hB
  rw [ht] at hP1
  exact kk z F' ar' H1 locs1 hp hP1 (hD1.weaken (fun k q _ h => hsub q.1 h)) hS1
theorem r_callv (E : CallFix p m c cc nL s args (c0 :: w0r) RX12) {y : MethodName} {bytes : ByteArray} {maxL index n : Nat} {ret : Option FieldType} {rm : Room} {As : List Value} {P : (Nat → Int) → (Nat → Int → Int) → Prop}
    (hM : Met l y (Cond.code y bytes maxL ret :: w0r) rm (rPc dC dI h0 ad cI cJ cB cZ F ar H.size As) (rQv dC dI h0 ad cI cJ cB cZ H.size P) 0 0 (rA h0 ad H.size)) (cw : CallW R s args RX12 RX12 index y bytes maxL ret (Cond.code y bytes maxL ret :: w0r) rm 0 0 n)
    (hK : va_K (dC, dI) rcl (rty cI cJ cB cZ) s) (hP : va_P (dC, dI) rcl (mW h0 ad cI cJ cB cZ F ar) H) (hD : va_D A (mW h0 ad cI cJ cB cZ F ar)) (hS : va_S A H0 H locs) (hA : ∀ q : Nat, H0.size ≤ q → A q) (hn : As.length = n) (hl : ls.size = nL) (hW : (rest.map fun v => v.category).sum ≤ 8) (hd : decode cc pc = .ok (.invokevirtual index, 3)) (hf : cells + 0 ≤ R.cells ∧ slots + 0 ≤ R.slots)
    (kk : ∀ (F' : Nat → Int) (ar' : Nat → Int → Int) (H1 : Heap) (locs1 : List Loc), P F' ar' → va_P (dC, dI) rcl (mW h0 ad cI cJ cB cZ F' ar') H1 → va_D A (mW h0 ad cI cJ cB cZ F' ar') → va_S A H0 H1 locs1 → W p l e R s m args below meth c H1 locs1 cells slots Q (F0 m (pc + 3) ls rest)) : W p l e R s m args below meth c H locs cells slots Q (F0 m pc ls (As.reverse ++ .ref h0 :: rest)) := by
  have hsub : ∀ q, rA h0 ad H.size q → A q := rA_sub hD hS.1 hA
  refine va_callv (va_runV (As := As) (rest := rest) E hM cw ⟨fun a U g mk q => by obtain ⟨q0, q1, qP, qK, qD⟩ := q; exact ⟨q0, q1, qP, va_K.moved (u := U) (U := U.calling g mk a) (Vm.Alike.refl U.vm) qK, qD⟩, va_recv hK hP (ci := 0) (q0 := 0) rfl rfl, fun U hU hW => ⟨rfl, by rw [hU], by rw [hU]; exact hP, va_K.moved hW.alike hK, hD.weaken (fun _ _ _ _ => trivial)⟩⟩ rfl hn hl rfl (lv_room hW) hd hf) hS (fun q _ h => hsub q h) hsub (fun u t H1 locs1 ht hvm hw hB hz1 hk1 hS1 => ?_)
  obtain ⟨F', ar'⟩ := u
  obtain ⟨hP1, hK1, hD1⟩ := hB
  rw [ht] at hP1
  exact kk F' ar' H1 locs1 hw hP1 (hD1.weaken (fun k q _ h => hsub q.1 h)) hS1
end RState
