def m_X9_letterAt (S : St) (a1 : Int32) : Option Int32 :=
 if (S.1 0 3) ≤ a1 then
 (some (-1 : Int32))
 else
 ((ald 200 (S.1 1) a1).bind fun x2 =>
 some x2)
def m_X9_in (a0 : Int32) (a1 : Int32) (a2 : Int32) : Option Int32 :=
 if a0 < a1 then
 (some (0 : Int32))
 else
 (if a2 < a0 then
 (some (0 : Int32))
 else
 (some (1 : Int32)))
def m_X9_advances_r1 (x5 : Int32) (S22 : St) : Option St :=
 ((if (900 : Int32) < (S22.1 0 7) then
 (some (4 : Int32))
 else
 (if ¬ x5 = (48 : Int32) then
 (some (2 : Int32))
 else
 (if ((S22.1 0 4) - (S22.1 0 6)) ≤ (1 : Int32) then
 (some (2 : Int32))
 else
 (some (4 : Int32)))) : Option Int32)).bind fun x24 =>
 lt (st_i S22 0 5 x24) fun S26 =>
 some S26
def m_X9_advances_L1 (k_1 : (St → Option St)) : Nat → St → Option St
  | 0, _ => none
  | n_1 + 1, S21 =>
      (m_X9_letterAt S21 (S21.1 0 4)).bind fun x31 =>
      (m_X9_in x31 (48 : Int32) (57 : Int32)).bind fun x33 =>
      if x33 = (0 : Int32) then
      (k_1 S21)
      else
      (((if (S21.1 0 7) ≤ (900 : Int32) then
      ((m_X9_letterAt S21 (S21.1 0 4)).bind fun x41 =>
      some ((((10 : Int32) * (S21.1 0 7)) + x41) - (48 : Int32)))
      else
      (some (S21.1 0 7)) : Option Int32)).bind fun x36 =>
      lt (st_i S21 0 7 x36) fun S38 =>
      lt (st_i S38 0 4 ((S38.1 0 4) + (1 : Int32))) fun S39 =>
      m_X9_advances_L1 k_1 n_1 S39)
theorem m_X9_advances_L1_z (k_1 : (St → Option St)) (S21 : St) : m_X9_advances_L1 k_1 0 S21 = none := rfl
theorem m_X9_advances_L1_s (k_1 : (St → Option St)) (n_1 : Nat) (S21 : St) : m_X9_advances_L1 k_1 (n_1 + 1) S21 =
 (m_X9_letterAt S21 (S21.1 0 4)).bind fun x31 =>
 (m_X9_in x31 (48 : Int32) (57 : Int32)).bind fun x33 =>
 if x33 = (0 : Int32) then
 (k_1 S21)
 else
 (((if (S21.1 0 7) ≤ (900 : Int32) then
 ((m_X9_letterAt S21 (S21.1 0 4)).bind fun x41 =>
 some ((((10 : Int32) * (S21.1 0 7)) + x41) - (48 : Int32)))
 else
 (some (S21.1 0 7)) : Option Int32)).bind fun x36 =>
 lt (st_i S21 0 7 x36) fun S38 =>
 lt (st_i S38 0 4 ((S38.1 0 4) + (1 : Int32))) fun S39 =>
 m_X9_advances_L1 k_1 n_1 S39) := rfl
def m_X9_advances_r0 (fu : Nat) (S2 : St) : Option St :=
 lt (st_i S2 0 6 (S2.1 0 4)) fun S3 =>
 (m_X9_letterAt S3 (S3.1 0 4)).bind fun x5 =>
 if (0 : Int32) ≤ x5 then
 ((m_X9_in x5 (48 : Int32) (57 : Int32)).bind fun x8 =>
 if x8 = (0 : Int32) then
 (lt (st_i S3 0 4 ((S3.1 0 4) + (1 : Int32))) fun S10 =>
 lt (st_i S10 0 7 x5) fun S11 =>
 ((if ¬ x5 = (59 : Int32) then
 (if x5 = (114 : Int32) then
 (some (1 : Int32))
 else
 (if x5 = (98 : Int32) then
 (some (1 : Int32))
 else
 (if ¬ x5 = (99 : Int32) then
 (some (4 : Int32))
 else
 (some (1 : Int32)))))
 else
 (some (3 : Int32)) : Option Int32)).bind fun x13 =>
 lt (st_i S11 0 5 x13) fun S15 =>
 some S15)
 else
 (lt (st_i S3 0 7 (0 : Int32)) fun S20 =>
 m_X9_advances_L1 (m_X9_advances_r1 x5) fu S20))
 else
 (lt (st_i S3 0 5 (0 : Int32)) fun S43 =>
 some S43)
def m_X9_advances_L0 (k_0 : (St → Option St)) : Nat → St → Option St
  | 0, _ => none
  | n_0 + 1, S1 =>
      (m_X9_letterAt S1 (S1.1 0 4)).bind fun x45 =>
      if ¬ x45 = (32 : Int32) then
      (k_0 S1)
      else
      (lt (st_i S1 0 4 ((S1.1 0 4) + (1 : Int32))) fun S47 =>
      m_X9_advances_L0 k_0 n_0 S47)
theorem m_X9_advances_L0_z (k_0 : (St → Option St)) (S1 : St) : m_X9_advances_L0 k_0 0 S1 = none := rfl
theorem m_X9_advances_L0_s (k_0 : (St → Option St)) (n_0 : Nat) (S1 : St) : m_X9_advances_L0 k_0 (n_0 + 1) S1 =
 (m_X9_letterAt S1 (S1.1 0 4)).bind fun x45 =>
 if ¬ x45 = (32 : Int32) then
 (k_0 S1)
 else
 (lt (st_i S1 0 4 ((S1.1 0 4) + (1 : Int32))) fun S47 =>
 m_X9_advances_L0 k_0 n_0 S47) := rfl
def m_X9_advances (fu : Nat) (S : St) : Option St :=
 m_X9_advances_L0 (m_X9_advances_r0 fu) fu S
def m_X9_ahead (S : St) : Option Int32 :=
 some (((1 : Int32) <<< ((S.1 2 0) &&& 31)) - ((1 : Int32) <<< ((S.1 8 0) &&& 31)))
def m_X9_asNow_r0 (x3 : Int32) (S4 : St) : Option St :=
 some S4
def m_X9_asNow_L0 (k_0 : (Int32 → St → Option St)) : Nat → Int32 → St → Option St
  | 0, _, _ => none
  | n_0 + 1, x1, S2 =>
      if (18 : Int32) ≤ x1 then
      (k_0 x1 S2)
      else
      ((ald 18 (S2.1 8) x1).bind fun x6 =>
      (ast 18 S2 9 x1 x6).bind fun S7 =>
      m_X9_asNow_L0 k_0 n_0 (x1 + (1 : Int32)) S7)
theorem m_X9_asNow_L0_z (k_0 : (Int32 → St → Option St)) (x1 : Int32) (S2 : St) : m_X9_asNow_L0 k_0 0 x1 S2 = none := rfl
theorem m_X9_asNow_L0_s (k_0 : (Int32 → St → Option St)) (n_0 : Nat) (x1 : Int32) (S2 : St) : m_X9_asNow_L0 k_0 (n_0 + 1) x1 S2 =
 if (18 : Int32) ≤ x1 then
 (k_0 x1 S2)
 else
 ((ald 18 (S2.1 8) x1).bind fun x6 =>
 (ast 18 S2 9 x1 x6).bind fun S7 =>
 m_X9_asNow_L0 k_0 n_0 (x1 + (1 : Int32)) S7) := rfl
def m_X9_asNow (fu : Nat) (S : St) : Option St :=
 m_X9_asNow_L0 m_X9_asNow_r0 fu (0 : Int32) S
def m_X9_back_r0 (x9 : Int32) (S10 : St) : Option (Int32 × St) :=
 lt (st_i S10 0 21 (0 : Int32)) fun S11 =>
 some (S11.1 8 0, S11)
def m_X9_back_L0 (a1 : Int32) (k_0 : (Int32 → St → Option (Int32 × St))) : Nat → Int32 → St → Option (Int32 × St)
  | 0, _, _ => none
  | n_0 + 1, x7, S8 =>
      if (18 : Int32) ≤ x7 then
      (k_0 x7 S8)
      else
      ((ald 36 (S8.1 10) (((18 : Int32) * a1) + x7)).bind fun x13 =>
      (ast 18 S8 8 x7 x13).bind fun S14 =>
      m_X9_back_L0 a1 k_0 n_0 (x7 + (1 : Int32)) S14)
theorem m_X9_back_L0_z (a1 : Int32) (k_0 : (Int32 → St → Option (Int32 × St))) (x7 : Int32) (S8 : St) : m_X9_back_L0 a1 k_0 0 x7 S8 = none := rfl
theorem m_X9_back_L0_s (a1 : Int32) (k_0 : (Int32 → St → Option (Int32 × St))) (n_0 : Nat) (x7 : Int32) (S8 : St) : m_X9_back_L0 a1 k_0 (n_0 + 1) x7 S8 =
 if (18 : Int32) ≤ x7 then
 (k_0 x7 S8)
 else
 ((ald 36 (S8.1 10) (((18 : Int32) * a1) + x7)).bind fun x13 =>
 (ast 18 S8 8 x7 x13).bind fun S14 =>
 m_X9_back_L0 a1 k_0 n_0 (x7 + (1 : Int32)) S14) := rfl
def m_X9_back (fu : Nat) (S : St) (a1 : Int32) : Option (Int32 × St) :=
 lt (st_i S 0 0 (0 : Int32)) fun S1 =>
 (m_X9_in a1 (0 : Int32) (1 : Int32)).bind fun x3 =>
 if ¬ x3 = (0 : Int32) then
 ((ald 2 (S1.1 11) a1).bind fun x5 =>
 if ¬ x5 = (0 : Int32) then
 (m_X9_back_L0 a1 m_X9_back_r0 fu (0 : Int32) S1)
 else
 (some ((-2 : Int32), S1)))
 else
 (some ((-1 : Int32), S1))
def m_X9_isRock (S : St) (a1 : Int32) : Option Int32 :=
 (m_X9_in a1 (0 : Int32) ((S.1 2 0) - (1 : Int32))).bind fun x2 =>
 zb x2 (some x2)
def m_X9_notes_r0 (x6 : Int32) (S7 : St) : Option St :=
 lt (st_i S7 0 21 ((S7.1 0 21) + (1 : Int32))) fun S8 =>
 some S8
def m_X9_notes_L0 (k_0 : (Int32 → St → Option St)) : Nat → Int32 → St → Option St
  | 0, _, _ => none
  | n_0 + 1, x4, S5 =>
      if (18 : Int32) ≤ x4 then
      (k_0 x4 S5)
      else
      ((ald 18 (S5.1 8) x4).bind fun x10 =>
      (ast 180 S5 12 (((18 : Int32) * (S5.1 0 21)) + x4) x10).bind fun S11 =>
      m_X9_notes_L0 k_0 n_0 (x4 + (1 : Int32)) S11)
theorem m_X9_notes_L0_z (k_0 : (Int32 → St → Option St)) (x4 : Int32) (S5 : St) : m_X9_notes_L0 k_0 0 x4 S5 = none := rfl
theorem m_X9_notes_L0_s (k_0 : (Int32 → St → Option St)) (n_0 : Nat) (x4 : Int32) (S5 : St) : m_X9_notes_L0 k_0 (n_0 + 1) x4 S5 =
 if (18 : Int32) ≤ x4 then
 (k_0 x4 S5)
 else
 ((ald 18 (S5.1 8) x4).bind fun x10 =>
 (ast 180 S5 12 (((18 : Int32) * (S5.1 0 21)) + x4) x10).bind fun S11 =>
 m_X9_notes_L0 k_0 n_0 (x4 + (1 : Int32)) S11) := rfl
def m_X9_notes_r1 (x14 : Int32) (S15 : St) : Option St :=
 lt (st_i S15 0 21 (9 : Int32)) fun S16 =>
 some S16
def m_X9_notes_L1 (k_1 : (Int32 → St → Option St)) : Nat → Int32 → St → Option St
  | 0, _, _ => none
  | n_1 + 1, x12, S13 =>
      if (162 : Int32) ≤ x12 then
      (k_1 x12 S13)
      else
      ((ald 180 (S13.1 12) (x12 + (18 : Int32))).bind fun x18 =>
      (ast 180 S13 12 x12 x18).bind fun S19 =>
      m_X9_notes_L1 k_1 n_1 (x12 + (1 : Int32)) S19)
theorem m_X9_notes_L1_z (k_1 : (Int32 → St → Option St)) (x12 : Int32) (S13 : St) : m_X9_notes_L1 k_1 0 x12 S13 = none := rfl
theorem m_X9_notes_L1_s (k_1 : (Int32 → St → Option St)) (n_1 : Nat) (x12 : Int32) (S13 : St) : m_X9_notes_L1 k_1 (n_1 + 1) x12 S13 =
 if (162 : Int32) ≤ x12 then
 (k_1 x12 S13)
 else
 ((ald 180 (S13.1 12) (x12 + (18 : Int32))).bind fun x18 =>
 (ast 180 S13 12 x12 x18).bind fun S19 =>
 m_X9_notes_L1 k_1 n_1 (x12 + (1 : Int32)) S19) := rfl
def m_X9_notes (fu : Nat) (S : St) : Option St :=
 ((if ¬ (S.1 0 21) = (10 : Int32) then
 (some S)
 else
 (m_X9_notes_L1 m_X9_notes_r1 fu (0 : Int32) S) : Option St)).bind fun S2 =>
 m_X9_notes_L0 m_X9_notes_r0 fu (0 : Int32) S2
def m_X9_ones_r0 (x3 : Int32) (x4 : Int32) : Option Int32 :=
 some x3
def m_X9_ones_L0 (a0 : Int32) (k_0 : (Int32 → Int32 → Option Int32)) : Nat → Int32 → Int32 → Option Int32
  | 0, _, _ => none
  | n_0 + 1, x1, x2 =>
      if (8 : Int32) ≤ x2 then
      (k_0 x1 x2)
      else
      (lt (x1 + ((a0 >>> (x2 &&& 31)) &&& (1 : Int32))) fun x6 =>
      m_X9_ones_L0 a0 k_0 n_0 x6 (x2 + (1 : Int32)))
theorem m_X9_ones_L0_z (a0 : Int32) (k_0 : (Int32 → Int32 → Option Int32)) (x1 : Int32) (x2 : Int32) : m_X9_ones_L0 a0 k_0 0 x1 x2 = none := rfl
theorem m_X9_ones_L0_s (a0 : Int32) (k_0 : (Int32 → Int32 → Option Int32)) (n_0 : Nat) (x1 : Int32) (x2 : Int32) : m_X9_ones_L0 a0 k_0 (n_0 + 1) x1 x2 =
 if (8 : Int32) ≤ x2 then
 (k_0 x1 x2)
 else
 (lt (x1 + ((a0 >>> (x2 &&& 31)) &&& (1 : Int32))) fun x6 =>
 m_X9_ones_L0 a0 k_0 n_0 x6 (x2 + (1 : Int32))) := rfl
def m_X9_ones (fu : Nat) (a0 : Int32) : Option Int32 :=
 m_X9_ones_L0 a0 m_X9_ones_r0 fu (0 : Int32) (0 : Int32)
def m_X9_breaks (fu : Nat) (S : St) (a1 : Int32) : Option (Int32 × St) :=
 lt (st_i S 0 0 (0 : Int32)) fun S1 =>
 (m_X9_isRock S1 a1).bind fun x3 =>
 if ¬ x3 = (0 : Int32) then
 (if ¬ (((S1.1 8 5) >>> (a1 &&& 31)) &&& (1 : Int32)) = (1 : Int32) then
 ((m_X9_notes fu S1).bind fun S7 =>
 lt (st_i S7 8 5 ((S7.1 8 5) ||| ((1 : Int32) <<< (a1 &&& 31)))) fun S8 =>
 (m_X9_ones fu (S8.1 8 5)).bind fun x10 =>
 some (x10, S8))
 else
 (some ((-2 : Int32), S1)))
 else
 (some ((-1 : Int32), S1))
def m_X9_tollOf (S : St) (k : Nat) (a2 : Int32) (a3 : Int32) : Option Int32 :=
 if ¬ (((S.1 k 5) >>> (a2 &&& 31)) &&& (1 : Int32)) = (1 : Int32) then
 ((ald 18 (S.1 k) ((6 : Int32) + a2)).bind fun x2 =>
 (ald 16 (S.1 4) a2).bind fun x3 =>
 (ald 16 (S.1 4) a2).bind fun x4 =>
 nz x4 (some (x2 * (((a3 + x3) - (1 : Int32)) / x4))))
 else
 (some (0 : Int32))
def m_X9_takenBy (S : St) (k : Nat) (a2 : Int32) (a3 : Int32) (a4 : Int32) : Option Int32 :=
 (ald 16 (S.1 5) a2).bind fun x1 =>
 if ¬ a4 = (x1 + (1 : Int32)) then
 ((m_X9_tollOf S k a2 a3).bind fun x4 =>
 some x4)
 else
 (some (0 : Int32))
def m_X9_paidOn (S : St) (k : Nat) (a2 : Int32) (a3 : Int32) (a4 : Int32) : Option Int32 :=
 (m_X9_takenBy S k a2 a3 a4).bind fun x2 =>
 ((if x2 ≤ (0 : Int32) then
 (some (0 : Int32))
 else
 ((ald 16 (S.1 5) a2).bind fun x7 =>
 some (x7 + (1 : Int32))) : Option Int32)).bind fun x4 =>
 (ald 45 (S.1 15) ((((5 : Int32) * a2) + (5 : Int32)) + x4)).bind fun x6 =>
 some (x2 + x6)
def m_X9_landOn (S : St) (a1 : Int32) (a2 : Int32) : Option Int32 :=
 (ald 16 (S.1 7) a1).bind fun x1 =>
 (ald 45 (S.1 15) (((5 : Int32) * a1) + (5 : Int32))).bind fun x2 =>
 some ((x1 * a2) + x2)
def m_X9_finds_r2 (k : Nat) (x12 : Int32) (x13 : Int32) (S14 : St) : Option (Int32 × St) :=
 (ald 45 (S14.1 15) (((5 : Int32) * (S14.1 k 0)) + (S14.1 k 3))).bind fun x15 =>
 some (x15, S14)
def m_X9_finds_L2 (k : Nat) (a2 : Int32) (k_2 : (Int32 → Int32 → St → Option (Int32 × St))) : Nat → Int32 → Int32 → St → Option (Int32 × St)
  | 0, _, _, _ => none
  | n_2 + 1, x9, x10, S11 =>
      if (S11.1 2 0) ≤ x10 then
      (k_2 x9 x10 S11)
      else
      ((m_X9_landOn S11 x10 a2).bind fun x18 =>
      (m_X9_paidOn S11 k x10 a2 x9).bind fun x20 =>
      ((if x20 ≤ x18 then
      (some (0 : Int32))
      else
      (some (1 : Int32)) : Option Int32)).bind fun x22 =>
      ((if x22 = (0 : Int32) then
      ((m_X9_takenBy S11 k x10 a2 x9).bind fun x40 =>
      some x40)
      else
      ((ald 16 (S11.1 7) x10).bind fun x41 =>
      some (x41 * a2)) : Option Int32)).bind fun x25 =>
      ((if x22 = (0 : Int32) then
      (some (0 : Int32))
      else
      (some (1 : Int32)) : Option Int32)).bind fun x28 =>
      (ast 8 S11 16 x10 x28).bind fun S30 =>
      (ast 8 S30 17 x10 x25).bind fun S31 =>
      ((if ¬ x22 = (0 : Int32) then
      (some (0 : Int32))
      else
      (if ¬ x25 = (0 : Int32) then
      ((ald 16 (S31.1 5) x10).bind fun x36 =>
      some (x36 + (1 : Int32)))
      else
      (some (0 : Int32))) : Option Int32)).bind fun x33 =>
      m_X9_finds_L2 k a2 k_2 n_2 x33 (x10 + (1 : Int32)) S31)
theorem m_X9_finds_L2_z (k : Nat) (a2 : Int32) (k_2 : (Int32 → Int32 → St → Option (Int32 × St))) (x9 : Int32) (x10 : Int32) (S11 : St) : m_X9_finds_L2 k a2 k_2 0 x9 x10 S11 = none := rfl
theorem m_X9_finds_L2_s (k : Nat) (a2 : Int32) (k_2 : (Int32 → Int32 → St → Option (Int32 × St))) (n_2 : Nat) (x9 : Int32) (x10 : Int32) (S11 : St) : m_X9_finds_L2 k a2 k_2 (n_2 + 1) x9 x10 S11 =
 if (S11.1 2 0) ≤ x10 then
 (k_2 x9 x10 S11)
 else
 ((m_X9_landOn S11 x10 a2).bind fun x18 =>
 (m_X9_paidOn S11 k x10 a2 x9).bind fun x20 =>
 ((if x20 ≤ x18 then
 (some (0 : Int32))
 else
 (some (1 : Int32)) : Option Int32)).bind fun x22 =>
 ((if x22 = (0 : Int32) then
 ((m_X9_takenBy S11 k x10 a2 x9).bind fun x40 =>
 some x40)
 else
 ((ald 16 (S11.1 7) x10).bind fun x41 =>
 some (x41 * a2)) : Option Int32)).bind fun x25 =>
 ((if x22 = (0 : Int32) then
 (some (0 : Int32))
 else
 (some (1 : Int32)) : Option Int32)).bind fun x28 =>
 (ast 8 S11 16 x10 x28).bind fun S30 =>
 (ast 8 S30 17 x10 x25).bind fun S31 =>
 ((if ¬ x22 = (0 : Int32) then
 (some (0 : Int32))
 else
 (if ¬ x25 = (0 : Int32) then
 ((ald 16 (S31.1 5) x10).bind fun x36 =>
 some (x36 + (1 : Int32)))
 else
 (some (0 : Int32))) : Option Int32)).bind fun x33 =>
 m_X9_finds_L2 k a2 k_2 n_2 x33 (x10 + (1 : Int32)) S31) := rfl
def m_X9_finds_r1 (fu : Nat) (k : Nat) (a2 : Int32) (x7 : Int32) (S8 : St) : Option (Int32 × St) :=
 m_X9_finds_L2 k a2 (m_X9_finds_r2 k) fu (S8.1 k 3) (S8.1 k 0) S8
def m_X9_finds_r3 (x5 : Int32) (b_1 : (Int32 → St → Option (Int32 × St))) (x47 : Int32) (S48 : St) : Option (Int32 × St) :=
 b_1 (x5 + (-1 : Int32)) S48
def m_X9_finds_L3 (k : Nat) (a2 : Int32) (x5 : Int32) (k_3 : (Int32 → St → Option (Int32 × St))) : Nat → Int32 → St → Option (Int32 × St)
  | 0, _, _ => none
  | n_3 + 1, x45, S46 =>
      if (5 : Int32) ≤ x45 then
      (k_3 x45 S46)
      else
      ((m_X9_paidOn S46 k x5 a2 x45).bind fun x51 =>
      (m_X9_landOn S46 x5 a2).bind fun x53 =>
      ((if x53 ≤ x51 then
      (some x53)
      else
      (some x51) : Option Int32)).bind fun x55 =>
      (ast 45 S46 15 (((5 : Int32) * x5) + x45) x55).bind fun S57 =>
      m_X9_finds_L3 k a2 x5 k_3 n_3 (x45 + (1 : Int32)) S57)
theorem m_X9_finds_L3_z (k : Nat) (a2 : Int32) (x5 : Int32) (k_3 : (Int32 → St → Option (Int32 × St))) (x45 : Int32) (S46 : St) : m_X9_finds_L3 k a2 x5 k_3 0 x45 S46 = none := rfl
theorem m_X9_finds_L3_s (k : Nat) (a2 : Int32) (x5 : Int32) (k_3 : (Int32 → St → Option (Int32 × St))) (n_3 : Nat) (x45 : Int32) (S46 : St) : m_X9_finds_L3 k a2 x5 k_3 (n_3 + 1) x45 S46 =
 if (5 : Int32) ≤ x45 then
 (k_3 x45 S46)
 else
 ((m_X9_paidOn S46 k x5 a2 x45).bind fun x51 =>
 (m_X9_landOn S46 x5 a2).bind fun x53 =>
 ((if x53 ≤ x51 then
 (some x53)
 else
 (some x51) : Option Int32)).bind fun x55 =>
 (ast 45 S46 15 (((5 : Int32) * x5) + x45) x55).bind fun S57 =>
 m_X9_finds_L3 k a2 x5 k_3 n_3 (x45 + (1 : Int32)) S57) := rfl
def m_X9_finds_L1 (fu : Nat) (k : Nat) (a2 : Int32) (k_1 : (Int32 → St → Option (Int32 × St))) : Nat → Int32 → St → Option (Int32 × St)
  | 0, _, _ => none
  | n_1 + 1, x5, S6 =>
      if x5 < (S6.1 k 0) then
      (k_1 x5 S6)
      else
      (m_X9_finds_L3 k a2 x5 (m_X9_finds_r3 x5 (fun z0 z1 => m_X9_finds_L1 fu k a2 k_1 n_1 z0 z1)) fu (0 : Int32) S6)
theorem m_X9_finds_L1_z (fu : Nat) (k : Nat) (a2 : Int32) (k_1 : (Int32 → St → Option (Int32 × St))) (x5 : Int32) (S6 : St) : m_X9_finds_L1 fu k a2 k_1 0 x5 S6 = none := rfl
theorem m_X9_finds_L1_s (fu : Nat) (k : Nat) (a2 : Int32) (k_1 : (Int32 → St → Option (Int32 × St))) (n_1 : Nat) (x5 : Int32) (S6 : St) : m_X9_finds_L1 fu k a2 k_1 (n_1 + 1) x5 S6 =
 if x5 < (S6.1 k 0) then
 (k_1 x5 S6)
 else
 (m_X9_finds_L3 k a2 x5 (m_X9_finds_r3 x5 (fun z0 z1 => m_X9_finds_L1 fu k a2 k_1 n_1 z0 z1)) fu (0 : Int32) S6) := rfl
def m_X9_finds_r0 (fu : Nat) (k : Nat) (a2 : Int32) (x3 : Int32) (S4 : St) : Option (Int32 × St) :=
 m_X9_finds_L1 fu k a2 (m_X9_finds_r1 fu k a2) fu ((S4.1 2 0) - (1 : Int32)) S4
def m_X9_finds_L0 (k_0 : (Int32 → St → Option (Int32 × St))) : Nat → Int32 → St → Option (Int32 × St)
  | 0, _, _ => none
  | n_0 + 1, x1, S2 =>
      if (5 : Int32) ≤ x1 then
      (k_0 x1 S2)
      else
      ((ast 45 S2 15 (((5 : Int32) * (S2.1 2 0)) + x1) (0 : Int32)).bind fun S60 =>
      m_X9_finds_L0 k_0 n_0 (x1 + (1 : Int32)) S60)
theorem m_X9_finds_L0_z (k_0 : (Int32 → St → Option (Int32 × St))) (x1 : Int32) (S2 : St) : m_X9_finds_L0 k_0 0 x1 S2 = none := rfl
theorem m_X9_finds_L0_s (k_0 : (Int32 → St → Option (Int32 × St))) (n_0 : Nat) (x1 : Int32) (S2 : St) : m_X9_finds_L0 k_0 (n_0 + 1) x1 S2 =
 if (5 : Int32) ≤ x1 then
 (k_0 x1 S2)
 else
 ((ast 45 S2 15 (((5 : Int32) * (S2.1 2 0)) + x1) (0 : Int32)).bind fun S60 =>
 m_X9_finds_L0 k_0 n_0 (x1 + (1 : Int32)) S60) := rfl
def m_X9_finds (fu : Nat) (S : St) (k : Nat) (a2 : Int32) : Option (Int32 × St) :=
 m_X9_finds_L0 (m_X9_finds_r0 fu k a2) fu (0 : Int32) S
def m_X9_paidAt (S : St) (a1 : Int32) : Option Int32 :=
 (ald 8 (S.1 16) a1).bind fun x1 =>
 if ¬ x1 = (1 : Int32) then
 ((ald 8 (S.1 17) a1).bind fun x3 =>
 some x3)
 else
 (some (0 : Int32))
def m_X9_byLord_r0 (S7 : St) (x10 : Int32) (x11 : Int32) : Option (Int32 × St) :=
 some (x10, S7)
def m_X9_byLord_L0 (a1 : Int32) (S7 : St) (k_0 : (Int32 → Int32 → Option (Int32 × St))) : Nat → Int32 → Int32 → Option (Int32 × St)
  | 0, _, _ => none
  | n_0 + 1, x8, x9 =>
      if (S7.1 2 0) ≤ x9 then
      (k_0 x8 x9)
      else
      ((ald 16 (S7.1 5) x9).bind fun x13 =>
      ((if ¬ x13 = a1 then
      (some (0 : Int32))
      else
      ((m_X9_paidAt S7 x9).bind fun x18 =>
      some x18) : Option Int32)).bind fun x15 =>
      m_X9_byLord_L0 a1 S7 k_0 n_0 (x8 + x15) (x9 + (1 : Int32)))
theorem m_X9_byLord_L0_z (a1 : Int32) (S7 : St) (k_0 : (Int32 → Int32 → Option (Int32 × St))) (x8 : Int32) (x9 : Int32) : m_X9_byLord_L0 a1 S7 k_0 0 x8 x9 = none := rfl
theorem m_X9_byLord_L0_s (a1 : Int32) (S7 : St) (k_0 : (Int32 → Int32 → Option (Int32 × St))) (n_0 : Nat) (x8 : Int32) (x9 : Int32) : m_X9_byLord_L0 a1 S7 k_0 (n_0 + 1) x8 x9 =
 if (S7.1 2 0) ≤ x9 then
 (k_0 x8 x9)
 else
 ((ald 16 (S7.1 5) x9).bind fun x13 =>
 ((if ¬ x13 = a1 then
 (some (0 : Int32))
 else
 ((m_X9_paidAt S7 x9).bind fun x18 =>
 some x18) : Option Int32)).bind fun x15 =>
 m_X9_byLord_L0 a1 S7 k_0 n_0 (x8 + x15) (x9 + (1 : Int32))) := rfl
def m_X9_byLord (fu : Nat) (S : St) (a1 : Int32) : Option (Int32 × St) :=
 lt (st_i S 0 0 (0 : Int32)) fun S1 =>
 (m_X9_in a1 (0 : Int32) (3 : Int32)).bind fun x3 =>
 if ¬ x3 = (0 : Int32) then
 (ob2 (m_X9_finds fu S1 8 (S1.1 8 1)) fun x6 S7 =>
 m_X9_byLord_L0 a1 S7 (m_X9_byLord_r0 S7) fu (0 : Int32) (S7.1 8 0))
 else
 (some ((-1 : Int32), S1))
def m_X9_gcd_r0 (x3 : Int32) (x4 : Int32) : Option Int32 :=
 some x3
def m_X9_gcd_L0 (k_0 : (Int32 → Int32 → Option Int32)) : Nat → Int32 → Int32 → Option Int32
  | 0, _, _ => none
  | n_0 + 1, x1, x2 =>
      if x2 = (0 : Int32) then
      (k_0 x1 x2)
      else
      (nz x2 (m_X9_gcd_L0 k_0 n_0 x2 (x1 - x1 / x2 * x2)))
theorem m_X9_gcd_L0_z (k_0 : (Int32 → Int32 → Option Int32)) (x1 : Int32) (x2 : Int32) : m_X9_gcd_L0 k_0 0 x1 x2 = none := rfl
theorem m_X9_gcd_L0_s (k_0 : (Int32 → Int32 → Option Int32)) (n_0 : Nat) (x1 : Int32) (x2 : Int32) : m_X9_gcd_L0 k_0 (n_0 + 1) x1 x2 =
 if x2 = (0 : Int32) then
 (k_0 x1 x2)
 else
 (nz x2 (m_X9_gcd_L0 k_0 n_0 x2 (x1 - x1 / x2 * x2))) := rfl
def m_X9_gcd (fu : Nat) (a0 : Int32) (a1 : Int32) : Option Int32 :=
 m_X9_gcd_L0 m_X9_gcd_r0 fu a0 a1
def m_X9_cheap_r0 (fu : Nat) (a1 : Int32) (a2 : Int32) (S1 : St) (x10 : Int32) (x11 : Int32) : Option (Int32 × St) :=
 (m_X9_tollOf S1 8 a1 x10).bind fun x13 =>
 (m_X9_gcd fu x13 x10).bind fun x15 =>
 if ¬ a2 = (0 : Int32) then
 (if ¬ a2 = (1 : Int32) then
 (nz x15 (some (x10 / x15, S1)))
 else
 ((m_X9_tollOf S1 8 a1 x10).bind fun x19 =>
 nz x15 (some (x19 / x15, S1))))
 else
 (some (x10, S1))
def m_X9_cheap_L0 (a1 : Int32) (S1 : St) (k_0 : (Int32 → Int32 → Option (Int32 × St))) : Nat → Int32 → Int32 → Option (Int32 × St)
  | 0, _, _ => none
  | n_0 + 1, x8, x9 =>
      if (30 : Int32) < x9 then
      (k_0 x8 x9)
      else
      ((m_X9_tollOf S1 8 a1 x9).bind fun x22 =>
      (m_X9_tollOf S1 8 a1 x8).bind fun x24 =>
      ((if (x24 * x9) ≤ (x22 * x8) then
      (some x8)
      else
      (some x9) : Option Int32)).bind fun x26 =>
      m_X9_cheap_L0 a1 S1 k_0 n_0 x26 (x9 + (1 : Int32)))
theorem m_X9_cheap_L0_z (a1 : Int32) (S1 : St) (k_0 : (Int32 → Int32 → Option (Int32 × St))) (x8 : Int32) (x9 : Int32) : m_X9_cheap_L0 a1 S1 k_0 0 x8 x9 = none := rfl
theorem m_X9_cheap_L0_s (a1 : Int32) (S1 : St) (k_0 : (Int32 → Int32 → Option (Int32 × St))) (n_0 : Nat) (x8 : Int32) (x9 : Int32) : m_X9_cheap_L0 a1 S1 k_0 (n_0 + 1) x8 x9 =
 if (30 : Int32) < x9 then
 (k_0 x8 x9)
 else
 ((m_X9_tollOf S1 8 a1 x9).bind fun x22 =>
 (m_X9_tollOf S1 8 a1 x8).bind fun x24 =>
 ((if (x24 * x9) ≤ (x22 * x8) then
 (some x8)
 else
 (some x9) : Option Int32)).bind fun x26 =>
 m_X9_cheap_L0 a1 S1 k_0 n_0 x26 (x9 + (1 : Int32))) := rfl
def m_X9_cheap (fu : Nat) (S : St) (a1 : Int32) (a2 : Int32) : Option (Int32 × St) :=
 lt (st_i S 0 0 (0 : Int32)) fun S1 =>
 (m_X9_isRock S1 a1).bind fun x3 =>
 if x3 = (0 : Int32) then
 (some ((-1 : Int32), S1))
 else
 ((m_X9_in a2 (0 : Int32) (2 : Int32)).bind fun x6 =>
 if ¬ x6 = (0 : Int32) then
 (m_X9_cheap_L0 a1 S1 (m_X9_cheap_r0 fu a1 a2 S1) fu (1 : Int32) (2 : Int32))
 else
 (some ((-1 : Int32), S1)))
def m_X9_clear (S : St) : Option (Int32 × St) :=
 lt (st_i S 0 0 (0 : Int32)) fun S1 =>
 lt (st_i S1 0 3 (0 : Int32)) fun S2 =>
 some (S1.1 0 3, S2)
def m_X9_count (S : St) (a1 : Int32) : Option (Int32 × St) :=
 lt (st_i S 0 0 (0 : Int32)) fun S1 =>
 if ¬ a1 = (0 : Int32) then
 (if ¬ a1 = (1 : Int32) then
 (if ¬ a1 = (2 : Int32) then
 (some ((-1 : Int32), S1))
 else
 (some (S1.1 0 3, S1)))
 else
 (some (S1.1 0 24, S1)))
 else
 (some (S1.1 2 0, S1))
def m_X9_enough (fu : Nat) (S : St) : Option (Int32 × St) :=
 lt (st_i S 0 0 (0 : Int32)) fun S1 =>
 ob2 (m_X9_finds fu S1 8 (S1.1 8 1)) fun x3 S4 =>
 if (S4.1 8 2) < x3 then
 (some ((0 : Int32), S4))
 else
 (some ((1 : Int32), S4))
def m_X9_forget (S : St) : Option (Int32 × St) :=
 lt (st_i S 0 0 (0 : Int32)) fun S1 =>
 lt (st_i S1 0 24 (0 : Int32)) fun S2 =>
 some (S1.1 0 24, S2)
def m_X9_got (S : St) (a1 : Int32) : Option (Int32 × St) :=
 lt (st_i S 0 0 (0 : Int32)) fun S1 =>
 (m_X9_in a1 (0 : Int32) (3 : Int32)).bind fun x3 =>
 if x3 = (0 : Int32) then
 (some ((-1 : Int32), S1))
 else
 ((ald 18 (S1.1 8) ((14 : Int32) + a1)).bind fun x5 =>
 some (x5, S1))
def m_X9_isAsLeft_r0 (x3 : Int32) (x4 : Int32) : Option Int32 :=
 zb x3 (some x3)
def m_X9_isAsLeft_r1 (S : St) (x1 : Int32) (x2 : Int32) (b_0 : (Int32 → Int32 → Option Int32)) (x6 : Int32) (x9 : Int32) (x10 : Int32) : Option Int32 :=
 ((if x1 = (0 : Int32) then
 (some (0 : Int32))
 else
 (if (S.1 2 0) < ((S.1 8 0) + x6) then
 (some (0 : Int32))
 else
 ((ald 6 (S.1 14) x2).bind fun x15 =>
 if ¬ x9 = x15 then
 (some (0 : Int32))
 else
 (some (1 : Int32)))) : Option Int32)).bind fun x12 =>
 b_0 x12 (x2 + (1 : Int32))
def m_X9_isAsLeft_L1 (a1 : Int32) (S : St) (x6 : Int32) (k_1 : (Int32 → Int32 → Option Int32)) : Nat → Int32 → Int32 → Option Int32
  | 0, _, _ => none
  | n_1 + 1, x7, x8 =>
      if ((S.1 8 0) + x6) ≤ x8 then
      (k_1 x7 x8)
      else
      (if (S.1 2 0) ≤ x8 then
      (k_1 x7 x8)
      else
      ((ald 8 (S.1 17) x8).bind fun x20 =>
      ((if ¬ x8 = a1 then
      (some (0 : Int32))
      else
      (some (1 : Int32)) : Option Int32)).bind fun x22 =>
      m_X9_isAsLeft_L1 a1 S x6 k_1 n_1 (x7 - (x20 + x22)) (x8 + (1 : Int32))))
theorem m_X9_isAsLeft_L1_z (a1 : Int32) (S : St) (x6 : Int32) (k_1 : (Int32 → Int32 → Option Int32)) (x7 : Int32) (x8 : Int32) : m_X9_isAsLeft_L1 a1 S x6 k_1 0 x7 x8 = none := rfl
theorem m_X9_isAsLeft_L1_s (a1 : Int32) (S : St) (x6 : Int32) (k_1 : (Int32 → Int32 → Option Int32)) (n_1 : Nat) (x7 : Int32) (x8 : Int32) : m_X9_isAsLeft_L1 a1 S x6 k_1 (n_1 + 1) x7 x8 =
 if ((S.1 8 0) + x6) ≤ x8 then
 (k_1 x7 x8)
 else
 (if (S.1 2 0) ≤ x8 then
 (k_1 x7 x8)
 else
 ((ald 8 (S.1 17) x8).bind fun x20 =>
 ((if ¬ x8 = a1 then
 (some (0 : Int32))
 else
 (some (1 : Int32)) : Option Int32)).bind fun x22 =>
 m_X9_isAsLeft_L1 a1 S x6 k_1 n_1 (x7 - (x20 + x22)) (x8 + (1 : Int32)))) := rfl
def m_X9_isAsLeft_L0 (fu : Nat) (a1 : Int32) (S : St) (k_0 : (Int32 → Int32 → Option Int32)) : Nat → Int32 → Int32 → Option Int32
  | 0, _, _ => none
  | n_0 + 1, x1, x2 =>
      if (S.1 0 24) ≤ x2 then
      (k_0 x1 x2)
      else
      ((ald 6 (S.1 13) x2).bind fun x6 =>
      m_X9_isAsLeft_L1 a1 S x6 (m_X9_isAsLeft_r1 S x1 x2 (fun z0 z1 => m_X9_isAsLeft_L0 fu a1 S k_0 n_0 z0 z1) x6) fu (S.1 8 2) (S.1 8 0))
theorem m_X9_isAsLeft_L0_z (fu : Nat) (a1 : Int32) (S : St) (k_0 : (Int32 → Int32 → Option Int32)) (x1 : Int32) (x2 : Int32) : m_X9_isAsLeft_L0 fu a1 S k_0 0 x1 x2 = none := rfl
theorem m_X9_isAsLeft_L0_s (fu : Nat) (a1 : Int32) (S : St) (k_0 : (Int32 → Int32 → Option Int32)) (n_0 : Nat) (x1 : Int32) (x2 : Int32) : m_X9_isAsLeft_L0 fu a1 S k_0 (n_0 + 1) x1 x2 =
 if (S.1 0 24) ≤ x2 then
 (k_0 x1 x2)
 else
 ((ald 6 (S.1 13) x2).bind fun x6 =>
 m_X9_isAsLeft_L1 a1 S x6 (m_X9_isAsLeft_r1 S x1 x2 (fun z0 z1 => m_X9_isAsLeft_L0 fu a1 S k_0 n_0 z0 z1) x6) fu (S.1 8 2) (S.1 8 0)) := rfl
def m_X9_isAsLeft (fu : Nat) (S : St) (a1 : Int32) : Option Int32 :=
 m_X9_isAsLeft_L0 fu a1 S m_X9_isAsLeft_r0 fu (1 : Int32) (0 : Int32)
def m_X9_isSea (S : St) : Option Int32 :=
 if ¬ (S.1 8 0) = (S.1 2 0) then
 (some (0 : Int32))
 else
 (some (1 : Int32))
def m_X9_isWell (S : St) : Option Int32 :=
 if (0 : Int32) ≤ (S.1 0 8) then
 (some (0 : Int32))
 else
 (some (1 : Int32))
def m_X9_keep_r0 (a1 : Int32) (x7 : Int32) (S8 : St) : Option (Int32 × St) :=
 (ast 2 S8 11 a1 (1 : Int32)).bind fun S9 =>
 some (S9.1 8 0, S9)
def m_X9_keep_L0 (a1 : Int32) (k_0 : (Int32 → St → Option (Int32 × St))) : Nat → Int32 → St → Option (Int32 × St)
  | 0, _, _ => none
  | n_0 + 1, x5, S6 =>
      if (18 : Int32) ≤ x5 then
      (k_0 x5 S6)
      else
      ((ald 18 (S6.1 8) x5).bind fun x11 =>
      (ast 36 S6 10 (((18 : Int32) * a1) + x5) x11).bind fun S12 =>
      m_X9_keep_L0 a1 k_0 n_0 (x5 + (1 : Int32)) S12)
theorem m_X9_keep_L0_z (a1 : Int32) (k_0 : (Int32 → St → Option (Int32 × St))) (x5 : Int32) (S6 : St) : m_X9_keep_L0 a1 k_0 0 x5 S6 = none := rfl
theorem m_X9_keep_L0_s (a1 : Int32) (k_0 : (Int32 → St → Option (Int32 × St))) (n_0 : Nat) (x5 : Int32) (S6 : St) : m_X9_keep_L0 a1 k_0 (n_0 + 1) x5 S6 =
 if (18 : Int32) ≤ x5 then
 (k_0 x5 S6)
 else
 ((ald 18 (S6.1 8) x5).bind fun x11 =>
 (ast 36 S6 10 (((18 : Int32) * a1) + x5) x11).bind fun S12 =>
 m_X9_keep_L0 a1 k_0 n_0 (x5 + (1 : Int32)) S12) := rfl
def m_X9_keep (fu : Nat) (S : St) (a1 : Int32) : Option (Int32 × St) :=
 lt (st_i S 0 0 (0 : Int32)) fun S1 =>
 (m_X9_in a1 (0 : Int32) (1 : Int32)).bind fun x3 =>
 if ¬ x3 = (0 : Int32) then
 (m_X9_keep_L0 a1 (m_X9_keep_r0 a1) fu (0 : Int32) S1)
 else
 (some ((-1 : Int32), S1))
def m_X9_lands (fu : Nat) (S : St) : Option (Int32 × St) :=
 lt (st_i S 0 0 (0 : Int32)) fun S1 =>
 (m_X9_isSea S1).bind fun x3 =>
 if ¬ x3 = (0 : Int32) then
 (some ((-2 : Int32), S1))
 else
 ((ald 16 (S1.1 7) (S1.1 8 0)).bind fun x5 =>
 if (x5 * (S1.1 8 1)) ≤ (S1.1 8 2) then
 ((m_X9_notes fu S1).bind fun S8 =>
 (ald 16 (S8.1 7) (S8.1 8 0)).bind fun x9 =>
 lt (st_i S8 8 2 ((S8.1 8 2) - (x9 * (S8.1 8 1)))) fun S10 =>
 lt (st_i S10 8 3 (0 : Int32)) fun S11 =>
 lt (st_i S11 8 0 ((S11.1 8 0) + (1 : Int32))) fun S12 =>
 some (x9 * (S8.1 8 1), S12))
 else
 (some ((-2 : Int32), S1)))
def m_X9_left (S : St) (a1 : Int32) (a2 : Int32) : Option (Int32 × St) :=
 lt (st_i S 0 0 (0 : Int32)) fun S1 =>
 (m_X9_in a1 (0 : Int32) (8 : Int32)).bind fun x3 =>
 if x3 = (0 : Int32) then
 (some ((-1 : Int32), S1))
 else
 ((m_X9_in a2 (0 : Int32) (900 : Int32)).bind fun x6 =>
 if ¬ x6 = (0 : Int32) then
 (if ¬ (S1.1 0 24) = (6 : Int32) then
 ((ast 6 S1 13 (S1.1 0 24) a1).bind fun S9 =>
 (ast 6 S9 14 (S9.1 0 24) a2).bind fun S10 =>
 lt (st_i S10 0 24 ((S10.1 0 24) + (1 : Int32))) fun S11 =>
 some (S11.1 0 24, S11))
 else
 (some ((-3 : Int32), S1)))
 else
 (some ((-1 : Int32), S1)))
def m_X9_most_r0 (a2 : Int32) (x16 : Int32) (x17 : Int32) (x18 : Int32) (S19 : St) : Option (Int32 × St) :=
 if ¬ a2 = (0 : Int32) then
 (some (x17, S19))
 else
 (some (x16, S19))
def m_X9_most_L0 (fu : Nat) (a1 : Int32) (k_0 : (Int32 → Int32 → Int32 → St → Option (Int32 × St))) : Nat → Int32 → Int32 → Int32 → St → Option (Int32 × St)
  | 0, _, _, _, _ => none
  | n_0 + 1, x12, x13, x14, S15 =>
      if (10 : Int32) ≤ x14 then
      (k_0 x12 x13 x14 S15)
      else
      ((ast 18 S15 9 ((6 : Int32) + a1) x14).bind fun S22 =>
      ob2 (m_X9_finds fu S22 9 (S22.1 8 1)) fun x24 S25 =>
      (m_X9_paidAt S25 a1).bind fun x27 =>
      ((if x27 ≤ x13 then
      (some x12)
      else
      (some x14) : Option Int32)).bind fun x29 =>
      (m_X9_paidAt S25 a1).bind fun x32 =>
      ((if x32 ≤ x13 then
      (some x13)
      else
      ((m_X9_paidAt S25 a1).bind fun x37 =>
      some x37) : Option Int32)).bind fun x34 =>
      m_X9_most_L0 fu a1 k_0 n_0 x29 x34 (x14 + (1 : Int32)) S25)
theorem m_X9_most_L0_z (fu : Nat) (a1 : Int32) (k_0 : (Int32 → Int32 → Int32 → St → Option (Int32 × St))) (x12 : Int32) (x13 : Int32) (x14 : Int32) (S15 : St) : m_X9_most_L0 fu a1 k_0 0 x12 x13 x14 S15 = none := rfl
theorem m_X9_most_L0_s (fu : Nat) (a1 : Int32) (k_0 : (Int32 → Int32 → Int32 → St → Option (Int32 × St))) (n_0 : Nat) (x12 : Int32) (x13 : Int32) (x14 : Int32) (S15 : St) : m_X9_most_L0 fu a1 k_0 (n_0 + 1) x12 x13 x14 S15 =
 if (10 : Int32) ≤ x14 then
 (k_0 x12 x13 x14 S15)
 else
 ((ast 18 S15 9 ((6 : Int32) + a1) x14).bind fun S22 =>
 ob2 (m_X9_finds fu S22 9 (S22.1 8 1)) fun x24 S25 =>
 (m_X9_paidAt S25 a1).bind fun x27 =>
 ((if x27 ≤ x13 then
 (some x12)
 else
 (some x14) : Option Int32)).bind fun x29 =>
 (m_X9_paidAt S25 a1).bind fun x32 =>
 ((if x32 ≤ x13 then
 (some x13)
 else
 ((m_X9_paidAt S25 a1).bind fun x37 =>
 some x37) : Option Int32)).bind fun x34 =>
 m_X9_most_L0 fu a1 k_0 n_0 x29 x34 (x14 + (1 : Int32)) S25) := rfl
def m_X9_most (fu : Nat) (S : St) (a1 : Int32) (a2 : Int32) : Option (Int32 × St) :=
 lt (st_i S 0 0 (0 : Int32)) fun S1 =>
 (m_X9_isRock S1 a1).bind fun x3 =>
 if x3 = (0 : Int32) then
 (some ((-1 : Int32), S1))
 else
 ((m_X9_in a2 (0 : Int32) (1 : Int32)).bind fun x6 =>
 if ¬ x6 = (0 : Int32) then
 (if a1 < (S1.1 8 0) then
 (some ((-9 : Int32), S1))
 else
 (if ¬ (((S1.1 8 5) >>> (a1 &&& 31)) &&& (1 : Int32)) = (1 : Int32) then
 ((m_X9_asNow fu S1).bind fun S11 =>
 m_X9_most_L0 fu a1 (m_X9_most_r0 a2) fu (0 : Int32) (-1 : Int32) (0 : Int32) S11)
 else
 (some ((-9 : Int32), S1))))
 else
 (some ((-1 : Int32), S1)))
def m_X9_nights (fu : Nat) (S : St) (a1 : Int32) : Option (Int32 × St) :=
 lt (st_i S 0 0 (0 : Int32)) fun S1 =>
 (m_X9_in a1 (0 : Int32) (9999 : Int32)).bind fun x3 =>
 if ¬ x3 = (0 : Int32) then
 ((m_X9_isSea S1).bind fun x6 =>
 if x6 = (0 : Int32) then
 ((m_X9_notes fu S1).bind fun S9 =>
 lt ((((7919 : Int64) * a1.toInt64) + ((6151 : Int64) * ((S9.1 8 0).toInt64))) + (1 : Int64)) fun x10 =>
 lt ((((x10 * x10) - (x10 * x10) / (65521 : Int64) * (65521 : Int64)) / (8 : Int64)).toInt32) fun x11 =>
 (ald 16 (S9.1 6) (S9.1 8 0)).bind fun x12 =>
 ((if x12 ≤ (x11 - x11 / (10 : Int32) * (10 : Int32)) then
 (some (0 : Int32))
 else
 (some (((S9.1 8 1) + (1 : Int32)) / (2 : Int32))) : Option Int32)).bind fun x14 =>
 lt (st_i S9 8 1 ((S9.1 8 1) - x14)) fun S16 =>
 lt (st_i S16 8 4 ((S16.1 8 4) + x14)) fun S17 =>
 lt (st_i S17 8 3 (0 : Int32)) fun S18 =>
 lt (st_i S18 8 0 ((S18.1 8 0) + (1 : Int32))) fun S19 =>
 some (x14, S19))
 else
 (some ((-2 : Int32), S1)))
 else
 (some ((-1 : Int32), S1))
def m_X9_now (S : St) (a1 : Int32) : Option (Int32 × St) :=
 lt (st_i S 0 0 (0 : Int32)) fun S1 =>
 (m_X9_in a1 (0 : Int32) (6 : Int32)).bind fun x3 =>
 if ¬ x3 = (0 : Int32) then
 (if (3 : Int32) ≤ a1 then
 (if ¬ a1 = (3 : Int32) then
 (if ¬ a1 = (4 : Int32) then
 (if ¬ a1 = (6 : Int32) then
 ((m_X9_isSea S1).bind fun x10 =>
 if x10 = (0 : Int32) then
 ((m_X9_takenBy S1 8 (S1.1 8 0) (S1.1 8 1) (S1.1 8 3)).bind fun x13 =>
 some (x13, S1))
 else
 (some ((-9 : Int32), S1)))
 else
 (some (S1.1 0 21, S1)))
 else
 (some (S1.1 8 4, S1)))
 else
 (if ¬ (S1.1 8 3) = (0 : Int32) then
 (some ((S1.1 8 3) - (1 : Int32), S1))
 else
 (some ((-9 : Int32), S1))))
 else
 ((ald 18 (S1.1 8) a1).bind fun x15 =>
 some (x15, S1)))
 else
 (some ((-1 : Int32), S1))
def m_X9_takesToken (fu : Nat) (S : St) (a1 : Int32) : Option (Int32 × St) :=
 (m_X9_isWell S).bind fun x2 =>
 if ¬ x2 = (0 : Int32) then
 (if ¬ a1 = (0 : Int32) then
 ((m_X9_advances fu S).bind fun S6 =>
 some (S.1 0 7, S6))
 else
 (lt (st_i S 0 8 (S.1 0 6)) fun S7 =>
 some ((0 : Int32), S7)))
 else
 (some ((0 : Int32), S))
def m_X9_number (fu : Nat) (S : St) (a1 : Int32) (a2 : Int32) : Option (Int32 × St) :=
 ((if ¬ (S.1 0 5) = (2 : Int32) then
 (some (0 : Int32))
 else
 ((m_X9_in (S.1 0 7) a1 a2).bind fun x8 =>
 if x8 = (0 : Int32) then
 (some (0 : Int32))
 else
 (some (1 : Int32))) : Option Int32)).bind fun x2 =>
 ob2 (m_X9_takesToken fu S x2) fun x5 S6 =>
 some (x5, S6)
def m_X9_odds_r0 (fu : Nat) (a2 : Int32) (S1 : St) (x11 : Int32) (x12 : Int32) (x13 : Int32) : Option (Int32 × St) :=
 (m_X9_gcd fu x11 x12).bind fun x15 =>
 if ¬ a2 = (0 : Int32) then
 (nz x15 (some (x12 / x15, S1)))
 else
 (nz x15 (some (x11 / x15, S1)))
def m_X9_odds_L0 (a1 : Int32) (S1 : St) (k_0 : (Int32 → Int32 → Int32 → Option (Int32 × St))) : Nat → Int32 → Int32 → Int32 → Option (Int32 × St)
  | 0, _, _, _ => none
  | n_0 + 1, x8, x9, x10 =>
      if (S1.1 2 0) ≤ x10 then
      (k_0 x8 x9 x10)
      else
      (((if ¬ ((a1 >>> (x10 &&& 31)) &&& (1 : Int32)) = (1 : Int32) then
      (some (1 : Int32))
      else
      ((ald 16 (S1.1 6) x10).bind fun x25 =>
      some ((10 : Int32) - x25)) : Option Int32)).bind fun x19 =>
      ((if ¬ ((a1 >>> (x10 &&& 31)) &&& (1 : Int32)) = (1 : Int32) then
      (some (1 : Int32))
      else
      (some (10 : Int32)) : Option Int32)).bind fun x22 =>
      m_X9_odds_L0 a1 S1 k_0 n_0 (x8 * x19) (x9 * x22) (x10 + (1 : Int32)))
theorem m_X9_odds_L0_z (a1 : Int32) (S1 : St) (k_0 : (Int32 → Int32 → Int32 → Option (Int32 × St))) (x8 : Int32) (x9 : Int32) (x10 : Int32) : m_X9_odds_L0 a1 S1 k_0 0 x8 x9 x10 = none := rfl
theorem m_X9_odds_L0_s (a1 : Int32) (S1 : St) (k_0 : (Int32 → Int32 → Int32 → Option (Int32 × St))) (n_0 : Nat) (x8 : Int32) (x9 : Int32) (x10 : Int32) : m_X9_odds_L0 a1 S1 k_0 (n_0 + 1) x8 x9 x10 =
 if (S1.1 2 0) ≤ x10 then
 (k_0 x8 x9 x10)
 else
 (((if ¬ ((a1 >>> (x10 &&& 31)) &&& (1 : Int32)) = (1 : Int32) then
 (some (1 : Int32))
 else
 ((ald 16 (S1.1 6) x10).bind fun x25 =>
 some ((10 : Int32) - x25)) : Option Int32)).bind fun x19 =>
 ((if ¬ ((a1 >>> (x10 &&& 31)) &&& (1 : Int32)) = (1 : Int32) then
 (some (1 : Int32))
 else
 (some (10 : Int32)) : Option Int32)).bind fun x22 =>
 m_X9_odds_L0 a1 S1 k_0 n_0 (x8 * x19) (x9 * x22) (x10 + (1 : Int32))) := rfl
def m_X9_odds (fu : Nat) (S : St) (a1 : Int32) (a2 : Int32) : Option (Int32 × St) :=
 lt (st_i S 0 0 (0 : Int32)) fun S1 =>
 (m_X9_in a1 (0 : Int32) (((1 : Int32) <<< ((S1.1 2 0) &&& 31)) - (1 : Int32))).bind fun x3 =>
 if x3 = (0 : Int32) then
 (some ((-1 : Int32), S1))
 else
 ((m_X9_in a2 (0 : Int32) (1 : Int32)).bind fun x6 =>
 if ¬ x6 = (0 : Int32) then
 (m_X9_odds_L0 a1 S1 (m_X9_odds_r0 fu a2 S1) fu (1 : Int32) (1 : Int32) (S1.1 8 0))
 else
 (some ((-1 : Int32), S1)))
def m_X9_one (fu : Nat) (S : St) : Option (Int32 × St) :=
 lt (st_i S 0 0 (0 : Int32)) fun S1 =>
 if ¬ (S1.1 8 1) = (0 : Int32) then
 (ob2 (m_X9_finds fu S1 8 (S1.1 8 1)) fun x4 S5 =>
 nz (S5.1 8 1) (some (((x4 + (S5.1 8 1)) - (1 : Int32)) / (S5.1 8 1), S5)))
 else
 (some ((-9 : Int32), S1))
def m_X9_pays (fu : Nat) (S : St) : Option (Int32 × St) :=
 lt (st_i S 0 0 (0 : Int32)) fun S1 =>
 (m_X9_isSea S1).bind fun x3 =>
 if x3 = (0 : Int32) then
 ((m_X9_takenBy S1 8 (S1.1 8 0) (S1.1 8 1) (S1.1 8 3)).bind fun x6 =>
 if x6 ≤ (S1.1 8 2) then
 ((m_X9_notes fu S1).bind fun S9 =>
 lt (st_i S9 8 2 ((S9.1 8 2) - x6)) fun S10 =>
 (ald 16 (S10.1 5) (S1.1 8 0)).bind fun x11 =>
 (ald 18 (S10.1 8) ((14 : Int32) + x11)).bind fun x12 =>
 (ast 18 S10 8 ((14 : Int32) + x11) (x12 + x6)).bind fun S13 =>
 ((if x6 ≤ (0 : Int32) then
 (some (0 : Int32))
 else
 ((ald 16 (S13.1 5) (S1.1 8 0)).bind fun x19 =>
 some (x19 + (1 : Int32))) : Option Int32)).bind fun x15 =>
 lt (st_i S13 8 3 x15) fun S17 =>
 lt (st_i S17 8 0 ((S17.1 8 0) + (1 : Int32))) fun S18 =>
 some (x6, S18))
 else
 (some ((-2 : Int32), S1)))
 else
 (some ((-2 : Int32), S1))
def m_X9_rate (S : St) (a1 : Int32) (a2 : Int32) : Option (Int32 × St) :=
 lt (st_i S 0 0 (0 : Int32)) fun S1 =>
 (m_X9_in a1 (0 : Int32) (5 : Int32)).bind fun x3 =>
 if x3 = (0 : Int32) then
 (some ((-1000000 : Int32), S1))
 else
 ((m_X9_isRock S1 a2).bind fun x6 =>
 if ¬ x6 = (0 : Int32) then
 ((ald 18 (S1.1 8) ((6 : Int32) + a2)).bind fun x8 =>
 ((if ¬ a1 = (0 : Int32) then
 (if ¬ a1 = (1 : Int32) then
 (if ¬ a1 = (2 : Int32) then
 (if ¬ a1 = (3 : Int32) then
 (if ¬ a1 = (4 : Int32) then
 (some (100001 : Int64))
 else
 (some (10101 : Int64)))
 else
 (some (1011 : Int64)))
 else
 (some (101 : Int64)))
 else
 (some (11 : Int64)))
 else
 (some (1 : Int64)) : Option Int64)).bind fun x10 =>
 lt (st_l S1 0 1 ((S1.2 0 1) + x10)) fun S12 =>
 if ¬ a1 = (0 : Int32) then
 (if ¬ a1 = (1 : Int32) then
 (if ¬ a1 = (2 : Int32) then
 (if ¬ a1 = (3 : Int32) then
 (if ¬ a1 = (4 : Int32) then
 (some (x8 + (S12.1 8 1), S12))
 else
 ((ald 16 (S12.1 7) a2).bind fun x18 =>
 some ((x8 - x18) + a2, S12)))
 else
 ((ald 16 (S12.1 6) a2).bind fun x19 =>
 some ((2 : Int32) * (x8 + x19), S12)))
 else
 ((ald 16 (S12.1 7) a2).bind fun x20 =>
 some (x8 - x20, S12)))
 else
 ((ald 16 (S12.1 6) a2).bind fun x21 =>
 some (x8 + x21, S12)))
 else
 (some (x8, S12)))
 else
 (some ((-1000000 : Int32), S1)))
def m_X9_readsItem (fu : Nat) (S : St) (a1 : Int32) : Option St :=
 if ¬ a1 = (114 : Int32) then
 (if ¬ a1 = (98 : Int32) then
 (ob2 (m_X9_number fu S (0 : Int32) (900 : Int32)) fun x4 S5 =>
 lt (st_i S5 2 3 x4) fun S6 =>
 lt (st_i S6 0 15 ((S6.1 0 15) ||| (2 : Int32))) fun S7 =>
 some S7)
 else
 (ob2 (m_X9_number fu S (1 : Int32) (30 : Int32)) fun x9 S10 =>
 lt (st_i S10 2 2 x9) fun S11 =>
 lt (st_i S11 0 15 ((S11.1 0 15) ||| (1 : Int32))) fun S12 =>
 some S12))
 else
 (ob2 (m_X9_number fu S (0 : Int32) (9 : Int32)) fun x14 S15 =>
 (ast 8 S15 3 (S.1 2 1) x14).bind fun S16 =>
 ob2 (m_X9_number fu S16 (1 : Int32) (5 : Int32)) fun x18 S19 =>
 (ast 16 S19 4 ((8 : Int32) + (S.1 2 1)) x18).bind fun S20 =>
 ob2 (m_X9_number fu S20 (0 : Int32) (3 : Int32)) fun x22 S23 =>
 (ast 16 S23 5 ((8 : Int32) + (S.1 2 1)) x22).bind fun S24 =>
 ob2 (m_X9_number fu S24 (0 : Int32) (10 : Int32)) fun x26 S27 =>
 (ast 16 S27 6 ((8 : Int32) + (S.1 2 1)) x26).bind fun S28 =>
 ob2 (m_X9_number fu S28 (0 : Int32) (30 : Int32)) fun x30 S31 =>
 (ast 16 S31 7 ((8 : Int32) + (S.1 2 1)) x30).bind fun S32 =>
 lt (st_i S32 2 1 ((S32.1 2 1) + (1 : Int32))) fun S33 =>
 some S33)
def m_X9_settles_r1 (x8 : Int32) (S9 : St) : Option St :=
 lt (st_i S9 8 1 (S9.1 2 2)) fun S10 =>
 lt (st_i S10 8 2 (S10.1 2 3)) fun S11 =>
 lt (st_i S11 0 3 (0 : Int32)) fun S12 =>
 lt (st_i S12 0 24 (0 : Int32)) fun S13 =>
 lt (st_i S13 0 21 (0 : Int32)) fun S14 =>
 lt (st_i S14 11 0 (0 : Int32)) fun S15 =>
 lt (st_i S15 11 1 (0 : Int32)) fun S16 =>
 some S16
def m_X9_settles_L1 (k_1 : (Int32 → St → Option St)) : Nat → Int32 → St → Option St
  | 0, _, _ => none
  | n_1 + 1, x6, S7 =>
      if (S7.1 2 0) ≤ x6 then
      (k_1 x6 S7)
      else
      ((ald 16 (S7.1 4) ((8 : Int32) + x6)).bind fun x18 =>
      (ast 16 S7 4 x6 x18).bind fun S19 =>
      (ald 16 (S19.1 5) ((8 : Int32) + x6)).bind fun x20 =>
      (ast 16 S19 5 x6 x20).bind fun S21 =>
      (ald 16 (S21.1 6) ((8 : Int32) + x6)).bind fun x22 =>
      (ast 16 S21 6 x6 x22).bind fun S23 =>
      (ald 16 (S23.1 7) ((8 : Int32) + x6)).bind fun x24 =>
      (ast 16 S23 7 x6 x24).bind fun S25 =>
      (ald 8 (S25.1 3) x6).bind fun x26 =>
      (ast 18 S25 8 ((6 : Int32) + x6) x26).bind fun S27 =>
      m_X9_settles_L1 k_1 n_1 (x6 + (1 : Int32)) S27)
theorem m_X9_settles_L1_z (k_1 : (Int32 → St → Option St)) (x6 : Int32) (S7 : St) : m_X9_settles_L1 k_1 0 x6 S7 = none := rfl
theorem m_X9_settles_L1_s (k_1 : (Int32 → St → Option St)) (n_1 : Nat) (x6 : Int32) (S7 : St) : m_X9_settles_L1 k_1 (n_1 + 1) x6 S7 =
 if (S7.1 2 0) ≤ x6 then
 (k_1 x6 S7)
 else
 ((ald 16 (S7.1 4) ((8 : Int32) + x6)).bind fun x18 =>
 (ast 16 S7 4 x6 x18).bind fun S19 =>
 (ald 16 (S19.1 5) ((8 : Int32) + x6)).bind fun x20 =>
 (ast 16 S19 5 x6 x20).bind fun S21 =>
 (ald 16 (S21.1 6) ((8 : Int32) + x6)).bind fun x22 =>
 (ast 16 S21 6 x6 x22).bind fun S23 =>
 (ald 16 (S23.1 7) ((8 : Int32) + x6)).bind fun x24 =>
 (ast 16 S23 7 x6 x24).bind fun S25 =>
 (ald 8 (S25.1 3) x6).bind fun x26 =>
 (ast 18 S25 8 ((6 : Int32) + x6) x26).bind fun S27 =>
 m_X9_settles_L1 k_1 n_1 (x6 + (1 : Int32)) S27) := rfl
def m_X9_settles_r0 (fu : Nat) (x4 : Int32) (S5 : St) : Option St :=
 m_X9_settles_L1 m_X9_settles_r1 fu (0 : Int32) S5
def m_X9_settles_L0 (k_0 : (Int32 → St → Option St)) : Nat → Int32 → St → Option St
  | 0, _, _ => none
  | n_0 + 1, x2, S3 =>
      if (18 : Int32) ≤ x2 then
      (k_0 x2 S3)
      else
      ((ast 18 S3 8 x2 (0 : Int32)).bind fun S29 =>
      m_X9_settles_L0 k_0 n_0 (x2 + (1 : Int32)) S29)
theorem m_X9_settles_L0_z (k_0 : (Int32 → St → Option St)) (x2 : Int32) (S3 : St) : m_X9_settles_L0 k_0 0 x2 S3 = none := rfl
theorem m_X9_settles_L0_s (k_0 : (Int32 → St → Option St)) (n_0 : Nat) (x2 : Int32) (S3 : St) : m_X9_settles_L0 k_0 (n_0 + 1) x2 S3 =
 if (18 : Int32) ≤ x2 then
 (k_0 x2 S3)
 else
 ((ast 18 S3 8 x2 (0 : Int32)).bind fun S29 =>
 m_X9_settles_L0 k_0 n_0 (x2 + (1 : Int32)) S29) := rfl
def m_X9_settles (fu : Nat) (S : St) : Option St :=
 lt (st_i S 2 0 (S.1 2 1)) fun S1 =>
 m_X9_settles_L0 (m_X9_settles_r0 fu) fu (0 : Int32) S1
def m_X9_river_r0 (fu : Nat) (x12 : Int32) (S13 : St) : Option (Int32 × St) :=
 (m_X9_isWell S13).bind fun x15 =>
 if ¬ x15 = (0 : Int32) then
 ((m_X9_settles fu S13).bind fun S18 =>
 some (x12, S18))
 else
 (some ((-10 : Int32) - (S13.1 0 8), S13))
def m_X9_river_L0 (fu : Nat) (k_0 : (Int32 → St → Option (Int32 × St))) : Nat → Int32 → St → Option (Int32 × St)
  | 0, _, _ => none
  | n_0 + 1, x10, S11 =>
      (m_X9_isWell S11).bind fun x20 =>
      if x20 = (0 : Int32) then
      (k_0 x10 S11)
      else
      (if (S11.1 0 5) = (0 : Int32) then
      (k_0 x10 S11)
      else
      (((if ¬ (S11.1 0 5) = (1 : Int32) then
      (some (0 : Int32))
      else
      (if ¬ (S11.1 0 7) = (114 : Int32) then
      (if ¬ (S11.1 0 7) = (98 : Int32) then
      (if ¬ ((S11.1 0 15) &&& (2 : Int32)) = (0 : Int32) then
      (some (0 : Int32))
      else
      (some (1 : Int32)))
      else
      (if ¬ ((S11.1 0 15) &&& (1 : Int32)) = (0 : Int32) then
      (some (0 : Int32))
      else
      (some (1 : Int32))))
      else
      (if (8 : Int32) ≤ (S11.1 2 1) then
      (some (0 : Int32))
      else
      (some (1 : Int32)))) : Option Int32)).bind fun x24 =>
      ob2 (m_X9_takesToken fu S11 x24) fun x27 S28 =>
      (m_X9_isWell S28).bind fun x30 =>
      ((if x30 = (0 : Int32) then
      (some S28)
      else
      ((m_X9_readsItem fu S28 x27).bind fun S42 =>
      some S42) : Option St)).bind fun S32 =>
      ((if ¬ (S32.1 0 5) = (3 : Int32) then
      (some (0 : Int32))
      else
      (some (1 : Int32)) : Option Int32)).bind fun x35 =>
      ob2 (m_X9_takesToken fu S32 x35) fun x38 S39 =>
      m_X9_river_L0 fu k_0 n_0 (x10 + (1 : Int32)) S39))
theorem m_X9_river_L0_z (fu : Nat) (k_0 : (Int32 → St → Option (Int32 × St))) (x10 : Int32) (S11 : St) : m_X9_river_L0 fu k_0 0 x10 S11 = none := rfl
theorem m_X9_river_L0_s (fu : Nat) (k_0 : (Int32 → St → Option (Int32 × St))) (n_0 : Nat) (x10 : Int32) (S11 : St) : m_X9_river_L0 fu k_0 (n_0 + 1) x10 S11 =
 (m_X9_isWell S11).bind fun x20 =>
 if x20 = (0 : Int32) then
 (k_0 x10 S11)
 else
 (if (S11.1 0 5) = (0 : Int32) then
 (k_0 x10 S11)
 else
 (((if ¬ (S11.1 0 5) = (1 : Int32) then
 (some (0 : Int32))
 else
 (if ¬ (S11.1 0 7) = (114 : Int32) then
 (if ¬ (S11.1 0 7) = (98 : Int32) then
 (if ¬ ((S11.1 0 15) &&& (2 : Int32)) = (0 : Int32) then
 (some (0 : Int32))
 else
 (some (1 : Int32)))
 else
 (if ¬ ((S11.1 0 15) &&& (1 : Int32)) = (0 : Int32) then
 (some (0 : Int32))
 else
 (some (1 : Int32))))
 else
 (if (8 : Int32) ≤ (S11.1 2 1) then
 (some (0 : Int32))
 else
 (some (1 : Int32)))) : Option Int32)).bind fun x24 =>
 ob2 (m_X9_takesToken fu S11 x24) fun x27 S28 =>
 (m_X9_isWell S28).bind fun x30 =>
 ((if x30 = (0 : Int32) then
 (some S28)
 else
 ((m_X9_readsItem fu S28 x27).bind fun S42 =>
 some S42) : Option St)).bind fun S32 =>
 ((if ¬ (S32.1 0 5) = (3 : Int32) then
 (some (0 : Int32))
 else
 (some (1 : Int32)) : Option Int32)).bind fun x35 =>
 ob2 (m_X9_takesToken fu S32 x35) fun x38 S39 =>
 m_X9_river_L0 fu k_0 n_0 (x10 + (1 : Int32)) S39)) := rfl
def m_X9_river (fu : Nat) (S : St) : Option (Int32 × St) :=
 lt (st_i S 0 0 (0 : Int32)) fun S1 =>
 lt (st_i S1 0 8 (-1 : Int32)) fun S2 =>
 lt (st_i S2 0 4 (0 : Int32)) fun S3 =>
 lt (st_i S3 0 15 (0 : Int32)) fun S4 =>
 lt (st_i S4 2 1 (0 : Int32)) fun S5 =>
 lt (st_i S5 2 2 (10 : Int32)) fun S6 =>
 lt (st_i S6 2 3 (100 : Int32)) fun S7 =>
 (m_X9_advances fu S7).bind fun S9 =>
 m_X9_river_L0 fu (m_X9_river_r0 fu) fu (0 : Int32) S9
def m_X9_rock (S : St) (a1 : Int32) (a2 : Int32) : Option (Int32 × St) :=
 lt (st_i S 0 0 (0 : Int32)) fun S1 =>
 (m_X9_isRock S1 a1).bind fun x3 =>
 if x3 = (0 : Int32) then
 (some ((-1 : Int32), S1))
 else
 ((m_X9_in a2 (0 : Int32) (5 : Int32)).bind fun x6 =>
 if ¬ x6 = (0 : Int32) then
 (if (3 : Int32) ≤ a2 then
 (if ¬ a2 = (3 : Int32) then
 (if ¬ a2 = (4 : Int32) then
 (some (((S1.1 8 5) >>> (a1 &&& 31)) &&& (1 : Int32), S1))
 else
 ((ald 16 (S1.1 7) a1).bind fun x11 =>
 some (x11, S1)))
 else
 ((ald 16 (S1.1 6) a1).bind fun x12 =>
 some (x12, S1)))
 else
 (if ¬ a2 = (0 : Int32) then
 (if ¬ a2 = (1 : Int32) then
 ((ald 16 (S1.1 5) a1).bind fun x15 =>
 some (x15, S1))
 else
 ((ald 16 (S1.1 4) a1).bind fun x16 =>
 some (x16, S1)))
 else
 ((ald 18 (S1.1 8) ((6 : Int32) + a1)).bind fun x17 =>
 some (x17, S1))))
 else
 (some ((-1 : Int32), S1)))
def m_X9_sells (fu : Nat) (S : St) (a1 : Int32) (a2 : Int32) : Option (Int32 × St) :=
 lt (st_i S 0 0 (0 : Int32)) fun S1 =>
 (m_X9_in a1 (1 : Int32) (30 : Int32)).bind fun x3 =>
 if x3 = (0 : Int32) then
 (some ((-1 : Int32), S1))
 else
 ((m_X9_in a2 (0 : Int32) (30 : Int32)).bind fun x6 =>
 if ¬ x6 = (0 : Int32) then
 (if (S1.1 8 1) < a1 then
 (some ((-2 : Int32), S1))
 else
 (if ((S1.1 8 2) + (a1 * a2)) ≤ (999999 : Int32) then
 ((m_X9_notes fu S1).bind fun S11 =>
 lt (st_i S11 8 1 ((S11.1 8 1) - a1)) fun S12 =>
 lt (st_i S12 8 2 ((S12.1 8 2) + (a1 * a2))) fun S13 =>
 some (S13.1 8 2, S13))
 else
 (some ((-2 : Int32), S1))))
 else
 (some ((-1 : Int32), S1)))
def m_X9_sets (fu : Nat) (S : St) (a1 : Int32) (a2 : Int32) : Option (Int32 × St) :=
 lt (st_i S 0 0 (0 : Int32)) fun S1 =>
 (m_X9_isRock S1 a1).bind fun x3 =>
 if x3 = (0 : Int32) then
 (some ((-1 : Int32), S1))
 else
 ((m_X9_in a2 (0 : Int32) (9 : Int32)).bind fun x6 =>
 if ¬ x6 = (0 : Int32) then
 ((m_X9_notes fu S1).bind fun S9 =>
 (ald 18 (S9.1 8) ((6 : Int32) + a1)).bind fun x10 =>
 (ast 18 S9 8 ((6 : Int32) + a1) a2).bind fun S11 =>
 some (x10, S11))
 else
 (some ((-1 : Int32), S1)))
def m_X9_still_r0 (x5 : Int32) (x6 : Int32) (S7 : St) : Option (Int32 × St) :=
 some (x5, S7)
def m_X9_still_L0 (fu : Nat) (k_0 : (Int32 → Int32 → St → Option (Int32 × St))) : Nat → Int32 → Int32 → St → Option (Int32 × St)
  | 0, _, _, _ => none
  | n_0 + 1, x2, x3, S4 =>
      if (S4.1 2 0) ≤ x3 then
      (k_0 x2 x3 S4)
      else
      ((m_X9_asNow fu S4).bind fun S10 =>
      ob2 (m_X9_finds fu S10 9 (S10.1 8 1)) fun x12 S13 =>
      (m_X9_paidAt S13 x3).bind fun x15 =>
      ((if x15 ≤ (0 : Int32) then
      (some (0 : Int32))
      else
      (some (1 : Int32)) : Option Int32)).bind fun x17 =>
      (ald 18 (S13.1 9) ((6 : Int32) + x3)).bind fun x19 =>
      (ast 18 S13 9 ((6 : Int32) + x3) (x19 + (1 : Int32))).bind fun S20 =>
      ob2 (m_X9_finds fu S20 9 (S20.1 8 1)) fun x22 S23 =>
      ((if x17 = (0 : Int32) then
      (some (0 : Int32))
      else
      ((m_X9_paidAt S23 x3).bind fun x28 =>
      if x28 ≤ (0 : Int32) then
      (some (0 : Int32))
      else
      (some ((1 : Int32) <<< (x3 &&& 31)))) : Option Int32)).bind fun x25 =>
      m_X9_still_L0 fu k_0 n_0 (x2 ||| x25) (x3 + (1 : Int32)) S23)
theorem m_X9_still_L0_z (fu : Nat) (k_0 : (Int32 → Int32 → St → Option (Int32 × St))) (x2 : Int32) (x3 : Int32) (S4 : St) : m_X9_still_L0 fu k_0 0 x2 x3 S4 = none := rfl
theorem m_X9_still_L0_s (fu : Nat) (k_0 : (Int32 → Int32 → St → Option (Int32 × St))) (n_0 : Nat) (x2 : Int32) (x3 : Int32) (S4 : St) : m_X9_still_L0 fu k_0 (n_0 + 1) x2 x3 S4 =
 if (S4.1 2 0) ≤ x3 then
 (k_0 x2 x3 S4)
 else
 ((m_X9_asNow fu S4).bind fun S10 =>
 ob2 (m_X9_finds fu S10 9 (S10.1 8 1)) fun x12 S13 =>
 (m_X9_paidAt S13 x3).bind fun x15 =>
 ((if x15 ≤ (0 : Int32) then
 (some (0 : Int32))
 else
 (some (1 : Int32)) : Option Int32)).bind fun x17 =>
 (ald 18 (S13.1 9) ((6 : Int32) + x3)).bind fun x19 =>
 (ast 18 S13 9 ((6 : Int32) + x3) (x19 + (1 : Int32))).bind fun S20 =>
 ob2 (m_X9_finds fu S20 9 (S20.1 8 1)) fun x22 S23 =>
 ((if x17 = (0 : Int32) then
 (some (0 : Int32))
 else
 ((m_X9_paidAt S23 x3).bind fun x28 =>
 if x28 ≤ (0 : Int32) then
 (some (0 : Int32))
 else
 (some ((1 : Int32) <<< (x3 &&& 31)))) : Option Int32)).bind fun x25 =>
 m_X9_still_L0 fu k_0 n_0 (x2 ||| x25) (x3 + (1 : Int32)) S23) := rfl
def m_X9_still (fu : Nat) (S : St) : Option (Int32 × St) :=
 lt (st_i S 0 0 (0 : Int32)) fun S1 =>
 m_X9_still_L0 fu m_X9_still_r0 fu (0 : Int32) (S1.1 8 0) S1
def m_X9_takes (S : St) (a1 : Int32) (a2 : Int32) : Option (Int32 × St) :=
 lt (st_i S 0 0 (0 : Int32)) fun S1 =>
 (m_X9_isRock S1 a1).bind fun x3 =>
 if x3 = (0 : Int32) then
 (some ((-1 : Int32), S1))
 else
 ((m_X9_in a2 (0 : Int32) (30 : Int32)).bind fun x6 =>
 if x6 = (0 : Int32) then
 (some ((-1 : Int32), S1))
 else
 ((m_X9_tollOf S1 8 a1 a2).bind fun x9 =>
 some (x9, S1)))
def m_X9_toBreak_r0 (x10 : Int32) (x11 : Int32) (S12 : St) : Option (Int32 × St) :=
 some (x10, S12)
def m_X9_toBreak_L0 (fu : Nat) (a1 : Int32) (k_0 : (Int32 → Int32 → St → Option (Int32 × St))) : Nat → Int32 → Int32 → St → Option (Int32 × St)
  | 0, _, _, _ => none
  | n_0 + 1, x7, x8, S9 =>
      if (256 : Int32) ≤ x8 then
      (k_0 x7 x8 S9)
      else
      ((m_X9_ahead S9).bind fun x15 =>
      ob2 (if ¬ (x8 &&& (x15 ^^^ (-1 : Int32))) = (0 : Int32) then
      (some (x7, S9))
      else
      (if x7 = (-9 : Int32) then
      (lt (st_i S9 9 5 ((S9.1 8 5) ||| x8)) fun S21 =>
      ob2 (m_X9_finds fu S21 9 (S21.1 8 1)) fun x23 S24 =>
      ((if a1 < x23 then
      (some x7)
      else
      (some x8) : Option Int32)).bind fun x26 =>
      some (x26, S24))
      else
      ((m_X9_ones fu x8).bind fun x30 =>
      (m_X9_ones fu x7).bind fun x32 =>
      if x32 ≤ x30 then
      (some (x7, S9))
      else
      (lt (st_i S9 9 5 ((S9.1 8 5) ||| x8)) fun S34 =>
      ob2 (m_X9_finds fu S34 9 (S34.1 8 1)) fun x36 S37 =>
      ((if a1 < x36 then
      (some x7)
      else
      (some x8) : Option Int32)).bind fun x39 =>
      some (x39, S37)))) : Option (Int32 × St)) fun x17 S18 =>
      m_X9_toBreak_L0 fu a1 k_0 n_0 x17 (x8 + (1 : Int32)) S18)
theorem m_X9_toBreak_L0_z (fu : Nat) (a1 : Int32) (k_0 : (Int32 → Int32 → St → Option (Int32 × St))) (x7 : Int32) (x8 : Int32) (S9 : St) : m_X9_toBreak_L0 fu a1 k_0 0 x7 x8 S9 = none := rfl
theorem m_X9_toBreak_L0_s (fu : Nat) (a1 : Int32) (k_0 : (Int32 → Int32 → St → Option (Int32 × St))) (n_0 : Nat) (x7 : Int32) (x8 : Int32) (S9 : St) : m_X9_toBreak_L0 fu a1 k_0 (n_0 + 1) x7 x8 S9 =
 if (256 : Int32) ≤ x8 then
 (k_0 x7 x8 S9)
 else
 ((m_X9_ahead S9).bind fun x15 =>
 ob2 (if ¬ (x8 &&& (x15 ^^^ (-1 : Int32))) = (0 : Int32) then
 (some (x7, S9))
 else
 (if x7 = (-9 : Int32) then
 (lt (st_i S9 9 5 ((S9.1 8 5) ||| x8)) fun S21 =>
 ob2 (m_X9_finds fu S21 9 (S21.1 8 1)) fun x23 S24 =>
 ((if a1 < x23 then
 (some x7)
 else
 (some x8) : Option Int32)).bind fun x26 =>
 some (x26, S24))
 else
 ((m_X9_ones fu x8).bind fun x30 =>
 (m_X9_ones fu x7).bind fun x32 =>
 if x32 ≤ x30 then
 (some (x7, S9))
 else
 (lt (st_i S9 9 5 ((S9.1 8 5) ||| x8)) fun S34 =>
 ob2 (m_X9_finds fu S34 9 (S34.1 8 1)) fun x36 S37 =>
 ((if a1 < x36 then
 (some x7)
 else
 (some x8) : Option Int32)).bind fun x39 =>
 some (x39, S37)))) : Option (Int32 × St)) fun x17 S18 =>
 m_X9_toBreak_L0 fu a1 k_0 n_0 x17 (x8 + (1 : Int32)) S18) := rfl
def m_X9_toBreak (fu : Nat) (S : St) (a1 : Int32) : Option (Int32 × St) :=
 lt (st_i S 0 0 (0 : Int32)) fun S1 =>
 (m_X9_in a1 (0 : Int32) (9999 : Int32)).bind fun x3 =>
 if ¬ x3 = (0 : Int32) then
 ((m_X9_asNow fu S1).bind fun S6 =>
 m_X9_toBreak_L0 fu a1 m_X9_toBreak_r0 fu (-9 : Int32) (0 : Int32) S6)
 else
 (some ((-1 : Int32), S1))
def m_X9_took_r0 (S4 : St) (x12 : Int32) (x13 : Int32) : Option (Int32 × St) :=
 some (x12, S4)
def m_X9_took_L0 (fu : Nat) (S4 : St) (k_0 : (Int32 → Int32 → Option (Int32 × St))) : Nat → Int32 → Int32 → Option (Int32 × St)
  | 0, _, _ => none
  | n_0 + 1, x10, x11 =>
      if (S4.1 2 0) ≤ x11 then
      (k_0 x10 x11)
      else
      ((m_X9_isAsLeft fu S4 x11).bind fun x16 =>
      ((if x16 = (0 : Int32) then
      (some (0 : Int32))
      else
      (some ((1 : Int32) <<< (x11 &&& 31))) : Option Int32)).bind fun x18 =>
      m_X9_took_L0 fu S4 k_0 n_0 (x10 ||| x18) (x11 + (1 : Int32)))
theorem m_X9_took_L0_z (fu : Nat) (S4 : St) (k_0 : (Int32 → Int32 → Option (Int32 × St))) (x10 : Int32) (x11 : Int32) : m_X9_took_L0 fu S4 k_0 0 x10 x11 = none := rfl
theorem m_X9_took_L0_s (fu : Nat) (S4 : St) (k_0 : (Int32 → Int32 → Option (Int32 × St))) (n_0 : Nat) (x10 : Int32) (x11 : Int32) : m_X9_took_L0 fu S4 k_0 (n_0 + 1) x10 x11 =
 if (S4.1 2 0) ≤ x11 then
 (k_0 x10 x11)
 else
 ((m_X9_isAsLeft fu S4 x11).bind fun x16 =>
 ((if x16 = (0 : Int32) then
 (some (0 : Int32))
 else
 (some ((1 : Int32) <<< (x11 &&& 31))) : Option Int32)).bind fun x18 =>
 m_X9_took_L0 fu S4 k_0 n_0 (x10 ||| x18) (x11 + (1 : Int32))) := rfl
def m_X9_took (fu : Nat) (S : St) : Option (Int32 × St) :=
 lt (st_i S 0 0 (0 : Int32)) fun S1 =>
 ob2 (m_X9_finds fu S1 8 (S1.1 8 1)) fun x3 S4 =>
 (m_X9_isAsLeft fu S4 (-9 : Int32)).bind fun x6 =>
 ((if x6 = (0 : Int32) then
 (some (0 : Int32))
 else
 (some (256 : Int32)) : Option Int32)).bind fun x8 =>
 m_X9_took_L0 fu S4 (m_X9_took_r0 S4) fu x8 (S4.1 8 0)
def m_X9_trace (S : St) : Option (Int64 × St) :=
 lt (st_i S 0 0 (0 : Int32)) fun S1 =>
 some (S1.2 0 1, S1)
def m_X9_two_r0 (a1 : Int32) (x9 : Int32) (x10 : Int32) (x11 : Int32) (S12 : St) : Option (Int32 × St) :=
 if ¬ a1 = (0 : Int32) then
 (some (x10, S12))
 else
 (some (x9, S12))
def m_X9_two_L0 (fu : Nat) (k_0 : (Int32 → Int32 → Int32 → St → Option (Int32 × St))) : Nat → Int32 → Int32 → Int32 → St → Option (Int32 × St)
  | 0, _, _, _, _ => none
  | n_0 + 1, x5, x6, x7, S8 =>
      if ((S8.1 8 1) / (2 : Int32)) < x7 then
      (k_0 x5 x6 x7 S8)
      else
      (ob2 (m_X9_finds fu S8 8 x7) fun x16 S17 =>
      ob2 (m_X9_finds fu S17 8 ((S17.1 8 1) - x7)) fun x19 S20 =>
      ob2 (if x5 = (-9 : Int32) then
      (some (x7, x16 + x19))
      else
      (if x6 ≤ (x16 + x19) then
      (some (x5, x6))
      else
      (some (x7, x16 + x19))) : Option (Int32 × Int32)) fun x22 x23 =>
      m_X9_two_L0 fu k_0 n_0 x22 x23 (x7 + (1 : Int32)) S20)
theorem m_X9_two_L0_z (fu : Nat) (k_0 : (Int32 → Int32 → Int32 → St → Option (Int32 × St))) (x5 : Int32) (x6 : Int32) (x7 : Int32) (S8 : St) : m_X9_two_L0 fu k_0 0 x5 x6 x7 S8 = none := rfl
theorem m_X9_two_L0_s (fu : Nat) (k_0 : (Int32 → Int32 → Int32 → St → Option (Int32 × St))) (n_0 : Nat) (x5 : Int32) (x6 : Int32) (x7 : Int32) (S8 : St) : m_X9_two_L0 fu k_0 (n_0 + 1) x5 x6 x7 S8 =
 if ((S8.1 8 1) / (2 : Int32)) < x7 then
 (k_0 x5 x6 x7 S8)
 else
 (ob2 (m_X9_finds fu S8 8 x7) fun x16 S17 =>
 ob2 (m_X9_finds fu S17 8 ((S17.1 8 1) - x7)) fun x19 S20 =>
 ob2 (if x5 = (-9 : Int32) then
 (some (x7, x16 + x19))
 else
 (if x6 ≤ (x16 + x19) then
 (some (x5, x6))
 else
 (some (x7, x16 + x19))) : Option (Int32 × Int32)) fun x22 x23 =>
 m_X9_two_L0 fu k_0 n_0 x22 x23 (x7 + (1 : Int32)) S20) := rfl
def m_X9_two (fu : Nat) (S : St) (a1 : Int32) : Option (Int32 × St) :=
 lt (st_i S 0 0 (0 : Int32)) fun S1 =>
 (m_X9_in a1 (0 : Int32) (1 : Int32)).bind fun x3 =>
 if ¬ x3 = (0 : Int32) then
 (m_X9_two_L0 fu (m_X9_two_r0 a1) fu (-9 : Int32) (-9 : Int32) (1 : Int32) S1)
 else
 (some ((-1 : Int32), S1))
def m_X9_type (S : St) (a1 : Int32) : Option (Int32 × St) :=
 lt (st_i S 0 0 (0 : Int32)) fun S1 =>
 (m_X9_in a1 (0 : Int32) (255 : Int32)).bind fun x3 =>
 if ¬ x3 = (0 : Int32) then
 (if ¬ (S1.1 0 3) = (200 : Int32) then
 ((ast 200 S1 1 (S1.1 0 3) a1).bind fun S6 =>
 lt (st_i S6 0 3 ((S6.1 0 3) + (1 : Int32))) fun S7 =>
 some (S7.1 0 3, S7))
 else
 (some ((-3 : Int32), S1)))
 else
 (some ((-1 : Int32), S1))
def m_X9_undo_r0 (x6 : Int32) (S7 : St) : Option (Int32 × St) :=
 some (S7.1 0 21, S7)
def m_X9_undo_L0 (k_0 : (Int32 → St → Option (Int32 × St))) : Nat → Int32 → St → Option (Int32 × St)
  | 0, _, _ => none
  | n_0 + 1, x4, S5 =>
      if (18 : Int32) ≤ x4 then
      (k_0 x4 S5)
      else
      ((ald 180 (S5.1 12) (((18 : Int32) * (S5.1 0 21)) + x4)).bind fun x9 =>
      (ast 18 S5 8 x4 x9).bind fun S10 =>
      m_X9_undo_L0 k_0 n_0 (x4 + (1 : Int32)) S10)
theorem m_X9_undo_L0_z (k_0 : (Int32 → St → Option (Int32 × St))) (x4 : Int32) (S5 : St) : m_X9_undo_L0 k_0 0 x4 S5 = none := rfl
theorem m_X9_undo_L0_s (k_0 : (Int32 → St → Option (Int32 × St))) (n_0 : Nat) (x4 : Int32) (S5 : St) : m_X9_undo_L0 k_0 (n_0 + 1) x4 S5 =
 if (18 : Int32) ≤ x4 then
 (k_0 x4 S5)
 else
 ((ald 180 (S5.1 12) (((18 : Int32) * (S5.1 0 21)) + x4)).bind fun x9 =>
 (ast 18 S5 8 x4 x9).bind fun S10 =>
 m_X9_undo_L0 k_0 n_0 (x4 + (1 : Int32)) S10) := rfl
def m_X9_undo (fu : Nat) (S : St) : Option (Int32 × St) :=
 lt (st_i S 0 0 (0 : Int32)) fun S1 =>
 if ¬ (S1.1 0 21) = (0 : Int32) then
 (lt (st_i S1 0 21 ((S1.1 0 21) - (1 : Int32))) fun S3 =>
 m_X9_undo_L0 m_X9_undo_r0 fu (0 : Int32) S3)
 else
 (some ((-2 : Int32), S1))
def m_X9_way (fu : Nat) (S : St) (a1 : Int32) : Option (Int32 × St) :=
 lt (st_i S 0 0 (0 : Int32)) fun S1 =>
 if a1 = (-1 : Int32) then
 (ob2 (m_X9_finds fu S1 8 (S1.1 8 1)) fun x4 S5 =>
 if ¬ a1 = (-1 : Int32) then
 (if (S5.1 8 0) ≤ a1 then
 ((ald 8 (S5.1 16) a1).bind fun x8 =>
 some (x8, S5))
 else
 (some ((-9 : Int32), S5)))
 else
 (some (x4, S5)))
 else
 ((m_X9_isRock S1 a1).bind fun x10 =>
 if ¬ x10 = (0 : Int32) then
 (ob2 (m_X9_finds fu S1 8 (S1.1 8 1)) fun x13 S14 =>
 if ¬ a1 = (-1 : Int32) then
 (if (S14.1 8 0) ≤ a1 then
 ((ald 8 (S14.1 16) a1).bind fun x17 =>
 some (x17, S14))
 else
 (some ((-9 : Int32), S14)))
 else
 (some (x13, S14)))
 else
 (some ((-1 : Int32), S1)))
