def KX : List Kd := [.inl (6, [.inr (some 1), .inr (some 3), .inr (some 4), .inr (some 6), .inr (some 8), .inr (some 11), .inr (some 43), .inr (some 50), .inr (some 51), .inr (some 60), .inr (some 61), .inl false, .inl true]), .inl (5, [.inl false, .inr (some 2)]), .inr (200, .inl false), .inl (2, [.inr (some 1), .inl false, .inl false, .inl false, .inl false, .inl false, .inl false]), .inl (3, [.inl false, .inl false, .inl false, .inl false, .inr (some 5)]), .inr (40, .inl false), .inl (3, [.inl false, .inl false, .inl false, .inl false, .inr (some 7)]), .inr (40, .inl false), .inl (0, [.inl false, .inl false, .inl false, .inl false, .inl false, .inl false, .inr (some 9), .inr (some 10)]), .inr (8, .inl false), .inr (4, .inl false), .inl (1, [.inl false, .inl false, .inr (some 12)]), .inr (10, .inr (fun j => if j < 10 then some (13 + 3 * j) else none)), .inl (0, [.inl false, .inl false, .inl false, .inl false, .inl false, .inl false, .inr (some 14), .inr (some 15)]), .inr (8, .inl false), .inr (4, .inl false), .inl (0, [.inl false, .inl false, .inl false, .inl false, .inl false, .inl false, .inr (some 17), .inr (some 18)]), .inr (8, .inl false), .inr (4, .inl false), .inl (0, [.inl false, .inl false, .inl false, .inl false, .inl false, .inl false, .inr (some 20), .inr (some 21)]), .inr (8, .inl false), .inr (4, .inl false), .inl (0, [.inl false, .inl false, .inl false, .inl false, .inl false, .inl false, .inr (some 23), .inr (some 24)]), .inr (8, .inl false), .inr (4, .inl false), .inl (0, [.inl false, .inl false, .inl false, .inl false, .inl false, .inl false, .inr (some 26), .inr (some 27)]), .inr (8, .inl false), .inr (4, .inl false), .inl (0, [.inl false, .inl false, .inl false, .inl false, .inl false, .inl false, .inr (some 29), .inr (some 30)]), .inr (8, .inl false), .inr (4, .inl false), .inl (0, [.inl false, .inl false, .inl false, .inl false, .inl false, .inl false, .inr (some 32), .inr (some 33)]), .inr (8, .inl false), .inr (4, .inl false), .inl (0, [.inl false, .inl false, .inl false, .inl false, .inl false, .inl false, .inr (some 35), .inr (some 36)]), .inr (8, .inl false), .inr (4, .inl false), .inl (0, [.inl false, .inl false, .inl false, .inl false, .inl false, .inl false, .inr (some 38), .inr (some 39)]), .inr (8, .inl false), .inr (4, .inl false), .inl (0, [.inl false, .inl false, .inl false, .inl false, .inl false, .inl false, .inr (some 41), .inr (some 42)]), .inr (8, .inl false), .inr (4, .inl false), .inr (2, .inr (fun j => if j < 2 then some (44 + 3 * j) else none)), .inl (0, [.inl false, .inl false, .inl false, .inl false, .inl false, .inl false, .inr (some 45), .inr (some 46)]), .inr (8, .inl false), .inr (4, .inl false), .inl (0, [.inl false, .inl false, .inl false, .inl false, .inl false, .inl false, .inr (some 48), .inr (some 49)]), .inr (8, .inl false), .inr (4, .inl false), .inr (2, .inl false), .inl (4, [.inl false, .inl false, .inl false, .inr (some 52), .inr (some 53), .inr (some 54), .inr (some 6), .inl false, .inl false, .inr (some 55), .inr (some 56), .inr (some 57), .inr (some 58), .inr (some 59)]), .inr (8, .inl false), .inr (8, .inl false), .inr (8, .inl false), .inr (8, .inl false), .inr (8, .inl false), .inr (8, .inl false), .inr (8, .inl false), .inr (18, .inl false), .inr (6, .inl false), .inr (6, .inl false)]
theorem kx_0 : KX[0]? = some (.inl (6, [.inr (some 1), .inr (some 3), .inr (some 4), .inr (some 6), .inr (some 8), .inr (some 11), .inr (some 43), .inr (some 50), .inr (some 51), .inr (some 60), .inr (some 61), .inl false, .inl true])) := rfl
theorem kx_1 : KX[1]? = some (.inl (5, [.inl false, .inr (some 2)])) := rfl
theorem kx_2 : KX[2]? = some (.inr (200, .inl false)) := rfl
theorem kx_3 : KX[3]? = some (.inl (2, [.inr (some 1), .inl false, .inl false, .inl false, .inl false, .inl false, .inl false])) := rfl
theorem kx_4 : KX[4]? = some (.inl (3, [.inl false, .inl false, .inl false, .inl false, .inr (some 5)])) := rfl
theorem kx_5 : KX[5]? = some (.inr (40, .inl false)) := rfl
theorem kx_6 : KX[6]? = some (.inl (3, [.inl false, .inl false, .inl false, .inl false, .inr (some 7)])) := rfl
theorem kx_7 : KX[7]? = some (.inr (40, .inl false)) := rfl
theorem kx_8 : KX[8]? = some (.inl (0, [.inl false, .inl false, .inl false, .inl false, .inl false, .inl false, .inr (some 9), .inr (some 10)])) := rfl
theorem kx_9 : KX[9]? = some (.inr (8, .inl false)) := rfl
theorem kx_10 : KX[10]? = some (.inr (4, .inl false)) := rfl
theorem kx_11 : KX[11]? = some (.inl (1, [.inl false, .inl false, .inr (some 12)])) := rfl
theorem kx_12 : KX[12]? = some (.inr (10, .inr (fun j => if j < 10 then some (13 + 3 * j) else none))) := rfl
theorem kx_13 : KX[13]? = some (.inl (0, [.inl false, .inl false, .inl false, .inl false, .inl false, .inl false, .inr (some 14), .inr (some 15)])) := rfl
theorem kx_14 : KX[14]? = some (.inr (8, .inl false)) := rfl
theorem kx_15 : KX[15]? = some (.inr (4, .inl false)) := rfl
theorem kx_16 : KX[16]? = some (.inl (0, [.inl false, .inl false, .inl false, .inl false, .inl false, .inl false, .inr (some 17), .inr (some 18)])) := rfl
theorem kx_17 : KX[17]? = some (.inr (8, .inl false)) := rfl
theorem kx_18 : KX[18]? = some (.inr (4, .inl false)) := rfl
theorem kx_19 : KX[19]? = some (.inl (0, [.inl false, .inl false, .inl false, .inl false, .inl false, .inl false, .inr (some 20), .inr (some 21)])) := rfl
theorem kx_20 : KX[20]? = some (.inr (8, .inl false)) := rfl
theorem kx_21 : KX[21]? = some (.inr (4, .inl false)) := rfl
theorem kx_22 : KX[22]? = some (.inl (0, [.inl false, .inl false, .inl false, .inl false, .inl false, .inl false, .inr (some 23), .inr (some 24)])) := rfl
theorem kx_23 : KX[23]? = some (.inr (8, .inl false)) := rfl
theorem kx_24 : KX[24]? = some (.inr (4, .inl false)) := rfl
theorem kx_25 : KX[25]? = some (.inl (0, [.inl false, .inl false, .inl false, .inl false, .inl false, .inl false, .inr (some 26), .inr (some 27)])) := rfl
theorem kx_26 : KX[26]? = some (.inr (8, .inl false)) := rfl
theorem kx_27 : KX[27]? = some (.inr (4, .inl false)) := rfl
theorem kx_28 : KX[28]? = some (.inl (0, [.inl false, .inl false, .inl false, .inl false, .inl false, .inl false, .inr (some 29), .inr (some 30)])) := rfl
theorem kx_29 : KX[29]? = some (.inr (8, .inl false)) := rfl
theorem kx_30 : KX[30]? = some (.inr (4, .inl false)) := rfl
theorem kx_31 : KX[31]? = some (.inl (0, [.inl false, .inl false, .inl false, .inl false, .inl false, .inl false, .inr (some 32), .inr (some 33)])) := rfl
theorem kx_32 : KX[32]? = some (.inr (8, .inl false)) := rfl
theorem kx_33 : KX[33]? = some (.inr (4, .inl false)) := rfl
theorem kx_34 : KX[34]? = some (.inl (0, [.inl false, .inl false, .inl false, .inl false, .inl false, .inl false, .inr (some 35), .inr (some 36)])) := rfl
theorem kx_35 : KX[35]? = some (.inr (8, .inl false)) := rfl
theorem kx_36 : KX[36]? = some (.inr (4, .inl false)) := rfl
theorem kx_37 : KX[37]? = some (.inl (0, [.inl false, .inl false, .inl false, .inl false, .inl false, .inl false, .inr (some 38), .inr (some 39)])) := rfl
theorem kx_38 : KX[38]? = some (.inr (8, .inl false)) := rfl
theorem kx_39 : KX[39]? = some (.inr (4, .inl false)) := rfl
theorem kx_40 : KX[40]? = some (.inl (0, [.inl false, .inl false, .inl false, .inl false, .inl false, .inl false, .inr (some 41), .inr (some 42)])) := rfl
theorem kx_41 : KX[41]? = some (.inr (8, .inl false)) := rfl
theorem kx_42 : KX[42]? = some (.inr (4, .inl false)) := rfl
theorem kx_43 : KX[43]? = some (.inr (2, .inr (fun j => if j < 2 then some (44 + 3 * j) else none))) := rfl
theorem kx_44 : KX[44]? = some (.inl (0, [.inl false, .inl false, .inl false, .inl false, .inl false, .inl false, .inr (some 45), .inr (some 46)])) := rfl
theorem kx_45 : KX[45]? = some (.inr (8, .inl false)) := rfl
theorem kx_46 : KX[46]? = some (.inr (4, .inl false)) := rfl
theorem kx_47 : KX[47]? = some (.inl (0, [.inl false, .inl false, .inl false, .inl false, .inl false, .inl false, .inr (some 48), .inr (some 49)])) := rfl
theorem kx_48 : KX[48]? = some (.inr (8, .inl false)) := rfl
theorem kx_49 : KX[49]? = some (.inr (4, .inl false)) := rfl
theorem kx_50 : KX[50]? = some (.inr (2, .inl false)) := rfl
theorem kx_51 : KX[51]? = some (.inl (4, [.inl false, .inl false, .inl false, .inr (some 52), .inr (some 53), .inr (some 54), .inr (some 6), .inl false, .inl false, .inr (some 55), .inr (some 56), .inr (some 57), .inr (some 58), .inr (some 59)])) := rfl
theorem kx_52 : KX[52]? = some (.inr (8, .inl false)) := rfl
theorem kx_53 : KX[53]? = some (.inr (8, .inl false)) := rfl
theorem kx_54 : KX[54]? = some (.inr (8, .inl false)) := rfl
theorem kx_55 : KX[55]? = some (.inr (8, .inl false)) := rfl
theorem kx_56 : KX[56]? = some (.inr (8, .inl false)) := rfl
theorem kx_57 : KX[57]? = some (.inr (8, .inl false)) := rfl
theorem kx_58 : KX[58]? = some (.inr (8, .inl false)) := rfl
theorem kx_59 : KX[59]? = some (.inr (18, .inl false)) := rfl
theorem kx_60 : KX[60]? = some (.inr (6, .inl false)) := rfl
theorem kx_61 : KX[61]? = some (.inr (6, .inl false)) := rfl
def KM : List Kd := [.inl (7, [.inl false, .inl true, .inr (some 1), .inl false, .inl false, .inl false, .inl false, .inl false, .inl false, .inr (some 2), .inr (some 3), .inr (some 4), .inr (some 5), .inr (some 6), .inr (some 7), .inl false, .inr (some 8), .inr (some 9), .inr (some 10), .inr (some 11), .inr (some 12), .inl false, .inr (some 13), .inr (some 14), .inl false, .inr (some 15), .inr (some 16), .inr (some 17)]), .inr (200, .inl false), .inr (4, .inl false), .inr (8, .inl false), .inr (16, .inl false), .inr (16, .inl false), .inr (16, .inl false), .inr (16, .inl false), .inr (18, .inl false), .inr (18, .inl false), .inr (36, .inl false), .inr (2, .inl true), .inr (180, .inl false), .inr (6, .inl false), .inr (6, .inl false), .inr (45, .inl false), .inr (8, .inl false), .inr (8, .inl false)]
theorem km_0 : KM[0]? = some (.inl (7, [.inl false, .inl true, .inr (some 1), .inl false, .inl false, .inl false, .inl false, .inl false, .inl false, .inr (some 2), .inr (some 3), .inr (some 4), .inr (some 5), .inr (some 6), .inr (some 7), .inl false, .inr (some 8), .inr (some 9), .inr (some 10), .inr (some 11), .inr (some 12), .inl false, .inr (some 13), .inr (some 14), .inl false, .inr (some 15), .inr (some 16), .inr (some 17)])) := rfl
theorem km_1 : KM[1]? = some (.inr (200, .inl false)) := rfl
theorem km_2 : KM[2]? = some (.inr (4, .inl false)) := rfl
theorem km_3 : KM[3]? = some (.inr (8, .inl false)) := rfl
theorem km_4 : KM[4]? = some (.inr (16, .inl false)) := rfl
theorem km_5 : KM[5]? = some (.inr (16, .inl false)) := rfl
theorem km_6 : KM[6]? = some (.inr (16, .inl false)) := rfl
theorem km_7 : KM[7]? = some (.inr (16, .inl false)) := rfl
theorem km_8 : KM[8]? = some (.inr (18, .inl false)) := rfl
theorem km_9 : KM[9]? = some (.inr (18, .inl false)) := rfl
theorem km_10 : KM[10]? = some (.inr (36, .inl false)) := rfl
theorem km_11 : KM[11]? = some (.inr (2, .inl true)) := rfl
theorem km_12 : KM[12]? = some (.inr (180, .inl false)) := rfl
theorem km_13 : KM[13]? = some (.inr (6, .inl false)) := rfl
theorem km_14 : KM[14]? = some (.inr (6, .inl false)) := rfl
theorem km_15 : KM[15]? = some (.inr (45, .inl false)) := rfl
theorem km_16 : KM[16]? = some (.inr (8, .inl false)) := rfl
theorem km_17 : KM[17]? = some (.inr (8, .inl false)) := rfl
/-- the boats' places -/
def isB (b : Nat) : Bool := b == 8 || (decide (13 ≤ b) && decide (b < 43) && (b - 13) % 3 == 0) || b == 44 || b == 47
def kBoat (b : Nat) : Kd := .inl (0, [.inl false, .inl false, .inl false, .inl false, .inl false, .inl false, .inr (some (b + 1)), .inr (some (b + 2))])
theorem kx_boat_all : ∀ b, b < 48 → isB b = true → KX[b]? = some (kBoat b) ∧ KX[b + 1]? = some (.inr (8, .inl false)) ∧ KX[b + 2]? = some (.inr (4, .inl false)) := by
  intro b hb h
  match b, hb with
  | 0, _ => exact absurd h (by decide)
  | 1, _ => exact absurd h (by decide)
  | 2, _ => exact absurd h (by decide)
  | 3, _ => exact absurd h (by decide)
  | 4, _ => exact absurd h (by decide)
  | 5, _ => exact absurd h (by decide)
  | 6, _ => exact absurd h (by decide)
  | 7, _ => exact absurd h (by decide)
  | 8, _ => exact ⟨rfl, rfl, rfl⟩
  | 9, _ => exact absurd h (by decide)
  | 10, _ => exact absurd h (by decide)
  | 11, _ => exact absurd h (by decide)
  | 12, _ => exact absurd h (by decide)
  | 13, _ => exact ⟨rfl, rfl, rfl⟩
  | 14, _ => exact absurd h (by decide)
  | 15, _ => exact absurd h (by decide)
  | 16, _ => exact ⟨rfl, rfl, rfl⟩
  | 17, _ => exact absurd h (by decide)
  | 18, _ => exact absurd h (by decide)
  | 19, _ => exact ⟨rfl, rfl, rfl⟩
  | 20, _ => exact absurd h (by decide)
  | 21, _ => exact absurd h (by decide)
  | 22, _ => exact ⟨rfl, rfl, rfl⟩
  | 23, _ => exact absurd h (by decide)
  | 24, _ => exact absurd h (by decide)
  | 25, _ => exact ⟨rfl, rfl, rfl⟩
  | 26, _ => exact absurd h (by decide)
  | 27, _ => exact absurd h (by decide)
  | 28, _ => exact ⟨rfl, rfl, rfl⟩
  | 29, _ => exact absurd h (by decide)
  | 30, _ => exact absurd h (by decide)
  | 31, _ => exact ⟨rfl, rfl, rfl⟩
  | 32, _ => exact absurd h (by decide)
  | 33, _ => exact absurd h (by decide)
  | 34, _ => exact ⟨rfl, rfl, rfl⟩
  | 35, _ => exact absurd h (by decide)
  | 36, _ => exact absurd h (by decide)
  | 37, _ => exact ⟨rfl, rfl, rfl⟩
  | 38, _ => exact absurd h (by decide)
  | 39, _ => exact absurd h (by decide)
  | 40, _ => exact ⟨rfl, rfl, rfl⟩
  | 41, _ => exact absurd h (by decide)
  | 42, _ => exact absurd h (by decide)
  | 43, _ => exact absurd h (by decide)
  | 44, _ => exact ⟨rfl, rfl, rfl⟩
  | 45, _ => exact absurd h (by decide)
  | 46, _ => exact absurd h (by decide)
  | 47, _ => exact ⟨rfl, rfl, rfl⟩
theorem kx_boat {b : Nat} (h : isB b = true) : KX[b]? = some (.inl (0, [.inl false, .inl false, .inl false, .inl false, .inl false, .inl false, .inr (some (b + 1)), .inr (some (b + 2))])) ∧ KX[b + 1]? = some (.inr (8, .inl false)) ∧ KX[b + 2]? = some (.inr (4, .inl false)) := by
  refine kx_boat_all b ?_ h
  simp only [isB, Bool.or_eq_true, Bool.and_eq_true, beq_iff_eq, decide_eq_true_eq] at h
  omega
def on {α : Type} (o : Option Nat) (f : Option α) (g : Nat → Option α) : Option α := match o with
  | none => f
  | some b => if isB b = true then g b else none
theorem el_on {α : Type} {o : Option Nat} {f : Option α} {g : Nat → Option α} {r : α} (h : on o f g = some r) : (o = none ∧ f = some r) ∨ ∃ b, o = some b ∧ isB b = true ∧ g b = some r := by
  cases o with
  | none => exact Or.inl ⟨rfl, h⟩
  | some b =>
    by_cases q : isB b = true
    · exact Or.inr ⟨b, rfl, q, by simpa [on, q] using h⟩
    · exact absurd h (by simp [on, q])
def m_J6_bitCount_0f7a4 (a0 : Int32) : Option Int32 :=
 lt (a0 - (((a0.toUInt32 >>> ((1 : Int32).toUInt32 &&& Int32.toUInt32 31)).toInt32) &&& (1431655765 : Int32))) fun x1 =>
 lt ((x1 &&& (858993459 : Int32)) + (((x1.toUInt32 >>> ((2 : Int32).toUInt32 &&& Int32.toUInt32 31)).toInt32) &&& (858993459 : Int32))) fun x2 =>
 lt ((x2 + ((x2.toUInt32 >>> ((4 : Int32).toUInt32 &&& Int32.toUInt32 31)).toInt32)) &&& (252645135 : Int32)) fun x3 =>
 lt (x3 + ((x3.toUInt32 >>> ((8 : Int32).toUInt32 &&& Int32.toUInt32 31)).toInt32)) fun x4 =>
 lt (x4 + ((x4.toUInt32 >>> ((16 : Int32).toUInt32 &&& Int32.toUInt32 31)).toInt32)) fun x5 =>
 some (x5 &&& (63 : Int32))
def m_X5_copy_r0 (x3 : Int32) (S4 : St) : Option St :=
 some S4
def m_X5_copy_L0 (k : Nat) (nk : Nat) (w : Nat) (nw : Nat) (k_0 : (Int32 → St → Option St)) : Nat → Int32 → St → Option St
  | 0, _, _ => none
  | n_0 + 1, x1, S2 =>
      if (Int32.ofNat nk) ≤ x1 then
      (k_0 x1 S2)
      else
      (if (Int32.ofNat nw) ≤ x1 then
      (k_0 x1 S2)
      else
      ((ald nk (S2.1 k) x1).bind fun x7 =>
      (ast nw S2 w x1 x7).bind fun S8 =>
      m_X5_copy_L0 k nk w nw k_0 n_0 (x1 + (1 : Int32)) S8))
theorem m_X5_copy_L0_z (k : Nat) (nk : Nat) (w : Nat) (nw : Nat) (k_0 : (Int32 → St → Option St)) (x1 : Int32) (S2 : St) : m_X5_copy_L0 k nk w nw k_0 0 x1 S2 = none := rfl
theorem m_X5_copy_L0_s (k : Nat) (nk : Nat) (w : Nat) (nw : Nat) (k_0 : (Int32 → St → Option St)) (n_0 : Nat) (x1 : Int32) (S2 : St) : m_X5_copy_L0 k nk w nw k_0 (n_0 + 1) x1 S2 =
 if (Int32.ofNat nk) ≤ x1 then
 (k_0 x1 S2)
 else
 (if (Int32.ofNat nw) ≤ x1 then
 (k_0 x1 S2)
 else
 ((ald nk (S2.1 k) x1).bind fun x7 =>
 (ast nw S2 w x1 x7).bind fun S8 =>
 m_X5_copy_L0 k nk w nw k_0 n_0 (x1 + (1 : Int32)) S8)) := rfl
def m_X5_copy (fu : Nat) (S : St) (k : Nat) (nk : Nat) (w : Nat) (nw : Nat) : Option St :=
 m_X5_copy_L0 k nk w nw m_X5_copy_r0 fu (0 : Int32) S
def m_X0_become (fu : Nat) (S : St) (b : Nat) (o : Nat) : Option St :=
 lt (st_i S b 0 (S.1 o 0)) fun S1 =>
 lt (st_i S1 b 1 (S1.1 o 1)) fun S2 =>
 lt (st_i S2 b 2 (S2.1 o 2)) fun S3 =>
 lt (st_i S3 b 3 (S3.1 o 3)) fun S4 =>
 lt (st_i S4 b 4 (S4.1 o 4)) fun S5 =>
 lt (st_i S5 b 5 (S5.1 o 5)) fun S6 =>
 (m_X5_copy fu S6 (o + 1) 8 (b + 1) 8).bind fun S8 =>
 (m_X5_copy fu S8 (o + 2) 4 (b + 2) 4).bind fun S10 =>
 some S10
def m_X0_isBroken (S : St) (a1 : Int32) : Option Int32 :=
 if ¬ (((S.1 8 5) >>> (a1 &&& 31)) &&& (1 : Int32)) = (1 : Int32) then
 (some (0 : Int32))
 else
 (some (1 : Int32))
def m_X5_get (nk : Nat) (fk : Nat → Int32) (a1 : Int32) : Option Int32 :=
 if a1 < (0 : Int32) then
 (some (0 : Int32))
 else
 (if (Int32.ofNat nk) ≤ a1 then
 (some (0 : Int32))
 else
 ((ald nk fk a1).bind fun x3 =>
 some x3))
def m_X3_fact (S : St) (a1 : Int32) (a2 : Int32) : Option Int32 :=
 (m_X5_get 40 (S.1 7) ((a1 * (5 : Int32)) + a2)).bind fun x2 =>
 some x2
def m_X5_put (S : St) (k : Nat) (nk : Nat) (a1 : Int32) (a2 : Int32) : Option St :=
 if a1 < (0 : Int32) then
 (some S)
 else
 (if (Int32.ofNat nk) ≤ a1 then
 (some S)
 else
 ((ast nk S k a1 a2).bind fun S3 =>
 some S3))
def m_X0_start_r1 (x13 : Int32) (S14 : St) : Option St :=
 some S14
def m_X0_start_L1 (k_1 : (Int32 → St → Option St)) : Nat → Int32 → St → Option St
  | 0, _, _ => none
  | n_1 + 1, x11, S12 =>
      if (3 : Int32) < x11 then
      (k_1 x11 S12)
      else
      ((m_X5_put S12 10 4 x11 (0 : Int32)).bind fun S17 =>
      m_X0_start_L1 k_1 n_1 (x11 + (1 : Int32)) S17)
theorem m_X0_start_L1_z (k_1 : (Int32 → St → Option St)) (x11 : Int32) (S12 : St) : m_X0_start_L1 k_1 0 x11 S12 = none := rfl
theorem m_X0_start_L1_s (k_1 : (Int32 → St → Option St)) (n_1 : Nat) (x11 : Int32) (S12 : St) : m_X0_start_L1 k_1 (n_1 + 1) x11 S12 =
 if (3 : Int32) < x11 then
 (k_1 x11 S12)
 else
 ((m_X5_put S12 10 4 x11 (0 : Int32)).bind fun S17 =>
 m_X0_start_L1 k_1 n_1 (x11 + (1 : Int32)) S17) := rfl
def m_X0_start_r0 (fu : Nat) (x9 : Int32) (S10 : St) : Option St :=
 m_X0_start_L1 m_X0_start_r1 fu (0 : Int32) S10
def m_X0_start_L0 (k_0 : (Int32 → St → Option St)) : Nat → Int32 → St → Option St
  | 0, _, _ => none
  | n_0 + 1, x7, S8 =>
      if (8 : Int32) ≤ x7 then
      (k_0 x7 S8)
      else
      ((m_X3_fact S8 x7 (0 : Int32)).bind fun x20 =>
      (m_X5_put S8 9 8 x7 x20).bind fun S22 =>
      m_X0_start_L0 k_0 n_0 (x7 + (1 : Int32)) S22)
theorem m_X0_start_L0_z (k_0 : (Int32 → St → Option St)) (x7 : Int32) (S8 : St) : m_X0_start_L0 k_0 0 x7 S8 = none := rfl
theorem m_X0_start_L0_s (k_0 : (Int32 → St → Option St)) (n_0 : Nat) (x7 : Int32) (S8 : St) : m_X0_start_L0 k_0 (n_0 + 1) x7 S8 =
 if (8 : Int32) ≤ x7 then
 (k_0 x7 S8)
 else
 ((m_X3_fact S8 x7 (0 : Int32)).bind fun x20 =>
 (m_X5_put S8 9 8 x7 x20).bind fun S22 =>
 m_X0_start_L0 k_0 n_0 (x7 + (1 : Int32)) S22) := rfl
def m_X0_start (fu : Nat) (S : St) : Option St :=
 lt (st_i S 8 0 (0 : Int32)) fun S1 =>
 lt (st_i S1 8 1 (S1.1 6 1)) fun S2 =>
 lt (st_i S2 8 2 (S2.1 6 2)) fun S3 =>
 lt (st_i S3 8 3 (-9 : Int32)) fun S4 =>
 lt (st_i S4 8 4 (0 : Int32)) fun S5 =>
 lt (st_i S5 8 5 (0 : Int32)) fun S6 =>
 m_X0_start_L0 (m_X0_start_r0 fu) fu (0 : Int32) S6
def m_X0_tollOf (S : St) (a1 : Int32) : Option Int32 :=
 (m_X5_get 8 (S.1 9) a1).bind fun x2 =>
 some x2
def m_X1_boatAt (S : St) (a1 : Int32) : Option (Option Nat) :=
 if a1 < (0 : Int32) then
 (some (none : Option Nat))
 else
 (if (10 : Int32) ≤ a1 then
 (some (none : Option Nat))
 else
 (nb 10 a1 (some (some (13 + 3 * a1.toNatClampNeg)))))
def m_X1_forgetAll (S : St) : Option St :=
 lt (st_i S 11 0 (0 : Int32)) fun S1 =>
 some S1
def m_X1_remember (fu : Nat) (S : St) : Option St :=
 (m_X1_boatAt S (S.1 11 1)).bind fun o2 =>
 on o2 (some S) fun b3 =>
 (m_X0_become fu S b3 8).bind fun S5 =>
 lt (st_i S5 11 1 (((S5.1 11 1) + (1 : Int32)) - ((S5.1 11 1) + (1 : Int32)) / (10 : Int32) * (10 : Int32))) fun S6 =>
 lt (st_i S6 11 0 (if (10 : Int32) < ((S6.1 11 0) + (1 : Int32)) then (10 : Int32) else ((S6.1 11 0) + (1 : Int32)))) fun S7 =>
 some S7
def m_X1_restore (fu : Nat) (S : St) : Option St :=
 lt ((((S.1 11 1) + (10 : Int32)) - (1 : Int32)) - (((S.1 11 1) + (10 : Int32)) - (1 : Int32)) / (10 : Int32) * (10 : Int32)) fun x1 =>
 (m_X1_boatAt S x1).bind fun o3 =>
 on o3 (some S) fun b4 =>
 if ¬ (S.1 11 0) = (0 : Int32) then
 ((m_X0_become fu S 8 b4).bind fun S7 =>
 lt (st_i S7 11 1 x1) fun S8 =>
 lt (st_i S8 11 0 ((S8.1 11 0) - (1 : Int32))) fun S9 =>
 some S9)
 else
 (some S)
def m_X2_isDigit (a0 : Int32) : Option Int32 :=
 if a0 < (48 : Int32) then
 (some (0 : Int32))
 else
 (if (57 : Int32) < a0 then
 (some (0 : Int32))
 else
 (some (1 : Int32)))
def m_X2_isSign (a0 : Int32) : Option Int32 :=
 if a0 = (114 : Int32) then
 (some (1 : Int32))
 else
 (if a0 = (98 : Int32) then
 (some (1 : Int32))
 else
 (if a0 = (99 : Int32) then
 (some (1 : Int32))
 else
 (if ¬ a0 = (59 : Int32) then
 (some (0 : Int32))
 else
 (some (1 : Int32)))))
def m_X3_untell (S : St) : Option St :=
 lt (st_i S 4 0 (0 : Int32)) fun S1 =>
 lt (st_i S1 4 1 (10 : Int32)) fun S2 =>
 lt (st_i S2 4 2 (100 : Int32)) fun S3 =>
 lt (st_i S3 4 3 (0 : Int32)) fun S4 =>
 some S4
def m_X7_letterAt (S : St) (a1 : Int32) : Option Int32 :=
 if a1 < (0 : Int32) then
 (some (0 : Int32))
 else
 (if (200 : Int32) ≤ a1 then
 (some (0 : Int32))
 else
 ((ald 200 (S.1 2) a1).bind fun x3 =>
 some x3))
def m_X2_readDigits_r0 (x4 : Int32) (S8 : St) : Option St :=
 ((if x4 = (0 : Int32) then
 (some (0 : Int32))
 else
 (if ((S8.1 3 1) - (S8.1 3 2)) ≤ (1 : Int32) then
 (some (0 : Int32))
 else
 (some (1 : Int32))) : Option Int32)).bind fun x10 =>
 ((if ¬ x10 = (0 : Int32) then
 (some (-2 : Int32))
 else
 (if (S8.1 3 4) ≤ (900 : Int32) then
 (some (-3 : Int32))
 else
 (some (-2 : Int32))) : Option Int32)).bind fun x13 =>
 lt (st_i S8 3 3 x13) fun S15 =>
 some S15
def m_X2_readDigits_L0 (k_0 : (St → Option St)) : Nat → St → Option St
  | 0, _ => none
  | n_0 + 1, S7 =>
      if (S7.1 1 0) ≤ (S7.1 3 1) then
      (k_0 S7)
      else
      ((m_X7_letterAt S7 (S7.1 3 1)).bind fun x22 =>
      (m_X2_isDigit x22).bind fun x24 =>
      if x24 = (0 : Int32) then
      (k_0 S7)
      else
      ((m_X7_letterAt S7 (S7.1 3 1)).bind fun x27 =>
      lt (st_i S7 3 4 (if (901 : Int32) < ((((S7.1 3 4) * (10 : Int32)) + x27) - (48 : Int32)) then (901 : Int32) else ((((S7.1 3 4) * (10 : Int32)) + x27) - (48 : Int32)))) fun S28 =>
      lt (st_i S28 3 1 ((S28.1 3 1) + (1 : Int32))) fun S29 =>
      m_X2_readDigits_L0 k_0 n_0 S29))
theorem m_X2_readDigits_L0_z (k_0 : (St → Option St)) (S7 : St) : m_X2_readDigits_L0 k_0 0 S7 = none := rfl
theorem m_X2_readDigits_L0_s (k_0 : (St → Option St)) (n_0 : Nat) (S7 : St) : m_X2_readDigits_L0 k_0 (n_0 + 1) S7 =
 if (S7.1 1 0) ≤ (S7.1 3 1) then
 (k_0 S7)
 else
 ((m_X7_letterAt S7 (S7.1 3 1)).bind fun x22 =>
 (m_X2_isDigit x22).bind fun x24 =>
 if x24 = (0 : Int32) then
 (k_0 S7)
 else
 ((m_X7_letterAt S7 (S7.1 3 1)).bind fun x27 =>
 lt (st_i S7 3 4 (if (901 : Int32) < ((((S7.1 3 4) * (10 : Int32)) + x27) - (48 : Int32)) then (901 : Int32) else ((((S7.1 3 4) * (10 : Int32)) + x27) - (48 : Int32)))) fun S28 =>
 lt (st_i S28 3 1 ((S28.1 3 1) + (1 : Int32))) fun S29 =>
 m_X2_readDigits_L0 k_0 n_0 S29)) := rfl
def m_X2_readDigits (fu : Nat) (S : St) : Option St :=
 (m_X7_letterAt S (S.1 3 2)).bind fun x2 =>
 ((if ¬ x2 = (48 : Int32) then
 (some (0 : Int32))
 else
 (some (1 : Int32)) : Option Int32)).bind fun x4 =>
 lt (st_i S 3 4 (0 : Int32)) fun S6 =>
 m_X2_readDigits_L0 (m_X2_readDigits_r0 x4) fu S6
def m_X2_readToken_r0 (fu : Nat) (S2 : St) : Option St :=
 lt (st_i S2 3 2 (S2.1 3 1)) fun S3 =>
 if (S3.1 3 1) < (S3.1 1 0) then
 ((m_X7_letterAt S3 (S3.1 3 1)).bind fun x6 =>
 (m_X2_isDigit x6).bind fun x8 =>
 if x8 = (0 : Int32) then
 (lt (st_i S3 3 1 ((S3.1 3 1) + (1 : Int32))) fun S10 =>
 (m_X2_isSign x6).bind fun x12 =>
 ((if x12 = (0 : Int32) then
 (some (-2 : Int32))
 else
 (some x6) : Option Int32)).bind fun x14 =>
 lt (st_i S10 3 3 x14) fun S16 =>
 some S16)
 else
 ((m_X2_readDigits fu S3).bind fun S19 =>
 some S19))
 else
 (lt (st_i S3 3 3 (-1 : Int32)) fun S20 =>
 some S20)
def m_X2_readToken_L0 (k_0 : (St → Option St)) : Nat → St → Option St
  | 0, _ => none
  | n_0 + 1, S1 =>
      if (S1.1 1 0) ≤ (S1.1 3 1) then
      (k_0 S1)
      else
      ((m_X7_letterAt S1 (S1.1 3 1)).bind fun x23 =>
      if ¬ x23 = (32 : Int32) then
      (k_0 S1)
      else
      (lt (st_i S1 3 1 ((S1.1 3 1) + (1 : Int32))) fun S25 =>
      m_X2_readToken_L0 k_0 n_0 S25))
theorem m_X2_readToken_L0_z (k_0 : (St → Option St)) (S1 : St) : m_X2_readToken_L0 k_0 0 S1 = none := rfl
theorem m_X2_readToken_L0_s (k_0 : (St → Option St)) (n_0 : Nat) (S1 : St) : m_X2_readToken_L0 k_0 (n_0 + 1) S1 =
 if (S1.1 1 0) ≤ (S1.1 3 1) then
 (k_0 S1)
 else
 ((m_X7_letterAt S1 (S1.1 3 1)).bind fun x23 =>
 if ¬ x23 = (32 : Int32) then
 (k_0 S1)
 else
 (lt (st_i S1 3 1 ((S1.1 3 1) + (1 : Int32))) fun S25 =>
 m_X2_readToken_L0 k_0 n_0 S25)) := rfl
def m_X2_readToken (fu : Nat) (S : St) : Option St :=
 m_X2_readToken_L0 (m_X2_readToken_r0 fu) fu S
def m_X2_readNumber (fu : Nat) (S : St) (a1 : Int32) (a2 : Int32) : Option (Int32 × St) :=
 (m_X2_readToken fu S).bind fun S2 =>
 if ¬ (S2.1 3 3) = (-3 : Int32) then
 (some ((0 : Int32), S2))
 else
 (if (S2.1 3 4) < a1 then
 (some ((0 : Int32), S2))
 else
 (if a2 < (S2.1 3 4) then
 (some ((0 : Int32), S2))
 else
 (some ((1 : Int32), S2))))
def m_X3_tell (S : St) (a1 : Int32) (a2 : Int32) (a3 : Int32) : Option St :=
 (m_X5_put S 5 40 ((a1 * (5 : Int32)) + a2) a3).bind fun S2 =>
 some S2
def m_X2_readEnd (fu : Nat) (S : St) : Option (Int32 × St) :=
 (m_X2_readToken fu S).bind fun S2 =>
 if ¬ (S2.1 3 3) = (59 : Int32) then
 (some ((0 : Int32), S2))
 else
 (some ((1 : Int32), S2))
def m_X2_readRock_r0 (fu : Nat) (x4 : Int32) (S5 : St) : Option (Int32 × St) :=
 lt (st_i S5 4 0 ((S5.1 4 0) + (1 : Int32))) fun S6 =>
 ob2 (m_X2_readEnd fu S6) fun x8 S9 =>
 zb x8 (some (x8, S9))
def m_X2_readRock_L0 (fu : Nat) (k_0 : (Int32 → St → Option (Int32 × St))) : Nat → Int32 → St → Option (Int32 × St)
  | 0, _, _ => none
  | n_0 + 1, x2, S3 =>
      if (5 : Int32) ≤ x2 then
      (k_0 x2 S3)
      else
      ((m_X5_get 5 lfA x2).bind fun x12 =>
      (m_X5_get 5 lfB x2).bind fun x14 =>
      ob2 (m_X2_readNumber fu S3 x12 x14) fun x16 S17 =>
      if ¬ x16 = (0 : Int32) then
      ((m_X3_tell S17 (S17.1 4 0) x2 (S17.1 3 4)).bind fun S20 =>
      m_X2_readRock_L0 fu k_0 n_0 (x2 + (1 : Int32)) S20)
      else
      (some ((0 : Int32), S17)))
theorem m_X2_readRock_L0_z (fu : Nat) (k_0 : (Int32 → St → Option (Int32 × St))) (x2 : Int32) (S3 : St) : m_X2_readRock_L0 fu k_0 0 x2 S3 = none := rfl
theorem m_X2_readRock_L0_s (fu : Nat) (k_0 : (Int32 → St → Option (Int32 × St))) (n_0 : Nat) (x2 : Int32) (S3 : St) : m_X2_readRock_L0 fu k_0 (n_0 + 1) x2 S3 =
 if (5 : Int32) ≤ x2 then
 (k_0 x2 S3)
 else
 ((m_X5_get 5 lfA x2).bind fun x12 =>
 (m_X5_get 5 lfB x2).bind fun x14 =>
 ob2 (m_X2_readNumber fu S3 x12 x14) fun x16 S17 =>
 if ¬ x16 = (0 : Int32) then
 ((m_X3_tell S17 (S17.1 4 0) x2 (S17.1 3 4)).bind fun S20 =>
 m_X2_readRock_L0 fu k_0 n_0 (x2 + (1 : Int32)) S20)
 else
 (some ((0 : Int32), S17))) := rfl
def m_X2_readRock (fu : Nat) (S : St) : Option (Int32 × St) :=
 if (S.1 4 0) < (8 : Int32) then
 (m_X2_readRock_L0 fu (m_X2_readRock_r0 fu) fu (0 : Int32) S)
 else
 (some ((0 : Int32), S))
def m_X2_readBarrels (fu : Nat) (S : St) : Option (Int32 × St) :=
 if ¬ (S.1 3 5) = (0 : Int32) then
 (some ((0 : Int32), S))
 else
 (ob2 (m_X2_readNumber fu S (1 : Int32) (30 : Int32)) fun x3 S4 =>
 if ¬ x3 = (0 : Int32) then
 (lt (st_i S4 4 1 (S4.1 3 4)) fun S6 =>
 lt (st_i S6 3 5 (1 : Int32)) fun S7 =>
 ob2 (m_X2_readEnd fu S7) fun x9 S10 =>
 zb x9 (some (x9, S10)))
 else
 (some ((0 : Int32), S4)))
def m_X2_readCoins (fu : Nat) (S : St) : Option (Int32 × St) :=
 if ¬ (S.1 3 6) = (0 : Int32) then
 (some ((0 : Int32), S))
 else
 (ob2 (m_X2_readNumber fu S (0 : Int32) (900 : Int32)) fun x3 S4 =>
 if ¬ x3 = (0 : Int32) then
 (lt (st_i S4 4 2 (S4.1 3 4)) fun S6 =>
 lt (st_i S6 3 6 (1 : Int32)) fun S7 =>
 ob2 (m_X2_readEnd fu S7) fun x9 S10 =>
 zb x9 (some (x9, S10)))
 else
 (some ((0 : Int32), S4)))
def m_X2_read_r0 (x8 : Int32) (S9 : St) : Option (Int32 × St) :=
 some (S9.1 3 2, S9)
def m_X2_read_L0 (fu : Nat) (k_0 : (Int32 → St → Option (Int32 × St))) : Nat → Int32 → St → Option (Int32 × St)
  | 0, _, _ => none
  | n_0 + 1, x6, S7 =>
      if (10 : Int32) < x6 then
      (k_0 x6 S7)
      else
      ((m_X2_readToken fu S7).bind fun S12 =>
      if ¬ (S12.1 3 3) = (-1 : Int32) then
      (ob2 (if ¬ (S12.1 3 3) = (114 : Int32) then
      (if ¬ (S12.1 3 3) = (98 : Int32) then
      (if ¬ (S12.1 3 3) = (99 : Int32) then
      (some ((0 : Int32), S12))
      else
      (ob2 (m_X2_readCoins fu S12) fun x23 S24 =>
      if x23 = (0 : Int32) then
      (some ((0 : Int32), S24))
      else
      (some ((1 : Int32), S24))))
      else
      (ob2 (m_X2_readBarrels fu S12) fun x27 S28 =>
      if ¬ x27 = (0 : Int32) then
      (some ((1 : Int32), S28))
      else
      (if ¬ (S12.1 3 3) = (99 : Int32) then
      (some ((0 : Int32), S28))
      else
      (ob2 (m_X2_readCoins fu S28) fun x32 S33 =>
      if x32 = (0 : Int32) then
      (some ((0 : Int32), S33))
      else
      (some ((1 : Int32), S33))))))
      else
      (ob2 (m_X2_readRock fu S12) fun x36 S37 =>
      if ¬ x36 = (0 : Int32) then
      (some ((1 : Int32), S37))
      else
      (if ¬ (S12.1 3 3) = (98 : Int32) then
      (if ¬ (S12.1 3 3) = (99 : Int32) then
      (some ((0 : Int32), S37))
      else
      (ob2 (m_X2_readCoins fu S37) fun x42 S43 =>
      if x42 = (0 : Int32) then
      (some ((0 : Int32), S43))
      else
      (some ((1 : Int32), S43))))
      else
      (ob2 (m_X2_readBarrels fu S37) fun x46 S47 =>
      if ¬ x46 = (0 : Int32) then
      (some ((1 : Int32), S47))
      else
      (if ¬ (S12.1 3 3) = (99 : Int32) then
      (some ((0 : Int32), S47))
      else
      (ob2 (m_X2_readCoins fu S47) fun x51 S52 =>
      if x51 = (0 : Int32) then
      (some ((0 : Int32), S52))
      else
      (some ((1 : Int32), S52))))))) : Option (Int32 × St)) fun x15 S16 =>
      if ¬ x15 = (0 : Int32) then
      (lt (st_i S16 4 3 ((S16.1 4 3) + (1 : Int32))) fun S19 =>
      m_X2_read_L0 fu k_0 n_0 (x6 + (1 : Int32)) S19)
      else
      (some (S16.1 3 2, S16)))
      else
      (some ((-1 : Int32), S12)))
theorem m_X2_read_L0_z (fu : Nat) (k_0 : (Int32 → St → Option (Int32 × St))) (x6 : Int32) (S7 : St) : m_X2_read_L0 fu k_0 0 x6 S7 = none := rfl
theorem m_X2_read_L0_s (fu : Nat) (k_0 : (Int32 → St → Option (Int32 × St))) (n_0 : Nat) (x6 : Int32) (S7 : St) : m_X2_read_L0 fu k_0 (n_0 + 1) x6 S7 =
 if (10 : Int32) < x6 then
 (k_0 x6 S7)
 else
 ((m_X2_readToken fu S7).bind fun S12 =>
 if ¬ (S12.1 3 3) = (-1 : Int32) then
 (ob2 (if ¬ (S12.1 3 3) = (114 : Int32) then
 (if ¬ (S12.1 3 3) = (98 : Int32) then
 (if ¬ (S12.1 3 3) = (99 : Int32) then
 (some ((0 : Int32), S12))
 else
 (ob2 (m_X2_readCoins fu S12) fun x23 S24 =>
 if x23 = (0 : Int32) then
 (some ((0 : Int32), S24))
 else
 (some ((1 : Int32), S24))))
 else
 (ob2 (m_X2_readBarrels fu S12) fun x27 S28 =>
 if ¬ x27 = (0 : Int32) then
 (some ((1 : Int32), S28))
 else
 (if ¬ (S12.1 3 3) = (99 : Int32) then
 (some ((0 : Int32), S28))
 else
 (ob2 (m_X2_readCoins fu S28) fun x32 S33 =>
 if x32 = (0 : Int32) then
 (some ((0 : Int32), S33))
 else
 (some ((1 : Int32), S33))))))
 else
 (ob2 (m_X2_readRock fu S12) fun x36 S37 =>
 if ¬ x36 = (0 : Int32) then
 (some ((1 : Int32), S37))
 else
 (if ¬ (S12.1 3 3) = (98 : Int32) then
 (if ¬ (S12.1 3 3) = (99 : Int32) then
 (some ((0 : Int32), S37))
 else
 (ob2 (m_X2_readCoins fu S37) fun x42 S43 =>
 if x42 = (0 : Int32) then
 (some ((0 : Int32), S43))
 else
 (some ((1 : Int32), S43))))
 else
 (ob2 (m_X2_readBarrels fu S37) fun x46 S47 =>
 if ¬ x46 = (0 : Int32) then
 (some ((1 : Int32), S47))
 else
 (if ¬ (S12.1 3 3) = (99 : Int32) then
 (some ((0 : Int32), S47))
 else
 (ob2 (m_X2_readCoins fu S47) fun x51 S52 =>
 if x51 = (0 : Int32) then
 (some ((0 : Int32), S52))
 else
 (some ((1 : Int32), S52))))))) : Option (Int32 × St)) fun x15 S16 =>
 if ¬ x15 = (0 : Int32) then
 (lt (st_i S16 4 3 ((S16.1 4 3) + (1 : Int32))) fun S19 =>
 m_X2_read_L0 fu k_0 n_0 (x6 + (1 : Int32)) S19)
 else
 (some (S16.1 3 2, S16)))
 else
 (some ((-1 : Int32), S12))) := rfl
def m_X2_read (fu : Nat) (S : St) : Option (Int32 × St) :=
 (m_X3_untell S).bind fun S2 =>
 lt (st_i S2 3 1 (0 : Int32)) fun S3 =>
 lt (st_i S3 3 5 (0 : Int32)) fun S4 =>
 lt (st_i S4 3 6 (0 : Int32)) fun S5 =>
 m_X2_read_L0 fu m_X2_read_r0 fu (0 : Int32) S5
def m_X3_become (fu : Nat) (S : St) : Option St :=
 lt (st_i S 6 0 (S.1 4 0)) fun S1 =>
 lt (st_i S1 6 1 (S1.1 4 1)) fun S2 =>
 lt (st_i S2 6 2 (S2.1 4 2)) fun S3 =>
 lt (st_i S3 6 3 (S3.1 4 3)) fun S4 =>
 (m_X5_copy fu S4 5 40 7 40).bind fun S6 =>
 some S6
def m_X6_upward (a0 : Int32) (a1 : Int32) : Option Int32 :=
 if a1 ≤ (0 : Int32) then
 (some (0 : Int32))
 else
 (nz a1 (some (((a0 + a1) - (1 : Int32)) / a1)))
def m_X3_price (S : St) (a1 : Int32) (a2 : Int32) (a3 : Int32) : Option Int32 :=
 (m_X3_fact S a1 (1 : Int32)).bind fun x2 =>
 (m_X6_upward a3 x2).bind fun x4 =>
 some (a2 * x4)
def m_X4_leastFrom (S : St) (a1 : Int32) (a2 : Int32) : Option Int32 :=
 (m_X5_get 18 (S.1 59) (((2 : Int32) * a1) + a2)).bind fun x2 =>
 some x2
def m_X4_costByLand (S : St) (a1 : Int32) : Option Int32 :=
 (m_X5_get 8 (S.1 56) a1).bind fun x2 =>
 (m_X4_leastFrom S (a1 + (1 : Int32)) (0 : Int32)).bind fun x4 =>
 some (x2 + x4)
def m_X4_due (S : St) (a1 : Int32) (a2 : Int32) : Option Int32 :=
 if ¬ a2 = (1 : Int32) then
 ((m_X5_get 8 (S.1 55) a1).bind fun x3 =>
 some x3)
 else
 (some (0 : Int32))
def m_X4_freedBehind (S : St) (a1 : Int32) (a2 : Int32) : Option Int32 :=
 if a2 ≤ (0 : Int32) then
 (some (0 : Int32))
 else
 ((m_X5_get 8 (S.1 57) a1).bind fun x3 =>
 some x3)
def m_X4_costByPay (S : St) (a1 : Int32) (a2 : Int32) : Option Int32 :=
 (m_X4_due S a1 a2).bind fun x2 =>
 (m_X4_freedBehind S a1 x2).bind fun x4 =>
 (m_X4_leastFrom S (a1 + (1 : Int32)) x4).bind fun x6 =>
 some (x2 + x6)
def m_X4_load (fu : Nat) (S : St) : Option St :=
 lt (st_i S 51 7 (S.1 8 0)) fun S1 =>
 lt (st_i S1 51 0 (S1.1 8 1)) fun S2 =>
 lt (st_i S2 51 8 (S2.1 8 3)) fun S3 =>
 lt (st_i S3 51 1 (S3.1 8 5)) fun S4 =>
 (m_X5_copy fu S4 9 8 52 8).bind fun S6 =>
 some S6
def m_X4_priceAll_r0 (x3 : Int32) (S4 : St) : Option St :=
 some S4
def m_X4_priceAll_L0 (k_0 : (Int32 → St → Option St)) : Nat → Int32 → St → Option St
  | 0, _, _ => none
  | n_0 + 1, x1, S2 =>
      if (S2.1 6 0) ≤ x1 then
      (k_0 x1 S2)
      else
      (((if ¬ (((S2.1 51 1) >>> (x1 &&& 31)) &&& (1 : Int32)) = (1 : Int32) then
      (some (0 : Int32))
      else
      (some (1 : Int32)) : Option Int32)).bind fun x7 =>
      ((if x7 = (0 : Int32) then
      ((m_X5_get 8 (S2.1 52) x1).bind fun x34 =>
      (m_X3_price S2 x1 x34 (S2.1 51 0)).bind fun x36 =>
      some x36)
      else
      (some (0 : Int32)) : Option Int32)).bind fun x10 =>
      (m_X5_put S2 55 8 x1 x10).bind fun S13 =>
      (m_X3_fact S13 x1 (4 : Int32)).bind fun x15 =>
      (m_X5_put S13 56 8 x1 (x15 * (S13.1 51 0))).bind fun S17 =>
      ((if (S17.1 6 0) ≤ (x1 + (1 : Int32)) then
      (some (0 : Int32))
      else
      ((m_X3_fact S17 x1 (2 : Int32)).bind fun x28 =>
      (m_X3_fact S17 (x1 + (1 : Int32)) (2 : Int32)).bind fun x30 =>
      if ¬ x28 = x30 then
      (some (0 : Int32))
      else
      (some (1 : Int32))) : Option Int32)).bind fun x19 =>
      ((if x19 = (0 : Int32) then
      (some (0 : Int32))
      else
      (some (1 : Int32)) : Option Int32)).bind fun x22 =>
      (m_X5_put S17 57 8 x1 x22).bind fun S25 =>
      m_X4_priceAll_L0 k_0 n_0 (x1 + (1 : Int32)) S25)
theorem m_X4_priceAll_L0_z (k_0 : (Int32 → St → Option St)) (x1 : Int32) (S2 : St) : m_X4_priceAll_L0 k_0 0 x1 S2 = none := rfl
theorem m_X4_priceAll_L0_s (k_0 : (Int32 → St → Option St)) (n_0 : Nat) (x1 : Int32) (S2 : St) : m_X4_priceAll_L0 k_0 (n_0 + 1) x1 S2 =
 if (S2.1 6 0) ≤ x1 then
 (k_0 x1 S2)
 else
 (((if ¬ (((S2.1 51 1) >>> (x1 &&& 31)) &&& (1 : Int32)) = (1 : Int32) then
 (some (0 : Int32))
 else
 (some (1 : Int32)) : Option Int32)).bind fun x7 =>
 ((if x7 = (0 : Int32) then
 ((m_X5_get 8 (S2.1 52) x1).bind fun x34 =>
 (m_X3_price S2 x1 x34 (S2.1 51 0)).bind fun x36 =>
 some x36)
 else
 (some (0 : Int32)) : Option Int32)).bind fun x10 =>
 (m_X5_put S2 55 8 x1 x10).bind fun S13 =>
 (m_X3_fact S13 x1 (4 : Int32)).bind fun x15 =>
 (m_X5_put S13 56 8 x1 (x15 * (S13.1 51 0))).bind fun S17 =>
 ((if (S17.1 6 0) ≤ (x1 + (1 : Int32)) then
 (some (0 : Int32))
 else
 ((m_X3_fact S17 x1 (2 : Int32)).bind fun x28 =>
 (m_X3_fact S17 (x1 + (1 : Int32)) (2 : Int32)).bind fun x30 =>
 if ¬ x28 = x30 then
 (some (0 : Int32))
 else
 (some (1 : Int32))) : Option Int32)).bind fun x19 =>
 ((if x19 = (0 : Int32) then
 (some (0 : Int32))
 else
 (some (1 : Int32)) : Option Int32)).bind fun x22 =>
 (m_X5_put S17 57 8 x1 x22).bind fun S25 =>
 m_X4_priceAll_L0 k_0 n_0 (x1 + (1 : Int32)) S25) := rfl
def m_X4_priceAll (fu : Nat) (S : St) : Option St :=
 m_X4_priceAll_L0 m_X4_priceAll_r0 fu (S.1 51 7) S
def m_X4_setLeast (S : St) (a1 : Int32) (a2 : Int32) (a3 : Int32) : Option St :=
 (m_X5_put S 59 18 (((2 : Int32) * a1) + a2) a3).bind fun S2 =>
 some S2
def m_X4_weighAll_r0 (x7 : Int32) (S8 : St) : Option St :=
 some S8
def m_X4_weighAll_L0 (k_0 : (Int32 → St → Option St)) : Nat → Int32 → St → Option St
  | 0, _, _ => none
  | n_0 + 1, x5, S6 =>
      if x5 < (S6.1 51 7) then
      (k_0 x5 S6)
      else
      ((m_X4_costByPay S6 x5 (0 : Int32)).bind fun x11 =>
      (m_X4_costByLand S6 x5).bind fun x13 =>
      (m_X4_setLeast S6 x5 (0 : Int32) (if x13 < x11 then x13 else x11)).bind fun S15 =>
      (m_X4_costByPay S15 x5 (1 : Int32)).bind fun x17 =>
      (m_X4_costByLand S15 x5).bind fun x19 =>
      (m_X4_setLeast S15 x5 (1 : Int32) (if x19 < x17 then x19 else x17)).bind fun S21 =>
      m_X4_weighAll_L0 k_0 n_0 (x5 + (-1 : Int32)) S21)
theorem m_X4_weighAll_L0_z (k_0 : (Int32 → St → Option St)) (x5 : Int32) (S6 : St) : m_X4_weighAll_L0 k_0 0 x5 S6 = none := rfl
theorem m_X4_weighAll_L0_s (k_0 : (Int32 → St → Option St)) (n_0 : Nat) (x5 : Int32) (S6 : St) : m_X4_weighAll_L0 k_0 (n_0 + 1) x5 S6 =
 if x5 < (S6.1 51 7) then
 (k_0 x5 S6)
 else
 ((m_X4_costByPay S6 x5 (0 : Int32)).bind fun x11 =>
 (m_X4_costByLand S6 x5).bind fun x13 =>
 (m_X4_setLeast S6 x5 (0 : Int32) (if x13 < x11 then x13 else x11)).bind fun S15 =>
 (m_X4_costByPay S15 x5 (1 : Int32)).bind fun x17 =>
 (m_X4_costByLand S15 x5).bind fun x19 =>
 (m_X4_setLeast S15 x5 (1 : Int32) (if x19 < x17 then x19 else x17)).bind fun S21 =>
 m_X4_weighAll_L0 k_0 n_0 (x5 + (-1 : Int32)) S21) := rfl
def m_X4_weighAll (fu : Nat) (S : St) : Option St :=
 (m_X4_setLeast S (S.1 6 0) (0 : Int32) (0 : Int32)).bind fun S2 =>
 (m_X4_setLeast S2 (S2.1 6 0) (1 : Int32) (0 : Int32)).bind fun S4 =>
 m_X4_weighAll_L0 m_X4_weighAll_r0 fu ((S4.1 6 0) - (1 : Int32)) S4
def m_X4_walk_r0 (x10 : Int32) (x11 : Int32) (S12 : St) : Option St :=
 some S12
def m_X4_walk_L0 (k_0 : (Int32 → Int32 → St → Option St)) : Nat → Int32 → Int32 → St → Option St
  | 0, _, _, _ => none
  | n_0 + 1, x7, x8, S9 =>
      if (S9.1 6 0) ≤ x8 then
      (k_0 x7 x8 S9)
      else
      ((m_X4_costByLand S9 x8).bind fun x15 =>
      (m_X4_costByPay S9 x8 x7).bind fun x17 =>
      ((if x17 ≤ x15 then
      (some (0 : Int32))
      else
      (some (1 : Int32)) : Option Int32)).bind fun x19 =>
      ((if x19 = (0 : Int32) then
      ((m_X4_due S9 x8 x7).bind fun x43 =>
      some x43)
      else
      (some (0 : Int32)) : Option Int32)).bind fun x22 =>
      ((if x19 = (0 : Int32) then
      (some (0 : Int32))
      else
      (some (1 : Int32)) : Option Int32)).bind fun x25 =>
      (m_X5_put S9 54 8 x8 x25).bind fun S28 =>
      (m_X5_put S28 53 8 x8 x22).bind fun S30 =>
      ((if x19 = (0 : Int32) then
      (some x22)
      else
      ((m_X5_get 8 (S30.1 56) x8).bind fun x39 =>
      some x39) : Option Int32)).bind fun x32 =>
      (m_X5_put S30 58 8 x8 x32).bind fun S35 =>
      (m_X4_freedBehind S35 x8 x22).bind fun x37 =>
      m_X4_walk_L0 k_0 n_0 x37 (x8 + (1 : Int32)) S35)
theorem m_X4_walk_L0_z (k_0 : (Int32 → Int32 → St → Option St)) (x7 : Int32) (x8 : Int32) (S9 : St) : m_X4_walk_L0 k_0 0 x7 x8 S9 = none := rfl
theorem m_X4_walk_L0_s (k_0 : (Int32 → Int32 → St → Option St)) (n_0 : Nat) (x7 : Int32) (x8 : Int32) (S9 : St) : m_X4_walk_L0 k_0 (n_0 + 1) x7 x8 S9 =
 if (S9.1 6 0) ≤ x8 then
 (k_0 x7 x8 S9)
 else
 ((m_X4_costByLand S9 x8).bind fun x15 =>
 (m_X4_costByPay S9 x8 x7).bind fun x17 =>
 ((if x17 ≤ x15 then
 (some (0 : Int32))
 else
 (some (1 : Int32)) : Option Int32)).bind fun x19 =>
 ((if x19 = (0 : Int32) then
 ((m_X4_due S9 x8 x7).bind fun x43 =>
 some x43)
 else
 (some (0 : Int32)) : Option Int32)).bind fun x22 =>
 ((if x19 = (0 : Int32) then
 (some (0 : Int32))
 else
 (some (1 : Int32)) : Option Int32)).bind fun x25 =>
 (m_X5_put S9 54 8 x8 x25).bind fun S28 =>
 (m_X5_put S28 53 8 x8 x22).bind fun S30 =>
 ((if x19 = (0 : Int32) then
 (some x22)
 else
 ((m_X5_get 8 (S30.1 56) x8).bind fun x39 =>
 some x39) : Option Int32)).bind fun x32 =>
 (m_X5_put S30 58 8 x8 x32).bind fun S35 =>
 (m_X4_freedBehind S35 x8 x22).bind fun x37 =>
 m_X4_walk_L0 k_0 n_0 x37 (x8 + (1 : Int32)) S35) := rfl
def m_X4_walk (fu : Nat) (S : St) : Option St :=
 ((if (S.1 6 0) ≤ (S.1 51 7) then
 (some (0 : Int32))
 else
 ((m_X3_fact S (S.1 51 7) (2 : Int32)).bind fun x47 =>
 if ¬ (S.1 51 8) = x47 then
 (some (0 : Int32))
 else
 (some (1 : Int32))) : Option Int32)).bind fun x2 =>
 (m_X4_leastFrom S (S.1 51 7) x2).bind fun x5 =>
 lt (st_i S 51 2 x5) fun S6 =>
 m_X4_walk_L0 m_X4_walk_r0 fu x2 (S6.1 51 7) S6
def m_X4_solve (fu : Nat) (S : St) : Option St :=
 (m_X4_priceAll fu S).bind fun S2 =>
 (m_X4_weighAll fu S2).bind fun S4 =>
 (m_X4_walk fu S4).bind fun S6 =>
 some S6
def m_X4_spentAhead_r0 (x3 : Int32) (x4 : Int32) : Option Int32 :=
 some x3
def m_X4_spentAhead_L0 (a1 : Int32) (S : St) (k_0 : (Int32 → Int32 → Option Int32)) : Nat → Int32 → Int32 → Option Int32
  | 0, _, _ => none
  | n_0 + 1, x1, x2 =>
      if a1 ≤ x2 then
      (k_0 x1 x2)
      else
      (if (8 : Int32) ≤ x2 then
      (k_0 x1 x2)
      else
      ((m_X5_get 8 (S.1 58) x2).bind fun x8 =>
      m_X4_spentAhead_L0 a1 S k_0 n_0 (x1 + x8) (x2 + (1 : Int32))))
theorem m_X4_spentAhead_L0_z (a1 : Int32) (S : St) (k_0 : (Int32 → Int32 → Option Int32)) (x1 : Int32) (x2 : Int32) : m_X4_spentAhead_L0 a1 S k_0 0 x1 x2 = none := rfl
theorem m_X4_spentAhead_L0_s (a1 : Int32) (S : St) (k_0 : (Int32 → Int32 → Option Int32)) (n_0 : Nat) (x1 : Int32) (x2 : Int32) : m_X4_spentAhead_L0 a1 S k_0 (n_0 + 1) x1 x2 =
 if a1 ≤ x2 then
 (k_0 x1 x2)
 else
 (if (8 : Int32) ≤ x2 then
 (k_0 x1 x2)
 else
 ((m_X5_get 8 (S.1 58) x2).bind fun x8 =>
 m_X4_spentAhead_L0 a1 S k_0 n_0 (x1 + x8) (x2 + (1 : Int32)))) := rfl
def m_X4_spentAhead (fu : Nat) (S : St) (a1 : Int32) : Option Int32 :=
 m_X4_spentAhead_L0 a1 S m_X4_spentAhead_r0 fu (0 : Int32) (S.1 51 7)
def m_X6_greatestCommon_r0 (x4 : Int32) (x5 : Int32) (x6 : Int32) : Option Int32 :=
 some x4
def m_X6_greatestCommon_L0 (k_0 : (Int32 → Int32 → Int32 → Option Int32)) : Nat → Int32 → Int32 → Int32 → Option Int32
  | 0, _, _, _ => none
  | n_0 + 1, x1, x2, x3 =>
      if (100 : Int32) ≤ x3 then
      (k_0 x1 x2 x3)
      else
      (if x2 = (0 : Int32) then
      (k_0 x1 x2 x3)
      else
      (nz x2 (m_X6_greatestCommon_L0 k_0 n_0 x2 (x1 - x1 / x2 * x2) (x3 + (1 : Int32)))))
theorem m_X6_greatestCommon_L0_z (k_0 : (Int32 → Int32 → Int32 → Option Int32)) (x1 : Int32) (x2 : Int32) (x3 : Int32) : m_X6_greatestCommon_L0 k_0 0 x1 x2 x3 = none := rfl
theorem m_X6_greatestCommon_L0_s (k_0 : (Int32 → Int32 → Int32 → Option Int32)) (n_0 : Nat) (x1 : Int32) (x2 : Int32) (x3 : Int32) : m_X6_greatestCommon_L0 k_0 (n_0 + 1) x1 x2 x3 =
 if (100 : Int32) ≤ x3 then
 (k_0 x1 x2 x3)
 else
 (if x2 = (0 : Int32) then
 (k_0 x1 x2 x3)
 else
 (nz x2 (m_X6_greatestCommon_L0 k_0 n_0 x2 (x1 - x1 / x2 * x2) (x3 + (1 : Int32))))) := rfl
def m_X6_greatestCommon (fu : Nat) (a0 : Int32) (a1 : Int32) : Option Int32 :=
 m_X6_greatestCommon_L0 m_X6_greatestCommon_r0 fu a0 a1 (0 : Int32)
def m_X6_inLeastTerms (fu : Nat) (a0 : Int32) (a1 : Int32) : Option Int32 :=
 (m_X6_greatestCommon fu a0 a1).bind fun x2 =>
 if x2 ≤ (0 : Int32) then
 (some a0)
 else
 (nz x2 (some (a0 / x2)))
def m_X7_append (S : St) (a1 : Int32) : Option St :=
 (m_X5_put S 2 200 (S.1 1 0) a1).bind fun S2 =>
 lt (st_i S2 1 0 ((S2.1 1 0) + (1 : Int32))) fun S3 =>
 some S3
def m_X8_allLeftIfTook_r0 (x2 : Int32) : Option Int32 :=
 some (1 : Int32)
def m_X8_allLeftIfTook_L0 (fu : Nat) (a1 : Int32) (S : St) (k_0 : (Int32 → Option Int32)) : Nat → Int32 → Option Int32
  | 0, _ => none
  | n_0 + 1, x1 =>
      if (S.1 0 11) ≤ x1 then
      (k_0 x1)
      else
      (if (6 : Int32) ≤ x1 then
      (k_0 x1)
      else
      ((m_X5_get 6 (S.1 60) x1).bind fun x6 =>
      if ((S.1 8 0) + x6) ≤ (S.1 6 0) then
      (((if ((S.1 8 0) + x6) ≤ a1 then
      (some (0 : Int32))
      else
      (some (1 : Int32)) : Option Int32)).bind fun x9 =>
      (m_X4_spentAhead fu S ((S.1 8 0) + x6)).bind fun x12 =>
      (m_X5_get 6 (S.1 61) x1).bind fun x14 =>
      if (((S.1 8 2) - x12) - x9) = x14 then
      (m_X8_allLeftIfTook_L0 fu a1 S k_0 n_0 (x1 + (1 : Int32)))
      else
      (some (0 : Int32)))
      else
      (some (0 : Int32))))
theorem m_X8_allLeftIfTook_L0_z (fu : Nat) (a1 : Int32) (S : St) (k_0 : (Int32 → Option Int32)) (x1 : Int32) : m_X8_allLeftIfTook_L0 fu a1 S k_0 0 x1 = none := rfl
theorem m_X8_allLeftIfTook_L0_s (fu : Nat) (a1 : Int32) (S : St) (k_0 : (Int32 → Option Int32)) (n_0 : Nat) (x1 : Int32) : m_X8_allLeftIfTook_L0 fu a1 S k_0 (n_0 + 1) x1 =
 if (S.1 0 11) ≤ x1 then
 (k_0 x1)
 else
 (if (6 : Int32) ≤ x1 then
 (k_0 x1)
 else
 ((m_X5_get 6 (S.1 60) x1).bind fun x6 =>
 if ((S.1 8 0) + x6) ≤ (S.1 6 0) then
 (((if ((S.1 8 0) + x6) ≤ a1 then
 (some (0 : Int32))
 else
 (some (1 : Int32)) : Option Int32)).bind fun x9 =>
 (m_X4_spentAhead fu S ((S.1 8 0) + x6)).bind fun x12 =>
 (m_X5_get 6 (S.1 61) x1).bind fun x14 =>
 if (((S.1 8 2) - x12) - x9) = x14 then
 (m_X8_allLeftIfTook_L0 fu a1 S k_0 n_0 (x1 + (1 : Int32)))
 else
 (some (0 : Int32)))
 else
 (some (0 : Int32)))) := rfl
def m_X8_allLeftIfTook (fu : Nat) (S : St) (a1 : Int32) : Option Int32 :=
 m_X8_allLeftIfTook_L0 fu a1 S m_X8_allLeftIfTook_r0 fu (0 : Int32)
def m_X8_asRock (S : St) (a1 : Int32) : Option (Int32 × St) :=
 lt (st_l S 0 12 ((S.2 0 12) + (1 : Int64))) fun S1 =>
 (m_X0_tollOf S1 a1).bind fun x3 =>
 some (x3, S1)
def m_X8_asBend (S : St) (a1 : Int32) : Option (Int32 × St) :=
 lt (st_l S 0 12 ((S.2 0 12) + (100000 : Int64))) fun S1 =>
 ob2 (m_X8_asRock S1 a1) fun x3 S4 =>
 some (x3 + (S4.1 8 1), S4)
def m_X8_asChain (S : St) (a1 : Int32) : Option (Int32 × St) :=
 lt (st_l S 0 12 ((S.2 0 12) + (10 : Int64))) fun S1 =>
 ob2 (m_X8_asRock S1 a1) fun x3 S4 =>
 (m_X3_fact S4 a1 (3 : Int32)).bind fun x6 =>
 some (x3 + x6, S4)
def m_X8_asBridge (S : St) (a1 : Int32) : Option (Int32 × St) :=
 lt (st_l S 0 12 ((S.2 0 12) + (1000 : Int64))) fun S1 =>
 ob2 (m_X8_asChain S1 a1) fun x3 S4 =>
 some ((2 : Int32) * x3, S4)
def m_X8_asTower (S : St) (a1 : Int32) : Option (Int32 × St) :=
 lt (st_l S 0 12 ((S.2 0 12) + (100 : Int64))) fun S1 =>
 ob2 (m_X8_asRock S1 a1) fun x3 S4 =>
 (m_X3_fact S4 a1 (4 : Int32)).bind fun x6 =>
 some (x3 - x6, S4)
def m_X8_asIsle (S : St) (a1 : Int32) : Option (Int32 × St) :=
 lt (st_l S 0 12 ((S.2 0 12) + (10000 : Int64))) fun S1 =>
 ob2 (m_X8_asTower S1 a1) fun x3 S4 =>
 some (x3 + a1, S4)
def m_X8_imageOf (S : St) (a1 : Int32) : Option (Option Nat) :=
 if a1 < (0 : Int32) then
 (some (none : Option Nat))
 else
 (if (2 : Int32) ≤ a1 then
 (some (none : Option Nat))
 else
 (if (2 : Int32) ≤ a1 then
 (some (none : Option Nat))
 else
 (nb 2 a1 (some (some (44 + 3 * a1.toNatClampNeg))))))
def m_X8_back (fu : Nat) (S : St) (a1 : Int32) : Option (Int32 × St) :=
 (m_X8_imageOf S a1).bind fun o2 =>
 on o2 (some ((-1 : Int32), S)) fun b3 =>
 (m_X5_get 2 (S.1 50) a1).bind fun x5 =>
 if ¬ x5 = (0 : Int32) then
 ((m_X0_become fu S 8 b3).bind fun S8 =>
 (m_X1_forgetAll S8).bind fun S10 =>
 some (S10.1 8 0, S10))
 else
 (some ((-2 : Int32), S))
def m_X8_bitsAhead_r0 (x3 : Int32) (x4 : Int32) : Option Int32 :=
 some x3
def m_X8_bitsAhead_L0 (S : St) (k_0 : (Int32 → Int32 → Option Int32)) : Nat → Int32 → Int32 → Option Int32
  | 0, _, _ => none
  | n_0 + 1, x1, x2 =>
      if (S.1 6 0) ≤ x2 then
      (k_0 x1 x2)
      else
      (lt (x1 ||| ((1 : Int32) <<< (x2 &&& 31))) fun x6 =>
      m_X8_bitsAhead_L0 S k_0 n_0 x6 (x2 + (1 : Int32)))
theorem m_X8_bitsAhead_L0_z (S : St) (k_0 : (Int32 → Int32 → Option Int32)) (x1 : Int32) (x2 : Int32) : m_X8_bitsAhead_L0 S k_0 0 x1 x2 = none := rfl
theorem m_X8_bitsAhead_L0_s (S : St) (k_0 : (Int32 → Int32 → Option Int32)) (n_0 : Nat) (x1 : Int32) (x2 : Int32) : m_X8_bitsAhead_L0 S k_0 (n_0 + 1) x1 x2 =
 if (S.1 6 0) ≤ x2 then
 (k_0 x1 x2)
 else
 (lt (x1 ||| ((1 : Int32) <<< (x2 &&& 31))) fun x6 =>
 m_X8_bitsAhead_L0 S k_0 n_0 x6 (x2 + (1 : Int32))) := rfl
def m_X8_bitsAhead (fu : Nat) (S : St) : Option Int32 :=
 m_X8_bitsAhead_L0 S m_X8_bitsAhead_r0 fu (0 : Int32) (S.1 8 0)
def m_X8_isRock (S : St) (a1 : Int32) : Option Int32 :=
 if a1 < (0 : Int32) then
 (some (0 : Int32))
 else
 (if (S.1 6 0) ≤ a1 then
 (some (0 : Int32))
 else
 (some (1 : Int32)))
def m_X8_breaks (fu : Nat) (S : St) (a1 : Int32) : Option (Int32 × St) :=
 (m_X8_isRock S a1).bind fun x2 =>
 if ¬ x2 = (0 : Int32) then
 ((m_X0_isBroken S a1).bind fun x5 =>
 if x5 = (0 : Int32) then
 ((m_X1_remember fu S).bind fun S8 =>
 lt (st_i S8 8 5 ((S8.1 8 5) ||| ((1 : Int32) <<< (a1 &&& 31)))) fun S9 =>
 (m_J6_bitCount_0f7a4 (S9.1 8 5)).bind fun x11 =>
 some (x11, S9))
 else
 (some ((-2 : Int32), S)))
 else
 (some ((-1 : Int32), S))
def m_X8_isLord (a1 : Int32) : Option Int32 :=
 if a1 < (0 : Int32) then
 (some (0 : Int32))
 else
 (if (3 : Int32) < a1 then
 (some (0 : Int32))
 else
 (some (1 : Int32)))
def m_X8_findWay (fu : Nat) (S : St) : Option St :=
 (m_X4_load fu S).bind fun S2 =>
 (m_X4_solve fu S2).bind fun S4 =>
 some S4
def m_X8_byLord_r0 (S5 : St) (x8 : Int32) (x9 : Int32) : Option (Int32 × St) :=
 some (x8, S5)
def m_X8_byLord_L0 (a1 : Int32) (S5 : St) (k_0 : (Int32 → Int32 → Option (Int32 × St))) : Nat → Int32 → Int32 → Option (Int32 × St)
  | 0, _, _ => none
  | n_0 + 1, x6, x7 =>
      if (S5.1 6 0) ≤ x7 then
      (k_0 x6 x7)
      else
      ((m_X3_fact S5 x7 (2 : Int32)).bind fun x12 =>
      ((if ¬ x12 = a1 then
      (some x6)
      else
      ((m_X5_get 8 (S5.1 53) x7).bind fun x17 =>
      some (x6 + x17)) : Option Int32)).bind fun x14 =>
      m_X8_byLord_L0 a1 S5 k_0 n_0 x14 (x7 + (1 : Int32)))
theorem m_X8_byLord_L0_z (a1 : Int32) (S5 : St) (k_0 : (Int32 → Int32 → Option (Int32 × St))) (x6 : Int32) (x7 : Int32) : m_X8_byLord_L0 a1 S5 k_0 0 x6 x7 = none := rfl
theorem m_X8_byLord_L0_s (a1 : Int32) (S5 : St) (k_0 : (Int32 → Int32 → Option (Int32 × St))) (n_0 : Nat) (x6 : Int32) (x7 : Int32) : m_X8_byLord_L0 a1 S5 k_0 (n_0 + 1) x6 x7 =
 if (S5.1 6 0) ≤ x7 then
 (k_0 x6 x7)
 else
 ((m_X3_fact S5 x7 (2 : Int32)).bind fun x12 =>
 ((if ¬ x12 = a1 then
 (some x6)
 else
 ((m_X5_get 8 (S5.1 53) x7).bind fun x17 =>
 some (x6 + x17)) : Option Int32)).bind fun x14 =>
 m_X8_byLord_L0 a1 S5 k_0 n_0 x14 (x7 + (1 : Int32))) := rfl
def m_X8_byLord (fu : Nat) (S : St) (a1 : Int32) : Option (Int32 × St) :=
 (m_X8_isLord a1).bind fun x2 =>
 if ¬ x2 = (0 : Int32) then
 ((m_X8_findWay fu S).bind fun S5 =>
 m_X8_byLord_L0 a1 S5 (m_X8_byLord_r0 S5) fu (0 : Int32) (S5.1 8 0))
 else
 (some ((-1 : Int32), S))
def m_X8_priceOf (S : St) (a1 : Int32) (a2 : Int32) : Option Int32 :=
 (m_X0_isBroken S a1).bind fun x2 =>
 if x2 = (0 : Int32) then
 ((m_X0_tollOf S a1).bind fun x5 =>
 (m_X3_price S a1 x5 a2).bind fun x7 =>
 some x7)
 else
 (some (0 : Int32))
def m_X8_cheap_r0 (fu : Nat) (a1 : Int32) (a2 : Int32) (S : St) (x8 : Int32) (x9 : Int32) : Option Int32 :=
 if ¬ a2 = (0 : Int32) then
 ((m_X8_priceOf S a1 x8).bind fun x12 =>
 if ¬ a2 = (1 : Int32) then
 ((m_X6_inLeastTerms fu x8 x12).bind fun x15 =>
 some x15)
 else
 ((m_X6_inLeastTerms fu x12 x8).bind fun x17 =>
 some x17))
 else
 (some x8)
def m_X8_cheap_L0 (a1 : Int32) (S : St) (k_0 : (Int32 → Int32 → Option Int32)) : Nat → Int32 → Int32 → Option Int32
  | 0, _, _ => none
  | n_0 + 1, x6, x7 =>
      if (30 : Int32) < x7 then
      (k_0 x6 x7)
      else
      ((m_X8_priceOf S a1 x7).bind fun x20 =>
      (m_X8_priceOf S a1 x6).bind fun x22 =>
      ((if (x22 * x7) ≤ (x20 * x6) then
      (some x6)
      else
      (some x7) : Option Int32)).bind fun x24 =>
      m_X8_cheap_L0 a1 S k_0 n_0 x24 (x7 + (1 : Int32)))
theorem m_X8_cheap_L0_z (a1 : Int32) (S : St) (k_0 : (Int32 → Int32 → Option Int32)) (x6 : Int32) (x7 : Int32) : m_X8_cheap_L0 a1 S k_0 0 x6 x7 = none := rfl
theorem m_X8_cheap_L0_s (a1 : Int32) (S : St) (k_0 : (Int32 → Int32 → Option Int32)) (n_0 : Nat) (x6 : Int32) (x7 : Int32) : m_X8_cheap_L0 a1 S k_0 (n_0 + 1) x6 x7 =
 if (30 : Int32) < x7 then
 (k_0 x6 x7)
 else
 ((m_X8_priceOf S a1 x7).bind fun x20 =>
 (m_X8_priceOf S a1 x6).bind fun x22 =>
 ((if (x22 * x7) ≤ (x20 * x6) then
 (some x6)
 else
 (some x7) : Option Int32)).bind fun x24 =>
 m_X8_cheap_L0 a1 S k_0 n_0 x24 (x7 + (1 : Int32))) := rfl
def m_X8_cheap (fu : Nat) (S : St) (a1 : Int32) (a2 : Int32) : Option Int32 :=
 (m_X8_isRock S a1).bind fun x2 =>
 if x2 = (0 : Int32) then
 (some (-1 : Int32))
 else
 (if a2 < (0 : Int32) then
 (some (-1 : Int32))
 else
 (if a2 ≤ (2 : Int32) then
 (m_X8_cheap_L0 a1 S (m_X8_cheap_r0 fu a1 a2 S) fu (1 : Int32) (2 : Int32))
 else
 (some (-1 : Int32))))
def m_X8_clear (S : St) : Option (Int32 × St) :=
 lt (st_i S 1 0 (0 : Int32)) fun S1 =>
 some (S.1 1 0, S1)
def m_X8_costIfBroken (fu : Nat) (S : St) (a1 : Int32) : Option (Int32 × St) :=
 (m_X4_load fu S).bind fun S2 =>
 lt (st_i S2 51 1 ((S2.1 51 1) ||| a1)) fun S3 =>
 (m_X4_solve fu S3).bind fun S5 =>
 some (S5.1 51 2, S5)
def m_X8_costOf (fu : Nat) (S : St) (a1 : Int32) : Option (Int32 × St) :=
 (m_X4_load fu S).bind fun S2 =>
 lt (st_i S2 51 0 a1) fun S3 =>
 (m_X4_solve fu S3).bind fun S5 =>
 some (S5.1 51 2, S5)
def m_X8_count (S : St) (a1 : Int32) : Option Int32 :=
 if a1 = (0 : Int32) then
 (some (S.1 6 0))
 else
 (if a1 = (1 : Int32) then
 (some (S.1 0 11))
 else
 (if a1 = (2 : Int32) then
 (some (S.1 1 0))
 else
 (some (-1 : Int32))))
def m_X8_draw (a0 : Int32) (a1 : Int32) : Option Int32 :=
 lt ((((7919 : Int64) * a0.toInt64) + ((6151 : Int64) * a1.toInt64)) + (1 : Int64)) fun x1 =>
 some ((((x1 * x1) - (x1 * x1) / (65521 : Int64) * (65521 : Int64)) / (8 : Int64)).toInt32)
def m_X8_dueHere (S : St) : Option Int32 :=
 (m_X3_fact S (S.1 8 0) (2 : Int32)).bind fun x2 =>
 ((if ¬ (S.1 8 3) = x2 then
 (some (0 : Int32))
 else
 (some (1 : Int32)) : Option Int32)).bind fun x4 =>
 if x4 = (0 : Int32) then
 ((m_X8_priceOf S (S.1 8 0) (S.1 8 1)).bind fun x8 =>
 some x8)
 else
 (some (0 : Int32))
def m_X8_enough (fu : Nat) (S : St) : Option (Int32 × St) :=
 (m_X8_findWay fu S).bind fun S2 =>
 if (S2.1 8 2) < (S2.1 51 2) then
 (some ((0 : Int32), S2))
 else
 (some ((1 : Int32), S2))
def m_X8_forget (S : St) : Option (Int32 × St) :=
 lt (st_i S 0 11 (0 : Int32)) fun S1 =>
 some (S.1 0 11, S1)
def m_X8_goOn (S : St) (a1 : Int32) : Option St :=
 lt (st_i S 8 3 a1) fun S1 =>
 lt (st_i S1 8 0 ((S1.1 8 0) + (1 : Int32))) fun S2 =>
 some S2
def m_X8_got (S : St) (a1 : Int32) : Option Int32 :=
 (m_X8_isLord a1).bind fun x2 =>
 if x2 = (0 : Int32) then
 (some (-1 : Int32))
 else
 ((m_X5_get 4 (S.1 10) a1).bind fun x5 =>
 some x5)
def m_X8_isAtSea (S : St) : Option Int32 :=
 if (S.1 8 0) < (S.1 6 0) then
 (some (0 : Int32))
 else
 (some (1 : Int32))
def m_X8_keep (fu : Nat) (S : St) (a1 : Int32) : Option (Int32 × St) :=
 (m_X8_imageOf S a1).bind fun o2 =>
 on o2 (some ((-1 : Int32), S)) fun b3 =>
 (m_X0_become fu S b3 8).bind fun S5 =>
 (m_X5_put S5 50 2 a1 (1 : Int32)).bind fun S7 =>
 some (S7.1 8 0, S7)
def m_X8_lands (fu : Nat) (S : St) : Option (Int32 × St) :=
 (m_X8_isAtSea S).bind fun x2 =>
 if x2 = (0 : Int32) then
 ((m_X3_fact S (S.1 8 0) (4 : Int32)).bind fun x5 =>
 if (x5 * (S.1 8 1)) ≤ (S.1 8 2) then
 ((m_X1_remember fu S).bind fun S8 =>
 lt (st_i S8 8 2 ((S8.1 8 2) - (x5 * (S.1 8 1)))) fun S9 =>
 (m_X8_goOn S9 (-9 : Int32)).bind fun S11 =>
 some (x5 * (S.1 8 1), S11))
 else
 (some ((-2 : Int32), S)))
 else
 (some ((-2 : Int32), S))
def m_X8_left (S : St) (a1 : Int32) (a2 : Int32) : Option (Int32 × St) :=
 if a1 < (0 : Int32) then
 (some ((-1 : Int32), S))
 else
 (if (8 : Int32) < a1 then
 (some ((-1 : Int32), S))
 else
 (if a2 < (0 : Int32) then
 (some ((-1 : Int32), S))
 else
 (if a2 ≤ (900 : Int32) then
 (if (S.1 0 11) < (6 : Int32) then
 ((m_X5_put S 60 6 (S.1 0 11) a1).bind fun S7 =>
 (m_X5_put S7 61 6 (S7.1 0 11) a2).bind fun S9 =>
 lt (st_i S9 0 11 ((S9.1 0 11) + (1 : Int32))) fun S10 =>
 some (S10.1 0 11, S10))
 else
 (some ((-3 : Int32), S)))
 else
 (some ((-1 : Int32), S)))))
def m_X8_paidIfToll (fu : Nat) (S : St) (a1 : Int32) (a2 : Int32) : Option (Int32 × St) :=
 (m_X4_load fu S).bind fun S2 =>
 (m_X5_put S2 52 8 a1 a2).bind fun S4 =>
 (m_X4_solve fu S4).bind fun S6 =>
 (m_X5_get 8 (S6.1 53) a1).bind fun x8 =>
 some (x8, S6)
def m_X8_most_r0 (a2 : Int32) (x14 : Int32) (x15 : Int32) (x16 : Int32) (S17 : St) : Option (Int32 × St) :=
 if ¬ a2 = (0 : Int32) then
 (some (x15, S17))
 else
 (some (x14, S17))
def m_X8_most_L0 (fu : Nat) (a1 : Int32) (k_0 : (Int32 → Int32 → Int32 → St → Option (Int32 × St))) : Nat → Int32 → Int32 → Int32 → St → Option (Int32 × St)
  | 0, _, _, _, _ => none
  | n_0 + 1, x10, x11, x12, S13 =>
      if (9 : Int32) < x12 then
      (k_0 x10 x11 x12 S13)
      else
      (ob2 (m_X8_paidIfToll fu S13 a1 x12) fun x21 S22 =>
      ob2 (if x21 ≤ x11 then
      (some (x10, x11))
      else
      (some (x12, x21)) : Option (Int32 × Int32)) fun x24 x25 =>
      m_X8_most_L0 fu a1 k_0 n_0 x24 x25 (x12 + (1 : Int32)) S22)
theorem m_X8_most_L0_z (fu : Nat) (a1 : Int32) (k_0 : (Int32 → Int32 → Int32 → St → Option (Int32 × St))) (x10 : Int32) (x11 : Int32) (x12 : Int32) (S13 : St) : m_X8_most_L0 fu a1 k_0 0 x10 x11 x12 S13 = none := rfl
theorem m_X8_most_L0_s (fu : Nat) (a1 : Int32) (k_0 : (Int32 → Int32 → Int32 → St → Option (Int32 × St))) (n_0 : Nat) (x10 : Int32) (x11 : Int32) (x12 : Int32) (S13 : St) : m_X8_most_L0 fu a1 k_0 (n_0 + 1) x10 x11 x12 S13 =
 if (9 : Int32) < x12 then
 (k_0 x10 x11 x12 S13)
 else
 (ob2 (m_X8_paidIfToll fu S13 a1 x12) fun x21 S22 =>
 ob2 (if x21 ≤ x11 then
 (some (x10, x11))
 else
 (some (x12, x21)) : Option (Int32 × Int32)) fun x24 x25 =>
 m_X8_most_L0 fu a1 k_0 n_0 x24 x25 (x12 + (1 : Int32)) S22) := rfl
def m_X8_most (fu : Nat) (S : St) (a1 : Int32) (a2 : Int32) : Option (Int32 × St) :=
 (m_X8_isRock S a1).bind fun x2 =>
 if x2 = (0 : Int32) then
 (some ((-1 : Int32), S))
 else
 (if a2 < (0 : Int32) then
 (some ((-1 : Int32), S))
 else
 (if a2 ≤ (1 : Int32) then
 (if a1 < (S.1 8 0) then
 (some ((-9 : Int32), S))
 else
 ((m_X0_isBroken S a1).bind fun x8 =>
 if x8 = (0 : Int32) then
 (m_X8_most_L0 fu a1 (m_X8_most_r0 a2) fu (0 : Int32) (0 : Int32) (0 : Int32) S)
 else
 (some ((-9 : Int32), S))))
 else
 (some ((-1 : Int32), S))))
def m_X8_nights (fu : Nat) (S : St) (a1 : Int32) : Option (Int32 × St) :=
 if a1 < (0 : Int32) then
 (some ((-1 : Int32), S))
 else
 (if a1 ≤ (9999 : Int32) then
 ((m_X8_isAtSea S).bind fun x4 =>
 if x4 = (0 : Int32) then
 ((m_X1_remember fu S).bind fun S7 =>
 (m_X8_draw a1 (S7.1 8 0)).bind fun x9 =>
 (m_X3_fact S7 (S7.1 8 0) (3 : Int32)).bind fun x11 =>
 ((if x11 ≤ (x9 - x9 / (10 : Int32) * (10 : Int32)) then
 (some (0 : Int32))
 else
 (some (1 : Int32)) : Option Int32)).bind fun x13 =>
 ((if x13 = (0 : Int32) then
 (some (0 : Int32))
 else
 (some ((S7.1 8 1) - ((S7.1 8 1) / (2 : Int32)))) : Option Int32)).bind fun x16 =>
 lt (st_i S7 8 1 ((S7.1 8 1) - x16)) fun S18 =>
 lt (st_i S18 8 4 ((S18.1 8 4) + x16)) fun S19 =>
 (m_X8_goOn S19 (-9 : Int32)).bind fun S21 =>
 some (x16, S21))
 else
 (some ((-2 : Int32), S)))
 else
 (some ((-1 : Int32), S)))
def m_X8_now (S : St) (a1 : Int32) : Option Int32 :=
 if a1 = (0 : Int32) then
 (some (S.1 8 0))
 else
 (if a1 = (1 : Int32) then
 (some (S.1 8 1))
 else
 (if a1 = (2 : Int32) then
 (some (S.1 8 2))
 else
 (if a1 = (3 : Int32) then
 (some (S.1 8 3))
 else
 (if a1 = (4 : Int32) then
 (some (S.1 8 4))
 else
 (if a1 = (5 : Int32) then
 ((m_X8_isAtSea S).bind fun x3 =>
 if x3 = (0 : Int32) then
 ((m_X8_dueHere S).bind fun x6 =>
 some x6)
 else
 (some (-9 : Int32)))
 else
 (if a1 = (6 : Int32) then
 (some (S.1 11 0))
 else
 (some (-1 : Int32))))))))
def m_X8_odds_r0 (fu : Nat) (a2 : Int32) (x8 : Int32) (x9 : Int32) (x10 : Int32) : Option Int32 :=
 if ¬ a2 = (0 : Int32) then
 ((m_X6_inLeastTerms fu x9 x8).bind fun x13 =>
 some x13)
 else
 ((m_X6_inLeastTerms fu x8 x9).bind fun x15 =>
 some x15)
def m_X8_odds_L0 (a1 : Int32) (S : St) (k_0 : (Int32 → Int32 → Int32 → Option Int32)) : Nat → Int32 → Int32 → Int32 → Option Int32
  | 0, _, _, _ => none
  | n_0 + 1, x5, x6, x7 =>
      if (S.1 6 0) ≤ x7 then
      (k_0 x5 x6 x7)
      else
      (ob2 (if ¬ ((a1 >>> (x7 &&& 31)) &&& (1 : Int32)) = (1 : Int32) then
      (some (x5, x6))
      else
      ((m_X3_fact S x7 (3 : Int32)).bind fun x22 =>
      some (x5 * ((10 : Int32) - x22), x6 * (10 : Int32))) : Option (Int32 × Int32)) fun x18 x19 =>
      m_X8_odds_L0 a1 S k_0 n_0 x18 x19 (x7 + (1 : Int32)))
theorem m_X8_odds_L0_z (a1 : Int32) (S : St) (k_0 : (Int32 → Int32 → Int32 → Option Int32)) (x5 : Int32) (x6 : Int32) (x7 : Int32) : m_X8_odds_L0 a1 S k_0 0 x5 x6 x7 = none := rfl
theorem m_X8_odds_L0_s (a1 : Int32) (S : St) (k_0 : (Int32 → Int32 → Int32 → Option Int32)) (n_0 : Nat) (x5 : Int32) (x6 : Int32) (x7 : Int32) : m_X8_odds_L0 a1 S k_0 (n_0 + 1) x5 x6 x7 =
 if (S.1 6 0) ≤ x7 then
 (k_0 x5 x6 x7)
 else
 (ob2 (if ¬ ((a1 >>> (x7 &&& 31)) &&& (1 : Int32)) = (1 : Int32) then
 (some (x5, x6))
 else
 ((m_X3_fact S x7 (3 : Int32)).bind fun x22 =>
 some (x5 * ((10 : Int32) - x22), x6 * (10 : Int32))) : Option (Int32 × Int32)) fun x18 x19 =>
 m_X8_odds_L0 a1 S k_0 n_0 x18 x19 (x7 + (1 : Int32))) := rfl
def m_X8_odds (fu : Nat) (S : St) (a1 : Int32) (a2 : Int32) : Option Int32 :=
 if a1 < (0 : Int32) then
 (some (-1 : Int32))
 else
 (if ((1 : Int32) <<< ((S.1 6 0) &&& 31)) ≤ a1 then
 (some (-1 : Int32))
 else
 (if a2 < (0 : Int32) then
 (some (-1 : Int32))
 else
 (if a2 ≤ (1 : Int32) then
 (m_X8_odds_L0 a1 S (m_X8_odds_r0 fu a2) fu (1 : Int32) (1 : Int32) (S.1 8 0))
 else
 (some (-1 : Int32)))))
def m_X8_one (fu : Nat) (S : St) : Option (Int32 × St) :=
 if (0 : Int32) < (S.1 8 1) then
 ((m_X8_findWay fu S).bind fun S3 =>
 (m_X6_upward (S3.1 51 2) (S3.1 8 1)).bind fun x5 =>
 some (x5, S3))
 else
 (some ((-9 : Int32), S))
def m_X8_pays (fu : Nat) (S : St) : Option (Int32 × St) :=
 (m_X8_isAtSea S).bind fun x2 =>
 if x2 = (0 : Int32) then
 ((m_X8_dueHere S).bind fun x5 =>
 if x5 ≤ (S.1 8 2) then
 ((m_X1_remember fu S).bind fun S8 =>
 (m_X3_fact S8 (S8.1 8 0) (2 : Int32)).bind fun x10 =>
 lt (st_i S8 8 2 ((S8.1 8 2) - x5)) fun S11 =>
 (m_X5_get 4 (S11.1 10) x10).bind fun x13 =>
 (m_X5_put S11 10 4 x10 (x13 + x5)).bind fun S15 =>
 ((if x5 ≤ (0 : Int32) then
 (some (-9 : Int32))
 else
 (some x10) : Option Int32)).bind fun x17 =>
 (m_X8_goOn S15 x17).bind fun S20 =>
 some (x5, S20))
 else
 (some ((-2 : Int32), S)))
 else
 (some ((-2 : Int32), S))
def m_X8_rate (S : St) (a1 : Int32) (a2 : Int32) : Option (Int32 × St) :=
 (m_X8_isRock S a2).bind fun x2 =>
 if ¬ x2 = (0 : Int32) then
 (if a1 = (0 : Int32) then
 (ob2 (m_X8_asRock S a2) fun x6 S7 =>
 some (x6, S7))
 else
 (if a1 = (1 : Int32) then
 (ob2 (m_X8_asChain S a2) fun x9 S10 =>
 some (x9, S10))
 else
 (if a1 = (2 : Int32) then
 (ob2 (m_X8_asTower S a2) fun x12 S13 =>
 some (x12, S13))
 else
 (if a1 = (3 : Int32) then
 (ob2 (m_X8_asBridge S a2) fun x15 S16 =>
 some (x15, S16))
 else
 (if a1 = (4 : Int32) then
 (ob2 (m_X8_asIsle S a2) fun x18 S19 =>
 some (x18, S19))
 else
 (if a1 = (5 : Int32) then
 (ob2 (m_X8_asBend S a2) fun x21 S22 =>
 some (x21, S22))
 else
 (some ((-1000000 : Int32), S))))))))
 else
 (some ((-1000000 : Int32), S))
def m_X8_river_r0 (x13 : Int32) (S14 : St) : Option (Int32 × St) :=
 lt (st_i S14 0 11 (0 : Int32)) fun S15 =>
 lt (st_i S15 1 0 (0 : Int32)) fun S16 =>
 some (S16.1 6 3, S16)
def m_X8_river_L0 (k_0 : (Int32 → St → Option (Int32 × St))) : Nat → Int32 → St → Option (Int32 × St)
  | 0, _, _ => none
  | n_0 + 1, x11, S12 =>
      if (2 : Int32) ≤ x11 then
      (k_0 x11 S12)
      else
      ((m_X5_put S12 50 2 x11 (0 : Int32)).bind fun S19 =>
      m_X8_river_L0 k_0 n_0 (x11 + (1 : Int32)) S19)
theorem m_X8_river_L0_z (k_0 : (Int32 → St → Option (Int32 × St))) (x11 : Int32) (S12 : St) : m_X8_river_L0 k_0 0 x11 S12 = none := rfl
theorem m_X8_river_L0_s (k_0 : (Int32 → St → Option (Int32 × St))) (n_0 : Nat) (x11 : Int32) (S12 : St) : m_X8_river_L0 k_0 (n_0 + 1) x11 S12 =
 if (2 : Int32) ≤ x11 then
 (k_0 x11 S12)
 else
 ((m_X5_put S12 50 2 x11 (0 : Int32)).bind fun S19 =>
 m_X8_river_L0 k_0 n_0 (x11 + (1 : Int32)) S19) := rfl
def m_X8_river (fu : Nat) (S : St) : Option (Int32 × St) :=
 ob2 (m_X2_read fu S) fun x2 S3 =>
 if x2 = (-1 : Int32) then
 ((m_X3_become fu S3).bind fun S6 =>
 (m_X0_start fu S6).bind fun S8 =>
 (m_X1_forgetAll S8).bind fun S10 =>
 m_X8_river_L0 m_X8_river_r0 fu (0 : Int32) S10)
 else
 (some ((-10 : Int32) - x2, S3))
def m_X8_rock (S : St) (a1 : Int32) (a2 : Int32) : Option Int32 :=
 (m_X8_isRock S a1).bind fun x2 =>
 if x2 = (0 : Int32) then
 (some (-1 : Int32))
 else
 (if a2 < (0 : Int32) then
 (some (-1 : Int32))
 else
 (if a2 ≤ (5 : Int32) then
 (if ¬ a2 = (0 : Int32) then
 (if ¬ a2 = (5 : Int32) then
 ((m_X3_fact S a1 a2).bind fun x9 =>
 some x9)
 else
 ((m_X0_isBroken S a1).bind fun x11 =>
 if x11 = (0 : Int32) then
 (some (0 : Int32))
 else
 (some (1 : Int32))))
 else
 ((m_X0_tollOf S a1).bind fun x14 =>
 some x14))
 else
 (some (-1 : Int32))))
def m_X8_sells (fu : Nat) (S : St) (a1 : Int32) (a2 : Int32) : Option (Int32 × St) :=
 if a1 < (1 : Int32) then
 (some ((-1 : Int32), S))
 else
 (if (30 : Int32) < a1 then
 (some ((-1 : Int32), S))
 else
 (if a2 < (0 : Int32) then
 (some ((-1 : Int32), S))
 else
 (if a2 ≤ (30 : Int32) then
 (if (S.1 8 1) < a1 then
 (some ((-2 : Int32), S))
 else
 (if ((S.1 8 2) + (a1 * a2)) ≤ (999999 : Int32) then
 ((m_X1_remember fu S).bind fun S8 =>
 lt (st_i S8 8 1 ((S8.1 8 1) - a1)) fun S9 =>
 lt (st_i S9 8 2 ((S.1 8 2) + (a1 * a2))) fun S10 =>
 some ((S.1 8 2) + (a1 * a2), S10))
 else
 (some ((-2 : Int32), S))))
 else
 (some ((-1 : Int32), S)))))
def m_X8_sets (fu : Nat) (S : St) (a1 : Int32) (a2 : Int32) : Option (Int32 × St) :=
 (m_X8_isRock S a1).bind fun x2 =>
 if x2 = (0 : Int32) then
 (some ((-1 : Int32), S))
 else
 (if a2 < (0 : Int32) then
 (some ((-1 : Int32), S))
 else
 (if a2 ≤ (9 : Int32) then
 ((m_X1_remember fu S).bind fun S7 =>
 (m_X0_tollOf S7 a1).bind fun x9 =>
 (m_X5_put S7 9 8 a1 a2).bind fun S11 =>
 some (x9, S11))
 else
 (some ((-1 : Int32), S))))
def m_X8_still_r0 (x4 : Int32) (x5 : Int32) (S6 : St) : Option (Int32 × St) :=
 some (x4, S6)
def m_X8_still_L0 (fu : Nat) (k_0 : (Int32 → Int32 → St → Option (Int32 × St))) : Nat → Int32 → Int32 → St → Option (Int32 × St)
  | 0, _, _, _ => none
  | n_0 + 1, x1, x2, S3 =>
      if (S3.1 6 0) ≤ x2 then
      (k_0 x1 x2 S3)
      else
      ((m_X0_tollOf S3 x2).bind fun x9 =>
      ob2 (m_X8_paidIfToll fu S3 x2 x9) fun x11 S12 =>
      ob2 (if x11 ≤ (0 : Int32) then
      (some (x1, S12))
      else
      (ob2 (m_X8_paidIfToll fu S12 x2 (x9 + (1 : Int32))) fun x18 S19 =>
      if x18 ≤ (0 : Int32) then
      (some (x1, S19))
      else
      (lt (x1 ||| ((1 : Int32) <<< (x2 &&& 31))) fun x21 =>
      some (x21, S19))) : Option (Int32 × St)) fun x14 S15 =>
      m_X8_still_L0 fu k_0 n_0 x14 (x2 + (1 : Int32)) S15)
theorem m_X8_still_L0_z (fu : Nat) (k_0 : (Int32 → Int32 → St → Option (Int32 × St))) (x1 : Int32) (x2 : Int32) (S3 : St) : m_X8_still_L0 fu k_0 0 x1 x2 S3 = none := rfl
theorem m_X8_still_L0_s (fu : Nat) (k_0 : (Int32 → Int32 → St → Option (Int32 × St))) (n_0 : Nat) (x1 : Int32) (x2 : Int32) (S3 : St) : m_X8_still_L0 fu k_0 (n_0 + 1) x1 x2 S3 =
 if (S3.1 6 0) ≤ x2 then
 (k_0 x1 x2 S3)
 else
 ((m_X0_tollOf S3 x2).bind fun x9 =>
 ob2 (m_X8_paidIfToll fu S3 x2 x9) fun x11 S12 =>
 ob2 (if x11 ≤ (0 : Int32) then
 (some (x1, S12))
 else
 (ob2 (m_X8_paidIfToll fu S12 x2 (x9 + (1 : Int32))) fun x18 S19 =>
 if x18 ≤ (0 : Int32) then
 (some (x1, S19))
 else
 (lt (x1 ||| ((1 : Int32) <<< (x2 &&& 31))) fun x21 =>
 some (x21, S19))) : Option (Int32 × St)) fun x14 S15 =>
 m_X8_still_L0 fu k_0 n_0 x14 (x2 + (1 : Int32)) S15) := rfl
def m_X8_still (fu : Nat) (S : St) : Option (Int32 × St) :=
 m_X8_still_L0 fu m_X8_still_r0 fu (0 : Int32) (S.1 8 0) S
def m_X8_takes (S : St) (a1 : Int32) (a2 : Int32) : Option Int32 :=
 (m_X8_isRock S a1).bind fun x2 =>
 if x2 = (0 : Int32) then
 (some (-1 : Int32))
 else
 (if a2 < (0 : Int32) then
 (some (-1 : Int32))
 else
 (if a2 ≤ (30 : Int32) then
 ((m_X8_priceOf S a1 a2).bind fun x7 =>
 some x7)
 else
 (some (-1 : Int32))))
def m_X8_toBreak_r0 (x4 : Int32) (x7 : Int32) (S8 : St) : Option (Int32 × St) :=
 some (x4, S8)
def m_X8_toBreak_r1 (x5 : Int32) (b_0 : (Int32 → St → Option (Int32 × St))) (x12 : Int32) (S13 : St) : Option (Int32 × St) :=
 b_0 (x5 + (1 : Int32)) S13
def m_X8_toBreak_L1 (fu : Nat) (a1 : Int32) (x4 : Int32) (x5 : Int32) (k_1 : (Int32 → St → Option (Int32 × St))) : Nat → Int32 → St → Option (Int32 × St)
  | 0, _, _ => none
  | n_1 + 1, x10, S11 =>
      if (256 : Int32) ≤ x10 then
      (k_1 x10 S11)
      else
      ((m_J6_bitCount_0f7a4 x10).bind fun x16 =>
      ((if ¬ x16 = x5 then
      (some (0 : Int32))
      else
      (if ¬ (x10 &&& (x4 ^^^ (-1 : Int32))) = (0 : Int32) then
      (some (0 : Int32))
      else
      (some (1 : Int32))) : Option Int32)).bind fun x18 =>
      if x18 = (0 : Int32) then
      (m_X8_toBreak_L1 fu a1 x4 x5 k_1 n_1 (x10 + (1 : Int32)) S11)
      else
      (ob2 (m_X8_costIfBroken fu S11 x10) fun x22 S23 =>
      if a1 < x22 then
      (m_X8_toBreak_L1 fu a1 x4 x5 k_1 n_1 (x10 + (1 : Int32)) S23)
      else
      (some (x10, S23))))
theorem m_X8_toBreak_L1_z (fu : Nat) (a1 : Int32) (x4 : Int32) (x5 : Int32) (k_1 : (Int32 → St → Option (Int32 × St))) (x10 : Int32) (S11 : St) : m_X8_toBreak_L1 fu a1 x4 x5 k_1 0 x10 S11 = none := rfl
theorem m_X8_toBreak_L1_s (fu : Nat) (a1 : Int32) (x4 : Int32) (x5 : Int32) (k_1 : (Int32 → St → Option (Int32 × St))) (n_1 : Nat) (x10 : Int32) (S11 : St) : m_X8_toBreak_L1 fu a1 x4 x5 k_1 (n_1 + 1) x10 S11 =
 if (256 : Int32) ≤ x10 then
 (k_1 x10 S11)
 else
 ((m_J6_bitCount_0f7a4 x10).bind fun x16 =>
 ((if ¬ x16 = x5 then
 (some (0 : Int32))
 else
 (if ¬ (x10 &&& (x4 ^^^ (-1 : Int32))) = (0 : Int32) then
 (some (0 : Int32))
 else
 (some (1 : Int32))) : Option Int32)).bind fun x18 =>
 if x18 = (0 : Int32) then
 (m_X8_toBreak_L1 fu a1 x4 x5 k_1 n_1 (x10 + (1 : Int32)) S11)
 else
 (ob2 (m_X8_costIfBroken fu S11 x10) fun x22 S23 =>
 if a1 < x22 then
 (m_X8_toBreak_L1 fu a1 x4 x5 k_1 n_1 (x10 + (1 : Int32)) S23)
 else
 (some (x10, S23)))) := rfl
def m_X8_toBreak_L0 (fu : Nat) (a1 : Int32) (x4 : Int32) (k_0 : (Int32 → St → Option (Int32 × St))) : Nat → Int32 → St → Option (Int32 × St)
  | 0, _, _ => none
  | n_0 + 1, x5, S6 =>
      if (8 : Int32) < x5 then
      (k_0 x5 S6)
      else
      (m_X8_toBreak_L1 fu a1 x4 x5 (m_X8_toBreak_r1 x5 (fun z0 z1 => m_X8_toBreak_L0 fu a1 x4 k_0 n_0 z0 z1)) fu (0 : Int32) S6)
theorem m_X8_toBreak_L0_z (fu : Nat) (a1 : Int32) (x4 : Int32) (k_0 : (Int32 → St → Option (Int32 × St))) (x5 : Int32) (S6 : St) : m_X8_toBreak_L0 fu a1 x4 k_0 0 x5 S6 = none := rfl
theorem m_X8_toBreak_L0_s (fu : Nat) (a1 : Int32) (x4 : Int32) (k_0 : (Int32 → St → Option (Int32 × St))) (n_0 : Nat) (x5 : Int32) (S6 : St) : m_X8_toBreak_L0 fu a1 x4 k_0 (n_0 + 1) x5 S6 =
 if (8 : Int32) < x5 then
 (k_0 x5 S6)
 else
 (m_X8_toBreak_L1 fu a1 x4 x5 (m_X8_toBreak_r1 x5 (fun z0 z1 => m_X8_toBreak_L0 fu a1 x4 k_0 n_0 z0 z1)) fu (0 : Int32) S6) := rfl
def m_X8_toBreak (fu : Nat) (S : St) (a1 : Int32) : Option (Int32 × St) :=
 if a1 < (0 : Int32) then
 (some ((-1 : Int32), S))
 else
 (if a1 ≤ (9999 : Int32) then
 ((m_X8_bitsAhead fu S).bind fun x4 =>
 m_X8_toBreak_L0 fu a1 x4 (m_X8_toBreak_r0 x4) fu (0 : Int32) S)
 else
 (some ((-1 : Int32), S)))
def m_X8_took_r0 (fu : Nat) (S2 : St) (x5 : Int32) (x6 : Int32) : Option (Int32 × St) :=
 (m_X8_allLeftIfTook fu S2 (8 : Int32)).bind fun x8 =>
 ((if x8 = (0 : Int32) then
 (some x5)
 else
 (some (x5 ||| (256 : Int32))) : Option Int32)).bind fun x10 =>
 some (x10, S2)
def m_X8_took_L0 (fu : Nat) (S2 : St) (k_0 : (Int32 → Int32 → Option (Int32 × St))) : Nat → Int32 → Int32 → Option (Int32 × St)
  | 0, _, _ => none
  | n_0 + 1, x3, x4 =>
      if (S2.1 6 0) ≤ x4 then
      (k_0 x3 x4)
      else
      ((m_X8_allLeftIfTook fu S2 x4).bind fun x15 =>
      ((if x15 = (0 : Int32) then
      (some x3)
      else
      (lt (x3 ||| ((1 : Int32) <<< (x4 &&& 31))) fun x19 =>
      some x19) : Option Int32)).bind fun x17 =>
      m_X8_took_L0 fu S2 k_0 n_0 x17 (x4 + (1 : Int32)))
theorem m_X8_took_L0_z (fu : Nat) (S2 : St) (k_0 : (Int32 → Int32 → Option (Int32 × St))) (x3 : Int32) (x4 : Int32) : m_X8_took_L0 fu S2 k_0 0 x3 x4 = none := rfl
theorem m_X8_took_L0_s (fu : Nat) (S2 : St) (k_0 : (Int32 → Int32 → Option (Int32 × St))) (n_0 : Nat) (x3 : Int32) (x4 : Int32) : m_X8_took_L0 fu S2 k_0 (n_0 + 1) x3 x4 =
 if (S2.1 6 0) ≤ x4 then
 (k_0 x3 x4)
 else
 ((m_X8_allLeftIfTook fu S2 x4).bind fun x15 =>
 ((if x15 = (0 : Int32) then
 (some x3)
 else
 (lt (x3 ||| ((1 : Int32) <<< (x4 &&& 31))) fun x19 =>
 some x19) : Option Int32)).bind fun x17 =>
 m_X8_took_L0 fu S2 k_0 n_0 x17 (x4 + (1 : Int32))) := rfl
def m_X8_took (fu : Nat) (S : St) : Option (Int32 × St) :=
 (m_X8_findWay fu S).bind fun S2 =>
 m_X8_took_L0 fu S2 (m_X8_took_r0 fu S2) fu (0 : Int32) (S2.1 8 0)
def m_X8_trace (S : St) : Option Int64 :=
 some (S.2 0 12)
def m_X8_two_r0 (a1 : Int32) (x14 : Int32) (x15 : Int32) (x16 : Int32) (S17 : St) : Option (Int32 × St) :=
 if ¬ a1 = (0 : Int32) then
 (some (x15, S17))
 else
 (some (x14, S17))
def m_X8_two_L0 (fu : Nat) (k_0 : (Int32 → Int32 → Int32 → St → Option (Int32 × St))) : Nat → Int32 → Int32 → Int32 → St → Option (Int32 × St)
  | 0, _, _, _, _ => none
  | n_0 + 1, x10, x11, x12, S13 =>
      if ((S13.1 8 1) / (2 : Int32)) < x12 then
      (k_0 x10 x11 x12 S13)
      else
      (ob2 (m_X8_costOf fu S13 x12) fun x21 S22 =>
      ob2 (m_X8_costOf fu S22 ((S22.1 8 1) - x12)) fun x24 S25 =>
      ob2 (if x11 ≤ (x21 + x24) then
      (some (x10, x11))
      else
      (some (x12, x21 + x24)) : Option (Int32 × Int32)) fun x27 x28 =>
      m_X8_two_L0 fu k_0 n_0 x27 x28 (x12 + (1 : Int32)) S25)
theorem m_X8_two_L0_z (fu : Nat) (k_0 : (Int32 → Int32 → Int32 → St → Option (Int32 × St))) (x10 : Int32) (x11 : Int32) (x12 : Int32) (S13 : St) : m_X8_two_L0 fu k_0 0 x10 x11 x12 S13 = none := rfl
theorem m_X8_two_L0_s (fu : Nat) (k_0 : (Int32 → Int32 → Int32 → St → Option (Int32 × St))) (n_0 : Nat) (x10 : Int32) (x11 : Int32) (x12 : Int32) (S13 : St) : m_X8_two_L0 fu k_0 (n_0 + 1) x10 x11 x12 S13 =
 if ((S13.1 8 1) / (2 : Int32)) < x12 then
 (k_0 x10 x11 x12 S13)
 else
 (ob2 (m_X8_costOf fu S13 x12) fun x21 S22 =>
 ob2 (m_X8_costOf fu S22 ((S22.1 8 1) - x12)) fun x24 S25 =>
 ob2 (if x11 ≤ (x21 + x24) then
 (some (x10, x11))
 else
 (some (x12, x21 + x24)) : Option (Int32 × Int32)) fun x27 x28 =>
 m_X8_two_L0 fu k_0 n_0 x27 x28 (x12 + (1 : Int32)) S25) := rfl
def m_X8_two (fu : Nat) (S : St) (a1 : Int32) : Option (Int32 × St) :=
 if a1 < (0 : Int32) then
 (some ((-1 : Int32), S))
 else
 (if a1 ≤ (1 : Int32) then
 (if (2 : Int32) ≤ (S.1 8 1) then
 (ob2 (m_X8_costOf fu S (1 : Int32)) fun x5 S6 =>
 ob2 (m_X8_costOf fu S6 ((S6.1 8 1) - (1 : Int32))) fun x8 S9 =>
 m_X8_two_L0 fu (m_X8_two_r0 a1) fu (1 : Int32) (x5 + x8) (2 : Int32) S9)
 else
 (some ((-9 : Int32), S)))
 else
 (some ((-1 : Int32), S)))
def m_X8_type (S : St) (a1 : Int32) : Option (Int32 × St) :=
 if a1 < (0 : Int32) then
 (some ((-1 : Int32), S))
 else
 (if a1 ≤ (255 : Int32) then
 (if (S.1 1 0) < (200 : Int32) then
 ((m_X7_append S a1).bind fun S5 =>
 some (S5.1 1 0, S5))
 else
 (some ((-3 : Int32), S)))
 else
 (some ((-1 : Int32), S)))
def m_X8_undo (fu : Nat) (S : St) : Option (Int32 × St) :=
 if ¬ (S.1 11 0) = (0 : Int32) then
 ((m_X1_restore fu S).bind fun S3 =>
 some (S3.1 11 0, S3))
 else
 (some ((-2 : Int32), S))
def m_X8_way (fu : Nat) (S : St) (a1 : Int32) : Option (Int32 × St) :=
 if a1 < (-1 : Int32) then
 (some ((-1 : Int32), S))
 else
 (if a1 < (S.1 6 0) then
 (if a1 = (-1 : Int32) then
 ((m_X8_findWay fu S).bind fun S5 =>
 if ¬ a1 = (-1 : Int32) then
 ((m_X5_get 8 (S5.1 54) a1).bind fun x8 =>
 some (x8, S5))
 else
 (some (S5.1 51 2, S5)))
 else
 (if (S.1 8 0) ≤ a1 then
 ((m_X8_findWay fu S).bind fun S11 =>
 if ¬ a1 = (-1 : Int32) then
 ((m_X5_get 8 (S11.1 54) a1).bind fun x14 =>
 some (x14, S11))
 else
 (some (S11.1 51 2, S11)))
 else
 (some ((-9 : Int32), S))))
 else
 (some ((-1 : Int32), S)))
