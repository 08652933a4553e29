/-! river: what was told becomes the river -/
theorem start_L1 (k0 : Int32 → St → Option St) : ∀ (d i f : Nat) (S : St), i + d = 4 → d < f → ∃ S1 : St, m_X0_start_L1 k0 f (nI i) S = k0 (nI 4) S1 ∧ (∀ k : Nat, i ≤ k → k < 4 → S1.1 10 k = 0) ∧ (∀ k : Nat, k < i → S1.1 10 k = S.1 10 k) ∧ (∀ a : Nat, a ≠ 10 → S1.1 a = S.1 a) ∧ S1.2 = S.2 := by
  intro d
  induction d with
  | zero =>
    intro i f S q1 q2
    obtain ⟨f, rfl⟩ : ∃ z, f = z + 1 := ⟨f - 1, by omega⟩
    obtain rfl : i = 4 := by omega
    rw [m_X0_start_L1, if_pos (by decide)]
    exact ⟨S, rfl, fun k a b => by omega, fun _ _ => rfl, fun _ _ => rfl, rfl⟩
  | succ d ih =>
    intro i f S q1 q2
    obtain ⟨f, rfl⟩ : ∃ z, f = z + 1 := ⟨f - 1, by omega⟩
    rw [m_X0_start_L1, if_neg (show ¬ (3 : Int32) < nI i from nI_nlt (a := 3) (by omega) (by omega)), put_n (by omega) (by omega)]
    simp only [Option.bind_some]
    rw [nI_1]
    obtain ⟨S1, e1, e2, e3, e4, e5⟩ := ih (i + 1) f (st_i S 10 i 0) (by omega) (by omega)
    refine ⟨S1, e1, fun k a b => ?_, fun k a => ?_, fun a b => (e4 a b).trans (st_n b), e5⟩
    · by_cases c : k = i
      · subst c; rw [e3 k (by omega), st_s, upd_s]
      · exact e2 k (by omega) b
    · rw [e3 k (by omega), st_s, upd_n (by omega)]
theorem start_L0 (k0 : Int32 → St → Option St) : ∀ (d i f : Nat) (S : St), i + d = 8 → d < f → ∃ S1 : St, m_X0_start_L0 k0 f (nI i) S = k0 (nI 8) S1 ∧ (∀ k : Nat, i ≤ k → k < 8 → S1.1 9 k = S.1 7 (5 * k)) ∧ (∀ k : Nat, k < i → S1.1 9 k = S.1 9 k) ∧ (∀ a : Nat, a ≠ 9 → S1.1 a = S.1 a) ∧ S1.2 = S.2 := by
  intro d
  induction d with
  | zero =>
    intro i f S q1 q2
    obtain ⟨f, rfl⟩ : ∃ z, f = z + 1 := ⟨f - 1, by omega⟩
    obtain rfl : i = 8 := by omega
    rw [m_X0_start_L0, if_pos (by decide)]
    exact ⟨S, rfl, fun k a b => by omega, fun _ _ => rfl, fun _ _ => rfl, rfl⟩
  | succ d ih =>
    intro i f S q1 q2
    obtain ⟨f, rfl⟩ : ∃ z, f = z + 1 := ⟨f - 1, by omega⟩
    rw [m_X0_start_L0, if_neg (show ¬ (8 : Int32) ≤ nI i from nI_ge (b := 8) (by omega) (by omega)), show (0 : Int32) = nI 0 from rfl, fact_n (by omega) (by omega)]
    simp only [Option.bind_some]
    rw [put_n (by omega) (by omega)]
    simp only [Option.bind_some]
    rw [nI_1]
    obtain ⟨S1, e1, e2, e3, e4, e5⟩ := ih (i + 1) f (st_i S 9 i (S.1 7 (5 * i + 0))) (by omega) (by omega)
    refine ⟨S1, e1, fun k a b => ?_, fun k a => ?_, fun a b => (e4 a b).trans (st_n b), e5⟩
    · by_cases c : k = i
      · subst c; rw [e3 k (by omega), st_s, upd_s, Nat.add_zero]
      · rw [e2 k (by omega) b, st_n (by omega)]
    · rw [e3 k (by omega), st_s, upd_n (by omega)]
theorem xStart {fu : Nat} (S : St) (hf : 300 ≤ fu) : ∃ S1 : St, m_X0_start fu S = some S1 ∧ S1.1 8 0 = 0 ∧ S1.1 8 1 = S.1 6 1 ∧ S1.1 8 2 = S.1 6 2 ∧ S1.1 8 3 = -9 ∧ S1.1 8 4 = 0 ∧ S1.1 8 5 = 0 ∧ (∀ k : Nat, k < 8 → S1.1 9 k = S.1 7 (5 * k)) ∧ (∀ k : Nat, k < 4 → S1.1 10 k = 0) ∧ (∀ a : Nat, a ≠ 8 → a ≠ 9 → a ≠ 10 → S1.1 a = S.1 a) ∧ S1.2 = S.2 := by
  unfold m_X0_start
  simp only [lt_e]
  obtain ⟨S1, e1, e2, -, e4, e5⟩ := start_L0 (m_X0_start_r0 fu) 8 0 fu (st_i (st_i (st_i (st_i (st_i (st_i S 8 0 0) 8 1 ((st_i S 8 0 0).1 6 1)) 8 2 ((st_i (st_i S 8 0 0) 8 1 ((st_i S 8 0 0).1 6 1)).1 6 2)) 8 3 (-9)) 8 4 0) 8 5 0) (by omega) (by omega)
  obtain ⟨S2, g1, g2, -, g4, g5⟩ := start_L1 m_X0_start_r1 4 0 fu S1 (by omega) (by omega)
  rw [show nI 0 = (0 : Int32) from rfl] at e1 g1
  rw [e1]
  unfold m_X0_start_r0
  rw [g1]
  have h8 : S2.1 8 = (st_i (st_i (st_i (st_i (st_i (st_i S 8 0 0) 8 1 ((st_i S 8 0 0).1 6 1)) 8 2 ((st_i (st_i S 8 0 0) 8 1 ((st_i S 8 0 0).1 6 1)).1 6 2)) 8 3 (-9)) 8 4 0) 8 5 0).1 8 := by rw [g4 8 (by omega), e4 8 (by omega)]
  refine ⟨S2, rfl, ?_, ?_, ?_, ?_, ?_, ?_, fun k hk => ?_, fun k hk => g2 k (by omega) hk, fun a a1 a2 a3 => ?_, by rw [g5, e5]; rfl⟩
  · rw [h8]; rfl
  · rw [h8]; rfl
  · rw [h8]; rfl
  · rw [h8]; rfl
  · rw [h8]; rfl
  · rw [h8]; rfl
  · rw [g4 9 (by omega), e2 k (by omega) hk, st_n (by omega), st_n (by omega), st_n (by omega), st_n (by omega), st_n (by omega), st_n (by omega)]
  · rw [g4 a a3, e4 a a2, st_n a1, st_n a1, st_n a1, st_n a1, st_n a1, st_n a1]
theorem xBecome3 {fu : Nat} (S : St) (hf : 300 ≤ fu) : ∃ S1 : St, m_X3_become fu S = some S1 ∧ S1.1 6 0 = S.1 4 0 ∧ S1.1 6 1 = S.1 4 1 ∧ S1.1 6 2 = S.1 4 2 ∧ S1.1 6 3 = S.1 4 3 ∧ (∀ j : Nat, j < 40 → S1.1 7 j = S.1 5 j) ∧ (∀ a : Nat, a ≠ 6 → a ≠ 7 → S1.1 a = S.1 a) ∧ S1.2 = S.2 := by
  unfold m_X3_become
  simp only [lt_e]
  rw [xcopy _ (by omega) (by omega) (by omega)]
  refine ⟨_, rfl, ?_, ?_, ?_, ?_, fun j hj => ?_, fun a a1 a2 => ?_, rfl⟩
  · rw [cpo_o (by omega)]; rfl
  · rw [cpo_o (by omega)]; rfl
  · rw [cpo_o (by omega)]; rfl
  · rw [cpo_o (by omega)]; rfl
  · rw [cpo_w, if_pos (by omega), st_n (by omega), st_n (by omega), st_n (by omega), st_n (by omega), Nat.zero_add, Nat.sub_zero]
  · rw [cpo_o a2, st_n a1, st_n a1, st_n a1, st_n a1]
/-- the class's side of a river that is well -/
theorem xTold {fu : Nat} (S : St) (hf : 300 ≤ fu) : ∃ S1 : St, ((m_X3_become fu S).bind fun S6 => (m_X0_start fu S6).bind fun S8 => (m_X1_forgetAll S8).bind fun S10 => m_X8_river_L0 m_X8_river_r0 fu (0 : Int32) S10) = some (S.1 4 3, S1) ∧
    S1.1 6 0 = S.1 4 0 ∧ (∀ j : Nat, j < 40 → S1.1 7 j = S.1 5 j) ∧ S1.1 8 0 = 0 ∧ S1.1 8 1 = S.1 4 1 ∧ S1.1 8 2 = S.1 4 2 ∧ S1.1 8 3 = -9 ∧ S1.1 8 4 = 0 ∧ S1.1 8 5 = 0 ∧ (∀ k : Nat, k < 8 → S1.1 9 k = S.1 5 (5 * k)) ∧ (∀ k : Nat, k < 4 → S1.1 10 k = 0) ∧ S1.1 11 0 = 0 ∧ S1.1 11 1 = S.1 11 1 ∧ S1.1 50 0 = 0 ∧ S1.1 50 1 = 0 ∧ S1.1 0 11 = 0 ∧ S1.1 1 0 = 0 ∧ S1.2 = S.2 := by
  obtain ⟨A, a1, a2, a3, a4, a5, a6, a7, a8⟩ := xBecome3 S hf
  obtain ⟨B, b1, b2, b3, b4, b5, b6, b7, b8, b9, b10, b11⟩ := xStart A hf
  obtain ⟨g, rfl⟩ : ∃ z, fu = z + 3 := ⟨fu - 3, by omega⟩
  rw [a1]
  simp only [Option.bind_some]
  rw [b1]
  simp only [Option.bind_some]
  unfold m_X1_forgetAll
  simp only [lt_e, Option.bind_some]
  rw [m_X8_river_L0, if_neg (by decide), show m_X5_put (st_i B 11 0 0) 50 2 0 0 = some (st_i (st_i B 11 0 0) 50 0 0) from put_n (j := 0) (by omega) (by omega)]
  simp only [Option.bind_some]
  rw [show (0 : Int32) + 1 = 1 from rfl, m_X8_river_L0, if_neg (by decide), show m_X5_put (st_i (st_i B 11 0 0) 50 0 0) 50 2 1 0 = some (st_i (st_i (st_i B 11 0 0) 50 0 0) 50 1 0) from put_n (j := 1) (by omega) (by omega)]
  simp only [Option.bind_some]
  rw [show (1 : Int32) + 1 = 2 from rfl, m_X8_river_L0, if_pos (by decide)]
  unfold m_X8_river_r0
  simp only [lt_e]
  have h63 : (st_i (st_i (st_i (st_i (st_i B 11 0 0) 50 0 0) 50 1 0) 0 11 0) 1 0 0).1 6 3 = S.1 4 3 := by
    rw [st_n (by omega), st_n (by omega), st_n (by omega), st_n (by omega), st_n (by omega), b10 6 (by omega) (by omega) (by omega), a5]
  refine ⟨_, congrArg some (Prod.ext h63 rfl), ?_, fun j hj => ?_, ?_, ?_, ?_, ?_, ?_, ?_, fun k hk => ?_, fun k hk => ?_, ?_, ?_, ?_, ?_, ?_, ?_, ?_⟩
  · rw [st_n (by omega), st_n (by omega), st_n (by omega), st_n (by omega), st_n (by omega), b10 6 (by omega) (by omega) (by omega), a2]
  · rw [st_n (by omega), st_n (by omega), st_n (by omega), st_n (by omega), st_n (by omega), b10 7 (by omega) (by omega) (by omega), a6 j hj]
  · rw [st_n (by omega), st_n (by omega), st_n (by omega), st_n (by omega), st_n (by omega), b2]
  · rw [st_n (by omega), st_n (by omega), st_n (by omega), st_n (by omega), st_n (by omega), b3, a3]
  · rw [st_n (by omega), st_n (by omega), st_n (by omega), st_n (by omega), st_n (by omega), b4, a4]
  · rw [st_n (by omega), st_n (by omega), st_n (by omega), st_n (by omega), st_n (by omega), b5]
  · rw [st_n (by omega), st_n (by omega), st_n (by omega), st_n (by omega), st_n (by omega), b6]
  · rw [st_n (by omega), st_n (by omega), st_n (by omega), st_n (by omega), st_n (by omega), b7]
  · rw [st_n (by omega), st_n (by omega), st_n (by omega), st_n (by omega), st_n (by omega), b8 k hk, a6 (5 * k) (by omega)]
  · rw [st_n (by omega), st_n (by omega), st_n (by omega), st_n (by omega), st_n (by omega), b9 k hk]
  · rw [st_n (by omega), st_n (by omega), st_n (by omega), st_n (by omega), st_s, upd_s]
  · rw [st_n (by omega), st_n (by omega), st_n (by omega), st_n (by omega), st_s, upd_n (by omega), b10 11 (by omega) (by omega) (by omega), a7 11 (by omega) (by omega)]
  · rw [st_n (by omega), st_n (by omega), st_s, upd_n (by omega), st_s, upd_s]
  · rw [st_n (by omega), st_n (by omega), st_s, upd_s]
  · rw [st_n (by omega), st_s, upd_s]
  · rw [st_s, upd_s]
  · show B.2 = S.2
    rw [b11, a8]
theorem settles_L0 (k0 : Int32 → St → Option St) : ∀ (d i f : Nat) (T : St), i + d = 18 → d < f → ∃ T1 : St, m_X9_settles_L0 k0 f (nI i) T = k0 (nI 18) T1 ∧ (∀ k : Nat, i ≤ k → k < 18 → T1.1 8 k = 0) ∧ (∀ k : Nat, k < i → T1.1 8 k = T.1 8 k) ∧ (∀ a : Nat, a ≠ 8 → T1.1 a = T.1 a) ∧ T1.2 = T.2 := by
  intro d
  induction d with
  | zero =>
    intro i f S q1 q2
    obtain ⟨f, rfl⟩ : ∃ z, f = z + 1 := ⟨f - 1, by omega⟩
    obtain rfl : i = 18 := by omega
    rw [m_X9_settles_L0, if_pos (by decide)]
    exact ⟨S, rfl, fun k a b => by omega, fun _ _ => rfl, fun _ _ => rfl, rfl⟩
  | succ d ih =>
    intro i f S q1 q2
    obtain ⟨f, rfl⟩ : ∃ z, f = z + 1 := ⟨f - 1, by omega⟩
    rw [m_X9_settles_L0, if_neg (show ¬ (18 : Int32) ≤ nI i from nI_ge (b := 18) (by omega) (by omega)), ast_n (by omega) (by omega)]
    simp only [Option.bind_some]
    rw [nI_1]
    obtain ⟨S1, e1, e2, e3, e4, e5⟩ := ih (i + 1) f (st_i S 8 i 0) (by omega) (by omega)
    refine ⟨S1, e1, fun k a b => ?_, fun k a => ?_, fun a b => (e4 a b).trans (st_n b), e5⟩
    · by_cases c : k = i
      · subst c; rw [e3 k (by omega), st_s, upd_s]
      · exact e2 k (by omega) b
    · rw [e3 k (by omega), st_s, upd_n (by omega)]
def stS (T : St) (i : Nat) : St := st_i (st_i (st_i (st_i (st_i T 4 i (T.1 4 (8 + i))) 5 i (T.1 5 (8 + i))) 6 i (T.1 6 (8 + i))) 7 i (T.1 7 (8 + i))) 8 (6 + i) (T.1 3 i)
theorem settles_L1 {R : Nat} (hR : R ≤ 8) (k0 : Int32 → St → Option St) : ∀ (d i f : Nat) (T : St), i + d = R → d < f → T.1 2 0 = nI R → ∃ T1 : St, m_X9_settles_L1 k0 f (nI i) T = k0 (nI R) T1 ∧
    (∀ r : Nat, i ≤ r → r < R → T1.1 4 r = T.1 4 (8 + r) ∧ T1.1 5 r = T.1 5 (8 + r) ∧ T1.1 6 r = T.1 6 (8 + r) ∧ T1.1 7 r = T.1 7 (8 + r) ∧ T1.1 8 (6 + r) = T.1 3 r) ∧
    (∀ r : Nat, r < i → T1.1 4 r = T.1 4 r ∧ T1.1 5 r = T.1 5 r ∧ T1.1 6 r = T.1 6 r ∧ T1.1 7 r = T.1 7 r ∧ T1.1 8 (6 + r) = T.1 8 (6 + r)) ∧
    (∀ j : Nat, j < 6 ∨ 14 ≤ j → T1.1 8 j = T.1 8 j) ∧ (∀ a : Nat, a ≠ 4 → a ≠ 5 → a ≠ 6 → a ≠ 7 → a ≠ 8 → T1.1 a = T.1 a) ∧ T1.2 = T.2 := by
  intro d
  induction d with
  | zero =>
    intro i f T q1 q2 h
    obtain ⟨f, rfl⟩ : ∃ z, f = z + 1 := ⟨f - 1, by omega⟩
    obtain rfl : i = R := by omega
    rw [m_X9_settles_L1, h, if_pos (nI_le (by omega) (by omega))]
    exact ⟨T, rfl, fun r a b => by omega, fun _ _ => ⟨rfl, rfl, rfl, rfl, rfl⟩, fun _ _ => rfl, fun _ _ _ _ _ _ => rfl, rfl⟩
  | succ d ih =>
    intro i f T q1 q2 h
    obtain ⟨f, rfl⟩ : ∃ z, f = z + 1 := ⟨f - 1, by omega⟩
    have hU : m_X9_settles_L1 k0 (f + 1) (nI i) T = m_X9_settles_L1 k0 f (nI (i + 1)) (stS T i) := by
      rw [m_X9_settles_L1, h, if_neg (nI_ge (by omega) (by omega)), show (8 : Int32) + nI i = nI (8 + i) from nI_add 8 i, show (6 : Int32) + nI i = nI (6 + i) from nI_add 6 i, ald_n (by omega) (by omega)]
      simp only [Option.bind_some]
      rw [ast_n (by omega) (by omega)]
      simp only [Option.bind_some]
      rw [ald_n (by omega) (by omega), st_n (a := 5) (by omega)]
      simp only [Option.bind_some]
      rw [ast_n (by omega) (by omega)]
      simp only [Option.bind_some]
      rw [ald_n (by omega) (by omega), st_n (a := 6) (by omega), st_n (a := 6) (by omega)]
      simp only [Option.bind_some]
      rw [ast_n (by omega) (by omega)]
      simp only [Option.bind_some]
      rw [ald_n (by omega) (by omega), st_n (a := 7) (by omega), st_n (a := 7) (by omega), st_n (a := 7) (by omega)]
      simp only [Option.bind_some]
      rw [ast_n (by omega) (by omega)]
      simp only [Option.bind_some]
      rw [ald_n (by omega) (by omega), st_n (a := 3) (by omega), st_n (a := 3) (by omega), st_n (a := 3) (by omega), st_n (a := 3) (by omega)]
      simp only [Option.bind_some]
      rw [ast_n (by omega) (by omega)]
      simp only [Option.bind_some]
      rw [nI_1]
      rfl
    have u4 : ∀ j : Nat, (stS T i).1 4 j = if j = i then T.1 4 (8 + i) else T.1 4 j := fun j => by
      unfold stS; rw [st_n (by omega), st_n (by omega), st_n (by omega), st_n (by omega), st_s]; rfl
    have u5 : ∀ j : Nat, (stS T i).1 5 j = if j = i then T.1 5 (8 + i) else T.1 5 j := fun j => by
      unfold stS; rw [st_n (by omega), st_n (by omega), st_n (by omega), st_s, st_n (by omega)]; rfl
    have u6 : ∀ j : Nat, (stS T i).1 6 j = if j = i then T.1 6 (8 + i) else T.1 6 j := fun j => by
      unfold stS; rw [st_n (by omega), st_n (by omega), st_s, st_n (by omega), st_n (by omega)]; rfl
    have u7 : ∀ j : Nat, (stS T i).1 7 j = if j = i then T.1 7 (8 + i) else T.1 7 j := fun j => by
      unfold stS; rw [st_n (by omega), st_s, st_n (by omega), st_n (by omega), st_n (by omega)]; rfl
    have u8 : ∀ j : Nat, (stS T i).1 8 j = if j = 6 + i then T.1 3 i else T.1 8 j := fun j => by
      unfold stS; rw [st_s, st_n (by omega), st_n (by omega), st_n (by omega), st_n (by omega)]; rfl
    have ua : ∀ a : Nat, a ≠ 4 → a ≠ 5 → a ≠ 6 → a ≠ 7 → a ≠ 8 → (stS T i).1 a = T.1 a := fun a a4 a5 a6 a7 a8 => by
      unfold stS; rw [st_n a8, st_n a7, st_n a6, st_n a5, st_n a4]
    obtain ⟨T1, e1, e2, e3, e4, e5, e6⟩ := ih (i + 1) f (stS T i) (by omega) (by omega) (by rw [ua 2 (by omega) (by omega) (by omega) (by omega) (by omega)]; exact h)
    refine ⟨T1, hU.trans e1, fun r r1 r2 => ?_, fun r r1 => ?_, fun j hj => ?_, fun a a4 a5 a6 a7 a8 => (e5 a a4 a5 a6 a7 a8).trans (ua a a4 a5 a6 a7 a8), e6⟩
    · by_cases c : r = i
      · subst c
        obtain ⟨z1, z2, z3, z4, z5⟩ := e3 r (by omega)
        rw [z1, z2, z3, z4, z5, u4, u5, u6, u7, u8, if_pos rfl, if_pos rfl, if_pos rfl, if_pos rfl, if_pos rfl]
        exact ⟨rfl, rfl, rfl, rfl, rfl⟩
      · obtain ⟨z1, z2, z3, z4, z5⟩ := e2 r (by omega) r2
        rw [z1, z2, z3, z4, z5, u4, u5, u6, u7, ua 3 (by omega) (by omega) (by omega) (by omega) (by omega), if_neg (by omega), if_neg (by omega), if_neg (by omega), if_neg (by omega)]
        exact ⟨rfl, rfl, rfl, rfl, rfl⟩
    · obtain ⟨z1, z2, z3, z4, z5⟩ := e3 r (by omega)
      rw [z1, z2, z3, z4, z5, u4, u5, u6, u7, u8, if_neg (by omega), if_neg (by omega), if_neg (by omega), if_neg (by omega), if_neg (by omega)]
      exact ⟨rfl, rfl, rfl, rfl, rfl⟩
    · rw [e4 j hj, u8, if_neg (by omega)]
/-- the reference's side of a river that is well -/
theorem mTold {fu R : Nat} (T : St) (hf : 300 ≤ fu) (hR : R ≤ 8) (h1 : T.1 2 1 = nI R) : ∃ T1 : St, m_X9_settles fu T = some T1 ∧ T1.1 2 0 = nI R ∧ (∀ r : Nat, r < R → T1.1 4 r = T.1 4 (8 + r) ∧ T1.1 5 r = T.1 5 (8 + r) ∧ T1.1 6 r = T.1 6 (8 + r) ∧ T1.1 7 r = T.1 7 (8 + r) ∧ T1.1 8 (6 + r) = T.1 3 r) ∧ T1.1 8 0 = 0 ∧ T1.1 8 1 = T.1 2 2 ∧ T1.1 8 2 = T.1 2 3 ∧ T1.1 8 3 = 0 ∧ T1.1 8 4 = 0 ∧ T1.1 8 5 = 0 ∧ (∀ k : Nat, k < 4 → T1.1 8 (14 + k) = 0) ∧ T1.1 0 3 = 0 ∧ T1.1 0 24 = 0 ∧ T1.1 0 21 = 0 ∧ T1.1 11 0 = 0 ∧ T1.1 11 1 = 0 ∧ T1.2 = T.2 := by
  obtain ⟨A, a1, a2, -, a4, a5⟩ := settles_L0 (m_X9_settles_r0 fu) 18 0 fu (st_i T 2 0 (nI R)) (by omega) (by omega)
  have hA2 : A.1 2 0 = nI R := by rw [a4 2 (by omega), st_s, upd_s]
  obtain ⟨B, b1, b2, -, b4, b5, b6⟩ := settles_L1 hR m_X9_settles_r1 R 0 fu A (by omega) (by omega) hA2
  rw [show nI 0 = (0 : Int32) from rfl] at a1 b1
  unfold m_X9_settles
  rw [lt_e, h1, a1]
  unfold m_X9_settles_r0
  rw [b1]
  unfold m_X9_settles_r1
  simp only [lt_e]
  have hA : ∀ a : Nat, a ≠ 8 → a ≠ 2 → A.1 a = T.1 a := fun a x y => by rw [a4 a x, st_n y]
  have h22 : B.1 2 2 = T.1 2 2 := by rw [b5 2 (by omega) (by omega) (by omega) (by omega) (by omega), a4 2 (by omega), st_s, upd_n (by omega)]
  have h23 : (st_i B 8 1 (B.1 2 2)).1 2 3 = T.1 2 3 := by rw [st_n (by omega), b5 2 (by omega) (by omega) (by omega) (by omega) (by omega), a4 2 (by omega), st_s, upd_n (by omega)]
  rw [h23, h22]
  have e : ∀ a : Nat, a ≠ 8 → a ≠ 0 → a ≠ 11 → (st_i (st_i (st_i (st_i (st_i (st_i (st_i B 8 1 (T.1 2 2)) 8 2 (T.1 2 3)) 0 3 0) 0 24 0) 0 21 0) 11 0 0) 11 1 0).1 a = B.1 a := fun a x y z => by
    rw [st_n z, st_n z, st_n y, st_n y, st_n y, st_n x, st_n x]
  have e8 : ∀ j : Nat, (st_i (st_i (st_i (st_i (st_i (st_i (st_i B 8 1 (T.1 2 2)) 8 2 (T.1 2 3)) 0 3 0) 0 24 0) 0 21 0) 11 0 0) 11 1 0).1 8 j = if j = 2 then T.1 2 3 else if j = 1 then T.1 2 2 else B.1 8 j := fun j => by
    rw [st_n (by omega), st_n (by omega), st_n (by omega), st_n (by omega), st_n (by omega), st_s, st_s]; rfl
  refine ⟨_, rfl, ?_, fun r hr => ?_, ?_, ?_, ?_, ?_, ?_, ?_, fun k hk => ?_, ?_, ?_, ?_, ?_, ?_, ?_⟩
  · rw [e 2 (by omega) (by omega) (by omega), b5 2 (by omega) (by omega) (by omega) (by omega) (by omega)]; exact hA2
  · obtain ⟨z1, z2, z3, z4, z5⟩ := b2 r (by omega) hr
    rw [e 4 (by omega) (by omega) (by omega), e 5 (by omega) (by omega) (by omega), e 6 (by omega) (by omega) (by omega), e 7 (by omega) (by omega) (by omega), e8, if_neg (by omega), if_neg (by omega), z1, z2, z3, z4, z5, hA 4 (by omega) (by omega), hA 5 (by omega) (by omega), hA 6 (by omega) (by omega), hA 7 (by omega) (by omega), hA 3 (by omega) (by omega)]
    exact ⟨rfl, rfl, rfl, rfl, rfl⟩
  · rw [e8, if_neg (by omega), if_neg (by omega), b4 0 (by omega), a2 0 (by omega) (by omega)]
  · rw [e8, if_neg (by omega), if_pos rfl]
  · rw [e8, if_pos rfl]
  · rw [e8, if_neg (by omega), if_neg (by omega), b4 3 (by omega), a2 3 (by omega) (by omega)]
  · rw [e8, if_neg (by omega), if_neg (by omega), b4 4 (by omega), a2 4 (by omega) (by omega)]
  · rw [e8, if_neg (by omega), if_neg (by omega), b4 5 (by omega), a2 5 (by omega) (by omega)]
  · rw [e8, if_neg (by omega), if_neg (by omega), b4 (14 + k) (by omega), a2 (14 + k) (by omega) (by omega)]
  · rw [st_n (by omega), st_n (by omega), st_s, upd_n (by omega), st_s, upd_n (by omega), st_s, upd_s]
  · rw [st_n (by omega), st_n (by omega), st_s, upd_n (by omega), st_s, upd_s]
  · rw [st_n (by omega), st_n (by omega), st_s, upd_s]
  · rw [st_s, upd_n (by omega), st_s, upd_s]
  · rw [st_s, upd_s]
  · show B.2 = T.2
    rw [b6, a5]
    rfl
theorem Rel.ill {S T S' T' : St} (h : Rel S T) (hs : FS S S') (ht : FT T T') : Rel S' T' := by
  obtain ⟨n, h8, h1, h2, h3, h4, h5, h6, h7, h9, h10⟩ := h
  have e : ∀ k : Nat, (k < 3 ∨ 5 < k) → S'.1 k = S.1 k := fun k q => hs.1 k (by omega) (by omega) (by omega)
  have g : ∀ k : Nat, (k = 1 ∨ 8 ≤ k) → T'.1 k = T.1 k := ht.2.2.2.1
  refine ⟨n, h8, ?_, ?_, ?_, ?_, ?_, ?_, ?_, ?_, ?_⟩
  · rw [e 6 (by omega)]; exact h1
  · rw [ht.2.1]; exact h2
  · intro r hr
    obtain ⟨⟨a, a1, a2, a3, a4⟩, ⟨b, b1, b2, b3⟩, ⟨c, c1, c2, c3⟩, ⟨d, d1, d2, d3⟩⟩ := h3 r hr
    rw [e 7 (by omega), ht.2.2.1 4 (by omega) (by omega) r (by omega), ht.2.2.1 5 (by omega) (by omega) r (by omega), ht.2.2.1 6 (by omega) (by omega) r (by omega), ht.2.2.1 7 (by omega) (by omega) r (by omega)]
    exact ⟨⟨a, a1, a2, a3, a4⟩, ⟨b, b1, b2, b3⟩, ⟨c, c1, c2, c3⟩, ⟨d, d1, d2, d3⟩⟩
  · rw [e 8 (by omega), e 9 (by omega), e 10 (by omega), g 8 (by omega)]; exact h4
  · rw [e 1 (by omega), e 2 (by omega), ht.1 3 (by omega), g 1 (by omega)]; exact h5
  · rw [e 11 (by omega), ht.1 21 (by omega), g 12 (by omega)]
    exact h6.cg (fun k a b => e k (by omega))
  · rw [e 50 (by omega), g 11 (by omega), g 10 (by omega)]
    exact h7.cg (fun k a b => e k (by omega))
  · rw [e 0 (by omega), e 60 (by omega), e 61 (by omega), ht.1 24 (by omega), g 13 (by omega), g 14 (by omega)]; exact h9
  · rw [hs.2, ht.2.2.2.2]; exact h10
theorem ny_all : ∀ y : Nat, y ≤ 200 → ¬ nI y = (-1 : Int32) := by decide +kernel
theorem a_river {fu : Nat} {S T : St} (hf : 300 ≤ fu) (h : Rel S T) : Agr (m_X8_river fu S) (m_X9_river fu T) := by
  have h0 := h.thr
  obtain ⟨n, n8, -, -, -, -, ⟨L, L1, L2, L3, L4⟩, ⟨kk, xx, kx1, kx2, kx3, kx4, kx5, kx6⟩, -, -, htr⟩ := id h0
  have htx : ∀ j : Nat, j < L → S.1 2 j = nI (S.1 2 j).toNatClampNeg ∧ (st_i T 0 0 0).1 1 j = nI (S.1 2 j).toNatClampNeg ∧ (S.1 2 j).toNatClampNeg ≤ 255 := by
    intro j hj
    obtain ⟨l1, q, q1, q2⟩ := L4 j hj
    rw [← l1, q2, nI_clamp (by omega)]
    exact ⟨rfl, rfl, q1⟩
  have ht : ∀ j : Nat, j < L → (S.1 2 j).toNatClampNeg ≤ 255 := fun j hj => (htx j hj).2.2
  have hX : XT S L (fun j => (S.1 2 j).toNatClampNeg) := ⟨L2, fun j hj => (htx j hj).1⟩
  have hM : MT (st_i T 0 0 0) L (fun j => (S.1 2 j).toNatClampNeg) := ⟨L3, fun j hj => (htx j hj).2.1⟩
  unfold m_X8_river m_X9_river m_X2_read m_X3_untell
  simp only [lt_e, Option.bind_some]
  generalize hS5 : st_i (st_i (st_i (st_i (st_i (st_i (st_i S 4 0 0) 4 1 10) 4 2 100) 4 3 0) 3 1 0) 3 5 0) 3 6 0 = S5
  generalize hT7 : st_i (st_i (st_i (st_i (st_i (st_i (st_i T 0 0 0) 0 8 (-1)) 0 4 0) 0 15 0) 2 1 0) 2 2 10) 2 3 100 = T7
  have f5 : FS S S5 := by
    rw [← hS5]
    exact (((((((FS.st (by omega)).tr (FS.st (by omega))).tr (FS.st (by omega))).tr (FS.st (by omega))).tr (FS.st (by omega))).tr (FS.st (by omega))).tr (FS.st (by omega)))
  have f7 : FT (st_i T 0 0 0) T7 := by
    rw [← hT7]
    exact ((((((FT.st0 (by omega)).tr (FT.fa (FA.st (by omega)))).tr (FT.st0 (by omega))).tr (FT.st2 (by omega))).tr (FT.st2 (by omega))).tr (FT.st2 (by omega)))
  have t4 : T7.1 0 4 = nI 0 := by rw [← hT7]; rfl
  obtain ⟨T9, u1, u2, u3⟩ := adv_spec hf L1 ht (Nat.zero_le L) (f7.mt hM) t4
  rw [u1]
  simp only [Option.bind_some]
  have P : PT L (fun j => (S.1 2 j).toNatClampNeg) 0 S5 T9 := ⟨Nat.zero_le L, by rw [← hS5]; rfl, u2, by rw [u3.1 8 (by omega), ← hT7]; rfl⟩
  have D : DAT S (st_i T 0 0 0) 0 (5 * 0) 0 false false S5 T9 := by
    refine ⟨by rw [← hS5]; rfl, by rw [u3.2.1 2 (by omega), ← hT7]; rfl, by omega, ⟨10, by omega, by rw [← hS5]; rfl, by rw [u3.2.1 2 (by omega), ← hT7]; rfl⟩, by rw [u3.2.1 2 (by omega), ← hT7, ← hS5]; rfl, by rw [← hS5]; rfl, by rw [← hS5]; rfl, by rw [← hS5]; rfl, by rw [u3.1 15 (by omega), ← hT7]; rfl, fun r w q1 q2 => by omega, f5, f7.tr (FT.fa u3)⟩
  rcases read_L hf L1 ht hX hM 10 0 fu fu 0 0 false false S5 T9 (by omega) (by omega) (by omega) rfl P D with ⟨R, it, b', c', S', T', D', w', x1, x2⟩ | ⟨y, S', T', x1, x2, x3, x4⟩
  · rw [show nI 0 = (0 : Int32) from rfl] at x1 x2
    rw [x1, x2]
    simp only [ob2_s, if_true]
    unfold m_X9_river_r0
    rw [mWell w']
    simp only [Option.bind_some]
    rw [if_pos (show ¬ (1 : Int32) = 0 by decide)]
    obtain ⟨d1, d2, d3, ⟨B, d4, d4a, d4b⟩, d5, d6, d7, d8, d9, d10, d11, d12⟩ := D'
    obtain ⟨S1, a0, a1, a2, a3, a4, a5, a6, a7, a8, a9, a10, a11, a12, a13, a14, a15, a16, a17⟩ := xTold S' hf
    obtain ⟨T1, b0, b1, b2, b3, b4, b5, b6, b7, b8, b9, b10, b11, b12, b13, b14, b15⟩ := mTold T' hf d3 d2
    rw [a0, b0, d6]
    simp only [Option.bind_some]
    have rd : ∀ r w : Nat, r < R → w < 5 → ∃ q : Nat, loN w ≤ q ∧ q ≤ hiN w ∧ S'.1 5 (5 * r + w) = nI q ∧ T'.1 (3 + w) (ixN w r) = nI q := fun r w q1 q2 => d10 r w q2 (by omega)
    refine Agr.mk ⟨R, d3, ?_, b1, fun r hr => ?_, ⟨⟨0, by omega, ?_, ?_⟩, ⟨B, d4, ?_, ?_⟩, ?_, ⟨0, by omega, ?_, ?_⟩, ?_, ⟨0, by omega, ?_, ?_⟩, fun r hr => ?_, fun k hk => ?_⟩, ⟨0, by omega, a16, b10, fun j hj => by omega⟩, ⟨0, xx, by omega, kx2, a11, ?_, b12, fun j hj => by omega⟩, fun i hi => Or.inl ?_, ⟨0, by omega, a15, b11, fun j hj => by omega⟩, ?_⟩
    · rw [a1]; exact d1
    · obtain ⟨z1, z2, z3, z4, z5⟩ := b2 r hr
      rw [a2 _ (by omega), a2 _ (by omega), a2 _ (by omega), a2 _ (by omega), z1, z2, z3, z4]
      obtain ⟨y1, y2, y3, y4, y5⟩ := rd r 1 hr (by omega)
      obtain ⟨v1, v2, v3, v4, v5⟩ := rd r 2 hr (by omega)
      obtain ⟨w1, w2, w3, w4, w5⟩ := rd r 3 hr (by omega)
      obtain ⟨s1, s2, s3, s4, s5⟩ := rd r 4 hr (by omega)
      exact ⟨⟨y1, y2, y3, y4, y5⟩, ⟨v1, Nat.lt_succ_of_le v3, v4, v5⟩, ⟨w1, w3, w4, w5⟩, ⟨s1, s3, s4, s5⟩⟩
    · rw [a3]; rfl
    · rw [b3]; rfl
    · rw [a4]; exact d4a
    · rw [b4]; exact d4b
    · rw [a5, b5]; exact d5
    · rw [a6]; rfl
    · rw [b6]; rfl
    · rw [a7, b7]
    · rw [a8]; rfl
    · rw [b8]; rfl
    · obtain ⟨z1, z2, z3, z4, z5⟩ := b2 r hr
      obtain ⟨y1, y2, y3, y4, y5⟩ := rd r 0 hr (by omega)
      rw [a9 r (by omega), z5]
      exact ⟨y1, y3, y4, y5⟩
    · rw [a10 k hk, b9 k hk]
    · rw [a12, d11.1 11 (by omega) (by omega) (by omega)]; exact kx4
    · rcases (show i = 0 ∨ i = 1 by omega) with rfl | rfl
      · exact ⟨a13, b13⟩
      · exact ⟨a14, b14⟩
    · rw [a17, b15, d11.2, d12.2.2.2.2]; exact htr
  · rw [show nI 0 = (0 : Int32) from rfl] at x3 x4
    rw [x3, x4]
    simp only [ob2_s]
    rw [if_neg (ny_all y x2.1)]
    exact Agr.mk (h0.ill x1 x2.2.2)
