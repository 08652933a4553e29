/-! the acts, on: pays, lands, nights, sets, breaks, undo, keep, back -/
theorem a_lands {fu : Nat} {S T : St} (hf : 300 ≤ fu) (h : Rel S T) : Agr (m_X8_lands fu S) (m_X9_lands fu T) := by
  have h0 := h.thr
  unfold m_X8_lands m_X9_lands
  simp only [lt_e]
  obtain ⟨n, p, h8, hp, h1, h2, p2, p3, h3, h4⟩ := h0.at
  rw [xSea p2 h1 h8 hp, mSea p3 h2 h8 hp]
  by_cases c : ¬ p < n
  · rw [if_neg c]; exact Agr.mk h0
  have c := Classical.not_not.mp c
  rw [if_pos c]
  obtain ⟨-, -, -, ⟨d, d1, d2, d3⟩⟩ := h3 p c
  obtain ⟨-, ⟨z, z1, z2, z3⟩, z4, -⟩ := h4
  simp only [Option.bind_some, if_true, show ¬ ¬ ((0 : Int32) = 0) by decide, if_false]
  rw [p2, p3, show (4 : Int32) = nI 4 from rfl, fact_n (by omega) (by omega), ald_n (by omega) (by omega), d2, d3]
  simp only [Option.bind_some]
  rw [z2, z3, z4]
  by_cases c4 : nI d * nI z ≤ (st_i T 0 0 0).1 8 2
  · rw [if_pos c4, if_pos c4]
    obtain ⟨S', T', e1, e2, hR, eX, eM⟩ := remember hf h0
    rw [e1, e2]
    simp only [Option.bind_some, lt_e]
    rw [eM 7 (by omega) (by omega), eM 8 (by omega) (by omega), p3, ald_n (by omega) (by omega), d3, z3]
    unfold m_X8_goOn
    simp only [Option.bind_some, lt_e]
    refine Agr.mk (hR.boat (fun k q1 q2 q3 => ?_) rfl (fun k q1 => ?_) rfl ?_)
    · simp only [st_n q1]
    · simp only [st_n q1]
    · intro n' h8' hn' hF hB
      rw [eX 6 (by omega), h1] at hn'
      obtain rfl : n = n' := (nI_eq (by omega) (by omega)).mp hn'
      obtain ⟨b1, b2, b3, b4, b5, b6, b7, b8⟩ := hB
      rw [eX 8 (by omega)] at b2 b3 b5 b6
      rw [eM 8 (by omega) (by omega)] at b2 b3 b5 b6
      refine ⟨⟨p + 1, c, ?_, ?_⟩, ?_, ?_, ⟨0, by omega, ?_, ?_⟩, ?_, ?_, ?_, ?_⟩
      · simp only [st_s, upd_e]
        show S'.1 8 0 + 1 = _
        rw [eX 8 (by omega), p2, nI_1]
      · simp only [st_s, upd_e]
        show T'.1 8 0 + 1 = _
        rw [eM 8 (by omega) (by omega), p3, nI_1]
      · simp only [st_s, upd_e]
        show ∃ b : Nat, b ≤ 30 ∧ S'.1 8 1 = _ ∧ T'.1 8 1 = _
        rw [eX 8 (by omega), eM 8 (by omega) (by omega)]; exact b2
      · simp only [st_s, upd_e]
        show S'.1 8 2 - nI d * nI z = (st_i T 0 0 0).1 8 2 - nI d * nI z
        rw [eX 8 (by omega), b3]
      · simp only [st_s, upd_e]; rfl
      · simp only [st_s, upd_e]; rfl
      · simp only [st_s, upd_e]
        show S'.1 8 4 = T'.1 8 4
        rw [eX 8 (by omega), eM 8 (by omega) (by omega)]; exact b5
      · simp only [st_s, upd_e]
        show ∃ b : Nat, b < 256 ∧ S'.1 8 5 = _ ∧ T'.1 8 5 = _
        rw [eX 8 (by omega), eM 8 (by omega) (by omega)]; exact b6
      · intro r hr
        obtain ⟨t, t1, t2, t3⟩ := b7 r hr
        refine ⟨t, t1, ?_, ?_⟩
        · simp only [st_n (show (9 : Nat) ≠ 8 by omega)]; exact t2
        · simp only [st_s, upd_n (show 6 + r ≠ 0 by omega), upd_n (show 6 + r ≠ 3 by omega), upd_n (show 6 + r ≠ 2 by omega)]; exact t3
      · intro k hk
        simp only [st_n (show (10 : Nat) ≠ 8 by omega), st_s, upd_n (show 14 + k ≠ 0 by omega), upd_n (show 14 + k ≠ 3 by omega), upd_n (show 14 + k ≠ 2 by omega)]
        exact b8 k hk
  · rw [if_neg c4, if_neg c4]; exact Agr.mk h0
theorem nI_le0 {d : Nat} (hd : d < 2 ^ 31) : nI d ≤ 0 ↔ d = 0 := by
  rw [i_le, nI_toInt hd, Int32.toInt_zero]
  omega
theorem a_pays {fu : Nat} {S T : St} (hf : 300 ≤ fu) (h : Rel S T) : Agr (m_X8_pays fu S) (m_X9_pays fu T) := by
  have h0 := h.thr
  unfold m_X8_pays m_X9_pays
  simp only [lt_e]
  obtain ⟨n, p, h8, hp, h1, h2, p2, p3, h3, h4⟩ := h0.at
  rw [xSea p2 h1 h8 hp, mSea p3 h2 h8 hp]
  by_cases c : ¬ p < n
  · rw [if_neg c]; exact Agr.mk h0
  have c := Classical.not_not.mp c
  rw [if_pos c]
  obtain ⟨t, q, lc, t1, t2, t3, q1, q2, q3, q4, r1, r2, r3⟩ := Rel.rock h3 h4 c
  obtain ⟨-, ⟨z, z1, z2, z3⟩, z4, ⟨sl, s1, s2, s3⟩, -, ⟨m, m1, m2, m3⟩, -, z8⟩ := h4
  simp only [Option.bind_some, if_true]
  rw [xDue p2 m2 m1 (by omega) t2 q3 q1 q2 z2 z1 r2 r1 s2 s1, p3, z3, s3, mTaken m3 m1 (by omega) t3 q4 q1 q2 z1 r3 r1 s1]
  simp only [Option.bind_some]
  obtain ⟨D, hD, eD⟩ : ∃ D : Nat, D ≤ 300 ∧ (if sl = lc + 1 then 0 else prc (brk m p) t z q) = D := by
    refine ⟨_, ?_, rfl⟩
    split
    · omega
    · exact prc_le (by omega) z1 q1
  rw [eD, z4]
  by_cases c4 : nI D ≤ (st_i T 0 0 0).1 8 2
  · rw [if_pos c4, if_pos c4]
    obtain ⟨S', T', e1, e2, hR, eX, eM⟩ := remember hf h0
    rw [e1, e2]
    simp only [Option.bind_some]
    rw [eX 8 (by omega), p2, show (2 : Int32) = nI 2 from rfl, fact_n (by omega) (by omega), eX 7 (by omega), r2]
    simp only [Option.bind_some]
    rw [get_n (by omega) (by omega)]
    simp only [Option.bind_some]
    rw [put_n (by omega) (by omega), ald_n (n := 16) (by omega) (by omega), st_n (a := 5) (by omega), eM 5 (by omega) (by omega), r3]
    simp only [Option.bind_some]
    rw [show (14 : Int32) + nI lc = nI (14 + lc) from nI_add 14 lc, ald_n (by omega) (by omega)]
    simp only [Option.bind_some]
    rw [ast_n (by omega) (by omega)]
    simp only [Option.bind_some]
    rw [st_n (a := 5) (by omega), st_n (a := 5) (by omega), eM 5 (by omega) (by omega), ald_n (n := 16) (by omega) (by omega), r3]
    simp only [Option.bind_some, nI_1]
    have eL : ∃ sl' : Nat, sl' ≤ 4 ∧ (if nI D ≤ 0 then some (-9 : Int32) else some (nI lc)) = some (ltr sl') ∧ (if nI D ≤ 0 then some (0 : Int32) else some (nI (lc + 1))) = some (nI sl') := by
      by_cases c5 : nI D ≤ 0
      · exact ⟨0, by omega, by rw [if_pos c5]; rfl, by rw [if_pos c5]; rfl⟩
      · exact ⟨lc + 1, by omega, by rw [if_neg c5]; rfl, by rw [if_neg c5]⟩
    obtain ⟨sl', l1, l2, l3⟩ := eL
    rw [l2, l3]
    unfold m_X8_goOn
    simp only [Option.bind_some, lt_e]
    refine Agr.mk (hR.boat (fun k q1 q2 q3 => ?_) rfl (fun k q1 => ?_) rfl ?_)
    · simp only [st_n q1, st_n q3]
    · simp only [st_n q1]
    · intro n' h8' hn' hF hB
      rw [eX 6 (by omega), h1] at hn'
      obtain rfl : n = n' := (nI_eq (by omega) (by omega)).mp hn'
      obtain ⟨b1, b2, b3, b4, b5, b6, b7, b8⟩ := hB
      have ne : ∀ j : Nat, j < 14 → j ≠ 14 + lc := fun j hj => by omega
      refine ⟨⟨p + 1, c, ?_, ?_⟩, ?_, ?_, ⟨sl', l1, ?_, ?_⟩, ?_, ?_, ?_, ?_⟩
      · simp only [st_s, st_n (show (8 : Nat) ≠ 10 by omega), upd_e]
        show S'.1 8 0 + 1 = _
        rw [eX 8 (by omega), p2, nI_1]
      · simp only [st_s, upd_e]
        simp only [if_neg (ne 0 (by omega))]
        show T'.1 8 0 + 1 = _
        rw [eM 8 (by omega) (by omega), p3, nI_1]
      · simp only [st_s, st_n (show (8 : Nat) ≠ 10 by omega), upd_e]
        simp only [if_neg (ne 1 (by omega))]
        exact b2
      · simp only [st_s, st_n (show (8 : Nat) ≠ 10 by omega), upd_e]
        simp only [if_neg (ne 2 (by omega))]
        show S.1 8 2 - nI D = T'.1 8 2 - nI D
        rw [← eX 8 (by omega), b3]
      · simp only [st_s, st_n (show (8 : Nat) ≠ 10 by omega), upd_e]; rfl
      · simp only [st_s, upd_e]; rfl
      · simp only [st_s, st_n (show (8 : Nat) ≠ 10 by omega), upd_e]
        simp only [if_neg (ne 4 (by omega))]
        exact b5
      · simp only [st_s, st_n (show (8 : Nat) ≠ 10 by omega), upd_e]
        simp only [if_neg (ne 5 (by omega))]
        exact b6
      · intro r hr
        obtain ⟨t, t1, t2, t3⟩ := b7 r hr
        refine ⟨t, t1, ?_, ?_⟩
        · simp only [st_n (show (9 : Nat) ≠ 8 by omega), st_n (show (9 : Nat) ≠ 10 by omega)]; exact t2
        · simp only [st_s, upd_n (show 6 + r ≠ 0 by omega), upd_n (show 6 + r ≠ 3 by omega), upd_n (show 6 + r ≠ 2 by omega), upd_n (show 6 + r ≠ 14 + lc by omega)]; exact t3
      · intro k hk
        simp only [st_n (show (10 : Nat) ≠ 8 by omega), st_s, upd_n (show 14 + k ≠ 0 by omega), upd_n (show 14 + k ≠ 3 by omega)]
        by_cases ek : k = lc
        · subst ek
          rw [upd_s, upd_s, upd_n (show 14 + k ≠ 2 by omega), b8 k hk]
        · rw [upd_n ek, upd_n (show 14 + k ≠ 14 + lc by omega), upd_n (show 14 + k ≠ 2 by omega)]
          exact b8 k hk
  · rw [if_neg c4, if_neg c4]; exact Agr.mk h0
theorem halves {b : Nat} (hb : b ≤ 30) : nI b - nI b / (2 : Int32) = nI ((b + 1) / 2) ∧ (nI b + 1) / (2 : Int32) = nI ((b + 1) / 2) := by
  rw [show nI b / (2 : Int32) = nI (b / 2) from pk_div (d := 2) (by omega) (by omega) (by omega), pk_sub (by omega), nI_1, show nI (b + 1) / (2 : Int32) = nI ((b + 1) / 2) from pk_div (d := 2) (by omega) (by omega) (by omega)]
  exact ⟨congrArg nI (by omega), rfl⟩
theorem nights_fin {S T : St} (hR : Rel S T) {n p z u y : Nat} (h8 : n ≤ 8) (hp : p < n) (hn : S.1 6 0 = nI n) (p2 : S.1 8 0 = nI p) (p3 : T.1 8 0 = nI p) (y1 : y ≤ 30) (hy : nI z - nI u = nI y) :
    Rel (st_i (st_i (st_i (st_i S 8 1 (nI z - nI u)) 8 4 ((st_i S 8 1 (nI z - nI u)).1 8 4 + nI u)) 8 3 (-9)) 8 0 ((st_i (st_i (st_i S 8 1 (nI z - nI u)) 8 4 ((st_i S 8 1 (nI z - nI u)).1 8 4 + nI u)) 8 3 (-9)).1 8 0 + 1))
      (st_i (st_i (st_i (st_i T 8 1 (nI z - nI u)) 8 4 ((st_i T 8 1 (nI z - nI u)).1 8 4 + nI u)) 8 3 0) 8 0 ((st_i (st_i (st_i T 8 1 (nI z - nI u)) 8 4 ((st_i T 8 1 (nI z - nI u)).1 8 4 + nI u)) 8 3 0).1 8 0 + 1)) := by
  refine hR.boat (fun k q1 q2 q3 => ?_) rfl (fun k q1 => ?_) rfl ?_
  · simp only [st_n q1]
  · simp only [st_n q1]
  · intro n' h8' hn' hF hB
    rw [hn] at hn'
    obtain rfl : n = n' := (nI_eq (by omega) (by omega)).mp hn'
    obtain ⟨b1, b2, b3, b4, b5, b6, b7, b8⟩ := hB
    refine ⟨⟨p + 1, hp, ?_, ?_⟩, ⟨y, y1, ?_, ?_⟩, ?_, ⟨0, by omega, ?_, ?_⟩, ?_, ?_, ?_, ?_⟩
    · simp only [st_s, upd_e]
      show S.1 8 0 + 1 = _
      rw [p2, nI_1]
    · simp only [st_s, upd_e]
      show T.1 8 0 + 1 = _
      rw [p3, nI_1]
    · simp only [st_s, upd_e]
      exact hy
    · simp only [st_s, upd_e]
      exact hy
    · simp only [st_s, upd_e]; exact b3
    · simp only [st_s, upd_e]; rfl
    · simp only [st_s, upd_e]; rfl
    · simp only [st_s, upd_e]
      show S.1 8 4 + nI u = T.1 8 4 + nI u
      rw [b5]
    · simp only [st_s, upd_e]; exact b6
    · intro r hr
      obtain ⟨t, t1, t2, t3⟩ := b7 r hr
      refine ⟨t, t1, ?_, ?_⟩
      · simp only [st_n (show (9 : Nat) ≠ 8 by omega)]; exact t2
      · simp only [st_s, upd_n (show 6 + r ≠ 0 by omega), upd_n (show 6 + r ≠ 3 by omega), upd_n (show 6 + r ≠ 4 by omega), upd_n (show 6 + r ≠ 1 by omega)]; exact t3
    · intro k hk
      simp only [st_n (show (10 : Nat) ≠ 8 by omega), st_s, upd_n (show 14 + k ≠ 0 by omega), upd_n (show 14 + k ≠ 3 by omega), upd_n (show 14 + k ≠ 4 by omega), upd_n (show 14 + k ≠ 1 by omega)]
      exact b8 k hk
theorem a_nights {fu : Nat} {S T : St} (hf : 300 ≤ fu) (h : Rel S T) (a : Int32) : Agr (m_X8_nights fu S a) (m_X9_nights fu T a) := by
  have h0 := h.thr
  unfold m_X8_nights m_X9_nights
  simp only [lt_e]
  rcases rng a 9999 (by omega) with ⟨e, c⟩ | ⟨j, hj, rfl, e, c1, c2, c3⟩
  · rw [show m_X9_in a 0 9999 = some 0 from e]
    rcases c with c | ⟨c1, c2, c3⟩
    · rw [if_pos c]; exact Agr.mk h0
    · rw [if_neg c1, if_neg (show ¬ a ≤ (9999 : Int32) from c2)]; exact Agr.mk h0
  rw [show m_X9_in (nI j) 0 9999 = some 1 from e, if_neg c1, if_pos (show nI j ≤ (9999 : Int32) from c2)]
  simp only [Option.bind_some, show ¬ ((1 : Int32) = 0) by decide, not_false_eq_true, if_true]
  obtain ⟨n, p, h8, hp, h1, h2, p2, p3, h3, h4⟩ := h0.at
  rw [xSea p2 h1 h8 hp, mSea p3 h2 h8 hp]
  by_cases c : ¬ p < n
  · rw [if_neg c]; exact Agr.mk h0
  have c := Classical.not_not.mp c
  rw [if_pos c]
  obtain ⟨-, -, ⟨w, w1, w2, w3⟩, -⟩ := h3 p c
  obtain ⟨-, ⟨z, z1, z2, z3⟩, z4, -⟩ := h4
  simp only [Option.bind_some, if_true]
  obtain ⟨S', T', e1, e2, hR, eX, eM⟩ := remember hf h0
  rw [e1, e2]
  unfold m_X8_draw
  simp only [Option.bind_some, lt_e]
  rw [eX 8 (by omega), eM 8 (by omega) (by omega), p2, p3, show (3 : Int32) = nI 3 from rfl, fact_n (by omega) (by omega), eX 7 (by omega), eM 6 (by omega) (by omega), ald_n (by omega) (by omega), w2, w3]
  simp only [Option.bind_some]
  generalize (((7919 : Int64) * (nI j).toInt64 + (6151 : Int64) * (nI p).toInt64 + 1) * ((7919 : Int64) * (nI j).toInt64 + (6151 : Int64) * (nI p).toInt64 + 1) - ((7919 : Int64) * (nI j).toInt64 + (6151 : Int64) * (nI p).toInt64 + 1) * ((7919 : Int64) * (nI j).toInt64 + (6151 : Int64) * (nI p).toInt64 + 1) / 65521 * 65521) / 8 = dr
  rw [z2, z3]
  by_cases c5 : nI w ≤ dr.toInt32 - dr.toInt32 / 10 * 10
  · rw [if_pos c5, if_pos c5]
    simp only [Option.bind_some, if_true]
    unfold m_X8_goOn
    simp only [Option.bind_some, lt_e]
    exact Agr.mk (nights_fin hR h8 c ((eX 6 (by omega)) ▸ h1) ((eX 8 (by omega)) ▸ p2) ((eM 8 (by omega) (by omega)) ▸ p3) (u := 0) (y := z) z1 (pk_sub (by omega)))
  · rw [if_neg c5, if_neg c5]
    simp only [Option.bind_some, show ¬ ((1 : Int32) = 0) by decide, if_false]
    rw [(halves z1).1, (halves z1).2]
    unfold m_X8_goOn
    simp only [Option.bind_some, lt_e]
    exact Agr.mk (nights_fin hR h8 c ((eX 6 (by omega)) ▸ h1) ((eX 8 (by omega)) ▸ p2) ((eM 8 (by omega) (by omega)) ▸ p3) (u := (z + 1) / 2) (y := z - (z + 1) / 2) (by omega) (pk_sub (by omega)))
theorem a_sets {fu : Nat} {S T : St} (hf : 300 ≤ fu) (h : Rel S T) (a b : Int32) : Agr (m_X8_sets fu S a b) (m_X9_sets fu T a b) := by
  have h0 := h.thr
  unfold m_X8_sets m_X9_sets
  simp only [lt_e]
  obtain ⟨n, p, h8, hp, h1, h2, p2, p3, h3, h4⟩ := h0.at
  rcases ix3 a (n := n) (by omega) with c | ⟨r, hr, rfl⟩
  · rw [xRock_bad h1 c, mRock_bad h2 h8 c]
    exact Agr.mk h0
  rw [xRock_ok h1 h8 hr, mRock_ok h2 h8 hr]
  simp only [Option.bind_some, show ¬ ((1 : Int32) = 0) by decide, if_false]
  rcases rng b 9 (by omega) with ⟨e, c⟩ | ⟨j, hj, rfl, e, c1, c2, c3⟩
  · rw [show m_X9_in b 0 9 = some 0 from e]
    rcases c with c | ⟨c1, c2, c3⟩
    · rw [if_pos c]; exact Agr.mk h0
    · rw [if_neg c1, if_neg (show ¬ b ≤ (9 : Int32) from c2)]; exact Agr.mk h0
  rw [show m_X9_in (nI j) 0 9 = some 1 from e, if_neg c1, if_pos (show nI j ≤ (9 : Int32) from c2)]
  simp only [Option.bind_some, show ¬ ((1 : Int32) = 0) by decide, not_false_eq_true, if_true]
  obtain ⟨S', T', e1, e2, hR, eX, eM⟩ := remember hf h0
  rw [e1, e2]
  simp only [Option.bind_some]
  rw [xTollOf (by omega), put_n (by omega) (by omega), show (6 : Int32) + nI r = nI (6 + r) from nI_add 6 r, ald_n (by omega) (by omega)]
  simp only [Option.bind_some]
  rw [ast_n (by omega) (by omega)]
  simp only [Option.bind_some]
  obtain ⟨t, t1, t2, t3⟩ := h4.2.2.2.2.2.2.1 r hr
  refine Agr.mk2 (hR.boat (fun k q1 q2 q3 => st_n q2) rfl (fun k q1 => st_n q1) rfl ?_) ?_
  · intro n' h8' hn' hF hB
    rw [eX 6 (by omega), h1] at hn'
    obtain rfl : n = n' := (nI_eq (by omega) (by omega)).mp hn'
    obtain ⟨b1, b2, b3, b4, b5, b6, b7, b8⟩ := hB
    refine ⟨?_, ?_, ?_, ?_, ?_, ?_, ?_, ?_⟩
    · rw [st_n (by omega), st_s, upd_n (by omega)]; exact b1
    · rw [st_n (by omega), st_s, upd_n (by omega)]; exact b2
    · rw [st_n (by omega), st_s, upd_n (by omega)]; exact b3
    · rw [st_n (by omega), st_s, upd_n (by omega)]; exact b4
    · rw [st_n (by omega), st_s, upd_n (by omega)]; exact b5
    · rw [st_n (by omega), st_s, upd_n (by omega)]; exact b6
    · intro r' hr'
      by_cases er : r' = r
      · subst er
        exact ⟨j, hj, by rw [st_s, upd_s], by rw [st_s, upd_s]⟩
      · obtain ⟨t, t1, t2, t3⟩ := b7 r' hr'
        exact ⟨t, t1, by rw [st_s, upd_n er]; exact t2, by rw [st_s, upd_n (by omega)]; exact t3⟩
    · intro k hk
      rw [st_n (by omega), st_s, upd_n (by omega)]; exact b8 k hk
  · rw [eX 9 (by omega), eM 8 (by omega) (by omega), t2, t3]
theorem or_all : ∀ m : Nat, m < 256 → ∀ r : Nat, r < 8 → (nI m ||| ((1 : Int32) <<< (nI r &&& 31))) = nI (m ||| 2 ^ r) ∧ m ||| 2 ^ r < 256 := by decide +kernel
def pc8 (m : Nat) : Nat := m % 2 + m / 2 % 2 + m / 4 % 2 + m / 8 % 2 + m / 16 % 2 + m / 32 % 2 + m / 64 % 2 + m / 128 % 2
theorem bitc_all : ∀ m : Nat, m < 256 → m_J6_bitCount_0f7a4 (nI m) = some (nI (pc8 m)) := by decide +kernel
theorem ones_all : ∀ m : Nat, m < 256 → m_X9_ones 9 (nI m) = some (nI (pc8 m)) := by decide +kernel
theorem ones_fu (a : Int32) (k0 : Int32 → Int32 → Option Int32) : ∀ (d f : Nat) (x i : Int32) (v : Int32), m_X9_ones_L0 a (fun y _ => some y) d x i = some v → d ≤ f → m_X9_ones_L0 a k0 f x i = k0 v (8 : Int32) ∨ ∃ z, m_X9_ones_L0 a k0 f x i = k0 v z := by
  intro d
  induction d with
  | zero => intro f x i v h; rw [m_X9_ones_L0_z] at h; cases h
  | succ d ih =>
    intro f x i v h hd
    obtain ⟨f, rfl⟩ : ∃ g, f = g + 1 := ⟨f - 1, by omega⟩
    rw [m_X9_ones_L0_s] at h ⊢
    by_cases c : 8 ≤ i
    · rw [if_pos c] at h ⊢
      cases h
      exact Or.inr ⟨i, rfl⟩
    · rw [if_neg c] at h ⊢
      exact ih f _ _ v h (by omega)
theorem mones {fu m : Nat} (hf : 300 ≤ fu) (hm : m < 256) : m_X9_ones fu (nI m) = some (nI (pc8 m)) := by
  have h := ones_all m hm
  unfold m_X9_ones at h ⊢
  rcases ones_fu (nI m) m_X9_ones_r0 9 fu 0 0 _ h (by omega) with e | ⟨z, e⟩ <;> rw [e] <;> rfl
theorem a_breaks {fu : Nat} {S T : St} (hf : 300 ≤ fu) (h : Rel S T) (a : Int32) : Agr (m_X8_breaks fu S a) (m_X9_breaks fu T a) := by
  have h0 := h.thr
  unfold m_X8_breaks m_X9_breaks
  simp only [lt_e]
  obtain ⟨n, p, h8, hp, h1, h2, p2, p3, h3, h4⟩ := h0.at
  rcases ix3 a (n := n) (by omega) with c | ⟨r, hr, rfl⟩
  · rw [xRock_bad h1 c, mRock_bad h2 h8 c]
    exact Agr.mk h0
  rw [xRock_ok h1 h8 hr, mRock_ok h2 h8 hr]
  simp only [Option.bind_some, show ¬ ((1 : Int32) = 0) by decide, not_false_eq_true, if_true]
  obtain ⟨m, m1, m2, m3⟩ := h4.2.2.2.2.2.1
  rw [xBroken m2 m1 (by omega), m3, bit_1 m1 (by omega)]
  cases eb : brk m r with
  | true => exact Agr.mk h0
  | false =>
    simp only [Option.bind_some]
    rw [if_pos (show (if false = true then (1 : Int32) else 0) = 0 by decide), if_pos (show ¬ (if false = true then (1 : Int32) else 0) = 1 by decide)]
    obtain ⟨S', T', e1, e2, hR, eX, eM⟩ := remember hf h0
    rw [e1, e2]
    simp only [Option.bind_some, st_s, upd_s]
    rw [eX 8 (by omega), eM 8 (by omega) (by omega), m2, m3]
    obtain ⟨o1, o2⟩ := or_all m m1 r (by omega)
    rw [o1, bitc_all _ o2, mones hf o2]
    simp only [Option.bind_some]
    refine Agr.mk (hR.boat (fun k q1 q2 q3 => st_n q1) rfl (fun k q1 => st_n q1) rfl ?_)
    intro n' h8' hn' hF hB
    obtain ⟨b1, b2, b3, b4, b5, b6, b7, b8⟩ := hB
    refine ⟨?_, ?_, ?_, ?_, ?_, ⟨m ||| 2 ^ r, o2, ?_, ?_⟩, ?_, ?_⟩
    · rw [st_s, st_s, upd_n (by omega), upd_n (by omega)]; exact b1
    · rw [st_s, st_s, upd_n (by omega), upd_n (by omega)]; exact b2
    · rw [st_s, st_s, upd_n (by omega), upd_n (by omega)]; exact b3
    · rw [st_s, st_s, upd_n (by omega), upd_n (by omega)]; exact b4
    · rw [st_s, st_s, upd_n (by omega), upd_n (by omega)]; exact b5
    · rw [st_s, upd_s]
    · rw [st_s, upd_s]
    · intro r' hr'
      obtain ⟨t, t1, t2, t3⟩ := b7 r' hr'
      exact ⟨t, t1, by rw [st_n (by omega)]; exact t2, by rw [st_s, upd_n (by omega)]; exact t3⟩
    · intro k hk
      rw [st_n (by omega), st_s, upd_n (by omega)]; exact b8 k hk
