/-! undo, keep, back, left, rate -/
theorem bcS_2r {S : St} {b o : Nat} : (bcS S b o).2 = S.2 := rfl
theorem cpo_2r {S : St} {k p w q n : Nat} : (cpo S k p w q n).2 = S.2 := rfl
theorem a_undo {fu : Nat} {S T : St} (hf : 300 ≤ fu) (h : Rel S T) : Agr (m_X8_undo fu S) (m_X9_undo fu T) := by
  have h0 := h.thr
  unfold m_X8_undo m_X9_undo
  simp only [lt_e]
  obtain ⟨n, h8, h1, h2, h3, h4, h5, ⟨k, x, k1, k2, k3, k4, k5, k6⟩, h7, h9, h10⟩ := id h0
  rw [k3, k5]
  by_cases c : k = 0
  · subst c
    rw [if_neg (show ¬ ¬ nI 0 = 0 by decide), if_neg (show ¬ ¬ nI 0 = 0 by decide)]
    exact Agr.mk h0
  rw [if_pos (nI_n0 (by omega) (by omega)), if_pos (nI_n0 (by omega) (by omega))]
  have e9 : (x + 10 - k + (k - 1)) % 10 = (x + 9) % 10 := by omega
  obtain ⟨y, hy⟩ : ∃ y, y = (x + 9) % 10 := ⟨_, rfl⟩
  have y10 : y < 10 := by omega
  unfold m_X1_restore
  simp only [lt_e]
  rw [k4, k3, show nI x + (10 : Int32) - 1 = nI (x + 9) by rw [show (10 : Int32) = nI 10 from rfl, nI_add]; exact nI_pred (x + 9), rem10 (by omega), ← hy, boatAt_n y10]
  simp only [Option.bind_some]
  rw [on_s (isB_p y10), if_pos (nI_n0 (by omega) (by omega)), xbecome S (by omega) (by omega)]
  simp only [Option.bind_some]
  have ek : nI k - (1 : Int32) = nI (k - 1) := pk_sub (b := 1) (by omega)
  have e11 : (st_i (bcS S 8 (13 + 3 * y)) 11 1 (nI y)).1 11 0 = nI k := by
    rw [st_s, upd_n (by omega), bc_o (by omega) (by omega) (by omega), k3]
  rw [e11, ek]
  have hU : (st_i (st_i T 0 0 0) 0 21 (nI (k - 1))).1 0 21 = nI (k - 1) := by rw [st_s, upd_s]
  have h2' := mundo_L (u := k - 1) (by omega) (st_i (st_i T 0 0 0) 0 21 (nI (k - 1))) hU m_X9_undo_r0 18 0 fu (by omega) (by omega)
  rw [cpo_0, nI_0] at h2'
  rw [h2']
  unfold m_X9_undo_r0
  have hB := k6 (k - 1) (by omega)
  rw [e9, ← hy] at hB
  refine Agr.mk2 ⟨n, h8, ?_, ?_, ?_, ?_, ?_, ⟨k - 1, y, by omega, y10, ?_, ?_, ?_, fun j hj => ?_⟩, ?_, ?_, ?_⟩ ?_
  · rw [st_n (by omega), st_n (by omega), bc_o (by omega) (by omega) (by omega)]; exact h1
  · rw [cpo_o (by omega), st_n (by omega)]; exact h2
  · rw [st_n (by omega), st_n (by omega), bc_o (by omega) (by omega) (by omega), cpo_o (by omega), cpo_o (by omega), cpo_o (by omega), cpo_o (by omega), st_n (by omega), st_n (by omega), st_n (by omega), st_n (by omega)]; exact h3
  · refine hB.cg h8 (fun j hj => ?_) (fun j hj => ?_) (fun j hj => ?_) (fun i hi => ?_)
    · rw [st_n (by omega), st_n (by omega), bc_b hj]
    · rw [st_n (by omega), st_n (by omega), bc_b1 hj]
    · rw [st_n (by omega), st_n (by omega), bc_b2 hj]
    · rw [cpo_w, if_pos (by omega), st_n (by omega)]
      exact congrArg ((st_i T 0 0 0).1 12) (by omega)
  · rw [st_n (by omega), st_n (by omega), st_n (by omega), st_n (by omega), bc_o (by omega) (by omega) (by omega), bc_o (by omega) (by omega) (by omega), cpo_o (by omega), cpo_o (by omega), st_n (a := 1) (by omega)]
    rw [st_s (st_i T 0 0 0), upd_n (by omega)]; exact h5
  · rw [st_s, upd_s]
  · rw [st_s, upd_n (by omega), st_s, upd_s]
  · rw [cpo_o (by omega), st_s, upd_s]
  · have hs : (y + 10 - (k - 1) + j) % 10 = (x + 10 - k + j) % 10 := by omega
    rw [hs, st_n (by omega), st_n (by omega), st_n (by omega), st_n (by omega), st_n (by omega), st_n (by omega), bc_o (by omega) (by omega) (by omega), bc_o (by omega) (by omega) (by omega), bc_o (by omega) (by omega) (by omega)]
    refine (k6 j (by omega)).cg h8 (fun _ _ => rfl) (fun _ _ => rfl) (fun _ _ => rfl) (fun i hi => ?_)
    rw [cpo_o (by omega), st_n (by omega)]
  · rw [st_n (by omega), st_n (by omega), bc_o (by omega) (by omega) (by omega), cpo_o (by omega), cpo_o (by omega), st_n (by omega), st_n (by omega)]
    exact h7.cg (fun a ha hb => by rw [st_n (by omega), st_n (by omega), bc_o (by omega) (by omega) (by omega)])
  · rw [st_n (by omega), st_n (by omega), bc_o (by omega) (by omega) (by omega), st_n (by omega), st_n (by omega), bc_o (by omega) (by omega) (by omega), st_n (by omega), st_n (by omega), bc_o (by omega) (by omega) (by omega), cpo_o (by omega), cpo_o (by omega), cpo_o (by omega), st_n (a := 13) (by omega), st_n (a := 14) (by omega)]
    rw [st_s (st_i T 0 0 0), upd_n (by omega)]; exact h9
  · exact h10
  · rw [st_s, upd_s, cpo_o (by omega), st_s, upd_s]
theorem image_n {S : St} {i : Nat} (h : i < 2) : m_X8_imageOf S (nI i) = some (some (44 + 3 * i)) := by
  unfold m_X8_imageOf nb
  rw [if_neg (nI_pos (by omega)), if_neg (show ¬ (2 : Int32) ≤ nI i from nI_ge (b := 2) h (by omega)), if_neg (show ¬ (2 : Int32) ≤ nI i from nI_ge (b := 2) h (by omega)), if_neg (nI_inr h (by omega)), nI_clamp (by omega)]
theorem image_bad {S : St} {a : Int32} (h : a < 0 ∨ 2 ≤ a) : m_X8_imageOf S a = some none := by
  unfold m_X8_imageOf
  by_cases c : a < 0
  · rw [if_pos c]
  · rw [if_neg c, if_pos (h.resolve_left c)]
theorem isB_i {x : Nat} (h : x < 2) : isB (44 + 3 * x) = true := by
  rcases (show x = 0 ∨ x = 1 by omega) with rfl | rfl <;> rfl
theorem rng1 (a : Int32) : (m_X9_in a 0 1 = some 0 ∧ (a < 0 ∨ 2 ≤ a)) ∨ ∃ i : Nat, i < 2 ∧ a = nI i ∧ m_X9_in a 0 1 = some 1 := by
  rcases rng a 1 (by omega) with ⟨e, c⟩ | ⟨j, hj, rfl, e, c1, c2, c3⟩
  · refine Or.inl ⟨e, c.imp id (fun q => ?_)⟩
    have := i_lt.mp q.2.2
    rw [nI_toInt (by omega)] at this
    rw [i_le]
    show (2 : Int) ≤ _
    omega
  · exact Or.inr ⟨j, by omega, rfl, e⟩
theorem a_keep {fu : Nat} {S T : St} (hf : 300 ≤ fu) (h : Rel S T) (a : Int32) : Agr (m_X8_keep fu S a) (m_X9_keep fu T a) := by
  have h0 := h.thr
  unfold m_X8_keep m_X9_keep
  simp only [lt_e]
  rcases rng1 a with ⟨e, c⟩ | ⟨i, hi, rfl, e⟩
  · rw [e, image_bad c]; exact Agr.mk h0
  rw [e, image_n hi]
  simp only [Option.bind_some, show ¬ ((1 : Int32) = 0) by decide, not_false_eq_true, if_true]
  rw [on_s (isB_i hi), xbecome S (by omega) (by omega)]
  simp only [Option.bind_some]
  rw [put_n hi (by omega)]
  simp only [Option.bind_some]
  have hk := mkeep_L hi (st_i T 0 0 0) (m_X9_keep_r0 (nI i)) 18 0 fu (by omega) (by omega)
  rw [cpo_0, nI_0] at hk
  rw [hk]
  unfold m_X9_keep_r0
  rw [ast_n hi (by omega)]
  simp only [Option.bind_some]
  obtain ⟨n, h8, h1, h2, h3, h4, h5, h6, h7, h9, h10⟩ := h0
  refine Agr.mk2 ⟨n, h8, ?_, ?_, ?_, ?_, ?_, ?_, ?_, ?_, ?_⟩ ?_
  · rw [st_n (by omega), bc_o (by omega) (by omega) (by omega)]; exact h1
  · rw [st_n (by omega), cpo_o (by omega)]; exact h2
  · rw [st_n (by omega), bc_o (by omega) (by omega) (by omega), st_n (a := 4) (by omega), st_n (a := 5) (by omega), st_n (a := 6) (by omega), st_n (a := 7) (by omega), cpo_o (by omega), cpo_o (by omega), cpo_o (by omega), cpo_o (by omega)]; exact h3
  · rw [st_n (by omega), st_n (by omega), st_n (by omega), bc_o (by omega) (by omega) (by omega), bc_o (by omega) (by omega) (by omega), bc_o (by omega) (by omega) (by omega), st_n (by omega), cpo_o (by omega)]; exact h4
  · rw [st_n (by omega), st_n (by omega), bc_o (by omega) (by omega) (by omega), bc_o (by omega) (by omega) (by omega), st_n (a := 0) (by omega), st_n (a := 1) (by omega), cpo_o (by omega), cpo_o (by omega)]; exact h5
  · rw [st_n (by omega), bc_o (by omega) (by omega) (by omega), st_n (a := 0) (by omega), st_n (a := 12) (by omega), cpo_o (by omega), cpo_o (by omega)]
    exact h6.cg (fun a ha hb => by rw [st_n (by omega), bc_o (by omega) (by omega) (by omega)])
  · intro i2 hi2
    rw [st_s, st_s, st_n (a := 10) (by omega)]
    by_cases c : i2 = i
    · subst c
      rw [upd_s, upd_s]
      refine Or.inr ⟨rfl, rfl, h4.cg h8 (fun j hj => ?_) (fun j hj => ?_) (fun j hj => ?_) (fun j hj => ?_)⟩
      · rw [st_n (by omega), bc_b hj]
      · rw [st_n (by omega), bc_b1 hj]
      · rw [st_n (by omega), bc_b2 hj]
      · rw [cpo_w, if_pos (by omega)]
        exact congrArg ((st_i T 0 0 0).1 8) (by omega)
    · rw [upd_n c, upd_n c, cpo_o (a := 11) (by omega), bc_o (a := 50) (by omega) (by omega) (by omega)]
      rcases h7 i2 hi2 with q | ⟨q1, q2, q3⟩
      · exact Or.inl q
      · refine Or.inr ⟨q1, q2, ?_⟩
        rw [st_n (by omega), st_n (by omega), st_n (by omega), bc_o (by omega) (by omega) (by omega), bc_o (by omega) (by omega) (by omega), bc_o (by omega) (by omega) (by omega)]
        exact q3.cg h8 (fun _ _ => rfl) (fun _ _ => rfl) (fun _ _ => rfl) (fun j hj => by rw [cpo_w, if_neg (by omega)])
  · rw [st_n (by omega), st_n (by omega), st_n (by omega), bc_o (by omega) (by omega) (by omega), bc_o (by omega) (by omega) (by omega), bc_o (by omega) (by omega) (by omega), st_n (a := 0) (by omega), st_n (a := 13) (by omega), st_n (a := 14) (by omega), cpo_o (by omega), cpo_o (by omega), cpo_o (by omega)]; exact h9
  · exact h10
  · obtain ⟨p, p1, p2, p3⟩ := h4.1
    rw [st_n (by omega), bc_o (by omega) (by omega) (by omega), st_n (by omega), cpo_o (by omega), p2, p3]
theorem a_back {fu : Nat} {S T : St} (hf : 300 ≤ fu) (h : Rel S T) (a : Int32) : Agr (m_X8_back fu S a) (m_X9_back fu T a) := by
  have h0 := h.thr
  unfold m_X8_back m_X9_back
  simp only [lt_e]
  rcases rng1 a with ⟨e, c⟩ | ⟨i, hi, rfl, e⟩
  · rw [e, image_bad c]; exact Agr.mk h0
  rw [e, image_n hi]
  simp only [Option.bind_some, show ¬ ((1 : Int32) = 0) by decide, not_false_eq_true, if_true]
  rw [on_s (isB_i hi), get_n hi (by omega), ald_n hi (by omega)]
  simp only [Option.bind_some]
  have h0c := h0
  obtain ⟨n, h8, h1, h2, h3, h4, h5, h6, h7, h9, h10⟩ := h0
  rcases h7 i hi with ⟨q1, q2⟩ | ⟨q1, q2, q3⟩
  · rw [q1, q2, if_neg (by decide), if_neg (by decide)]
    exact Agr.mk h0c
  rw [q1, q2, if_pos (by decide), if_pos (by decide), xbecome S (by omega) (by omega)]
  unfold m_X1_forgetAll
  simp only [Option.bind_some, lt_e]
  have hk := mback_L hi (st_i T 0 0 0) m_X9_back_r0 18 0 fu (by omega) (by omega)
  rw [cpo_0, nI_0] at hk
  rw [hk]
  unfold m_X9_back_r0
  simp only [lt_e]
  obtain ⟨k, x, k1, k2, k3, k4, k5, k6⟩ := h6
  have hB : BRel n ((st_i (bcS S 8 (44 + 3 * i)) 11 0 0).1 8) ((st_i (bcS S 8 (44 + 3 * i)) 11 0 0).1 9) ((st_i (bcS S 8 (44 + 3 * i)) 11 0 0).1 10) ((st_i (cpo (st_i T 0 0 0) 10 (18 * i) 8 0 18) 0 21 0).1 8) := by
    refine q3.cg h8 (fun j hj => ?_) (fun j hj => ?_) (fun j hj => ?_) (fun j hj => ?_)
    · rw [st_n (by omega), bc_b hj]
    · rw [st_n (by omega), bc_b1 hj]
    · rw [st_n (by omega), bc_b2 hj]
    · rw [st_n (by omega), cpo_w, if_pos (by omega)]
      exact congrArg ((st_i T 0 0 0).1 10) (by omega)
  refine Agr.mk2 ⟨n, h8, ?_, ?_, ?_, hB, ?_, ⟨0, x, by omega, k2, ?_, ?_, ?_, fun j hj => absurd hj (Nat.not_lt_zero j)⟩, ?_, ?_, ?_⟩ ?_
  · rw [st_n (by omega), bc_o (by omega) (by omega) (by omega)]; exact h1
  · rw [st_n (by omega), cpo_o (by omega)]; exact h2
  · rw [st_n (by omega), bc_o (by omega) (by omega) (by omega), st_n (a := 4) (by omega), st_n (a := 5) (by omega), st_n (a := 6) (by omega), st_n (a := 7) (by omega), cpo_o (by omega), cpo_o (by omega), cpo_o (by omega), cpo_o (by omega)]; exact h3
  · rw [st_n (by omega), st_n (by omega), bc_o (by omega) (by omega) (by omega), bc_o (by omega) (by omega) (by omega), st_s, upd_n (by omega), st_n (a := 1) (by omega), cpo_o (by omega), cpo_o (by omega)]; exact h5
  · rw [st_s, upd_s]; rfl
  · rw [st_s, upd_n (by omega), bc_o (by omega) (by omega) (by omega)]; exact k4
  · rw [st_s, upd_s]; rfl
  · rw [st_n (by omega), bc_o (by omega) (by omega) (by omega), st_n (a := 11) (by omega), st_n (a := 10) (by omega), cpo_o (by omega), cpo_o (by omega)]
    exact h7.cg (fun a ha hb => by rw [st_n (by omega), bc_o (by omega) (by omega) (by omega)])
  · rw [st_n (by omega), st_n (by omega), st_n (by omega), bc_o (by omega) (by omega) (by omega), bc_o (by omega) (by omega) (by omega), bc_o (by omega) (by omega) (by omega), st_s, upd_n (by omega), st_n (a := 13) (by omega), st_n (a := 14) (by omega), cpo_o (by omega), cpo_o (by omega), cpo_o (by omega)]; exact h9
  · exact h10
  · obtain ⟨p, p1, p2, p3⟩ := hB.1
    rw [p2, p3]
theorem a_left {S T : St} (h : Rel S T) (a b : Int32) : Agr (m_X8_left S a b) (m_X9_left T a b) := by
  have h0 := h.thr
  unfold m_X8_left m_X9_left
  simp only [lt_e]
  rcases rng a 8 (by omega) with ⟨e, c⟩ | ⟨j, hj, rfl, e, c1, c2, c3⟩
  · rw [show m_X9_in a 0 8 = some 0 from e]
    rcases c with c | ⟨c1, c2, c3⟩
    · rw [if_pos c]; exact Agr.mk h0
    · rw [if_neg c1, if_pos (show (8 : Int32) < a from c3)]; exact Agr.mk h0
  rw [show m_X9_in (nI j) 0 8 = some 1 from e, if_neg c1, if_neg (show ¬ (8 : Int32) < nI j from c3)]
  simp only [Option.bind_some, show ¬ ((1 : Int32) = 0) by decide, if_false]
  rcases rng b 900 (by omega) with ⟨e, c⟩ | ⟨v, hv, rfl, e, d1, d2, d3⟩
  · rw [show m_X9_in b 0 900 = some 0 from e]
    rcases c with c | ⟨c1, c2, c3⟩
    · rw [if_pos c]; exact Agr.mk h0
    · rw [if_neg c1, if_neg (show ¬ b ≤ (900 : Int32) from c2)]; exact Agr.mk h0
  rw [show m_X9_in (nI v) 0 900 = some 1 from e, if_neg d1, if_pos (show nI v ≤ (900 : Int32) from d2)]
  simp only [Option.bind_some, show ¬ ((1 : Int32) = 0) by decide, not_false_eq_true, if_true]
  have h0c := h0
  obtain ⟨n, h8, h1, h2, h3, h4, h5, h6, h7, ⟨q, q1, q2, q3, q4⟩, h10⟩ := h0
  rw [q2, q3]
  by_cases c : q = 6
  · subst c
    rw [if_neg (show ¬ nI 6 < 6 by decide), if_neg (show ¬ ¬ nI 6 = 6 by decide)]
    exact Agr.mk h0c
  rw [if_pos (show nI q < (6 : Int32) from nI_lt (b := 6) (by omega) (by omega)), if_pos (show ¬ nI q = (6 : Int32) from fun e => c ((nI_eq (by omega) (b := 6) (by omega)).mp e)), put_n (by omega) (by omega), ast_n (by omega) (by omega)]
  simp only [Option.bind_some]
  rw [st_n (a := 0) (by omega), st_n (S := st_i T 0 0 0) (a := 0) (by omega), q2, q3, put_n (by omega) (by omega), ast_n (by omega) (by omega)]
  simp only [Option.bind_some]
  have hx : (st_i (st_i S 60 q (nI j)) 61 q (nI v)).1 0 11 = nI q := by rw [st_n (by omega), st_n (by omega), q2]
  have hm : (st_i (st_i (st_i T 0 0 0) 13 q (nI j)) 14 q (nI v)).1 0 24 = nI q := by rw [st_n (by omega), st_n (by omega), q3]
  rw [hx, hm, nI_1]
  refine Agr.mk2 ⟨n, h8, ?_, ?_, ?_, ?_, ?_, ?_, ?_, ⟨q + 1, by omega, ?_, ?_, fun i hi => ?_⟩, ?_⟩ ?_
  · simp only [st_n (show (6 : Nat) ≠ 0 by omega), st_n (show (6 : Nat) ≠ 60 by omega), st_n (show (6 : Nat) ≠ 61 by omega)]; exact h1
  · simp only [st_n (show (2 : Nat) ≠ 0 by omega), st_n (show (2 : Nat) ≠ 13 by omega), st_n (show (2 : Nat) ≠ 14 by omega)]; exact h2
  · exact h3
  · exact h4
  · exact h5
  · exact h6.cg (fun a ha hb => by rw [st_n (by omega), st_n (by omega), st_n (by omega)])
  · exact h7.cg (fun a ha hb => by rw [st_n (by omega), st_n (by omega), st_n (by omega)])
  · rw [st_s, upd_s]
  · rw [st_s, upd_s]
  · show (∃ z : Nat, z ≤ 8 ∧ upd (S.1 60) q (nI j) i = nI z ∧ upd ((st_i T 0 0 0).1 13) q (nI j) i = nI z) ∧ upd (S.1 61) q (nI v) i = upd ((st_i T 0 0 0).1 14) q (nI v) i
    by_cases ei : i = q
    · subst ei
      rw [upd_s, upd_s, upd_s, upd_s]
      exact ⟨⟨j, hj, rfl, rfl⟩, rfl⟩
    · rw [upd_n ei, upd_n ei, upd_n ei, upd_n ei]
      exact q4 i (by omega)
  · exact h10
  · rw [st_s, st_s, upd_s, upd_s]
theorem st_l2 (S : St) (k j : Nat) (v w : Int64) : st_l (st_l S k j v) k j w = st_l S k j w := by
  refine Prod.ext rfl ?_
  funext a b
  show (if a = k then (fun b => if b = j then w else (if k = k then (fun b => if b = j then v else S.2 k b) else S.2 k : Nat → Int64) b) else (if a = k then _ else S.2 a) : Nat → Int64) b = (if a = k then _ else S.2 a : Nat → Int64) b
  by_cases e : a = k
  · rw [if_pos e, if_pos e, if_pos rfl]
    by_cases e2 : b = j
    · simp only [if_pos e2]
    · simp only [if_neg e2]
  · rw [if_neg e, if_neg e, if_neg e]
theorem st_lr (S : St) (k j : Nat) (v : Int64) : (st_l S k j v).2 k j = v := by
  show (if k = k then (fun b => if b = j then v else S.2 k b) else S.2 k : Nat → Int64) j = v
  rw [if_pos rfl]
  exact if_pos rfl
theorem Rel.tr {S T : St} (h : Rel S T) (v : Int64) : Rel (st_l S 0 12 v) (st_l T 0 1 v) := by
  obtain ⟨n, h8, h1, h2, h3, h4, h5, h6, h7, h9, h10⟩ := h
  exact ⟨n, h8, h1, h2, h3, h4, h5, h6, h7, h9, by rw [st_lr, st_lr]⟩
theorem a_rate {S T : St} (h : Rel S T) (a b : Int32) : Agr (m_X8_rate S a b) (m_X9_rate T a b) := by
  have h0 := h.thr
  unfold m_X8_rate m_X9_rate
  simp only [lt_e]
  have h0c := h0
  obtain ⟨n, h8, h1, h2, h3, h4, h5, h6, h7, h9, h10⟩ := h0
  rcases ix3 b (n := n) (by omega) with c | ⟨r, hr, rfl⟩
  · rw [xRock_bad h1 c, mRock_bad h2 h8 c]
    rcases rng a 5 (by omega) with ⟨e, c⟩ | ⟨j, hj, rfl, e, c1, c2, c3⟩
    · rw [show m_X9_in a 0 5 = some 0 from e]; exact Agr.mk h0c
    · rw [show m_X9_in (nI j) 0 5 = some 1 from e]; exact Agr.mk h0c
  rw [xRock_ok h1 h8 hr, mRock_ok h2 h8 hr]
  simp only [Option.bind_some, show ¬ ((1 : Int32) = 0) by decide, not_false_eq_true, if_true]
  rcases rng a 5 (by omega) with ⟨e, c⟩ | ⟨j, hj, rfl, e, c1, c2, c3⟩
  · rw [show m_X9_in a 0 5 = some 0 from e]
    have hk : ∀ k : Nat, k < 6 → ¬ a = nI k := by
      rintro k hk rfl
      rcases c with c | ⟨-, c, -⟩
      · exact nI_pos (by omega) c
      · exact c (nI_le (by omega) (by omega))
    rw [if_neg (show ¬ a = (0 : Int32) from hk 0 (by omega)), if_neg (show ¬ a = (1 : Int32) from hk 1 (by omega)), if_neg (show ¬ a = (2 : Int32) from hk 2 (by omega)), if_neg (show ¬ a = (3 : Int32) from hk 3 (by omega)), if_neg (show ¬ a = (4 : Int32) from hk 4 (by omega)), if_neg (show ¬ a = (5 : Int32) from hk 5 (by omega))]
    exact Agr.mk h0c
  · rw [show m_X9_in (nI j) 0 5 = some 1 from e]
    simp only [Option.bind_some, show ¬ ((1 : Int32) = 0) by decide, if_false]
    rw [show (6 : Int32) + nI r = nI (6 + r) from nI_add 6 r, ald_n (by omega) (by omega)]
    obtain ⟨t, t1, t2, t3⟩ := h4.2.2.2.2.2.2.1 r hr
    obtain ⟨-, -, ⟨w, w1, w2, w3⟩, ⟨d, d1, d2, d3⟩⟩ := h3 r hr
    obtain ⟨z, z1, z2, z3⟩ := h4.2.1
    unfold m_X8_asIsle m_X8_asBridge m_X8_asBend m_X8_asTower m_X8_asChain m_X8_asRock
    have eX : ∀ (S2 : St), S2.1 = S.1 → m_X0_tollOf S2 (nI r) = some (nI t) := fun S2 e2 => by rw [xTollOf (by omega), e2, t2]
    have eF3 : ∀ (S2 : St), S2.1 = S.1 → m_X3_fact S2 (nI r) 3 = some (nI w) := fun S2 e2 => by rw [show (3 : Int32) = nI 3 from rfl, fact_n (by omega) (by omega), e2, w2]
    have eF4 : ∀ (S2 : St), S2.1 = S.1 → m_X3_fact S2 (nI r) 4 = some (nI d) := fun S2 e2 => by rw [show (4 : Int32) = nI 4 from rfl, fact_n (by omega) (by omega), e2, d2]
    have e16 : ∀ v : Int64, ald 16 ((st_l (st_i T 0 0 0) 0 1 v).1 6) (nI r) = some (nI w) := fun v => by rw [ald_n (by omega) (by omega)]; exact congrArg some w3
    have e17 : ∀ v : Int64, ald 16 ((st_l (st_i T 0 0 0) 0 1 v).1 7) (nI r) = some (nI d) := fun v => by rw [ald_n (by omega) (by omega)]; exact congrArg some d3
    simp only [lt_e, Option.bind_some, t3]
    match j, hj with
    | 0, _ =>
      rw [if_pos (show nI 0 = 0 by decide), if_neg (show ¬ ¬ nI 0 = 0 by decide)]
      simp only [Option.bind_some]
      rw [eX _ (by rfl)]
      simp only [Option.bind_some, ob2_s]
      rw [if_neg (show ¬ ¬ nI 0 = 0 by decide), ← h10]
      exact Agr.mk (h0c.tr _)
    | 1, _ =>
      rw [if_neg (show ¬ nI 1 = 0 by decide), if_pos (show nI 1 = 1 by decide), if_pos (show ¬ nI 1 = 0 by decide), if_neg (show ¬ ¬ nI 1 = 1 by decide)]
      simp only [Option.bind_some]
      rw [eX _ (by rfl)]
      simp only [Option.bind_some, ob2_s]
      rw [eF3 _ (by rfl), if_pos (show ¬ nI 1 = 0 by decide), if_neg (show ¬ ¬ nI 1 = 1 by decide), e16]
      simp only [Option.bind_some, ob2_s, st_l2, st_lr]
      rw [← h10, show S.2 0 12 + 10 + 1 = S.2 0 12 + 11 by rw [Int64.add_assoc]; rfl]
      exact Agr.mk (h0c.tr _)
    | 2, _ =>
      rw [if_neg (show ¬ nI 2 = 0 by decide), if_neg (show ¬ nI 2 = 1 by decide), if_pos (show nI 2 = 2 by decide), if_pos (show ¬ nI 2 = 0 by decide), if_pos (show ¬ nI 2 = 1 by decide), if_neg (show ¬ ¬ nI 2 = 2 by decide)]
      simp only [Option.bind_some]
      rw [eX _ (by rfl)]
      simp only [Option.bind_some, ob2_s]
      rw [eF4 _ (by rfl), if_pos (show ¬ nI 2 = 0 by decide), if_pos (show ¬ nI 2 = 1 by decide), if_neg (show ¬ ¬ nI 2 = 2 by decide), e17]
      simp only [Option.bind_some, ob2_s, st_l2, st_lr]
      rw [← h10, show S.2 0 12 + 100 + 1 = S.2 0 12 + 101 by rw [Int64.add_assoc]; rfl]
      exact Agr.mk (h0c.tr _)
    | 3, _ =>
      rw [if_neg (show ¬ nI 3 = 0 by decide), if_neg (show ¬ nI 3 = 1 by decide), if_neg (show ¬ nI 3 = 2 by decide), if_pos (show nI 3 = 3 by decide), if_pos (show ¬ nI 3 = 0 by decide), if_pos (show ¬ nI 3 = 1 by decide), if_pos (show ¬ nI 3 = 2 by decide), if_neg (show ¬ ¬ nI 3 = 3 by decide)]
      simp only [Option.bind_some]
      rw [eX _ (by rfl)]
      simp only [Option.bind_some, ob2_s]
      rw [eF3 _ (by rfl), if_pos (show ¬ nI 3 = 0 by decide), if_pos (show ¬ nI 3 = 1 by decide), if_pos (show ¬ nI 3 = 2 by decide), if_neg (show ¬ ¬ nI 3 = 3 by decide), e16]
      simp only [Option.bind_some, ob2_s, st_l2, st_lr]
      rw [← h10, show S.2 0 12 + 1000 + 10 + 1 = S.2 0 12 + 1011 by rw [Int64.add_assoc, Int64.add_assoc]; rfl]
      exact Agr.mk (h0c.tr _)
    | 4, _ =>
      rw [if_neg (show ¬ nI 4 = 0 by decide), if_neg (show ¬ nI 4 = 1 by decide), if_neg (show ¬ nI 4 = 2 by decide), if_neg (show ¬ nI 4 = 3 by decide), if_pos (show nI 4 = 4 by decide), if_pos (show ¬ nI 4 = 0 by decide), if_pos (show ¬ nI 4 = 1 by decide), if_pos (show ¬ nI 4 = 2 by decide), if_pos (show ¬ nI 4 = 3 by decide), if_neg (show ¬ ¬ nI 4 = 4 by decide)]
      simp only [Option.bind_some]
      rw [eX _ (by rfl)]
      simp only [Option.bind_some, ob2_s]
      rw [eF4 _ (by rfl), if_pos (show ¬ nI 4 = 0 by decide), if_pos (show ¬ nI 4 = 1 by decide), if_pos (show ¬ nI 4 = 2 by decide), if_pos (show ¬ nI 4 = 3 by decide), if_neg (show ¬ ¬ nI 4 = 4 by decide), e17]
      simp only [Option.bind_some, ob2_s, st_l2, st_lr]
      rw [← h10, show S.2 0 12 + 10000 + 100 + 1 = S.2 0 12 + 10101 by rw [Int64.add_assoc, Int64.add_assoc]; rfl]
      exact Agr.mk (h0c.tr _)
    | 5, _ =>
      rw [if_neg (show ¬ nI 5 = 0 by decide), if_neg (show ¬ nI 5 = 1 by decide), if_neg (show ¬ nI 5 = 2 by decide), if_neg (show ¬ nI 5 = 3 by decide), if_neg (show ¬ nI 5 = 4 by decide), if_pos (show nI 5 = 5 by decide), if_pos (show ¬ nI 5 = 0 by decide), if_pos (show ¬ nI 5 = 1 by decide), if_pos (show ¬ nI 5 = 2 by decide), if_pos (show ¬ nI 5 = 3 by decide), if_pos (show ¬ nI 5 = 4 by decide)]
      simp only [Option.bind_some]
      rw [eX _ (by rfl)]
      simp only [Option.bind_some, ob2_s]
      rw [if_pos (show ¬ nI 5 = 0 by decide), if_pos (show ¬ nI 5 = 1 by decide), if_pos (show ¬ nI 5 = 2 by decide), if_pos (show ¬ nI 5 = 3 by decide), if_pos (show ¬ nI 5 = 4 by decide)]
      simp only [Option.bind_some, ob2_s, st_l2, st_lr]
      rw [← h10, show S.2 0 12 + 100000 + 1 = S.2 0 12 + 100001 by rw [Int64.add_assoc]; rfl]
      refine Agr.mk2 (h0c.tr _) ?_
      rw [st_l_1, st_l_1, z2, z3]
