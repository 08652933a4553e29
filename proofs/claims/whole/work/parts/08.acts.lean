/-! What is remembered; the acts -/
theorem rem10 {x : Nat} (h : x < 1000) : nI x - nI x / (10 : Int32) * (10 : Int32) = nI (x % 10) := pk_rem (d := 10) (by omega) (by omega) (by omega)
theorem boatAt_n {S : St} {x : Nat} (h : x < 10) : m_X1_boatAt S (nI x) = some (some (13 + 3 * x)) := by
  unfold m_X1_boatAt nb
  rw [if_neg (nI_pos (by omega)), if_neg (show ¬ (10 : Int32) ≤ nI x from nI_ge (b := 10) h (by omega)), if_neg (nI_inr h (by omega)), nI_clamp (by omega)]
theorem isB_p {x : Nat} (h : x < 10) : isB (13 + 3 * x) = true := by
  simp only [isB, Bool.or_eq_true, Bool.and_eq_true, beq_iff_eq, decide_eq_true_eq]
  omega
theorem on_s {α : Type} {b : Nat} {f : Option α} {g : Nat → Option α} (h : isB b = true) : on (some b) f g = g b := by simp [on, h]
/-- the class's part of a remembering -/
def remS (S : St) (k x : Nat) : St := st_i (st_i (bcS S (13 + 3 * x) 8) 11 1 (nI ((x + 1) % 10))) 11 0 (nI (if 10 < k + 1 then 10 else k + 1))
theorem xrem {fu : Nat} {S : St} {k x : Nat} (hf : 300 ≤ fu) (hk : k ≤ 10) (hx : x < 10) (h0 : S.1 11 0 = nI k) (h1 : S.1 11 1 = nI x) : m_X1_remember fu S = some (remS S k x) := by
  unfold m_X1_remember
  rw [h1, boatAt_n hx]
  simp only [Option.bind_some, lt_e]
  rw [on_s (isB_p hx), xbecome S (by omega) (by omega)]
  simp only [Option.bind_some]
  rw [bc_o (by omega) (by omega) (by omega), h1, nI_1, rem10 (by omega)]
  have e : (st_i (bcS S (13 + 3 * x) 8) 11 1 (nI ((x + 1) % 10))).1 11 0 = nI k := by
    rw [st_s, upd_n (by omega), bc_o (by omega) (by omega) (by omega), h0]
  rw [e, nI_1]
  unfold remS
  congr 2
  by_cases c : 10 < k + 1
  · rw [if_pos c, if_pos (show (10 : Int32) < nI (k + 1) from nI_lt (a := 10) c (by omega))]; rfl
  · rw [if_neg c, if_neg (show ¬ (10 : Int32) < nI (k + 1) from nI_nlt (a := 10) (by omega) (by omega))]
/-- the reference's -/
def notS (T : St) (k : Nat) : St := if k = 10 then st_i (cpo (st_i (cpo T 12 18 12 0 162) 0 21 (nI 9)) 8 0 12 (18 * 9) 18) 0 21 (nI 10) else st_i (cpo T 8 0 12 (18 * k) 18) 0 21 (nI (k + 1))
theorem mnot {fu : Nat} {T : St} {k : Nat} (hf : 300 ≤ fu) (hk : k ≤ 10) (h0 : T.1 0 21 = nI k) : m_X9_notes fu T = some (notS T k) := by
  unfold m_X9_notes notS
  rw [h0]
  by_cases c : k = 10
  · subst c
    rw [if_neg (show ¬ ¬ nI 10 = 10 by decide), if_pos rfl]
    have h1 := mnotes_L1 T m_X9_notes_r1 162 0 fu (by omega) (by omega)
    rw [cpo_0, nI_0] at h1
    rw [h1]
    unfold m_X9_notes_r1
    simp only [lt_e, Option.bind_some]
    have h2 := mnotes_L0 (u := 9) (by omega) (st_i (cpo T 12 18 12 0 162) 0 21 9) (by rw [st_s, upd_s]; rfl) m_X9_notes_r0 18 0 fu (by omega) (by omega)
    rw [cpo_0, nI_0] at h2
    rw [h2]
    unfold m_X9_notes_r0
    simp only [lt_e]
    congr 2
  · rw [if_pos (show ¬ nI k = (10 : Int32) from fun e => c ((nI_eq (by omega) (b := 10) (by omega)).mp e)), if_neg c]
    simp only [Option.bind_some]
    have h2 := mnotes_L0 (u := k) (by omega) T h0 m_X9_notes_r0 18 0 fu (by omega) (by omega)
    rw [cpo_0, nI_0] at h2
    rw [h2]
    unfold m_X9_notes_r0
    simp only [lt_e]
    rw [cpo_o (by omega), h0, nI_1]
theorem remS_o {S : St} {k x a : Nat} (hx : x < 10) (h : a ≠ 11) (h2 : a < 13 ∨ 42 < a) : (remS S k x).1 a = S.1 a := by
  unfold remS
  rw [st_n h, st_n h, bc_o (by omega) (by omega) (by omega)]
theorem notS_o {T : St} {k a : Nat} (h : a ≠ 0) (h2 : a ≠ 12) : (notS T k).1 a = T.1 a := by
  unfold notS
  split
  · rw [st_n h, cpo_o h2, st_n h, cpo_o h2]
  · rw [st_n h, cpo_o h2]
theorem notS_0 {T : St} {k j : Nat} (h : j ≠ 21) : (notS T k).1 0 j = T.1 0 j := by
  unfold notS
  split
  · rw [st_s, upd_n h, cpo_o (by omega), st_s, upd_n h, cpo_o (by omega)]
  · rw [st_s, upd_n h, cpo_o (by omega)]
theorem remS_2 {S : St} {k x : Nat} : (remS S k x).2 = S.2 := rfl
theorem notS_2 {T : St} {k : Nat} : (notS T k).2 = T.2 := by unfold notS; split <;> rfl
theorem remS_slot {S : St} {k x y : Nat} (hx : x < 10) (hy : y < 10) (h : y ≠ x) (c : Nat) (hc : c < 3) : (remS S k x).1 (13 + 3 * y + c) = S.1 (13 + 3 * y + c) := by
  unfold remS
  rw [st_n (by omega), st_n (by omega), bc_o (by omega) (by omega) (by omega)]
theorem remS_new {S : St} {k x : Nat} (hx : x < 10) : (∀ j : Nat, j < 6 → (remS S k x).1 (13 + 3 * x) j = S.1 8 j) ∧ (∀ j : Nat, j < 8 → (remS S k x).1 (13 + 3 * x + 1) j = S.1 9 j) ∧ ∀ j : Nat, j < 4 → (remS S k x).1 (13 + 3 * x + 2) j = S.1 10 j := by
  unfold remS
  refine ⟨fun j hj => ?_, fun j hj => ?_, fun j hj => ?_⟩
  · rw [st_n (by omega), st_n (by omega), bc_b hj]
  · rw [st_n (by omega), st_n (by omega), bc_b1 hj]
  · rw [st_n (by omega), st_n (by omega), bc_b2 hj]
theorem RPast.push {n : Nat} {S T : St} {k x : Nat} (h8 : n ≤ 8) (hk : k ≤ 10) (hx : x < 10) (hB : BRel n (S.1 8) (S.1 9) (S.1 10) (T.1 8))
    (h : ∀ j : Nat, j < k → BRel n (S.1 (13 + 3 * ((x + 10 - k + j) % 10))) (S.1 (13 + 3 * ((x + 10 - k + j) % 10) + 1)) (S.1 (13 + 3 * ((x + 10 - k + j) % 10) + 2)) (fun i => T.1 12 (18 * j + i))) :
    RPast n ((remS S k x).1 11 0) ((remS S k x).1 11 1) (remS S k x).1 ((notS T k).1 0 21) ((notS T k).1 12) := by
  obtain ⟨w0, w1, w2⟩ := remS_new (S := S) (k := k) hx
  have e0 : (remS S k x).1 11 0 = nI (if 10 < k + 1 then 10 else k + 1) := by unfold remS; rw [st_s, upd_s]
  have e1 : (remS S k x).1 11 1 = nI ((x + 1) % 10) := by unfold remS; rw [st_s, upd_n (by omega), st_s, upd_s]
  by_cases c : k = 10
  · subst c
    refine ⟨10, (x + 1) % 10, by omega, by omega, by rw [e0]; rfl, e1, ?_, fun j hj => ?_⟩
    · unfold notS; rw [if_pos rfl, st_s, upd_s]
    · have eu : ∀ i : Nat, i < 18 → (notS T 10).1 12 (18 * j + i) = if j < 9 then T.1 12 (18 * (j + 1) + i) else T.1 8 i := by
        intro i hi
        unfold notS
        rw [if_pos rfl, st_n (by omega), cpo_w]
        by_cases d : j < 9
        · rw [if_pos d, if_neg (by omega), st_n (by omega), cpo_w, if_pos (by omega)]
          exact congrArg (T.1 12) (by omega)
        · rw [if_neg d, if_pos (by omega), st_n (by omega), cpo_o (by omega)]
          exact congrArg (T.1 8) (by omega)
      by_cases d : j < 9
      · have hs : ((x + 1) % 10 + 10 - 10 + j) % 10 = (x + 10 - 10 + (j + 1)) % 10 := by omega
        rw [hs]
        have hne : (x + 10 - 10 + (j + 1)) % 10 ≠ x := by omega
        have hlt : (x + 10 - 10 + (j + 1)) % 10 < 10 := by omega
        have p0 := remS_slot (S := S) (k := 10) hx hlt hne 0 (by omega)
        have p1 := remS_slot (S := S) (k := 10) hx hlt hne 1 (by omega)
        have p2 := remS_slot (S := S) (k := 10) hx hlt hne 2 (by omega)
        rw [Nat.add_zero] at p0
        rw [p0, p1, p2]
        exact (h (j + 1) (by omega)).cg h8 (fun _ _ => rfl) (fun _ _ => rfl) (fun _ _ => rfl) (fun i hi => by show (notS T 10).1 12 (18 * j + i) = _; rw [eu i hi, if_pos d])
      · have hs : ((x + 1) % 10 + 10 - 10 + j) % 10 = x := by omega
        rw [hs]
        exact hB.cg h8 w0 w1 w2 (fun i hi => by show (notS T 10).1 12 (18 * j + i) = _; rw [eu i hi, if_neg d])
  · refine ⟨k + 1, (x + 1) % 10, by omega, by omega, by rw [e0, if_neg (by omega)], e1, ?_, fun j hj => ?_⟩
    · unfold notS; rw [if_neg c, st_s, upd_s]
    · have eu : ∀ i : Nat, i < 18 → (notS T k).1 12 (18 * j + i) = if j < k then T.1 12 (18 * j + i) else T.1 8 i := by
        intro i hi
        unfold notS
        rw [if_neg c, st_n (by omega), cpo_w]
        by_cases d : j < k
        · rw [if_pos d, if_neg (by omega)]
        · rw [if_neg d, if_pos (by omega)]
          exact congrArg (T.1 8) (by omega)
      by_cases d : j < k
      · have hs : ((x + 1) % 10 + 10 - (k + 1) + j) % 10 = (x + 10 - k + j) % 10 := by omega
        rw [hs]
        have hne : (x + 10 - k + j) % 10 ≠ x := by omega
        have hlt : (x + 10 - k + j) % 10 < 10 := by omega
        have p0 := remS_slot (S := S) (k := k) hx hlt hne 0 (by omega)
        have p1 := remS_slot (S := S) (k := k) hx hlt hne 1 (by omega)
        have p2 := remS_slot (S := S) (k := k) hx hlt hne 2 (by omega)
        rw [Nat.add_zero] at p0
        rw [p0, p1, p2]
        exact (h j d).cg h8 (fun _ _ => rfl) (fun _ _ => rfl) (fun _ _ => rfl) (fun i hi => by show (notS T k).1 12 (18 * j + i) = _; rw [eu i hi, if_pos d])
      · have hs : ((x + 1) % 10 + 10 - (k + 1) + j) % 10 = x := by omega
        rw [hs]
        exact hB.cg h8 w0 w1 w2 (fun i hi => by show (notS T k).1 12 (18 * j + i) = _; rw [eu i hi, if_neg d])
/-- remembered: on both sides, and all else as it was -/
theorem remember {fu : Nat} {S T : St} (hf : 300 ≤ fu) (h : Rel S T) : ∃ S' T' : St, m_X1_remember fu S = some S' ∧ m_X9_notes fu T = some T' ∧ Rel S' T' ∧ (∀ a : Nat, a ≤ 10 → S'.1 a = S.1 a) ∧ (∀ a : Nat, a ≠ 0 → a ≠ 12 → T'.1 a = T.1 a) := by
  obtain ⟨n, h8, h1, h2, h3, h4, h5, ⟨k, x, k1, k2, k3, k4, k5, k6⟩, h7, h9, h10⟩ := h
  refine ⟨remS S k x, notS T k, xrem hf k1 k2 k3 k4, mnot hf k1 k5, ⟨n, h8, ?_, ?_, ?_, ?_, ?_, RPast.push h8 k1 k2 h4 k6, ?_, ?_, ?_⟩, fun a ha => remS_o k2 (by omega) (by omega), fun a ha hb => notS_o ha hb⟩
  · rw [remS_o k2 (by omega) (by omega)]; exact h1
  · rw [notS_o (by omega) (by omega)]; exact h2
  · rw [remS_o k2 (by omega) (by omega), notS_o (by omega) (by omega), notS_o (by omega) (by omega), notS_o (by omega) (by omega), notS_o (by omega) (by omega)]; exact h3
  · rw [remS_o k2 (by omega) (by omega), remS_o k2 (by omega) (by omega), remS_o k2 (by omega) (by omega), notS_o (by omega) (by omega)]; exact h4
  · rw [remS_o k2 (by omega) (by omega), remS_o k2 (by omega) (by omega), notS_0 (by omega), notS_o (by omega) (by omega)]; exact h5
  · rw [remS_o k2 (by omega) (by omega), notS_o (by omega) (by omega), notS_o (by omega) (by omega)]
    exact h7.cg (fun a ha hb => remS_o k2 (by omega) (by omega))
  · rw [remS_o k2 (by omega) (by omega), remS_o k2 (by omega) (by omega), remS_o k2 (by omega) (by omega), notS_0 (by omega), notS_o (by omega) (by omega), notS_o (by omega) (by omega)]; exact h9
  · rw [remS_2, notS_2]; exact h10
/-- the boat alone is otherwise -/
theorem Rel.boat {S T S' T' : St} (h : Rel S T) (hx : ∀ k : Nat, k ≠ 8 → k ≠ 9 → k ≠ 10 → S'.1 k = S.1 k) (hx2 : S'.2 = S.2) (hm : ∀ k : Nat, k ≠ 8 → T'.1 k = T.1 k) (hm2 : T'.2 = T.2)
    (hB : ∀ n : Nat, n ≤ 8 → S.1 6 0 = nI n → RFac n (S.1 7) (T.1 4) (T.1 5) (T.1 6) (T.1 7) → BRel n (S.1 8) (S.1 9) (S.1 10) (T.1 8) → BRel n (S'.1 8) (S'.1 9) (S'.1 10) (T'.1 8)) : Rel S' T' := by
  obtain ⟨n, h8, h1, h2, h3, h4, h5, h6, h7, h9, h10⟩ := h
  refine ⟨n, h8, ?_, ?_, ?_, hB n h8 h1 h3 h4, ?_, ?_, ?_, ?_, ?_⟩
  · rw [hx 6 (by omega) (by omega) (by omega)]; exact h1
  · rw [hm 2 (by omega)]; exact h2
  · rw [hx 7 (by omega) (by omega) (by omega), hm 4 (by omega), hm 5 (by omega), hm 6 (by omega), hm 7 (by omega)]; exact h3
  · rw [hx 1 (by omega) (by omega) (by omega), hx 2 (by omega) (by omega) (by omega), hm 0 (by omega), hm 1 (by omega)]; exact h5
  · rw [hx 11 (by omega) (by omega) (by omega), hm 0 (by omega), hm 12 (by omega)]
    exact h6.cg (fun a ha hb => hx a (by omega) (by omega) (by omega))
  · rw [hx 50 (by omega) (by omega) (by omega), hm 11 (by omega), hm 10 (by omega)]
    exact h7.cg (fun a ha hb => hx a (by omega) (by omega) (by omega))
  · rw [hx 0 (by omega) (by omega) (by omega), hx 60 (by omega) (by omega) (by omega), hx 61 (by omega) (by omega) (by omega), hm 0 (by omega), hm 13 (by omega), hm 14 (by omega)]; exact h9
  · rw [hx2, hm2]; exact h10
theorem Rel.at {S T : St} (h : Rel S T) : ∃ n a : Nat, n ≤ 8 ∧ a ≤ n ∧ S.1 6 0 = nI n ∧ T.1 2 0 = nI n ∧ S.1 8 0 = nI a ∧ T.1 8 0 = nI a ∧ RFac n (S.1 7) (T.1 4) (T.1 5) (T.1 6) (T.1 7) ∧ BRel n (S.1 8) (S.1 9) (S.1 10) (T.1 8) := by
  obtain ⟨n, h8, h1, h2, h3, h4, h5, h6, h7, h9, h10⟩ := h
  obtain ⟨a, a1, a2, a3⟩ := h4.1
  exact ⟨n, a, h8, a1, h1, h2, a2, a3, h3, h4⟩
theorem a_sells {fu : Nat} {S T : St} (hf : 300 ≤ fu) (h : Rel S T) (a b : Int32) : Agr (m_X8_sells fu S a b) (m_X9_sells fu T a b) := by
  have h0 := h.thr
  unfold m_X8_sells m_X9_sells
  simp only [lt_e]
  by_cases c1 : a < 1
  · rw [if_pos c1, in_bad (Or.inl c1)]; exact Agr.mk h0
  by_cases c2 : 30 < a
  · rw [if_neg c1, if_pos c2, in_bad (Or.inr c2)]; exact Agr.mk h0
  rw [if_neg c1, if_neg c2, in_ok c1 c2]
  simp only [Option.bind_some, show ¬ ((1 : Int32) = 0) by decide, if_false]
  rcases rng b 30 (by omega) with ⟨e, c⟩ | ⟨j, hj, rfl, e, d1, d2, d3⟩
  · rw [show m_X9_in b 0 30 = some 0 from e]
    rcases c with c | ⟨c1, c2, c3⟩
    · rw [if_pos c]; exact Agr.mk h0
    · rw [if_neg c1, if_neg (show ¬ b ≤ (30 : Int32) from c2)]; exact Agr.mk h0
  rw [show m_X9_in (nI j) 0 30 = some 1 from e, if_neg d1, if_pos (show nI j ≤ (30 : Int32) from d2)]
  simp only [Option.bind_some, show ¬ ((1 : Int32) = 0) by decide, not_false_eq_true, if_true]
  obtain ⟨n, -, h8, -, -, -, -, -, -, hB⟩ := h0.at
  obtain ⟨-, ⟨z, z1, z2, z3⟩, z4, -⟩ := hB
  rw [z2, z3, z4]
  by_cases c3 : nI z < a
  · rw [if_pos c3, if_pos c3]; exact Agr.mk h0
  rw [if_neg c3, if_neg c3]
  by_cases c4 : (st_i T 0 0 0).1 8 2 + a * nI j ≤ 999999
  · rw [if_pos c4, if_pos c4]
    obtain ⟨S', T', e1, e2, hR, eX, eM⟩ := remember hf h0
    rw [e1, e2]
    simp only [Option.bind_some]
    have hz : ∃ y : Nat, y ≤ 30 ∧ nI z - a = nI y := by
      have q1 : 0 ≤ a := Int32.le_trans (show (0 : Int32) ≤ 1 by decide) (Int32.not_lt.mp c1)
      obtain ⟨y, hy, rfl⟩ := nI_of (Int32.not_lt.mpr q1)
      have q2 := i_le.mp (Int32.not_lt.mp c3)
      rw [nI_toInt hy, nI_toInt (by omega)] at q2
      exact ⟨z - y, by omega, pk_sub (by omega)⟩
    obtain ⟨y, y1, y2⟩ := hz
    refine Agr.mk2 (hR.boat (fun k q1 q2 q3 => ?_) rfl (fun k q1 => ?_) rfl ?_) ?_
    · rw [st_n q1, st_n q1]
    · rw [st_n q1, st_n q1]
    · intro n h8 hn hF hB
      obtain ⟨b1, b2, b3, b4, b5, b6, b7, b8⟩ := hB
      rw [eX 8 (by omega), eM 8 (by omega) (by omega)] at b3
      refine ⟨?_, ⟨y, y1, ?_, ?_⟩, ?_, ?_, ?_, ?_, ?_, ?_⟩
      · simp only [st_s, upd_e]; exact b1
      · simp only [st_s, upd_e]
        show S'.1 8 1 - a = nI y
        rw [eX 8 (by omega), z2, y2]
      · simp only [st_s, upd_e]
        show T'.1 8 1 - a = nI y
        rw [eM 8 (by omega) (by omega), z3, y2]
      · simp only [st_s, upd_e]
        show (st_i T 0 0 0).1 8 2 + a * nI j = T'.1 8 2 + a * nI j
        rw [eM 8 (by omega) (by omega)]
      · simp only [st_s, upd_e]; exact b4
      · simp only [st_s, upd_e]; exact b5
      · simp only [st_s, upd_e]; exact b6
      · intro r hr
        obtain ⟨t, t1, t2, t3⟩ := b7 r hr
        refine ⟨t, t1, ?_, ?_⟩
        · rw [st_n (by omega), st_n (by omega)]; exact t2
        · rw [st_s, upd_n (by omega), st_s, upd_n (by omega)]; exact t3
      · intro k hk
        rw [st_n (by omega), st_n (by omega), st_s, upd_n (by omega), st_s, upd_n (by omega)]; exact b8 k hk
    · simp only [st_s, upd_e]
      show _ = T'.1 8 2 + a * nI j
      rw [eM 8 (by omega) (by omega)]
  · rw [if_neg c4, if_neg c4]; exact Agr.mk h0
