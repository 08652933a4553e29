/-! What a rock takes; the small calls -/
def prc (br : Bool) (t b q : Nat) : Nat := if br then 0 else t * ((b + q - 1) / q)
theorem div_le30 {b q : Nat} (hq : 1 ≤ q) (hb : b ≤ 30) : (b + q - 1) / q ≤ 30 := by
  rw [Nat.div_le_iff_le_mul (by omega)]
  have : b ≤ b * q := Nat.le_mul_of_pos_right b (by omega)
  have h2 : 30 ≤ 30 * q := Nat.le_mul_of_pos_right 30 (by omega)
  have h3 : b * q ≤ 30 * q := Nat.mul_le_mul_right q hb
  by_cases h : b = 30
  · subst h; omega
  · have : (b + 1) * q ≤ 30 * q := Nat.mul_le_mul_right q (by omega)
    rw [Nat.succ_mul] at this
    omega
theorem prc_le {br : Bool} {t b q : Nat} (ht : t ≤ 10) (hb : b ≤ 30) (hq : 1 ≤ q) : prc br t b q ≤ 300 := by
  unfold prc
  split
  · omega
  · exact Nat.le_trans (Nat.mul_le_mul ht (div_le30 hq hb)) (by omega)
theorem up_n {b q : Nat} (hb : b ≤ 30) (hq : 1 ≤ q) (hq5 : q ≤ 5) : ((nI b + nI q) - 1) / nI q = nI ((b + q - 1) / q) := by
  rw [nI_add, show nI (b + q) - (1 : Int32) = nI (b + q - 1) from pk_sub (b := 1) (by omega), pk_div (by omega) (by omega) (by omega)]
theorem nI_n0 {q : Nat} (hq : 1 ≤ q) (h : q < 2 ^ 31) : ¬ nI q = 0 := nI_ne0 hq h
theorem mToll {T : St} {k m r t b q : Nat} (hm : T.1 k 5 = nI m) (hm2 : m < 256) (hr : r < 8) (ht : T.1 k (6 + r) = nI t) (hq : T.1 4 r = nI q) (hq1 : 1 ≤ q) (hq5 : q ≤ 5) (hb : b ≤ 30) :
    m_X9_tollOf T k (nI r) (nI b) = some (nI (prc (brk m r) t b q)) := by
  unfold m_X9_tollOf prc
  rw [hm, bit_1 hm2 hr]
  cases brk m r with
  | true => rfl
  | false =>
    rw [if_pos (show ¬ (if false = true then (1 : Int32) else 0) = 1 by decide), show (6 : Int32) + nI r = nI (6 + r) from nI_add 6 r, ald_n (by omega) (by omega), ald_n (by omega) (by omega), ht, hq]
    simp only [Option.bind_some, nz]
    rw [if_neg (nI_n0 hq1 (by omega)), up_n hb hq1 hq5, pk_mul]
    rfl
theorem fact_n {S : St} {r w : Nat} (hr : r < 8) (hw : w < 5) : m_X3_fact S (nI r) (nI w) = some (S.1 7 (5 * r + w)) := by
  unfold m_X3_fact
  rw [show nI r * (5 : Int32) + nI w = nI (5 * r + w) by rw [show (5 : Int32) = nI 5 from rfl, pk_mul, nI_add, Nat.mul_comm], get_n (by omega) (by omega)]
  rfl
theorem xPrice {S : St} {r t b q : Nat} (hr : r < 8) (hq : S.1 7 (5 * r + 1) = nI q) (hq1 : 1 ≤ q) (hq5 : q ≤ 5) (hb : b ≤ 30) : m_X3_price S (nI r) (nI t) (nI b) = some (nI (prc false t b q)) := by
  unfold m_X3_price m_X6_upward
  rw [show (1 : Int32) = nI 1 from rfl, fact_n hr (by omega), hq]
  simp only [Option.bind_some, nz]
  rw [if_neg (nI_nle hq1 (by omega)), if_neg (nI_n0 hq1 (by omega)), show (nI 1 : Int32) = 1 from rfl, up_n hb hq1 hq5]
  simp only [Option.bind_some]
  rw [pk_mul]
  rfl
theorem xBroken {S : St} {m r : Nat} (hm : S.1 8 5 = nI m) (hm2 : m < 256) (hr : r < 8) : m_X0_isBroken S (nI r) = some (if brk m r then 1 else 0) := by
  unfold m_X0_isBroken
  rw [hm, bit_1 hm2 hr]
  cases brk m r <;> rfl
theorem xTollOf {S : St} {r : Nat} (hr : r < 8) : m_X0_tollOf S (nI r) = some (S.1 9 r) := by
  unfold m_X0_tollOf
  rw [get_n hr (by omega)]
  rfl
theorem xPriceOf {S : St} {m r t b q : Nat} (hm : S.1 8 5 = nI m) (hm2 : m < 256) (hr : r < 8) (ht : S.1 9 r = nI t) (hq : S.1 7 (5 * r + 1) = nI q) (hq1 : 1 ≤ q) (hq5 : q ≤ 5) (hb : b ≤ 30) : m_X8_priceOf S (nI r) (nI b) = some (nI (prc (brk m r) t b q)) := by
  unfold m_X8_priceOf
  rw [xBroken hm hm2 hr]
  cases h : brk m r with
  | true => rfl
  | false =>
    simp only [Option.bind_some]
    rw [if_pos (show (if false = true then (1 : Int32) else 0) = 0 by decide), xTollOf hr]
    simp only [Option.bind_some]
    rw [ht, xPrice hr hq hq1 hq5 hb]
    rfl
/-- what the relation says of one rock, and of the boat -/
theorem Rel.rock {n : Nat} {S T : St} (h3 : RFac n (S.1 7) (T.1 4) (T.1 5) (T.1 6) (T.1 7)) (h4 : BRel n (S.1 8) (S.1 9) (S.1 10) (T.1 8)) {r : Nat} (hr : r < n) :
    ∃ t q c : Nat, t ≤ 9 ∧ S.1 9 r = nI t ∧ T.1 8 (6 + r) = nI t ∧ 1 ≤ q ∧ q ≤ 5 ∧ S.1 7 (5 * r + 1) = nI q ∧ T.1 4 r = nI q ∧ c < 4 ∧ S.1 7 (5 * r + 2) = nI c ∧ T.1 5 r = nI c := by
  obtain ⟨t, t1, t2, t3⟩ := h4.2.2.2.2.2.2.1 r hr
  obtain ⟨⟨q, q1, q2, q3, q4⟩, ⟨c, c1, c2, c3⟩, -⟩ := h3 r hr
  exact ⟨t, q, c, t1, t2, t3, q1, q2, q3, q4, c1, c2, c3⟩
theorem a_takes {S T : St} (h : Rel S T) (a b : Int32) : AgrP (m_X8_takes S a b) S (m_X9_takes T a b) := by
  have h' := h.thr
  have h0 := h'
  obtain ⟨n, h8, h1, h2, h3, h4, h5, h6, h7, h9, h10⟩ := h'
  unfold m_X8_takes m_X9_takes
  simp only [lt_e]
  rcases ix3 a (n := n) (by omega) with c | ⟨r, hr, rfl⟩
  · rw [xRock_bad h1 c, mRock_bad h2 h8 c]
    exact AgrP.mk h0
  rw [xRock_ok h1 h8 hr, mRock_ok h2 h8 hr]
  simp only [Option.bind_some, show ¬ ((1 : Int32) = 0) by decide, if_false]
  rcases ix3 b (n := 31) (by omega) with c | ⟨j, hj, rfl⟩
  · have e : m_X9_in b 0 30 = some 0 := in_bad (c.imp id (fun q => by rw [i_lt]; have := i_le.mp q; rw [nI_toInt (by omega)] at this; show (30 : Int) < _; omega))
    rw [e]
    by_cases c1 : b < 0
    · rw [if_pos c1]; exact AgrP.mk h0
    · rw [if_neg c1, if_neg (fun q => ?_)]
      · exact AgrP.mk h0
      · have q2 := i_le.mp (c.resolve_left c1)
        have q3 := i_le.mp q
        rw [nI_toInt (by omega)] at q2
        have : (30 : Int32).toInt = 30 := rfl
        omega
  · rw [in_ok (nI_pos (by omega)) (show ¬ (30 : Int32) < nI j from nI_nlt (a := 30) (by omega) (by omega)), if_neg (nI_pos (by omega)), if_pos (show nI j ≤ (30 : Int32) from nI_le (b := 30) (by omega) (by omega))]
    simp only [Option.bind_some, show ¬ ((1 : Int32) = 0) by decide, if_false]
    obtain ⟨t, q, c, t1, t2, t3, q1, q2, q3, q4, c1, c2, c3⟩ := Rel.rock h3 h4 hr
    obtain ⟨-, -, -, -, -, ⟨m, m1, m2, m3⟩, -, -⟩ := h4
    rw [xPriceOf m2 m1 (by omega) t2 q3 q1 q2 (by omega), mToll m3 m1 (by omega) t3 q4 q1 q2 (by omega)]
    exact AgrP.mk h0
theorem a_count {S T : St} (h : Rel S T) (a : Int32) : AgrP (m_X8_count S a) S (m_X9_count T a) := by
  have h0 := h.thr
  obtain ⟨n, h8, h1, h2, h3, h4, ⟨L, l1, l2, l3, l4⟩, h6, h7, ⟨q, q1, q2, q3, q4⟩, h10⟩ := h.thr
  unfold m_X8_count m_X9_count
  simp only [lt_e]
  by_cases c0 : a = 0
  · rw [if_pos c0, if_neg (fun q => q c0), h1, h2]; exact AgrP.mk h0
  rw [if_neg c0, if_pos c0]
  by_cases c1 : a = 1
  · rw [if_pos c1, if_neg (fun q => q c1), q2, q3]; exact AgrP.mk h0
  rw [if_neg c1, if_pos c1]
  by_cases c2 : a = 2
  · rw [if_pos c2, if_neg (fun q => q c2), l2, l3]; exact AgrP.mk h0
  rw [if_neg c2, if_pos c2]
  exact AgrP.mk h0
/-- in its range, or refused: as the reference asks it, and as the class does -/
theorem rng (b : Int32) (n : Nat) (hn : n < 2 ^ 31 - 1) : (m_X9_in b 0 (nI n) = some 0 ∧ (b < 0 ∨ ¬ b < 0 ∧ ¬ b ≤ nI n ∧ nI n < b)) ∨ ∃ j : Nat, j ≤ n ∧ b = nI j ∧ m_X9_in b 0 (nI n) = some 1 ∧ ¬ b < 0 ∧ b ≤ nI n ∧ ¬ nI n < b := by
  by_cases c1 : b < 0
  · exact Or.inl ⟨in_bad (Or.inl c1), Or.inl c1⟩
  by_cases c2 : nI n < b
  · exact Or.inl ⟨in_bad (Or.inr c2), Or.inr ⟨c1, Int32.not_le.mpr c2, c2⟩⟩
  obtain ⟨j, hj, rfl⟩ := nI_of c1
  have hle : j ≤ n := by
    have := i_le.mp (Int32.not_lt.mp c2)
    rw [nI_toInt hj, nI_toInt (by omega)] at this
    omega
  exact Or.inr ⟨j, hle, rfl, in_ok c1 c2, c1, Int32.not_lt.mp c2, c2⟩
theorem a_got {S T : St} (h : Rel S T) (a : Int32) : AgrP (m_X8_got S a) S (m_X9_got T a) := by
  have h0 := h.thr
  obtain ⟨n, h8, h1, h2, h3, h4, h5, h6, h7, h9, h10⟩ := h.thr
  unfold m_X8_got m_X9_got m_X8_isLord
  simp only [lt_e]
  rcases rng a 3 (by omega) with ⟨e, c⟩ | ⟨j, hj, rfl, e, c1, c2, c3⟩
  · rw [show m_X9_in a 0 3 = some 0 from e]
    rcases c with c | ⟨c1, c2, c3⟩
    · rw [if_pos c]; exact AgrP.mk h0
    · rw [if_neg c1, if_pos (show (3 : Int32) < a from c3)]; exact AgrP.mk h0
  · rw [show m_X9_in (nI j) 0 3 = some 1 from e, if_neg c1, if_neg (show ¬ (3 : Int32) < nI j from c3)]
    simp only [Option.bind_some, show ¬ ((1 : Int32) = 0) by decide, if_false]
    rw [get_n (by omega) (by omega), show (14 : Int32) + nI j = nI (14 + j) from nI_add 14 j, ald_n (by omega) (by omega), h4.2.2.2.2.2.2.2 j (by omega)]
    exact AgrP.mk h0
theorem a_rock {S T : St} (h : Rel S T) (a b : Int32) : AgrP (m_X8_rock S a b) S (m_X9_rock T a b) := by
  have h0 := h.thr
  obtain ⟨n, h8, h1, h2, h3, h4, h5, h6, h7, h9, h10⟩ := h.thr
  unfold m_X8_rock m_X9_rock
  simp only [lt_e]
  rcases ix3 a (n := n) (by omega) with c | ⟨r, hr, rfl⟩
  · rw [xRock_bad h1 c, mRock_bad h2 h8 c]
    exact AgrP.mk h0
  rw [xRock_ok h1 h8 hr, mRock_ok h2 h8 hr]
  simp only [Option.bind_some, show ¬ ((1 : Int32) = 0) by decide, if_false]
  rcases rng b 5 (by omega) with ⟨e, c⟩ | ⟨j, hj, rfl, e, c1, c2, c3⟩
  · rw [show m_X9_in b 0 5 = some 0 from e]
    rcases c with c | ⟨c1, c2, c3⟩
    · rw [if_pos c]; exact AgrP.mk h0
    · rw [if_neg c1, if_neg (show ¬ b ≤ (5 : Int32) from c2)]; exact AgrP.mk h0
  · rw [show m_X9_in (nI j) 0 5 = some 1 from e, if_neg c1, if_pos (show nI j ≤ (5 : Int32) from c2)]
    simp only [Option.bind_some, show ¬ ((1 : Int32) = 0) by decide, not_false_eq_true, if_true]
    obtain ⟨t, q, c, t1, t2, t3, q1, q2, q3, q4, r1, r2, r3⟩ := Rel.rock h3 h4 hr
    obtain ⟨-, -, ⟨w, w1, w2, w3⟩, ⟨d, d1, d2, d3⟩⟩ := h3 r hr
    obtain ⟨-, -, -, -, -, ⟨m, m1, m2, m3⟩, -, -⟩ := h4
    match j, hj with
    | 0, _ =>
      rw [if_neg (show ¬ ¬ nI 0 = 0 by decide), if_neg (show ¬ (3 : Int32) ≤ nI 0 by decide), if_neg (show ¬ ¬ nI 0 = 0 by decide), xTollOf (by omega), show (6 : Int32) + nI r = nI (6 + r) from nI_add 6 r, ald_n (by omega) (by omega), t2, t3]
      exact AgrP.mk h0
    | 1, _ =>
      rw [if_pos (show ¬ nI 1 = 0 by decide), if_neg (show ¬ (3 : Int32) ≤ nI 1 by decide), if_pos (show ¬ nI 1 = 0 by decide), if_pos (show ¬ nI 1 = 5 by decide), if_neg (show ¬ ¬ nI 1 = 1 by decide), fact_n (by omega) (by omega), ald_n (by omega) (by omega), q3, q4]
      exact AgrP.mk h0
    | 2, _ =>
      rw [if_pos (show ¬ nI 2 = 0 by decide), if_neg (show ¬ (3 : Int32) ≤ nI 2 by decide), if_pos (show ¬ nI 2 = 0 by decide), if_pos (show ¬ nI 2 = 5 by decide), if_pos (show ¬ nI 2 = 1 by decide), fact_n (by omega) (by omega), ald_n (by omega) (by omega), r2, r3]
      exact AgrP.mk h0
    | 3, _ =>
      rw [if_pos (show ¬ nI 3 = 0 by decide), if_pos (show (3 : Int32) ≤ nI 3 by decide), if_pos (show ¬ nI 3 = 5 by decide), if_neg (show ¬ ¬ nI 3 = 3 by decide), fact_n (by omega) (by omega), ald_n (by omega) (by omega), w2, w3]
      exact AgrP.mk h0
    | 4, _ =>
      rw [if_pos (show ¬ nI 4 = 0 by decide), if_pos (show (3 : Int32) ≤ nI 4 by decide), if_pos (show ¬ nI 4 = 5 by decide), if_pos (show ¬ nI 4 = 3 by decide), if_neg (show ¬ ¬ nI 4 = 4 by decide), fact_n (by omega) (by omega), ald_n (by omega) (by omega), d2, d3]
      exact AgrP.mk h0
    | 5, _ =>
      rw [if_pos (show ¬ nI 5 = 0 by decide), if_pos (show (3 : Int32) ≤ nI 5 by decide), if_neg (show ¬ ¬ nI 5 = 5 by decide), if_pos (show ¬ nI 5 = 3 by decide), if_pos (show ¬ nI 5 = 4 by decide), xBroken m2 m1 (by omega), m3, bit_1 m1 (by omega)]
      cases brk m r <;> exact AgrP.mk h0
theorem xSea {S : St} {a n : Nat} (ha : S.1 8 0 = nI a) (hn : S.1 6 0 = nI n) (h8 : n ≤ 8) (hle : a ≤ n) : m_X8_isAtSea S = some (if a < n then 0 else 1) := by
  unfold m_X8_isAtSea
  rw [ha, hn]
  by_cases c : a < n
  · rw [if_pos (nI_lt c (by omega)), if_pos c]
  · rw [if_neg (nI_nlt (by omega) (by omega)), if_neg c]
theorem mSea {T : St} {a n : Nat} (ha : T.1 8 0 = nI a) (hn : T.1 2 0 = nI n) (h8 : n ≤ 8) (hle : a ≤ n) : m_X9_isSea T = some (if a < n then 0 else 1) := by
  unfold m_X9_isSea
  rw [ha, hn]
  by_cases c : a < n
  · rw [if_pos (fun e => by have := (nI_eq (by omega) (by omega)).mp e; omega), if_pos c]
  · rw [if_neg (fun q => q (by rw [show a = n by omega])), if_neg c]
/-- what the next rock takes: on both sides -/
theorem mTaken {T : St} {k m r t b q c sl : Nat} (hm : T.1 k 5 = nI m) (hm2 : m < 256) (hr : r < 8) (ht : T.1 k (6 + r) = nI t) (hq : T.1 4 r = nI q) (hq1 : 1 ≤ q) (hq5 : q ≤ 5) (hb : b ≤ 30) (hc : T.1 5 r = nI c) (hc4 : c < 4) (hs : sl ≤ 4) :
    m_X9_takenBy T k (nI r) (nI b) (nI sl) = some (nI (if sl = c + 1 then 0 else prc (brk m r) t b q)) := by
  unfold m_X9_takenBy
  rw [ald_n (by omega) (by omega), hc]
  simp only [Option.bind_some]
  rw [nI_1, mToll hm hm2 hr ht hq hq1 hq5 hb]
  by_cases e : sl = c + 1
  · rw [if_neg (fun q => q (by rw [e])), if_pos e]; rfl
  · rw [if_pos (fun q => e ((nI_eq (by omega) (by omega)).mp q)), if_neg e]; rfl
theorem xDue {S : St} {m r t b q c sl : Nat} (ha : S.1 8 0 = nI r) (hm : S.1 8 5 = nI m) (hm2 : m < 256) (hr : r < 8) (ht : S.1 9 r = nI t) (hq : S.1 7 (5 * r + 1) = nI q) (hq1 : 1 ≤ q) (hq5 : q ≤ 5) (hb1 : S.1 8 1 = nI b) (hb : b ≤ 30) (hc : S.1 7 (5 * r + 2) = nI c) (hc4 : c < 4) (hl : S.1 8 3 = ltr sl) (hs : sl ≤ 4) :
    m_X8_dueHere S = some (nI (if sl = c + 1 then 0 else prc (brk m r) t b q)) := by
  unfold m_X8_dueHere
  rw [ha, show (2 : Int32) = nI 2 from rfl, fact_n hr (by omega), hc, hl, hb1]
  simp only [Option.bind_some]
  have e0 := ltr_all sl (by omega) c hc4
  rw [xPriceOf hm hm2 hr ht hq hq1 hq5 hb]
  by_cases e : sl = c + 1
  · rw [if_neg (fun q => q (e0.mpr e)), if_pos e]; rfl
  · rw [if_pos (fun q => e (e0.mp q)), if_neg e]; rfl
theorem a_now {S T : St} (h : Rel S T) (a : Int32) : AgrP (m_X8_now S a) S (m_X9_now T a) := by
  have h0 := h.thr
  obtain ⟨n, h8, h1, h2, h3, h4, h5, h6, h7, h9, h10⟩ := h.thr
  unfold m_X8_now m_X9_now
  simp only [lt_e]
  rcases rng a 6 (by omega) with ⟨e, c⟩ | ⟨j, hj, rfl, e, c1, c2, c3⟩
  · rw [show m_X9_in a 0 6 = some 0 from e]
    have hk : ∀ k : Nat, k < 7 → ¬ a = nI k := by
      rintro k hk rfl
      rcases c with c | ⟨-, c, -⟩
      · exact nI_pos (by omega) c
      · exact c (nI_le (by omega) (by omega))
    rw [if_neg (show ¬ a = (0 : Int32) from hk 0 (by omega)), if_neg (show ¬ a = (1 : Int32) from hk 1 (by omega)), if_neg (show ¬ a = (2 : Int32) from hk 2 (by omega)), if_neg (show ¬ a = (3 : Int32) from hk 3 (by omega)), if_neg (show ¬ a = (4 : Int32) from hk 4 (by omega)), if_neg (show ¬ a = (5 : Int32) from hk 5 (by omega)), if_neg (show ¬ a = (6 : Int32) from hk 6 (by omega))]
    exact AgrP.mk h0
  · rw [show m_X9_in (nI j) 0 6 = some 1 from e]
    simp only [Option.bind_some, show ¬ ((1 : Int32) = 0) by decide, not_false_eq_true, if_true]
    have h4c := h4
    obtain ⟨⟨p, p1, p2, p3⟩, ⟨b, b1, b2, b3⟩, g3, ⟨sl, s1, s2, s3⟩, g4, ⟨m, m1, m2, m3⟩, -, -⟩ := h4
    match j, hj with
    | 0, _ =>
      rw [if_pos (show nI 0 = 0 by decide), if_neg (show ¬ (3 : Int32) ≤ nI 0 by decide), ald_n (by omega) (by omega), p2, p3]
      exact AgrP.mk h0
    | 1, _ =>
      rw [if_neg (show ¬ nI 1 = 0 by decide), if_pos (show nI 1 = 1 by decide), if_neg (show ¬ (3 : Int32) ≤ nI 1 by decide), ald_n (by omega) (by omega), b2, b3]
      exact AgrP.mk h0
    | 2, _ =>
      rw [if_neg (show ¬ nI 2 = 0 by decide), if_neg (show ¬ nI 2 = 1 by decide), if_pos (show nI 2 = 2 by decide), if_neg (show ¬ (3 : Int32) ≤ nI 2 by decide), ald_n (by omega) (by omega), g3]
      exact AgrP.mk h0
    | 3, _ =>
      rw [if_neg (show ¬ nI 3 = 0 by decide), if_neg (show ¬ nI 3 = 1 by decide), if_neg (show ¬ nI 3 = 2 by decide), if_pos (show nI 3 = 3 by decide), if_pos (show (3 : Int32) ≤ nI 3 by decide), if_neg (show ¬ ¬ nI 3 = 3 by decide), s2, s3]
      cases sl with
      | zero => rw [if_neg (show ¬ ¬ nI 0 = 0 by decide)]; exact AgrP.mk h0
      | succ c => rw [if_pos (nI_n0 (by omega) (by omega)), nI_pred]; exact AgrP.mk h0
    | 4, _ =>
      rw [if_neg (show ¬ nI 4 = 0 by decide), if_neg (show ¬ nI 4 = 1 by decide), if_neg (show ¬ nI 4 = 2 by decide), if_neg (show ¬ nI 4 = 3 by decide), if_pos (show nI 4 = 4 by decide), if_pos (show (3 : Int32) ≤ nI 4 by decide), if_pos (show ¬ nI 4 = 3 by decide), if_neg (show ¬ ¬ nI 4 = 4 by decide), g4]
      exact AgrP.mk h0
    | 5, _ =>
      rw [if_neg (show ¬ nI 5 = 0 by decide), if_neg (show ¬ nI 5 = 1 by decide), if_neg (show ¬ nI 5 = 2 by decide), if_neg (show ¬ nI 5 = 3 by decide), if_neg (show ¬ nI 5 = 4 by decide), if_pos (show nI 5 = 5 by decide), if_pos (show (3 : Int32) ≤ nI 5 by decide), if_pos (show ¬ nI 5 = 3 by decide), if_pos (show ¬ nI 5 = 4 by decide), if_pos (show ¬ nI 5 = 6 by decide), xSea p2 h1 h8 p1, mSea p3 h2 h8 p1]
      by_cases hp : p < n
      · obtain ⟨t, q, c, t1, t2, t3, q1, q2, q3, q4, r1, r2, r3⟩ := Rel.rock h3 h4c hp
        rw [if_pos hp, xDue p2 m2 m1 (by omega) t2 q3 q1 q2 b2 b1 r2 r1 s2 s1, p3, b3, s3, mTaken m3 m1 (by omega) t3 q4 q1 q2 b1 r3 r1 s1]
        exact AgrP.mk h0
      · rw [if_neg hp]
        exact AgrP.mk h0
    | 6, _ =>
      obtain ⟨k, x, k1, k2, k3, k4, k5, -⟩ := h6
      rw [if_neg (show ¬ nI 6 = 0 by decide), if_neg (show ¬ nI 6 = 1 by decide), if_neg (show ¬ nI 6 = 2 by decide), if_neg (show ¬ nI 6 = 3 by decide), if_neg (show ¬ nI 6 = 4 by decide), if_neg (show ¬ nI 6 = 5 by decide), if_pos (show nI 6 = 6 by decide), if_pos (show (3 : Int32) ≤ nI 6 by decide), if_pos (show ¬ nI 6 = 3 by decide), if_pos (show ¬ nI 6 = 4 by decide), if_neg (show ¬ ¬ nI 6 = 6 by decide), k3, k5]
      exact AgrP.mk h0
