/-! cheap, odds: fractions in least terms -/
theorem gcd_st (a b : Nat) : Nat.gcd a b = Nat.gcd b (a % b) := by
  rw [Nat.gcd_comm, Nat.gcd_rec, Nat.gcd_comm]
theorem mod_half {b c : Nat} (hc : c < b) (h0 : 0 < c) : 2 * (b % c) < b := by
  have h1 := Nat.mod_lt b h0
  have h2 := Nat.div_add_mod b c
  have h3 : 1 ≤ b / c := (Nat.le_div_iff_mul_le h0).mpr (by omega)
  have h4 : c * 1 ≤ c * (b / c) := Nat.mul_le_mul_left c h3
  omega
theorem mgcd_L : ∀ (e a b f : Nat), a < 2 ^ 31 → b < 2 ^ e → e ≤ 31 → 2 * e + 1 < f → m_X9_gcd_L0 m_X9_gcd_r0 f (nI a) (nI b) = some (nI (Nat.gcd a b)) := by
  intro e
  induction e with
  | zero =>
    intro a b f ha hb he hf
    obtain ⟨f, rfl⟩ : ∃ z, f = z + 1 := ⟨f - 1, by omega⟩
    obtain rfl : b = 0 := by omega
    rw [m_X9_gcd_L0, if_pos (show nI 0 = 0 from rfl), Nat.gcd_zero_right]
    rfl
  | succ e ih =>
    intro a b f ha hb he hf
    have hb31 : b < 2 ^ 31 := Nat.lt_of_lt_of_le hb (Nat.pow_le_pow_right (by omega) he)
    obtain ⟨f, rfl⟩ : ∃ z, f = z + 2 := ⟨f - 2, by omega⟩
    rw [m_X9_gcd_L0]
    by_cases c : b = 0
    · subst c
      rw [if_pos (show nI 0 = 0 from rfl), Nat.gcd_zero_right]
      rfl
    · rw [if_neg (nI_n0 (by omega) hb31), nz, if_neg (nI_n0 (by omega) hb31), pk_rem ha (by omega) hb31, gcd_st a b, m_X9_gcd_L0]
      have hm := Nat.mod_lt a (show 0 < b by omega)
      by_cases c2 : a % b = 0
      · rw [c2, if_pos (show nI 0 = 0 from rfl), Nat.gcd_zero_right]
        rfl
      · have hh := mod_half hm (by omega)
        rw [if_neg (nI_n0 (by omega) (by omega)), nz, if_neg (nI_n0 (by omega) (by omega)), pk_rem hb31 (by omega) (by omega), gcd_st b (a % b)]
        exact ih (a % b) (b % (a % b)) f (by omega) (by rw [Nat.pow_succ] at hb; omega) (by omega) (by omega)
theorem xgcd_L : ∀ (e a b f k : Nat), a < 2 ^ 31 → b < 2 ^ e → e ≤ 31 → 2 * e + 1 < f → k + 2 * e < 100 → m_X6_greatestCommon_L0 m_X6_greatestCommon_r0 f (nI a) (nI b) (nI k) = some (nI (Nat.gcd a b)) := by
  intro e
  induction e with
  | zero =>
    intro a b f k ha hb he hf hk
    obtain ⟨f, rfl⟩ : ∃ z, f = z + 1 := ⟨f - 1, by omega⟩
    obtain rfl : b = 0 := by omega
    rw [m_X6_greatestCommon_L0, if_neg (show ¬ (100 : Int32) ≤ nI k from nI_ge (b := 100) (by omega) (by omega)), if_pos (show nI 0 = 0 from rfl), Nat.gcd_zero_right]
    rfl
  | succ e ih =>
    intro a b f k ha hb he hf hk
    have hb31 : b < 2 ^ 31 := Nat.lt_of_lt_of_le hb (Nat.pow_le_pow_right (by omega) he)
    obtain ⟨f, rfl⟩ : ∃ z, f = z + 2 := ⟨f - 2, by omega⟩
    rw [m_X6_greatestCommon_L0, if_neg (show ¬ (100 : Int32) ≤ nI k from nI_ge (b := 100) (by omega) (by omega))]
    by_cases c : b = 0
    · subst c
      rw [if_pos (show nI 0 = 0 from rfl), Nat.gcd_zero_right]
      rfl
    · rw [if_neg (nI_n0 (by omega) hb31), nz, if_neg (nI_n0 (by omega) hb31), pk_rem ha (by omega) hb31, gcd_st a b, nI_1, m_X6_greatestCommon_L0, if_neg (show ¬ (100 : Int32) ≤ nI (k + 1) from nI_ge (b := 100) (by omega) (by omega))]
      have hm := Nat.mod_lt a (show 0 < b by omega)
      by_cases c2 : a % b = 0
      · rw [c2, if_pos (show nI 0 = 0 from rfl), Nat.gcd_zero_right]
        rfl
      · have hh := mod_half hm (by omega)
        rw [if_neg (nI_n0 (by omega) (by omega)), nz, if_neg (nI_n0 (by omega) (by omega)), pk_rem hb31 (by omega) (by omega), gcd_st b (a % b), nI_1]
        exact ih (a % b) (b % (a % b)) f (k + 2) (by omega) (by rw [Nat.pow_succ] at hb; omega) (by omega) (by omega) (by omega)
theorem mgcd {fu a b : Nat} (hf : 300 ≤ fu) (ha : a < 2 ^ 31) (hb : b < 2 ^ 31) : m_X9_gcd fu (nI a) (nI b) = some (nI (Nat.gcd a b)) := mgcd_L 31 a b fu ha hb (by omega) (by omega)
theorem xleast {fu a b : Nat} (hf : 300 ≤ fu) (ha : a < 2 ^ 31) (hb : b < 2 ^ 31) (h : 0 < a ∨ 0 < b) : m_X6_inLeastTerms fu (nI a) (nI b) = some (nI (a / Nat.gcd a b)) := by
  have hg : 0 < Nat.gcd a b := by
    rcases h with h | h
    · exact Nat.gcd_pos_of_pos_left b h
    · exact Nat.gcd_pos_of_pos_right a h
  have hg2 : Nat.gcd a b < 2 ^ 31 := by
    rcases h with h | h
    · have := Nat.gcd_le_left b h; omega
    · have := Nat.gcd_le_right a h; omega
  unfold m_X6_inLeastTerms m_X6_greatestCommon
  have e := xgcd_L 31 a b fu 0 ha hb (by omega) (by omega) (by omega)
  rw [show nI 0 = (0 : Int32) from rfl] at e
  rw [e]
  simp only [Option.bind_some]
  rw [if_neg (nI_nle hg hg2), nz, if_neg (nI_n0 hg hg2), pk_div ha hg hg2]
theorem mleast {a b : Nat} (ha : a < 2 ^ 31) (hb : b < 2 ^ 31) (h : 0 < a ∨ 0 < b) {β : Type} (k : Int32 → Option β) (x : Nat) (hx : x < 2 ^ 31) : nz (nI (Nat.gcd a b)) (k (nI x / nI (Nat.gcd a b))) = k (nI (x / Nat.gcd a b)) := by
  have hg : 0 < Nat.gcd a b := by
    rcases h with h | h
    · exact Nat.gcd_pos_of_pos_left b h
    · exact Nat.gcd_pos_of_pos_right a h
  have hg2 : Nat.gcd a b < 2 ^ 31 := by
    rcases h with h | h
    · have := Nat.gcd_le_left b h; omega
    · have := Nat.gcd_le_right a h; omega
  rw [nz, if_neg (nI_n0 hg hg2), pk_div hx hg hg2]
theorem cheap_L {n a b m sl r : Nat} {t q c d : Nat → Nat} {S T : St} (h : SRel S T n a b m sl t q c d) (hr : r < n) (k0 : Int32 → Int32 → Option Int32) (k1 : Int32 → Int32 → Option (Int32 × St)) : ∀ (dd i f g x : Nat), i + dd = 31 → 2 ≤ i → dd < f → dd < g → 1 ≤ x → x ≤ 30 →
    ∃ z : Nat, 1 ≤ z ∧ z ≤ 30 ∧ m_X8_cheap_L0 (nI r) S k0 f (nI x) (nI i) = k0 (nI z) (nI 31) ∧ m_X9_cheap_L0 (nI r) T k1 g (nI x) (nI i) = k1 (nI z) (nI 31) := by
  obtain ⟨C, t9, h1, h2, h3, h4, h5, h6, hM, h8, h9⟩ := h
  have hn := C.1
  have hm := C.2.2.2.1
  obtain ⟨t0, t1, t2, -, -⟩ := C.2.2.2.2.2 r hr
  obtain ⟨y1, y2, -⟩ := h6 r hr
  obtain ⟨z1, z2, -⟩ := hM.2.2.2.2 r hr
  have ex : ∀ x : Nat, x ≤ 30 → m_X8_priceOf S (nI r) (nI x) = some (nI (prc (brk m r) (t r) x (q r))) := fun x hx => xPriceOf h5 hm (by omega) y1 y2 t1 t2 hx
  have em : ∀ x : Nat, x ≤ 30 → m_X9_tollOf T 8 (nI r) (nI x) = some (nI (prc (brk m r) (t r) x (q r))) := fun x hx => mToll hM.2.2.2.1 hm (by omega) z1 z2 t1 t2 hx
  intro dd
  induction dd with
  | zero =>
    intro i f g x q1 q2 q3 q4 q5 q6
    obtain ⟨f, rfl⟩ : ∃ z, f = z + 1 := ⟨f - 1, by omega⟩
    obtain ⟨g, rfl⟩ : ∃ z, g = z + 1 := ⟨g - 1, by omega⟩
    obtain rfl : i = 31 := by omega
    exact ⟨x, q5, q6, by rw [m_X8_cheap_L0, if_pos (by decide)], by rw [m_X9_cheap_L0, if_pos (by decide)]⟩
  | succ dd ih =>
    intro i f g x q1 q2 q3 q4 q5 q6
    obtain ⟨f, rfl⟩ : ∃ z, f = z + 1 := ⟨f - 1, by omega⟩
    obtain ⟨g, rfl⟩ : ∃ z, g = z + 1 := ⟨g - 1, by omega⟩
    rw [m_X8_cheap_L0, if_neg (show ¬ (30 : Int32) < nI i from nI_nlt (a := 30) (by omega) (by omega)), ex i (by omega), ex x q6, m_X9_cheap_L0, if_neg (show ¬ (30 : Int32) < nI i from nI_nlt (a := 30) (by omega) (by omega)), em i (by omega), em x q6]
    simp only [Option.bind_some]
    by_cases e : nI (prc (brk m r) (t r) x (q r)) * nI i ≤ nI (prc (brk m r) (t r) i (q r)) * nI x
    · rw [if_pos e]
      simp only [Option.bind_some]
      rw [nI_1]
      exact ih (i + 1) f g x (by omega) (by omega) (by omega) (by omega) q5 q6
    · rw [if_neg e]
      simp only [Option.bind_some]
      rw [nI_1]
      exact ih (i + 1) f g i (by omega) (by omega) (by omega) (by omega) (by omega) (by omega)
theorem a_cheap {fu : Nat} {S T : St} (hf : 300 ≤ fu) (h : Rel S T) (x a2 : Int32) : AgrP (m_X8_cheap fu S x a2) S (m_X9_cheap fu T x a2) := by
  have h0 := h.thr
  obtain ⟨n, a, b, m, sl, hs⟩ := h0.s
  have hs' := hs
  obtain ⟨C, t9, h1, h2, h3, h4, h5, h6, hM, h8, h9⟩ := hs'
  have hn8 := C.1
  have hm := C.2.2.2.1
  unfold m_X8_cheap m_X9_cheap
  simp only [lt_e]
  rcases ix3 x (n := n) (by omega) with c2 | ⟨r, hr, rfl⟩
  · rw [xRock_bad h1 c2, mRock_bad hM.1 hn8 c2]
    simp only [Option.bind_some, if_true]
    exact AgrP.mk h0
  rw [xRock_ok h1 hn8 hr, mRock_ok hM.1 hn8 hr]
  simp only [Option.bind_some]
  rw [if_neg (show ¬ (1 : Int32) = 0 by decide), if_neg (show ¬ (1 : Int32) = 0 by decide)]
  rcases rng a2 2 (by omega) with ⟨e, c⟩ | ⟨j, hj, rfl, e, c1, c2, c3⟩
  · rw [show m_X9_in a2 0 2 = some 0 from e]
    simp only [Option.bind_some, not_true_eq_false, if_false]
    rcases c with c | ⟨c1, c2, c3⟩
    · rw [if_pos c]; exact AgrP.mk h0
    · rw [if_neg c1, if_neg (show ¬ a2 ≤ 2 from c2)]; exact AgrP.mk h0
  rw [show m_X9_in (nI j) 0 2 = some 1 from e, if_neg c1, if_pos (show nI j ≤ 2 from c2)]
  simp only [Option.bind_some]
  rw [if_pos (show ¬ (1 : Int32) = 0 by decide)]
  obtain ⟨z, z1, z2, e1, e2⟩ := cheap_L hs hr (m_X8_cheap_r0 fu (nI r) (nI j) S) (m_X9_cheap_r0 fu (nI r) (nI j) (st_i T 0 0 0)) 29 2 fu fu 1 (by omega) (by omega) (by omega) (by omega) (by omega) (by omega)
  rw [show (1 : Int32) = nI 1 from rfl, show (2 : Int32) = nI 2 from rfl, e1, e2]
  obtain ⟨t0, t1, t2, -, -⟩ := C.2.2.2.2.2 r hr
  obtain ⟨y1, y2, -⟩ := h6 r hr
  obtain ⟨w1, w2, -⟩ := hM.2.2.2.2 r hr
  have hp := prc_le (br := brk m r) t0 z2 t1
  unfold m_X8_cheap_r0 m_X9_cheap_r0
  rw [xPriceOf h5 hm (by omega) y1 y2 t1 t2 z2, mToll hM.2.2.2.1 hm (by omega) w1 w2 t1 t2 z2]
  simp only [Option.bind_some]
  rw [mgcd hf (by omega) (by omega)]
  simp only [Option.bind_some]
  by_cases d0 : nI j = 0
  · rw [if_neg (fun q => q d0), if_neg (fun q => q d0)]
    exact AgrP.mk h0
  · rw [if_pos d0, if_pos d0]
    by_cases d1 : nI j = 1
    · rw [if_neg (fun q => q d1), if_neg (fun q => q d1), xleast hf (by omega) (by omega) (by omega), mleast (by omega) (by omega) (by omega) (fun v => some (v, st_i T 0 0 0)) _ (by omega)]
      exact AgrP.mk h0
    · rw [if_pos d1, if_pos d1, xleast hf (by omega) (by omega) (by omega), mleast (by omega) (by omega) (by omega) (fun v => some (v, st_i T 0 0 0)) _ (by omega), Nat.gcd_comm z]
      exact AgrP.mk h0
theorem odds_L {n a b m sl : Nat} {t q c d : Nat → Nat} {S T : St} (h : SRel S T n a b m sl t q c d) (hw : ∀ r : Nat, r < n → ∃ w : Nat, w ≤ 10 ∧ S.1 7 (5 * r + 3) = nI w ∧ T.1 6 r = nI w) (a1 : Int32) (k0 : Int32 → Int32 → Int32 → Option Int32) (k1 : Int32 → Int32 → Int32 → Option (Int32 × St)) : ∀ (dd i f g u l : Nat), i + dd = n → dd < f → dd < g → u ≤ 10 ^ i → 1 ≤ l → l ≤ 10 ^ i →
    ∃ u' l' : Nat, u' ≤ 10 ^ 8 ∧ 1 ≤ l' ∧ l' ≤ 10 ^ 8 ∧ m_X8_odds_L0 a1 S k0 f (nI u) (nI l) (nI i) = k0 (nI u') (nI l') (nI n) ∧ m_X9_odds_L0 a1 T k1 g (nI u) (nI l) (nI i) = k1 (nI u') (nI l') (nI n) := by
  obtain ⟨C, t9, h1, h2, h3, h4, h5, h6, hM, h8, h9⟩ := h
  have hn := C.1
  intro dd
  induction dd with
  | zero =>
    intro i f g u l q1 q3 q4 q5 q6 q7
    obtain ⟨f, rfl⟩ : ∃ z, f = z + 1 := ⟨f - 1, by omega⟩
    obtain ⟨g, rfl⟩ : ∃ z, g = z + 1 := ⟨g - 1, by omega⟩
    obtain rfl : i = n := by omega
    have hp : 10 ^ i ≤ 10 ^ 8 := Nat.pow_le_pow_right (by omega) hn
    exact ⟨u, l, by omega, q6, by omega, by rw [m_X8_odds_L0, h1, if_pos (nI_le (by omega) (by omega))], by rw [m_X9_odds_L0, hM.1, if_pos (nI_le (by omega) (by omega))]⟩
  | succ dd ih =>
    intro i f g u l q1 q3 q4 q5 q6 q7
    obtain ⟨f, rfl⟩ : ∃ z, f = z + 1 := ⟨f - 1, by omega⟩
    obtain ⟨g, rfl⟩ : ∃ z, g = z + 1 := ⟨g - 1, by omega⟩
    have hi : i < n := by omega
    obtain ⟨w, w1, w2, w3⟩ := hw i hi
    rw [m_X8_odds_L0, h1, if_neg (nI_ge hi (by omega)), m_X9_odds_L0, hM.1, if_neg (nI_ge hi (by omega))]
    have hp : 10 ^ (i + 1) = 10 ^ i * 10 := Nat.pow_succ 10 i
    by_cases e : ((a1 >>> (nI i &&& 31)) &&& 1) = 1
    · rw [if_neg (fun q => q e), if_neg (fun q => q e), if_neg (fun q => q e), show (3 : Int32) = nI 3 from rfl, fact_n (by omega) (by omega), w2, ald_n (by omega) (by omega), w3]
      simp only [Option.bind_some, ob2_s]
      rw [show (10 : Int32) = nI 10 from rfl, pk_sub w1, pk_mul, pk_mul, nI_1]
      have hu : u * (10 - w) ≤ 10 ^ i * 10 := Nat.mul_le_mul q5 (by omega)
      exact ih (i + 1) f g (u * (10 - w)) (l * 10) (by omega) (by omega) (by omega) (by omega) (by omega) (by omega)
    · rw [if_pos e, if_pos e, if_pos e]
      simp only [Option.bind_some, ob2_s]
      rw [Int32.mul_one, Int32.mul_one, nI_1]
      exact ih (i + 1) f g u l (by omega) (by omega) (by omega) (by omega) (by omega) (by omega)
theorem pow_all : ∀ n : Nat, n < 9 → (1 : Int32) <<< (nI n &&& 31) = nI (2 ^ n) := by decide +kernel
theorem pow_256 {n : Nat} (h : n ≤ 8) : 2 ^ n ≤ 256 := by
  have : 2 ^ n ≤ 2 ^ 8 := Nat.pow_le_pow_right (by omega) h
  omega
theorem a_odds {fu : Nat} {S T : St} (hf : 300 ≤ fu) (h : Rel S T) (a1 a2 : Int32) : AgrP (m_X8_odds fu S a1 a2) S (m_X9_odds fu T a1 a2) := by
  have h0 := h.thr
  obtain ⟨n, a, b, m, sl, hs⟩ := h0.s
  have hs' := hs
  obtain ⟨C, t9, h1, h2, h3, h4, h5, h6, hM, h8, h9⟩ := hs'
  have hn8 := C.1
  have hw : ∀ r : Nat, r < n → ∃ w : Nat, w ≤ 10 ∧ S.1 7 (5 * r + 3) = nI w ∧ (st_i T 0 0 0).1 6 r = nI w := by
    obtain ⟨n', q8, q1, -, q3, -⟩ := h0
    obtain rfl : n = n' := by
      rw [h1] at q1
      exact (nI_eq (by omega) (by omega)).mp q1
    intro r hr
    exact (q3 r hr).2.2.1
  have hpos : 0 < 2 ^ n := Nat.two_pow_pos n
  have hle := pow_256 hn8
  unfold m_X8_odds m_X9_odds
  simp only [lt_e]
  rw [h1, hM.1, pow_all n (by omega), show nI (2 ^ n) - 1 = nI (2 ^ n - 1) from pk_sub (b := 1) hpos]
  rcases rng a1 (2 ^ n - 1) (by omega) with ⟨e, c⟩ | ⟨j, hj, rfl, e, c1, c2, c3⟩
  · rw [e]
    simp only [Option.bind_some, if_true]
    rcases c with c | ⟨c1, c2, c3⟩
    · rw [if_pos c]; exact AgrP.mk h0
    · obtain ⟨j, j1, rfl⟩ := nI_of c1
      have := (nI_ltI (by omega) (by omega)).mp c3
      rw [if_neg c1, if_pos (nI_le (by omega) (by omega))]; exact AgrP.mk h0
  rw [e, if_neg c1, if_neg (nI_ge (by omega) (by omega))]
  simp only [Option.bind_some]
  rw [if_neg (show ¬ (1 : Int32) = 0 by decide)]
  rcases rng a2 1 (by omega) with ⟨e, c⟩ | ⟨i, hi, rfl, e, d1, d2, d3⟩
  · rw [show m_X9_in a2 0 1 = some 0 from e]
    simp only [Option.bind_some, not_true_eq_false, if_false]
    rcases c with c | ⟨c1, c2, c3⟩
    · rw [if_pos c]; exact AgrP.mk h0
    · rw [if_neg c1, if_neg (show ¬ a2 ≤ 1 from c2)]; exact AgrP.mk h0
  rw [show m_X9_in (nI i) 0 1 = some 1 from e, if_neg d1, if_pos (show nI i ≤ 1 from d2)]
  simp only [Option.bind_some]
  rw [if_pos (show ¬ (1 : Int32) = 0 by decide), h2, hM.2.1]
  have ha := C.2.1
  obtain ⟨u, l, u1, l1, l2, e1, e2⟩ := odds_L hs hw (nI j) (m_X8_odds_r0 fu (nI i)) (m_X9_odds_r0 fu (nI i) (st_i T 0 0 0)) (n - a) a fu fu 1 1 (by omega) (by omega) (by omega) (Nat.one_le_pow _ _ (by omega)) (Nat.le_refl _) (Nat.one_le_pow _ _ (by omega))
  rw [show (1 : Int32) = nI 1 from rfl, e1, e2]
  unfold m_X8_odds_r0 m_X9_odds_r0
  rw [mgcd hf (by omega) (by omega)]
  simp only [Option.bind_some]
  by_cases d0 : nI i = 0
  · rw [if_neg (fun q => q d0), if_neg (fun q => q d0), xleast hf (by omega) (by omega) (by omega), mleast (by omega) (by omega) (by omega) (fun v => some (v, st_i T 0 0 0)) _ (by omega)]
    exact AgrP.mk h0
  · rw [if_pos d0, if_pos d0, xleast hf (by omega) (by omega) (by omega), mleast (by omega) (by omega) (by omega) (fun v => some (v, st_i T 0 0 0)) _ (by omega), Nat.gcd_comm l]
    exact AgrP.mk h0
