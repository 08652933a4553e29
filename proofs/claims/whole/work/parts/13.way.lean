/-! What both searches are asked for: way, enough, one, byLord, most, still, two -/
def tF (S : St) (r : Nat) : Nat := (S.1 9 r).toNatClampNeg
def qF (S : St) (r : Nat) : Nat := (S.1 7 (5 * r + 1)).toNatClampNeg
def cF (S : St) (r : Nat) : Nat := (S.1 7 (5 * r + 2)).toNatClampNeg
def dF (S : St) (r : Nat) : Nat := (S.1 7 (5 * r + 4)).toNatClampNeg
/-- the relation, as the searches ask for it -/
def SRel (S T : St) (n a b m sl : Nat) (t q c d : Nat → Nat) : Prop := Cfg n a b m sl t q c d ∧ (∀ r : Nat, r < n → t r ≤ 9) ∧ S.1 6 0 = nI n ∧ S.1 8 0 = nI a ∧ S.1 8 1 = nI b ∧ S.1 8 3 = ltr sl ∧ S.1 8 5 = nI m ∧ (∀ r : Nat, r < n → S.1 9 r = nI (t r) ∧ S.1 7 (5 * r + 1) = nI (q r) ∧ S.1 7 (5 * r + 2) = nI (c r) ∧ S.1 7 (5 * r + 4) = nI (d r)) ∧ MCfg T 8 n a m sl t q c d ∧ T.1 8 1 = nI b ∧ S.1 8 2 = T.1 8 2
theorem Rel.s {S T : St} (h : Rel S T) : ∃ n a b m sl : Nat, SRel S T n a b m sl (tF S) (qF S) (cF S) (dF S) := by
  obtain ⟨n, h8, h1, h2, h3, h4, -⟩ := h
  obtain ⟨⟨a, a1, a2, a3⟩, ⟨b, b1, b2, b3⟩, e2, ⟨sl, s1, s2, s3⟩, -, ⟨m, m1, m2, m3⟩, ht, -⟩ := h4
  have hr : ∀ r : Nat, r < n → tF S r ≤ 9 ∧ 1 ≤ qF S r ∧ qF S r ≤ 5 ∧ cF S r < 4 ∧ dF S r ≤ 30 ∧ S.1 9 r = nI (tF S r) ∧ S.1 7 (5 * r + 1) = nI (qF S r) ∧ S.1 7 (5 * r + 2) = nI (cF S r) ∧ S.1 7 (5 * r + 4) = nI (dF S r) ∧ T.1 8 (6 + r) = nI (tF S r) ∧ T.1 4 r = nI (qF S r) ∧ T.1 5 r = nI (cF S r) ∧ T.1 7 r = nI (dF S r) := by
    intro r hr
    obtain ⟨t, t1, t2, t3⟩ := ht r hr
    obtain ⟨⟨q, q1, q2, q3, q4⟩, ⟨c, c1, c2, c3⟩, -, ⟨d, d1, d2, d3⟩⟩ := h3 r hr
    have e1 : tF S r = t := by unfold tF; rw [t2, nI_clamp (by omega)]
    have e2 : qF S r = q := by unfold qF; rw [q3, nI_clamp (by omega)]
    have e3 : cF S r = c := by unfold cF; rw [c2, nI_clamp (by omega)]
    have e4 : dF S r = d := by unfold dF; rw [d2, nI_clamp (by omega)]
    rw [e1, e2, e3, e4]
    exact ⟨t1, q1, q2, c1, d1, t2, q3, c2, d2, t3, q4, c3, d3⟩
  refine ⟨n, a, b, m, sl, ⟨h8, a1, b1, m1, s1, fun r h => ?_⟩, fun r h => (hr r h).1, h1, a2, b2, s2, m2, fun r h => ?_, ⟨h2, a3, s3, m3, fun r h => ?_⟩, b3, e2⟩
  · obtain ⟨g1, g2, g3, g4, g5, -⟩ := hr r h
    exact ⟨by omega, g2, g3, g4, g5⟩
  · obtain ⟨-, -, -, -, -, g1, g2, g3, g4, -⟩ := hr r h
    exact ⟨g1, g2, g3, g4⟩
  · obtain ⟨-, -, -, -, -, -, -, -, -, g1, g2, g3, g4⟩ := hr r h
    exact ⟨g1, g2, g3, g4⟩
theorem SRel.fr {S T S' T' : St} {n a b m sl : Nat} {t q c d : Nat → Nat} (h : SRel S T n a b m sl t q c d) (hx : FrX S S') (hm : FrM T T') : SRel S' T' n a b m sl t q c d := by
  obtain ⟨C, t9, h1, h2, h3, h4, h5, h6, ⟨k1, k2, k3, k4, k5⟩, h8, h9⟩ := h
  have e8 := hm.2.1 8 (by omega) (by omega) (by omega) (by omega) (by omega)
  refine ⟨C, t9, ?_, ?_, ?_, ?_, ?_, ?_, ⟨?_, ?_, ?_, ?_, ?_⟩, ?_, ?_⟩
  · rw [hx.1 6 (by omega)]; exact h1
  · rw [hx.1 8 (by omega)]; exact h2
  · rw [hx.1 8 (by omega)]; exact h3
  · rw [hx.1 8 (by omega)]; exact h4
  · rw [hx.1 8 (by omega)]; exact h5
  · rw [hx.1 9 (by omega), hx.1 7 (by omega)]; exact h6
  · rw [hm.2.1 2 (by omega) (by omega) (by omega) (by omega) (by omega)]; exact k1
  · rw [e8]; exact k2
  · rw [e8]; exact k3
  · rw [e8]; exact k4
  · rw [e8, hm.2.1 4 (by omega) (by omega) (by omega) (by omega) (by omega), hm.2.1 5 (by omega) (by omega) (by omega) (by omega) (by omega), hm.2.1 7 (by omega) (by omega) (by omega) (by omega) (by omega)]; exact k5
  · rw [e8]; exact h8
  · rw [hx.1 8 (by omega), e8]; exact h9
def loadS (S : St) : St := cpo (st_i (st_i (st_i (st_i S 51 7 (S.1 8 0)) 51 0 (S.1 8 1)) 51 8 (S.1 8 3)) 51 1 (S.1 8 5)) 9 0 52 0 8
theorem xload {fu : Nat} (S : St) (hf : 300 ≤ fu) : m_X4_load fu S = some (loadS S) := by
  unfold m_X4_load loadS
  simp only [lt_e, st_n (show (8 : Nat) ≠ 51 by omega)]
  rw [xcopy _ (by omega) (by omega) (by omega)]
  rfl
theorem load_fr (S : St) : FrX S (loadS S) := by
  refine ⟨fun k hk => ?_, rfl⟩
  unfold loadS
  rw [cpo_o (by omega), st_n (by omega), st_n (by omega), st_n (by omega), st_n (by omega)]
theorem load_x {S T : St} {n a b m sl : Nat} {t q c d : Nat → Nat} (h : SRel S T n a b m sl t q c d) : XCfg (loadS S) n a b m sl t q c d := by
  obtain ⟨C, t9, h1, h2, h3, h4, h5, h6, -⟩ := h
  have h8 := C.1
  unfold XCfg
  have e51 : ∀ j : Nat, (loadS S).1 51 j = if j = 1 then S.1 8 5 else if j = 8 then S.1 8 3 else if j = 0 then S.1 8 1 else if j = 7 then S.1 8 0 else S.1 51 j := by
    intro j
    unfold loadS
    rw [cpo_o (by omega)]
    simp only [st_s, upd_e]
  refine ⟨?_, ?_, ?_, ?_, ?_, fun r hr => ?_⟩
  · rw [(load_fr S).1 6 (by omega)]; exact h1
  · rw [e51]; exact h2
  · rw [e51]; exact h3
  · rw [e51]; exact h5
  · rw [e51]; exact h4
  · rw [(load_fr S).1 7 (by omega)]
    refine ⟨?_, (h6 r hr).2⟩
    unfold loadS
    rw [cpo_w, if_pos (by omega), st_n (by omega), st_n (by omega), st_n (by omega), st_n (by omega), Nat.zero_add, Nat.sub_zero]
    exact (h6 r hr).1
/-- what a search says, on the class's side -/
def XOut (S : St) (n a b m sl : Nat) (t q c d : Nat → Nat) : Prop := S.1 51 2 = nI (lw n (cPr b m t q) (cLa b d) c (n - a) (cF0 n a sl c)) ∧ S.1 51 7 = nI a ∧ ∀ r : Nat, a ≤ r → r < n → S.1 54 r = b01 (wIsL n (cPr b m t q) (cLa b d) c r (wFr n (cPr b m t q) (cLa b d) c a (cF0 n a sl c) (r - a))) ∧ S.1 53 r = nI (wPd n (cPr b m t q) (cLa b d) c r (wFr n (cPr b m t q) (cLa b d) c a (cF0 n a sl c) (r - a))) ∧ S.1 58 r = nI (wSp n (cPr b m t q) (cLa b d) c r (wFr n (cPr b m t q) (cLa b d) c a (cF0 n a sl c) (r - a)))
def MOut (T : St) (n a b m sl : Nat) (t q c d : Nat → Nat) : Prop := ∀ r : Nat, a ≤ r → r < n → T.1 16 r = b01 (wIsL n (cPr b m t q) (cLa b d) c r (wFr n (cPr b m t q) (cLa b d) c a (cF0 n a sl c) (r - a))) ∧ T.1 17 r = nI (wSp n (cPr b m t q) (cLa b d) c r (wFr n (cPr b m t q) (cLa b d) c a (cF0 n a sl c) (r - a)))
theorem xsolve {fu n a b m sl : Nat} {t q c d : Nat → Nat} {S S1 : St} (hf : 300 ≤ fu) (C : Cfg n a b m sl t q c d) (X : XCfg S1 n a b m sl t q c d) (hF : FrX S S1) : ∃ S' : St, m_X4_solve fu S1 = some S' ∧ FrX S S' ∧ XOut S' n a b m sl t q c d := by
  obtain ⟨S', e1, e2, e3, e4, e5, e6⟩ := solve_spec hf C X
  refine ⟨S', e1, hF.tr ⟨fun k hk => e2 k (by omega), e4⟩, e5, ?_, e6⟩
  rw [e3 7 (by omega)]; exact X.2.1
theorem xfind {fu n a b m sl : Nat} {t q c d : Nat → Nat} {S T : St} (hf : 300 ≤ fu) (h : SRel S T n a b m sl t q c d) : ∃ S' : St, m_X8_findWay fu S = some S' ∧ FrX S S' ∧ XOut S' n a b m sl t q c d := by
  obtain ⟨S', e1, e2, e3⟩ := xsolve hf h.1 (load_x h) (load_fr S)
  refine ⟨S', ?_, e2, e3⟩
  unfold m_X8_findWay
  rw [xload S hf]
  simp only [Option.bind_some]
  rw [e1]
  rfl
theorem mfind {fu n a b m sl : Nat} {t q c d : Nat → Nat} {S T : St} (hf : 300 ≤ fu) (h : SRel S T n a b m sl t q c d) : ∃ T' : St, m_X9_finds fu T 8 (T.1 8 1) = some (nI (lw n (cPr b m t q) (cLa b d) c (n - a) (cF0 n a sl c)), T') ∧ FrM T T' ∧ MOut T' n a b m sl t q c d := by
  obtain ⟨C, -, h1, h2, h3, h4, h5, h6, hM, h8, h9⟩ := h
  obtain ⟨T', e1, e2, e3⟩ := finds_spec hf C (by omega) hM
  exact ⟨T', by rw [h8]; exact e1, e2.frm, e3⟩
theorem mPaidAt {n a b m sl r : Nat} {t q c d : Nat → Nat} {T : St} (C : Cfg n a b m sl t q c d) (h : MOut T n a b m sl t q c d) (h1 : a ≤ r) (h2 : r < n) : m_X9_paidAt T (nI r) = some (nI (wPd n (cPr b m t q) (cLa b d) c r (wFr n (cPr b m t q) (cLa b d) c a (cF0 n a sl c) (r - a)))) := by
  have h8 := C.1
  obtain ⟨e1, e2⟩ := h r h1 h2
  unfold m_X9_paidAt
  rw [ald_n (by omega) (by omega), ald_n (by omega) (by omega), e1, e2]
  simp only [Option.bind_some]
  unfold wPd wSp
  cases wIsL n (cPr b m t q) (cLa b d) c r (wFr n (cPr b m t q) (cLa b d) c a (cF0 n a sl c) (r - a)) with
  | true => rw [if_neg (by decide)]; rfl
  | false => rw [if_pos (by decide)]; rfl
theorem a_enough {fu : Nat} {S T : St} (hf : 300 ≤ fu) (h : Rel S T) : Agr (m_X8_enough fu S) (m_X9_enough fu T) := by
  have h0 := h.thr
  obtain ⟨n, a, b, m, sl, hs⟩ := h0.s
  obtain ⟨S', e1, f1, o1⟩ := xfind hf hs
  obtain ⟨T', e2, f2, o2⟩ := mfind hf hs
  unfold m_X8_enough m_X9_enough
  simp only [lt_e]
  rw [e1, e2]
  simp only [Option.bind_some, ob2_s]
  rw [o1.1, f1.1 8 (by omega), f2.2.1 8 (by omega) (by omega) (by omega) (by omega) (by omega), hs.2.2.2.2.2.2.2.2.2.2]
  by_cases c : (st_i T 0 0 0).1 8 2 < nI (lw n (cPr b m (tF S) (qF S)) (cLa b (dF S)) (cF S) (n - a) (cF0 n a sl (cF S)))
  · rw [if_pos c, if_pos c]; exact Agr.mk (h0.fr f1 f2)
  · rw [if_neg c, if_neg c]; exact Agr.mk (h0.fr f1 f2)
theorem a_one {fu : Nat} {S T : St} (hf : 300 ≤ fu) (h : Rel S T) : Agr (m_X8_one fu S) (m_X9_one fu T) := by
  have h0 := h.thr
  obtain ⟨n, a, b, m, sl, hs⟩ := h0.s
  obtain ⟨S', e1, f1, o1⟩ := xfind hf hs
  obtain ⟨T', e2, f2, o2⟩ := mfind hf hs
  obtain ⟨C, t9, h1, h2, h3, h4, h5, h6, hM, h8, h9⟩ := hs
  unfold m_X8_one m_X9_one m_X6_upward
  simp only [lt_e]
  have hb := C.2.2.1
  rw [e1, e2, h3, h8]
  by_cases c : b = 0
  · subst c
    rw [if_neg (show ¬ (0 : Int32) < nI 0 by decide), if_neg (show ¬ ¬ nI 0 = 0 by decide)]
    exact Agr.mk h0
  · rw [if_pos (show (0 : Int32) < nI b from nI_lt (a := 0) (by omega) (by omega)), if_pos (nI_n0 (by omega) (by omega))]
    simp only [Option.bind_some, ob2_s, nz]
    rw [f1.1 8 (by omega), h3, f2.2.1 8 (by omega) (by omega) (by omega) (by omega) (by omega), h8, o1.1, if_neg (nI_nle (by omega) (by omega)), if_neg (nI_n0 (by omega) (by omega)), if_neg (nI_n0 (by omega) (by omega))]
    exact Agr.mk (h0.fr f1 f2)
theorem a_way {fu : Nat} {S T : St} (hf : 300 ≤ fu) (h : Rel S T) (x : Int32) : Agr (m_X8_way fu S x) (m_X9_way fu T x) := by
  have h0 := h.thr
  obtain ⟨n, a, b, m, sl, hs⟩ := h0.s
  obtain ⟨S', e1, f1, o1⟩ := xfind hf hs
  obtain ⟨T', e2, f2, o2⟩ := mfind hf hs
  obtain ⟨C, t9, h1, h2, h3, h4, h5, h6, hM, h8, h9⟩ := hs
  have hn8 := C.1
  have ha := C.2.1
  unfold m_X8_way m_X9_way
  simp only [lt_e]
  by_cases c : x = -1
  · subst c
    rw [if_neg (by decide), if_pos rfl, h1, if_pos (show (-1 : Int32) < nI n by rw [i_lt, nI_toInt (by omega)]; show (-1 : Int) < _; omega), if_pos rfl, e1, e2]
    simp only [Option.bind_some, ob2_s, not_true_eq_false, if_false]
    rw [o1.1]
    exact Agr.mk (h0.fr f1 f2)
  rw [if_neg c, if_neg c]
  rcases ix3 x (n := n) (by omega) with c2 | ⟨r, hr, rfl⟩
  · rw [mRock_bad hM.1 hn8 c2]
    simp only [Option.bind_some, not_true_eq_false, if_false]
    by_cases c3 : x < -1
    · rw [if_pos c3]; exact Agr.mk h0
    · rw [if_neg c3, h1, if_neg]
      · exact Agr.mk h0
      · have q1 : ¬ x.toInt < -1 := fun q => c3 (i_lt.mpr q)
        have q2 : x.toInt ≠ -1 := fun q => c (Int32.toInt_inj.mp q)
        have q3 := c2.resolve_left (fun q => by have := i_lt.mp q; rw [Int32.toInt_zero] at this; omega)
        exact Int32.not_lt.mpr q3
  · rw [mRock_ok hM.1 hn8 hr, if_neg (show ¬ nI r < -1 by rw [i_lt, nI_toInt (by omega)]; show ¬ (r : Int) < -1; omega), h1, if_pos (nI_lt hr (by omega))]
    simp only [Option.bind_some, show ¬ ((1 : Int32) = 0) by decide, not_false_eq_true, if_true]
    rw [h2, e2]
    simp only [ob2_s]
    rw [if_pos c, f2.2.1 8 (by omega) (by omega) (by omega) (by omega) (by omega), hM.2.1]
    by_cases c4 : a ≤ r
    · rw [if_pos (nI_le c4 (by omega)), if_pos (nI_le c4 (by omega)), e1]
      simp only [Option.bind_some]
      rw [if_pos c, get_n (by omega) (by omega), ald_n (by omega) (by omega), (o1.2.2 r c4 hr).1, (o2 r c4 hr).1]
      exact Agr.mk (h0.fr f1 f2)
    · rw [if_neg (nI_ge (by omega) (by omega)), if_neg (nI_ge (by omega) (by omega))]
      exact Agr.mk (h0.fr (FrX.rf S) f2)
theorem a_byLord {fu : Nat} {S T : St} (hf : 300 ≤ fu) (h : Rel S T) (x : Int32) : Agr (m_X8_byLord fu S x) (m_X9_byLord fu T x) := by
  have h0 := h.thr
  obtain ⟨n, a, b, m, sl, hs⟩ := h0.s
  obtain ⟨S', e1, f1, o1⟩ := xfind hf hs
  obtain ⟨T', e2, f2, o2⟩ := mfind hf hs
  have hs' := hs.fr f1 f2
  obtain ⟨C, t9, h1, h2, h3, h4, h5, h6, hM, h8, h9⟩ := hs'
  have hn8 := C.1
  have ha := C.2.1
  unfold m_X8_byLord m_X9_byLord m_X8_isLord
  simp only [lt_e]
  rcases rng x 3 (by omega) with ⟨e, c⟩ | ⟨j, hj, rfl, e, c1, c2, c3⟩
  · rw [show m_X9_in x 0 3 = some 0 from e]
    rcases c with c | ⟨c1, c2, c3⟩
    · rw [if_pos c]; exact Agr.mk h0
    · rw [if_neg c1, if_pos (show (3 : Int32) < x from c3)]; exact Agr.mk h0
  rw [show m_X9_in (nI j) 0 3 = some 1 from e, if_neg c1, if_neg (show ¬ (3 : Int32) < nI j from c3)]
  simp only [Option.bind_some, show ¬ ((1 : Int32) = 0) by decide, not_false_eq_true, if_true]
  rw [e1, e2]
  simp only [Option.bind_some, ob2_s]
  rw [h2, hM.2.1]
  have key : ∀ (dd i f g : Nat) (v : Int32), i + dd = n → a ≤ i → dd < f → dd < g → ∃ w : Int32, m_X8_byLord_L0 (nI j) S' (m_X8_byLord_r0 S') f v (nI i) = some (w, S') ∧ m_X9_byLord_L0 (nI j) T' (m_X9_byLord_r0 T') g v (nI i) = some (w, T') := by
    intro dd
    induction dd with
    | zero =>
      intro i f g v q1 q2 q3 q4
      obtain ⟨f, rfl⟩ : ∃ z, f = z + 1 := ⟨f - 1, by omega⟩
      obtain ⟨g, rfl⟩ : ∃ z, g = z + 1 := ⟨g - 1, by omega⟩
      obtain rfl : i = n := by omega
      exact ⟨v, by rw [m_X8_byLord_L0_s, h1, if_pos (nI_le (Nat.le_refl _) (by omega))]; rfl, by rw [m_X9_byLord_L0_s, hM.1, if_pos (nI_le (Nat.le_refl _) (by omega))]; rfl⟩
    | succ dd ih =>
      intro i f g v q1 q2 q3 q4
      obtain ⟨f, rfl⟩ : ∃ z, f = z + 1 := ⟨f - 1, by omega⟩
      obtain ⟨g, rfl⟩ : ∃ z, g = z + 1 := ⟨g - 1, by omega⟩
      have hi : i < n := by omega
      obtain ⟨-, -, y3, -⟩ := h6 i hi
      obtain ⟨-, -, z3, -⟩ := hM.2.2.2.2 i hi
      have hc4 := (C.2.2.2.2.2 i hi).2.2.2.1
      rw [m_X8_byLord_L0_s, h1, if_neg (nI_ge hi (by omega)), m_X9_byLord_L0_s, hM.1, if_neg (nI_ge hi (by omega)), show (2 : Int32) = nI 2 from rfl, fact_n (by omega) (by omega), y3, ald_n (n := 16) (by omega) (by omega), z3]
      simp only [Option.bind_some]
      rw [mPaidAt C o2 q2 hi, get_n (by omega) (by omega), (o1.2.2 i q2 hi).2.1]
      simp only [Option.bind_some]
      by_cases e : ¬ nI (cF S i) = nI j
      · rw [if_pos e, if_pos e]
        simp only [Option.bind_some]
        rw [show v + (0 : Int32) = v by simp, nI_1]
        exact ih (i + 1) f g v (by omega) (by omega) (by omega) (by omega)
      · rw [if_neg e, if_neg e]
        simp only [Option.bind_some]
        rw [nI_1]
        exact ih (i + 1) f g _ (by omega) (by omega) (by omega) (by omega)
  obtain ⟨w, w1, w2⟩ := key (n - a) a fu fu 0 (by omega) (Nat.le_refl _) (by omega) (by omega)
  rw [w1, w2]
  exact Agr.mk (h0.fr f1 f2)
