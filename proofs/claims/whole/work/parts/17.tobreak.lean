/-! toBreak: the fewest rocks to break -/
theorem nI_or (a b : Nat) : nI a ||| nI b = nI (a ||| b) := Int32.toBitVec_inj.mp (by show BitVec.ofNat 32 a ||| BitVec.ofNat 32 b = BitVec.ofNat 32 (a ||| b); rw [BitVec.ofNat_or])
theorem or256 {a b : Nat} (ha : a < 256) (hb : b < 256) : a ||| b < 256 := Nat.or_lt_two_pow (n := 8) ha hb
theorem brk_t (m r : Nat) : brk m r = m.testBit r := by
  rw [Nat.testBit_eq_decide_div_mod_eq]
  unfold brk
  cases h : decide (m / 2 ^ r % 2 = 1) with
  | true => exact beq_iff_eq.mpr (of_decide_eq_true h)
  | false => exact beq_eq_false_iff_ne.mpr (of_decide_eq_false h)
theorem full_all : ∀ n : Nat, n < 9 → ∀ a : Nat, a < n → (∀ r : Nat, r < n → a ≤ r → brk (2 ^ n - 2 ^ a) r = true) := by decide +kernel
theorem full_ok : ∀ n : Nat, n < 9 → ∀ a : Nat, a < n + 1 → (nI (2 ^ n - 2 ^ a) &&& (nI (2 ^ n - 2 ^ a) ^^^ (-1))) = 0 ∧ 2 ^ n - 2 ^ a < 256 := by decide +kernel
theorem ahead_st : ∀ i : Nat, i < 8 → ∀ a : Nat, a < i + 1 → (nI (2 ^ i - 2 ^ a) ||| ((1 : Int32) <<< (nI i &&& 31))) = nI (2 ^ (i + 1) - 2 ^ a) := by decide +kernel
theorem pc8_le : ∀ m : Nat, m < 256 → pc8 m ≤ 8 := by decide +kernel
theorem lw_free {n a : Nat} {pr la c : Nat → Nat} (h : ∀ r : Nat, a ≤ r → r < n → pr r = 0) : ∀ (dd : Nat) (f : Bool), dd ≤ n - a → lw n pr la c dd f = 0 := by
  intro dd
  induction dd with
  | zero => intro f _; rfl
  | succ dd ih =>
    intro f hd
    have hr : n - (dd + 1) < n := by omega
    have e := lw_at (pr := pr) (la := la) (c := c) hr f
    rw [show n - (n - (dd + 1)) = dd + 1 by omega] at e
    rw [e]
    have hw : wPay pr f (n - (dd + 1)) = 0 := by
      unfold wPay
      rw [h _ (by omega) hr]
      simp only [ite_self]
    have hc : wCp n pr la c (n - (dd + 1)) f = 0 := by
      unfold wCp
      rw [hw, show n - (n - (dd + 1) + 1) = dd by omega, ih _ (by omega)]
    rw [hc, Nat.zero_min]
/-- the least cost, with the set s broken too -/
def costB (n a b m sl : Nat) (t q c d : Nat → Nat) (s : Nat) : Nat := lw n (cPr b (m ||| s) t q) (cLa b d) c (n - a) (cF0 n a sl c)
def okS (n a s : Nat) : Prop := (nI s &&& (nI (2 ^ n - 2 ^ a) ^^^ (-1))) = 0
def goodS (n a b m sl : Nat) (t q c d : Nat → Nat) (x : Int32) (s : Nat) : Prop := okS n a s ∧ ¬ x < nI (costB n a b m sl t q c d s)
theorem costB_full {n a b m sl : Nat} {t q c d : Nat → Nat} (h8 : n ≤ 8) (ha : a ≤ n) : costB n a b m sl t q c d (2 ^ n - 2 ^ a) = 0 := by
  unfold costB
  refine lw_free (fun r h1 h2 => ?_) (n - a) _ (Nat.le_refl _)
  unfold cPr prc
  rw [brk_t, Nat.testBit_or, ← brk_t, ← brk_t, full_all n (by omega) a (by omega) r h2 h1, Bool.or_true]
  rfl
theorem best_ex {n a b m sl : Nat} {t q c d : Nat → Nat} {x : Int32} (h8 : n ≤ 8) (ha : a ≤ n) (hx : ¬ x < 0) : ∃ s : Nat, s < 256 ∧ goodS n a b m sl t q c d x s ∧ ∀ j : Nat, j < 256 → goodS n a b m sl t q c d x j → pc8 s < pc8 j ∨ (pc8 s = pc8 j ∧ s ≤ j) := by
  obtain ⟨f1, f2⟩ := full_ok n (by omega) a (by omega)
  have hg : goodS n a b m sl t q c d x (2 ^ n - 2 ^ a) := ⟨f1, by rw [costB_full h8 ha]; exact hx⟩
  obtain ⟨k, ⟨s, s1, s2, s3⟩, hk⟩ := pk_least (fun k => ∃ s : Nat, s < 256 ∧ goodS n a b m sl t q c d x s ∧ k = pc8 s * 256 + s) ⟨_, 2 ^ n - 2 ^ a, f2, hg, rfl⟩
  refine ⟨s, s1, s2, fun j j1 j2 => ?_⟩
  have := hk (pc8 j * 256 + j)
  by_cases e : pc8 j * 256 + j < k
  · exact absurd ⟨j, j1, j2, rfl⟩ (this e)
  · omega
theorem xCostB {fu n a b m sl s : Nat} {t q c d : Nat → Nat} {S T : St} (hf : 300 ≤ fu) (h : SRel S T n a b m sl t q c d) (hs : s < 256) : ∃ S' : St, m_X8_costIfBroken fu S (nI s) = some (nI (costB n a b m sl t q c d s), S') ∧ FrX S S' := by
  obtain ⟨x1, x2, x3, x4, x5, x6⟩ := load_x h
  have hm := h.1.2.2.2.1
  have C : Cfg n a b (m ||| s) sl t q c d := ⟨h.1.1, h.1.2.1, h.1.2.2.1, or256 hm hs, h.1.2.2.2.2⟩
  have X : XCfg (st_i (loadS S) 51 1 (nI (m ||| s))) n a b (m ||| s) sl t q c d := by
    have e : ∀ k : Nat, k ≠ 51 → (st_i (loadS S) 51 1 (nI (m ||| s))).1 k = (loadS S).1 k := fun k hk => st_n hk
    unfold XCfg
    rw [e 6 (by omega), e 52 (by omega), e 7 (by omega)]
    refine ⟨x1, ?_, ?_, ?_, ?_, x6⟩
    · rw [st_s, upd_n (by omega)]; exact x2
    · rw [st_s, upd_n (by omega)]; exact x3
    · rw [st_s, upd_s]
    · rw [st_s, upd_n (by omega)]; exact x5
  obtain ⟨S', e1, e2, e3⟩ := xsolve hf C X ((load_fr S).tr (FrX.st (by omega) (by omega)))
  refine ⟨S', ?_, e2⟩
  unfold m_X8_costIfBroken
  rw [xload S hf]
  simp only [Option.bind_some, lt_e]
  rw [x4, nI_or, e1]
  simp only [Option.bind_some]
  rw [e3.1]
  rfl
theorem ahead_L {S : St} {n a : Nat} (h8 : n ≤ 8) (h6 : S.1 6 0 = nI n) : ∀ (dd i f : Nat), i + dd = n → a ≤ i → dd < f → m_X8_bitsAhead_L0 S m_X8_bitsAhead_r0 f (nI (2 ^ i - 2 ^ a)) (nI i) = some (nI (2 ^ n - 2 ^ a)) := by
  intro dd
  induction dd with
  | zero =>
    intro i f q1 q2 q3
    obtain ⟨f, rfl⟩ : ∃ z, f = z + 1 := ⟨f - 1, by omega⟩
    obtain rfl : i = n := by omega
    rw [m_X8_bitsAhead_L0, h6, if_pos (nI_le (by omega) (by omega))]
    rfl
  | succ dd ih =>
    intro i f q1 q2 q3
    obtain ⟨f, rfl⟩ : ∃ z, f = z + 1 := ⟨f - 1, by omega⟩
    rw [m_X8_bitsAhead_L0, h6, if_neg (nI_ge (by omega) (by omega)), lt_e, ahead_st i (by omega) a (by omega), nI_1]
    exact ih (i + 1) f (by omega) (by omega) (by omega)
theorem xAhead {fu : Nat} {S : St} {n a : Nat} (hf : 300 ≤ fu) (h8 : n ≤ 8) (ha : a ≤ n) (h6 : S.1 6 0 = nI n) (h0 : S.1 8 0 = nI a) : m_X8_bitsAhead fu S = some (nI (2 ^ n - 2 ^ a)) := by
  unfold m_X8_bitsAhead
  have e := ahead_L (S := S) (a := a) h8 h6 (n - a) a fu (by omega) (Nat.le_refl _) (by omega)
  rw [Nat.sub_self] at e
  rw [h0]
  exact e
theorem mAhead {T : St} {n a : Nat} (h8 : n ≤ 8) (ha : a ≤ n) (h6 : T.1 2 0 = nI n) (h0 : T.1 8 0 = nI a) : m_X9_ahead T = some (nI (2 ^ n - 2 ^ a)) := by
  unfold m_X9_ahead
  rw [h6, h0, pow_all n (by omega), pow_all a (by omega), pk_sub (Nat.pow_le_pow_right (by omega) ha)]
/-- one set tried by the class -/
theorem tb_step {fu n a b m sl i k f : Nat} {t q c d : Nat → Nat} {S T : St} {x : Int32} {k1 : Int32 → St → Option (Int32 × St)} (hf : 300 ≤ fu) (h : SRel S T n a b m sl t q c d) (hi : i < 256) (hk : k ≤ 8) :
    (¬ (pc8 i = k ∧ goodS n a b m sl t q c d x i) → ∃ S' : St, FrX S S' ∧ m_X8_toBreak_L1 fu x (nI (2 ^ n - 2 ^ a)) (nI k) k1 (f + 1) (nI i) S = m_X8_toBreak_L1 fu x (nI (2 ^ n - 2 ^ a)) (nI k) k1 f (nI (i + 1)) S') ∧
    (pc8 i = k ∧ goodS n a b m sl t q c d x i → ∃ S' : St, FrX S S' ∧ m_X8_toBreak_L1 fu x (nI (2 ^ n - 2 ^ a)) (nI k) k1 (f + 1) (nI i) S = some (nI i, S')) := by
  have hp := pc8_le i hi
  obtain ⟨S', u1, u2⟩ := xCostB hf h hi
  rw [m_X8_toBreak_L1, if_neg (show ¬ (256 : Int32) ≤ nI i from nI_ge (b := 256) (by omega) (by omega)), bitc_all i hi]
  simp only [Option.bind_some]
  by_cases e : pc8 i = k
  · rw [e, if_neg (fun q => q rfl)]
    by_cases e2 : okS n a i
    · rw [if_neg (fun q => q e2)]
      simp only [Option.bind_some]
      rw [if_neg (show ¬ (1 : Int32) = 0 by decide), u1]
      simp only [ob2_s]
      by_cases e3 : x < nI (costB n a b m sl t q c d i)
      · rw [if_pos e3, nI_1]
        exact ⟨fun _ => ⟨S', u2, rfl⟩, fun y => absurd e3 y.2.2⟩
      · rw [if_neg e3]
        exact ⟨fun y => absurd ⟨trivial, e2, e3⟩ y, fun _ => ⟨S', u2, rfl⟩⟩
    · rw [if_pos (show ¬ (nI i &&& (nI (2 ^ n - 2 ^ a) ^^^ (-1))) = 0 from e2)]
      simp only [Option.bind_some, if_true]
      rw [nI_1]
      exact ⟨fun _ => ⟨S, FrX.rf S, rfl⟩, fun y => absurd y.2.1 e2⟩
  · rw [if_pos (fun q => e ((nI_eq (by omega) (by omega)).mp q))]
    simp only [Option.bind_some, if_true]
    rw [nI_1]
    exact ⟨fun _ => ⟨S, FrX.rf S, rfl⟩, fun y => absurd y.1 e⟩
theorem tb_skip {fu n a b m sl k e : Nat} {t q c d : Nat → Nat} {S T : St} {x : Int32} {k1 : Int32 → St → Option (Int32 × St)} (hf : 300 ≤ fu) (h : SRel S T n a b m sl t q c d) (hk : k ≤ 8) (he : e ≤ 256) (hn : ∀ j : Nat, j < e → ¬ (pc8 j = k ∧ goodS n a b m sl t q c d x j)) : ∀ (dd i f : Nat) (S1 : St), i + dd = e → FrX S S1 →
    ∃ S' : St, FrX S S' ∧ m_X8_toBreak_L1 fu x (nI (2 ^ n - 2 ^ a)) (nI k) k1 (f + dd) (nI i) S1 = m_X8_toBreak_L1 fu x (nI (2 ^ n - 2 ^ a)) (nI k) k1 f (nI e) S' := by
  intro dd
  induction dd with
  | zero =>
    intro i f S1 q1 q2
    obtain rfl : i = e := by omega
    exact ⟨S1, q2, rfl⟩
  | succ dd ih =>
    intro i f S1 q1 q2
    obtain ⟨S2, v1, v2⟩ := (tb_step (f := f + dd) (k1 := k1) hf (h.fr q2 (FrM.rf T)) (show i < 256 by omega) hk).1 (hn i (by omega))
    rw [show f + (dd + 1) = f + dd + 1 by omega, v2]
    exact ih (i + 1) f S2 (by omega) (q2.tr v1)
theorem tb_L {fu n a b m sl s : Nat} {t q c d : Nat → Nat} {S T : St} {x : Int32} {k0 : Int32 → St → Option (Int32 × St)} (hf : 300 ≤ fu) (h : SRel S T n a b m sl t q c d) (hs : s < 256) (hg : goodS n a b m sl t q c d x s) (hb : ∀ j : Nat, j < 256 → goodS n a b m sl t q c d x j → pc8 s < pc8 j ∨ (pc8 s = pc8 j ∧ s ≤ j)) : ∀ (dd k f : Nat) (S1 : St), k + dd = pc8 s → dd < f → FrX S S1 →
    ∃ S' : St, FrX S S' ∧ m_X8_toBreak_L0 fu x (nI (2 ^ n - 2 ^ a)) k0 f (nI k) S1 = some (nI s, S') := by
  have hp := pc8_le s hs
  intro dd
  induction dd with
  | zero =>
    intro k f S1 q1 q2 q3
    obtain ⟨f, rfl⟩ : ∃ z, f = z + 1 := ⟨f - 1, by omega⟩
    obtain rfl : k = pc8 s := by omega
    rw [m_X8_toBreak_L0, if_neg (show ¬ (8 : Int32) < nI (pc8 s) from nI_nlt (a := 8) (by omega) (by omega))]
    obtain ⟨S2, v1, v2⟩ := tb_skip (k := pc8 s) (k1 := m_X8_toBreak_r1 (nI (pc8 s)) (fun z0 z1 => m_X8_toBreak_L0 fu x (nI (2 ^ n - 2 ^ a)) k0 f z0 z1)) hf (h.fr q3 (FrM.rf T)) hp (show s ≤ 256 by omega) (fun j j1 j2 => by have := hb j (by omega) j2.2; omega) s 0 (fu - s) S1 (by omega) (FrX.rf S1)
    obtain ⟨S3, w1, w2⟩ := (tb_step (f := fu - s - 1) (k1 := m_X8_toBreak_r1 (nI (pc8 s)) (fun z0 z1 => m_X8_toBreak_L0 fu x (nI (2 ^ n - 2 ^ a)) k0 f z0 z1)) hf (h.fr (q3.tr v1) (FrM.rf T)) hs hp).2 ⟨rfl, hg⟩
    rw [show fu - s + s = fu by omega, show nI 0 = (0 : Int32) from rfl] at v2
    rw [show fu - s - 1 + 1 = fu - s by omega] at w2
    rw [v2, w2]
    exact ⟨S3, (q3.tr v1).tr w1, rfl⟩
  | succ dd ih =>
    intro k f S1 q1 q2 q3
    obtain ⟨f, rfl⟩ : ∃ z, f = z + 1 := ⟨f - 1, by omega⟩
    rw [m_X8_toBreak_L0, if_neg (show ¬ (8 : Int32) < nI k from nI_nlt (a := 8) (by omega) (by omega))]
    obtain ⟨S2, v1, v2⟩ := tb_skip (k := k) (k1 := m_X8_toBreak_r1 (nI k) (fun z0 z1 => m_X8_toBreak_L0 fu x (nI (2 ^ n - 2 ^ a)) k0 f z0 z1)) hf (h.fr q3 (FrM.rf T)) (by omega) (Nat.le_refl 256) (fun j j1 j2 => by have := hb j (by omega) j2.2; omega) 256 0 (fu - 256) S1 (by omega) (FrX.rf S1)
    rw [show fu - 256 + 256 = fu by omega, show nI 0 = (0 : Int32) from rfl] at v2
    obtain ⟨g, hg2⟩ : ∃ z, fu - 256 = z + 1 := ⟨fu - 257, by omega⟩
    rw [v2, hg2, m_X8_toBreak_L1, if_pos (by decide)]
    unfold m_X8_toBreak_r1
    rw [nI_1]
    exact ih (k + 1) f S2 (by omega) (by omega) (q3.tr v1)
/-- the reference's row 9 is its row 8, but for what is broken -/
def T5 (T0 T : St) : Prop := ∀ j : Nat, j < 18 → j ≠ 5 → T.1 9 j = T0.1 8 j
theorem mCostB {fu n a b m sl s : Nat} {t q c d : Nat → Nat} {S T0 T : St} (hf : 300 ≤ fu) (h : SRel S T0 n a b m sl t q c d) (hs : s < 256) (hF : FrM T0 T) (h9 : T5 T0 T) : ∃ T' : St, (m_X9_finds fu (st_i T 9 5 (T.1 8 5 ||| nI s)) 9 ((st_i T 9 5 (T.1 8 5 ||| nI s)).1 8 1)) = some (nI (costB n a b m sl t q c d s), T') ∧ FrM T0 T' ∧ T5 T0 T' := by
  have hk := h.fr (FrX.rf S) hF
  have hm := h.1.2.2.2.1
  obtain ⟨⟨h8, -⟩, -, -, -, -, -, -, -, ⟨k1, -, -, k4, k5⟩, kb, -⟩ := hk
  obtain ⟨-, -, -, -, -, -, -, -, ⟨-, l2, l3, -, l5⟩, -, -⟩ := id h
  have C : Cfg n a b (m ||| s) sl t q c d := ⟨h.1.1, h.1.2.1, h.1.2.2.1, or256 hm hs, h.1.2.2.2.2⟩
  have e : ∀ k : Nat, k ≠ 9 → (st_i T 9 5 (T.1 8 5 ||| nI s)).1 k = T.1 k := fun k hk => st_n hk
  have e9 : ∀ j : Nat, j < 18 → j ≠ 5 → (st_i T 9 5 (T.1 8 5 ||| nI s)).1 9 j = T0.1 8 j := by
    intro j j1 j2
    rw [st_s, upd_n j2]; exact h9 j j1 j2
  have M : MCfg (st_i T 9 5 (T.1 8 5 ||| nI s)) 9 n a (m ||| s) sl t q c d := by
    unfold MCfg
    rw [e 2 (by omega), e 4 (by omega), e 5 (by omega), e 7 (by omega), e9 0 (by omega) (by omega), e9 3 (by omega) (by omega)]
    refine ⟨k1, l2, l3, ?_, fun j hj => ?_⟩
    · rw [st_s, upd_s, k4, nI_or]
    · rw [e9 (6 + j) (by omega) (by omega)]
      exact ⟨(l5 j hj).1, (k5 j hj).2⟩
  obtain ⟨T', e1, e2, e3⟩ := finds_spec hf C (by omega) M
  refine ⟨T', ?_, hF.st9.tr e2.frm, ?_⟩
  · rw [e 8 (by omega), kb]; exact e1
  · intro j j1 j2
    rw [e2.1 9 (by omega) (by omega) (by omega)]; exact e9 j j1 j2
theorem n256 : ∀ k : Nat, k < 256 → ¬ nI k = (-9 : Int32) := by decide +kernel
theorem tm_L {fu n a b m sl s : Nat} {t q c d : Nat → Nat} {S T : St} {x : Int32} (hf : 300 ≤ fu) (h : SRel S T n a b m sl t q c d) (hs : s < 256) (hg : goodS n a b m sl t q c d x s) (hb : ∀ j : Nat, j < 256 → goodS n a b m sl t q c d x j → pc8 s < pc8 j ∨ (pc8 s = pc8 j ∧ s ≤ j)) : ∀ (dd i f : Nat) (y : Int32) (T1 : St), i + dd = 256 → dd < f → FrM T T1 → T5 T T1 → (s < i → y = nI s) → (i ≤ s → y = -9 ∨ ∃ j : Nat, j < 256 ∧ y = nI j ∧ pc8 s < pc8 j) →
    ∃ T' : St, FrM T T' ∧ m_X9_toBreak_L0 fu x m_X9_toBreak_r0 f y (nI i) T1 = some (nI s, T') := by
  have h8 := h.1.1
  have ha := h.1.2.1
  intro dd
  induction dd with
  | zero =>
    intro i f y T1 q1 q2 q3 q4 q5 q6
    obtain ⟨f, rfl⟩ : ∃ z, f = z + 1 := ⟨f - 1, by omega⟩
    obtain rfl : i = 256 := by omega
    rw [m_X9_toBreak_L0, if_pos (by decide), q5 (by omega)]
    exact ⟨T1, q3, rfl⟩
  | succ dd ih =>
    intro i f y T1 q1 q2 q3 q4 q5 q6
    obtain ⟨f, rfl⟩ : ∃ z, f = z + 1 := ⟨f - 1, by omega⟩
    have hi : i < 256 := by omega
    have hk := h.fr (FrX.rf S) q3
    have hk1 := hk.2.2.2.2.2.2.2.2.1
    rw [m_X9_toBreak_L0, if_neg (show ¬ (256 : Int32) ≤ nI i from nI_ge (b := 256) (by omega) (by omega)), mAhead h8 ha hk1.1 hk1.2.1]
    simp only [Option.bind_some]
    obtain ⟨T2, u1, u2, u3⟩ := mCostB hf h hi q3 q4
    by_cases e1 : okS n a i
    · rw [if_neg (fun z => z e1)]
      by_cases e2 : y = -9
      · have his : i ≤ s := by
          by_cases z : s < i
          · exact absurd ((q5 z).symm.trans e2) (n256 s hs)
          · omega
        rw [if_pos e2]
        simp only [lt_e]
        rw [u1]
        simp only [ob2_s]
        by_cases e3 : x < nI (costB n a b m sl t q c d i)
        · rw [if_pos e3]
          simp only [Option.bind_some, ob2_s]
          rw [nI_1]
          have hne : i ≠ s := fun z => by subst z; exact hg.2 e3
          exact ih (i + 1) f y T2 (by omega) (by omega) u2 u3 (by omega) (fun _ => Or.inl e2)
        · rw [if_neg e3]
          simp only [Option.bind_some, ob2_s]
          rw [nI_1]
          have := hb i hi ⟨e1, e3⟩
          refine ih (i + 1) f (nI i) T2 (by omega) (by omega) u2 u3 (fun z => ?_) (fun z => Or.inr ⟨i, hi, rfl, by omega⟩)
          rw [show i = s by omega]
      · rw [if_neg e2]
        obtain ⟨j, j1, j2, j3⟩ : ∃ j : Nat, j < 256 ∧ y = nI j ∧ (s < i → j = s) ∧ (i ≤ s → pc8 s < pc8 j) := by
          by_cases z : s < i
          · exact ⟨s, hs, q5 z, fun _ => rfl, fun z2 => by omega⟩
          · rcases q6 (by omega) with z2 | ⟨j, j1, j2, j3⟩
            · exact absurd z2 e2
            · exact ⟨j, j1, j2, fun z2 => absurd z2 z, fun _ => j3⟩
        subst j2
        rw [mones hf hi, mones hf j1]
        simp only [Option.bind_some, lt_e]
        by_cases e3 : pc8 j ≤ pc8 i
        · rw [if_pos (nI_le e3 (by have := pc8_le i hi; omega))]
          simp only [Option.bind_some, ob2_s]
          rw [nI_1]
          have hne : i ≠ s := fun z => by subst z; have := j3.2 (Nat.le_refl _); omega
          exact ih (i + 1) f (nI j) T1 (by omega) (by omega) q3 q4 (fun z => by rw [j3.1 (by omega)]) (fun z => Or.inr ⟨j, j1, rfl, j3.2 (by omega)⟩)
        · rw [if_neg (nI_ge (by omega) (by have := pc8_le j j1; omega)), u1]
          simp only [ob2_s]
          by_cases e4 : x < nI (costB n a b m sl t q c d i)
          · rw [if_pos e4]
            simp only [Option.bind_some, ob2_s]
            rw [nI_1]
            have hne : i ≠ s := fun z => by subst z; exact hg.2 e4
            exact ih (i + 1) f (nI j) T2 (by omega) (by omega) u2 u3 (fun z => by rw [j3.1 (by omega)]) (fun z => Or.inr ⟨j, j1, rfl, j3.2 (by omega)⟩)
          · rw [if_neg e4]
            simp only [Option.bind_some, ob2_s]
            rw [nI_1]
            have hbi := hb i hi ⟨e1, e4⟩
            have his : i ≤ s := by
              by_cases z : s < i
              · have := j3.1 z
                subst this
                omega
              · omega
            refine ih (i + 1) f (nI i) T2 (by omega) (by omega) u2 u3 (fun z => ?_) (fun z => Or.inr ⟨i, hi, rfl, by omega⟩)
            rw [show i = s by omega]
    · rw [if_pos (show ¬ (nI i &&& (nI (2 ^ n - 2 ^ a) ^^^ (-1))) = 0 from e1)]
      simp only [Option.bind_some, ob2_s]
      rw [nI_1]
      have hne : i ≠ s := fun z => by subst z; exact e1 hg.1
      exact ih (i + 1) f y T1 (by omega) (by omega) q3 q4 (fun z => q5 (by omega)) (fun z => q6 (by omega))
theorem a_toBreak {fu : Nat} {S T : St} (hf : 300 ≤ fu) (h : Rel S T) (x : Int32) : Agr (m_X8_toBreak fu S x) (m_X9_toBreak fu T x) := by
  have h0 := h.thr
  obtain ⟨n, a, b, m, sl, hs⟩ := h0.s
  have hn := hs.1.1
  have ha := hs.1.2.1
  unfold m_X8_toBreak m_X9_toBreak
  simp only [lt_e]
  rcases rng x 9999 (by omega) with ⟨e, c⟩ | ⟨j, hj, rfl, e, c1, c2, c3⟩
  · rw [show m_X9_in x 0 9999 = some 0 from e]
    simp only [Option.bind_some, not_true_eq_false, if_false]
    rcases c with c | ⟨c1, c2, c3⟩
    · rw [if_pos c]; exact Agr.mk h0
    · rw [if_neg c1, if_neg (show ¬ x ≤ 9999 from c2)]; exact Agr.mk h0
  rw [show m_X9_in (nI j) 0 9999 = some 1 from e, if_neg c1, if_pos (show nI j ≤ 9999 from c2)]
  simp only [Option.bind_some]
  rw [if_pos (show ¬ (1 : Int32) = 0 by decide), xAhead hf hn ha hs.2.2.1 hs.2.2.2.1, masNow _ (by omega)]
  simp only [Option.bind_some]
  obtain ⟨s, s1, s2, s3⟩ := best_ex (b := b) (m := m) (sl := sl) (t := tF S) (q := qF S) (c := cF S) (d := dF S) hn ha c1
  have hp := pc8_le s s1
  obtain ⟨S', v1, v2⟩ := tb_L (k0 := m_X8_toBreak_r0 (nI (2 ^ n - 2 ^ a))) hf hs s1 s2 s3 (pc8 s) 0 fu S (by omega) (by omega) (FrX.rf S)
  have h5 : T5 (st_i T 0 0 0) (cpo (st_i T 0 0 0) 8 0 9 0 18) := by
    intro i i1 _
    rw [cpo_w, if_pos (by omega), Nat.zero_add, Nat.sub_zero]
  obtain ⟨T', w1, w2⟩ := tm_L hf hs s1 s2 s3 256 0 fu (-9) (cpo (st_i T 0 0 0) 8 0 9 0 18) (by omega) (by omega) (FrM.rf _).cpo9 h5 (by omega) (fun _ => Or.inl rfl)
  rw [show nI 0 = (0 : Int32) from rfl] at v2 w2
  rw [v2, w2]
  exact Agr.mk (h0.fr v1 w1)
