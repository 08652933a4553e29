/-! The cheapest way: one function of numbers, and both programs find it -/
def wSame (n : Nat) (c : Nat → Nat) (r : Nat) : Bool := decide (r + 1 < n) && c r == c (r + 1)
def wPay (pr : Nat → Nat) (fr : Bool) (r : Nat) : Nat := if fr then 0 else pr r
def wNf (n : Nat) (pr c : Nat → Nat) (fr : Bool) (r : Nat) : Bool := decide (0 < wPay pr fr r) && wSame n c r
def lw (n : Nat) (pr la c : Nat → Nat) : Nat → Bool → Nat
  | 0, _ => 0
  | d + 1, fr => min (wPay pr fr (n - (d + 1)) + lw n pr la c d (wNf n pr c fr (n - (d + 1)))) (la (n - (d + 1)) + lw n pr la c d false)
def wCp (n : Nat) (pr la c : Nat → Nat) (r : Nat) (fr : Bool) : Nat := wPay pr fr r + lw n pr la c (n - (r + 1)) (wNf n pr c fr r)
def wCl (n : Nat) (pr la c : Nat → Nat) (r : Nat) : Nat := la r + lw n pr la c (n - (r + 1)) false
theorem lw_at {n : Nat} {pr la c : Nat → Nat} {r : Nat} (h : r < n) (fr : Bool) : lw n pr la c (n - r) fr = min (wCp n pr la c r fr) (wCl n pr la c r) := by
  obtain ⟨d, hd⟩ : ∃ d, n - r = d + 1 := ⟨n - r - 1, by omega⟩
  have e : n - (d + 1) = r := by omega
  have e2 : n - (r + 1) = d := by omega
  rw [hd, lw, e]
  unfold wCp wCl
  rw [e2]
theorem lw_le {n : Nat} {pr la c : Nat → Nat} (hl : ∀ r, r < n → la r ≤ 900) : ∀ d : Nat, d ≤ n → ∀ fr : Bool, lw n pr la c d fr ≤ 900 * d := by
  intro d
  induction d with
  | zero => intro _ fr; exact Nat.le_refl 0
  | succ d ih =>
    intro h fr
    rw [lw]
    refine Nat.le_trans (Nat.min_le_right _ _) ?_
    have h1 := hl (n - (d + 1)) (by omega)
    have h2 := ih (by omega) false
    omega
def wIsL (n : Nat) (pr la c : Nat → Nat) (r : Nat) (fr : Bool) : Bool := decide (wCl n pr la c r < wCp n pr la c r fr)
def wPd (n : Nat) (pr la c : Nat → Nat) (r : Nat) (fr : Bool) : Nat := if wIsL n pr la c r fr then 0 else wPay pr fr r
def wSp (n : Nat) (pr la c : Nat → Nat) (r : Nat) (fr : Bool) : Nat := if wIsL n pr la c r fr then la r else wPay pr fr r
def wNx (n : Nat) (pr la c : Nat → Nat) (r : Nat) (fr : Bool) : Bool := decide (0 < wPd n pr la c r fr) && wSame n c r
def wFr (n : Nat) (pr la c : Nat → Nat) (a : Nat) (f0 : Bool) : Nat → Bool
  | 0 => f0
  | k + 1 => wNx n pr la c (a + k) (wFr n pr la c a f0 k)
/-- the numbers of a search -/
def Cfg (n a b m sl : Nat) (t q c d : Nat → Nat) : Prop := n ≤ 8 ∧ a ≤ n ∧ b ≤ 30 ∧ m < 256 ∧ sl ≤ 4 ∧ ∀ r : Nat, r < n → t r ≤ 10 ∧ 1 ≤ q r ∧ q r ≤ 5 ∧ c r < 4 ∧ d r ≤ 30
def cPr (b m : Nat) (t q : Nat → Nat) (r : Nat) : Nat := prc (brk m r) (t r) b (q r)
def cLa (b : Nat) (d : Nat → Nat) (r : Nat) : Nat := d r * b
def cF0 (n a sl : Nat) (c : Nat → Nat) : Bool := decide (a < n) && sl == c a + 1
theorem Cfg.la {n a b m sl : Nat} {t q c d : Nat → Nat} (h : Cfg n a b m sl t q c d) : ∀ r, r < n → cLa b d r ≤ 900 := fun r hr => by
  obtain ⟨-, -, hb, -, -, hr'⟩ := h
  exact Nat.le_trans (Nat.mul_le_mul (hr' r hr).2.2.2.2 hb) (by omega)
theorem Cfg.pr {n a b m sl : Nat} {t q c d : Nat → Nat} (h : Cfg n a b m sl t q c d) : ∀ r, r < n → cPr b m t q r ≤ 300 := fun r hr => by
  obtain ⟨-, -, hb, -, -, hr'⟩ := h
  exact prc_le (hr' r hr).1 hb (hr' r hr).2.1
theorem Cfg.pay {n a b m sl : Nat} {t q c d : Nat → Nat} (h : Cfg n a b m sl t q c d) (fr : Bool) : ∀ r, r < n → wPay (cPr b m t q) fr r ≤ 300 := fun r hr => by
  unfold wPay
  split
  · omega
  · exact h.pr r hr
theorem Cfg.lw {n a b m sl : Nat} {t q c d : Nat → Nat} (h : Cfg n a b m sl t q c d) (e : Nat) (he : e ≤ n) (fr : Bool) : lw n (cPr b m t q) (cLa b d) c e fr ≤ 7200 := by
  have h1 := lw_le (pr := cPr b m t q) (c := c) h.la e he fr
  have h2 := h.1
  omega
theorem Cfg.cp {n a b m sl : Nat} {t q c d : Nat → Nat} (h : Cfg n a b m sl t q c d) (fr : Bool) {r : Nat} (hr : r < n) : wCp n (cPr b m t q) (cLa b d) c r fr ≤ 7500 := by
  have h1 := h.pay fr r hr
  have h2 := h.lw (n - (r + 1)) (by omega) (wNf n (cPr b m t q) c fr r)
  unfold wCp
  omega
theorem Cfg.cl {n a b m sl : Nat} {t q c d : Nat → Nat} (h : Cfg n a b m sl t q c d) {r : Nat} (hr : r < n) : wCl n (cPr b m t q) (cLa b d) c r ≤ 8100 := by
  have h1 := h.la r hr
  have h2 := h.lw (n - (r + 1)) (by omega) false
  unfold wCl
  omega
def b01 (b : Bool) : Int32 := if b then 1 else 0
def n01 (b : Bool) : Nat := if b then 1 else 0
theorem b01_n (b : Bool) : b01 b = nI (n01 b) := by cases b <;> rfl
/-! The reference's search -/
/-- the reference's state, as its search asks for it: the row k holds the boat -/
def MCfg (T : St) (k n a m sl : Nat) (t q c d : Nat → Nat) : Prop := T.1 2 0 = nI n ∧ T.1 k 0 = nI a ∧ T.1 k 3 = nI sl ∧ T.1 k 5 = nI m ∧ ∀ r : Nat, r < n → T.1 k (6 + r) = nI (t r) ∧ T.1 4 r = nI (q r) ∧ T.1 5 r = nI (c r) ∧ T.1 7 r = nI (d r)
def Fr3 (T T' : St) : Prop := (∀ k : Nat, k ≠ 15 → k ≠ 16 → k ≠ 17 → T'.1 k = T.1 k) ∧ T'.2 = T.2
theorem Fr3.rf (T : St) : Fr3 T T := ⟨fun _ _ _ _ => rfl, rfl⟩
theorem Fr3.tr {T T' T'' : St} (h : Fr3 T T') (h2 : Fr3 T' T'') : Fr3 T T'' := ⟨fun k a b c => (h2.1 k a b c).trans (h.1 k a b c), h2.2.trans h.2⟩
theorem Fr3.st {T : St} {k j : Nat} {v : Int32} (h : k = 15 ∨ k = 16 ∨ k = 17) : Fr3 T (st_i T k j v) := ⟨fun a _ _ _ => st_n (by omega), rfl⟩
theorem Fr3.frm {T T' : St} (h : Fr3 T T') : FrM T T' := ⟨fun j _ => by rw [h.1 0 (by omega) (by omega) (by omega)], fun k _ _ a b c => h.1 k a b c, h.2⟩
theorem MCfg.fr {T T' : St} {k n a m sl : Nat} {t q c d : Nat → Nat} (h : MCfg T k n a m sl t q c d) (hk : k ≠ 15 ∧ k ≠ 16 ∧ k ≠ 17) (hf : Fr3 T T') : MCfg T' k n a m sl t q c d := by
  unfold MCfg
  rw [hf.1 2 (by omega) (by omega) (by omega), hf.1 k hk.1 hk.2.1 hk.2.2, hf.1 4 (by omega) (by omega) (by omega), hf.1 5 (by omega) (by omega) (by omega), hf.1 7 (by omega) (by omega) (by omega)]
  exact h
/-- a row of the reference's table of least costs -/
def MRow (T : St) (n : Nat) (pr la c : Nat → Nat) (r : Nat) : Prop := ∀ s : Nat, s < 5 → T.1 15 (5 * r + s) = nI (lw n pr la c (n - r) (decide (r < n) && s == c r + 1))
theorem ix5 (r s : Nat) : (5 : Int32) * nI r + nI s = nI (5 * r + s) := by
  rw [show (5 : Int32) = nI 5 from rfl, pk_mul, nI_add]
theorem mPaidOn {T : St} {k n a b m sl r s : Nat} {t q c d : Nat → Nat} (C : Cfg n a b m sl t q c d) (M : MCfg T k n a m sl t q c d) (hr : r < n) (hs : s < 5) (hrow : MRow T n (cPr b m t q) (cLa b d) c (r + 1)) :
    m_X9_paidOn T k (nI r) (nI b) (nI s) = some (nI (wCp n (cPr b m t q) (cLa b d) c r (s == c r + 1))) := by
  obtain ⟨h8, ha, hb, hm, hsl, hC⟩ := C
  obtain ⟨m1, m2, m3, m4, m5⟩ := M
  obtain ⟨c1, c2, c3, c4, c5⟩ := hC r hr
  obtain ⟨d1, d2, d3, d4⟩ := m5 r hr
  unfold m_X9_paidOn
  rw [mTaken m4 hm (by omega) d1 d2 c2 c3 hb d3 c4 (by omega)]
  simp only [Option.bind_some]
  have eP : (if s = c r + 1 then 0 else prc (brk m r) (t r) b (q r)) = wPay (cPr b m t q) (s == c r + 1) r := by
    unfold wPay cPr
    by_cases e : s = c r + 1
    · rw [if_pos e, if_pos (by rw [beq_iff_eq]; exact e)]
    · rw [if_neg e, if_neg (by rw [beq_iff_eq]; exact e)]
  rw [eP]
  have hP : wPay (cPr b m t q) (s == c r + 1) r ≤ 300 := by
    unfold wPay
    split
    · omega
    · exact prc_le c1 hb c2
  generalize hp : wPay (cPr b m t q) (s == c r + 1) r = p at hP ⊢
  rw [ald_n (n := 16) (by omega) (by omega), d3]
  simp only [Option.bind_some]
  have eX : ∃ s' : Nat, s' < 5 ∧ (if nI p ≤ 0 then some (0 : Int32) else some (nI (c r) + 1)) = some (nI s') ∧ (decide (r + 1 < n) && s' == c (r + 1) + 1) = wNf n (cPr b m t q) c (s == c r + 1) r := by
    by_cases e : p = 0
    · refine ⟨0, by omega, by rw [if_pos ((nI_le0 (by omega)).mpr e)]; rfl, ?_⟩
      unfold wNf
      rw [hp, e]
      simp
    · refine ⟨c r + 1, by omega, by rw [if_neg (fun z => e ((nI_le0 (by omega)).mp z)), nI_1], ?_⟩
      unfold wNf wSame
      rw [hp]
      have : 0 < p := by omega
      simp [this]
  obtain ⟨s', hs', e1, e2⟩ := eX
  rw [e1]
  simp only [Option.bind_some]
  rw [show (5 : Int32) * nI r + 5 + nI s' = nI (5 * (r + 1) + s') by rw [show (5 : Int32) = nI 5 from rfl, pk_mul, nI_add, nI_add]; exact congrArg nI (by omega), ald_n (by omega) (by omega), hrow s' hs', e2]
  simp only [Option.bind_some]
  unfold wCp
  rw [nI_add, hp]
theorem mLandOn {T : St} {k n a b m sl r : Nat} {t q c d : Nat → Nat} (C : Cfg n a b m sl t q c d) (M : MCfg T k n a m sl t q c d) (hr : r < n) (hrow : MRow T n (cPr b m t q) (cLa b d) c (r + 1)) :
    m_X9_landOn T (nI r) (nI b) = some (nI (wCl n (cPr b m t q) (cLa b d) c r)) := by
  obtain ⟨h8, ha, hb, hm, hsl, hC⟩ := C
  obtain ⟨m1, m2, m3, m4, m5⟩ := M
  obtain ⟨d1, d2, d3, d4⟩ := m5 r hr
  unfold m_X9_landOn
  rw [ald_n (by omega) (by omega), d4]
  simp only [Option.bind_some]
  rw [show (5 : Int32) * nI r + 5 = nI (5 * (r + 1) + 0) by rw [show (5 : Int32) = nI 5 from rfl, pk_mul, nI_add]; exact congrArg nI (by omega), ald_n (by omega) (by omega), hrow 0 (by omega), pk_mul]
  simp only [Option.bind_some]
  rw [nI_add]
  unfold wCl cLa
  congr 3
  simp
theorem finds_L0 {n : Nat} {pr la c : Nat → Nat} (h8 : n ≤ 8) (T : St) (h2 : T.1 2 0 = nI n) (k0 : Int32 → St → Option (Int32 × St)) : ∀ (dd i f : Nat) (T' : St), i + dd = 5 → dd < f → Fr3 T T' → (∀ s : Nat, s < i → T'.1 15 (5 * n + s) = 0) →
    ∃ T'' : St, m_X9_finds_L0 k0 f (nI i) T' = k0 (nI 5) T'' ∧ Fr3 T T'' ∧ MRow T'' n pr la c n := by
  intro dd
  induction dd with
  | zero =>
    intro i f T' h1 hf hF hI
    obtain ⟨f, rfl⟩ : ∃ g, f = g + 1 := ⟨f - 1, by omega⟩
    obtain rfl : i = 5 := by omega
    refine ⟨T', by rw [m_X9_finds_L0_s, if_pos (show (5 : Int32) ≤ nI 5 by decide)], hF, fun s hs => ?_⟩
    rw [hI s hs, Nat.sub_self]; rfl
  | succ dd ih =>
    intro i f T' h1 hf hF hI
    obtain ⟨f, rfl⟩ : ∃ g, f = g + 1 := ⟨f - 1, by omega⟩
    rw [m_X9_finds_L0_s, if_neg (show ¬ (5 : Int32) ≤ nI i from nI_ge (b := 5) (by omega) (by omega)), hF.1 2 (by omega) (by omega) (by omega), h2, ix5, ast_n (by omega) (by omega)]
    simp only [Option.bind_some]
    rw [show nI i + (1 : Int32) = nI (i + 1) from nI_1 i]
    refine ih (i + 1) f _ (by omega) (by omega) (hF.tr (Fr3.st (Or.inl rfl))) (fun s hs => ?_)
    rw [st_s]
    by_cases e : s = i
    · subst e; rw [upd_s]
    · rw [upd_n (by omega)]; exact hI s (by omega)
theorem finds_L3 {k n a b m sl r : Nat} {t q c d : Nat → Nat} (C : Cfg n a b m sl t q c d) (hk : k ≠ 15 ∧ k ≠ 16 ∧ k ≠ 17) (T : St) (M : MCfg T k n a m sl t q c d) (hr : r < n) (k0 : Int32 → St → Option (Int32 × St)) : ∀ (dd i f : Nat) (T' : St), i + dd = 5 → dd < f → Fr3 T T' →
    (∀ r' : Nat, r < r' → r' ≤ n → MRow T' n (cPr b m t q) (cLa b d) c r') → (∀ s : Nat, s < i → T'.1 15 (5 * r + s) = nI (lw n (cPr b m t q) (cLa b d) c (n - r) (decide (r < n) && s == c r + 1))) →
    ∃ T'' : St, m_X9_finds_L3 k (nI b) (nI r) k0 f (nI i) T' = k0 (nI 5) T'' ∧ Fr3 T T'' ∧ ∀ r' : Nat, r ≤ r' → r' ≤ n → MRow T'' n (cPr b m t q) (cLa b d) c r' := by
  have h8 := C.1
  intro dd
  induction dd with
  | zero =>
    intro i f T' h1 hf hF hR hI
    obtain ⟨f, rfl⟩ : ∃ g, f = g + 1 := ⟨f - 1, by omega⟩
    obtain rfl : i = 5 := by omega
    refine ⟨T', by rw [m_X9_finds_L3_s, if_pos (show (5 : Int32) ≤ nI 5 by decide)], hF, fun r' h1 h2 => ?_⟩
    by_cases e : r' = r
    · subst e; exact hI
    · exact hR r' (by omega) h2
  | succ dd ih =>
    intro i f T' h1 hf hF hR hI
    obtain ⟨f, rfl⟩ : ∃ g, f = g + 1 := ⟨f - 1, by omega⟩
    have M' := M.fr hk hF
    rw [m_X9_finds_L3_s, if_neg (show ¬ (5 : Int32) ≤ nI i from nI_ge (b := 5) (by omega) (by omega)), mPaidOn C M' hr (by omega) (hR (r + 1) (by omega) (by omega)), mLandOn C M' hr (hR (r + 1) (by omega) (by omega))]
    simp only [Option.bind_some]
    have e1 : (if nI (wCl n (cPr b m t q) (cLa b d) c r) ≤ nI (wCp n (cPr b m t q) (cLa b d) c r (i == c r + 1)) then some (nI (wCl n (cPr b m t q) (cLa b d) c r)) else some (nI (wCp n (cPr b m t q) (cLa b d) c r (i == c r + 1)))) = some (nI (lw n (cPr b m t q) (cLa b d) c (n - r) (decide (r < n) && i == c r + 1))) := by
      have h1 := C.cp (i == c r + 1) hr
      have h2 := C.cl hr
      rw [show (decide (r < n) && i == c r + 1) = (i == c r + 1) by simp [hr], lw_at hr]
      by_cases e : wCl n (cPr b m t q) (cLa b d) c r ≤ wCp n (cPr b m t q) (cLa b d) c r (i == c r + 1)
      · rw [if_pos (nI_le e (by omega)), Nat.min_eq_right e]
      · rw [if_neg (nI_ge (by omega) (by omega)), Nat.min_eq_left (by omega)]
    rw [e1]
    simp only [Option.bind_some]
    rw [ix5, ast_n (by omega) (by omega)]
    simp only [Option.bind_some]
    rw [show nI i + (1 : Int32) = nI (i + 1) from nI_1 i]
    refine ih (i + 1) f _ (by omega) (by omega) (hF.tr (Fr3.st (Or.inl rfl))) (fun r' h1 h2 s hs => ?_) (fun s hs => ?_)
    · rw [st_s, upd_n (by omega)]; exact hR r' h1 h2 s hs
    · rw [st_s]
      by_cases e : s = i
      · subst e; rw [upd_s]
      · rw [upd_n (by omega)]; exact hI s (by omega)
theorem nI_m1 {i : Nat} : nI (i + 1) - (1 : Int32) = nI i := nI_pred i
theorem nI_am1 (i : Nat) : nI i + (-1 : Int32) = nI i - 1 := by rw [Int32.sub_eq_add_neg]
theorem m1_lt {i a : Nat} (h : i < 1000) (ha : a < 1000) : (nI i - (1 : Int32) < nI a) ↔ i ≤ a := by
  rw [i_lt, nI_p1 (by omega), nI_toInt (by omega)]
  omega
theorem finds_L1 {fu k n a b m sl : Nat} {t q c d : Nat → Nat} (hf0 : 300 ≤ fu) (C : Cfg n a b m sl t q c d) (hk : k ≠ 15 ∧ k ≠ 16 ∧ k ≠ 17) (T : St) (M : MCfg T k n a m sl t q c d) (k0 : Int32 → St → Option (Int32 × St)) : ∀ (dd i f : Nat) (T' : St), i = a + dd → i ≤ n → dd < f → Fr3 T T' →
    (∀ r' : Nat, i ≤ r' → r' ≤ n → MRow T' n (cPr b m t q) (cLa b d) c r') →
    ∃ (T'' : St) (x : Int32), m_X9_finds_L1 fu k (nI b) k0 f (nI i - 1) T' = k0 x T'' ∧ Fr3 T T'' ∧ ∀ r' : Nat, a ≤ r' → r' ≤ n → MRow T'' n (cPr b m t q) (cLa b d) c r' := by
  have h8 := C.1
  have hmk := M.2.1
  intro dd
  induction dd with
  | zero =>
    intro i f T' h1 h2 hf hF hR
    obtain ⟨f, rfl⟩ : ∃ g, f = g + 1 := ⟨f - 1, by omega⟩
    obtain rfl : i = a := by omega
    exact ⟨T', _, by rw [m_X9_finds_L1_s, hF.1 k hk.1 hk.2.1 hk.2.2, hmk, if_pos ((m1_lt (by omega) (by omega)).mpr (Nat.le_refl _))], hF, hR⟩
  | succ dd ih =>
    intro i f T' h1 h2 hf hF hR
    obtain ⟨f, rfl⟩ : ∃ g, f = g + 1 := ⟨f - 1, by omega⟩
    obtain ⟨r, rfl⟩ : ∃ r, i = r + 1 := ⟨i - 1, by omega⟩
    rw [m_X9_finds_L1_s, hF.1 k hk.1 hk.2.1 hk.2.2, hmk, if_neg (fun z => by have := (m1_lt (by omega) (by omega)).mp z; omega), nI_m1]
    obtain ⟨T2, e1, e2, e3⟩ := finds_L3 C hk T M (r := r) (by omega) (m_X9_finds_r3 (nI r) (fun z0 z1 => m_X9_finds_L1 fu k (nI b) k0 f z0 z1)) 5 0 fu T' (by omega) (by omega) hF (fun r' h1 h2 => hR r' (by omega) h2) (fun s hs => absurd hs (Nat.not_lt_zero s))
    rw [nI_0] at e1
    rw [e1]
    unfold m_X9_finds_r3
    rw [nI_am1]
    exact ih r f T2 (by omega) (by omega) (by omega) e2 e3
theorem finds_L2 {k n a b m sl : Nat} {t q c d : Nat → Nat} (C : Cfg n a b m sl t q c d) (hk : k ≠ 15 ∧ k ≠ 16 ∧ k ≠ 17) (T : St) (M : MCfg T k n a m sl t q c d) (k0 : Int32 → Int32 → St → Option (Int32 × St)) : ∀ (dd i f : Nat) (s : Nat) (T' : St), i + dd = n → a ≤ i → dd < f → Fr3 T T' → s < 5 →
    (∀ r' : Nat, a ≤ r' → r' ≤ n → MRow T' n (cPr b m t q) (cLa b d) c r') → (i < n → (s == c i + 1) = wFr n (cPr b m t q) (cLa b d) c a (cF0 n a sl c) (i - a)) →
    (∀ r : Nat, a ≤ r → r < i → T'.1 16 r = b01 (wIsL n (cPr b m t q) (cLa b d) c r (wFr n (cPr b m t q) (cLa b d) c a (cF0 n a sl c) (r - a))) ∧ T'.1 17 r = nI (wSp n (cPr b m t q) (cLa b d) c r (wFr n (cPr b m t q) (cLa b d) c a (cF0 n a sl c) (r - a)))) →
    ∃ (T'' : St) (x : Int32), m_X9_finds_L2 k (nI b) k0 f (nI s) (nI i) T' = k0 x (nI n) T'' ∧ Fr3 T T'' ∧ (∀ r' : Nat, a ≤ r' → r' ≤ n → MRow T'' n (cPr b m t q) (cLa b d) c r') ∧
      ∀ r : Nat, a ≤ r → r < n → T''.1 16 r = b01 (wIsL n (cPr b m t q) (cLa b d) c r (wFr n (cPr b m t q) (cLa b d) c a (cF0 n a sl c) (r - a))) ∧ T''.1 17 r = nI (wSp n (cPr b m t q) (cLa b d) c r (wFr n (cPr b m t q) (cLa b d) c a (cF0 n a sl c) (r - a))) := by
  have h8 := C.1
  have hm2 := M.1
  intro dd
  induction dd with
  | zero =>
    intro i f s T' h1 h2 hf hF hs hR hW hI
    obtain ⟨f, rfl⟩ : ∃ g, f = g + 1 := ⟨f - 1, by omega⟩
    obtain rfl : i = n := by omega
    exact ⟨T', nI s, by rw [m_X9_finds_L2_s, hF.1 2 (by omega) (by omega) (by omega), hm2, if_pos (nI_le (Nat.le_refl _) (by omega))], hF, hR, hI⟩
  | succ dd ih =>
    intro i f s T' h1 h2 hf hF hs hR hW hI
    obtain ⟨f, rfl⟩ : ∃ g, f = g + 1 := ⟨f - 1, by omega⟩
    have hi : i < n := by omega
    have M' := M.fr hk hF
    have hW := hW hi
    obtain ⟨-, -, hb, hm, hsl, hC⟩ := id C
    obtain ⟨c1, c2, c3, c4, c5⟩ := hC i hi
    obtain ⟨d1, d2, d3, d4⟩ := M'.2.2.2.2 i hi
    rw [m_X9_finds_L2_s, hF.1 2 (by omega) (by omega) (by omega), hm2, if_neg (nI_ge hi (by omega)), mLandOn C M' hi (hR (i + 1) (by omega) (by omega)), mPaidOn C M' hi hs (hR (i + 1) (by omega) (by omega)), hW]
    simp only [Option.bind_some]
    generalize hfr : wFr n (cPr b m t q) (cLa b d) c a (cF0 n a sl c) (i - a) = fr at hW ⊢
    have hcp := C.cp fr hi
    have hcl := C.cl hi
    rw [mTaken M'.2.2.2.1 hm (by omega) d1 d2 c2 c3 hb d3 c4 (by omega), ald_n (n := 16) (f := T'.1 7) (by omega) (by omega), d4]
    simp only [Option.bind_some]
    rw [pk_mul]
    have eP : (if s = c i + 1 then 0 else prc (brk m i) (t i) b (q i)) = wPay (cPr b m t q) fr i := by
      rw [← hW]
      unfold wPay cPr
      by_cases e : s = c i + 1
      · rw [if_pos e, if_pos (by rw [beq_iff_eq]; exact e)]
      · rw [if_neg e, if_neg (by rw [beq_iff_eq]; exact e)]
    rw [eP]
    have hpay := C.pay fr i hi
    have step : ∀ (L : Bool) (T2 : St), wIsL n (cPr b m t q) (cLa b d) c i fr = L → T2 = st_i (st_i T' 16 i (b01 L)) 17 i (nI (wSp n (cPr b m t q) (cLa b d) c i fr)) → ∀ s2 : Nat, s2 < 5 → (i + 1 < n → (s2 == c (i + 1) + 1) = wNx n (cPr b m t q) (cLa b d) c i fr) →
        ∃ (T'' : St) (x : Int32), m_X9_finds_L2 k (nI b) k0 f (nI s2) (nI (i + 1)) T2 = k0 x (nI n) T'' ∧ Fr3 T T'' ∧ (∀ r' : Nat, a ≤ r' → r' ≤ n → MRow T'' n (cPr b m t q) (cLa b d) c r') ∧
          ∀ r : Nat, a ≤ r → r < n → T''.1 16 r = b01 (wIsL n (cPr b m t q) (cLa b d) c r (wFr n (cPr b m t q) (cLa b d) c a (cF0 n a sl c) (r - a))) ∧ T''.1 17 r = nI (wSp n (cPr b m t q) (cLa b d) c r (wFr n (cPr b m t q) (cLa b d) c a (cF0 n a sl c) (r - a))) := by
      intro L T2 hL hT2 s2 hs2 hx
      subst hT2
      refine ih (i + 1) f s2 _ (by omega) (by omega) (by omega) ((hF.tr (Fr3.st (Or.inr (Or.inl rfl)))).tr (Fr3.st (Or.inr (Or.inr rfl)))) hs2 (fun r' h1 h2 s hs => ?_) (fun hlt => ?_) (fun r h1 h2 => ?_)
      · rw [st_n (by omega), st_n (by omega)]; exact hR r' h1 h2 s hs
      · rw [hx hlt, show i + 1 - a = (i - a) + 1 by omega, wFr, hfr, show a + (i - a) = i by omega]
      · by_cases e : r = i
        · subst e
          rw [st_n (by omega), st_s, upd_s, st_s, upd_s, hfr, hL]
          exact ⟨rfl, rfl⟩
        · rw [st_n (by omega), st_s, upd_n e, st_s, upd_n e, st_n (by omega)]
          exact hI r h1 (by omega)
    cases hL : wIsL n (cPr b m t q) (cLa b d) c i fr with
    | false =>
      have hnl : ¬ wCl n (cPr b m t q) (cLa b d) c i < wCp n (cPr b m t q) (cLa b d) c i fr := by
        unfold wIsL at hL
        exact of_decide_eq_false hL
      have eS : wSp n (cPr b m t q) (cLa b d) c i fr = wPay (cPr b m t q) fr i := by unfold wSp; rw [hL]; rfl
      have eD : wPd n (cPr b m t q) (cLa b d) c i fr = wPay (cPr b m t q) fr i := by unfold wPd; rw [hL]; rfl
      rw [if_pos (nI_le (by omega) (by omega))]
      simp only [Option.bind_some, if_true]
      rw [ast_n (by omega) (by omega)]
      simp only [Option.bind_some]
      rw [ast_n (by omega) (by omega)]
      simp only [Option.bind_some]
      simp only [not_true_eq_false, if_false]
      rw [ald_n (n := 16) (by omega) (by omega), st_n (a := 5) (by omega), st_n (a := 5) (by omega), d3]
      simp only [Option.bind_some]
      by_cases e : wPay (cPr b m t q) fr i = 0
      · rw [if_neg (fun z => z (by rw [e]; rfl))]
        simp only [Option.bind_some]
        rw [show nI i + (1 : Int32) = nI (i + 1) from nI_1 i]
        refine step false _ hL (by rw [eS]; rfl) 0 (by omega) (fun hlt => ?_)
        unfold wNx
        rw [eD, e]
        simp
      · rw [if_pos (nI_n0 (by omega) (by omega)), nI_1]
        simp only [Option.bind_some]
        rw [show nI i + (1 : Int32) = nI (i + 1) from nI_1 i]
        refine step false _ hL (by rw [eS]; rfl) (c i + 1) (by omega) (fun hlt => ?_)
        unfold wNx wSame
        rw [eD]
        have : 0 < wPay (cPr b m t q) fr i := by omega
        simp [this, hlt]
    | true =>
      have hnl : wCl n (cPr b m t q) (cLa b d) c i < wCp n (cPr b m t q) (cLa b d) c i fr := by
        unfold wIsL at hL
        exact of_decide_eq_true hL
      have eS : wSp n (cPr b m t q) (cLa b d) c i fr = d i * b := by unfold wSp; rw [hL]; rfl
      have eD : wPd n (cPr b m t q) (cLa b d) c i fr = 0 := by unfold wPd; rw [hL]; rfl
      rw [if_neg (nI_ge hnl (by omega))]
      simp only [Option.bind_some, show ¬ ((1 : Int32) = 0) by decide, if_false]
      rw [ast_n (by omega) (by omega)]
      simp only [Option.bind_some]
      rw [ast_n (by omega) (by omega)]
      simp only [Option.bind_some, not_false_eq_true, if_true]
      rw [show nI i + (1 : Int32) = nI (i + 1) from nI_1 i]
      refine step true _ hL (by rw [eS]; rfl) 0 (by omega) (fun hlt => ?_)
      unfold wNx
      rw [eD]
      simp
/-- WHAT THE REFERENCE FINDS -/
theorem finds_spec {fu k n a b m sl : Nat} {t q c d : Nat → Nat} {T : St} (hf : 300 ≤ fu) (C : Cfg n a b m sl t q c d) (hk : k ≠ 15 ∧ k ≠ 16 ∧ k ≠ 17) (M : MCfg T k n a m sl t q c d) :
    ∃ T' : St, m_X9_finds fu T k (nI b) = some (nI (lw n (cPr b m t q) (cLa b d) c (n - a) (cF0 n a sl c)), T') ∧ Fr3 T T' ∧
      ∀ r : Nat, a ≤ r → r < n → T'.1 16 r = b01 (wIsL n (cPr b m t q) (cLa b d) c r (wFr n (cPr b m t q) (cLa b d) c a (cF0 n a sl c) (r - a))) ∧ T'.1 17 r = nI (wSp n (cPr b m t q) (cLa b d) c r (wFr n (cPr b m t q) (cLa b d) c a (cF0 n a sl c) (r - a))) := by
  have h8 := C.1
  have ha := C.2.1
  have hs := C.2.2.2.2.1
  unfold m_X9_finds
  obtain ⟨T1, e1, f1, r1⟩ := finds_L0 (pr := cPr b m t q) (la := cLa b d) (c := c) h8 T M.1 (m_X9_finds_r0 fu k (nI b)) 5 0 fu T (by omega) (by omega) (Fr3.rf T) (fun s hs => absurd hs (Nat.not_lt_zero s))
  rw [nI_0] at e1
  rw [e1]
  unfold m_X9_finds_r0
  rw [f1.1 2 (by omega) (by omega) (by omega), M.1]
  obtain ⟨T2, x2, e2, f2, r2⟩ := finds_L1 hf C hk T M (m_X9_finds_r1 fu k (nI b)) (n - a) n fu T1 (by omega) (Nat.le_refl _) (by omega) f1 (fun r' h1 h2 => (show r' = n from by omega) ▸ r1)
  rw [e2]
  unfold m_X9_finds_r1
  rw [f2.1 k hk.1 hk.2.1 hk.2.2, M.2.2.1, M.2.1]
  obtain ⟨T3, x3, e3, f3, r3, o3⟩ := finds_L2 C hk T M (m_X9_finds_r2 k) (n - a) a fu sl T2 (by omega) (Nat.le_refl _) (by omega) f2 (by omega) r2 (fun hlt => by rw [Nat.sub_self, wFr]; unfold cF0; simp [hlt]) (fun r h1 h2 => by omega)
  rw [e3]
  unfold m_X9_finds_r2
  rw [f3.1 k hk.1 hk.2.1 hk.2.2, M.2.2.1, M.2.1, ix5, ald_n (by omega) (by omega), r3 a (Nat.le_refl _) ha sl (by omega)]
  exact ⟨T3, rfl, f3, o3⟩
