/-! The class's search -/
def XCfg (S : St) (n a b m sl : Nat) (t q c d : Nat → Nat) : Prop := S.1 6 0 = nI n ∧ S.1 51 7 = nI a ∧ S.1 51 0 = nI b ∧ S.1 51 1 = nI m ∧ S.1 51 8 = ltr sl ∧ ∀ r : Nat, r < n → S.1 52 r = nI (t r) ∧ S.1 7 (5 * r + 1) = nI (q r) ∧ S.1 7 (5 * r + 2) = nI (c r) ∧ S.1 7 (5 * r + 4) = nI (d r)
/-- rows 53 .. 59 alone are otherwise -/
def Fr7 (S S' : St) : Prop := (∀ k : Nat, (k < 53 ∨ 59 < k) → S'.1 k = S.1 k) ∧ S'.2 = S.2
theorem Fr7.rf (S : St) : Fr7 S S := ⟨fun _ _ => rfl, rfl⟩
theorem Fr7.tr {S S' S'' : St} (h : Fr7 S S') (h2 : Fr7 S' S'') : Fr7 S S'' := ⟨fun k a => (h2.1 k a).trans (h.1 k a), h2.2.trans h.2⟩
theorem Fr7.st {S : St} {k j : Nat} {v : Int32} (h : 53 ≤ k ∧ k ≤ 59) : Fr7 S (st_i S k j v) := ⟨fun a _ => st_n (by omega), rfl⟩
theorem XCfg.fr {S S' : St} {n a b m sl : Nat} {t q c d : Nat → Nat} (h : XCfg S n a b m sl t q c d) (hf : Fr7 S S') : XCfg S' n a b m sl t q c d := by
  unfold XCfg
  rw [hf.1 6 (by omega), hf.1 51 (by omega), hf.1 52 (by omega), hf.1 7 (by omega)]
  exact h
def XPr (S : St) (n : Nat) (pr la c : Nat → Nat) (r : Nat) : Prop := S.1 55 r = nI (pr r) ∧ S.1 56 r = nI (la r) ∧ S.1 57 r = b01 (wSame n c r)
theorem priceAll_L {n a b m sl : Nat} {t q c d : Nat → Nat} (C : Cfg n a b m sl t q c d) (S : St) (X : XCfg S n a b m sl t q c d) (k0 : Int32 → St → Option St) : ∀ (dd i f : Nat) (S' : St), i + dd = n → a ≤ i → dd < f → Fr7 S S' → (∀ r : Nat, a ≤ r → r < i → XPr S' n (cPr b m t q) (cLa b d) c r) →
    ∃ S'' : St, m_X4_priceAll_L0 k0 f (nI i) S' = k0 (nI n) S'' ∧ Fr7 S S'' ∧ ∀ r : Nat, a ≤ r → r < n → XPr S'' n (cPr b m t q) (cLa b d) c r := by
  obtain ⟨h8, ha, hb, hm, hsl, hC⟩ := id C
  intro dd
  induction dd with
  | zero =>
    intro i f S' h1 h2 hf hF hI
    obtain ⟨f, rfl⟩ : ∃ g, f = g + 1 := ⟨f - 1, by omega⟩
    obtain rfl : i = n := by omega
    exact ⟨S', by rw [m_X4_priceAll_L0_s, hF.1 6 (by omega), X.1, if_pos (nI_le (Nat.le_refl _) (by omega))], hF, hI⟩
  | succ dd ih =>
    intro i f S' h1 h2 hf hF hI
    obtain ⟨f, rfl⟩ : ∃ g, f = g + 1 := ⟨f - 1, by omega⟩
    have hi : i < n := by omega
    obtain ⟨x1, x2, x3, x4, x5, x6⟩ := X.fr hF
    obtain ⟨y1, y2, y3, y4⟩ := x6 i hi
    obtain ⟨c1, c2, c3, c4, c5⟩ := hC i hi
    rw [m_X4_priceAll_L0_s, x1, if_neg (nI_ge hi (by omega)), x4, bit_1 hm (by omega)]
    have e1 : (if ¬ (if brk m i = true then (1 : Int32) else 0) = 1 then some (0 : Int32) else some 1) = some (b01 (brk m i)) := by cases brk m i <;> rfl
    rw [e1]
    simp only [Option.bind_some]
    have e2 : (if b01 (brk m i) = 0 then (m_X5_get 8 (S'.1 52) (nI i)).bind fun x34 => (m_X3_price S' (nI i) x34 (S'.1 51 0)).bind fun x36 => some x36 else some 0) = some (nI (cPr b m t q i)) := by
      unfold cPr
      cases brk m i with
      | true => rw [if_neg (by decide)]; rfl
      | false =>
        rw [if_pos (by decide), get_n (by omega) (by omega), y1]
        simp only [Option.bind_some]
        rw [x3, xPrice (by omega) y2 c2 c3 hb]
        rfl
    rw [e2]
    simp only [Option.bind_some]
    rw [put_n (by omega) (by omega)]
    simp only [Option.bind_some]
    rw [show (4 : Int32) = nI 4 from rfl, fact_n (by omega) (by omega), st_n (a := 7) (by omega), y4, st_n (a := 51) (by omega), x3]
    simp only [Option.bind_some]
    rw [pk_mul, put_n (by omega) (by omega)]
    simp only [Option.bind_some]
    rw [st_n (a := 6) (by omega), st_n (a := 6) (by omega), x1, nI_1, show (2 : Int32) = nI 2 from rfl, fact_n (by omega) (by omega), st_n (a := 7) (by omega), st_n (a := 7) (by omega), y3]
    simp only [Option.bind_some]
    have e3 : (if nI n ≤ nI (i + 1) then some (0 : Int32) else (m_X3_fact (st_i (st_i S' 55 i (nI (cPr b m t q i))) 56 i (nI (d i * b))) (nI (i + 1)) (nI 2)).bind fun x30 => if ¬ nI (c i) = x30 then some 0 else some 1) = some (b01 (wSame n c i)) := by
      unfold wSame
      by_cases e : i + 1 < n
      · obtain ⟨z1, z2, z3, z4⟩ := x6 (i + 1) e
        obtain ⟨w1, w2, w3, w4, w5⟩ := hC (i + 1) e
        rw [if_neg (nI_ge e (by omega)), fact_n (by omega) (by omega), st_n (a := 7) (by omega), st_n (a := 7) (by omega), z3]
        simp only [Option.bind_some]
        by_cases e2 : c i = c (i + 1)
        · rw [if_neg (fun z => z (by rw [e2]))]
          simp [e, e2, b01]
        · rw [if_pos (fun z => e2 ((nI_eq (by omega) (by omega)).mp z))]
          simp [e, e2, b01]
      · rw [if_pos (nI_le (by omega) (by omega))]
        simp [e, b01]
    rw [e3]
    simp only [Option.bind_some]
    have e4 : (if b01 (wSame n c i) = 0 then some (0 : Int32) else some 1) = some (b01 (wSame n c i)) := by cases wSame n c i <;> rfl
    rw [e4]
    simp only [Option.bind_some]
    rw [put_n (by omega) (by omega)]
    simp only [Option.bind_some]
    refine ih (i + 1) f _ (by omega) (by omega) (by omega) (((hF.tr (Fr7.st (by omega))).tr (Fr7.st (by omega))).tr (Fr7.st (by omega))) (fun r g1 g2 => ?_)
    unfold XPr
    rw [st_n (a := 55) (by omega), st_n (a := 55) (by omega), st_n (a := 56) (by omega), st_s (k := 57), st_n (k := 56) (a := 57) (by omega), st_n (k := 55) (a := 57) (by omega), st_s, st_s, st_n (k := 55) (a := 56) (by omega)]
    by_cases e : r = i
    · subst e
      rw [upd_s, upd_s, upd_s]
      exact ⟨rfl, rfl, rfl⟩
    · rw [upd_n e, upd_n e, upd_n e]
      exact hI r g1 (by omega)
theorem n01_t : n01 true = 1 := rfl
theorem n01_f : n01 false = 0 := rfl
def XRow (S : St) (n : Nat) (pr la c : Nat → Nat) (r : Nat) : Prop := ∀ f : Bool, S.1 59 (2 * r + n01 f) = nI (lw n pr la c (n - r) f)
theorem ix2 (r s : Nat) : (2 : Int32) * nI r + nI s = nI (2 * r + s) := by
  rw [show (2 : Int32) = nI 2 from rfl, pk_mul, nI_add]
theorem xLeast {S : St} {r : Nat} (hr : r ≤ 8) (f : Bool) : m_X4_leastFrom S (nI r) (b01 f) = some (S.1 59 (2 * r + n01 f)) := by
  unfold m_X4_leastFrom
  have : n01 f ≤ 1 := by cases f <;> decide
  rw [b01_n, ix2, get_n (by omega) (by omega)]
  rfl
theorem xSetLeast {S : St} {r : Nat} {v : Int32} (hr : r ≤ 8) (f : Bool) : m_X4_setLeast S (nI r) (b01 f) v = some (st_i S 59 (2 * r + n01 f) v) := by
  unfold m_X4_setLeast
  have : n01 f ≤ 1 := by cases f <;> decide
  rw [b01_n, ix2, put_n (by omega) (by omega)]
  rfl
theorem xCostPay {S : St} {n a b m sl r : Nat} {t q c d : Nat → Nat} (C : Cfg n a b m sl t q c d) (hp : XPr S n (cPr b m t q) (cLa b d) c r) (hr : r < n) (hrow : XRow S n (cPr b m t q) (cLa b d) c (r + 1)) (f : Bool) :
    m_X4_costByPay S (nI r) (b01 f) = some (nI (wCp n (cPr b m t q) (cLa b d) c r f)) := by
  have h8 := C.1
  have hpay := C.pay f r hr
  unfold m_X4_costByPay m_X4_due m_X4_freedBehind
  have e1 : (if ¬ b01 f = 1 then (m_X5_get 8 (S.1 55) (nI r)).bind fun x3 => some x3 else some 0) = some (nI (wPay (cPr b m t q) f r)) := by
    unfold wPay
    cases f with
    | true => rw [if_neg (by decide)]; rfl
    | false => rw [if_pos (by decide), get_n (by omega) (by omega), hp.1]; rfl
  rw [e1]
  simp only [Option.bind_some]
  have e2 : (if nI (wPay (cPr b m t q) f r) ≤ 0 then some (0 : Int32) else (m_X5_get 8 (S.1 57) (nI r)).bind fun x3 => some x3) = some (b01 (wNf n (cPr b m t q) c f r)) := by
    unfold wNf
    by_cases e : wPay (cPr b m t q) f r = 0
    · rw [if_pos ((nI_le0 (by omega)).mpr e), e]
      simp [b01]
    · rw [if_neg (fun z => e ((nI_le0 (by omega)).mp z)), get_n (by omega) (by omega), hp.2.2]
      have : 0 < wPay (cPr b m t q) f r := by omega
      simp [this]
  rw [e2]
  simp only [Option.bind_some]
  rw [nI_1, xLeast (by omega), hrow]
  simp only [Option.bind_some]
  rw [nI_add]
  rfl
theorem xCostLand {S : St} {n a b m sl r : Nat} {t q c d : Nat → Nat} (C : Cfg n a b m sl t q c d) (hp : XPr S n (cPr b m t q) (cLa b d) c r) (hr : r < n) (hrow : XRow S n (cPr b m t q) (cLa b d) c (r + 1)) :
    m_X4_costByLand S (nI r) = some (nI (wCl n (cPr b m t q) (cLa b d) c r)) := by
  have h8 := C.1
  unfold m_X4_costByLand
  rw [get_n (by omega) (by omega), hp.2.1, nI_1, show (0 : Int32) = b01 false from rfl, xLeast (by omega), hrow]
  simp only [Option.bind_some]
  rw [nI_add]
  rfl
theorem min_n {x y : Nat} (hx : x < 2 ^ 31) (hy : y < 2 ^ 31) : (if nI y < nI x then nI y else nI x) = nI (min x y) := by
  by_cases e : y < x
  · rw [if_pos (nI_lt e hx), Nat.min_eq_right (by omega)]
  · rw [if_neg (nI_nlt (by omega) hy), Nat.min_eq_left (by omega)]
/-- rows 59 alone -/
def Fr1 (S S' : St) : Prop := (∀ k : Nat, k ≠ 59 → S'.1 k = S.1 k) ∧ S'.2 = S.2
theorem Fr1.rf (S : St) : Fr1 S S := ⟨fun _ _ => rfl, rfl⟩
theorem Fr1.st {S S' : St} {j : Nat} {v : Int32} (h : Fr1 S S') : Fr1 S (st_i S' 59 j v) := ⟨fun k q => (st_n q).trans (h.1 k q), h.2⟩
theorem Fr1.f7 {S S' : St} (h : Fr1 S S') : Fr7 S S' := ⟨fun k q => h.1 k (by omega), h.2⟩
theorem weighAll_L {n a b m sl : Nat} {t q c d : Nat → Nat} (C : Cfg n a b m sl t q c d) (S : St) (X : XCfg S n a b m sl t q c d) (hP : ∀ r : Nat, a ≤ r → r < n → XPr S n (cPr b m t q) (cLa b d) c r) (k0 : Int32 → St → Option St) : ∀ (dd i f : Nat) (S' : St), i = a + dd → i ≤ n → dd < f → Fr1 S S' →
    (∀ r : Nat, i ≤ r → r ≤ n → XRow S' n (cPr b m t q) (cLa b d) c r) →
    ∃ (S'' : St) (x : Int32), m_X4_weighAll_L0 k0 f (nI i - 1) S' = k0 x S'' ∧ Fr1 S S'' ∧ ∀ r : Nat, a ≤ r → r ≤ n → XRow S'' n (cPr b m t q) (cLa b d) c r := by
  have h8 := C.1
  intro dd
  induction dd with
  | zero =>
    intro i f S' h1 h2 hf hF hR
    obtain ⟨f, rfl⟩ : ∃ g, f = g + 1 := ⟨f - 1, by omega⟩
    obtain rfl : i = a := by omega
    exact ⟨S', _, by rw [m_X4_weighAll_L0_s, hF.1 51 (by omega), X.2.1, if_pos ((m1_lt (by omega) (by omega)).mpr (Nat.le_refl _))], hF, hR⟩
  | succ dd ih =>
    intro i f S' h1 h2 hf hF hR
    obtain ⟨f, rfl⟩ : ∃ g, f = g + 1 := ⟨f - 1, by omega⟩
    obtain ⟨r, rfl⟩ : ∃ r, i = r + 1 := ⟨i - 1, by omega⟩
    have hr : r < n := by omega
    have hp : ∀ S2 : St, Fr1 S S2 → XPr S2 n (cPr b m t q) (cLa b d) c r := fun S2 h2 => by
      unfold XPr
      rw [h2.1 55 (by omega), h2.1 56 (by omega), h2.1 57 (by omega)]
      exact hP r (by omega) hr
    have hcl := C.cl hr
    rw [m_X4_weighAll_L0_s, hF.1 51 (by omega), X.2.1, if_neg (fun z => by have := (m1_lt (by omega) (by omega)).mp z; omega), nI_m1, show m_X4_costByPay S' (nI r) 0 = _ from xCostPay C (hp S' hF) hr (hR (r + 1) (Nat.le_refl _) (by omega)) false, xCostLand C (hp S' hF) hr (hR (r + 1) (Nat.le_refl _) (by omega))]
    simp only [Option.bind_some]
    have hcp := C.cp false hr
    have hcp1 := C.cp true hr
    rw [min_n (by omega) (by omega), ← lw_at hr false, show ∀ v, m_X4_setLeast S' (nI r) 0 v = _ from fun v => xSetLeast (by omega) false]
    simp only [Option.bind_some]
    have hF1 : Fr1 S (st_i S' 59 (2 * r + n01 false) (nI (lw n (cPr b m t q) (cLa b d) c (n - r) false))) := hF.st
    have hR1 : XRow (st_i S' 59 (2 * r + n01 false) (nI (lw n (cPr b m t q) (cLa b d) c (n - r) false))) n (cPr b m t q) (cLa b d) c (r + 1) := fun g => by
      rw [st_s, upd_n (by rw [n01_f]; omega)]; exact hR (r + 1) (Nat.le_refl _) (by omega) g
    rw [show m_X4_costByPay (st_i S' 59 (2 * r + n01 false) (nI (lw n (cPr b m t q) (cLa b d) c (n - r) false))) (nI r) 1 = _ from xCostPay C (hp _ hF1) hr hR1 true, xCostLand C (hp _ hF1) hr hR1]
    simp only [Option.bind_some]
    rw [min_n (by omega) (by omega), ← lw_at hr true, show ∀ v, m_X4_setLeast (st_i S' 59 (2 * r + n01 false) (nI (lw n (cPr b m t q) (cLa b d) c (n - r) false))) (nI r) 1 v = _ from fun v => xSetLeast (by omega) true]
    simp only [Option.bind_some]
    rw [nI_am1]
    refine ih r f _ (by omega) (by omega) (by omega) hF1.st (fun r' g1 g2 g => ?_)
    have hg : n01 g ≤ 1 := by cases g <;> decide
    rw [st_s, upd_e, st_s, upd_e]
    by_cases e : r' = r
    · subst e
      cases g with
      | true => rw [if_pos rfl]
      | false => rw [if_neg (by rw [n01_t, n01_f]; omega), if_pos rfl]
    · rw [if_neg (by rw [n01_t]; omega), if_neg (by rw [n01_f]; omega)]
      exact hR r' (by omega) g2 g
theorem walk_L {n a b m sl : Nat} {t q c d : Nat → Nat} (C : Cfg n a b m sl t q c d) (S : St) (X : XCfg S n a b m sl t q c d) (hP : ∀ r : Nat, a ≤ r → r < n → XPr S n (cPr b m t q) (cLa b d) c r) (hR : ∀ r : Nat, a ≤ r → r ≤ n → XRow S n (cPr b m t q) (cLa b d) c r) (k0 : Int32 → Int32 → St → Option St) : ∀ (dd i f : Nat) (S' : St) (fr : Bool), i + dd = n → a ≤ i → dd < f → (∀ k : Nat, k ≠ 53 → k ≠ 54 → k ≠ 58 → S'.1 k = S.1 k) → S'.2 = S.2 → (i < n → fr = wFr n (cPr b m t q) (cLa b d) c a (cF0 n a sl c) (i - a)) →
    (∀ r : Nat, a ≤ r → r < i → S'.1 54 r = b01 (wIsL n (cPr b m t q) (cLa b d) c r (wFr n (cPr b m t q) (cLa b d) c a (cF0 n a sl c) (r - a))) ∧ S'.1 53 r = nI (wPd n (cPr b m t q) (cLa b d) c r (wFr n (cPr b m t q) (cLa b d) c a (cF0 n a sl c) (r - a))) ∧ S'.1 58 r = nI (wSp n (cPr b m t q) (cLa b d) c r (wFr n (cPr b m t q) (cLa b d) c a (cF0 n a sl c) (r - a)))) →
    ∃ (S'' : St) (x y : Int32), m_X4_walk_L0 k0 f (b01 fr) (nI i) S' = k0 x y S'' ∧ (∀ k : Nat, k ≠ 53 → k ≠ 54 → k ≠ 58 → S''.1 k = S.1 k) ∧ S''.2 = S.2 ∧
      ∀ r : Nat, a ≤ r → r < n → S''.1 54 r = b01 (wIsL n (cPr b m t q) (cLa b d) c r (wFr n (cPr b m t q) (cLa b d) c a (cF0 n a sl c) (r - a))) ∧ S''.1 53 r = nI (wPd n (cPr b m t q) (cLa b d) c r (wFr n (cPr b m t q) (cLa b d) c a (cF0 n a sl c) (r - a))) ∧ S''.1 58 r = nI (wSp n (cPr b m t q) (cLa b d) c r (wFr n (cPr b m t q) (cLa b d) c a (cF0 n a sl c) (r - a))) := by
  have h8 := C.1
  intro dd
  induction dd with
  | zero =>
    intro i f S' fr h1 h2 hf hF hF2 hW hI
    obtain ⟨f, rfl⟩ : ∃ g, f = g + 1 := ⟨f - 1, by omega⟩
    obtain rfl : i = n := by omega
    exact ⟨S', _, _, by rw [m_X4_walk_L0_s, hF 6 (by omega) (by omega) (by omega), X.1, if_pos (nI_le (Nat.le_refl _) (by omega))], hF, hF2, hI⟩
  | succ dd ih =>
    intro i f S' fr h1 h2 hf hF hF2 hW hI
    obtain ⟨f, rfl⟩ : ∃ g, f = g + 1 := ⟨f - 1, by omega⟩
    have hi : i < n := by omega
    have hW := hW hi
    have hp : ∀ S2 : St, (∀ k : Nat, k ≠ 53 → k ≠ 54 → k ≠ 58 → S2.1 k = S.1 k) → XPr S2 n (cPr b m t q) (cLa b d) c i := fun S2 h2 => by
      unfold XPr
      rw [h2 55 (by omega) (by omega) (by omega), h2 56 (by omega) (by omega) (by omega), h2 57 (by omega) (by omega) (by omega)]
      exact hP i (by omega) hi
    have hr : XRow S' n (cPr b m t q) (cLa b d) c (i + 1) := fun g => by
      rw [hF 59 (by omega) (by omega) (by omega)]; exact hR (i + 1) (by omega) (by omega) g
    have hcp := C.cp fr hi
    have hcl := C.cl hi
    have hpay := C.pay fr i hi
    rw [m_X4_walk_L0_s, hF 6 (by omega) (by omega) (by omega), X.1, if_neg (nI_ge hi (by omega)), xCostLand C (hp S' hF) hi hr, xCostPay C (hp S' hF) hi hr]
    simp only [Option.bind_some]
    have eL : (if nI (wCp n (cPr b m t q) (cLa b d) c i fr) ≤ nI (wCl n (cPr b m t q) (cLa b d) c i) then some (0 : Int32) else some 1) = some (b01 (wIsL n (cPr b m t q) (cLa b d) c i fr)) := by
      unfold wIsL
      by_cases e : wCl n (cPr b m t q) (cLa b d) c i < wCp n (cPr b m t q) (cLa b d) c i fr
      · rw [if_neg (nI_ge e (by omega))]; simp [e, b01]
      · rw [if_pos (nI_le (by omega) (by omega))]; simp [e, b01]
    rw [eL]
    simp only [Option.bind_some]
    have eD : (if b01 (wIsL n (cPr b m t q) (cLa b d) c i fr) = 0 then (m_X4_due S' (nI i) (b01 fr)).bind fun x43 => some x43 else some 0) = some (nI (wPd n (cPr b m t q) (cLa b d) c i fr)) := by
      unfold wPd
      cases wIsL n (cPr b m t q) (cLa b d) c i fr with
      | true => rw [if_neg (by decide)]; rfl
      | false =>
        rw [if_pos (by decide)]
        unfold m_X4_due wPay
        cases fr with
        | true => rw [if_neg (by decide)]; rfl
        | false => rw [if_pos (by decide), get_n (by omega) (by omega), (hp S' hF).1]; rfl
    rw [eD]
    simp only [Option.bind_some]
    have e4 : (if b01 (wIsL n (cPr b m t q) (cLa b d) c i fr) = 0 then some (0 : Int32) else some 1) = some (b01 (wIsL n (cPr b m t q) (cLa b d) c i fr)) := by cases wIsL n (cPr b m t q) (cLa b d) c i fr <;> rfl
    rw [e4]
    simp only [Option.bind_some]
    rw [put_n (by omega) (by omega)]
    simp only [Option.bind_some]
    rw [put_n (by omega) (by omega)]
    simp only [Option.bind_some]
    generalize hS2 : st_i (st_i S' 54 i (b01 (wIsL n (cPr b m t q) (cLa b d) c i fr))) 53 i (nI (wPd n (cPr b m t q) (cLa b d) c i fr)) = S2
    have hF3 : ∀ k : Nat, k ≠ 53 → k ≠ 54 → k ≠ 58 → S2.1 k = S.1 k := fun k q1 q2 q3 => by rw [← hS2, st_n q1, st_n q2]; exact hF k q1 q2 q3
    have eS : (if b01 (wIsL n (cPr b m t q) (cLa b d) c i fr) = 0 then some (nI (wPd n (cPr b m t q) (cLa b d) c i fr)) else (m_X5_get 8 (S2.1 56) (nI i)).bind fun x39 => some x39) = some (nI (wSp n (cPr b m t q) (cLa b d) c i fr)) := by
      unfold wPd wSp
      cases wIsL n (cPr b m t q) (cLa b d) c i fr with
      | true => rw [if_neg (by decide), get_n (by omega) (by omega), (hp S2 hF3).2.1]; rfl
      | false => rw [if_pos (by decide)]; rfl
    rw [eS]
    simp only [Option.bind_some]
    rw [put_n (by omega) (by omega)]
    simp only [Option.bind_some]
    have hF4 : ∀ k : Nat, k ≠ 53 → k ≠ 54 → k ≠ 58 → (st_i S2 58 i (nI (wSp n (cPr b m t q) (cLa b d) c i fr))).1 k = S.1 k := fun k q1 q2 q3 => by rw [st_n q3]; exact hF3 k q1 q2 q3
    have hpd : wPd n (cPr b m t q) (cLa b d) c i fr ≤ 300 := by
      unfold wPd
      split
      · omega
      · exact hpay
    have eN : m_X4_freedBehind (st_i S2 58 i (nI (wSp n (cPr b m t q) (cLa b d) c i fr))) (nI i) (nI (wPd n (cPr b m t q) (cLa b d) c i fr)) = some (b01 (wNx n (cPr b m t q) (cLa b d) c i fr)) := by
      unfold m_X4_freedBehind wNx
      by_cases e : wPd n (cPr b m t q) (cLa b d) c i fr = 0
      · rw [if_pos ((nI_le0 (by omega)).mpr e), e]
        simp [b01]
      · rw [if_neg (fun z => e ((nI_le0 (by omega)).mp z)), get_n (by omega) (by omega), (hp _ hF4).2.2]
        have : 0 < wPd n (cPr b m t q) (cLa b d) c i fr := by omega
        simp [this]
    rw [eN, nI_1]
    simp only [Option.bind_some]
    refine ih (i + 1) f _ _ (by omega) (by omega) (by omega) hF4 (by rw [← hS2]; exact hF2) (fun hlt => ?_) (fun r g1 g2 => ?_)
    · rw [show i + 1 - a = (i - a) + 1 by omega, wFr, ← hW, show a + (i - a) = i by omega]
    · rw [st_n (a := 54) (by omega), st_n (a := 53) (by omega), st_s (k := 58), ← hS2, st_n (a := 54) (by omega), st_s (k := 54), st_s (k := 53), st_n (k := 54) (a := 53) (by omega), st_n (k := 53) (a := 58) (by omega), st_n (k := 54) (a := 58) (by omega)]
      by_cases e : r = i
      · subst e
        rw [upd_s, upd_s, upd_s, ← hW]
        exact ⟨rfl, rfl, rfl⟩
      · rw [upd_n e, upd_n e, upd_n e]
        exact hI r g1 (by omega)
/-- WHAT THE CLASS FINDS -/
theorem solve_spec {fu n a b m sl : Nat} {t q c d : Nat → Nat} {S : St} (hf : 300 ≤ fu) (C : Cfg n a b m sl t q c d) (X : XCfg S n a b m sl t q c d) :
    ∃ S' : St, m_X4_solve fu S = some S' ∧ (∀ k : Nat, (k < 51 ∨ k = 52 ∨ 59 < k) → S'.1 k = S.1 k) ∧ (∀ j : Nat, j ≠ 2 → S'.1 51 j = S.1 51 j) ∧ S'.2 = S.2 ∧ S'.1 51 2 = nI (lw n (cPr b m t q) (cLa b d) c (n - a) (cF0 n a sl c)) ∧
      ∀ r : Nat, a ≤ r → r < n → S'.1 54 r = b01 (wIsL n (cPr b m t q) (cLa b d) c r (wFr n (cPr b m t q) (cLa b d) c a (cF0 n a sl c) (r - a))) ∧ S'.1 53 r = nI (wPd n (cPr b m t q) (cLa b d) c r (wFr n (cPr b m t q) (cLa b d) c a (cF0 n a sl c) (r - a))) ∧ S'.1 58 r = nI (wSp n (cPr b m t q) (cLa b d) c r (wFr n (cPr b m t q) (cLa b d) c a (cF0 n a sl c) (r - a))) := by
  obtain ⟨h8, ha, hb, hm, hsl, hC⟩ := id C
  unfold m_X4_solve m_X4_priceAll
  obtain ⟨S1, e1, f1, p1⟩ := priceAll_L C S X m_X4_priceAll_r0 (n - a) a fu S (by omega) (Nat.le_refl _) (by omega) (Fr7.rf S) (fun r h1 h2 => by omega)
  rw [X.2.1, e1]
  unfold m_X4_priceAll_r0
  simp only [Option.bind_some]
  have X1 := X.fr f1
  unfold m_X4_weighAll
  rw [X1.1, show m_X4_setLeast S1 (nI n) 0 0 = _ from xSetLeast h8 false]
  simp only [Option.bind_some]
  rw [st_n (a := 6) (by omega), X1.1, show m_X4_setLeast (st_i S1 59 (2 * n + n01 false) 0) (nI n) 1 0 = _ from xSetLeast h8 true]
  simp only [Option.bind_some]
  rw [st_n (a := 6) (by omega), st_n (a := 6) (by omega), X1.1]
  have g2 : Fr1 S1 (st_i (st_i S1 59 (2 * n + n01 false) 0) 59 (2 * n + n01 true) 0) := (Fr1.rf S1).st.st
  obtain ⟨S2, x2, e2, f2, r2⟩ := weighAll_L C S1 X1 p1 m_X4_weighAll_r0 (n - a) n fu _ (by omega) (Nat.le_refl _) (by omega) g2 (fun r h1 h2 f => by
    obtain rfl : r = n := by omega
    rw [Nat.sub_self, st_s, upd_e, st_s, upd_e]
    cases f with
    | true => rw [if_pos rfl]; rfl
    | false => rw [if_neg (by rw [n01_t, n01_f]; omega), if_pos rfl]; rfl)
  rw [e2]
  unfold m_X4_weighAll_r0
  simp only [Option.bind_some]
  have X2 := X1.fr f2.f7
  have p2 : ∀ r : Nat, a ≤ r → r < n → XPr S2 n (cPr b m t q) (cLa b d) c r := fun r h1 h2 => by
    unfold XPr
    rw [f2.1 55 (by omega), f2.1 56 (by omega), f2.1 57 (by omega)]
    exact p1 r h1 h2
  unfold m_X4_walk
  rw [X2.1, X2.2.1, X2.2.2.2.2.1]
  have eF : (if nI n ≤ nI a then some (0 : Int32) else (m_X3_fact S2 (nI a) 2).bind fun x47 => if ¬ ltr sl = x47 then some 0 else some 1) = some (b01 (cF0 n a sl c)) := by
    unfold cF0
    by_cases e : a < n
    · obtain ⟨y1, y2, y3, y4⟩ := X2.2.2.2.2.2 a e
      obtain ⟨c1, c2, c3, c4, c5⟩ := hC a e
      rw [if_neg (nI_ge e (by omega)), show (2 : Int32) = nI 2 from rfl, fact_n (by omega) (by omega), y3]
      simp only [Option.bind_some]
      have e0 := ltr_all sl (by omega) (c a) c4
      by_cases e2 : sl = c a + 1
      · rw [if_neg (fun z => z (e0.mpr e2)), show (decide (a < n) && sl == c a + 1) = true by simp [e, e2]]; rfl
      · rw [if_pos (fun z => e2 (e0.mp z)), show (decide (a < n) && sl == c a + 1) = false by simp [e2]]; rfl
    · rw [if_pos (nI_le (by omega) (by omega)), show (decide (a < n) && sl == c a + 1) = false by simp [e]]; rfl
  rw [eF]
  simp only [Option.bind_some]
  rw [xLeast (by omega), r2 a (Nat.le_refl _) ha]
  simp only [Option.bind_some, lt_e]
  generalize hS3 : st_i S2 51 2 (nI (lw n (cPr b m t q) (cLa b d) c (n - a) (cF0 n a sl c))) = S3
  have q3 : ∀ k : Nat, k ≠ 51 → S3.1 k = S2.1 k := fun k hk => by rw [← hS3]; exact st_n hk
  have q4 : ∀ j : Nat, j ≠ 2 → S3.1 51 j = S2.1 51 j := fun j hj => by rw [← hS3, st_s, upd_n hj]
  have X3 : XCfg S3 n a b m sl t q c d := by
    unfold XCfg
    rw [q3 6 (by omega), q4 7 (by omega), q4 0 (by omega), q4 1 (by omega), q4 8 (by omega), q3 52 (by omega), q3 7 (by omega)]
    exact X2
  obtain ⟨S4, x4, y4, e4, f4, g4, o4⟩ := walk_L C S3 X3 (fun r h1 h2 => by
      unfold XPr
      rw [q3 55 (by omega), q3 56 (by omega), q3 57 (by omega)]
      exact p2 r h1 h2) (fun r h1 h2 g => by rw [q3 59 (by omega)]; exact r2 r h1 h2 g) m_X4_walk_r0 (n - a) a fu S3 (cF0 n a sl c) (by omega) (Nat.le_refl _) (by omega) (fun _ _ _ _ => rfl) rfl (fun hlt => by rw [Nat.sub_self, wFr]) (fun r h1 h2 => by omega)
  rw [X3.2.1, e4]
  unfold m_X4_walk_r0
  refine ⟨S4, rfl, fun k hk => ?_, fun j hj => ?_, ?_, ?_, o4⟩
  · rw [f4 k (by omega) (by omega) (by omega), q3 k (by omega), f2.1 k (by omega), f1.1 k (by omega)]
  · rw [f4 51 (by omega) (by omega) (by omega), q4 j hj, f2.1 51 (by omega), f1.1 51 (by omega)]
  · rw [g4, ← hS3]; exact f2.2.trans f1.2
  · rw [f4 51 (by omega) (by omega) (by omega), ← hS3, st_s, upd_s]
