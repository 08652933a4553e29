/-! LAYER 2: the mirrors of the class and of the reference answer alike. Base rows. -/
theorem lt_e {α β : Type} (x : α) (f : α → β) : lt x f = f x := rfl
theorem ob2_s {α β γ : Type} (a : α) (b : β) (f : α → β → Option γ) : ob2 (some (a, b)) f = f a b := rfl
theorem st_i_1 (S : St) (k j : Nat) (v : Int32) (a : Nat) : (st_i S k j v).1 a = if a = k then upd (S.1 k) j v else S.1 a := rfl
theorem st_i_2 (S : St) (k j : Nat) (v : Int32) : (st_i S k j v).2 = S.2 := rfl
theorem st_l_1 (S : St) (k j : Nat) (v : Int64) : (st_l S k j v).1 = S.1 := rfl
theorem st_l_2 (S : St) (k j : Nat) (v : Int64) (a : Nat) : (st_l S k j v).2 a = if a = k then (fun b => if b = j then v else S.2 k b) else S.2 a := rfl
theorem upd_e (f : Nat → Int32) (k : Nat) (x : Int32) (j : Nat) : upd f k x j = if j = k then x else f j := rfl
theorem st_s (S : St) (k j : Nat) (v : Int32) : (st_i S k j v).1 k = upd (S.1 k) j v := if_pos rfl
theorem st_n {S : St} {k j a : Nat} {v : Int32} (h : a ≠ k) : (st_i S k j v).1 a = S.1 a := if_neg h
theorem upd_s (f : Nat → Int32) (k : Nat) (x : Int32) : upd f k x k = x := if_pos rfl
theorem upd_n {f : Nat → Int32} {k : Nat} {x : Int32} {j : Nat} (h : j ≠ k) : upd f k x j = f j := if_neg h
theorem nI_inr {n j : Nat} (h : j < n) (hn : n < 2 ^ 31) : ¬ (nI j < 0 ∨ n ≤ (nI j).toNatClampNeg) := nI_in h hn
theorem ald_n {n : Nat} {f : Nat → Int32} {j : Nat} (h : j < n) (hn : n < 2 ^ 31) : ald n f (nI j) = some (f j) := by
  unfold ald
  rw [if_neg (nI_inr h hn), nI_clamp (by omega)]
theorem ast_n {n : Nat} {S : St} {k j : Nat} {v : Int32} (h : j < n) (hn : n < 2 ^ 31) : ast n S k (nI j) v = some (st_i S k j v) := by
  unfold ast
  rw [if_neg (nI_inr h hn), nI_clamp (by omega)]
theorem get_n {n : Nat} {f : Nat → Int32} {j : Nat} (h : j < n) (hn : n < 2 ^ 31) : m_X5_get n f (nI j) = some (f j) := by
  unfold m_X5_get
  rw [if_neg (nI_pos (by omega)), if_neg (show ¬ Int32.ofNat n ≤ nI j from nI_ge h hn), ald_n h hn]
  rfl
theorem put_n {S : St} {k n j : Nat} {v : Int32} (h : j < n) (hn : n < 2 ^ 31) : m_X5_put S k n (nI j) v = some (st_i S k j v) := by
  unfold m_X5_put
  rw [if_neg (nI_pos (by omega)), if_neg (show ¬ Int32.ofNat n ≤ nI j from nI_ge h hn), ast_n h hn]
  rfl
theorem in_bad {a lo hi : Int32} (h : a < lo ∨ hi < a) : m_X9_in a lo hi = some 0 := by
  unfold m_X9_in
  by_cases h1 : a < lo
  · rw [if_pos h1]
  · rw [if_neg h1, if_pos (h.resolve_left h1)]
theorem in_ok {a lo hi : Int32} (h1 : ¬ a < lo) (h2 : ¬ hi < a) : m_X9_in a lo hi = some 1 := by
  unfold m_X9_in
  rw [if_neg h1, if_neg h2]
theorem i_le {x y : Int32} : x ≤ y ↔ x.toInt ≤ y.toInt := Int32.le_iff_toInt_le
theorem i_lt {x y : Int32} : x < y ↔ x.toInt < y.toInt := Int32.lt_iff_toInt_lt
theorem nI_p1 {n : Nat} (h : n < 2 ^ 31 - 1) : (nI n - 1 : Int32).toInt = (n : Int) - 1 := by
  cases n with
  | zero => rfl
  | succ k => rw [nI_pred, nI_toInt (by omega)]; omega
/-- an index or none: what a range of n places says of a number -/
theorem ix3 (x : Int32) {n : Nat} (hn : n < 2 ^ 31) : (x < 0 ∨ nI n ≤ x) ∨ ∃ j : Nat, j < n ∧ x = nI j := by
  rcases pk_ix x hn with h | h | h
  · exact Or.inl (Or.inl h)
  · exact Or.inl (Or.inr h)
  · exact Or.inr h
theorem xRock_bad {S : St} {n : Nat} {a : Int32} (hn : S.1 6 0 = nI n) (h : a < 0 ∨ nI n ≤ a) : m_X8_isRock S a = some 0 := by
  unfold m_X8_isRock
  by_cases h1 : a < 0
  · rw [if_pos h1]
  · rw [if_neg h1, hn, if_pos (h.resolve_left h1)]
theorem xRock_ok {S : St} {n j : Nat} (hn : S.1 6 0 = nI n) (h8 : n ≤ 8) (h : j < n) : m_X8_isRock S (nI j) = some 1 := by
  unfold m_X8_isRock
  rw [if_neg (nI_pos (by omega)), hn, if_neg (nI_ge h (by omega))]
theorem mRock_bad {T : St} {n : Nat} {a : Int32} (hn : T.1 2 0 = nI n) (h8 : n ≤ 8) (h : a < 0 ∨ nI n ≤ a) : m_X9_isRock T a = some 0 := by
  unfold m_X9_isRock
  rw [hn, in_bad]
  · rfl
  · rcases h with h | h
    · exact Or.inl h
    · refine Or.inr (i_lt.mpr ?_)
      rw [nI_p1 (by omega)]
      have := i_le.mp h
      rw [nI_toInt (by omega)] at this
      omega
theorem mRock_ok {T : St} {n j : Nat} (hn : T.1 2 0 = nI n) (h8 : n ≤ 8) (h : j < n) : m_X9_isRock T (nI j) = some 1 := by
  unfold m_X9_isRock
  rw [hn, in_ok]
  · rfl
  · exact nI_pos (by omega)
  · intro q
    have := i_lt.mp q
    rw [nI_p1 (by omega), nI_toInt (by omega)] at this
    omega
theorem bit_all : ∀ m : Nat, m < 256 → ∀ r : Nat, r < 8 → ((nI m >>> (nI r &&& 31)) &&& 1) = nI (m / 2 ^ r % 2) := by decide +kernel
def brk (m r : Nat) : Bool := m / 2 ^ r % 2 == 1
theorem bit_1 {m r : Nat} (hm : m < 256) (hr : r < 8) : ((nI m >>> (nI r &&& 31)) &&& 1) = (if brk m r then 1 else 0) := by
  rw [bit_all m hm r hr]
  unfold brk
  rcases (show m / 2 ^ r % 2 = 0 ∨ m / 2 ^ r % 2 = 1 by omega) with h | h <;> rw [h] <;> rfl
/-! THE RELATION OF THE TWO STATES -/
/-- the letter, as the class holds it, by what the reference holds -/
def ltr : Nat → Int32
  | 0 => -9
  | c + 1 => nI c
theorem ltr_all : ∀ sl : Nat, sl < 5 → ∀ c : Nat, c < 4 → (ltr sl = nI c ↔ sl = c + 1) := by decide +kernel
def BRel (n : Nat) (o tl gn s : Nat → Int32) : Prop :=
  (∃ a : Nat, a ≤ n ∧ o 0 = nI a ∧ s 0 = nI a) ∧ (∃ b : Nat, b ≤ 30 ∧ o 1 = nI b ∧ s 1 = nI b) ∧ o 2 = s 2 ∧ (∃ sl : Nat, sl ≤ 4 ∧ o 3 = ltr sl ∧ s 3 = nI sl) ∧ o 4 = s 4 ∧ (∃ m : Nat, m < 256 ∧ o 5 = nI m ∧ s 5 = nI m) ∧
  (∀ r : Nat, r < n → ∃ t : Nat, t ≤ 9 ∧ tl r = nI t ∧ s (6 + r) = nI t) ∧ ∀ k : Nat, k < 4 → gn k = s (14 + k)
def RFac (n : Nat) (f t4 t5 t6 t7 : Nat → Int32) : Prop := ∀ r : Nat, r < n → (∃ q : Nat, 1 ≤ q ∧ q ≤ 5 ∧ f (5 * r + 1) = nI q ∧ t4 r = nI q) ∧ (∃ q : Nat, q < 4 ∧ f (5 * r + 2) = nI q ∧ t5 r = nI q) ∧ (∃ q : Nat, q ≤ 10 ∧ f (5 * r + 3) = nI q ∧ t6 r = nI q) ∧ (∃ q : Nat, q ≤ 30 ∧ f (5 * r + 4) = nI q ∧ t7 r = nI q)
def RTx (lx : Int32) (x : Nat → Int32) (lm : Int32) (t : Nat → Int32) : Prop := ∃ L : Nat, L ≤ 200 ∧ lx = nI L ∧ lm = nI L ∧ ∀ j : Nat, j < L → x j = t j ∧ ∃ q : Nat, q ≤ 255 ∧ x j = nI q
def RPast (n : Nat) (kn nx : Int32) (P : Nat → Nat → Int32) (tk : Int32) (u : Nat → Int32) : Prop := ∃ k x : Nat, k ≤ 10 ∧ x < 10 ∧ kn = nI k ∧ nx = nI x ∧ tk = nI k ∧ ∀ j : Nat, j < k → BRel n (P (13 + 3 * ((x + 10 - k + j) % 10))) (P (13 + 3 * ((x + 10 - k + j) % 10) + 1)) (P (13 + 3 * ((x + 10 - k + j) % 10) + 2)) (fun i => u (18 * j + i))
def RImg (n : Nat) (kp : Nat → Int32) (P : Nat → Nat → Int32) (tk u : Nat → Int32) : Prop := ∀ i : Nat, i < 2 → (kp i = 0 ∧ tk i = 0) ∨ (kp i = 1 ∧ tk i = 1 ∧ BRel n (P (44 + 3 * i)) (P (44 + 3 * i + 1)) (P (44 + 3 * i + 2)) (fun j => u (18 * i + j)))
theorem RPast.cg {n : Nat} {kn nx : Int32} {P P' : Nat → Nat → Int32} {tk : Int32} {u : Nat → Int32} (hP : ∀ k : Nat, 13 ≤ k → k ≤ 42 → P' k = P k) (h : RPast n kn nx P tk u) : RPast n kn nx P' tk u := by
  obtain ⟨k, x, q1, q2, q3, q4, q5, q6⟩ := h
  refine ⟨k, x, q1, q2, q3, q4, q5, fun j hj => ?_⟩
  rw [hP _ (by omega) (by omega), hP _ (by omega) (by omega), hP _ (by omega) (by omega)]
  exact q6 j hj
theorem RImg.cg {n : Nat} {kp : Nat → Int32} {P P' : Nat → Nat → Int32} {tk u : Nat → Int32} (hP : ∀ k : Nat, 44 ≤ k → k ≤ 49 → P' k = P k) (h : RImg n kp P tk u) : RImg n kp P' tk u := by
  intro i hi
  rw [hP _ (by omega) (by omega), hP _ (by omega) (by omega), hP _ (by omega) (by omega)]
  exact h i hi
def RLeft (c : Int32) (xb xc : Nat → Int32) (d : Int32) (tb tc : Nat → Int32) : Prop := ∃ q : Nat, q ≤ 6 ∧ c = nI q ∧ d = nI q ∧ ∀ j : Nat, j < q → (∃ v : Nat, v ≤ 8 ∧ xb j = nI v ∧ tb j = nI v) ∧ xc j = tc j
def Rel (S T : St) : Prop := ∃ n : Nat, n ≤ 8 ∧ S.1 6 0 = nI n ∧ T.1 2 0 = nI n ∧ RFac n (S.1 7) (T.1 4) (T.1 5) (T.1 6) (T.1 7) ∧ BRel n (S.1 8) (S.1 9) (S.1 10) (T.1 8) ∧ RTx (S.1 1 0) (S.1 2) (T.1 0 3) (T.1 1) ∧
  RPast n (S.1 11 0) (S.1 11 1) S.1 (T.1 0 21) (T.1 12) ∧ RImg n (S.1 50) S.1 (T.1 11) (T.1 10) ∧ RLeft (S.1 0 11) (S.1 60) (S.1 61) (T.1 0 24) (T.1 13) (T.1 14) ∧ S.2 0 12 = T.2 0 1
/-- only the class's scratch (its route) is otherwise -/
def FrX (S S' : St) : Prop := (∀ k : Nat, (k ≤ 50 ∨ 60 ≤ k) → S'.1 k = S.1 k) ∧ S'.2 = S.2
/-- only the reference's scratch is otherwise -/
def FrM (T T' : St) : Prop := (∀ j : Nat, j ≠ 0 → T'.1 0 j = T.1 0 j) ∧ (∀ k : Nat, k ≠ 0 → k ≠ 9 → k ≠ 15 → k ≠ 16 → k ≠ 17 → T'.1 k = T.1 k) ∧ T'.2 = T.2
theorem FrX.rf (S : St) : FrX S S := ⟨fun _ _ => rfl, rfl⟩
theorem FrX.tr {S S' S'' : St} (h : FrX S S') (h2 : FrX S' S'') : FrX S S'' := ⟨fun k q => (h2.1 k q).trans (h.1 k q), h2.2.trans h.2⟩
theorem FrM.rf (T : St) : FrM T T := ⟨fun _ _ => rfl, fun _ _ _ _ _ _ => rfl, rfl⟩
theorem FrM.tr {T T' T'' : St} (h : FrM T T') (h2 : FrM T' T'') : FrM T T'' := ⟨fun j q => (h2.1 j q).trans (h.1 j q), fun k a b c d e => (h2.2.1 k a b c d e).trans (h.2.1 k a b c d e), h2.2.2.trans h.2.2⟩
theorem FrM.thr (T : St) (v : Int32) : FrM T (st_i T 0 0 v) := ⟨fun j q => by rw [st_s, upd_n q], fun k a _ _ _ _ => st_n a, rfl⟩
theorem FrX.st {S : St} {k j : Nat} {v : Int32} (h : 51 ≤ k) (h2 : k ≤ 59) : FrX S (st_i S k j v) := ⟨fun a q => st_n (by omega), rfl⟩
theorem FrM.st {T : St} {k j : Nat} {v : Int32} (h : k = 9 ∨ k = 15 ∨ k = 16 ∨ k = 17) : FrM T (st_i T k j v) := ⟨fun j _ => by rw [st_n (by omega)], fun a _ b c d e => st_n (by omega), rfl⟩
theorem Rel.fr {S T S' T' : St} (h : Rel S T) (hx : FrX S S') (hm : FrM T T') : Rel S' T' := by
  obtain ⟨n, h8, h1, h2, h3, h4, h5, h6, h7, h9, h10⟩ := h
  refine ⟨n, h8, ?_, ?_, ?_, ?_, ?_, ?_, ?_, ?_, ?_⟩
  · rw [hx.1 6 (by omega)]; exact h1
  · rw [hm.2.1 2 (by omega) (by omega) (by omega) (by omega) (by omega)]; exact h2
  · rw [hx.1 7 (by omega), hm.2.1 4 (by omega) (by omega) (by omega) (by omega) (by omega), hm.2.1 5 (by omega) (by omega) (by omega) (by omega) (by omega), hm.2.1 6 (by omega) (by omega) (by omega) (by omega) (by omega), hm.2.1 7 (by omega) (by omega) (by omega) (by omega) (by omega)]; exact h3
  · rw [hx.1 8 (by omega), hx.1 9 (by omega), hx.1 10 (by omega), hm.2.1 8 (by omega) (by omega) (by omega) (by omega) (by omega)]; exact h4
  · rw [hx.1 1 (by omega), hx.1 2 (by omega), hm.1 3 (by omega), hm.2.1 1 (by omega) (by omega) (by omega) (by omega) (by omega)]; exact h5
  · rw [hx.1 11 (by omega), hm.1 21 (by omega), hm.2.1 12 (by omega) (by omega) (by omega) (by omega) (by omega)]
    obtain ⟨k, x, q1, q2, q3, q4, q5, q6⟩ := h6
    refine ⟨k, x, q1, q2, q3, q4, q5, fun j hj => ?_⟩
    rw [hx.1 _ (by omega), hx.1 _ (by omega), hx.1 _ (by omega)]
    exact q6 j hj
  · rw [hx.1 50 (by omega), hm.2.1 11 (by omega) (by omega) (by omega) (by omega) (by omega), hm.2.1 10 (by omega) (by omega) (by omega) (by omega) (by omega)]
    intro i hi
    rw [hx.1 _ (by omega), hx.1 _ (by omega), hx.1 _ (by omega)]
    exact h7 i hi
  · rw [hx.1 0 (by omega), hx.1 60 (by omega), hx.1 61 (by omega), hm.1 24 (by omega), hm.2.1 13 (by omega) (by omega) (by omega) (by omega) (by omega), hm.2.1 14 (by omega) (by omega) (by omega) (by omega) (by omega)]; exact h9
  · rw [hx.2, hm.2.2]; exact h10
/-! two answers that are alike -/
def Agr (x m : Option (Int32 × St)) : Prop := ∃ (r : Int32) (S' T' : St), x = some (r, S') ∧ m = some (r, T') ∧ Rel S' T'
def AgrP (x : Option Int32) (S : St) (m : Option (Int32 × St)) : Prop := ∃ (r : Int32) (T' : St), x = some r ∧ m = some (r, T') ∧ Rel S T'
theorem Agr.mk {r : Int32} {S' T' : St} (h : Rel S' T') : Agr (some (r, S')) (some (r, T')) := ⟨r, S', T', rfl, rfl, h⟩
theorem AgrP.mk {r : Int32} {S T' : St} (h : Rel S T') : AgrP (some r) S (some (r, T')) := ⟨r, T', rfl, rfl, h⟩
theorem Agr.mk2 {r r2 : Int32} {S' T' : St} (h : Rel S' T') (e : r = r2) : Agr (some (r, S')) (some (r2, T')) := e ▸ Agr.mk h
theorem AgrP.mk2 {r r2 : Int32} {S T' : St} (h : Rel S T') (e : r = r2) : AgrP (some r) S (some (r2, T')) := e ▸ AgrP.mk h
theorem Rel.thr {S T : St} (h : Rel S T) : Rel S (st_i T 0 0 0) := h.fr (FrX.rf S) (FrM.thr T 0)
theorem a_clear {S T : St} (h : Rel S T) : Agr (m_X8_clear S) (m_X9_clear T) := by
  have h' := h.thr
  obtain ⟨n, h8, h1, h2, h3, h4, ⟨L, q1, q2, q3, q4⟩, h6, h7, h9, h10⟩ := h
  unfold m_X8_clear m_X9_clear
  simp only [lt_e]
  refine Agr.mk2 ?_ ?_
  · obtain ⟨n, h8, h1, h2, h3, h4, h5, h6, h7, h9, h10⟩ := h'
    exact ⟨n, h8, h1, h2, h3, h4, ⟨0, Nat.zero_le _, rfl, rfl, fun j hj => absurd hj (Nat.not_lt_zero j)⟩, h6.cg (fun k a b => st_n (by omega)), h7.cg (fun k a b => st_n (by omega)), h9, h10⟩
  · rw [q2]; exact q3.symm
theorem a_forget {S T : St} (h : Rel S T) : Agr (m_X8_forget S) (m_X9_forget T) := by
  have h' := h.thr
  obtain ⟨n, h8, h1, h2, h3, h4, h5, h6, h7, ⟨L, q1, q2, q3, q4⟩, h10⟩ := h
  unfold m_X8_forget m_X9_forget
  simp only [lt_e]
  refine Agr.mk2 ?_ ?_
  · obtain ⟨n, h8, h1, h2, h3, h4, h5, h6, h7, h9, h10⟩ := h'
    exact ⟨n, h8, h1, h2, h3, h4, h5, h6.cg (fun k a b => st_n (by omega)), h7.cg (fun k a b => st_n (by omega)), ⟨0, Nat.zero_le _, rfl, rfl, fun j hj => absurd hj (Nat.not_lt_zero j)⟩, h10⟩
  · rw [q2]; exact q3.symm
theorem a_trace {S T : St} (h : Rel S T) : ∃ (r : Int64) (T' : St), m_X8_trace S = some r ∧ m_X9_trace T = some (r, T') ∧ Rel S T' := by
  have h' := h.thr
  obtain ⟨n, h8, h1, h2, h3, h4, h5, h6, h7, h9, h10⟩ := h
  refine ⟨S.2 0 12, st_i T 0 0 0, rfl, ?_, h'⟩
  rw [h10]; rfl
theorem a_type {S T : St} (h : Rel S T) (a : Int32) : Agr (m_X8_type S a) (m_X9_type T a) := by
  have h' := h.thr
  unfold m_X8_type m_X9_type
  simp only [lt_e]
  by_cases c1 : a < 0
  · rw [if_pos c1, in_bad (Or.inl c1)]
    exact Agr.mk h'
  rw [if_neg c1]
  by_cases c2 : ¬ a ≤ 255
  · rw [if_neg c2, in_bad (Or.inr (Int32.not_le.mp c2))]
    exact Agr.mk h'
  have c2 := Classical.not_not.mp c2
  rw [if_pos c2, in_ok c1 (Int32.not_lt.mpr c2)]
  obtain ⟨q, hq, rfl⟩ := nI_of2 (M := 255) (n := 255) rfl c1 c2
  obtain ⟨n, h8, h1, h2, h3, h4, ⟨L, q1, q2, q3, q4⟩, h6, h7, h9, h10⟩ := h'
  simp only [Option.bind_some, show ¬ ((1 : Int32) = 0) by decide, not_false_eq_true, if_true]
  by_cases c3 : L = 200
  · subst c3
    rw [q2, if_neg (by decide), if_neg (by rw [q3]; decide)]
    exact Agr.mk ⟨n, h8, h1, h2, h3, h4, ⟨200, q1, q2, q3, q4⟩, h6, h7, h9, h10⟩
  · have hL : L < 200 := by omega
    rw [q2, if_pos (show nI L < (200 : Int32) from nI_lt (b := 200) hL (by omega)), if_pos (show ¬ _ from ?_)]
    · unfold m_X7_append
      rw [q2, q3, put_n hL (by omega), ast_n hL (by omega)]
      simp only [Option.bind_some, lt_e]
      refine Agr.mk2 ?_ ?_
      · refine ⟨n, h8, h1, h2, h3, h4, ⟨L + 1, by omega, ?_, ?_, fun j hj => ?_⟩, h6.cg (fun k a b => (st_n (by omega)).trans (st_n (by omega))), h7.cg (fun k a b => (st_n (by omega)).trans (st_n (by omega))), h9, h10⟩
        · show (st_i S 2 L (nI q)).1 1 0 + 1 = _
          rw [st_n (by omega), q2]; exact nI_1 L
        · show (st_i (st_i T 0 0 0) 1 L (nI q)).1 0 3 + 1 = _
          rw [st_n (by omega), q3]; exact nI_1 L
        · show upd (S.1 2) L (nI q) j = upd (T.1 1) L (nI q) j ∧ _
          by_cases hjL : j = L
          · subst hjL
            exact ⟨by rw [upd_s, upd_s], q, hq, upd_s _ _ _⟩
          · obtain ⟨e1, e2⟩ := q4 j (by omega)
            refine ⟨by rw [upd_n hjL, upd_n hjL]; exact e1, ?_⟩
            obtain ⟨z, z1, z2⟩ := e2
            exact ⟨z, z1, by show upd (S.1 2) L (nI q) j = _; rw [upd_n hjL]; exact z2⟩
      · show (st_i S 2 L (nI q)).1 1 0 + 1 = (st_i (st_i T 0 0 0) 1 L (nI q)).1 0 3 + 1
        rw [st_n (by omega), st_n (by omega), q2, q3]
    · rw [q3]; exact fun e => c3 ((nI_eq (by omega) (by omega)).mp e)
