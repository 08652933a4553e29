/-! most, still, two: searches with another toll, or with another count of barrels -/
def upT (t : Nat → Nat) (r v : Nat) : Nat → Nat := fun j => if j = r then v else t j
theorem upT_s (t : Nat → Nat) (r v : Nat) : upT t r v r = v := if_pos rfl
theorem upT_n {t : Nat → Nat} {r v j : Nat} (h : j ≠ r) : upT t r v j = t j := if_neg h
theorem upT_i (t : Nat → Nat) (r : Nat) : upT t r (t r) = t := by
  funext j
  unfold upT
  by_cases h : j = r
  · rw [if_pos h, h]
  · rw [if_neg h]
theorem Cfg.up {n a b m sl : Nat} {t q c d : Nat → Nat} (h : Cfg n a b m sl t q c d) {r v : Nat} (hv : v ≤ 10) : Cfg n a b m sl (upT t r v) q c d := by
  obtain ⟨h1, h2, h3, h4, h5, h6⟩ := h
  refine ⟨h1, h2, h3, h4, h5, fun j hj => ?_⟩
  obtain ⟨k1, k2⟩ := h6 j hj
  refine ⟨?_, k2⟩
  unfold upT
  by_cases e : j = r
  · rw [if_pos e]; exact hv
  · rw [if_neg e]; exact k1
/-- what is paid at the rock r, if its toll were v -/
def pdAt (n a b m sl : Nat) (t q c d : Nat → Nat) (r v : Nat) : Nat := wPd n (cPr b m (upT t r v) q) (cLa b d) c r (wFr n (cPr b m (upT t r v) q) (cLa b d) c a (cF0 n a sl c) (r - a))
theorem pdAt_0 (n a b m sl : Nat) (t q c d : Nat → Nat) (r : Nat) : pdAt n a b m sl t q c d r 0 = 0 := by
  unfold pdAt wPd wPay cPr prc
  rw [upT_s, Nat.zero_mul]
  simp only [ite_self]
theorem pdAt_lt {n a b m sl : Nat} {t q c d : Nat → Nat} (C : Cfg n a b m sl t q c d) {r v : Nat} (hr : r < n) (hv : v ≤ 10) : pdAt n a b m sl t q c d r v < 2 ^ 31 := by
  have h := (C.up (r := r) hv).pay (wFr n (cPr b m (upT t r v) q) (cLa b d) c a (cF0 n a sl c) (r - a)) r hr
  unfold pdAt wPd
  by_cases e : wIsL n (cPr b m (upT t r v) q) (cLa b d) c r (wFr n (cPr b m (upT t r v) q) (cLa b d) c a (cF0 n a sl c) (r - a)) = true
  · rw [if_pos e]; omega
  · rw [if_neg e]; omega
theorem xPaidIf {fu n a b m sl r v : Nat} {t q c d : Nat → Nat} {S T : St} (hf : 300 ≤ fu) (h : SRel S T n a b m sl t q c d) (ha : a ≤ r) (hr : r < n) (hv : v ≤ 10) : ∃ S' : St, m_X8_paidIfToll fu S (nI r) (nI v) = some (nI (pdAt n a b m sl t q c d r v), S') ∧ FrX S S' := by
  have h8 := h.1.1
  have C := h.1.up (r := r) hv
  obtain ⟨x1, x2, x3, x4, x5, x6⟩ := load_x h
  have X : XCfg (st_i (loadS S) 52 r (nI v)) n a b m sl (upT t r v) q c d := by
    have e : ∀ k : Nat, k ≠ 52 → (st_i (loadS S) 52 r (nI v)).1 k = (loadS S).1 k := fun k hk => st_n hk
    unfold XCfg
    rw [e 6 (by omega), e 51 (by omega), e 7 (by omega)]
    refine ⟨x1, x2, x3, x4, x5, fun j hj => ?_⟩
    obtain ⟨y1, y2⟩ := x6 j hj
    refine ⟨?_, y2⟩
    rw [st_s, upd_e]
    unfold upT
    by_cases e : j = r
    · rw [if_pos e, if_pos e]
    · rw [if_neg e, if_neg e]; exact y1
  obtain ⟨S', e1, e2, e3⟩ := xsolve hf C X ((load_fr S).tr (FrX.st (by omega) (by omega)))
  refine ⟨S', ?_, e2⟩
  unfold m_X8_paidIfToll
  rw [xload S hf]
  simp only [Option.bind_some]
  rw [put_n (by omega) (by omega)]
  simp only [Option.bind_some]
  rw [e1]
  simp only [Option.bind_some]
  rw [get_n (by omega) (by omega), (e3.2.2 r ha hr).2.1]
  rfl
/-- the reference's row 9 is its row 8, but for the toll of r -/
def T9 (T0 T : St) (r : Nat) : Prop := ∀ j : Nat, j < 18 → j ≠ 6 + r → T.1 9 j = T0.1 8 j
theorem mCfg9 {n a b m sl r v : Nat} {t q c d : Nat → Nat} {S T0 T : St} (h : SRel S T0 n a b m sl t q c d) (hr : r < n) (hF : FrM T0 T) (h9 : T9 T0 T r) (hv : T.1 9 (6 + r) = nI v) : MCfg T 9 n a m sl (upT t r v) q c d := by
  have hk := h.fr (FrX.rf S) hF
  obtain ⟨⟨h8, -⟩, -, -, -, -, -, -, -, ⟨k1, -, -, -, k5⟩, -, -⟩ := hk
  obtain ⟨-, -, -, -, -, -, -, -, ⟨-, l2, l3, l4, l5⟩, -, -⟩ := h
  refine ⟨k1, ?_, ?_, ?_, fun j hj => ?_⟩
  · rw [h9 0 (by omega) (by omega)]; exact l2
  · rw [h9 3 (by omega) (by omega)]; exact l3
  · rw [h9 5 (by omega) (by omega)]; exact l4
  · obtain ⟨-, z2⟩ := k5 j hj
    obtain ⟨z1, -⟩ := l5 j hj
    refine ⟨?_, z2⟩
    unfold upT
    by_cases e : j = r
    · rw [if_pos e, e]; exact hv
    · rw [if_neg e, h9 (6 + j) (by omega) (by omega)]; exact z1
theorem mPaidIf {fu n a b m sl r v : Nat} {t q c d : Nat → Nat} {S T0 T : St} (hf : 300 ≤ fu) (h : SRel S T0 n a b m sl t q c d) (ha : a ≤ r) (hr : r < n) (hv : v ≤ 10) (hF : FrM T0 T) (h9 : T9 T0 T r) (hT : T.1 9 (6 + r) = nI v) :
    ∃ (w : Int32) (T' : St), m_X9_finds fu T 9 (T.1 8 1) = some (w, T') ∧ FrM T0 T' ∧ T9 T0 T' r ∧ T'.1 9 (6 + r) = nI v ∧ m_X9_paidAt T' (nI r) = some (nI (pdAt n a b m sl t q c d r v)) := by
  have hk := h.fr (FrX.rf S) hF
  have C := h.1.up (r := r) hv
  obtain ⟨T', e1, e2, e3⟩ := finds_spec hf C (by omega) (mCfg9 h hr hF h9 hT)
  refine ⟨nI (lw n (cPr b m (upT t r v) q) (cLa b d) c (n - a) (cF0 n a sl c)), T', ?_, hF.tr e2.frm, ?_, ?_, mPaidAt C e3 ha hr⟩
  · rw [hk.2.2.2.2.2.2.2.2.2.1]; exact e1
  · intro j j1 j2
    rw [e2.1 9 (by omega) (by omega) (by omega)]; exact h9 j j1 j2
  · rw [e2.1 9 (by omega) (by omega) (by omega)]; exact hT
theorem T9_0 {T0 T : St} (hF : FrM T0 T) (r : Nat) : T9 T0 (cpo T 8 0 9 0 18) r := by
  intro j hj _
  rw [cpo_w, if_pos (by omega), hF.2.1 8 (by omega) (by omega) (by omega) (by omega) (by omega), Nat.zero_add, Nat.sub_zero]
theorem FrM.cpo9 {T0 T : St} (hF : FrM T0 T) : FrM T0 (cpo T 8 0 9 0 18) := by
  refine hF.tr ⟨fun j _ => by rw [cpo_o (by omega)], fun k _ h9 _ _ _ => cpo_o h9, rfl⟩
theorem FrM.st9 {T0 T : St} {j : Nat} {v : Int32} (hF : FrM T0 T) : FrM T0 (st_i T 9 j v) := hF.tr (FrM.st (by omega))
theorem T9.st {T0 T : St} {r : Nat} {v : Int32} (h : T9 T0 T r) : T9 T0 (st_i T 9 (6 + r) v) r := by
  intro j h1 h2
  rw [st_s, upd_n h2]; exact h j h1 h2
theorem le0_pd {p : Nat} (h : p < 2 ^ 31) : nI p ≤ 0 ↔ p = 0 := nI_le0 h
theorem most_L {fu n a b m sl r : Nat} {t q c d : Nat → Nat} {S T : St} (hf : 300 ≤ fu) (h : SRel S T n a b m sl t q c d) (ha : a ≤ r) (hr : r < n) (a2 : Int32) : ∀ (dd i f g : Nat) (x y : Int32) (S' T' : St), i + dd = 10 → 1 ≤ i → dd < f → dd < g → FrX S S' → FrM T T' → T9 T T' r →
    ∃ (z : Int32) (S2 T2 : St), m_X8_most_L0 fu (nI r) (m_X8_most_r0 a2) f x y (nI i) S' = some (z, S2) ∧ m_X9_most_L0 fu (nI r) (m_X9_most_r0 a2) g x y (nI i) T' = some (z, T2) ∧ FrX S S2 ∧ FrM T T2 := by
  have h8 := h.1.1
  intro dd
  induction dd with
  | zero =>
    intro i f g x y S' T' q1 q2 q3 q4 hx hm h9
    obtain ⟨f, rfl⟩ : ∃ z, f = z + 1 := ⟨f - 1, by omega⟩
    obtain ⟨g, rfl⟩ : ∃ z, g = z + 1 := ⟨g - 1, by omega⟩
    obtain rfl : i = 10 := by omega
    rw [m_X8_most_L0, m_X9_most_L0, if_pos (show (9 : Int32) < nI 10 by decide), if_pos (show (10 : Int32) ≤ nI 10 by decide)]
    unfold m_X8_most_r0 m_X9_most_r0
    by_cases e : ¬ a2 = 0
    · rw [if_pos e, if_pos e]; exact ⟨_, S', T', rfl, rfl, hx, hm⟩
    · rw [if_neg e, if_neg e]; exact ⟨_, S', T', rfl, rfl, hx, hm⟩
  | succ dd ih =>
    intro i f g x y S' T' q1 q2 q3 q4 hx hm h9
    obtain ⟨f, rfl⟩ : ∃ z, f = z + 1 := ⟨f - 1, by omega⟩
    obtain ⟨g, rfl⟩ : ∃ z, g = z + 1 := ⟨g - 1, by omega⟩
    rw [m_X8_most_L0, m_X9_most_L0, if_neg (show ¬ (9 : Int32) < nI i from nI_nlt (a := 9) (by omega) (by omega)), if_neg (show ¬ (10 : Int32) ≤ nI i from nI_ge (b := 10) (by omega) (by omega))]
    obtain ⟨S2, u1, u2⟩ := xPaidIf (v := i) hf (h.fr hx (FrM.rf T)) ha hr (by omega)
    rw [u1, show (6 : Int32) + nI r = nI (6 + r) from nI_add 6 r, ast_n (by omega) (by omega)]
    obtain ⟨w, T2, v1, v2, v3, v4, v5⟩ := mPaidIf (v := i) (T := st_i T' 9 (6 + r) (nI i)) hf h ha hr (by omega) hm.st9 h9.st (by rw [st_s, upd_s])
    simp only [Option.bind_some, ob2_s]
    rw [v1]
    simp only [ob2_s]
    rw [v5]
    simp only [Option.bind_some]
    by_cases e : nI (pdAt n a b m sl t q c d r i) ≤ y
    · rw [if_pos e, if_pos e, if_pos e]
      simp only [Option.bind_some, ob2_s]
      rw [nI_1]
      exact ih (i + 1) f g x y S2 T2 (by omega) (by omega) (by omega) (by omega) (hx.tr u2) v2 v3
    · rw [if_neg e, if_neg e, if_neg e]
      simp only [Option.bind_some, ob2_s]
      rw [nI_1]
      exact ih (i + 1) f g _ _ S2 T2 (by omega) (by omega) (by omega) (by omega) (hx.tr u2) v2 v3
theorem a_most {fu : Nat} {S T : St} (hf : 300 ≤ fu) (h : Rel S T) (x a2 : Int32) : Agr (m_X8_most fu S x a2) (m_X9_most fu T x a2) := by
  have h0 := h.thr
  obtain ⟨n, a, b, m, sl, hs⟩ := h0.s
  have hs' := hs
  obtain ⟨C, t9, h1, h2, h3, h4, h5, h6, hM, h8, h9⟩ := hs'
  have hn8 := C.1
  have ha := C.2.1
  unfold m_X8_most m_X9_most
  simp only [lt_e]
  rcases ix3 x (n := n) (by omega) with c2 | ⟨r, hr, rfl⟩
  · rw [xRock_bad h1 c2, mRock_bad hM.1 hn8 c2]
    simp only [Option.bind_some, if_true]
    exact Agr.mk h0
  rw [xRock_ok h1 hn8 hr, mRock_ok hM.1 hn8 hr]
  simp only [Option.bind_some]
  rw [if_neg (show ¬ (1 : Int32) = 0 by decide), if_neg (show ¬ (1 : Int32) = 0 by decide)]
  rcases rng a2 1 (by omega) with ⟨e, c⟩ | ⟨j, hj, rfl, e, c1, c2, c3⟩
  · rw [show m_X9_in a2 0 1 = some 0 from e]
    simp only [Option.bind_some, not_true_eq_false, if_false]
    rcases c with c | ⟨c1, c2, c3⟩
    · rw [if_pos c]; exact Agr.mk h0
    · rw [if_neg c1, if_neg (show ¬ a2 ≤ 1 from c2)]; exact Agr.mk h0
  rw [show m_X9_in (nI j) 0 1 = some 1 from e, if_neg c1, if_pos (show nI j ≤ 1 from c2)]
  simp only [Option.bind_some]
  rw [if_pos (show ¬ (1 : Int32) = 0 by decide), h2, hM.2.1]
  by_cases c : a ≤ r
  · rw [if_neg (nI_nlt c (by omega)), if_neg (nI_nlt c (by omega)), xBroken h5 C.2.2.2.1 (by omega), hM.2.2.2.1, bit_1 C.2.2.2.1 (by omega)]
    simp only [Option.bind_some]
    cases brk m r with
    | true =>
      rw [if_neg (show ¬ (if true = true then (1 : Int32) else 0) = 0 by decide), if_neg (show ¬ ¬ (if true = true then (1 : Int32) else 0) = 1 by decide)]
      exact Agr.mk h0
    | false =>
      rw [if_pos (show (if false = true then (1 : Int32) else 0) = 0 by decide), if_pos (show ¬ (if false = true then (1 : Int32) else 0) = 1 by decide), masNow _ (by omega)]
      simp only [Option.bind_some]
      obtain ⟨f, rfl⟩ : ∃ z, fu = z + 1 := ⟨fu - 1, by omega⟩
      rw [show ∀ k0 : Int32 → Int32 → Int32 → St → Option (Int32 × St), m_X8_most_L0 (f + 1) (nI r) k0 (f + 1) 0 0 0 S = (if (9 : Int32) < 0 then k0 0 0 0 S else ob2 (m_X8_paidIfToll (f + 1) S (nI r) (nI 0)) fun x21 S22 => ob2 (if x21 ≤ (0 : Int32) then (some ((0 : Int32), (0 : Int32))) else (some ((0 : Int32), x21)) : Option (Int32 × Int32)) fun x24 x25 => m_X8_most_L0 (f + 1) (nI r) k0 f x24 x25 (nI 1) S22) from fun _ => rfl]
      rw [m_X9_most_L0, if_neg (by decide), if_neg (by decide), show (6 : Int32) + nI r = nI (6 + r) from nI_add 6 r, ast_n (by omega) (by omega)]
      obtain ⟨S2, u1, u2⟩ := xPaidIf (v := 0) hf hs c hr (by omega)
      obtain ⟨w, T2, v1, v2, v3, v4, v5⟩ := mPaidIf (v := 0) (T := st_i (cpo (st_i T 0 0 0) 8 0 9 0 18) 9 (6 + r) 0) hf hs c hr (by omega) (FrM.rf _).cpo9.st9 (T9_0 (FrM.rf _) r).st (by rw [st_s, upd_s]; rfl)
      rw [u1]
      simp only [Option.bind_some, ob2_s]
      rw [v1]
      simp only [ob2_s]
      rw [v5, pdAt_0]
      simp only [Option.bind_some]
      rw [if_neg (show ¬ nI 0 ≤ (-1 : Int32) by decide), if_neg (show ¬ nI 0 ≤ (-1 : Int32) by decide), if_pos (show nI 0 ≤ 0 by decide)]
      simp only [Option.bind_some, ob2_s]
      obtain ⟨z, S3, T3, w1, w2, w3, w4⟩ := most_L hf hs c hr (nI j) 9 1 f f 0 0 S2 T2 (by omega) (by omega) (by omega) (by omega) u2 v2 v3
      rw [w1, show (0 : Int32) + 1 = nI 1 from rfl, show nI 0 = (0 : Int32) from rfl, w2]
      exact Agr.mk (h0.fr w3 w4)
  · rw [if_pos (nI_lt (by omega) (by omega)), if_pos (nI_lt (by omega) (by omega))]; exact Agr.mk h0
theorem bit_or (x : Int32) : x ||| 0 = x := Int32.or_zero
theorem still_L {fu n a b m sl : Nat} {t q c d : Nat → Nat} {S T : St} (hf : 300 ≤ fu) (h : SRel S T n a b m sl t q c d) : ∀ (dd i f g : Nat) (x : Int32) (S' T' : St), i + dd = n → a ≤ i → dd < f → dd < g → FrX S S' → FrM T T' →
    ∃ (z : Int32) (S2 T2 : St), m_X8_still_L0 fu m_X8_still_r0 f x (nI i) S' = some (z, S2) ∧ m_X9_still_L0 fu m_X9_still_r0 g x (nI i) T' = some (z, T2) ∧ FrX S S2 ∧ FrM T T2 := by
  have h8 := h.1.1
  intro dd
  induction dd with
  | zero =>
    intro i f g x S' T' q1 q2 q3 q4 hx hm
    obtain ⟨f, rfl⟩ : ∃ z, f = z + 1 := ⟨f - 1, by omega⟩
    obtain ⟨g, rfl⟩ : ∃ z, g = z + 1 := ⟨g - 1, by omega⟩
    obtain rfl : i = n := by omega
    have hk := h.fr hx hm
    rw [m_X8_still_L0, m_X9_still_L0, hk.2.2.1, hk.2.2.2.2.2.2.2.2.1.1, if_pos (nI_le (Nat.le_refl _) (by omega)), if_pos (nI_le (Nat.le_refl _) (by omega))]
    exact ⟨_, S', T', rfl, rfl, hx, hm⟩
  | succ dd ih =>
    intro i f g x S' T' q1 q2 q3 q4 hx hm
    obtain ⟨f, rfl⟩ : ∃ z, f = z + 1 := ⟨f - 1, by omega⟩
    obtain ⟨g, rfl⟩ : ∃ z, g = z + 1 := ⟨g - 1, by omega⟩
    have hi : i < n := by omega
    have hk := h.fr hx hm
    have ht := hk.2.1 i hi
    rw [m_X8_still_L0, m_X9_still_L0, hk.2.2.1, hk.2.2.2.2.2.2.2.2.1.1, if_neg (nI_ge hi (by omega)), if_neg (nI_ge hi (by omega)), xTollOf (by omega), (hk.2.2.2.2.2.2.2.1 i hi).1, masNow _ (by omega)]
    simp only [Option.bind_some]
    obtain ⟨S2, u1, u2⟩ := xPaidIf (v := t i) hf hk q2 hi (by omega)
    have h9 := T9_0 hm i
    have e9 : (cpo T' 8 0 9 0 18).1 9 (6 + i) = nI (t i) := by
      rw [cpo_w, if_pos (by omega), Nat.zero_add, Nat.sub_zero]
      exact (hk.2.2.2.2.2.2.2.2.1.2.2.2.2 i hi).1
    obtain ⟨w, T2, v1, v2, v3, v4, v5⟩ := mPaidIf (v := t i) hf h q2 hi (by omega) hm.cpo9 h9 e9
    rw [u1, v1]
    simp only [ob2_s]
    rw [v5]
    simp only [Option.bind_some]
    have hl := pdAt_lt h.1 (v := t i) hi (by omega)
    have hl2 := pdAt_lt h.1 (v := t i + 1) hi (by omega)
    rw [show (6 : Int32) + nI i = nI (6 + i) from nI_add 6 i, ald_n (by omega) (by omega), v4]
    simp only [Option.bind_some]
    rw [nI_1, ast_n (by omega) (by omega)]
    obtain ⟨w2, T3, y1, y2, y3, y4, y5⟩ := mPaidIf (v := t i + 1) (T := st_i T2 9 (6 + i) (nI (t i + 1))) hf h q2 hi (by omega) v2.st9 v3.st (by rw [st_s, upd_s])
    by_cases e : nI (pdAt n a b m sl t q c d i (t i)) ≤ 0
    · rw [if_pos e, if_pos e]
      simp only [Option.bind_some, ob2_s]
      rw [y1]
      simp only [Option.bind_some, ob2_s, if_true]
      rw [bit_or, nI_1]
      exact ih (i + 1) f g x S2 T3 (by omega) (by omega) (by omega) (by omega) (hx.tr u2) y2
    · rw [if_neg e, if_neg e, nI_1]
      simp only [Option.bind_some, ob2_s]
      rw [y1]
      simp only [ob2_s]
      obtain ⟨S3, z1, z2⟩ := xPaidIf (v := t i + 1) hf (h.fr (hx.tr u2) hm) q2 hi (by omega)
      rw [if_neg (show ¬ (1 : Int32) = 0 by decide), z1, y5]
      simp only [Option.bind_some, ob2_s]
      by_cases e2 : nI (pdAt n a b m sl t q c d i (t i + 1)) ≤ 0
      · rw [if_pos e2, if_pos e2]
        simp only [Option.bind_some, ob2_s]
        rw [bit_or]
        exact ih (i + 1) f g x S3 T3 (by omega) (by omega) (by omega) (by omega) ((hx.tr u2).tr z2) y2
      · rw [if_neg e2, if_neg e2]
        simp only [Option.bind_some, ob2_s, lt_e]
        exact ih (i + 1) f g _ S3 T3 (by omega) (by omega) (by omega) (by omega) ((hx.tr u2).tr z2) y2
theorem a_still {fu : Nat} {S T : St} (hf : 300 ≤ fu) (h : Rel S T) : Agr (m_X8_still fu S) (m_X9_still fu T) := by
  have h0 := h.thr
  obtain ⟨n, a, b, m, sl, hs⟩ := h0.s
  unfold m_X8_still m_X9_still
  simp only [lt_e]
  have h8 := hs.1.1
  have ha := hs.1.2.1
  rw [hs.2.2.2.1, hs.2.2.2.2.2.2.2.2.1.2.1]
  obtain ⟨z, S3, T3, w1, w2, w3, w4⟩ := still_L hf hs (n - a) a fu fu 0 S (st_i T 0 0 0) (by omega) (Nat.le_refl _) (by omega) (by omega) (FrX.rf _) (FrM.rf _)
  rw [w1, w2]
  exact Agr.mk (h0.fr w3 w4)
theorem SRel.wb {S T : St} {n a b m sl : Nat} {t q c d : Nat → Nat} (h : SRel S T n a b m sl t q c d) {x : Nat} (hx : x ≤ 30) : Cfg n a x m sl t q c d := ⟨h.1.1, h.1.2.1, hx, h.1.2.2.2⟩
theorem xCost {fu n a b m sl x : Nat} {t q c d : Nat → Nat} {S T : St} (hf : 300 ≤ fu) (h : SRel S T n a b m sl t q c d) (hx : x ≤ 30) : ∃ S' : St, m_X8_costOf fu S (nI x) = some (nI (lw n (cPr x m t q) (cLa x d) c (n - a) (cF0 n a sl c)), S') ∧ FrX S S' := by
  obtain ⟨x1, x2, x3, x4, x5, x6⟩ := load_x h
  have X : XCfg (st_i (loadS S) 51 0 (nI x)) n a x m sl t q c d := by
    have e : ∀ k : Nat, k ≠ 51 → (st_i (loadS S) 51 0 (nI x)).1 k = (loadS S).1 k := fun k hk => st_n hk
    unfold XCfg
    rw [e 6 (by omega), e 52 (by omega), e 7 (by omega)]
    refine ⟨x1, ?_, ?_, ?_, ?_, x6⟩
    · rw [st_s, upd_n (by omega)]; exact x2
    · rw [st_s, upd_s]
    · rw [st_s, upd_n (by omega)]; exact x4
    · rw [st_s, upd_n (by omega)]; exact x5
  obtain ⟨S', e1, e2, e3⟩ := xsolve hf (h.wb hx) X ((load_fr S).tr (FrX.st (by omega) (by omega)))
  refine ⟨S', ?_, e2⟩
  unfold m_X8_costOf
  rw [xload S hf]
  simp only [Option.bind_some, lt_e]
  rw [e1]
  simp only [Option.bind_some]
  rw [e3.1]
theorem mCost {fu n a b m sl x : Nat} {t q c d : Nat → Nat} {S T : St} (hf : 300 ≤ fu) (h : SRel S T n a b m sl t q c d) (hx : x ≤ 30) : ∃ T' : St, m_X9_finds fu T 8 (nI x) = some (nI (lw n (cPr x m t q) (cLa x d) c (n - a) (cF0 n a sl c)), T') ∧ FrM T T' := by
  obtain ⟨T', e1, e2, e3⟩ := finds_spec hf (h.wb hx) (by omega) h.2.2.2.2.2.2.2.2.1
  exact ⟨T', e1, e2.frm⟩
theorem two_L {fu n a b m sl : Nat} {t q c d : Nat → Nat} {S T : St} (hf : 300 ≤ fu) (h : SRel S T n a b m sl t q c d) (a1 : Int32) : ∀ (dd i f g k : Nat) (y : Int32) (S' T' : St), i + dd = b / 2 + 1 → 2 ≤ i → dd < f → dd < g → k < 31 → FrX S S' → FrM T T' →
    ∃ (z : Int32) (S2 T2 : St), m_X8_two_L0 fu (m_X8_two_r0 a1) f (nI k) y (nI i) S' = some (z, S2) ∧ m_X9_two_L0 fu (m_X9_two_r0 a1) g (nI k) y (nI i) T' = some (z, T2) ∧ FrX S S2 ∧ FrM T T2 := by
  have hb := h.1.2.2.1
  intro dd
  induction dd with
  | zero =>
    intro i f g k y S' T' q1 q2 q3 q4 q5 hx hm
    obtain ⟨f, rfl⟩ : ∃ z, f = z + 1 := ⟨f - 1, by omega⟩
    obtain ⟨g, rfl⟩ : ∃ z, g = z + 1 := ⟨g - 1, by omega⟩
    have hk := h.fr hx hm
    have e2 : nI b / (2 : Int32) = nI (b / 2) := pk_div (a := b) (d := 2) (by omega) (by omega) (by omega)
    rw [m_X8_two_L0, m_X9_two_L0, hk.2.2.2.2.1, hk.2.2.2.2.2.2.2.2.2.1, e2, if_pos (nI_lt (by omega) (by omega)), if_pos (nI_lt (by omega) (by omega))]
    unfold m_X8_two_r0 m_X9_two_r0
    by_cases e : ¬ a1 = 0
    · rw [if_pos e, if_pos e]; exact ⟨_, S', T', rfl, rfl, hx, hm⟩
    · rw [if_neg e, if_neg e]; exact ⟨_, S', T', rfl, rfl, hx, hm⟩
  | succ dd ih =>
    intro i f g k y S' T' q1 q2 q3 q4 q5 hx hm
    obtain ⟨f, rfl⟩ : ∃ z, f = z + 1 := ⟨f - 1, by omega⟩
    obtain ⟨g, rfl⟩ : ∃ z, g = z + 1 := ⟨g - 1, by omega⟩
    have hk := h.fr hx hm
    have e2 : nI b / (2 : Int32) = nI (b / 2) := pk_div (a := b) (d := 2) (by omega) (by omega) (by omega)
    rw [m_X8_two_L0, m_X9_two_L0, hk.2.2.2.2.1, hk.2.2.2.2.2.2.2.2.2.1, e2, if_neg (nI_nlt (by omega) (by omega)), if_neg (nI_nlt (by omega) (by omega))]
    obtain ⟨S2, u1, u2⟩ := xCost (x := i) hf hk (by omega)
    obtain ⟨T2, v1, v2⟩ := mCost (x := i) hf hk (by omega)
    rw [u1, v1]
    simp only [ob2_s]
    have hk2 := hk.fr u2 v2
    rw [hk2.2.2.2.2.1, hk2.2.2.2.2.2.2.2.2.2.1, pk_sub (show i ≤ b by omega)]
    obtain ⟨S3, u3, u4⟩ := xCost (x := b - i) hf hk2 (by omega)
    obtain ⟨T3, v3, v4⟩ := mCost (x := b - i) hf hk2 (by omega)
    rw [u3, v3]
    simp only [ob2_s]
    have e9 : ∀ k : Nat, k < 31 → ¬ nI k = (-9 : Int32) := by decide
    rw [if_neg (e9 k q5), nI_1]
    by_cases e : y ≤ nI (lw n (cPr i m t q) (cLa i d) c (n - a) (cF0 n a sl c)) + nI (lw n (cPr (b - i) m t q) (cLa (b - i) d) c (n - a) (cF0 n a sl c))
    · rw [if_pos e]
      simp only [ob2_s]
      exact ih (i + 1) f g k y S3 T3 (by omega) (by omega) (by omega) (by omega) q5 ((hx.tr u2).tr u4) ((hm.tr v2).tr v4)
    · rw [if_neg e]
      simp only [ob2_s]
      exact ih (i + 1) f g i _ S3 T3 (by omega) (by omega) (by omega) (by omega) (by omega) ((hx.tr u2).tr u4) ((hm.tr v2).tr v4)
theorem a_two {fu : Nat} {S T : St} (hf : 300 ≤ fu) (h : Rel S T) (a1 : Int32) : Agr (m_X8_two fu S a1) (m_X9_two fu T a1) := by
  have h0 := h.thr
  obtain ⟨n, a, b, m, sl, hs⟩ := h0.s
  have hb := hs.1.2.2.1
  unfold m_X8_two m_X9_two
  simp only [lt_e]
  rcases rng a1 1 (by omega) with ⟨e, c⟩ | ⟨j, hj, rfl, e, c1, c2, c3⟩
  · rw [show m_X9_in a1 0 1 = some 0 from e]
    simp only [Option.bind_some, not_true_eq_false, if_false]
    rcases c with c | ⟨c1, c2, c3⟩
    · rw [if_pos c]; exact Agr.mk h0
    · rw [if_neg c1, if_neg (show ¬ a1 ≤ 1 from c2)]; exact Agr.mk h0
  rw [show m_X9_in (nI j) 0 1 = some 1 from e, if_neg c1, if_pos (show nI j ≤ 1 from c2), hs.2.2.2.2.1]
  simp only [Option.bind_some]
  rw [if_pos (show ¬ (1 : Int32) = 0 by decide)]
  obtain ⟨f, rfl⟩ : ∃ z, fu = z + 1 := ⟨fu - 1, by omega⟩
  have e2 : nI b / (2 : Int32) = nI (b / 2) := pk_div (a := b) (d := 2) (by omega) (by omega) (by omega)
  rw [m_X9_two_L0, hs.2.2.2.2.2.2.2.2.2.1, e2]
  by_cases c : 2 ≤ b
  · rw [if_pos (show (2 : Int32) ≤ nI b from nI_le (a := 2) c (by omega)), if_neg (show ¬ nI (b / 2) < (1 : Int32) from nI_nlt (b := 1) (by omega) (by omega))]
    obtain ⟨S2, u1, u2⟩ := xCost (x := 1) hf hs (by omega)
    obtain ⟨T2, v1, v2⟩ := mCost (x := 1) hf hs (by omega)
    rw [show (1 : Int32) = nI 1 from rfl, u1, v1]
    simp only [ob2_s]
    have hk2 := hs.fr u2 v2
    rw [hk2.2.2.2.2.1, hk2.2.2.2.2.2.2.2.2.2.1, pk_sub (show 1 ≤ b by omega)]
    obtain ⟨S3, u3, u4⟩ := xCost (x := b - 1) hf hk2 (by omega)
    obtain ⟨T3, v3, v4⟩ := mCost (x := b - 1) hf hk2 (by omega)
    rw [u3, v3]
    simp only [ob2_s, if_true]
    obtain ⟨z, S4, T4, w1, w2, w3, w4⟩ := two_L hf hs (nI j) (b / 2 - 1) 2 (f + 1) f 1 (nI (lw n (cPr 1 m (tF S) (qF S)) (cLa 1 (dF S)) (cF S) (n - a) (cF0 n a sl (cF S))) + nI (lw n (cPr (b - 1) m (tF S) (qF S)) (cLa (b - 1) (dF S)) (cF S) (n - a) (cF0 n a sl (cF S)))) S3 T3 (by omega) (by omega) (by omega) (by omega) (by omega) (u2.tr u4) (v2.tr v4)
    rw [show nI 1 + nI 1 = nI 2 from rfl, show (2 : Int32) = nI 2 from rfl, w1, w2]
    exact Agr.mk (h0.fr w3 w4)
  · rw [if_neg (show ¬ (2 : Int32) ≤ nI b from nI_ge (b := 2) (by omega) (by omega)), if_pos (show nI (b / 2) < (1 : Int32) from nI_lt (b := 1) (by omega) (by omega))]
    unfold m_X9_two_r0
    by_cases e : ¬ nI j = 0
    · rw [if_pos e]; exact Agr.mk h0
    · rw [if_neg e]; exact Agr.mk h0
