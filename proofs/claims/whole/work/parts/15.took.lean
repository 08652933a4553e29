/-! took: what was left behind, and which rock took a coin too many -/
def sumH (f : Nat → Int32) : Nat → Nat → Int32
  | _, 0 => 0
  | i, d + 1 => f i + sumH f (i + 1) d
theorem i_sub2 (x y z : Int32) : x - (y + z) = x - y - z := by
  rw [Int32.sub_eq_add_neg x (y + z), Int32.neg_add, Int32.sub_eq_add_neg (-y) z, ← Int32.add_assoc, ← Int32.sub_eq_add_neg, ← Int32.sub_eq_add_neg]
theorem i_add4 (x y z w : Int32) : x + y + (z + w) = x + z + (y + w) := by
  rw [Int32.add_assoc, Int32.add_assoc, ← Int32.add_assoc y z w, Int32.add_comm y z, Int32.add_assoc]
theorem sumH_add (f g : Nat → Int32) : ∀ (d i : Nat), sumH (fun j => f j + g j) i d = sumH f i d + sumH g i d := by
  intro d
  induction d with
  | zero => intro i; rfl
  | succ d ih =>
    intro i
    show f i + g i + sumH (fun j => f j + g j) (i + 1) d = f i + sumH f (i + 1) d + (g i + sumH g (i + 1) d)
    rw [ih, i_add4]
theorem sumH_0 {f : Nat → Int32} : ∀ (d i : Nat), (∀ j : Nat, i ≤ j → j < i + d → f j = 0) → sumH f i d = 0 := by
  intro d
  induction d with
  | zero => intro i _; rfl
  | succ d ih =>
    intro i h
    show f i + sumH f (i + 1) d = 0
    rw [h i (Nat.le_refl _) (by omega), ih (i + 1) (fun j a b => h j (by omega) (by omega))]
    rfl
/-- one where j is the rock, else nothing -/
def exS (a1 : Int32) (j : Nat) : Int32 := if nI j = a1 then 1 else 0
theorem sumH_ex {r : Nat} (hr : r < 8) : ∀ (d i : Nat), i + d ≤ 8 → sumH (exS (nI r)) i d = if i ≤ r ∧ r < i + d then 1 else 0 := by
  intro d
  induction d with
  | zero => intro i _; rw [if_neg (by omega)]; rfl
  | succ d ih =>
    intro i h
    show exS (nI r) i + sumH (exS (nI r)) (i + 1) d = _
    rw [ih (i + 1) (by omega)]
    unfold exS
    by_cases e : i = r
    · subst e
      rw [if_pos rfl, if_neg (by omega), if_pos (by omega)]
      rfl
    · rw [if_neg (fun q => e ((nI_eq (by omega) (by omega)).mp q))]
      by_cases e2 : i + 1 ≤ r ∧ r < i + 1 + d
      · rw [if_pos e2, if_pos (by omega)]; rfl
      · rw [if_neg e2, if_neg (by omega)]; rfl
/-- what the question asks of both states -/
def LRel (S T : St) (n a : Nat) (sp : Nat → Int32) : Prop := n ≤ 8 ∧ a ≤ n ∧ S.1 6 0 = nI n ∧ S.1 8 0 = nI a ∧ S.1 51 7 = nI a ∧ (∀ r : Nat, a ≤ r → r < n → S.1 58 r = sp r ∧ T.1 17 r = sp r) ∧ T.1 2 0 = nI n ∧ T.1 8 0 = nI a ∧ S.1 8 2 = T.1 8 2 ∧ RLeft (S.1 0 11) (S.1 60) (S.1 61) (T.1 0 24) (T.1 13) (T.1 14)
theorem spent_L {S T : St} {n a p : Nat} {sp : Nat → Int32} (h : LRel S T n a sp) (hp : p ≤ n) (k0 : Int32 → Int32 → Option Int32) : ∀ (dd i f : Nat) (v : Int32), i + dd = p → a ≤ i → dd < f → m_X4_spentAhead_L0 (nI p) S k0 f v (nI i) = k0 (v + sumH sp i dd) (nI p) := by
  have h8 := h.1
  intro dd
  induction dd with
  | zero =>
    intro i f v q1 q2 q3
    obtain ⟨f, rfl⟩ : ∃ z, f = z + 1 := ⟨f - 1, by omega⟩
    obtain rfl : i = p := by omega
    rw [m_X4_spentAhead_L0, if_pos (nI_le (Nat.le_refl _) (by omega))]
    show k0 v (nI i) = k0 (v + 0) (nI i)
    rw [Int32.add_zero]
  | succ dd ih =>
    intro i f v q1 q2 q3
    obtain ⟨f, rfl⟩ : ∃ z, f = z + 1 := ⟨f - 1, by omega⟩
    rw [m_X4_spentAhead_L0, if_neg (nI_ge (by omega) (by omega)), if_neg (show ¬ (8 : Int32) ≤ nI i from nI_ge (b := 8) (by omega) (by omega)), get_n (by omega) (by omega), (h.2.2.2.2.2.1 i q2 (by omega)).1]
    simp only [Option.bind_some]
    rw [nI_1, ih (i + 1) f _ (by omega) (by omega) (by omega)]
    show k0 (v + sp i + sumH sp (i + 1) dd) (nI p) = k0 (v + (sp i + sumH sp (i + 1) dd)) (nI p)
    rw [Int32.add_assoc]
theorem asLeft_L1 {S T : St} {n a v e : Nat} {sp : Nat → Int32} {a1 : Int32} (h : LRel S T n a sp) (hv : v ≤ 8) (he : e ≤ n) (he2 : e ≤ a + v) (he3 : e = a + v ∨ e = n) (k0 : Int32 → Int32 → Option Int32) : ∀ (dd i f : Nat) (c : Int32), i + dd = e → a ≤ i → dd < f →
    m_X9_isAsLeft_L1 a1 T (nI v) k0 f c (nI i) = k0 (c - sumH (fun j => sp j + exS a1 j) i dd) (nI e) := by
  have h8 := h.1
  intro dd
  induction dd with
  | zero =>
    intro i f c q1 q2 q3
    obtain ⟨f, rfl⟩ : ∃ z, f = z + 1 := ⟨f - 1, by omega⟩
    obtain rfl : i = e := by omega
    have hk : k0 (c - sumH (fun j => sp j + exS a1 j) i 0) (nI i) = k0 c (nI i) := by
      show k0 (c - 0) (nI i) = k0 c (nI i)
      rw [Int32.sub_zero]
    rw [hk, m_X9_isAsLeft_L1, h.2.2.2.2.2.2.2.1, h.2.2.2.2.2.2.1, nI_add]
    rcases he3 with q | q
    · rw [if_pos (nI_le (by omega) (by omega))]
    · by_cases z : nI (a + v) ≤ nI i
      · rw [if_pos z]
      · rw [if_neg z, if_pos (nI_le (by omega) (by omega))]
  | succ dd ih =>
    intro i f c q1 q2 q3
    obtain ⟨f, rfl⟩ : ∃ z, f = z + 1 := ⟨f - 1, by omega⟩
    rw [m_X9_isAsLeft_L1, h.2.2.2.2.2.2.2.1, h.2.2.2.2.2.2.1, nI_add, if_neg (nI_ge (by omega) (by omega)), if_neg (nI_ge (by omega) (by omega)), ald_n (by omega) (by omega), (h.2.2.2.2.2.1 i q2 (by omega)).2]
    simp only [Option.bind_some]
    have hx : (if ¬ nI i = a1 then some (0 : Int32) else some 1 : Option Int32) = some (exS a1 i) := by
      unfold exS
      by_cases z : nI i = a1
      · rw [if_neg (fun q => q z), if_pos z]
      · rw [if_pos z, if_neg z]
    rw [hx]
    simp only [Option.bind_some]
    rw [nI_1, ih (i + 1) f _ (by omega) (by omega) (by omega)]
    show k0 (c - (sp i + exS a1 i) - sumH (fun j => sp j + exS a1 j) (i + 1) dd) (nI e) = k0 (c - (sp i + exS a1 i + sumH (fun j => sp j + exS a1 j) (i + 1) dd)) (nI e)
    rw [i_sub2 c (sp i + exS a1 i)]
theorem asLeft_no {fu : Nat} {S T : St} {n a q : Nat} {sp : Nat → Int32} {a1 : Int32} (hf : 300 ≤ fu) (h : LRel S T n a sp) (hq6 : q ≤ 6) (hq : T.1 0 24 = nI q) (hb : ∀ j : Nat, j < q → ∃ v : Nat, v ≤ 8 ∧ T.1 13 j = nI v) : ∀ (dd i f : Nat), i + dd = q → dd < f →
    m_X9_isAsLeft_L0 fu a1 T m_X9_isAsLeft_r0 f 0 (nI i) = some 0 := by
  have h8 := h.1
  have ha := h.2.1
  intro dd
  induction dd with
  | zero =>
    intro i f q1 q3
    obtain ⟨f, rfl⟩ : ∃ z, f = z + 1 := ⟨f - 1, by omega⟩
    rw [m_X9_isAsLeft_L0, hq, if_pos (nI_le (by omega) (by omega))]
    rfl
  | succ dd ih =>
    intro i f q1 q3
    obtain ⟨f, rfl⟩ : ∃ z, f = z + 1 := ⟨f - 1, by omega⟩
    obtain ⟨v, hv, ev⟩ := hb i (by omega)
    rw [m_X9_isAsLeft_L0, hq, if_neg (nI_ge (by omega) (by omega)), ald_n (by omega) (by omega), ev]
    simp only [Option.bind_some]
    rw [h.2.2.2.2.2.2.2.1, asLeft_L1 (e := min (a + v) n) h hv (by omega) (by omega) (by omega) _ (min (a + v) n - a) a fu _ (by omega) (Nat.le_refl _) (by omega)]
    unfold m_X9_isAsLeft_r1
    simp only [if_true, Option.bind_some]
    rw [nI_1, ih (i + 1) f (by omega) (by omega)]
theorem asLeft_L {fu : Nat} {S T : St} {n a q : Nat} {sp : Nat → Int32} {a1 a2 : Int32} (hf : 300 ≤ fu) (h : LRel S T n a sp) (hq6 : q ≤ 6) (hq : S.1 0 11 = nI q) (hq2 : T.1 0 24 = nI q) (hb : ∀ j : Nat, j < q → (∃ v : Nat, v ≤ 8 ∧ S.1 60 j = nI v ∧ T.1 13 j = nI v) ∧ S.1 61 j = T.1 14 j)
    (hex : ∀ p : Nat, a ≤ p → p ≤ n → (if nI p ≤ a1 then (0 : Int32) else 1) = sumH (exS a2) a (p - a)) : ∀ (dd i f g : Nat), i + dd = q → dd < f → dd < g →
    ∃ v : Int32, m_X8_allLeftIfTook_L0 fu a1 S m_X8_allLeftIfTook_r0 f (nI i) = some v ∧ m_X9_isAsLeft_L0 fu a2 T m_X9_isAsLeft_r0 g 1 (nI i) = some v := by
  have h8 := h.1
  have ha := h.2.1
  intro dd
  induction dd with
  | zero =>
    intro i f g q1 q3 q4
    obtain ⟨f, rfl⟩ : ∃ z, f = z + 1 := ⟨f - 1, by omega⟩
    obtain ⟨g, rfl⟩ : ∃ z, g = z + 1 := ⟨g - 1, by omega⟩
    refine ⟨1, ?_, ?_⟩
    · rw [m_X8_allLeftIfTook_L0, hq, if_pos (nI_le (by omega) (by omega))]; rfl
    · rw [m_X9_isAsLeft_L0, hq2, if_pos (nI_le (by omega) (by omega))]; rfl
  | succ dd ih =>
    intro i f g q1 q3 q4
    obtain ⟨f, rfl⟩ : ∃ z, f = z + 1 := ⟨f - 1, by omega⟩
    obtain ⟨g, rfl⟩ : ∃ z, g = z + 1 := ⟨g - 1, by omega⟩
    obtain ⟨⟨v, hv, ev, ev2⟩, ec⟩ := hb i (by omega)
    rw [m_X8_allLeftIfTook_L0, hq, if_neg (nI_ge (by omega) (by omega)), if_neg (show ¬ (6 : Int32) ≤ nI i from nI_ge (b := 6) (by omega) (by omega)), get_n (by omega) (by omega), ev]
    rw [m_X9_isAsLeft_L0, hq2, if_neg (nI_ge (by omega) (by omega)), ald_n (n := 6) (f := T.1 13) (by omega) (by omega), ev2]
    simp only [Option.bind_some]
    rw [h.2.2.2.2.2.2.2.1, asLeft_L1 (e := min (a + v) n) h hv (by omega) (by omega) (by omega) _ (min (a + v) n - a) a fu _ (by omega) (Nat.le_refl _) (by omega)]
    unfold m_X9_isAsLeft_r1
    rw [if_neg (show ¬ (1 : Int32) = 0 by decide), h.2.2.2.1, h.2.2.1, h.2.2.2.2.2.2.1, h.2.2.2.2.2.2.2.1, nI_add]
    by_cases e : a + v ≤ n
    · rw [if_pos (nI_le e (by omega)), if_neg (nI_nlt e (by omega)), ald_n (by omega) (by omega), ← ec]
      have hm : min (a + v) n = a + v := by omega
      rw [hm]
      have hs : m_X4_spentAhead fu S (nI (a + v)) = some (sumH sp a (a + v - a)) := by
        unfold m_X4_spentAhead
        rw [h.2.2.2.2.1, spent_L h e _ (a + v - a) a fu 0 (by omega) (Nat.le_refl _) (by omega)]
        show some (0 + sumH sp a (a + v - a)) = some (sumH sp a (a + v - a))
        rw [Int32.zero_add]
      have hx : ∀ z : Int32, (if nI (a + v) ≤ a1 then some (0 : Int32) else some 1 : Option Int32) = some (if nI (a + v) ≤ a1 then (0 : Int32) else 1) := by
        intro z
        by_cases y : nI (a + v) ≤ a1
        · rw [if_pos y, if_pos y]
        · rw [if_neg y, if_neg y]
      rw [hx 0, hex (a + v) (by omega) e, hs]
      simp only [Option.bind_some]
      rw [get_n (by omega) (by omega)]
      simp only [Option.bind_some]
      rw [sumH_add, i_sub2, h.2.2.2.2.2.2.2.2.1]
      by_cases y : T.1 8 2 - sumH sp a (a + v - a) - sumH (exS a2) a (a + v - a) = S.1 61 i
      · rw [if_pos y, if_neg (fun q => q y)]
        simp only [Option.bind_some]
        rw [nI_1]
        exact ih (i + 1) f g (by omega) (by omega) (by omega)
      · rw [if_neg y, if_pos y]
        simp only [Option.bind_some]
        rw [nI_1]
        exact ⟨0, rfl, asLeft_no hf h hq6 hq2 (fun j hj => by obtain ⟨⟨z, z1, -, z2⟩, -⟩ := hb j hj; exact ⟨z, z1, z2⟩) dd (i + 1) g (by omega) (by omega)⟩
    · rw [if_neg (nI_ge (by omega) (by omega)), if_pos (nI_lt (by omega) (by omega))]
      simp only [Option.bind_some]
      rw [nI_1]
      exact ⟨0, rfl, asLeft_no hf h hq6 hq2 (fun j hj => by obtain ⟨⟨z, z1, -, z2⟩, -⟩ := hb j hj; exact ⟨z, z1, z2⟩) dd (i + 1) g (by omega) (by omega)⟩
theorem asLeft_eq {fu : Nat} {S T : St} {n a : Nat} {sp : Nat → Int32} {a1 a2 : Int32} (hf : 300 ≤ fu) (h : LRel S T n a sp)
    (hex : ∀ p : Nat, a ≤ p → p ≤ n → (if nI p ≤ a1 then (0 : Int32) else 1) = sumH (exS a2) a (p - a)) : ∃ v : Int32, m_X8_allLeftIfTook fu S a1 = some v ∧ m_X9_isAsLeft fu T a2 = some v := by
  obtain ⟨q, q1, q2, q3, q4⟩ := h.2.2.2.2.2.2.2.2.2
  exact asLeft_L hf h q1 q2 q3 q4 hex q 0 fu fu (by omega) (by omega) (by omega)
theorem ex_r {n a r : Nat} (h8 : n ≤ 8) (ha : a ≤ r) (hr : r < n) : ∀ p : Nat, a ≤ p → p ≤ n → (if nI p ≤ nI r then (0 : Int32) else 1) = sumH (exS (nI r)) a (p - a) := by
  intro p h1 h2
  rw [sumH_ex (by omega) _ _ (by omega)]
  by_cases e : p ≤ r
  · rw [if_pos (nI_le e (by omega)), if_neg (by omega)]
  · rw [if_neg (nI_ge (by omega) (by omega)), if_pos (by omega)]
theorem n9 : ∀ k : Nat, k < 8 → ¬ nI k = (-9 : Int32) := by decide
theorem ex_9 {n a : Nat} (h8 : n ≤ 8) : ∀ p : Nat, a ≤ p → p ≤ n → (if nI p ≤ (8 : Int32) then (0 : Int32) else 1) = sumH (exS (-9)) a (p - a) := by
  intro p h1 h2
  rw [if_pos (show nI p ≤ (8 : Int32) from nI_le (b := 8) (by omega) (by omega)), sumH_0]
  intro j j1 j2
  unfold exS
  rw [if_neg (n9 j (by omega))]
theorem took_L {fu : Nat} {S T : St} {n a : Nat} {sp : Nat → Int32} (hf : 300 ≤ fu) (h : LRel S T n a sp) (y : Int32) : ∀ (dd i f g : Nat) (x : Int32), i + dd = n → a ≤ i → dd < f → dd < g →
    ∃ z : Int32, m_X8_took_L0 fu S (m_X8_took_r0 fu S) f x (nI i) = m_X8_took_r0 fu S z (nI n) ∧ m_X9_took_L0 fu T (m_X9_took_r0 T) g (y ||| x) (nI i) = some (y ||| z, T) := by
  have h8 := h.1
  intro dd
  induction dd with
  | zero =>
    intro i f g x q1 q2 q3 q4
    obtain ⟨f, rfl⟩ : ∃ z, f = z + 1 := ⟨f - 1, by omega⟩
    obtain ⟨g, rfl⟩ : ∃ z, g = z + 1 := ⟨g - 1, by omega⟩
    obtain rfl : i = n := by omega
    refine ⟨x, ?_, ?_⟩
    · rw [m_X8_took_L0, h.2.2.1, if_pos (nI_le (by omega) (by omega))]
    · rw [m_X9_took_L0, h.2.2.2.2.2.2.1, if_pos (nI_le (by omega) (by omega))]; rfl
  | succ dd ih =>
    intro i f g x q1 q2 q3 q4
    obtain ⟨f, rfl⟩ : ∃ z, f = z + 1 := ⟨f - 1, by omega⟩
    obtain ⟨g, rfl⟩ : ∃ z, g = z + 1 := ⟨g - 1, by omega⟩
    obtain ⟨v, v1, v2⟩ := asLeft_eq hf h (ex_r h8 q2 (show i < n by omega))
    rw [m_X8_took_L0, h.2.2.1, if_neg (nI_ge (by omega) (by omega)), v1, m_X9_took_L0, h.2.2.2.2.2.2.1, if_neg (nI_ge (by omega) (by omega)), v2]
    simp only [Option.bind_some, lt_e]
    by_cases e : v = 0
    · rw [if_pos e, if_pos e]
      simp only [Option.bind_some]
      rw [nI_1, bit_or]
      exact ih (i + 1) f g x (by omega) (by omega) (by omega) (by omega)
    · rw [if_neg e, if_neg e]
      simp only [Option.bind_some]
      rw [nI_1, Int32.or_assoc]
      exact ih (i + 1) f g _ (by omega) (by omega) (by omega) (by omega)
theorem a_took {fu : Nat} {S T : St} (hf : 300 ≤ fu) (h : Rel S T) : Agr (m_X8_took fu S) (m_X9_took fu T) := by
  have h0 := h.thr
  obtain ⟨n, a, b, m, sl, hs⟩ := h0.s
  obtain ⟨S', e1, f1, o1⟩ := xfind hf hs
  obtain ⟨T', e2, f2, o2⟩ := mfind hf hs
  have hR := h0.fr f1 f2
  have hs' := hs.fr f1 f2
  obtain ⟨C, t9, h1, h2, h3, h4, h5, h6, hM, h8, h9⟩ := hs'
  have hl : RLeft (S'.1 0 11) (S'.1 60) (S'.1 61) (T'.1 0 24) (T'.1 13) (T'.1 14) := by
    obtain ⟨-, -, -, -, -, -, -, -, -, hl, -⟩ := hR
    exact hl
  have H : LRel S' T' n a (S'.1 58) := ⟨C.1, C.2.1, h1, h2, o1.2.1, fun r r1 r2 => ⟨rfl, by rw [(o1.2.2 r r1 r2).2.2, (o2 r r1 r2).2]⟩, hM.1, hM.2.1, h9, hl⟩
  have ha := C.2.1
  have hn := C.1
  unfold m_X8_took m_X9_took
  simp only [lt_e]
  rw [e1, e2]
  simp only [Option.bind_some, ob2_s]
  obtain ⟨v, v1, v2⟩ := asLeft_eq hf H (ex_9 C.1)
  rw [v2, h2, hM.2.1]
  simp only [Option.bind_some]
  by_cases e : v = 0
  · rw [if_pos e]
    simp only [Option.bind_some]
    obtain ⟨z, z1, z2⟩ := took_L hf H 0 (n - a) a fu fu 0 (by omega) (Nat.le_refl _) (by omega) (by omega)
    rw [show (0 : Int32) ||| 0 = 0 from rfl] at z2
    rw [z1, z2]
    unfold m_X8_took_r0
    rw [v1]
    simp only [Option.bind_some]
    rw [if_pos e]
    exact Agr.mk2 hR (Int32.zero_or).symm
  · rw [if_neg e]
    simp only [Option.bind_some]
    obtain ⟨z, z1, z2⟩ := took_L hf H 256 (n - a) a fu fu 0 (by omega) (Nat.le_refl _) (by omega) (by omega)
    rw [show (256 : Int32) ||| 0 = 256 from rfl] at z2
    rw [z1, z2]
    unfold m_X8_took_r0
    rw [v1]
    simp only [Option.bind_some]
    rw [if_neg e]
    exact Agr.mk2 hR (Int32.or_comm _ _)
