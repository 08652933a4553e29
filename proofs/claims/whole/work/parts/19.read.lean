/-! river: one reads token by token, the other is one token ahead: numbers, rocks, items -/
theorem tVL_sg {c : Nat} (h : sgn c = 1 ∨ sgn c = 3) : (sgn c = 3 ∧ c = 59) ∨ (sgn c = 1 ∧ (c = 114 ∨ c = 98 ∨ c = 99)) := by
  unfold sgn at h ⊢
  by_cases e : c = 59
  · rw [if_pos e]; exact Or.inl ⟨rfl, e⟩
  · rw [if_neg e] at h ⊢
    by_cases e2 : c = 114 ∨ c = 98 ∨ c = 99
    · rw [if_pos e2]; exact Or.inr ⟨rfl, e2⟩
    · rw [if_neg e2] at h; omega
theorem sgn_c (c : Nat) : sgn c = 1 ∨ sgn c = 3 ∨ sgn c = 4 := by
  unfold sgn
  by_cases e : c = 59
  · rw [if_pos e]; omega
  · rw [if_neg e]
    by_cases e2 : c = 114 ∨ c = 98 ∨ c = 99
    · rw [if_pos e2]; omega
    · rw [if_neg e2]; omega
theorem kd_c (L : Nat) (tx : Nat → Nat) (p : Nat) : (tKD L tx p = 0 ∧ cKD L tx p = -1) ∨ (tKD L tx p = 2 ∧ cKD L tx p = -3 ∧ tVL L tx p ≤ 900) ∨ (tKD L tx p = 4 ∧ cKD L tx p = -2) ∨ (tKD L tx p = 3 ∧ tVL L tx p = 59 ∧ cKD L tx p = 59) ∨ (tKD L tx p = 1 ∧ (tVL L tx p = 114 ∨ tVL L tx p = 98 ∨ tVL L tx p = 99) ∧ cKD L tx p = nI (tVL L tx p)) := by
  by_cases e : L ≤ tST L tx p
  · have hk : tKD L tx p = 0 := by unfold tKD; rw [if_pos e]
    exact Or.inl ⟨hk, by unfold cKD; rw [if_pos hk]⟩
  by_cases e2 : dig (tx (tST L tx p)) = true
  · by_cases z : 900 < (tDG L tx p).2 ∨ (tx (tST L tx p) = 48 ∧ 1 < (tDG L tx p).1 - tST L tx p)
    · have hk : tKD L tx p = 4 := by unfold tKD; rw [if_neg e, if_pos e2, if_pos z]
      exact Or.inr (Or.inr (Or.inl ⟨hk, by unfold cKD; rw [hk]; rfl⟩))
    · have hk : tKD L tx p = 2 := by unfold tKD; rw [if_neg e, if_pos e2, if_neg z]
      refine Or.inr (Or.inl ⟨hk, by unfold cKD; rw [hk]; rfl, ?_⟩)
      unfold tVL
      rw [if_pos e2]
      by_cases y : 900 < (tDG L tx p).2
      · exact absurd (Or.inl y) z
      · omega
  · have hk : tKD L tx p = sgn (tx (tST L tx p)) := by unfold tKD; rw [if_neg e, if_neg e2]
    have hv : tVL L tx p = tx (tST L tx p) := by unfold tVL; rw [if_neg e2]
    rcases sgn_c (tx (tST L tx p)) with h | h | h
    · have hs := tVL_sg (Or.inl h)
      refine Or.inr (Or.inr (Or.inr (Or.inr ⟨by omega, by rw [hv]; omega, ?_⟩)))
      unfold cKD
      rw [hk, h]
      rfl
    · have hs := tVL_sg (Or.inr h)
      have h59 : tVL L tx p = 59 := by omega
      refine Or.inr (Or.inr (Or.inr (Or.inl ⟨by omega, h59, ?_⟩)))
      unfold cKD
      rw [hk, h, h59]
      rfl
    · refine Or.inr (Or.inr (Or.inl ⟨by omega, ?_⟩))
      unfold cKD
      rw [hk, h]
      rfl
theorem kd_n2 {L : Nat} {tx : Nat → Nat} {p : Nat} (h : tKD L tx p ≠ 2) : ¬ cKD L tx p = -3 := by
  rcases kd_c L tx p with ⟨h1, h2⟩ | ⟨h1, h2, h3⟩ | ⟨h1, h2⟩ | ⟨h1, h2, h3⟩ | ⟨h1, h2, h3⟩
  · rw [h2]; decide
  · exact absurd h1 h
  · rw [h2]; decide
  · rw [h3]; decide
  · rw [h3]
    rcases h2 with h2 | h2 | h2
    · rw [h2]; decide
    · rw [h2]; decide
    · rw [h2]; decide
/-- a number that may stand there -/
def nOk (L : Nat) (tx : Nat → Nat) (p lo hi : Nat) : Prop := tKD L tx p = 2 ∧ lo ≤ tVL L tx p ∧ tVL L tx p ≤ hi
theorem num_x {L : Nat} {tx : Nat → Nat} {S : St} {p fu lo hi : Nat} (hf : 300 ≤ fu) (hL : L ≤ 200) (ht : ∀ j : Nat, j < L → tx j ≤ 255) (hp : p ≤ L) (h : XT S L tx) (h4 : S.1 3 1 = nI p) (hl : lo < 2 ^ 31) (hh : hi < 2 ^ 31) :
    (nOk L tx p lo hi → ∃ S' : St, m_X2_readNumber fu S (nI lo) (nI hi) = some (1, S') ∧ S'.1 3 1 = nI (tNX L tx p) ∧ S'.1 3 4 = nI (tVL L tx p) ∧ GA S S') ∧ (¬ nOk L tx p lo hi → ∃ S' : St, m_X2_readNumber fu S (nI lo) (nI hi) = some (0, S') ∧ S'.1 3 2 = nI (tST L tx p) ∧ GA S S') := by
  obtain ⟨S', e1, e2, e3, e4, e5, e6⟩ := rt_spec hf hL ht hp h h4
  unfold m_X2_readNumber
  rw [e1]
  simp only [Option.bind_some]
  rw [e4]
  by_cases c : tKD L tx p = 2
  · have hv := e5 c
    have hk : cKD L tx p = -3 ∧ tVL L tx p ≤ 900 := by
      rcases kd_c L tx p with ⟨h1, h2⟩ | ⟨h1, h2, h3⟩ | ⟨h1, h2⟩ | ⟨h1, h2, h3⟩ | ⟨h1, h2, h3⟩
      · omega
      · exact ⟨h2, h3⟩
      · omega
      · omega
      · omega
    rw [if_neg (fun q => q hk.1), hv]
    by_cases c1 : tVL L tx p < lo
    · rw [if_pos (nI_lt c1 hl)]
      exact ⟨fun q => absurd q.2.1 (by omega), fun _ => ⟨S', rfl, e3, e6⟩⟩
    · rw [if_neg (nI_nlt (by omega) (by omega))]
      by_cases c2 : hi < tVL L tx p
      · rw [if_pos (nI_lt c2 (by omega))]
        exact ⟨fun q => absurd q.2.2 (by omega), fun _ => ⟨S', rfl, e3, e6⟩⟩
      · rw [if_neg (nI_nlt (by omega) hh)]
        exact ⟨fun _ => ⟨S', rfl, e2, hv, e6⟩, fun q => absurd ⟨c, by omega, by omega⟩ q⟩
  · rw [if_pos (kd_n2 c)]
    exact ⟨fun q => absurd q.1 c, fun _ => ⟨S', rfl, e3, e6⟩⟩
theorem mWell {T : St} (h : T.1 0 8 = -1) : m_X9_isWell T = some 1 := by
  unfold m_X9_isWell
  rw [h, if_neg (by decide)]
theorem mIll {T : St} {f : Nat} (h : T.1 0 8 = nI f) (hf : f < 2 ^ 31) : m_X9_isWell T = some 0 := by
  unfold m_X9_isWell
  rw [h, if_pos (nI_pos' hf)]
theorem tk_ok {L : Nat} {tx : Nat → Nat} {T : St} {p fu : Nat} (hf : 300 ≤ fu) (hL : L ≤ 200) (ht : ∀ j : Nat, j < L → tx j ≤ 255) (hp : p ≤ L) (h : MT T L tx) (hT : TH L tx T p) (h8 : T.1 0 8 = -1) (hk : tKD L tx p ≠ 0) : ∃ T' : St, m_X9_takesToken fu T 1 = some (nI (tVL L tx p), T') ∧ TH L tx T' (tNX L tx p) ∧ FA T T' := by
  obtain ⟨T', e1, e2, e3⟩ := adv_spec hf hL ht (tNX_le hp) h hT.2.2.1
  refine ⟨T', ?_, e2, e3⟩
  unfold m_X9_takesToken
  rw [mWell h8, e1]
  simp only [Option.bind_some]
  rw [if_pos (show ¬ (1 : Int32) = 0 by decide), if_pos (show ¬ (1 : Int32) = 0 by decide), hT.2.2.2 hk]
theorem tk_no {L : Nat} {tx : Nat → Nat} {T : St} {p : Nat} (fu : Nat) (hT : TH L tx T p) (h8 : T.1 0 8 = -1) : m_X9_takesToken fu T 0 = some (0, st_i T 0 8 (nI (tST L tx p))) := by
  unfold m_X9_takesToken
  rw [mWell h8]
  simp only [Option.bind_some]
  rw [if_pos (show ¬ (1 : Int32) = 0 by decide), if_neg (fun q => q trivial), lt_e, hT.1]
theorem tk_ill {T : St} {f : Nat} (fu : Nat) (h : T.1 0 8 = nI f) (hf : f < 2 ^ 31) (a : Int32) : m_X9_takesToken fu T a = some (0, T) := by
  unfold m_X9_takesToken
  rw [mIll h hf]
  simp only [Option.bind_some, not_true_eq_false, if_false]
theorem num_m {L : Nat} {tx : Nat → Nat} {T : St} {p fu lo hi : Nat} (hf : 300 ≤ fu) (hL : L ≤ 200) (ht : ∀ j : Nat, j < L → tx j ≤ 255) (hp : p ≤ L) (h : MT T L tx) (hT : TH L tx T p) (h8 : T.1 0 8 = -1) (hl : lo < 2 ^ 31) (hh : hi < 2 ^ 31) :
    (nOk L tx p lo hi → ∃ T' : St, m_X9_number fu T (nI lo) (nI hi) = some (nI (tVL L tx p), T') ∧ TH L tx T' (tNX L tx p) ∧ FA T T') ∧ (¬ nOk L tx p lo hi → m_X9_number fu T (nI lo) (nI hi) = some (0, st_i T 0 8 (nI (tST L tx p)))) := by
  unfold m_X9_number
  rw [hT.2.1]
  have hk5 : tKD L tx p < 5 := by
    rcases kd_c L tx p with h | h | h | h | h <;> omega
  by_cases c : tKD L tx p = 2
  · have hk : tVL L tx p ≤ 900 := by
      rcases kd_c L tx p with ⟨h1, h2⟩ | ⟨h1, h2, h3⟩ | ⟨h1, h2⟩ | ⟨h1, h2, h3⟩ | ⟨h1, h2, h3⟩ <;> omega
    rw [if_neg (fun q => q (show nI (tKD L tx p) = (2 : Int32) by rw [c]; rfl)), hT.2.2.2 (by omega)]
    by_cases c1 : lo ≤ tVL L tx p ∧ tVL L tx p ≤ hi
    · obtain ⟨T', t1, t2, t3⟩ := tk_ok hf hL ht hp h hT h8 (by omega)
      rw [in_ok (nI_nlt c1.1 (by omega)) (nI_nlt c1.2 hh)]
      simp only [Option.bind_some]
      rw [if_neg (show ¬ (1 : Int32) = 0 by decide)]
      simp only [Option.bind_some]
      rw [t1]
      exact ⟨fun _ => ⟨T', rfl, t2, t3⟩, fun q => absurd ⟨c, c1⟩ q⟩
    · have hb : nI (tVL L tx p) < nI lo ∨ nI hi < nI (tVL L tx p) := by
        by_cases z : tVL L tx p < lo
        · exact Or.inl (nI_lt z hl)
        · exact Or.inr (nI_lt (by omega) (by omega))
      rw [in_bad hb]
      simp only [Option.bind_some, if_true]
      rw [tk_no fu hT h8]
      exact ⟨fun q => absurd q.2 c1, fun _ => rfl⟩
  · rw [if_pos (show ¬ nI (tKD L tx p) = (2 : Int32) from fun q => c ((nI_eq (b := 2) (by omega) (by omega)).mp q))]
    simp only [Option.bind_some]
    rw [tk_no fu hT h8]
    exact ⟨fun q => absurd q.1 c, fun _ => rfl⟩
theorem num_ill {T : St} {f : Nat} (fu : Nat) (h : T.1 0 8 = nI f) (hf : f < 2 ^ 31) (lo hi : Int32) : m_X9_number fu T lo hi = some (0, T) := by
  unfold m_X9_number
  have hx : ∃ v : Int32, (if ¬ (T.1 0 5) = (2 : Int32) then some (0 : Int32) else ((m_X9_in (T.1 0 7) lo hi).bind fun x8 => if x8 = (0 : Int32) then some (0 : Int32) else some (1 : Int32)) : Option Int32) = some v := by
    by_cases e : ¬ (T.1 0 5) = (2 : Int32)
    · rw [if_pos e]; exact ⟨_, rfl⟩
    · rw [if_neg e]
      unfold m_X9_in
      by_cases e1 : T.1 0 7 < lo
      · rw [if_pos e1]; exact ⟨_, rfl⟩
      · rw [if_neg e1]
        by_cases e2 : hi < T.1 0 7
        · rw [if_pos e2]; exact ⟨_, rfl⟩
        · rw [if_neg e2]; exact ⟨_, rfl⟩
  obtain ⟨v, hv⟩ := hx
  rw [hv]
  simp only [Option.bind_some]
  rw [tk_ill fu h hf]
  rfl
/-! frames of a whole reading -/
def FS (S S' : St) : Prop := (∀ k : Nat, k ≠ 3 → k ≠ 4 → k ≠ 5 → S'.1 k = S.1 k) ∧ S'.2 = S.2
def FT (T T' : St) : Prop := (∀ j : Nat, (1 ≤ j ∧ j ≤ 3 ∨ 9 ≤ j ∧ j ≠ 15) → T'.1 0 j = T.1 0 j) ∧ T'.1 2 0 = T.1 2 0 ∧ (∀ k : Nat, 4 ≤ k → k ≤ 7 → ∀ j : Nat, j < 8 → T'.1 k j = T.1 k j) ∧ (∀ k : Nat, (k = 1 ∨ 8 ≤ k) → T'.1 k = T.1 k) ∧ T'.2 = T.2
theorem FS.rf (S : St) : FS S S := ⟨fun _ _ _ _ => rfl, rfl⟩
theorem FS.tr {S S' S'' : St} (h : FS S S') (h2 : FS S' S'') : FS S S'' := ⟨fun k a b c => (h2.1 k a b c).trans (h.1 k a b c), h2.2.trans h.2⟩
theorem FS.ga {S S' : St} (h : GA S S') : FS S S' := ⟨fun k a _ _ => h.2.1 k a, h.2.2⟩
theorem FS.st {S : St} {k j : Nat} {v : Int32} (h : k = 3 ∨ k = 4 ∨ k = 5) : FS S (st_i S k j v) := ⟨fun a _ _ _ => st_n (by omega), rfl⟩
theorem FT.rf (T : St) : FT T T := ⟨fun _ _ => rfl, rfl, fun _ _ _ _ _ => rfl, fun _ _ => rfl, rfl⟩
theorem FT.tr {T T' T'' : St} (h : FT T T') (h2 : FT T' T'') : FT T T'' := ⟨fun j q => (h2.1 j q).trans (h.1 j q), h2.2.1.trans h.2.1, fun k a b j c => (h2.2.2.1 k a b j c).trans (h.2.2.1 k a b j c), fun k q => (h2.2.2.2.1 k q).trans (h.2.2.2.1 k q), h2.2.2.2.2.trans h.2.2.2.2⟩
theorem FT.fa {T T' : St} (h : FA T T') : FT T T' := ⟨fun j q => h.1 j (by omega), by rw [h.2.1 2 (by omega)], fun k a b j c => by rw [h.2.1 k (by omega)], fun k q => h.2.1 k (by omega), h.2.2⟩
theorem FT.st0 {T : St} {j : Nat} {v : Int32} (h : j = 8 ∨ j = 15) : FT T (st_i T 0 j v) := ⟨fun i q => by rw [st_s, upd_n (by omega)], by rw [st_n (by omega)], fun k a b i c => by rw [st_n (by omega)], fun k q => st_n (by omega), rfl⟩
theorem FT.st2 {T : St} {j : Nat} {v : Int32} (h : 1 ≤ j) : FT T (st_i T 2 j v) := ⟨fun i q => by rw [st_n (by omega)], by rw [st_s, upd_n (by omega)], fun k a b i c => by rw [st_n (by omega)], fun k q => st_n (by omega), rfl⟩
theorem FT.stk {T : St} {k j : Nat} {v : Int32} (h : k = 3 ∨ 4 ≤ k ∧ k ≤ 7 ∧ 8 ≤ j) : FT T (st_i T k j v) := by
  refine ⟨fun i q => by rw [st_n (by omega)], by rw [st_n (by omega)], fun a x y i c => ?_, fun a q => st_n (by omega), rfl⟩
  by_cases e : a = k
  · subst e; rw [st_s, upd_n (by omega)]
  · rw [st_n e]
def loN (w : Nat) : Nat := if w = 1 then 1 else 0
def hiN (w : Nat) : Nat := if w = 0 then 9 else if w = 1 then 5 else if w = 2 then 3 else if w = 3 then 10 else 30
def ixN (w r : Nat) : Nat := if w = 0 then r else 8 + r
theorem lf_all : ∀ w : Nat, w < 5 → m_X5_get 5 lfA (nI w) = some (nI (loN w)) ∧ m_X5_get 5 lfB (nI w) = some (nI (hiN w)) ∧ loN w < 31 ∧ hiN w < 31 := by decide +kernel
def RD (m : Nat) (S T : St) : Prop := ∀ r w : Nat, w < 5 → 5 * r + w < m → ∃ q : Nat, loN w ≤ q ∧ q ≤ hiN w ∧ S.1 5 (5 * r + w) = nI q ∧ T.1 (3 + w) (ixN w r) = nI q
/-- what both have of the river that is told -/
def DAT (S0 T0 : St) (R m item : Nat) (bT cT : Bool) (S T : St) : Prop := S.1 4 0 = nI R ∧ T.1 2 1 = nI R ∧ R ≤ 8 ∧ (∃ B : Nat, B ≤ 30 ∧ S.1 4 1 = nI B ∧ T.1 2 2 = nI B) ∧ S.1 4 2 = T.1 2 3 ∧ S.1 4 3 = nI item ∧ S.1 3 5 = b01 bT ∧ S.1 3 6 = b01 cT ∧ T.1 0 15 = nI (n01 bT + 2 * n01 cT) ∧ RD m S T ∧ FS S0 S ∧ FT T0 T
theorem DAT.fr {S0 T0 S T S' T' : St} {R m item : Nat} {bT cT : Bool} (h : DAT S0 T0 R m item bT cT S T) (hg : GA S S') (ha : FA T T') : DAT S0 T0 R m item bT cT S' T' := by
  obtain ⟨h1, h2, h3, h4, h5, h6, h7, h8, h9, h10, h11, h12⟩ := h
  have e4 := hg.2.1 4 (by omega)
  have e5 := hg.2.1 5 (by omega)
  have e2 := ha.2.1 2 (by omega)
  refine ⟨by rw [e4]; exact h1, by rw [e2]; exact h2, h3, by rw [e4, e2]; exact h4, by rw [e4, e2]; exact h5, by rw [e4]; exact h6, by rw [hg.1 5 (by omega)]; exact h7, by rw [hg.1 6 (by omega)]; exact h8, by rw [ha.1 15 (by omega)]; exact h9, fun r w q1 q2 => ?_, h11.tr (FS.ga hg), h12.tr (FT.fa ha)⟩
  rw [e5, ha.2.1 (3 + w) (by omega)]
  exact h10 r w q1 q2
def PT (L : Nat) (tx : Nat → Nat) (p : Nat) (S T : St) : Prop := p ≤ L ∧ S.1 3 1 = nI p ∧ TH L tx T p ∧ T.1 0 8 = -1
def BAD (T0 : St) (f : Nat) (T : St) : Prop := f ≤ 200 ∧ T.1 0 8 = nI f ∧ FT T0 T
theorem FS.xt {S0 S : St} {L : Nat} {tx : Nat → Nat} (h : FS S0 S) (hx : XT S0 L tx) : XT S L tx := ⟨by rw [h.1 1 (by omega) (by omega) (by omega)]; exact hx.1, fun j hj => by rw [h.1 2 (by omega) (by omega) (by omega)]; exact hx.2 j hj⟩
theorem FT.mt {T0 T : St} {L : Nat} {tx : Nat → Nat} (h : FT T0 T) (hx : MT T0 L tx) : MT T L tx := ⟨by rw [h.1 3 (by omega)]; exact hx.1, fun j hj => by rw [h.2.2.2.1 1 (by omega)]; exact hx.2 j hj⟩
/-- one number of the reference's item -/
def rS (fu : Nat) (lo hi : Int32) (sz K : Nat) (ix : Int32) (k : St → Option St) (T : St) : Option St := ob2 (m_X9_number fu T lo hi) fun x S => (ast sz S K ix x).bind k
theorem rS_bad {T0 T : St} {f : Nat} (fu : Nat) {lo hi : Int32} {sz K ix : Nat} (k : St → Option St) (h : BAD T0 f T) (hi2 : ix < sz) (hs : sz ≤ 16) (hK : K = 3 ∨ 4 ≤ K ∧ K ≤ 7 ∧ 8 ≤ ix) : ∃ T' : St, rS fu lo hi sz K (nI ix) k T = k T' ∧ BAD T0 f T' := by
  obtain ⟨h1, h2, h3⟩ := h
  unfold rS
  rw [num_ill fu h2 (by omega)]
  simp only [ob2_s]
  rw [ast_n hi2 (by omega)]
  refine ⟨_, rfl, h1, ?_, h3.tr (FT.stk hK)⟩
  rw [st_n (by omega)]
  exact h2
theorem rS_all {T0 : St} {f : Nat} (fu : Nat) {lo hi : Int32} {sz K ix : Nat} {k : St → Option St} (hk : ∀ T : St, BAD T0 f T → ∃ T' : St, k T = some T' ∧ BAD T0 f T') (hi2 : ix < sz) (hs : sz ≤ 16) (hK : K = 3 ∨ 4 ≤ K ∧ K ≤ 7 ∧ 8 ≤ ix) : ∀ T : St, BAD T0 f T → ∃ T' : St, rS fu lo hi sz K (nI ix) k T = some T' ∧ BAD T0 f T' := by
  intro T h
  obtain ⟨T1, e1, e2⟩ := rS_bad fu (lo := lo) (hi := hi) k h hi2 hs hK
  rw [e1]
  exact hk T1 e2
theorem stage {L : Nat} {tx : Nat → Nat} {S0 T0 S T : St} {R i item p fu sz : Nat} {bT cT : Bool} (hf : 300 ≤ fu) (hL : L ≤ 200) (ht : ∀ j : Nat, j < L → tx j ≤ 255) (hX : XT S0 L tx) (hM : MT T0 L tx) (hi : i < 5) (hR : R < 8) (hz : sz = if i = 0 then 8 else 16) (P : PT L tx p S T) (D : DAT S0 T0 R (5 * R + i) item bT cT S T) :
    (∃ (f : Nat) (S' T' : St), FS S0 S' ∧ S'.1 3 2 = nI f ∧ BAD T0 f T' ∧ (∀ (k0 : Int32 → St → Option (Int32 × St)) (fl : Nat), m_X2_readRock_L0 fu k0 (fl + 1) (nI i) S = some (0, S')) ∧ ∀ k : St → Option St, rS fu (nI (loN i)) (nI (hiN i)) sz (3 + i) (nI (ixN i R)) k T = k T') ∨
    (∃ (p' : Nat) (S' T' : St), PT L tx p' S' T' ∧ DAT S0 T0 R (5 * R + (i + 1)) item bT cT S' T' ∧ (∀ (k0 : Int32 → St → Option (Int32 × St)) (fl : Nat), m_X2_readRock_L0 fu k0 (fl + 1) (nI i) S = m_X2_readRock_L0 fu k0 fl (nI (i + 1)) S') ∧ ∀ k : St → Option St, rS fu (nI (loN i)) (nI (hiN i)) sz (3 + i) (nI (ixN i R)) k T = k T') := by
  obtain ⟨P1, P2, P3, P4⟩ := P
  obtain ⟨l1, l2, l3, l4⟩ := lf_all i hi
  have hx := num_x (lo := loN i) (hi := hiN i) hf hL ht P1 (D.2.2.2.2.2.2.2.2.2.2.1.xt hX) P2 (by omega) (by omega)
  have hm := num_m (lo := loN i) (hi := hiN i) hf hL ht P1 (D.2.2.2.2.2.2.2.2.2.2.2.mt hM) P3 P4 (by omega) (by omega)
  have hix : ixN i R < sz ∧ sz ≤ 16 ∧ (3 + i = 3 ∨ 4 ≤ 3 + i ∧ 3 + i ≤ 7 ∧ 8 ≤ ixN i R) := by
    unfold ixN
    by_cases e : i = 0
    · rw [if_pos e]; rw [if_pos e] at hz; omega
    · rw [if_neg e]; rw [if_neg e] at hz; omega
  by_cases c : nOk L tx p (loN i) (hiN i)
  · obtain ⟨S1, a1, a2, a3, a4⟩ := hx.1 c
    obtain ⟨T1, b1, b2, b3⟩ := hm.1 c
    have D1 := D.fr a4 b3
    obtain ⟨d1, d2, d3, d4, d5, d6, d7, d8, d9, d10, d11, d12⟩ := D1
    refine Or.inr ⟨tNX L tx p, st_i S1 5 (5 * R + i) (nI (tVL L tx p)), st_i T1 (3 + i) (ixN i R) (nI (tVL L tx p)), ⟨tNX_le P1, ?_, ?_, ?_⟩, ⟨?_, ?_, d3, ?_, ?_, ?_, ?_, ?_, ?_, ?_, d11.tr (FS.st (by omega)), d12.tr (FT.stk hix.2.2)⟩, fun k0 fl => ?_, fun k => ?_⟩
    · rw [st_n (by omega)]; exact a2
    · unfold TH
      rw [st_n (by omega)]
      exact b2
    · rw [st_n (by omega), b3.1 8 (by omega)]; exact P4
    · rw [st_n (by omega)]; exact d1
    · rw [st_n (by omega)]; exact d2
    · rw [st_n (by omega), st_n (by omega)]; exact d4
    · rw [st_n (by omega), st_n (by omega)]; exact d5
    · rw [st_n (by omega)]; exact d6
    · rw [st_n (by omega)]; exact d7
    · rw [st_n (by omega)]; exact d8
    · rw [st_n (by omega)]; exact d9
    · intro r w q1 q2
      by_cases e : 5 * r + w = 5 * R + i
      · have e1 : w = i := by omega
        have e2 : r = R := by omega
        subst e1
        subst e2
        refine ⟨tVL L tx p, c.2.1, c.2.2, by rw [st_s, upd_s], by rw [st_s, upd_s]⟩
      · obtain ⟨q, z1, z2, z3, z4⟩ := d10 r w q1 (by omega)
        refine ⟨q, z1, z2, by rw [st_s, upd_n e]; exact z3, ?_⟩
        by_cases e1 : w = i
        · subst e1
          have : ixN w r ≠ ixN w R := by
            unfold ixN
            by_cases e2 : w = 0
            · rw [if_pos e2, if_pos e2]; omega
            · rw [if_neg e2, if_neg e2]; omega
          rw [st_s, upd_n this]
          exact z4
        · rw [st_n (by omega)]
          exact z4
    · rw [m_X2_readRock_L0, if_neg (show ¬ (5 : Int32) ≤ nI i from nI_ge (b := 5) (by omega) (by omega)), l1, l2]
      simp only [Option.bind_some]
      rw [a1]
      simp only [ob2_s]
      rw [if_pos (show ¬ (1 : Int32) = 0 by decide)]
      unfold m_X3_tell
      rw [d1, a3, show (5 : Int32) = nI 5 from rfl, pk_mul, nI_add, put_n (by omega) (by omega)]
      simp only [Option.bind_some]
      rw [nI_1, show R * 5 + i = 5 * R + i by omega]
    · unfold rS
      rw [b1]
      simp only [ob2_s]
      rw [ast_n hix.1 (by omega)]
      rfl
  · obtain ⟨S1, a1, a2, a3⟩ := hx.2 c
    have b1 := hm.2 c
    have hs := tST_le (tx := tx) P1
    refine Or.inl ⟨tST L tx p, S1, st_i (st_i T 0 8 (nI (tST L tx p))) (3 + i) (ixN i R) 0, D.2.2.2.2.2.2.2.2.2.2.1.tr (FS.ga a3), a2, ⟨by omega, ?_, (D.2.2.2.2.2.2.2.2.2.2.2.tr (FT.st0 (by omega))).tr (FT.stk hix.2.2)⟩, fun k0 fl => ?_, fun k => ?_⟩
    · rw [st_n (by omega), st_s, upd_s]
    · rw [m_X2_readRock_L0, if_neg (show ¬ (5 : Int32) ≤ nI i from nI_ge (b := 5) (by omega) (by omega)), l1, l2]
      simp only [Option.bind_some]
      rw [a1]
      simp only [ob2_s, not_true_eq_false, if_false]
    · unfold rS
      rw [b1]
      simp only [ob2_s]
      rw [ast_n hix.1 (by omega)]
      rfl
def rF (T : St) : Option St := some (st_i T 2 1 (T.1 2 1 + 1))
def rK (fu i R : Nat) (k : St → Option St) : St → Option St := rS fu (nI (loN i)) (nI (hiN i)) (if i = 0 then 8 else 16) (3 + i) (nI (ixN i R)) k
theorem rF_bad {T0 : St} {f : Nat} : ∀ T : St, BAD T0 f T → ∃ T' : St, rF T = some T' ∧ BAD T0 f T' := fun T h => ⟨_, rfl, h.1, by rw [st_n (by omega)]; exact h.2.1, h.2.2.tr (FT.st2 (by omega))⟩
theorem rK_bad {T0 : St} {f i R fu : Nat} {k : St → Option St} (hi : i < 5) (hR : R < 8) (hk : ∀ T : St, BAD T0 f T → ∃ T' : St, k T = some T' ∧ BAD T0 f T') : ∀ T : St, BAD T0 f T → ∃ T' : St, rK fu i R k T = some T' ∧ BAD T0 f T' := by
  unfold rK ixN
  by_cases e : i = 0
  · rw [if_pos e, if_pos e]; exact rS_all fu hk (by omega) (by omega) (by omega)
  · rw [if_neg e, if_neg e]; exact rS_all fu hk (by omega) (by omega) (by omega)
theorem item_r {T : St} {R : Nat} (fu : Nat) (h : T.1 2 1 = nI R) : m_X9_readsItem fu T 114 = rK fu 0 R (rK fu 1 R (rK fu 2 R (rK fu 3 R (rK fu 4 R rF)))) T := by
  unfold m_X9_readsItem
  rw [if_neg (by decide), h, show (8 : Int32) + nI R = nI (8 + R) from nI_add 8 R]
  rfl
/-- a rock, up to its end -/
theorem rock_it {L : Nat} {tx : Nat → Nat} {S0 T0 S T : St} {R item p fu : Nat} {bT cT : Bool} (hf : 300 ≤ fu) (hL : L ≤ 200) (ht : ∀ j : Nat, j < L → tx j ≤ 255) (hX : XT S0 L tx) (hM : MT T0 L tx) (hR : R < 8) (P : PT L tx p S T) (D : DAT S0 T0 R (5 * R) item bT cT S T) :
    (∃ (f : Nat) (S' T' : St), FS S0 S' ∧ S'.1 3 2 = nI f ∧ BAD T0 f T' ∧ m_X2_readRock fu S = some (0, S') ∧ m_X9_readsItem fu T 114 = some T') ∨
    (∃ (p' : Nat) (S' T' : St), PT L tx p' S' T' ∧ DAT S0 T0 (R + 1) (5 * (R + 1)) item bT cT S' T' ∧ (m_X2_readRock fu S = ob2 (m_X2_readEnd fu S') fun x8 S9 => zb x8 (some (x8, S9))) ∧ m_X9_readsItem fu T 114 = some T') := by
  rw [item_r fu D.2.1]
  unfold m_X2_readRock
  rw [D.1, if_pos (show nI R < (8 : Int32) from nI_lt (b := 8) hR (by omega))]
  obtain ⟨g, rfl⟩ : ∃ z, fu = z + 6 := ⟨fu - 6, by omega⟩
  rcases stage hf hL ht hX hM (show 0 < 5 by omega) hR rfl P D with ⟨f, S1, T1, x1, x2, x3, x4, x5⟩ | ⟨p1, S1, T1, P, D, x4, x5⟩
  · obtain ⟨T2, y1, y2⟩ := rK_bad (fu := g + 6) (show 1 < 5 by omega) hR (rK_bad (fu := g + 6) (show 2 < 5 by omega) hR (rK_bad (fu := g + 6) (show 3 < 5 by omega) hR (rK_bad (fu := g + 6) (show 4 < 5 by omega) hR rF_bad))) T1 x3
    exact Or.inl ⟨f, S1, T2, x1, x2, y2, x4 _ _, (x5 _).trans y1⟩
  have z0 := x4 (m_X2_readRock_r0 (g + 6)) (g + 5)
  have w0 := x5 (rK (g + 6) 1 R (rK (g + 6) 2 R (rK (g + 6) 3 R (rK (g + 6) 4 R rF))))
  clear x4 x5
  rcases stage hf hL ht hX hM (show 0 + 1 < 5 by omega) hR rfl P D with ⟨f, S2, T2, x1, x2, x3, x4, x5⟩ | ⟨p2, S2, T2, P, D, x4, x5⟩
  · obtain ⟨T3, y1, y2⟩ := rK_bad (fu := g + 6) (show 2 < 5 by omega) hR (rK_bad (fu := g + 6) (show 3 < 5 by omega) hR (rK_bad (fu := g + 6) (show 4 < 5 by omega) hR rF_bad)) T2 x3
    exact Or.inl ⟨f, S2, T3, x1, x2, y2, z0.trans (x4 _ _), w0.trans ((x5 _).trans y1)⟩
  have z1 := z0.trans (x4 (m_X2_readRock_r0 (g + 6)) (g + 4))
  have w1 := w0.trans (x5 (rK (g + 6) 2 R (rK (g + 6) 3 R (rK (g + 6) 4 R rF))))
  clear x4 x5
  rcases stage hf hL ht hX hM (show 0 + 1 + 1 < 5 by omega) hR rfl P D with ⟨f, S3, T3, x1, x2, x3, x4, x5⟩ | ⟨p3, S3, T3, P, D, x4, x5⟩
  · obtain ⟨T4, y1, y2⟩ := rK_bad (fu := g + 6) (show 3 < 5 by omega) hR (rK_bad (fu := g + 6) (show 4 < 5 by omega) hR rF_bad) T3 x3
    exact Or.inl ⟨f, S3, T4, x1, x2, y2, z1.trans (x4 _ _), w1.trans ((x5 _).trans y1)⟩
  have z2 := z1.trans (x4 (m_X2_readRock_r0 (g + 6)) (g + 3))
  have w2 := w1.trans (x5 (rK (g + 6) 3 R (rK (g + 6) 4 R rF)))
  clear x4 x5
  rcases stage hf hL ht hX hM (show 0 + 1 + 1 + 1 < 5 by omega) hR rfl P D with ⟨f, S4, T4, x1, x2, x3, x4, x5⟩ | ⟨p4, S4, T4, P, D, x4, x5⟩
  · obtain ⟨T5, y1, y2⟩ := rK_bad (fu := g + 6) (show 4 < 5 by omega) hR rF_bad T4 x3
    exact Or.inl ⟨f, S4, T5, x1, x2, y2, z2.trans (x4 _ _), w2.trans ((x5 _).trans y1)⟩
  have z3 := z2.trans (x4 (m_X2_readRock_r0 (g + 6)) (g + 2))
  have w3 := w2.trans (x5 (rK (g + 6) 4 R rF))
  clear x4 x5
  rcases stage hf hL ht hX hM (show 0 + 1 + 1 + 1 + 1 < 5 by omega) hR rfl P D with ⟨f, S5, T5, x1, x2, x3, x4, x5⟩ | ⟨p5, S5, T5, P, D, x4, x5⟩
  · obtain ⟨T6, y1, y2⟩ := rF_bad T5 x3
    exact Or.inl ⟨f, S5, T6, x1, x2, y2, z3.trans (x4 _ _), w3.trans ((x5 _).trans y1)⟩
  have z4 := z3.trans (x4 (m_X2_readRock_r0 (g + 6)) (g + 1))
  have w4 := w3.trans (x5 rF)
  clear x4 x5
  obtain ⟨P1, P2, P3, P4⟩ := P
  obtain ⟨d1, d2, d3, d4, d5, d6, d7, d8, d9, d10, d11, d12⟩ := D
  refine Or.inr ⟨p5, st_i S5 4 0 (nI (R + 1)), st_i T5 2 1 (nI (R + 1)), ⟨P1, ?_, ?_, ?_⟩, ⟨?_, ?_, by omega, ?_, ?_, ?_, ?_, ?_, ?_, ?_, d11.tr (FS.st (by omega)), d12.tr (FT.st2 (by omega))⟩, ?_, ?_⟩
  · rw [st_n (by omega)]; exact P2
  · unfold TH
    rw [st_n (by omega)]
    exact P3
  · rw [st_n (by omega)]; exact P4
  · rw [st_s, upd_s]
  · rw [st_s, upd_s]
  · rw [st_s, upd_n (by omega), st_s, upd_n (by omega)]; exact d4
  · rw [st_s, upd_n (by omega), st_s, upd_n (by omega)]; exact d5
  · rw [st_s, upd_n (by omega)]; exact d6
  · rw [st_n (by omega)]; exact d7
  · rw [st_n (by omega)]; exact d8
  · rw [st_n (by omega)]; exact d9
  · intro r w q1 q2
    obtain ⟨q, y1, y2, y3, y4⟩ := d10 r w q1 (by omega)
    exact ⟨q, y1, y2, by rw [st_n (by omega)]; exact y3, by rw [st_n (by omega)]; exact y4⟩
  · refine z4.trans ?_
    rw [m_X2_readRock_L0, if_pos (by decide)]
    unfold m_X2_readRock_r0
    rw [lt_e, d1, nI_1]
  · refine w4.trans ?_
    unfold rF
    rw [d2, nI_1]
/-- the end of an item -/
def endR (fu : Nat) (F : St → Option (Int32 × St)) (T : St) : Option (Int32 × St) := (if ¬ (T.1 0 5) = (3 : Int32) then some (0 : Int32) else some (1 : Int32) : Option Int32).bind fun x35 => ob2 (m_X9_takesToken fu T x35) fun x38 S39 => F S39
theorem endR_bad {T0 T : St} {f : Nat} (fu : Nat) (F : St → Option (Int32 × St)) (h : BAD T0 f T) : endR fu F T = F T := by
  unfold endR
  have hb := h.1
  by_cases e : T.1 0 5 = 3
  · rw [if_neg (fun q => q e)]
    simp only [Option.bind_some]
    rw [tk_ill fu h.2.1 (by omega)]
    rfl
  · rw [if_pos e]
    simp only [Option.bind_some]
    rw [tk_ill fu h.2.1 (by omega)]
    rfl
theorem end_it {L : Nat} {tx : Nat → Nat} {S0 T0 S T : St} {R m item p fu : Nat} {bT cT : Bool} (hf : 300 ≤ fu) (hL : L ≤ 200) (ht : ∀ j : Nat, j < L → tx j ≤ 255) (hX : XT S0 L tx) (hM : MT T0 L tx) (P : PT L tx p S T) (D : DAT S0 T0 R m item bT cT S T) :
    (∃ (f : Nat) (S' T' : St), FS S0 S' ∧ S'.1 3 2 = nI f ∧ BAD T0 f T' ∧ m_X2_readEnd fu S = some (0, S') ∧ ∀ F : St → Option (Int32 × St), endR fu F T = F T') ∨
    (∃ (p' : Nat) (S' T' : St), PT L tx p' S' T' ∧ DAT S0 T0 R m item bT cT S' T' ∧ m_X2_readEnd fu S = some (1, S') ∧ ∀ F : St → Option (Int32 × St), endR fu F T = F T') := by
  obtain ⟨P1, P2, P3, P4⟩ := P
  have hX1 := D.2.2.2.2.2.2.2.2.2.2.1.xt hX
  have hM1 := D.2.2.2.2.2.2.2.2.2.2.2.mt hM
  have hs := tST_le (tx := tx) P1
  obtain ⟨S', e1, e2, e3, e4, -, e6⟩ := rt_spec hf hL ht P1 hX1 P2
  have hno : tKD L tx p ≠ 3 → ¬ cKD L tx p = 59 → (∃ (f : Nat) (S' T' : St), FS S0 S' ∧ S'.1 3 2 = nI f ∧ BAD T0 f T' ∧ m_X2_readEnd fu S = some (0, S') ∧ ∀ F : St → Option (Int32 × St), endR fu F T = F T') := by
    intro c1 c2
    have hk5 : tKD L tx p < 5 := by
      rcases kd_c L tx p with h | h | h | h | h <;> omega
    refine ⟨tST L tx p, S', st_i T 0 8 (nI (tST L tx p)), D.2.2.2.2.2.2.2.2.2.2.1.tr (FS.ga e6), e3, ⟨by omega, by rw [st_s, upd_s], D.2.2.2.2.2.2.2.2.2.2.2.tr (FT.st0 (by omega))⟩, ?_, fun F => ?_⟩
    · unfold m_X2_readEnd
      rw [e1]
      simp only [Option.bind_some]
      rw [e4, if_pos c2]
    · unfold endR
      rw [P3.2.1, if_pos (show ¬ nI (tKD L tx p) = (3 : Int32) from fun q => c1 ((nI_eq (b := 3) (by omega) (by omega)).mp q))]
      simp only [Option.bind_some]
      rw [tk_no fu P3 P4]
      rfl
  rcases kd_c L tx p with ⟨h1, h2⟩ | ⟨h1, h2, h3⟩ | ⟨h1, h2⟩ | ⟨h1, h2, h3⟩ | ⟨h1, h2, h3⟩
  · exact Or.inl (hno (by omega) (by rw [h2]; decide))
  · exact Or.inl (hno (by omega) (by rw [h2]; decide))
  · exact Or.inl (hno (by omega) (by rw [h2]; decide))
  · obtain ⟨T', t1, t2, t3⟩ := tk_ok hf hL ht P1 hM1 P3 P4 (show tKD L tx p ≠ 0 by omega)
    refine Or.inr ⟨tNX L tx p, S', T', ⟨tNX_le P1, e2, t2, by rw [t3.1 8 (by omega)]; exact P4⟩, D.fr e6 t3, ?_, fun F => ?_⟩
    · unfold m_X2_readEnd
      rw [e1]
      simp only [Option.bind_some]
      rw [e4, if_neg (fun q => q h3)]
    · unfold endR
      rw [P3.2.1, h1, if_neg (fun q => q (show nI 3 = (3 : Int32) from rfl))]
      simp only [Option.bind_some]
      rw [t1]
      rfl
  · refine Or.inl (hno (by omega) ?_)
    rw [h3]
    rcases h2 with h2 | h2 | h2
    · rw [h2]; decide
    · rw [h2]; decide
    · rw [h2]; decide
/-- what comes of an item behind its sign -/
def ITM (L : Nat) (tx : Nat → Nat) (S0 T0 : St) (fu N item : Nat) (C : Option (Int32 × St)) (I : Option St) : Prop :=
  (∃ (f : Nat) (S' T' : St), FS S0 S' ∧ S'.1 3 2 = nI f ∧ BAD T0 f T' ∧ C = some (0, S') ∧ ∀ F : St → Option (Int32 × St), I.bind (endR fu F) = F T') ∨
  (∃ (p' : Nat) (S' T' : St) (R : Nat) (bT cT : Bool), PT L tx p' S' T' ∧ DAT S0 T0 R (5 * R) item bT cT S' T' ∧ R + n01 bT + n01 cT = N ∧ C = some (1, S') ∧ ∀ F : St → Option (Int32 × St), I.bind (endR fu F) = F T')
theorem itm_end {L : Nat} {tx : Nat → Nat} {S0 T0 S T : St} {R item p fu : Nat} {bT cT : Bool} (hf : 300 ≤ fu) (hL : L ≤ 200) (ht : ∀ j : Nat, j < L → tx j ≤ 255) (hX : XT S0 L tx) (hM : MT T0 L tx) (P : PT L tx p S T) (D : DAT S0 T0 R (5 * R) item bT cT S T) :
    ITM L tx S0 T0 fu (R + n01 bT + n01 cT) item (ob2 (m_X2_readEnd fu S) fun x8 S9 => zb x8 (some (x8, S9))) (some T) := by
  rcases end_it hf hL ht hX hM P D with ⟨f, S', T', x1, x2, x3, x4, x5⟩ | ⟨p', S', T', x1, x2, x3, x4⟩
  · exact Or.inl ⟨f, S', T', x1, x2, x3, by rw [x4]; rfl, fun F => x5 F⟩
  · exact Or.inr ⟨p', S', T', R, bT, cT, x1, x2, rfl, by rw [x3]; rfl, fun F => x4 F⟩
theorem itm_rock {L : Nat} {tx : Nat → Nat} {S0 T0 S T : St} {R item p fu : Nat} {bT cT : Bool} (hf : 300 ≤ fu) (hL : L ≤ 200) (ht : ∀ j : Nat, j < L → tx j ≤ 255) (hX : XT S0 L tx) (hM : MT T0 L tx) (hR : R < 8) (P : PT L tx p S T) (D : DAT S0 T0 R (5 * R) item bT cT S T) :
    ITM L tx S0 T0 fu (R + n01 bT + n01 cT + 1) item (m_X2_readRock fu S) (m_X9_readsItem fu T 114) := by
  rcases rock_it hf hL ht hX hM hR P D with ⟨f, S', T', x1, x2, x3, x4, x5⟩ | ⟨p', S', T', x1, x2, x3, x4⟩
  · exact Or.inl ⟨f, S', T', x1, x2, x3, x4, fun F => by rw [x5]; exact endR_bad fu F x3⟩
  · rw [x3, x4, show R + n01 bT + n01 cT + 1 = R + 1 + n01 bT + n01 cT by omega]
    exact itm_end hf hL ht hX hM x1 x2
theorem itm_b {L : Nat} {tx : Nat → Nat} {S0 T0 S T : St} {R item p fu : Nat} {cT : Bool} (hf : 300 ≤ fu) (hL : L ≤ 200) (ht : ∀ j : Nat, j < L → tx j ≤ 255) (hX : XT S0 L tx) (hM : MT T0 L tx) (P : PT L tx p S T) (D : DAT S0 T0 R (5 * R) item false cT S T) :
    ITM L tx S0 T0 fu (R + n01 false + n01 cT + 1) item (m_X2_readBarrels fu S) (m_X9_readsItem fu T 98) := by
  obtain ⟨P1, P2, P3, P4⟩ := P
  have hx := num_x (lo := 1) (hi := 30) hf hL ht P1 (D.2.2.2.2.2.2.2.2.2.2.1.xt hX) P2 (by omega) (by omega)
  have hm := num_m (lo := 1) (hi := 30) hf hL ht P1 (D.2.2.2.2.2.2.2.2.2.2.2.mt hM) P3 P4 (by omega) (by omega)
  have hs := tST_le (tx := tx) P1
  unfold m_X2_readBarrels m_X9_readsItem
  rw [D.2.2.2.2.2.2.1, if_neg (show ¬ ¬ b01 false = 0 by decide), if_pos (by decide), if_neg (by decide)]
  by_cases c : nOk L tx p 1 30
  · obtain ⟨S1, a1, a2, a3, a4⟩ := hx.1 c
    obtain ⟨T1, b1, b2, b3⟩ := hm.1 c
    rw [show m_X2_readNumber fu S 1 30 = some (1, S1) from a1, show m_X9_number fu T 1 30 = some (nI (tVL L tx p), T1) from b1]
    simp only [ob2_s, lt_e]
    rw [if_pos (show ¬ (1 : Int32) = 0 by decide)]
    obtain ⟨d1, d2, d3, d4, d5, d6, d7, d8, d9, d10, d11, d12⟩ := D.fr a4 b3
    have h15 : (st_i T1 2 2 (nI (tVL L tx p))).1 0 15 = nI (0 + 2 * n01 cT) := by rw [st_n (by omega)]; exact d9
    have ho : nI (0 + 2 * n01 cT) ||| (1 : Int32) = nI (1 + 2 * n01 cT) := by cases cT <;> rfl
    rw [h15, ho, a3]
    have D2 : DAT S0 T0 R (5 * R) item true cT (st_i (st_i S1 4 1 (nI (tVL L tx p))) 3 5 1) (st_i (st_i T1 2 2 (nI (tVL L tx p))) 0 15 (nI (1 + 2 * n01 cT))) := by
      refine ⟨?_, ?_, d3, ⟨tVL L tx p, c.2.2, ?_, ?_⟩, ?_, ?_, ?_, ?_, ?_, fun r w q1 q2 => ?_, (d11.tr (FS.st (by omega))).tr (FS.st (by omega)), (d12.tr (FT.st2 (by omega))).tr (FT.st0 (by omega))⟩
      · rw [st_n (by omega), st_s, upd_n (by omega)]; exact d1
      · rw [st_n (by omega), st_s, upd_n (by omega)]; exact d2
      · rw [st_n (by omega), st_s, upd_s]
      · rw [st_n (by omega), st_s, upd_s]
      · rw [st_n (by omega), st_s, upd_n (by omega), st_n (a := 2) (by omega), st_s, upd_n (by omega)]; exact d5
      · rw [st_n (by omega), st_s, upd_n (by omega)]; exact d6
      · rw [st_s, upd_s]; rfl
      · rw [st_s, upd_n (by omega), st_n (by omega)]; exact d8
      · rw [st_s, upd_s]; rfl
      · obtain ⟨q, y1, y2, y3, y4⟩ := d10 r w q1 q2
        exact ⟨q, y1, y2, by rw [st_n (by omega), st_n (by omega)]; exact y3, by rw [st_n (by omega), st_n (by omega)]; exact y4⟩
    have P2' : PT L tx (tNX L tx p) (st_i (st_i S1 4 1 (nI (tVL L tx p))) 3 5 1) (st_i (st_i T1 2 2 (nI (tVL L tx p))) 0 15 (nI (1 + 2 * n01 cT))) := by
      refine ⟨tNX_le P1, ?_, ?_, ?_⟩
      · rw [st_s, upd_n (by omega), st_n (by omega)]; exact a2
      · unfold TH
        rw [st_s, upd_n (by omega), upd_n (by omega), upd_n (by omega), upd_n (by omega), st_n (by omega)]
        exact b2
      · rw [st_s, upd_n (by omega), st_n (by omega), b3.1 8 (by omega)]; exact P4
    rw [show R + n01 false + n01 cT + 1 = R + n01 true + n01 cT by rw [n01_t, n01_f]; omega]
    exact itm_end hf hL ht hX hM P2' D2
  · obtain ⟨S1, a1, a2, a3⟩ := hx.2 c
    have b1 := hm.2 c
    rw [show m_X2_readNumber fu S 1 30 = some (0, S1) from a1, show m_X9_number fu T 1 30 = some (0, st_i T 0 8 (nI (tST L tx p))) from b1]
    simp only [ob2_s, lt_e, not_true_eq_false, if_false]
    have hb : BAD T0 (tST L tx p) (st_i (st_i (st_i T 0 8 (nI (tST L tx p))) 2 2 0) 0 15 ((st_i (st_i T 0 8 (nI (tST L tx p))) 2 2 0).1 0 15 ||| 1)) := by
      refine ⟨by omega, ?_, ((D.2.2.2.2.2.2.2.2.2.2.2.tr (FT.st0 (by omega))).tr (FT.st2 (by omega))).tr (FT.st0 (by omega))⟩
      rw [st_s, upd_n (by omega), st_n (by omega), st_s, upd_s]
    exact Or.inl ⟨_, S1, _, D.2.2.2.2.2.2.2.2.2.2.1.tr (FS.ga a3), a2, hb, rfl, fun F => endR_bad fu F hb⟩
theorem itm_c {L : Nat} {tx : Nat → Nat} {S0 T0 S T : St} {R item p fu : Nat} {bT : Bool} (hf : 300 ≤ fu) (hL : L ≤ 200) (ht : ∀ j : Nat, j < L → tx j ≤ 255) (hX : XT S0 L tx) (hM : MT T0 L tx) (P : PT L tx p S T) (D : DAT S0 T0 R (5 * R) item bT false S T) :
    ITM L tx S0 T0 fu (R + n01 bT + n01 false + 1) item (m_X2_readCoins fu S) (m_X9_readsItem fu T 99) := by
  obtain ⟨P1, P2, P3, P4⟩ := P
  have hx := num_x (lo := 0) (hi := 900) hf hL ht P1 (D.2.2.2.2.2.2.2.2.2.2.1.xt hX) P2 (by omega) (by omega)
  have hm := num_m (lo := 0) (hi := 900) hf hL ht P1 (D.2.2.2.2.2.2.2.2.2.2.2.mt hM) P3 P4 (by omega) (by omega)
  have hs := tST_le (tx := tx) P1
  unfold m_X2_readCoins m_X9_readsItem
  rw [D.2.2.2.2.2.2.2.1, if_neg (show ¬ ¬ b01 false = 0 by decide), if_pos (by decide), if_pos (by decide)]
  by_cases c : nOk L tx p 0 900
  · obtain ⟨S1, a1, a2, a3, a4⟩ := hx.1 c
    obtain ⟨T1, b1, b2, b3⟩ := hm.1 c
    rw [show m_X2_readNumber fu S 0 900 = some (1, S1) from a1, show m_X9_number fu T 0 900 = some (nI (tVL L tx p), T1) from b1]
    simp only [ob2_s, lt_e]
    rw [if_pos (show ¬ (1 : Int32) = 0 by decide)]
    obtain ⟨d1, d2, d3, d4, d5, d6, d7, d8, d9, d10, d11, d12⟩ := D.fr a4 b3
    have h15 : (st_i T1 2 3 (nI (tVL L tx p))).1 0 15 = nI (n01 bT + 2 * 0) := by rw [st_n (by omega)]; exact d9
    have ho : nI (n01 bT + 2 * 0) ||| (2 : Int32) = nI (n01 bT + 2 * 1) := by cases bT <;> rfl
    rw [h15, ho, a3]
    have D2 : DAT S0 T0 R (5 * R) item bT true (st_i (st_i S1 4 2 (nI (tVL L tx p))) 3 6 1) (st_i (st_i T1 2 3 (nI (tVL L tx p))) 0 15 (nI (n01 bT + 2 * 1))) := by
      refine ⟨?_, ?_, d3, ?_, ?_, ?_, ?_, ?_, ?_, fun r w q1 q2 => ?_, (d11.tr (FS.st (by omega))).tr (FS.st (by omega)), (d12.tr (FT.st2 (by omega))).tr (FT.st0 (by omega))⟩
      · rw [st_n (by omega), st_s, upd_n (by omega)]; exact d1
      · rw [st_n (by omega), st_s, upd_n (by omega)]; exact d2
      · rw [st_n (by omega), st_s, upd_n (by omega), st_n (a := 2) (by omega), st_s, upd_n (by omega)]; exact d4
      · rw [st_n (by omega), st_s, upd_s, st_n (a := 2) (by omega), st_s, upd_s]
      · rw [st_n (by omega), st_s, upd_n (by omega)]; exact d6
      · rw [st_s, upd_n (by omega), st_n (by omega)]; exact d7
      · rw [st_s, upd_s]; rfl
      · rw [st_s, upd_s]; rfl
      · obtain ⟨q, y1, y2, y3, y4⟩ := d10 r w q1 q2
        exact ⟨q, y1, y2, by rw [st_n (by omega), st_n (by omega)]; exact y3, by rw [st_n (by omega), st_n (by omega)]; exact y4⟩
    have P2' : PT L tx (tNX L tx p) (st_i (st_i S1 4 2 (nI (tVL L tx p))) 3 6 1) (st_i (st_i T1 2 3 (nI (tVL L tx p))) 0 15 (nI (n01 bT + 2 * 1))) := by
      refine ⟨tNX_le P1, ?_, ?_, ?_⟩
      · rw [st_s, upd_n (by omega), st_n (by omega)]; exact a2
      · unfold TH
        rw [st_s, upd_n (by omega), upd_n (by omega), upd_n (by omega), upd_n (by omega), st_n (by omega)]
        exact b2
      · rw [st_s, upd_n (by omega), st_n (by omega), b3.1 8 (by omega)]; exact P4
    exact itm_end hf hL ht hX hM P2' D2
  · obtain ⟨S1, a1, a2, a3⟩ := hx.2 c
    have b1 := hm.2 c
    rw [show m_X2_readNumber fu S 0 900 = some (0, S1) from a1, show m_X9_number fu T 0 900 = some (0, st_i T 0 8 (nI (tST L tx p))) from b1]
    simp only [ob2_s, lt_e, not_true_eq_false, if_false]
    have hb : BAD T0 (tST L tx p) (st_i (st_i (st_i T 0 8 (nI (tST L tx p))) 2 3 0) 0 15 ((st_i (st_i T 0 8 (nI (tST L tx p))) 2 3 0).1 0 15 ||| 2)) := by
      refine ⟨by omega, ?_, ((D.2.2.2.2.2.2.2.2.2.2.2.tr (FT.st0 (by omega))).tr (FT.st2 (by omega))).tr (FT.st0 (by omega))⟩
      rw [st_s, upd_n (by omega), st_n (by omega), st_s, upd_s]
    exact Or.inl ⟨_, S1, _, D.2.2.2.2.2.2.2.2.2.2.1.tr (FS.ga a3), a2, hb, rfl, fun F => endR_bad fu F hb⟩
