/-! river: tokens of a text, as both read them -/
def dig (c : Nat) : Bool := decide (48 ≤ c) && decide (c ≤ 57)
def skp (tx : Nat → Nat) : Nat → Nat → Nat
  | 0, p => p
  | d + 1, p => if tx p = 32 then skp tx d (p + 1) else p
def dgt (tx : Nat → Nat) : Nat → Nat → Nat → Nat × Nat
  | 0, p, v => (p, v)
  | d + 1, p, v => if dig (tx p) = true then dgt tx d (p + 1) (if 900 < v then v else 10 * v + (tx p - 48)) else (p, v)
theorem skp_le (tx : Nat → Nat) : ∀ (d p : Nat), p ≤ skp tx d p ∧ skp tx d p ≤ p + d := by
  intro d
  induction d with
  | zero => intro p; exact ⟨Nat.le_refl _, Nat.le_refl _⟩
  | succ d ih =>
    intro p
    show p ≤ (if tx p = 32 then skp tx d (p + 1) else p) ∧ (if tx p = 32 then skp tx d (p + 1) else p) ≤ p + (d + 1)
    by_cases e : tx p = 32
    · rw [if_pos e]; have := ih (p + 1); omega
    · rw [if_neg e]; omega
theorem dgt_le (tx : Nat → Nat) : ∀ (d p v : Nat), p ≤ (dgt tx d p v).1 ∧ (dgt tx d p v).1 ≤ p + d := by
  intro d
  induction d with
  | zero => intro p v; exact ⟨Nat.le_refl _, Nat.le_refl _⟩
  | succ d ih =>
    intro p v
    rw [dgt]
    by_cases e : dig (tx p) = true
    · rw [if_pos e]; have := ih (p + 1) (if 900 < v then v else 10 * v + (tx p - 48)); omega
    · rw [if_neg e]; exact ⟨Nat.le_refl _, by omega⟩
theorem dig_b {c : Nat} (h : dig c = true) : 48 ≤ c ∧ c ≤ 57 := by
  unfold dig at h
  rw [Bool.and_eq_true] at h
  exact ⟨of_decide_eq_true h.1, of_decide_eq_true h.2⟩
theorem dig_n {c : Nat} (h : ¬ dig c = true) : c < 48 ∨ 57 < c := by
  by_cases e1 : 48 ≤ c
  · by_cases e2 : c ≤ 57
    · refine absurd ?_ h
      unfold dig
      rw [Bool.and_eq_true]
      exact ⟨decide_eq_true e1, decide_eq_true e2⟩
    · omega
  · omega
theorem dgt_v (tx : Nat → Nat) : ∀ (d p v : Nat), v ≤ 9009 → (dgt tx d p v).2 ≤ 9009 := by
  intro d
  induction d with
  | zero => intro p v h; exact h
  | succ d ih =>
    intro p v h
    rw [dgt]
    by_cases e : dig (tx p) = true
    · rw [if_pos e]
      refine ih _ _ ?_
      have := dig_b e
      by_cases e2 : 900 < v
      · rw [if_pos e2]; exact h
      · rw [if_neg e2]; omega
    · rw [if_neg e]; exact h
def tST (L : Nat) (tx : Nat → Nat) (p : Nat) : Nat := skp tx (L - p) p
def tDG (L : Nat) (tx : Nat → Nat) (p : Nat) : Nat × Nat := dgt tx (L - tST L tx p) (tST L tx p) 0
def tNX (L : Nat) (tx : Nat → Nat) (p : Nat) : Nat := if L ≤ tST L tx p then tST L tx p else if dig (tx (tST L tx p)) = true then (tDG L tx p).1 else tST L tx p + 1
def tVL (L : Nat) (tx : Nat → Nat) (p : Nat) : Nat := if dig (tx (tST L tx p)) = true then (tDG L tx p).2 else tx (tST L tx p)
def sgn (c : Nat) : Nat := if c = 59 then 3 else if c = 114 ∨ c = 98 ∨ c = 99 then 1 else 4
def tKD (L : Nat) (tx : Nat → Nat) (p : Nat) : Nat := if L ≤ tST L tx p then 0 else if dig (tx (tST L tx p)) = true then (if 900 < (tDG L tx p).2 ∨ (tx (tST L tx p) = 48 ∧ 1 < (tDG L tx p).1 - tST L tx p) then 4 else 2) else sgn (tx (tST L tx p))
theorem tST_le {L : Nat} {tx : Nat → Nat} {p : Nat} (h : p ≤ L) : tST L tx p ≤ L := by
  have := skp_le tx (L - p) p
  unfold tST
  omega
theorem tNX_le {L : Nat} {tx : Nat → Nat} {p : Nat} (h : p ≤ L) : tNX L tx p ≤ L := by
  have h1 := tST_le (tx := tx) h
  unfold tNX
  by_cases e : L ≤ tST L tx p
  · rw [if_pos e]; exact h1
  · rw [if_neg e]
    by_cases e2 : dig (tx (tST L tx p)) = true
    · rw [if_pos e2]
      have := dgt_le tx (L - tST L tx p) (tST L tx p) 0
      unfold tDG
      omega
    · rw [if_neg e2]; omega
/-! the reference's tokens -/
def MT (T : St) (L : Nat) (tx : Nat → Nat) : Prop := T.1 0 3 = nI L ∧ ∀ j : Nat, j < L → T.1 1 j = nI (tx j)
def FA (T T' : St) : Prop := (∀ j : Nat, (j < 4 ∨ 7 < j) → T'.1 0 j = T.1 0 j) ∧ (∀ k : Nat, k ≠ 0 → T'.1 k = T.1 k) ∧ T'.2 = T.2
theorem FA.rf (T : St) : FA T T := ⟨fun _ _ => rfl, fun _ _ => rfl, rfl⟩
theorem FA.tr {T T' T'' : St} (h : FA T T') (h2 : FA T' T'') : FA T T'' := ⟨fun j q => (h2.1 j q).trans (h.1 j q), fun k q => (h2.2.1 k q).trans (h.2.1 k q), h2.2.2.trans h.2.2⟩
theorem FA.st {T : St} {j : Nat} {v : Int32} (h : 4 ≤ j ∧ j ≤ 7) : FA T (st_i T 0 j v) := ⟨fun i q => by rw [st_s, upd_n (by omega)], fun k q => st_n q, rfl⟩
theorem MT.fr {T T' : St} {L : Nat} {tx : Nat → Nat} (h : MT T L tx) (hf : FA T T') : MT T' L tx := ⟨by rw [hf.1 3 (by omega)]; exact h.1, fun j hj => by rw [hf.2.1 1 (by omega)]; exact h.2 j hj⟩
def lAt (L : Nat) (tx : Nat → Nat) (p : Nat) : Int32 := if p < L then nI (tx p) else -1
theorem mLet {T : St} {L : Nat} {tx : Nat → Nat} {p : Nat} (h : MT T L tx) (hL : L ≤ 200) (hp : p ≤ L) : m_X9_letterAt T (nI p) = some (lAt L tx p) := by
  unfold m_X9_letterAt lAt
  rw [h.1]
  by_cases e : p < L
  · rw [if_neg (nI_ge e (by omega)), if_pos e, ald_n (by omega) (by omega), h.2 p e]
    rfl
  · rw [if_pos (nI_le (by omega) (by omega)), if_neg e]
theorem lAt_dig {L : Nat} {tx : Nat → Nat} {p : Nat} (ht : ∀ j : Nat, j < L → tx j ≤ 255) : m_X9_in (lAt L tx p) 48 57 = some (if p < L ∧ dig (tx p) = true then 1 else 0) := by
  unfold lAt
  by_cases e : p < L
  · have := ht p e
    rw [if_pos e]
    by_cases e2 : dig (tx p) = true
    · have h2 := dig_b e2
      rw [if_pos ⟨e, e2⟩, in_ok (show ¬ nI (tx p) < (48 : Int32) from nI_nlt (b := 48) (by omega) (by omega)) (show ¬ (57 : Int32) < nI (tx p) from nI_nlt (a := 57) (by omega) (by omega))]
    · rw [if_neg (fun q => e2 q.2)]
      rcases dig_n e2 with h2 | h2
      · exact in_bad (Or.inl (show nI (tx p) < (48 : Int32) from nI_lt (b := 48) (by omega) (by omega)))
      · exact in_bad (Or.inr (show (57 : Int32) < nI (tx p) from nI_lt (a := 57) (by omega) (by omega)))
  · rw [if_neg e, if_neg (fun q => e q.1)]
    decide
theorem mskip_L {L : Nat} {tx : Nat → Nat} (hL : L ≤ 200) (ht : ∀ j : Nat, j < L → tx j ≤ 255) (k0 : St → Option St) : ∀ (d p f : Nat) (T : St), p + d = L → d < f → MT T L tx → T.1 0 4 = nI p →
    ∃ T' : St, m_X9_advances_L0 k0 f T = k0 T' ∧ T'.1 0 4 = nI (skp tx d p) ∧ FA T T' := by
  intro d
  induction d with
  | zero =>
    intro p f T q1 q2 h hp
    obtain ⟨f, rfl⟩ : ∃ z, f = z + 1 := ⟨f - 1, by omega⟩
    rw [m_X9_advances_L0, hp, mLet h hL (by omega)]
    simp only [Option.bind_some]
    unfold lAt
    rw [if_neg (show ¬ p < L by omega), if_pos (by decide)]
    exact ⟨T, rfl, hp, FA.rf T⟩
  | succ d ih =>
    intro p f T q1 q2 h hp
    obtain ⟨f, rfl⟩ : ∃ z, f = z + 1 := ⟨f - 1, by omega⟩
    have := ht p (by omega)
    rw [m_X9_advances_L0, hp, mLet h hL (by omega)]
    simp only [Option.bind_some, lt_e]
    unfold lAt
    rw [if_pos (show p < L by omega), skp]
    by_cases e : tx p = 32
    · rw [if_neg (fun q => q (show nI (tx p) = (32 : Int32) by rw [e]; rfl)), if_pos e, nI_1]
      obtain ⟨T', w1, w2, w3⟩ := ih (p + 1) f (st_i T 0 4 (nI (p + 1))) (by omega) (by omega) (h.fr (FA.st (by omega))) (by rw [st_s, upd_s])
      exact ⟨T', w1, w2, (FA.st (by omega)).tr w3⟩
    · rw [if_pos (show ¬ nI (tx p) = (32 : Int32) from fun q => e ((nI_eq (b := 32) (by omega) (by omega)).mp q)), if_neg e]
      exact ⟨T, rfl, hp, FA.rf T⟩
theorem mdig_L {L : Nat} {tx : Nat → Nat} (hL : L ≤ 200) (ht : ∀ j : Nat, j < L → tx j ≤ 255) (k0 : St → Option St) : ∀ (d p v f : Nat) (T : St), p + d = L → d < f → v ≤ 9009 → MT T L tx → T.1 0 4 = nI p → T.1 0 7 = nI v →
    ∃ T' : St, m_X9_advances_L1 k0 f T = k0 T' ∧ T'.1 0 4 = nI (dgt tx d p v).1 ∧ T'.1 0 7 = nI (dgt tx d p v).2 ∧ T'.1 0 6 = T.1 0 6 ∧ FA T T' := by
  intro d
  induction d with
  | zero =>
    intro p v f T q1 q2 q3 h hp hv
    obtain ⟨f, rfl⟩ : ∃ z, f = z + 1 := ⟨f - 1, by omega⟩
    rw [m_X9_advances_L1, hp, mLet h hL (by omega)]
    simp only [Option.bind_some]
    rw [lAt_dig ht, if_neg (show ¬ (p < L ∧ dig (tx p) = true) from fun q => by omega)]
    simp only [Option.bind_some, if_true]
    exact ⟨T, rfl, hp, hv, rfl, FA.rf T⟩
  | succ d ih =>
    intro p v f T q1 q2 q3 h hp hv
    obtain ⟨f, rfl⟩ : ∃ z, f = z + 1 := ⟨f - 1, by omega⟩
    have := ht p (by omega)
    rw [m_X9_advances_L1, hp, mLet h hL (by omega)]
    simp only [Option.bind_some, lt_e]
    rw [lAt_dig ht, dgt]
    by_cases e : dig (tx p) = true
    · have hd := dig_b e
      rw [if_pos e, if_pos (show p < L ∧ dig (tx p) = true from ⟨by omega, e⟩)]
      simp only [Option.bind_some]
      rw [if_neg (show ¬ (1 : Int32) = 0 by decide), hv]
      have hw : (if nI v ≤ (900 : Int32) then some ((((10 : Int32) * nI v) + lAt L tx p) - (48 : Int32)) else some (nI v) : Option Int32) = some (nI (if 900 < v then v else 10 * v + (tx p - 48))) := by
        unfold lAt
        by_cases e2 : 900 < v
        · rw [if_neg (show ¬ nI v ≤ (900 : Int32) from nI_ge (a := 900) (by omega) (by omega)), if_pos e2]
        · rw [if_pos (show nI v ≤ (900 : Int32) from nI_le (b := 900) (by omega) (by omega)), if_neg e2, if_pos (show p < L by omega), show (10 : Int32) = nI 10 from rfl, pk_mul, nI_add, show (48 : Int32) = nI 48 from rfl, pk_sub (by omega), show 10 * v + tx p - 48 = 10 * v + (tx p - 48) by omega]
      rw [hw]
      simp only [Option.bind_some]
      have h4 : (st_i T 0 7 (nI (if 900 < v then v else 10 * v + (tx p - 48)))).1 0 4 = nI p := by rw [st_s, upd_n (by omega)]; exact hp
      rw [h4, nI_1]
      have hv2 : (if 900 < v then v else 10 * v + (tx p - 48)) ≤ 9009 := by
        by_cases e2 : 900 < v
        · rw [if_pos e2]; exact q3
        · rw [if_neg e2]; omega
      obtain ⟨T', w1, w2, w3, w4, w5⟩ := ih (p + 1) (if 900 < v then v else 10 * v + (tx p - 48)) f (st_i (st_i T 0 7 (nI (if 900 < v then v else 10 * v + (tx p - 48)))) 0 4 (nI (p + 1))) (by omega) (by omega) hv2 (h.fr ((FA.st (by omega)).tr (FA.st (by omega)))) (by rw [st_s, upd_s]) (by rw [st_s, upd_n (by omega), st_s, upd_s])
      exact ⟨T', w1, w2, w3, by rw [w4, st_s, upd_n (by omega), st_s, upd_n (by omega)], ((FA.st (by omega)).tr (FA.st (by omega))).tr w5⟩
    · rw [if_neg e, if_neg (show ¬ (p < L ∧ dig (tx p) = true) from fun q => e q.2)]
      simp only [Option.bind_some, if_true]
      exact ⟨T, rfl, hp, hv, rfl, FA.rf T⟩
/-- the reference holds the token that lies at p -/
def TH (L : Nat) (tx : Nat → Nat) (T : St) (p : Nat) : Prop := T.1 0 6 = nI (tST L tx p) ∧ T.1 0 5 = nI (tKD L tx p) ∧ T.1 0 4 = nI (tNX L tx p) ∧ (tKD L tx p ≠ 0 → T.1 0 7 = nI (tVL L tx p))
theorem adv_spec {L : Nat} {tx : Nat → Nat} {T : St} {p fu : Nat} (hf : 300 ≤ fu) (hL : L ≤ 200) (ht : ∀ j : Nat, j < L → tx j ≤ 255) (hp : p ≤ L) (h : MT T L tx) (h4 : T.1 0 4 = nI p) : ∃ T' : St, m_X9_advances fu T = some T' ∧ TH L tx T' p ∧ FA T T' := by
  obtain ⟨T1, a1, a2, a3⟩ := mskip_L hL ht (m_X9_advances_r0 fu) (L - p) p fu T (by omega) (by omega) h h4
  have hs := tST_le (tx := tx) hp
  have a2' : T1.1 0 4 = nI (tST L tx p) := a2
  have hM := h.fr a3
  unfold m_X9_advances
  rw [a1]
  unfold m_X9_advances_r0
  simp only [lt_e]
  rw [a2']
  have b4 : (st_i T1 0 6 (nI (tST L tx p))).1 0 4 = nI (tST L tx p) := by rw [st_s, upd_n (by omega)]; exact a2'
  have hM2 : MT (st_i T1 0 6 (nI (tST L tx p))) L tx := hM.fr (FA.st (by omega))
  rw [b4, mLet hM2 hL hs]
  simp only [Option.bind_some]
  unfold TH
  by_cases e : L ≤ tST L tx p
  · rw [show lAt L tx (tST L tx p) = -1 from if_neg (by omega), if_neg (by decide)]
    refine ⟨_, rfl, ⟨?_, ?_, ?_, ?_⟩, a3.tr ((FA.st (by omega)).tr (FA.st (by omega)))⟩
    · rw [st_s, upd_n (by omega), st_s, upd_s]
    · rw [st_s, upd_s]; unfold tKD; rw [if_pos e]; rfl
    · rw [st_s, upd_n (by omega), b4]; unfold tNX; rw [if_pos e]
    · intro q; unfold tKD at q; rw [if_pos e] at q; exact absurd rfl q
  · have hc := ht (tST L tx p) (by omega)
    have hc2 : (0 : Int32) ≤ lAt L tx (tST L tx p) := by
      unfold lAt
      rw [if_pos (by omega)]
      exact nI_pos' (by omega)
    rw [if_pos hc2, lAt_dig ht]
    simp only [Option.bind_some]
    have el : lAt L tx (tST L tx p) = nI (tx (tST L tx p)) := if_pos (by omega)
    by_cases e2 : dig (tx (tST L tx p)) = true
    · rw [if_pos (show tST L tx p < L ∧ dig (tx (tST L tx p)) = true from ⟨by omega, e2⟩), if_neg (show ¬ (1 : Int32) = 0 by decide)]
      have b4' : (st_i (st_i T1 0 6 (nI (tST L tx p))) 0 7 0).1 0 4 = nI (tST L tx p) := by rw [st_s, upd_n (by omega)]; exact b4
      obtain ⟨T2, c1, c2, c3, c4, c5⟩ := mdig_L hL ht (m_X9_advances_r1 (lAt L tx (tST L tx p))) (L - tST L tx p) (tST L tx p) 0 fu (st_i (st_i T1 0 6 (nI (tST L tx p))) 0 7 0) (by omega) (by omega) (by omega) (hM2.fr (FA.st (by omega))) b4' (by rw [st_s, upd_s]; rfl)
      have c6 : T2.1 0 6 = nI (tST L tx p) := by rw [c4, st_s, upd_n (by omega), st_s, upd_s]
      have hv := dgt_v tx (L - tST L tx p) (tST L tx p) 0 (by omega)
      have hn := dgt_le tx (L - tST L tx p) (tST L tx p) 0
      rw [c1]
      unfold m_X9_advances_r1
      rw [c2, c3, c6, el, pk_sub hn.1]
      have hk : (if (900 : Int32) < nI (dgt tx (L - tST L tx p) (tST L tx p) 0).2 then some (4 : Int32) else if ¬ nI (tx (tST L tx p)) = 48 then some 2 else if nI ((dgt tx (L - tST L tx p) (tST L tx p) 0).1 - tST L tx p) ≤ 1 then some 2 else some 4 : Option Int32) = some (nI (tKD L tx p)) := by
        unfold tKD tDG
        rw [if_neg e, if_pos e2]
        by_cases z1 : 900 < (dgt tx (L - tST L tx p) (tST L tx p) 0).2
        · rw [if_pos (show (900 : Int32) < nI (dgt tx (L - tST L tx p) (tST L tx p) 0).2 from nI_lt (a := 900) z1 (by omega)), if_pos (Or.inl z1)]
          rfl
        · rw [if_neg (show ¬ (900 : Int32) < nI (dgt tx (L - tST L tx p) (tST L tx p) 0).2 from nI_nlt (a := 900) (by omega) (by omega))]
          by_cases z2 : tx (tST L tx p) = 48
          · rw [if_neg (fun q => q (show nI (tx (tST L tx p)) = (48 : Int32) by rw [z2]; rfl))]
            by_cases z3 : 1 < (dgt tx (L - tST L tx p) (tST L tx p) 0).1 - tST L tx p
            · rw [if_neg (show ¬ nI ((dgt tx (L - tST L tx p) (tST L tx p) 0).1 - tST L tx p) ≤ (1 : Int32) from nI_ge (a := 1) z3 (by omega)), if_pos (Or.inr ⟨z2, z3⟩)]
              rfl
            · rw [if_pos (show nI ((dgt tx (L - tST L tx p) (tST L tx p) 0).1 - tST L tx p) ≤ (1 : Int32) from nI_le (b := 1) (by omega) (by omega)), if_neg (by omega)]
              rfl
          · rw [if_pos (show ¬ nI (tx (tST L tx p)) = (48 : Int32) from fun q => z2 ((nI_eq (b := 48) (by omega) (by omega)).mp q)), if_neg (by omega)]
            rfl
      rw [hk]
      simp only [Option.bind_some, lt_e]
      refine ⟨_, rfl, ⟨?_, ?_, ?_, fun _ => ?_⟩, a3.tr ((FA.st (by omega)).tr ((FA.st (by omega)).tr (c5.tr (FA.st (by omega)))))⟩
      · rw [st_s, upd_n (by omega)]; exact c6
      · rw [st_s, upd_s]
      · rw [st_s, upd_n (by omega), c2]; unfold tNX tDG; rw [if_neg e, if_pos e2]
      · rw [st_s, upd_n (by omega), c3]; unfold tVL tDG; rw [if_pos e2]
    · rw [if_neg (show ¬ (tST L tx p < L ∧ dig (tx (tST L tx p)) = true) from fun q => e2 q.2), if_pos rfl, el]
      have hk : (if ¬ nI (tx (tST L tx p)) = 59 then if nI (tx (tST L tx p)) = 114 then some (1 : Int32) else if nI (tx (tST L tx p)) = 98 then some 1 else if ¬ nI (tx (tST L tx p)) = 99 then some 4 else some 1 else some 3 : Option Int32) = some (nI (tKD L tx p)) := by
        unfold tKD
        rw [if_neg e, if_neg e2]
        exact (show ∀ c : Nat, c < 256 → (if ¬ nI c = 59 then if nI c = 114 then some (1 : Int32) else if nI c = 98 then some 1 else if ¬ nI c = 99 then some 4 else some 1 else some 3 : Option Int32) = some (nI (sgn c)) by decide +kernel) _ (by omega)
      rw [hk]
      simp only [Option.bind_some]
      refine ⟨_, rfl, ⟨?_, ?_, ?_, fun _ => ?_⟩, a3.tr ((FA.st (by omega)).tr ((FA.st (by omega)).tr ((FA.st (by omega)).tr (FA.st (by omega)))))⟩
      · rw [st_s, upd_n (by omega), st_s, upd_n (by omega), st_s, upd_n (by omega), st_s, upd_s]
      · rw [st_s, upd_s]
      · rw [st_s, upd_n (by omega), st_s, upd_n (by omega), st_s, upd_s, nI_1]; unfold tNX; rw [if_neg e, if_neg e2]
      · rw [st_s, upd_n (by omega), st_s, upd_s]; unfold tVL; rw [if_neg e2]
/-! the class's tokens -/
def XT (S : St) (L : Nat) (tx : Nat → Nat) : Prop := S.1 1 0 = nI L ∧ ∀ j : Nat, j < L → S.1 2 j = nI (tx j)
def GA (S S' : St) : Prop := (∀ j : Nat, (j < 1 ∨ 4 < j) → S'.1 3 j = S.1 3 j) ∧ (∀ k : Nat, k ≠ 3 → S'.1 k = S.1 k) ∧ S'.2 = S.2
theorem GA.rf (S : St) : GA S S := ⟨fun _ _ => rfl, fun _ _ => rfl, rfl⟩
theorem GA.tr {S S' S'' : St} (h : GA S S') (h2 : GA S' S'') : GA S S'' := ⟨fun j q => (h2.1 j q).trans (h.1 j q), fun k q => (h2.2.1 k q).trans (h.2.1 k q), h2.2.2.trans h.2.2⟩
theorem GA.st {S : St} {j : Nat} {v : Int32} (h : 1 ≤ j ∧ j ≤ 4) : GA S (st_i S 3 j v) := ⟨fun i q => by rw [st_s, upd_n (by omega)], fun k q => st_n q, rfl⟩
theorem XT.fr {S S' : St} {L : Nat} {tx : Nat → Nat} (h : XT S L tx) (hf : GA S S') : XT S' L tx := ⟨by rw [hf.2.1 1 (by omega)]; exact h.1, fun j hj => by rw [hf.2.1 2 (by omega)]; exact h.2 j hj⟩
theorem xLet {S : St} {L : Nat} {tx : Nat → Nat} {p : Nat} (h : XT S L tx) (hL : L ≤ 200) (hp : p < L) : m_X7_letterAt S (nI p) = some (nI (tx p)) := by
  unfold m_X7_letterAt
  rw [if_neg (nI_pos (by omega)), if_neg (show ¬ (200 : Int32) ≤ nI p from nI_ge (b := 200) (by omega) (by omega)), ald_n (by omega) (by omega), h.2 p hp]
  rfl
theorem xDig {c : Nat} (hc : c ≤ 255) : m_X2_isDigit (nI c) = some (if dig c = true then 1 else 0) := by
  unfold m_X2_isDigit
  by_cases e : dig c = true
  · have h := dig_b e
    rw [if_pos e, if_neg (show ¬ nI c < (48 : Int32) from nI_nlt (b := 48) (by omega) (by omega)), if_neg (show ¬ (57 : Int32) < nI c from nI_nlt (a := 57) (by omega) (by omega))]
  · rw [if_neg e]
    rcases dig_n e with h | h
    · rw [if_pos (show nI c < (48 : Int32) from nI_lt (b := 48) (by omega) (by omega))]
    · rw [if_neg (show ¬ nI c < (48 : Int32) from nI_nlt (b := 48) (by omega) (by omega)), if_pos (show (57 : Int32) < nI c from nI_lt (a := 57) (by omega) (by omega))]
theorem xskip_L {L : Nat} {tx : Nat → Nat} (hL : L ≤ 200) (ht : ∀ j : Nat, j < L → tx j ≤ 255) (k0 : St → Option St) : ∀ (d p f : Nat) (S : St), p + d = L → d < f → XT S L tx → S.1 3 1 = nI p →
    ∃ S' : St, m_X2_readToken_L0 k0 f S = k0 S' ∧ S'.1 3 1 = nI (skp tx d p) ∧ GA S S' := by
  intro d
  induction d with
  | zero =>
    intro p f S q1 q2 h hp
    obtain ⟨f, rfl⟩ : ∃ z, f = z + 1 := ⟨f - 1, by omega⟩
    rw [m_X2_readToken_L0, hp, h.1, if_pos (nI_le (by omega) (by omega))]
    exact ⟨S, rfl, hp, GA.rf S⟩
  | succ d ih =>
    intro p f S q1 q2 h hp
    obtain ⟨f, rfl⟩ : ∃ z, f = z + 1 := ⟨f - 1, by omega⟩
    have := ht p (by omega)
    rw [m_X2_readToken_L0, hp, h.1, if_neg (nI_ge (by omega) (by omega)), xLet h hL (by omega)]
    simp only [Option.bind_some, lt_e]
    rw [skp]
    by_cases e : tx p = 32
    · rw [if_neg (fun q => q (show nI (tx p) = (32 : Int32) by rw [e]; rfl)), if_pos e, nI_1]
      obtain ⟨S', w1, w2, w3⟩ := ih (p + 1) f (st_i S 3 1 (nI (p + 1))) (by omega) (by omega) (h.fr (GA.st (by omega))) (by rw [st_s, upd_s])
      exact ⟨S', w1, w2, (GA.st (by omega)).tr w3⟩
    · rw [if_pos (show ¬ nI (tx p) = (32 : Int32) from fun q => e ((nI_eq (b := 32) (by omega) (by omega)).mp q)), if_neg e]
      exact ⟨S, rfl, hp, GA.rf S⟩
theorem min901 {v : Nat} (h : v ≤ 9090) : (if (901 : Int32) < nI v then (901 : Int32) else nI v) = nI (min v 901) := by
  by_cases e : 901 < v
  · rw [if_pos (show (901 : Int32) < nI v from nI_lt (a := 901) e (by omega)), show min v 901 = 901 by omega]
    rfl
  · rw [if_neg (show ¬ (901 : Int32) < nI v from nI_nlt (a := 901) (by omega) (by omega)), show min v 901 = v by omega]
theorem xdig_L {L : Nat} {tx : Nat → Nat} (hL : L ≤ 200) (ht : ∀ j : Nat, j < L → tx j ≤ 255) (k0 : St → Option St) : ∀ (d p v f : Nat) (S : St), p + d = L → d < f → v ≤ 9009 → XT S L tx → S.1 3 1 = nI p → S.1 3 4 = nI (min v 901) →
    ∃ S' : St, m_X2_readDigits_L0 k0 f S = k0 S' ∧ S'.1 3 1 = nI (dgt tx d p v).1 ∧ S'.1 3 4 = nI (min (dgt tx d p v).2 901) ∧ S'.1 3 2 = S.1 3 2 ∧ GA S S' := by
  intro d
  induction d with
  | zero =>
    intro p v f S q1 q2 q3 h hp hv
    obtain ⟨f, rfl⟩ : ∃ z, f = z + 1 := ⟨f - 1, by omega⟩
    rw [m_X2_readDigits_L0, hp, h.1, if_pos (nI_le (by omega) (by omega))]
    exact ⟨S, rfl, hp, hv, rfl, GA.rf S⟩
  | succ d ih =>
    intro p v f S q1 q2 q3 h hp hv
    obtain ⟨f, rfl⟩ : ∃ z, f = z + 1 := ⟨f - 1, by omega⟩
    have := ht p (by omega)
    rw [m_X2_readDigits_L0, hp, h.1, if_neg (nI_ge (by omega) (by omega)), xLet h hL (by omega)]
    simp only [Option.bind_some, lt_e]
    rw [xDig (by omega), dgt]
    simp only [Option.bind_some]
    by_cases e : dig (tx p) = true
    · have hd := dig_b e
      rw [if_pos e, if_pos e, if_neg (show ¬ (1 : Int32) = 0 by decide), hv, show (10 : Int32) = nI 10 from rfl, pk_mul, nI_add, show (48 : Int32) = nI 48 from rfl, pk_sub (by omega), min901 (by omega)]
      have hw : min (min v 901 * 10 + tx p - 48) 901 = min (if 900 < v then v else 10 * v + (tx p - 48)) 901 := by
        by_cases e2 : 900 < v
        · rw [if_pos e2]; omega
        · rw [if_neg e2]; omega
      have hv2 : (if 900 < v then v else 10 * v + (tx p - 48)) ≤ 9009 := by
        by_cases e2 : 900 < v
        · rw [if_pos e2]; exact q3
        · rw [if_neg e2]; omega
      rw [hw]
      have h4 : (st_i S 3 4 (nI (min (if 900 < v then v else 10 * v + (tx p - 48)) 901))).1 3 1 = nI p := by rw [st_s, upd_n (by omega)]; exact hp
      rw [h4, nI_1]
      obtain ⟨S', w1, w2, w3, w4, w5⟩ := ih (p + 1) (if 900 < v then v else 10 * v + (tx p - 48)) f (st_i (st_i S 3 4 (nI (min (if 900 < v then v else 10 * v + (tx p - 48)) 901))) 3 1 (nI (p + 1))) (by omega) (by omega) hv2 (h.fr ((GA.st (by omega)).tr (GA.st (by omega)))) (by rw [st_s, upd_s]) (by rw [st_s, upd_n (by omega), st_s, upd_s])
      exact ⟨S', w1, w2, w3, by rw [w4, st_s, upd_n (by omega), st_s, upd_n (by omega)], ((GA.st (by omega)).tr (GA.st (by omega))).tr w5⟩
    · rw [if_neg e, if_neg e, if_pos rfl]
      exact ⟨S, rfl, hp, hv, rfl, GA.rf S⟩
/-- the class's name for a token -/
def cKD (L : Nat) (tx : Nat → Nat) (p : Nat) : Int32 := if tKD L tx p = 0 then -1 else if tKD L tx p = 2 then -3 else if tKD L tx p = 4 then -2 else nI (tVL L tx p)
theorem rt_spec {L : Nat} {tx : Nat → Nat} {S : St} {p fu : Nat} (hf : 300 ≤ fu) (hL : L ≤ 200) (ht : ∀ j : Nat, j < L → tx j ≤ 255) (hp : p ≤ L) (h : XT S L tx) (h4 : S.1 3 1 = nI p) : ∃ S' : St, m_X2_readToken fu S = some S' ∧ S'.1 3 1 = nI (tNX L tx p) ∧ S'.1 3 2 = nI (tST L tx p) ∧ S'.1 3 3 = cKD L tx p ∧ (tKD L tx p = 2 → S'.1 3 4 = nI (tVL L tx p)) ∧ GA S S' := by
  obtain ⟨S1, a1, a2, a3⟩ := xskip_L hL ht (m_X2_readToken_r0 fu) (L - p) p fu S (by omega) (by omega) h h4
  have hs := tST_le (tx := tx) hp
  have a2' : S1.1 3 1 = nI (tST L tx p) := a2
  have hM := h.fr a3
  unfold m_X2_readToken
  rw [a1]
  unfold m_X2_readToken_r0
  simp only [lt_e]
  rw [a2']
  have b4 : (st_i S1 3 2 (nI (tST L tx p))).1 3 1 = nI (tST L tx p) := by rw [st_s, upd_n (by omega)]; exact a2'
  have b2 : (st_i S1 3 2 (nI (tST L tx p))).1 3 2 = nI (tST L tx p) := by rw [st_s, upd_s]
  have hM2 : XT (st_i S1 3 2 (nI (tST L tx p))) L tx := hM.fr (GA.st (by omega))
  rw [b4, hM2.1]
  by_cases e : L ≤ tST L tx p
  · have hk : tKD L tx p = 0 := by unfold tKD; rw [if_pos e]
    rw [if_neg (nI_nlt e (by omega))]
    refine ⟨_, rfl, ?_, ?_, ?_, fun q => by omega, a3.tr ((GA.st (by omega)).tr (GA.st (by omega)))⟩
    · rw [st_s, upd_n (by omega), b4]; unfold tNX; rw [if_pos e]
    · rw [st_s, upd_n (by omega), b2]
    · rw [st_s, upd_s]; unfold cKD; rw [if_pos hk]
  · have hc := ht (tST L tx p) (by omega)
    rw [if_pos (nI_lt (by omega) (by omega)), xLet hM2 hL (by omega)]
    simp only [Option.bind_some]
    rw [xDig hc]
    simp only [Option.bind_some]
    by_cases e2 : dig (tx (tST L tx p)) = true
    · rw [if_pos e2, if_neg (show ¬ (1 : Int32) = 0 by decide)]
      unfold m_X2_readDigits
      rw [b2, xLet hM2 hL (by omega)]
      simp only [Option.bind_some, lt_e]
      have hz : (if ¬ nI (tx (tST L tx p)) = (48 : Int32) then some (0 : Int32) else some 1 : Option Int32) = some (if tx (tST L tx p) = 48 then 1 else 0) := by
        by_cases z : tx (tST L tx p) = 48
        · rw [if_neg (fun q => q (show nI (tx (tST L tx p)) = (48 : Int32) by rw [z]; rfl)), if_pos z]
        · rw [if_pos (show ¬ nI (tx (tST L tx p)) = (48 : Int32) from fun q => z ((nI_eq (b := 48) (by omega) (by omega)).mp q)), if_neg z]
      rw [hz]
      simp only [Option.bind_some]
      have b4' : (st_i (st_i S1 3 2 (nI (tST L tx p))) 3 4 0).1 3 1 = nI (tST L tx p) := by rw [st_s, upd_n (by omega)]; exact b4
      obtain ⟨S2, c1, c2, c3, c4, c5⟩ := xdig_L hL ht (m_X2_readDigits_r0 (if tx (tST L tx p) = 48 then 1 else 0)) (L - tST L tx p) (tST L tx p) 0 fu (st_i (st_i S1 3 2 (nI (tST L tx p))) 3 4 0) (by omega) (by omega) (by omega) (hM2.fr (GA.st (by omega))) b4' (by rw [st_s, upd_s]; rfl)
      have c6 : S2.1 3 2 = nI (tST L tx p) := by rw [c4, st_s, upd_n (by omega), st_s, upd_s]
      have hv := dgt_v tx (L - tST L tx p) (tST L tx p) 0 (by omega)
      have hn := dgt_le tx (L - tST L tx p) (tST L tx p) 0
      rw [c1]
      unfold m_X2_readDigits_r0
      rw [c2, c3, c6, pk_sub hn.1]
      have hk1 : (if (if tx (tST L tx p) = 48 then (1 : Int32) else 0) = 0 then some (0 : Int32) else if nI ((dgt tx (L - tST L tx p) (tST L tx p) 0).1 - tST L tx p) ≤ 1 then some 0 else some 1 : Option Int32) = some (if tx (tST L tx p) = 48 ∧ 1 < (dgt tx (L - tST L tx p) (tST L tx p) 0).1 - tST L tx p then 1 else 0) := by
        by_cases z2 : tx (tST L tx p) = 48
        · rw [if_pos z2, if_neg (show ¬ (1 : Int32) = 0 by decide)]
          by_cases z3 : 1 < (dgt tx (L - tST L tx p) (tST L tx p) 0).1 - tST L tx p
          · rw [if_neg (show ¬ nI ((dgt tx (L - tST L tx p) (tST L tx p) 0).1 - tST L tx p) ≤ (1 : Int32) from nI_ge (a := 1) z3 (by omega)), if_pos ⟨z2, z3⟩]
          · rw [if_pos (show nI ((dgt tx (L - tST L tx p) (tST L tx p) 0).1 - tST L tx p) ≤ (1 : Int32) from nI_le (b := 1) (by omega) (by omega)), if_neg (fun q => z3 q.2)]
        · rw [if_neg z2, if_pos rfl, if_neg (fun q => z2 q.1)]
      rw [hk1]
      simp only [Option.bind_some, lt_e]
      have hk : (if ¬ (if tx (tST L tx p) = 48 ∧ 1 < (dgt tx (L - tST L tx p) (tST L tx p) 0).1 - tST L tx p then (1 : Int32) else 0) = 0 then some (-2 : Int32) else if nI (min (dgt tx (L - tST L tx p) (tST L tx p) 0).2 901) ≤ 900 then some (-3) else some (-2) : Option Int32) = some (cKD L tx p) ∧ (tKD L tx p = 2 → (dgt tx (L - tST L tx p) (tST L tx p) 0).2 ≤ 900) := by
        by_cases z1 : tx (tST L tx p) = 48 ∧ 1 < (dgt tx (L - tST L tx p) (tST L tx p) 0).1 - tST L tx p
        · have hk : tKD L tx p = 4 := by
            unfold tKD tDG
            rw [if_neg e, if_pos e2, if_pos (Or.inr z1)]
          unfold cKD
          rw [hk, if_pos z1, if_pos (show ¬ (1 : Int32) = 0 by decide)]
          exact ⟨rfl, fun q => by omega⟩
        · rw [if_neg z1, if_neg (fun q => q rfl)]
          by_cases z2 : 900 < (dgt tx (L - tST L tx p) (tST L tx p) 0).2
          · have hk : tKD L tx p = 4 := by
              unfold tKD tDG
              rw [if_neg e, if_pos e2, if_pos (Or.inl z2)]
            unfold cKD
            rw [hk, show min (dgt tx (L - tST L tx p) (tST L tx p) 0).2 901 = 901 by omega, if_neg (by decide)]
            exact ⟨rfl, fun q => by omega⟩
          · have hk : tKD L tx p = 2 := by
              unfold tKD tDG
              rw [if_neg e, if_pos e2, if_neg (fun q => q.elim z2 z1)]
            unfold cKD
            rw [hk, if_pos (show nI (min (dgt tx (L - tST L tx p) (tST L tx p) 0).2 901) ≤ (900 : Int32) from nI_le (b := 900) (by omega) (by omega))]
            exact ⟨rfl, fun q => by omega⟩
      rw [hk.1]
      simp only [Option.bind_some]
      refine ⟨_, rfl, ?_, ?_, ?_, fun q => ?_, a3.tr ((GA.st (by omega)).tr ((GA.st (by omega)).tr (c5.tr (GA.st (by omega)))))⟩
      · rw [st_s, upd_n (by omega), c2]; unfold tNX tDG; rw [if_neg e, if_pos e2]
      · rw [st_s, upd_n (by omega)]; exact c6
      · rw [st_s, upd_s]
      · have := hk.2 q
        rw [st_s, upd_n (by omega), c3]; unfold tVL tDG; rw [if_pos e2, show min (dgt tx (L - tST L tx p) (tST L tx p) 0).2 901 = (dgt tx (L - tST L tx p) (tST L tx p) 0).2 by omega]
    · rw [if_neg e2, if_pos rfl]
      have hk0 : tKD L tx p = sgn (tx (tST L tx p)) := by unfold tKD; rw [if_neg e, if_neg e2]
      have hv0 : tVL L tx p = tx (tST L tx p) := by unfold tVL; rw [if_neg e2]
      have hk : ((m_X2_isSign (nI (tx (tST L tx p)))).bind fun x12 => (if x12 = 0 then some (-2) else some (nI (tx (tST L tx p))) : Option Int32)) = some (cKD L tx p) ∧ tKD L tx p ≠ 2 := by
        unfold cKD
        rw [hk0, hv0]
        exact (show ∀ c : Nat, c < 256 → ((m_X2_isSign (nI c)).bind fun x12 => (if x12 = 0 then some (-2) else some (nI c) : Option Int32)) = some (if sgn c = 0 then -1 else if sgn c = 2 then -3 else if sgn c = 4 then -2 else nI c) ∧ sgn c ≠ 2 by decide +kernel) _ (by omega)
      have hk2 : ∀ F : Int32 → Option St, ((m_X2_isSign (nI (tx (tST L tx p)))).bind fun x12 => (if x12 = 0 then some (-2) else some (nI (tx (tST L tx p))) : Option Int32).bind F) = F (cKD L tx p) := by
        intro F
        rw [← Option.bind_assoc, hk.1]
        rfl
      rw [hk2]
      refine ⟨_, rfl, ?_, ?_, ?_, fun q => absurd q hk.2, a3.tr ((GA.st (by omega)).tr ((GA.st (by omega)).tr (GA.st (by omega))))⟩
      · rw [st_s, upd_n (by omega), st_s, upd_s, nI_1]; unfold tNX; rw [if_neg e, if_neg e2]
      · rw [st_s, upd_n (by omega), st_s, upd_n (by omega)]; exact b2
      · rw [st_s, upd_s]
