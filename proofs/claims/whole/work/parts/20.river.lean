/-! river: all items, and what is told -/
theorem river_bad {T0 T : St} {f fu g : Nat} (h : BAD T0 f T) (x : Int32) : m_X9_river_L0 fu (m_X9_river_r0 fu) (g + 1) x T = some (-10 - nI f, T) := by
  have hb := h.1
  rw [m_X9_river_L0, mIll h.2.1 (by omega)]
  simp only [Option.bind_some, if_true]
  unfold m_X9_river_r0
  rw [mIll h.2.1 (by omega)]
  simp only [Option.bind_some, not_true_eq_false, if_false]
  rw [h.2.1]
theorem fl_all : ∀ bT cT : Bool, ((nI (n01 bT + 2 * n01 cT) &&& (2 : Int32)) = 0 ↔ cT = false) ∧ ((nI (n01 bT + 2 * n01 cT) &&& (1 : Int32)) = 0 ↔ bT = false) := by decide +kernel
/-- whether the reference takes the sign -/
def rC (S11 : St) : Option Int32 := if ¬ (S11.1 0 5) = (1 : Int32) then
      (some (0 : Int32))
      else
      (if ¬ (S11.1 0 7) = (114 : Int32) then
      (if ¬ (S11.1 0 7) = (98 : Int32) then
      (if ¬ ((S11.1 0 15) &&& (2 : Int32)) = (0 : Int32) then
      (some (0 : Int32))
      else
      (some (1 : Int32)))
      else
      (if ¬ ((S11.1 0 15) &&& (1 : Int32)) = (0 : Int32) then
      (some (0 : Int32))
      else
      (some (1 : Int32))))
      else
      (if (8 : Int32) ≤ (S11.1 2 1) then
      (some (0 : Int32))
      else
      (some (1 : Int32))))
/-- whether the class reads what its sign asks -/
def xOr (fu : Nat) (S12 : St) : Option (Int32 × St) := if ¬ (S12.1 3 3) = (114 : Int32) then
      (if ¬ (S12.1 3 3) = (98 : Int32) then
      (if ¬ (S12.1 3 3) = (99 : Int32) then
      (some ((0 : Int32), S12))
      else
      (ob2 (m_X2_readCoins fu S12) fun x23 S24 =>
      if x23 = (0 : Int32) then
      (some ((0 : Int32), S24))
      else
      (some ((1 : Int32), S24))))
      else
      (ob2 (m_X2_readBarrels fu S12) fun x27 S28 =>
      if ¬ x27 = (0 : Int32) then
      (some ((1 : Int32), S28))
      else
      (if ¬ (S12.1 3 3) = (99 : Int32) then
      (some ((0 : Int32), S28))
      else
      (ob2 (m_X2_readCoins fu S28) fun x32 S33 =>
      if x32 = (0 : Int32) then
      (some ((0 : Int32), S33))
      else
      (some ((1 : Int32), S33))))))
      else
      (ob2 (m_X2_readRock fu S12) fun x36 S37 =>
      if ¬ x36 = (0 : Int32) then
      (some ((1 : Int32), S37))
      else
      (if ¬ (S12.1 3 3) = (98 : Int32) then
      (if ¬ (S12.1 3 3) = (99 : Int32) then
      (some ((0 : Int32), S37))
      else
      (ob2 (m_X2_readCoins fu S37) fun x42 S43 =>
      if x42 = (0 : Int32) then
      (some ((0 : Int32), S43))
      else
      (some ((1 : Int32), S43))))
      else
      (ob2 (m_X2_readBarrels fu S37) fun x46 S47 =>
      if ¬ x46 = (0 : Int32) then
      (some ((1 : Int32), S47))
      else
      (if ¬ (S12.1 3 3) = (99 : Int32) then
      (some ((0 : Int32), S47))
      else
      (ob2 (m_X2_readCoins fu S47) fun x51 S52 =>
      if x51 = (0 : Int32) then
      (some ((0 : Int32), S52))
      else
      (some ((1 : Int32), S52)))))))
theorem ob_id (o : Option St) : (o.bind fun z => some z) = o := by cases o <;> rfl
theorem riv_no {L : Nat} {tx : Nat → Nat} {T : St} {p fu g : Nat} {k0 : Int32 → St → Option (Int32 × St)} {x : Int32} (hT : TH L tx T p) (h8 : T.1 0 8 = -1) (hk : tKD L tx p ≠ 0) (hs : tST L tx p ≤ 200) (hc : rC T = some 0) : m_X9_river_L0 fu k0 (g + 1) x T = m_X9_river_L0 fu k0 g (x + 1) (st_i T 0 8 (nI (tST L tx p))) := by
  have hk5 : tKD L tx p < 5 := by
    rcases kd_c L tx p with h | h | h | h | h <;> omega
  rw [m_X9_river_L0, mWell h8]
  simp only [Option.bind_some]
  rw [if_neg (show ¬ (1 : Int32) = 0 by decide), hT.2.1, if_neg (nI_n0 (by omega) (by omega)), ← hT.2.1]
  have hb : BAD T (tST L tx p) (st_i T 0 8 (nI (tST L tx p))) := ⟨hs, by rw [st_s, upd_s], FT.st0 (by omega)⟩
  refine (congrArg (fun o : Option Int32 => o.bind fun x24 => ob2 (m_X9_takesToken fu T x24) fun x27 S28 => (m_X9_isWell S28).bind fun x30 => ((if x30 = (0 : Int32) then (some S28) else ((m_X9_readsItem fu S28 x27).bind fun S42 => some S42) : Option St)).bind (endR fu (fun S39 => m_X9_river_L0 fu k0 g (x + 1) S39))) hc).trans ?_
  simp only [Option.bind_some]
  rw [tk_no fu hT h8]
  simp only [ob2_s]
  rw [mIll hb.2.1 (by omega)]
  simp only [Option.bind_some, if_true]
  exact endR_bad fu _ hb
theorem riv_yes {L : Nat} {tx : Nat → Nat} {T T1 : St} {p fu g : Nat} {k0 : Int32 → St → Option (Int32 × St)} {x v : Int32} (hT : TH L tx T p) (h8 : T.1 0 8 = -1) (hk : tKD L tx p ≠ 0) (hc : rC T = some 1) (ht : m_X9_takesToken fu T 1 = some (v, T1)) (h81 : T1.1 0 8 = -1) : m_X9_river_L0 fu k0 (g + 1) x T = (m_X9_readsItem fu T1 v).bind (endR fu (fun S39 => m_X9_river_L0 fu k0 g (x + 1) S39)) := by
  have hk5 : tKD L tx p < 5 := by
    rcases kd_c L tx p with h | h | h | h | h <;> omega
  rw [m_X9_river_L0, mWell h8]
  simp only [Option.bind_some]
  rw [if_neg (show ¬ (1 : Int32) = 0 by decide), hT.2.1, if_neg (nI_n0 (by omega) (by omega)), ← hT.2.1]
  refine (congrArg (fun o : Option Int32 => o.bind fun x24 => ob2 (m_X9_takesToken fu T x24) fun x27 S28 => (m_X9_isWell S28).bind fun x30 => ((if x30 = (0 : Int32) then (some S28) else ((m_X9_readsItem fu S28 x27).bind fun S42 => some S42) : Option St)).bind (endR fu (fun S39 => m_X9_river_L0 fu k0 g (x + 1) S39))) hc).trans ?_
  simp only [Option.bind_some]
  rw [ht]
  simp only [ob2_s]
  rw [mWell h81]
  simp only [Option.bind_some]
  rw [if_neg (show ¬ (1 : Int32) = 0 by decide), ob_id]
theorem cls {fu f item : Nat} {k0 : Int32 → St → Option (Int32 × St)} {S S12 : St} (hi : item ≤ 10) (e : m_X2_readToken fu S = some S12) (hne : ¬ S12.1 3 3 = -1) : m_X2_read_L0 fu k0 (f + 1) (nI item) S = ob2 (xOr fu S12) fun x15 S16 => if ¬ x15 = (0 : Int32) then m_X2_read_L0 fu k0 f (nI (item + 1)) (st_i S16 4 3 (S16.1 4 3 + 1)) else some (S16.1 3 2, S16) := by
  rw [m_X2_read_L0, if_neg (show ¬ (10 : Int32) < nI item from nI_nlt (a := 10) (by omega) (by omega)), e]
  simp only [Option.bind_some]
  rw [if_pos hne, nI_1]
  rfl
theorem xOr_r {fu : Nat} {S S' : St} {v : Int32} (h : S.1 3 3 = 114) (hC : m_X2_readRock fu S = some (v, S')) (hv : v = 0 ∨ v = 1) : xOr fu S = some (v, S') := by
  unfold xOr
  rw [h, if_neg (fun q => q rfl), hC]
  simp only [ob2_s]
  rcases hv with rfl | rfl
  · rw [if_neg (fun q => q rfl), if_pos (by decide), if_pos (by decide)]
  · rw [if_pos (by decide)]
theorem xOr_b {fu : Nat} {S S' : St} {v : Int32} (h : S.1 3 3 = 98) (hC : m_X2_readBarrels fu S = some (v, S')) (hv : v = 0 ∨ v = 1) : xOr fu S = some (v, S') := by
  unfold xOr
  rw [h, if_pos (by decide), if_neg (fun q => q rfl), hC]
  simp only [ob2_s]
  rcases hv with rfl | rfl
  · rw [if_neg (fun q => q rfl), if_pos (by decide)]
  · rw [if_pos (by decide)]
theorem xOr_c {fu : Nat} {S S' : St} {v : Int32} (h : S.1 3 3 = 99) (hC : m_X2_readCoins fu S = some (v, S')) (hv : v = 0 ∨ v = 1) : xOr fu S = some (v, S') := by
  unfold xOr
  rw [h, if_pos (by decide), if_pos (by decide), if_neg (fun q => q rfl), hC]
  simp only [ob2_s]
  rcases hv with rfl | rfl
  · rw [if_pos rfl]
  · rw [if_neg (by decide)]
theorem xOr_n {fu : Nat} {S : St} (h : ¬ S.1 3 3 = 114) (h2 : ¬ S.1 3 3 = 98) (h3 : ¬ S.1 3 3 = 99) : xOr fu S = some (0, S) := by
  unfold xOr
  rw [if_pos h, if_pos h2, if_pos h3]
/-- what one item brings both -/
def BODY (L : Nat) (tx : Nat → Nat) (S0 T0 : St) (fu f g item : Nat) (S T : St) : Prop :=
  (∃ (R' : Nat) (bT' cT' : Bool) (S' T' : St), DAT S0 T0 R' (5 * R') item bT' cT' S' T' ∧ T'.1 0 8 = -1 ∧ m_X2_read_L0 fu m_X2_read_r0 (f + 1) (nI item) S = some (-1, S') ∧ m_X9_river_L0 fu (m_X9_river_r0 fu) (g + 1) (nI item) T = m_X9_river_r0 fu (nI item) T') ∨
  (∃ (y : Nat) (S' T' : St), FS S0 S' ∧ BAD T0 y T' ∧ m_X2_read_L0 fu m_X2_read_r0 (f + 1) (nI item) S = some (nI y, S') ∧ m_X9_river_L0 fu (m_X9_river_r0 fu) (g + 1) (nI item) T = m_X9_river_L0 fu (m_X9_river_r0 fu) g (nI (item + 1)) T') ∨
  (∃ (R' p' : Nat) (bT' cT' : Bool) (S' T' : St), PT L tx p' S' T' ∧ DAT S0 T0 R' (5 * R') (item + 1) bT' cT' S' T' ∧ R' + n01 bT' + n01 cT' = item + 1 ∧ m_X2_read_L0 fu m_X2_read_r0 (f + 1) (nI item) S = m_X2_read_L0 fu m_X2_read_r0 f (nI (item + 1)) S' ∧ m_X9_river_L0 fu (m_X9_river_r0 fu) (g + 1) (nI item) T = m_X9_river_L0 fu (m_X9_river_r0 fu) g (nI (item + 1)) T')
theorem body_of {L : Nat} {tx : Nat → Nat} {S0 T0 S T S12 T1 : St} {fu f g item p : Nat} {v : Int32} {C : Option (Int32 × St)} (hi : item ≤ 10) (e : m_X2_readToken fu S = some S12) (hne : ¬ S12.1 3 3 = -1) (hT : TH L tx T p) (h8 : T.1 0 8 = -1) (hk : tKD L tx p ≠ 0) (hc : rC T = some 1) (ht : m_X9_takesToken fu T 1 = some (v, T1)) (h81 : T1.1 0 8 = -1) (hor : ∀ (w : Int32) (S' : St), C = some (w, S') → (w = 0 ∨ w = 1) → xOr fu S12 = some (w, S')) (H : ITM L tx S0 T0 fu (item + 1) item C (m_X9_readsItem fu T1 v)) : BODY L tx S0 T0 fu f g item S T := by
  have r1 := riv_yes (g := g) (k0 := m_X9_river_r0 fu) (x := nI item) hT h8 hk hc ht h81
  have c1 := cls (f := f) (k0 := m_X2_read_r0) hi e hne
  rw [nI_1] at r1
  rcases H with ⟨y, S', T', x1, x2, x3, x4, x5⟩ | ⟨p', S', T', R, bT, cT, x1, x2, x3, x4, x5⟩
  · rw [x5] at r1
    rw [hor _ _ x4 (Or.inl rfl)] at c1
    refine Or.inr (Or.inl ⟨y, S', T', x1, x3, c1.trans ?_, r1⟩)
    simp only [ob2_s, not_true_eq_false, if_false]
    rw [x2]
  · rw [x5] at r1
    rw [hor _ _ x4 (Or.inr rfl)] at c1
    obtain ⟨P1, P2, P3, P4⟩ := x1
    obtain ⟨d1, d2, d3, d4, d5, d6, d7, d8, d9, d10, d11, d12⟩ := x2
    refine Or.inr (Or.inr ⟨R, p', bT, cT, st_i S' 4 3 (nI (item + 1)), T', ⟨P1, ?_, P3, P4⟩, ⟨?_, d2, d3, ?_, ?_, ?_, ?_, ?_, d9, fun r w q1 q2 => ?_, d11.tr (FS.st (by omega)), d12⟩, x3, c1.trans ?_, r1⟩)
    · rw [st_n (by omega)]; exact P2
    · rw [st_s, upd_n (by omega)]; exact d1
    · rw [st_s, upd_n (by omega)]; exact d4
    · rw [st_s, upd_n (by omega)]; exact d5
    · rw [st_s, upd_s]
    · rw [st_n (by omega)]; exact d7
    · rw [st_n (by omega)]; exact d8
    · rw [st_n (by omega)]; exact d10 r w q1 q2
    · simp only [ob2_s]
      rw [if_pos (show ¬ (1 : Int32) = 0 by decide), d6, nI_1]
theorem body_no {L : Nat} {tx : Nat → Nat} {S0 T0 S T S12 : St} {fu f g item p : Nat} (hi : item ≤ 10) (e : m_X2_readToken fu S = some S12) (hne : ¬ S12.1 3 3 = -1) (hT : TH L tx T p) (h8 : T.1 0 8 = -1) (hk : tKD L tx p ≠ 0) (hs : tST L tx p ≤ 200) (h2 : S12.1 3 2 = nI (tST L tx p)) (hF : FS S0 S12) (hG : FT T0 T) (hc : rC T = some 0) (hor : xOr fu S12 = some (0, S12)) : BODY L tx S0 T0 fu f g item S T := by
  have r1 := riv_no (fu := fu) (g := g) (k0 := m_X9_river_r0 fu) (x := nI item) hT h8 hk hs hc
  have c1 := cls (f := f) (k0 := m_X2_read_r0) hi e hne
  rw [nI_1] at r1
  rw [hor] at c1
  refine Or.inr (Or.inl ⟨tST L tx p, S12, _, hF, ⟨hs, by rw [st_s, upd_s], hG.tr (FT.st0 (by omega))⟩, c1.trans ?_, r1⟩)
  simp only [ob2_s, not_true_eq_false, if_false]
  rw [h2]
theorem body {L : Nat} {tx : Nat → Nat} {S0 T0 S T : St} {fu f g item R p : Nat} {bT cT : Bool} (hf : 300 ≤ fu) (hL : L ≤ 200) (ht : ∀ j : Nat, j < L → tx j ≤ 255) (hX : XT S0 L tx) (hM : MT T0 L tx) (hi : item ≤ 10) (hr : R + n01 bT + n01 cT = item) (P : PT L tx p S T) (D : DAT S0 T0 R (5 * R) item bT cT S T) : BODY L tx S0 T0 fu f g item S T := by
  obtain ⟨P1, P2, P3, P4⟩ := P
  have hX1 := D.2.2.2.2.2.2.2.2.2.2.1.xt hX
  have hM1 := D.2.2.2.2.2.2.2.2.2.2.2.mt hM
  have hs : tST L tx p ≤ 200 := by have := tST_le (tx := tx) P1; omega
  obtain ⟨S12, e1, e2, e3, e4, -, e6⟩ := rt_spec hf hL ht P1 hX1 P2
  have hFS := D.2.2.2.2.2.2.2.2.2.2.1.tr (FS.ga e6)
  have hFT := D.2.2.2.2.2.2.2.2.2.2.2
  have hno : tKD L tx p ≠ 0 → tKD L tx p ≠ 1 → tKD L tx p < 5 → ¬ cKD L tx p = -1 → ¬ cKD L tx p = 114 → ¬ cKD L tx p = 98 → ¬ cKD L tx p = 99 → BODY L tx S0 T0 fu f g item S T := by
    intro k0 k1 k5 c0 c1 c2 c3
    refine body_no hi e1 (by rw [e4]; exact c0) P3 P4 k0 hs e3 hFS hFT ?_ (xOr_n (by rw [e4]; exact c1) (by rw [e4]; exact c2) (by rw [e4]; exact c3))
    unfold rC
    rw [P3.2.1, if_pos (show ¬ nI (tKD L tx p) = (1 : Int32) from fun q => k1 ((nI_eq (b := 1) (by omega) (by omega)).mp q))]
  rcases kd_c L tx p with ⟨h1, h2⟩ | ⟨h1, h2, h3⟩ | ⟨h1, h2⟩ | ⟨h1, h2, h3⟩ | ⟨h1, h2, h3⟩
  · refine Or.inl ⟨R, bT, cT, S12, T, D.fr e6 (FA.rf T), P4, ?_, ?_⟩
    · rw [m_X2_read_L0, if_neg (show ¬ (10 : Int32) < nI item from nI_nlt (a := 10) (by omega) (by omega)), e1]
      simp only [Option.bind_some]
      rw [e4, if_neg (fun q => q h2)]
    · rw [m_X9_river_L0, mWell P4]
      simp only [Option.bind_some]
      rw [if_neg (show ¬ (1 : Int32) = 0 by decide), P3.2.1, if_pos (show nI (tKD L tx p) = 0 by rw [h1]; rfl)]
  · exact hno (by omega) (by omega) (by omega) (by rw [h2]; decide) (by rw [h2]; decide) (by rw [h2]; decide) (by rw [h2]; decide)
  · exact hno (by omega) (by omega) (by omega) (by rw [h2]; decide) (by rw [h2]; decide) (by rw [h2]; decide) (by rw [h2]; decide)
  · exact hno (by omega) (by omega) (by omega) (by rw [h3]; decide) (by rw [h3]; decide) (by rw [h3]; decide) (by rw [h3]; decide)
  · obtain ⟨T1, t1, t2, t3⟩ := tk_ok hf hL ht P1 hM1 P3 P4 (show tKD L tx p ≠ 0 by omega)
    have t8 : T1.1 0 8 = -1 := by rw [t3.1 8 (by omega)]; exact P4
    have P' : PT L tx (tNX L tx p) S12 T1 := ⟨tNX_le P1, e2, t2, t8⟩
    have D' := D.fr e6 t3
    have hv7 := P3.2.2.2 (show tKD L tx p ≠ 0 by omega)
    have hk1 : ¬ ¬ T.1 0 5 = (1 : Int32) := fun q => q (by rw [P3.2.1, h1]; rfl)
    obtain ⟨f2, f1⟩ := fl_all bT cT
    have h15 := D.2.2.2.2.2.2.2.2.1
    have hk := D.2.1
    have hR8 := D.2.2.1
    rcases h2 with h2 | h2 | h2
    · have ec : S12.1 3 3 = 114 := by rw [e4, h3, h2]; rfl
      have ev : T.1 0 7 = 114 := by rw [hv7, h2]; rfl
      rw [h2] at t1
      by_cases c : R < 8
      · have H := itm_rock hf hL ht hX hM c P' D'
        rw [hr] at H
        refine body_of hi e1 (by rw [ec]; decide) P3 P4 (by omega) ?_ t1 t8 (fun w S' => xOr_r ec) H
        unfold rC
        rw [if_neg hk1, ev, if_neg (fun q => q rfl), hk, if_neg (show ¬ (8 : Int32) ≤ nI R from nI_ge (b := 8) c (by omega))]
      · refine body_no hi e1 (by rw [ec]; decide) P3 P4 (by omega) hs e3 hFS hFT ?_ (xOr_r ec ?_ (Or.inl rfl))
        · unfold rC
          rw [if_neg hk1, ev, if_neg (fun q => q rfl), hk, if_pos (show (8 : Int32) ≤ nI R from nI_le (a := 8) (by omega) (by omega))]
        · unfold m_X2_readRock
          rw [D'.1, if_neg (show ¬ nI R < (8 : Int32) from nI_nlt (b := 8) (by omega) (by omega))]
    · have ec : S12.1 3 3 = 98 := by rw [e4, h3, h2]; rfl
      have ev : T.1 0 7 = 98 := by rw [hv7, h2]; rfl
      rw [h2] at t1
      cases bT with
      | false =>
        have H := itm_b hf hL ht hX hM P' D'
        rw [hr] at H
        refine body_of hi e1 (by rw [ec]; decide) P3 P4 (by omega) ?_ t1 t8 (fun w S' => xOr_b ec) H
        unfold rC
        rw [if_neg hk1, ev, if_pos (by decide), if_neg (fun q => q rfl), h15, if_neg (fun q => q (f1.mpr rfl))]
      | true =>
        refine body_no hi e1 (by rw [ec]; decide) P3 P4 (by omega) hs e3 hFS hFT ?_ (xOr_b ec ?_ (Or.inl rfl))
        · unfold rC
          rw [if_neg hk1, ev, if_pos (by decide), if_neg (fun q => q rfl), h15, if_pos (fun q => absurd (f1.mp q) (by decide))]
        · unfold m_X2_readBarrels
          rw [D'.2.2.2.2.2.2.1, if_pos (by decide)]
    · have ec : S12.1 3 3 = 99 := by rw [e4, h3, h2]; rfl
      have ev : T.1 0 7 = 99 := by rw [hv7, h2]; rfl
      rw [h2] at t1
      cases cT with
      | false =>
        have H := itm_c hf hL ht hX hM P' D'
        rw [hr] at H
        refine body_of hi e1 (by rw [ec]; decide) P3 P4 (by omega) ?_ t1 t8 (fun w S' => xOr_c ec) H
        unfold rC
        rw [if_neg hk1, ev, if_pos (by decide), if_pos (by decide), h15, if_neg (fun q => q (f2.mpr rfl))]
      | true =>
        refine body_no hi e1 (by rw [ec]; decide) P3 P4 (by omega) hs e3 hFS hFT ?_ (xOr_c ec ?_ (Or.inl rfl))
        · unfold rC
          rw [if_neg hk1, ev, if_pos (by decide), if_pos (by decide), h15, if_pos (fun q => absurd (f2.mp q) (by decide))]
        · unfold m_X2_readCoins
          rw [D'.2.2.2.2.2.2.2.1, if_pos (by decide)]
theorem n01_le (b : Bool) : n01 b ≤ 1 := by cases b <;> decide
theorem read_L {L : Nat} {tx : Nat → Nat} {S0 T0 : St} {fu : Nat} (hf : 300 ≤ fu) (hL : L ≤ 200) (ht : ∀ j : Nat, j < L → tx j ≤ 255) (hX : XT S0 L tx) (hM : MT T0 L tx) : ∀ (dd item f g R p : Nat) (bT cT : Bool) (S T : St), item + dd = 10 → dd < f → dd + 1 < g → R + n01 bT + n01 cT = item → PT L tx p S T → DAT S0 T0 R (5 * R) item bT cT S T →
    (∃ (R' it : Nat) (bT' cT' : Bool) (S' T' : St), DAT S0 T0 R' (5 * R') it bT' cT' S' T' ∧ T'.1 0 8 = -1 ∧ m_X2_read_L0 fu m_X2_read_r0 f (nI item) S = some (-1, S') ∧ m_X9_river_L0 fu (m_X9_river_r0 fu) g (nI item) T = m_X9_river_r0 fu (nI it) T') ∨
    (∃ (y : Nat) (S' T' : St), FS S0 S' ∧ BAD T0 y T' ∧ m_X2_read_L0 fu m_X2_read_r0 f (nI item) S = some (nI y, S') ∧ m_X9_river_L0 fu (m_X9_river_r0 fu) g (nI item) T = some (-10 - nI y, T')) := by
  intro dd
  induction dd with
  | zero =>
    intro item f g R p bT cT S T q1 q2 q3 q4 P D
    obtain ⟨f, rfl⟩ : ∃ z, f = z + 1 := ⟨f - 1, by omega⟩
    obtain ⟨g, rfl⟩ : ∃ z, g = z + 2 := ⟨g - 2, by omega⟩
    rcases body (f := f) (g := g + 1) hf hL ht hX hM (by omega) q4 P D with ⟨R', b', c', S', T', x1, x2, x3, x4⟩ | ⟨y, S', T', x1, x2, x3, x4⟩ | ⟨R', p', b', c', S', T', x1, x2, x3, x4, x5⟩
    · exact Or.inl ⟨R', item, b', c', S', T', x1, x2, x3, x4⟩
    · exact Or.inr ⟨y, S', T', x1, x2, x3, x4.trans (river_bad x2 _)⟩
    · have h1 := x2.2.2.1
      have h2 := n01_le b'
      have h3 := n01_le c'
      omega
  | succ dd ih =>
    intro item f g R p bT cT S T q1 q2 q3 q4 P D
    obtain ⟨f, rfl⟩ : ∃ z, f = z + 1 := ⟨f - 1, by omega⟩
    obtain ⟨g, rfl⟩ : ∃ z, g = z + 2 := ⟨g - 2, by omega⟩
    rcases body (f := f) (g := g + 1) hf hL ht hX hM (by omega) q4 P D with ⟨R', b', c', S', T', x1, x2, x3, x4⟩ | ⟨y, S', T', x1, x2, x3, x4⟩ | ⟨R', p', b', c', S', T', x1, x2, x3, x4, x5⟩
    · exact Or.inl ⟨R', item, b', c', S', T', x1, x2, x3, x4⟩
    · exact Or.inr ⟨y, S', T', x1, x2, x3, x4.trans (river_bad x2 _)⟩
    · rw [x4, x5]
      exact ih (item + 1) f (g + 1) R' p' b' c' S' T' (by omega) (by omega) (by omega) x3 x1 x2
