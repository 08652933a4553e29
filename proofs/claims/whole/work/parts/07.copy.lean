/-! Copies of rows; what is remembered, undone, kept, brought back -/
def cpo (S : St) (k p w q n : Nat) : St := (fun a => if a = w then (fun j => if q ≤ j ∧ j < q + n then S.1 k (p + (j - q)) else S.1 w j) else S.1 a, S.2)
theorem cpo_0 (S : St) (k p w q : Nat) : cpo S k p w q 0 = S := by
  refine Prod.ext ?_ rfl
  funext a j
  show (if a = w then (fun j => if q ≤ j ∧ j < q + 0 then S.1 k (p + (j - q)) else S.1 w j) else S.1 a) j = S.1 a j
  by_cases h : a = w
  · subst h
    rw [if_pos rfl, if_neg (by omega)]
  · rw [if_neg h]
theorem cpo_w (S : St) (k p w q n j : Nat) : (cpo S k p w q n).1 w j = if q ≤ j ∧ j < q + n then S.1 k (p + (j - q)) else S.1 w j := by
  show (if w = w then _ else _ : Nat → Int32) j = _
  rw [if_pos rfl]
theorem cpo_o {S : St} {k p w q n a : Nat} (h : a ≠ w) : (cpo S k p w q n).1 a = S.1 a := if_neg h
theorem cpo_rd {S : St} {k p w q i : Nat} (h : k ≠ w ∨ q ≤ p) : (cpo S k p w q i).1 k (p + i) = S.1 k (p + i) := by
  by_cases e : k = w
  · subst e
    rw [cpo_w, if_neg (by omega)]
  · rw [cpo_o e]
theorem cpo_s {S : St} {k p w q i : Nat} (h : k ≠ w ∨ q ≤ p) : st_i (cpo S k p w q i) w (q + i) ((cpo S k p w q i).1 k (p + i)) = cpo S k p w q (i + 1) := by
  rw [cpo_rd h]
  refine Prod.ext ?_ rfl
  funext a j
  by_cases e : a = w
  · subst e
    rw [st_s, upd_e, cpo_w, cpo_w]
    by_cases e2 : j = q + i
    · subst e2
      rw [if_pos rfl, if_pos (by omega), Nat.add_sub_cancel_left]
    · rw [if_neg e2]
      by_cases e3 : q ≤ j ∧ j < q + i
      · rw [if_pos e3, if_pos (by omega)]
      · rw [if_neg e3, if_neg (by omega)]
  · rw [st_n e, cpo_o e, cpo_o e]
theorem xcopy_L {k w n : Nat} (hkw : k ≠ w) (hn : n < 2 ^ 31 - 1) (S : St) (k0 : Int32 → St → Option St) : ∀ d i f : Nat, i + d = n → d < f → m_X5_copy_L0 k n w n k0 f (nI i) (cpo S k 0 w 0 i) = k0 (nI n) (cpo S k 0 w 0 n) := by
  intro d
  induction d with
  | zero =>
    intro i f h1 h2
    obtain ⟨f, rfl⟩ : ∃ g, f = g + 1 := ⟨f - 1, by omega⟩
    obtain rfl : i = n := by omega
    rw [m_X5_copy_L0_s, if_pos (show Int32.ofNat i ≤ nI i from nI_le (Nat.le_refl _) (by omega))]
  | succ d ih =>
    intro i f h1 h2
    obtain ⟨f, rfl⟩ : ∃ g, f = g + 1 := ⟨f - 1, by omega⟩
    rw [m_X5_copy_L0_s, if_neg (show ¬ Int32.ofNat n ≤ nI i from nI_ge (by omega) (by omega)), if_neg (show ¬ Int32.ofNat n ≤ nI i from nI_ge (by omega) (by omega)), ald_n (by omega) (by omega)]
    simp only [Option.bind_some]
    rw [ast_n (by omega) (by omega)]
    simp only [Option.bind_some]
    have e := cpo_s (S := S) (k := k) (p := 0) (w := w) (q := 0) (i := i) (Or.inl hkw)
    rw [Nat.zero_add] at e
    rw [e, show nI i + (1 : Int32) = nI (i + 1) from nI_1 i]
    exact ih (i + 1) f (by omega) (by omega)
theorem xcopy {fu k w n : Nat} (S : St) (hkw : k ≠ w) (hn : n < 2 ^ 31 - 1) (hf : n < fu) : m_X5_copy fu S k n w n = some (cpo S k 0 w 0 n) := by
  unfold m_X5_copy
  have h := xcopy_L hkw hn S m_X5_copy_r0 n 0 fu (by omega) hf
  rw [cpo_0] at h
  exact h
theorem masNow_L (S : St) (k0 : Int32 → St → Option St) : ∀ d i f : Nat, i + d = 18 → d < f → m_X9_asNow_L0 k0 f (nI i) (cpo S 8 0 9 0 i) = k0 (nI 18) (cpo S 8 0 9 0 18) := by
  intro d
  induction d with
  | zero =>
    intro i f h1 h2
    obtain ⟨f, rfl⟩ : ∃ g, f = g + 1 := ⟨f - 1, by omega⟩
    obtain rfl : i = 18 := by omega
    rw [m_X9_asNow_L0_s, if_pos (show (18 : Int32) ≤ nI 18 by decide)]
  | succ d ih =>
    intro i f h1 h2
    obtain ⟨f, rfl⟩ : ∃ g, f = g + 1 := ⟨f - 1, by omega⟩
    rw [m_X9_asNow_L0_s, if_neg (show ¬ (18 : Int32) ≤ nI i from nI_ge (b := 18) (by omega) (by omega)), ald_n (by omega) (by omega)]
    simp only [Option.bind_some]
    rw [ast_n (by omega) (by omega)]
    simp only [Option.bind_some]
    have e := cpo_s (S := S) (k := 8) (p := 0) (w := 9) (q := 0) (i := i) (Or.inl (by omega))
    rw [Nat.zero_add] at e
    rw [e, show nI i + (1 : Int32) = nI (i + 1) from nI_1 i]
    exact ih (i + 1) f (by omega) (by omega)
theorem masNow {fu : Nat} (T : St) (hf : 18 < fu) : m_X9_asNow fu T = some (cpo T 8 0 9 0 18) := by
  unfold m_X9_asNow
  have h := masNow_L T m_X9_asNow_r0 18 0 fu (by omega) hf
  rw [cpo_0] at h
  exact h
theorem ix18 (a i : Nat) : (18 : Int32) * nI a + nI i = nI (18 * a + i) := by
  rw [show (18 : Int32) = nI 18 from rfl, pk_mul, nI_add]
theorem mback_L {a : Nat} (ha : a < 2) (S : St) (k0 : Int32 → St → Option (Int32 × St)) : ∀ d i f : Nat, i + d = 18 → d < f → m_X9_back_L0 (nI a) k0 f (nI i) (cpo S 10 (18 * a) 8 0 i) = k0 (nI 18) (cpo S 10 (18 * a) 8 0 18) := by
  intro d
  induction d with
  | zero =>
    intro i f h1 h2
    obtain ⟨f, rfl⟩ : ∃ g, f = g + 1 := ⟨f - 1, by omega⟩
    obtain rfl : i = 18 := by omega
    rw [m_X9_back_L0_s, if_pos (show (18 : Int32) ≤ nI 18 by decide)]
  | succ d ih =>
    intro i f h1 h2
    obtain ⟨f, rfl⟩ : ∃ g, f = g + 1 := ⟨f - 1, by omega⟩
    rw [m_X9_back_L0_s, if_neg (show ¬ (18 : Int32) ≤ nI i from nI_ge (b := 18) (by omega) (by omega)), ix18, ald_n (by omega) (by omega)]
    simp only [Option.bind_some]
    rw [ast_n (by omega) (by omega)]
    simp only [Option.bind_some]
    have e := cpo_s (S := S) (k := 10) (p := 18 * a) (w := 8) (q := 0) (i := i) (Or.inl (by omega))
    rw [Nat.zero_add] at e
    rw [e, show nI i + (1 : Int32) = nI (i + 1) from nI_1 i]
    exact ih (i + 1) f (by omega) (by omega)
theorem mkeep_L {a : Nat} (ha : a < 2) (S : St) (k0 : Int32 → St → Option (Int32 × St)) : ∀ d i f : Nat, i + d = 18 → d < f → m_X9_keep_L0 (nI a) k0 f (nI i) (cpo S 8 0 10 (18 * a) i) = k0 (nI 18) (cpo S 8 0 10 (18 * a) 18) := by
  intro d
  induction d with
  | zero =>
    intro i f h1 h2
    obtain ⟨f, rfl⟩ : ∃ g, f = g + 1 := ⟨f - 1, by omega⟩
    obtain rfl : i = 18 := by omega
    rw [m_X9_keep_L0_s, if_pos (show (18 : Int32) ≤ nI 18 by decide)]
  | succ d ih =>
    intro i f h1 h2
    obtain ⟨f, rfl⟩ : ∃ g, f = g + 1 := ⟨f - 1, by omega⟩
    rw [m_X9_keep_L0_s, if_neg (show ¬ (18 : Int32) ≤ nI i from nI_ge (b := 18) (by omega) (by omega)), ald_n (by omega) (by omega)]
    simp only [Option.bind_some]
    rw [ix18, ast_n (by omega) (by omega)]
    simp only [Option.bind_some]
    have e := cpo_s (S := S) (k := 8) (p := 0) (w := 10) (q := 18 * a) (i := i) (Or.inl (by omega))
    rw [Nat.zero_add] at e
    rw [e, show nI i + (1 : Int32) = nI (i + 1) from nI_1 i]
    exact ih (i + 1) f (by omega) (by omega)
theorem mundo_L {u : Nat} (hu : u < 10) (S : St) (h21 : S.1 0 21 = nI u) (k0 : Int32 → St → Option (Int32 × St)) : ∀ d i f : Nat, i + d = 18 → d < f → m_X9_undo_L0 k0 f (nI i) (cpo S 12 (18 * u) 8 0 i) = k0 (nI 18) (cpo S 12 (18 * u) 8 0 18) := by
  intro d
  induction d with
  | zero =>
    intro i f h1 h2
    obtain ⟨f, rfl⟩ : ∃ g, f = g + 1 := ⟨f - 1, by omega⟩
    obtain rfl : i = 18 := by omega
    rw [m_X9_undo_L0_s, if_pos (show (18 : Int32) ≤ nI 18 by decide)]
  | succ d ih =>
    intro i f h1 h2
    obtain ⟨f, rfl⟩ : ∃ g, f = g + 1 := ⟨f - 1, by omega⟩
    rw [m_X9_undo_L0_s, if_neg (show ¬ (18 : Int32) ≤ nI i from nI_ge (b := 18) (by omega) (by omega)), cpo_o (a := 0) (by omega), h21, ix18, ald_n (by omega) (by omega)]
    simp only [Option.bind_some]
    rw [ast_n (by omega) (by omega)]
    simp only [Option.bind_some]
    have e := cpo_s (S := S) (k := 12) (p := 18 * u) (w := 8) (q := 0) (i := i) (Or.inl (by omega))
    rw [Nat.zero_add] at e
    rw [e, show nI i + (1 : Int32) = nI (i + 1) from nI_1 i]
    exact ih (i + 1) f (by omega) (by omega)
theorem mnotes_L0 {u : Nat} (hu : u < 10) (S : St) (h21 : S.1 0 21 = nI u) (k0 : Int32 → St → Option St) : ∀ d i f : Nat, i + d = 18 → d < f → m_X9_notes_L0 k0 f (nI i) (cpo S 8 0 12 (18 * u) i) = k0 (nI 18) (cpo S 8 0 12 (18 * u) 18) := by
  intro d
  induction d with
  | zero =>
    intro i f h1 h2
    obtain ⟨f, rfl⟩ : ∃ g, f = g + 1 := ⟨f - 1, by omega⟩
    obtain rfl : i = 18 := by omega
    rw [m_X9_notes_L0_s, if_pos (show (18 : Int32) ≤ nI 18 by decide)]
  | succ d ih =>
    intro i f h1 h2
    obtain ⟨f, rfl⟩ : ∃ g, f = g + 1 := ⟨f - 1, by omega⟩
    rw [m_X9_notes_L0_s, if_neg (show ¬ (18 : Int32) ≤ nI i from nI_ge (b := 18) (by omega) (by omega)), ald_n (by omega) (by omega)]
    simp only [Option.bind_some]
    rw [cpo_o (a := 0) (by omega), h21, ix18, ast_n (by omega) (by omega)]
    simp only [Option.bind_some]
    have e := cpo_s (S := S) (k := 8) (p := 0) (w := 12) (q := 18 * u) (i := i) (Or.inl (by omega))
    rw [Nat.zero_add] at e
    rw [e, show nI i + (1 : Int32) = nI (i + 1) from nI_1 i]
    exact ih (i + 1) f (by omega) (by omega)
theorem mnotes_L1 (S : St) (k0 : Int32 → St → Option St) : ∀ d i f : Nat, i + d = 162 → d < f → m_X9_notes_L1 k0 f (nI i) (cpo S 12 18 12 0 i) = k0 (nI 162) (cpo S 12 18 12 0 162) := by
  intro d
  induction d with
  | zero =>
    intro i f h1 h2
    obtain ⟨f, rfl⟩ : ∃ g, f = g + 1 := ⟨f - 1, by omega⟩
    obtain rfl : i = 162 := by omega
    rw [m_X9_notes_L1_s, if_pos (show (162 : Int32) ≤ nI 162 by decide)]
  | succ d ih =>
    intro i f h1 h2
    obtain ⟨f, rfl⟩ : ∃ g, f = g + 1 := ⟨f - 1, by omega⟩
    rw [m_X9_notes_L1_s, if_neg (show ¬ (162 : Int32) ≤ nI i from nI_ge (b := 162) (by omega) (by omega)), show nI i + (18 : Int32) = nI (18 + i) by rw [show (18 : Int32) = nI 18 from rfl, nI_add, Nat.add_comm], ald_n (by omega) (by omega)]
    simp only [Option.bind_some]
    rw [ast_n (by omega) (by omega)]
    simp only [Option.bind_some]
    have e := cpo_s (S := S) (k := 12) (p := 18) (w := 12) (q := 0) (i := i) (Or.inr (by omega))
    rw [Nat.zero_add] at e
    rw [e, show nI i + (1 : Int32) = nI (i + 1) from nI_1 i]
    exact ih (i + 1) f (by omega) (by omega)
/-! one boat becomes another -/
def bcS (S : St) (b o : Nat) : St := (fun a => if a = b then (fun j => if j < 6 then S.1 o j else S.1 b j) else if a = b + 1 then (fun j => if j < 8 then S.1 (o + 1) j else S.1 (b + 1) j) else if a = b + 2 then (fun j => if j < 4 then S.1 (o + 2) j else S.1 (b + 2) j) else S.1 a, S.2)
def b6S (S : St) (b o : Nat) : St := (fun a => if a = b then (fun j => if j < 6 then S.1 o j else S.1 b j) else S.1 a, S.2)
theorem b6_b {S : St} {b o j : Nat} : (b6S S b o).1 b j = if j < 6 then S.1 o j else S.1 b j := by
  show (if b = b then _ else _ : Nat → Int32) j = _
  rw [if_pos rfl]
theorem b6_o {S : St} {b o a : Nat} (h : a ≠ b) : (b6S S b o).1 a = S.1 a := if_neg h
theorem bc6 {S : St} {b o : Nat} : st_i (st_i (st_i (st_i (st_i (st_i S b 0 (S.1 o 0)) b 1 (S.1 o 1)) b 2 (S.1 o 2)) b 3 (S.1 o 3)) b 4 (S.1 o 4)) b 5 (S.1 o 5) = b6S S b o := by
  refine Prod.ext ?_ rfl
  funext a j
  by_cases e : a = b
  · subst e
    rw [b6_b]
    simp only [st_s, upd_e]
    match j with
    | 0 => rfl
    | 1 => rfl
    | 2 => rfl
    | 3 => rfl
    | 4 => rfl
    | 5 => rfl
    | j + 6 => 
      rw [if_neg (by omega), if_neg (by omega), if_neg (by omega), if_neg (by omega), if_neg (by omega), if_neg (by omega), if_neg (by omega)]
  · rw [b6_o e]
    simp only [st_n e]
theorem bcS_0 {S : St} {b o j : Nat} : (bcS S b o).1 b j = if j < 6 then S.1 o j else S.1 b j := by
  show (if b = b then _ else _ : Nat → Int32) j = _
  rw [if_pos rfl]
theorem bcS_1 {S : St} {b o j : Nat} : (bcS S b o).1 (b + 1) j = if j < 8 then S.1 (o + 1) j else S.1 (b + 1) j := by
  show (if b + 1 = b then _ else _ : Nat → Int32) j = _
  rw [if_neg (by omega), if_pos rfl]
theorem bcS_2 {S : St} {b o j : Nat} : (bcS S b o).1 (b + 2) j = if j < 4 then S.1 (o + 2) j else S.1 (b + 2) j := by
  show (if b + 2 = b then _ else _ : Nat → Int32) j = _
  rw [if_neg (by omega), if_neg (by omega), if_pos rfl]
theorem bc_b {S : St} {b o j : Nat} (h : j < 6) : (bcS S b o).1 b j = S.1 o j := by
  rw [bcS_0, if_pos h]
theorem bc_b1 {S : St} {b o j : Nat} (h : j < 8) : (bcS S b o).1 (b + 1) j = S.1 (o + 1) j := by
  rw [bcS_1, if_pos h]
theorem bc_b2 {S : St} {b o j : Nat} (h : j < 4) : (bcS S b o).1 (b + 2) j = S.1 (o + 2) j := by
  rw [bcS_2, if_pos h]
theorem bc_o {S : St} {b o a : Nat} (h : a ≠ b) (h1 : a ≠ b + 1) (h2 : a ≠ b + 2) : (bcS S b o).1 a = S.1 a := by
  show (if a = b then _ else _ : Nat → Int32) = _
  rw [if_neg h, if_neg h1, if_neg h2]
theorem xbecome {fu b o : Nat} (S : St) (h : b + 2 < o ∨ o + 2 < b) (hf : 8 < fu) : m_X0_become fu S b o = some (bcS S b o) := by
  have hbo : o ≠ b := by omega
  unfold m_X0_become
  simp only [lt_e, st_n hbo]
  rw [bc6]
  rw [xcopy _ (by omega) (by omega) hf]
  simp only [Option.bind_some]
  rw [xcopy _ (by omega) (by omega) (by omega)]
  simp only [Option.bind_some]
  congr 1
  refine Prod.ext ?_ rfl
  funext a j
  by_cases e2 : a = b + 2
  · subst e2
    rw [bcS_2, cpo_w, cpo_o (by omega), cpo_o (by omega), b6_o (by omega), b6_o (by omega)]
    by_cases e : j < 4
    · rw [if_pos (by omega), if_pos e, Nat.zero_add, Nat.sub_zero]
    · rw [if_neg (by omega), if_neg e]
  rw [cpo_o e2]
  by_cases e1 : a = b + 1
  · subst e1
    rw [bcS_1, cpo_w, b6_o (by omega), b6_o (by omega)]
    by_cases e : j < 8
    · rw [if_pos (by omega), if_pos e, Nat.zero_add, Nat.sub_zero]
    · rw [if_neg (by omega), if_neg e]
  rw [cpo_o e1]
  by_cases e0 : a = b
  · subst e0
    rw [bcS_0, b6_b]
  · rw [b6_o e0, bc_o e0 e1 e2]
theorem BRel.cg {n : Nat} (h8 : n ≤ 8) {o o' tl tl' gn gn' s s' : Nat → Int32} (ho : ∀ j : Nat, j < 6 → o' j = o j) (ht : ∀ r : Nat, r < 8 → tl' r = tl r) (hg : ∀ k : Nat, k < 4 → gn' k = gn k) (hs : ∀ i : Nat, i < 18 → s' i = s i) (h : BRel n o tl gn s) : BRel n o' tl' gn' s' := by
  unfold BRel at h ⊢
  rw [ho 0 (by omega), ho 1 (by omega), ho 2 (by omega), ho 3 (by omega), ho 4 (by omega), ho 5 (by omega), hs 0 (by omega), hs 1 (by omega), hs 2 (by omega), hs 3 (by omega), hs 4 (by omega), hs 5 (by omega)]
  obtain ⟨q1, q2, q3, q4, q5, q6, q7, q8⟩ := h
  refine ⟨q1, q2, q3, q4, q5, q6, fun r hr => ?_, fun k hk => ?_⟩
  · rw [ht r (by omega), hs (6 + r) (by omega)]; exact q7 r hr
  · rw [hg k hk, hs (14 + k) (by omega)]; exact q8 k hk
