/-! the law, from its entry -/
theorem lx_known {p : Program} {s : State} {b : Nat} (hts0 : ∀ w ∈ lw_tbl, w.before #[Value.ref b] s = true) : ∃ D : va_G, ∀ (k : Nat) (q : vw_C), vwCl[k]? = some q → u_Kn s q.1 q.2.1 q.2.2 (D.1 k) (D.2 k) := by
  have z : ∃ x : ClassId × (Nat → Nat), True := by
    obtain ⟨cC, iS, -⟩ := u_known (C := RX0) (T := TX0) (N := 8) (n := 8) hts0 inX0 (hts0 (.instantiable RX0 8) (wsL_law_in _ (List.mem_of_getElem? (i := 26) (by decide +kernel))))
    exact ⟨(cC, iS), trivial⟩
  have h : ∀ k : Nat, ∃ x : ClassId × (Nat → Nat), ∀ q : vw_C, vwCl[k]? = some q → u_Kn s q.1 q.2.1 q.2.2 x.1 x.2 := by
    intro k
    match k with
    | 0 => obtain ⟨cC, iS, h⟩ := u_known (C := RX0) (T := TX0) (N := 8) (n := 8) hts0 inX0 (hts0 (.instantiable RX0 8) (wsL_law_in _ (List.mem_of_getElem? (i := 26) (by decide +kernel)))); exact ⟨(cC, iS), fun q hq => by cases hq; exact h⟩
    | 1 => obtain ⟨cC, iS, h⟩ := u_known (C := RX1) (T := TX1) (N := 3) (n := 3) hts0 inX1 (hts0 (.instantiable RX1 3) (wsL_law_in _ (List.mem_of_getElem? (i := 30) (by decide +kernel)))); exact ⟨(cC, iS), fun q hq => by cases hq; exact h⟩
    | 2 => obtain ⟨cC, iS, h⟩ := u_known (C := RX2) (T := TX2) (N := 7) (n := 7) hts0 inX2 (hts0 (.instantiable RX2 7) (wsL_law_in _ (List.mem_of_getElem? (i := 17) (by decide +kernel)))); exact ⟨(cC, iS), fun q hq => by cases hq; exact h⟩
    | 3 => obtain ⟨cC, iS, h⟩ := u_known (C := RX3) (T := TX3) (N := 5) (n := 5) hts0 inX3 (hts0 (.instantiable RX3 5) (wsL_law_in _ (List.mem_of_getElem? (i := 21) (by decide +kernel)))); exact ⟨(cC, iS), fun q hq => by cases hq; exact h⟩
    | 4 => obtain ⟨cC, iS, h⟩ := u_known (C := RX4) (T := TX4) (N := 14) (n := 14) hts0 inX4 (hts0 (.instantiable RX4 14) (wsL_law_in _ (List.mem_of_getElem? (i := 37) (by decide +kernel)))); exact ⟨(cC, iS), fun q hq => by cases hq; exact h⟩
    | 5 => obtain ⟨cC, iS, h⟩ := u_known (C := RX7) (T := TX7) (N := 2) (n := 2) hts0 inX7 (hts0 (.instantiable RX7 2) (wsL_law_in _ (List.mem_of_getElem? (i := 13) (by decide +kernel)))); exact ⟨(cC, iS), fun q hq => by cases hq; exact h⟩
    | 6 => obtain ⟨cC, iS, h⟩ := u_known (C := RX8) (T := TX8) (N := 13) (n := 13) hts0 inX8 (hts0 (.instantiable RX8 13) (wsL_law_in _ (List.mem_of_getElem? (i := 1) (by decide +kernel)))); exact ⟨(cC, iS), fun q hq => by cases hq; exact h⟩
    | 7 => obtain ⟨cC, iS, h⟩ := u_known (C := RX9) (T := TX9) (N := 28) (n := 28) hts0 inX9 (hts0 (.instantiable RX9 28) (wsL_law_in _ (List.mem_of_getElem? (i := 4) (by decide +kernel)))); exact ⟨(cC, iS), fun q hq => by cases hq; exact h⟩
    | k + 8 => obtain ⟨x, -⟩ := z; exact ⟨x, fun q hq => by simp [vwCl] at hq⟩
  exact ⟨(fun k => (Classical.choose (h k)).1, fun k => (Classical.choose (h k)).2), fun k q hq => Classical.choose_spec (h k) q hq⟩
theorem lx_arrI {s : State} {args : Array Value} (h : (Cond.arrayClass .int).before args s = true) : ∃ cI : ClassId, ArrOfT s cI .int ∧ va_RA s cI .int := by
  obtain ⟨cA, kA, comp, h1, h2, h3⟩ := Cond.arrayClass_spec h
  exact ⟨cA, fun n z => ⟨fun k h => (by cases h), kA, h2, comp, h3⟩, h1⟩
theorem lx_arrZ {s : State} {args : Array Value} (h : (Cond.arrayClass .boolean).before args s = true) : ∃ cI : ClassId, ArrOfT s cI .boolean ∧ va_RA s cI .boolean := by
  obtain ⟨cA, kA, comp, h1, h2, h3⟩ := Cond.arrayClass_spec h
  exact ⟨cA, fun n z => ⟨fun k h => (by cases h), kA, h2, comp, h3⟩, h1⟩
theorem lx_arrO {s : State} {C : String} (h : va_AO C s) : ∃ cI : ClassId, ArrOfT s cI (.object C) ∧ va_RA s cI (.object C) := by
  obtain ⟨comp, cA, kA, h1, -, h2, h3, h4⟩ := Cond.arrayOver_spec h
  exact ⟨cA, fun n z => ⟨fun k h => (by cases h), kA, h2, comp, h3⟩, kA, comp, h2, h3, h1, h4⟩
theorem lx_K {D : va_G} {s : State} {cI c1 : ClassId} {t1 : FieldType} (hK : ∀ (k : Nat) (q : vw_C), vwCl[k]? = some q → u_Kn s q.1 q.2.1 q.2.2 (D.1 k) (D.2 k)) (h0 : ArrOfT s cI .int ∧ va_RA s cI .int) (h1 : ArrOfT s c1 t1 ∧ va_RA s c1 t1) : va_K D vwCl [(cI, .int), (c1, t1)] s := by
  refine ⟨hK, fun k q hq => ?_⟩
  match k with
  | 0 => cases hq; exact h0
  | 1 => cases hq; exact h1
  | k + 2 => cases hq
set_option maxHeartbeats 4000000 in
set_option maxRecDepth 100000 in
theorem lx_Z {s : State} {b : Nat} (hts0 : ∀ w ∈ lw_tbl, w.before #[Value.ref b] s = true) (hgv : (Jvm.Cond.and given_1 narrow_1).before #[Value.ref b] s = true) : ∃ tA tB : Nat, p_Z tA tB (fun q : Nat => s.heap.size ≤ q) s s.heap := by
  have hs := flat_of_before _ hgv
  have hA : ∀ a : Nat, a < s.heap.size → ¬ (fun q : Nat => s.heap.size ≤ q) a := fun a h => Nat.not_le.mpr h
  have hini : (Cond.initialized "RiverTolls$Reader").before #[Value.ref b] s = true := hts0 _ (List.mem_of_getElem? (i := 58) (by decide +kernel))
  obtain ⟨tA, eA, hTA⟩ := va_Tof (tm := (Term.static "RiverTolls$Reader" "LEAST_FACTS" "[I")) (ty := .int) (N := 5) (f := fun j => .int (lfA j)) (A := fun q : Nat => s.heap.size ≤ q) (by decide) (hs (.arrayOf (Term.static "RiverTolls$Reader" "LEAST_FACTS" "[I") .int) (by decide +kernel)) (va_eqt (hs (.eq (.length (Term.static "RiverTolls$Reader" "LEAST_FACTS" "[I")) (.int (5 : Int32))) (by decide +kernel))) (fun j hj => by
    match j, hj with
    | 0, _ => exact va_eqt (z := 0) (hs (.eq (.elem (Term.static "RiverTolls$Reader" "LEAST_FACTS" "[I") (.int (0 : Int32))) (.int (0 : Int32))) (by decide +kernel))
    | 1, _ => exact va_eqt (z := 1) (hs (.eq (.elem (Term.static "RiverTolls$Reader" "LEAST_FACTS" "[I") (.int (1 : Int32))) (.int (1 : Int32))) (by decide +kernel))
    | 2, _ => exact va_eqt (z := 0) (hs (.eq (.elem (Term.static "RiverTolls$Reader" "LEAST_FACTS" "[I") (.int (2 : Int32))) (.int (0 : Int32))) (by decide +kernel))
    | 3, _ => exact va_eqt (z := 0) (hs (.eq (.elem (Term.static "RiverTolls$Reader" "LEAST_FACTS" "[I") (.int (3 : Int32))) (.int (0 : Int32))) (by decide +kernel))
    | 4, _ => exact va_eqt (z := 0) (hs (.eq (.elem (Term.static "RiverTolls$Reader" "LEAST_FACTS" "[I") (.int (4 : Int32))) (.int (0 : Int32))) (by decide +kernel))) hA
  obtain ⟨tB, eB, hTB⟩ := va_Tof (tm := (Term.static "RiverTolls$Reader" "MOST_FACTS" "[I")) (ty := .int) (N := 5) (f := fun j => .int (lfB j)) (A := fun q : Nat => s.heap.size ≤ q) (by decide) (hs (.arrayOf (Term.static "RiverTolls$Reader" "MOST_FACTS" "[I") .int) (by decide +kernel)) (va_eqt (hs (.eq (.length (Term.static "RiverTolls$Reader" "MOST_FACTS" "[I")) (.int (5 : Int32))) (by decide +kernel))) (fun j hj => by
    match j, hj with
    | 0, _ => exact va_eqt (z := 9) (hs (.eq (.elem (Term.static "RiverTolls$Reader" "MOST_FACTS" "[I") (.int (0 : Int32))) (.int (9 : Int32))) (by decide +kernel))
    | 1, _ => exact va_eqt (z := 5) (hs (.eq (.elem (Term.static "RiverTolls$Reader" "MOST_FACTS" "[I") (.int (1 : Int32))) (.int (5 : Int32))) (by decide +kernel))
    | 2, _ => exact va_eqt (z := 3) (hs (.eq (.elem (Term.static "RiverTolls$Reader" "MOST_FACTS" "[I") (.int (2 : Int32))) (.int (3 : Int32))) (by decide +kernel))
    | 3, _ => exact va_eqt (z := 10) (hs (.eq (.elem (Term.static "RiverTolls$Reader" "MOST_FACTS" "[I") (.int (3 : Int32))) (.int (10 : Int32))) (by decide +kernel))
    | 4, _ => exact va_eqt (z := 30) (hs (.eq (.elem (Term.static "RiverTolls$Reader" "MOST_FACTS" "[I") (.int (4 : Int32))) (.int (30 : Int32))) (by decide +kernel))) hA
  exact ⟨tA, tB, ⟨va_Zof (hts0 _ (List.mem_of_getElem? (i := 376) (by decide +kernel))) hini eA hA, hTA⟩, va_Zof (hts0 _ (List.mem_of_getElem? (i := 379) (by decide +kernel))) hini eB hA, hTB⟩
theorem lx_at {wr : va_W} {x : Nat × va_E} {N : Nat} (h : wr.length = N) : (wr ++ [x])[N]? = some x := by
  subst h
  rw [List.getElem?_append_right (Nat.le_refl _), Nat.sub_self]
  rfl
theorem lx_all {wr : va_W} {x : Nat × va_E} {N : Nat} (h : wr.length = N) : (List.range N).map (fun i => (wr ++ [x])[i]?) = wr.map some := by
  subst h
  apply List.ext_getElem?
  intro k
  rw [List.getElem?_map, List.getElem?_map]
  by_cases hk : k < wr.length
  · rw [List.getElem?_range hk, Option.map_some, List.getElem?_append_left hk, List.getElem?_eq_getElem hk]
    rfl
  · rw [List.getElem?_eq_none (by rw [List.length_range]; omega), List.getElem?_eq_none (by omega)]
    rfl
set_option maxHeartbeats 4000000 in
set_option maxRecDepth 100000 in
/-- THE LAW, from its entry -/
theorem whole_start {p : Program} {e : Env} {s : State} {m : MethodId} {below : List Frame} {meth : Method} {c : Code} (l : Launch) (hflags : l.flags = flags0) {b L : Nat} {xs : Nat → Int32} (hL : L ≤ 192) (C0 : lw_At p s m meth c b L xs) : W p l e room_1 s m #[Value.ref b] below meth c s.heap [] 0 0 (lw_Z below #[Value.ref b] s) (entryFrame m ([Value.ref b] : List Value).toArray 4) := by
  obtain ⟨hx, hb, hr, hml, hown, hts0, hX, hbl, hlocks, hgv⟩ := id C0
  have hts : ∀ w ∈ wsL_law, w.before #[Value.ref b] s = true := fun w h => hts0 w (wsL_law_in w h)
  obtain ⟨D, hKc⟩ := lx_known (p := p) hts0
  have hO : va_AO "RiverTolls$Boat" s := va_AO.of (hts0 (.arrayOver (.object "RiverTolls$Boat")) (List.mem_of_getElem? (i := 206) (by decide +kernel)))
  obtain ⟨cI, hI⟩ := lx_arrI (hts0 (.arrayClass .int) (List.mem_of_getElem? (i := 91) (by decide +kernel)))
  obtain ⟨cz, hz⟩ := lx_arrZ (hts0 (.arrayClass .boolean) (List.mem_of_getElem? (i := 815) (by decide +kernel)))
  obtain ⟨cB, hB⟩ := lx_arrO hO
  obtain ⟨tA, tB, hZ⟩ := lx_Z hts0 hgv
  have C8 : LX8 p s m meth c D b cI cB tA tB := ⟨hx, hb, hml, hown, hts, lx_K hKc hI hB, hr, hlocks, hZ⟩
  have C9 : LX9 p s m meth c D b cI cz tA tB := ⟨hx, hb, hml, hown, hts, lx_K hKc hI hz, hr, hlocks, hZ⟩
  have hA : ∀ q : Nat, s.heap.size ≤ q → (fun q : Nat => s.heap.size ≤ q) q := fun _ h => h
  obtain ⟨S1, hS1, hR⟩ := start_S0
  have hP : va_P D vwCl [] s.heap := fun k q h => by simp at h
  have hD : va_D (fun q : Nat => s.heap.size ≤ q) [] := ⟨fun i j p q h => by simp at h, fun k q h => by simp at h⟩
  have hl := lv_entry ([.ref b]) (n := 4) (Nat.le_of_ble_eq_true rfl)
  rw [lg_entry_eq]
  suffices k : PW p l e room_1 s m #[Value.ref b] below meth c (lw_Z below #[Value.ref b] s) D (fun q : Nat => s.heap.size ≤ q) cI cB [] [] (fun k => k) 4 0 0 S00 [(0, .ref b)] 0 [] from k s.heap [] _ hP hD va_S.rf hl
  refine nx_new C8 hA inlX8 tyX8 tyX8_ok (List.mem_of_getElem? (i := 0) (by decide +kernel)) (List.mem_of_getElem? (i := 1) (by decide +kernel)) (List.mem_of_getElem? (i := 2) (by decide +kernel)) (ci := 6) rfl [.null, .null, .null, .null, .null, .null, .null, .null, .null, .null, .null, .int 0, .long 0] (fun j hj => by rcases (show j = 0 ∨ j = 1 ∨ j = 2 ∨ j = 3 ∨ j = 4 ∨ j = 5 ∨ j = 6 ∨ j = 7 ∨ j = 8 ∨ j = 9 ∨ j = 10 ∨ j = 11 ∨ j = 12 by omega) with rfl | rfl | rfl | rfl | rfl | rfl | rfl | rfl | rfl | rfl | rfl | rfl | rfl <;> rfl) ⟨Nat.le_of_ble_eq_true rfl, Nat.le_of_ble_eq_true rfl⟩ dL_law_0 (fun q8 => [(q8, .inr (6, [.null, .null, .null, .null, .null, .null, .null, .null, .null, .null, .null, .int 0, .long 0]))]) (fun _ => rfl) (fun q8 => ?_)
  refine px_dup C8 dL_law_3 rfl ?_
  refine nx_callI (wr := []) C8 hA hO (n_X8_init l (.object "RiverTolls$Boat") tA tB rfl 300 hS1 q8) (cwI 0 C8.2.2.2.2.1 gL_law_X8_init rfl rfl rfl (hts (Cond.initialized RX8) (List.mem_of_getElem? (i := 2) (by decide +kernel))) (hts (Cond.methodLink RL 9 yX8_init) (List.mem_of_getElem? (i := 6) (by decide +kernel))) (hts (Cond.instanceMethod yX8_init) (List.mem_of_getElem? (i := 7) (by decide +kernel))) rfl (by decide +kernel) ⟨Nat.le_of_ble_eq_true rfl, Nat.le_of_ble_eq_true rfl⟩) ⟨Nat.le_of_ble_eq_true rfl, Nat.le_of_ble_eq_true rfl⟩ [0] [] rfl rfl rfl (by decide) (by decide) (by decide) rfl rfl (Nat.le_of_ble_eq_true rfl) dL_law_4 (fun qs => p_w KX (adK q8 qs) cI cB S1) (fun _ => List.append_nil _) (fun qs8 => ?_)
  refine px_astore_n C8 [(1, .ref q8), (0, .ref b)] dL_law_7 rfl (by decide) rfl ?_
  suffices k : PW p l e room_1 s m #[Value.ref b] below meth c (lw_Z below #[Value.ref b] s) D (fun q : Nat => s.heap.size ≤ q) cI cz (p_w KX (adK q8 qs8) cI cB S1) [] (fun k => k) 4 (0 + 1 + 61) (0 + 13 + 676) S00 [(1, .ref q8), (0, .ref b)] 8 [] from fun H locs ls hP hD hS hl => k H locs ls hP hD hS hl
  generalize hwr : p_w KX (adK q8 qs8) cI cB S1 = wr
  have hlen : wr.length = 62 := by rw [← hwr, p_w_len]; rfl
  refine nx_new C9 hA inlX9 tyX9 tyX9_ok (List.mem_of_getElem? (i := 3) (by decide +kernel)) (List.mem_of_getElem? (i := 4) (by decide +kernel)) (List.mem_of_getElem? (i := 5) (by decide +kernel)) (ci := 7) rfl [.int 0, .long 0, .null, .int 0, .int 0, .int 0, .int 0, .int 0, .int 0, .null, .null, .null, .null, .null, .null, .int 0, .null, .null, .null, .null, .null, .int 0, .null, .null, .int 0, .null, .null, .null] (fun j hj => by rcases (show j = 0 ∨ j = 1 ∨ j = 2 ∨ j = 3 ∨ j = 4 ∨ j = 5 ∨ j = 6 ∨ j = 7 ∨ j = 8 ∨ j = 9 ∨ j = 10 ∨ j = 11 ∨ j = 12 ∨ j = 13 ∨ j = 14 ∨ j = 15 ∨ j = 16 ∨ j = 17 ∨ j = 18 ∨ j = 19 ∨ j = 20 ∨ j = 21 ∨ j = 22 ∨ j = 23 ∨ j = 24 ∨ j = 25 ∨ j = 26 ∨ j = 27 by omega) with rfl | rfl | rfl | rfl | rfl | rfl | rfl | rfl | rfl | rfl | rfl | rfl | rfl | rfl | rfl | rfl | rfl | rfl | rfl | rfl | rfl | rfl | rfl | rfl | rfl | rfl | rfl | rfl <;> rfl) ⟨Nat.le_of_ble_eq_true rfl, Nat.le_of_ble_eq_true rfl⟩ dL_law_8 (fun q9 => wr ++ [(q9, .inr (7, [.int 0, .long 0, .null, .int 0, .int 0, .int 0, .int 0, .int 0, .int 0, .null, .null, .null, .null, .null, .null, .int 0, .null, .null, .null, .null, .null, .int 0, .null, .null, .int 0, .null, .null, .null]))]) (fun _ => rfl) (fun q9 => ?_)
  refine px_dup C9 dL_law_11 rfl ?_
  refine nx_callI (wr := wr) C9 hA hO (n_X9_init l .boolean tA tB rfl q9) (cwI 0 C9.2.2.2.2.1 gL_law_X9_init rfl rfl rfl (hts (Cond.initialized RX9) (List.mem_of_getElem? (i := 5) (by decide +kernel))) (hts (Cond.methodLink RL 12 yX9_init) (List.mem_of_getElem? (i := 119) (by decide +kernel))) (hts (Cond.instanceMethod yX9_init) (List.mem_of_getElem? (i := 120) (by decide +kernel))) rfl (by decide +kernel) ⟨Nat.le_of_ble_eq_true rfl, Nat.le_of_ble_eq_true rfl⟩) ⟨Nat.le_of_ble_eq_true rfl, Nat.le_of_ble_eq_true rfl⟩ [62] (List.range 62) (by simp only [List.filterMap_cons, List.filterMap_nil, lx_at hlen]) (by simp only [List.map_cons, List.map_nil, lx_at hlen]) (lx_all hlen) (by decide) (by decide +kernel) (by decide +kernel) rfl rfl (Nat.le_of_ble_eq_true rfl) dL_law_12 (fun qs => wr ++ nw_X9_init q9 cI cz qs) (fun _ => rfl) (fun qs9 => ?_)
  refine px_astore_n C9 [(2, .ref q9), (1, .ref q8), (0, .ref b)] dL_law_15 rfl (by decide) rfl ?_
  refine px_iconst C9 (v := (0 : Int32)) dL_law_16 (by decide) ?_
  refine px_istore_n C9 [(3, .int 0), (2, .ref q9), (1, .ref q8), (0, .ref b)] dL_law_17 rfl (by decide) rfl ?_
  refine px_sub (lv' := [(0, .ref b), (1, .ref q8), (2, .ref q9), (3, .int 0)]) [3, 2, 1, 0] rfl ?_
  refine pw_widen (k2 := 600000) (n2 := 7302250) (Nat.le_of_ble_eq_true rfl) (Nat.le_of_ble_eq_true rfl) ?_
  have kk := law_loop (l := l) (e := e) (below := below) (adX := adK q8 qs8) (adM := adK q9 qs9) C8 C9 (show LXs b L xs s from And.intro hX hbl) hL (L + 1) 0 S1 T0 (by omega) (Nat.zero_le _) hR
  exact fun H locs ls hP hD hS hl => kk H locs ls (by rw [pw_KM, hwr]; exact hP) (by rw [pw_KM, hwr]; exact hD) hS hl
