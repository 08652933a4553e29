/-! the law, from its entry -/
theorem lx_known {p : Program} {s : State} {b : Nat} (hts0 : ∀ w ∈ lw_tbl, w.before #[Value.ref b] s = true) : ∃ D : va_G, ∀ (k : Nat) (q : vw_C), vwCl[k]? = some q → u_Kn s q.1 q.2.1 q.2.2 (D.1 k) (D.2 k) := by
  have z : ∃ x : ClassId × (Nat → Nat), True := by
    obtain ⟨cC, iS, -⟩ := u_known (C := RX0) (T := TX0) (N := 8) (n := 8) hts0 inX0 (hts0 (.instantiable RX0 8) (wsL_law_in _ (List.mem_of_getElem? (i := 26) (by decide +kernel))))
    exact ⟨(cC, iS), trivial⟩
  have h : ∀ k : Nat, ∃ x : ClassId × (Nat → Nat), ∀ q : vw_C, vwCl[k]? = some q → u_Kn s q.1 q.2.1 q.2.2 x.1 x.2 := by
    intro k
    match k with
    | 0 => obtain ⟨cC, iS, h⟩ := u_known (C := RX0) (T := TX0) (N := 8) (n := 8) hts0 inX0 (hts0 (.instantiable RX0 8) (wsL_law_in _ (List.mem_of_getElem? (i := 26) (by decide +kernel)))); exact ⟨(cC, iS), fun q hq => by cases hq; exact h⟩
    | 1 => obtain ⟨cC, iS, h⟩ := u_known (C := RX1) (T := TX1) (N := 3) (n := 3) hts0 inX1 (hts0 (.instantiable RX1 3) (wsL_law_in _ (List.mem_of_getElem? (i := 30) (by decide +kernel)))); exact ⟨(cC, iS), fun q hq => by cases hq; exact h⟩
    | 2 => obtain ⟨cC, iS, h⟩ := u_known (C := RX2) (T := TX2) (N := 7) (n := 7) hts0 inX2 (hts0 (.instantiable RX2 7) (wsL_law_in _ (List.mem_of_getElem? (i := 17) (by decide +kernel)))); exact ⟨(cC, iS), fun q hq => by cases hq; exact h⟩
    | 3 => obtain ⟨cC, iS, h⟩ := u_known (C := RX3) (T := TX3) (N := 5) (n := 5) hts0 inX3 (hts0 (.instantiable RX3 5) (wsL_law_in _ (List.mem_of_getElem? (i := 21) (by decide +kernel)))); exact ⟨(cC, iS), fun q hq => by cases hq; exact h⟩
    | 4 => obtain ⟨cC, iS, h⟩ := u_known (C := RX4) (T := TX4) (N := 14) (n := 14) hts0 inX4 (hts0 (.instantiable RX4 14) (wsL_law_in _ (List.mem_of_getElem? (i := 37) (by decide +kernel)))); exact ⟨(cC, iS), fun q hq => by cases hq; exact h⟩
    | 5 => obtain ⟨cC, iS, h⟩ := u_known (C := RX7) (T := TX7) (N := 2) (n := 2) hts0 inX7 (hts0 (.instantiable RX7 2) (wsL_law_in _ (List.mem_of_getElem? (i := 13) (by decide +kernel)))); exact ⟨(cC, iS), fun q hq => by cases hq; exact h⟩
    | 6 => obtain ⟨cC, iS, h⟩ := u_known (C := RX8) (T := TX8) (N := 13) (n := 13) hts0 inX8 (hts0 (.instantiable RX8 13) (wsL_law_in _ (List.mem_of_getElem? (i := 1) (by decide +kernel)))); exact ⟨(cC, iS), fun q hq => by cases hq; exact h⟩
    | 7 => obtain ⟨cC, iS, h⟩ := u_known (C := RX9) (T := TX9) (N := 28) (n := 28) hts0 inX9 (hts0 (.instantiable RX9 28) (wsL_law_in _ (List.mem_of_getElem? (i := 4) (by decide +kernel)))); exact ⟨(cC, iS), fun q hq => by cases hq; exact h⟩
    | k + 8 => obtain ⟨x, -⟩ := z; exact ⟨x, fun q hq => by simp [vwCl] at hq⟩
  exact ⟨(fun k => (Classical.choose (h k)).1, fun k => (Classical.choose (h k)).2), fun k q hq => Classical.choose_spec (h k) q hq⟩
theorem lx_arrI {s : State} {args : Array Value} (h : (Cond.arrayClass .int).before args s = true) : ∃ cI : ClassId, ArrOfT s cI .int ∧ va_RA s cI .int := by
  obtain ⟨cA, kA, comp, h1, h2, h3⟩ := Cond.arrayClass_spec h
  exact ⟨cA, fun n z => ⟨fun k h => (by cases h), kA, h2, comp, h3⟩, h1⟩
theorem lx_arrZ {s : State} {args : Array Value} (h : (Cond.arrayClass .boolean).before args s = true) : ∃ cI : ClassId, ArrOfT s cI .boolean ∧ va_RA s cI .boolean := by
  obtain ⟨cA, kA, comp, h1, h2, h3⟩ := Cond.arrayClass_spec h
  exact ⟨cA, fun n z => ⟨fun k h => (by cases h), kA, h2, comp, h3⟩, h1⟩
theorem lx_arrO {s : State} {C : String} (h : va_AO C s) : ∃ cI : ClassId, ArrOfT s cI (.object C) ∧ va_RA s cI (.object C) := by
  obtain ⟨comp, cA, kA, h1, -, h2, h3, h4⟩ := Cond.arrayOver_spec h
  exact ⟨cA, fun n z => ⟨fun k h => (by cases h), kA, h2, comp, h3⟩, kA, comp, h2, h3, h1, h4⟩
theorem lx_K {D : va_G} {s : State} {cI c1 : ClassId} {t1 : FieldType} (hK : ∀ (k : Nat) (q : vw_C), vwCl[k]? = some q → u_Kn s q.1 q.2.1 q.2.2 (D.1 k) (D.2 k)) (h0 : ArrOfT s cI .int ∧ va_RA s cI .int) (h1 : ArrOfT s c1 t1 ∧ va_RA s c1 t1) : va_K D vwCl [(cI, .int), (c1, t1)] s := by
  refine ⟨hK, fun k q hq => ?_⟩
  match k with
  | 0 => cases hq; exact h0
  | 1 => cases hq; exact h1
  | k + 2 => cases hq
set_option maxHeartbeats 4000000 in
set_option maxRecDepth 100000 in
theorem lx_Z {s : State} {b : Nat} (hts0 : ∀ w ∈ lw_tbl, w.before #[Value.ref b] s = true) (hgv : (Jvm.Cond.and given_1 narrow_1).before #[Value.ref b] s = true) : ∃ tA tB : Nat, p_Z tA tB (fun q : Nat => s.heap.size ≤ q) s s.heap := by
  have hs := flat_of_before _ hgv
  have hA : ∀ a : Nat, a < s.heap.size → ¬ (fun q : Nat => s.heap.size ≤ q) a := fun a h => Nat.not_le.mpr h
  have hini : (Cond.initialized "RiverTolls$Reader").before #[Value.ref b] s = true := hts0 _ (List.mem_of_getElem? (i := 58) (by decide +kernel))
  obtain ⟨tA, eA, hTA⟩ := va_Tof (tm := (Term.static "RiverTolls$Reader" "LEAST_FACTS" "[I")) (ty := .int) (N := 5) (f := fun j => .int (lfA j)) (A := fun q : Nat => s.heap.size ≤ q) (by decide) (hs (.arrayOf (Term.static "RiverTolls$Reader" "LEAST_FACTS" "[I") .int) (by decide +kernel)) (va_eqt (hs (.eq (.length (Term.static "RiverTolls$Reader" "LEAST_FACTS" "[I")) (.int (5 : Int32))) (by decide +kernel))) (fun j hj => by
    match j, hj with
    | 0, _ => exact va_eqt (z := 0) (hs (.eq (.elem (Term.static "RiverTolls$Reader" "LEAST_FACTS" "[I") (.int (0 : Int32))) (.int (0 : Int32))) (by decide +kernel))
    | 1, _ => exact va_eqt (z := 1) (hs (.eq (.elem (Term.static "RiverTolls$Reader" "LEAST_FACTS" "[I") (.int (1 : Int32))) (.int (1 : Int32))) (by decide +kernel))
    | 2, _ => exact va_eqt (z := 0) (hs (.eq (.elem (Term.static "RiverTolls$Reader" "LEAST_FACTS" "[I") (.int (2 : Int32))) (.int (0 : Int32))) (by decide +kernel))
    | 3, _ => exact va_eqt (z := 0) (hs (.eq (.elem (Term.static "RiverTolls$Reader" "LEAST_FACTS" "[I") (.int (3 : Int32))) (.int (0 : Int32))) (by decide +kernel))
    | 4, _ => exact va_eqt (z := 0) (hs (.eq (.elem (Term.static "RiverTolls$Reader" "LEAST_FACTS" "[I") (.int (4 : Int32))) (.int (0 : Int32))) (by decide +kernel))) hA
  obtain ⟨tB, eB, hTB⟩ := va_Tof (tm := (Term.static "RiverTolls$Reader" "MOST_FACTS" "[I")) (ty := .int) (N := 5) (f := fun j => .int (lfB j)) (A := fun q : Nat => s.heap.size ≤ q) (by decide) (hs (.arrayOf (Term.static "RiverTolls$Reader" "MOST_FACTS" "[I") .int) (by decide +kernel)) (va_eqt (hs (.eq (.length (Term.static "RiverTolls$Reader" "MOST_FACTS" "[I")) (.int (5 : Int32))) (by decide +kernel))) (fun j hj => by
    match j, hj with
    | 0, _ => exact va_eqt (z := 9) (hs (.eq (.elem (Term.static "RiverTolls$Reader" "MOST_FACTS" "[I") (.int (0 : Int32))) (.int (9 : Int32))) (by decide +kernel))
    | 1, _ => exact va_eqt (z := 5) (hs (.eq (.elem (Term.static "RiverTolls$Reader" "MOST_FACTS" "[I") (.int (1 : Int32))) (.int (5 : Int32))) (by decide +kernel))
    | 2, _ => exact va_eqt (z := 3) (hs (.eq (.elem (Term.static "RiverTolls$Reader" "MOST_FACTS" "[I") (.int (2 : Int32))) (.int (3 : Int32))) (by decide +kernel))
    | 3, _ => exact va_eqt (z := 10) (hs (.eq (.elem (Term.static "RiverTolls$Reader" "MOST_FACTS" "[I") (.int (3 : Int32))) (.int (10 : Int32))) (by decide +kernel))
    | 4, _ => exact va_eqt (z := 30) (hs (.eq (.elem (Term.static "RiverTolls$Reader" "MOST_FACTS" "[I") (.int (4 : Int32))) (.int (30 : Int32))) (by decide +kernel))) hA
  exact ⟨tA, tB, ⟨va_Zof (hts0 _ (List.mem_of_getElem? (i := 376) (by decide +kernel))) hini eA hA, hTA⟩, va_Zof (hts0 _ (List.mem_of_getElem? (i := 379) (by decide +kernel))) hini eB hA, hTB⟩
theorem lx_at {wr : va_W} {x : Nat × va_E} {N : Nat} (h : wr.length = N) : (wr ++ [x])[N]? = some x := by
  subst h
  rw [List.getElem?_append_right (Nat.le_refl _), Nat.sub_self]
  rfl
theorem lx_all {wr : va_W} {x : Nat × va_E} {N : Nat} (h : wr.length = N) : (List.range N).map (fun i => (wr ++ [x])[i]?) = wr.map some := by
  subst h
  apply List.ext_getElem?
  intro k
  rw [List.getElem?_map, List.getElem?_map]
  by_cases hk : k < wr.length
  · rw [List.getElem?_range hk, Option.map_some, List.getElem?_append_left hk, List.getElem?_eq_getElem hk]
    rfl
  · rw [List.getElem?_eq_none (by rw [List.length_range]; omega), List.getElem?_eq_none (by omega)]
    rfl
section NXF
variable {p : Program} {l : Launch} {e : Env} {R : Room} {s : State} {m : MethodId} {args : Array Value} {below : List Frame} {meth : Method} {c : Code} {Q : State → Prop} {D : va_G} {A : Nat → Prop} {cI c1 : ClassId} {F : va_W} {ad : Nat → Nat} {nL : Nat} {kc ks : Nat} {S : St} {lv : List (Nat × Value)} {pc : Nat} {st : List Value}
theorem nx_sw {c2 : ClassId} (k : PW p l e R s m args below meth c Q D A cI c2 F [] ad nL kc ks S lv pc st) : PW p l e R s m args below meth c Q D A cI c1 F [] ad nL kc ks S lv pc st := fun H locs ls hP hD hS hl => k H locs ls (show va_P D vwCl F H from hP) (show va_D A F from hD) hS hl
theorem nx_fin {c2 : ClassId} {K2 : List Kd} {ad2 : Nat → Nat} {S2 : St} {F2 : va_W} (hF : F = p_w K2 ad2 cI c2 S2 ++ F2) (k : PW p l e R s m args below meth c Q D A cI c2 F2 K2 ad2 nL kc ks S2 lv pc st) : PW p l e R s m args below meth c Q D A cI c1 F [] ad nL kc ks S lv pc st := by
  subst hF
  exact fun H locs ls hP hD hS hl => k H locs ls hP hD hS hl
end NXF
