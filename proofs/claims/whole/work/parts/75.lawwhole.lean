/-! the law's entry -/
set_option maxHeartbeats 4000000 in
set_option maxRecDepth 100000 in
theorem law_mid {p : Program} {l : Launch} {e : Env} {s : State} {m : MethodId} {below : List Frame} {meth : Method} {c : Code} {b L : Nat} {xs : Nat → Int32} {D : va_G} {cI cB cz : ClassId} {tA tB : Nat} (hL : L ≤ 192) (C8 : LX8 p s m meth c D b cI cB tA tB) (C9 : LX9 p s m meth c D b cI cz tA tB) (hX : va_X b L xs s s.heap) (hbl : b < s.heap.size) (hO : va_AO "RiverTolls$Boat" s) {S1 : St} (hR : Rel S1 T0) (q8 : Nat) (qs8 : Nat → Nat) :
    PW p l e room_1 s m #[Value.ref b] below meth c (lw_Z below #[Value.ref b] s) D (fun q : Nat => s.heap.size ≤ q) cI cB (p_w KX (adK q8 qs8) cI cB S1 ++ []) [] (fun k => k) 4 (0 + 1 + 61) (0 + 13 + 676) S00 [(1, .ref q8), (0, .ref b)] (7 + 1) [] := by
  have hA : ∀ q : Nat, s.heap.size ≤ q → (fun q : Nat => s.heap.size ≤ q) q := fun _ h => h
  have hts := C9.2.2.2.2.1
  refine nx_sw (c2 := cz) ?_
  generalize hwr : p_w KX (adK q8 qs8) cI cB S1 ++ [] = wr
  have hw2 : p_w KX (adK q8 qs8) cI cB S1 = wr := by rw [← hwr, List.append_nil]
  have hlen : wr.length = 62 := by rw [← hw2, p_w_len]; rfl
  refine nx_new C9 hA inlX9 tyX9 tyX9_ok (List.mem_of_getElem? (i := 3) (by decide +kernel)) (List.mem_of_getElem? (i := 4) (by decide +kernel)) (List.mem_of_getElem? (i := 5) (by decide +kernel)) (ci := 7) rfl [.int 0, .long 0, .null, .int 0, .int 0, .int 0, .int 0, .int 0, .int 0, .null, .null, .null, .null, .null, .null, .int 0, .null, .null, .null, .null, .null, .int 0, .null, .null, .int 0, .null, .null, .null] (fun j hj => by rcases (show j = 0 ∨ j = 1 ∨ j = 2 ∨ j = 3 ∨ j = 4 ∨ j = 5 ∨ j = 6 ∨ j = 7 ∨ j = 8 ∨ j = 9 ∨ j = 10 ∨ j = 11 ∨ j = 12 ∨ j = 13 ∨ j = 14 ∨ j = 15 ∨ j = 16 ∨ j = 17 ∨ j = 18 ∨ j = 19 ∨ j = 20 ∨ j = 21 ∨ j = 22 ∨ j = 23 ∨ j = 24 ∨ j = 25 ∨ j = 26 ∨ j = 27 by omega) with rfl | rfl | rfl | rfl | rfl | rfl | rfl | rfl | rfl | rfl | rfl | rfl | rfl | rfl | rfl | rfl | rfl | rfl | rfl | rfl | rfl | rfl | rfl | rfl | rfl | rfl | rfl | rfl <;> rfl) ⟨Nat.le_of_ble_eq_true rfl, Nat.le_of_ble_eq_true rfl⟩ dL_law_8 (fun q9 => wr ++ [(q9, .inr (7, [.int 0, .long 0, .null, .int 0, .int 0, .int 0, .int 0, .int 0, .int 0, .null, .null, .null, .null, .null, .null, .int 0, .null, .null, .null, .null, .null, .int 0, .null, .null, .int 0, .null, .null, .null]))]) (fun _ => rfl) (fun q9 => ?_)
  refine px_dup C9 dL_law_11 rfl ?_
  refine nx_callI (wr := wr) C9 hA hO (n_X9_init l .boolean tA tB rfl q9) (cwI 0 C9.2.2.2.2.1 gL_law_X9_init rfl rfl rfl (hts (Cond.initialized RX9) (List.mem_of_getElem? (i := 5) (by decide +kernel))) (hts (Cond.methodLink RL 12 yX9_init) (List.mem_of_getElem? (i := 119) (by decide +kernel))) (hts (Cond.instanceMethod yX9_init) (List.mem_of_getElem? (i := 120) (by decide +kernel))) rfl (by decide +kernel) ⟨Nat.le_of_ble_eq_true rfl, Nat.le_of_ble_eq_true rfl⟩) ⟨Nat.le_of_ble_eq_true rfl, Nat.le_of_ble_eq_true rfl⟩ [62] (List.range 62) (by simp only [List.filterMap_cons, List.filterMap_nil, lx_at hlen]) (by simp only [List.map_cons, List.map_nil, lx_at hlen]) (lx_all hlen) (by decide) (by decide +kernel) (by decide +kernel) rfl rfl (Nat.le_of_ble_eq_true rfl) dL_law_12 (fun qs => wr ++ nw_X9_init q9 cI cz qs) (fun _ => rfl) (fun qs9 => ?_)
  refine px_astore_n C9 [(2, .ref q9), (1, .ref q8), (0, .ref b)] dL_law_15 rfl (by decide) rfl ?_
  refine px_iconst C9 (v := (0 : Int32)) dL_law_16 (by decide) ?_
  refine px_istore_n C9 [(3, .int 0), (2, .ref q9), (1, .ref q8), (0, .ref b)] dL_law_17 rfl (by decide) rfl ?_
  refine px_sub (lv' := [(0, .ref b), (1, .ref q8), (2, .ref q9), (3, .int 0)]) [3, 2, 1, 0] rfl ?_
  refine pw_widen (k2 := 600000) (n2 := 7302250) (Nat.le_of_ble_eq_true rfl) (Nat.le_of_ble_eq_true rfl) ?_
  have kk := law_loop (l := l) (e := e) (below := below) (adX := adK q8 qs8) (adM := adK q9 qs9) C8 C9 (show LXs b L xs s from And.intro hX hbl) hL (L + 1) 0 S1 T0 (by omega) (Nat.zero_le _) hR
  refine nx_fin ?_ kk
  rw [hw2, pw_KM]
set_option maxHeartbeats 4000000 in
set_option maxRecDepth 100000 in
/-- THE LAW, from its entry -/
theorem whole_start {p : Program} {e : Env} {s : State} {m : MethodId} {below : List Frame} {meth : Method} {c : Code} (l : Launch) (hflags : l.flags = flags0) {b L : Nat} {xs : Nat → Int32} (hL : L ≤ 192) (C0 : lw_At p s m meth c b L xs) : W p l e room_1 s m #[Value.ref b] below meth c s.heap [] 0 0 (lw_Z below #[Value.ref b] s) (entryFrame m ([Value.ref b] : List Value).toArray 4) := by
  obtain ⟨hx, hb, hr, hml, hown, hts0, hX, hbl, hlocks, hgv⟩ := id C0
  have hts : ∀ w ∈ wsL_law, w.before #[Value.ref b] s = true := fun w h => hts0 w (wsL_law_in w h)
  obtain ⟨D, hKc⟩ := lx_known (p := p) hts0
  have hO : va_AO "RiverTolls$Boat" s := va_AO.of (hts0 (.arrayOver (.object "RiverTolls$Boat")) (List.mem_of_getElem? (i := 206) (by decide +kernel)))
  obtain ⟨cI, hI⟩ := lx_arrI (hts0 (.arrayClass .int) (List.mem_of_getElem? (i := 91) (by decide +kernel)))
  obtain ⟨cz, hz⟩ := lx_arrZ (hts0 (.arrayClass .boolean) (List.mem_of_getElem? (i := 815) (by decide +kernel)))
  obtain ⟨cB, hB⟩ := lx_arrO hO
  obtain ⟨tA, tB, hZ⟩ := lx_Z hts0 hgv
  have C8 : LX8 p s m meth c D b cI cB tA tB := ⟨hx, hb, hml, hown, hts, lx_K hKc hI hB, hr, hlocks, hZ⟩
  have C9 : LX9 p s m meth c D b cI cz tA tB := ⟨hx, hb, hml, hown, hts, lx_K hKc hI hz, hr, hlocks, hZ⟩
  have hA : ∀ q : Nat, s.heap.size ≤ q → (fun q : Nat => s.heap.size ≤ q) q := fun _ h => h
  obtain ⟨S1, hS1, hR⟩ := start_S0
  have hP : va_P D vwCl [] s.heap := fun k q h => by simp at h
  have hD : va_D (fun q : Nat => s.heap.size ≤ q) [] := ⟨fun i j p q h => by simp at h, fun k q h => by simp at h⟩
  have hl := lv_entry ([.ref b]) (n := 4) (Nat.le_of_ble_eq_true rfl)
  rw [lg_entry_eq]
  suffices k : PW p l e room_1 s m #[Value.ref b] below meth c (lw_Z below #[Value.ref b] s) D (fun q : Nat => s.heap.size ≤ q) cI cB [] [] (fun k => k) 4 0 0 S00 [(0, .ref b)] 0 [] from k s.heap [] _ hP hD va_S.rf hl
  refine nx_new C8 hA inlX8 tyX8 tyX8_ok (List.mem_of_getElem? (i := 0) (by decide +kernel)) (List.mem_of_getElem? (i := 1) (by decide +kernel)) (List.mem_of_getElem? (i := 2) (by decide +kernel)) (ci := 6) rfl [.null, .null, .null, .null, .null, .null, .null, .null, .null, .null, .null, .int 0, .long 0] (fun j hj => by rcases (show j = 0 ∨ j = 1 ∨ j = 2 ∨ j = 3 ∨ j = 4 ∨ j = 5 ∨ j = 6 ∨ j = 7 ∨ j = 8 ∨ j = 9 ∨ j = 10 ∨ j = 11 ∨ j = 12 by omega) with rfl | rfl | rfl | rfl | rfl | rfl | rfl | rfl | rfl | rfl | rfl | rfl | rfl <;> rfl) ⟨Nat.le_of_ble_eq_true rfl, Nat.le_of_ble_eq_true rfl⟩ dL_law_0 (fun q8 => [(q8, .inr (6, [.null, .null, .null, .null, .null, .null, .null, .null, .null, .null, .null, .int 0, .long 0]))]) (fun _ => rfl) (fun q8 => ?_)
  refine px_dup C8 dL_law_3 rfl ?_
  refine nx_callI (wr := []) C8 hA hO (n_X8_init l (.object "RiverTolls$Boat") tA tB rfl 300 hS1 q8) (cwI 0 C8.2.2.2.2.1 gL_law_X8_init rfl rfl rfl (hts (Cond.initialized RX8) (List.mem_of_getElem? (i := 2) (by decide +kernel))) (hts (Cond.methodLink RL 9 yX8_init) (List.mem_of_getElem? (i := 6) (by decide +kernel))) (hts (Cond.instanceMethod yX8_init) (List.mem_of_getElem? (i := 7) (by decide +kernel))) rfl (by decide +kernel) ⟨Nat.le_of_ble_eq_true rfl, Nat.le_of_ble_eq_true rfl⟩) ⟨Nat.le_of_ble_eq_true rfl, Nat.le_of_ble_eq_true rfl⟩ [0] [] rfl rfl rfl (by decide) (by decide) (by decide) rfl rfl (Nat.le_of_ble_eq_true rfl) dL_law_4 (fun qs => p_w KX (adK q8 qs) cI cB S1 ++ []) (fun _ => List.nil_append _) (fun qs8 => ?_)
  refine px_astore_n C8 [(1, .ref q8), (0, .ref b)] dL_law_7 rfl (by decide) rfl ?_
  exact law_mid hL C8 C9 hX hbl hO hR q8 qs8
