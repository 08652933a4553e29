/-! the law: cases 16 .. 31 -/
set_option maxHeartbeats 4000000 in
set_option maxRecDepth 100000 in
theorem lc_16 {p : Program} {l : Launch} {e : Env} {s : State} {m : MethodId} {below : List Frame} {meth : Method} {c : Code} {b L : Nat} {xs : Nat → Int32} {D : va_G} {cI cB cz : ClassId} {tA tB : Nat} {adX adM : Nat → Nat} (C8 : LX8 p s m meth c D b cI cB tA tB) (C9 : LX9 p s m meth c D b cI cz tA tB) (X : LXs b L xs s) (hL : L ≤ 192) {i : Nat} (hi : i + 3 ≤ L) {S T : St} (h : Rel S T) (back : ∀ S1 T1 : St, Rel S1 T1 → LWP p l e s m below meth c b D cI cB cz adX adM S1 T1 [(0, .ref b), (1, .ref (adX 0)), (2, .ref (adM 0)), (3, .int (nI i))] 893 []) : LWP p l e s m below meth c b D cI cB cz adX adM S T [(0, .ref b), (1, .ref (adX 0)), (2, .ref (adM 0)), (3, .int (nI i))] 524 [] := by
  obtain ⟨r, S2, T2, e1, e2, h2⟩ := a_toBreak (Nat.le_refl 300) h (xs (i + 1))
  refine px_aload_n C8 1 dL_law_524 rfl rfl ?_
  refine lx_arg C8 X hL (j := 1) (i := i) (by decide) (by omega) rfl rfl dL_law_525 dL_law_526 dL_law_527 dL_law_528 dL_law_529 ?_
  refine px_callV1 C8 (c_X8_toBreak l tA tB adX 300 S (xs (i + 1)) e1) (cwV 1 C8.2.2.2.2.1 gL_law_X8_toBreak rfl rfl rfl (by decide +kernel) ⟨Nat.le_of_ble_eq_true rfl, Nat.le_of_ble_eq_true rfl⟩) ⟨Nat.le_refl _, Nat.le_refl _⟩ kx_0 rfl rfl rfl (Nat.le_of_ble_eq_true rfl) dL_law_530 ?_
  refine pw_swap ?_
  refine px_aload_n C9 2 dL_law_533 rfl rfl ?_
  refine lx_arg C9 X hL (j := 1) (i := i) (by decide) (by omega) rfl rfl dL_law_534 dL_law_535 dL_law_536 dL_law_537 dL_law_538 ?_
  refine px_callV1 C9 (c_X9_toBreak l tA tB adM 300 T (xs (i + 1)) e2) (cwV 1 C9.2.2.2.2.1 gL_law_X9_toBreak rfl rfl rfl (by decide +kernel) ⟨Nat.le_of_ble_eq_true rfl, Nat.le_of_ble_eq_true rfl⟩) ⟨Nat.le_refl _, Nat.le_refl _⟩ km_0 rfl rfl rfl (Nat.le_of_ble_eq_true rfl) dL_law_539 ?_
  refine pw_swap ?_
  exact px_icmp_eq C8 (tgt := 893) dL_law_542 (by decide) (fun _ => back _ _ h2) (fun z => absurd rfl z)
set_option maxHeartbeats 4000000 in
set_option maxRecDepth 100000 in
theorem lc_17 {p : Program} {l : Launch} {e : Env} {s : State} {m : MethodId} {below : List Frame} {meth : Method} {c : Code} {b L : Nat} {xs : Nat → Int32} {D : va_G} {cI cB cz : ClassId} {tA tB : Nat} {adX adM : Nat → Nat} (C8 : LX8 p s m meth c D b cI cB tA tB) (C9 : LX9 p s m meth c D b cI cz tA tB) (X : LXs b L xs s) (hL : L ≤ 192) {i : Nat} (hi : i + 3 ≤ L) {S T : St} (h : Rel S T) (back : ∀ S1 T1 : St, Rel S1 T1 → LWP p l e s m below meth c b D cI cB cz adX adM S1 T1 [(0, .ref b), (1, .ref (adX 0)), (2, .ref (adM 0)), (3, .int (nI i))] 893 []) : LWP p l e s m below meth c b D cI cB cz adX adM S T [(0, .ref b), (1, .ref (adX 0)), (2, .ref (adM 0)), (3, .int (nI i))] 547 [] := by
  obtain ⟨r, S2, T2, e1, e2, h2⟩ := a_byLord (Nat.le_refl 300) h (xs (i + 1))
  refine px_aload_n C8 1 dL_law_547 rfl rfl ?_
  refine lx_arg C8 X hL (j := 1) (i := i) (by decide) (by omega) rfl rfl dL_law_548 dL_law_549 dL_law_550 dL_law_551 dL_law_552 ?_
  refine px_callV1 C8 (c_X8_byLord l tA tB adX 300 S (xs (i + 1)) e1) (cwV 1 C8.2.2.2.2.1 gL_law_X8_byLord rfl rfl rfl (by decide +kernel) ⟨Nat.le_of_ble_eq_true rfl, Nat.le_of_ble_eq_true rfl⟩) ⟨Nat.le_refl _, Nat.le_refl _⟩ kx_0 rfl rfl rfl (Nat.le_of_ble_eq_true rfl) dL_law_553 ?_
  refine pw_swap ?_
  refine px_aload_n C9 2 dL_law_556 rfl rfl ?_
  refine lx_arg C9 X hL (j := 1) (i := i) (by decide) (by omega) rfl rfl dL_law_557 dL_law_558 dL_law_559 dL_law_560 dL_law_561 ?_
  refine px_callV1 C9 (c_X9_byLord l tA tB adM 300 T (xs (i + 1)) e2) (cwV 1 C9.2.2.2.2.1 gL_law_X9_byLord rfl rfl rfl (by decide +kernel) ⟨Nat.le_of_ble_eq_true rfl, Nat.le_of_ble_eq_true rfl⟩) ⟨Nat.le_refl _, Nat.le_refl _⟩ km_0 rfl rfl rfl (Nat.le_of_ble_eq_true rfl) dL_law_562 ?_
  refine pw_swap ?_
  exact px_icmp_eq C8 (tgt := 893) dL_law_565 (by decide) (fun _ => back _ _ h2) (fun z => absurd rfl z)
set_option maxHeartbeats 4000000 in
set_option maxRecDepth 100000 in
theorem lc_18 {p : Program} {l : Launch} {e : Env} {s : State} {m : MethodId} {below : List Frame} {meth : Method} {c : Code} {b L : Nat} {xs : Nat → Int32} {D : va_G} {cI cB cz : ClassId} {tA tB : Nat} {adX adM : Nat → Nat} (C8 : LX8 p s m meth c D b cI cB tA tB) (C9 : LX9 p s m meth c D b cI cz tA tB) (X : LXs b L xs s) (hL : L ≤ 192) {i : Nat} (hi : i + 3 ≤ L) {S T : St} (h : Rel S T) (back : ∀ S1 T1 : St, Rel S1 T1 → LWP p l e s m below meth c b D cI cB cz adX adM S1 T1 [(0, .ref b), (1, .ref (adX 0)), (2, .ref (adM 0)), (3, .int (nI i))] 893 []) : LWP p l e s m below meth c b D cI cB cz adX adM S T [(0, .ref b), (1, .ref (adX 0)), (2, .ref (adM 0)), (3, .int (nI i))] 570 [] := by
  obtain ⟨r, S2, T2, e1, e2, h2⟩ := a_most (Nat.le_refl 300) h (xs (i + 1)) (xs (i + 2))
  refine px_aload_n C8 1 dL_law_570 rfl rfl ?_
  refine lx_arg C8 X hL (j := 1) (i := i) (by decide) (by omega) rfl rfl dL_law_571 dL_law_572 dL_law_573 dL_law_574 dL_law_575 ?_
  refine lx_arg C8 X hL (j := 2) (i := i) (by decide) (by omega) rfl rfl dL_law_576 dL_law_577 dL_law_578 dL_law_579 dL_law_580 ?_
  refine px_callV1 C8 (c_X8_most l tA tB adX 300 S (xs (i + 1)) (xs (i + 2)) e1) (cwV 2 C8.2.2.2.2.1 gL_law_X8_most rfl rfl rfl (by decide +kernel) ⟨Nat.le_of_ble_eq_true rfl, Nat.le_of_ble_eq_true rfl⟩) ⟨Nat.le_refl _, Nat.le_refl _⟩ kx_0 rfl rfl rfl (Nat.le_of_ble_eq_true rfl) dL_law_581 ?_
  refine pw_swap ?_
  refine px_aload_n C9 2 dL_law_584 rfl rfl ?_
  refine lx_arg C9 X hL (j := 1) (i := i) (by decide) (by omega) rfl rfl dL_law_585 dL_law_586 dL_law_587 dL_law_588 dL_law_589 ?_
  refine lx_arg C9 X hL (j := 2) (i := i) (by decide) (by omega) rfl rfl dL_law_590 dL_law_591 dL_law_592 dL_law_593 dL_law_594 ?_
  refine px_callV1 C9 (c_X9_most l tA tB adM 300 T (xs (i + 1)) (xs (i + 2)) e2) (cwV 2 C9.2.2.2.2.1 gL_law_X9_most rfl rfl rfl (by decide +kernel) ⟨Nat.le_of_ble_eq_true rfl, Nat.le_of_ble_eq_true rfl⟩) ⟨Nat.le_refl _, Nat.le_refl _⟩ km_0 rfl rfl rfl (Nat.le_of_ble_eq_true rfl) dL_law_595 ?_
  refine pw_swap ?_
  exact px_icmp_eq C8 (tgt := 893) dL_law_598 (by decide) (fun _ => back _ _ h2) (fun z => absurd rfl z)
set_option maxHeartbeats 4000000 in
set_option maxRecDepth 100000 in
theorem lc_19 {p : Program} {l : Launch} {e : Env} {s : State} {m : MethodId} {below : List Frame} {meth : Method} {c : Code} {b L : Nat} {xs : Nat → Int32} {D : va_G} {cI cB cz : ClassId} {tA tB : Nat} {adX adM : Nat → Nat} (C8 : LX8 p s m meth c D b cI cB tA tB) (C9 : LX9 p s m meth c D b cI cz tA tB) (X : LXs b L xs s) (hL : L ≤ 192) {i : Nat} (hi : i + 3 ≤ L) {S T : St} (h : Rel S T) (back : ∀ S1 T1 : St, Rel S1 T1 → LWP p l e s m below meth c b D cI cB cz adX adM S1 T1 [(0, .ref b), (1, .ref (adX 0)), (2, .ref (adM 0)), (3, .int (nI i))] 893 []) : LWP p l e s m below meth c b D cI cB cz adX adM S T [(0, .ref b), (1, .ref (adX 0)), (2, .ref (adM 0)), (3, .int (nI i))] 603 [] := by
  obtain ⟨r, S2, T2, e1, e2, h2⟩ := a_still (Nat.le_refl 300) h
  refine px_aload_n C8 1 dL_law_603 rfl rfl ?_
  refine px_callV1 C8 (c_X8_still l tA tB adX 300 S e1) (cwV 0 C8.2.2.2.2.1 gL_law_X8_still rfl rfl rfl (by decide +kernel) ⟨Nat.le_of_ble_eq_true rfl, Nat.le_of_ble_eq_true rfl⟩) ⟨Nat.le_refl _, Nat.le_refl _⟩ kx_0 rfl rfl rfl (Nat.le_of_ble_eq_true rfl) dL_law_604 ?_
  refine pw_swap ?_
  refine px_aload_n C9 2 dL_law_607 rfl rfl ?_
  refine px_callV1 C9 (c_X9_still l tA tB adM 300 T e2) (cwV 0 C9.2.2.2.2.1 gL_law_X9_still rfl rfl rfl (by decide +kernel) ⟨Nat.le_of_ble_eq_true rfl, Nat.le_of_ble_eq_true rfl⟩) ⟨Nat.le_refl _, Nat.le_refl _⟩ km_0 rfl rfl rfl (Nat.le_of_ble_eq_true rfl) dL_law_608 ?_
  refine pw_swap ?_
  exact px_icmp_eq C8 (tgt := 893) dL_law_611 (by decide) (fun _ => back _ _ h2) (fun z => absurd rfl z)
set_option maxHeartbeats 4000000 in
set_option maxRecDepth 100000 in
theorem lc_20 {p : Program} {l : Launch} {e : Env} {s : State} {m : MethodId} {below : List Frame} {meth : Method} {c : Code} {b L : Nat} {xs : Nat → Int32} {D : va_G} {cI cB cz : ClassId} {tA tB : Nat} {adX adM : Nat → Nat} (C8 : LX8 p s m meth c D b cI cB tA tB) (C9 : LX9 p s m meth c D b cI cz tA tB) (X : LXs b L xs s) (hL : L ≤ 192) {i : Nat} (hi : i + 3 ≤ L) {S T : St} (h : Rel S T) (back : ∀ S1 T1 : St, Rel S1 T1 → LWP p l e s m below meth c b D cI cB cz adX adM S1 T1 [(0, .ref b), (1, .ref (adX 0)), (2, .ref (adM 0)), (3, .int (nI i))] 893 []) : LWP p l e s m below meth c b D cI cB cz adX adM S T [(0, .ref b), (1, .ref (adX 0)), (2, .ref (adM 0)), (3, .int (nI i))] 616 [] := by
  obtain ⟨r, T2, e1, e2, h2⟩ := a_cheap (Nat.le_refl 300) h (xs (i + 1)) (xs (i + 2))
  refine px_aload_n C8 1 dL_law_616 rfl rfl ?_
  refine lx_arg C8 X hL (j := 1) (i := i) (by decide) (by omega) rfl rfl dL_law_617 dL_law_618 dL_law_619 dL_law_620 dL_law_621 ?_
  refine lx_arg C8 X hL (j := 2) (i := i) (by decide) (by omega) rfl rfl dL_law_622 dL_law_623 dL_law_624 dL_law_625 dL_law_626 ?_
  refine px_callV1 C8 (c_X8_cheap l tA tB adX 300 S (xs (i + 1)) (xs (i + 2)) e1) (cwV 2 C8.2.2.2.2.1 gL_law_X8_cheap rfl rfl rfl (by decide +kernel) ⟨Nat.le_of_ble_eq_true rfl, Nat.le_of_ble_eq_true rfl⟩) ⟨Nat.le_refl _, Nat.le_refl _⟩ kx_0 rfl rfl rfl (Nat.le_of_ble_eq_true rfl) dL_law_627 ?_
  refine pw_swap ?_
  refine px_aload_n C9 2 dL_law_630 rfl rfl ?_
  refine lx_arg C9 X hL (j := 1) (i := i) (by decide) (by omega) rfl rfl dL_law_631 dL_law_632 dL_law_633 dL_law_634 dL_law_635 ?_
  refine lx_arg C9 X hL (j := 2) (i := i) (by decide) (by omega) rfl rfl dL_law_636 dL_law_637 dL_law_638 dL_law_639 dL_law_640 ?_
  refine px_callV1 C9 (c_X9_cheap l tA tB adM 300 T (xs (i + 1)) (xs (i + 2)) e2) (cwV 2 C9.2.2.2.2.1 gL_law_X9_cheap rfl rfl rfl (by decide +kernel) ⟨Nat.le_of_ble_eq_true rfl, Nat.le_of_ble_eq_true rfl⟩) ⟨Nat.le_refl _, Nat.le_refl _⟩ km_0 rfl rfl rfl (Nat.le_of_ble_eq_true rfl) dL_law_641 ?_
  refine pw_swap ?_
  exact px_icmp_eq C8 (tgt := 893) dL_law_644 (by decide) (fun _ => back _ _ h2) (fun z => absurd rfl z)
set_option maxHeartbeats 4000000 in
set_option maxRecDepth 100000 in
theorem lc_21 {p : Program} {l : Launch} {e : Env} {s : State} {m : MethodId} {below : List Frame} {meth : Method} {c : Code} {b L : Nat} {xs : Nat → Int32} {D : va_G} {cI cB cz : ClassId} {tA tB : Nat} {adX adM : Nat → Nat} (C8 : LX8 p s m meth c D b cI cB tA tB) (C9 : LX9 p s m meth c D b cI cz tA tB) (X : LXs b L xs s) (hL : L ≤ 192) {i : Nat} (hi : i + 3 ≤ L) {S T : St} (h : Rel S T) (back : ∀ S1 T1 : St, Rel S1 T1 → LWP p l e s m below meth c b D cI cB cz adX adM S1 T1 [(0, .ref b), (1, .ref (adX 0)), (2, .ref (adM 0)), (3, .int (nI i))] 893 []) : LWP p l e s m below meth c b D cI cB cz adX adM S T [(0, .ref b), (1, .ref (adX 0)), (2, .ref (adM 0)), (3, .int (nI i))] 649 [] := by
  obtain ⟨r, S2, T2, e1, e2, h2⟩ := a_two (Nat.le_refl 300) h (xs (i + 1))
  refine px_aload_n C8 1 dL_law_649 rfl rfl ?_
  refine lx_arg C8 X hL (j := 1) (i := i) (by decide) (by omega) rfl rfl dL_law_650 dL_law_651 dL_law_652 dL_law_653 dL_law_654 ?_
  refine px_callV1 C8 (c_X8_two l tA tB adX 300 S (xs (i + 1)) e1) (cwV 1 C8.2.2.2.2.1 gL_law_X8_two rfl rfl rfl (by decide +kernel) ⟨Nat.le_of_ble_eq_true rfl, Nat.le_of_ble_eq_true rfl⟩) ⟨Nat.le_refl _, Nat.le_refl _⟩ kx_0 rfl rfl rfl (Nat.le_of_ble_eq_true rfl) dL_law_655 ?_
  refine pw_swap ?_
  refine px_aload_n C9 2 dL_law_658 rfl rfl ?_
  refine lx_arg C9 X hL (j := 1) (i := i) (by decide) (by omega) rfl rfl dL_law_659 dL_law_660 dL_law_661 dL_law_662 dL_law_663 ?_
  refine px_callV1 C9 (c_X9_two l tA tB adM 300 T (xs (i + 1)) e2) (cwV 1 C9.2.2.2.2.1 gL_law_X9_two rfl rfl rfl (by decide +kernel) ⟨Nat.le_of_ble_eq_true rfl, Nat.le_of_ble_eq_true rfl⟩) ⟨Nat.le_refl _, Nat.le_refl _⟩ km_0 rfl rfl rfl (Nat.le_of_ble_eq_true rfl) dL_law_664 ?_
  refine pw_swap ?_
  exact px_icmp_eq C8 (tgt := 893) dL_law_667 (by decide) (fun _ => back _ _ h2) (fun z => absurd rfl z)
set_option maxHeartbeats 4000000 in
set_option maxRecDepth 100000 in
theorem lc_22 {p : Program} {l : Launch} {e : Env} {s : State} {m : MethodId} {below : List Frame} {meth : Method} {c : Code} {b L : Nat} {xs : Nat → Int32} {D : va_G} {cI cB cz : ClassId} {tA tB : Nat} {adX adM : Nat → Nat} (C8 : LX8 p s m meth c D b cI cB tA tB) (C9 : LX9 p s m meth c D b cI cz tA tB) (X : LXs b L xs s) (hL : L ≤ 192) {i : Nat} (hi : i + 3 ≤ L) {S T : St} (h : Rel S T) (back : ∀ S1 T1 : St, Rel S1 T1 → LWP p l e s m below meth c b D cI cB cz adX adM S1 T1 [(0, .ref b), (1, .ref (adX 0)), (2, .ref (adM 0)), (3, .int (nI i))] 893 []) : LWP p l e s m below meth c b D cI cB cz adX adM S T [(0, .ref b), (1, .ref (adX 0)), (2, .ref (adM 0)), (3, .int (nI i))] 672 [] := by
  obtain ⟨r, S2, T2, e1, e2, h2⟩ := a_one (Nat.le_refl 300) h
  refine px_aload_n C8 1 dL_law_672 rfl rfl ?_
  refine px_callV1 C8 (c_X8_one l tA tB adX 300 S e1) (cwV 0 C8.2.2.2.2.1 gL_law_X8_one rfl rfl rfl (by decide +kernel) ⟨Nat.le_of_ble_eq_true rfl, Nat.le_of_ble_eq_true rfl⟩) ⟨Nat.le_refl _, Nat.le_refl _⟩ kx_0 rfl rfl rfl (Nat.le_of_ble_eq_true rfl) dL_law_673 ?_
  refine pw_swap ?_
  refine px_aload_n C9 2 dL_law_676 rfl rfl ?_
  refine px_callV1 C9 (c_X9_one l tA tB adM 300 T e2) (cwV 0 C9.2.2.2.2.1 gL_law_X9_one rfl rfl rfl (by decide +kernel) ⟨Nat.le_of_ble_eq_true rfl, Nat.le_of_ble_eq_true rfl⟩) ⟨Nat.le_refl _, Nat.le_refl _⟩ km_0 rfl rfl rfl (Nat.le_of_ble_eq_true rfl) dL_law_677 ?_
  refine pw_swap ?_
  exact px_icmp_eq C8 (tgt := 893) dL_law_680 (by decide) (fun _ => back _ _ h2) (fun z => absurd rfl z)
set_option maxHeartbeats 4000000 in
set_option maxRecDepth 100000 in
theorem lc_23 {p : Program} {l : Launch} {e : Env} {s : State} {m : MethodId} {below : List Frame} {meth : Method} {c : Code} {b L : Nat} {xs : Nat → Int32} {D : va_G} {cI cB cz : ClassId} {tA tB : Nat} {adX adM : Nat → Nat} (C8 : LX8 p s m meth c D b cI cB tA tB) (C9 : LX9 p s m meth c D b cI cz tA tB) (X : LXs b L xs s) (hL : L ≤ 192) {i : Nat} (hi : i + 3 ≤ L) {S T : St} (h : Rel S T) (back : ∀ S1 T1 : St, Rel S1 T1 → LWP p l e s m below meth c b D cI cB cz adX adM S1 T1 [(0, .ref b), (1, .ref (adX 0)), (2, .ref (adM 0)), (3, .int (nI i))] 893 []) : LWP p l e s m below meth c b D cI cB cz adX adM S T [(0, .ref b), (1, .ref (adX 0)), (2, .ref (adM 0)), (3, .int (nI i))] 685 [] := by
  obtain ⟨r, S2, T2, e1, e2, h2⟩ := a_left h (xs (i + 1)) (xs (i + 2))
  refine px_aload_n C8 1 dL_law_685 rfl rfl ?_
  refine lx_arg C8 X hL (j := 1) (i := i) (by decide) (by omega) rfl rfl dL_law_686 dL_law_687 dL_law_688 dL_law_689 dL_law_690 ?_
  refine lx_arg C8 X hL (j := 2) (i := i) (by decide) (by omega) rfl rfl dL_law_691 dL_law_692 dL_law_693 dL_law_694 dL_law_695 ?_
  refine px_callV1 C8 (c_X8_left l tA tB adX S (xs (i + 1)) (xs (i + 2)) e1) (cwV 2 C8.2.2.2.2.1 gL_law_X8_left rfl rfl rfl (by decide +kernel) ⟨Nat.le_of_ble_eq_true rfl, Nat.le_of_ble_eq_true rfl⟩) ⟨Nat.le_refl _, Nat.le_refl _⟩ kx_0 rfl rfl rfl (Nat.le_of_ble_eq_true rfl) dL_law_696 ?_
  refine pw_swap ?_
  refine px_aload_n C9 2 dL_law_699 rfl rfl ?_
  refine lx_arg C9 X hL (j := 1) (i := i) (by decide) (by omega) rfl rfl dL_law_700 dL_law_701 dL_law_702 dL_law_703 dL_law_704 ?_
  refine lx_arg C9 X hL (j := 2) (i := i) (by decide) (by omega) rfl rfl dL_law_705 dL_law_706 dL_law_707 dL_law_708 dL_law_709 ?_
  refine px_callV1 C9 (c_X9_left l tA tB adM T (xs (i + 1)) (xs (i + 2)) e2) (cwV 2 C9.2.2.2.2.1 gL_law_X9_left rfl rfl rfl (by decide +kernel) ⟨Nat.le_of_ble_eq_true rfl, Nat.le_of_ble_eq_true rfl⟩) ⟨Nat.le_refl _, Nat.le_refl _⟩ km_0 rfl rfl rfl (Nat.le_of_ble_eq_true rfl) dL_law_710 ?_
  refine pw_swap ?_
  exact px_icmp_eq C8 (tgt := 893) dL_law_713 (by decide) (fun _ => back _ _ h2) (fun z => absurd rfl z)
set_option maxHeartbeats 4000000 in
set_option maxRecDepth 100000 in
theorem lc_24 {p : Program} {l : Launch} {e : Env} {s : State} {m : MethodId} {below : List Frame} {meth : Method} {c : Code} {b L : Nat} {xs : Nat → Int32} {D : va_G} {cI cB cz : ClassId} {tA tB : Nat} {adX adM : Nat → Nat} (C8 : LX8 p s m meth c D b cI cB tA tB) (C9 : LX9 p s m meth c D b cI cz tA tB) (X : LXs b L xs s) (hL : L ≤ 192) {i : Nat} (hi : i + 3 ≤ L) {S T : St} (h : Rel S T) (back : ∀ S1 T1 : St, Rel S1 T1 → LWP p l e s m below meth c b D cI cB cz adX adM S1 T1 [(0, .ref b), (1, .ref (adX 0)), (2, .ref (adM 0)), (3, .int (nI i))] 893 []) : LWP p l e s m below meth c b D cI cB cz adX adM S T [(0, .ref b), (1, .ref (adX 0)), (2, .ref (adM 0)), (3, .int (nI i))] 718 [] := by
  obtain ⟨r, S2, T2, e1, e2, h2⟩ := a_forget h
  refine px_aload_n C8 1 dL_law_718 rfl rfl ?_
  refine px_callV1 C8 (c_X8_forget l tA tB adX S e1) (cwV 0 C8.2.2.2.2.1 gL_law_X8_forget rfl rfl rfl (by decide +kernel) ⟨Nat.le_of_ble_eq_true rfl, Nat.le_of_ble_eq_true rfl⟩) ⟨Nat.le_refl _, Nat.le_refl _⟩ kx_0 rfl rfl rfl (Nat.le_of_ble_eq_true rfl) dL_law_719 ?_
  refine pw_swap ?_
  refine px_aload_n C9 2 dL_law_722 rfl rfl ?_
  refine px_callV1 C9 (c_X9_forget l tA tB adM T e2) (cwV 0 C9.2.2.2.2.1 gL_law_X9_forget rfl rfl rfl (by decide +kernel) ⟨Nat.le_of_ble_eq_true rfl, Nat.le_of_ble_eq_true rfl⟩) ⟨Nat.le_refl _, Nat.le_refl _⟩ km_0 rfl rfl rfl (Nat.le_of_ble_eq_true rfl) dL_law_723 ?_
  refine pw_swap ?_
  exact px_icmp_eq C8 (tgt := 893) dL_law_726 (by decide) (fun _ => back _ _ h2) (fun z => absurd rfl z)
set_option maxHeartbeats 4000000 in
set_option maxRecDepth 100000 in
theorem lc_25 {p : Program} {l : Launch} {e : Env} {s : State} {m : MethodId} {below : List Frame} {meth : Method} {c : Code} {b L : Nat} {xs : Nat → Int32} {D : va_G} {cI cB cz : ClassId} {tA tB : Nat} {adX adM : Nat → Nat} (C8 : LX8 p s m meth c D b cI cB tA tB) (C9 : LX9 p s m meth c D b cI cz tA tB) (X : LXs b L xs s) (hL : L ≤ 192) {i : Nat} (hi : i + 3 ≤ L) {S T : St} (h : Rel S T) (back : ∀ S1 T1 : St, Rel S1 T1 → LWP p l e s m below meth c b D cI cB cz adX adM S1 T1 [(0, .ref b), (1, .ref (adX 0)), (2, .ref (adM 0)), (3, .int (nI i))] 893 []) : LWP p l e s m below meth c b D cI cB cz adX adM S T [(0, .ref b), (1, .ref (adX 0)), (2, .ref (adM 0)), (3, .int (nI i))] 731 [] := by
  obtain ⟨r, S2, T2, e1, e2, h2⟩ := a_took (Nat.le_refl 300) h
  refine px_aload_n C8 1 dL_law_731 rfl rfl ?_
  refine px_callV1 C8 (c_X8_took l tA tB adX 300 S e1) (cwV 0 C8.2.2.2.2.1 gL_law_X8_took rfl rfl rfl (by decide +kernel) ⟨Nat.le_of_ble_eq_true rfl, Nat.le_of_ble_eq_true rfl⟩) ⟨Nat.le_refl _, Nat.le_refl _⟩ kx_0 rfl rfl rfl (Nat.le_of_ble_eq_true rfl) dL_law_732 ?_
  refine pw_swap ?_
  refine px_aload_n C9 2 dL_law_735 rfl rfl ?_
  refine px_callV1 C9 (c_X9_took l tA tB adM 300 T e2) (cwV 0 C9.2.2.2.2.1 gL_law_X9_took rfl rfl rfl (by decide +kernel) ⟨Nat.le_of_ble_eq_true rfl, Nat.le_of_ble_eq_true rfl⟩) ⟨Nat.le_refl _, Nat.le_refl _⟩ km_0 rfl rfl rfl (Nat.le_of_ble_eq_true rfl) dL_law_736 ?_
  refine pw_swap ?_
  exact px_icmp_eq C8 (tgt := 893) dL_law_739 (by decide) (fun _ => back _ _ h2) (fun z => absurd rfl z)
set_option maxHeartbeats 4000000 in
set_option maxRecDepth 100000 in
theorem lc_26 {p : Program} {l : Launch} {e : Env} {s : State} {m : MethodId} {below : List Frame} {meth : Method} {c : Code} {b L : Nat} {xs : Nat → Int32} {D : va_G} {cI cB cz : ClassId} {tA tB : Nat} {adX adM : Nat → Nat} (C8 : LX8 p s m meth c D b cI cB tA tB) (C9 : LX9 p s m meth c D b cI cz tA tB) (X : LXs b L xs s) (hL : L ≤ 192) {i : Nat} (hi : i + 3 ≤ L) {S T : St} (h : Rel S T) (back : ∀ S1 T1 : St, Rel S1 T1 → LWP p l e s m below meth c b D cI cB cz adX adM S1 T1 [(0, .ref b), (1, .ref (adX 0)), (2, .ref (adM 0)), (3, .int (nI i))] 893 []) : LWP p l e s m below meth c b D cI cB cz adX adM S T [(0, .ref b), (1, .ref (adX 0)), (2, .ref (adM 0)), (3, .int (nI i))] 744 [] := by
  obtain ⟨r, T2, e1, e2, h2⟩ := a_odds (Nat.le_refl 300) h (xs (i + 1)) (xs (i + 2))
  refine px_aload_n C8 1 dL_law_744 rfl rfl ?_
  refine lx_arg C8 X hL (j := 1) (i := i) (by decide) (by omega) rfl rfl dL_law_745 dL_law_746 dL_law_747 dL_law_748 dL_law_749 ?_
  refine lx_arg C8 X hL (j := 2) (i := i) (by decide) (by omega) rfl rfl dL_law_750 dL_law_751 dL_law_752 dL_law_753 dL_law_754 ?_
  refine px_callV1 C8 (c_X8_odds l tA tB adX 300 S (xs (i + 1)) (xs (i + 2)) e1) (cwV 2 C8.2.2.2.2.1 gL_law_X8_odds rfl rfl rfl (by decide +kernel) ⟨Nat.le_of_ble_eq_true rfl, Nat.le_of_ble_eq_true rfl⟩) ⟨Nat.le_refl _, Nat.le_refl _⟩ kx_0 rfl rfl rfl (Nat.le_of_ble_eq_true rfl) dL_law_755 ?_
  refine pw_swap ?_
  refine px_aload_n C9 2 dL_law_758 rfl rfl ?_
  refine lx_arg C9 X hL (j := 1) (i := i) (by decide) (by omega) rfl rfl dL_law_759 dL_law_760 dL_law_761 dL_law_762 dL_law_763 ?_
  refine lx_arg C9 X hL (j := 2) (i := i) (by decide) (by omega) rfl rfl dL_law_764 dL_law_765 dL_law_766 dL_law_767 dL_law_768 ?_
  refine px_callV1 C9 (c_X9_odds l tA tB adM 300 T (xs (i + 1)) (xs (i + 2)) e2) (cwV 2 C9.2.2.2.2.1 gL_law_X9_odds rfl rfl rfl (by decide +kernel) ⟨Nat.le_of_ble_eq_true rfl, Nat.le_of_ble_eq_true rfl⟩) ⟨Nat.le_refl _, Nat.le_refl _⟩ km_0 rfl rfl rfl (Nat.le_of_ble_eq_true rfl) dL_law_769 ?_
  refine pw_swap ?_
  exact px_icmp_eq C8 (tgt := 893) dL_law_772 (by decide) (fun _ => back _ _ h2) (fun z => absurd rfl z)
set_option maxHeartbeats 4000000 in
set_option maxRecDepth 100000 in
theorem lc_27 {p : Program} {l : Launch} {e : Env} {s : State} {m : MethodId} {below : List Frame} {meth : Method} {c : Code} {b L : Nat} {xs : Nat → Int32} {D : va_G} {cI cB cz : ClassId} {tA tB : Nat} {adX adM : Nat → Nat} (C8 : LX8 p s m meth c D b cI cB tA tB) (C9 : LX9 p s m meth c D b cI cz tA tB) (X : LXs b L xs s) (hL : L ≤ 192) {i : Nat} (hi : i + 3 ≤ L) {S T : St} (h : Rel S T) (back : ∀ S1 T1 : St, Rel S1 T1 → LWP p l e s m below meth c b D cI cB cz adX adM S1 T1 [(0, .ref b), (1, .ref (adX 0)), (2, .ref (adM 0)), (3, .int (nI i))] 893 []) : LWP p l e s m below meth c b D cI cB cz adX adM S T [(0, .ref b), (1, .ref (adX 0)), (2, .ref (adM 0)), (3, .int (nI i))] 777 [] := by
  obtain ⟨r, S2, T2, e1, e2, h2⟩ := a_rate h (xs (i + 1)) (xs (i + 2))
  refine px_aload_n C8 1 dL_law_777 rfl rfl ?_
  refine lx_arg C8 X hL (j := 1) (i := i) (by decide) (by omega) rfl rfl dL_law_778 dL_law_779 dL_law_780 dL_law_781 dL_law_782 ?_
  refine lx_arg C8 X hL (j := 2) (i := i) (by decide) (by omega) rfl rfl dL_law_783 dL_law_784 dL_law_785 dL_law_786 dL_law_787 ?_
  refine px_callV1 C8 (c_X8_rate l tA tB adX S (xs (i + 1)) (xs (i + 2)) e1) (cwV 2 C8.2.2.2.2.1 gL_law_X8_rate rfl rfl rfl (by decide +kernel) ⟨Nat.le_of_ble_eq_true rfl, Nat.le_of_ble_eq_true rfl⟩) ⟨Nat.le_refl _, Nat.le_refl _⟩ kx_0 rfl rfl rfl (Nat.le_of_ble_eq_true rfl) dL_law_788 ?_
  refine pw_swap ?_
  refine px_aload_n C9 2 dL_law_791 rfl rfl ?_
  refine lx_arg C9 X hL (j := 1) (i := i) (by decide) (by omega) rfl rfl dL_law_792 dL_law_793 dL_law_794 dL_law_795 dL_law_796 ?_
  refine lx_arg C9 X hL (j := 2) (i := i) (by decide) (by omega) rfl rfl dL_law_797 dL_law_798 dL_law_799 dL_law_800 dL_law_801 ?_
  refine px_callV1 C9 (c_X9_rate l tA tB adM T (xs (i + 1)) (xs (i + 2)) e2) (cwV 2 C9.2.2.2.2.1 gL_law_X9_rate rfl rfl rfl (by decide +kernel) ⟨Nat.le_of_ble_eq_true rfl, Nat.le_of_ble_eq_true rfl⟩) ⟨Nat.le_refl _, Nat.le_refl _⟩ km_0 rfl rfl rfl (Nat.le_of_ble_eq_true rfl) dL_law_802 ?_
  refine pw_swap ?_
  exact px_icmp_eq C8 (tgt := 893) dL_law_805 (by decide) (fun _ => back _ _ h2) (fun z => absurd rfl z)
set_option maxHeartbeats 4000000 in
set_option maxRecDepth 100000 in
theorem lc_28 {p : Program} {l : Launch} {e : Env} {s : State} {m : MethodId} {below : List Frame} {meth : Method} {c : Code} {b L : Nat} {xs : Nat → Int32} {D : va_G} {cI cB cz : ClassId} {tA tB : Nat} {adX adM : Nat → Nat} (C8 : LX8 p s m meth c D b cI cB tA tB) (C9 : LX9 p s m meth c D b cI cz tA tB) (X : LXs b L xs s) (hL : L ≤ 192) {i : Nat} (hi : i + 3 ≤ L) {S T : St} (h : Rel S T) (back : ∀ S1 T1 : St, Rel S1 T1 → LWP p l e s m below meth c b D cI cB cz adX adM S1 T1 [(0, .ref b), (1, .ref (adX 0)), (2, .ref (adM 0)), (3, .int (nI i))] 893 []) : LWP p l e s m below meth c b D cI cB cz adX adM S T [(0, .ref b), (1, .ref (adX 0)), (2, .ref (adM 0)), (3, .int (nI i))] 810 [] := by
  obtain ⟨r, S2, T2, e1, e2, h2⟩ := a_keep (Nat.le_refl 300) h (xs (i + 1))
  refine px_aload_n C8 1 dL_law_810 rfl rfl ?_
  refine lx_arg C8 X hL (j := 1) (i := i) (by decide) (by omega) rfl rfl dL_law_811 dL_law_812 dL_law_813 dL_law_814 dL_law_815 ?_
  refine px_callV1 C8 (c_X8_keep l tA tB adX 300 S (xs (i + 1)) e1) (cwV 1 C8.2.2.2.2.1 gL_law_X8_keep rfl rfl rfl (by decide +kernel) ⟨Nat.le_of_ble_eq_true rfl, Nat.le_of_ble_eq_true rfl⟩) ⟨Nat.le_refl _, Nat.le_refl _⟩ kx_0 rfl rfl rfl (Nat.le_of_ble_eq_true rfl) dL_law_816 ?_
  refine pw_swap ?_
  refine px_aload_n C9 2 dL_law_819 rfl rfl ?_
  refine lx_arg C9 X hL (j := 1) (i := i) (by decide) (by omega) rfl rfl dL_law_820 dL_law_821 dL_law_822 dL_law_823 dL_law_824 ?_
  refine px_callV1 C9 (c_X9_keep l tA tB adM 300 T (xs (i + 1)) e2) (cwV 1 C9.2.2.2.2.1 gL_law_X9_keep rfl rfl rfl (by decide +kernel) ⟨Nat.le_of_ble_eq_true rfl, Nat.le_of_ble_eq_true rfl⟩) ⟨Nat.le_refl _, Nat.le_refl _⟩ km_0 rfl rfl rfl (Nat.le_of_ble_eq_true rfl) dL_law_825 ?_
  refine pw_swap ?_
  exact px_icmp_eq C8 (tgt := 893) dL_law_828 (by decide) (fun _ => back _ _ h2) (fun z => absurd rfl z)
set_option maxHeartbeats 4000000 in
set_option maxRecDepth 100000 in
theorem lc_29 {p : Program} {l : Launch} {e : Env} {s : State} {m : MethodId} {below : List Frame} {meth : Method} {c : Code} {b L : Nat} {xs : Nat → Int32} {D : va_G} {cI cB cz : ClassId} {tA tB : Nat} {adX adM : Nat → Nat} (C8 : LX8 p s m meth c D b cI cB tA tB) (C9 : LX9 p s m meth c D b cI cz tA tB) (X : LXs b L xs s) (hL : L ≤ 192) {i : Nat} (hi : i + 3 ≤ L) {S T : St} (h : Rel S T) (back : ∀ S1 T1 : St, Rel S1 T1 → LWP p l e s m below meth c b D cI cB cz adX adM S1 T1 [(0, .ref b), (1, .ref (adX 0)), (2, .ref (adM 0)), (3, .int (nI i))] 893 []) : LWP p l e s m below meth c b D cI cB cz adX adM S T [(0, .ref b), (1, .ref (adX 0)), (2, .ref (adM 0)), (3, .int (nI i))] 833 [] := by
  obtain ⟨r, S2, T2, e1, e2, h2⟩ := a_back (Nat.le_refl 300) h (xs (i + 1))
  refine px_aload_n C8 1 dL_law_833 rfl rfl ?_
  refine lx_arg C8 X hL (j := 1) (i := i) (by decide) (by omega) rfl rfl dL_law_834 dL_law_835 dL_law_836 dL_law_837 dL_law_838 ?_
  refine px_callV1 C8 (c_X8_back l tA tB adX 300 S (xs (i + 1)) e1) (cwV 1 C8.2.2.2.2.1 gL_law_X8_back rfl rfl rfl (by decide +kernel) ⟨Nat.le_of_ble_eq_true rfl, Nat.le_of_ble_eq_true rfl⟩) ⟨Nat.le_refl _, Nat.le_refl _⟩ kx_0 rfl rfl rfl (Nat.le_of_ble_eq_true rfl) dL_law_839 ?_
  refine pw_swap ?_
  refine px_aload_n C9 2 dL_law_842 rfl rfl ?_
  refine lx_arg C9 X hL (j := 1) (i := i) (by decide) (by omega) rfl rfl dL_law_843 dL_law_844 dL_law_845 dL_law_846 dL_law_847 ?_
  refine px_callV1 C9 (c_X9_back l tA tB adM 300 T (xs (i + 1)) e2) (cwV 1 C9.2.2.2.2.1 gL_law_X9_back rfl rfl rfl (by decide +kernel) ⟨Nat.le_of_ble_eq_true rfl, Nat.le_of_ble_eq_true rfl⟩) ⟨Nat.le_refl _, Nat.le_refl _⟩ km_0 rfl rfl rfl (Nat.le_of_ble_eq_true rfl) dL_law_848 ?_
  refine pw_swap ?_
  exact px_icmp_eq C8 (tgt := 893) dL_law_851 (by decide) (fun _ => back _ _ h2) (fun z => absurd rfl z)
set_option maxHeartbeats 4000000 in
set_option maxRecDepth 100000 in
theorem lc_30 {p : Program} {l : Launch} {e : Env} {s : State} {m : MethodId} {below : List Frame} {meth : Method} {c : Code} {b L : Nat} {xs : Nat → Int32} {D : va_G} {cI cB cz : ClassId} {tA tB : Nat} {adX adM : Nat → Nat} (C8 : LX8 p s m meth c D b cI cB tA tB) (C9 : LX9 p s m meth c D b cI cz tA tB) (X : LXs b L xs s) (hL : L ≤ 192) {i : Nat} (hi : i + 3 ≤ L) {S T : St} (h : Rel S T) (back : ∀ S1 T1 : St, Rel S1 T1 → LWP p l e s m below meth c b D cI cB cz adX adM S1 T1 [(0, .ref b), (1, .ref (adX 0)), (2, .ref (adM 0)), (3, .int (nI i))] 893 []) : LWP p l e s m below meth c b D cI cB cz adX adM S T [(0, .ref b), (1, .ref (adX 0)), (2, .ref (adM 0)), (3, .int (nI i))] 856 [] := by
  obtain ⟨r, T2, e1, e2, h2⟩ := a_count h (xs (i + 1))
  refine px_aload_n C8 1 dL_law_856 rfl rfl ?_
  refine lx_arg C8 X hL (j := 1) (i := i) (by decide) (by omega) rfl rfl dL_law_857 dL_law_858 dL_law_859 dL_law_860 dL_law_861 ?_
  refine px_callV1 C8 (c_X8_count l tA tB adX S (xs (i + 1)) e1) (cwV 1 C8.2.2.2.2.1 gL_law_X8_count rfl rfl rfl (by decide +kernel) ⟨Nat.le_of_ble_eq_true rfl, Nat.le_of_ble_eq_true rfl⟩) ⟨Nat.le_refl _, Nat.le_refl _⟩ kx_0 rfl rfl rfl (Nat.le_of_ble_eq_true rfl) dL_law_862 ?_
  refine pw_swap ?_
  refine px_aload_n C9 2 dL_law_865 rfl rfl ?_
  refine lx_arg C9 X hL (j := 1) (i := i) (by decide) (by omega) rfl rfl dL_law_866 dL_law_867 dL_law_868 dL_law_869 dL_law_870 ?_
  refine px_callV1 C9 (c_X9_count l tA tB adM T (xs (i + 1)) e2) (cwV 1 C9.2.2.2.2.1 gL_law_X9_count rfl rfl rfl (by decide +kernel) ⟨Nat.le_of_ble_eq_true rfl, Nat.le_of_ble_eq_true rfl⟩) ⟨Nat.le_refl _, Nat.le_refl _⟩ km_0 rfl rfl rfl (Nat.le_of_ble_eq_true rfl) dL_law_871 ?_
  refine pw_swap ?_
  exact px_icmp_eq C8 (tgt := 893) dL_law_874 (by decide) (fun _ => back _ _ h2) (fun z => absurd rfl z)
set_option maxHeartbeats 4000000 in
set_option maxRecDepth 100000 in
theorem lc_31 {p : Program} {l : Launch} {e : Env} {s : State} {m : MethodId} {below : List Frame} {meth : Method} {c : Code} {b L : Nat} {xs : Nat → Int32} {D : va_G} {cI cB cz : ClassId} {tA tB : Nat} {adX adM : Nat → Nat} (C8 : LX8 p s m meth c D b cI cB tA tB) (C9 : LX9 p s m meth c D b cI cz tA tB) (X : LXs b L xs s) (hL : L ≤ 192) {i : Nat} (hi : i + 3 ≤ L) {S T : St} (h : Rel S T) (back : ∀ S1 T1 : St, Rel S1 T1 → LWP p l e s m below meth c b D cI cB cz adX adM S1 T1 [(0, .ref b), (1, .ref (adX 0)), (2, .ref (adM 0)), (3, .int (nI i))] 893 []) : LWP p l e s m below meth c b D cI cB cz adX adM S T [(0, .ref b), (1, .ref (adX 0)), (2, .ref (adM 0)), (3, .int (nI i))] 879 [] := by
  obtain ⟨r, T2, e1, e2, h2⟩ := a_trace h
  refine px_aload_n C8 1 dL_law_879 rfl rfl ?_
  refine px_callV1 C8 (c_X8_trace l tA tB adX S e1) (cwV 0 C8.2.2.2.2.1 gL_law_X8_trace rfl rfl rfl (by decide +kernel) ⟨Nat.le_of_ble_eq_true rfl, Nat.le_of_ble_eq_true rfl⟩) ⟨Nat.le_refl _, Nat.le_refl _⟩ kx_0 rfl rfl rfl (Nat.le_of_ble_eq_true rfl) dL_law_880 ?_
  refine pw_swap ?_
  refine px_aload_n C9 2 dL_law_883 rfl rfl ?_
  refine px_callV1 C9 (c_X9_trace l tA tB adM T e2) (cwV 0 C9.2.2.2.2.1 gL_law_X9_trace rfl rfl rfl (by decide +kernel) ⟨Nat.le_of_ble_eq_true rfl, Nat.le_of_ble_eq_true rfl⟩) ⟨Nat.le_refl _, Nat.le_refl _⟩ km_0 rfl rfl rfl (Nat.le_of_ble_eq_true rfl) dL_law_884 ?_
  refine pw_swap ?_
  refine px_lcmp C8 dL_law_887 ?_
  exact px_if_eq C8 (tgt := 893) dL_law_888 (by decide) (fun _ => back _ _ h2) (fun z => absurd (lg_cmp_self r) z)
