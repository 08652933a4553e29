theorem lk_X9_sets_31 : Cond.fieldLink RX9 31 "RiverTollsModel" "s" "[I" ∈ wsX9_sets := List.mem_of_getElem? (i := 2) rfl
theorem lk_X9_sets_62 : Cond.fieldLink RX9 62 "RiverTollsModel" "thrown" "I" ∈ wsX9_sets := List.mem_of_getElem? (i := 1) rfl
theorem iw_X9_sets_X9 : ∀ w ∈ u_ws RX9 TX9 28, w ∈ wsX9_sets := fun _ h9 => (List.mem_cons_of_mem _ (List.mem_append_right _ h9))
set_option maxHeartbeats 4000000 in
set_option maxRecDepth 100000 in
theorem c_X9_sets (l : Launch) (tA tB : Nat) (ad : Nat → Nat) (fu : Nat) (S : St) (a1 : Int32) (a2 : Int32) {rv : Int32} {S' : St} (h : m_X9_sets fu S a1 a2 = some (rv, S')) :
    XMet l yX9_sets wsX9_sets ({ frames := 2, cells := 0, slots := 0, locals := 43 }) KM .boolean tA tB [.ref (ad 0), .int a1, .int a2] ad S (some (.int rv)) S' := by
  refine XMet.of (cc := cX9_sets) (maxL := 4) (ret := (some .int)) (own := RX9) (lv := [(0, .ref (ad 0)), (1, .int a1), (2, .int a2)]) rfl (by decide) rfl (Nat.le_of_ble_eq_true rfl) rfl ?_
  intro p e s m args below meth c D A cI c1 F C
  rw [m_X9_sets] at h
  refine px_aload_n C 0 dX9_sets_0 rfl rfl ?_
  refine px_iconst C (v := (0 : Int32)) dX9_sets_1 (by decide) ?_
  obtain ⟨S1, eS1, h⟩ := el_lt h
  refine px_puti C (ty := .int) (j := 0) km_0 rfl rfl iw_X9_sets_X9 (by decide) lk_X9_sets_62 rfl tyX9 tyX9_ok nmX9 rfl (by decide +kernel) rfl rfl dX9_sets_2 ?_
  refine px_nmS eS1 ?_
  refine px_aload_n C 0 dX9_sets_5 rfl rfl ?_
  refine px_iload_n C 1 dX9_sets_6 rfl rfl ?_
  obtain ⟨x3, hc7_1, h⟩ := el_b h
  refine px_callV1 C (c_X9_isRock l tA tB ad S1 a1 hc7_1) (cwV 1 C.2.2.2.2.1 gX9_sets_X9_isRock rfl rfl rfl (by decide +kernel) ⟨Nat.le_of_ble_eq_true rfl, Nat.le_of_ble_eq_true rfl⟩) ⟨Nat.zero_le _, Nat.zero_le _⟩ km_0 rfl rfl rfl (Nat.le_of_ble_eq_true rfl) dX9_sets_7 ?_
  refine px_if_eq C (tgt := 23) dX9_sets_10 (by decide) (fun c10_3 => ?_) (fun c10_3 => ?_)
  · replace h := el_t c10_3 h
    refine px_iconst C (v := (-1 : Int32)) dX9_sets_23 (by decide) ?_
    exact px_iretES C dX9_sets_24 h
  · replace h := el_f c10_3 h
    refine px_iload_n C 2 dX9_sets_13 rfl rfl ?_
    refine px_iconst C (v := (0 : Int32)) dX9_sets_14 (by decide) ?_
    refine px_bipush C (v := (9 : Int32)) dX9_sets_15 (by decide) ?_
    obtain ⟨x6, hc17_4, h⟩ := el_b h
    refine px_callS1 C (c_X9_in l tA tB ad S1 a2 (0 : Int32) (9 : Int32) hc17_4) (va_cwS 3 C.2.2.2.2.1 gX9_sets_X9_in rfl rfl rfl (by decide +kernel) ⟨Nat.le_of_ble_eq_true rfl, Nat.le_of_ble_eq_true rfl⟩) ⟨Nat.zero_le _, Nat.zero_le _⟩ rfl rfl (Nat.le_of_ble_eq_true rfl) dX9_sets_17 ?_
    refine px_if_ne C (tgt := 25) dX9_sets_20 (by decide) (fun c20_6 => ?_) (fun c20_6 => ?_)
    · replace h := el_t c20_6 h
      refine px_aload_n C 0 dX9_sets_25 rfl rfl ?_
      obtain ⟨S9, hc26_7, h⟩ := el_b h
      refine px_callV0 C (c_X9_notes l tA tB ad fu S1 hc26_7) (cwV 0 C.2.2.2.2.1 gX9_sets_X9_notes rfl rfl rfl (by decide +kernel) ⟨Nat.le_of_ble_eq_true rfl, Nat.le_of_ble_eq_true rfl⟩) ⟨Nat.zero_le _, Nat.zero_le _⟩ km_0 rfl rfl rfl (Nat.le_of_ble_eq_true rfl) dX9_sets_26 ?_
      refine px_aload_n C 0 dX9_sets_29 rfl rfl ?_
      refine px_getr C (j := 16) km_0 rfl rfl iw_X9_sets_X9 (by decide) lk_X9_sets_31 rfl dX9_sets_30 ?_
      refine px_bipush C (v := (6 : Int32)) dX9_sets_33 (by decide) ?_
      refine px_iload_n C 1 dX9_sets_35 rfl rfl ?_
      refine px_iadd C dX9_sets_36 ?_
      obtain ⟨hix10, x10, ex10, h⟩ := el_ald h
      refine px_iald C km_8 hix10 rfl dX9_sets_37 ?_
      refine px_nm ex10 ?_
      refine px_istore_n C [(3, .int x10), (0, .ref (ad 0)), (1, .int a1), (2, .int a2)] dX9_sets_38 rfl (by decide) rfl ?_
      refine px_aload_n C 1 dX9_sets_39 rfl rfl ?_
      refine px_getr C (j := 16) km_0 rfl rfl iw_X9_sets_X9 (by decide) lk_X9_sets_31 rfl dX9_sets_40 ?_
      refine px_bipush C (v := (6 : Int32)) dX9_sets_43 (by decide) ?_
      refine px_iload_n C 2 dX9_sets_45 rfl rfl ?_
      refine px_iadd C dX9_sets_46 ?_
      refine px_iload_n C 3 dX9_sets_47 rfl rfl ?_
      obtain ⟨hiS11, S11, eS11, h⟩ := el_ast h
      refine px_iast C km_8 hiS11 rfl dX9_sets_48 ?_
      refine px_nmS eS11 ?_
      refine px_iload_n C 0 dX9_sets_49 rfl rfl ?_
      exact px_iretES C dX9_sets_50 h
    · replace h := el_fn c20_6 h
      refine px_iconst C (v := (-1 : Int32)) dX9_sets_23 (by decide) ?_
      exact px_iretES C dX9_sets_24 h
theorem lk_X9_still_13 : Cond.fieldLink RX9 13 "RiverTollsModel" "many" "[I" ∈ wsX9_still := List.mem_of_getElem? (i := 3) rfl
theorem lk_X9_still_31 : Cond.fieldLink RX9 31 "RiverTollsModel" "s" "[I" ∈ wsX9_still := List.mem_of_getElem? (i := 2) rfl
theorem lk_X9_still_34 : Cond.fieldLink RX9 34 "RiverTollsModel" "w" "[I" ∈ wsX9_still := List.mem_of_getElem? (i := 4) rfl
theorem lk_X9_still_62 : Cond.fieldLink RX9 62 "RiverTollsModel" "thrown" "I" ∈ wsX9_still := List.mem_of_getElem? (i := 1) rfl
theorem iw_X9_still_X9 : ∀ w ∈ u_ws RX9 TX9 28, w ∈ wsX9_still := fun _ h9 => (List.mem_cons_of_mem _ (List.mem_append_right _ h9))
set_option maxHeartbeats 4000000 in
set_option maxRecDepth 100000 in
theorem c_X9_still (l : Launch) (tA tB : Nat) (ad : Nat → Nat) (fu : Nat) (S : St) {rv : Int32} {S' : St} (h : m_X9_still fu S = some (rv, S')) :
    XMet l yX9_still wsX9_still ({ frames := 4, cells := 0, slots := 0, locals := 98 }) KM .boolean tA tB [.ref (ad 0)] ad S (some (.int rv)) S' := by
  refine XMet.of (cc := cX9_still) (maxL := 4) (ret := (some .int)) (own := RX9) (lv := [(0, .ref (ad 0))]) rfl (by decide) rfl (Nat.le_of_ble_eq_true rfl) rfl ?_
  intro p e s m args below meth c D A cI c1 F C
  rw [m_X9_still] at h
  refine px_aload_n C 0 dX9_still_0 rfl rfl ?_
  refine px_iconst C (v := (0 : Int32)) dX9_still_1 (by decide) ?_
  obtain ⟨S1, eS1, h⟩ := el_lt h
  refine px_puti C (ty := .int) (j := 0) km_0 rfl rfl iw_X9_still_X9 (by decide) lk_X9_still_62 rfl tyX9 tyX9_ok nmX9 rfl (by decide +kernel) rfl rfl dX9_still_2 ?_
  refine px_nmS eS1 ?_
  refine px_iconst C (v := (0 : Int32)) dX9_still_5 (by decide) ?_
  refine px_istore_n C [(1, .int (0 : Int32)), (0, .ref (ad 0))] dX9_still_6 rfl (by decide) rfl ?_
  refine px_aload_n C 1 dX9_still_7 rfl rfl ?_
  refine px_getr C (j := 16) km_0 rfl rfl iw_X9_still_X9 (by decide) lk_X9_still_31 rfl dX9_still_8 ?_
  refine px_iconst C (v := (0 : Int32)) dX9_still_11 (by decide) ?_
  refine px_iald C km_8 (j := 0) (by unfold vp_in; decide) (by decide) dX9_still_12 ?_
  refine px_istore_n C [(2, .int (S1.1 8 0)), (1, .int (0 : Int32)), (0, .ref (ad 0))] dX9_still_13 rfl (by decide) rfl ?_
  have hx0 : ∀  (x5 : Int32) (x6 : Int32) (S7 : St), m_X9_still_r0 x5 x6 S7 = some (rv, S') → PW p l e { frames := 4, cells := 0, slots := 0, locals := 98 } s m args below meth c (MQ below (QX KM A D cI c1 F ad (some (.int rv)) S') args s 0 0 A) D A cI c1 F KM ad 4 0 0 S7 [(0, .ref (ad 0)), (1, .int x5), (2, .int x6)] 113 [] := by
    intro x5 x6 S7 h
    rw [m_X9_still_r0] at h
    refine px_iload_n C 1 dX9_still_113 rfl rfl ?_
    exact px_iretES C dX9_still_114 h
  have hl0 : ∀ (n_0 : Nat) (x2 : Int32) (x3 : Int32) (S4 : St), m_X9_still_L0 fu m_X9_still_r0 n_0 x2 x3 S4 = some (rv, S') → PW p l e { frames := 4, cells := 0, slots := 0, locals := 98 } s m args below meth c (MQ below (QX KM A D cI c1 F ad (some (.int rv)) S') args s 0 0 A) D A cI c1 F KM ad 4 0 0 S4 [(0, .ref (ad 0)), (1, .int x2), (2, .int x3)] 14 [] := by
    intro n_0
    induction n_0 with
    | zero =>
      intro x2 x3 S4 h
      rw [m_X9_still_L0_z] at h
      cases h
    | succ n_0 ih0 =>
      intro x2 x3 S4 h
      rw [m_X9_still_L0_s] at h
      refine px_iload_n C 2 dX9_still_14 rfl rfl ?_
      refine px_aload_n C 0 dX9_still_15 rfl rfl ?_
      refine px_getr C (j := 9) km_0 rfl rfl iw_X9_still_X9 (by decide) lk_X9_still_13 rfl dX9_still_16 ?_
      refine px_iconst C (v := (0 : Int32)) dX9_still_19 (by decide) ?_
      refine px_iald C km_2 (j := 0) (by unfold vp_in; decide) (by decide) dX9_still_20 ?_
      refine px_icmp_ge C (tgt := 113) dX9_still_21 (by decide) (fun c21_7 => ?_) (fun c21_7 => ?_)
      · replace h := el_t c21_7 h
        exact (hx0 _ _ _ h)
      · replace h := el_f c21_7 h
        refine px_aload_n C 0 dX9_still_24 rfl rfl ?_
        obtain ⟨S10, hc25_8, h⟩ := el_b h
        refine px_callV0 C (c_X9_asNow l tA tB ad fu S4 hc25_8) (cwV 0 C.2.2.2.2.1 gX9_still_X9_asNow rfl rfl rfl (by decide +kernel) ⟨Nat.le_of_ble_eq_true rfl, Nat.le_of_ble_eq_true rfl⟩) ⟨Nat.zero_le _, Nat.zero_le _⟩ km_0 rfl rfl rfl (Nat.le_of_ble_eq_true rfl) dX9_still_25 ?_
        refine px_aload_n C 0 dX9_still_28 rfl rfl ?_
        refine px_aload_n C 0 dX9_still_29 rfl rfl ?_
        refine px_getr C (j := 17) km_0 rfl rfl iw_X9_still_X9 (by decide) lk_X9_still_34 rfl dX9_still_30 ?_
        refine px_aload_n C 0 dX9_still_33 rfl rfl ?_
        refine px_getr C (j := 16) km_0 rfl rfl iw_X9_still_X9 (by decide) lk_X9_still_31 rfl dX9_still_34 ?_
        refine px_iconst C (v := (1 : Int32)) dX9_still_37 (by decide) ?_
        refine px_iald C km_8 (j := 1) (by unfold vp_in; decide) (by decide) dX9_still_38 ?_
        obtain ⟨x12, S13, hc39_10, h⟩ := el_b2 h
        refine px_callV1 C (c_X9_finds l tA tB ad fu S10 9 (S10.1 8 1) km_9 hc39_10) (cwV 2 C.2.2.2.2.1 gX9_still_X9_finds rfl rfl rfl (by decide +kernel) ⟨Nat.le_of_ble_eq_true rfl, Nat.le_of_ble_eq_true rfl⟩) ⟨Nat.zero_le _, Nat.zero_le _⟩ km_0 rfl rfl rfl (Nat.le_of_ble_eq_true rfl) dX9_still_39 ?_
        refine px_pop C dX9_still_42 rfl ?_
        refine px_aload_n C 0 dX9_still_43 rfl rfl ?_
        refine px_iload_n C 2 dX9_still_44 rfl rfl ?_
        obtain ⟨x15, hc45_13, h⟩ := el_b h
        refine px_callV1 C (c_X9_paidAt l tA tB ad S13 x3 hc45_13) (cwV 1 C.2.2.2.2.1 gX9_still_X9_paidAt rfl rfl rfl (by decide +kernel) ⟨Nat.le_of_ble_eq_true rfl, Nat.le_of_ble_eq_true rfl⟩) ⟨Nat.zero_le _, Nat.zero_le _⟩ km_0 rfl rfl rfl (Nat.le_of_ble_eq_true rfl) dX9_still_45 ?_
        obtain ⟨x17, hr48_30, h⟩ := el_b h
        have hj48_17 : PW p l e { frames := 4, cells := 0, slots := 0, locals := 98 } s m args below meth c (MQ below (QX KM A D cI c1 F ad (some (.int rv)) S') args s 0 0 A) D A cI c1 F KM ad 4 0 0 S13 [(0, .ref (ad 0)), (1, .int x2), (2, .int x3)] 56 [.int x17] := by
          refine px_istore_n C [(3, .int x17), (0, .ref (ad 0)), (1, .int x2), (2, .int x3)] dX9_still_56 rfl (by decide) rfl ?_
          refine px_aload_n C 1 dX9_still_57 rfl rfl ?_
          refine px_getr C (j := 17) km_0 rfl rfl iw_X9_still_X9 (by decide) lk_X9_still_34 rfl dX9_still_58 ?_
          refine px_bipush C (v := (6 : Int32)) dX9_still_61 (by decide) ?_
          refine px_iload_n C 3 dX9_still_63 rfl rfl ?_
          refine px_iadd C dX9_still_64 ?_
          refine px_dup2 C dX9_still_65 rfl rfl ?_
          obtain ⟨hix19, x19, ex19, h⟩ := el_ald h
          refine px_iald C km_9 hix19 rfl dX9_still_66 ?_
          refine px_nm ex19 ?_
          refine px_iconst C (v := (1 : Int32)) dX9_still_67 (by decide) ?_
          refine px_iadd C dX9_still_68 ?_
          obtain ⟨hiS20, S20, eS20, h⟩ := el_ast h
          refine px_iast C km_9 hiS20 rfl dX9_still_69 ?_
          refine px_nmS eS20 ?_
          refine px_aload_n C 1 dX9_still_70 rfl rfl ?_
          refine px_aload_n C 1 dX9_still_71 rfl rfl ?_
          refine px_getr C (j := 17) km_0 rfl rfl iw_X9_still_X9 (by decide) lk_X9_still_34 rfl dX9_still_72 ?_
          refine px_aload_n C 1 dX9_still_75 rfl rfl ?_
          refine px_getr C (j := 16) km_0 rfl rfl iw_X9_still_X9 (by decide) lk_X9_still_31 rfl dX9_still_76 ?_
          refine px_iconst C (v := (1 : Int32)) dX9_still_79 (by decide) ?_
          refine px_iald C km_8 (j := 1) (by unfold vp_in; decide) (by decide) dX9_still_80 ?_
          obtain ⟨x22, S23, hc81_20, h⟩ := el_b2 h
          refine px_callV1 C (c_X9_finds l tA tB ad fu S20 9 (S20.1 8 1) km_9 hc81_20) (cwV 2 C.2.2.2.2.1 gX9_still_X9_finds rfl rfl rfl (by decide +kernel) ⟨Nat.le_of_ble_eq_true rfl, Nat.le_of_ble_eq_true rfl⟩) ⟨Nat.zero_le _, Nat.zero_le _⟩ km_0 rfl rfl rfl (Nat.le_of_ble_eq_true rfl) dX9_still_81 ?_
          refine px_pop C dX9_still_84 rfl ?_
          refine px_iload_n C 2 dX9_still_85 rfl rfl ?_
          refine px_iload_n C 0 dX9_still_86 rfl rfl ?_
          obtain ⟨x25, hr87_29, h⟩ := el_b h
          have hj87_25 : PW p l e { frames := 4, cells := 0, slots := 0, locals := 98 } s m args below meth c (MQ below (QX KM A D cI c1 F ad (some (.int rv)) S') args s 0 0 A) D A cI c1 F KM ad 4 0 0 S23 [(0, .ref (ad 0)), (1, .int x2), (2, .int x3), (3, .int x17)] 105 [.int x25, .int x2] := by
            refine px_ior C dX9_still_105 ?_
            refine px_istore_n C [(1, .int (x2 ||| x25)), (0, .ref (ad 0)), (2, .int x3), (3, .int x17)] dX9_still_106 rfl (by decide) rfl ?_
            refine px_iinc C 2 [(2, .int (x3 + (1 : Int32))), (1, .int (x2 ||| x25)), (0, .ref (ad 0)), (3, .int x17)] dX9_still_107 rfl rfl (by decide) rfl ?_
            refine px_goto C (tgt := 14) dX9_still_110 (by decide) ?_
            exact px_sub [2, 1, 0] rfl (ih0 _ _ _ h)
          clear h
          have h := hr87_29
          clear hr87_29
          refine px_if_eq C (tgt := 104) dX9_still_87 (by decide) (fun c87_23 => ?_) (fun c87_23 => ?_)
          · replace h := el_t c87_23 h
            refine px_iconst C (v := (0 : Int32)) dX9_still_104 (by decide) ?_
            cases h
            exact px_sub [1, 2, 3, 0] rfl hj87_25
          · replace h := el_f c87_23 h
            refine px_aload_n C 1 dX9_still_90 rfl rfl ?_
            refine px_iload_n C 3 dX9_still_91 rfl rfl ?_
            obtain ⟨x28, hc92_26, h⟩ := el_b h
            refine px_callV1 C (c_X9_paidAt l tA tB ad S23 x3 hc92_26) (cwV 1 C.2.2.2.2.1 gX9_still_X9_paidAt rfl rfl rfl (by decide +kernel) ⟨Nat.le_of_ble_eq_true rfl, Nat.le_of_ble_eq_true rfl⟩) ⟨Nat.zero_le _, Nat.zero_le _⟩ km_0 rfl rfl rfl (Nat.le_of_ble_eq_true rfl) dX9_still_92 ?_
            refine px_if_le C (tgt := 104) dX9_still_95 (by decide) (fun c95_28 => ?_) (fun c95_28 => ?_)
            · replace h := el_t c95_28 h
              refine px_iconst C (v := (0 : Int32)) dX9_still_104 (by decide) ?_
              cases h
              exact px_sub [1, 2, 3, 0] rfl hj87_25
            · replace h := el_f c95_28 h
              refine px_iconst C (v := (1 : Int32)) dX9_still_98 (by decide) ?_
              refine px_iload_n C 3 dX9_still_99 rfl rfl ?_
              refine px_ishl C dX9_still_100 ?_
              refine px_goto C (tgt := 105) dX9_still_101 (by decide) ?_
              cases h
              exact px_sub [1, 2, 3, 0] rfl hj87_25
        clear h
        have h := hr48_30
        clear hr48_30
        refine px_if_le C (tgt := 55) dX9_still_48 (by decide) (fun c48_15 => ?_) (fun c48_15 => ?_)
        · replace h := el_t c48_15 h
          refine px_iconst C (v := (0 : Int32)) dX9_still_55 (by decide) ?_
          cases h
          exact hj48_17
        · replace h := el_f c48_15 h
          refine px_iconst C (v := (1 : Int32)) dX9_still_51 (by decide) ?_
          refine px_goto C (tgt := 56) dX9_still_52 (by decide) ?_
          cases h
          exact hj48_17
  exact px_sub [2, 1, 0] rfl (hl0 _ _ _ _ h)
theorem lk_X9_takes_31 : Cond.fieldLink RX9 31 "RiverTollsModel" "s" "[I" ∈ wsX9_takes := List.mem_of_getElem? (i := 2) rfl
theorem lk_X9_takes_62 : Cond.fieldLink RX9 62 "RiverTollsModel" "thrown" "I" ∈ wsX9_takes := List.mem_of_getElem? (i := 1) rfl
theorem iw_X9_takes_X9 : ∀ w ∈ u_ws RX9 TX9 28, w ∈ wsX9_takes := fun _ h9 => (List.mem_cons_of_mem _ (List.mem_append_right _ h9))
set_option maxHeartbeats 4000000 in
set_option maxRecDepth 100000 in
theorem c_X9_takes (l : Launch) (tA tB : Nat) (ad : Nat → Nat) (S : St) (a1 : Int32) (a2 : Int32) {rv : Int32} {S' : St} (h : m_X9_takes S a1 a2 = some (rv, S')) :
    XMet l yX9_takes wsX9_takes ({ frames := 2, cells := 0, slots := 0, locals := 43 }) KM .boolean tA tB [.ref (ad 0), .int a1, .int a2] ad S (some (.int rv)) S' := by
  refine XMet.of (cc := cX9_takes) (maxL := 3) (ret := (some .int)) (own := RX9) (lv := [(0, .ref (ad 0)), (1, .int a1), (2, .int a2)]) rfl (by decide) rfl (Nat.le_of_ble_eq_true rfl) rfl ?_
  intro p e s m args below meth c D A cI c1 F C
  rw [m_X9_takes] at h
  refine px_aload_n C 0 dX9_takes_0 rfl rfl ?_
  refine px_iconst C (v := (0 : Int32)) dX9_takes_1 (by decide) ?_
  obtain ⟨S1, eS1, h⟩ := el_lt h
  refine px_puti C (ty := .int) (j := 0) km_0 rfl rfl iw_X9_takes_X9 (by decide) lk_X9_takes_62 rfl tyX9 tyX9_ok nmX9 rfl (by decide +kernel) rfl rfl dX9_takes_2 ?_
  refine px_nmS eS1 ?_
  refine px_aload_n C 0 dX9_takes_5 rfl rfl ?_
  refine px_iload_n C 1 dX9_takes_6 rfl rfl ?_
  obtain ⟨x3, hc7_1, h⟩ := el_b h
  refine px_callV1 C (c_X9_isRock l tA tB ad S1 a1 hc7_1) (cwV 1 C.2.2.2.2.1 gX9_takes_X9_isRock rfl rfl rfl (by decide +kernel) ⟨Nat.le_of_ble_eq_true rfl, Nat.le_of_ble_eq_true rfl⟩) ⟨Nat.zero_le _, Nat.zero_le _⟩ km_0 rfl rfl rfl (Nat.le_of_ble_eq_true rfl) dX9_takes_7 ?_
  refine px_if_eq C (tgt := 36) dX9_takes_10 (by decide) (fun c10_3 => ?_) (fun c10_3 => ?_)
  · replace h := el_t c10_3 h
    refine px_iconst C (v := (-1 : Int32)) dX9_takes_36 (by decide) ?_
    exact px_iretES C dX9_takes_37 h
  · replace h := el_f c10_3 h
    refine px_iload_n C 2 dX9_takes_13 rfl rfl ?_
    refine px_iconst C (v := (0 : Int32)) dX9_takes_14 (by decide) ?_
    refine px_bipush C (v := (30 : Int32)) dX9_takes_15 (by decide) ?_
    obtain ⟨x6, hc17_4, h⟩ := el_b h
    refine px_callS1 C (c_X9_in l tA tB ad S1 a2 (0 : Int32) (30 : Int32) hc17_4) (va_cwS 3 C.2.2.2.2.1 gX9_takes_X9_in rfl rfl rfl (by decide +kernel) ⟨Nat.le_of_ble_eq_true rfl, Nat.le_of_ble_eq_true rfl⟩) ⟨Nat.zero_le _, Nat.zero_le _⟩ rfl rfl (Nat.le_of_ble_eq_true rfl) dX9_takes_17 ?_
    refine px_if_eq C (tgt := 36) dX9_takes_20 (by decide) (fun c20_6 => ?_) (fun c20_6 => ?_)
    · replace h := el_t c20_6 h
      refine px_iconst C (v := (-1 : Int32)) dX9_takes_36 (by decide) ?_
      exact px_iretES C dX9_takes_37 h
    · replace h := el_f c20_6 h
      refine px_aload_n C 0 dX9_takes_23 rfl rfl ?_
      refine px_aload_n C 0 dX9_takes_24 rfl rfl ?_
      refine px_getr C (j := 16) km_0 rfl rfl iw_X9_takes_X9 (by decide) lk_X9_takes_31 rfl dX9_takes_25 ?_
      refine px_iload_n C 1 dX9_takes_28 rfl rfl ?_
      refine px_iload_n C 2 dX9_takes_29 rfl rfl ?_
      obtain ⟨x9, hc30_7, h⟩ := el_b h
      refine px_callV1 C (c_X9_tollOf l tA tB ad S1 8 a1 a2 km_8 hc30_7) (cwV 3 C.2.2.2.2.1 gX9_takes_X9_tollOf rfl rfl rfl (by decide +kernel) ⟨Nat.le_of_ble_eq_true rfl, Nat.le_of_ble_eq_true rfl⟩) ⟨Nat.zero_le _, Nat.zero_le _⟩ km_0 rfl rfl rfl (Nat.le_of_ble_eq_true rfl) dX9_takes_30 ?_
      refine px_goto C (tgt := 37) dX9_takes_33 (by decide) ?_
      exact px_iretES C dX9_takes_37 h
theorem lk_X9_toBreak_31 : Cond.fieldLink RX9 31 "RiverTollsModel" "s" "[I" ∈ wsX9_toBreak := List.mem_of_getElem? (i := 3) rfl
theorem lk_X9_toBreak_34 : Cond.fieldLink RX9 34 "RiverTollsModel" "w" "[I" ∈ wsX9_toBreak := List.mem_of_getElem? (i := 2) rfl
theorem lk_X9_toBreak_62 : Cond.fieldLink RX9 62 "RiverTollsModel" "thrown" "I" ∈ wsX9_toBreak := List.mem_of_getElem? (i := 1) rfl
theorem iw_X9_toBreak_X9 : ∀ w ∈ u_ws RX9 TX9 28, w ∈ wsX9_toBreak := fun _ h9 => (List.mem_cons_of_mem _ (List.mem_append_right _ h9))
set_option maxHeartbeats 4000000 in
set_option maxRecDepth 100000 in
theorem c_X9_toBreak (l : Launch) (tA tB : Nat) (ad : Nat → Nat) (fu : Nat) (S : St) (a1 : Int32) {rv : Int32} {S' : St} (h : m_X9_toBreak fu S a1 = some (rv, S')) :
    XMet l yX9_toBreak wsX9_toBreak ({ frames := 4, cells := 0, slots := 0, locals := 98 }) KM .boolean tA tB [.ref (ad 0), .int a1] ad S (some (.int rv)) S' := by
  refine XMet.of (cc := cX9_toBreak) (maxL := 4) (ret := (some .int)) (own := RX9) (lv := [(0, .ref (ad 0)), (1, .int a1)]) rfl (by decide) rfl (Nat.le_of_ble_eq_true rfl) rfl ?_
  intro p e s m args below meth c D A cI c1 F C
  rw [m_X9_toBreak] at h
  refine px_aload_n C 0 dX9_toBreak_0 rfl rfl ?_
  refine px_iconst C (v := (0 : Int32)) dX9_toBreak_1 (by decide) ?_
  obtain ⟨S1, eS1, h⟩ := el_lt h
  refine px_puti C (ty := .int) (j := 0) km_0 rfl rfl iw_X9_toBreak_X9 (by decide) lk_X9_toBreak_62 rfl tyX9 tyX9_ok nmX9 rfl (by decide +kernel) rfl rfl dX9_toBreak_2 ?_
  refine px_nmS eS1 ?_
  refine px_iload_n C 1 dX9_toBreak_5 rfl rfl ?_
  refine px_iconst C (v := (0 : Int32)) dX9_toBreak_6 (by decide) ?_
  refine px_sipush C (v := (9999 : Int32)) dX9_toBreak_7 (by decide) ?_
  obtain ⟨x3, hc10_1, h⟩ := el_b h
  refine px_callS1 C (c_X9_in l tA tB ad S1 a1 (0 : Int32) (9999 : Int32) hc10_1) (va_cwS 3 C.2.2.2.2.1 gX9_toBreak_X9_in rfl rfl rfl (by decide +kernel) ⟨Nat.le_of_ble_eq_true rfl, Nat.le_of_ble_eq_true rfl⟩) ⟨Nat.zero_le _, Nat.zero_le _⟩ rfl rfl (Nat.le_of_ble_eq_true rfl) dX9_toBreak_10 ?_
  refine px_if_ne C (tgt := 18) dX9_toBreak_13 (by decide) (fun c13_3 => ?_) (fun c13_3 => ?_)
  · replace h := el_t c13_3 h
    refine px_aload_n C 0 dX9_toBreak_18 rfl rfl ?_
    obtain ⟨S6, hc19_4, h⟩ := el_b h
    refine px_callV0 C (c_X9_asNow l tA tB ad fu S1 hc19_4) (cwV 0 C.2.2.2.2.1 gX9_toBreak_X9_asNow rfl rfl rfl (by decide +kernel) ⟨Nat.le_of_ble_eq_true rfl, Nat.le_of_ble_eq_true rfl⟩) ⟨Nat.zero_le _, Nat.zero_le _⟩ km_0 rfl rfl rfl (Nat.le_of_ble_eq_true rfl) dX9_toBreak_19 ?_
    refine px_bipush C (v := (-9 : Int32)) dX9_toBreak_22 (by decide) ?_
    refine px_istore_n C [(2, .int (-9 : Int32)), (0, .ref (ad 0)), (1, .int a1)] dX9_toBreak_24 rfl (by decide) rfl ?_
    refine px_iconst C (v := (0 : Int32)) dX9_toBreak_25 (by decide) ?_
    refine px_istore_n C [(3, .int (0 : Int32)), (2, .int (-9 : Int32)), (0, .ref (ad 0)), (1, .int a1)] dX9_toBreak_26 rfl (by decide) rfl ?_
    have hx0 : ∀  (x10 : Int32) (x11 : Int32) (S12 : St), m_X9_toBreak_r0 x10 x11 S12 = some (rv, S') → PW p l e { frames := 4, cells := 0, slots := 0, locals := 98 } s m args below meth c (MQ below (QX KM A D cI c1 F ad (some (.int rv)) S') args s 0 0 A) D A cI c1 F KM ad 4 0 0 S12 [(0, .ref (ad 0)), (1, .int a1), (2, .int x10), (3, .int x11)] 106 [] := by
      intro x10 x11 S12 h
      rw [m_X9_toBreak_r0] at h
      refine px_iload_n C 2 dX9_toBreak_106 rfl rfl ?_
      exact px_iretES C dX9_toBreak_107 h
    have hl0 : ∀ (n_0 : Nat) (x7 : Int32) (x8 : Int32) (S9 : St), m_X9_toBreak_L0 fu a1 m_X9_toBreak_r0 n_0 x7 x8 S9 = some (rv, S') → PW p l e { frames := 4, cells := 0, slots := 0, locals := 98 } s m args below meth c (MQ below (QX KM A D cI c1 F ad (some (.int rv)) S') args s 0 0 A) D A cI c1 F KM ad 4 0 0 S9 [(0, .ref (ad 0)), (1, .int a1), (2, .int x7), (3, .int x8)] 27 [] := by
      intro n_0
      induction n_0 with
      | zero =>
        intro x7 x8 S9 h
        rw [m_X9_toBreak_L0_z] at h
        cases h
      | succ n_0 ih0 =>
        intro x7 x8 S9 h
        rw [m_X9_toBreak_L0_s] at h
        refine px_iload_n C 3 dX9_toBreak_27 rfl rfl ?_
        refine px_sipush C (v := (256 : Int32)) dX9_toBreak_28 (by decide) ?_
        refine px_icmp_ge C (tgt := 106) dX9_toBreak_31 (by decide) (fun c31_12 => ?_) (fun c31_12 => ?_)
        · replace h := el_t c31_12 h
          exact (hx0 _ _ _ h)
        · replace h := el_f c31_12 h
          refine px_iload_n C 3 dX9_toBreak_34 rfl rfl ?_
          refine px_aload_n C 0 dX9_toBreak_35 rfl rfl ?_
          obtain ⟨x15, hc36_13, h⟩ := el_b h
          refine px_callV1 C (c_X9_ahead l tA tB ad S9 hc36_13) (cwV 0 C.2.2.2.2.1 gX9_toBreak_X9_ahead rfl rfl rfl (by decide +kernel) ⟨Nat.le_of_ble_eq_true rfl, Nat.le_of_ble_eq_true rfl⟩) ⟨Nat.zero_le _, Nat.zero_le _⟩ km_0 rfl rfl rfl (Nat.le_of_ble_eq_true rfl) dX9_toBreak_36 ?_
          refine px_iconst C (v := (-1 : Int32)) dX9_toBreak_39 (by decide) ?_
          refine px_ixor C dX9_toBreak_40 ?_
          refine px_iand C dX9_toBreak_41 ?_
          obtain ⟨x17, S18, hr42_41, h⟩ := el_b2 h
          have hj42_18 : PW p l e { frames := 4, cells := 0, slots := 0, locals := 98 } s m args below meth c (MQ below (QX KM A D cI c1 F ad (some (.int rv)) S') args s 0 0 A) D A cI c1 F KM ad 4 0 0 S18 [(0, .ref (ad 0)), (1, .int a1), (2, .int x17), (3, .int x8)] 100 [] := by
            refine px_iinc C 3 [(3, .int (x8 + (1 : Int32))), (0, .ref (ad 0)), (1, .int a1), (2, .int x17)] dX9_toBreak_100 rfl rfl (by decide) rfl ?_
            refine px_goto C (tgt := 27) dX9_toBreak_103 (by decide) ?_
            exact px_sub [1, 2, 3, 0] rfl (ih0 _ _ _ h)
          clear h
          have h := hr42_41
          clear hr42_41
          refine px_if_ne C (tgt := 100) dX9_toBreak_42 (by decide) (fun c42_15 => ?_) (fun c42_15 => ?_)
          · replace h := el_t c42_15 h
            cases h
            exact hj42_18
          · replace h := el_fn c42_15 h
            refine px_iload_n C 2 dX9_toBreak_45 rfl rfl ?_
            refine px_bipush C (v := (-9 : Int32)) dX9_toBreak_46 (by decide) ?_
            refine px_icmp_eq C (tgt := 62) dX9_toBreak_48 (by decide) (fun c48_19 => ?_) (fun c48_19 => ?_)
            · replace h := el_t c48_19 h
              refine px_aload_n C 0 dX9_toBreak_62 rfl rfl ?_
              refine px_getr C (j := 17) km_0 rfl rfl iw_X9_toBreak_X9 (by decide) lk_X9_toBreak_34 rfl dX9_toBreak_63 ?_
              refine px_iconst C (v := (5 : Int32)) dX9_toBreak_66 (by decide) ?_
              refine px_aload_n C 0 dX9_toBreak_67 rfl rfl ?_
              refine px_getr C (j := 16) km_0 rfl rfl iw_X9_toBreak_X9 (by decide) lk_X9_toBreak_31 rfl dX9_toBreak_68 ?_
              refine px_iconst C (v := (5 : Int32)) dX9_toBreak_71 (by decide) ?_
              refine px_iald C km_8 (j := 5) (by unfold vp_in; decide) (by decide) dX9_toBreak_72 ?_
              refine px_iload_n C 3 dX9_toBreak_73 rfl rfl ?_
              refine px_ior C dX9_toBreak_74 ?_
              obtain ⟨S21, eS21, h⟩ := el_lt h
              refine px_iast C km_9 (j := 5) (by unfold vp_in; decide) (by decide) dX9_toBreak_75 ?_
              refine px_nmS eS21 ?_
              refine px_aload_n C 0 dX9_toBreak_76 rfl rfl ?_
              refine px_aload_n C 0 dX9_toBreak_77 rfl rfl ?_
              refine px_getr C (j := 17) km_0 rfl rfl iw_X9_toBreak_X9 (by decide) lk_X9_toBreak_34 rfl dX9_toBreak_78 ?_
              refine px_aload_n C 0 dX9_toBreak_81 rfl rfl ?_
              refine px_getr C (j := 16) km_0 rfl rfl iw_X9_toBreak_X9 (by decide) lk_X9_toBreak_31 rfl dX9_toBreak_82 ?_
              refine px_iconst C (v := (1 : Int32)) dX9_toBreak_85 (by decide) ?_
              refine px_iald C km_8 (j := 1) (by unfold vp_in; decide) (by decide) dX9_toBreak_86 ?_
              obtain ⟨x23, S24, hc87_21, h⟩ := el_b2 h
              refine px_callV1 C (c_X9_finds l tA tB ad fu S21 9 (S21.1 8 1) km_9 hc87_21) (cwV 2 C.2.2.2.2.1 gX9_toBreak_X9_finds rfl rfl rfl (by decide +kernel) ⟨Nat.le_of_ble_eq_true rfl, Nat.le_of_ble_eq_true rfl⟩) ⟨Nat.zero_le _, Nat.zero_le _⟩ km_0 rfl rfl rfl (Nat.le_of_ble_eq_true rfl) dX9_toBreak_87 ?_
              refine px_iload_n C 1 dX9_toBreak_90 rfl rfl ?_
              obtain ⟨x26, hr91_27, h⟩ := el_b h
              have hj91_26 : PW p l e { frames := 4, cells := 0, slots := 0, locals := 98 } s m args below meth c (MQ below (QX KM A D cI c1 F ad (some (.int rv)) S') args s 0 0 A) D A cI c1 F KM ad 4 0 0 S24 [(0, .ref (ad 0)), (1, .int a1), (2, .int x7), (3, .int x8)] 99 [.int x26] := by
                refine px_istore_n C [(2, .int x26), (0, .ref (ad 0)), (1, .int a1), (3, .int x8)] dX9_toBreak_99 rfl (by decide) rfl ?_
                cases h
                exact px_sub [1, 2, 0, 3] rfl hj42_18
              clear h
              have h := hr91_27
              clear hr91_27
              refine px_icmp_gt C (tgt := 98) dX9_toBreak_91 (by decide) (fun c91_24 => ?_) (fun c91_24 => ?_)
              · replace h := el_t c91_24 h
                refine px_iload_n C 2 dX9_toBreak_98 rfl rfl ?_
                cases h
                exact hj91_26
              · replace h := el_f c91_24 h
                refine px_iload_n C 3 dX9_toBreak_94 rfl rfl ?_
                refine px_goto C (tgt := 99) dX9_toBreak_95 (by decide) ?_
                cases h
                exact hj91_26
            · replace h := el_f c48_19 h
              refine px_iload_n C 3 dX9_toBreak_51 rfl rfl ?_
              obtain ⟨x30, hc52_28, h⟩ := el_b h
              refine px_callS1 C (c_X9_ones l tA tB ad fu S9 x8 hc52_28) (va_cwS 1 C.2.2.2.2.1 gX9_toBreak_X9_ones rfl rfl rfl (by decide +kernel) ⟨Nat.le_of_ble_eq_true rfl, Nat.le_of_ble_eq_true rfl⟩) ⟨Nat.zero_le _, Nat.zero_le _⟩ rfl rfl (Nat.le_of_ble_eq_true rfl) dX9_toBreak_52 ?_
              refine px_iload_n C 2 dX9_toBreak_55 rfl rfl ?_
              obtain ⟨x32, hc56_30, h⟩ := el_b h
              refine px_callS1 C (c_X9_ones l tA tB ad fu S9 x7 hc56_30) (va_cwS 1 C.2.2.2.2.1 gX9_toBreak_X9_ones rfl rfl rfl (by decide +kernel) ⟨Nat.le_of_ble_eq_true rfl, Nat.le_of_ble_eq_true rfl⟩) ⟨Nat.zero_le _, Nat.zero_le _⟩ rfl rfl (Nat.le_of_ble_eq_true rfl) dX9_toBreak_56 ?_
              refine px_icmp_ge C (tgt := 100) dX9_toBreak_59 (by decide) (fun c59_32 => ?_) (fun c59_32 => ?_)
              · replace h := el_t c59_32 h
                cases h
                exact hj42_18
              · replace h := el_f c59_32 h
                refine px_aload_n C 0 dX9_toBreak_62 rfl rfl ?_
                refine px_getr C (j := 17) km_0 rfl rfl iw_X9_toBreak_X9 (by decide) lk_X9_toBreak_34 rfl dX9_toBreak_63 ?_
                refine px_iconst C (v := (5 : Int32)) dX9_toBreak_66 (by decide) ?_
                refine px_aload_n C 0 dX9_toBreak_67 rfl rfl ?_
                refine px_getr C (j := 16) km_0 rfl rfl iw_X9_toBreak_X9 (by decide) lk_X9_toBreak_31 rfl dX9_toBreak_68 ?_
                refine px_iconst C (v := (5 : Int32)) dX9_toBreak_71 (by decide) ?_
                refine px_iald C km_8 (j := 5) (by unfold vp_in; decide) (by decide) dX9_toBreak_72 ?_
                refine px_iload_n C 3 dX9_toBreak_73 rfl rfl ?_
                refine px_ior C dX9_toBreak_74 ?_
                obtain ⟨S34, eS34, h⟩ := el_lt h
                refine px_iast C km_9 (j := 5) (by unfold vp_in; decide) (by decide) dX9_toBreak_75 ?_
                refine px_nmS eS34 ?_
                refine px_aload_n C 0 dX9_toBreak_76 rfl rfl ?_
                refine px_aload_n C 0 dX9_toBreak_77 rfl rfl ?_
                refine px_getr C (j := 17) km_0 rfl rfl iw_X9_toBreak_X9 (by decide) lk_X9_toBreak_34 rfl dX9_toBreak_78 ?_
                refine px_aload_n C 0 dX9_toBreak_81 rfl rfl ?_
                refine px_getr C (j := 16) km_0 rfl rfl iw_X9_toBreak_X9 (by decide) lk_X9_toBreak_31 rfl dX9_toBreak_82 ?_
                refine px_iconst C (v := (1 : Int32)) dX9_toBreak_85 (by decide) ?_
                refine px_iald C km_8 (j := 1) (by unfold vp_in; decide) (by decide) dX9_toBreak_86 ?_
                obtain ⟨x36, S37, hc87_34, h⟩ := el_b2 h
                refine px_callV1 C (c_X9_finds l tA tB ad fu S34 9 (S34.1 8 1) km_9 hc87_34) (cwV 2 C.2.2.2.2.1 gX9_toBreak_X9_finds rfl rfl rfl (by decide +kernel) ⟨Nat.le_of_ble_eq_true rfl, Nat.le_of_ble_eq_true rfl⟩) ⟨Nat.zero_le _, Nat.zero_le _⟩ km_0 rfl rfl rfl (Nat.le_of_ble_eq_true rfl) dX9_toBreak_87 ?_
                refine px_iload_n C 1 dX9_toBreak_90 rfl rfl ?_
                obtain ⟨x39, hr91_40, h⟩ := el_b h
                have hj91_39 : PW p l e { frames := 4, cells := 0, slots := 0, locals := 98 } s m args below meth c (MQ below (QX KM A D cI c1 F ad (some (.int rv)) S') args s 0 0 A) D A cI c1 F KM ad 4 0 0 S37 [(0, .ref (ad 0)), (1, .int a1), (2, .int x7), (3, .int x8)] 99 [.int x39] := by
                  refine px_istore_n C [(2, .int x39), (0, .ref (ad 0)), (1, .int a1), (3, .int x8)] dX9_toBreak_99 rfl (by decide) rfl ?_
                  cases h
                  exact px_sub [1, 2, 0, 3] rfl hj42_18
                clear h
                have h := hr91_40
                clear hr91_40
                refine px_icmp_gt C (tgt := 98) dX9_toBreak_91 (by decide) (fun c91_37 => ?_) (fun c91_37 => ?_)
                · replace h := el_t c91_37 h
                  refine px_iload_n C 2 dX9_toBreak_98 rfl rfl ?_
                  cases h
                  exact hj91_39
                · replace h := el_f c91_37 h
                  refine px_iload_n C 3 dX9_toBreak_94 rfl rfl ?_
                  refine px_goto C (tgt := 99) dX9_toBreak_95 (by decide) ?_
                  cases h
                  exact hj91_39
    exact px_sub [2, 3, 1, 0] rfl (hl0 _ _ _ _ h)
  · replace h := el_fn c13_3 h
    refine px_iconst C (v := (-1 : Int32)) dX9_toBreak_16 (by decide) ?_
    exact px_iretES C dX9_toBreak_17 h
theorem lk_X9_took_13 : Cond.fieldLink RX9 13 "RiverTollsModel" "many" "[I" ∈ wsX9_took := List.mem_of_getElem? (i := 3) rfl
theorem lk_X9_took_31 : Cond.fieldLink RX9 31 "RiverTollsModel" "s" "[I" ∈ wsX9_took := List.mem_of_getElem? (i := 2) rfl
theorem lk_X9_took_62 : Cond.fieldLink RX9 62 "RiverTollsModel" "thrown" "I" ∈ wsX9_took := List.mem_of_getElem? (i := 1) rfl
theorem iw_X9_took_X9 : ∀ w ∈ u_ws RX9 TX9 28, w ∈ wsX9_took := fun _ h9 => (List.mem_cons_of_mem _ (List.mem_append_right _ h9))
set_option maxHeartbeats 4000000 in
set_option maxRecDepth 100000 in
theorem c_X9_took (l : Launch) (tA tB : Nat) (ad : Nat → Nat) (fu : Nat) (S : St) {rv : Int32} {S' : St} (h : m_X9_took fu S = some (rv, S')) :
    XMet l yX9_took wsX9_took ({ frames := 4, cells := 0, slots := 0, locals := 98 }) KM .boolean tA tB [.ref (ad 0)] ad S (some (.int rv)) S' := by
  refine XMet.of (cc := cX9_took) (maxL := 3) (ret := (some .int)) (own := RX9) (lv := [(0, .ref (ad 0))]) rfl (by decide) rfl (Nat.le_of_ble_eq_true rfl) rfl ?_
  intro p e s m args below meth c D A cI c1 F C
  rw [m_X9_took] at h
  refine px_aload_n C 0 dX9_took_0 rfl rfl ?_
  refine px_iconst C (v := (0 : Int32)) dX9_took_1 (by decide) ?_
  obtain ⟨S1, eS1, h⟩ := el_lt h
  refine px_puti C (ty := .int) (j := 0) km_0 rfl rfl iw_X9_took_X9 (by decide) lk_X9_took_62 rfl tyX9 tyX9_ok nmX9 rfl (by decide +kernel) rfl rfl dX9_took_2 ?_
  refine px_nmS eS1 ?_
  refine px_aload_n C 0 dX9_took_5 rfl rfl ?_
  refine px_aload_n C 0 dX9_took_6 rfl rfl ?_
  refine px_getr C (j := 16) km_0 rfl rfl iw_X9_took_X9 (by decide) lk_X9_took_31 rfl dX9_took_7 ?_
  refine px_aload_n C 0 dX9_took_10 rfl rfl ?_
  refine px_getr C (j := 16) km_0 rfl rfl iw_X9_took_X9 (by decide) lk_X9_took_31 rfl dX9_took_11 ?_
  refine px_iconst C (v := (1 : Int32)) dX9_took_14 (by decide) ?_
  refine px_iald C km_8 (j := 1) (by unfold vp_in; decide) (by decide) dX9_took_15 ?_
  obtain ⟨x3, S4, hc16_1, h⟩ := el_b2 h
  refine px_callV1 C (c_X9_finds l tA tB ad fu S1 8 (S1.1 8 1) km_8 hc16_1) (cwV 2 C.2.2.2.2.1 gX9_took_X9_finds rfl rfl rfl (by decide +kernel) ⟨Nat.le_of_ble_eq_true rfl, Nat.le_of_ble_eq_true rfl⟩) ⟨Nat.zero_le _, Nat.zero_le _⟩ km_0 rfl rfl rfl (Nat.le_of_ble_eq_true rfl) dX9_took_16 ?_
  refine px_pop C dX9_took_19 rfl ?_
  refine px_aload_n C 0 dX9_took_20 rfl rfl ?_
  refine px_bipush C (v := (-9 : Int32)) dX9_took_21 (by decide) ?_
  obtain ⟨x6, hc23_4, h⟩ := el_b h
  refine px_callV1 C (c_X9_isAsLeft l tA tB ad fu S4 (-9 : Int32) hc23_4) (cwV 1 C.2.2.2.2.1 gX9_took_X9_isAsLeft rfl rfl rfl (by decide +kernel) ⟨Nat.le_of_ble_eq_true rfl, Nat.le_of_ble_eq_true rfl⟩) ⟨Nat.zero_le _, Nat.zero_le _⟩ km_0 rfl rfl rfl (Nat.le_of_ble_eq_true rfl) dX9_took_23 ?_
  obtain ⟨x8, hr26_20, h⟩ := el_b h
  have hj26_8 : PW p l e { frames := 4, cells := 0, slots := 0, locals := 98 } s m args below meth c (MQ below (QX KM A D cI c1 F ad (some (.int rv)) S') args s 0 0 A) D A cI c1 F KM ad 3 0 0 S4 [(0, .ref (ad 0))] 36 [.int x8] := by
    refine px_istore_n C [(1, .int x8), (0, .ref (ad 0))] dX9_took_36 rfl (by decide) rfl ?_
    refine px_aload_n C 1 dX9_took_37 rfl rfl ?_
    refine px_getr C (j := 16) km_0 rfl rfl iw_X9_took_X9 (by decide) lk_X9_took_31 rfl dX9_took_38 ?_
    refine px_iconst C (v := (0 : Int32)) dX9_took_41 (by decide) ?_
    refine px_iald C km_8 (j := 0) (by unfold vp_in; decide) (by decide) dX9_took_42 ?_
    refine px_istore_n C [(2, .int (S4.1 8 0)), (1, .int x8), (0, .ref (ad 0))] dX9_took_43 rfl (by decide) rfl ?_
    have hx0 : ∀  (x12 : Int32) (x13 : Int32), m_X9_took_r0 S4 x12 x13 = some (rv, S') → PW p l e { frames := 4, cells := 0, slots := 0, locals := 98 } s m args below meth c (MQ below (QX KM A D cI c1 F ad (some (.int rv)) S') args s 0 0 A) D A cI c1 F KM ad 3 0 0 S4 [(0, .ref (ad 0)), (1, .int x12), (2, .int x13)] 78 [] := by
      intro x12 x13 h
      rw [m_X9_took_r0] at h
      refine px_iload_n C 1 dX9_took_78 rfl rfl ?_
      exact px_iretES C dX9_took_79 h
    have hl0 : ∀ (n_0 : Nat) (x10 : Int32) (x11 : Int32), m_X9_took_L0 fu S4 (m_X9_took_r0 S4) n_0 x10 x11 = some (rv, S') → PW p l e { frames := 4, cells := 0, slots := 0, locals := 98 } s m args below meth c (MQ below (QX KM A D cI c1 F ad (some (.int rv)) S') args s 0 0 A) D A cI c1 F KM ad 3 0 0 S4 [(0, .ref (ad 0)), (1, .int x10), (2, .int x11)] 44 [] := by
      intro n_0
      induction n_0 with
      | zero =>
        intro x10 x11 h
        rw [m_X9_took_L0_z] at h
        cases h
      | succ n_0 ih0 =>
        intro x10 x11 h
        rw [m_X9_took_L0_s] at h
        refine px_iload_n C 2 dX9_took_44 rfl rfl ?_
        refine px_aload_n C 0 dX9_took_45 rfl rfl ?_
        refine px_getr C (j := 9) km_0 rfl rfl iw_X9_took_X9 (by decide) lk_X9_took_13 rfl dX9_took_46 ?_
        refine px_iconst C (v := (0 : Int32)) dX9_took_49 (by decide) ?_
        refine px_iald C km_2 (j := 0) (by unfold vp_in; decide) (by decide) dX9_took_50 ?_
        refine px_icmp_ge C (tgt := 78) dX9_took_51 (by decide) (fun c51_13 => ?_) (fun c51_13 => ?_)
        · replace h := el_t c51_13 h
          exact (hx0 _ _ h)
        · replace h := el_f c51_13 h
          refine px_iload_n C 1 dX9_took_54 rfl rfl ?_
          refine px_aload_n C 0 dX9_took_55 rfl rfl ?_
          refine px_iload_n C 2 dX9_took_56 rfl rfl ?_
          obtain ⟨x16, hc57_14, h⟩ := el_b h
          refine px_callV1 C (c_X9_isAsLeft l tA tB ad fu S4 x11 hc57_14) (cwV 1 C.2.2.2.2.1 gX9_took_X9_isAsLeft rfl rfl rfl (by decide +kernel) ⟨Nat.le_of_ble_eq_true rfl, Nat.le_of_ble_eq_true rfl⟩) ⟨Nat.zero_le _, Nat.zero_le _⟩ km_0 rfl rfl rfl (Nat.le_of_ble_eq_true rfl) dX9_took_57 ?_
          obtain ⟨x18, hr60_19, h⟩ := el_b h
          have hj60_18 : PW p l e { frames := 4, cells := 0, slots := 0, locals := 98 } s m args below meth c (MQ below (QX KM A D cI c1 F ad (some (.int rv)) S') args s 0 0 A) D A cI c1 F KM ad 3 0 0 S4 [(0, .ref (ad 0)), (1, .int x10), (2, .int x11)] 70 [.int x18, .int x10] := by
            refine px_ior C dX9_took_70 ?_
            refine px_istore_n C [(1, .int (x10 ||| x18)), (0, .ref (ad 0)), (2, .int x11)] dX9_took_71 rfl (by decide) rfl ?_
            refine px_iinc C 2 [(2, .int (x11 + (1 : Int32))), (1, .int (x10 ||| x18)), (0, .ref (ad 0))] dX9_took_72 rfl rfl (by decide) rfl ?_
            refine px_goto C (tgt := 44) dX9_took_75 (by decide) ?_
            exact px_sub [2, 1, 0] rfl (ih0 _ _ h)
          clear h
          have h := hr60_19
          clear hr60_19
          refine px_if_eq C (tgt := 69) dX9_took_60 (by decide) (fun c60_16 => ?_) (fun c60_16 => ?_)
          · replace h := el_t c60_16 h
            refine px_iconst C (v := (0 : Int32)) dX9_took_69 (by decide) ?_
            cases h
            exact hj60_18
          · replace h := el_f c60_16 h
            refine px_iconst C (v := (1 : Int32)) dX9_took_63 (by decide) ?_
            refine px_iload_n C 2 dX9_took_64 rfl rfl ?_
            refine px_ishl C dX9_took_65 ?_
            refine px_goto C (tgt := 70) dX9_took_66 (by decide) ?_
            cases h
            exact hj60_18
    exact px_sub [2, 1, 0] rfl (hl0 _ _ _ h)
  clear h
  have h := hr26_20
  clear hr26_20
  refine px_if_eq C (tgt := 35) dX9_took_26 (by decide) (fun c26_6 => ?_) (fun c26_6 => ?_)
  · replace h := el_t c26_6 h
    refine px_iconst C (v := (0 : Int32)) dX9_took_35 (by decide) ?_
    cases h
    exact hj26_8
  · replace h := el_f c26_6 h
    refine px_sipush C (v := (256 : Int32)) dX9_took_29 (by decide) ?_
    refine px_goto C (tgt := 36) dX9_took_32 (by decide) ?_
    cases h
    exact hj26_8
theorem lk_X9_trace_62 : Cond.fieldLink RX9 62 "RiverTollsModel" "thrown" "I" ∈ wsX9_trace := List.mem_of_getElem? (i := 1) rfl
theorem lk_X9_trace_180 : Cond.fieldLink RX9 180 "RiverTollsModel" "trace" "J" ∈ wsX9_trace := List.mem_of_getElem? (i := 2) rfl
theorem iw_X9_trace_X9 : ∀ w ∈ u_ws RX9 TX9 28, w ∈ wsX9_trace := fun _ h9 => (List.mem_cons_of_mem _ (List.mem_append_right _ h9))
set_option maxHeartbeats 4000000 in
set_option maxRecDepth 100000 in
theorem c_X9_trace (l : Launch) (tA tB : Nat) (ad : Nat → Nat) (S : St) {rv : Int64} {S' : St} (h : m_X9_trace S = some (rv, S')) :
    XMet l yX9_trace wsX9_trace ({ frames := 0, cells := 0, slots := 0, locals := 0 }) KM .boolean tA tB [.ref (ad 0)] ad S (some (.long rv)) S' := by
  refine XMet.of (cc := cX9_trace) (maxL := 1) (ret := (some .long)) (own := RX9) (lv := [(0, .ref (ad 0))]) rfl (by decide) rfl (Nat.le_of_ble_eq_true rfl) rfl ?_
  intro p e s m args below meth c D A cI c1 F C
  rw [m_X9_trace] at h
  refine px_aload_n C 0 dX9_trace_0 rfl rfl ?_
  refine px_iconst C (v := (0 : Int32)) dX9_trace_1 (by decide) ?_
  obtain ⟨S1, eS1, h⟩ := el_lt h
  refine px_puti C (ty := .int) (j := 0) km_0 rfl rfl iw_X9_trace_X9 (by decide) lk_X9_trace_62 rfl tyX9 tyX9_ok nmX9 rfl (by decide +kernel) rfl rfl dX9_trace_2 ?_
  refine px_nmS eS1 ?_
  refine px_aload_n C 0 dX9_trace_5 rfl rfl ?_
  refine px_getl C (j := 1) km_0 rfl rfl iw_X9_trace_X9 (by decide) lk_X9_trace_180 rfl dX9_trace_6 ?_
  exact px_lretES C dX9_trace_9 h
theorem lk_X9_two_31 : Cond.fieldLink RX9 31 "RiverTollsModel" "s" "[I" ∈ wsX9_two := List.mem_of_getElem? (i := 2) rfl
theorem lk_X9_two_62 : Cond.fieldLink RX9 62 "RiverTollsModel" "thrown" "I" ∈ wsX9_two := List.mem_of_getElem? (i := 1) rfl
theorem iw_X9_two_X9 : ∀ w ∈ u_ws RX9 TX9 28, w ∈ wsX9_two := fun _ h9 => (List.mem_cons_of_mem _ (List.mem_append_right _ h9))
set_option maxHeartbeats 4000000 in
set_option maxRecDepth 100000 in
theorem c_X9_two (l : Launch) (tA tB : Nat) (ad : Nat → Nat) (fu : Nat) (S : St) (a1 : Int32) {rv : Int32} {S' : St} (h : m_X9_two fu S a1 = some (rv, S')) :
    XMet l yX9_two wsX9_two ({ frames := 4, cells := 0, slots := 0, locals := 98 }) KM .boolean tA tB [.ref (ad 0), .int a1] ad S (some (.int rv)) S' := by
  refine XMet.of (cc := cX9_two) (maxL := 6) (ret := (some .int)) (own := RX9) (lv := [(0, .ref (ad 0)), (1, .int a1)]) rfl (by decide) rfl (Nat.le_of_ble_eq_true rfl) rfl ?_
  intro p e s m args below meth c D A cI c1 F C
  rw [m_X9_two] at h
  refine px_aload_n C 0 dX9_two_0 rfl rfl ?_
  refine px_iconst C (v := (0 : Int32)) dX9_two_1 (by decide) ?_
  obtain ⟨S1, eS1, h⟩ := el_lt h
  refine px_puti C (ty := .int) (j := 0) km_0 rfl rfl iw_X9_two_X9 (by decide) lk_X9_two_62 rfl tyX9 tyX9_ok nmX9 rfl (by decide +kernel) rfl rfl dX9_two_2 ?_
  refine px_nmS eS1 ?_
  refine px_iload_n C 1 dX9_two_5 rfl rfl ?_
  refine px_iconst C (v := (0 : Int32)) dX9_two_6 (by decide) ?_
  refine px_iconst C (v := (1 : Int32)) dX9_two_7 (by decide) ?_
  obtain ⟨x3, hc8_1, h⟩ := el_b h
  refine px_callS1 C (c_X9_in l tA tB ad S1 a1 (0 : Int32) (1 : Int32) hc8_1) (va_cwS 3 C.2.2.2.2.1 gX9_two_X9_in rfl rfl rfl (by decide +kernel) ⟨Nat.le_of_ble_eq_true rfl, Nat.le_of_ble_eq_true rfl⟩) ⟨Nat.zero_le _, Nat.zero_le _⟩ rfl rfl (Nat.le_of_ble_eq_true rfl) dX9_two_8 ?_
  refine px_if_ne C (tgt := 16) dX9_two_11 (by decide) (fun c11_3 => ?_) (fun c11_3 => ?_)
  · replace h := el_t c11_3 h
    refine px_bipush C (v := (-9 : Int32)) dX9_two_16 (by decide) ?_
    refine px_istore_n C [(2, .int (-9 : Int32)), (0, .ref (ad 0)), (1, .int a1)] dX9_two_18 rfl (by decide) rfl ?_
    refine px_bipush C (v := (-9 : Int32)) dX9_two_19 (by decide) ?_
    refine px_istore_n C [(3, .int (-9 : Int32)), (2, .int (-9 : Int32)), (0, .ref (ad 0)), (1, .int a1)] dX9_two_21 rfl (by decide) rfl ?_
    refine px_iconst C (v := (1 : Int32)) dX9_two_22 (by decide) ?_
    refine px_istore C [(4, .int (1 : Int32)), (3, .int (-9 : Int32)), (2, .int (-9 : Int32)), (0, .ref (ad 0)), (1, .int a1)] dX9_two_23 (by decide) rfl ?_
    have hx0 : ∀  (x9 : Int32) (x10 : Int32) (x11 : Int32) (S12 : St), m_X9_two_r0 a1 x9 x10 x11 S12 = some (rv, S') → PW p l e { frames := 4, cells := 0, slots := 0, locals := 98 } s m args below meth c (MQ below (QX KM A D cI c1 F ad (some (.int rv)) S') args s 0 0 A) D A cI c1 F KM ad 6 0 0 S12 [(0, .ref (ad 0)), (1, .int a1), (2, .int x9), (3, .int x10), (4, .int x11)] 92 [] := by
      intro x9 x10 x11 S12 h
      rw [m_X9_two_r0] at h
      refine px_iload_n C 1 dX9_two_92 rfl rfl ?_
      refine px_if_ne C (tgt := 100) dX9_two_93 (by decide) (fun c93_12 => ?_) (fun c93_12 => ?_)
      · replace h := el_t c93_12 h
        refine px_iload_n C 3 dX9_two_100 rfl rfl ?_
        exact px_iretES C dX9_two_101 h
      · replace h := el_fn c93_12 h
        refine px_iload_n C 2 dX9_two_96 rfl rfl ?_
        refine px_goto C (tgt := 101) dX9_two_97 (by decide) ?_
        exact px_iretES C dX9_two_101 h
    have hl0 : ∀ (n_0 : Nat) (x5 : Int32) (x6 : Int32) (x7 : Int32) (S8 : St), m_X9_two_L0 fu (m_X9_two_r0 a1) n_0 x5 x6 x7 S8 = some (rv, S') → PW p l e { frames := 4, cells := 0, slots := 0, locals := 98 } s m args below meth c (MQ below (QX KM A D cI c1 F ad (some (.int rv)) S') args s 0 0 A) D A cI c1 F KM ad 6 0 0 S8 [(0, .ref (ad 0)), (1, .int a1), (2, .int x5), (3, .int x6), (4, .int x7)] 25 [] := by
      intro n_0
      induction n_0 with
      | zero =>
        intro x5 x6 x7 S8 h
        rw [m_X9_two_L0_z] at h
        cases h
      | succ n_0 ih0 =>
        intro x5 x6 x7 S8 h
        rw [m_X9_two_L0_s] at h
        refine px_iload C 4 dX9_two_25 rfl ?_
        refine px_aload_n C 0 dX9_two_27 rfl rfl ?_
        refine px_getr C (j := 16) km_0 rfl rfl iw_X9_two_X9 (by decide) lk_X9_two_31 rfl dX9_two_28 ?_
        refine px_iconst C (v := (1 : Int32)) dX9_two_31 (by decide) ?_
        refine px_iald C km_8 (j := 1) (by unfold vp_in; decide) (by decide) dX9_two_32 ?_
        refine px_iconst C (v := (2 : Int32)) dX9_two_33 (by decide) ?_
        refine px_idiv C dX9_two_34 (by decide) ?_
        refine px_icmp_gt C (tgt := 92) dX9_two_35 (by decide) (fun c35_13 => ?_) (fun c35_13 => ?_)
        · replace h := el_t c35_13 h
          exact (hx0 _ _ _ _ h)
        · replace h := el_f c35_13 h
          refine px_aload_n C 0 dX9_two_38 rfl rfl ?_
          refine px_aload_n C 0 dX9_two_39 rfl rfl ?_
          refine px_getr C (j := 16) km_0 rfl rfl iw_X9_two_X9 (by decide) lk_X9_two_31 rfl dX9_two_40 ?_
          refine px_iload C 4 dX9_two_43 rfl ?_
          obtain ⟨x16, S17, hc45_14, h⟩ := el_b2 h
          refine px_callV1 C (c_X9_finds l tA tB ad fu S8 8 x7 km_8 hc45_14) (cwV 2 C.2.2.2.2.1 gX9_two_X9_finds rfl rfl rfl (by decide +kernel) ⟨Nat.le_of_ble_eq_true rfl, Nat.le_of_ble_eq_true rfl⟩) ⟨Nat.zero_le _, Nat.zero_le _⟩ km_0 rfl rfl rfl (Nat.le_of_ble_eq_true rfl) dX9_two_45 ?_
          refine px_aload_n C 0 dX9_two_48 rfl rfl ?_
          refine px_aload_n C 0 dX9_two_49 rfl rfl ?_
          refine px_getr C (j := 16) km_0 rfl rfl iw_X9_two_X9 (by decide) lk_X9_two_31 rfl dX9_two_50 ?_
          refine px_aload_n C 0 dX9_two_53 rfl rfl ?_
          refine px_getr C (j := 16) km_0 rfl rfl iw_X9_two_X9 (by decide) lk_X9_two_31 rfl dX9_two_54 ?_
          refine px_iconst C (v := (1 : Int32)) dX9_two_57 (by decide) ?_
          refine px_iald C km_8 (j := 1) (by unfold vp_in; decide) (by decide) dX9_two_58 ?_
          refine px_iload C 4 dX9_two_59 rfl ?_
          refine px_isub C dX9_two_61 ?_
          obtain ⟨x19, S20, hc62_17, h⟩ := el_b2 h
          refine px_callV1 C (c_X9_finds l tA tB ad fu S17 8 ((S17.1 8 1) - x7) km_8 hc62_17) (cwV 2 C.2.2.2.2.1 gX9_two_X9_finds rfl rfl rfl (by decide +kernel) ⟨Nat.le_of_ble_eq_true rfl, Nat.le_of_ble_eq_true rfl⟩) ⟨Nat.zero_le _, Nat.zero_le _⟩ km_0 rfl rfl rfl (Nat.le_of_ble_eq_true rfl) dX9_two_62 ?_
          refine px_iadd C dX9_two_65 ?_
          refine px_istore C [(5, .int (x16 + x19)), (0, .ref (ad 0)), (1, .int a1), (2, .int x5), (3, .int x6), (4, .int x7)] dX9_two_66 (by decide) rfl ?_
          refine px_iload_n C 3 dX9_two_68 rfl rfl ?_
          refine px_bipush C (v := (-9 : Int32)) dX9_two_69 (by decide) ?_
          obtain ⟨x22, x23, hr71_25, h⟩ := el_b2 h
          have hj71_23 : PW p l e { frames := 4, cells := 0, slots := 0, locals := 98 } s m args below meth c (MQ below (QX KM A D cI c1 F ad (some (.int rv)) S') args s 0 0 A) D A cI c1 F KM ad 6 0 0 S20 [(0, .ref (ad 0)), (1, .int a1), (2, .int x22), (3, .int x23), (4, .int x7), (5, .int (x16 + x19))] 86 [] := by
            refine px_iinc C 4 [(4, .int (x7 + (1 : Int32))), (0, .ref (ad 0)), (1, .int a1), (2, .int x22), (3, .int x23), (5, .int (x16 + x19))] dX9_two_86 rfl rfl (by decide) rfl ?_
            refine px_goto C (tgt := 25) dX9_two_89 (by decide) ?_
            exact px_sub [1, 2, 3, 4, 0] rfl (ih0 _ _ _ _ h)
          clear h
          have h := hr71_25
          clear hr71_25
          refine px_icmp_eq C (tgt := 80) dX9_two_71 (by decide) (fun c71_20 => ?_) (fun c71_20 => ?_)
          · replace h := el_t c71_20 h
            refine px_iload C 5 dX9_two_80 rfl ?_
            refine px_istore_n C [(2, .int x7), (5, .int (x16 + x19)), (0, .ref (ad 0)), (1, .int a1), (3, .int x6), (4, .int x7)] dX9_two_82 rfl (by decide) rfl ?_
            refine px_iload C 1 dX9_two_83 rfl ?_
            refine px_istore_n C [(3, .int (x16 + x19)), (2, .int x7), (5, .int (x16 + x19)), (0, .ref (ad 0)), (1, .int a1), (4, .int x7)] dX9_two_85 rfl (by decide) rfl ?_
            cases h
            exact px_sub [3, 4, 1, 0, 5, 2] rfl hj71_23
          · replace h := el_f c71_20 h
            refine px_iload C 0 dX9_two_74 rfl ?_
            refine px_iload_n C 4 dX9_two_76 rfl rfl ?_
            refine px_icmp_ge C (tgt := 86) dX9_two_77 (by decide) (fun c77_24 => ?_) (fun c77_24 => ?_)
            · replace h := el_t c77_24 h
              cases h
              exact px_sub [1, 2, 3, 4, 5, 0] rfl hj71_23
            · replace h := el_f c77_24 h
              refine px_iload C 5 dX9_two_80 rfl ?_
              refine px_istore_n C [(2, .int x7), (5, .int (x16 + x19)), (0, .ref (ad 0)), (1, .int a1), (3, .int x6), (4, .int x7)] dX9_two_82 rfl (by decide) rfl ?_
              refine px_iload C 1 dX9_two_83 rfl ?_
              refine px_istore_n C [(3, .int (x16 + x19)), (2, .int x7), (5, .int (x16 + x19)), (0, .ref (ad 0)), (1, .int a1), (4, .int x7)] dX9_two_85 rfl (by decide) rfl ?_
              cases h
              exact px_sub [3, 4, 1, 0, 5, 2] rfl hj71_23
    exact px_sub [3, 4, 2, 1, 0] rfl (hl0 _ _ _ _ _ h)
  · replace h := el_fn c11_3 h
    refine px_iconst C (v := (-1 : Int32)) dX9_two_14 (by decide) ?_
    exact px_iretES C dX9_two_15 h
theorem lk_X9_type_7 : Cond.fieldLink RX9 7 "RiverTollsModel" "text" "[I" ∈ wsX9_type := List.mem_of_getElem? (i := 3) rfl
theorem lk_X9_type_62 : Cond.fieldLink RX9 62 "RiverTollsModel" "thrown" "I" ∈ wsX9_type := List.mem_of_getElem? (i := 1) rfl
theorem lk_X9_type_70 : Cond.fieldLink RX9 70 "RiverTollsModel" "typed" "I" ∈ wsX9_type := List.mem_of_getElem? (i := 2) rfl
theorem iw_X9_type_X9 : ∀ w ∈ u_ws RX9 TX9 28, w ∈ wsX9_type := fun _ h9 => (List.mem_cons_of_mem _ (List.mem_append_right _ h9))
set_option maxHeartbeats 4000000 in
set_option maxRecDepth 100000 in
theorem c_X9_type (l : Launch) (tA tB : Nat) (ad : Nat → Nat) (S : St) (a1 : Int32) {rv : Int32} {S' : St} (h : m_X9_type S a1 = some (rv, S')) :
    XMet l yX9_type wsX9_type ({ frames := 1, cells := 0, slots := 0, locals := 22 }) KM .boolean tA tB [.ref (ad 0), .int a1] ad S (some (.int rv)) S' := by
  refine XMet.of (cc := cX9_type) (maxL := 2) (ret := (some .int)) (own := RX9) (lv := [(0, .ref (ad 0)), (1, .int a1)]) rfl (by decide) rfl (Nat.le_of_ble_eq_true rfl) rfl ?_
  intro p e s m args below meth c D A cI c1 F C
  rw [m_X9_type] at h
  refine px_aload_n C 0 dX9_type_0 rfl rfl ?_
  refine px_iconst C (v := (0 : Int32)) dX9_type_1 (by decide) ?_
  obtain ⟨S1, eS1, h⟩ := el_lt h
  refine px_puti C (ty := .int) (j := 0) km_0 rfl rfl iw_X9_type_X9 (by decide) lk_X9_type_62 rfl tyX9 tyX9_ok nmX9 rfl (by decide +kernel) rfl rfl dX9_type_2 ?_
  refine px_nmS eS1 ?_
  refine px_iload_n C 1 dX9_type_5 rfl rfl ?_
  refine px_iconst C (v := (0 : Int32)) dX9_type_6 (by decide) ?_
  refine px_sipush C (v := (255 : Int32)) dX9_type_7 (by decide) ?_
  obtain ⟨x3, hc10_1, h⟩ := el_b h
  refine px_callS1 C (c_X9_in l tA tB ad S1 a1 (0 : Int32) (255 : Int32) hc10_1) (va_cwS 3 C.2.2.2.2.1 gX9_type_X9_in rfl rfl rfl (by decide +kernel) ⟨Nat.le_of_ble_eq_true rfl, Nat.le_of_ble_eq_true rfl⟩) ⟨Nat.zero_le _, Nat.zero_le _⟩ rfl rfl (Nat.le_of_ble_eq_true rfl) dX9_type_10 ?_
  refine px_if_ne C (tgt := 18) dX9_type_13 (by decide) (fun c13_3 => ?_) (fun c13_3 => ?_)
  · replace h := el_t c13_3 h
    refine px_aload_n C 0 dX9_type_18 rfl rfl ?_
    refine px_geti C (j := 3) km_0 rfl rfl iw_X9_type_X9 (by decide) lk_X9_type_70 rfl dX9_type_19 ?_
    refine px_sipush C (v := (200 : Int32)) dX9_type_22 (by decide) ?_
    refine px_icmp_ne C (tgt := 31) dX9_type_25 (by decide) (fun c25_4 => ?_) (fun c25_4 => ?_)
    · replace h := el_t c25_4 h
      refine px_aload_n C 0 dX9_type_31 rfl rfl ?_
      refine px_getr C (j := 2) km_0 rfl rfl iw_X9_type_X9 (by decide) lk_X9_type_7 rfl dX9_type_32 ?_
      refine px_aload_n C 0 dX9_type_35 rfl rfl ?_
      refine px_geti C (j := 3) km_0 rfl rfl iw_X9_type_X9 (by decide) lk_X9_type_70 rfl dX9_type_36 ?_
      refine px_iload_n C 1 dX9_type_39 rfl rfl ?_
      obtain ⟨hiS6, S6, eS6, h⟩ := el_ast h
      refine px_iast C km_1 hiS6 rfl dX9_type_40 ?_
      refine px_nmS eS6 ?_
      refine px_aload_n C 0 dX9_type_41 rfl rfl ?_
      refine px_dup C dX9_type_42 rfl ?_
      refine px_geti C (j := 3) km_0 rfl rfl iw_X9_type_X9 (by decide) lk_X9_type_70 rfl dX9_type_43 ?_
      refine px_iconst C (v := (1 : Int32)) dX9_type_46 (by decide) ?_
      refine px_iadd C dX9_type_47 ?_
      obtain ⟨S7, eS7, h⟩ := el_lt h
      refine px_puti C (ty := .int) (j := 3) km_0 rfl rfl iw_X9_type_X9 (by decide) lk_X9_type_70 rfl tyX9 tyX9_ok nmX9 rfl (by decide +kernel) rfl rfl dX9_type_48 ?_
      refine px_nmS eS7 ?_
      refine px_aload_n C 0 dX9_type_51 rfl rfl ?_
      refine px_geti C (j := 3) km_0 rfl rfl iw_X9_type_X9 (by decide) lk_X9_type_70 rfl dX9_type_52 ?_
      exact px_iretES C dX9_type_55 h
    · replace h := el_fn c25_4 h
      refine px_bipush C (v := (-3 : Int32)) dX9_type_28 (by decide) ?_
      exact px_iretES C dX9_type_30 h
  · replace h := el_fn c13_3 h
    refine px_iconst C (v := (-1 : Int32)) dX9_type_16 (by decide) ?_
    exact px_iretES C dX9_type_17 h
