theorem lk_X9_undo_31 : Cond.fieldLink RX9 31 "RiverTollsModel" "s" "[I" ∈ wsX9_undo := List.mem_of_getElem? (i := 3) rfl
theorem lk_X9_undo_44 : Cond.fieldLink RX9 44 "RiverTollsModel" "undos" "[I" ∈ wsX9_undo := List.mem_of_getElem? (i := 4) rfl
theorem lk_X9_undo_62 : Cond.fieldLink RX9 62 "RiverTollsModel" "thrown" "I" ∈ wsX9_undo := List.mem_of_getElem? (i := 1) rfl
theorem lk_X9_undo_120 : Cond.fieldLink RX9 120 "RiverTollsModel" "undoMany" "I" ∈ wsX9_undo := List.mem_of_getElem? (i := 2) rfl
theorem iw_X9_undo_X9 : ∀ w ∈ u_ws RX9 TX9 28, w ∈ wsX9_undo := fun _ h9 => (List.mem_cons_of_mem _ (List.mem_append_right _ h9))
set_option maxHeartbeats 4000000 in
set_option maxRecDepth 100000 in
theorem c_X9_undo (l : Launch) (tA tB : Nat) (ad : Nat → Nat) (fu : Nat) (S : St) {rv : Int32} {S' : St} (h : m_X9_undo fu S = some (rv, S')) :
    XMet l yX9_undo wsX9_undo ({ frames := 0, cells := 0, slots := 0, locals := 0 }) KM .boolean tA tB [.ref (ad 0)] ad S (some (.int rv)) S' := by
  refine XMet.of (cc := cX9_undo) (maxL := 2) (ret := (some .int)) (own := RX9) (lv := [(0, .ref (ad 0))]) rfl (by decide) rfl (Nat.le_of_ble_eq_true rfl) rfl ?_
  intro p e s m args below meth c D A cI c1 F C
  rw [m_X9_undo] at h
  refine px_aload_n C 0 dX9_undo_0 rfl rfl ?_
  refine px_iconst C (v := (0 : Int32)) dX9_undo_1 (by decide) ?_
  obtain ⟨S1, eS1, h⟩ := el_lt h
  refine px_puti C (ty := .int) (j := 0) km_0 rfl rfl iw_X9_undo_X9 (by decide) lk_X9_undo_62 rfl tyX9 tyX9_ok nmX9 rfl (by decide +kernel) rfl rfl dX9_undo_2 ?_
  refine px_nmS eS1 ?_
  refine px_aload_n C 0 dX9_undo_5 rfl rfl ?_
  refine px_geti C (j := 21) km_0 rfl rfl iw_X9_undo_X9 (by decide) lk_X9_undo_120 rfl dX9_undo_6 ?_
  refine px_if_ne C (tgt := 15) dX9_undo_9 (by decide) (fun c9_1 => ?_) (fun c9_1 => ?_)
  · replace h := el_t c9_1 h
    refine px_aload_n C 0 dX9_undo_15 rfl rfl ?_
    refine px_dup C dX9_undo_16 rfl ?_
    refine px_geti C (j := 21) km_0 rfl rfl iw_X9_undo_X9 (by decide) lk_X9_undo_120 rfl dX9_undo_17 ?_
    refine px_iconst C (v := (1 : Int32)) dX9_undo_20 (by decide) ?_
    refine px_isub C dX9_undo_21 ?_
    obtain ⟨S3, eS3, h⟩ := el_lt h
    refine px_puti C (ty := .int) (j := 21) km_0 rfl rfl iw_X9_undo_X9 (by decide) lk_X9_undo_120 rfl tyX9 tyX9_ok nmX9 rfl (by decide +kernel) rfl rfl dX9_undo_22 ?_
    refine px_nmS eS3 ?_
    refine px_iconst C (v := (0 : Int32)) dX9_undo_25 (by decide) ?_
    refine px_istore_n C [(1, .int (0 : Int32)), (0, .ref (ad 0))] dX9_undo_26 rfl (by decide) rfl ?_
    have hx0 : ∀  (x6 : Int32) (S7 : St), m_X9_undo_r0 x6 S7 = some (rv, S') → PW p l e { frames := 0, cells := 0, slots := 0, locals := 0 } s m args below meth c (MQ below (QX KM A D cI c1 F ad (some (.int rv)) S') args s 0 0 A) D A cI c1 F KM ad 2 0 0 S7 [(0, .ref (ad 0)), (1, .int x6)] 59 [] := by
      intro x6 S7 h
      rw [m_X9_undo_r0] at h
      refine px_aload_n C 0 dX9_undo_59 rfl rfl ?_
      refine px_geti C (j := 21) km_0 rfl rfl iw_X9_undo_X9 (by decide) lk_X9_undo_120 rfl dX9_undo_60 ?_
      exact px_iretES C dX9_undo_63 h
    have hl0 : ∀ (n_0 : Nat) (x4 : Int32) (S5 : St), m_X9_undo_L0 m_X9_undo_r0 n_0 x4 S5 = some (rv, S') → PW p l e { frames := 0, cells := 0, slots := 0, locals := 0 } s m args below meth c (MQ below (QX KM A D cI c1 F ad (some (.int rv)) S') args s 0 0 A) D A cI c1 F KM ad 2 0 0 S5 [(0, .ref (ad 0)), (1, .int x4)] 27 [] := by
      intro n_0
      induction n_0 with
      | zero =>
        intro x4 S5 h
        rw [m_X9_undo_L0_z] at h
        cases h
      | succ n_0 ih0 =>
        intro x4 S5 h
        rw [m_X9_undo_L0_s] at h
        refine px_iload_n C 1 dX9_undo_27 rfl rfl ?_
        refine px_bipush C (v := (18 : Int32)) dX9_undo_28 (by decide) ?_
        refine px_icmp_ge C (tgt := 59) dX9_undo_30 (by decide) (fun c30_7 => ?_) (fun c30_7 => ?_)
        · replace h := el_t c30_7 h
          exact (hx0 _ _ h)
        · replace h := el_f c30_7 h
          refine px_aload_n C 0 dX9_undo_33 rfl rfl ?_
          refine px_getr C (j := 16) km_0 rfl rfl iw_X9_undo_X9 (by decide) lk_X9_undo_31 rfl dX9_undo_34 ?_
          refine px_iload_n C 1 dX9_undo_37 rfl rfl ?_
          refine px_aload_n C 0 dX9_undo_38 rfl rfl ?_
          refine px_getr C (j := 20) km_0 rfl rfl iw_X9_undo_X9 (by decide) lk_X9_undo_44 rfl dX9_undo_39 ?_
          refine px_bipush C (v := (18 : Int32)) dX9_undo_42 (by decide) ?_
          refine px_aload_n C 0 dX9_undo_44 rfl rfl ?_
          refine px_geti C (j := 21) km_0 rfl rfl iw_X9_undo_X9 (by decide) lk_X9_undo_120 rfl dX9_undo_45 ?_
          refine px_imul C dX9_undo_48 ?_
          refine px_iload_n C 1 dX9_undo_49 rfl rfl ?_
          refine px_iadd C dX9_undo_50 ?_
          obtain ⟨hix9, x9, ex9, h⟩ := el_ald h
          refine px_iald C km_12 hix9 rfl dX9_undo_51 ?_
          refine px_nm ex9 ?_
          obtain ⟨hiS10, S10, eS10, h⟩ := el_ast h
          refine px_iast C km_8 hiS10 rfl dX9_undo_52 ?_
          refine px_nmS eS10 ?_
          refine px_iinc C 1 [(1, .int (x4 + (1 : Int32))), (0, .ref (ad 0))] dX9_undo_53 rfl rfl (by decide) rfl ?_
          refine px_goto C (tgt := 27) dX9_undo_56 (by decide) ?_
          exact px_sub [1, 0] rfl (ih0 _ _ h)
    exact px_sub [1, 0] rfl (hl0 _ _ _ h)
  · replace h := el_fn c9_1 h
    refine px_bipush C (v := (-2 : Int32)) dX9_undo_12 (by decide) ?_
    exact px_iretES C dX9_undo_14 h
theorem lk_X9_way_31 : Cond.fieldLink RX9 31 "RiverTollsModel" "s" "[I" ∈ wsX9_way := List.mem_of_getElem? (i := 2) rfl
theorem lk_X9_way_56 : Cond.fieldLink RX9 56 "RiverTollsModel" "isLand" "[I" ∈ wsX9_way := List.mem_of_getElem? (i := 3) rfl
theorem lk_X9_way_62 : Cond.fieldLink RX9 62 "RiverTollsModel" "thrown" "I" ∈ wsX9_way := List.mem_of_getElem? (i := 1) rfl
theorem iw_X9_way_X9 : ∀ w ∈ u_ws RX9 TX9 28, w ∈ wsX9_way := fun _ h9 => (List.mem_cons_of_mem _ (List.mem_append_right _ h9))
set_option maxHeartbeats 4000000 in
set_option maxRecDepth 100000 in
theorem c_X9_way (l : Launch) (tA tB : Nat) (ad : Nat → Nat) (fu : Nat) (S : St) (a1 : Int32) {rv : Int32} {S' : St} (h : m_X9_way fu S a1 = some (rv, S')) :
    XMet l yX9_way wsX9_way ({ frames := 4, cells := 0, slots := 0, locals := 98 }) KM .boolean tA tB [.ref (ad 0), .int a1] ad S (some (.int rv)) S' := by
  refine XMet.of (cc := cX9_way) (maxL := 3) (ret := (some .int)) (own := RX9) (lv := [(0, .ref (ad 0)), (1, .int a1)]) rfl (by decide) rfl (Nat.le_of_ble_eq_true rfl) rfl ?_
  intro p e s m args below meth c D A cI c1 F C
  rw [m_X9_way] at h
  refine px_aload_n C 0 dX9_way_0 rfl rfl ?_
  refine px_iconst C (v := (0 : Int32)) dX9_way_1 (by decide) ?_
  obtain ⟨S1, eS1, h⟩ := el_lt h
  refine px_puti C (ty := .int) (j := 0) km_0 rfl rfl iw_X9_way_X9 (by decide) lk_X9_way_62 rfl tyX9 tyX9_ok nmX9 rfl (by decide +kernel) rfl rfl dX9_way_2 ?_
  refine px_nmS eS1 ?_
  refine px_iload_n C 1 dX9_way_5 rfl rfl ?_
  refine px_iconst C (v := (-1 : Int32)) dX9_way_6 (by decide) ?_
  refine px_icmp_eq C (tgt := 20) dX9_way_7 (by decide) (fun c7_1 => ?_) (fun c7_1 => ?_)
  · replace h := el_t c7_1 h
    refine px_aload_n C 0 dX9_way_20 rfl rfl ?_
    refine px_aload_n C 0 dX9_way_21 rfl rfl ?_
    refine px_getr C (j := 16) km_0 rfl rfl iw_X9_way_X9 (by decide) lk_X9_way_31 rfl dX9_way_22 ?_
    refine px_aload_n C 0 dX9_way_25 rfl rfl ?_
    refine px_getr C (j := 16) km_0 rfl rfl iw_X9_way_X9 (by decide) lk_X9_way_31 rfl dX9_way_26 ?_
    refine px_iconst C (v := (1 : Int32)) dX9_way_29 (by decide) ?_
    refine px_iald C km_8 (j := 1) (by unfold vp_in; decide) (by decide) dX9_way_30 ?_
    obtain ⟨x4, S5, hc31_2, h⟩ := el_b2 h
    refine px_callV1 C (c_X9_finds l tA tB ad fu S1 8 (S1.1 8 1) km_8 hc31_2) (cwV 2 C.2.2.2.2.1 gX9_way_X9_finds rfl rfl rfl (by decide +kernel) ⟨Nat.le_of_ble_eq_true rfl, Nat.le_of_ble_eq_true rfl⟩) ⟨Nat.zero_le _, Nat.zero_le _⟩ km_0 rfl rfl rfl (Nat.le_of_ble_eq_true rfl) dX9_way_31 ?_
    refine px_istore_n C [(2, .int x4), (0, .ref (ad 0)), (1, .int a1)] dX9_way_34 rfl (by decide) rfl ?_
    refine px_iload_n C 2 dX9_way_35 rfl rfl ?_
    refine px_iconst C (v := (-1 : Int32)) dX9_way_36 (by decide) ?_
    refine px_icmp_ne C (tgt := 44) dX9_way_37 (by decide) (fun c37_5 => ?_) (fun c37_5 => ?_)
    · replace h := el_t c37_5 h
      refine px_iload_n C 2 dX9_way_44 rfl rfl ?_
      refine px_aload_n C 1 dX9_way_45 rfl rfl ?_
      refine px_getr C (j := 16) km_0 rfl rfl iw_X9_way_X9 (by decide) lk_X9_way_31 rfl dX9_way_46 ?_
      refine px_iconst C (v := (0 : Int32)) dX9_way_49 (by decide) ?_
      refine px_iald C km_8 (j := 0) (by unfold vp_in; decide) (by decide) dX9_way_50 ?_
      refine px_icmp_ge C (tgt := 59) dX9_way_51 (by decide) (fun c51_6 => ?_) (fun c51_6 => ?_)
      · replace h := el_t c51_6 h
        refine px_aload_n C 1 dX9_way_59 rfl rfl ?_
        refine px_getr C (j := 26) km_0 rfl rfl iw_X9_way_X9 (by decide) lk_X9_way_56 rfl dX9_way_60 ?_
        refine px_iload_n C 2 dX9_way_63 rfl rfl ?_
        obtain ⟨hix8, x8, ex8, h⟩ := el_ald h
        refine px_iald C km_16 hix8 rfl dX9_way_64 ?_
        refine px_nm ex8 ?_
        exact px_iretES C dX9_way_65 h
      · replace h := el_f c51_6 h
        refine px_bipush C (v := (-9 : Int32)) dX9_way_54 (by decide) ?_
        refine px_goto C (tgt := 65) dX9_way_56 (by decide) ?_
        exact px_iretES C dX9_way_65 h
    · replace h := el_fn c37_5 h
      refine px_iload_n C 0 dX9_way_40 rfl rfl ?_
      refine px_goto C (tgt := 65) dX9_way_41 (by decide) ?_
      exact px_iretES C dX9_way_65 h
  · replace h := el_f c7_1 h
    refine px_aload_n C 0 dX9_way_10 rfl rfl ?_
    refine px_iload_n C 1 dX9_way_11 rfl rfl ?_
    obtain ⟨x10, hc12_8, h⟩ := el_b h
    refine px_callV1 C (c_X9_isRock l tA tB ad S1 a1 hc12_8) (cwV 1 C.2.2.2.2.1 gX9_way_X9_isRock rfl rfl rfl (by decide +kernel) ⟨Nat.le_of_ble_eq_true rfl, Nat.le_of_ble_eq_true rfl⟩) ⟨Nat.zero_le _, Nat.zero_le _⟩ km_0 rfl rfl rfl (Nat.le_of_ble_eq_true rfl) dX9_way_12 ?_
    refine px_if_ne C (tgt := 20) dX9_way_15 (by decide) (fun c15_10 => ?_) (fun c15_10 => ?_)
    · replace h := el_t c15_10 h
      refine px_aload_n C 0 dX9_way_20 rfl rfl ?_
      refine px_aload_n C 0 dX9_way_21 rfl rfl ?_
      refine px_getr C (j := 16) km_0 rfl rfl iw_X9_way_X9 (by decide) lk_X9_way_31 rfl dX9_way_22 ?_
      refine px_aload_n C 0 dX9_way_25 rfl rfl ?_
      refine px_getr C (j := 16) km_0 rfl rfl iw_X9_way_X9 (by decide) lk_X9_way_31 rfl dX9_way_26 ?_
      refine px_iconst C (v := (1 : Int32)) dX9_way_29 (by decide) ?_
      refine px_iald C km_8 (j := 1) (by unfold vp_in; decide) (by decide) dX9_way_30 ?_
      obtain ⟨x13, S14, hc31_11, h⟩ := el_b2 h
      refine px_callV1 C (c_X9_finds l tA tB ad fu S1 8 (S1.1 8 1) km_8 hc31_11) (cwV 2 C.2.2.2.2.1 gX9_way_X9_finds rfl rfl rfl (by decide +kernel) ⟨Nat.le_of_ble_eq_true rfl, Nat.le_of_ble_eq_true rfl⟩) ⟨Nat.zero_le _, Nat.zero_le _⟩ km_0 rfl rfl rfl (Nat.le_of_ble_eq_true rfl) dX9_way_31 ?_
      refine px_istore_n C [(2, .int x13), (0, .ref (ad 0)), (1, .int a1)] dX9_way_34 rfl (by decide) rfl ?_
      refine px_iload_n C 2 dX9_way_35 rfl rfl ?_
      refine px_iconst C (v := (-1 : Int32)) dX9_way_36 (by decide) ?_
      refine px_icmp_ne C (tgt := 44) dX9_way_37 (by decide) (fun c37_14 => ?_) (fun c37_14 => ?_)
      · replace h := el_t c37_14 h
        refine px_iload_n C 2 dX9_way_44 rfl rfl ?_
        refine px_aload_n C 1 dX9_way_45 rfl rfl ?_
        refine px_getr C (j := 16) km_0 rfl rfl iw_X9_way_X9 (by decide) lk_X9_way_31 rfl dX9_way_46 ?_
        refine px_iconst C (v := (0 : Int32)) dX9_way_49 (by decide) ?_
        refine px_iald C km_8 (j := 0) (by unfold vp_in; decide) (by decide) dX9_way_50 ?_
        refine px_icmp_ge C (tgt := 59) dX9_way_51 (by decide) (fun c51_15 => ?_) (fun c51_15 => ?_)
        · replace h := el_t c51_15 h
          refine px_aload_n C 1 dX9_way_59 rfl rfl ?_
          refine px_getr C (j := 26) km_0 rfl rfl iw_X9_way_X9 (by decide) lk_X9_way_56 rfl dX9_way_60 ?_
          refine px_iload_n C 2 dX9_way_63 rfl rfl ?_
          obtain ⟨hix17, x17, ex17, h⟩ := el_ald h
          refine px_iald C km_16 hix17 rfl dX9_way_64 ?_
          refine px_nm ex17 ?_
          exact px_iretES C dX9_way_65 h
        · replace h := el_f c51_15 h
          refine px_bipush C (v := (-9 : Int32)) dX9_way_54 (by decide) ?_
          refine px_goto C (tgt := 65) dX9_way_56 (by decide) ?_
          exact px_iretES C dX9_way_65 h
      · replace h := el_fn c37_14 h
        refine px_iload_n C 0 dX9_way_40 rfl rfl ?_
        refine px_goto C (tgt := 65) dX9_way_41 (by decide) ?_
        exact px_iretES C dX9_way_65 h
    · replace h := el_fn c15_10 h
      refine px_iconst C (v := (-1 : Int32)) dX9_way_18 (by decide) ?_
      exact px_iretES C dX9_way_19 h
