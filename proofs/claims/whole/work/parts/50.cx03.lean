set_option maxHeartbeats 4000000 in
set_option maxRecDepth 100000 in
theorem c_X4_solve (l : Launch) (tA tB : Nat) (ad : Nat → Nat) (fu : Nat) (S : St) {S' : St} (h : m_X4_solve fu S = some S') :
    XMet l yX4_solve wsX4_solve ({ frames := 4, cells := 0, slots := 0, locals := 90 }) KX (.object "RiverTolls$Boat") tA tB [.ref (ad 51)] ad S none S' := by
  refine XMet.of (cc := cX4_solve) (maxL := 1) (ret := none) (own := RX4) (lv := [(0, .ref (ad 51))]) rfl (by decide) rfl (Nat.le_of_ble_eq_true rfl) rfl ?_
  intro p e s m args below meth c D A cI c1 F C
  rw [m_X4_solve] at h
  refine px_aload_n C 0 dX4_solve_0 rfl rfl ?_
  obtain ⟨S2, hc1_0, h⟩ := el_b h
  refine px_callV0 C (c_X4_priceAll l tA tB ad fu S hc1_0) (cwV 0 C.2.2.2.2.1 gX4_solve_X4_priceAll rfl rfl rfl (by decide +kernel) ⟨Nat.le_of_ble_eq_true rfl, Nat.le_of_ble_eq_true rfl⟩) ⟨Nat.zero_le _, Nat.zero_le _⟩ kx_51 rfl rfl rfl (Nat.le_of_ble_eq_true rfl) dX4_solve_1 ?_
  refine px_aload_n C 0 dX4_solve_4 rfl rfl ?_
  obtain ⟨S4, hc5_2, h⟩ := el_b h
  refine px_callV0 C (c_X4_weighAll l tA tB ad fu S2 hc5_2) (cwV 0 C.2.2.2.2.1 gX4_solve_X4_weighAll rfl rfl rfl (by decide +kernel) ⟨Nat.le_of_ble_eq_true rfl, Nat.le_of_ble_eq_true rfl⟩) ⟨Nat.zero_le _, Nat.zero_le _⟩ kx_51 rfl rfl rfl (Nat.le_of_ble_eq_true rfl) dX4_solve_5 ?_
  refine px_aload_n C 0 dX4_solve_8 rfl rfl ?_
  obtain ⟨S6, hc9_4, h⟩ := el_b h
  refine px_callV0 C (c_X4_walk l tA tB ad fu S4 hc9_4) (cwV 0 C.2.2.2.2.1 gX4_solve_X4_walk rfl rfl rfl (by decide +kernel) ⟨Nat.le_of_ble_eq_true rfl, Nat.le_of_ble_eq_true rfl⟩) ⟨Nat.zero_le _, Nat.zero_le _⟩ kx_51 rfl rfl rfl (Nat.le_of_ble_eq_true rfl) dX4_solve_9 ?_
  exact px_vretE C dX4_solve_12 h
theorem lk_X4_spentAhead_34 : Cond.fieldLink RX4 34 "RiverTolls$Route" "spent" "[I" ∈ wsX4_spentAhead := List.mem_of_getElem? (i := 2) rfl
theorem lk_X4_spentAhead_46 : Cond.fieldLink RX4 46 "RiverTolls$Route" "at" "I" ∈ wsX4_spentAhead := List.mem_of_getElem? (i := 1) rfl
theorem iw_X4_spentAhead_X4 : ∀ w ∈ u_ws RX4 TX4 14, w ∈ wsX4_spentAhead := fun _ h9 => (List.mem_cons_of_mem _ (List.mem_append_right _ h9))
set_option maxHeartbeats 4000000 in
set_option maxRecDepth 100000 in
theorem c_X4_spentAhead (l : Launch) (tA tB : Nat) (ad : Nat → Nat) (fu : Nat) (S : St) (a1 : Int32) {rv : Int32} (h : m_X4_spentAhead fu S a1 = some rv) :
    XMet l yX4_spentAhead wsX4_spentAhead ({ frames := 1, cells := 0, slots := 0, locals := 21 }) KX (.object "RiverTolls$Boat") tA tB [.ref (ad 51), .int a1] ad S (some (.int rv)) S := by
  refine XMet.of (cc := cX4_spentAhead) (maxL := 4) (ret := (some .int)) (own := RX4) (lv := [(0, .ref (ad 51)), (1, .int a1)]) rfl (by decide) rfl (Nat.le_of_ble_eq_true rfl) rfl ?_
  intro p e s m args below meth c D A cI c1 F C
  rw [m_X4_spentAhead] at h
  refine px_iconst C (v := (0 : Int32)) dX4_spentAhead_0 (by decide) ?_
  refine px_istore_n C [(2, .int (0 : Int32)), (0, .ref (ad 51)), (1, .int a1)] dX4_spentAhead_1 rfl (by decide) rfl ?_
  refine px_aload_n C 1 dX4_spentAhead_2 rfl rfl ?_
  refine px_geti C (j := 7) kx_51 rfl rfl iw_X4_spentAhead_X4 (by decide) lk_X4_spentAhead_46 rfl dX4_spentAhead_3 ?_
  refine px_istore_n C [(3, .int (S.1 51 7)), (2, .int (0 : Int32)), (0, .ref (ad 51)), (1, .int a1)] dX4_spentAhead_6 rfl (by decide) rfl ?_
  have hx0 : ∀  (x3 : Int32) (x4 : Int32), m_X4_spentAhead_r0 x3 x4 = some rv → PW p l e { frames := 1, cells := 0, slots := 0, locals := 21 } s m args below meth c (MQ below (QX KX A D cI c1 F ad (some (.int rv)) S) args s 0 0 A) D A cI c1 F KX ad 4 0 0 S [(0, .ref (ad 51)), (1, .int a1), (2, .int x3), (3, .int x4)] 35 [] := by
    intro x3 x4 h
    rw [m_X4_spentAhead_r0] at h
    refine px_iload_n C 2 dX4_spentAhead_35 rfl rfl ?_
    exact px_iretE C dX4_spentAhead_36 h
  have hl0 : ∀ (n_0 : Nat) (x1 : Int32) (x2 : Int32), m_X4_spentAhead_L0 a1 S m_X4_spentAhead_r0 n_0 x1 x2 = some rv → PW p l e { frames := 1, cells := 0, slots := 0, locals := 21 } s m args below meth c (MQ below (QX KX A D cI c1 F ad (some (.int rv)) S) args s 0 0 A) D A cI c1 F KX ad 4 0 0 S [(0, .ref (ad 51)), (1, .int a1), (2, .int x1), (3, .int x2)] 7 [] := by
    intro n_0
    induction n_0 with
    | zero =>
      intro x1 x2 h
      rw [m_X4_spentAhead_L0_z] at h
      cases h
    | succ n_0 ih0 =>
      intro x1 x2 h
      rw [m_X4_spentAhead_L0_s] at h
      refine px_iload_n C 3 dX4_spentAhead_7 rfl rfl ?_
      refine px_iload_n C 1 dX4_spentAhead_8 rfl rfl ?_
      refine px_icmp_ge C (tgt := 35) dX4_spentAhead_9 (by decide) (fun c9_4 => ?_) (fun c9_4 => ?_)
      · replace h := el_t c9_4 h
        exact (hx0 _ _ h)
      · replace h := el_f c9_4 h
        refine px_iload_n C 3 dX4_spentAhead_12 rfl rfl ?_
        refine px_bipush C (v := (8 : Int32)) dX4_spentAhead_13 (by decide) ?_
        refine px_icmp_ge C (tgt := 35) dX4_spentAhead_15 (by decide) (fun c15_5 => ?_) (fun c15_5 => ?_)
        · replace h := el_t c15_5 h
          exact (hx0 _ _ h)
        · replace h := el_f c15_5 h
          refine px_iload_n C 2 dX4_spentAhead_18 rfl rfl ?_
          refine px_aload_n C 0 dX4_spentAhead_19 rfl rfl ?_
          refine px_getr C (j := 12) kx_51 rfl rfl iw_X4_spentAhead_X4 (by decide) lk_X4_spentAhead_34 rfl dX4_spentAhead_20 ?_
          refine px_iload_n C 3 dX4_spentAhead_23 rfl rfl ?_
          obtain ⟨x8, hc24_6, h⟩ := el_b h
          refine px_callS1 C (c_X5_get l tA tB ad S 58 8 x2 kx_58 hc24_6) (va_cwS 2 C.2.2.2.2.1 gX4_spentAhead_X5_get rfl rfl rfl (by decide +kernel) ⟨Nat.le_of_ble_eq_true rfl, Nat.le_of_ble_eq_true rfl⟩) ⟨Nat.zero_le _, Nat.zero_le _⟩ rfl rfl (Nat.le_of_ble_eq_true rfl) dX4_spentAhead_24 ?_
          refine px_iadd C dX4_spentAhead_27 ?_
          refine px_istore_n C [(2, .int (x1 + x8)), (0, .ref (ad 51)), (1, .int a1), (3, .int x2)] dX4_spentAhead_28 rfl (by decide) rfl ?_
          refine px_iinc C 3 [(3, .int (x2 + (1 : Int32))), (2, .int (x1 + x8)), (0, .ref (ad 51)), (1, .int a1)] dX4_spentAhead_29 rfl rfl (by decide) rfl ?_
          refine px_goto C (tgt := 7) dX4_spentAhead_32 (by decide) ?_
          exact px_sub [2, 3, 1, 0] rfl (ih0 _ _ h)
  exact px_sub [2, 3, 1, 0] rfl (hl0 _ _ _ h)
set_option maxHeartbeats 4000000 in
set_option maxRecDepth 100000 in
theorem c_X6_greatestCommon (l : Launch) (tA tB : Nat) (ad : Nat → Nat) (fu : Nat) (S : St) (a0 : Int32) (a1 : Int32) {rv : Int32} (h : m_X6_greatestCommon fu a0 a1 = some rv) :
    XMet l yX6_greatestCommon wsX6_greatestCommon ({ frames := 0, cells := 0, slots := 0, locals := 0 }) KX (.object "RiverTolls$Boat") tA tB [.int a0, .int a1] ad S (some (.int rv)) S := by
  refine XMet.of (cc := cX6_greatestCommon) (maxL := 6) (ret := (some .int)) (own := RX6) (lv := [(0, .int a0), (1, .int a1)]) rfl (by decide) rfl (Nat.le_of_ble_eq_true rfl) rfl ?_
  intro p e s m args below meth c D A cI c1 F C
  rw [m_X6_greatestCommon] at h
  refine px_iload_n C 0 dX6_greatestCommon_0 rfl rfl ?_
  refine px_istore_n C [(2, .int a0), (0, .int a0), (1, .int a1)] dX6_greatestCommon_1 rfl (by decide) rfl ?_
  refine px_iload_n C 2 dX6_greatestCommon_2 rfl rfl ?_
  refine px_istore_n C [(3, .int a1), (2, .int a0), (0, .int a0), (1, .int a1)] dX6_greatestCommon_3 rfl (by decide) rfl ?_
  refine px_iconst C (v := (0 : Int32)) dX6_greatestCommon_4 (by decide) ?_
  refine px_istore C [(4, .int (0 : Int32)), (3, .int a1), (2, .int a0), (0, .int a0), (1, .int a1)] dX6_greatestCommon_5 (by decide) rfl ?_
  have hx0 : ∀  (x4 : Int32) (x5 : Int32) (x6 : Int32), m_X6_greatestCommon_r0 x4 x5 x6 = some rv → PW p l e { frames := 0, cells := 0, slots := 0, locals := 0 } s m args below meth c (MQ below (QX KX A D cI c1 F ad (some (.int rv)) S) args s 0 0 A) D A cI c1 F KX ad 6 0 0 S [(0, .int a0), (1, .int a1), (2, .int x4), (3, .int x5), (4, .int x6)] 34 [] := by
    intro x4 x5 x6 h
    rw [m_X6_greatestCommon_r0] at h
    refine px_iload_n C 2 dX6_greatestCommon_34 rfl rfl ?_
    exact px_iretE C dX6_greatestCommon_35 h
  have hl0 : ∀ (n_0 : Nat) (x1 : Int32) (x2 : Int32) (x3 : Int32), m_X6_greatestCommon_L0 m_X6_greatestCommon_r0 n_0 x1 x2 x3 = some rv → PW p l e { frames := 0, cells := 0, slots := 0, locals := 0 } s m args below meth c (MQ below (QX KX A D cI c1 F ad (some (.int rv)) S) args s 0 0 A) D A cI c1 F KX ad 6 0 0 S [(0, .int a0), (1, .int a1), (2, .int x1), (3, .int x2), (4, .int x3)] 7 [] := by
    intro n_0
    induction n_0 with
    | zero =>
      intro x1 x2 x3 h
      rw [m_X6_greatestCommon_L0_z] at h
      cases h
    | succ n_0 ih0 =>
      intro x1 x2 x3 h
      rw [m_X6_greatestCommon_L0_s] at h
      refine px_iload C 4 dX6_greatestCommon_7 rfl ?_
      refine px_bipush C (v := (100 : Int32)) dX6_greatestCommon_9 (by decide) ?_
      refine px_icmp_ge C (tgt := 34) dX6_greatestCommon_11 (by decide) (fun c11_6 => ?_) (fun c11_6 => ?_)
      · replace h := el_t c11_6 h
        exact (hx0 _ _ _ h)
      · replace h := el_f c11_6 h
        refine px_iload_n C 3 dX6_greatestCommon_14 rfl rfl ?_
        refine px_if_eq C (tgt := 34) dX6_greatestCommon_15 (by decide) (fun c15_7 => ?_) (fun c15_7 => ?_)
        · replace h := el_t c15_7 h
          exact (hx0 _ _ _ h)
        · replace h := el_f c15_7 h
          refine px_iload_n C 2 dX6_greatestCommon_18 rfl rfl ?_
          refine px_iload_n C 3 dX6_greatestCommon_19 rfl rfl ?_
          obtain ⟨hz20, h⟩ := el_nz h
          refine px_irem C dX6_greatestCommon_20 hz20 ?_
          refine px_istore C [(5, .int (x1 - x1 / x2 * x2)), (0, .int a0), (1, .int a1), (2, .int x1), (3, .int x2), (4, .int x3)] dX6_greatestCommon_21 (by decide) rfl ?_
          refine px_iload_n C 4 dX6_greatestCommon_23 rfl rfl ?_
          refine px_istore_n C [(2, .int x2), (5, .int (x1 - x1 / x2 * x2)), (0, .int a0), (1, .int a1), (3, .int x2), (4, .int x3)] dX6_greatestCommon_24 rfl (by decide) rfl ?_
          refine px_iload C 1 dX6_greatestCommon_25 rfl ?_
          refine px_istore_n C [(3, .int (x1 - x1 / x2 * x2)), (2, .int x2), (5, .int (x1 - x1 / x2 * x2)), (0, .int a0), (1, .int a1), (4, .int x3)] dX6_greatestCommon_27 rfl (by decide) rfl ?_
          refine px_iinc C 5 [(4, .int (x3 + (1 : Int32))), (3, .int (x1 - x1 / x2 * x2)), (2, .int x2), (5, .int (x1 - x1 / x2 * x2)), (0, .int a0), (1, .int a1)] dX6_greatestCommon_28 rfl rfl (by decide) rfl ?_
          refine px_goto C (tgt := 7) dX6_greatestCommon_31 (by decide) ?_
          exact px_sub [4, 5, 2, 1, 0] rfl (ih0 _ _ _ h)
  exact px_sub [3, 4, 2, 1, 0] rfl (hl0 _ _ _ _ h)
set_option maxHeartbeats 4000000 in
set_option maxRecDepth 100000 in
theorem c_X6_inLeastTerms (l : Launch) (tA tB : Nat) (ad : Nat → Nat) (fu : Nat) (S : St) (a0 : Int32) (a1 : Int32) {rv : Int32} (h : m_X6_inLeastTerms fu a0 a1 = some rv) :
    XMet l yX6_inLeastTerms wsX6_inLeastTerms ({ frames := 1, cells := 0, slots := 0, locals := 25 }) KX (.object "RiverTolls$Boat") tA tB [.int a0, .int a1] ad S (some (.int rv)) S := by
  refine XMet.of (cc := cX6_inLeastTerms) (maxL := 3) (ret := (some .int)) (own := RX6) (lv := [(0, .int a0), (1, .int a1)]) rfl (by decide) rfl (Nat.le_of_ble_eq_true rfl) rfl ?_
  intro p e s m args below meth c D A cI c1 F C
  rw [m_X6_inLeastTerms] at h
  refine px_iload_n C 0 dX6_inLeastTerms_0 rfl rfl ?_
  refine px_iload_n C 1 dX6_inLeastTerms_1 rfl rfl ?_
  obtain ⟨x2, hc2_0, h⟩ := el_b h
  refine px_callS1 C (c_X6_greatestCommon l tA tB ad fu S a0 a1 hc2_0) (va_cwS 2 C.2.2.2.2.1 gX6_inLeastTerms_X6_greatestCommon rfl rfl rfl (by decide +kernel) ⟨Nat.le_of_ble_eq_true rfl, Nat.le_of_ble_eq_true rfl⟩) ⟨Nat.zero_le _, Nat.zero_le _⟩ rfl rfl (Nat.le_of_ble_eq_true rfl) dX6_inLeastTerms_2 ?_
  refine px_istore_n C [(2, .int x2), (0, .int a0), (1, .int a1)] dX6_inLeastTerms_5 rfl (by decide) rfl ?_
  refine px_iload_n C 0 dX6_inLeastTerms_6 rfl rfl ?_
  refine px_if_le C (tgt := 16) dX6_inLeastTerms_7 (by decide) (fun c7_2 => ?_) (fun c7_2 => ?_)
  · replace h := el_t c7_2 h
    refine px_iload_n C 1 dX6_inLeastTerms_16 rfl rfl ?_
    exact px_iretE C dX6_inLeastTerms_17 h
  · replace h := el_f c7_2 h
    refine px_iload_n C 1 dX6_inLeastTerms_10 rfl rfl ?_
    refine px_iload_n C 0 dX6_inLeastTerms_11 rfl rfl ?_
    obtain ⟨hz12, h⟩ := el_nz h
    refine px_idiv C dX6_inLeastTerms_12 hz12 ?_
    refine px_goto C (tgt := 17) dX6_inLeastTerms_13 (by decide) ?_
    exact px_iretE C dX6_inLeastTerms_17 h
theorem lk_X7_append_9 : Cond.fieldLink RX7 9 "RiverTolls$Text" "letters" "[I" ∈ wsX7_append := List.mem_of_getElem? (i := 1) rfl
theorem lk_X7_append_15 : Cond.fieldLink RX7 15 "RiverTolls$Text" "length" "I" ∈ wsX7_append := List.mem_of_getElem? (i := 2) rfl
theorem iw_X7_append_X7 : ∀ w ∈ u_ws RX7 TX7 2, w ∈ wsX7_append := fun _ h9 => (List.mem_cons_of_mem _ (List.mem_append_right _ h9))
set_option maxHeartbeats 4000000 in
set_option maxRecDepth 100000 in
theorem c_X7_append (l : Launch) (tA tB : Nat) (ad : Nat → Nat) (S : St) (a1 : Int32) {S' : St} (h : m_X7_append S a1 = some S') :
    XMet l yX7_append wsX7_append ({ frames := 1, cells := 0, slots := 0, locals := 22 }) KX (.object "RiverTolls$Boat") tA tB [.ref (ad 1), .int a1] ad S none S' := by
  refine XMet.of (cc := cX7_append) (maxL := 2) (ret := none) (own := RX7) (lv := [(0, .ref (ad 1)), (1, .int a1)]) rfl (by decide) rfl (Nat.le_of_ble_eq_true rfl) rfl ?_
  intro p e s m args below meth c D A cI c1 F C
  rw [m_X7_append] at h
  refine px_aload_n C 0 dX7_append_0 rfl rfl ?_
  refine px_getr C (j := 1) kx_1 rfl rfl iw_X7_append_X7 (by decide) lk_X7_append_9 rfl dX7_append_1 ?_
  refine px_aload_n C 0 dX7_append_4 rfl rfl ?_
  refine px_geti C (j := 0) kx_1 rfl rfl iw_X7_append_X7 (by decide) lk_X7_append_15 rfl dX7_append_5 ?_
  refine px_iload_n C 1 dX7_append_8 rfl rfl ?_
  obtain ⟨S2, hc9_0, h⟩ := el_b h
  refine px_callS0 C (c_X5_put l tA tB ad S 2 200 (S.1 1 0) a1 kx_2 hc9_0) (va_cwS 3 C.2.2.2.2.1 gX7_append_X5_put rfl rfl rfl (by decide +kernel) ⟨Nat.le_of_ble_eq_true rfl, Nat.le_of_ble_eq_true rfl⟩) ⟨Nat.zero_le _, Nat.zero_le _⟩ rfl rfl (Nat.le_of_ble_eq_true rfl) dX7_append_9 ?_
  refine px_aload_n C 0 dX7_append_12 rfl rfl ?_
  refine px_dup C dX7_append_13 rfl ?_
  refine px_geti C (j := 0) kx_1 rfl rfl iw_X7_append_X7 (by decide) lk_X7_append_15 rfl dX7_append_14 ?_
  refine px_iconst C (v := (1 : Int32)) dX7_append_17 (by decide) ?_
  refine px_iadd C dX7_append_18 ?_
  obtain ⟨S3, eS3, h⟩ := el_lt h
  refine px_puti C (ty := .int) (j := 0) kx_1 rfl rfl iw_X7_append_X7 (by decide) lk_X7_append_15 rfl tyX7 tyX7_ok nmX7 rfl (by decide +kernel) rfl rfl dX7_append_19 ?_
  refine px_nmS eS3 ?_
  exact px_vretE C dX7_append_22 h
theorem lk_X8_allLeftIfTook_32 : Cond.fieldLink RX8 32 "RiverTolls" "told" "LRiverTolls$River;" ∈ wsX8_allLeftIfTook := List.mem_of_getElem? (i := 5) rfl
theorem lk_X8_allLeftIfTook_38 : Cond.fieldLink RX8 38 "RiverTolls" "boat" "LRiverTolls$Boat;" ∈ wsX8_allLeftIfTook := List.mem_of_getElem? (i := 2) rfl
theorem lk_X8_allLeftIfTook_62 : Cond.fieldLink RX8 62 "RiverTolls" "route" "LRiverTolls$Route;" ∈ wsX8_allLeftIfTook := List.mem_of_getElem? (i := 8) rfl
theorem lk_X8_allLeftIfTook_66 : Cond.fieldLink RX8 66 "RiverTolls" "leftBehind" "[I" ∈ wsX8_allLeftIfTook := List.mem_of_getElem? (i := 4) rfl
theorem lk_X8_allLeftIfTook_69 : Cond.fieldLink RX8 69 "RiverTolls" "leftCoins" "[I" ∈ wsX8_allLeftIfTook := List.mem_of_getElem? (i := 9) rfl
theorem lk_X8_allLeftIfTook_72 : Cond.fieldLink RX8 72 "RiverTolls" "leftCount" "I" ∈ wsX8_allLeftIfTook := List.mem_of_getElem? (i := 1) rfl
theorem lk_X8_allLeftIfTook_127 : Cond.fieldLink RX8 127 "RiverTolls$Boat" "at" "I" ∈ wsX8_allLeftIfTook := List.mem_of_getElem? (i := 3) rfl
theorem lk_X8_allLeftIfTook_133 : Cond.fieldLink RX8 133 "RiverTolls$Boat" "coins" "I" ∈ wsX8_allLeftIfTook := List.mem_of_getElem? (i := 7) rfl
theorem lk_X8_allLeftIfTook_188 : Cond.fieldLink RX8 188 "RiverTolls$River" "rocks" "I" ∈ wsX8_allLeftIfTook := List.mem_of_getElem? (i := 6) rfl
theorem iw_X8_allLeftIfTook_X0 : ∀ w ∈ u_ws RX0 TX0 8, w ∈ wsX8_allLeftIfTook := fun _ h9 => (List.mem_cons_of_mem _ (List.mem_append_left _ (List.mem_append_left _ (List.mem_append_right _ h9))))
theorem iw_X8_allLeftIfTook_X3 : ∀ w ∈ u_ws RX3 TX3 5, w ∈ wsX8_allLeftIfTook := fun _ h9 => (List.mem_cons_of_mem _ (List.mem_append_left _ (List.mem_append_right _ h9)))
theorem iw_X8_allLeftIfTook_X8 : ∀ w ∈ u_ws RX8 TX8 13, w ∈ wsX8_allLeftIfTook := fun _ h9 => (List.mem_cons_of_mem _ (List.mem_append_left _ (List.mem_append_left _ (List.mem_append_left _ (List.mem_append_right _ h9)))))
set_option maxHeartbeats 4000000 in
set_option maxRecDepth 100000 in
theorem c_X8_allLeftIfTook (l : Launch) (tA tB : Nat) (ad : Nat → Nat) (fu : Nat) (S : St) (a1 : Int32) {rv : Int32} (h : m_X8_allLeftIfTook fu S a1 = some rv) :
    XMet l yX8_allLeftIfTook wsX8_allLeftIfTook ({ frames := 2, cells := 0, slots := 0, locals := 44 }) KX (.object "RiverTolls$Boat") tA tB [.ref (ad 0), .int a1] ad S (some (.int rv)) S := by
  refine XMet.of (cc := cX8_allLeftIfTook) (maxL := 6) (ret := (some .boolean)) (own := RX8) (lv := [(0, .ref (ad 0)), (1, .int a1)]) rfl (by decide) rfl (Nat.le_of_ble_eq_true rfl) rfl ?_
  intro p e s m args below meth c D A cI c1 F C
  rw [m_X8_allLeftIfTook] at h
  refine px_iconst C (v := (0 : Int32)) dX8_allLeftIfTook_0 (by decide) ?_
  refine px_istore_n C [(2, .int (0 : Int32)), (0, .ref (ad 0)), (1, .int a1)] dX8_allLeftIfTook_1 rfl (by decide) rfl ?_
  have hx0 : ∀  (x2 : Int32), m_X8_allLeftIfTook_r0 x2 = some rv → PW p l e { frames := 2, cells := 0, slots := 0, locals := 44 } s m args below meth c (MQ below (QX KX A D cI c1 F ad (some (.int rv)) S) args s 0 0 A) D A cI c1 F KX ad 6 0 0 S [(0, .ref (ad 0)), (1, .int a1), (2, .int x2)] 100 [] := by
    intro x2 h
    rw [m_X8_allLeftIfTook_r0] at h
    refine px_iconst C (v := (1 : Int32)) dX8_allLeftIfTook_100 (by decide) ?_
    exact px_zretE C (Or.inr rfl) dX8_allLeftIfTook_101 h
  have hl0 : ∀ (n_0 : Nat) (x1 : Int32), m_X8_allLeftIfTook_L0 fu a1 S m_X8_allLeftIfTook_r0 n_0 x1 = some rv → PW p l e { frames := 2, cells := 0, slots := 0, locals := 44 } s m args below meth c (MQ below (QX KX A D cI c1 F ad (some (.int rv)) S) args s 0 0 A) D A cI c1 F KX ad 6 0 0 S [(0, .ref (ad 0)), (1, .int a1), (2, .int x1)] 2 [] := by
    intro n_0
    induction n_0 with
    | zero =>
      intro x1 h
      rw [m_X8_allLeftIfTook_L0_z] at h
      cases h
    | succ n_0 ih0 =>
      intro x1 h
      rw [m_X8_allLeftIfTook_L0_s] at h
      refine px_iload_n C 2 dX8_allLeftIfTook_2 rfl rfl ?_
      refine px_aload_n C 0 dX8_allLeftIfTook_3 rfl rfl ?_
      refine px_geti C (j := 11) kx_0 rfl rfl iw_X8_allLeftIfTook_X8 (by decide) lk_X8_allLeftIfTook_72 rfl dX8_allLeftIfTook_4 ?_
      refine px_icmp_ge C (tgt := 100) dX8_allLeftIfTook_7 (by decide) (fun c7_2 => ?_) (fun c7_2 => ?_)
      · replace h := el_t c7_2 h
        exact (hx0 _ h)
      · replace h := el_f c7_2 h
        refine px_iload_n C 2 dX8_allLeftIfTook_10 rfl rfl ?_
        refine px_bipush C (v := (6 : Int32)) dX8_allLeftIfTook_11 (by decide) ?_
        refine px_icmp_ge C (tgt := 100) dX8_allLeftIfTook_13 (by decide) (fun c13_3 => ?_) (fun c13_3 => ?_)
        · replace h := el_t c13_3 h
          exact (hx0 _ h)
        · replace h := el_f c13_3 h
          refine px_aload_n C 0 dX8_allLeftIfTook_16 rfl rfl ?_
          refine px_getr C (j := 4) kx_0 rfl rfl iw_X8_allLeftIfTook_X8 (by decide) lk_X8_allLeftIfTook_38 rfl dX8_allLeftIfTook_17 ?_
          refine px_geti C (j := 0) kx_8 rfl rfl iw_X8_allLeftIfTook_X0 (by decide) lk_X8_allLeftIfTook_127 rfl dX8_allLeftIfTook_20 ?_
          refine px_aload_n C 0 dX8_allLeftIfTook_23 rfl rfl ?_
          refine px_getr C (j := 9) kx_0 rfl rfl iw_X8_allLeftIfTook_X8 (by decide) lk_X8_allLeftIfTook_66 rfl dX8_allLeftIfTook_24 ?_
          refine px_iload_n C 2 dX8_allLeftIfTook_27 rfl rfl ?_
          obtain ⟨x6, hc28_4, h⟩ := el_b h
          refine px_callS1 C (c_X5_get l tA tB ad S 60 6 x1 kx_60 hc28_4) (va_cwS 2 C.2.2.2.2.1 gX8_allLeftIfTook_X5_get rfl rfl rfl (by decide +kernel) ⟨Nat.le_of_ble_eq_true rfl, Nat.le_of_ble_eq_true rfl⟩) ⟨Nat.zero_le _, Nat.zero_le _⟩ rfl rfl (Nat.le_of_ble_eq_true rfl) dX8_allLeftIfTook_28 ?_
          refine px_iadd C dX8_allLeftIfTook_31 ?_
          refine px_istore_n C [(3, .int ((S.1 8 0) + x6)), (0, .ref (ad 0)), (1, .int a1), (2, .int x1)] dX8_allLeftIfTook_32 rfl (by decide) rfl ?_
          refine px_iload_n C 0 dX8_allLeftIfTook_33 rfl rfl ?_
          refine px_aload_n C 1 dX8_allLeftIfTook_34 rfl rfl ?_
          refine px_getr C (j := 3) kx_0 rfl rfl iw_X8_allLeftIfTook_X8 (by decide) lk_X8_allLeftIfTook_32 rfl dX8_allLeftIfTook_35 ?_
          refine px_geti C (j := 0) kx_6 rfl rfl iw_X8_allLeftIfTook_X3 (by decide) lk_X8_allLeftIfTook_188 rfl dX8_allLeftIfTook_38 ?_
          refine px_icmp_le C (tgt := 46) dX8_allLeftIfTook_41 (by decide) (fun c41_6 => ?_) (fun c41_6 => ?_)
          · replace h := el_t c41_6 h
            refine px_iload_n C 2 dX8_allLeftIfTook_46 rfl rfl ?_
            refine px_iload_n C 0 dX8_allLeftIfTook_47 rfl rfl ?_
            obtain ⟨x9, hr48_15, h⟩ := el_b h
            have hj48_9 : PW p l e { frames := 2, cells := 0, slots := 0, locals := 44 } s m args below meth c (MQ below (QX KX A D cI c1 F ad (some (.int rv)) S) args s 0 0 A) D A cI c1 F KX ad 6 0 0 S [(0, .ref (ad 0)), (1, .int a1), (2, .int x1), (3, .int ((S.1 8 0) + x6))] 56 [.int x9] := by
              refine px_istore C [(4, .int x9), (0, .ref (ad 0)), (1, .int a1), (2, .int x1), (3, .int ((S.1 8 0) + x6))] dX8_allLeftIfTook_56 (by decide) rfl ?_
              refine px_aload_n C 1 dX8_allLeftIfTook_58 rfl rfl ?_
              refine px_getr C (j := 4) kx_0 rfl rfl iw_X8_allLeftIfTook_X8 (by decide) lk_X8_allLeftIfTook_38 rfl dX8_allLeftIfTook_59 ?_
              refine px_geti C (j := 2) kx_8 rfl rfl iw_X8_allLeftIfTook_X0 (by decide) lk_X8_allLeftIfTook_133 rfl dX8_allLeftIfTook_62 ?_
              refine px_aload_n C 1 dX8_allLeftIfTook_65 rfl rfl ?_
              refine px_getr C (j := 8) kx_0 rfl rfl iw_X8_allLeftIfTook_X8 (by decide) lk_X8_allLeftIfTook_62 rfl dX8_allLeftIfTook_66 ?_
              refine px_iload_n C 4 dX8_allLeftIfTook_69 rfl rfl ?_
              obtain ⟨x12, hc70_10, h⟩ := el_b h
              refine px_callV1 C (c_X4_spentAhead l tA tB ad fu S ((S.1 8 0) + x6) hc70_10) (cwV 1 C.2.2.2.2.1 gX8_allLeftIfTook_X4_spentAhead rfl rfl rfl (by decide +kernel) ⟨Nat.le_of_ble_eq_true rfl, Nat.le_of_ble_eq_true rfl⟩) ⟨Nat.zero_le _, Nat.zero_le _⟩ kx_51 rfl rfl rfl (Nat.le_of_ble_eq_true rfl) dX8_allLeftIfTook_70 ?_
              refine px_isub C dX8_allLeftIfTook_73 ?_
              refine px_iload C 0 dX8_allLeftIfTook_74 rfl ?_
              refine px_isub C dX8_allLeftIfTook_76 ?_
              refine px_istore C [(5, .int (((S.1 8 2) - x12) - x9)), (4, .int x9), (0, .ref (ad 0)), (1, .int a1), (2, .int x1), (3, .int ((S.1 8 0) + x6))] dX8_allLeftIfTook_77 (by decide) rfl ?_
              refine px_iload C 0 dX8_allLeftIfTook_79 rfl ?_
              refine px_aload_n C 2 dX8_allLeftIfTook_81 rfl rfl ?_
              refine px_getr C (j := 10) kx_0 rfl rfl iw_X8_allLeftIfTook_X8 (by decide) lk_X8_allLeftIfTook_69 rfl dX8_allLeftIfTook_82 ?_
              refine px_iload_n C 4 dX8_allLeftIfTook_85 rfl rfl ?_
              obtain ⟨x14, hc86_12, h⟩ := el_b h
              refine px_callS1 C (c_X5_get l tA tB ad S 61 6 x1 kx_61 hc86_12) (va_cwS 2 C.2.2.2.2.1 gX8_allLeftIfTook_X5_get rfl rfl rfl (by decide +kernel) ⟨Nat.le_of_ble_eq_true rfl, Nat.le_of_ble_eq_true rfl⟩) ⟨Nat.zero_le _, Nat.zero_le _⟩ rfl rfl (Nat.le_of_ble_eq_true rfl) dX8_allLeftIfTook_86 ?_
              refine px_icmp_eq C (tgt := 94) dX8_allLeftIfTook_89 (by decide) (fun c89_14 => ?_) (fun c89_14 => ?_)
              · replace h := el_t c89_14 h
                refine px_iinc C 4 [(2, .int (x1 + (1 : Int32))), (5, .int (((S.1 8 2) - x12) - x9)), (4, .int x9), (0, .ref (ad 0)), (1, .int a1), (3, .int ((S.1 8 0) + x6))] dX8_allLeftIfTook_94 rfl rfl (by decide) rfl ?_
                refine px_goto C (tgt := 2) dX8_allLeftIfTook_97 (by decide) ?_
                exact px_sub [3, 4, 0] rfl (ih0 _ h)
              · replace h := el_f c89_14 h
                refine px_iconst C (v := (0 : Int32)) dX8_allLeftIfTook_92 (by decide) ?_
                exact px_zretE C (Or.inl rfl) dX8_allLeftIfTook_93 h
            clear h
            have h := hr48_15
            clear hr48_15
            refine px_icmp_ge C (tgt := 55) dX8_allLeftIfTook_48 (by decide) (fun c48_7 => ?_) (fun c48_7 => ?_)
            · replace h := el_t c48_7 h
              refine px_iconst C (v := (0 : Int32)) dX8_allLeftIfTook_55 (by decide) ?_
              cases h
              exact px_sub [1, 2, 3, 0] rfl hj48_9
            · replace h := el_f c48_7 h
              refine px_iconst C (v := (1 : Int32)) dX8_allLeftIfTook_51 (by decide) ?_
              refine px_goto C (tgt := 56) dX8_allLeftIfTook_52 (by decide) ?_
              cases h
              exact px_sub [1, 2, 3, 0] rfl hj48_9
          · replace h := el_f c41_6 h
            refine px_iconst C (v := (0 : Int32)) dX8_allLeftIfTook_44 (by decide) ?_
            exact px_zretE C (Or.inl rfl) dX8_allLeftIfTook_45 h
  exact px_sub [1, 2, 0] rfl (hl0 _ _ h)
theorem lk_X8_asRock_38 : Cond.fieldLink RX8 38 "RiverTolls" "boat" "LRiverTolls$Boat;" ∈ wsX8_asRock := List.mem_of_getElem? (i := 2) rfl
theorem lk_X8_asRock_76 : Cond.fieldLink RX8 76 "RiverTolls" "traced" "J" ∈ wsX8_asRock := List.mem_of_getElem? (i := 1) rfl
theorem iw_X8_asRock_X8 : ∀ w ∈ u_ws RX8 TX8 13, w ∈ wsX8_asRock := fun _ h9 => (List.mem_cons_of_mem _ (List.mem_append_left _ (List.mem_append_right _ h9)))
set_option maxHeartbeats 4000000 in
set_option maxRecDepth 100000 in
theorem c_X8_asRock (l : Launch) (tA tB : Nat) (ad : Nat → Nat) (S : St) (a1 : Int32) {rv : Int32} {S' : St} (h : m_X8_asRock S a1 = some (rv, S')) :
    XMet l yX8_asRock wsX8_asRock ({ frames := 2, cells := 0, slots := 0, locals := 42 }) KX (.object "RiverTolls$Boat") tA tB [.ref (ad 0), .int a1] ad S (some (.int rv)) S' := by
  refine XMet.of (cc := cX8_asRock) (maxL := 2) (ret := (some .int)) (own := RX8) (lv := [(0, .ref (ad 0)), (1, .int a1)]) rfl (by decide) rfl (Nat.le_of_ble_eq_true rfl) rfl ?_
  intro p e s m args below meth c D A cI c1 F C
  rw [m_X8_asRock] at h
  refine px_aload_n C 0 dX8_asRock_0 rfl rfl ?_
  refine px_dup C dX8_asRock_1 rfl ?_
  refine px_getl C (j := 12) kx_0 rfl rfl iw_X8_asRock_X8 (by decide) lk_X8_asRock_76 rfl dX8_asRock_2 ?_
  refine px_lconst C (v := (1 : Int64)) dX8_asRock_5 (by decide) ?_
  refine px_ladd C dX8_asRock_6 ?_
  obtain ⟨S1, eS1, h⟩ := el_lt h
  refine px_putl C (j := 12) kx_0 rfl rfl iw_X8_asRock_X8 (by decide) lk_X8_asRock_76 rfl tyX8 tyX8_ok nmX8 rfl (by decide +kernel) dX8_asRock_7 ?_
  refine px_nmS eS1 ?_
  refine px_aload_n C 0 dX8_asRock_10 rfl rfl ?_
  refine px_getr C (j := 4) kx_0 rfl rfl iw_X8_asRock_X8 (by decide) lk_X8_asRock_38 rfl dX8_asRock_11 ?_
  refine px_iload_n C 1 dX8_asRock_14 rfl rfl ?_
  obtain ⟨x3, hc15_1, h⟩ := el_b h
  refine px_callV1 C (c_X0_tollOf l tA tB ad S1 a1 hc15_1) (cwV 1 C.2.2.2.2.1 gX8_asRock_X0_tollOf rfl rfl rfl (by decide +kernel) ⟨Nat.le_of_ble_eq_true rfl, Nat.le_of_ble_eq_true rfl⟩) ⟨Nat.zero_le _, Nat.zero_le _⟩ kx_8 rfl rfl rfl (Nat.le_of_ble_eq_true rfl) dX8_asRock_15 ?_
  exact px_iretES C dX8_asRock_18 h
theorem lk_X8_asBend_38 : Cond.fieldLink RX8 38 "RiverTolls" "boat" "LRiverTolls$Boat;" ∈ wsX8_asBend := List.mem_of_getElem? (i := 3) rfl
theorem lk_X8_asBend_76 : Cond.fieldLink RX8 76 "RiverTolls" "traced" "J" ∈ wsX8_asBend := List.mem_of_getElem? (i := 1) rfl
theorem lk_X8_asBend_130 : Cond.fieldLink RX8 130 "RiverTolls$Boat" "barrels" "I" ∈ wsX8_asBend := List.mem_of_getElem? (i := 4) rfl
theorem lk_X8_asBend_283 : Cond.constantLong RX8 283 (100000) ∈ wsX8_asBend := List.mem_of_getElem? (i := 2) rfl
theorem iw_X8_asBend_X0 : ∀ w ∈ u_ws RX0 TX0 8, w ∈ wsX8_asBend := fun _ h9 => (List.mem_cons_of_mem _ (List.mem_append_right _ h9))
theorem iw_X8_asBend_X8 : ∀ w ∈ u_ws RX8 TX8 13, w ∈ wsX8_asBend := fun _ h9 => (List.mem_cons_of_mem _ (List.mem_append_left _ (List.mem_append_right _ h9)))
set_option maxHeartbeats 4000000 in
set_option maxRecDepth 100000 in
theorem c_X8_asBend (l : Launch) (tA tB : Nat) (ad : Nat → Nat) (S : St) (a1 : Int32) {rv : Int32} {S' : St} (h : m_X8_asBend S a1 = some (rv, S')) :
    XMet l yX8_asBend wsX8_asBend ({ frames := 3, cells := 0, slots := 0, locals := 63 }) KX (.object "RiverTolls$Boat") tA tB [.ref (ad 0), .int a1] ad S (some (.int rv)) S' := by
  refine XMet.of (cc := cX8_asBend) (maxL := 2) (ret := (some .int)) (own := RX8) (lv := [(0, .ref (ad 0)), (1, .int a1)]) rfl (by decide) rfl (Nat.le_of_ble_eq_true rfl) rfl ?_
  intro p e s m args below meth c D A cI c1 F C
  rw [m_X8_asBend] at h
  refine px_aload_n C 0 dX8_asBend_0 rfl rfl ?_
  refine px_dup C dX8_asBend_1 rfl ?_
  refine px_getl C (j := 12) kx_0 rfl rfl iw_X8_asBend_X8 (by decide) lk_X8_asBend_76 rfl dX8_asBend_2 ?_
  refine px_ldc2 C (v := (100000 : Int64)) lk_X8_asBend_283 dX8_asBend_5 ?_
  refine px_ladd C dX8_asBend_8 ?_
  obtain ⟨S1, eS1, h⟩ := el_lt h
  refine px_putl C (j := 12) kx_0 rfl rfl iw_X8_asBend_X8 (by decide) lk_X8_asBend_76 rfl tyX8 tyX8_ok nmX8 rfl (by decide +kernel) dX8_asBend_9 ?_
  refine px_nmS eS1 ?_
  refine px_aload_n C 0 dX8_asBend_12 rfl rfl ?_
  refine px_iload_n C 1 dX8_asBend_13 rfl rfl ?_
  obtain ⟨x3, S4, hc14_1, h⟩ := el_b2 h
  refine px_callV1 C (c_X8_asRock l tA tB ad S1 a1 hc14_1) (cwV 1 C.2.2.2.2.1 gX8_asBend_X8_asRock rfl rfl rfl (by decide +kernel) ⟨Nat.le_of_ble_eq_true rfl, Nat.le_of_ble_eq_true rfl⟩) ⟨Nat.zero_le _, Nat.zero_le _⟩ kx_0 rfl rfl rfl (Nat.le_of_ble_eq_true rfl) dX8_asBend_14 ?_
  refine px_aload_n C 0 dX8_asBend_17 rfl rfl ?_
  refine px_getr C (j := 4) kx_0 rfl rfl iw_X8_asBend_X8 (by decide) lk_X8_asBend_38 rfl dX8_asBend_18 ?_
  refine px_geti C (j := 1) kx_8 rfl rfl iw_X8_asBend_X0 (by decide) lk_X8_asBend_130 rfl dX8_asBend_21 ?_
  refine px_iadd C dX8_asBend_24 ?_
  exact px_iretES C dX8_asBend_25 h
theorem lk_X8_asChain_32 : Cond.fieldLink RX8 32 "RiverTolls" "told" "LRiverTolls$River;" ∈ wsX8_asChain := List.mem_of_getElem? (i := 3) rfl
theorem lk_X8_asChain_76 : Cond.fieldLink RX8 76 "RiverTolls" "traced" "J" ∈ wsX8_asChain := List.mem_of_getElem? (i := 1) rfl
theorem lk_X8_asChain_275 : Cond.constantLong RX8 275 (10) ∈ wsX8_asChain := List.mem_of_getElem? (i := 2) rfl
theorem iw_X8_asChain_X8 : ∀ w ∈ u_ws RX8 TX8 13, w ∈ wsX8_asChain := fun _ h9 => (List.mem_cons_of_mem _ (List.mem_append_left _ (List.mem_append_left _ (List.mem_append_right _ h9))))
set_option maxHeartbeats 4000000 in
set_option maxRecDepth 100000 in
theorem c_X8_asChain (l : Launch) (tA tB : Nat) (ad : Nat → Nat) (S : St) (a1 : Int32) {rv : Int32} {S' : St} (h : m_X8_asChain S a1 = some (rv, S')) :
    XMet l yX8_asChain wsX8_asChain ({ frames := 3, cells := 0, slots := 0, locals := 63 }) KX (.object "RiverTolls$Boat") tA tB [.ref (ad 0), .int a1] ad S (some (.int rv)) S' := by
  refine XMet.of (cc := cX8_asChain) (maxL := 2) (ret := (some .int)) (own := RX8) (lv := [(0, .ref (ad 0)), (1, .int a1)]) rfl (by decide) rfl (Nat.le_of_ble_eq_true rfl) rfl ?_
  intro p e s m args below meth c D A cI c1 F C
  rw [m_X8_asChain] at h
  refine px_aload_n C 0 dX8_asChain_0 rfl rfl ?_
  refine px_dup C dX8_asChain_1 rfl ?_
  refine px_getl C (j := 12) kx_0 rfl rfl iw_X8_asChain_X8 (by decide) lk_X8_asChain_76 rfl dX8_asChain_2 ?_
  refine px_ldc2 C (v := (10 : Int64)) lk_X8_asChain_275 dX8_asChain_5 ?_
  refine px_ladd C dX8_asChain_8 ?_
  obtain ⟨S1, eS1, h⟩ := el_lt h
  refine px_putl C (j := 12) kx_0 rfl rfl iw_X8_asChain_X8 (by decide) lk_X8_asChain_76 rfl tyX8 tyX8_ok nmX8 rfl (by decide +kernel) dX8_asChain_9 ?_
  refine px_nmS eS1 ?_
  refine px_aload_n C 0 dX8_asChain_12 rfl rfl ?_
  refine px_iload_n C 1 dX8_asChain_13 rfl rfl ?_
  obtain ⟨x3, S4, hc14_1, h⟩ := el_b2 h
  refine px_callV1 C (c_X8_asRock l tA tB ad S1 a1 hc14_1) (cwV 1 C.2.2.2.2.1 gX8_asChain_X8_asRock rfl rfl rfl (by decide +kernel) ⟨Nat.le_of_ble_eq_true rfl, Nat.le_of_ble_eq_true rfl⟩) ⟨Nat.zero_le _, Nat.zero_le _⟩ kx_0 rfl rfl rfl (Nat.le_of_ble_eq_true rfl) dX8_asChain_14 ?_
  refine px_aload_n C 0 dX8_asChain_17 rfl rfl ?_
  refine px_getr C (j := 3) kx_0 rfl rfl iw_X8_asChain_X8 (by decide) lk_X8_asChain_32 rfl dX8_asChain_18 ?_
  refine px_iload_n C 1 dX8_asChain_21 rfl rfl ?_
  refine px_iconst C (v := (3 : Int32)) dX8_asChain_22 (by decide) ?_
  obtain ⟨x6, hc23_4, h⟩ := el_b h
  refine px_callV1 C (c_X3_fact l tA tB ad S4 a1 (3 : Int32) hc23_4) (cwV 2 C.2.2.2.2.1 gX8_asChain_X3_fact rfl rfl rfl (by decide +kernel) ⟨Nat.le_of_ble_eq_true rfl, Nat.le_of_ble_eq_true rfl⟩) ⟨Nat.zero_le _, Nat.zero_le _⟩ kx_6 rfl rfl rfl (Nat.le_of_ble_eq_true rfl) dX8_asChain_23 ?_
  refine px_iadd C dX8_asChain_26 ?_
  exact px_iretES C dX8_asChain_27 h
theorem lk_X8_asBridge_76 : Cond.fieldLink RX8 76 "RiverTolls" "traced" "J" ∈ wsX8_asBridge := List.mem_of_getElem? (i := 1) rfl
theorem lk_X8_asBridge_279 : Cond.constantLong RX8 279 (1000) ∈ wsX8_asBridge := List.mem_of_getElem? (i := 2) rfl
theorem iw_X8_asBridge_X8 : ∀ w ∈ u_ws RX8 TX8 13, w ∈ wsX8_asBridge := fun _ h9 => (List.mem_cons_of_mem _ (List.mem_append_left _ (List.mem_append_left _ (List.mem_append_right _ h9))))
set_option maxHeartbeats 4000000 in
set_option maxRecDepth 100000 in
theorem c_X8_asBridge (l : Launch) (tA tB : Nat) (ad : Nat → Nat) (S : St) (a1 : Int32) {rv : Int32} {S' : St} (h : m_X8_asBridge S a1 = some (rv, S')) :
    XMet l yX8_asBridge wsX8_asBridge ({ frames := 4, cells := 0, slots := 0, locals := 84 }) KX (.object "RiverTolls$Boat") tA tB [.ref (ad 0), .int a1] ad S (some (.int rv)) S' := by
  refine XMet.of (cc := cX8_asBridge) (maxL := 2) (ret := (some .int)) (own := RX8) (lv := [(0, .ref (ad 0)), (1, .int a1)]) rfl (by decide) rfl (Nat.le_of_ble_eq_true rfl) rfl ?_
  intro p e s m args below meth c D A cI c1 F C
  rw [m_X8_asBridge] at h
  refine px_aload_n C 0 dX8_asBridge_0 rfl rfl ?_
  refine px_dup C dX8_asBridge_1 rfl ?_
  refine px_getl C (j := 12) kx_0 rfl rfl iw_X8_asBridge_X8 (by decide) lk_X8_asBridge_76 rfl dX8_asBridge_2 ?_
  refine px_ldc2 C (v := (1000 : Int64)) lk_X8_asBridge_279 dX8_asBridge_5 ?_
  refine px_ladd C dX8_asBridge_8 ?_
  obtain ⟨S1, eS1, h⟩ := el_lt h
  refine px_putl C (j := 12) kx_0 rfl rfl iw_X8_asBridge_X8 (by decide) lk_X8_asBridge_76 rfl tyX8 tyX8_ok nmX8 rfl (by decide +kernel) dX8_asBridge_9 ?_
  refine px_nmS eS1 ?_
  refine px_iconst C (v := (2 : Int32)) dX8_asBridge_12 (by decide) ?_
  refine px_aload_n C 0 dX8_asBridge_13 rfl rfl ?_
  refine px_iload_n C 1 dX8_asBridge_14 rfl rfl ?_
  obtain ⟨x3, S4, hc15_1, h⟩ := el_b2 h
  refine px_callV1 C (c_X8_asChain l tA tB ad S1 a1 hc15_1) (cwV 1 C.2.2.2.2.1 gX8_asBridge_X8_asChain rfl rfl rfl (by decide +kernel) ⟨Nat.le_of_ble_eq_true rfl, Nat.le_of_ble_eq_true rfl⟩) ⟨Nat.zero_le _, Nat.zero_le _⟩ kx_0 rfl rfl rfl (Nat.le_of_ble_eq_true rfl) dX8_asBridge_15 ?_
  refine px_imul C dX8_asBridge_18 ?_
  exact px_iretES C dX8_asBridge_19 h
theorem lk_X8_asTower_32 : Cond.fieldLink RX8 32 "RiverTolls" "told" "LRiverTolls$River;" ∈ wsX8_asTower := List.mem_of_getElem? (i := 3) rfl
theorem lk_X8_asTower_76 : Cond.fieldLink RX8 76 "RiverTolls" "traced" "J" ∈ wsX8_asTower := List.mem_of_getElem? (i := 1) rfl
theorem lk_X8_asTower_277 : Cond.constantLong RX8 277 (100) ∈ wsX8_asTower := List.mem_of_getElem? (i := 2) rfl
theorem iw_X8_asTower_X8 : ∀ w ∈ u_ws RX8 TX8 13, w ∈ wsX8_asTower := fun _ h9 => (List.mem_cons_of_mem _ (List.mem_append_left _ (List.mem_append_left _ (List.mem_append_right _ h9))))
set_option maxHeartbeats 4000000 in
set_option maxRecDepth 100000 in
theorem c_X8_asTower (l : Launch) (tA tB : Nat) (ad : Nat → Nat) (S : St) (a1 : Int32) {rv : Int32} {S' : St} (h : m_X8_asTower S a1 = some (rv, S')) :
    XMet l yX8_asTower wsX8_asTower ({ frames := 3, cells := 0, slots := 0, locals := 63 }) KX (.object "RiverTolls$Boat") tA tB [.ref (ad 0), .int a1] ad S (some (.int rv)) S' := by
  refine XMet.of (cc := cX8_asTower) (maxL := 2) (ret := (some .int)) (own := RX8) (lv := [(0, .ref (ad 0)), (1, .int a1)]) rfl (by decide) rfl (Nat.le_of_ble_eq_true rfl) rfl ?_
  intro p e s m args below meth c D A cI c1 F C
  rw [m_X8_asTower] at h
  refine px_aload_n C 0 dX8_asTower_0 rfl rfl ?_
  refine px_dup C dX8_asTower_1 rfl ?_
  refine px_getl C (j := 12) kx_0 rfl rfl iw_X8_asTower_X8 (by decide) lk_X8_asTower_76 rfl dX8_asTower_2 ?_
  refine px_ldc2 C (v := (100 : Int64)) lk_X8_asTower_277 dX8_asTower_5 ?_
  refine px_ladd C dX8_asTower_8 ?_
  obtain ⟨S1, eS1, h⟩ := el_lt h
  refine px_putl C (j := 12) kx_0 rfl rfl iw_X8_asTower_X8 (by decide) lk_X8_asTower_76 rfl tyX8 tyX8_ok nmX8 rfl (by decide +kernel) dX8_asTower_9 ?_
  refine px_nmS eS1 ?_
  refine px_aload_n C 0 dX8_asTower_12 rfl rfl ?_
  refine px_iload_n C 1 dX8_asTower_13 rfl rfl ?_
  obtain ⟨x3, S4, hc14_1, h⟩ := el_b2 h
  refine px_callV1 C (c_X8_asRock l tA tB ad S1 a1 hc14_1) (cwV 1 C.2.2.2.2.1 gX8_asTower_X8_asRock rfl rfl rfl (by decide +kernel) ⟨Nat.le_of_ble_eq_true rfl, Nat.le_of_ble_eq_true rfl⟩) ⟨Nat.zero_le _, Nat.zero_le _⟩ kx_0 rfl rfl rfl (Nat.le_of_ble_eq_true rfl) dX8_asTower_14 ?_
  refine px_aload_n C 0 dX8_asTower_17 rfl rfl ?_
  refine px_getr C (j := 3) kx_0 rfl rfl iw_X8_asTower_X8 (by decide) lk_X8_asTower_32 rfl dX8_asTower_18 ?_
  refine px_iload_n C 1 dX8_asTower_21 rfl rfl ?_
  refine px_iconst C (v := (4 : Int32)) dX8_asTower_22 (by decide) ?_
  obtain ⟨x6, hc23_4, h⟩ := el_b h
  refine px_callV1 C (c_X3_fact l tA tB ad S4 a1 (4 : Int32) hc23_4) (cwV 2 C.2.2.2.2.1 gX8_asTower_X3_fact rfl rfl rfl (by decide +kernel) ⟨Nat.le_of_ble_eq_true rfl, Nat.le_of_ble_eq_true rfl⟩) ⟨Nat.zero_le _, Nat.zero_le _⟩ kx_6 rfl rfl rfl (Nat.le_of_ble_eq_true rfl) dX8_asTower_23 ?_
  refine px_isub C dX8_asTower_26 ?_
  exact px_iretES C dX8_asTower_27 h
theorem lk_X8_asIsle_76 : Cond.fieldLink RX8 76 "RiverTolls" "traced" "J" ∈ wsX8_asIsle := List.mem_of_getElem? (i := 1) rfl
theorem lk_X8_asIsle_281 : Cond.constantLong RX8 281 (10000) ∈ wsX8_asIsle := List.mem_of_getElem? (i := 2) rfl
theorem iw_X8_asIsle_X8 : ∀ w ∈ u_ws RX8 TX8 13, w ∈ wsX8_asIsle := fun _ h9 => (List.mem_cons_of_mem _ (List.mem_append_left _ (List.mem_append_left _ (List.mem_append_right _ h9))))
set_option maxHeartbeats 4000000 in
set_option maxRecDepth 100000 in
theorem c_X8_asIsle (l : Launch) (tA tB : Nat) (ad : Nat → Nat) (S : St) (a1 : Int32) {rv : Int32} {S' : St} (h : m_X8_asIsle S a1 = some (rv, S')) :
    XMet l yX8_asIsle wsX8_asIsle ({ frames := 4, cells := 0, slots := 0, locals := 84 }) KX (.object "RiverTolls$Boat") tA tB [.ref (ad 0), .int a1] ad S (some (.int rv)) S' := by
  refine XMet.of (cc := cX8_asIsle) (maxL := 2) (ret := (some .int)) (own := RX8) (lv := [(0, .ref (ad 0)), (1, .int a1)]) rfl (by decide) rfl (Nat.le_of_ble_eq_true rfl) rfl ?_
  intro p e s m args below meth c D A cI c1 F C
  rw [m_X8_asIsle] at h
  refine px_aload_n C 0 dX8_asIsle_0 rfl rfl ?_
  refine px_dup C dX8_asIsle_1 rfl ?_
  refine px_getl C (j := 12) kx_0 rfl rfl iw_X8_asIsle_X8 (by decide) lk_X8_asIsle_76 rfl dX8_asIsle_2 ?_
  refine px_ldc2 C (v := (10000 : Int64)) lk_X8_asIsle_281 dX8_asIsle_5 ?_
  refine px_ladd C dX8_asIsle_8 ?_
  obtain ⟨S1, eS1, h⟩ := el_lt h
  refine px_putl C (j := 12) kx_0 rfl rfl iw_X8_asIsle_X8 (by decide) lk_X8_asIsle_76 rfl tyX8 tyX8_ok nmX8 rfl (by decide +kernel) dX8_asIsle_9 ?_
  refine px_nmS eS1 ?_
  refine px_aload_n C 0 dX8_asIsle_12 rfl rfl ?_
  refine px_iload_n C 1 dX8_asIsle_13 rfl rfl ?_
  obtain ⟨x3, S4, hc14_1, h⟩ := el_b2 h
  refine px_callV1 C (c_X8_asTower l tA tB ad S1 a1 hc14_1) (cwV 1 C.2.2.2.2.1 gX8_asIsle_X8_asTower rfl rfl rfl (by decide +kernel) ⟨Nat.le_of_ble_eq_true rfl, Nat.le_of_ble_eq_true rfl⟩) ⟨Nat.zero_le _, Nat.zero_le _⟩ kx_0 rfl rfl rfl (Nat.le_of_ble_eq_true rfl) dX8_asIsle_14 ?_
  refine px_iload_n C 1 dX8_asIsle_17 rfl rfl ?_
  refine px_iadd C dX8_asIsle_18 ?_
  exact px_iretES C dX8_asIsle_19 h
theorem lk_X8_imageOf_49 : Cond.fieldLink RX8 49 "RiverTolls" "images" "[LRiverTolls$Boat;" ∈ wsX8_imageOf := List.mem_of_getElem? (i := 1) rfl
theorem iw_X8_imageOf_X8 : ∀ w ∈ u_ws RX8 TX8 13, w ∈ wsX8_imageOf := fun _ h9 => (List.mem_cons_of_mem _ (List.mem_append_right _ h9))
set_option maxHeartbeats 4000000 in
set_option maxRecDepth 100000 in
theorem c_X8_imageOf (l : Launch) (tA tB : Nat) (ad : Nat → Nat) (S : St) (a1 : Int32) {rv : Option Nat} (h : m_X8_imageOf S a1 = some rv) :
    XMet l yX8_imageOf wsX8_imageOf ({ frames := 0, cells := 0, slots := 0, locals := 0 }) KX (.object "RiverTolls$Boat") tA tB [.ref (ad 0), .int a1] ad S (some (va_rf (rv.map ad))) S := by
  refine XMet.of (cc := cX8_imageOf) (maxL := 2) (ret := (some (.object "RiverTolls$Boat"))) (own := RX8) (lv := [(0, .ref (ad 0)), (1, .int a1)]) rfl (by decide) rfl (Nat.le_of_ble_eq_true rfl) rfl ?_
  intro p e s m args below meth c D A cI c1 F C
  rw [m_X8_imageOf] at h
  refine px_iload_n C 1 dX8_imageOf_0 rfl rfl ?_
  refine px_if_lt C (tgt := 27) dX8_imageOf_1 (by decide) (fun c1_0 => ?_) (fun c1_0 => ?_)
  · replace h := el_t c1_0 h
    refine px_null C dX8_imageOf_27 ?_
    exact px_aretN C dX8_imageOf_28 h
  · replace h := el_f c1_0 h
    refine px_iload_n C 1 dX8_imageOf_4 rfl rfl ?_
    refine px_iconst C (v := (2 : Int32)) dX8_imageOf_5 (by decide) ?_
    refine px_icmp_ge C (tgt := 27) dX8_imageOf_6 (by decide) (fun c6_1 => ?_) (fun c6_1 => ?_)
    · replace h := el_t c6_1 h
      refine px_null C dX8_imageOf_27 ?_
      exact px_aretN C dX8_imageOf_28 h
    · replace h := el_f c6_1 h
      refine px_iload_n C 1 dX8_imageOf_9 rfl rfl ?_
      refine px_aload_n C 0 dX8_imageOf_10 rfl rfl ?_
      refine px_getr C (j := 6) kx_0 rfl rfl iw_X8_imageOf_X8 (by decide) lk_X8_imageOf_49 rfl dX8_imageOf_11 ?_
      refine px_alenR C (v := (2 : Int32)) kx_43 rfl dX8_imageOf_14 ?_
      refine px_icmp_ge C (tgt := 27) dX8_imageOf_15 (by decide) (fun c15_2 => ?_) (fun c15_2 => ?_)
      · replace h := el_t c15_2 h
        refine px_null C dX8_imageOf_27 ?_
        exact px_aretN C dX8_imageOf_28 h
      · replace h := el_f c15_2 h
        refine px_aload_n C 0 dX8_imageOf_18 rfl rfl ?_
        refine px_getr C (j := 6) kx_0 rfl rfl iw_X8_imageOf_X8 (by decide) lk_X8_imageOf_49 rfl dX8_imageOf_19 ?_
        refine px_iload_n C 1 dX8_imageOf_22 rfl rfl ?_
        obtain ⟨hi23, h⟩ := el_nb h
        refine px_aaldS C rfl kx_43 hi23 rfl (p_rf (p_lt hi23)) dX8_imageOf_23 ?_
        refine px_goto C (tgt := 28) dX8_imageOf_24 (by decide) ?_
        exact px_aretE C dX8_imageOf_28 h
theorem lk_X8_back_38 : Cond.fieldLink RX8 38 "RiverTolls" "boat" "LRiverTolls$Boat;" ∈ wsX8_back := List.mem_of_getElem? (i := 2) rfl
theorem lk_X8_back_45 : Cond.fieldLink RX8 45 "RiverTolls" "past" "LRiverTolls$Past;" ∈ wsX8_back := List.mem_of_getElem? (i := 3) rfl
theorem lk_X8_back_53 : Cond.fieldLink RX8 53 "RiverTolls" "kept" "[I" ∈ wsX8_back := List.mem_of_getElem? (i := 1) rfl
theorem lk_X8_back_127 : Cond.fieldLink RX8 127 "RiverTolls$Boat" "at" "I" ∈ wsX8_back := List.mem_of_getElem? (i := 4) rfl
theorem iw_X8_back_X0 : ∀ w ∈ u_ws RX0 TX0 8, w ∈ wsX8_back := fun _ h9 => (List.mem_cons_of_mem _ (List.mem_append_left _ (List.mem_append_right _ h9)))
theorem iw_X8_back_X8 : ∀ w ∈ u_ws RX8 TX8 13, w ∈ wsX8_back := fun _ h9 => (List.mem_cons_of_mem _ (List.mem_append_left _ (List.mem_append_left _ (List.mem_append_right _ h9))))
set_option maxHeartbeats 4000000 in
set_option maxRecDepth 100000 in
theorem c_X8_back (l : Launch) (tA tB : Nat) (ad : Nat → Nat) (fu : Nat) (S : St) (a1 : Int32) {rv : Int32} {S' : St} (h : m_X8_back fu S a1 = some (rv, S')) :
    XMet l yX8_back wsX8_back ({ frames := 2, cells := 0, slots := 0, locals := 43 }) KX (.object "RiverTolls$Boat") tA tB [.ref (ad 0), .int a1] ad S (some (.int rv)) S' := by
  refine XMet.of (cc := cX8_back) (maxL := 3) (ret := (some .int)) (own := RX8) (lv := [(0, .ref (ad 0)), (1, .int a1)]) rfl (by decide) rfl (Nat.le_of_ble_eq_true rfl) rfl ?_
  intro p e s m args below meth c D A cI c1 F C
  rw [m_X8_back] at h
  refine px_aload_n C 0 dX8_back_0 rfl rfl ?_
  refine px_iload_n C 1 dX8_back_1 rfl rfl ?_
  obtain ⟨o2, hc2_0, h⟩ := el_b h
  refine px_callV1 C (c_X8_imageOf l tA tB ad S a1 hc2_0) (cwV 1 C.2.2.2.2.1 gX8_back_X8_imageOf rfl rfl rfl (by decide +kernel) ⟨Nat.le_of_ble_eq_true rfl, Nat.le_of_ble_eq_true rfl⟩) ⟨Nat.zero_le _, Nat.zero_le _⟩ kx_0 rfl rfl rfl (Nat.le_of_ble_eq_true rfl) dX8_back_2 ?_
  rcases el_on h with ⟨rfl, h⟩ | ⟨b3, rfl, hB_b3, h⟩
  · skip
    refine px_astore_nN C [(2, .null), (0, .ref (ad 0)), (1, .int a1)] dX8_back_5 rfl (by decide) rfl ?_
    refine px_aload_nN C 0 dX8_back_6 rfl rfl ?_
    refine px_ifnonnullN C dX8_back_7 ?_
    refine px_iconst C (v := (-1 : Int32)) dX8_back_10 (by decide) ?_
    exact px_iretES C dX8_back_11 h
  · obtain ⟨hk_b3, hk1_b3, hk2_b3⟩ := kx_boat hB_b3
    refine px_astore_n C [(2, .ref (ad b3)), (0, .ref (ad 0)), (1, .int a1)] dX8_back_5 rfl (by decide) rfl ?_
    refine px_aload_n C 0 dX8_back_6 rfl rfl ?_
    refine px_ifnonnull C (tgt := 12) dX8_back_7 (by decide) ?_
    refine px_aload_n C 1 dX8_back_12 rfl rfl ?_
    refine px_getr C (j := 7) kx_0 rfl rfl iw_X8_back_X8 (by decide) lk_X8_back_53 rfl dX8_back_13 ?_
    refine px_iload_n C 2 dX8_back_16 rfl rfl ?_
    obtain ⟨x5, hc17_3, h⟩ := el_b h
    refine px_callS1 C (c_X5_get l tA tB ad S 50 2 a1 kx_50 hc17_3) (va_cwS 2 C.2.2.2.2.1 gX8_back_X5_get rfl rfl rfl (by decide +kernel) ⟨Nat.le_of_ble_eq_true rfl, Nat.le_of_ble_eq_true rfl⟩) ⟨Nat.zero_le _, Nat.zero_le _⟩ rfl rfl (Nat.le_of_ble_eq_true rfl) dX8_back_17 ?_
    refine px_if_ne C (tgt := 26) dX8_back_20 (by decide) (fun c20_5 => ?_) (fun c20_5 => ?_)
    · replace h := el_t c20_5 h
      refine px_aload_n C 1 dX8_back_26 rfl rfl ?_
      refine px_getr C (j := 4) kx_0 rfl rfl iw_X8_back_X8 (by decide) lk_X8_back_38 rfl dX8_back_27 ?_
      refine px_aload_n C 0 dX8_back_30 rfl rfl ?_
      obtain ⟨S8, hc31_6, h⟩ := el_b h
      refine px_callV0 C (c_X0_become l tA tB ad fu S 8 b3 (by decide) hB_b3 hc31_6) (cwV 1 C.2.2.2.2.1 gX8_back_X0_become rfl rfl rfl (by decide +kernel) ⟨Nat.le_of_ble_eq_true rfl, Nat.le_of_ble_eq_true rfl⟩) ⟨Nat.zero_le _, Nat.zero_le _⟩ kx_8 rfl rfl rfl (Nat.le_of_ble_eq_true rfl) dX8_back_31 ?_
      refine px_aload_n C 1 dX8_back_34 rfl rfl ?_
      refine px_getr C (j := 5) kx_0 rfl rfl iw_X8_back_X8 (by decide) lk_X8_back_45 rfl dX8_back_35 ?_
      obtain ⟨S10, hc38_8, h⟩ := el_b h
      refine px_callV0 C (c_X1_forgetAll l tA tB ad S8 hc38_8) (cwV 0 C.2.2.2.2.1 gX8_back_X1_forgetAll rfl rfl rfl (by decide +kernel) ⟨Nat.le_of_ble_eq_true rfl, Nat.le_of_ble_eq_true rfl⟩) ⟨Nat.zero_le _, Nat.zero_le _⟩ kx_11 rfl rfl rfl (Nat.le_of_ble_eq_true rfl) dX8_back_38 ?_
      refine px_aload_n C 1 dX8_back_41 rfl rfl ?_
      refine px_getr C (j := 4) kx_0 rfl rfl iw_X8_back_X8 (by decide) lk_X8_back_38 rfl dX8_back_42 ?_
      refine px_geti C (j := 0) kx_8 rfl rfl iw_X8_back_X0 (by decide) lk_X8_back_127 rfl dX8_back_45 ?_
      exact px_iretES C dX8_back_48 h
    · replace h := el_fn c20_5 h
      refine px_bipush C (v := (-2 : Int32)) dX8_back_23 (by decide) ?_
      exact px_iretES C dX8_back_25 h
theorem lk_X8_bitsAhead_32 : Cond.fieldLink RX8 32 "RiverTolls" "told" "LRiverTolls$River;" ∈ wsX8_bitsAhead := List.mem_of_getElem? (i := 3) rfl
theorem lk_X8_bitsAhead_38 : Cond.fieldLink RX8 38 "RiverTolls" "boat" "LRiverTolls$Boat;" ∈ wsX8_bitsAhead := List.mem_of_getElem? (i := 1) rfl
theorem lk_X8_bitsAhead_127 : Cond.fieldLink RX8 127 "RiverTolls$Boat" "at" "I" ∈ wsX8_bitsAhead := List.mem_of_getElem? (i := 2) rfl
theorem lk_X8_bitsAhead_188 : Cond.fieldLink RX8 188 "RiverTolls$River" "rocks" "I" ∈ wsX8_bitsAhead := List.mem_of_getElem? (i := 4) rfl
theorem iw_X8_bitsAhead_X0 : ∀ w ∈ u_ws RX0 TX0 8, w ∈ wsX8_bitsAhead := fun _ h9 => (List.mem_cons_of_mem _ (List.mem_append_left _ (List.mem_append_right _ h9)))
theorem iw_X8_bitsAhead_X3 : ∀ w ∈ u_ws RX3 TX3 5, w ∈ wsX8_bitsAhead := fun _ h9 => (List.mem_cons_of_mem _ (List.mem_append_right _ h9))
theorem iw_X8_bitsAhead_X8 : ∀ w ∈ u_ws RX8 TX8 13, w ∈ wsX8_bitsAhead := fun _ h9 => (List.mem_cons_of_mem _ (List.mem_append_left _ (List.mem_append_left _ (List.mem_append_right _ h9))))
set_option maxHeartbeats 4000000 in
set_option maxRecDepth 100000 in
theorem c_X8_bitsAhead (l : Launch) (tA tB : Nat) (ad : Nat → Nat) (fu : Nat) (S : St) {rv : Int32} (h : m_X8_bitsAhead fu S = some rv) :
    XMet l yX8_bitsAhead wsX8_bitsAhead ({ frames := 0, cells := 0, slots := 0, locals := 0 }) KX (.object "RiverTolls$Boat") tA tB [.ref (ad 0)] ad S (some (.int rv)) S := by
  refine XMet.of (cc := cX8_bitsAhead) (maxL := 3) (ret := (some .int)) (own := RX8) (lv := [(0, .ref (ad 0))]) rfl (by decide) rfl (Nat.le_of_ble_eq_true rfl) rfl ?_
  intro p e s m args below meth c D A cI c1 F C
  rw [m_X8_bitsAhead] at h
  refine px_iconst C (v := (0 : Int32)) dX8_bitsAhead_0 (by decide) ?_
  refine px_istore_n C [(1, .int (0 : Int32)), (0, .ref (ad 0))] dX8_bitsAhead_1 rfl (by decide) rfl ?_
  refine px_aload_n C 1 dX8_bitsAhead_2 rfl rfl ?_
  refine px_getr C (j := 4) kx_0 rfl rfl iw_X8_bitsAhead_X8 (by decide) lk_X8_bitsAhead_38 rfl dX8_bitsAhead_3 ?_
  refine px_geti C (j := 0) kx_8 rfl rfl iw_X8_bitsAhead_X0 (by decide) lk_X8_bitsAhead_127 rfl dX8_bitsAhead_6 ?_
  refine px_istore_n C [(2, .int (S.1 8 0)), (1, .int (0 : Int32)), (0, .ref (ad 0))] dX8_bitsAhead_9 rfl (by decide) rfl ?_
  have hx0 : ∀  (x3 : Int32) (x4 : Int32), m_X8_bitsAhead_r0 x3 x4 = some rv → PW p l e { frames := 0, cells := 0, slots := 0, locals := 0 } s m args below meth c (MQ below (QX KX A D cI c1 F ad (some (.int rv)) S) args s 0 0 A) D A cI c1 F KX ad 3 0 0 S [(0, .ref (ad 0)), (1, .int x3), (2, .int x4)] 33 [] := by
    intro x3 x4 h
    rw [m_X8_bitsAhead_r0] at h
    refine px_iload_n C 1 dX8_bitsAhead_33 rfl rfl ?_
    exact px_iretE C dX8_bitsAhead_34 h
  have hl0 : ∀ (n_0 : Nat) (x1 : Int32) (x2 : Int32), m_X8_bitsAhead_L0 S m_X8_bitsAhead_r0 n_0 x1 x2 = some rv → PW p l e { frames := 0, cells := 0, slots := 0, locals := 0 } s m args below meth c (MQ below (QX KX A D cI c1 F ad (some (.int rv)) S) args s 0 0 A) D A cI c1 F KX ad 3 0 0 S [(0, .ref (ad 0)), (1, .int x1), (2, .int x2)] 10 [] := by
    intro n_0
    induction n_0 with
    | zero =>
      intro x1 x2 h
      rw [m_X8_bitsAhead_L0_z] at h
      cases h
    | succ n_0 ih0 =>
      intro x1 x2 h
      rw [m_X8_bitsAhead_L0_s] at h
      refine px_iload_n C 2 dX8_bitsAhead_10 rfl rfl ?_
      refine px_aload_n C 0 dX8_bitsAhead_11 rfl rfl ?_
      refine px_getr C (j := 3) kx_0 rfl rfl iw_X8_bitsAhead_X8 (by decide) lk_X8_bitsAhead_32 rfl dX8_bitsAhead_12 ?_
      refine px_geti C (j := 0) kx_6 rfl rfl iw_X8_bitsAhead_X3 (by decide) lk_X8_bitsAhead_188 rfl dX8_bitsAhead_15 ?_
      refine px_icmp_ge C (tgt := 33) dX8_bitsAhead_18 (by decide) (fun c18_4 => ?_) (fun c18_4 => ?_)
      · replace h := el_t c18_4 h
        exact (hx0 _ _ h)
      · replace h := el_f c18_4 h
        refine px_iload_n C 1 dX8_bitsAhead_21 rfl rfl ?_
        refine px_iconst C (v := (1 : Int32)) dX8_bitsAhead_22 (by decide) ?_
        refine px_iload_n C 2 dX8_bitsAhead_23 rfl rfl ?_
        refine px_ishl C dX8_bitsAhead_24 ?_
        refine px_ior C dX8_bitsAhead_25 ?_
        obtain ⟨x6, ex6, h⟩ := el_lt h
        refine px_nm ex6 ?_
        refine px_istore_n C [(1, .int x6), (0, .ref (ad 0)), (2, .int x2)] dX8_bitsAhead_26 rfl (by decide) rfl ?_
        refine px_iinc C 2 [(2, .int (x2 + (1 : Int32))), (1, .int x6), (0, .ref (ad 0))] dX8_bitsAhead_27 rfl rfl (by decide) rfl ?_
        refine px_goto C (tgt := 10) dX8_bitsAhead_30 (by decide) ?_
        exact px_sub [2, 1, 0] rfl (ih0 _ _ h)
  exact px_sub [2, 1, 0] rfl (hl0 _ _ _ h)
theorem lk_X8_isRock_32 : Cond.fieldLink RX8 32 "RiverTolls" "told" "LRiverTolls$River;" ∈ wsX8_isRock := List.mem_of_getElem? (i := 1) rfl
theorem lk_X8_isRock_188 : Cond.fieldLink RX8 188 "RiverTolls$River" "rocks" "I" ∈ wsX8_isRock := List.mem_of_getElem? (i := 2) rfl
theorem iw_X8_isRock_X3 : ∀ w ∈ u_ws RX3 TX3 5, w ∈ wsX8_isRock := fun _ h9 => (List.mem_cons_of_mem _ (List.mem_append_right _ h9))
theorem iw_X8_isRock_X8 : ∀ w ∈ u_ws RX8 TX8 13, w ∈ wsX8_isRock := fun _ h9 => (List.mem_cons_of_mem _ (List.mem_append_left _ (List.mem_append_right _ h9)))
set_option maxHeartbeats 4000000 in
set_option maxRecDepth 100000 in
theorem c_X8_isRock (l : Launch) (tA tB : Nat) (ad : Nat → Nat) (S : St) (a1 : Int32) {rv : Int32} (h : m_X8_isRock S a1 = some rv) :
    XMet l yX8_isRock wsX8_isRock ({ frames := 0, cells := 0, slots := 0, locals := 0 }) KX (.object "RiverTolls$Boat") tA tB [.ref (ad 0), .int a1] ad S (some (.int rv)) S := by
  refine XMet.of (cc := cX8_isRock) (maxL := 2) (ret := (some .boolean)) (own := RX8) (lv := [(0, .ref (ad 0)), (1, .int a1)]) rfl (by decide) rfl (Nat.le_of_ble_eq_true rfl) rfl ?_
  intro p e s m args below meth c D A cI c1 F C
  rw [m_X8_isRock] at h
  refine px_iload_n C 1 dX8_isRock_0 rfl rfl ?_
  refine px_if_lt C (tgt := 19) dX8_isRock_1 (by decide) (fun c1_0 => ?_) (fun c1_0 => ?_)
  · replace h := el_t c1_0 h
    refine px_iconst C (v := (0 : Int32)) dX8_isRock_19 (by decide) ?_
    exact px_zretE C (Or.inl rfl) dX8_isRock_20 h
  · replace h := el_f c1_0 h
    refine px_iload_n C 1 dX8_isRock_4 rfl rfl ?_
    refine px_aload_n C 0 dX8_isRock_5 rfl rfl ?_
    refine px_getr C (j := 3) kx_0 rfl rfl iw_X8_isRock_X8 (by decide) lk_X8_isRock_32 rfl dX8_isRock_6 ?_
    refine px_geti C (j := 0) kx_6 rfl rfl iw_X8_isRock_X3 (by decide) lk_X8_isRock_188 rfl dX8_isRock_9 ?_
    refine px_icmp_ge C (tgt := 19) dX8_isRock_12 (by decide) (fun c12_1 => ?_) (fun c12_1 => ?_)
    · replace h := el_t c12_1 h
      refine px_iconst C (v := (0 : Int32)) dX8_isRock_19 (by decide) ?_
      exact px_zretE C (Or.inl rfl) dX8_isRock_20 h
    · replace h := el_f c12_1 h
      refine px_iconst C (v := (1 : Int32)) dX8_isRock_15 (by decide) ?_
      refine px_goto C (tgt := 20) dX8_isRock_16 (by decide) ?_
      exact px_zretE C (Or.inr rfl) dX8_isRock_20 h
theorem lk_X8_breaks_38 : Cond.fieldLink RX8 38 "RiverTolls" "boat" "LRiverTolls$Boat;" ∈ wsX8_breaks := List.mem_of_getElem? (i := 1) rfl
theorem lk_X8_breaks_45 : Cond.fieldLink RX8 45 "RiverTolls" "past" "LRiverTolls$Past;" ∈ wsX8_breaks := List.mem_of_getElem? (i := 2) rfl
theorem lk_X8_breaks_177 : Cond.fieldLink RX8 177 "RiverTolls$Boat" "broken" "I" ∈ wsX8_breaks := List.mem_of_getElem? (i := 3) rfl
theorem iw_X8_breaks_X0 : ∀ w ∈ u_ws RX0 TX0 8, w ∈ wsX8_breaks := fun _ h9 => (List.mem_cons_of_mem _ (List.mem_append_left _ (List.mem_append_left _ (List.mem_append_right _ h9))))
theorem iw_X8_breaks_X8 : ∀ w ∈ u_ws RX8 TX8 13, w ∈ wsX8_breaks := fun _ h9 => (List.mem_cons_of_mem _ (List.mem_append_left _ (List.mem_append_left _ (List.mem_append_left _ (List.mem_append_right _ h9)))))
set_option maxHeartbeats 4000000 in
set_option maxRecDepth 100000 in
theorem c_X8_breaks (l : Launch) (tA tB : Nat) (ad : Nat → Nat) (fu : Nat) (S : St) (a1 : Int32) {rv : Int32} {S' : St} (h : m_X8_breaks fu S a1 = some (rv, S')) :
    XMet l yX8_breaks wsX8_breaks ({ frames := 3, cells := 0, slots := 0, locals := 65 }) KX (.object "RiverTolls$Boat") tA tB [.ref (ad 0), .int a1] ad S (some (.int rv)) S' := by
  refine XMet.of (cc := cX8_breaks) (maxL := 2) (ret := (some .int)) (own := RX8) (lv := [(0, .ref (ad 0)), (1, .int a1)]) rfl (by decide) rfl (Nat.le_of_ble_eq_true rfl) rfl ?_
  intro p e s m args below meth c D A cI c1 F C
  rw [m_X8_breaks] at h
  refine px_aload_n C 0 dX8_breaks_0 rfl rfl ?_
  refine px_iload_n C 1 dX8_breaks_1 rfl rfl ?_
  obtain ⟨x2, hc2_0, h⟩ := el_b h
  refine px_callV1 C (c_X8_isRock l tA tB ad S a1 hc2_0) (cwV 1 C.2.2.2.2.1 gX8_breaks_X8_isRock rfl rfl rfl (by decide +kernel) ⟨Nat.le_of_ble_eq_true rfl, Nat.le_of_ble_eq_true rfl⟩) ⟨Nat.zero_le _, Nat.zero_le _⟩ kx_0 rfl rfl rfl (Nat.le_of_ble_eq_true rfl) dX8_breaks_2 ?_
  refine px_if_ne C (tgt := 10) dX8_breaks_5 (by decide) (fun c5_2 => ?_) (fun c5_2 => ?_)
  · replace h := el_t c5_2 h
    refine px_aload_n C 0 dX8_breaks_10 rfl rfl ?_
    refine px_getr C (j := 4) kx_0 rfl rfl iw_X8_breaks_X8 (by decide) lk_X8_breaks_38 rfl dX8_breaks_11 ?_
    refine px_iload_n C 1 dX8_breaks_14 rfl rfl ?_
    obtain ⟨x5, hc15_3, h⟩ := el_b h
    refine px_callV1 C (c_X0_isBroken l tA tB ad S a1 hc15_3) (cwV 1 C.2.2.2.2.1 gX8_breaks_X0_isBroken rfl rfl rfl (by decide +kernel) ⟨Nat.le_of_ble_eq_true rfl, Nat.le_of_ble_eq_true rfl⟩) ⟨Nat.zero_le _, Nat.zero_le _⟩ kx_8 rfl rfl rfl (Nat.le_of_ble_eq_true rfl) dX8_breaks_15 ?_
    refine px_if_eq C (tgt := 24) dX8_breaks_18 (by decide) (fun c18_5 => ?_) (fun c18_5 => ?_)
    · replace h := el_t c18_5 h
      refine px_aload_n C 0 dX8_breaks_24 rfl rfl ?_
      refine px_getr C (j := 5) kx_0 rfl rfl iw_X8_breaks_X8 (by decide) lk_X8_breaks_45 rfl dX8_breaks_25 ?_
      refine px_aload_n C 0 dX8_breaks_28 rfl rfl ?_
      refine px_getr C (j := 4) kx_0 rfl rfl iw_X8_breaks_X8 (by decide) lk_X8_breaks_38 rfl dX8_breaks_29 ?_
      obtain ⟨S8, hc32_6, h⟩ := el_b h
      refine px_callV0 C (c_X1_remember l tA tB ad fu S hc32_6) (cwV 1 C.2.2.2.2.1 gX8_breaks_X1_remember rfl rfl rfl (by decide +kernel) ⟨Nat.le_of_ble_eq_true rfl, Nat.le_of_ble_eq_true rfl⟩) ⟨Nat.zero_le _, Nat.zero_le _⟩ kx_11 rfl rfl rfl (Nat.le_of_ble_eq_true rfl) dX8_breaks_32 ?_
      refine px_aload_n C 0 dX8_breaks_35 rfl rfl ?_
      refine px_getr C (j := 4) kx_0 rfl rfl iw_X8_breaks_X8 (by decide) lk_X8_breaks_38 rfl dX8_breaks_36 ?_
      refine px_dup C dX8_breaks_39 rfl ?_
      refine px_geti C (j := 5) kx_8 rfl rfl iw_X8_breaks_X0 (by decide) lk_X8_breaks_177 rfl dX8_breaks_40 ?_
      refine px_iconst C (v := (1 : Int32)) dX8_breaks_43 (by decide) ?_
      refine px_iload_n C 1 dX8_breaks_44 rfl rfl ?_
      refine px_ishl C dX8_breaks_45 ?_
      refine px_ior C dX8_breaks_46 ?_
      obtain ⟨S9, eS9, h⟩ := el_lt h
      refine px_puti C (ty := .int) (j := 5) kx_8 rfl rfl iw_X8_breaks_X0 (by decide) lk_X8_breaks_177 rfl tyX0 tyX0_ok nmX0 rfl (by decide +kernel) rfl rfl dX8_breaks_47 ?_
      refine px_nmS eS9 ?_
      refine px_aload_n C 0 dX8_breaks_50 rfl rfl ?_
      refine px_getr C (j := 4) kx_0 rfl rfl iw_X8_breaks_X8 (by decide) lk_X8_breaks_38 rfl dX8_breaks_51 ?_
      refine px_geti C (j := 5) kx_8 rfl rfl iw_X8_breaks_X0 (by decide) lk_X8_breaks_177 rfl dX8_breaks_54 ?_
      obtain ⟨x11, hc57_9, h⟩ := el_b h
      refine px_callS1 C (c_J6_bitCount_0f7a4 l tA tB ad S9 (S9.1 8 5) hc57_9) (va_cwS 1 C.2.2.2.2.1 gX8_breaks_J6_bitCount_0f7a4 rfl rfl rfl (by decide +kernel) ⟨Nat.le_of_ble_eq_true rfl, Nat.le_of_ble_eq_true rfl⟩) ⟨Nat.zero_le _, Nat.zero_le _⟩ rfl rfl (Nat.le_of_ble_eq_true rfl) dX8_breaks_57 ?_
      exact px_iretES C dX8_breaks_60 h
    · replace h := el_f c18_5 h
      refine px_bipush C (v := (-2 : Int32)) dX8_breaks_21 (by decide) ?_
      exact px_iretES C dX8_breaks_23 h
  · replace h := el_fn c5_2 h
    refine px_iconst C (v := (-1 : Int32)) dX8_breaks_8 (by decide) ?_
    exact px_iretES C dX8_breaks_9 h
set_option maxHeartbeats 4000000 in
set_option maxRecDepth 100000 in
theorem c_X8_isLord (l : Launch) (tA tB : Nat) (ad : Nat → Nat) (S : St) (a1 : Int32) {rv : Int32} (h : m_X8_isLord a1 = some rv) :
    XMet l yX8_isLord wsX8_isLord ({ frames := 0, cells := 0, slots := 0, locals := 0 }) KX (.object "RiverTolls$Boat") tA tB [.ref (ad 0), .int a1] ad S (some (.int rv)) S := by
  refine XMet.of (cc := cX8_isLord) (maxL := 2) (ret := (some .boolean)) (own := RX8) (lv := [(0, .ref (ad 0)), (1, .int a1)]) rfl (by decide) rfl (Nat.le_of_ble_eq_true rfl) rfl ?_
  intro p e s m args below meth c D A cI c1 F C
  rw [m_X8_isLord] at h
  refine px_iload_n C 1 dX8_isLord_0 rfl rfl ?_
  refine px_if_lt C (tgt := 13) dX8_isLord_1 (by decide) (fun c1_0 => ?_) (fun c1_0 => ?_)
  · replace h := el_t c1_0 h
    refine px_iconst C (v := (0 : Int32)) dX8_isLord_13 (by decide) ?_
    exact px_zretE C (Or.inl rfl) dX8_isLord_14 h
  · replace h := el_f c1_0 h
    refine px_iload_n C 1 dX8_isLord_4 rfl rfl ?_
    refine px_iconst C (v := (3 : Int32)) dX8_isLord_5 (by decide) ?_
    refine px_icmp_gt C (tgt := 13) dX8_isLord_6 (by decide) (fun c6_1 => ?_) (fun c6_1 => ?_)
    · replace h := el_t c6_1 h
      refine px_iconst C (v := (0 : Int32)) dX8_isLord_13 (by decide) ?_
      exact px_zretE C (Or.inl rfl) dX8_isLord_14 h
    · replace h := el_f c6_1 h
      refine px_iconst C (v := (1 : Int32)) dX8_isLord_9 (by decide) ?_
      refine px_goto C (tgt := 14) dX8_isLord_10 (by decide) ?_
      exact px_zretE C (Or.inr rfl) dX8_isLord_14 h
