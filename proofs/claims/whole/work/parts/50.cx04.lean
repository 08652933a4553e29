theorem lk_X8_findWay_38 : Cond.fieldLink RX8 38 "RiverTolls" "boat" "LRiverTolls$Boat;" ∈ wsX8_findWay := List.mem_of_getElem? (i := 2) rfl
theorem lk_X8_findWay_62 : Cond.fieldLink RX8 62 "RiverTolls" "route" "LRiverTolls$Route;" ∈ wsX8_findWay := List.mem_of_getElem? (i := 1) rfl
theorem iw_X8_findWay_X8 : ∀ w ∈ u_ws RX8 TX8 13, w ∈ wsX8_findWay := fun _ h9 => (List.mem_cons_of_mem _ (List.mem_append_left _ (List.mem_append_left _ (List.mem_append_left _ (List.mem_append_right _ h9)))))
set_option maxHeartbeats 4000000 in
set_option maxRecDepth 100000 in
theorem c_X8_findWay (l : Launch) (tA tB : Nat) (ad : Nat → Nat) (fu : Nat) (S : St) {S' : St} (h : m_X8_findWay fu S = some S') :
    XMet l yX8_findWay wsX8_findWay ({ frames := 5, cells := 0, slots := 0, locals := 110 }) KX (.object "RiverTolls$Boat") tA tB [.ref (ad 0)] ad S none S' := by
  refine XMet.of (cc := cX8_findWay) (maxL := 1) (ret := none) (own := RX8) (lv := [(0, .ref (ad 0))]) rfl (by decide) rfl (Nat.le_of_ble_eq_true rfl) rfl ?_
  intro p e s m args below meth c D A cI c1 F C
  rw [m_X8_findWay] at h
  refine px_aload_n C 0 dX8_findWay_0 rfl rfl ?_
  refine px_getr C (j := 8) kx_0 rfl rfl iw_X8_findWay_X8 (by decide) lk_X8_findWay_62 rfl dX8_findWay_1 ?_
  refine px_aload_n C 0 dX8_findWay_4 rfl rfl ?_
  refine px_getr C (j := 4) kx_0 rfl rfl iw_X8_findWay_X8 (by decide) lk_X8_findWay_38 rfl dX8_findWay_5 ?_
  obtain ⟨S2, hc8_0, h⟩ := el_b h
  refine px_callV0 C (c_X4_load l tA tB ad fu S hc8_0) (cwV 1 C.2.2.2.2.1 gX8_findWay_X4_load rfl rfl rfl (by decide +kernel) ⟨Nat.le_of_ble_eq_true rfl, Nat.le_of_ble_eq_true rfl⟩) ⟨Nat.zero_le _, Nat.zero_le _⟩ kx_51 rfl rfl rfl (Nat.le_of_ble_eq_true rfl) dX8_findWay_8 ?_
  refine px_aload_n C 0 dX8_findWay_11 rfl rfl ?_
  refine px_getr C (j := 8) kx_0 rfl rfl iw_X8_findWay_X8 (by decide) lk_X8_findWay_62 rfl dX8_findWay_12 ?_
  obtain ⟨S4, hc15_2, h⟩ := el_b h
  refine px_callV0 C (c_X4_solve l tA tB ad fu S2 hc15_2) (cwV 0 C.2.2.2.2.1 gX8_findWay_X4_solve rfl rfl rfl (by decide +kernel) ⟨Nat.le_of_ble_eq_true rfl, Nat.le_of_ble_eq_true rfl⟩) ⟨Nat.zero_le _, Nat.zero_le _⟩ kx_51 rfl rfl rfl (Nat.le_of_ble_eq_true rfl) dX8_findWay_15 ?_
  exact px_vretE C dX8_findWay_18 h
theorem lk_X8_byLord_32 : Cond.fieldLink RX8 32 "RiverTolls" "told" "LRiverTolls$River;" ∈ wsX8_byLord := List.mem_of_getElem? (i := 3) rfl
theorem lk_X8_byLord_38 : Cond.fieldLink RX8 38 "RiverTolls" "boat" "LRiverTolls$Boat;" ∈ wsX8_byLord := List.mem_of_getElem? (i := 1) rfl
theorem lk_X8_byLord_62 : Cond.fieldLink RX8 62 "RiverTolls" "route" "LRiverTolls$Route;" ∈ wsX8_byLord := List.mem_of_getElem? (i := 5) rfl
theorem lk_X8_byLord_127 : Cond.fieldLink RX8 127 "RiverTolls$Boat" "at" "I" ∈ wsX8_byLord := List.mem_of_getElem? (i := 2) rfl
theorem lk_X8_byLord_188 : Cond.fieldLink RX8 188 "RiverTolls$River" "rocks" "I" ∈ wsX8_byLord := List.mem_of_getElem? (i := 4) rfl
theorem lk_X8_byLord_206 : Cond.fieldLink RX8 206 "RiverTolls$Route" "paid" "[I" ∈ wsX8_byLord := List.mem_of_getElem? (i := 6) rfl
theorem iw_X8_byLord_X0 : ∀ w ∈ u_ws RX0 TX0 8, w ∈ wsX8_byLord := fun _ h9 => (List.mem_cons_of_mem _ (List.mem_append_left _ (List.mem_append_left _ (List.mem_append_right _ h9))))
theorem iw_X8_byLord_X3 : ∀ w ∈ u_ws RX3 TX3 5, w ∈ wsX8_byLord := fun _ h9 => (List.mem_cons_of_mem _ (List.mem_append_left _ (List.mem_append_right _ h9)))
theorem iw_X8_byLord_X4 : ∀ w ∈ u_ws RX4 TX4 14, w ∈ wsX8_byLord := fun _ h9 => (List.mem_cons_of_mem _ (List.mem_append_right _ h9))
theorem iw_X8_byLord_X8 : ∀ w ∈ u_ws RX8 TX8 13, w ∈ wsX8_byLord := fun _ h9 => (List.mem_cons_of_mem _ (List.mem_append_left _ (List.mem_append_left _ (List.mem_append_left _ (List.mem_append_right _ h9)))))
set_option maxHeartbeats 4000000 in
set_option maxRecDepth 100000 in
theorem c_X8_byLord (l : Launch) (tA tB : Nat) (ad : Nat → Nat) (fu : Nat) (S : St) (a1 : Int32) {rv : Int32} {S' : St} (h : m_X8_byLord fu S a1 = some (rv, S')) :
    XMet l yX8_byLord wsX8_byLord ({ frames := 6, cells := 0, slots := 0, locals := 130 }) KX (.object "RiverTolls$Boat") tA tB [.ref (ad 0), .int a1] ad S (some (.int rv)) S' := by
  refine XMet.of (cc := cX8_byLord) (maxL := 4) (ret := (some .int)) (own := RX8) (lv := [(0, .ref (ad 0)), (1, .int a1)]) rfl (by decide) rfl (Nat.le_of_ble_eq_true rfl) rfl ?_
  intro p e s m args below meth c D A cI c1 F C
  rw [m_X8_byLord] at h
  refine px_aload_n C 0 dX8_byLord_0 rfl rfl ?_
  refine px_iload_n C 1 dX8_byLord_1 rfl rfl ?_
  obtain ⟨x2, hc2_0, h⟩ := el_b h
  refine px_callV1 C (c_X8_isLord l tA tB ad S a1 hc2_0) (cwV 1 C.2.2.2.2.1 gX8_byLord_X8_isLord rfl rfl rfl (by decide +kernel) ⟨Nat.le_of_ble_eq_true rfl, Nat.le_of_ble_eq_true rfl⟩) ⟨Nat.zero_le _, Nat.zero_le _⟩ kx_0 rfl rfl rfl (Nat.le_of_ble_eq_true rfl) dX8_byLord_2 ?_
  refine px_if_ne C (tgt := 10) dX8_byLord_5 (by decide) (fun c5_2 => ?_) (fun c5_2 => ?_)
  · replace h := el_t c5_2 h
    refine px_aload_n C 0 dX8_byLord_10 rfl rfl ?_
    obtain ⟨S5, hc11_3, h⟩ := el_b h
    refine px_callV0 C (c_X8_findWay l tA tB ad fu S hc11_3) (cwV 0 C.2.2.2.2.1 gX8_byLord_X8_findWay rfl rfl rfl (by decide +kernel) ⟨Nat.le_of_ble_eq_true rfl, Nat.le_of_ble_eq_true rfl⟩) ⟨Nat.zero_le _, Nat.zero_le _⟩ kx_0 rfl rfl rfl (Nat.le_of_ble_eq_true rfl) dX8_byLord_11 ?_
    refine px_iconst C (v := (0 : Int32)) dX8_byLord_14 (by decide) ?_
    refine px_istore_n C [(2, .int (0 : Int32)), (0, .ref (ad 0)), (1, .int a1)] dX8_byLord_15 rfl (by decide) rfl ?_
    refine px_aload_n C 1 dX8_byLord_16 rfl rfl ?_
    refine px_getr C (j := 4) kx_0 rfl rfl iw_X8_byLord_X8 (by decide) lk_X8_byLord_38 rfl dX8_byLord_17 ?_
    refine px_geti C (j := 0) kx_8 rfl rfl iw_X8_byLord_X0 (by decide) lk_X8_byLord_127 rfl dX8_byLord_20 ?_
    refine px_istore_n C [(3, .int (S5.1 8 0)), (2, .int (0 : Int32)), (0, .ref (ad 0)), (1, .int a1)] dX8_byLord_23 rfl (by decide) rfl ?_
    have hx0 : ∀  (x8 : Int32) (x9 : Int32), m_X8_byLord_r0 S5 x8 x9 = some (rv, S') → PW p l e { frames := 6, cells := 0, slots := 0, locals := 130 } s m args below meth c (MQ below (QX KX A D cI c1 F ad (some (.int rv)) S') args s 0 0 A) D A cI c1 F KX ad 4 0 0 S5 [(0, .ref (ad 0)), (1, .int a1), (2, .int x8), (3, .int x9)] 68 [] := by
      intro x8 x9 h
      rw [m_X8_byLord_r0] at h
      refine px_iload_n C 2 dX8_byLord_68 rfl rfl ?_
      exact px_iretES C dX8_byLord_69 h
    have hl0 : ∀ (n_0 : Nat) (x6 : Int32) (x7 : Int32), m_X8_byLord_L0 a1 S5 (m_X8_byLord_r0 S5) n_0 x6 x7 = some (rv, S') → PW p l e { frames := 6, cells := 0, slots := 0, locals := 130 } s m args below meth c (MQ below (QX KX A D cI c1 F ad (some (.int rv)) S') args s 0 0 A) D A cI c1 F KX ad 4 0 0 S5 [(0, .ref (ad 0)), (1, .int a1), (2, .int x6), (3, .int x7)] 24 [] := by
      intro n_0
      induction n_0 with
      | zero =>
        intro x6 x7 h
        rw [m_X8_byLord_L0_z] at h
        cases h
      | succ n_0 ih0 =>
        intro x6 x7 h
        rw [m_X8_byLord_L0_s] at h
        refine px_iload_n C 3 dX8_byLord_24 rfl rfl ?_
        refine px_aload_n C 0 dX8_byLord_25 rfl rfl ?_
        refine px_getr C (j := 3) kx_0 rfl rfl iw_X8_byLord_X8 (by decide) lk_X8_byLord_32 rfl dX8_byLord_26 ?_
        refine px_geti C (j := 0) kx_6 rfl rfl iw_X8_byLord_X3 (by decide) lk_X8_byLord_188 rfl dX8_byLord_29 ?_
        refine px_icmp_ge C (tgt := 68) dX8_byLord_32 (by decide) (fun c32_9 => ?_) (fun c32_9 => ?_)
        · replace h := el_t c32_9 h
          exact (hx0 _ _ h)
        · replace h := el_f c32_9 h
          refine px_aload_n C 0 dX8_byLord_35 rfl rfl ?_
          refine px_getr C (j := 3) kx_0 rfl rfl iw_X8_byLord_X8 (by decide) lk_X8_byLord_32 rfl dX8_byLord_36 ?_
          refine px_iload_n C 3 dX8_byLord_39 rfl rfl ?_
          refine px_iconst C (v := (2 : Int32)) dX8_byLord_40 (by decide) ?_
          obtain ⟨x12, hc41_10, h⟩ := el_b h
          refine px_callV1 C (c_X3_fact l tA tB ad S5 x7 (2 : Int32) hc41_10) (cwV 2 C.2.2.2.2.1 gX8_byLord_X3_fact rfl rfl rfl (by decide +kernel) ⟨Nat.le_of_ble_eq_true rfl, Nat.le_of_ble_eq_true rfl⟩) ⟨Nat.zero_le _, Nat.zero_le _⟩ kx_6 rfl rfl rfl (Nat.le_of_ble_eq_true rfl) dX8_byLord_41 ?_
          refine px_iload_n C 1 dX8_byLord_44 rfl rfl ?_
          obtain ⟨x14, hr45_17, h⟩ := el_b h
          have hj45_14 : PW p l e { frames := 6, cells := 0, slots := 0, locals := 130 } s m args below meth c (MQ below (QX KX A D cI c1 F ad (some (.int rv)) S') args s 0 0 A) D A cI c1 F KX ad 4 0 0 S5 [(0, .ref (ad 0)), (1, .int a1), (2, .int x14), (3, .int x7)] 62 [] := by
            refine px_iinc C 3 [(3, .int (x7 + (1 : Int32))), (0, .ref (ad 0)), (1, .int a1), (2, .int x14)] dX8_byLord_62 rfl rfl (by decide) rfl ?_
            refine px_goto C (tgt := 24) dX8_byLord_65 (by decide) ?_
            exact px_sub [1, 2, 3, 0] rfl (ih0 _ _ h)
          clear h
          have h := hr45_17
          clear hr45_17
          refine px_icmp_ne C (tgt := 62) dX8_byLord_45 (by decide) (fun c45_12 => ?_) (fun c45_12 => ?_)
          · replace h := el_t c45_12 h
            cases h
            exact hj45_14
          · replace h := el_fn c45_12 h
            refine px_iload_n C 2 dX8_byLord_48 rfl rfl ?_
            refine px_aload_n C 0 dX8_byLord_49 rfl rfl ?_
            refine px_getr C (j := 8) kx_0 rfl rfl iw_X8_byLord_X8 (by decide) lk_X8_byLord_62 rfl dX8_byLord_50 ?_
            refine px_getr C (j := 4) kx_51 rfl rfl iw_X8_byLord_X4 (by decide) lk_X8_byLord_206 rfl dX8_byLord_53 ?_
            refine px_iload_n C 3 dX8_byLord_56 rfl rfl ?_
            obtain ⟨x17, hc57_15, h⟩ := el_b h
            refine px_callS1 C (c_X5_get l tA tB ad S5 53 8 x7 kx_53 hc57_15) (va_cwS 2 C.2.2.2.2.1 gX8_byLord_X5_get rfl rfl rfl (by decide +kernel) ⟨Nat.le_of_ble_eq_true rfl, Nat.le_of_ble_eq_true rfl⟩) ⟨Nat.zero_le _, Nat.zero_le _⟩ rfl rfl (Nat.le_of_ble_eq_true rfl) dX8_byLord_57 ?_
            refine px_iadd C dX8_byLord_60 ?_
            refine px_istore_n C [(2, .int (x6 + x17)), (0, .ref (ad 0)), (1, .int a1), (3, .int x7)] dX8_byLord_61 rfl (by decide) rfl ?_
            cases h
            exact px_sub [1, 2, 0, 3] rfl hj45_14
    exact px_sub [2, 3, 1, 0] rfl (hl0 _ _ _ h)
  · replace h := el_fn c5_2 h
    refine px_iconst C (v := (-1 : Int32)) dX8_byLord_8 (by decide) ?_
    exact px_iretES C dX8_byLord_9 h
theorem lk_X8_priceOf_32 : Cond.fieldLink RX8 32 "RiverTolls" "told" "LRiverTolls$River;" ∈ wsX8_priceOf := List.mem_of_getElem? (i := 2) rfl
theorem lk_X8_priceOf_38 : Cond.fieldLink RX8 38 "RiverTolls" "boat" "LRiverTolls$Boat;" ∈ wsX8_priceOf := List.mem_of_getElem? (i := 1) rfl
theorem iw_X8_priceOf_X8 : ∀ w ∈ u_ws RX8 TX8 13, w ∈ wsX8_priceOf := fun _ h9 => (List.mem_cons_of_mem _ (List.mem_append_left _ (List.mem_append_left _ (List.mem_append_right _ h9))))
set_option maxHeartbeats 4000000 in
set_option maxRecDepth 100000 in
theorem c_X8_priceOf (l : Launch) (tA tB : Nat) (ad : Nat → Nat) (S : St) (a1 : Int32) (a2 : Int32) {rv : Int32} (h : m_X8_priceOf S a1 a2 = some rv) :
    XMet l yX8_priceOf wsX8_priceOf ({ frames := 3, cells := 0, slots := 0, locals := 66 }) KX (.object "RiverTolls$Boat") tA tB [.ref (ad 0), .int a1, .int a2] ad S (some (.int rv)) S := by
  refine XMet.of (cc := cX8_priceOf) (maxL := 3) (ret := (some .int)) (own := RX8) (lv := [(0, .ref (ad 0)), (1, .int a1), (2, .int a2)]) rfl (by decide) rfl (Nat.le_of_ble_eq_true rfl) rfl ?_
  intro p e s m args below meth c D A cI c1 F C
  rw [m_X8_priceOf] at h
  refine px_aload_n C 0 dX8_priceOf_0 rfl rfl ?_
  refine px_getr C (j := 4) kx_0 rfl rfl iw_X8_priceOf_X8 (by decide) lk_X8_priceOf_38 rfl dX8_priceOf_1 ?_
  refine px_iload_n C 1 dX8_priceOf_4 rfl rfl ?_
  obtain ⟨x2, hc5_0, h⟩ := el_b h
  refine px_callV1 C (c_X0_isBroken l tA tB ad S a1 hc5_0) (cwV 1 C.2.2.2.2.1 gX8_priceOf_X0_isBroken rfl rfl rfl (by decide +kernel) ⟨Nat.le_of_ble_eq_true rfl, Nat.le_of_ble_eq_true rfl⟩) ⟨Nat.zero_le _, Nat.zero_le _⟩ kx_8 rfl rfl rfl (Nat.le_of_ble_eq_true rfl) dX8_priceOf_5 ?_
  refine px_if_eq C (tgt := 15) dX8_priceOf_8 (by decide) (fun c8_2 => ?_) (fun c8_2 => ?_)
  · replace h := el_t c8_2 h
    refine px_aload_n C 0 dX8_priceOf_15 rfl rfl ?_
    refine px_getr C (j := 3) kx_0 rfl rfl iw_X8_priceOf_X8 (by decide) lk_X8_priceOf_32 rfl dX8_priceOf_16 ?_
    refine px_iload_n C 1 dX8_priceOf_19 rfl rfl ?_
    refine px_aload_n C 0 dX8_priceOf_20 rfl rfl ?_
    refine px_getr C (j := 4) kx_0 rfl rfl iw_X8_priceOf_X8 (by decide) lk_X8_priceOf_38 rfl dX8_priceOf_21 ?_
    refine px_iload_n C 1 dX8_priceOf_24 rfl rfl ?_
    obtain ⟨x5, hc25_3, h⟩ := el_b h
    refine px_callV1 C (c_X0_tollOf l tA tB ad S a1 hc25_3) (cwV 1 C.2.2.2.2.1 gX8_priceOf_X0_tollOf rfl rfl rfl (by decide +kernel) ⟨Nat.le_of_ble_eq_true rfl, Nat.le_of_ble_eq_true rfl⟩) ⟨Nat.zero_le _, Nat.zero_le _⟩ kx_8 rfl rfl rfl (Nat.le_of_ble_eq_true rfl) dX8_priceOf_25 ?_
    refine px_iload_n C 2 dX8_priceOf_28 rfl rfl ?_
    obtain ⟨x7, hc29_5, h⟩ := el_b h
    refine px_callV1 C (c_X3_price l tA tB ad S a1 x5 a2 hc29_5) (cwV 3 C.2.2.2.2.1 gX8_priceOf_X3_price rfl rfl rfl (by decide +kernel) ⟨Nat.le_of_ble_eq_true rfl, Nat.le_of_ble_eq_true rfl⟩) ⟨Nat.zero_le _, Nat.zero_le _⟩ kx_6 rfl rfl rfl (Nat.le_of_ble_eq_true rfl) dX8_priceOf_29 ?_
    exact px_iretE C dX8_priceOf_32 h
  · replace h := el_f c8_2 h
    refine px_iconst C (v := (0 : Int32)) dX8_priceOf_11 (by decide) ?_
    refine px_goto C (tgt := 32) dX8_priceOf_12 (by decide) ?_
    exact px_iretE C dX8_priceOf_32 h
set_option maxHeartbeats 4000000 in
set_option maxRecDepth 100000 in
theorem c_X8_cheap (l : Launch) (tA tB : Nat) (ad : Nat → Nat) (fu : Nat) (S : St) (a1 : Int32) (a2 : Int32) {rv : Int32} (h : m_X8_cheap fu S a1 a2 = some rv) :
    XMet l yX8_cheap wsX8_cheap ({ frames := 4, cells := 0, slots := 0, locals := 88 }) KX (.object "RiverTolls$Boat") tA tB [.ref (ad 0), .int a1, .int a2] ad S (some (.int rv)) S := by
  refine XMet.of (cc := cX8_cheap) (maxL := 5) (ret := (some .int)) (own := RX8) (lv := [(0, .ref (ad 0)), (1, .int a1), (2, .int a2)]) rfl (by decide) rfl (Nat.le_of_ble_eq_true rfl) rfl ?_
  intro p e s m args below meth c D A cI c1 F C
  rw [m_X8_cheap] at h
  refine px_aload_n C 0 dX8_cheap_0 rfl rfl ?_
  refine px_iload_n C 1 dX8_cheap_1 rfl rfl ?_
  obtain ⟨x2, hc2_0, h⟩ := el_b h
  refine px_callV1 C (c_X8_isRock l tA tB ad S a1 hc2_0) (cwV 1 C.2.2.2.2.1 gX8_cheap_X8_isRock rfl rfl rfl (by decide +kernel) ⟨Nat.le_of_ble_eq_true rfl, Nat.le_of_ble_eq_true rfl⟩) ⟨Nat.zero_le _, Nat.zero_le _⟩ kx_0 rfl rfl rfl (Nat.le_of_ble_eq_true rfl) dX8_cheap_2 ?_
  refine px_if_eq C (tgt := 17) dX8_cheap_5 (by decide) (fun c5_2 => ?_) (fun c5_2 => ?_)
  · replace h := el_t c5_2 h
    refine px_iconst C (v := (-1 : Int32)) dX8_cheap_17 (by decide) ?_
    exact px_iretE C dX8_cheap_18 h
  · replace h := el_f c5_2 h
    refine px_iload_n C 2 dX8_cheap_8 rfl rfl ?_
    refine px_if_lt C (tgt := 17) dX8_cheap_9 (by decide) (fun c9_3 => ?_) (fun c9_3 => ?_)
    · replace h := el_t c9_3 h
      refine px_iconst C (v := (-1 : Int32)) dX8_cheap_17 (by decide) ?_
      exact px_iretE C dX8_cheap_18 h
    · replace h := el_f c9_3 h
      refine px_iload_n C 2 dX8_cheap_12 rfl rfl ?_
      refine px_iconst C (v := (2 : Int32)) dX8_cheap_13 (by decide) ?_
      refine px_icmp_le C (tgt := 19) dX8_cheap_14 (by decide) (fun c14_4 => ?_) (fun c14_4 => ?_)
      · replace h := el_t c14_4 h
        refine px_iconst C (v := (1 : Int32)) dX8_cheap_19 (by decide) ?_
        refine px_istore_n C [(3, .int (1 : Int32)), (0, .ref (ad 0)), (1, .int a1), (2, .int a2)] dX8_cheap_20 rfl (by decide) rfl ?_
        refine px_iconst C (v := (2 : Int32)) dX8_cheap_21 (by decide) ?_
        refine px_istore C [(4, .int (2 : Int32)), (3, .int (1 : Int32)), (0, .ref (ad 0)), (1, .int a1), (2, .int a2)] dX8_cheap_22 (by decide) rfl ?_
        have hx0 : ∀  (x8 : Int32) (x9 : Int32), m_X8_cheap_r0 fu a1 a2 S x8 x9 = some rv → PW p l e { frames := 4, cells := 0, slots := 0, locals := 88 } s m args below meth c (MQ below (QX KX A D cI c1 F ad (some (.int rv)) S) args s 0 0 A) D A cI c1 F KX ad 5 0 0 S [(0, .ref (ad 0)), (1, .int a1), (2, .int a2), (3, .int x8), (4, .int x9)] 61 [] := by
          intro x8 x9 h
          rw [m_X8_cheap_r0] at h
          refine px_iload_n C 2 dX8_cheap_61 rfl rfl ?_
          refine px_if_ne C (tgt := 67) dX8_cheap_62 (by decide) (fun c62_9 => ?_) (fun c62_9 => ?_)
          · replace h := el_t c62_9 h
            refine px_aload_n C 0 dX8_cheap_67 rfl rfl ?_
            refine px_iload_n C 1 dX8_cheap_68 rfl rfl ?_
            refine px_iload_n C 3 dX8_cheap_69 rfl rfl ?_
            obtain ⟨x12, hc70_10, h⟩ := el_b h
            refine px_callV1 C (c_X8_priceOf l tA tB ad S a1 x8 hc70_10) (cwV 2 C.2.2.2.2.1 gX8_cheap_X8_priceOf rfl rfl rfl (by decide +kernel) ⟨Nat.le_of_ble_eq_true rfl, Nat.le_of_ble_eq_true rfl⟩) ⟨Nat.zero_le _, Nat.zero_le _⟩ kx_0 rfl rfl rfl (Nat.le_of_ble_eq_true rfl) dX8_cheap_70 ?_
            refine px_istore C [(4, .int x12), (0, .ref (ad 0)), (1, .int a1), (2, .int a2), (3, .int x8)] dX8_cheap_73 (by decide) rfl ?_
            refine px_iload_n C 3 dX8_cheap_75 rfl rfl ?_
            refine px_iconst C (v := (1 : Int32)) dX8_cheap_76 (by decide) ?_
            refine px_icmp_ne C (tgt := 89) dX8_cheap_77 (by decide) (fun c77_12 => ?_) (fun c77_12 => ?_)
            · replace h := el_t c77_12 h
              refine px_iload_n C 4 dX8_cheap_89 rfl rfl ?_
              refine px_iload C 0 dX8_cheap_90 rfl ?_
              obtain ⟨x15, hc92_13, h⟩ := el_b h
              refine px_callS1 C (c_X6_inLeastTerms l tA tB ad fu S x8 x12 hc92_13) (va_cwS 2 C.2.2.2.2.1 gX8_cheap_X6_inLeastTerms rfl rfl rfl (by decide +kernel) ⟨Nat.le_of_ble_eq_true rfl, Nat.le_of_ble_eq_true rfl⟩) ⟨Nat.zero_le _, Nat.zero_le _⟩ rfl rfl (Nat.le_of_ble_eq_true rfl) dX8_cheap_92 ?_
              exact px_iretE C dX8_cheap_95 h
            · replace h := el_fn c77_12 h
              refine px_iload C 0 dX8_cheap_80 rfl ?_
              refine px_iload_n C 4 dX8_cheap_82 rfl rfl ?_
              obtain ⟨x17, hc83_15, h⟩ := el_b h
              refine px_callS1 C (c_X6_inLeastTerms l tA tB ad fu S x12 x8 hc83_15) (va_cwS 2 C.2.2.2.2.1 gX8_cheap_X6_inLeastTerms rfl rfl rfl (by decide +kernel) ⟨Nat.le_of_ble_eq_true rfl, Nat.le_of_ble_eq_true rfl⟩) ⟨Nat.zero_le _, Nat.zero_le _⟩ rfl rfl (Nat.le_of_ble_eq_true rfl) dX8_cheap_83 ?_
              refine px_goto C (tgt := 95) dX8_cheap_86 (by decide) ?_
              exact px_iretE C dX8_cheap_95 h
          · replace h := el_fn c62_9 h
            refine px_iload_n C 3 dX8_cheap_65 rfl rfl ?_
            exact px_iretE C dX8_cheap_66 h
        have hl0 : ∀ (n_0 : Nat) (x6 : Int32) (x7 : Int32), m_X8_cheap_L0 a1 S (m_X8_cheap_r0 fu a1 a2 S) n_0 x6 x7 = some rv → PW p l e { frames := 4, cells := 0, slots := 0, locals := 88 } s m args below meth c (MQ below (QX KX A D cI c1 F ad (some (.int rv)) S) args s 0 0 A) D A cI c1 F KX ad 5 0 0 S [(0, .ref (ad 0)), (1, .int a1), (2, .int a2), (3, .int x6), (4, .int x7)] 24 [] := by
          intro n_0
          induction n_0 with
          | zero =>
            intro x6 x7 h
            rw [m_X8_cheap_L0_z] at h
            cases h
          | succ n_0 ih0 =>
            intro x6 x7 h
            rw [m_X8_cheap_L0_s] at h
            refine px_iload C 4 dX8_cheap_24 rfl ?_
            refine px_bipush C (v := (30 : Int32)) dX8_cheap_26 (by decide) ?_
            refine px_icmp_gt C (tgt := 61) dX8_cheap_28 (by decide) (fun c28_17 => ?_) (fun c28_17 => ?_)
            · replace h := el_t c28_17 h
              exact (hx0 _ _ h)
            · replace h := el_f c28_17 h
              refine px_aload_n C 0 dX8_cheap_31 rfl rfl ?_
              refine px_iload_n C 1 dX8_cheap_32 rfl rfl ?_
              refine px_iload C 4 dX8_cheap_33 rfl ?_
              obtain ⟨x20, hc35_18, h⟩ := el_b h
              refine px_callV1 C (c_X8_priceOf l tA tB ad S a1 x7 hc35_18) (cwV 2 C.2.2.2.2.1 gX8_cheap_X8_priceOf rfl rfl rfl (by decide +kernel) ⟨Nat.le_of_ble_eq_true rfl, Nat.le_of_ble_eq_true rfl⟩) ⟨Nat.zero_le _, Nat.zero_le _⟩ kx_0 rfl rfl rfl (Nat.le_of_ble_eq_true rfl) dX8_cheap_35 ?_
              refine px_iload_n C 3 dX8_cheap_38 rfl rfl ?_
              refine px_imul C dX8_cheap_39 ?_
              refine px_aload_n C 0 dX8_cheap_40 rfl rfl ?_
              refine px_iload_n C 1 dX8_cheap_41 rfl rfl ?_
              refine px_iload_n C 3 dX8_cheap_42 rfl rfl ?_
              obtain ⟨x22, hc43_20, h⟩ := el_b h
              refine px_callV1 C (c_X8_priceOf l tA tB ad S a1 x6 hc43_20) (cwV 2 C.2.2.2.2.1 gX8_cheap_X8_priceOf rfl rfl rfl (by decide +kernel) ⟨Nat.le_of_ble_eq_true rfl, Nat.le_of_ble_eq_true rfl⟩) ⟨Nat.zero_le _, Nat.zero_le _⟩ kx_0 rfl rfl rfl (Nat.le_of_ble_eq_true rfl) dX8_cheap_43 ?_
              refine px_iload C 4 dX8_cheap_46 rfl ?_
              refine px_imul C dX8_cheap_48 ?_
              obtain ⟨x24, hr49_25, h⟩ := el_b h
              have hj49_24 : PW p l e { frames := 4, cells := 0, slots := 0, locals := 88 } s m args below meth c (MQ below (QX KX A D cI c1 F ad (some (.int rv)) S) args s 0 0 A) D A cI c1 F KX ad 5 0 0 S [(0, .ref (ad 0)), (1, .int a1), (2, .int a2), (3, .int x24), (4, .int x7)] 55 [] := by
                refine px_iinc C 4 [(4, .int (x7 + (1 : Int32))), (0, .ref (ad 0)), (1, .int a1), (2, .int a2), (3, .int x24)] dX8_cheap_55 rfl rfl (by decide) rfl ?_
                refine px_goto C (tgt := 24) dX8_cheap_58 (by decide) ?_
                exact px_sub [1, 2, 3, 4, 0] rfl (ih0 _ _ h)
              clear h
              have h := hr49_25
              clear hr49_25
              refine px_icmp_ge C (tgt := 55) dX8_cheap_49 (by decide) (fun c49_22 => ?_) (fun c49_22 => ?_)
              · replace h := el_t c49_22 h
                cases h
                exact hj49_24
              · replace h := el_f c49_22 h
                refine px_iload C 4 dX8_cheap_52 rfl ?_
                refine px_istore_n C [(3, .int x7), (0, .ref (ad 0)), (1, .int a1), (2, .int a2), (4, .int x7)] dX8_cheap_54 rfl (by decide) rfl ?_
                cases h
                exact px_sub [1, 2, 3, 0, 4] rfl hj49_24
        exact px_sub [2, 3, 4, 1, 0] rfl (hl0 _ _ _ h)
      · replace h := el_f c14_4 h
        refine px_iconst C (v := (-1 : Int32)) dX8_cheap_17 (by decide) ?_
        exact px_iretE C dX8_cheap_18 h
theorem lk_X8_clear_10 : Cond.fieldLink RX8 10 "RiverTolls" "text" "LRiverTolls$Text;" ∈ wsX8_clear := List.mem_of_getElem? (i := 1) rfl
theorem lk_X8_clear_83 : Cond.fieldLink RX8 83 "RiverTolls$Text" "length" "I" ∈ wsX8_clear := List.mem_of_getElem? (i := 2) rfl
theorem iw_X8_clear_X7 : ∀ w ∈ u_ws RX7 TX7 2, w ∈ wsX8_clear := fun _ h9 => (List.mem_cons_of_mem _ (List.mem_append_right _ h9))
theorem iw_X8_clear_X8 : ∀ w ∈ u_ws RX8 TX8 13, w ∈ wsX8_clear := fun _ h9 => (List.mem_cons_of_mem _ (List.mem_append_left _ (List.mem_append_right _ h9)))
set_option maxHeartbeats 4000000 in
set_option maxRecDepth 100000 in
theorem c_X8_clear (l : Launch) (tA tB : Nat) (ad : Nat → Nat) (S : St) {rv : Int32} {S' : St} (h : m_X8_clear S = some (rv, S')) :
    XMet l yX8_clear wsX8_clear ({ frames := 0, cells := 0, slots := 0, locals := 0 }) KX (.object "RiverTolls$Boat") tA tB [.ref (ad 0)] ad S (some (.int rv)) S' := by
  refine XMet.of (cc := cX8_clear) (maxL := 2) (ret := (some .int)) (own := RX8) (lv := [(0, .ref (ad 0))]) rfl (by decide) rfl (Nat.le_of_ble_eq_true rfl) rfl ?_
  intro p e s m args below meth c D A cI c1 F C
  rw [m_X8_clear] at h
  refine px_aload_n C 0 dX8_clear_0 rfl rfl ?_
  refine px_getr C (j := 0) kx_0 rfl rfl iw_X8_clear_X8 (by decide) lk_X8_clear_10 rfl dX8_clear_1 ?_
  refine px_geti C (j := 0) kx_1 rfl rfl iw_X8_clear_X7 (by decide) lk_X8_clear_83 rfl dX8_clear_4 ?_
  refine px_istore_n C [(1, .int (S.1 1 0)), (0, .ref (ad 0))] dX8_clear_7 rfl (by decide) rfl ?_
  refine px_aload_n C 1 dX8_clear_8 rfl rfl ?_
  refine px_getr C (j := 0) kx_0 rfl rfl iw_X8_clear_X8 (by decide) lk_X8_clear_10 rfl dX8_clear_9 ?_
  refine px_iconst C (v := (0 : Int32)) dX8_clear_12 (by decide) ?_
  obtain ⟨S1, eS1, h⟩ := el_lt h
  refine px_puti C (ty := .int) (j := 0) kx_1 rfl rfl iw_X8_clear_X7 (by decide) lk_X8_clear_83 rfl tyX7 tyX7_ok nmX7 rfl (by decide +kernel) rfl rfl dX8_clear_13 ?_
  refine px_nmS eS1 ?_
  refine px_iload_n C 0 dX8_clear_16 rfl rfl ?_
  exact px_iretES C dX8_clear_17 h
theorem lk_X8_costIfBroken_38 : Cond.fieldLink RX8 38 "RiverTolls" "boat" "LRiverTolls$Boat;" ∈ wsX8_costIfBroken := List.mem_of_getElem? (i := 2) rfl
theorem lk_X8_costIfBroken_62 : Cond.fieldLink RX8 62 "RiverTolls" "route" "LRiverTolls$Route;" ∈ wsX8_costIfBroken := List.mem_of_getElem? (i := 1) rfl
theorem lk_X8_costIfBroken_194 : Cond.fieldLink RX8 194 "RiverTolls$Route" "total" "I" ∈ wsX8_costIfBroken := List.mem_of_getElem? (i := 4) rfl
theorem lk_X8_costIfBroken_269 : Cond.fieldLink RX8 269 "RiverTolls$Route" "broken" "I" ∈ wsX8_costIfBroken := List.mem_of_getElem? (i := 3) rfl
theorem iw_X8_costIfBroken_X4 : ∀ w ∈ u_ws RX4 TX4 14, w ∈ wsX8_costIfBroken := fun _ h9 => (List.mem_cons_of_mem _ (List.mem_append_left _ (List.mem_append_left _ (List.mem_append_right _ h9))))
theorem iw_X8_costIfBroken_X8 : ∀ w ∈ u_ws RX8 TX8 13, w ∈ wsX8_costIfBroken := fun _ h9 => (List.mem_cons_of_mem _ (List.mem_append_left _ (List.mem_append_left _ (List.mem_append_left _ (List.mem_append_right _ h9)))))
set_option maxHeartbeats 4000000 in
set_option maxRecDepth 100000 in
theorem c_X8_costIfBroken (l : Launch) (tA tB : Nat) (ad : Nat → Nat) (fu : Nat) (S : St) (a1 : Int32) {rv : Int32} {S' : St} (h : m_X8_costIfBroken fu S a1 = some (rv, S')) :
    XMet l yX8_costIfBroken wsX8_costIfBroken ({ frames := 5, cells := 0, slots := 0, locals := 110 }) KX (.object "RiverTolls$Boat") tA tB [.ref (ad 0), .int a1] ad S (some (.int rv)) S' := by
  refine XMet.of (cc := cX8_costIfBroken) (maxL := 2) (ret := (some .int)) (own := RX8) (lv := [(0, .ref (ad 0)), (1, .int a1)]) rfl (by decide) rfl (Nat.le_of_ble_eq_true rfl) rfl ?_
  intro p e s m args below meth c D A cI c1 F C
  rw [m_X8_costIfBroken] at h
  refine px_aload_n C 0 dX8_costIfBroken_0 rfl rfl ?_
  refine px_getr C (j := 8) kx_0 rfl rfl iw_X8_costIfBroken_X8 (by decide) lk_X8_costIfBroken_62 rfl dX8_costIfBroken_1 ?_
  refine px_aload_n C 0 dX8_costIfBroken_4 rfl rfl ?_
  refine px_getr C (j := 4) kx_0 rfl rfl iw_X8_costIfBroken_X8 (by decide) lk_X8_costIfBroken_38 rfl dX8_costIfBroken_5 ?_
  obtain ⟨S2, hc8_0, h⟩ := el_b h
  refine px_callV0 C (c_X4_load l tA tB ad fu S hc8_0) (cwV 1 C.2.2.2.2.1 gX8_costIfBroken_X4_load rfl rfl rfl (by decide +kernel) ⟨Nat.le_of_ble_eq_true rfl, Nat.le_of_ble_eq_true rfl⟩) ⟨Nat.zero_le _, Nat.zero_le _⟩ kx_51 rfl rfl rfl (Nat.le_of_ble_eq_true rfl) dX8_costIfBroken_8 ?_
  refine px_aload_n C 0 dX8_costIfBroken_11 rfl rfl ?_
  refine px_getr C (j := 8) kx_0 rfl rfl iw_X8_costIfBroken_X8 (by decide) lk_X8_costIfBroken_62 rfl dX8_costIfBroken_12 ?_
  refine px_dup C dX8_costIfBroken_15 rfl ?_
  refine px_geti C (j := 1) kx_51 rfl rfl iw_X8_costIfBroken_X4 (by decide) lk_X8_costIfBroken_269 rfl dX8_costIfBroken_16 ?_
  refine px_iload_n C 1 dX8_costIfBroken_19 rfl rfl ?_
  refine px_ior C dX8_costIfBroken_20 ?_
  obtain ⟨S3, eS3, h⟩ := el_lt h
  refine px_puti C (ty := .int) (j := 1) kx_51 rfl rfl iw_X8_costIfBroken_X4 (by decide) lk_X8_costIfBroken_269 rfl tyX4 tyX4_ok nmX4 rfl (by decide +kernel) rfl rfl dX8_costIfBroken_21 ?_
  refine px_nmS eS3 ?_
  refine px_aload_n C 0 dX8_costIfBroken_24 rfl rfl ?_
  refine px_getr C (j := 8) kx_0 rfl rfl iw_X8_costIfBroken_X8 (by decide) lk_X8_costIfBroken_62 rfl dX8_costIfBroken_25 ?_
  obtain ⟨S5, hc28_3, h⟩ := el_b h
  refine px_callV0 C (c_X4_solve l tA tB ad fu S3 hc28_3) (cwV 0 C.2.2.2.2.1 gX8_costIfBroken_X4_solve rfl rfl rfl (by decide +kernel) ⟨Nat.le_of_ble_eq_true rfl, Nat.le_of_ble_eq_true rfl⟩) ⟨Nat.zero_le _, Nat.zero_le _⟩ kx_51 rfl rfl rfl (Nat.le_of_ble_eq_true rfl) dX8_costIfBroken_28 ?_
  refine px_aload_n C 0 dX8_costIfBroken_31 rfl rfl ?_
  refine px_getr C (j := 8) kx_0 rfl rfl iw_X8_costIfBroken_X8 (by decide) lk_X8_costIfBroken_62 rfl dX8_costIfBroken_32 ?_
  refine px_geti C (j := 2) kx_51 rfl rfl iw_X8_costIfBroken_X4 (by decide) lk_X8_costIfBroken_194 rfl dX8_costIfBroken_35 ?_
  exact px_iretES C dX8_costIfBroken_38 h
theorem lk_X8_costOf_38 : Cond.fieldLink RX8 38 "RiverTolls" "boat" "LRiverTolls$Boat;" ∈ wsX8_costOf := List.mem_of_getElem? (i := 2) rfl
theorem lk_X8_costOf_62 : Cond.fieldLink RX8 62 "RiverTolls" "route" "LRiverTolls$Route;" ∈ wsX8_costOf := List.mem_of_getElem? (i := 1) rfl
theorem lk_X8_costOf_194 : Cond.fieldLink RX8 194 "RiverTolls$Route" "total" "I" ∈ wsX8_costOf := List.mem_of_getElem? (i := 4) rfl
theorem lk_X8_costOf_271 : Cond.fieldLink RX8 271 "RiverTolls$Route" "barrels" "I" ∈ wsX8_costOf := List.mem_of_getElem? (i := 3) rfl
theorem iw_X8_costOf_X4 : ∀ w ∈ u_ws RX4 TX4 14, w ∈ wsX8_costOf := fun _ h9 => (List.mem_cons_of_mem _ (List.mem_append_left _ (List.mem_append_left _ (List.mem_append_right _ h9))))
theorem iw_X8_costOf_X8 : ∀ w ∈ u_ws RX8 TX8 13, w ∈ wsX8_costOf := fun _ h9 => (List.mem_cons_of_mem _ (List.mem_append_left _ (List.mem_append_left _ (List.mem_append_left _ (List.mem_append_right _ h9)))))
set_option maxHeartbeats 4000000 in
set_option maxRecDepth 100000 in
theorem c_X8_costOf (l : Launch) (tA tB : Nat) (ad : Nat → Nat) (fu : Nat) (S : St) (a1 : Int32) {rv : Int32} {S' : St} (h : m_X8_costOf fu S a1 = some (rv, S')) :
    XMet l yX8_costOf wsX8_costOf ({ frames := 5, cells := 0, slots := 0, locals := 110 }) KX (.object "RiverTolls$Boat") tA tB [.ref (ad 0), .int a1] ad S (some (.int rv)) S' := by
  refine XMet.of (cc := cX8_costOf) (maxL := 2) (ret := (some .int)) (own := RX8) (lv := [(0, .ref (ad 0)), (1, .int a1)]) rfl (by decide) rfl (Nat.le_of_ble_eq_true rfl) rfl ?_
  intro p e s m args below meth c D A cI c1 F C
  rw [m_X8_costOf] at h
  refine px_aload_n C 0 dX8_costOf_0 rfl rfl ?_
  refine px_getr C (j := 8) kx_0 rfl rfl iw_X8_costOf_X8 (by decide) lk_X8_costOf_62 rfl dX8_costOf_1 ?_
  refine px_aload_n C 0 dX8_costOf_4 rfl rfl ?_
  refine px_getr C (j := 4) kx_0 rfl rfl iw_X8_costOf_X8 (by decide) lk_X8_costOf_38 rfl dX8_costOf_5 ?_
  obtain ⟨S2, hc8_0, h⟩ := el_b h
  refine px_callV0 C (c_X4_load l tA tB ad fu S hc8_0) (cwV 1 C.2.2.2.2.1 gX8_costOf_X4_load rfl rfl rfl (by decide +kernel) ⟨Nat.le_of_ble_eq_true rfl, Nat.le_of_ble_eq_true rfl⟩) ⟨Nat.zero_le _, Nat.zero_le _⟩ kx_51 rfl rfl rfl (Nat.le_of_ble_eq_true rfl) dX8_costOf_8 ?_
  refine px_aload_n C 0 dX8_costOf_11 rfl rfl ?_
  refine px_getr C (j := 8) kx_0 rfl rfl iw_X8_costOf_X8 (by decide) lk_X8_costOf_62 rfl dX8_costOf_12 ?_
  refine px_iload_n C 1 dX8_costOf_15 rfl rfl ?_
  obtain ⟨S3, eS3, h⟩ := el_lt h
  refine px_puti C (ty := .int) (j := 0) kx_51 rfl rfl iw_X8_costOf_X4 (by decide) lk_X8_costOf_271 rfl tyX4 tyX4_ok nmX4 rfl (by decide +kernel) rfl rfl dX8_costOf_16 ?_
  refine px_nmS eS3 ?_
  refine px_aload_n C 0 dX8_costOf_19 rfl rfl ?_
  refine px_getr C (j := 8) kx_0 rfl rfl iw_X8_costOf_X8 (by decide) lk_X8_costOf_62 rfl dX8_costOf_20 ?_
  obtain ⟨S5, hc23_3, h⟩ := el_b h
  refine px_callV0 C (c_X4_solve l tA tB ad fu S3 hc23_3) (cwV 0 C.2.2.2.2.1 gX8_costOf_X4_solve rfl rfl rfl (by decide +kernel) ⟨Nat.le_of_ble_eq_true rfl, Nat.le_of_ble_eq_true rfl⟩) ⟨Nat.zero_le _, Nat.zero_le _⟩ kx_51 rfl rfl rfl (Nat.le_of_ble_eq_true rfl) dX8_costOf_23 ?_
  refine px_aload_n C 0 dX8_costOf_26 rfl rfl ?_
  refine px_getr C (j := 8) kx_0 rfl rfl iw_X8_costOf_X8 (by decide) lk_X8_costOf_62 rfl dX8_costOf_27 ?_
  refine px_geti C (j := 2) kx_51 rfl rfl iw_X8_costOf_X4 (by decide) lk_X8_costOf_194 rfl dX8_costOf_30 ?_
  exact px_iretES C dX8_costOf_33 h
theorem lk_X8_count_10 : Cond.fieldLink RX8 10 "RiverTolls" "text" "LRiverTolls$Text;" ∈ wsX8_count := List.mem_of_getElem? (i := 4) rfl
theorem lk_X8_count_32 : Cond.fieldLink RX8 32 "RiverTolls" "told" "LRiverTolls$River;" ∈ wsX8_count := List.mem_of_getElem? (i := 1) rfl
theorem lk_X8_count_72 : Cond.fieldLink RX8 72 "RiverTolls" "leftCount" "I" ∈ wsX8_count := List.mem_of_getElem? (i := 3) rfl
theorem lk_X8_count_83 : Cond.fieldLink RX8 83 "RiverTolls$Text" "length" "I" ∈ wsX8_count := List.mem_of_getElem? (i := 5) rfl
theorem lk_X8_count_188 : Cond.fieldLink RX8 188 "RiverTolls$River" "rocks" "I" ∈ wsX8_count := List.mem_of_getElem? (i := 2) rfl
theorem iw_X8_count_X3 : ∀ w ∈ u_ws RX3 TX3 5, w ∈ wsX8_count := fun _ h9 => (List.mem_cons_of_mem _ (List.mem_append_left _ (List.mem_append_right _ h9)))
theorem iw_X8_count_X7 : ∀ w ∈ u_ws RX7 TX7 2, w ∈ wsX8_count := fun _ h9 => (List.mem_cons_of_mem _ (List.mem_append_right _ h9))
theorem iw_X8_count_X8 : ∀ w ∈ u_ws RX8 TX8 13, w ∈ wsX8_count := fun _ h9 => (List.mem_cons_of_mem _ (List.mem_append_left _ (List.mem_append_left _ (List.mem_append_right _ h9))))
set_option maxHeartbeats 4000000 in
set_option maxRecDepth 100000 in
theorem c_X8_count (l : Launch) (tA tB : Nat) (ad : Nat → Nat) (S : St) (a1 : Int32) {rv : Int32} (h : m_X8_count S a1 = some rv) :
    XMet l yX8_count wsX8_count ({ frames := 0, cells := 0, slots := 0, locals := 0 }) KX (.object "RiverTolls$Boat") tA tB [.ref (ad 0), .int a1] ad S (some (.int rv)) S := by
  refine XMet.of (cc := cX8_count) (maxL := 2) (ret := (some .int)) (own := RX8) (lv := [(0, .ref (ad 0)), (1, .int a1)]) rfl (by decide) rfl (Nat.le_of_ble_eq_true rfl) rfl ?_
  intro p e s m args below meth c D A cI c1 F C
  rw [m_X8_count] at h
  refine px_iload_n C 1 dX8_count_0 rfl rfl ?_
  by_cases c1_0_0 : a1 = (0 : Int32)
  · replace h := el_t c1_0_0 h
    refine px_tableIn C (tgt := 28) dX8_count_1 (by rw [c1_0_0]; decide) (by rw [c1_0_0]; decide) (by rw [c1_0_0]; rfl) (by decide) ?_
    refine px_aload_n C 0 dX8_count_28 rfl rfl ?_
    refine px_getr C (j := 3) kx_0 rfl rfl iw_X8_count_X8 (by decide) lk_X8_count_32 rfl dX8_count_29 ?_
    refine px_geti C (j := 0) kx_6 rfl rfl iw_X8_count_X3 (by decide) lk_X8_count_188 rfl dX8_count_32 ?_
    exact px_iretE C dX8_count_35 h
  replace h := el_f c1_0_0 h
  by_cases c1_0_1 : a1 = (1 : Int32)
  · replace h := el_t c1_0_1 h
    refine px_tableIn C (tgt := 36) dX8_count_1 (by rw [c1_0_1]; decide) (by rw [c1_0_1]; decide) (by rw [c1_0_1]; rfl) (by decide) ?_
    refine px_aload_n C 0 dX8_count_36 rfl rfl ?_
    refine px_geti C (j := 11) kx_0 rfl rfl iw_X8_count_X8 (by decide) lk_X8_count_72 rfl dX8_count_37 ?_
    exact px_iretE C dX8_count_40 h
  replace h := el_f c1_0_1 h
  by_cases c1_0_2 : a1 = (2 : Int32)
  · replace h := el_t c1_0_2 h
    refine px_tableIn C (tgt := 41) dX8_count_1 (by rw [c1_0_2]; decide) (by rw [c1_0_2]; decide) (by rw [c1_0_2]; rfl) (by decide) ?_
    refine px_aload_n C 0 dX8_count_41 rfl rfl ?_
    refine px_getr C (j := 0) kx_0 rfl rfl iw_X8_count_X8 (by decide) lk_X8_count_10 rfl dX8_count_42 ?_
    refine px_geti C (j := 0) kx_1 rfl rfl iw_X8_count_X7 (by decide) lk_X8_count_83 rfl dX8_count_45 ?_
    exact px_iretE C dX8_count_48 h
  replace h := el_f c1_0_2 h
  refine px_tableOut C (tgt := 49) dX8_count_1 (sw_out 3 (by decide) (fun k hk => by
    match k, hk with
    | 0, _ => exact c1_0_0
    | 1, _ => exact c1_0_1
    | 2, _ => exact c1_0_2)) (by decide) ?_
  refine px_iconst C (v := (-1 : Int32)) dX8_count_49 (by decide) ?_
  exact px_iretE C dX8_count_50 h
theorem lk_X8_draw_255 : Cond.constantLong RX8 255 (7919) ∈ wsX8_draw := List.mem_of_getElem? (i := 1) rfl
theorem lk_X8_draw_257 : Cond.constantLong RX8 257 (6151) ∈ wsX8_draw := List.mem_of_getElem? (i := 2) rfl
theorem lk_X8_draw_259 : Cond.constantLong RX8 259 (65521) ∈ wsX8_draw := List.mem_of_getElem? (i := 3) rfl
theorem lk_X8_draw_261 : Cond.constantLong RX8 261 (8) ∈ wsX8_draw := List.mem_of_getElem? (i := 4) rfl
set_option maxHeartbeats 4000000 in
set_option maxRecDepth 100000 in
theorem c_X8_draw (l : Launch) (tA tB : Nat) (ad : Nat → Nat) (S : St) (a0 : Int32) (a1 : Int32) {rv : Int32} (h : m_X8_draw a0 a1 = some rv) :
    XMet l yX8_draw wsX8_draw ({ frames := 0, cells := 0, slots := 0, locals := 0 }) KX (.object "RiverTolls$Boat") tA tB [.int a0, .int a1] ad S (some (.int rv)) S := by
  refine XMet.of (cc := cX8_draw) (maxL := 4) (ret := (some .int)) (own := RX8) (lv := [(0, .int a0), (1, .int a1)]) rfl (by decide) rfl (Nat.le_of_ble_eq_true rfl) rfl ?_
  intro p e s m args below meth c D A cI c1 F C
  rw [m_X8_draw] at h
  refine px_ldc2 C (v := (7919 : Int64)) lk_X8_draw_255 dX8_draw_0 ?_
  refine px_iload_n C 0 dX8_draw_3 rfl rfl ?_
  refine px_i2l C dX8_draw_4 ?_
  refine px_lmul C dX8_draw_5 ?_
  refine px_ldc2 C (v := (6151 : Int64)) lk_X8_draw_257 dX8_draw_6 ?_
  refine px_iload_n C 1 dX8_draw_9 rfl rfl ?_
  refine px_i2l C dX8_draw_10 ?_
  refine px_lmul C dX8_draw_11 ?_
  refine px_ladd C dX8_draw_12 ?_
  refine px_lconst C (v := (1 : Int64)) dX8_draw_13 (by decide) ?_
  refine px_ladd C dX8_draw_14 ?_
  obtain ⟨x1, ex1, h⟩ := el_lt h
  refine px_nml ex1 ?_
  refine px_lstore_n C [(2, .long x1), (0, .int a0), (1, .int a1)] dX8_draw_15 rfl (by decide) rfl ?_
  refine px_lload_n C 0 dX8_draw_16 rfl rfl ?_
  refine px_lload_n C 0 dX8_draw_17 rfl rfl ?_
  refine px_lmul C dX8_draw_18 ?_
  refine px_ldc2 C (v := (65521 : Int64)) lk_X8_draw_259 dX8_draw_19 ?_
  refine px_lrem C dX8_draw_22 (by decide) ?_
  refine px_ldc2 C (v := (8 : Int64)) lk_X8_draw_261 dX8_draw_23 ?_
  refine px_ldiv C dX8_draw_26 (by decide) ?_
  refine px_l2i C dX8_draw_27 ?_
  exact px_iretE C dX8_draw_28 h
theorem lk_X8_dueHere_32 : Cond.fieldLink RX8 32 "RiverTolls" "told" "LRiverTolls$River;" ∈ wsX8_dueHere := List.mem_of_getElem? (i := 3) rfl
theorem lk_X8_dueHere_38 : Cond.fieldLink RX8 38 "RiverTolls" "boat" "LRiverTolls$Boat;" ∈ wsX8_dueHere := List.mem_of_getElem? (i := 1) rfl
theorem lk_X8_dueHere_127 : Cond.fieldLink RX8 127 "RiverTolls$Boat" "at" "I" ∈ wsX8_dueHere := List.mem_of_getElem? (i := 4) rfl
theorem lk_X8_dueHere_130 : Cond.fieldLink RX8 130 "RiverTolls$Boat" "barrels" "I" ∈ wsX8_dueHere := List.mem_of_getElem? (i := 5) rfl
theorem lk_X8_dueHere_136 : Cond.fieldLink RX8 136 "RiverTolls$Boat" "letter" "I" ∈ wsX8_dueHere := List.mem_of_getElem? (i := 2) rfl
theorem iw_X8_dueHere_X0 : ∀ w ∈ u_ws RX0 TX0 8, w ∈ wsX8_dueHere := fun _ h9 => (List.mem_cons_of_mem _ (List.mem_append_left _ (List.mem_append_right _ h9)))
theorem iw_X8_dueHere_X8 : ∀ w ∈ u_ws RX8 TX8 13, w ∈ wsX8_dueHere := fun _ h9 => (List.mem_cons_of_mem _ (List.mem_append_left _ (List.mem_append_left _ (List.mem_append_right _ h9))))
set_option maxHeartbeats 4000000 in
set_option maxRecDepth 100000 in
theorem c_X8_dueHere (l : Launch) (tA tB : Nat) (ad : Nat → Nat) (S : St) {rv : Int32} (h : m_X8_dueHere S = some rv) :
    XMet l yX8_dueHere wsX8_dueHere ({ frames := 4, cells := 0, slots := 0, locals := 88 }) KX (.object "RiverTolls$Boat") tA tB [.ref (ad 0)] ad S (some (.int rv)) S := by
  refine XMet.of (cc := cX8_dueHere) (maxL := 2) (ret := (some .int)) (own := RX8) (lv := [(0, .ref (ad 0))]) rfl (by decide) rfl (Nat.le_of_ble_eq_true rfl) rfl ?_
  intro p e s m args below meth c D A cI c1 F C
  rw [m_X8_dueHere] at h
  refine px_aload_n C 0 dX8_dueHere_0 rfl rfl ?_
  refine px_getr C (j := 4) kx_0 rfl rfl iw_X8_dueHere_X8 (by decide) lk_X8_dueHere_38 rfl dX8_dueHere_1 ?_
  refine px_geti C (j := 3) kx_8 rfl rfl iw_X8_dueHere_X0 (by decide) lk_X8_dueHere_136 rfl dX8_dueHere_4 ?_
  refine px_aload_n C 0 dX8_dueHere_7 rfl rfl ?_
  refine px_getr C (j := 3) kx_0 rfl rfl iw_X8_dueHere_X8 (by decide) lk_X8_dueHere_32 rfl dX8_dueHere_8 ?_
  refine px_aload_n C 0 dX8_dueHere_11 rfl rfl ?_
  refine px_getr C (j := 4) kx_0 rfl rfl iw_X8_dueHere_X8 (by decide) lk_X8_dueHere_38 rfl dX8_dueHere_12 ?_
  refine px_geti C (j := 0) kx_8 rfl rfl iw_X8_dueHere_X0 (by decide) lk_X8_dueHere_127 rfl dX8_dueHere_15 ?_
  refine px_iconst C (v := (2 : Int32)) dX8_dueHere_18 (by decide) ?_
  obtain ⟨x2, hc19_0, h⟩ := el_b h
  refine px_callV1 C (c_X3_fact l tA tB ad S (S.1 8 0) (2 : Int32) hc19_0) (cwV 2 C.2.2.2.2.1 gX8_dueHere_X3_fact rfl rfl rfl (by decide +kernel) ⟨Nat.le_of_ble_eq_true rfl, Nat.le_of_ble_eq_true rfl⟩) ⟨Nat.zero_le _, Nat.zero_le _⟩ kx_6 rfl rfl rfl (Nat.le_of_ble_eq_true rfl) dX8_dueHere_19 ?_
  obtain ⟨x4, hr22_8, h⟩ := el_b h
  have hj22_4 : PW p l e { frames := 4, cells := 0, slots := 0, locals := 88 } s m args below meth c (MQ below (QX KX A D cI c1 F ad (some (.int rv)) S) args s 0 0 A) D A cI c1 F KX ad 2 0 0 S [(0, .ref (ad 0))] 30 [.int x4] := by
    refine px_istore_n C [(1, .int x4), (0, .ref (ad 0))] dX8_dueHere_30 rfl (by decide) rfl ?_
    refine px_iload_n C 0 dX8_dueHere_31 rfl rfl ?_
    refine px_if_eq C (tgt := 39) dX8_dueHere_32 (by decide) (fun c32_5 => ?_) (fun c32_5 => ?_)
    · replace h := el_t c32_5 h
      refine px_aload_n C 1 dX8_dueHere_39 rfl rfl ?_
      refine px_aload_n C 1 dX8_dueHere_40 rfl rfl ?_
      refine px_getr C (j := 4) kx_0 rfl rfl iw_X8_dueHere_X8 (by decide) lk_X8_dueHere_38 rfl dX8_dueHere_41 ?_
      refine px_geti C (j := 0) kx_8 rfl rfl iw_X8_dueHere_X0 (by decide) lk_X8_dueHere_127 rfl dX8_dueHere_44 ?_
      refine px_aload_n C 1 dX8_dueHere_47 rfl rfl ?_
      refine px_getr C (j := 4) kx_0 rfl rfl iw_X8_dueHere_X8 (by decide) lk_X8_dueHere_38 rfl dX8_dueHere_48 ?_
      refine px_geti C (j := 1) kx_8 rfl rfl iw_X8_dueHere_X0 (by decide) lk_X8_dueHere_130 rfl dX8_dueHere_51 ?_
      obtain ⟨x8, hc54_6, h⟩ := el_b h
      refine px_callV1 C (c_X8_priceOf l tA tB ad S (S.1 8 0) (S.1 8 1) hc54_6) (cwV 2 C.2.2.2.2.1 gX8_dueHere_X8_priceOf rfl rfl rfl (by decide +kernel) ⟨Nat.le_of_ble_eq_true rfl, Nat.le_of_ble_eq_true rfl⟩) ⟨Nat.zero_le _, Nat.zero_le _⟩ kx_0 rfl rfl rfl (Nat.le_of_ble_eq_true rfl) dX8_dueHere_54 ?_
      exact px_iretE C dX8_dueHere_57 h
    · replace h := el_f c32_5 h
      refine px_iconst C (v := (0 : Int32)) dX8_dueHere_35 (by decide) ?_
      refine px_goto C (tgt := 57) dX8_dueHere_36 (by decide) ?_
      exact px_iretE C dX8_dueHere_57 h
  clear h
  have h := hr22_8
  clear hr22_8
  refine px_icmp_ne C (tgt := 29) dX8_dueHere_22 (by decide) (fun c22_2 => ?_) (fun c22_2 => ?_)
  · replace h := el_t c22_2 h
    refine px_iconst C (v := (0 : Int32)) dX8_dueHere_29 (by decide) ?_
    cases h
    exact hj22_4
  · replace h := el_fn c22_2 h
    refine px_iconst C (v := (1 : Int32)) dX8_dueHere_25 (by decide) ?_
    refine px_goto C (tgt := 30) dX8_dueHere_26 (by decide) ?_
    cases h
    exact hj22_4
theorem lk_X8_enough_38 : Cond.fieldLink RX8 38 "RiverTolls" "boat" "LRiverTolls$Boat;" ∈ wsX8_enough := List.mem_of_getElem? (i := 3) rfl
theorem lk_X8_enough_62 : Cond.fieldLink RX8 62 "RiverTolls" "route" "LRiverTolls$Route;" ∈ wsX8_enough := List.mem_of_getElem? (i := 1) rfl
theorem lk_X8_enough_133 : Cond.fieldLink RX8 133 "RiverTolls$Boat" "coins" "I" ∈ wsX8_enough := List.mem_of_getElem? (i := 4) rfl
theorem lk_X8_enough_194 : Cond.fieldLink RX8 194 "RiverTolls$Route" "total" "I" ∈ wsX8_enough := List.mem_of_getElem? (i := 2) rfl
theorem iw_X8_enough_X0 : ∀ w ∈ u_ws RX0 TX0 8, w ∈ wsX8_enough := fun _ h9 => (List.mem_cons_of_mem _ (List.mem_append_left _ (List.mem_append_right _ h9)))
theorem iw_X8_enough_X4 : ∀ w ∈ u_ws RX4 TX4 14, w ∈ wsX8_enough := fun _ h9 => (List.mem_cons_of_mem _ (List.mem_append_left _ (List.mem_append_left _ (List.mem_append_right _ h9))))
theorem iw_X8_enough_X8 : ∀ w ∈ u_ws RX8 TX8 13, w ∈ wsX8_enough := fun _ h9 => (List.mem_cons_of_mem _ (List.mem_append_left _ (List.mem_append_left _ (List.mem_append_left _ (List.mem_append_right _ h9)))))
set_option maxHeartbeats 4000000 in
set_option maxRecDepth 100000 in
theorem c_X8_enough (l : Launch) (tA tB : Nat) (ad : Nat → Nat) (fu : Nat) (S : St) {rv : Int32} {S' : St} (h : m_X8_enough fu S = some (rv, S')) :
    XMet l yX8_enough wsX8_enough ({ frames := 6, cells := 0, slots := 0, locals := 130 }) KX (.object "RiverTolls$Boat") tA tB [.ref (ad 0)] ad S (some (.int rv)) S' := by
  refine XMet.of (cc := cX8_enough) (maxL := 1) (ret := (some .int)) (own := RX8) (lv := [(0, .ref (ad 0))]) rfl (by decide) rfl (Nat.le_of_ble_eq_true rfl) rfl ?_
  intro p e s m args below meth c D A cI c1 F C
  rw [m_X8_enough] at h
  refine px_aload_n C 0 dX8_enough_0 rfl rfl ?_
  obtain ⟨S2, hc1_0, h⟩ := el_b h
  refine px_callV0 C (c_X8_findWay l tA tB ad fu S hc1_0) (cwV 0 C.2.2.2.2.1 gX8_enough_X8_findWay rfl rfl rfl (by decide +kernel) ⟨Nat.le_of_ble_eq_true rfl, Nat.le_of_ble_eq_true rfl⟩) ⟨Nat.zero_le _, Nat.zero_le _⟩ kx_0 rfl rfl rfl (Nat.le_of_ble_eq_true rfl) dX8_enough_1 ?_
  refine px_aload_n C 0 dX8_enough_4 rfl rfl ?_
  refine px_getr C (j := 8) kx_0 rfl rfl iw_X8_enough_X8 (by decide) lk_X8_enough_62 rfl dX8_enough_5 ?_
  refine px_geti C (j := 2) kx_51 rfl rfl iw_X8_enough_X4 (by decide) lk_X8_enough_194 rfl dX8_enough_8 ?_
  refine px_aload_n C 0 dX8_enough_11 rfl rfl ?_
  refine px_getr C (j := 4) kx_0 rfl rfl iw_X8_enough_X8 (by decide) lk_X8_enough_38 rfl dX8_enough_12 ?_
  refine px_geti C (j := 2) kx_8 rfl rfl iw_X8_enough_X0 (by decide) lk_X8_enough_133 rfl dX8_enough_15 ?_
  refine px_icmp_gt C (tgt := 25) dX8_enough_18 (by decide) (fun c18_2 => ?_) (fun c18_2 => ?_)
  · replace h := el_t c18_2 h
    refine px_iconst C (v := (0 : Int32)) dX8_enough_25 (by decide) ?_
    exact px_iretES C dX8_enough_26 h
  · replace h := el_f c18_2 h
    refine px_iconst C (v := (1 : Int32)) dX8_enough_21 (by decide) ?_
    refine px_goto C (tgt := 26) dX8_enough_22 (by decide) ?_
    exact px_iretES C dX8_enough_26 h
theorem lk_X8_forget_72 : Cond.fieldLink RX8 72 "RiverTolls" "leftCount" "I" ∈ wsX8_forget := List.mem_of_getElem? (i := 1) rfl
theorem iw_X8_forget_X8 : ∀ w ∈ u_ws RX8 TX8 13, w ∈ wsX8_forget := fun _ h9 => (List.mem_cons_of_mem _ (List.mem_append_right _ h9))
set_option maxHeartbeats 4000000 in
set_option maxRecDepth 100000 in
theorem c_X8_forget (l : Launch) (tA tB : Nat) (ad : Nat → Nat) (S : St) {rv : Int32} {S' : St} (h : m_X8_forget S = some (rv, S')) :
    XMet l yX8_forget wsX8_forget ({ frames := 0, cells := 0, slots := 0, locals := 0 }) KX (.object "RiverTolls$Boat") tA tB [.ref (ad 0)] ad S (some (.int rv)) S' := by
  refine XMet.of (cc := cX8_forget) (maxL := 2) (ret := (some .int)) (own := RX8) (lv := [(0, .ref (ad 0))]) rfl (by decide) rfl (Nat.le_of_ble_eq_true rfl) rfl ?_
  intro p e s m args below meth c D A cI c1 F C
  rw [m_X8_forget] at h
  refine px_aload_n C 0 dX8_forget_0 rfl rfl ?_
  refine px_geti C (j := 11) kx_0 rfl rfl iw_X8_forget_X8 (by decide) lk_X8_forget_72 rfl dX8_forget_1 ?_
  refine px_istore_n C [(1, .int (S.1 0 11)), (0, .ref (ad 0))] dX8_forget_4 rfl (by decide) rfl ?_
  refine px_aload_n C 1 dX8_forget_5 rfl rfl ?_
  refine px_iconst C (v := (0 : Int32)) dX8_forget_6 (by decide) ?_
  obtain ⟨S1, eS1, h⟩ := el_lt h
  refine px_puti C (ty := .int) (j := 11) kx_0 rfl rfl iw_X8_forget_X8 (by decide) lk_X8_forget_72 rfl tyX8 tyX8_ok nmX8 rfl (by decide +kernel) rfl rfl dX8_forget_7 ?_
  refine px_nmS eS1 ?_
  refine px_iload_n C 0 dX8_forget_10 rfl rfl ?_
  exact px_iretES C dX8_forget_11 h
theorem lk_X8_goOn_38 : Cond.fieldLink RX8 38 "RiverTolls" "boat" "LRiverTolls$Boat;" ∈ wsX8_goOn := List.mem_of_getElem? (i := 1) rfl
theorem lk_X8_goOn_127 : Cond.fieldLink RX8 127 "RiverTolls$Boat" "at" "I" ∈ wsX8_goOn := List.mem_of_getElem? (i := 3) rfl
theorem lk_X8_goOn_136 : Cond.fieldLink RX8 136 "RiverTolls$Boat" "letter" "I" ∈ wsX8_goOn := List.mem_of_getElem? (i := 2) rfl
theorem iw_X8_goOn_X0 : ∀ w ∈ u_ws RX0 TX0 8, w ∈ wsX8_goOn := fun _ h9 => (List.mem_cons_of_mem _ (List.mem_append_right _ h9))
theorem iw_X8_goOn_X8 : ∀ w ∈ u_ws RX8 TX8 13, w ∈ wsX8_goOn := fun _ h9 => (List.mem_cons_of_mem _ (List.mem_append_left _ (List.mem_append_right _ h9)))
set_option maxHeartbeats 4000000 in
set_option maxRecDepth 100000 in
theorem c_X8_goOn (l : Launch) (tA tB : Nat) (ad : Nat → Nat) (S : St) (a1 : Int32) {S' : St} (h : m_X8_goOn S a1 = some S') :
    XMet l yX8_goOn wsX8_goOn ({ frames := 0, cells := 0, slots := 0, locals := 0 }) KX (.object "RiverTolls$Boat") tA tB [.ref (ad 0), .int a1] ad S none S' := by
  refine XMet.of (cc := cX8_goOn) (maxL := 2) (ret := none) (own := RX8) (lv := [(0, .ref (ad 0)), (1, .int a1)]) rfl (by decide) rfl (Nat.le_of_ble_eq_true rfl) rfl ?_
  intro p e s m args below meth c D A cI c1 F C
  rw [m_X8_goOn] at h
  refine px_aload_n C 0 dX8_goOn_0 rfl rfl ?_
  refine px_getr C (j := 4) kx_0 rfl rfl iw_X8_goOn_X8 (by decide) lk_X8_goOn_38 rfl dX8_goOn_1 ?_
  refine px_iload_n C 1 dX8_goOn_4 rfl rfl ?_
  obtain ⟨S1, eS1, h⟩ := el_lt h
  refine px_puti C (ty := .int) (j := 3) kx_8 rfl rfl iw_X8_goOn_X0 (by decide) lk_X8_goOn_136 rfl tyX0 tyX0_ok nmX0 rfl (by decide +kernel) rfl rfl dX8_goOn_5 ?_
  refine px_nmS eS1 ?_
  refine px_aload_n C 0 dX8_goOn_8 rfl rfl ?_
  refine px_getr C (j := 4) kx_0 rfl rfl iw_X8_goOn_X8 (by decide) lk_X8_goOn_38 rfl dX8_goOn_9 ?_
  refine px_dup C dX8_goOn_12 rfl ?_
  refine px_geti C (j := 0) kx_8 rfl rfl iw_X8_goOn_X0 (by decide) lk_X8_goOn_127 rfl dX8_goOn_13 ?_
  refine px_iconst C (v := (1 : Int32)) dX8_goOn_16 (by decide) ?_
  refine px_iadd C dX8_goOn_17 ?_
  obtain ⟨S2, eS2, h⟩ := el_lt h
  refine px_puti C (ty := .int) (j := 0) kx_8 rfl rfl iw_X8_goOn_X0 (by decide) lk_X8_goOn_127 rfl tyX0 tyX0_ok nmX0 rfl (by decide +kernel) rfl rfl dX8_goOn_18 ?_
  refine px_nmS eS2 ?_
  exact px_vretE C dX8_goOn_21 h
theorem lk_X8_got_38 : Cond.fieldLink RX8 38 "RiverTolls" "boat" "LRiverTolls$Boat;" ∈ wsX8_got := List.mem_of_getElem? (i := 1) rfl
theorem lk_X8_got_156 : Cond.fieldLink RX8 156 "RiverTolls$Boat" "gains" "[I" ∈ wsX8_got := List.mem_of_getElem? (i := 2) rfl
theorem iw_X8_got_X0 : ∀ w ∈ u_ws RX0 TX0 8, w ∈ wsX8_got := fun _ h9 => (List.mem_cons_of_mem _ (List.mem_append_right _ h9))
theorem iw_X8_got_X8 : ∀ w ∈ u_ws RX8 TX8 13, w ∈ wsX8_got := fun _ h9 => (List.mem_cons_of_mem _ (List.mem_append_left _ (List.mem_append_right _ h9)))
set_option maxHeartbeats 4000000 in
set_option maxRecDepth 100000 in
theorem c_X8_got (l : Launch) (tA tB : Nat) (ad : Nat → Nat) (S : St) (a1 : Int32) {rv : Int32} (h : m_X8_got S a1 = some rv) :
    XMet l yX8_got wsX8_got ({ frames := 1, cells := 0, slots := 0, locals := 21 }) KX (.object "RiverTolls$Boat") tA tB [.ref (ad 0), .int a1] ad S (some (.int rv)) S := by
  refine XMet.of (cc := cX8_got) (maxL := 2) (ret := (some .int)) (own := RX8) (lv := [(0, .ref (ad 0)), (1, .int a1)]) rfl (by decide) rfl (Nat.le_of_ble_eq_true rfl) rfl ?_
  intro p e s m args below meth c D A cI c1 F C
  rw [m_X8_got] at h
  refine px_aload_n C 0 dX8_got_0 rfl rfl ?_
  refine px_iload_n C 1 dX8_got_1 rfl rfl ?_
  obtain ⟨x2, hc2_0, h⟩ := el_b h
  refine px_callV1 C (c_X8_isLord l tA tB ad S a1 hc2_0) (cwV 1 C.2.2.2.2.1 gX8_got_X8_isLord rfl rfl rfl (by decide +kernel) ⟨Nat.le_of_ble_eq_true rfl, Nat.le_of_ble_eq_true rfl⟩) ⟨Nat.zero_le _, Nat.zero_le _⟩ kx_0 rfl rfl rfl (Nat.le_of_ble_eq_true rfl) dX8_got_2 ?_
  refine px_if_eq C (tgt := 22) dX8_got_5 (by decide) (fun c5_2 => ?_) (fun c5_2 => ?_)
  · replace h := el_t c5_2 h
    refine px_iconst C (v := (-1 : Int32)) dX8_got_22 (by decide) ?_
    exact px_iretE C dX8_got_23 h
  · replace h := el_f c5_2 h
    refine px_aload_n C 0 dX8_got_8 rfl rfl ?_
    refine px_getr C (j := 4) kx_0 rfl rfl iw_X8_got_X8 (by decide) lk_X8_got_38 rfl dX8_got_9 ?_
    refine px_getr C (j := 7) kx_8 rfl rfl iw_X8_got_X0 (by decide) lk_X8_got_156 rfl dX8_got_12 ?_
    refine px_iload_n C 1 dX8_got_15 rfl rfl ?_
    obtain ⟨x5, hc16_3, h⟩ := el_b h
    refine px_callS1 C (c_X5_get l tA tB ad S 10 4 a1 kx_10 hc16_3) (va_cwS 2 C.2.2.2.2.1 gX8_got_X5_get rfl rfl rfl (by decide +kernel) ⟨Nat.le_of_ble_eq_true rfl, Nat.le_of_ble_eq_true rfl⟩) ⟨Nat.zero_le _, Nat.zero_le _⟩ rfl rfl (Nat.le_of_ble_eq_true rfl) dX8_got_16 ?_
    refine px_goto C (tgt := 23) dX8_got_19 (by decide) ?_
    exact px_iretE C dX8_got_23 h
theorem lk_X8_isAtSea_32 : Cond.fieldLink RX8 32 "RiverTolls" "told" "LRiverTolls$River;" ∈ wsX8_isAtSea := List.mem_of_getElem? (i := 3) rfl
theorem lk_X8_isAtSea_38 : Cond.fieldLink RX8 38 "RiverTolls" "boat" "LRiverTolls$Boat;" ∈ wsX8_isAtSea := List.mem_of_getElem? (i := 1) rfl
theorem lk_X8_isAtSea_127 : Cond.fieldLink RX8 127 "RiverTolls$Boat" "at" "I" ∈ wsX8_isAtSea := List.mem_of_getElem? (i := 2) rfl
theorem lk_X8_isAtSea_188 : Cond.fieldLink RX8 188 "RiverTolls$River" "rocks" "I" ∈ wsX8_isAtSea := List.mem_of_getElem? (i := 4) rfl
theorem iw_X8_isAtSea_X0 : ∀ w ∈ u_ws RX0 TX0 8, w ∈ wsX8_isAtSea := fun _ h9 => (List.mem_cons_of_mem _ (List.mem_append_left _ (List.mem_append_right _ h9)))
theorem iw_X8_isAtSea_X3 : ∀ w ∈ u_ws RX3 TX3 5, w ∈ wsX8_isAtSea := fun _ h9 => (List.mem_cons_of_mem _ (List.mem_append_right _ h9))
theorem iw_X8_isAtSea_X8 : ∀ w ∈ u_ws RX8 TX8 13, w ∈ wsX8_isAtSea := fun _ h9 => (List.mem_cons_of_mem _ (List.mem_append_left _ (List.mem_append_left _ (List.mem_append_right _ h9))))
set_option maxHeartbeats 4000000 in
set_option maxRecDepth 100000 in
theorem c_X8_isAtSea (l : Launch) (tA tB : Nat) (ad : Nat → Nat) (S : St) {rv : Int32} (h : m_X8_isAtSea S = some rv) :
    XMet l yX8_isAtSea wsX8_isAtSea ({ frames := 0, cells := 0, slots := 0, locals := 0 }) KX (.object "RiverTolls$Boat") tA tB [.ref (ad 0)] ad S (some (.int rv)) S := by
  refine XMet.of (cc := cX8_isAtSea) (maxL := 1) (ret := (some .boolean)) (own := RX8) (lv := [(0, .ref (ad 0))]) rfl (by decide) rfl (Nat.le_of_ble_eq_true rfl) rfl ?_
  intro p e s m args below meth c D A cI c1 F C
  rw [m_X8_isAtSea] at h
  refine px_aload_n C 0 dX8_isAtSea_0 rfl rfl ?_
  refine px_getr C (j := 4) kx_0 rfl rfl iw_X8_isAtSea_X8 (by decide) lk_X8_isAtSea_38 rfl dX8_isAtSea_1 ?_
  refine px_geti C (j := 0) kx_8 rfl rfl iw_X8_isAtSea_X0 (by decide) lk_X8_isAtSea_127 rfl dX8_isAtSea_4 ?_
  refine px_aload_n C 0 dX8_isAtSea_7 rfl rfl ?_
  refine px_getr C (j := 3) kx_0 rfl rfl iw_X8_isAtSea_X8 (by decide) lk_X8_isAtSea_32 rfl dX8_isAtSea_8 ?_
  refine px_geti C (j := 0) kx_6 rfl rfl iw_X8_isAtSea_X3 (by decide) lk_X8_isAtSea_188 rfl dX8_isAtSea_11 ?_
  refine px_icmp_lt C (tgt := 21) dX8_isAtSea_14 (by decide) (fun c14_0 => ?_) (fun c14_0 => ?_)
  · replace h := el_t c14_0 h
    refine px_iconst C (v := (0 : Int32)) dX8_isAtSea_21 (by decide) ?_
    exact px_zretE C (Or.inl rfl) dX8_isAtSea_22 h
  · replace h := el_f c14_0 h
    refine px_iconst C (v := (1 : Int32)) dX8_isAtSea_17 (by decide) ?_
    refine px_goto C (tgt := 22) dX8_isAtSea_18 (by decide) ?_
    exact px_zretE C (Or.inr rfl) dX8_isAtSea_22 h
theorem lk_X8_keep_38 : Cond.fieldLink RX8 38 "RiverTolls" "boat" "LRiverTolls$Boat;" ∈ wsX8_keep := List.mem_of_getElem? (i := 1) rfl
theorem lk_X8_keep_53 : Cond.fieldLink RX8 53 "RiverTolls" "kept" "[I" ∈ wsX8_keep := List.mem_of_getElem? (i := 2) rfl
theorem lk_X8_keep_127 : Cond.fieldLink RX8 127 "RiverTolls$Boat" "at" "I" ∈ wsX8_keep := List.mem_of_getElem? (i := 3) rfl
theorem iw_X8_keep_X0 : ∀ w ∈ u_ws RX0 TX0 8, w ∈ wsX8_keep := fun _ h9 => (List.mem_cons_of_mem _ (List.mem_append_right _ h9))
theorem iw_X8_keep_X8 : ∀ w ∈ u_ws RX8 TX8 13, w ∈ wsX8_keep := fun _ h9 => (List.mem_cons_of_mem _ (List.mem_append_left _ (List.mem_append_right _ h9)))
set_option maxHeartbeats 4000000 in
set_option maxRecDepth 100000 in
theorem c_X8_keep (l : Launch) (tA tB : Nat) (ad : Nat → Nat) (fu : Nat) (S : St) (a1 : Int32) {rv : Int32} {S' : St} (h : m_X8_keep fu S a1 = some (rv, S')) :
    XMet l yX8_keep wsX8_keep ({ frames := 2, cells := 0, slots := 0, locals := 43 }) KX (.object "RiverTolls$Boat") tA tB [.ref (ad 0), .int a1] ad S (some (.int rv)) S' := by
  refine XMet.of (cc := cX8_keep) (maxL := 3) (ret := (some .int)) (own := RX8) (lv := [(0, .ref (ad 0)), (1, .int a1)]) rfl (by decide) rfl (Nat.le_of_ble_eq_true rfl) rfl ?_
  intro p e s m args below meth c D A cI c1 F C
  rw [m_X8_keep] at h
  refine px_aload_n C 0 dX8_keep_0 rfl rfl ?_
  refine px_iload_n C 1 dX8_keep_1 rfl rfl ?_
  obtain ⟨o2, hc2_0, h⟩ := el_b h
  refine px_callV1 C (c_X8_imageOf l tA tB ad S a1 hc2_0) (cwV 1 C.2.2.2.2.1 gX8_keep_X8_imageOf rfl rfl rfl (by decide +kernel) ⟨Nat.le_of_ble_eq_true rfl, Nat.le_of_ble_eq_true rfl⟩) ⟨Nat.zero_le _, Nat.zero_le _⟩ kx_0 rfl rfl rfl (Nat.le_of_ble_eq_true rfl) dX8_keep_2 ?_
  rcases el_on h with ⟨rfl, h⟩ | ⟨b3, rfl, hB_b3, h⟩
  · skip
    refine px_astore_nN C [(2, .null), (0, .ref (ad 0)), (1, .int a1)] dX8_keep_5 rfl (by decide) rfl ?_
    refine px_aload_nN C 0 dX8_keep_6 rfl rfl ?_
    refine px_ifnonnullN C dX8_keep_7 ?_
    refine px_iconst C (v := (-1 : Int32)) dX8_keep_10 (by decide) ?_
    exact px_iretES C dX8_keep_11 h
  · obtain ⟨hk_b3, hk1_b3, hk2_b3⟩ := kx_boat hB_b3
    refine px_astore_n C [(2, .ref (ad b3)), (0, .ref (ad 0)), (1, .int a1)] dX8_keep_5 rfl (by decide) rfl ?_
    refine px_aload_n C 0 dX8_keep_6 rfl rfl ?_
    refine px_ifnonnull C (tgt := 12) dX8_keep_7 (by decide) ?_
    refine px_aload_n C 0 dX8_keep_12 rfl rfl ?_
    refine px_aload_n C 1 dX8_keep_13 rfl rfl ?_
    refine px_getr C (j := 4) kx_0 rfl rfl iw_X8_keep_X8 (by decide) lk_X8_keep_38 rfl dX8_keep_14 ?_
    obtain ⟨S5, hc17_3, h⟩ := el_b h
    refine px_callV0 C (c_X0_become l tA tB ad fu S b3 8 hB_b3 (by decide) hc17_3) (cwV 1 C.2.2.2.2.1 gX8_keep_X0_become rfl rfl rfl (by decide +kernel) ⟨Nat.le_of_ble_eq_true rfl, Nat.le_of_ble_eq_true rfl⟩) ⟨Nat.zero_le _, Nat.zero_le _⟩ hk_b3 rfl rfl rfl (Nat.le_of_ble_eq_true rfl) dX8_keep_17 ?_
    refine px_aload_n C 1 dX8_keep_20 rfl rfl ?_
    refine px_getr C (j := 7) kx_0 rfl rfl iw_X8_keep_X8 (by decide) lk_X8_keep_53 rfl dX8_keep_21 ?_
    refine px_iload_n C 2 dX8_keep_24 rfl rfl ?_
    refine px_iconst C (v := (1 : Int32)) dX8_keep_25 (by decide) ?_
    obtain ⟨S7, hc26_5, h⟩ := el_b h
    refine px_callS0 C (c_X5_put l tA tB ad S5 50 2 a1 (1 : Int32) kx_50 hc26_5) (va_cwS 3 C.2.2.2.2.1 gX8_keep_X5_put rfl rfl rfl (by decide +kernel) ⟨Nat.le_of_ble_eq_true rfl, Nat.le_of_ble_eq_true rfl⟩) ⟨Nat.zero_le _, Nat.zero_le _⟩ rfl rfl (Nat.le_of_ble_eq_true rfl) dX8_keep_26 ?_
    refine px_aload_n C 1 dX8_keep_29 rfl rfl ?_
    refine px_getr C (j := 4) kx_0 rfl rfl iw_X8_keep_X8 (by decide) lk_X8_keep_38 rfl dX8_keep_30 ?_
    refine px_geti C (j := 0) kx_8 rfl rfl iw_X8_keep_X0 (by decide) lk_X8_keep_127 rfl dX8_keep_33 ?_
    exact px_iretES C dX8_keep_36 h
theorem lk_X8_lands_32 : Cond.fieldLink RX8 32 "RiverTolls" "told" "LRiverTolls$River;" ∈ wsX8_lands := List.mem_of_getElem? (i := 1) rfl
theorem lk_X8_lands_38 : Cond.fieldLink RX8 38 "RiverTolls" "boat" "LRiverTolls$Boat;" ∈ wsX8_lands := List.mem_of_getElem? (i := 2) rfl
theorem lk_X8_lands_45 : Cond.fieldLink RX8 45 "RiverTolls" "past" "LRiverTolls$Past;" ∈ wsX8_lands := List.mem_of_getElem? (i := 6) rfl
theorem lk_X8_lands_127 : Cond.fieldLink RX8 127 "RiverTolls$Boat" "at" "I" ∈ wsX8_lands := List.mem_of_getElem? (i := 3) rfl
theorem lk_X8_lands_130 : Cond.fieldLink RX8 130 "RiverTolls$Boat" "barrels" "I" ∈ wsX8_lands := List.mem_of_getElem? (i := 4) rfl
theorem lk_X8_lands_133 : Cond.fieldLink RX8 133 "RiverTolls$Boat" "coins" "I" ∈ wsX8_lands := List.mem_of_getElem? (i := 5) rfl
theorem iw_X8_lands_X0 : ∀ w ∈ u_ws RX0 TX0 8, w ∈ wsX8_lands := fun _ h9 => (List.mem_cons_of_mem _ (List.mem_append_left _ (List.mem_append_left _ (List.mem_append_right _ h9))))
theorem iw_X8_lands_X8 : ∀ w ∈ u_ws RX8 TX8 13, w ∈ wsX8_lands := fun _ h9 => (List.mem_cons_of_mem _ (List.mem_append_left _ (List.mem_append_left _ (List.mem_append_left _ (List.mem_append_right _ h9)))))
set_option maxHeartbeats 4000000 in
set_option maxRecDepth 100000 in
theorem c_X8_lands (l : Launch) (tA tB : Nat) (ad : Nat → Nat) (fu : Nat) (S : St) {rv : Int32} {S' : St} (h : m_X8_lands fu S = some (rv, S')) :
    XMet l yX8_lands wsX8_lands ({ frames := 3, cells := 0, slots := 0, locals := 65 }) KX (.object "RiverTolls$Boat") tA tB [.ref (ad 0)] ad S (some (.int rv)) S' := by
  refine XMet.of (cc := cX8_lands) (maxL := 2) (ret := (some .int)) (own := RX8) (lv := [(0, .ref (ad 0))]) rfl (by decide) rfl (Nat.le_of_ble_eq_true rfl) rfl ?_
  intro p e s m args below meth c D A cI c1 F C
  rw [m_X8_lands] at h
  refine px_aload_n C 0 dX8_lands_0 rfl rfl ?_
  obtain ⟨x2, hc1_0, h⟩ := el_b h
  refine px_callV1 C (c_X8_isAtSea l tA tB ad S hc1_0) (cwV 0 C.2.2.2.2.1 gX8_lands_X8_isAtSea rfl rfl rfl (by decide +kernel) ⟨Nat.le_of_ble_eq_true rfl, Nat.le_of_ble_eq_true rfl⟩) ⟨Nat.zero_le _, Nat.zero_le _⟩ kx_0 rfl rfl rfl (Nat.le_of_ble_eq_true rfl) dX8_lands_1 ?_
  refine px_if_eq C (tgt := 10) dX8_lands_4 (by decide) (fun c4_2 => ?_) (fun c4_2 => ?_)
  · replace h := el_t c4_2 h
    refine px_aload_n C 0 dX8_lands_10 rfl rfl ?_
    refine px_getr C (j := 3) kx_0 rfl rfl iw_X8_lands_X8 (by decide) lk_X8_lands_32 rfl dX8_lands_11 ?_
    refine px_aload_n C 0 dX8_lands_14 rfl rfl ?_
    refine px_getr C (j := 4) kx_0 rfl rfl iw_X8_lands_X8 (by decide) lk_X8_lands_38 rfl dX8_lands_15 ?_
    refine px_geti C (j := 0) kx_8 rfl rfl iw_X8_lands_X0 (by decide) lk_X8_lands_127 rfl dX8_lands_18 ?_
    refine px_iconst C (v := (4 : Int32)) dX8_lands_21 (by decide) ?_
    obtain ⟨x5, hc22_3, h⟩ := el_b h
    refine px_callV1 C (c_X3_fact l tA tB ad S (S.1 8 0) (4 : Int32) hc22_3) (cwV 2 C.2.2.2.2.1 gX8_lands_X3_fact rfl rfl rfl (by decide +kernel) ⟨Nat.le_of_ble_eq_true rfl, Nat.le_of_ble_eq_true rfl⟩) ⟨Nat.zero_le _, Nat.zero_le _⟩ kx_6 rfl rfl rfl (Nat.le_of_ble_eq_true rfl) dX8_lands_22 ?_
    refine px_aload_n C 0 dX8_lands_25 rfl rfl ?_
    refine px_getr C (j := 4) kx_0 rfl rfl iw_X8_lands_X8 (by decide) lk_X8_lands_38 rfl dX8_lands_26 ?_
    refine px_geti C (j := 1) kx_8 rfl rfl iw_X8_lands_X0 (by decide) lk_X8_lands_130 rfl dX8_lands_29 ?_
    refine px_imul C dX8_lands_32 ?_
    refine px_istore_n C [(1, .int (x5 * (S.1 8 1))), (0, .ref (ad 0))] dX8_lands_33 rfl (by decide) rfl ?_
    refine px_iload_n C 0 dX8_lands_34 rfl rfl ?_
    refine px_aload_n C 1 dX8_lands_35 rfl rfl ?_
    refine px_getr C (j := 4) kx_0 rfl rfl iw_X8_lands_X8 (by decide) lk_X8_lands_38 rfl dX8_lands_36 ?_
    refine px_geti C (j := 2) kx_8 rfl rfl iw_X8_lands_X0 (by decide) lk_X8_lands_133 rfl dX8_lands_39 ?_
    refine px_icmp_le C (tgt := 48) dX8_lands_42 (by decide) (fun c42_5 => ?_) (fun c42_5 => ?_)
    · replace h := el_t c42_5 h
      refine px_aload_n C 1 dX8_lands_48 rfl rfl ?_
      refine px_getr C (j := 5) kx_0 rfl rfl iw_X8_lands_X8 (by decide) lk_X8_lands_45 rfl dX8_lands_49 ?_
      refine px_aload_n C 1 dX8_lands_52 rfl rfl ?_
      refine px_getr C (j := 4) kx_0 rfl rfl iw_X8_lands_X8 (by decide) lk_X8_lands_38 rfl dX8_lands_53 ?_
      obtain ⟨S8, hc56_6, h⟩ := el_b h
      refine px_callV0 C (c_X1_remember l tA tB ad fu S hc56_6) (cwV 1 C.2.2.2.2.1 gX8_lands_X1_remember rfl rfl rfl (by decide +kernel) ⟨Nat.le_of_ble_eq_true rfl, Nat.le_of_ble_eq_true rfl⟩) ⟨Nat.zero_le _, Nat.zero_le _⟩ kx_11 rfl rfl rfl (Nat.le_of_ble_eq_true rfl) dX8_lands_56 ?_
      refine px_aload_n C 1 dX8_lands_59 rfl rfl ?_
      refine px_getr C (j := 4) kx_0 rfl rfl iw_X8_lands_X8 (by decide) lk_X8_lands_38 rfl dX8_lands_60 ?_
      refine px_dup C dX8_lands_63 rfl ?_
      refine px_geti C (j := 2) kx_8 rfl rfl iw_X8_lands_X0 (by decide) lk_X8_lands_133 rfl dX8_lands_64 ?_
      refine px_iload_n C 0 dX8_lands_67 rfl rfl ?_
      refine px_isub C dX8_lands_68 ?_
      obtain ⟨S9, eS9, h⟩ := el_lt h
      refine px_puti C (ty := .int) (j := 2) kx_8 rfl rfl iw_X8_lands_X0 (by decide) lk_X8_lands_133 rfl tyX0 tyX0_ok nmX0 rfl (by decide +kernel) rfl rfl dX8_lands_69 ?_
      refine px_nmS eS9 ?_
      refine px_aload_n C 1 dX8_lands_72 rfl rfl ?_
      refine px_bipush C (v := (-9 : Int32)) dX8_lands_73 (by decide) ?_
      obtain ⟨S11, hc75_9, h⟩ := el_b h
      refine px_callV0 C (c_X8_goOn l tA tB ad S9 (-9 : Int32) hc75_9) (cwV 1 C.2.2.2.2.1 gX8_lands_X8_goOn rfl rfl rfl (by decide +kernel) ⟨Nat.le_of_ble_eq_true rfl, Nat.le_of_ble_eq_true rfl⟩) ⟨Nat.zero_le _, Nat.zero_le _⟩ kx_0 rfl rfl rfl (Nat.le_of_ble_eq_true rfl) dX8_lands_75 ?_
      refine px_iload_n C 0 dX8_lands_78 rfl rfl ?_
      exact px_iretES C dX8_lands_79 h
    · replace h := el_f c42_5 h
      refine px_bipush C (v := (-2 : Int32)) dX8_lands_45 (by decide) ?_
      exact px_iretES C dX8_lands_47 h
  · replace h := el_f c4_2 h
    refine px_bipush C (v := (-2 : Int32)) dX8_lands_7 (by decide) ?_
    exact px_iretES C dX8_lands_9 h
