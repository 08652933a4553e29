theorem lk_X8_left_66 : Cond.fieldLink RX8 66 "RiverTolls" "leftBehind" "[I" ∈ wsX8_left := List.mem_of_getElem? (i := 2) rfl
theorem lk_X8_left_69 : Cond.fieldLink RX8 69 "RiverTolls" "leftCoins" "[I" ∈ wsX8_left := List.mem_of_getElem? (i := 3) rfl
theorem lk_X8_left_72 : Cond.fieldLink RX8 72 "RiverTolls" "leftCount" "I" ∈ wsX8_left := List.mem_of_getElem? (i := 1) rfl
theorem iw_X8_left_X8 : ∀ w ∈ u_ws RX8 TX8 13, w ∈ wsX8_left := fun _ h9 => (List.mem_cons_of_mem _ (List.mem_append_right _ h9))
set_option maxHeartbeats 4000000 in
set_option maxRecDepth 100000 in
theorem c_X8_left (l : Launch) (tA tB : Nat) (ad : Nat → Nat) (S : St) (a1 : Int32) (a2 : Int32) {rv : Int32} {S' : St} (h : m_X8_left S a1 a2 = some (rv, S')) :
    XMet l yX8_left wsX8_left ({ frames := 1, cells := 0, slots := 0, locals := 22 }) KX (.object "RiverTolls$Boat") tA tB [.ref (ad 0), .int a1, .int a2] ad S (some (.int rv)) S' := by
  refine XMet.of (cc := cX8_left) (maxL := 3) (ret := (some .int)) (own := RX8) (lv := [(0, .ref (ad 0)), (1, .int a1), (2, .int a2)]) rfl (by decide) rfl (Nat.le_of_ble_eq_true rfl) rfl ?_
  intro p e s m args below meth c D A cI c1 F C
  rw [m_X8_left] at h
  refine px_iload_n C 1 dX8_left_0 rfl rfl ?_
  refine px_if_lt C (tgt := 21) dX8_left_1 (by decide) (fun c1_0 => ?_) (fun c1_0 => ?_)
  · replace h := el_t c1_0 h
    refine px_iconst C (v := (-1 : Int32)) dX8_left_21 (by decide) ?_
    exact px_iretES C dX8_left_22 h
  · replace h := el_f c1_0 h
    refine px_iload_n C 1 dX8_left_4 rfl rfl ?_
    refine px_bipush C (v := (8 : Int32)) dX8_left_5 (by decide) ?_
    refine px_icmp_gt C (tgt := 21) dX8_left_7 (by decide) (fun c7_1 => ?_) (fun c7_1 => ?_)
    · replace h := el_t c7_1 h
      refine px_iconst C (v := (-1 : Int32)) dX8_left_21 (by decide) ?_
      exact px_iretES C dX8_left_22 h
    · replace h := el_f c7_1 h
      refine px_iload_n C 2 dX8_left_10 rfl rfl ?_
      refine px_if_lt C (tgt := 21) dX8_left_11 (by decide) (fun c11_2 => ?_) (fun c11_2 => ?_)
      · replace h := el_t c11_2 h
        refine px_iconst C (v := (-1 : Int32)) dX8_left_21 (by decide) ?_
        exact px_iretES C dX8_left_22 h
      · replace h := el_f c11_2 h
        refine px_iload_n C 2 dX8_left_14 rfl rfl ?_
        refine px_sipush C (v := (900 : Int32)) dX8_left_15 (by decide) ?_
        refine px_icmp_le C (tgt := 23) dX8_left_18 (by decide) (fun c18_3 => ?_) (fun c18_3 => ?_)
        · replace h := el_t c18_3 h
          refine px_aload_n C 0 dX8_left_23 rfl rfl ?_
          refine px_geti C (j := 11) kx_0 rfl rfl iw_X8_left_X8 (by decide) lk_X8_left_72 rfl dX8_left_24 ?_
          refine px_bipush C (v := (6 : Int32)) dX8_left_27 (by decide) ?_
          refine px_icmp_lt C (tgt := 35) dX8_left_29 (by decide) (fun c29_4 => ?_) (fun c29_4 => ?_)
          · replace h := el_t c29_4 h
            refine px_aload_n C 0 dX8_left_35 rfl rfl ?_
            refine px_getr C (j := 9) kx_0 rfl rfl iw_X8_left_X8 (by decide) lk_X8_left_66 rfl dX8_left_36 ?_
            refine px_aload_n C 0 dX8_left_39 rfl rfl ?_
            refine px_geti C (j := 11) kx_0 rfl rfl iw_X8_left_X8 (by decide) lk_X8_left_72 rfl dX8_left_40 ?_
            refine px_iload_n C 1 dX8_left_43 rfl rfl ?_
            obtain ⟨S7, hc44_5, h⟩ := el_b h
            refine px_callS0 C (c_X5_put l tA tB ad S 60 6 (S.1 0 11) a1 kx_60 hc44_5) (va_cwS 3 C.2.2.2.2.1 gX8_left_X5_put rfl rfl rfl (by decide +kernel) ⟨Nat.le_of_ble_eq_true rfl, Nat.le_of_ble_eq_true rfl⟩) ⟨Nat.zero_le _, Nat.zero_le _⟩ rfl rfl (Nat.le_of_ble_eq_true rfl) dX8_left_44 ?_
            refine px_aload_n C 0 dX8_left_47 rfl rfl ?_
            refine px_getr C (j := 10) kx_0 rfl rfl iw_X8_left_X8 (by decide) lk_X8_left_69 rfl dX8_left_48 ?_
            refine px_aload_n C 0 dX8_left_51 rfl rfl ?_
            refine px_geti C (j := 11) kx_0 rfl rfl iw_X8_left_X8 (by decide) lk_X8_left_72 rfl dX8_left_52 ?_
            refine px_iload_n C 2 dX8_left_55 rfl rfl ?_
            obtain ⟨S9, hc56_7, h⟩ := el_b h
            refine px_callS0 C (c_X5_put l tA tB ad S7 61 6 (S7.1 0 11) a2 kx_61 hc56_7) (va_cwS 3 C.2.2.2.2.1 gX8_left_X5_put rfl rfl rfl (by decide +kernel) ⟨Nat.le_of_ble_eq_true rfl, Nat.le_of_ble_eq_true rfl⟩) ⟨Nat.zero_le _, Nat.zero_le _⟩ rfl rfl (Nat.le_of_ble_eq_true rfl) dX8_left_56 ?_
            refine px_aload_n C 0 dX8_left_59 rfl rfl ?_
            refine px_dup C dX8_left_60 rfl ?_
            refine px_geti C (j := 11) kx_0 rfl rfl iw_X8_left_X8 (by decide) lk_X8_left_72 rfl dX8_left_61 ?_
            refine px_iconst C (v := (1 : Int32)) dX8_left_64 (by decide) ?_
            refine px_iadd C dX8_left_65 ?_
            obtain ⟨S10, eS10, h⟩ := el_lt h
            refine px_puti C (ty := .int) (j := 11) kx_0 rfl rfl iw_X8_left_X8 (by decide) lk_X8_left_72 rfl tyX8 tyX8_ok nmX8 rfl (by decide +kernel) rfl rfl dX8_left_66 ?_
            refine px_nmS eS10 ?_
            refine px_aload_n C 0 dX8_left_69 rfl rfl ?_
            refine px_geti C (j := 11) kx_0 rfl rfl iw_X8_left_X8 (by decide) lk_X8_left_72 rfl dX8_left_70 ?_
            exact px_iretES C dX8_left_73 h
          · replace h := el_f c29_4 h
            refine px_bipush C (v := (-3 : Int32)) dX8_left_32 (by decide) ?_
            exact px_iretES C dX8_left_34 h
        · replace h := el_f c18_3 h
          refine px_iconst C (v := (-1 : Int32)) dX8_left_21 (by decide) ?_
          exact px_iretES C dX8_left_22 h
theorem lk_X8_paidIfToll_38 : Cond.fieldLink RX8 38 "RiverTolls" "boat" "LRiverTolls$Boat;" ∈ wsX8_paidIfToll := List.mem_of_getElem? (i := 2) rfl
theorem lk_X8_paidIfToll_62 : Cond.fieldLink RX8 62 "RiverTolls" "route" "LRiverTolls$Route;" ∈ wsX8_paidIfToll := List.mem_of_getElem? (i := 1) rfl
theorem lk_X8_paidIfToll_206 : Cond.fieldLink RX8 206 "RiverTolls$Route" "paid" "[I" ∈ wsX8_paidIfToll := List.mem_of_getElem? (i := 4) rfl
theorem lk_X8_paidIfToll_270 : Cond.fieldLink RX8 270 "RiverTolls$Route" "tolls" "[I" ∈ wsX8_paidIfToll := List.mem_of_getElem? (i := 3) rfl
theorem iw_X8_paidIfToll_X4 : ∀ w ∈ u_ws RX4 TX4 14, w ∈ wsX8_paidIfToll := fun _ h9 => (List.mem_cons_of_mem _ (List.mem_append_left _ (List.mem_append_left _ (List.mem_append_right _ h9))))
theorem iw_X8_paidIfToll_X8 : ∀ w ∈ u_ws RX8 TX8 13, w ∈ wsX8_paidIfToll := fun _ h9 => (List.mem_cons_of_mem _ (List.mem_append_left _ (List.mem_append_left _ (List.mem_append_left _ (List.mem_append_right _ h9)))))
set_option maxHeartbeats 4000000 in
set_option maxRecDepth 100000 in
theorem c_X8_paidIfToll (l : Launch) (tA tB : Nat) (ad : Nat → Nat) (fu : Nat) (S : St) (a1 : Int32) (a2 : Int32) {rv : Int32} {S' : St} (h : m_X8_paidIfToll fu S a1 a2 = some (rv, S')) :
    XMet l yX8_paidIfToll wsX8_paidIfToll ({ frames := 5, cells := 0, slots := 0, locals := 110 }) KX (.object "RiverTolls$Boat") tA tB [.ref (ad 0), .int a1, .int a2] ad S (some (.int rv)) S' := by
  refine XMet.of (cc := cX8_paidIfToll) (maxL := 3) (ret := (some .int)) (own := RX8) (lv := [(0, .ref (ad 0)), (1, .int a1), (2, .int a2)]) rfl (by decide) rfl (Nat.le_of_ble_eq_true rfl) rfl ?_
  intro p e s m args below meth c D A cI c1 F C
  rw [m_X8_paidIfToll] at h
  refine px_aload_n C 0 dX8_paidIfToll_0 rfl rfl ?_
  refine px_getr C (j := 8) kx_0 rfl rfl iw_X8_paidIfToll_X8 (by decide) lk_X8_paidIfToll_62 rfl dX8_paidIfToll_1 ?_
  refine px_aload_n C 0 dX8_paidIfToll_4 rfl rfl ?_
  refine px_getr C (j := 4) kx_0 rfl rfl iw_X8_paidIfToll_X8 (by decide) lk_X8_paidIfToll_38 rfl dX8_paidIfToll_5 ?_
  obtain ⟨S2, hc8_0, h⟩ := el_b h
  refine px_callV0 C (c_X4_load l tA tB ad fu S hc8_0) (cwV 1 C.2.2.2.2.1 gX8_paidIfToll_X4_load rfl rfl rfl (by decide +kernel) ⟨Nat.le_of_ble_eq_true rfl, Nat.le_of_ble_eq_true rfl⟩) ⟨Nat.zero_le _, Nat.zero_le _⟩ kx_51 rfl rfl rfl (Nat.le_of_ble_eq_true rfl) dX8_paidIfToll_8 ?_
  refine px_aload_n C 0 dX8_paidIfToll_11 rfl rfl ?_
  refine px_getr C (j := 8) kx_0 rfl rfl iw_X8_paidIfToll_X8 (by decide) lk_X8_paidIfToll_62 rfl dX8_paidIfToll_12 ?_
  refine px_getr C (j := 3) kx_51 rfl rfl iw_X8_paidIfToll_X4 (by decide) lk_X8_paidIfToll_270 rfl dX8_paidIfToll_15 ?_
  refine px_iload_n C 1 dX8_paidIfToll_18 rfl rfl ?_
  refine px_iload_n C 2 dX8_paidIfToll_19 rfl rfl ?_
  obtain ⟨S4, hc20_2, h⟩ := el_b h
  refine px_callS0 C (c_X5_put l tA tB ad S2 52 8 a1 a2 kx_52 hc20_2) (va_cwS 3 C.2.2.2.2.1 gX8_paidIfToll_X5_put rfl rfl rfl (by decide +kernel) ⟨Nat.le_of_ble_eq_true rfl, Nat.le_of_ble_eq_true rfl⟩) ⟨Nat.zero_le _, Nat.zero_le _⟩ rfl rfl (Nat.le_of_ble_eq_true rfl) dX8_paidIfToll_20 ?_
  refine px_aload_n C 0 dX8_paidIfToll_23 rfl rfl ?_
  refine px_getr C (j := 8) kx_0 rfl rfl iw_X8_paidIfToll_X8 (by decide) lk_X8_paidIfToll_62 rfl dX8_paidIfToll_24 ?_
  obtain ⟨S6, hc27_4, h⟩ := el_b h
  refine px_callV0 C (c_X4_solve l tA tB ad fu S4 hc27_4) (cwV 0 C.2.2.2.2.1 gX8_paidIfToll_X4_solve rfl rfl rfl (by decide +kernel) ⟨Nat.le_of_ble_eq_true rfl, Nat.le_of_ble_eq_true rfl⟩) ⟨Nat.zero_le _, Nat.zero_le _⟩ kx_51 rfl rfl rfl (Nat.le_of_ble_eq_true rfl) dX8_paidIfToll_27 ?_
  refine px_aload_n C 0 dX8_paidIfToll_30 rfl rfl ?_
  refine px_getr C (j := 8) kx_0 rfl rfl iw_X8_paidIfToll_X8 (by decide) lk_X8_paidIfToll_62 rfl dX8_paidIfToll_31 ?_
  refine px_getr C (j := 4) kx_51 rfl rfl iw_X8_paidIfToll_X4 (by decide) lk_X8_paidIfToll_206 rfl dX8_paidIfToll_34 ?_
  refine px_iload_n C 1 dX8_paidIfToll_37 rfl rfl ?_
  obtain ⟨x8, hc38_6, h⟩ := el_b h
  refine px_callS1 C (c_X5_get l tA tB ad S6 53 8 a1 kx_53 hc38_6) (va_cwS 2 C.2.2.2.2.1 gX8_paidIfToll_X5_get rfl rfl rfl (by decide +kernel) ⟨Nat.le_of_ble_eq_true rfl, Nat.le_of_ble_eq_true rfl⟩) ⟨Nat.zero_le _, Nat.zero_le _⟩ rfl rfl (Nat.le_of_ble_eq_true rfl) dX8_paidIfToll_38 ?_
  exact px_iretES C dX8_paidIfToll_41 h
theorem lk_X8_most_38 : Cond.fieldLink RX8 38 "RiverTolls" "boat" "LRiverTolls$Boat;" ∈ wsX8_most := List.mem_of_getElem? (i := 1) rfl
theorem lk_X8_most_127 : Cond.fieldLink RX8 127 "RiverTolls$Boat" "at" "I" ∈ wsX8_most := List.mem_of_getElem? (i := 2) rfl
theorem iw_X8_most_X0 : ∀ w ∈ u_ws RX0 TX0 8, w ∈ wsX8_most := fun _ h9 => (List.mem_cons_of_mem _ (List.mem_append_left _ (List.mem_append_left _ (List.mem_append_right _ h9))))
theorem iw_X8_most_X8 : ∀ w ∈ u_ws RX8 TX8 13, w ∈ wsX8_most := fun _ h9 => (List.mem_cons_of_mem _ (List.mem_append_left _ (List.mem_append_left _ (List.mem_append_left _ (List.mem_append_right _ h9)))))
set_option maxHeartbeats 4000000 in
set_option maxRecDepth 100000 in
theorem c_X8_most (l : Launch) (tA tB : Nat) (ad : Nat → Nat) (fu : Nat) (S : St) (a1 : Int32) (a2 : Int32) {rv : Int32} {S' : St} (h : m_X8_most fu S a1 a2 = some (rv, S')) :
    XMet l yX8_most wsX8_most ({ frames := 6, cells := 0, slots := 0, locals := 132 }) KX (.object "RiverTolls$Boat") tA tB [.ref (ad 0), .int a1, .int a2] ad S (some (.int rv)) S' := by
  refine XMet.of (cc := cX8_most) (maxL := 7) (ret := (some .int)) (own := RX8) (lv := [(0, .ref (ad 0)), (1, .int a1), (2, .int a2)]) rfl (by decide) rfl (Nat.le_of_ble_eq_true rfl) rfl ?_
  intro p e s m args below meth c D A cI c1 F C
  rw [m_X8_most] at h
  refine px_aload_n C 0 dX8_most_0 rfl rfl ?_
  refine px_iload_n C 1 dX8_most_1 rfl rfl ?_
  obtain ⟨x2, hc2_0, h⟩ := el_b h
  refine px_callV1 C (c_X8_isRock l tA tB ad S a1 hc2_0) (cwV 1 C.2.2.2.2.1 gX8_most_X8_isRock rfl rfl rfl (by decide +kernel) ⟨Nat.le_of_ble_eq_true rfl, Nat.le_of_ble_eq_true rfl⟩) ⟨Nat.zero_le _, Nat.zero_le _⟩ kx_0 rfl rfl rfl (Nat.le_of_ble_eq_true rfl) dX8_most_2 ?_
  refine px_if_eq C (tgt := 17) dX8_most_5 (by decide) (fun c5_2 => ?_) (fun c5_2 => ?_)
  · replace h := el_t c5_2 h
    refine px_iconst C (v := (-1 : Int32)) dX8_most_17 (by decide) ?_
    exact px_iretES C dX8_most_18 h
  · replace h := el_f c5_2 h
    refine px_iload_n C 2 dX8_most_8 rfl rfl ?_
    refine px_if_lt C (tgt := 17) dX8_most_9 (by decide) (fun c9_3 => ?_) (fun c9_3 => ?_)
    · replace h := el_t c9_3 h
      refine px_iconst C (v := (-1 : Int32)) dX8_most_17 (by decide) ?_
      exact px_iretES C dX8_most_18 h
    · replace h := el_f c9_3 h
      refine px_iload_n C 2 dX8_most_12 rfl rfl ?_
      refine px_iconst C (v := (1 : Int32)) dX8_most_13 (by decide) ?_
      refine px_icmp_le C (tgt := 19) dX8_most_14 (by decide) (fun c14_4 => ?_) (fun c14_4 => ?_)
      · replace h := el_t c14_4 h
        refine px_iload_n C 1 dX8_most_19 rfl rfl ?_
        refine px_aload_n C 0 dX8_most_20 rfl rfl ?_
        refine px_getr C (j := 4) kx_0 rfl rfl iw_X8_most_X8 (by decide) lk_X8_most_38 rfl dX8_most_21 ?_
        refine px_geti C (j := 0) kx_8 rfl rfl iw_X8_most_X0 (by decide) lk_X8_most_127 rfl dX8_most_24 ?_
        refine px_icmp_lt C (tgt := 41) dX8_most_27 (by decide) (fun c27_5 => ?_) (fun c27_5 => ?_)
        · replace h := el_t c27_5 h
          refine px_bipush C (v := (-9 : Int32)) dX8_most_41 (by decide) ?_
          exact px_iretES C dX8_most_43 h
        · replace h := el_f c27_5 h
          refine px_aload_n C 0 dX8_most_30 rfl rfl ?_
          refine px_getr C (j := 4) kx_0 rfl rfl iw_X8_most_X8 (by decide) lk_X8_most_38 rfl dX8_most_31 ?_
          refine px_iload_n C 1 dX8_most_34 rfl rfl ?_
          obtain ⟨x8, hc35_6, h⟩ := el_b h
          refine px_callV1 C (c_X0_isBroken l tA tB ad S a1 hc35_6) (cwV 1 C.2.2.2.2.1 gX8_most_X0_isBroken rfl rfl rfl (by decide +kernel) ⟨Nat.le_of_ble_eq_true rfl, Nat.le_of_ble_eq_true rfl⟩) ⟨Nat.zero_le _, Nat.zero_le _⟩ kx_8 rfl rfl rfl (Nat.le_of_ble_eq_true rfl) dX8_most_35 ?_
          refine px_if_eq C (tgt := 44) dX8_most_38 (by decide) (fun c38_8 => ?_) (fun c38_8 => ?_)
          · replace h := el_t c38_8 h
            refine px_iconst C (v := (0 : Int32)) dX8_most_44 (by decide) ?_
            refine px_istore_n C [(3, .int (0 : Int32)), (0, .ref (ad 0)), (1, .int a1), (2, .int a2)] dX8_most_45 rfl (by decide) rfl ?_
            refine px_iconst C (v := (0 : Int32)) dX8_most_46 (by decide) ?_
            refine px_istore C [(4, .int (0 : Int32)), (3, .int (0 : Int32)), (0, .ref (ad 0)), (1, .int a1), (2, .int a2)] dX8_most_47 (by decide) rfl ?_
            refine px_iconst C (v := (0 : Int32)) dX8_most_49 (by decide) ?_
            refine px_istore C [(5, .int (0 : Int32)), (4, .int (0 : Int32)), (3, .int (0 : Int32)), (0, .ref (ad 0)), (1, .int a1), (2, .int a2)] dX8_most_50 (by decide) rfl ?_
            have hx0 : ∀  (x14 : Int32) (x15 : Int32) (x16 : Int32) (S17 : St), m_X8_most_r0 a2 x14 x15 x16 S17 = some (rv, S') → PW p l e { frames := 6, cells := 0, slots := 0, locals := 132 } s m args below meth c (MQ below (QX KX A D cI c1 F ad (some (.int rv)) S') args s 0 0 A) D A cI c1 F KX ad 7 0 0 S17 [(0, .ref (ad 0)), (1, .int a1), (2, .int a2), (3, .int x14), (4, .int x15), (5, .int x16)] 88 [] := by
              intro x14 x15 x16 S17 h
              rw [m_X8_most_r0] at h
              refine px_iload_n C 2 dX8_most_88 rfl rfl ?_
              refine px_if_ne C (tgt := 96) dX8_most_89 (by decide) (fun c89_17 => ?_) (fun c89_17 => ?_)
              · replace h := el_t c89_17 h
                refine px_iload C 4 dX8_most_96 rfl ?_
                exact px_iretES C dX8_most_98 h
              · replace h := el_fn c89_17 h
                refine px_iload_n C 3 dX8_most_92 rfl rfl ?_
                refine px_goto C (tgt := 98) dX8_most_93 (by decide) ?_
                exact px_iretES C dX8_most_98 h
            have hl0 : ∀ (n_0 : Nat) (x10 : Int32) (x11 : Int32) (x12 : Int32) (S13 : St), m_X8_most_L0 fu a1 (m_X8_most_r0 a2) n_0 x10 x11 x12 S13 = some (rv, S') → PW p l e { frames := 6, cells := 0, slots := 0, locals := 132 } s m args below meth c (MQ below (QX KX A D cI c1 F ad (some (.int rv)) S') args s 0 0 A) D A cI c1 F KX ad 7 0 0 S13 [(0, .ref (ad 0)), (1, .int a1), (2, .int a2), (3, .int x10), (4, .int x11), (5, .int x12)] 52 [] := by
              intro n_0
              induction n_0 with
              | zero =>
                intro x10 x11 x12 S13 h
                rw [m_X8_most_L0_z] at h
                cases h
              | succ n_0 ih0 =>
                intro x10 x11 x12 S13 h
                rw [m_X8_most_L0_s] at h
                refine px_iload C 5 dX8_most_52 rfl ?_
                refine px_bipush C (v := (9 : Int32)) dX8_most_54 (by decide) ?_
                refine px_icmp_gt C (tgt := 88) dX8_most_56 (by decide) (fun c56_18 => ?_) (fun c56_18 => ?_)
                · replace h := el_t c56_18 h
                  exact (hx0 _ _ _ _ h)
                · replace h := el_f c56_18 h
                  refine px_aload_n C 0 dX8_most_59 rfl rfl ?_
                  refine px_iload_n C 1 dX8_most_60 rfl rfl ?_
                  refine px_iload C 5 dX8_most_61 rfl ?_
                  obtain ⟨x21, S22, hc63_19, h⟩ := el_b2 h
                  refine px_callV1 C (c_X8_paidIfToll l tA tB ad fu S13 a1 x12 hc63_19) (cwV 2 C.2.2.2.2.1 gX8_most_X8_paidIfToll rfl rfl rfl (by decide +kernel) ⟨Nat.le_of_ble_eq_true rfl, Nat.le_of_ble_eq_true rfl⟩) ⟨Nat.zero_le _, Nat.zero_le _⟩ kx_0 rfl rfl rfl (Nat.le_of_ble_eq_true rfl) dX8_most_63 ?_
                  refine px_istore C [(6, .int x21), (0, .ref (ad 0)), (1, .int a1), (2, .int a2), (3, .int x10), (4, .int x11), (5, .int x12)] dX8_most_66 (by decide) rfl ?_
                  refine px_iload C 0 dX8_most_68 rfl ?_
                  refine px_iload C 5 dX8_most_70 rfl ?_
                  obtain ⟨x24, x25, hr72_26, h⟩ := el_b2 h
                  have hj72_25 : PW p l e { frames := 6, cells := 0, slots := 0, locals := 132 } s m args below meth c (MQ below (QX KX A D cI c1 F ad (some (.int rv)) S') args s 0 0 A) D A cI c1 F KX ad 7 0 0 S22 [(0, .ref (ad 0)), (1, .int a1), (2, .int a2), (3, .int x24), (4, .int x25), (5, .int x12), (6, .int x21)] 82 [] := by
                    refine px_iinc C 5 [(5, .int (x12 + (1 : Int32))), (0, .ref (ad 0)), (1, .int a1), (2, .int a2), (3, .int x24), (4, .int x25), (6, .int x21)] dX8_most_82 rfl rfl (by decide) rfl ?_
                    refine px_goto C (tgt := 52) dX8_most_85 (by decide) ?_
                    exact px_sub [1, 2, 3, 4, 5, 0] rfl (ih0 _ _ _ _ h)
                  clear h
                  have h := hr72_26
                  clear hr72_26
                  refine px_icmp_le C (tgt := 82) dX8_most_72 (by decide) (fun c72_22 => ?_) (fun c72_22 => ?_)
                  · replace h := el_t c72_22 h
                    cases h
                    exact px_sub [1, 2, 3, 4, 5, 6, 0] rfl hj72_25
                  · replace h := el_f c72_22 h
                    refine px_iload C 6 dX8_most_75 rfl ?_
                    refine px_istore_n C [(3, .int x12), (6, .int x21), (0, .ref (ad 0)), (1, .int a1), (2, .int a2), (4, .int x11), (5, .int x12)] dX8_most_77 rfl (by decide) rfl ?_
                    refine px_iload C 1 dX8_most_78 rfl ?_
                    refine px_istore C [(4, .int x21), (3, .int x12), (6, .int x21), (0, .ref (ad 0)), (1, .int a1), (2, .int a2), (5, .int x12)] dX8_most_80 (by decide) rfl ?_
                    cases h
                    exact px_sub [3, 4, 5, 1, 0, 6, 2] rfl hj72_25
            exact px_sub [3, 4, 5, 2, 1, 0] rfl (hl0 _ _ _ _ _ h)
          · replace h := el_f c38_8 h
            refine px_bipush C (v := (-9 : Int32)) dX8_most_41 (by decide) ?_
            exact px_iretES C dX8_most_43 h
      · replace h := el_f c14_4 h
        refine px_iconst C (v := (-1 : Int32)) dX8_most_17 (by decide) ?_
        exact px_iretES C dX8_most_18 h
theorem lk_X8_nights_32 : Cond.fieldLink RX8 32 "RiverTolls" "told" "LRiverTolls$River;" ∈ wsX8_nights := List.mem_of_getElem? (i := 4) rfl
theorem lk_X8_nights_38 : Cond.fieldLink RX8 38 "RiverTolls" "boat" "LRiverTolls$Boat;" ∈ wsX8_nights := List.mem_of_getElem? (i := 2) rfl
theorem lk_X8_nights_45 : Cond.fieldLink RX8 45 "RiverTolls" "past" "LRiverTolls$Past;" ∈ wsX8_nights := List.mem_of_getElem? (i := 1) rfl
theorem lk_X8_nights_127 : Cond.fieldLink RX8 127 "RiverTolls$Boat" "at" "I" ∈ wsX8_nights := List.mem_of_getElem? (i := 3) rfl
theorem lk_X8_nights_130 : Cond.fieldLink RX8 130 "RiverTolls$Boat" "barrels" "I" ∈ wsX8_nights := List.mem_of_getElem? (i := 5) rfl
theorem lk_X8_nights_139 : Cond.fieldLink RX8 139 "RiverTolls$Boat" "seized" "I" ∈ wsX8_nights := List.mem_of_getElem? (i := 6) rfl
theorem iw_X8_nights_X0 : ∀ w ∈ u_ws RX0 TX0 8, w ∈ wsX8_nights := fun _ h9 => (List.mem_cons_of_mem _ (List.mem_append_left _ (List.mem_append_left _ (List.mem_append_right _ h9))))
theorem iw_X8_nights_X8 : ∀ w ∈ u_ws RX8 TX8 13, w ∈ wsX8_nights := fun _ h9 => (List.mem_cons_of_mem _ (List.mem_append_left _ (List.mem_append_left _ (List.mem_append_left _ (List.mem_append_right _ h9)))))
set_option maxHeartbeats 4000000 in
set_option maxRecDepth 100000 in
theorem c_X8_nights (l : Launch) (tA tB : Nat) (ad : Nat → Nat) (fu : Nat) (S : St) (a1 : Int32) {rv : Int32} {S' : St} (h : m_X8_nights fu S a1 = some (rv, S')) :
    XMet l yX8_nights wsX8_nights ({ frames := 3, cells := 0, slots := 0, locals := 65 }) KX (.object "RiverTolls$Boat") tA tB [.ref (ad 0), .int a1] ad S (some (.int rv)) S' := by
  refine XMet.of (cc := cX8_nights) (maxL := 4) (ret := (some .int)) (own := RX8) (lv := [(0, .ref (ad 0)), (1, .int a1)]) rfl (by decide) rfl (Nat.le_of_ble_eq_true rfl) rfl ?_
  intro p e s m args below meth c D A cI c1 F C
  rw [m_X8_nights] at h
  refine px_iload_n C 1 dX8_nights_0 rfl rfl ?_
  refine px_if_lt C (tgt := 11) dX8_nights_1 (by decide) (fun c1_0 => ?_) (fun c1_0 => ?_)
  · replace h := el_t c1_0 h
    refine px_iconst C (v := (-1 : Int32)) dX8_nights_11 (by decide) ?_
    exact px_iretES C dX8_nights_12 h
  · replace h := el_f c1_0 h
    refine px_iload_n C 1 dX8_nights_4 rfl rfl ?_
    refine px_sipush C (v := (9999 : Int32)) dX8_nights_5 (by decide) ?_
    refine px_icmp_le C (tgt := 13) dX8_nights_8 (by decide) (fun c8_1 => ?_) (fun c8_1 => ?_)
    · replace h := el_t c8_1 h
      refine px_aload_n C 0 dX8_nights_13 rfl rfl ?_
      obtain ⟨x4, hc14_2, h⟩ := el_b h
      refine px_callV1 C (c_X8_isAtSea l tA tB ad S hc14_2) (cwV 0 C.2.2.2.2.1 gX8_nights_X8_isAtSea rfl rfl rfl (by decide +kernel) ⟨Nat.le_of_ble_eq_true rfl, Nat.le_of_ble_eq_true rfl⟩) ⟨Nat.zero_le _, Nat.zero_le _⟩ kx_0 rfl rfl rfl (Nat.le_of_ble_eq_true rfl) dX8_nights_14 ?_
      refine px_if_eq C (tgt := 23) dX8_nights_17 (by decide) (fun c17_4 => ?_) (fun c17_4 => ?_)
      · replace h := el_t c17_4 h
        refine px_aload_n C 0 dX8_nights_23 rfl rfl ?_
        refine px_getr C (j := 5) kx_0 rfl rfl iw_X8_nights_X8 (by decide) lk_X8_nights_45 rfl dX8_nights_24 ?_
        refine px_aload_n C 0 dX8_nights_27 rfl rfl ?_
        refine px_getr C (j := 4) kx_0 rfl rfl iw_X8_nights_X8 (by decide) lk_X8_nights_38 rfl dX8_nights_28 ?_
        obtain ⟨S7, hc31_5, h⟩ := el_b h
        refine px_callV0 C (c_X1_remember l tA tB ad fu S hc31_5) (cwV 1 C.2.2.2.2.1 gX8_nights_X1_remember rfl rfl rfl (by decide +kernel) ⟨Nat.le_of_ble_eq_true rfl, Nat.le_of_ble_eq_true rfl⟩) ⟨Nat.zero_le _, Nat.zero_le _⟩ kx_11 rfl rfl rfl (Nat.le_of_ble_eq_true rfl) dX8_nights_31 ?_
        refine px_iload_n C 1 dX8_nights_34 rfl rfl ?_
        refine px_aload_n C 0 dX8_nights_35 rfl rfl ?_
        refine px_getr C (j := 4) kx_0 rfl rfl iw_X8_nights_X8 (by decide) lk_X8_nights_38 rfl dX8_nights_36 ?_
        refine px_geti C (j := 0) kx_8 rfl rfl iw_X8_nights_X0 (by decide) lk_X8_nights_127 rfl dX8_nights_39 ?_
        obtain ⟨x9, hc42_7, h⟩ := el_b h
        refine px_callS1 C (c_X8_draw l tA tB ad S7 a1 (S7.1 8 0) hc42_7) (va_cwS 2 C.2.2.2.2.1 gX8_nights_X8_draw rfl rfl rfl (by decide +kernel) ⟨Nat.le_of_ble_eq_true rfl, Nat.le_of_ble_eq_true rfl⟩) ⟨Nat.zero_le _, Nat.zero_le _⟩ rfl rfl (Nat.le_of_ble_eq_true rfl) dX8_nights_42 ?_
        refine px_bipush C (v := (10 : Int32)) dX8_nights_45 (by decide) ?_
        refine px_irem C dX8_nights_47 (by decide) ?_
        refine px_aload_n C 0 dX8_nights_48 rfl rfl ?_
        refine px_getr C (j := 3) kx_0 rfl rfl iw_X8_nights_X8 (by decide) lk_X8_nights_32 rfl dX8_nights_49 ?_
        refine px_aload_n C 0 dX8_nights_52 rfl rfl ?_
        refine px_getr C (j := 4) kx_0 rfl rfl iw_X8_nights_X8 (by decide) lk_X8_nights_38 rfl dX8_nights_53 ?_
        refine px_geti C (j := 0) kx_8 rfl rfl iw_X8_nights_X0 (by decide) lk_X8_nights_127 rfl dX8_nights_56 ?_
        refine px_iconst C (v := (3 : Int32)) dX8_nights_59 (by decide) ?_
        obtain ⟨x11, hc60_9, h⟩ := el_b h
        refine px_callV1 C (c_X3_fact l tA tB ad S7 (S7.1 8 0) (3 : Int32) hc60_9) (cwV 2 C.2.2.2.2.1 gX8_nights_X3_fact rfl rfl rfl (by decide +kernel) ⟨Nat.le_of_ble_eq_true rfl, Nat.le_of_ble_eq_true rfl⟩) ⟨Nat.zero_le _, Nat.zero_le _⟩ kx_6 rfl rfl rfl (Nat.le_of_ble_eq_true rfl) dX8_nights_60 ?_
        obtain ⟨x13, hr63_22, h⟩ := el_b h
        have hj63_13 : PW p l e { frames := 3, cells := 0, slots := 0, locals := 65 } s m args below meth c (MQ below (QX KX A D cI c1 F ad (some (.int rv)) S') args s 0 0 A) D A cI c1 F KX ad 4 0 0 S7 [(0, .ref (ad 0)), (1, .int a1)] 71 [.int x13] := by
          refine px_istore_n C [(2, .int x13), (0, .ref (ad 0)), (1, .int a1)] dX8_nights_71 rfl (by decide) rfl ?_
          refine px_iload_n C 0 dX8_nights_72 rfl rfl ?_
          obtain ⟨x16, hr73_21, h⟩ := el_b h
          have hj73_16 : PW p l e { frames := 3, cells := 0, slots := 0, locals := 65 } s m args below meth c (MQ below (QX KX A D cI c1 F ad (some (.int rv)) S') args s 0 0 A) D A cI c1 F KX ad 4 0 0 S7 [(0, .ref (ad 0)), (1, .int a1), (2, .int x13)] 97 [.int x16] := by
            refine px_istore_n C [(3, .int x16), (0, .ref (ad 0)), (1, .int a1), (2, .int x13)] dX8_nights_97 rfl (by decide) rfl ?_
            refine px_aload_n C 1 dX8_nights_98 rfl rfl ?_
            refine px_getr C (j := 4) kx_0 rfl rfl iw_X8_nights_X8 (by decide) lk_X8_nights_38 rfl dX8_nights_99 ?_
            refine px_dup C dX8_nights_102 rfl ?_
            refine px_geti C (j := 1) kx_8 rfl rfl iw_X8_nights_X0 (by decide) lk_X8_nights_130 rfl dX8_nights_103 ?_
            refine px_iload_n C 0 dX8_nights_106 rfl rfl ?_
            refine px_isub C dX8_nights_107 ?_
            obtain ⟨S18, eS18, h⟩ := el_lt h
            refine px_puti C (ty := .int) (j := 1) kx_8 rfl rfl iw_X8_nights_X0 (by decide) lk_X8_nights_130 rfl tyX0 tyX0_ok nmX0 rfl (by decide +kernel) rfl rfl dX8_nights_108 ?_
            refine px_nmS eS18 ?_
            refine px_aload_n C 1 dX8_nights_111 rfl rfl ?_
            refine px_getr C (j := 4) kx_0 rfl rfl iw_X8_nights_X8 (by decide) lk_X8_nights_38 rfl dX8_nights_112 ?_
            refine px_dup C dX8_nights_115 rfl ?_
            refine px_geti C (j := 4) kx_8 rfl rfl iw_X8_nights_X0 (by decide) lk_X8_nights_139 rfl dX8_nights_116 ?_
            refine px_iload_n C 0 dX8_nights_119 rfl rfl ?_
            refine px_iadd C dX8_nights_120 ?_
            obtain ⟨S19, eS19, h⟩ := el_lt h
            refine px_puti C (ty := .int) (j := 4) kx_8 rfl rfl iw_X8_nights_X0 (by decide) lk_X8_nights_139 rfl tyX0 tyX0_ok nmX0 rfl (by decide +kernel) rfl rfl dX8_nights_121 ?_
            refine px_nmS eS19 ?_
            refine px_aload_n C 1 dX8_nights_124 rfl rfl ?_
            refine px_bipush C (v := (-9 : Int32)) dX8_nights_125 (by decide) ?_
            obtain ⟨S21, hc127_19, h⟩ := el_b h
            refine px_callV0 C (c_X8_goOn l tA tB ad S19 (-9 : Int32) hc127_19) (cwV 1 C.2.2.2.2.1 gX8_nights_X8_goOn rfl rfl rfl (by decide +kernel) ⟨Nat.le_of_ble_eq_true rfl, Nat.le_of_ble_eq_true rfl⟩) ⟨Nat.zero_le _, Nat.zero_le _⟩ kx_0 rfl rfl rfl (Nat.le_of_ble_eq_true rfl) dX8_nights_127 ?_
            refine px_iload_n C 0 dX8_nights_130 rfl rfl ?_
            exact px_iretES C dX8_nights_131 h
          clear h
          have h := hr73_21
          clear hr73_21
          refine px_if_eq C (tgt := 96) dX8_nights_73 (by decide) (fun c73_14 => ?_) (fun c73_14 => ?_)
          · replace h := el_t c73_14 h
            refine px_iconst C (v := (0 : Int32)) dX8_nights_96 (by decide) ?_
            cases h
            exact px_sub [1, 2, 0] rfl hj73_16
          · replace h := el_f c73_14 h
            refine px_aload_n C 1 dX8_nights_76 rfl rfl ?_
            refine px_getr C (j := 4) kx_0 rfl rfl iw_X8_nights_X8 (by decide) lk_X8_nights_38 rfl dX8_nights_77 ?_
            refine px_geti C (j := 1) kx_8 rfl rfl iw_X8_nights_X0 (by decide) lk_X8_nights_130 rfl dX8_nights_80 ?_
            refine px_aload_n C 1 dX8_nights_83 rfl rfl ?_
            refine px_getr C (j := 4) kx_0 rfl rfl iw_X8_nights_X8 (by decide) lk_X8_nights_38 rfl dX8_nights_84 ?_
            refine px_geti C (j := 1) kx_8 rfl rfl iw_X8_nights_X0 (by decide) lk_X8_nights_130 rfl dX8_nights_87 ?_
            refine px_iconst C (v := (2 : Int32)) dX8_nights_90 (by decide) ?_
            refine px_idiv C dX8_nights_91 (by decide) ?_
            refine px_isub C dX8_nights_92 ?_
            refine px_goto C (tgt := 97) dX8_nights_93 (by decide) ?_
            cases h
            exact px_sub [1, 2, 0] rfl hj73_16
        clear h
        have h := hr63_22
        clear hr63_22
        refine px_icmp_ge C (tgt := 70) dX8_nights_63 (by decide) (fun c63_11 => ?_) (fun c63_11 => ?_)
        · replace h := el_t c63_11 h
          refine px_iconst C (v := (0 : Int32)) dX8_nights_70 (by decide) ?_
          cases h
          exact hj63_13
        · replace h := el_f c63_11 h
          refine px_iconst C (v := (1 : Int32)) dX8_nights_66 (by decide) ?_
          refine px_goto C (tgt := 71) dX8_nights_67 (by decide) ?_
          cases h
          exact hj63_13
      · replace h := el_f c17_4 h
        refine px_bipush C (v := (-2 : Int32)) dX8_nights_20 (by decide) ?_
        exact px_iretES C dX8_nights_22 h
    · replace h := el_f c8_1 h
      refine px_iconst C (v := (-1 : Int32)) dX8_nights_11 (by decide) ?_
      exact px_iretES C dX8_nights_12 h
theorem lk_X8_now_38 : Cond.fieldLink RX8 38 "RiverTolls" "boat" "LRiverTolls$Boat;" ∈ wsX8_now := List.mem_of_getElem? (i := 1) rfl
theorem lk_X8_now_45 : Cond.fieldLink RX8 45 "RiverTolls" "past" "LRiverTolls$Past;" ∈ wsX8_now := List.mem_of_getElem? (i := 7) rfl
theorem lk_X8_now_127 : Cond.fieldLink RX8 127 "RiverTolls$Boat" "at" "I" ∈ wsX8_now := List.mem_of_getElem? (i := 2) rfl
theorem lk_X8_now_130 : Cond.fieldLink RX8 130 "RiverTolls$Boat" "barrels" "I" ∈ wsX8_now := List.mem_of_getElem? (i := 3) rfl
theorem lk_X8_now_133 : Cond.fieldLink RX8 133 "RiverTolls$Boat" "coins" "I" ∈ wsX8_now := List.mem_of_getElem? (i := 4) rfl
theorem lk_X8_now_136 : Cond.fieldLink RX8 136 "RiverTolls$Boat" "letter" "I" ∈ wsX8_now := List.mem_of_getElem? (i := 5) rfl
theorem lk_X8_now_139 : Cond.fieldLink RX8 139 "RiverTolls$Boat" "seized" "I" ∈ wsX8_now := List.mem_of_getElem? (i := 6) rfl
theorem lk_X8_now_150 : Cond.fieldLink RX8 150 "RiverTolls$Past" "known" "I" ∈ wsX8_now := List.mem_of_getElem? (i := 8) rfl
theorem iw_X8_now_X0 : ∀ w ∈ u_ws RX0 TX0 8, w ∈ wsX8_now := fun _ h9 => (List.mem_cons_of_mem _ (List.mem_append_left _ (List.mem_append_left _ (List.mem_append_right _ h9))))
theorem iw_X8_now_X1 : ∀ w ∈ u_ws RX1 TX1 3, w ∈ wsX8_now := fun _ h9 => (List.mem_cons_of_mem _ (List.mem_append_left _ (List.mem_append_right _ h9)))
theorem iw_X8_now_X8 : ∀ w ∈ u_ws RX8 TX8 13, w ∈ wsX8_now := fun _ h9 => (List.mem_cons_of_mem _ (List.mem_append_left _ (List.mem_append_left _ (List.mem_append_left _ (List.mem_append_right _ h9)))))
set_option maxHeartbeats 4000000 in
set_option maxRecDepth 100000 in
theorem c_X8_now (l : Launch) (tA tB : Nat) (ad : Nat → Nat) (S : St) (a1 : Int32) {rv : Int32} (h : m_X8_now S a1 = some rv) :
    XMet l yX8_now wsX8_now ({ frames := 5, cells := 0, slots := 0, locals := 109 }) KX (.object "RiverTolls$Boat") tA tB [.ref (ad 0), .int a1] ad S (some (.int rv)) S := by
  refine XMet.of (cc := cX8_now) (maxL := 2) (ret := (some .int)) (own := RX8) (lv := [(0, .ref (ad 0)), (1, .int a1)]) rfl (by decide) rfl (Nat.le_of_ble_eq_true rfl) rfl ?_
  intro p e s m args below meth c D A cI c1 F C
  rw [m_X8_now] at h
  refine px_iload_n C 1 dX8_now_0 rfl rfl ?_
  by_cases c1_0_0 : a1 = (0 : Int32)
  · replace h := el_t c1_0_0 h
    refine px_tableIn C (tgt := 44) dX8_now_1 (by rw [c1_0_0]; decide) (by rw [c1_0_0]; decide) (by rw [c1_0_0]; rfl) (by decide) ?_
    refine px_aload_n C 0 dX8_now_44 rfl rfl ?_
    refine px_getr C (j := 4) kx_0 rfl rfl iw_X8_now_X8 (by decide) lk_X8_now_38 rfl dX8_now_45 ?_
    refine px_geti C (j := 0) kx_8 rfl rfl iw_X8_now_X0 (by decide) lk_X8_now_127 rfl dX8_now_48 ?_
    exact px_iretE C dX8_now_51 h
  replace h := el_f c1_0_0 h
  by_cases c1_0_1 : a1 = (1 : Int32)
  · replace h := el_t c1_0_1 h
    refine px_tableIn C (tgt := 52) dX8_now_1 (by rw [c1_0_1]; decide) (by rw [c1_0_1]; decide) (by rw [c1_0_1]; rfl) (by decide) ?_
    refine px_aload_n C 0 dX8_now_52 rfl rfl ?_
    refine px_getr C (j := 4) kx_0 rfl rfl iw_X8_now_X8 (by decide) lk_X8_now_38 rfl dX8_now_53 ?_
    refine px_geti C (j := 1) kx_8 rfl rfl iw_X8_now_X0 (by decide) lk_X8_now_130 rfl dX8_now_56 ?_
    exact px_iretE C dX8_now_59 h
  replace h := el_f c1_0_1 h
  by_cases c1_0_2 : a1 = (2 : Int32)
  · replace h := el_t c1_0_2 h
    refine px_tableIn C (tgt := 60) dX8_now_1 (by rw [c1_0_2]; decide) (by rw [c1_0_2]; decide) (by rw [c1_0_2]; rfl) (by decide) ?_
    refine px_aload_n C 0 dX8_now_60 rfl rfl ?_
    refine px_getr C (j := 4) kx_0 rfl rfl iw_X8_now_X8 (by decide) lk_X8_now_38 rfl dX8_now_61 ?_
    refine px_geti C (j := 2) kx_8 rfl rfl iw_X8_now_X0 (by decide) lk_X8_now_133 rfl dX8_now_64 ?_
    exact px_iretE C dX8_now_67 h
  replace h := el_f c1_0_2 h
  by_cases c1_0_3 : a1 = (3 : Int32)
  · replace h := el_t c1_0_3 h
    refine px_tableIn C (tgt := 68) dX8_now_1 (by rw [c1_0_3]; decide) (by rw [c1_0_3]; decide) (by rw [c1_0_3]; rfl) (by decide) ?_
    refine px_aload_n C 0 dX8_now_68 rfl rfl ?_
    refine px_getr C (j := 4) kx_0 rfl rfl iw_X8_now_X8 (by decide) lk_X8_now_38 rfl dX8_now_69 ?_
    refine px_geti C (j := 3) kx_8 rfl rfl iw_X8_now_X0 (by decide) lk_X8_now_136 rfl dX8_now_72 ?_
    exact px_iretE C dX8_now_75 h
  replace h := el_f c1_0_3 h
  by_cases c1_0_4 : a1 = (4 : Int32)
  · replace h := el_t c1_0_4 h
    refine px_tableIn C (tgt := 76) dX8_now_1 (by rw [c1_0_4]; decide) (by rw [c1_0_4]; decide) (by rw [c1_0_4]; rfl) (by decide) ?_
    refine px_aload_n C 0 dX8_now_76 rfl rfl ?_
    refine px_getr C (j := 4) kx_0 rfl rfl iw_X8_now_X8 (by decide) lk_X8_now_38 rfl dX8_now_77 ?_
    refine px_geti C (j := 4) kx_8 rfl rfl iw_X8_now_X0 (by decide) lk_X8_now_139 rfl dX8_now_80 ?_
    exact px_iretE C dX8_now_83 h
  replace h := el_f c1_0_4 h
  by_cases c1_0_5 : a1 = (5 : Int32)
  · replace h := el_t c1_0_5 h
    refine px_tableIn C (tgt := 84) dX8_now_1 (by rw [c1_0_5]; decide) (by rw [c1_0_5]; decide) (by rw [c1_0_5]; rfl) (by decide) ?_
    refine px_aload_n C 0 dX8_now_84 rfl rfl ?_
    obtain ⟨x3, hc85_1, h⟩ := el_b h
    refine px_callV1 C (c_X8_isAtSea l tA tB ad S hc85_1) (cwV 0 C.2.2.2.2.1 gX8_now_X8_isAtSea rfl rfl rfl (by decide +kernel) ⟨Nat.le_of_ble_eq_true rfl, Nat.le_of_ble_eq_true rfl⟩) ⟨Nat.zero_le _, Nat.zero_le _⟩ kx_0 rfl rfl rfl (Nat.le_of_ble_eq_true rfl) dX8_now_85 ?_
    refine px_if_eq C (tgt := 96) dX8_now_88 (by decide) (fun c88_3 => ?_) (fun c88_3 => ?_)
    · replace h := el_t c88_3 h
      refine px_aload_n C 0 dX8_now_96 rfl rfl ?_
      obtain ⟨x6, hc97_4, h⟩ := el_b h
      refine px_callV1 C (c_X8_dueHere l tA tB ad S hc97_4) (cwV 0 C.2.2.2.2.1 gX8_now_X8_dueHere rfl rfl rfl (by decide +kernel) ⟨Nat.le_of_ble_eq_true rfl, Nat.le_of_ble_eq_true rfl⟩) ⟨Nat.zero_le _, Nat.zero_le _⟩ kx_0 rfl rfl rfl (Nat.le_of_ble_eq_true rfl) dX8_now_97 ?_
      exact px_iretE C dX8_now_100 h
    · replace h := el_f c88_3 h
      refine px_bipush C (v := (-9 : Int32)) dX8_now_91 (by decide) ?_
      refine px_goto C (tgt := 100) dX8_now_93 (by decide) ?_
      exact px_iretE C dX8_now_100 h
  replace h := el_f c1_0_5 h
  by_cases c1_0_6 : a1 = (6 : Int32)
  · replace h := el_t c1_0_6 h
    refine px_tableIn C (tgt := 101) dX8_now_1 (by rw [c1_0_6]; decide) (by rw [c1_0_6]; decide) (by rw [c1_0_6]; rfl) (by decide) ?_
    refine px_aload_n C 0 dX8_now_101 rfl rfl ?_
    refine px_getr C (j := 5) kx_0 rfl rfl iw_X8_now_X8 (by decide) lk_X8_now_45 rfl dX8_now_102 ?_
    refine px_geti C (j := 0) kx_11 rfl rfl iw_X8_now_X1 (by decide) lk_X8_now_150 rfl dX8_now_105 ?_
    exact px_iretE C dX8_now_108 h
  replace h := el_f c1_0_6 h
  refine px_tableOut C (tgt := 109) dX8_now_1 (sw_out 7 (by decide) (fun k hk => by
    match k, hk with
    | 0, _ => exact c1_0_0
    | 1, _ => exact c1_0_1
    | 2, _ => exact c1_0_2
    | 3, _ => exact c1_0_3
    | 4, _ => exact c1_0_4
    | 5, _ => exact c1_0_5
    | 6, _ => exact c1_0_6)) (by decide) ?_
  refine px_iconst C (v := (-1 : Int32)) dX8_now_109 (by decide) ?_
  exact px_iretE C dX8_now_110 h
theorem lk_X8_odds_32 : Cond.fieldLink RX8 32 "RiverTolls" "told" "LRiverTolls$River;" ∈ wsX8_odds := List.mem_of_getElem? (i := 1) rfl
theorem lk_X8_odds_38 : Cond.fieldLink RX8 38 "RiverTolls" "boat" "LRiverTolls$Boat;" ∈ wsX8_odds := List.mem_of_getElem? (i := 3) rfl
theorem lk_X8_odds_127 : Cond.fieldLink RX8 127 "RiverTolls$Boat" "at" "I" ∈ wsX8_odds := List.mem_of_getElem? (i := 4) rfl
theorem lk_X8_odds_188 : Cond.fieldLink RX8 188 "RiverTolls$River" "rocks" "I" ∈ wsX8_odds := List.mem_of_getElem? (i := 2) rfl
theorem iw_X8_odds_X0 : ∀ w ∈ u_ws RX0 TX0 8, w ∈ wsX8_odds := fun _ h9 => (List.mem_cons_of_mem _ (List.mem_append_right _ h9))
theorem iw_X8_odds_X3 : ∀ w ∈ u_ws RX3 TX3 5, w ∈ wsX8_odds := fun _ h9 => (List.mem_cons_of_mem _ (List.mem_append_left _ (List.mem_append_right _ h9)))
theorem iw_X8_odds_X8 : ∀ w ∈ u_ws RX8 TX8 13, w ∈ wsX8_odds := fun _ h9 => (List.mem_cons_of_mem _ (List.mem_append_left _ (List.mem_append_left _ (List.mem_append_right _ h9))))
set_option maxHeartbeats 4000000 in
set_option maxRecDepth 100000 in
theorem c_X8_odds (l : Launch) (tA tB : Nat) (ad : Nat → Nat) (fu : Nat) (S : St) (a1 : Int32) (a2 : Int32) {rv : Int32} (h : m_X8_odds fu S a1 a2 = some rv) :
    XMet l yX8_odds wsX8_odds ({ frames := 2, cells := 0, slots := 0, locals := 47 }) KX (.object "RiverTolls$Boat") tA tB [.ref (ad 0), .int a1, .int a2] ad S (some (.int rv)) S := by
  refine XMet.of (cc := cX8_odds) (maxL := 6) (ret := (some .int)) (own := RX8) (lv := [(0, .ref (ad 0)), (1, .int a1), (2, .int a2)]) rfl (by decide) rfl (Nat.le_of_ble_eq_true rfl) rfl ?_
  intro p e s m args below meth c D A cI c1 F C
  rw [m_X8_odds] at h
  refine px_iload_n C 1 dX8_odds_0 rfl rfl ?_
  refine px_if_lt C (tgt := 26) dX8_odds_1 (by decide) (fun c1_0 => ?_) (fun c1_0 => ?_)
  · replace h := el_t c1_0 h
    refine px_iconst C (v := (-1 : Int32)) dX8_odds_26 (by decide) ?_
    exact px_iretE C dX8_odds_27 h
  · replace h := el_f c1_0 h
    refine px_iload_n C 1 dX8_odds_4 rfl rfl ?_
    refine px_iconst C (v := (1 : Int32)) dX8_odds_5 (by decide) ?_
    refine px_aload_n C 0 dX8_odds_6 rfl rfl ?_
    refine px_getr C (j := 3) kx_0 rfl rfl iw_X8_odds_X8 (by decide) lk_X8_odds_32 rfl dX8_odds_7 ?_
    refine px_geti C (j := 0) kx_6 rfl rfl iw_X8_odds_X3 (by decide) lk_X8_odds_188 rfl dX8_odds_10 ?_
    refine px_ishl C dX8_odds_13 ?_
    refine px_icmp_ge C (tgt := 26) dX8_odds_14 (by decide) (fun c14_1 => ?_) (fun c14_1 => ?_)
    · replace h := el_t c14_1 h
      refine px_iconst C (v := (-1 : Int32)) dX8_odds_26 (by decide) ?_
      exact px_iretE C dX8_odds_27 h
    · replace h := el_f c14_1 h
      refine px_iload_n C 2 dX8_odds_17 rfl rfl ?_
      refine px_if_lt C (tgt := 26) dX8_odds_18 (by decide) (fun c18_2 => ?_) (fun c18_2 => ?_)
      · replace h := el_t c18_2 h
        refine px_iconst C (v := (-1 : Int32)) dX8_odds_26 (by decide) ?_
        exact px_iretE C dX8_odds_27 h
      · replace h := el_f c18_2 h
        refine px_iload_n C 2 dX8_odds_21 rfl rfl ?_
        refine px_iconst C (v := (1 : Int32)) dX8_odds_22 (by decide) ?_
        refine px_icmp_le C (tgt := 28) dX8_odds_23 (by decide) (fun c23_3 => ?_) (fun c23_3 => ?_)
        · replace h := el_t c23_3 h
          refine px_iconst C (v := (1 : Int32)) dX8_odds_28 (by decide) ?_
          refine px_istore_n C [(3, .int (1 : Int32)), (0, .ref (ad 0)), (1, .int a1), (2, .int a2)] dX8_odds_29 rfl (by decide) rfl ?_
          refine px_iconst C (v := (1 : Int32)) dX8_odds_30 (by decide) ?_
          refine px_istore C [(4, .int (1 : Int32)), (3, .int (1 : Int32)), (0, .ref (ad 0)), (1, .int a1), (2, .int a2)] dX8_odds_31 (by decide) rfl ?_
          refine px_aload_n C 2 dX8_odds_33 rfl rfl ?_
          refine px_getr C (j := 4) kx_0 rfl rfl iw_X8_odds_X8 (by decide) lk_X8_odds_38 rfl dX8_odds_34 ?_
          refine px_geti C (j := 0) kx_8 rfl rfl iw_X8_odds_X0 (by decide) lk_X8_odds_127 rfl dX8_odds_37 ?_
          refine px_istore C [(5, .int (S.1 8 0)), (4, .int (1 : Int32)), (3, .int (1 : Int32)), (0, .ref (ad 0)), (1, .int a1), (2, .int a2)] dX8_odds_40 (by decide) rfl ?_
          have hx0 : ∀  (x8 : Int32) (x9 : Int32) (x10 : Int32), m_X8_odds_r0 fu a2 x8 x9 x10 = some rv → PW p l e { frames := 2, cells := 0, slots := 0, locals := 47 } s m args below meth c (MQ below (QX KX A D cI c1 F ad (some (.int rv)) S) args s 0 0 A) D A cI c1 F KX ad 6 0 0 S [(0, .ref (ad 0)), (1, .int a1), (2, .int a2), (3, .int x8), (4, .int x9), (5, .int x10)] 93 [] := by
            intro x8 x9 x10 h
            rw [m_X8_odds_r0] at h
            refine px_iload_n C 2 dX8_odds_93 rfl rfl ?_
            refine px_if_ne C (tgt := 106) dX8_odds_94 (by decide) (fun c94_10 => ?_) (fun c94_10 => ?_)
            · replace h := el_t c94_10 h
              refine px_iload C 4 dX8_odds_106 rfl ?_
              refine px_iload_n C 3 dX8_odds_108 rfl rfl ?_
              obtain ⟨x13, hc109_11, h⟩ := el_b h
              refine px_callS1 C (c_X6_inLeastTerms l tA tB ad fu S x9 x8 hc109_11) (va_cwS 2 C.2.2.2.2.1 gX8_odds_X6_inLeastTerms rfl rfl rfl (by decide +kernel) ⟨Nat.le_of_ble_eq_true rfl, Nat.le_of_ble_eq_true rfl⟩) ⟨Nat.zero_le _, Nat.zero_le _⟩ rfl rfl (Nat.le_of_ble_eq_true rfl) dX8_odds_109 ?_
              exact px_iretE C dX8_odds_112 h
            · replace h := el_fn c94_10 h
              refine px_iload_n C 3 dX8_odds_97 rfl rfl ?_
              refine px_iload C 4 dX8_odds_98 rfl ?_
              obtain ⟨x15, hc100_13, h⟩ := el_b h
              refine px_callS1 C (c_X6_inLeastTerms l tA tB ad fu S x8 x9 hc100_13) (va_cwS 2 C.2.2.2.2.1 gX8_odds_X6_inLeastTerms rfl rfl rfl (by decide +kernel) ⟨Nat.le_of_ble_eq_true rfl, Nat.le_of_ble_eq_true rfl⟩) ⟨Nat.zero_le _, Nat.zero_le _⟩ rfl rfl (Nat.le_of_ble_eq_true rfl) dX8_odds_100 ?_
              refine px_goto C (tgt := 112) dX8_odds_103 (by decide) ?_
              exact px_iretE C dX8_odds_112 h
          have hl0 : ∀ (n_0 : Nat) (x5 : Int32) (x6 : Int32) (x7 : Int32), m_X8_odds_L0 a1 S (m_X8_odds_r0 fu a2) n_0 x5 x6 x7 = some rv → PW p l e { frames := 2, cells := 0, slots := 0, locals := 47 } s m args below meth c (MQ below (QX KX A D cI c1 F ad (some (.int rv)) S) args s 0 0 A) D A cI c1 F KX ad 6 0 0 S [(0, .ref (ad 0)), (1, .int a1), (2, .int a2), (3, .int x5), (4, .int x6), (5, .int x7)] 42 [] := by
            intro n_0
            induction n_0 with
            | zero =>
              intro x5 x6 x7 h
              rw [m_X8_odds_L0_z] at h
              cases h
            | succ n_0 ih0 =>
              intro x5 x6 x7 h
              rw [m_X8_odds_L0_s] at h
              refine px_iload C 5 dX8_odds_42 rfl ?_
              refine px_aload_n C 0 dX8_odds_44 rfl rfl ?_
              refine px_getr C (j := 3) kx_0 rfl rfl iw_X8_odds_X8 (by decide) lk_X8_odds_32 rfl dX8_odds_45 ?_
              refine px_geti C (j := 0) kx_6 rfl rfl iw_X8_odds_X3 (by decide) lk_X8_odds_188 rfl dX8_odds_48 ?_
              refine px_icmp_ge C (tgt := 93) dX8_odds_51 (by decide) (fun c51_15 => ?_) (fun c51_15 => ?_)
              · replace h := el_t c51_15 h
                exact (hx0 _ _ _ h)
              · replace h := el_f c51_15 h
                refine px_iload_n C 1 dX8_odds_54 rfl rfl ?_
                refine px_iload C 5 dX8_odds_55 rfl ?_
                refine px_ishr C dX8_odds_57 ?_
                refine px_iconst C (v := (1 : Int32)) dX8_odds_58 (by decide) ?_
                refine px_iand C dX8_odds_59 ?_
                refine px_iconst C (v := (1 : Int32)) dX8_odds_60 (by decide) ?_
                obtain ⟨x18, x19, hr61_22, h⟩ := el_b2 h
                have hj61_19 : PW p l e { frames := 2, cells := 0, slots := 0, locals := 47 } s m args below meth c (MQ below (QX KX A D cI c1 F ad (some (.int rv)) S) args s 0 0 A) D A cI c1 F KX ad 6 0 0 S [(0, .ref (ad 0)), (1, .int a1), (2, .int a2), (3, .int x18), (4, .int x19), (5, .int x7)] 87 [] := by
                  refine px_iinc C 5 [(5, .int (x7 + (1 : Int32))), (0, .ref (ad 0)), (1, .int a1), (2, .int a2), (3, .int x18), (4, .int x19)] dX8_odds_87 rfl rfl (by decide) rfl ?_
                  refine px_goto C (tgt := 42) dX8_odds_90 (by decide) ?_
                  exact px_sub [1, 2, 3, 4, 5, 0] rfl (ih0 _ _ _ h)
                clear h
                have h := hr61_22
                clear hr61_22
                refine px_icmp_ne C (tgt := 87) dX8_odds_61 (by decide) (fun c61_16 => ?_) (fun c61_16 => ?_)
                · replace h := el_t c61_16 h
                  cases h
                  exact hj61_19
                · replace h := el_fn c61_16 h
                  refine px_iload_n C 3 dX8_odds_64 rfl rfl ?_
                  refine px_bipush C (v := (10 : Int32)) dX8_odds_65 (by decide) ?_
                  refine px_aload_n C 0 dX8_odds_67 rfl rfl ?_
                  refine px_getr C (j := 3) kx_0 rfl rfl iw_X8_odds_X8 (by decide) lk_X8_odds_32 rfl dX8_odds_68 ?_
                  refine px_iload C 5 dX8_odds_71 rfl ?_
                  refine px_iconst C (v := (3 : Int32)) dX8_odds_73 (by decide) ?_
                  obtain ⟨x22, hc74_20, h⟩ := el_b h
                  refine px_callV1 C (c_X3_fact l tA tB ad S x7 (3 : Int32) hc74_20) (cwV 2 C.2.2.2.2.1 gX8_odds_X3_fact rfl rfl rfl (by decide +kernel) ⟨Nat.le_of_ble_eq_true rfl, Nat.le_of_ble_eq_true rfl⟩) ⟨Nat.zero_le _, Nat.zero_le _⟩ kx_6 rfl rfl rfl (Nat.le_of_ble_eq_true rfl) dX8_odds_74 ?_
                  refine px_isub C dX8_odds_77 ?_
                  refine px_imul C dX8_odds_78 ?_
                  refine px_istore_n C [(3, .int (x5 * ((10 : Int32) - x22))), (0, .ref (ad 0)), (1, .int a1), (2, .int a2), (4, .int x6), (5, .int x7)] dX8_odds_79 rfl (by decide) rfl ?_
                  refine px_iload C 4 dX8_odds_80 rfl ?_
                  refine px_bipush C (v := (10 : Int32)) dX8_odds_82 (by decide) ?_
                  refine px_imul C dX8_odds_84 ?_
                  refine px_istore C [(4, .int (x6 * (10 : Int32))), (3, .int (x5 * ((10 : Int32) - x22))), (0, .ref (ad 0)), (1, .int a1), (2, .int a2), (5, .int x7)] dX8_odds_85 (by decide) rfl ?_
                  cases h
                  exact px_sub [2, 3, 4, 1, 0, 5] rfl hj61_19
          exact px_sub [3, 4, 5, 2, 1, 0] rfl (hl0 _ _ _ _ h)
        · replace h := el_f c23_3 h
          refine px_iconst C (v := (-1 : Int32)) dX8_odds_26 (by decide) ?_
          exact px_iretE C dX8_odds_27 h
theorem lk_X8_one_38 : Cond.fieldLink RX8 38 "RiverTolls" "boat" "LRiverTolls$Boat;" ∈ wsX8_one := List.mem_of_getElem? (i := 1) rfl
theorem lk_X8_one_62 : Cond.fieldLink RX8 62 "RiverTolls" "route" "LRiverTolls$Route;" ∈ wsX8_one := List.mem_of_getElem? (i := 3) rfl
theorem lk_X8_one_130 : Cond.fieldLink RX8 130 "RiverTolls$Boat" "barrels" "I" ∈ wsX8_one := List.mem_of_getElem? (i := 2) rfl
theorem lk_X8_one_194 : Cond.fieldLink RX8 194 "RiverTolls$Route" "total" "I" ∈ wsX8_one := List.mem_of_getElem? (i := 4) rfl
theorem iw_X8_one_X0 : ∀ w ∈ u_ws RX0 TX0 8, w ∈ wsX8_one := fun _ h9 => (List.mem_cons_of_mem _ (List.mem_append_left _ (List.mem_append_left _ (List.mem_append_right _ h9))))
theorem iw_X8_one_X4 : ∀ w ∈ u_ws RX4 TX4 14, w ∈ wsX8_one := fun _ h9 => (List.mem_cons_of_mem _ (List.mem_append_left _ (List.mem_append_right _ h9)))
theorem iw_X8_one_X8 : ∀ w ∈ u_ws RX8 TX8 13, w ∈ wsX8_one := fun _ h9 => (List.mem_cons_of_mem _ (List.mem_append_left _ (List.mem_append_left _ (List.mem_append_left _ (List.mem_append_right _ h9)))))
set_option maxHeartbeats 4000000 in
set_option maxRecDepth 100000 in
theorem c_X8_one (l : Launch) (tA tB : Nat) (ad : Nat → Nat) (fu : Nat) (S : St) {rv : Int32} {S' : St} (h : m_X8_one fu S = some (rv, S')) :
    XMet l yX8_one wsX8_one ({ frames := 6, cells := 0, slots := 0, locals := 130 }) KX (.object "RiverTolls$Boat") tA tB [.ref (ad 0)] ad S (some (.int rv)) S' := by
  refine XMet.of (cc := cX8_one) (maxL := 1) (ret := (some .int)) (own := RX8) (lv := [(0, .ref (ad 0))]) rfl (by decide) rfl (Nat.le_of_ble_eq_true rfl) rfl ?_
  intro p e s m args below meth c D A cI c1 F C
  rw [m_X8_one] at h
  refine px_aload_n C 0 dX8_one_0 rfl rfl ?_
  refine px_getr C (j := 4) kx_0 rfl rfl iw_X8_one_X8 (by decide) lk_X8_one_38 rfl dX8_one_1 ?_
  refine px_geti C (j := 1) kx_8 rfl rfl iw_X8_one_X0 (by decide) lk_X8_one_130 rfl dX8_one_4 ?_
  refine px_if_gt C (tgt := 13) dX8_one_7 (by decide) (fun c7_0 => ?_) (fun c7_0 => ?_)
  · replace h := el_t c7_0 h
    refine px_aload_n C 0 dX8_one_13 rfl rfl ?_
    obtain ⟨S3, hc14_1, h⟩ := el_b h
    refine px_callV0 C (c_X8_findWay l tA tB ad fu S hc14_1) (cwV 0 C.2.2.2.2.1 gX8_one_X8_findWay rfl rfl rfl (by decide +kernel) ⟨Nat.le_of_ble_eq_true rfl, Nat.le_of_ble_eq_true rfl⟩) ⟨Nat.zero_le _, Nat.zero_le _⟩ kx_0 rfl rfl rfl (Nat.le_of_ble_eq_true rfl) dX8_one_14 ?_
    refine px_aload_n C 0 dX8_one_17 rfl rfl ?_
    refine px_getr C (j := 8) kx_0 rfl rfl iw_X8_one_X8 (by decide) lk_X8_one_62 rfl dX8_one_18 ?_
    refine px_geti C (j := 2) kx_51 rfl rfl iw_X8_one_X4 (by decide) lk_X8_one_194 rfl dX8_one_21 ?_
    refine px_aload_n C 0 dX8_one_24 rfl rfl ?_
    refine px_getr C (j := 4) kx_0 rfl rfl iw_X8_one_X8 (by decide) lk_X8_one_38 rfl dX8_one_25 ?_
    refine px_geti C (j := 1) kx_8 rfl rfl iw_X8_one_X0 (by decide) lk_X8_one_130 rfl dX8_one_28 ?_
    obtain ⟨x5, hc31_3, h⟩ := el_b h
    refine px_callS1 C (c_X6_upward l tA tB ad S3 (S3.1 51 2) (S3.1 8 1) hc31_3) (va_cwS 2 C.2.2.2.2.1 gX8_one_X6_upward rfl rfl rfl (by decide +kernel) ⟨Nat.le_of_ble_eq_true rfl, Nat.le_of_ble_eq_true rfl⟩) ⟨Nat.zero_le _, Nat.zero_le _⟩ rfl rfl (Nat.le_of_ble_eq_true rfl) dX8_one_31 ?_
    exact px_iretES C dX8_one_34 h
  · replace h := el_f c7_0 h
    refine px_bipush C (v := (-9 : Int32)) dX8_one_10 (by decide) ?_
    exact px_iretES C dX8_one_12 h
theorem lk_X8_pays_32 : Cond.fieldLink RX8 32 "RiverTolls" "told" "LRiverTolls$River;" ∈ wsX8_pays := List.mem_of_getElem? (i := 4) rfl
theorem lk_X8_pays_38 : Cond.fieldLink RX8 38 "RiverTolls" "boat" "LRiverTolls$Boat;" ∈ wsX8_pays := List.mem_of_getElem? (i := 1) rfl
theorem lk_X8_pays_45 : Cond.fieldLink RX8 45 "RiverTolls" "past" "LRiverTolls$Past;" ∈ wsX8_pays := List.mem_of_getElem? (i := 3) rfl
theorem lk_X8_pays_127 : Cond.fieldLink RX8 127 "RiverTolls$Boat" "at" "I" ∈ wsX8_pays := List.mem_of_getElem? (i := 5) rfl
theorem lk_X8_pays_133 : Cond.fieldLink RX8 133 "RiverTolls$Boat" "coins" "I" ∈ wsX8_pays := List.mem_of_getElem? (i := 2) rfl
theorem lk_X8_pays_156 : Cond.fieldLink RX8 156 "RiverTolls$Boat" "gains" "[I" ∈ wsX8_pays := List.mem_of_getElem? (i := 6) rfl
theorem iw_X8_pays_X0 : ∀ w ∈ u_ws RX0 TX0 8, w ∈ wsX8_pays := fun _ h9 => (List.mem_cons_of_mem _ (List.mem_append_left _ (List.mem_append_left _ (List.mem_append_right _ h9))))
theorem iw_X8_pays_X8 : ∀ w ∈ u_ws RX8 TX8 13, w ∈ wsX8_pays := fun _ h9 => (List.mem_cons_of_mem _ (List.mem_append_left _ (List.mem_append_left _ (List.mem_append_left _ (List.mem_append_right _ h9)))))
set_option maxHeartbeats 4000000 in
set_option maxRecDepth 100000 in
theorem c_X8_pays (l : Launch) (tA tB : Nat) (ad : Nat → Nat) (fu : Nat) (S : St) {rv : Int32} {S' : St} (h : m_X8_pays fu S = some (rv, S')) :
    XMet l yX8_pays wsX8_pays ({ frames := 5, cells := 0, slots := 0, locals := 109 }) KX (.object "RiverTolls$Boat") tA tB [.ref (ad 0)] ad S (some (.int rv)) S' := by
  refine XMet.of (cc := cX8_pays) (maxL := 3) (ret := (some .int)) (own := RX8) (lv := [(0, .ref (ad 0))]) rfl (by decide) rfl (Nat.le_of_ble_eq_true rfl) rfl ?_
  intro p e s m args below meth c D A cI c1 F C
  rw [m_X8_pays] at h
  refine px_aload_n C 0 dX8_pays_0 rfl rfl ?_
  obtain ⟨x2, hc1_0, h⟩ := el_b h
  refine px_callV1 C (c_X8_isAtSea l tA tB ad S hc1_0) (cwV 0 C.2.2.2.2.1 gX8_pays_X8_isAtSea rfl rfl rfl (by decide +kernel) ⟨Nat.le_of_ble_eq_true rfl, Nat.le_of_ble_eq_true rfl⟩) ⟨Nat.zero_le _, Nat.zero_le _⟩ kx_0 rfl rfl rfl (Nat.le_of_ble_eq_true rfl) dX8_pays_1 ?_
  refine px_if_eq C (tgt := 10) dX8_pays_4 (by decide) (fun c4_2 => ?_) (fun c4_2 => ?_)
  · replace h := el_t c4_2 h
    refine px_aload_n C 0 dX8_pays_10 rfl rfl ?_
    obtain ⟨x5, hc11_3, h⟩ := el_b h
    refine px_callV1 C (c_X8_dueHere l tA tB ad S hc11_3) (cwV 0 C.2.2.2.2.1 gX8_pays_X8_dueHere rfl rfl rfl (by decide +kernel) ⟨Nat.le_of_ble_eq_true rfl, Nat.le_of_ble_eq_true rfl⟩) ⟨Nat.zero_le _, Nat.zero_le _⟩ kx_0 rfl rfl rfl (Nat.le_of_ble_eq_true rfl) dX8_pays_11 ?_
    refine px_istore_n C [(1, .int x5), (0, .ref (ad 0))] dX8_pays_14 rfl (by decide) rfl ?_
    refine px_iload_n C 0 dX8_pays_15 rfl rfl ?_
    refine px_aload_n C 1 dX8_pays_16 rfl rfl ?_
    refine px_getr C (j := 4) kx_0 rfl rfl iw_X8_pays_X8 (by decide) lk_X8_pays_38 rfl dX8_pays_17 ?_
    refine px_geti C (j := 2) kx_8 rfl rfl iw_X8_pays_X0 (by decide) lk_X8_pays_133 rfl dX8_pays_20 ?_
    refine px_icmp_le C (tgt := 29) dX8_pays_23 (by decide) (fun c23_5 => ?_) (fun c23_5 => ?_)
    · replace h := el_t c23_5 h
      refine px_aload_n C 1 dX8_pays_29 rfl rfl ?_
      refine px_getr C (j := 5) kx_0 rfl rfl iw_X8_pays_X8 (by decide) lk_X8_pays_45 rfl dX8_pays_30 ?_
      refine px_aload_n C 1 dX8_pays_33 rfl rfl ?_
      refine px_getr C (j := 4) kx_0 rfl rfl iw_X8_pays_X8 (by decide) lk_X8_pays_38 rfl dX8_pays_34 ?_
      obtain ⟨S8, hc37_6, h⟩ := el_b h
      refine px_callV0 C (c_X1_remember l tA tB ad fu S hc37_6) (cwV 1 C.2.2.2.2.1 gX8_pays_X1_remember rfl rfl rfl (by decide +kernel) ⟨Nat.le_of_ble_eq_true rfl, Nat.le_of_ble_eq_true rfl⟩) ⟨Nat.zero_le _, Nat.zero_le _⟩ kx_11 rfl rfl rfl (Nat.le_of_ble_eq_true rfl) dX8_pays_37 ?_
      refine px_aload_n C 1 dX8_pays_40 rfl rfl ?_
      refine px_getr C (j := 3) kx_0 rfl rfl iw_X8_pays_X8 (by decide) lk_X8_pays_32 rfl dX8_pays_41 ?_
      refine px_aload_n C 1 dX8_pays_44 rfl rfl ?_
      refine px_getr C (j := 4) kx_0 rfl rfl iw_X8_pays_X8 (by decide) lk_X8_pays_38 rfl dX8_pays_45 ?_
      refine px_geti C (j := 0) kx_8 rfl rfl iw_X8_pays_X0 (by decide) lk_X8_pays_127 rfl dX8_pays_48 ?_
      refine px_iconst C (v := (2 : Int32)) dX8_pays_51 (by decide) ?_
      obtain ⟨x10, hc52_8, h⟩ := el_b h
      refine px_callV1 C (c_X3_fact l tA tB ad S8 (S8.1 8 0) (2 : Int32) hc52_8) (cwV 2 C.2.2.2.2.1 gX8_pays_X3_fact rfl rfl rfl (by decide +kernel) ⟨Nat.le_of_ble_eq_true rfl, Nat.le_of_ble_eq_true rfl⟩) ⟨Nat.zero_le _, Nat.zero_le _⟩ kx_6 rfl rfl rfl (Nat.le_of_ble_eq_true rfl) dX8_pays_52 ?_
      refine px_istore_n C [(2, .int x10), (1, .int x5), (0, .ref (ad 0))] dX8_pays_55 rfl (by decide) rfl ?_
      refine px_aload_n C 2 dX8_pays_56 rfl rfl ?_
      refine px_getr C (j := 4) kx_0 rfl rfl iw_X8_pays_X8 (by decide) lk_X8_pays_38 rfl dX8_pays_57 ?_
      refine px_dup C dX8_pays_60 rfl ?_
      refine px_geti C (j := 2) kx_8 rfl rfl iw_X8_pays_X0 (by decide) lk_X8_pays_133 rfl dX8_pays_61 ?_
      refine px_iload_n C 1 dX8_pays_64 rfl rfl ?_
      refine px_isub C dX8_pays_65 ?_
      obtain ⟨S11, eS11, h⟩ := el_lt h
      refine px_puti C (ty := .int) (j := 2) kx_8 rfl rfl iw_X8_pays_X0 (by decide) lk_X8_pays_133 rfl tyX0 tyX0_ok nmX0 rfl (by decide +kernel) rfl rfl dX8_pays_66 ?_
      refine px_nmS eS11 ?_
      refine px_aload_n C 2 dX8_pays_69 rfl rfl ?_
      refine px_getr C (j := 4) kx_0 rfl rfl iw_X8_pays_X8 (by decide) lk_X8_pays_38 rfl dX8_pays_70 ?_
      refine px_getr C (j := 7) kx_8 rfl rfl iw_X8_pays_X0 (by decide) lk_X8_pays_156 rfl dX8_pays_73 ?_
      refine px_iload_n C 0 dX8_pays_76 rfl rfl ?_
      refine px_aload_n C 2 dX8_pays_77 rfl rfl ?_
      refine px_getr C (j := 4) kx_0 rfl rfl iw_X8_pays_X8 (by decide) lk_X8_pays_38 rfl dX8_pays_78 ?_
      refine px_getr C (j := 7) kx_8 rfl rfl iw_X8_pays_X0 (by decide) lk_X8_pays_156 rfl dX8_pays_81 ?_
      refine px_iload_n C 0 dX8_pays_84 rfl rfl ?_
      obtain ⟨x13, hc85_11, h⟩ := el_b h
      refine px_callS1 C (c_X5_get l tA tB ad S11 10 4 x10 kx_10 hc85_11) (va_cwS 2 C.2.2.2.2.1 gX8_pays_X5_get rfl rfl rfl (by decide +kernel) ⟨Nat.le_of_ble_eq_true rfl, Nat.le_of_ble_eq_true rfl⟩) ⟨Nat.zero_le _, Nat.zero_le _⟩ rfl rfl (Nat.le_of_ble_eq_true rfl) dX8_pays_85 ?_
      refine px_iload_n C 1 dX8_pays_88 rfl rfl ?_
      refine px_iadd C dX8_pays_89 ?_
      obtain ⟨S15, hc90_13, h⟩ := el_b h
      refine px_callS0 C (c_X5_put l tA tB ad S11 10 4 x10 (x13 + x5) kx_10 hc90_13) (va_cwS 3 C.2.2.2.2.1 gX8_pays_X5_put rfl rfl rfl (by decide +kernel) ⟨Nat.le_of_ble_eq_true rfl, Nat.le_of_ble_eq_true rfl⟩) ⟨Nat.zero_le _, Nat.zero_le _⟩ rfl rfl (Nat.le_of_ble_eq_true rfl) dX8_pays_90 ?_
      refine px_aload_n C 2 dX8_pays_93 rfl rfl ?_
      refine px_iload_n C 1 dX8_pays_94 rfl rfl ?_
      obtain ⟨x17, hr95_20, h⟩ := el_b h
      have hj95_17 : PW p l e { frames := 5, cells := 0, slots := 0, locals := 109 } s m args below meth c (MQ below (QX KX A D cI c1 F ad (some (.int rv)) S') args s 0 0 A) D A cI c1 F KX ad 3 0 0 S15 [(0, .ref (ad 0)), (1, .int x5), (2, .int x10)] 104 [.int x17, .ref (ad 0)] := by
        obtain ⟨S20, hc104_18, h⟩ := el_b h
        refine px_callV0 C (c_X8_goOn l tA tB ad S15 x17 hc104_18) (cwV 1 C.2.2.2.2.1 gX8_pays_X8_goOn rfl rfl rfl (by decide +kernel) ⟨Nat.le_of_ble_eq_true rfl, Nat.le_of_ble_eq_true rfl⟩) ⟨Nat.zero_le _, Nat.zero_le _⟩ kx_0 rfl rfl rfl (Nat.le_of_ble_eq_true rfl) dX8_pays_104 ?_
        refine px_iload_n C 1 dX8_pays_107 rfl rfl ?_
        exact px_iretES C dX8_pays_108 h
      clear h
      have h := hr95_20
      clear hr95_20
      refine px_if_le C (tgt := 102) dX8_pays_95 (by decide) (fun c95_15 => ?_) (fun c95_15 => ?_)
      · replace h := el_t c95_15 h
        refine px_bipush C (v := (-9 : Int32)) dX8_pays_102 (by decide) ?_
        cases h
        exact px_sub [2, 1, 0] rfl hj95_17
      · replace h := el_f c95_15 h
        refine px_iload_n C 0 dX8_pays_98 rfl rfl ?_
        refine px_goto C (tgt := 104) dX8_pays_99 (by decide) ?_
        cases h
        exact px_sub [2, 1, 0] rfl hj95_17
    · replace h := el_f c23_5 h
      refine px_bipush C (v := (-2 : Int32)) dX8_pays_26 (by decide) ?_
      exact px_iretES C dX8_pays_28 h
  · replace h := el_f c4_2 h
    refine px_bipush C (v := (-2 : Int32)) dX8_pays_7 (by decide) ?_
    exact px_iretES C dX8_pays_9 h
theorem lk_X8_rate_226 : Cond.constant RX8 226 (-1000000) ∈ wsX8_rate := List.mem_of_getElem? (i := 1) rfl
set_option maxHeartbeats 4000000 in
set_option maxRecDepth 100000 in
theorem c_X8_rate (l : Launch) (tA tB : Nat) (ad : Nat → Nat) (S : St) (a1 : Int32) (a2 : Int32) {rv : Int32} {S' : St} (h : m_X8_rate S a1 a2 = some (rv, S')) :
    XMet l yX8_rate wsX8_rate ({ frames := 5, cells := 0, slots := 0, locals := 105 }) KX (.object "RiverTolls$Boat") tA tB [.ref (ad 0), .int a1, .int a2] ad S (some (.int rv)) S' := by
  refine XMet.of (cc := cX8_rate) (maxL := 3) (ret := (some .int)) (own := RX8) (lv := [(0, .ref (ad 0)), (1, .int a1), (2, .int a2)]) rfl (by decide) rfl (Nat.le_of_ble_eq_true rfl) rfl ?_
  intro p e s m args below meth c D A cI c1 F C
  rw [m_X8_rate] at h
  refine px_aload_n C 0 dX8_rate_0 rfl rfl ?_
  refine px_iload_n C 2 dX8_rate_1 rfl rfl ?_
  obtain ⟨x2, hc2_0, h⟩ := el_b h
  refine px_callV1 C (c_X8_isRock l tA tB ad S a2 hc2_0) (cwV 1 C.2.2.2.2.1 gX8_rate_X8_isRock rfl rfl rfl (by decide +kernel) ⟨Nat.le_of_ble_eq_true rfl, Nat.le_of_ble_eq_true rfl⟩) ⟨Nat.zero_le _, Nat.zero_le _⟩ kx_0 rfl rfl rfl (Nat.le_of_ble_eq_true rfl) dX8_rate_2 ?_
  refine px_if_ne C (tgt := 11) dX8_rate_5 (by decide) (fun c5_2 => ?_) (fun c5_2 => ?_)
  · replace h := el_t c5_2 h
    refine px_iload_n C 1 dX8_rate_11 rfl rfl ?_
    by_cases c12_3_0 : a1 = (0 : Int32)
    · replace h := el_t c12_3_0 h
      refine px_tableIn C (tgt := 52) dX8_rate_12 (by rw [c12_3_0]; decide) (by rw [c12_3_0]; decide) (by rw [c12_3_0]; rfl) (by decide) ?_
      refine px_aload_n C 0 dX8_rate_52 rfl rfl ?_
      refine px_iload_n C 2 dX8_rate_53 rfl rfl ?_
      obtain ⟨x6, S7, hc54_4, h⟩ := el_b2 h
      refine px_callV1 C (c_X8_asRock l tA tB ad S a2 hc54_4) (cwV 1 C.2.2.2.2.1 gX8_rate_X8_asRock rfl rfl rfl (by decide +kernel) ⟨Nat.le_of_ble_eq_true rfl, Nat.le_of_ble_eq_true rfl⟩) ⟨Nat.zero_le _, Nat.zero_le _⟩ kx_0 rfl rfl rfl (Nat.le_of_ble_eq_true rfl) dX8_rate_54 ?_
      exact px_iretES C dX8_rate_57 h
    replace h := el_f c12_3_0 h
    by_cases c12_3_1 : a1 = (1 : Int32)
    · replace h := el_t c12_3_1 h
      refine px_tableIn C (tgt := 58) dX8_rate_12 (by rw [c12_3_1]; decide) (by rw [c12_3_1]; decide) (by rw [c12_3_1]; rfl) (by decide) ?_
      refine px_aload_n C 0 dX8_rate_58 rfl rfl ?_
      refine px_iload_n C 2 dX8_rate_59 rfl rfl ?_
      obtain ⟨x9, S10, hc60_7, h⟩ := el_b2 h
      refine px_callV1 C (c_X8_asChain l tA tB ad S a2 hc60_7) (cwV 1 C.2.2.2.2.1 gX8_rate_X8_asChain rfl rfl rfl (by decide +kernel) ⟨Nat.le_of_ble_eq_true rfl, Nat.le_of_ble_eq_true rfl⟩) ⟨Nat.zero_le _, Nat.zero_le _⟩ kx_0 rfl rfl rfl (Nat.le_of_ble_eq_true rfl) dX8_rate_60 ?_
      exact px_iretES C dX8_rate_63 h
    replace h := el_f c12_3_1 h
    by_cases c12_3_2 : a1 = (2 : Int32)
    · replace h := el_t c12_3_2 h
      refine px_tableIn C (tgt := 64) dX8_rate_12 (by rw [c12_3_2]; decide) (by rw [c12_3_2]; decide) (by rw [c12_3_2]; rfl) (by decide) ?_
      refine px_aload_n C 0 dX8_rate_64 rfl rfl ?_
      refine px_iload_n C 2 dX8_rate_65 rfl rfl ?_
      obtain ⟨x12, S13, hc66_10, h⟩ := el_b2 h
      refine px_callV1 C (c_X8_asTower l tA tB ad S a2 hc66_10) (cwV 1 C.2.2.2.2.1 gX8_rate_X8_asTower rfl rfl rfl (by decide +kernel) ⟨Nat.le_of_ble_eq_true rfl, Nat.le_of_ble_eq_true rfl⟩) ⟨Nat.zero_le _, Nat.zero_le _⟩ kx_0 rfl rfl rfl (Nat.le_of_ble_eq_true rfl) dX8_rate_66 ?_
      exact px_iretES C dX8_rate_69 h
    replace h := el_f c12_3_2 h
    by_cases c12_3_3 : a1 = (3 : Int32)
    · replace h := el_t c12_3_3 h
      refine px_tableIn C (tgt := 70) dX8_rate_12 (by rw [c12_3_3]; decide) (by rw [c12_3_3]; decide) (by rw [c12_3_3]; rfl) (by decide) ?_
      refine px_aload_n C 0 dX8_rate_70 rfl rfl ?_
      refine px_iload_n C 2 dX8_rate_71 rfl rfl ?_
      obtain ⟨x15, S16, hc72_13, h⟩ := el_b2 h
      refine px_callV1 C (c_X8_asBridge l tA tB ad S a2 hc72_13) (cwV 1 C.2.2.2.2.1 gX8_rate_X8_asBridge rfl rfl rfl (by decide +kernel) ⟨Nat.le_of_ble_eq_true rfl, Nat.le_of_ble_eq_true rfl⟩) ⟨Nat.zero_le _, Nat.zero_le _⟩ kx_0 rfl rfl rfl (Nat.le_of_ble_eq_true rfl) dX8_rate_72 ?_
      exact px_iretES C dX8_rate_75 h
    replace h := el_f c12_3_3 h
    by_cases c12_3_4 : a1 = (4 : Int32)
    · replace h := el_t c12_3_4 h
      refine px_tableIn C (tgt := 76) dX8_rate_12 (by rw [c12_3_4]; decide) (by rw [c12_3_4]; decide) (by rw [c12_3_4]; rfl) (by decide) ?_
      refine px_aload_n C 0 dX8_rate_76 rfl rfl ?_
      refine px_iload_n C 2 dX8_rate_77 rfl rfl ?_
      obtain ⟨x18, S19, hc78_16, h⟩ := el_b2 h
      refine px_callV1 C (c_X8_asIsle l tA tB ad S a2 hc78_16) (cwV 1 C.2.2.2.2.1 gX8_rate_X8_asIsle rfl rfl rfl (by decide +kernel) ⟨Nat.le_of_ble_eq_true rfl, Nat.le_of_ble_eq_true rfl⟩) ⟨Nat.zero_le _, Nat.zero_le _⟩ kx_0 rfl rfl rfl (Nat.le_of_ble_eq_true rfl) dX8_rate_78 ?_
      exact px_iretES C dX8_rate_81 h
    replace h := el_f c12_3_4 h
    by_cases c12_3_5 : a1 = (5 : Int32)
    · replace h := el_t c12_3_5 h
      refine px_tableIn C (tgt := 82) dX8_rate_12 (by rw [c12_3_5]; decide) (by rw [c12_3_5]; decide) (by rw [c12_3_5]; rfl) (by decide) ?_
      refine px_aload_n C 0 dX8_rate_82 rfl rfl ?_
      refine px_iload_n C 2 dX8_rate_83 rfl rfl ?_
      obtain ⟨x21, S22, hc84_19, h⟩ := el_b2 h
      refine px_callV1 C (c_X8_asBend l tA tB ad S a2 hc84_19) (cwV 1 C.2.2.2.2.1 gX8_rate_X8_asBend rfl rfl rfl (by decide +kernel) ⟨Nat.le_of_ble_eq_true rfl, Nat.le_of_ble_eq_true rfl⟩) ⟨Nat.zero_le _, Nat.zero_le _⟩ kx_0 rfl rfl rfl (Nat.le_of_ble_eq_true rfl) dX8_rate_84 ?_
      exact px_iretES C dX8_rate_87 h
    replace h := el_f c12_3_5 h
    refine px_tableOut C (tgt := 88) dX8_rate_12 (sw_out 6 (by decide) (fun k hk => by
    match k, hk with
    | 0, _ => exact c12_3_0
    | 1, _ => exact c12_3_1
    | 2, _ => exact c12_3_2
    | 3, _ => exact c12_3_3
    | 4, _ => exact c12_3_4
    | 5, _ => exact c12_3_5)) (by decide) ?_
    refine px_ldc C (v := (-1000000 : Int32)) lk_X8_rate_226 dX8_rate_88 ?_
    exact px_iretES C dX8_rate_90 h
  · replace h := el_fn c5_2 h
    refine px_ldc C (v := (-1000000 : Int32)) lk_X8_rate_226 dX8_rate_8 ?_
    exact px_iretES C dX8_rate_10 h
