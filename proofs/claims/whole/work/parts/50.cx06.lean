theorem lk_X8_river_10 : Cond.fieldLink RX8 10 "RiverTolls" "text" "LRiverTolls$Text;" ∈ wsX8_river := List.mem_of_getElem? (i := 8) rfl
theorem lk_X8_river_21 : Cond.fieldLink RX8 21 "RiverTolls" "reader" "LRiverTolls$Reader;" ∈ wsX8_river := List.mem_of_getElem? (i := 1) rfl
theorem lk_X8_river_28 : Cond.fieldLink RX8 28 "RiverTolls" "draft" "LRiverTolls$River;" ∈ wsX8_river := List.mem_of_getElem? (i := 2) rfl
theorem lk_X8_river_32 : Cond.fieldLink RX8 32 "RiverTolls" "told" "LRiverTolls$River;" ∈ wsX8_river := List.mem_of_getElem? (i := 3) rfl
theorem lk_X8_river_38 : Cond.fieldLink RX8 38 "RiverTolls" "boat" "LRiverTolls$Boat;" ∈ wsX8_river := List.mem_of_getElem? (i := 4) rfl
theorem lk_X8_river_45 : Cond.fieldLink RX8 45 "RiverTolls" "past" "LRiverTolls$Past;" ∈ wsX8_river := List.mem_of_getElem? (i := 5) rfl
theorem lk_X8_river_53 : Cond.fieldLink RX8 53 "RiverTolls" "kept" "[I" ∈ wsX8_river := List.mem_of_getElem? (i := 6) rfl
theorem lk_X8_river_72 : Cond.fieldLink RX8 72 "RiverTolls" "leftCount" "I" ∈ wsX8_river := List.mem_of_getElem? (i := 7) rfl
theorem lk_X8_river_83 : Cond.fieldLink RX8 83 "RiverTolls$Text" "length" "I" ∈ wsX8_river := List.mem_of_getElem? (i := 9) rfl
theorem lk_X8_river_106 : Cond.fieldLink RX8 106 "RiverTolls$River" "items" "I" ∈ wsX8_river := List.mem_of_getElem? (i := 10) rfl
theorem iw_X8_river_X3 : ∀ w ∈ u_ws RX3 TX3 5, w ∈ wsX8_river := fun _ h9 => (List.mem_cons_of_mem _ (List.mem_append_left _ (List.mem_append_left _ (List.mem_append_left _ (List.mem_append_right _ h9)))))
theorem iw_X8_river_X7 : ∀ w ∈ u_ws RX7 TX7 2, w ∈ wsX8_river := fun _ h9 => (List.mem_cons_of_mem _ (List.mem_append_left _ (List.mem_append_left _ (List.mem_append_left _ (List.mem_append_left _ (List.mem_append_right _ h9))))))
theorem iw_X8_river_X8 : ∀ w ∈ u_ws RX8 TX8 13, w ∈ wsX8_river := fun _ h9 => (List.mem_cons_of_mem _ (List.mem_append_left _ (List.mem_append_left _ (List.mem_append_left _ (List.mem_append_left _ (List.mem_append_left _ (List.mem_append_right _ h9)))))))
set_option maxHeartbeats 4000000 in
set_option maxRecDepth 100000 in
theorem c_X8_river (l : Launch) (tA tB : Nat) (ad : Nat → Nat) (fu : Nat) (S : St) {rv : Int32} {S' : St} (h : m_X8_river fu S = some (rv, S')) :
    XMet l yX8_river wsX8_river ({ frames := 6, cells := 0, slots := 0, locals := 132 }) KX (.object "RiverTolls$Boat") tA tB [.ref (ad 0)] ad S (some (.int rv)) S' := by
  refine XMet.of (cc := cX8_river) (maxL := 3) (ret := (some .int)) (own := RX8) (lv := [(0, .ref (ad 0))]) rfl (by decide) rfl (Nat.le_of_ble_eq_true rfl) rfl ?_
  intro p e s m args below meth c D A cI c1 F C
  rw [m_X8_river] at h
  refine px_aload_n C 0 dX8_river_0 rfl rfl ?_
  refine px_getr C (j := 1) kx_0 rfl rfl iw_X8_river_X8 (by decide) lk_X8_river_21 rfl dX8_river_1 ?_
  refine px_aload_n C 0 dX8_river_4 rfl rfl ?_
  refine px_getr C (j := 2) kx_0 rfl rfl iw_X8_river_X8 (by decide) lk_X8_river_28 rfl dX8_river_5 ?_
  obtain ⟨x2, S3, hc8_0, h⟩ := el_b2 h
  refine px_callV1 C (c_X2_read l tA tB ad fu S hc8_0) (cwV 1 C.2.2.2.2.1 gX8_river_X2_read rfl rfl rfl (by decide +kernel) ⟨Nat.le_of_ble_eq_true rfl, Nat.le_of_ble_eq_true rfl⟩) ⟨Nat.zero_le _, Nat.zero_le _⟩ kx_3 rfl rfl rfl (Nat.le_of_ble_eq_true rfl) dX8_river_8 ?_
  refine px_istore_n C [(1, .int x2), (0, .ref (ad 0))] dX8_river_11 rfl (by decide) rfl ?_
  refine px_iload_n C 0 dX8_river_12 rfl rfl ?_
  refine px_iconst C (v := (-1 : Int32)) dX8_river_13 (by decide) ?_
  refine px_icmp_eq C (tgt := 22) dX8_river_14 (by decide) (fun c14_3 => ?_) (fun c14_3 => ?_)
  · replace h := el_t c14_3 h
    refine px_aload_n C 1 dX8_river_22 rfl rfl ?_
    refine px_getr C (j := 3) kx_0 rfl rfl iw_X8_river_X8 (by decide) lk_X8_river_32 rfl dX8_river_23 ?_
    refine px_aload_n C 1 dX8_river_26 rfl rfl ?_
    refine px_getr C (j := 2) kx_0 rfl rfl iw_X8_river_X8 (by decide) lk_X8_river_28 rfl dX8_river_27 ?_
    obtain ⟨S6, hc30_4, h⟩ := el_b h
    refine px_callV0 C (c_X3_become l tA tB ad fu S3 hc30_4) (cwV 1 C.2.2.2.2.1 gX8_river_X3_become rfl rfl rfl (by decide +kernel) ⟨Nat.le_of_ble_eq_true rfl, Nat.le_of_ble_eq_true rfl⟩) ⟨Nat.zero_le _, Nat.zero_le _⟩ kx_6 rfl rfl rfl (Nat.le_of_ble_eq_true rfl) dX8_river_30 ?_
    refine px_aload_n C 1 dX8_river_33 rfl rfl ?_
    refine px_getr C (j := 4) kx_0 rfl rfl iw_X8_river_X8 (by decide) lk_X8_river_38 rfl dX8_river_34 ?_
    refine px_aload_n C 1 dX8_river_37 rfl rfl ?_
    refine px_getr C (j := 3) kx_0 rfl rfl iw_X8_river_X8 (by decide) lk_X8_river_32 rfl dX8_river_38 ?_
    obtain ⟨S8, hc41_6, h⟩ := el_b h
    refine px_callV0 C (c_X0_start l tA tB ad fu S6 hc41_6) (cwV 1 C.2.2.2.2.1 gX8_river_X0_start rfl rfl rfl (by decide +kernel) ⟨Nat.le_of_ble_eq_true rfl, Nat.le_of_ble_eq_true rfl⟩) ⟨Nat.zero_le _, Nat.zero_le _⟩ kx_8 rfl rfl rfl (Nat.le_of_ble_eq_true rfl) dX8_river_41 ?_
    refine px_aload_n C 1 dX8_river_44 rfl rfl ?_
    refine px_getr C (j := 5) kx_0 rfl rfl iw_X8_river_X8 (by decide) lk_X8_river_45 rfl dX8_river_45 ?_
    obtain ⟨S10, hc48_8, h⟩ := el_b h
    refine px_callV0 C (c_X1_forgetAll l tA tB ad S8 hc48_8) (cwV 0 C.2.2.2.2.1 gX8_river_X1_forgetAll rfl rfl rfl (by decide +kernel) ⟨Nat.le_of_ble_eq_true rfl, Nat.le_of_ble_eq_true rfl⟩) ⟨Nat.zero_le _, Nat.zero_le _⟩ kx_11 rfl rfl rfl (Nat.le_of_ble_eq_true rfl) dX8_river_48 ?_
    refine px_iconst C (v := (0 : Int32)) dX8_river_51 (by decide) ?_
    refine px_istore_n C [(2, .int (0 : Int32)), (1, .int x2), (0, .ref (ad 0))] dX8_river_52 rfl (by decide) rfl ?_
    have hx0 : ∀  (x13 : Int32) (S14 : St), m_X8_river_r0 x13 S14 = some (rv, S') → PW p l e { frames := 6, cells := 0, slots := 0, locals := 132 } s m args below meth c (MQ below (QX KX A D cI c1 F ad (some (.int rv)) S') args s 0 0 A) D A cI c1 F KX ad 3 0 0 S14 [(0, .ref (ad 0)), (1, .int x2), (2, .int x13)] 73 [] := by
      intro x13 S14 h
      rw [m_X8_river_r0] at h
      refine px_aload_n C 0 dX8_river_73 rfl rfl ?_
      refine px_iconst C (v := (0 : Int32)) dX8_river_74 (by decide) ?_
      obtain ⟨S15, eS15, h⟩ := el_lt h
      refine px_puti C (ty := .int) (j := 11) kx_0 rfl rfl iw_X8_river_X8 (by decide) lk_X8_river_72 rfl tyX8 tyX8_ok nmX8 rfl (by decide +kernel) rfl rfl dX8_river_75 ?_
      refine px_nmS eS15 ?_
      refine px_aload_n C 0 dX8_river_78 rfl rfl ?_
      refine px_getr C (j := 0) kx_0 rfl rfl iw_X8_river_X8 (by decide) lk_X8_river_10 rfl dX8_river_79 ?_
      refine px_iconst C (v := (0 : Int32)) dX8_river_82 (by decide) ?_
      obtain ⟨S16, eS16, h⟩ := el_lt h
      refine px_puti C (ty := .int) (j := 0) kx_1 rfl rfl iw_X8_river_X7 (by decide) lk_X8_river_83 rfl tyX7 tyX7_ok nmX7 rfl (by decide +kernel) rfl rfl dX8_river_83 ?_
      refine px_nmS eS16 ?_
      refine px_aload_n C 0 dX8_river_86 rfl rfl ?_
      refine px_getr C (j := 3) kx_0 rfl rfl iw_X8_river_X8 (by decide) lk_X8_river_32 rfl dX8_river_87 ?_
      refine px_geti C (j := 3) kx_6 rfl rfl iw_X8_river_X3 (by decide) lk_X8_river_106 rfl dX8_river_90 ?_
      exact px_iretES C dX8_river_93 h
    have hl0 : ∀ (n_0 : Nat) (x11 : Int32) (S12 : St), m_X8_river_L0 m_X8_river_r0 n_0 x11 S12 = some (rv, S') → PW p l e { frames := 6, cells := 0, slots := 0, locals := 132 } s m args below meth c (MQ below (QX KX A D cI c1 F ad (some (.int rv)) S') args s 0 0 A) D A cI c1 F KX ad 3 0 0 S12 [(0, .ref (ad 0)), (1, .int x2), (2, .int x11)] 53 [] := by
      intro n_0
      induction n_0 with
      | zero =>
        intro x11 S12 h
        rw [m_X8_river_L0_z] at h
        cases h
      | succ n_0 ih0 =>
        intro x11 S12 h
        rw [m_X8_river_L0_s] at h
        refine px_iload_n C 2 dX8_river_53 rfl rfl ?_
        refine px_iconst C (v := (2 : Int32)) dX8_river_54 (by decide) ?_
        refine px_icmp_ge C (tgt := 73) dX8_river_55 (by decide) (fun c55_16 => ?_) (fun c55_16 => ?_)
        · replace h := el_t c55_16 h
          exact (hx0 _ _ h)
        · replace h := el_f c55_16 h
          refine px_aload_n C 0 dX8_river_58 rfl rfl ?_
          refine px_getr C (j := 7) kx_0 rfl rfl iw_X8_river_X8 (by decide) lk_X8_river_53 rfl dX8_river_59 ?_
          refine px_iload_n C 2 dX8_river_62 rfl rfl ?_
          refine px_iconst C (v := (0 : Int32)) dX8_river_63 (by decide) ?_
          obtain ⟨S19, hc64_17, h⟩ := el_b h
          refine px_callS0 C (c_X5_put l tA tB ad S12 50 2 x11 (0 : Int32) kx_50 hc64_17) (va_cwS 3 C.2.2.2.2.1 gX8_river_X5_put rfl rfl rfl (by decide +kernel) ⟨Nat.le_of_ble_eq_true rfl, Nat.le_of_ble_eq_true rfl⟩) ⟨Nat.zero_le _, Nat.zero_le _⟩ rfl rfl (Nat.le_of_ble_eq_true rfl) dX8_river_64 ?_
          refine px_iinc C 2 [(2, .int (x11 + (1 : Int32))), (0, .ref (ad 0)), (1, .int x2)] dX8_river_67 rfl rfl (by decide) rfl ?_
          refine px_goto C (tgt := 53) dX8_river_70 (by decide) ?_
          exact px_sub [1, 2, 0] rfl (ih0 _ _ h)
    exact px_sub [2, 1, 0] rfl (hl0 _ _ _ h)
  · replace h := el_f c14_3 h
    refine px_bipush C (v := (-10 : Int32)) dX8_river_17 (by decide) ?_
    refine px_iload_n C 0 dX8_river_19 rfl rfl ?_
    refine px_isub C dX8_river_20 ?_
    exact px_iretES C dX8_river_21 h
theorem lk_X8_rock_32 : Cond.fieldLink RX8 32 "RiverTolls" "told" "LRiverTolls$River;" ∈ wsX8_rock := List.mem_of_getElem? (i := 2) rfl
theorem lk_X8_rock_38 : Cond.fieldLink RX8 38 "RiverTolls" "boat" "LRiverTolls$Boat;" ∈ wsX8_rock := List.mem_of_getElem? (i := 1) rfl
theorem iw_X8_rock_X8 : ∀ w ∈ u_ws RX8 TX8 13, w ∈ wsX8_rock := fun _ h9 => (List.mem_cons_of_mem _ (List.mem_append_left _ (List.mem_append_left _ (List.mem_append_right _ h9))))
set_option maxHeartbeats 4000000 in
set_option maxRecDepth 100000 in
theorem c_X8_rock (l : Launch) (tA tB : Nat) (ad : Nat → Nat) (S : St) (a1 : Int32) (a2 : Int32) {rv : Int32} (h : m_X8_rock S a1 a2 = some rv) :
    XMet l yX8_rock wsX8_rock ({ frames := 2, cells := 0, slots := 0, locals := 43 }) KX (.object "RiverTolls$Boat") tA tB [.ref (ad 0), .int a1, .int a2] ad S (some (.int rv)) S := by
  refine XMet.of (cc := cX8_rock) (maxL := 3) (ret := (some .int)) (own := RX8) (lv := [(0, .ref (ad 0)), (1, .int a1), (2, .int a2)]) rfl (by decide) rfl (Nat.le_of_ble_eq_true rfl) rfl ?_
  intro p e s m args below meth c D A cI c1 F C
  rw [m_X8_rock] at h
  refine px_aload_n C 0 dX8_rock_0 rfl rfl ?_
  refine px_iload_n C 1 dX8_rock_1 rfl rfl ?_
  obtain ⟨x2, hc2_0, h⟩ := el_b h
  refine px_callV1 C (c_X8_isRock l tA tB ad S a1 hc2_0) (cwV 1 C.2.2.2.2.1 gX8_rock_X8_isRock rfl rfl rfl (by decide +kernel) ⟨Nat.le_of_ble_eq_true rfl, Nat.le_of_ble_eq_true rfl⟩) ⟨Nat.zero_le _, Nat.zero_le _⟩ kx_0 rfl rfl rfl (Nat.le_of_ble_eq_true rfl) dX8_rock_2 ?_
  refine px_if_eq C (tgt := 17) dX8_rock_5 (by decide) (fun c5_2 => ?_) (fun c5_2 => ?_)
  · replace h := el_t c5_2 h
    refine px_iconst C (v := (-1 : Int32)) dX8_rock_17 (by decide) ?_
    exact px_iretE C dX8_rock_18 h
  · replace h := el_f c5_2 h
    refine px_iload_n C 2 dX8_rock_8 rfl rfl ?_
    refine px_if_lt C (tgt := 17) dX8_rock_9 (by decide) (fun c9_3 => ?_) (fun c9_3 => ?_)
    · replace h := el_t c9_3 h
      refine px_iconst C (v := (-1 : Int32)) dX8_rock_17 (by decide) ?_
      exact px_iretE C dX8_rock_18 h
    · replace h := el_f c9_3 h
      refine px_iload_n C 2 dX8_rock_12 rfl rfl ?_
      refine px_iconst C (v := (5 : Int32)) dX8_rock_13 (by decide) ?_
      refine px_icmp_le C (tgt := 19) dX8_rock_14 (by decide) (fun c14_4 => ?_) (fun c14_4 => ?_)
      · replace h := el_t c14_4 h
        refine px_iload_n C 2 dX8_rock_19 rfl rfl ?_
        refine px_if_ne C (tgt := 32) dX8_rock_20 (by decide) (fun c20_5 => ?_) (fun c20_5 => ?_)
        · replace h := el_t c20_5 h
          refine px_iload_n C 2 dX8_rock_32 rfl rfl ?_
          refine px_iconst C (v := (5 : Int32)) dX8_rock_33 (by decide) ?_
          refine px_icmp_ne C (tgt := 54) dX8_rock_34 (by decide) (fun c34_6 => ?_) (fun c34_6 => ?_)
          · replace h := el_t c34_6 h
            refine px_aload_n C 0 dX8_rock_54 rfl rfl ?_
            refine px_getr C (j := 3) kx_0 rfl rfl iw_X8_rock_X8 (by decide) lk_X8_rock_32 rfl dX8_rock_55 ?_
            refine px_iload_n C 1 dX8_rock_58 rfl rfl ?_
            refine px_iload_n C 2 dX8_rock_59 rfl rfl ?_
            obtain ⟨x9, hc60_7, h⟩ := el_b h
            refine px_callV1 C (c_X3_fact l tA tB ad S a1 a2 hc60_7) (cwV 2 C.2.2.2.2.1 gX8_rock_X3_fact rfl rfl rfl (by decide +kernel) ⟨Nat.le_of_ble_eq_true rfl, Nat.le_of_ble_eq_true rfl⟩) ⟨Nat.zero_le _, Nat.zero_le _⟩ kx_6 rfl rfl rfl (Nat.le_of_ble_eq_true rfl) dX8_rock_60 ?_
            exact px_iretE C dX8_rock_63 h
          · replace h := el_fn c34_6 h
            refine px_aload_n C 0 dX8_rock_37 rfl rfl ?_
            refine px_getr C (j := 4) kx_0 rfl rfl iw_X8_rock_X8 (by decide) lk_X8_rock_38 rfl dX8_rock_38 ?_
            refine px_iload_n C 1 dX8_rock_41 rfl rfl ?_
            obtain ⟨x11, hc42_9, h⟩ := el_b h
            refine px_callV1 C (c_X0_isBroken l tA tB ad S a1 hc42_9) (cwV 1 C.2.2.2.2.1 gX8_rock_X0_isBroken rfl rfl rfl (by decide +kernel) ⟨Nat.le_of_ble_eq_true rfl, Nat.le_of_ble_eq_true rfl⟩) ⟨Nat.zero_le _, Nat.zero_le _⟩ kx_8 rfl rfl rfl (Nat.le_of_ble_eq_true rfl) dX8_rock_42 ?_
            refine px_if_eq C (tgt := 52) dX8_rock_45 (by decide) (fun c45_11 => ?_) (fun c45_11 => ?_)
            · replace h := el_t c45_11 h
              refine px_iconst C (v := (0 : Int32)) dX8_rock_52 (by decide) ?_
              exact px_iretE C dX8_rock_53 h
            · replace h := el_f c45_11 h
              refine px_iconst C (v := (1 : Int32)) dX8_rock_48 (by decide) ?_
              refine px_goto C (tgt := 53) dX8_rock_49 (by decide) ?_
              exact px_iretE C dX8_rock_53 h
        · replace h := el_fn c20_5 h
          refine px_aload_n C 0 dX8_rock_23 rfl rfl ?_
          refine px_getr C (j := 4) kx_0 rfl rfl iw_X8_rock_X8 (by decide) lk_X8_rock_38 rfl dX8_rock_24 ?_
          refine px_iload_n C 1 dX8_rock_27 rfl rfl ?_
          obtain ⟨x14, hc28_12, h⟩ := el_b h
          refine px_callV1 C (c_X0_tollOf l tA tB ad S a1 hc28_12) (cwV 1 C.2.2.2.2.1 gX8_rock_X0_tollOf rfl rfl rfl (by decide +kernel) ⟨Nat.le_of_ble_eq_true rfl, Nat.le_of_ble_eq_true rfl⟩) ⟨Nat.zero_le _, Nat.zero_le _⟩ kx_8 rfl rfl rfl (Nat.le_of_ble_eq_true rfl) dX8_rock_28 ?_
          exact px_iretE C dX8_rock_31 h
      · replace h := el_f c14_4 h
        refine px_iconst C (v := (-1 : Int32)) dX8_rock_17 (by decide) ?_
        exact px_iretE C dX8_rock_18 h
theorem lk_X8_sells_38 : Cond.fieldLink RX8 38 "RiverTolls" "boat" "LRiverTolls$Boat;" ∈ wsX8_sells := List.mem_of_getElem? (i := 1) rfl
theorem lk_X8_sells_45 : Cond.fieldLink RX8 45 "RiverTolls" "past" "LRiverTolls$Past;" ∈ wsX8_sells := List.mem_of_getElem? (i := 5) rfl
theorem lk_X8_sells_130 : Cond.fieldLink RX8 130 "RiverTolls$Boat" "barrels" "I" ∈ wsX8_sells := List.mem_of_getElem? (i := 3) rfl
theorem lk_X8_sells_133 : Cond.fieldLink RX8 133 "RiverTolls$Boat" "coins" "I" ∈ wsX8_sells := List.mem_of_getElem? (i := 2) rfl
theorem lk_X8_sells_173 : Cond.constant RX8 173 (999999) ∈ wsX8_sells := List.mem_of_getElem? (i := 4) rfl
theorem iw_X8_sells_X0 : ∀ w ∈ u_ws RX0 TX0 8, w ∈ wsX8_sells := fun _ h9 => (List.mem_cons_of_mem _ (List.mem_append_left _ (List.mem_append_right _ h9)))
theorem iw_X8_sells_X8 : ∀ w ∈ u_ws RX8 TX8 13, w ∈ wsX8_sells := fun _ h9 => (List.mem_cons_of_mem _ (List.mem_append_left _ (List.mem_append_left _ (List.mem_append_right _ h9))))
set_option maxHeartbeats 4000000 in
set_option maxRecDepth 100000 in
theorem c_X8_sells (l : Launch) (tA tB : Nat) (ad : Nat → Nat) (fu : Nat) (S : St) (a1 : Int32) (a2 : Int32) {rv : Int32} {S' : St} (h : m_X8_sells fu S a1 a2 = some (rv, S')) :
    XMet l yX8_sells wsX8_sells ({ frames := 3, cells := 0, slots := 0, locals := 65 }) KX (.object "RiverTolls$Boat") tA tB [.ref (ad 0), .int a1, .int a2] ad S (some (.int rv)) S' := by
  refine XMet.of (cc := cX8_sells) (maxL := 4) (ret := (some .int)) (own := RX8) (lv := [(0, .ref (ad 0)), (1, .int a1), (2, .int a2)]) rfl (by decide) rfl (Nat.le_of_ble_eq_true rfl) rfl ?_
  intro p e s m args below meth c D A cI c1 F C
  rw [m_X8_sells] at h
  refine px_iload_n C 1 dX8_sells_0 rfl rfl ?_
  refine px_iconst C (v := (1 : Int32)) dX8_sells_1 (by decide) ?_
  refine px_icmp_lt C (tgt := 21) dX8_sells_2 (by decide) (fun c2_0 => ?_) (fun c2_0 => ?_)
  · replace h := el_t c2_0 h
    refine px_iconst C (v := (-1 : Int32)) dX8_sells_21 (by decide) ?_
    exact px_iretES C dX8_sells_22 h
  · replace h := el_f c2_0 h
    refine px_iload_n C 1 dX8_sells_5 rfl rfl ?_
    refine px_bipush C (v := (30 : Int32)) dX8_sells_6 (by decide) ?_
    refine px_icmp_gt C (tgt := 21) dX8_sells_8 (by decide) (fun c8_1 => ?_) (fun c8_1 => ?_)
    · replace h := el_t c8_1 h
      refine px_iconst C (v := (-1 : Int32)) dX8_sells_21 (by decide) ?_
      exact px_iretES C dX8_sells_22 h
    · replace h := el_f c8_1 h
      refine px_iload_n C 2 dX8_sells_11 rfl rfl ?_
      refine px_if_lt C (tgt := 21) dX8_sells_12 (by decide) (fun c12_2 => ?_) (fun c12_2 => ?_)
      · replace h := el_t c12_2 h
        refine px_iconst C (v := (-1 : Int32)) dX8_sells_21 (by decide) ?_
        exact px_iretES C dX8_sells_22 h
      · replace h := el_f c12_2 h
        refine px_iload_n C 2 dX8_sells_15 rfl rfl ?_
        refine px_bipush C (v := (30 : Int32)) dX8_sells_16 (by decide) ?_
        refine px_icmp_le C (tgt := 23) dX8_sells_18 (by decide) (fun c18_3 => ?_) (fun c18_3 => ?_)
        · replace h := el_t c18_3 h
          refine px_aload_n C 0 dX8_sells_23 rfl rfl ?_
          refine px_getr C (j := 4) kx_0 rfl rfl iw_X8_sells_X8 (by decide) lk_X8_sells_38 rfl dX8_sells_24 ?_
          refine px_geti C (j := 2) kx_8 rfl rfl iw_X8_sells_X0 (by decide) lk_X8_sells_133 rfl dX8_sells_27 ?_
          refine px_iload_n C 1 dX8_sells_30 rfl rfl ?_
          refine px_iload_n C 2 dX8_sells_31 rfl rfl ?_
          refine px_imul C dX8_sells_32 ?_
          refine px_iadd C dX8_sells_33 ?_
          refine px_istore_n C [(3, .int ((S.1 8 2) + (a1 * a2))), (0, .ref (ad 0)), (1, .int a1), (2, .int a2)] dX8_sells_34 rfl (by decide) rfl ?_
          refine px_iload_n C 2 dX8_sells_35 rfl rfl ?_
          refine px_aload_n C 1 dX8_sells_36 rfl rfl ?_
          refine px_getr C (j := 4) kx_0 rfl rfl iw_X8_sells_X8 (by decide) lk_X8_sells_38 rfl dX8_sells_37 ?_
          refine px_geti C (j := 1) kx_8 rfl rfl iw_X8_sells_X0 (by decide) lk_X8_sells_130 rfl dX8_sells_40 ?_
          refine px_icmp_gt C (tgt := 52) dX8_sells_43 (by decide) (fun c43_4 => ?_) (fun c43_4 => ?_)
          · replace h := el_t c43_4 h
            refine px_bipush C (v := (-2 : Int32)) dX8_sells_52 (by decide) ?_
            exact px_iretES C dX8_sells_54 h
          · replace h := el_f c43_4 h
            refine px_iload_n C 0 dX8_sells_46 rfl rfl ?_
            refine px_ldc C (v := (999999 : Int32)) lk_X8_sells_173 dX8_sells_47 ?_
            refine px_icmp_le C (tgt := 55) dX8_sells_49 (by decide) (fun c49_5 => ?_) (fun c49_5 => ?_)
            · replace h := el_t c49_5 h
              refine px_aload_n C 1 dX8_sells_55 rfl rfl ?_
              refine px_getr C (j := 5) kx_0 rfl rfl iw_X8_sells_X8 (by decide) lk_X8_sells_45 rfl dX8_sells_56 ?_
              refine px_aload_n C 1 dX8_sells_59 rfl rfl ?_
              refine px_getr C (j := 4) kx_0 rfl rfl iw_X8_sells_X8 (by decide) lk_X8_sells_38 rfl dX8_sells_60 ?_
              obtain ⟨S8, hc63_6, h⟩ := el_b h
              refine px_callV0 C (c_X1_remember l tA tB ad fu S hc63_6) (cwV 1 C.2.2.2.2.1 gX8_sells_X1_remember rfl rfl rfl (by decide +kernel) ⟨Nat.le_of_ble_eq_true rfl, Nat.le_of_ble_eq_true rfl⟩) ⟨Nat.zero_le _, Nat.zero_le _⟩ kx_11 rfl rfl rfl (Nat.le_of_ble_eq_true rfl) dX8_sells_63 ?_
              refine px_aload_n C 1 dX8_sells_66 rfl rfl ?_
              refine px_getr C (j := 4) kx_0 rfl rfl iw_X8_sells_X8 (by decide) lk_X8_sells_38 rfl dX8_sells_67 ?_
              refine px_dup C dX8_sells_70 rfl ?_
              refine px_geti C (j := 1) kx_8 rfl rfl iw_X8_sells_X0 (by decide) lk_X8_sells_130 rfl dX8_sells_71 ?_
              refine px_iload_n C 2 dX8_sells_74 rfl rfl ?_
              refine px_isub C dX8_sells_75 ?_
              obtain ⟨S9, eS9, h⟩ := el_lt h
              refine px_puti C (ty := .int) (j := 1) kx_8 rfl rfl iw_X8_sells_X0 (by decide) lk_X8_sells_130 rfl tyX0 tyX0_ok nmX0 rfl (by decide +kernel) rfl rfl dX8_sells_76 ?_
              refine px_nmS eS9 ?_
              refine px_aload_n C 1 dX8_sells_79 rfl rfl ?_
              refine px_getr C (j := 4) kx_0 rfl rfl iw_X8_sells_X8 (by decide) lk_X8_sells_38 rfl dX8_sells_80 ?_
              refine px_iload_n C 0 dX8_sells_83 rfl rfl ?_
              obtain ⟨S10, eS10, h⟩ := el_lt h
              refine px_puti C (ty := .int) (j := 2) kx_8 rfl rfl iw_X8_sells_X0 (by decide) lk_X8_sells_133 rfl tyX0 tyX0_ok nmX0 rfl (by decide +kernel) rfl rfl dX8_sells_84 ?_
              refine px_nmS eS10 ?_
              refine px_iload_n C 0 dX8_sells_87 rfl rfl ?_
              exact px_iretES C dX8_sells_88 h
            · replace h := el_f c49_5 h
              refine px_bipush C (v := (-2 : Int32)) dX8_sells_52 (by decide) ?_
              exact px_iretES C dX8_sells_54 h
        · replace h := el_f c18_3 h
          refine px_iconst C (v := (-1 : Int32)) dX8_sells_21 (by decide) ?_
          exact px_iretES C dX8_sells_22 h
theorem lk_X8_sets_38 : Cond.fieldLink RX8 38 "RiverTolls" "boat" "LRiverTolls$Boat;" ∈ wsX8_sets := List.mem_of_getElem? (i := 2) rfl
theorem lk_X8_sets_45 : Cond.fieldLink RX8 45 "RiverTolls" "past" "LRiverTolls$Past;" ∈ wsX8_sets := List.mem_of_getElem? (i := 1) rfl
theorem lk_X8_sets_174 : Cond.fieldLink RX8 174 "RiverTolls$Boat" "tolls" "[I" ∈ wsX8_sets := List.mem_of_getElem? (i := 3) rfl
theorem iw_X8_sets_X0 : ∀ w ∈ u_ws RX0 TX0 8, w ∈ wsX8_sets := fun _ h9 => (List.mem_cons_of_mem _ (List.mem_append_left _ (List.mem_append_left _ (List.mem_append_right _ h9))))
theorem iw_X8_sets_X8 : ∀ w ∈ u_ws RX8 TX8 13, w ∈ wsX8_sets := fun _ h9 => (List.mem_cons_of_mem _ (List.mem_append_left _ (List.mem_append_left _ (List.mem_append_left _ (List.mem_append_right _ h9)))))
set_option maxHeartbeats 4000000 in
set_option maxRecDepth 100000 in
theorem c_X8_sets (l : Launch) (tA tB : Nat) (ad : Nat → Nat) (fu : Nat) (S : St) (a1 : Int32) (a2 : Int32) {rv : Int32} {S' : St} (h : m_X8_sets fu S a1 a2 = some (rv, S')) :
    XMet l yX8_sets wsX8_sets ({ frames := 3, cells := 0, slots := 0, locals := 65 }) KX (.object "RiverTolls$Boat") tA tB [.ref (ad 0), .int a1, .int a2] ad S (some (.int rv)) S' := by
  refine XMet.of (cc := cX8_sets) (maxL := 4) (ret := (some .int)) (own := RX8) (lv := [(0, .ref (ad 0)), (1, .int a1), (2, .int a2)]) rfl (by decide) rfl (Nat.le_of_ble_eq_true rfl) rfl ?_
  intro p e s m args below meth c D A cI c1 F C
  rw [m_X8_sets] at h
  refine px_aload_n C 0 dX8_sets_0 rfl rfl ?_
  refine px_iload_n C 1 dX8_sets_1 rfl rfl ?_
  obtain ⟨x2, hc2_0, h⟩ := el_b h
  refine px_callV1 C (c_X8_isRock l tA tB ad S a1 hc2_0) (cwV 1 C.2.2.2.2.1 gX8_sets_X8_isRock rfl rfl rfl (by decide +kernel) ⟨Nat.le_of_ble_eq_true rfl, Nat.le_of_ble_eq_true rfl⟩) ⟨Nat.zero_le _, Nat.zero_le _⟩ kx_0 rfl rfl rfl (Nat.le_of_ble_eq_true rfl) dX8_sets_2 ?_
  refine px_if_eq C (tgt := 18) dX8_sets_5 (by decide) (fun c5_2 => ?_) (fun c5_2 => ?_)
  · replace h := el_t c5_2 h
    refine px_iconst C (v := (-1 : Int32)) dX8_sets_18 (by decide) ?_
    exact px_iretES C dX8_sets_19 h
  · replace h := el_f c5_2 h
    refine px_iload_n C 2 dX8_sets_8 rfl rfl ?_
    refine px_if_lt C (tgt := 18) dX8_sets_9 (by decide) (fun c9_3 => ?_) (fun c9_3 => ?_)
    · replace h := el_t c9_3 h
      refine px_iconst C (v := (-1 : Int32)) dX8_sets_18 (by decide) ?_
      exact px_iretES C dX8_sets_19 h
    · replace h := el_f c9_3 h
      refine px_iload_n C 2 dX8_sets_12 rfl rfl ?_
      refine px_bipush C (v := (9 : Int32)) dX8_sets_13 (by decide) ?_
      refine px_icmp_le C (tgt := 20) dX8_sets_15 (by decide) (fun c15_4 => ?_) (fun c15_4 => ?_)
      · replace h := el_t c15_4 h
        refine px_aload_n C 0 dX8_sets_20 rfl rfl ?_
        refine px_getr C (j := 5) kx_0 rfl rfl iw_X8_sets_X8 (by decide) lk_X8_sets_45 rfl dX8_sets_21 ?_
        refine px_aload_n C 0 dX8_sets_24 rfl rfl ?_
        refine px_getr C (j := 4) kx_0 rfl rfl iw_X8_sets_X8 (by decide) lk_X8_sets_38 rfl dX8_sets_25 ?_
        obtain ⟨S7, hc28_5, h⟩ := el_b h
        refine px_callV0 C (c_X1_remember l tA tB ad fu S hc28_5) (cwV 1 C.2.2.2.2.1 gX8_sets_X1_remember rfl rfl rfl (by decide +kernel) ⟨Nat.le_of_ble_eq_true rfl, Nat.le_of_ble_eq_true rfl⟩) ⟨Nat.zero_le _, Nat.zero_le _⟩ kx_11 rfl rfl rfl (Nat.le_of_ble_eq_true rfl) dX8_sets_28 ?_
        refine px_aload_n C 0 dX8_sets_31 rfl rfl ?_
        refine px_getr C (j := 4) kx_0 rfl rfl iw_X8_sets_X8 (by decide) lk_X8_sets_38 rfl dX8_sets_32 ?_
        refine px_iload_n C 1 dX8_sets_35 rfl rfl ?_
        obtain ⟨x9, hc36_7, h⟩ := el_b h
        refine px_callV1 C (c_X0_tollOf l tA tB ad S7 a1 hc36_7) (cwV 1 C.2.2.2.2.1 gX8_sets_X0_tollOf rfl rfl rfl (by decide +kernel) ⟨Nat.le_of_ble_eq_true rfl, Nat.le_of_ble_eq_true rfl⟩) ⟨Nat.zero_le _, Nat.zero_le _⟩ kx_8 rfl rfl rfl (Nat.le_of_ble_eq_true rfl) dX8_sets_36 ?_
        refine px_istore_n C [(3, .int x9), (0, .ref (ad 0)), (1, .int a1), (2, .int a2)] dX8_sets_39 rfl (by decide) rfl ?_
        refine px_aload_n C 1 dX8_sets_40 rfl rfl ?_
        refine px_getr C (j := 4) kx_0 rfl rfl iw_X8_sets_X8 (by decide) lk_X8_sets_38 rfl dX8_sets_41 ?_
        refine px_getr C (j := 6) kx_8 rfl rfl iw_X8_sets_X0 (by decide) lk_X8_sets_174 rfl dX8_sets_44 ?_
        refine px_iload_n C 2 dX8_sets_47 rfl rfl ?_
        refine px_iload_n C 3 dX8_sets_48 rfl rfl ?_
        obtain ⟨S11, hc49_9, h⟩ := el_b h
        refine px_callS0 C (c_X5_put l tA tB ad S7 9 8 a1 a2 kx_9 hc49_9) (va_cwS 3 C.2.2.2.2.1 gX8_sets_X5_put rfl rfl rfl (by decide +kernel) ⟨Nat.le_of_ble_eq_true rfl, Nat.le_of_ble_eq_true rfl⟩) ⟨Nat.zero_le _, Nat.zero_le _⟩ rfl rfl (Nat.le_of_ble_eq_true rfl) dX8_sets_49 ?_
        refine px_iload_n C 0 dX8_sets_52 rfl rfl ?_
        exact px_iretES C dX8_sets_53 h
      · replace h := el_f c15_4 h
        refine px_iconst C (v := (-1 : Int32)) dX8_sets_18 (by decide) ?_
        exact px_iretES C dX8_sets_19 h
theorem lk_X8_still_32 : Cond.fieldLink RX8 32 "RiverTolls" "told" "LRiverTolls$River;" ∈ wsX8_still := List.mem_of_getElem? (i := 3) rfl
theorem lk_X8_still_38 : Cond.fieldLink RX8 38 "RiverTolls" "boat" "LRiverTolls$Boat;" ∈ wsX8_still := List.mem_of_getElem? (i := 1) rfl
theorem lk_X8_still_127 : Cond.fieldLink RX8 127 "RiverTolls$Boat" "at" "I" ∈ wsX8_still := List.mem_of_getElem? (i := 2) rfl
theorem lk_X8_still_188 : Cond.fieldLink RX8 188 "RiverTolls$River" "rocks" "I" ∈ wsX8_still := List.mem_of_getElem? (i := 4) rfl
theorem iw_X8_still_X0 : ∀ w ∈ u_ws RX0 TX0 8, w ∈ wsX8_still := fun _ h9 => (List.mem_cons_of_mem _ (List.mem_append_left _ (List.mem_append_left _ (List.mem_append_right _ h9))))
theorem iw_X8_still_X3 : ∀ w ∈ u_ws RX3 TX3 5, w ∈ wsX8_still := fun _ h9 => (List.mem_cons_of_mem _ (List.mem_append_left _ (List.mem_append_right _ h9)))
theorem iw_X8_still_X8 : ∀ w ∈ u_ws RX8 TX8 13, w ∈ wsX8_still := fun _ h9 => (List.mem_cons_of_mem _ (List.mem_append_left _ (List.mem_append_left _ (List.mem_append_left _ (List.mem_append_right _ h9)))))
set_option maxHeartbeats 4000000 in
set_option maxRecDepth 100000 in
theorem c_X8_still (l : Launch) (tA tB : Nat) (ad : Nat → Nat) (fu : Nat) (S : St) {rv : Int32} {S' : St} (h : m_X8_still fu S = some (rv, S')) :
    XMet l yX8_still wsX8_still ({ frames := 6, cells := 0, slots := 0, locals := 132 }) KX (.object "RiverTolls$Boat") tA tB [.ref (ad 0)] ad S (some (.int rv)) S' := by
  refine XMet.of (cc := cX8_still) (maxL := 4) (ret := (some .int)) (own := RX8) (lv := [(0, .ref (ad 0))]) rfl (by decide) rfl (Nat.le_of_ble_eq_true rfl) rfl ?_
  intro p e s m args below meth c D A cI c1 F C
  rw [m_X8_still] at h
  refine px_iconst C (v := (0 : Int32)) dX8_still_0 (by decide) ?_
  refine px_istore_n C [(1, .int (0 : Int32)), (0, .ref (ad 0))] dX8_still_1 rfl (by decide) rfl ?_
  refine px_aload_n C 1 dX8_still_2 rfl rfl ?_
  refine px_getr C (j := 4) kx_0 rfl rfl iw_X8_still_X8 (by decide) lk_X8_still_38 rfl dX8_still_3 ?_
  refine px_geti C (j := 0) kx_8 rfl rfl iw_X8_still_X0 (by decide) lk_X8_still_127 rfl dX8_still_6 ?_
  refine px_istore_n C [(2, .int (S.1 8 0)), (1, .int (0 : Int32)), (0, .ref (ad 0))] dX8_still_9 rfl (by decide) rfl ?_
  have hx0 : ∀  (x4 : Int32) (x5 : Int32) (S6 : St), m_X8_still_r0 x4 x5 S6 = some (rv, S') → PW p l e { frames := 6, cells := 0, slots := 0, locals := 132 } s m args below meth c (MQ below (QX KX A D cI c1 F ad (some (.int rv)) S') args s 0 0 A) D A cI c1 F KX ad 4 0 0 S6 [(0, .ref (ad 0)), (1, .int x4), (2, .int x5)] 62 [] := by
    intro x4 x5 S6 h
    rw [m_X8_still_r0] at h
    refine px_iload_n C 1 dX8_still_62 rfl rfl ?_
    exact px_iretES C dX8_still_63 h
  have hl0 : ∀ (n_0 : Nat) (x1 : Int32) (x2 : Int32) (S3 : St), m_X8_still_L0 fu m_X8_still_r0 n_0 x1 x2 S3 = some (rv, S') → PW p l e { frames := 6, cells := 0, slots := 0, locals := 132 } s m args below meth c (MQ below (QX KX A D cI c1 F ad (some (.int rv)) S') args s 0 0 A) D A cI c1 F KX ad 4 0 0 S3 [(0, .ref (ad 0)), (1, .int x1), (2, .int x2)] 10 [] := by
    intro n_0
    induction n_0 with
    | zero =>
      intro x1 x2 S3 h
      rw [m_X8_still_L0_z] at h
      cases h
    | succ n_0 ih0 =>
      intro x1 x2 S3 h
      rw [m_X8_still_L0_s] at h
      refine px_iload_n C 2 dX8_still_10 rfl rfl ?_
      refine px_aload_n C 0 dX8_still_11 rfl rfl ?_
      refine px_getr C (j := 3) kx_0 rfl rfl iw_X8_still_X8 (by decide) lk_X8_still_32 rfl dX8_still_12 ?_
      refine px_geti C (j := 0) kx_6 rfl rfl iw_X8_still_X3 (by decide) lk_X8_still_188 rfl dX8_still_15 ?_
      refine px_icmp_ge C (tgt := 62) dX8_still_18 (by decide) (fun c18_6 => ?_) (fun c18_6 => ?_)
      · replace h := el_t c18_6 h
        exact (hx0 _ _ _ h)
      · replace h := el_f c18_6 h
        refine px_aload_n C 0 dX8_still_21 rfl rfl ?_
        refine px_getr C (j := 4) kx_0 rfl rfl iw_X8_still_X8 (by decide) lk_X8_still_38 rfl dX8_still_22 ?_
        refine px_iload_n C 2 dX8_still_25 rfl rfl ?_
        obtain ⟨x9, hc26_7, h⟩ := el_b h
        refine px_callV1 C (c_X0_tollOf l tA tB ad S3 x2 hc26_7) (cwV 1 C.2.2.2.2.1 gX8_still_X0_tollOf rfl rfl rfl (by decide +kernel) ⟨Nat.le_of_ble_eq_true rfl, Nat.le_of_ble_eq_true rfl⟩) ⟨Nat.zero_le _, Nat.zero_le _⟩ kx_8 rfl rfl rfl (Nat.le_of_ble_eq_true rfl) dX8_still_26 ?_
        refine px_istore_n C [(3, .int x9), (0, .ref (ad 0)), (1, .int x1), (2, .int x2)] dX8_still_29 rfl (by decide) rfl ?_
        refine px_aload_n C 1 dX8_still_30 rfl rfl ?_
        refine px_iload_n C 3 dX8_still_31 rfl rfl ?_
        refine px_iload_n C 0 dX8_still_32 rfl rfl ?_
        obtain ⟨x11, S12, hc33_9, h⟩ := el_b2 h
        refine px_callV1 C (c_X8_paidIfToll l tA tB ad fu S3 x2 x9 hc33_9) (cwV 2 C.2.2.2.2.1 gX8_still_X8_paidIfToll rfl rfl rfl (by decide +kernel) ⟨Nat.le_of_ble_eq_true rfl, Nat.le_of_ble_eq_true rfl⟩) ⟨Nat.zero_le _, Nat.zero_le _⟩ kx_0 rfl rfl rfl (Nat.le_of_ble_eq_true rfl) dX8_still_33 ?_
        obtain ⟨x14, S15, hr36_21, h⟩ := el_b2 h
        have hj36_15 : PW p l e { frames := 6, cells := 0, slots := 0, locals := 132 } s m args below meth c (MQ below (QX KX A D cI c1 F ad (some (.int rv)) S') args s 0 0 A) D A cI c1 F KX ad 4 0 0 S15 [(0, .ref (ad 0)), (1, .int x14), (2, .int x2), (3, .int x9)] 56 [] := by
          refine px_iinc C 2 [(2, .int (x2 + (1 : Int32))), (0, .ref (ad 0)), (1, .int x14), (3, .int x9)] dX8_still_56 rfl rfl (by decide) rfl ?_
          refine px_goto C (tgt := 10) dX8_still_59 (by decide) ?_
          exact px_sub [1, 2, 0] rfl (ih0 _ _ _ h)
        clear h
        have h := hr36_21
        clear hr36_21
        refine px_if_le C (tgt := 56) dX8_still_36 (by decide) (fun c36_12 => ?_) (fun c36_12 => ?_)
        · replace h := el_t c36_12 h
          cases h
          exact px_sub [1, 2, 3, 0] rfl hj36_15
        · replace h := el_f c36_12 h
          refine px_aload_n C 1 dX8_still_39 rfl rfl ?_
          refine px_iload_n C 3 dX8_still_40 rfl rfl ?_
          refine px_iload_n C 0 dX8_still_41 rfl rfl ?_
          refine px_iconst C (v := (1 : Int32)) dX8_still_42 (by decide) ?_
          refine px_iadd C dX8_still_43 ?_
          obtain ⟨x18, S19, hc44_16, h⟩ := el_b2 h
          refine px_callV1 C (c_X8_paidIfToll l tA tB ad fu S12 x2 (x9 + (1 : Int32)) hc44_16) (cwV 2 C.2.2.2.2.1 gX8_still_X8_paidIfToll rfl rfl rfl (by decide +kernel) ⟨Nat.le_of_ble_eq_true rfl, Nat.le_of_ble_eq_true rfl⟩) ⟨Nat.zero_le _, Nat.zero_le _⟩ kx_0 rfl rfl rfl (Nat.le_of_ble_eq_true rfl) dX8_still_44 ?_
          refine px_if_le C (tgt := 56) dX8_still_47 (by decide) (fun c47_19 => ?_) (fun c47_19 => ?_)
          · replace h := el_t c47_19 h
            cases h
            exact px_sub [1, 2, 3, 0] rfl hj36_15
          · replace h := el_f c47_19 h
            refine px_iload_n C 2 dX8_still_50 rfl rfl ?_
            refine px_iconst C (v := (1 : Int32)) dX8_still_51 (by decide) ?_
            refine px_iload_n C 3 dX8_still_52 rfl rfl ?_
            refine px_ishl C dX8_still_53 ?_
            refine px_ior C dX8_still_54 ?_
            obtain ⟨x21, ex21, h⟩ := el_lt h
            refine px_nm ex21 ?_
            refine px_istore_n C [(1, .int x21), (3, .int x9), (0, .ref (ad 0)), (2, .int x2)] dX8_still_55 rfl (by decide) rfl ?_
            cases h
            exact px_sub [2, 0, 3, 1] rfl hj36_15
  exact px_sub [2, 1, 0] rfl (hl0 _ _ _ _ h)
set_option maxHeartbeats 4000000 in
set_option maxRecDepth 100000 in
theorem c_X8_takes (l : Launch) (tA tB : Nat) (ad : Nat → Nat) (S : St) (a1 : Int32) (a2 : Int32) {rv : Int32} (h : m_X8_takes S a1 a2 = some rv) :
    XMet l yX8_takes wsX8_takes ({ frames := 4, cells := 0, slots := 0, locals := 88 }) KX (.object "RiverTolls$Boat") tA tB [.ref (ad 0), .int a1, .int a2] ad S (some (.int rv)) S := by
  refine XMet.of (cc := cX8_takes) (maxL := 3) (ret := (some .int)) (own := RX8) (lv := [(0, .ref (ad 0)), (1, .int a1), (2, .int a2)]) rfl (by decide) rfl (Nat.le_of_ble_eq_true rfl) rfl ?_
  intro p e s m args below meth c D A cI c1 F C
  rw [m_X8_takes] at h
  refine px_aload_n C 0 dX8_takes_0 rfl rfl ?_
  refine px_iload_n C 1 dX8_takes_1 rfl rfl ?_
  obtain ⟨x2, hc2_0, h⟩ := el_b h
  refine px_callV1 C (c_X8_isRock l tA tB ad S a1 hc2_0) (cwV 1 C.2.2.2.2.1 gX8_takes_X8_isRock rfl rfl rfl (by decide +kernel) ⟨Nat.le_of_ble_eq_true rfl, Nat.le_of_ble_eq_true rfl⟩) ⟨Nat.zero_le _, Nat.zero_le _⟩ kx_0 rfl rfl rfl (Nat.le_of_ble_eq_true rfl) dX8_takes_2 ?_
  refine px_if_eq C (tgt := 18) dX8_takes_5 (by decide) (fun c5_2 => ?_) (fun c5_2 => ?_)
  · replace h := el_t c5_2 h
    refine px_iconst C (v := (-1 : Int32)) dX8_takes_18 (by decide) ?_
    exact px_iretE C dX8_takes_19 h
  · replace h := el_f c5_2 h
    refine px_iload_n C 2 dX8_takes_8 rfl rfl ?_
    refine px_if_lt C (tgt := 18) dX8_takes_9 (by decide) (fun c9_3 => ?_) (fun c9_3 => ?_)
    · replace h := el_t c9_3 h
      refine px_iconst C (v := (-1 : Int32)) dX8_takes_18 (by decide) ?_
      exact px_iretE C dX8_takes_19 h
    · replace h := el_f c9_3 h
      refine px_iload_n C 2 dX8_takes_12 rfl rfl ?_
      refine px_bipush C (v := (30 : Int32)) dX8_takes_13 (by decide) ?_
      refine px_icmp_le C (tgt := 20) dX8_takes_15 (by decide) (fun c15_4 => ?_) (fun c15_4 => ?_)
      · replace h := el_t c15_4 h
        refine px_aload_n C 0 dX8_takes_20 rfl rfl ?_
        refine px_iload_n C 1 dX8_takes_21 rfl rfl ?_
        refine px_iload_n C 2 dX8_takes_22 rfl rfl ?_
        obtain ⟨x7, hc23_5, h⟩ := el_b h
        refine px_callV1 C (c_X8_priceOf l tA tB ad S a1 a2 hc23_5) (cwV 2 C.2.2.2.2.1 gX8_takes_X8_priceOf rfl rfl rfl (by decide +kernel) ⟨Nat.le_of_ble_eq_true rfl, Nat.le_of_ble_eq_true rfl⟩) ⟨Nat.zero_le _, Nat.zero_le _⟩ kx_0 rfl rfl rfl (Nat.le_of_ble_eq_true rfl) dX8_takes_23 ?_
        exact px_iretE C dX8_takes_26 h
      · replace h := el_f c15_4 h
        refine px_iconst C (v := (-1 : Int32)) dX8_takes_18 (by decide) ?_
        exact px_iretE C dX8_takes_19 h
set_option maxHeartbeats 4000000 in
set_option maxRecDepth 100000 in
theorem c_X8_toBreak (l : Launch) (tA tB : Nat) (ad : Nat → Nat) (fu : Nat) (S : St) (a1 : Int32) {rv : Int32} {S' : St} (h : m_X8_toBreak fu S a1 = some (rv, S')) :
    XMet l yX8_toBreak wsX8_toBreak ({ frames := 6, cells := 0, slots := 0, locals := 131 }) KX (.object "RiverTolls$Boat") tA tB [.ref (ad 0), .int a1] ad S (some (.int rv)) S' := by
  refine XMet.of (cc := cX8_toBreak) (maxL := 6) (ret := (some .int)) (own := RX8) (lv := [(0, .ref (ad 0)), (1, .int a1)]) rfl (by decide) rfl (Nat.le_of_ble_eq_true rfl) rfl ?_
  intro p e s m args below meth c D A cI c1 F C
  rw [m_X8_toBreak] at h
  refine px_iload_n C 1 dX8_toBreak_0 rfl rfl ?_
  refine px_if_lt C (tgt := 11) dX8_toBreak_1 (by decide) (fun c1_0 => ?_) (fun c1_0 => ?_)
  · replace h := el_t c1_0 h
    refine px_iconst C (v := (-1 : Int32)) dX8_toBreak_11 (by decide) ?_
    exact px_iretES C dX8_toBreak_12 h
  · replace h := el_f c1_0 h
    refine px_iload_n C 1 dX8_toBreak_4 rfl rfl ?_
    refine px_sipush C (v := (9999 : Int32)) dX8_toBreak_5 (by decide) ?_
    refine px_icmp_le C (tgt := 13) dX8_toBreak_8 (by decide) (fun c8_1 => ?_) (fun c8_1 => ?_)
    · replace h := el_t c8_1 h
      refine px_aload_n C 0 dX8_toBreak_13 rfl rfl ?_
      obtain ⟨x4, hc14_2, h⟩ := el_b h
      refine px_callV1 C (c_X8_bitsAhead l tA tB ad fu S hc14_2) (cwV 0 C.2.2.2.2.1 gX8_toBreak_X8_bitsAhead rfl rfl rfl (by decide +kernel) ⟨Nat.le_of_ble_eq_true rfl, Nat.le_of_ble_eq_true rfl⟩) ⟨Nat.zero_le _, Nat.zero_le _⟩ kx_0 rfl rfl rfl (Nat.le_of_ble_eq_true rfl) dX8_toBreak_14 ?_
      refine px_istore_n C [(2, .int x4), (0, .ref (ad 0)), (1, .int a1)] dX8_toBreak_17 rfl (by decide) rfl ?_
      refine px_iconst C (v := (0 : Int32)) dX8_toBreak_18 (by decide) ?_
      refine px_istore_n C [(3, .int (0 : Int32)), (2, .int x4), (0, .ref (ad 0)), (1, .int a1)] dX8_toBreak_19 rfl (by decide) rfl ?_
      have hx0 : ∀  (x7 : Int32) (S8 : St), m_X8_toBreak_r0 x4 x7 S8 = some (rv, S') → PW p l e { frames := 6, cells := 0, slots := 0, locals := 131 } s m args below meth c (MQ below (QX KX A D cI c1 F ad (some (.int rv)) S') args s 0 0 A) D A cI c1 F KX ad 6 0 0 S8 [(0, .ref (ad 0)), (1, .int a1), (2, .int x4), (3, .int x7)] 92 [] := by
        intro x7 S8 h
        rw [m_X8_toBreak_r0] at h
        refine px_iload_n C 2 dX8_toBreak_92 rfl rfl ?_
        exact px_iretES C dX8_toBreak_93 h
      have hl0 : ∀ (n_0 : Nat) (x5 : Int32) (S6 : St), m_X8_toBreak_L0 fu a1 x4 (m_X8_toBreak_r0 x4) n_0 x5 S6 = some (rv, S') → PW p l e { frames := 6, cells := 0, slots := 0, locals := 131 } s m args below meth c (MQ below (QX KX A D cI c1 F ad (some (.int rv)) S') args s 0 0 A) D A cI c1 F KX ad 6 0 0 S6 [(0, .ref (ad 0)), (1, .int a1), (2, .int x4), (3, .int x5)] 20 [] := by
        intro n_0
        induction n_0 with
        | zero =>
          intro x5 S6 h
          rw [m_X8_toBreak_L0_z] at h
          cases h
        | succ n_0 ih0 =>
          intro x5 S6 h
          rw [m_X8_toBreak_L0_s] at h
          refine px_iload_n C 3 dX8_toBreak_20 rfl rfl ?_
          refine px_bipush C (v := (8 : Int32)) dX8_toBreak_21 (by decide) ?_
          refine px_icmp_gt C (tgt := 92) dX8_toBreak_23 (by decide) (fun c23_8 => ?_) (fun c23_8 => ?_)
          · replace h := el_t c23_8 h
            exact (hx0 _ _ h)
          · replace h := el_f c23_8 h
            refine px_iconst C (v := (0 : Int32)) dX8_toBreak_26 (by decide) ?_
            refine px_istore C [(4, .int (0 : Int32)), (0, .ref (ad 0)), (1, .int a1), (2, .int x4), (3, .int x5)] dX8_toBreak_27 (by decide) rfl ?_
            have hx1 : ∀  (x12 : Int32) (S13 : St), m_X8_toBreak_r1 x5 (fun z0 z1 => m_X8_toBreak_L0 fu a1 x4 (m_X8_toBreak_r0 x4) n_0 z0 z1) x12 S13 = some (rv, S') → PW p l e { frames := 6, cells := 0, slots := 0, locals := 131 } s m args below meth c (MQ below (QX KX A D cI c1 F ad (some (.int rv)) S') args s 0 0 A) D A cI c1 F KX ad 6 0 0 S13 [(0, .ref (ad 0)), (1, .int a1), (2, .int x4), (3, .int x5), (4, .int x12)] 86 [] := by
              intro x12 S13 h
              rw [m_X8_toBreak_r1] at h
              refine px_iinc C 3 [(3, .int (x5 + (1 : Int32))), (0, .ref (ad 0)), (1, .int a1), (2, .int x4), (4, .int x12)] dX8_toBreak_86 rfl rfl (by decide) rfl ?_
              refine px_goto C (tgt := 20) dX8_toBreak_89 (by decide) ?_
              exact px_sub [1, 2, 3, 0] rfl (ih0 _ _ h)
            have hl1 : ∀ (n_1 : Nat) (x10 : Int32) (S11 : St), m_X8_toBreak_L1 fu a1 x4 x5 (m_X8_toBreak_r1 x5 (fun z0 z1 => m_X8_toBreak_L0 fu a1 x4 (m_X8_toBreak_r0 x4) n_0 z0 z1)) n_1 x10 S11 = some (rv, S') → PW p l e { frames := 6, cells := 0, slots := 0, locals := 131 } s m args below meth c (MQ below (QX KX A D cI c1 F ad (some (.int rv)) S') args s 0 0 A) D A cI c1 F KX ad 6 0 0 S11 [(0, .ref (ad 0)), (1, .int a1), (2, .int x4), (3, .int x5), (4, .int x10)] 29 [] := by
              intro n_1
              induction n_1 with
              | zero =>
                intro x10 S11 h
                rw [m_X8_toBreak_L1_z] at h
                cases h
              | succ n_1 ih1 =>
                intro x10 S11 h
                rw [m_X8_toBreak_L1_s] at h
                refine px_iload C 4 dX8_toBreak_29 rfl ?_
                refine px_sipush C (v := (256 : Int32)) dX8_toBreak_31 (by decide) ?_
                refine px_icmp_ge C (tgt := 86) dX8_toBreak_34 (by decide) (fun c34_13 => ?_) (fun c34_13 => ?_)
                · replace h := el_t c34_13 h
                  exact (hx1 _ _ h)
                · replace h := el_f c34_13 h
                  refine px_iload C 4 dX8_toBreak_37 rfl ?_
                  obtain ⟨x16, hc39_14, h⟩ := el_b h
                  refine px_callS1 C (c_J6_bitCount_0f7a4 l tA tB ad S11 x10 hc39_14) (va_cwS 1 C.2.2.2.2.1 gX8_toBreak_J6_bitCount_0f7a4 rfl rfl rfl (by decide +kernel) ⟨Nat.le_of_ble_eq_true rfl, Nat.le_of_ble_eq_true rfl⟩) ⟨Nat.zero_le _, Nat.zero_le _⟩ rfl rfl (Nat.le_of_ble_eq_true rfl) dX8_toBreak_39 ?_
                  refine px_iload_n C 3 dX8_toBreak_42 rfl rfl ?_
                  obtain ⟨x18, hr43_25, h⟩ := el_b h
                  have hj43_18 : PW p l e { frames := 6, cells := 0, slots := 0, locals := 131 } s m args below meth c (MQ below (QX KX A D cI c1 F ad (some (.int rv)) S') args s 0 0 A) D A cI c1 F KX ad 6 0 0 S11 [(0, .ref (ad 0)), (1, .int a1), (2, .int x4), (3, .int x5), (4, .int x10)] 60 [.int x18] := by
                    refine px_istore C [(5, .int x18), (0, .ref (ad 0)), (1, .int a1), (2, .int x4), (3, .int x5), (4, .int x10)] dX8_toBreak_60 (by decide) rfl ?_
                    refine px_iload C 0 dX8_toBreak_62 rfl ?_
                    refine px_if_eq C (tgt := 80) dX8_toBreak_64 (by decide) (fun c64_19 => ?_) (fun c64_19 => ?_)
                    · replace h := el_t c64_19 h
                      refine px_iinc C 5 [(4, .int (x10 + (1 : Int32))), (5, .int x18), (0, .ref (ad 0)), (1, .int a1), (2, .int x4), (3, .int x5)] dX8_toBreak_80 rfl rfl (by decide) rfl ?_
                      refine px_goto C (tgt := 29) dX8_toBreak_83 (by decide) ?_
                      exact px_sub [2, 3, 4, 5, 0] rfl (ih1 _ _ h)
                    · replace h := el_f c64_19 h
                      refine px_aload_n C 1 dX8_toBreak_67 rfl rfl ?_
                      refine px_iload C 5 dX8_toBreak_68 rfl ?_
                      obtain ⟨x22, S23, hc70_20, h⟩ := el_b2 h
                      refine px_callV1 C (c_X8_costIfBroken l tA tB ad fu S11 x10 hc70_20) (cwV 1 C.2.2.2.2.1 gX8_toBreak_X8_costIfBroken rfl rfl rfl (by decide +kernel) ⟨Nat.le_of_ble_eq_true rfl, Nat.le_of_ble_eq_true rfl⟩) ⟨Nat.zero_le _, Nat.zero_le _⟩ kx_0 rfl rfl rfl (Nat.le_of_ble_eq_true rfl) dX8_toBreak_70 ?_
                      refine px_iload_n C 2 dX8_toBreak_73 rfl rfl ?_
                      refine px_icmp_gt C (tgt := 80) dX8_toBreak_74 (by decide) (fun c74_23 => ?_) (fun c74_23 => ?_)
                      · replace h := el_t c74_23 h
                        refine px_iinc C 5 [(4, .int (x10 + (1 : Int32))), (5, .int x18), (0, .ref (ad 0)), (1, .int a1), (2, .int x4), (3, .int x5)] dX8_toBreak_80 rfl rfl (by decide) rfl ?_
                        refine px_goto C (tgt := 29) dX8_toBreak_83 (by decide) ?_
                        exact px_sub [2, 3, 4, 5, 0] rfl (ih1 _ _ h)
                      · replace h := el_f c74_23 h
                        refine px_iload C 5 dX8_toBreak_77 rfl ?_
                        exact px_iretES C dX8_toBreak_79 h
                  clear h
                  have h := hr43_25
                  clear hr43_25
                  refine px_icmp_ne C (tgt := 59) dX8_toBreak_43 (by decide) (fun c43_16 => ?_) (fun c43_16 => ?_)
                  · replace h := el_t c43_16 h
                    refine px_iconst C (v := (0 : Int32)) dX8_toBreak_59 (by decide) ?_
                    cases h
                    exact hj43_18
                  · replace h := el_fn c43_16 h
                    refine px_iload C 4 dX8_toBreak_46 rfl ?_
                    refine px_iload_n C 2 dX8_toBreak_48 rfl rfl ?_
                    refine px_iconst C (v := (-1 : Int32)) dX8_toBreak_49 (by decide) ?_
                    refine px_ixor C dX8_toBreak_50 ?_
                    refine px_iand C dX8_toBreak_51 ?_
                    refine px_if_ne C (tgt := 59) dX8_toBreak_52 (by decide) (fun c52_24 => ?_) (fun c52_24 => ?_)
                    · replace h := el_t c52_24 h
                      refine px_iconst C (v := (0 : Int32)) dX8_toBreak_59 (by decide) ?_
                      cases h
                      exact hj43_18
                    · replace h := el_fn c52_24 h
                      refine px_iconst C (v := (1 : Int32)) dX8_toBreak_55 (by decide) ?_
                      refine px_goto C (tgt := 60) dX8_toBreak_56 (by decide) ?_
                      cases h
                      exact hj43_18
            exact px_sub [1, 2, 3, 4, 0] rfl (hl1 _ _ _ h)
      exact px_sub [2, 3, 1, 0] rfl (hl0 _ _ _ h)
    · replace h := el_f c8_1 h
      refine px_iconst C (v := (-1 : Int32)) dX8_toBreak_11 (by decide) ?_
      exact px_iretES C dX8_toBreak_12 h
theorem lk_X8_took_32 : Cond.fieldLink RX8 32 "RiverTolls" "told" "LRiverTolls$River;" ∈ wsX8_took := List.mem_of_getElem? (i := 3) rfl
theorem lk_X8_took_38 : Cond.fieldLink RX8 38 "RiverTolls" "boat" "LRiverTolls$Boat;" ∈ wsX8_took := List.mem_of_getElem? (i := 1) rfl
theorem lk_X8_took_127 : Cond.fieldLink RX8 127 "RiverTolls$Boat" "at" "I" ∈ wsX8_took := List.mem_of_getElem? (i := 2) rfl
theorem lk_X8_took_188 : Cond.fieldLink RX8 188 "RiverTolls$River" "rocks" "I" ∈ wsX8_took := List.mem_of_getElem? (i := 4) rfl
theorem iw_X8_took_X0 : ∀ w ∈ u_ws RX0 TX0 8, w ∈ wsX8_took := fun _ h9 => (List.mem_cons_of_mem _ (List.mem_append_left _ (List.mem_append_left _ (List.mem_append_right _ h9))))
theorem iw_X8_took_X3 : ∀ w ∈ u_ws RX3 TX3 5, w ∈ wsX8_took := fun _ h9 => (List.mem_cons_of_mem _ (List.mem_append_left _ (List.mem_append_right _ h9)))
theorem iw_X8_took_X8 : ∀ w ∈ u_ws RX8 TX8 13, w ∈ wsX8_took := fun _ h9 => (List.mem_cons_of_mem _ (List.mem_append_left _ (List.mem_append_left _ (List.mem_append_left _ (List.mem_append_right _ h9)))))
set_option maxHeartbeats 4000000 in
set_option maxRecDepth 100000 in
theorem c_X8_took (l : Launch) (tA tB : Nat) (ad : Nat → Nat) (fu : Nat) (S : St) {rv : Int32} {S' : St} (h : m_X8_took fu S = some (rv, S')) :
    XMet l yX8_took wsX8_took ({ frames := 6, cells := 0, slots := 0, locals := 130 }) KX (.object "RiverTolls$Boat") tA tB [.ref (ad 0)] ad S (some (.int rv)) S' := by
  refine XMet.of (cc := cX8_took) (maxL := 3) (ret := (some .int)) (own := RX8) (lv := [(0, .ref (ad 0))]) rfl (by decide) rfl (Nat.le_of_ble_eq_true rfl) rfl ?_
  intro p e s m args below meth c D A cI c1 F C
  rw [m_X8_took] at h
  refine px_aload_n C 0 dX8_took_0 rfl rfl ?_
  obtain ⟨S2, hc1_0, h⟩ := el_b h
  refine px_callV0 C (c_X8_findWay l tA tB ad fu S hc1_0) (cwV 0 C.2.2.2.2.1 gX8_took_X8_findWay rfl rfl rfl (by decide +kernel) ⟨Nat.le_of_ble_eq_true rfl, Nat.le_of_ble_eq_true rfl⟩) ⟨Nat.zero_le _, Nat.zero_le _⟩ kx_0 rfl rfl rfl (Nat.le_of_ble_eq_true rfl) dX8_took_1 ?_
  refine px_iconst C (v := (0 : Int32)) dX8_took_4 (by decide) ?_
  refine px_istore_n C [(1, .int (0 : Int32)), (0, .ref (ad 0))] dX8_took_5 rfl (by decide) rfl ?_
  refine px_aload_n C 1 dX8_took_6 rfl rfl ?_
  refine px_getr C (j := 4) kx_0 rfl rfl iw_X8_took_X8 (by decide) lk_X8_took_38 rfl dX8_took_7 ?_
  refine px_geti C (j := 0) kx_8 rfl rfl iw_X8_took_X0 (by decide) lk_X8_took_127 rfl dX8_took_10 ?_
  refine px_istore_n C [(2, .int (S2.1 8 0)), (1, .int (0 : Int32)), (0, .ref (ad 0))] dX8_took_13 rfl (by decide) rfl ?_
  have hx0 : ∀  (x5 : Int32) (x6 : Int32), m_X8_took_r0 fu S2 x5 x6 = some (rv, S') → PW p l e { frames := 6, cells := 0, slots := 0, locals := 130 } s m args below meth c (MQ below (QX KX A D cI c1 F ad (some (.int rv)) S') args s 0 0 A) D A cI c1 F KX ad 3 0 0 S2 [(0, .ref (ad 0)), (1, .int x5), (2, .int x6)] 45 [] := by
    intro x5 x6 h
    rw [m_X8_took_r0] at h
    refine px_aload_n C 0 dX8_took_45 rfl rfl ?_
    refine px_bipush C (v := (8 : Int32)) dX8_took_46 (by decide) ?_
    obtain ⟨x8, hc48_6, h⟩ := el_b h
    refine px_callV1 C (c_X8_allLeftIfTook l tA tB ad fu S2 (8 : Int32) hc48_6) (cwV 1 C.2.2.2.2.1 gX8_took_X8_allLeftIfTook rfl rfl rfl (by decide +kernel) ⟨Nat.le_of_ble_eq_true rfl, Nat.le_of_ble_eq_true rfl⟩) ⟨Nat.zero_le _, Nat.zero_le _⟩ kx_0 rfl rfl rfl (Nat.le_of_ble_eq_true rfl) dX8_took_48 ?_
    obtain ⟨x10, hr51_11, h⟩ := el_b h
    have hj51_10 : PW p l e { frames := 6, cells := 0, slots := 0, locals := 130 } s m args below meth c (MQ below (QX KX A D cI c1 F ad (some (.int rv)) S') args s 0 0 A) D A cI c1 F KX ad 3 0 0 S2 [(0, .ref (ad 0)), (1, .int x10), (2, .int x6)] 60 [] := by
      refine px_iload_n C 1 dX8_took_60 rfl rfl ?_
      exact px_iretES C dX8_took_61 h
    clear h
    have h := hr51_11
    clear hr51_11
    refine px_if_eq C (tgt := 60) dX8_took_51 (by decide) (fun c51_8 => ?_) (fun c51_8 => ?_)
    · replace h := el_t c51_8 h
      cases h
      exact hj51_10
    · replace h := el_f c51_8 h
      refine px_iload_n C 1 dX8_took_54 rfl rfl ?_
      refine px_sipush C (v := (256 : Int32)) dX8_took_55 (by decide) ?_
      refine px_ior C dX8_took_58 ?_
      refine px_istore_n C [(1, .int (x5 ||| (256 : Int32))), (0, .ref (ad 0)), (2, .int x6)] dX8_took_59 rfl (by decide) rfl ?_
      cases h
      exact px_sub [1, 0, 2] rfl hj51_10
  have hl0 : ∀ (n_0 : Nat) (x3 : Int32) (x4 : Int32), m_X8_took_L0 fu S2 (m_X8_took_r0 fu S2) n_0 x3 x4 = some (rv, S') → PW p l e { frames := 6, cells := 0, slots := 0, locals := 130 } s m args below meth c (MQ below (QX KX A D cI c1 F ad (some (.int rv)) S') args s 0 0 A) D A cI c1 F KX ad 3 0 0 S2 [(0, .ref (ad 0)), (1, .int x3), (2, .int x4)] 14 [] := by
    intro n_0
    induction n_0 with
    | zero =>
      intro x3 x4 h
      rw [m_X8_took_L0_z] at h
      cases h
    | succ n_0 ih0 =>
      intro x3 x4 h
      rw [m_X8_took_L0_s] at h
      refine px_iload_n C 2 dX8_took_14 rfl rfl ?_
      refine px_aload_n C 0 dX8_took_15 rfl rfl ?_
      refine px_getr C (j := 3) kx_0 rfl rfl iw_X8_took_X8 (by decide) lk_X8_took_32 rfl dX8_took_16 ?_
      refine px_geti C (j := 0) kx_6 rfl rfl iw_X8_took_X3 (by decide) lk_X8_took_188 rfl dX8_took_19 ?_
      refine px_icmp_ge C (tgt := 45) dX8_took_22 (by decide) (fun c22_12 => ?_) (fun c22_12 => ?_)
      · replace h := el_t c22_12 h
        exact (hx0 _ _ h)
      · replace h := el_f c22_12 h
        refine px_aload_n C 0 dX8_took_25 rfl rfl ?_
        refine px_iload_n C 2 dX8_took_26 rfl rfl ?_
        obtain ⟨x15, hc27_13, h⟩ := el_b h
        refine px_callV1 C (c_X8_allLeftIfTook l tA tB ad fu S2 x4 hc27_13) (cwV 1 C.2.2.2.2.1 gX8_took_X8_allLeftIfTook rfl rfl rfl (by decide +kernel) ⟨Nat.le_of_ble_eq_true rfl, Nat.le_of_ble_eq_true rfl⟩) ⟨Nat.zero_le _, Nat.zero_le _⟩ kx_0 rfl rfl rfl (Nat.le_of_ble_eq_true rfl) dX8_took_27 ?_
        obtain ⟨x17, hr30_19, h⟩ := el_b h
        have hj30_17 : PW p l e { frames := 6, cells := 0, slots := 0, locals := 130 } s m args below meth c (MQ below (QX KX A D cI c1 F ad (some (.int rv)) S') args s 0 0 A) D A cI c1 F KX ad 3 0 0 S2 [(0, .ref (ad 0)), (1, .int x17), (2, .int x4)] 39 [] := by
          refine px_iinc C 2 [(2, .int (x4 + (1 : Int32))), (0, .ref (ad 0)), (1, .int x17)] dX8_took_39 rfl rfl (by decide) rfl ?_
          refine px_goto C (tgt := 14) dX8_took_42 (by decide) ?_
          exact px_sub [1, 2, 0] rfl (ih0 _ _ h)
        clear h
        have h := hr30_19
        clear hr30_19
        refine px_if_eq C (tgt := 39) dX8_took_30 (by decide) (fun c30_15 => ?_) (fun c30_15 => ?_)
        · replace h := el_t c30_15 h
          cases h
          exact hj30_17
        · replace h := el_f c30_15 h
          refine px_iload_n C 1 dX8_took_33 rfl rfl ?_
          refine px_iconst C (v := (1 : Int32)) dX8_took_34 (by decide) ?_
          refine px_iload_n C 2 dX8_took_35 rfl rfl ?_
          refine px_ishl C dX8_took_36 ?_
          refine px_ior C dX8_took_37 ?_
          obtain ⟨x19, ex19, h⟩ := el_lt h
          refine px_nm ex19 ?_
          refine px_istore_n C [(1, .int x19), (0, .ref (ad 0)), (2, .int x4)] dX8_took_38 rfl (by decide) rfl ?_
          cases h
          exact px_sub [1, 0, 2] rfl hj30_17
  exact px_sub [2, 1, 0] rfl (hl0 _ _ _ h)
theorem lk_X8_trace_76 : Cond.fieldLink RX8 76 "RiverTolls" "traced" "J" ∈ wsX8_trace := List.mem_of_getElem? (i := 1) rfl
theorem iw_X8_trace_X8 : ∀ w ∈ u_ws RX8 TX8 13, w ∈ wsX8_trace := fun _ h9 => (List.mem_cons_of_mem _ (List.mem_append_right _ h9))
set_option maxHeartbeats 4000000 in
set_option maxRecDepth 100000 in
theorem c_X8_trace (l : Launch) (tA tB : Nat) (ad : Nat → Nat) (S : St) {rv : Int64} (h : m_X8_trace S = some rv) :
    XMet l yX8_trace wsX8_trace ({ frames := 0, cells := 0, slots := 0, locals := 0 }) KX (.object "RiverTolls$Boat") tA tB [.ref (ad 0)] ad S (some (.long rv)) S := by
  refine XMet.of (cc := cX8_trace) (maxL := 1) (ret := (some .long)) (own := RX8) (lv := [(0, .ref (ad 0))]) rfl (by decide) rfl (Nat.le_of_ble_eq_true rfl) rfl ?_
  intro p e s m args below meth c D A cI c1 F C
  rw [m_X8_trace] at h
  refine px_aload_n C 0 dX8_trace_0 rfl rfl ?_
  refine px_getl C (j := 12) kx_0 rfl rfl iw_X8_trace_X8 (by decide) lk_X8_trace_76 rfl dX8_trace_1 ?_
  exact px_lretE C dX8_trace_4 h
theorem lk_X8_two_38 : Cond.fieldLink RX8 38 "RiverTolls" "boat" "LRiverTolls$Boat;" ∈ wsX8_two := List.mem_of_getElem? (i := 1) rfl
theorem lk_X8_two_130 : Cond.fieldLink RX8 130 "RiverTolls$Boat" "barrels" "I" ∈ wsX8_two := List.mem_of_getElem? (i := 2) rfl
theorem iw_X8_two_X0 : ∀ w ∈ u_ws RX0 TX0 8, w ∈ wsX8_two := fun _ h9 => (List.mem_cons_of_mem _ (List.mem_append_left _ (List.mem_append_left _ (List.mem_append_right _ h9))))
theorem iw_X8_two_X8 : ∀ w ∈ u_ws RX8 TX8 13, w ∈ wsX8_two := fun _ h9 => (List.mem_cons_of_mem _ (List.mem_append_left _ (List.mem_append_left _ (List.mem_append_left _ (List.mem_append_right _ h9)))))
set_option maxHeartbeats 4000000 in
set_option maxRecDepth 100000 in
theorem c_X8_two (l : Launch) (tA tB : Nat) (ad : Nat → Nat) (fu : Nat) (S : St) (a1 : Int32) {rv : Int32} {S' : St} (h : m_X8_two fu S a1 = some (rv, S')) :
    XMet l yX8_two wsX8_two ({ frames := 6, cells := 0, slots := 0, locals := 131 }) KX (.object "RiverTolls$Boat") tA tB [.ref (ad 0), .int a1] ad S (some (.int rv)) S' := by
  refine XMet.of (cc := cX8_two) (maxL := 6) (ret := (some .int)) (own := RX8) (lv := [(0, .ref (ad 0)), (1, .int a1)]) rfl (by decide) rfl (Nat.le_of_ble_eq_true rfl) rfl ?_
  intro p e s m args below meth c D A cI c1 F C
  rw [m_X8_two] at h
  refine px_iload_n C 1 dX8_two_0 rfl rfl ?_
  refine px_if_lt C (tgt := 9) dX8_two_1 (by decide) (fun c1_0 => ?_) (fun c1_0 => ?_)
  · replace h := el_t c1_0 h
    refine px_iconst C (v := (-1 : Int32)) dX8_two_9 (by decide) ?_
    exact px_iretES C dX8_two_10 h
  · replace h := el_f c1_0 h
    refine px_iload_n C 1 dX8_two_4 rfl rfl ?_
    refine px_iconst C (v := (1 : Int32)) dX8_two_5 (by decide) ?_
    refine px_icmp_le C (tgt := 11) dX8_two_6 (by decide) (fun c6_1 => ?_) (fun c6_1 => ?_)
    · replace h := el_t c6_1 h
      refine px_aload_n C 0 dX8_two_11 rfl rfl ?_
      refine px_getr C (j := 4) kx_0 rfl rfl iw_X8_two_X8 (by decide) lk_X8_two_38 rfl dX8_two_12 ?_
      refine px_geti C (j := 1) kx_8 rfl rfl iw_X8_two_X0 (by decide) lk_X8_two_130 rfl dX8_two_15 ?_
      refine px_iconst C (v := (2 : Int32)) dX8_two_18 (by decide) ?_
      refine px_icmp_ge C (tgt := 25) dX8_two_19 (by decide) (fun c19_2 => ?_) (fun c19_2 => ?_)
      · replace h := el_t c19_2 h
        refine px_iconst C (v := (1 : Int32)) dX8_two_25 (by decide) ?_
        refine px_istore_n C [(2, .int (1 : Int32)), (0, .ref (ad 0)), (1, .int a1)] dX8_two_26 rfl (by decide) rfl ?_
        refine px_aload_n C 1 dX8_two_27 rfl rfl ?_
        refine px_iconst C (v := (1 : Int32)) dX8_two_28 (by decide) ?_
        obtain ⟨x5, S6, hc29_3, h⟩ := el_b2 h
        refine px_callV1 C (c_X8_costOf l tA tB ad fu S (1 : Int32) hc29_3) (cwV 1 C.2.2.2.2.1 gX8_two_X8_costOf rfl rfl rfl (by decide +kernel) ⟨Nat.le_of_ble_eq_true rfl, Nat.le_of_ble_eq_true rfl⟩) ⟨Nat.zero_le _, Nat.zero_le _⟩ kx_0 rfl rfl rfl (Nat.le_of_ble_eq_true rfl) dX8_two_29 ?_
        refine px_aload_n C 1 dX8_two_32 rfl rfl ?_
        refine px_aload_n C 1 dX8_two_33 rfl rfl ?_
        refine px_getr C (j := 4) kx_0 rfl rfl iw_X8_two_X8 (by decide) lk_X8_two_38 rfl dX8_two_34 ?_
        refine px_geti C (j := 1) kx_8 rfl rfl iw_X8_two_X0 (by decide) lk_X8_two_130 rfl dX8_two_37 ?_
        refine px_iconst C (v := (1 : Int32)) dX8_two_40 (by decide) ?_
        refine px_isub C dX8_two_41 ?_
        obtain ⟨x8, S9, hc42_6, h⟩ := el_b2 h
        refine px_callV1 C (c_X8_costOf l tA tB ad fu S6 ((S6.1 8 1) - (1 : Int32)) hc42_6) (cwV 1 C.2.2.2.2.1 gX8_two_X8_costOf rfl rfl rfl (by decide +kernel) ⟨Nat.le_of_ble_eq_true rfl, Nat.le_of_ble_eq_true rfl⟩) ⟨Nat.zero_le _, Nat.zero_le _⟩ kx_0 rfl rfl rfl (Nat.le_of_ble_eq_true rfl) dX8_two_42 ?_
        refine px_iadd C dX8_two_45 ?_
        refine px_istore_n C [(3, .int (x5 + x8)), (2, .int (1 : Int32)), (0, .ref (ad 0)), (1, .int a1)] dX8_two_46 rfl (by decide) rfl ?_
        refine px_iconst C (v := (2 : Int32)) dX8_two_47 (by decide) ?_
        refine px_istore C [(4, .int (2 : Int32)), (3, .int (x5 + x8)), (2, .int (1 : Int32)), (0, .ref (ad 0)), (1, .int a1)] dX8_two_48 (by decide) rfl ?_
        have hx0 : ∀  (x14 : Int32) (x15 : Int32) (x16 : Int32) (S17 : St), m_X8_two_r0 a1 x14 x15 x16 S17 = some (rv, S') → PW p l e { frames := 6, cells := 0, slots := 0, locals := 131 } s m args below meth c (MQ below (QX KX A D cI c1 F ad (some (.int rv)) S') args s 0 0 A) D A cI c1 F KX ad 6 0 0 S17 [(0, .ref (ad 0)), (1, .int a1), (2, .int x14), (3, .int x15), (4, .int x16)] 105 [] := by
          intro x14 x15 x16 S17 h
          rw [m_X8_two_r0] at h
          refine px_iload_n C 1 dX8_two_105 rfl rfl ?_
          refine px_if_ne C (tgt := 113) dX8_two_106 (by decide) (fun c106_17 => ?_) (fun c106_17 => ?_)
          · replace h := el_t c106_17 h
            refine px_iload_n C 3 dX8_two_113 rfl rfl ?_
            exact px_iretES C dX8_two_114 h
          · replace h := el_fn c106_17 h
            refine px_iload_n C 2 dX8_two_109 rfl rfl ?_
            refine px_goto C (tgt := 114) dX8_two_110 (by decide) ?_
            exact px_iretES C dX8_two_114 h
        have hl0 : ∀ (n_0 : Nat) (x10 : Int32) (x11 : Int32) (x12 : Int32) (S13 : St), m_X8_two_L0 fu (m_X8_two_r0 a1) n_0 x10 x11 x12 S13 = some (rv, S') → PW p l e { frames := 6, cells := 0, slots := 0, locals := 131 } s m args below meth c (MQ below (QX KX A D cI c1 F ad (some (.int rv)) S') args s 0 0 A) D A cI c1 F KX ad 6 0 0 S13 [(0, .ref (ad 0)), (1, .int a1), (2, .int x10), (3, .int x11), (4, .int x12)] 50 [] := by
          intro n_0
          induction n_0 with
          | zero =>
            intro x10 x11 x12 S13 h
            rw [m_X8_two_L0_z] at h
            cases h
          | succ n_0 ih0 =>
            intro x10 x11 x12 S13 h
            rw [m_X8_two_L0_s] at h
            refine px_iload C 4 dX8_two_50 rfl ?_
            refine px_aload_n C 0 dX8_two_52 rfl rfl ?_
            refine px_getr C (j := 4) kx_0 rfl rfl iw_X8_two_X8 (by decide) lk_X8_two_38 rfl dX8_two_53 ?_
            refine px_geti C (j := 1) kx_8 rfl rfl iw_X8_two_X0 (by decide) lk_X8_two_130 rfl dX8_two_56 ?_
            refine px_iconst C (v := (2 : Int32)) dX8_two_59 (by decide) ?_
            refine px_idiv C dX8_two_60 (by decide) ?_
            refine px_icmp_gt C (tgt := 105) dX8_two_61 (by decide) (fun c61_18 => ?_) (fun c61_18 => ?_)
            · replace h := el_t c61_18 h
              exact (hx0 _ _ _ _ h)
            · replace h := el_f c61_18 h
              refine px_aload_n C 0 dX8_two_64 rfl rfl ?_
              refine px_iload C 4 dX8_two_65 rfl ?_
              obtain ⟨x21, S22, hc67_19, h⟩ := el_b2 h
              refine px_callV1 C (c_X8_costOf l tA tB ad fu S13 x12 hc67_19) (cwV 1 C.2.2.2.2.1 gX8_two_X8_costOf rfl rfl rfl (by decide +kernel) ⟨Nat.le_of_ble_eq_true rfl, Nat.le_of_ble_eq_true rfl⟩) ⟨Nat.zero_le _, Nat.zero_le _⟩ kx_0 rfl rfl rfl (Nat.le_of_ble_eq_true rfl) dX8_two_67 ?_
              refine px_aload_n C 0 dX8_two_70 rfl rfl ?_
              refine px_aload_n C 0 dX8_two_71 rfl rfl ?_
              refine px_getr C (j := 4) kx_0 rfl rfl iw_X8_two_X8 (by decide) lk_X8_two_38 rfl dX8_two_72 ?_
              refine px_geti C (j := 1) kx_8 rfl rfl iw_X8_two_X0 (by decide) lk_X8_two_130 rfl dX8_two_75 ?_
              refine px_iload C 4 dX8_two_78 rfl ?_
              refine px_isub C dX8_two_80 ?_
              obtain ⟨x24, S25, hc81_22, h⟩ := el_b2 h
              refine px_callV1 C (c_X8_costOf l tA tB ad fu S22 ((S22.1 8 1) - x12) hc81_22) (cwV 1 C.2.2.2.2.1 gX8_two_X8_costOf rfl rfl rfl (by decide +kernel) ⟨Nat.le_of_ble_eq_true rfl, Nat.le_of_ble_eq_true rfl⟩) ⟨Nat.zero_le _, Nat.zero_le _⟩ kx_0 rfl rfl rfl (Nat.le_of_ble_eq_true rfl) dX8_two_81 ?_
              refine px_iadd C dX8_two_84 ?_
              refine px_istore C [(5, .int (x21 + x24)), (0, .ref (ad 0)), (1, .int a1), (2, .int x10), (3, .int x11), (4, .int x12)] dX8_two_85 (by decide) rfl ?_
              refine px_iload C 0 dX8_two_87 rfl ?_
              refine px_iload_n C 4 dX8_two_89 rfl rfl ?_
              obtain ⟨x27, x28, hr90_29, h⟩ := el_b2 h
              have hj90_28 : PW p l e { frames := 6, cells := 0, slots := 0, locals := 131 } s m args below meth c (MQ below (QX KX A D cI c1 F ad (some (.int rv)) S') args s 0 0 A) D A cI c1 F KX ad 6 0 0 S25 [(0, .ref (ad 0)), (1, .int a1), (2, .int x27), (3, .int x28), (4, .int x12), (5, .int (x21 + x24))] 99 [] := by
                refine px_iinc C 4 [(4, .int (x12 + (1 : Int32))), (0, .ref (ad 0)), (1, .int a1), (2, .int x27), (3, .int x28), (5, .int (x21 + x24))] dX8_two_99 rfl rfl (by decide) rfl ?_
                refine px_goto C (tgt := 50) dX8_two_102 (by decide) ?_
                exact px_sub [1, 2, 3, 4, 0] rfl (ih0 _ _ _ _ h)
              clear h
              have h := hr90_29
              clear hr90_29
              refine px_icmp_ge C (tgt := 99) dX8_two_90 (by decide) (fun c90_25 => ?_) (fun c90_25 => ?_)
              · replace h := el_t c90_25 h
                cases h
                exact px_sub [1, 2, 3, 4, 5, 0] rfl hj90_28
              · replace h := el_f c90_25 h
                refine px_iload C 5 dX8_two_93 rfl ?_
                refine px_istore_n C [(2, .int x12), (5, .int (x21 + x24)), (0, .ref (ad 0)), (1, .int a1), (3, .int x11), (4, .int x12)] dX8_two_95 rfl (by decide) rfl ?_
                refine px_iload C 1 dX8_two_96 rfl ?_
                refine px_istore_n C [(3, .int (x21 + x24)), (2, .int x12), (5, .int (x21 + x24)), (0, .ref (ad 0)), (1, .int a1), (4, .int x12)] dX8_two_98 rfl (by decide) rfl ?_
                cases h
                exact px_sub [3, 4, 1, 0, 5, 2] rfl hj90_28
        exact px_sub [3, 4, 2, 1, 0] rfl (hl0 _ _ _ _ _ h)
      · replace h := el_f c19_2 h
        refine px_bipush C (v := (-9 : Int32)) dX8_two_22 (by decide) ?_
        exact px_iretES C dX8_two_24 h
    · replace h := el_f c6_1 h
      refine px_iconst C (v := (-1 : Int32)) dX8_two_9 (by decide) ?_
      exact px_iretES C dX8_two_10 h
