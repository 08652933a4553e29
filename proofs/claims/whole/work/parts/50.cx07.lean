theorem lk_X8_type_10 : Cond.fieldLink RX8 10 "RiverTolls" "text" "LRiverTolls$Text;" ∈ wsX8_type := List.mem_of_getElem? (i := 1) rfl
theorem lk_X8_type_83 : Cond.fieldLink RX8 83 "RiverTolls$Text" "length" "I" ∈ wsX8_type := List.mem_of_getElem? (i := 2) rfl
theorem iw_X8_type_X7 : ∀ w ∈ u_ws RX7 TX7 2, w ∈ wsX8_type := fun _ h9 => (List.mem_cons_of_mem _ (List.mem_append_right _ h9))
theorem iw_X8_type_X8 : ∀ w ∈ u_ws RX8 TX8 13, w ∈ wsX8_type := fun _ h9 => (List.mem_cons_of_mem _ (List.mem_append_left _ (List.mem_append_right _ h9)))
set_option maxHeartbeats 4000000 in
set_option maxRecDepth 100000 in
theorem c_X8_type (l : Launch) (tA tB : Nat) (ad : Nat → Nat) (S : St) (a1 : Int32) {rv : Int32} {S' : St} (h : m_X8_type S a1 = some (rv, S')) :
    XMet l yX8_type wsX8_type ({ frames := 2, cells := 0, slots := 0, locals := 43 }) KX (.object "RiverTolls$Boat") tA tB [.ref (ad 0), .int a1] ad S (some (.int rv)) S' := by
  refine XMet.of (cc := cX8_type) (maxL := 2) (ret := (some .int)) (own := RX8) (lv := [(0, .ref (ad 0)), (1, .int a1)]) rfl (by decide) rfl (Nat.le_of_ble_eq_true rfl) rfl ?_
  intro p e s m args below meth c D A cI c1 F C
  rw [m_X8_type] at h
  refine px_iload_n C 1 dX8_type_0 rfl rfl ?_
  refine px_if_lt C (tgt := 11) dX8_type_1 (by decide) (fun c1_0 => ?_) (fun c1_0 => ?_)
  · replace h := el_t c1_0 h
    refine px_iconst C (v := (-1 : Int32)) dX8_type_11 (by decide) ?_
    exact px_iretES C dX8_type_12 h
  · replace h := el_f c1_0 h
    refine px_iload_n C 1 dX8_type_4 rfl rfl ?_
    refine px_sipush C (v := (255 : Int32)) dX8_type_5 (by decide) ?_
    refine px_icmp_le C (tgt := 13) dX8_type_8 (by decide) (fun c8_1 => ?_) (fun c8_1 => ?_)
    · replace h := el_t c8_1 h
      refine px_aload_n C 0 dX8_type_13 rfl rfl ?_
      refine px_getr C (j := 0) kx_0 rfl rfl iw_X8_type_X8 (by decide) lk_X8_type_10 rfl dX8_type_14 ?_
      refine px_geti C (j := 0) kx_1 rfl rfl iw_X8_type_X7 (by decide) lk_X8_type_83 rfl dX8_type_17 ?_
      refine px_sipush C (v := (200 : Int32)) dX8_type_20 (by decide) ?_
      refine px_icmp_lt C (tgt := 29) dX8_type_23 (by decide) (fun c23_2 => ?_) (fun c23_2 => ?_)
      · replace h := el_t c23_2 h
        refine px_aload_n C 0 dX8_type_29 rfl rfl ?_
        refine px_getr C (j := 0) kx_0 rfl rfl iw_X8_type_X8 (by decide) lk_X8_type_10 rfl dX8_type_30 ?_
        refine px_iload_n C 1 dX8_type_33 rfl rfl ?_
        obtain ⟨S5, hc34_3, h⟩ := el_b h
        refine px_callV0 C (c_X7_append l tA tB ad S a1 hc34_3) (cwV 1 C.2.2.2.2.1 gX8_type_X7_append rfl rfl rfl (by decide +kernel) ⟨Nat.le_of_ble_eq_true rfl, Nat.le_of_ble_eq_true rfl⟩) ⟨Nat.zero_le _, Nat.zero_le _⟩ kx_1 rfl rfl rfl (Nat.le_of_ble_eq_true rfl) dX8_type_34 ?_
        refine px_aload_n C 0 dX8_type_37 rfl rfl ?_
        refine px_getr C (j := 0) kx_0 rfl rfl iw_X8_type_X8 (by decide) lk_X8_type_10 rfl dX8_type_38 ?_
        refine px_geti C (j := 0) kx_1 rfl rfl iw_X8_type_X7 (by decide) lk_X8_type_83 rfl dX8_type_41 ?_
        exact px_iretES C dX8_type_44 h
      · replace h := el_f c23_2 h
        refine px_bipush C (v := (-3 : Int32)) dX8_type_26 (by decide) ?_
        exact px_iretES C dX8_type_28 h
    · replace h := el_f c8_1 h
      refine px_iconst C (v := (-1 : Int32)) dX8_type_11 (by decide) ?_
      exact px_iretES C dX8_type_12 h
theorem lk_X8_undo_38 : Cond.fieldLink RX8 38 "RiverTolls" "boat" "LRiverTolls$Boat;" ∈ wsX8_undo := List.mem_of_getElem? (i := 3) rfl
theorem lk_X8_undo_45 : Cond.fieldLink RX8 45 "RiverTolls" "past" "LRiverTolls$Past;" ∈ wsX8_undo := List.mem_of_getElem? (i := 1) rfl
theorem lk_X8_undo_150 : Cond.fieldLink RX8 150 "RiverTolls$Past" "known" "I" ∈ wsX8_undo := List.mem_of_getElem? (i := 2) rfl
theorem iw_X8_undo_X1 : ∀ w ∈ u_ws RX1 TX1 3, w ∈ wsX8_undo := fun _ h9 => (List.mem_cons_of_mem _ (List.mem_append_left _ (List.mem_append_right _ h9)))
theorem iw_X8_undo_X8 : ∀ w ∈ u_ws RX8 TX8 13, w ∈ wsX8_undo := fun _ h9 => (List.mem_cons_of_mem _ (List.mem_append_left _ (List.mem_append_left _ (List.mem_append_right _ h9))))
set_option maxHeartbeats 4000000 in
set_option maxRecDepth 100000 in
theorem c_X8_undo (l : Launch) (tA tB : Nat) (ad : Nat → Nat) (fu : Nat) (S : St) {rv : Int32} {S' : St} (h : m_X8_undo fu S = some (rv, S')) :
    XMet l yX8_undo wsX8_undo ({ frames := 3, cells := 0, slots := 0, locals := 66 }) KX (.object "RiverTolls$Boat") tA tB [.ref (ad 0)] ad S (some (.int rv)) S' := by
  refine XMet.of (cc := cX8_undo) (maxL := 1) (ret := (some .int)) (own := RX8) (lv := [(0, .ref (ad 0))]) rfl (by decide) rfl (Nat.le_of_ble_eq_true rfl) rfl ?_
  intro p e s m args below meth c D A cI c1 F C
  rw [m_X8_undo] at h
  refine px_aload_n C 0 dX8_undo_0 rfl rfl ?_
  refine px_getr C (j := 5) kx_0 rfl rfl iw_X8_undo_X8 (by decide) lk_X8_undo_45 rfl dX8_undo_1 ?_
  refine px_geti C (j := 0) kx_11 rfl rfl iw_X8_undo_X1 (by decide) lk_X8_undo_150 rfl dX8_undo_4 ?_
  refine px_if_ne C (tgt := 13) dX8_undo_7 (by decide) (fun c7_0 => ?_) (fun c7_0 => ?_)
  · replace h := el_t c7_0 h
    refine px_aload_n C 0 dX8_undo_13 rfl rfl ?_
    refine px_getr C (j := 5) kx_0 rfl rfl iw_X8_undo_X8 (by decide) lk_X8_undo_45 rfl dX8_undo_14 ?_
    refine px_aload_n C 0 dX8_undo_17 rfl rfl ?_
    refine px_getr C (j := 4) kx_0 rfl rfl iw_X8_undo_X8 (by decide) lk_X8_undo_38 rfl dX8_undo_18 ?_
    obtain ⟨S3, hc21_1, h⟩ := el_b h
    refine px_callV0 C (c_X1_restore l tA tB ad fu S hc21_1) (cwV 1 C.2.2.2.2.1 gX8_undo_X1_restore rfl rfl rfl (by decide +kernel) ⟨Nat.le_of_ble_eq_true rfl, Nat.le_of_ble_eq_true rfl⟩) ⟨Nat.zero_le _, Nat.zero_le _⟩ kx_11 rfl rfl rfl (Nat.le_of_ble_eq_true rfl) dX8_undo_21 ?_
    refine px_aload_n C 0 dX8_undo_24 rfl rfl ?_
    refine px_getr C (j := 5) kx_0 rfl rfl iw_X8_undo_X8 (by decide) lk_X8_undo_45 rfl dX8_undo_25 ?_
    refine px_geti C (j := 0) kx_11 rfl rfl iw_X8_undo_X1 (by decide) lk_X8_undo_150 rfl dX8_undo_28 ?_
    exact px_iretES C dX8_undo_31 h
  · replace h := el_fn c7_0 h
    refine px_bipush C (v := (-2 : Int32)) dX8_undo_10 (by decide) ?_
    exact px_iretES C dX8_undo_12 h
theorem lk_X8_way_32 : Cond.fieldLink RX8 32 "RiverTolls" "told" "LRiverTolls$River;" ∈ wsX8_way := List.mem_of_getElem? (i := 1) rfl
theorem lk_X8_way_38 : Cond.fieldLink RX8 38 "RiverTolls" "boat" "LRiverTolls$Boat;" ∈ wsX8_way := List.mem_of_getElem? (i := 3) rfl
theorem lk_X8_way_62 : Cond.fieldLink RX8 62 "RiverTolls" "route" "LRiverTolls$Route;" ∈ wsX8_way := List.mem_of_getElem? (i := 5) rfl
theorem lk_X8_way_127 : Cond.fieldLink RX8 127 "RiverTolls$Boat" "at" "I" ∈ wsX8_way := List.mem_of_getElem? (i := 4) rfl
theorem lk_X8_way_188 : Cond.fieldLink RX8 188 "RiverTolls$River" "rocks" "I" ∈ wsX8_way := List.mem_of_getElem? (i := 2) rfl
theorem lk_X8_way_194 : Cond.fieldLink RX8 194 "RiverTolls$Route" "total" "I" ∈ wsX8_way := List.mem_of_getElem? (i := 6) rfl
theorem lk_X8_way_197 : Cond.fieldLink RX8 197 "RiverTolls$Route" "byLand" "[I" ∈ wsX8_way := List.mem_of_getElem? (i := 7) rfl
theorem iw_X8_way_X0 : ∀ w ∈ u_ws RX0 TX0 8, w ∈ wsX8_way := fun _ h9 => (List.mem_cons_of_mem _ (List.mem_append_left _ (List.mem_append_right _ h9)))
theorem iw_X8_way_X3 : ∀ w ∈ u_ws RX3 TX3 5, w ∈ wsX8_way := fun _ h9 => (List.mem_cons_of_mem _ (List.mem_append_left _ (List.mem_append_left _ (List.mem_append_right _ h9))))
theorem iw_X8_way_X4 : ∀ w ∈ u_ws RX4 TX4 14, w ∈ wsX8_way := fun _ h9 => (List.mem_cons_of_mem _ (List.mem_append_right _ h9))
theorem iw_X8_way_X8 : ∀ w ∈ u_ws RX8 TX8 13, w ∈ wsX8_way := fun _ h9 => (List.mem_cons_of_mem _ (List.mem_append_left _ (List.mem_append_left _ (List.mem_append_left _ (List.mem_append_right _ h9)))))
set_option maxHeartbeats 4000000 in
set_option maxRecDepth 100000 in
theorem c_X8_way (l : Launch) (tA tB : Nat) (ad : Nat → Nat) (fu : Nat) (S : St) (a1 : Int32) {rv : Int32} {S' : St} (h : m_X8_way fu S a1 = some (rv, S')) :
    XMet l yX8_way wsX8_way ({ frames := 6, cells := 0, slots := 0, locals := 130 }) KX (.object "RiverTolls$Boat") tA tB [.ref (ad 0), .int a1] ad S (some (.int rv)) S' := by
  refine XMet.of (cc := cX8_way) (maxL := 2) (ret := (some .int)) (own := RX8) (lv := [(0, .ref (ad 0)), (1, .int a1)]) rfl (by decide) rfl (Nat.le_of_ble_eq_true rfl) rfl ?_
  intro p e s m args below meth c D A cI c1 F C
  rw [m_X8_way] at h
  refine px_iload_n C 1 dX8_way_0 rfl rfl ?_
  refine px_iconst C (v := (-1 : Int32)) dX8_way_1 (by decide) ?_
  refine px_icmp_lt C (tgt := 16) dX8_way_2 (by decide) (fun c2_0 => ?_) (fun c2_0 => ?_)
  · replace h := el_t c2_0 h
    refine px_iconst C (v := (-1 : Int32)) dX8_way_16 (by decide) ?_
    exact px_iretES C dX8_way_17 h
  · replace h := el_f c2_0 h
    refine px_iload_n C 1 dX8_way_5 rfl rfl ?_
    refine px_aload_n C 0 dX8_way_6 rfl rfl ?_
    refine px_getr C (j := 3) kx_0 rfl rfl iw_X8_way_X8 (by decide) lk_X8_way_32 rfl dX8_way_7 ?_
    refine px_geti C (j := 0) kx_6 rfl rfl iw_X8_way_X3 (by decide) lk_X8_way_188 rfl dX8_way_10 ?_
    refine px_icmp_lt C (tgt := 18) dX8_way_13 (by decide) (fun c13_1 => ?_) (fun c13_1 => ?_)
    · replace h := el_t c13_1 h
      refine px_iload_n C 1 dX8_way_18 rfl rfl ?_
      refine px_iconst C (v := (-1 : Int32)) dX8_way_19 (by decide) ?_
      refine px_icmp_eq C (tgt := 37) dX8_way_20 (by decide) (fun c20_2 => ?_) (fun c20_2 => ?_)
      · replace h := el_t c20_2 h
        refine px_aload_n C 0 dX8_way_37 rfl rfl ?_
        obtain ⟨S5, hc38_3, h⟩ := el_b h
        refine px_callV0 C (c_X8_findWay l tA tB ad fu S hc38_3) (cwV 0 C.2.2.2.2.1 gX8_way_X8_findWay rfl rfl rfl (by decide +kernel) ⟨Nat.le_of_ble_eq_true rfl, Nat.le_of_ble_eq_true rfl⟩) ⟨Nat.zero_le _, Nat.zero_le _⟩ kx_0 rfl rfl rfl (Nat.le_of_ble_eq_true rfl) dX8_way_38 ?_
        refine px_iload_n C 1 dX8_way_41 rfl rfl ?_
        refine px_iconst C (v := (-1 : Int32)) dX8_way_42 (by decide) ?_
        refine px_icmp_ne C (tgt := 56) dX8_way_43 (by decide) (fun c43_5 => ?_) (fun c43_5 => ?_)
        · replace h := el_t c43_5 h
          refine px_aload_n C 0 dX8_way_56 rfl rfl ?_
          refine px_getr C (j := 8) kx_0 rfl rfl iw_X8_way_X8 (by decide) lk_X8_way_62 rfl dX8_way_57 ?_
          refine px_getr C (j := 5) kx_51 rfl rfl iw_X8_way_X4 (by decide) lk_X8_way_197 rfl dX8_way_60 ?_
          refine px_iload_n C 1 dX8_way_63 rfl rfl ?_
          obtain ⟨x8, hc64_6, h⟩ := el_b h
          refine px_callS1 C (c_X5_get l tA tB ad S5 54 8 a1 kx_54 hc64_6) (va_cwS 2 C.2.2.2.2.1 gX8_way_X5_get rfl rfl rfl (by decide +kernel) ⟨Nat.le_of_ble_eq_true rfl, Nat.le_of_ble_eq_true rfl⟩) ⟨Nat.zero_le _, Nat.zero_le _⟩ rfl rfl (Nat.le_of_ble_eq_true rfl) dX8_way_64 ?_
          exact px_iretES C dX8_way_67 h
        · replace h := el_fn c43_5 h
          refine px_aload_n C 0 dX8_way_46 rfl rfl ?_
          refine px_getr C (j := 8) kx_0 rfl rfl iw_X8_way_X8 (by decide) lk_X8_way_62 rfl dX8_way_47 ?_
          refine px_geti C (j := 2) kx_51 rfl rfl iw_X8_way_X4 (by decide) lk_X8_way_194 rfl dX8_way_50 ?_
          refine px_goto C (tgt := 67) dX8_way_53 (by decide) ?_
          exact px_iretES C dX8_way_67 h
      · replace h := el_f c20_2 h
        refine px_iload_n C 1 dX8_way_23 rfl rfl ?_
        refine px_aload_n C 0 dX8_way_24 rfl rfl ?_
        refine px_getr C (j := 4) kx_0 rfl rfl iw_X8_way_X8 (by decide) lk_X8_way_38 rfl dX8_way_25 ?_
        refine px_geti C (j := 0) kx_8 rfl rfl iw_X8_way_X0 (by decide) lk_X8_way_127 rfl dX8_way_28 ?_
        refine px_icmp_ge C (tgt := 37) dX8_way_31 (by decide) (fun c31_8 => ?_) (fun c31_8 => ?_)
        · replace h := el_t c31_8 h
          refine px_aload_n C 0 dX8_way_37 rfl rfl ?_
          obtain ⟨S11, hc38_9, h⟩ := el_b h
          refine px_callV0 C (c_X8_findWay l tA tB ad fu S hc38_9) (cwV 0 C.2.2.2.2.1 gX8_way_X8_findWay rfl rfl rfl (by decide +kernel) ⟨Nat.le_of_ble_eq_true rfl, Nat.le_of_ble_eq_true rfl⟩) ⟨Nat.zero_le _, Nat.zero_le _⟩ kx_0 rfl rfl rfl (Nat.le_of_ble_eq_true rfl) dX8_way_38 ?_
          refine px_iload_n C 1 dX8_way_41 rfl rfl ?_
          refine px_iconst C (v := (-1 : Int32)) dX8_way_42 (by decide) ?_
          refine px_icmp_ne C (tgt := 56) dX8_way_43 (by decide) (fun c43_11 => ?_) (fun c43_11 => ?_)
          · replace h := el_t c43_11 h
            refine px_aload_n C 0 dX8_way_56 rfl rfl ?_
            refine px_getr C (j := 8) kx_0 rfl rfl iw_X8_way_X8 (by decide) lk_X8_way_62 rfl dX8_way_57 ?_
            refine px_getr C (j := 5) kx_51 rfl rfl iw_X8_way_X4 (by decide) lk_X8_way_197 rfl dX8_way_60 ?_
            refine px_iload_n C 1 dX8_way_63 rfl rfl ?_
            obtain ⟨x14, hc64_12, h⟩ := el_b h
            refine px_callS1 C (c_X5_get l tA tB ad S11 54 8 a1 kx_54 hc64_12) (va_cwS 2 C.2.2.2.2.1 gX8_way_X5_get rfl rfl rfl (by decide +kernel) ⟨Nat.le_of_ble_eq_true rfl, Nat.le_of_ble_eq_true rfl⟩) ⟨Nat.zero_le _, Nat.zero_le _⟩ rfl rfl (Nat.le_of_ble_eq_true rfl) dX8_way_64 ?_
            exact px_iretES C dX8_way_67 h
          · replace h := el_fn c43_11 h
            refine px_aload_n C 0 dX8_way_46 rfl rfl ?_
            refine px_getr C (j := 8) kx_0 rfl rfl iw_X8_way_X8 (by decide) lk_X8_way_62 rfl dX8_way_47 ?_
            refine px_geti C (j := 2) kx_51 rfl rfl iw_X8_way_X4 (by decide) lk_X8_way_194 rfl dX8_way_50 ?_
            refine px_goto C (tgt := 67) dX8_way_53 (by decide) ?_
            exact px_iretES C dX8_way_67 h
        · replace h := el_f c31_8 h
          refine px_bipush C (v := (-9 : Int32)) dX8_way_34 (by decide) ?_
          exact px_iretES C dX8_way_36 h
    · replace h := el_f c13_1 h
      refine px_iconst C (v := (-1 : Int32)) dX8_way_16 (by decide) ?_
      exact px_iretES C dX8_way_17 h
