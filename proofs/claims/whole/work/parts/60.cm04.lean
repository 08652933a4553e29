theorem lk_X9_readsItem_13 : Cond.fieldLink RX9 13 "RiverTollsModel" "many" "[I" ∈ wsX9_readsItem := List.mem_of_getElem? (i := 1) rfl
theorem lk_X9_readsItem_16 : Cond.fieldLink RX9 16 "RiverTollsModel" "toll" "[I" ∈ wsX9_readsItem := List.mem_of_getElem? (i := 2) rfl
theorem lk_X9_readsItem_19 : Cond.fieldLink RX9 19 "RiverTollsModel" "measure" "[I" ∈ wsX9_readsItem := List.mem_of_getElem? (i := 3) rfl
theorem lk_X9_readsItem_22 : Cond.fieldLink RX9 22 "RiverTollsModel" "lord" "[I" ∈ wsX9_readsItem := List.mem_of_getElem? (i := 4) rfl
theorem lk_X9_readsItem_25 : Cond.fieldLink RX9 25 "RiverTollsModel" "watch" "[I" ∈ wsX9_readsItem := List.mem_of_getElem? (i := 5) rfl
theorem lk_X9_readsItem_28 : Cond.fieldLink RX9 28 "RiverTollsModel" "land" "[I" ∈ wsX9_readsItem := List.mem_of_getElem? (i := 6) rfl
theorem lk_X9_readsItem_107 : Cond.fieldLink RX9 107 "RiverTollsModel" "told" "I" ∈ wsX9_readsItem := List.mem_of_getElem? (i := 7) rfl
theorem iw_X9_readsItem_X9 : ∀ w ∈ u_ws RX9 TX9 28, w ∈ wsX9_readsItem := fun _ h9 => (List.mem_cons_of_mem _ (List.mem_append_right _ h9))
set_option maxHeartbeats 4000000 in
set_option maxRecDepth 100000 in
theorem c_X9_readsItem (l : Launch) (tA tB : Nat) (ad : Nat → Nat) (fu : Nat) (S : St) (a1 : Int32) {S' : St} (h : m_X9_readsItem fu S a1 = some S') :
    XMet l yX9_readsItem wsX9_readsItem ({ frames := 4, cells := 0, slots := 0, locals := 87 }) KM .boolean tA tB [.ref (ad 0), .int a1] ad S none S' := by
  refine XMet.of (cc := cX9_readsItem) (maxL := 3) (ret := none) (own := RX9) (lv := [(0, .ref (ad 0)), (1, .int a1)]) rfl (by decide) rfl (Nat.le_of_ble_eq_true rfl) rfl ?_
  intro p e s m args below meth c D A cI c1 F C
  rw [m_X9_readsItem] at h
  refine px_iload_n C 1 dX9_readsItem_0 rfl rfl ?_
  refine px_bipush C (v := (114 : Int32)) dX9_readsItem_1 (by decide) ?_
  refine px_icmp_ne C (tgt := 101) dX9_readsItem_3 (by decide) (fun c3_0 => ?_) (fun c3_0 => ?_)
  · replace h := el_t c3_0 h
    refine px_iload_n C 1 dX9_readsItem_101 rfl rfl ?_
    refine px_bipush C (v := (98 : Int32)) dX9_readsItem_102 (by decide) ?_
    refine px_icmp_ne C (tgt := 133) dX9_readsItem_104 (by decide) (fun c104_1 => ?_) (fun c104_1 => ?_)
    · replace h := el_t c104_1 h
      refine px_aload_n C 0 dX9_readsItem_133 rfl rfl ?_
      refine px_getr C (j := 9) km_0 rfl rfl iw_X9_readsItem_X9 (by decide) lk_X9_readsItem_13 rfl dX9_readsItem_134 ?_
      refine px_iconst C (v := (3 : Int32)) dX9_readsItem_137 (by decide) ?_
      refine px_aload_n C 0 dX9_readsItem_138 rfl rfl ?_
      refine px_iconst C (v := (0 : Int32)) dX9_readsItem_139 (by decide) ?_
      refine px_sipush C (v := (900 : Int32)) dX9_readsItem_140 (by decide) ?_
      obtain ⟨x4, S5, hc143_2, h⟩ := el_b2 h
      refine px_callV1 C (c_X9_number l tA tB ad fu S (0 : Int32) (900 : Int32) hc143_2) (cwV 2 C.2.2.2.2.1 gX9_readsItem_X9_number rfl rfl rfl (by decide +kernel) ⟨Nat.le_of_ble_eq_true rfl, Nat.le_of_ble_eq_true rfl⟩) ⟨Nat.zero_le _, Nat.zero_le _⟩ km_0 rfl rfl rfl (Nat.le_of_ble_eq_true rfl) dX9_readsItem_143 ?_
      obtain ⟨S6, eS6, h⟩ := el_lt h
      refine px_iast C km_2 (j := 3) (by unfold vp_in; decide) (by decide) dX9_readsItem_146 ?_
      refine px_nmS eS6 ?_
      refine px_aload_n C 0 dX9_readsItem_147 rfl rfl ?_
      refine px_dup C dX9_readsItem_148 rfl ?_
      refine px_geti C (j := 15) km_0 rfl rfl iw_X9_readsItem_X9 (by decide) lk_X9_readsItem_107 rfl dX9_readsItem_149 ?_
      refine px_iconst C (v := (2 : Int32)) dX9_readsItem_152 (by decide) ?_
      refine px_ior C dX9_readsItem_153 ?_
      obtain ⟨S7, eS7, h⟩ := el_lt h
      refine px_puti C (ty := .int) (j := 15) km_0 rfl rfl iw_X9_readsItem_X9 (by decide) lk_X9_readsItem_107 rfl tyX9 tyX9_ok nmX9 rfl (by decide +kernel) rfl rfl dX9_readsItem_154 ?_
      refine px_nmS eS7 ?_
      exact px_vretE C dX9_readsItem_157 h
    · replace h := el_fn c104_1 h
      refine px_aload_n C 0 dX9_readsItem_107 rfl rfl ?_
      refine px_getr C (j := 9) km_0 rfl rfl iw_X9_readsItem_X9 (by decide) lk_X9_readsItem_13 rfl dX9_readsItem_108 ?_
      refine px_iconst C (v := (2 : Int32)) dX9_readsItem_111 (by decide) ?_
      refine px_aload_n C 0 dX9_readsItem_112 rfl rfl ?_
      refine px_iconst C (v := (1 : Int32)) dX9_readsItem_113 (by decide) ?_
      refine px_bipush C (v := (30 : Int32)) dX9_readsItem_114 (by decide) ?_
      obtain ⟨x9, S10, hc116_7, h⟩ := el_b2 h
      refine px_callV1 C (c_X9_number l tA tB ad fu S (1 : Int32) (30 : Int32) hc116_7) (cwV 2 C.2.2.2.2.1 gX9_readsItem_X9_number rfl rfl rfl (by decide +kernel) ⟨Nat.le_of_ble_eq_true rfl, Nat.le_of_ble_eq_true rfl⟩) ⟨Nat.zero_le _, Nat.zero_le _⟩ km_0 rfl rfl rfl (Nat.le_of_ble_eq_true rfl) dX9_readsItem_116 ?_
      obtain ⟨S11, eS11, h⟩ := el_lt h
      refine px_iast C km_2 (j := 2) (by unfold vp_in; decide) (by decide) dX9_readsItem_119 ?_
      refine px_nmS eS11 ?_
      refine px_aload_n C 0 dX9_readsItem_120 rfl rfl ?_
      refine px_dup C dX9_readsItem_121 rfl ?_
      refine px_geti C (j := 15) km_0 rfl rfl iw_X9_readsItem_X9 (by decide) lk_X9_readsItem_107 rfl dX9_readsItem_122 ?_
      refine px_iconst C (v := (1 : Int32)) dX9_readsItem_125 (by decide) ?_
      refine px_ior C dX9_readsItem_126 ?_
      obtain ⟨S12, eS12, h⟩ := el_lt h
      refine px_puti C (ty := .int) (j := 15) km_0 rfl rfl iw_X9_readsItem_X9 (by decide) lk_X9_readsItem_107 rfl tyX9 tyX9_ok nmX9 rfl (by decide +kernel) rfl rfl dX9_readsItem_127 ?_
      refine px_nmS eS12 ?_
      refine px_goto C (tgt := 157) dX9_readsItem_130 (by decide) ?_
      exact px_vretE C dX9_readsItem_157 h
  · replace h := el_fn c3_0 h
    refine px_aload_n C 0 dX9_readsItem_6 rfl rfl ?_
    refine px_getr C (j := 9) km_0 rfl rfl iw_X9_readsItem_X9 (by decide) lk_X9_readsItem_13 rfl dX9_readsItem_7 ?_
    refine px_iconst C (v := (1 : Int32)) dX9_readsItem_10 (by decide) ?_
    refine px_iald C km_2 (j := 1) (by unfold vp_in; decide) (by decide) dX9_readsItem_11 ?_
    refine px_istore_n C [(2, .int (S.1 2 1)), (0, .ref (ad 0)), (1, .int a1)] dX9_readsItem_12 rfl (by decide) rfl ?_
    refine px_aload_n C 1 dX9_readsItem_13 rfl rfl ?_
    refine px_getr C (j := 10) km_0 rfl rfl iw_X9_readsItem_X9 (by decide) lk_X9_readsItem_16 rfl dX9_readsItem_14 ?_
    refine px_iload_n C 0 dX9_readsItem_17 rfl rfl ?_
    refine px_aload_n C 1 dX9_readsItem_18 rfl rfl ?_
    refine px_iconst C (v := (0 : Int32)) dX9_readsItem_19 (by decide) ?_
    refine px_bipush C (v := (9 : Int32)) dX9_readsItem_20 (by decide) ?_
    obtain ⟨x14, S15, hc22_12, h⟩ := el_b2 h
    refine px_callV1 C (c_X9_number l tA tB ad fu S (0 : Int32) (9 : Int32) hc22_12) (cwV 2 C.2.2.2.2.1 gX9_readsItem_X9_number rfl rfl rfl (by decide +kernel) ⟨Nat.le_of_ble_eq_true rfl, Nat.le_of_ble_eq_true rfl⟩) ⟨Nat.zero_le _, Nat.zero_le _⟩ km_0 rfl rfl rfl (Nat.le_of_ble_eq_true rfl) dX9_readsItem_22 ?_
    obtain ⟨hiS16, S16, eS16, h⟩ := el_ast h
    refine px_iast C km_3 hiS16 rfl dX9_readsItem_25 ?_
    refine px_nmS eS16 ?_
    refine px_aload_n C 1 dX9_readsItem_26 rfl rfl ?_
    refine px_getr C (j := 11) km_0 rfl rfl iw_X9_readsItem_X9 (by decide) lk_X9_readsItem_19 rfl dX9_readsItem_27 ?_
    refine px_bipush C (v := (8 : Int32)) dX9_readsItem_30 (by decide) ?_
    refine px_iload_n C 0 dX9_readsItem_32 rfl rfl ?_
    refine px_iadd C dX9_readsItem_33 ?_
    refine px_aload_n C 1 dX9_readsItem_34 rfl rfl ?_
    refine px_iconst C (v := (1 : Int32)) dX9_readsItem_35 (by decide) ?_
    refine px_iconst C (v := (5 : Int32)) dX9_readsItem_36 (by decide) ?_
    obtain ⟨x18, S19, hc37_16, h⟩ := el_b2 h
    refine px_callV1 C (c_X9_number l tA tB ad fu S16 (1 : Int32) (5 : Int32) hc37_16) (cwV 2 C.2.2.2.2.1 gX9_readsItem_X9_number rfl rfl rfl (by decide +kernel) ⟨Nat.le_of_ble_eq_true rfl, Nat.le_of_ble_eq_true rfl⟩) ⟨Nat.zero_le _, Nat.zero_le _⟩ km_0 rfl rfl rfl (Nat.le_of_ble_eq_true rfl) dX9_readsItem_37 ?_
    obtain ⟨hiS20, S20, eS20, h⟩ := el_ast h
    refine px_iast C km_4 hiS20 rfl dX9_readsItem_40 ?_
    refine px_nmS eS20 ?_
    refine px_aload_n C 1 dX9_readsItem_41 rfl rfl ?_
    refine px_getr C (j := 12) km_0 rfl rfl iw_X9_readsItem_X9 (by decide) lk_X9_readsItem_22 rfl dX9_readsItem_42 ?_
    refine px_bipush C (v := (8 : Int32)) dX9_readsItem_45 (by decide) ?_
    refine px_iload_n C 0 dX9_readsItem_47 rfl rfl ?_
    refine px_iadd C dX9_readsItem_48 ?_
    refine px_aload_n C 1 dX9_readsItem_49 rfl rfl ?_
    refine px_iconst C (v := (0 : Int32)) dX9_readsItem_50 (by decide) ?_
    refine px_iconst C (v := (3 : Int32)) dX9_readsItem_51 (by decide) ?_
    obtain ⟨x22, S23, hc52_20, h⟩ := el_b2 h
    refine px_callV1 C (c_X9_number l tA tB ad fu S20 (0 : Int32) (3 : Int32) hc52_20) (cwV 2 C.2.2.2.2.1 gX9_readsItem_X9_number rfl rfl rfl (by decide +kernel) ⟨Nat.le_of_ble_eq_true rfl, Nat.le_of_ble_eq_true rfl⟩) ⟨Nat.zero_le _, Nat.zero_le _⟩ km_0 rfl rfl rfl (Nat.le_of_ble_eq_true rfl) dX9_readsItem_52 ?_
    obtain ⟨hiS24, S24, eS24, h⟩ := el_ast h
    refine px_iast C km_5 hiS24 rfl dX9_readsItem_55 ?_
    refine px_nmS eS24 ?_
    refine px_aload_n C 1 dX9_readsItem_56 rfl rfl ?_
    refine px_getr C (j := 13) km_0 rfl rfl iw_X9_readsItem_X9 (by decide) lk_X9_readsItem_25 rfl dX9_readsItem_57 ?_
    refine px_bipush C (v := (8 : Int32)) dX9_readsItem_60 (by decide) ?_
    refine px_iload_n C 0 dX9_readsItem_62 rfl rfl ?_
    refine px_iadd C dX9_readsItem_63 ?_
    refine px_aload_n C 1 dX9_readsItem_64 rfl rfl ?_
    refine px_iconst C (v := (0 : Int32)) dX9_readsItem_65 (by decide) ?_
    refine px_bipush C (v := (10 : Int32)) dX9_readsItem_66 (by decide) ?_
    obtain ⟨x26, S27, hc68_24, h⟩ := el_b2 h
    refine px_callV1 C (c_X9_number l tA tB ad fu S24 (0 : Int32) (10 : Int32) hc68_24) (cwV 2 C.2.2.2.2.1 gX9_readsItem_X9_number rfl rfl rfl (by decide +kernel) ⟨Nat.le_of_ble_eq_true rfl, Nat.le_of_ble_eq_true rfl⟩) ⟨Nat.zero_le _, Nat.zero_le _⟩ km_0 rfl rfl rfl (Nat.le_of_ble_eq_true rfl) dX9_readsItem_68 ?_
    obtain ⟨hiS28, S28, eS28, h⟩ := el_ast h
    refine px_iast C km_6 hiS28 rfl dX9_readsItem_71 ?_
    refine px_nmS eS28 ?_
    refine px_aload_n C 1 dX9_readsItem_72 rfl rfl ?_
    refine px_getr C (j := 14) km_0 rfl rfl iw_X9_readsItem_X9 (by decide) lk_X9_readsItem_28 rfl dX9_readsItem_73 ?_
    refine px_bipush C (v := (8 : Int32)) dX9_readsItem_76 (by decide) ?_
    refine px_iload_n C 0 dX9_readsItem_78 rfl rfl ?_
    refine px_iadd C dX9_readsItem_79 ?_
    refine px_aload_n C 1 dX9_readsItem_80 rfl rfl ?_
    refine px_iconst C (v := (0 : Int32)) dX9_readsItem_81 (by decide) ?_
    refine px_bipush C (v := (30 : Int32)) dX9_readsItem_82 (by decide) ?_
    obtain ⟨x30, S31, hc84_28, h⟩ := el_b2 h
    refine px_callV1 C (c_X9_number l tA tB ad fu S28 (0 : Int32) (30 : Int32) hc84_28) (cwV 2 C.2.2.2.2.1 gX9_readsItem_X9_number rfl rfl rfl (by decide +kernel) ⟨Nat.le_of_ble_eq_true rfl, Nat.le_of_ble_eq_true rfl⟩) ⟨Nat.zero_le _, Nat.zero_le _⟩ km_0 rfl rfl rfl (Nat.le_of_ble_eq_true rfl) dX9_readsItem_84 ?_
    obtain ⟨hiS32, S32, eS32, h⟩ := el_ast h
    refine px_iast C km_7 hiS32 rfl dX9_readsItem_87 ?_
    refine px_nmS eS32 ?_
    refine px_aload_n C 1 dX9_readsItem_88 rfl rfl ?_
    refine px_getr C (j := 9) km_0 rfl rfl iw_X9_readsItem_X9 (by decide) lk_X9_readsItem_13 rfl dX9_readsItem_89 ?_
    refine px_iconst C (v := (1 : Int32)) dX9_readsItem_92 (by decide) ?_
    refine px_dup2 C dX9_readsItem_93 rfl rfl ?_
    refine px_iald C km_2 (j := 1) (by unfold vp_in; decide) (by decide) dX9_readsItem_94 ?_
    refine px_iconst C (v := (1 : Int32)) dX9_readsItem_95 (by decide) ?_
    refine px_iadd C dX9_readsItem_96 ?_
    obtain ⟨S33, eS33, h⟩ := el_lt h
    refine px_iast C km_2 (j := 1) (by unfold vp_in; decide) (by decide) dX9_readsItem_97 ?_
    refine px_nmS eS33 ?_
    refine px_goto C (tgt := 157) dX9_readsItem_98 (by decide) ?_
    exact px_vretE C dX9_readsItem_157 h
theorem lk_X9_settles_13 : Cond.fieldLink RX9 13 "RiverTollsModel" "many" "[I" ∈ wsX9_settles := List.mem_of_getElem? (i := 1) rfl
theorem lk_X9_settles_16 : Cond.fieldLink RX9 16 "RiverTollsModel" "toll" "[I" ∈ wsX9_settles := List.mem_of_getElem? (i := 7) rfl
theorem lk_X9_settles_19 : Cond.fieldLink RX9 19 "RiverTollsModel" "measure" "[I" ∈ wsX9_settles := List.mem_of_getElem? (i := 3) rfl
theorem lk_X9_settles_22 : Cond.fieldLink RX9 22 "RiverTollsModel" "lord" "[I" ∈ wsX9_settles := List.mem_of_getElem? (i := 4) rfl
theorem lk_X9_settles_25 : Cond.fieldLink RX9 25 "RiverTollsModel" "watch" "[I" ∈ wsX9_settles := List.mem_of_getElem? (i := 5) rfl
theorem lk_X9_settles_28 : Cond.fieldLink RX9 28 "RiverTollsModel" "land" "[I" ∈ wsX9_settles := List.mem_of_getElem? (i := 6) rfl
theorem lk_X9_settles_31 : Cond.fieldLink RX9 31 "RiverTollsModel" "s" "[I" ∈ wsX9_settles := List.mem_of_getElem? (i := 2) rfl
theorem lk_X9_settles_40 : Cond.fieldLink RX9 40 "RiverTollsModel" "isKept" "[Z" ∈ wsX9_settles := List.mem_of_getElem? (i := 11) rfl
theorem lk_X9_settles_70 : Cond.fieldLink RX9 70 "RiverTollsModel" "typed" "I" ∈ wsX9_settles := List.mem_of_getElem? (i := 8) rfl
theorem lk_X9_settles_117 : Cond.fieldLink RX9 117 "RiverTollsModel" "leftMany" "I" ∈ wsX9_settles := List.mem_of_getElem? (i := 9) rfl
theorem lk_X9_settles_120 : Cond.fieldLink RX9 120 "RiverTollsModel" "undoMany" "I" ∈ wsX9_settles := List.mem_of_getElem? (i := 10) rfl
theorem iw_X9_settles_X9 : ∀ w ∈ u_ws RX9 TX9 28, w ∈ wsX9_settles := fun _ h9 => (List.mem_cons_of_mem _ (List.mem_append_right _ h9))
set_option maxHeartbeats 4000000 in
set_option maxRecDepth 100000 in
theorem c_X9_settles (l : Launch) (tA tB : Nat) (ad : Nat → Nat) (fu : Nat) (S : St) {S' : St} (h : m_X9_settles fu S = some S') :
    XMet l yX9_settles wsX9_settles ({ frames := 0, cells := 0, slots := 0, locals := 0 }) KM .boolean tA tB [.ref (ad 0)] ad S none S' := by
  refine XMet.of (cc := cX9_settles) (maxL := 2) (ret := none) (own := RX9) (lv := [(0, .ref (ad 0))]) rfl (by decide) rfl (Nat.le_of_ble_eq_true rfl) rfl ?_
  intro p e s m args below meth c D A cI c1 F C
  rw [m_X9_settles] at h
  refine px_aload_n C 0 dX9_settles_0 rfl rfl ?_
  refine px_getr C (j := 9) km_0 rfl rfl iw_X9_settles_X9 (by decide) lk_X9_settles_13 rfl dX9_settles_1 ?_
  refine px_iconst C (v := (0 : Int32)) dX9_settles_4 (by decide) ?_
  refine px_aload_n C 0 dX9_settles_5 rfl rfl ?_
  refine px_getr C (j := 9) km_0 rfl rfl iw_X9_settles_X9 (by decide) lk_X9_settles_13 rfl dX9_settles_6 ?_
  refine px_iconst C (v := (1 : Int32)) dX9_settles_9 (by decide) ?_
  refine px_iald C km_2 (j := 1) (by unfold vp_in; decide) (by decide) dX9_settles_10 ?_
  obtain ⟨S1, eS1, h⟩ := el_lt h
  refine px_iast C km_2 (j := 0) (by unfold vp_in; decide) (by decide) dX9_settles_11 ?_
  refine px_nmS eS1 ?_
  refine px_iconst C (v := (0 : Int32)) dX9_settles_12 (by decide) ?_
  refine px_istore_n C [(1, .int (0 : Int32)), (0, .ref (ad 0))] dX9_settles_13 rfl (by decide) rfl ?_
  have hx0 : ∀  (x4 : Int32) (S5 : St), m_X9_settles_r0 fu x4 S5 = some S' → PW p l e { frames := 0, cells := 0, slots := 0, locals := 0 } s m args below meth c (MQ below (QX KM A D cI c1 F ad none S') args s 0 0 A) D A cI c1 F KM ad 2 0 0 S5 [(0, .ref (ad 0)), (1, .int x4)] 33 [] := by
    intro x4 S5 h
    rw [m_X9_settles_r0] at h
    refine px_iconst C (v := (0 : Int32)) dX9_settles_33 (by decide) ?_
    refine px_istore_n C [(1, .int (0 : Int32)), (0, .ref (ad 0))] dX9_settles_34 rfl (by decide) rfl ?_
    have hx1 : ∀  (x8 : Int32) (S9 : St), m_X9_settles_r1 x8 S9 = some S' → PW p l e { frames := 0, cells := 0, slots := 0, locals := 0 } s m args below meth c (MQ below (QX KM A D cI c1 F ad none S') args s 0 0 A) D A cI c1 F KM ad 2 0 0 S9 [(0, .ref (ad 0)), (1, .int x8)] 126 [] := by
      intro x8 S9 h
      rw [m_X9_settles_r1] at h
      refine px_aload_n C 0 dX9_settles_126 rfl rfl ?_
      refine px_getr C (j := 16) km_0 rfl rfl iw_X9_settles_X9 (by decide) lk_X9_settles_31 rfl dX9_settles_127 ?_
      refine px_iconst C (v := (1 : Int32)) dX9_settles_130 (by decide) ?_
      refine px_aload_n C 0 dX9_settles_131 rfl rfl ?_
      refine px_getr C (j := 9) km_0 rfl rfl iw_X9_settles_X9 (by decide) lk_X9_settles_13 rfl dX9_settles_132 ?_
      refine px_iconst C (v := (2 : Int32)) dX9_settles_135 (by decide) ?_
      refine px_iald C km_2 (j := 2) (by unfold vp_in; decide) (by decide) dX9_settles_136 ?_
      obtain ⟨S10, eS10, h⟩ := el_lt h
      refine px_iast C km_8 (j := 1) (by unfold vp_in; decide) (by decide) dX9_settles_137 ?_
      refine px_nmS eS10 ?_
      refine px_aload_n C 0 dX9_settles_138 rfl rfl ?_
      refine px_getr C (j := 16) km_0 rfl rfl iw_X9_settles_X9 (by decide) lk_X9_settles_31 rfl dX9_settles_139 ?_
      refine px_iconst C (v := (2 : Int32)) dX9_settles_142 (by decide) ?_
      refine px_aload_n C 0 dX9_settles_143 rfl rfl ?_
      refine px_getr C (j := 9) km_0 rfl rfl iw_X9_settles_X9 (by decide) lk_X9_settles_13 rfl dX9_settles_144 ?_
      refine px_iconst C (v := (3 : Int32)) dX9_settles_147 (by decide) ?_
      refine px_iald C km_2 (j := 3) (by unfold vp_in; decide) (by decide) dX9_settles_148 ?_
      obtain ⟨S11, eS11, h⟩ := el_lt h
      refine px_iast C km_8 (j := 2) (by unfold vp_in; decide) (by decide) dX9_settles_149 ?_
      refine px_nmS eS11 ?_
      refine px_aload_n C 0 dX9_settles_150 rfl rfl ?_
      refine px_iconst C (v := (0 : Int32)) dX9_settles_151 (by decide) ?_
      obtain ⟨S12, eS12, h⟩ := el_lt h
      refine px_puti C (ty := .int) (j := 3) km_0 rfl rfl iw_X9_settles_X9 (by decide) lk_X9_settles_70 rfl tyX9 tyX9_ok nmX9 rfl (by decide +kernel) rfl rfl dX9_settles_152 ?_
      refine px_nmS eS12 ?_
      refine px_aload_n C 0 dX9_settles_155 rfl rfl ?_
      refine px_iconst C (v := (0 : Int32)) dX9_settles_156 (by decide) ?_
      obtain ⟨S13, eS13, h⟩ := el_lt h
      refine px_puti C (ty := .int) (j := 24) km_0 rfl rfl iw_X9_settles_X9 (by decide) lk_X9_settles_117 rfl tyX9 tyX9_ok nmX9 rfl (by decide +kernel) rfl rfl dX9_settles_157 ?_
      refine px_nmS eS13 ?_
      refine px_aload_n C 0 dX9_settles_160 rfl rfl ?_
      refine px_iconst C (v := (0 : Int32)) dX9_settles_161 (by decide) ?_
      obtain ⟨S14, eS14, h⟩ := el_lt h
      refine px_puti C (ty := .int) (j := 21) km_0 rfl rfl iw_X9_settles_X9 (by decide) lk_X9_settles_120 rfl tyX9 tyX9_ok nmX9 rfl (by decide +kernel) rfl rfl dX9_settles_162 ?_
      refine px_nmS eS14 ?_
      refine px_aload_n C 0 dX9_settles_165 rfl rfl ?_
      refine px_getr C (j := 19) km_0 rfl rfl iw_X9_settles_X9 (by decide) lk_X9_settles_40 rfl dX9_settles_166 ?_
      refine px_iconst C (v := (0 : Int32)) dX9_settles_169 (by decide) ?_
      refine px_iconst C (v := (0 : Int32)) dX9_settles_170 (by decide) ?_
      obtain ⟨S15, eS15, h⟩ := el_lt h
      refine px_zast C rfl rfl km_11 (j := 0) (by unfold vp_in; decide) (by decide) dX9_settles_171 ?_
      refine px_nmS eS15 ?_
      refine px_aload_n C 0 dX9_settles_172 rfl rfl ?_
      refine px_getr C (j := 19) km_0 rfl rfl iw_X9_settles_X9 (by decide) lk_X9_settles_40 rfl dX9_settles_173 ?_
      refine px_iconst C (v := (1 : Int32)) dX9_settles_176 (by decide) ?_
      refine px_iconst C (v := (0 : Int32)) dX9_settles_177 (by decide) ?_
      obtain ⟨S16, eS16, h⟩ := el_lt h
      refine px_zast C rfl rfl km_11 (j := 1) (by unfold vp_in; decide) (by decide) dX9_settles_178 ?_
      refine px_nmS eS16 ?_
      exact px_vretE C dX9_settles_179 h
    have hl1 : ∀ (n_1 : Nat) (x6 : Int32) (S7 : St), m_X9_settles_L1 m_X9_settles_r1 n_1 x6 S7 = some S' → PW p l e { frames := 0, cells := 0, slots := 0, locals := 0 } s m args below meth c (MQ below (QX KM A D cI c1 F ad none S') args s 0 0 A) D A cI c1 F KM ad 2 0 0 S7 [(0, .ref (ad 0)), (1, .int x6)] 35 [] := by
      intro n_1
      induction n_1 with
      | zero =>
        intro x6 S7 h
        rw [m_X9_settles_L1_z] at h
        cases h
      | succ n_1 ih1 =>
        intro x6 S7 h
        rw [m_X9_settles_L1_s] at h
        refine px_iload_n C 1 dX9_settles_35 rfl rfl ?_
        refine px_aload_n C 0 dX9_settles_36 rfl rfl ?_
        refine px_getr C (j := 9) km_0 rfl rfl iw_X9_settles_X9 (by decide) lk_X9_settles_13 rfl dX9_settles_37 ?_
        refine px_iconst C (v := (0 : Int32)) dX9_settles_40 (by decide) ?_
        refine px_iald C km_2 (j := 0) (by unfold vp_in; decide) (by decide) dX9_settles_41 ?_
        refine px_icmp_ge C (tgt := 126) dX9_settles_42 (by decide) (fun c42_16 => ?_) (fun c42_16 => ?_)
        · replace h := el_t c42_16 h
          exact (hx1 _ _ h)
        · replace h := el_f c42_16 h
          refine px_aload_n C 0 dX9_settles_45 rfl rfl ?_
          refine px_getr C (j := 11) km_0 rfl rfl iw_X9_settles_X9 (by decide) lk_X9_settles_19 rfl dX9_settles_46 ?_
          refine px_iload_n C 1 dX9_settles_49 rfl rfl ?_
          refine px_aload_n C 0 dX9_settles_50 rfl rfl ?_
          refine px_getr C (j := 11) km_0 rfl rfl iw_X9_settles_X9 (by decide) lk_X9_settles_19 rfl dX9_settles_51 ?_
          refine px_bipush C (v := (8 : Int32)) dX9_settles_54 (by decide) ?_
          refine px_iload_n C 1 dX9_settles_56 rfl rfl ?_
          refine px_iadd C dX9_settles_57 ?_
          obtain ⟨hix18, x18, ex18, h⟩ := el_ald h
          refine px_iald C km_4 hix18 rfl dX9_settles_58 ?_
          refine px_nm ex18 ?_
          obtain ⟨hiS19, S19, eS19, h⟩ := el_ast h
          refine px_iast C km_4 hiS19 rfl dX9_settles_59 ?_
          refine px_nmS eS19 ?_
          refine px_aload_n C 0 dX9_settles_60 rfl rfl ?_
          refine px_getr C (j := 12) km_0 rfl rfl iw_X9_settles_X9 (by decide) lk_X9_settles_22 rfl dX9_settles_61 ?_
          refine px_iload_n C 1 dX9_settles_64 rfl rfl ?_
          refine px_aload_n C 0 dX9_settles_65 rfl rfl ?_
          refine px_getr C (j := 12) km_0 rfl rfl iw_X9_settles_X9 (by decide) lk_X9_settles_22 rfl dX9_settles_66 ?_
          refine px_bipush C (v := (8 : Int32)) dX9_settles_69 (by decide) ?_
          refine px_iload_n C 1 dX9_settles_71 rfl rfl ?_
          refine px_iadd C dX9_settles_72 ?_
          obtain ⟨hix20, x20, ex20, h⟩ := el_ald h
          refine px_iald C km_5 hix20 rfl dX9_settles_73 ?_
          refine px_nm ex20 ?_
          obtain ⟨hiS21, S21, eS21, h⟩ := el_ast h
          refine px_iast C km_5 hiS21 rfl dX9_settles_74 ?_
          refine px_nmS eS21 ?_
          refine px_aload_n C 0 dX9_settles_75 rfl rfl ?_
          refine px_getr C (j := 13) km_0 rfl rfl iw_X9_settles_X9 (by decide) lk_X9_settles_25 rfl dX9_settles_76 ?_
          refine px_iload_n C 1 dX9_settles_79 rfl rfl ?_
          refine px_aload_n C 0 dX9_settles_80 rfl rfl ?_
          refine px_getr C (j := 13) km_0 rfl rfl iw_X9_settles_X9 (by decide) lk_X9_settles_25 rfl dX9_settles_81 ?_
          refine px_bipush C (v := (8 : Int32)) dX9_settles_84 (by decide) ?_
          refine px_iload_n C 1 dX9_settles_86 rfl rfl ?_
          refine px_iadd C dX9_settles_87 ?_
          obtain ⟨hix22, x22, ex22, h⟩ := el_ald h
          refine px_iald C km_6 hix22 rfl dX9_settles_88 ?_
          refine px_nm ex22 ?_
          obtain ⟨hiS23, S23, eS23, h⟩ := el_ast h
          refine px_iast C km_6 hiS23 rfl dX9_settles_89 ?_
          refine px_nmS eS23 ?_
          refine px_aload_n C 0 dX9_settles_90 rfl rfl ?_
          refine px_getr C (j := 14) km_0 rfl rfl iw_X9_settles_X9 (by decide) lk_X9_settles_28 rfl dX9_settles_91 ?_
          refine px_iload_n C 1 dX9_settles_94 rfl rfl ?_
          refine px_aload_n C 0 dX9_settles_95 rfl rfl ?_
          refine px_getr C (j := 14) km_0 rfl rfl iw_X9_settles_X9 (by decide) lk_X9_settles_28 rfl dX9_settles_96 ?_
          refine px_bipush C (v := (8 : Int32)) dX9_settles_99 (by decide) ?_
          refine px_iload_n C 1 dX9_settles_101 rfl rfl ?_
          refine px_iadd C dX9_settles_102 ?_
          obtain ⟨hix24, x24, ex24, h⟩ := el_ald h
          refine px_iald C km_7 hix24 rfl dX9_settles_103 ?_
          refine px_nm ex24 ?_
          obtain ⟨hiS25, S25, eS25, h⟩ := el_ast h
          refine px_iast C km_7 hiS25 rfl dX9_settles_104 ?_
          refine px_nmS eS25 ?_
          refine px_aload_n C 0 dX9_settles_105 rfl rfl ?_
          refine px_getr C (j := 16) km_0 rfl rfl iw_X9_settles_X9 (by decide) lk_X9_settles_31 rfl dX9_settles_106 ?_
          refine px_bipush C (v := (6 : Int32)) dX9_settles_109 (by decide) ?_
          refine px_iload_n C 1 dX9_settles_111 rfl rfl ?_
          refine px_iadd C dX9_settles_112 ?_
          refine px_aload_n C 0 dX9_settles_113 rfl rfl ?_
          refine px_getr C (j := 10) km_0 rfl rfl iw_X9_settles_X9 (by decide) lk_X9_settles_16 rfl dX9_settles_114 ?_
          refine px_iload_n C 1 dX9_settles_117 rfl rfl ?_
          obtain ⟨hix26, x26, ex26, h⟩ := el_ald h
          refine px_iald C km_3 hix26 rfl dX9_settles_118 ?_
          refine px_nm ex26 ?_
          obtain ⟨hiS27, S27, eS27, h⟩ := el_ast h
          refine px_iast C km_8 hiS27 rfl dX9_settles_119 ?_
          refine px_nmS eS27 ?_
          refine px_iinc C 1 [(1, .int (x6 + (1 : Int32))), (0, .ref (ad 0))] dX9_settles_120 rfl rfl (by decide) rfl ?_
          refine px_goto C (tgt := 35) dX9_settles_123 (by decide) ?_
          exact px_sub [1, 0] rfl (ih1 _ _ h)
    exact px_sub [1, 0] rfl (hl1 _ _ _ h)
  have hl0 : ∀ (n_0 : Nat) (x2 : Int32) (S3 : St), m_X9_settles_L0 (m_X9_settles_r0 fu) n_0 x2 S3 = some S' → PW p l e { frames := 0, cells := 0, slots := 0, locals := 0 } s m args below meth c (MQ below (QX KM A D cI c1 F ad none S') args s 0 0 A) D A cI c1 F KM ad 2 0 0 S3 [(0, .ref (ad 0)), (1, .int x2)] 14 [] := by
    intro n_0
    induction n_0 with
    | zero =>
      intro x2 S3 h
      rw [m_X9_settles_L0_z] at h
      cases h
    | succ n_0 ih0 =>
      intro x2 S3 h
      rw [m_X9_settles_L0_s] at h
      refine px_iload_n C 1 dX9_settles_14 rfl rfl ?_
      refine px_bipush C (v := (18 : Int32)) dX9_settles_15 (by decide) ?_
      refine px_icmp_ge C (tgt := 33) dX9_settles_17 (by decide) (fun c17_27 => ?_) (fun c17_27 => ?_)
      · replace h := el_t c17_27 h
        exact (hx0 _ _ h)
      · replace h := el_f c17_27 h
        refine px_aload_n C 0 dX9_settles_20 rfl rfl ?_
        refine px_getr C (j := 16) km_0 rfl rfl iw_X9_settles_X9 (by decide) lk_X9_settles_31 rfl dX9_settles_21 ?_
        refine px_iload_n C 1 dX9_settles_24 rfl rfl ?_
        refine px_iconst C (v := (0 : Int32)) dX9_settles_25 (by decide) ?_
        obtain ⟨hiS29, S29, eS29, h⟩ := el_ast h
        refine px_iast C km_8 hiS29 rfl dX9_settles_26 ?_
        refine px_nmS eS29 ?_
        refine px_iinc C 1 [(1, .int (x2 + (1 : Int32))), (0, .ref (ad 0))] dX9_settles_27 rfl rfl (by decide) rfl ?_
        refine px_goto C (tgt := 14) dX9_settles_30 (by decide) ?_
        exact px_sub [1, 0] rfl (ih0 _ _ h)
  exact px_sub [1, 0] rfl (hl0 _ _ _ h)
theorem lk_X9_river_13 : Cond.fieldLink RX9 13 "RiverTollsModel" "many" "[I" ∈ wsX9_river := List.mem_of_getElem? (i := 5) rfl
theorem lk_X9_river_62 : Cond.fieldLink RX9 62 "RiverTollsModel" "thrown" "I" ∈ wsX9_river := List.mem_of_getElem? (i := 1) rfl
theorem lk_X9_river_73 : Cond.fieldLink RX9 73 "RiverTollsModel" "next" "I" ∈ wsX9_river := List.mem_of_getElem? (i := 3) rfl
theorem lk_X9_river_83 : Cond.fieldLink RX9 83 "RiverTollsModel" "token" "I" ∈ wsX9_river := List.mem_of_getElem? (i := 6) rfl
theorem lk_X9_river_86 : Cond.fieldLink RX9 86 "RiverTollsModel" "value" "I" ∈ wsX9_river := List.mem_of_getElem? (i := 7) rfl
theorem lk_X9_river_89 : Cond.fieldLink RX9 89 "RiverTollsModel" "fault" "I" ∈ wsX9_river := List.mem_of_getElem? (i := 2) rfl
theorem lk_X9_river_107 : Cond.fieldLink RX9 107 "RiverTollsModel" "told" "I" ∈ wsX9_river := List.mem_of_getElem? (i := 4) rfl
theorem iw_X9_river_X9 : ∀ w ∈ u_ws RX9 TX9 28, w ∈ wsX9_river := fun _ h9 => (List.mem_cons_of_mem _ (List.mem_append_right _ h9))
set_option maxHeartbeats 4000000 in
set_option maxRecDepth 100000 in
theorem c_X9_river (l : Launch) (tA tB : Nat) (ad : Nat → Nat) (fu : Nat) (S : St) {rv : Int32} {S' : St} (h : m_X9_river fu S = some (rv, S')) :
    XMet l yX9_river wsX9_river ({ frames := 5, cells := 0, slots := 0, locals := 109 }) KM .boolean tA tB [.ref (ad 0)] ad S (some (.int rv)) S' := by
  refine XMet.of (cc := cX9_river) (maxL := 3) (ret := (some .int)) (own := RX9) (lv := [(0, .ref (ad 0))]) rfl (by decide) rfl (Nat.le_of_ble_eq_true rfl) rfl ?_
  intro p e s m args below meth c D A cI c1 F C
  rw [m_X9_river] at h
  refine px_aload_n C 0 dX9_river_0 rfl rfl ?_
  refine px_iconst C (v := (0 : Int32)) dX9_river_1 (by decide) ?_
  obtain ⟨S1, eS1, h⟩ := el_lt h
  refine px_puti C (ty := .int) (j := 0) km_0 rfl rfl iw_X9_river_X9 (by decide) lk_X9_river_62 rfl tyX9 tyX9_ok nmX9 rfl (by decide +kernel) rfl rfl dX9_river_2 ?_
  refine px_nmS eS1 ?_
  refine px_aload_n C 0 dX9_river_5 rfl rfl ?_
  refine px_iconst C (v := (-1 : Int32)) dX9_river_6 (by decide) ?_
  obtain ⟨S2, eS2, h⟩ := el_lt h
  refine px_puti C (ty := .int) (j := 8) km_0 rfl rfl iw_X9_river_X9 (by decide) lk_X9_river_89 rfl tyX9 tyX9_ok nmX9 rfl (by decide +kernel) rfl rfl dX9_river_7 ?_
  refine px_nmS eS2 ?_
  refine px_aload_n C 0 dX9_river_10 rfl rfl ?_
  refine px_iconst C (v := (0 : Int32)) dX9_river_11 (by decide) ?_
  obtain ⟨S3, eS3, h⟩ := el_lt h
  refine px_puti C (ty := .int) (j := 4) km_0 rfl rfl iw_X9_river_X9 (by decide) lk_X9_river_73 rfl tyX9 tyX9_ok nmX9 rfl (by decide +kernel) rfl rfl dX9_river_12 ?_
  refine px_nmS eS3 ?_
  refine px_aload_n C 0 dX9_river_15 rfl rfl ?_
  refine px_iconst C (v := (0 : Int32)) dX9_river_16 (by decide) ?_
  obtain ⟨S4, eS4, h⟩ := el_lt h
  refine px_puti C (ty := .int) (j := 15) km_0 rfl rfl iw_X9_river_X9 (by decide) lk_X9_river_107 rfl tyX9 tyX9_ok nmX9 rfl (by decide +kernel) rfl rfl dX9_river_17 ?_
  refine px_nmS eS4 ?_
  refine px_aload_n C 0 dX9_river_20 rfl rfl ?_
  refine px_getr C (j := 9) km_0 rfl rfl iw_X9_river_X9 (by decide) lk_X9_river_13 rfl dX9_river_21 ?_
  refine px_iconst C (v := (1 : Int32)) dX9_river_24 (by decide) ?_
  refine px_iconst C (v := (0 : Int32)) dX9_river_25 (by decide) ?_
  obtain ⟨S5, eS5, h⟩ := el_lt h
  refine px_iast C km_2 (j := 1) (by unfold vp_in; decide) (by decide) dX9_river_26 ?_
  refine px_nmS eS5 ?_
  refine px_aload_n C 0 dX9_river_27 rfl rfl ?_
  refine px_getr C (j := 9) km_0 rfl rfl iw_X9_river_X9 (by decide) lk_X9_river_13 rfl dX9_river_28 ?_
  refine px_iconst C (v := (2 : Int32)) dX9_river_31 (by decide) ?_
  refine px_bipush C (v := (10 : Int32)) dX9_river_32 (by decide) ?_
  obtain ⟨S6, eS6, h⟩ := el_lt h
  refine px_iast C km_2 (j := 2) (by unfold vp_in; decide) (by decide) dX9_river_34 ?_
  refine px_nmS eS6 ?_
  refine px_aload_n C 0 dX9_river_35 rfl rfl ?_
  refine px_getr C (j := 9) km_0 rfl rfl iw_X9_river_X9 (by decide) lk_X9_river_13 rfl dX9_river_36 ?_
  refine px_iconst C (v := (3 : Int32)) dX9_river_39 (by decide) ?_
  refine px_bipush C (v := (100 : Int32)) dX9_river_40 (by decide) ?_
  obtain ⟨S7, eS7, h⟩ := el_lt h
  refine px_iast C km_2 (j := 3) (by unfold vp_in; decide) (by decide) dX9_river_42 ?_
  refine px_nmS eS7 ?_
  refine px_iconst C (v := (0 : Int32)) dX9_river_43 (by decide) ?_
  refine px_istore_n C [(1, .int (0 : Int32)), (0, .ref (ad 0))] dX9_river_44 rfl (by decide) rfl ?_
  refine px_aload_n C 1 dX9_river_45 rfl rfl ?_
  obtain ⟨S9, hc46_7, h⟩ := el_b h
  refine px_callV0 C (c_X9_advances l tA tB ad fu S7 hc46_7) (cwV 0 C.2.2.2.2.1 gX9_river_X9_advances rfl rfl rfl (by decide +kernel) ⟨Nat.le_of_ble_eq_true rfl, Nat.le_of_ble_eq_true rfl⟩) ⟨Nat.zero_le _, Nat.zero_le _⟩ km_0 rfl rfl rfl (Nat.le_of_ble_eq_true rfl) dX9_river_46 ?_
  have hx0 : ∀  (x12 : Int32) (S13 : St), m_X9_river_r0 fu x12 S13 = some (rv, S') → PW p l e { frames := 5, cells := 0, slots := 0, locals := 109 } s m args below meth c (MQ below (QX KM A D cI c1 F ad (some (.int rv)) S') args s 0 0 A) D A cI c1 F KM ad 3 0 0 S13 [(0, .ref (ad 0)), (1, .int x12)] 170 [] := by
    intro x12 S13 h
    rw [m_X9_river_r0] at h
    refine px_aload_n C 0 dX9_river_170 rfl rfl ?_
    obtain ⟨x15, hc171_13, h⟩ := el_b h
    refine px_callV1 C (c_X9_isWell l tA tB ad S13 hc171_13) (cwV 0 C.2.2.2.2.1 gX9_river_X9_isWell rfl rfl rfl (by decide +kernel) ⟨Nat.le_of_ble_eq_true rfl, Nat.le_of_ble_eq_true rfl⟩) ⟨Nat.zero_le _, Nat.zero_le _⟩ km_0 rfl rfl rfl (Nat.le_of_ble_eq_true rfl) dX9_river_171 ?_
    refine px_if_ne C (tgt := 185) dX9_river_174 (by decide) (fun c174_15 => ?_) (fun c174_15 => ?_)
    · replace h := el_t c174_15 h
      refine px_aload_n C 0 dX9_river_185 rfl rfl ?_
      obtain ⟨S18, hc186_16, h⟩ := el_b h
      refine px_callV0 C (c_X9_settles l tA tB ad fu S13 hc186_16) (cwV 0 C.2.2.2.2.1 gX9_river_X9_settles rfl rfl rfl (by decide +kernel) ⟨Nat.le_of_ble_eq_true rfl, Nat.le_of_ble_eq_true rfl⟩) ⟨Nat.zero_le _, Nat.zero_le _⟩ km_0 rfl rfl rfl (Nat.le_of_ble_eq_true rfl) dX9_river_186 ?_
      refine px_iload_n C 1 dX9_river_189 rfl rfl ?_
      exact px_iretES C dX9_river_190 h
    · replace h := el_fn c174_15 h
      refine px_bipush C (v := (-10 : Int32)) dX9_river_177 (by decide) ?_
      refine px_aload_n C 0 dX9_river_179 rfl rfl ?_
      refine px_geti C (j := 8) km_0 rfl rfl iw_X9_river_X9 (by decide) lk_X9_river_89 rfl dX9_river_180 ?_
      refine px_isub C dX9_river_183 ?_
      exact px_iretES C dX9_river_184 h
  have hl0 : ∀ (n_0 : Nat) (x10 : Int32) (S11 : St), m_X9_river_L0 fu (m_X9_river_r0 fu) n_0 x10 S11 = some (rv, S') → PW p l e { frames := 5, cells := 0, slots := 0, locals := 109 } s m args below meth c (MQ below (QX KM A D cI c1 F ad (some (.int rv)) S') args s 0 0 A) D A cI c1 F KM ad 3 0 0 S11 [(0, .ref (ad 0)), (1, .int x10)] 49 [] := by
    intro n_0
    induction n_0 with
    | zero =>
      intro x10 S11 h
      rw [m_X9_river_L0_z] at h
      cases h
    | succ n_0 ih0 =>
      intro x10 S11 h
      rw [m_X9_river_L0_s] at h
      refine px_aload_n C 0 dX9_river_49 rfl rfl ?_
      obtain ⟨x20, hc50_18, h⟩ := el_b h
      refine px_callV1 C (c_X9_isWell l tA tB ad S11 hc50_18) (cwV 0 C.2.2.2.2.1 gX9_river_X9_isWell rfl rfl rfl (by decide +kernel) ⟨Nat.le_of_ble_eq_true rfl, Nat.le_of_ble_eq_true rfl⟩) ⟨Nat.zero_le _, Nat.zero_le _⟩ km_0 rfl rfl rfl (Nat.le_of_ble_eq_true rfl) dX9_river_50 ?_
      refine px_if_eq C (tgt := 170) dX9_river_53 (by decide) (fun c53_20 => ?_) (fun c53_20 => ?_)
      · replace h := el_t c53_20 h
        exact (hx0 _ _ h)
      · replace h := el_f c53_20 h
        refine px_aload_n C 0 dX9_river_56 rfl rfl ?_
        refine px_geti C (j := 5) km_0 rfl rfl iw_X9_river_X9 (by decide) lk_X9_river_83 rfl dX9_river_57 ?_
        refine px_if_eq C (tgt := 170) dX9_river_60 (by decide) (fun c60_21 => ?_) (fun c60_21 => ?_)
        · replace h := el_t c60_21 h
          exact (hx0 _ _ h)
        · replace h := el_f c60_21 h
          refine px_aload_n C 0 dX9_river_63 rfl rfl ?_
          refine px_aload_n C 0 dX9_river_64 rfl rfl ?_
          refine px_geti C (j := 5) km_0 rfl rfl iw_X9_river_X9 (by decide) lk_X9_river_83 rfl dX9_river_65 ?_
          refine px_iconst C (v := (1 : Int32)) dX9_river_68 (by decide) ?_
          obtain ⟨x24, hr69_48, h⟩ := el_b h
          have hj69_24 : PW p l e { frames := 5, cells := 0, slots := 0, locals := 109 } s m args below meth c (MQ below (QX KM A D cI c1 F ad (some (.int rv)) S') args s 0 0 A) D A cI c1 F KM ad 3 0 0 S11 [(0, .ref (ad 0)), (1, .int x10)] 130 [.int x24, .ref (ad 0)] := by
            obtain ⟨x27, S28, hc130_25, h⟩ := el_b2 h
            refine px_callV1 C (c_X9_takesToken l tA tB ad fu S11 x24 hc130_25) (cwV 1 C.2.2.2.2.1 gX9_river_X9_takesToken rfl rfl rfl (by decide +kernel) ⟨Nat.le_of_ble_eq_true rfl, Nat.le_of_ble_eq_true rfl⟩) ⟨Nat.zero_le _, Nat.zero_le _⟩ km_0 rfl rfl rfl (Nat.le_of_ble_eq_true rfl) dX9_river_130 ?_
            refine px_istore_n C [(2, .int x27), (0, .ref (ad 0)), (1, .int x10)] dX9_river_133 rfl (by decide) rfl ?_
            refine px_aload_n C 1 dX9_river_134 rfl rfl ?_
            obtain ⟨x30, hc135_28, h⟩ := el_b h
            refine px_callV1 C (c_X9_isWell l tA tB ad S28 hc135_28) (cwV 0 C.2.2.2.2.1 gX9_river_X9_isWell rfl rfl rfl (by decide +kernel) ⟨Nat.le_of_ble_eq_true rfl, Nat.le_of_ble_eq_true rfl⟩) ⟨Nat.zero_le _, Nat.zero_le _⟩ km_0 rfl rfl rfl (Nat.le_of_ble_eq_true rfl) dX9_river_135 ?_
            obtain ⟨S32, hr138_42, h⟩ := el_b h
            have hj138_32 : PW p l e { frames := 5, cells := 0, slots := 0, locals := 109 } s m args below meth c (MQ below (QX KM A D cI c1 F ad (some (.int rv)) S') args s 0 0 A) D A cI c1 F KM ad 3 0 0 S32 [(0, .ref (ad 0)), (1, .int x10), (2, .int x27)] 146 [] := by
              refine px_aload_n C 0 dX9_river_146 rfl rfl ?_
              refine px_aload_n C 0 dX9_river_147 rfl rfl ?_
              refine px_geti C (j := 5) km_0 rfl rfl iw_X9_river_X9 (by decide) lk_X9_river_83 rfl dX9_river_148 ?_
              refine px_iconst C (v := (3 : Int32)) dX9_river_151 (by decide) ?_
              obtain ⟨x35, hr152_39, h⟩ := el_b h
              have hj152_35 : PW p l e { frames := 5, cells := 0, slots := 0, locals := 109 } s m args below meth c (MQ below (QX KM A D cI c1 F ad (some (.int rv)) S') args s 0 0 A) D A cI c1 F KM ad 3 0 0 S32 [(0, .ref (ad 0)), (1, .int x10), (2, .int x27)] 160 [.int x35, .ref (ad 0)] := by
                obtain ⟨x38, S39, hc160_36, h⟩ := el_b2 h
                refine px_callV1 C (c_X9_takesToken l tA tB ad fu S32 x35 hc160_36) (cwV 1 C.2.2.2.2.1 gX9_river_X9_takesToken rfl rfl rfl (by decide +kernel) ⟨Nat.le_of_ble_eq_true rfl, Nat.le_of_ble_eq_true rfl⟩) ⟨Nat.zero_le _, Nat.zero_le _⟩ km_0 rfl rfl rfl (Nat.le_of_ble_eq_true rfl) dX9_river_160 ?_
                refine px_pop C dX9_river_163 rfl ?_
                refine px_iinc C 1 [(1, .int (x10 + (1 : Int32))), (0, .ref (ad 0)), (2, .int x27)] dX9_river_164 rfl rfl (by decide) rfl ?_
                refine px_goto C (tgt := 49) dX9_river_167 (by decide) ?_
                exact px_sub [1, 0] rfl (ih0 _ _ h)
              clear h
              have h := hr152_39
              clear hr152_39
              refine px_icmp_ne C (tgt := 159) dX9_river_152 (by decide) (fun c152_33 => ?_) (fun c152_33 => ?_)
              · replace h := el_t c152_33 h
                refine px_iconst C (v := (0 : Int32)) dX9_river_159 (by decide) ?_
                cases h
                exact hj152_35
              · replace h := el_fn c152_33 h
                refine px_iconst C (v := (1 : Int32)) dX9_river_155 (by decide) ?_
                refine px_goto C (tgt := 160) dX9_river_156 (by decide) ?_
                cases h
                exact hj152_35
            clear h
            have h := hr138_42
            clear hr138_42
            refine px_if_eq C (tgt := 146) dX9_river_138 (by decide) (fun c138_30 => ?_) (fun c138_30 => ?_)
            · replace h := el_t c138_30 h
              cases h
              exact px_sub [1, 2, 0] rfl hj138_32
            · replace h := el_f c138_30 h
              refine px_aload_n C 1 dX9_river_141 rfl rfl ?_
              refine px_iload_n C 0 dX9_river_142 rfl rfl ?_
              obtain ⟨S42, hc143_40, h⟩ := el_b h
              refine px_callV0 C (c_X9_readsItem l tA tB ad fu S28 x27 hc143_40) (cwV 1 C.2.2.2.2.1 gX9_river_X9_readsItem rfl rfl rfl (by decide +kernel) ⟨Nat.le_of_ble_eq_true rfl, Nat.le_of_ble_eq_true rfl⟩) ⟨Nat.zero_le _, Nat.zero_le _⟩ km_0 rfl rfl rfl (Nat.le_of_ble_eq_true rfl) dX9_river_143 ?_
              cases h
              exact px_sub [1, 2, 0] rfl hj138_32
          clear h
          have h := hr69_48
          clear hr69_48
          refine px_icmp_ne C (tgt := 129) dX9_river_69 (by decide) (fun c69_22 => ?_) (fun c69_22 => ?_)
          · replace h := el_t c69_22 h
            refine px_iconst C (v := (0 : Int32)) dX9_river_129 (by decide) ?_
            cases h
            exact hj69_24
          · replace h := el_fn c69_22 h
            refine px_aload_n C 0 dX9_river_72 rfl rfl ?_
            refine px_geti C (j := 7) km_0 rfl rfl iw_X9_river_X9 (by decide) lk_X9_river_86 rfl dX9_river_73 ?_
            refine px_bipush C (v := (114 : Int32)) dX9_river_76 (by decide) ?_
            refine px_icmp_ne C (tgt := 95) dX9_river_78 (by decide) (fun c78_43 => ?_) (fun c78_43 => ?_)
            · replace h := el_t c78_43 h
              refine px_aload_n C 0 dX9_river_95 rfl rfl ?_
              refine px_geti C (j := 7) km_0 rfl rfl iw_X9_river_X9 (by decide) lk_X9_river_86 rfl dX9_river_96 ?_
              refine px_bipush C (v := (98 : Int32)) dX9_river_99 (by decide) ?_
              refine px_icmp_ne C (tgt := 116) dX9_river_101 (by decide) (fun c101_44 => ?_) (fun c101_44 => ?_)
              · replace h := el_t c101_44 h
                refine px_aload_n C 0 dX9_river_116 rfl rfl ?_
                refine px_geti C (j := 15) km_0 rfl rfl iw_X9_river_X9 (by decide) lk_X9_river_107 rfl dX9_river_117 ?_
                refine px_iconst C (v := (2 : Int32)) dX9_river_120 (by decide) ?_
                refine px_iand C dX9_river_121 ?_
                refine px_if_ne C (tgt := 129) dX9_river_122 (by decide) (fun c122_45 => ?_) (fun c122_45 => ?_)
                · replace h := el_t c122_45 h
                  refine px_iconst C (v := (0 : Int32)) dX9_river_129 (by decide) ?_
                  cases h
                  exact hj69_24
                · replace h := el_fn c122_45 h
                  refine px_iconst C (v := (1 : Int32)) dX9_river_125 (by decide) ?_
                  refine px_goto C (tgt := 130) dX9_river_126 (by decide) ?_
                  cases h
                  exact hj69_24
              · replace h := el_fn c101_44 h
                refine px_aload_n C 0 dX9_river_104 rfl rfl ?_
                refine px_geti C (j := 15) km_0 rfl rfl iw_X9_river_X9 (by decide) lk_X9_river_107 rfl dX9_river_105 ?_
                refine px_iconst C (v := (1 : Int32)) dX9_river_108 (by decide) ?_
                refine px_iand C dX9_river_109 ?_
                refine px_if_ne C (tgt := 129) dX9_river_110 (by decide) (fun c110_46 => ?_) (fun c110_46 => ?_)
                · replace h := el_t c110_46 h
                  refine px_iconst C (v := (0 : Int32)) dX9_river_129 (by decide) ?_
                  cases h
                  exact hj69_24
                · replace h := el_fn c110_46 h
                  refine px_goto C (tgt := 125) dX9_river_113 (by decide) ?_
                  refine px_iconst C (v := (1 : Int32)) dX9_river_125 (by decide) ?_
                  refine px_goto C (tgt := 130) dX9_river_126 (by decide) ?_
                  cases h
                  exact hj69_24
            · replace h := el_fn c78_43 h
              refine px_aload_n C 0 dX9_river_81 rfl rfl ?_
              refine px_getr C (j := 9) km_0 rfl rfl iw_X9_river_X9 (by decide) lk_X9_river_13 rfl dX9_river_82 ?_
              refine px_iconst C (v := (1 : Int32)) dX9_river_85 (by decide) ?_
              refine px_iald C km_2 (j := 1) (by unfold vp_in; decide) (by decide) dX9_river_86 ?_
              refine px_bipush C (v := (8 : Int32)) dX9_river_87 (by decide) ?_
              refine px_icmp_ge C (tgt := 129) dX9_river_89 (by decide) (fun c89_47 => ?_) (fun c89_47 => ?_)
              · replace h := el_t c89_47 h
                refine px_iconst C (v := (0 : Int32)) dX9_river_129 (by decide) ?_
                cases h
                exact hj69_24
              · replace h := el_f c89_47 h
                refine px_goto C (tgt := 125) dX9_river_92 (by decide) ?_
                refine px_iconst C (v := (1 : Int32)) dX9_river_125 (by decide) ?_
                refine px_goto C (tgt := 130) dX9_river_126 (by decide) ?_
                cases h
                exact hj69_24
  exact px_sub [1, 0] rfl (hl0 _ _ _ h)
theorem lk_X9_rock_19 : Cond.fieldLink RX9 19 "RiverTollsModel" "measure" "[I" ∈ wsX9_rock := List.mem_of_getElem? (i := 3) rfl
theorem lk_X9_rock_22 : Cond.fieldLink RX9 22 "RiverTollsModel" "lord" "[I" ∈ wsX9_rock := List.mem_of_getElem? (i := 4) rfl
theorem lk_X9_rock_25 : Cond.fieldLink RX9 25 "RiverTollsModel" "watch" "[I" ∈ wsX9_rock := List.mem_of_getElem? (i := 5) rfl
theorem lk_X9_rock_28 : Cond.fieldLink RX9 28 "RiverTollsModel" "land" "[I" ∈ wsX9_rock := List.mem_of_getElem? (i := 6) rfl
theorem lk_X9_rock_31 : Cond.fieldLink RX9 31 "RiverTollsModel" "s" "[I" ∈ wsX9_rock := List.mem_of_getElem? (i := 2) rfl
theorem lk_X9_rock_62 : Cond.fieldLink RX9 62 "RiverTollsModel" "thrown" "I" ∈ wsX9_rock := List.mem_of_getElem? (i := 1) rfl
theorem iw_X9_rock_X9 : ∀ w ∈ u_ws RX9 TX9 28, w ∈ wsX9_rock := fun _ h9 => (List.mem_cons_of_mem _ (List.mem_append_right _ h9))
set_option maxHeartbeats 4000000 in
set_option maxRecDepth 100000 in
theorem c_X9_rock (l : Launch) (tA tB : Nat) (ad : Nat → Nat) (S : St) (a1 : Int32) (a2 : Int32) {rv : Int32} {S' : St} (h : m_X9_rock S a1 a2 = some (rv, S')) :
    XMet l yX9_rock wsX9_rock ({ frames := 2, cells := 0, slots := 0, locals := 43 }) KM .boolean tA tB [.ref (ad 0), .int a1, .int a2] ad S (some (.int rv)) S' := by
  refine XMet.of (cc := cX9_rock) (maxL := 3) (ret := (some .int)) (own := RX9) (lv := [(0, .ref (ad 0)), (1, .int a1), (2, .int a2)]) rfl (by decide) rfl (Nat.le_of_ble_eq_true rfl) rfl ?_
  intro p e s m args below meth c D A cI c1 F C
  rw [m_X9_rock] at h
  refine px_aload_n C 0 dX9_rock_0 rfl rfl ?_
  refine px_iconst C (v := (0 : Int32)) dX9_rock_1 (by decide) ?_
  obtain ⟨S1, eS1, h⟩ := el_lt h
  refine px_puti C (ty := .int) (j := 0) km_0 rfl rfl iw_X9_rock_X9 (by decide) lk_X9_rock_62 rfl tyX9 tyX9_ok nmX9 rfl (by decide +kernel) rfl rfl dX9_rock_2 ?_
  refine px_nmS eS1 ?_
  refine px_aload_n C 0 dX9_rock_5 rfl rfl ?_
  refine px_iload_n C 1 dX9_rock_6 rfl rfl ?_
  obtain ⟨x3, hc7_1, h⟩ := el_b h
  refine px_callV1 C (c_X9_isRock l tA tB ad S1 a1 hc7_1) (cwV 1 C.2.2.2.2.1 gX9_rock_X9_isRock rfl rfl rfl (by decide +kernel) ⟨Nat.le_of_ble_eq_true rfl, Nat.le_of_ble_eq_true rfl⟩) ⟨Nat.zero_le _, Nat.zero_le _⟩ km_0 rfl rfl rfl (Nat.le_of_ble_eq_true rfl) dX9_rock_7 ?_
  refine px_if_eq C (tgt := 22) dX9_rock_10 (by decide) (fun c10_3 => ?_) (fun c10_3 => ?_)
  · replace h := el_t c10_3 h
    refine px_iconst C (v := (-1 : Int32)) dX9_rock_22 (by decide) ?_
    exact px_iretES C dX9_rock_23 h
  · replace h := el_f c10_3 h
    refine px_iload_n C 2 dX9_rock_13 rfl rfl ?_
    refine px_iconst C (v := (0 : Int32)) dX9_rock_14 (by decide) ?_
    refine px_iconst C (v := (5 : Int32)) dX9_rock_15 (by decide) ?_
    obtain ⟨x6, hc16_4, h⟩ := el_b h
    refine px_callS1 C (c_X9_in l tA tB ad S1 a2 (0 : Int32) (5 : Int32) hc16_4) (va_cwS 3 C.2.2.2.2.1 gX9_rock_X9_in rfl rfl rfl (by decide +kernel) ⟨Nat.le_of_ble_eq_true rfl, Nat.le_of_ble_eq_true rfl⟩) ⟨Nat.zero_le _, Nat.zero_le _⟩ rfl rfl (Nat.le_of_ble_eq_true rfl) dX9_rock_16 ?_
    refine px_if_ne C (tgt := 24) dX9_rock_19 (by decide) (fun c19_6 => ?_) (fun c19_6 => ?_)
    · replace h := el_t c19_6 h
      refine px_iload_n C 2 dX9_rock_24 rfl rfl ?_
      refine px_iconst C (v := (3 : Int32)) dX9_rock_25 (by decide) ?_
      refine px_icmp_ge C (tgt := 66) dX9_rock_26 (by decide) (fun c26_7 => ?_) (fun c26_7 => ?_)
      · replace h := el_t c26_7 h
        refine px_iload_n C 2 dX9_rock_66 rfl rfl ?_
        refine px_iconst C (v := (3 : Int32)) dX9_rock_67 (by decide) ?_
        refine px_icmp_ne C (tgt := 80) dX9_rock_68 (by decide) (fun c68_8 => ?_) (fun c68_8 => ?_)
        · replace h := el_t c68_8 h
          refine px_iload_n C 2 dX9_rock_80 rfl rfl ?_
          refine px_iconst C (v := (4 : Int32)) dX9_rock_81 (by decide) ?_
          refine px_icmp_ne C (tgt := 94) dX9_rock_82 (by decide) (fun c82_9 => ?_) (fun c82_9 => ?_)
          · replace h := el_t c82_9 h
            refine px_aload_n C 0 dX9_rock_94 rfl rfl ?_
            refine px_getr C (j := 16) km_0 rfl rfl iw_X9_rock_X9 (by decide) lk_X9_rock_31 rfl dX9_rock_95 ?_
            refine px_iconst C (v := (5 : Int32)) dX9_rock_98 (by decide) ?_
            refine px_iald C km_8 (j := 5) (by unfold vp_in; decide) (by decide) dX9_rock_99 ?_
            refine px_iload_n C 1 dX9_rock_100 rfl rfl ?_
            refine px_ishr C dX9_rock_101 ?_
            refine px_iconst C (v := (1 : Int32)) dX9_rock_102 (by decide) ?_
            refine px_iand C dX9_rock_103 ?_
            exact px_iretES C dX9_rock_104 h
          · replace h := el_fn c82_9 h
            refine px_aload_n C 0 dX9_rock_85 rfl rfl ?_
            refine px_getr C (j := 14) km_0 rfl rfl iw_X9_rock_X9 (by decide) lk_X9_rock_28 rfl dX9_rock_86 ?_
            refine px_iload_n C 1 dX9_rock_89 rfl rfl ?_
            obtain ⟨hix11, x11, ex11, h⟩ := el_ald h
            refine px_iald C km_7 hix11 rfl dX9_rock_90 ?_
            refine px_nm ex11 ?_
            refine px_goto C (tgt := 104) dX9_rock_91 (by decide) ?_
            exact px_iretES C dX9_rock_104 h
        · replace h := el_fn c68_8 h
          refine px_aload_n C 0 dX9_rock_71 rfl rfl ?_
          refine px_getr C (j := 13) km_0 rfl rfl iw_X9_rock_X9 (by decide) lk_X9_rock_25 rfl dX9_rock_72 ?_
          refine px_iload_n C 1 dX9_rock_75 rfl rfl ?_
          obtain ⟨hix12, x12, ex12, h⟩ := el_ald h
          refine px_iald C km_6 hix12 rfl dX9_rock_76 ?_
          refine px_nm ex12 ?_
          refine px_goto C (tgt := 104) dX9_rock_77 (by decide) ?_
          exact px_iretES C dX9_rock_104 h
      · replace h := el_f c26_7 h
        refine px_iload_n C 2 dX9_rock_29 rfl rfl ?_
        refine px_if_ne C (tgt := 45) dX9_rock_30 (by decide) (fun c30_12 => ?_) (fun c30_12 => ?_)
        · replace h := el_t c30_12 h
          refine px_iload_n C 2 dX9_rock_45 rfl rfl ?_
          refine px_iconst C (v := (1 : Int32)) dX9_rock_46 (by decide) ?_
          refine px_icmp_ne C (tgt := 59) dX9_rock_47 (by decide) (fun c47_13 => ?_) (fun c47_13 => ?_)
          · replace h := el_t c47_13 h
            refine px_aload_n C 0 dX9_rock_59 rfl rfl ?_
            refine px_getr C (j := 12) km_0 rfl rfl iw_X9_rock_X9 (by decide) lk_X9_rock_22 rfl dX9_rock_60 ?_
            refine px_iload_n C 1 dX9_rock_63 rfl rfl ?_
            obtain ⟨hix15, x15, ex15, h⟩ := el_ald h
            refine px_iald C km_5 hix15 rfl dX9_rock_64 ?_
            refine px_nm ex15 ?_
            exact px_iretES C dX9_rock_65 h
          · replace h := el_fn c47_13 h
            refine px_aload_n C 0 dX9_rock_50 rfl rfl ?_
            refine px_getr C (j := 11) km_0 rfl rfl iw_X9_rock_X9 (by decide) lk_X9_rock_19 rfl dX9_rock_51 ?_
            refine px_iload_n C 1 dX9_rock_54 rfl rfl ?_
            obtain ⟨hix16, x16, ex16, h⟩ := el_ald h
            refine px_iald C km_4 hix16 rfl dX9_rock_55 ?_
            refine px_nm ex16 ?_
            refine px_goto C (tgt := 65) dX9_rock_56 (by decide) ?_
            exact px_iretES C dX9_rock_65 h
        · replace h := el_fn c30_12 h
          refine px_aload_n C 0 dX9_rock_33 rfl rfl ?_
          refine px_getr C (j := 16) km_0 rfl rfl iw_X9_rock_X9 (by decide) lk_X9_rock_31 rfl dX9_rock_34 ?_
          refine px_bipush C (v := (6 : Int32)) dX9_rock_37 (by decide) ?_
          refine px_iload_n C 1 dX9_rock_39 rfl rfl ?_
          refine px_iadd C dX9_rock_40 ?_
          obtain ⟨hix17, x17, ex17, h⟩ := el_ald h
          refine px_iald C km_8 hix17 rfl dX9_rock_41 ?_
          refine px_nm ex17 ?_
          refine px_goto C (tgt := 65) dX9_rock_42 (by decide) ?_
          exact px_iretES C dX9_rock_65 h
    · replace h := el_fn c19_6 h
      refine px_iconst C (v := (-1 : Int32)) dX9_rock_22 (by decide) ?_
      exact px_iretES C dX9_rock_23 h
theorem lk_X9_sells_31 : Cond.fieldLink RX9 31 "RiverTollsModel" "s" "[I" ∈ wsX9_sells := List.mem_of_getElem? (i := 2) rfl
theorem lk_X9_sells_62 : Cond.fieldLink RX9 62 "RiverTollsModel" "thrown" "I" ∈ wsX9_sells := List.mem_of_getElem? (i := 1) rfl
theorem lk_X9_sells_149 : Cond.constant RX9 149 (999999) ∈ wsX9_sells := List.mem_of_getElem? (i := 3) rfl
theorem iw_X9_sells_X9 : ∀ w ∈ u_ws RX9 TX9 28, w ∈ wsX9_sells := fun _ h9 => (List.mem_cons_of_mem _ (List.mem_append_right _ h9))
set_option maxHeartbeats 4000000 in
set_option maxRecDepth 100000 in
theorem c_X9_sells (l : Launch) (tA tB : Nat) (ad : Nat → Nat) (fu : Nat) (S : St) (a1 : Int32) (a2 : Int32) {rv : Int32} {S' : St} (h : m_X9_sells fu S a1 a2 = some (rv, S')) :
    XMet l yX9_sells wsX9_sells ({ frames := 1, cells := 0, slots := 0, locals := 22 }) KM .boolean tA tB [.ref (ad 0), .int a1, .int a2] ad S (some (.int rv)) S' := by
  refine XMet.of (cc := cX9_sells) (maxL := 3) (ret := (some .int)) (own := RX9) (lv := [(0, .ref (ad 0)), (1, .int a1), (2, .int a2)]) rfl (by decide) rfl (Nat.le_of_ble_eq_true rfl) rfl ?_
  intro p e s m args below meth c D A cI c1 F C
  rw [m_X9_sells] at h
  refine px_aload_n C 0 dX9_sells_0 rfl rfl ?_
  refine px_iconst C (v := (0 : Int32)) dX9_sells_1 (by decide) ?_
  obtain ⟨S1, eS1, h⟩ := el_lt h
  refine px_puti C (ty := .int) (j := 0) km_0 rfl rfl iw_X9_sells_X9 (by decide) lk_X9_sells_62 rfl tyX9 tyX9_ok nmX9 rfl (by decide +kernel) rfl rfl dX9_sells_2 ?_
  refine px_nmS eS1 ?_
  refine px_iload_n C 1 dX9_sells_5 rfl rfl ?_
  refine px_iconst C (v := (1 : Int32)) dX9_sells_6 (by decide) ?_
  refine px_bipush C (v := (30 : Int32)) dX9_sells_7 (by decide) ?_
  obtain ⟨x3, hc9_1, h⟩ := el_b h
  refine px_callS1 C (c_X9_in l tA tB ad S1 a1 (1 : Int32) (30 : Int32) hc9_1) (va_cwS 3 C.2.2.2.2.1 gX9_sells_X9_in rfl rfl rfl (by decide +kernel) ⟨Nat.le_of_ble_eq_true rfl, Nat.le_of_ble_eq_true rfl⟩) ⟨Nat.zero_le _, Nat.zero_le _⟩ rfl rfl (Nat.le_of_ble_eq_true rfl) dX9_sells_9 ?_
  refine px_if_eq C (tgt := 25) dX9_sells_12 (by decide) (fun c12_3 => ?_) (fun c12_3 => ?_)
  · replace h := el_t c12_3 h
    refine px_iconst C (v := (-1 : Int32)) dX9_sells_25 (by decide) ?_
    exact px_iretES C dX9_sells_26 h
  · replace h := el_f c12_3 h
    refine px_iload_n C 2 dX9_sells_15 rfl rfl ?_
    refine px_iconst C (v := (0 : Int32)) dX9_sells_16 (by decide) ?_
    refine px_bipush C (v := (30 : Int32)) dX9_sells_17 (by decide) ?_
    obtain ⟨x6, hc19_4, h⟩ := el_b h
    refine px_callS1 C (c_X9_in l tA tB ad S1 a2 (0 : Int32) (30 : Int32) hc19_4) (va_cwS 3 C.2.2.2.2.1 gX9_sells_X9_in rfl rfl rfl (by decide +kernel) ⟨Nat.le_of_ble_eq_true rfl, Nat.le_of_ble_eq_true rfl⟩) ⟨Nat.zero_le _, Nat.zero_le _⟩ rfl rfl (Nat.le_of_ble_eq_true rfl) dX9_sells_19 ?_
    refine px_if_ne C (tgt := 27) dX9_sells_22 (by decide) (fun c22_6 => ?_) (fun c22_6 => ?_)
    · replace h := el_t c22_6 h
      refine px_iload_n C 1 dX9_sells_27 rfl rfl ?_
      refine px_aload_n C 0 dX9_sells_28 rfl rfl ?_
      refine px_getr C (j := 16) km_0 rfl rfl iw_X9_sells_X9 (by decide) lk_X9_sells_31 rfl dX9_sells_29 ?_
      refine px_iconst C (v := (1 : Int32)) dX9_sells_32 (by decide) ?_
      refine px_iald C km_8 (j := 1) (by unfold vp_in; decide) (by decide) dX9_sells_33 ?_
      refine px_icmp_gt C (tgt := 52) dX9_sells_34 (by decide) (fun c34_7 => ?_) (fun c34_7 => ?_)
      · replace h := el_t c34_7 h
        refine px_bipush C (v := (-2 : Int32)) dX9_sells_52 (by decide) ?_
        exact px_iretES C dX9_sells_54 h
      · replace h := el_f c34_7 h
        refine px_aload_n C 0 dX9_sells_37 rfl rfl ?_
        refine px_getr C (j := 16) km_0 rfl rfl iw_X9_sells_X9 (by decide) lk_X9_sells_31 rfl dX9_sells_38 ?_
        refine px_iconst C (v := (2 : Int32)) dX9_sells_41 (by decide) ?_
        refine px_iald C km_8 (j := 2) (by unfold vp_in; decide) (by decide) dX9_sells_42 ?_
        refine px_iload_n C 1 dX9_sells_43 rfl rfl ?_
        refine px_iload_n C 2 dX9_sells_44 rfl rfl ?_
        refine px_imul C dX9_sells_45 ?_
        refine px_iadd C dX9_sells_46 ?_
        refine px_ldc C (v := (999999 : Int32)) lk_X9_sells_149 dX9_sells_47 ?_
        refine px_icmp_le C (tgt := 55) dX9_sells_49 (by decide) (fun c49_8 => ?_) (fun c49_8 => ?_)
        · replace h := el_t c49_8 h
          refine px_aload_n C 0 dX9_sells_55 rfl rfl ?_
          obtain ⟨S11, hc56_9, h⟩ := el_b h
          refine px_callV0 C (c_X9_notes l tA tB ad fu S1 hc56_9) (cwV 0 C.2.2.2.2.1 gX9_sells_X9_notes rfl rfl rfl (by decide +kernel) ⟨Nat.le_of_ble_eq_true rfl, Nat.le_of_ble_eq_true rfl⟩) ⟨Nat.zero_le _, Nat.zero_le _⟩ km_0 rfl rfl rfl (Nat.le_of_ble_eq_true rfl) dX9_sells_56 ?_
          refine px_aload_n C 0 dX9_sells_59 rfl rfl ?_
          refine px_getr C (j := 16) km_0 rfl rfl iw_X9_sells_X9 (by decide) lk_X9_sells_31 rfl dX9_sells_60 ?_
          refine px_iconst C (v := (1 : Int32)) dX9_sells_63 (by decide) ?_
          refine px_dup2 C dX9_sells_64 rfl rfl ?_
          refine px_iald C km_8 (j := 1) (by unfold vp_in; decide) (by decide) dX9_sells_65 ?_
          refine px_iload_n C 1 dX9_sells_66 rfl rfl ?_
          refine px_isub C dX9_sells_67 ?_
          obtain ⟨S12, eS12, h⟩ := el_lt h
          refine px_iast C km_8 (j := 1) (by unfold vp_in; decide) (by decide) dX9_sells_68 ?_
          refine px_nmS eS12 ?_
          refine px_aload_n C 0 dX9_sells_69 rfl rfl ?_
          refine px_getr C (j := 16) km_0 rfl rfl iw_X9_sells_X9 (by decide) lk_X9_sells_31 rfl dX9_sells_70 ?_
          refine px_iconst C (v := (2 : Int32)) dX9_sells_73 (by decide) ?_
          refine px_dup2 C dX9_sells_74 rfl rfl ?_
          refine px_iald C km_8 (j := 2) (by unfold vp_in; decide) (by decide) dX9_sells_75 ?_
          refine px_iload_n C 1 dX9_sells_76 rfl rfl ?_
          refine px_iload_n C 2 dX9_sells_77 rfl rfl ?_
          refine px_imul C dX9_sells_78 ?_
          refine px_iadd C dX9_sells_79 ?_
          obtain ⟨S13, eS13, h⟩ := el_lt h
          refine px_iast C km_8 (j := 2) (by unfold vp_in; decide) (by decide) dX9_sells_80 ?_
          refine px_nmS eS13 ?_
          refine px_aload_n C 0 dX9_sells_81 rfl rfl ?_
          refine px_getr C (j := 16) km_0 rfl rfl iw_X9_sells_X9 (by decide) lk_X9_sells_31 rfl dX9_sells_82 ?_
          refine px_iconst C (v := (2 : Int32)) dX9_sells_85 (by decide) ?_
          refine px_iald C km_8 (j := 2) (by unfold vp_in; decide) (by decide) dX9_sells_86 ?_
          exact px_iretES C dX9_sells_87 h
        · replace h := el_f c49_8 h
          refine px_bipush C (v := (-2 : Int32)) dX9_sells_52 (by decide) ?_
          exact px_iretES C dX9_sells_54 h
    · replace h := el_fn c22_6 h
      refine px_iconst C (v := (-1 : Int32)) dX9_sells_25 (by decide) ?_
      exact px_iretES C dX9_sells_26 h
