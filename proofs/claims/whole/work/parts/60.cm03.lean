theorem lk_X9_nights_25 : Cond.fieldLink RX9 25 "RiverTollsModel" "watch" "[I" ∈ wsX9_nights := List.mem_of_getElem? (i := 7) rfl
theorem lk_X9_nights_31 : Cond.fieldLink RX9 31 "RiverTollsModel" "s" "[I" ∈ wsX9_nights := List.mem_of_getElem? (i := 4) rfl
theorem lk_X9_nights_62 : Cond.fieldLink RX9 62 "RiverTollsModel" "thrown" "I" ∈ wsX9_nights := List.mem_of_getElem? (i := 1) rfl
theorem lk_X9_nights_141 : Cond.constantLong RX9 141 (7919) ∈ wsX9_nights := List.mem_of_getElem? (i := 2) rfl
theorem lk_X9_nights_143 : Cond.constantLong RX9 143 (6151) ∈ wsX9_nights := List.mem_of_getElem? (i := 3) rfl
theorem lk_X9_nights_145 : Cond.constantLong RX9 145 (65521) ∈ wsX9_nights := List.mem_of_getElem? (i := 5) rfl
theorem lk_X9_nights_147 : Cond.constantLong RX9 147 (8) ∈ wsX9_nights := List.mem_of_getElem? (i := 6) rfl
theorem iw_X9_nights_X9 : ∀ w ∈ u_ws RX9 TX9 28, w ∈ wsX9_nights := fun _ h9 => (List.mem_cons_of_mem _ (List.mem_append_right _ h9))
set_option maxHeartbeats 4000000 in
set_option maxRecDepth 100000 in
theorem c_X9_nights (l : Launch) (tA tB : Nat) (ad : Nat → Nat) (fu : Nat) (S : St) (a1 : Int32) {rv : Int32} {S' : St} (h : m_X9_nights fu S a1 = some (rv, S')) :
    XMet l yX9_nights wsX9_nights ({ frames := 1, cells := 0, slots := 0, locals := 22 }) KM .boolean tA tB [.ref (ad 0), .int a1] ad S (some (.int rv)) S' := by
  refine XMet.of (cc := cX9_nights) (maxL := 6) (ret := (some .int)) (own := RX9) (lv := [(0, .ref (ad 0)), (1, .int a1)]) rfl (by decide) rfl (Nat.le_of_ble_eq_true rfl) rfl ?_
  intro p e s m args below meth c D A cI c1 F C
  rw [m_X9_nights] at h
  refine px_aload_n C 0 dX9_nights_0 rfl rfl ?_
  refine px_iconst C (v := (0 : Int32)) dX9_nights_1 (by decide) ?_
  obtain ⟨S1, eS1, h⟩ := el_lt h
  refine px_puti C (ty := .int) (j := 0) km_0 rfl rfl iw_X9_nights_X9 (by decide) lk_X9_nights_62 rfl tyX9 tyX9_ok nmX9 rfl (by decide +kernel) rfl rfl dX9_nights_2 ?_
  refine px_nmS eS1 ?_
  refine px_iload_n C 1 dX9_nights_5 rfl rfl ?_
  refine px_iconst C (v := (0 : Int32)) dX9_nights_6 (by decide) ?_
  refine px_sipush C (v := (9999 : Int32)) dX9_nights_7 (by decide) ?_
  obtain ⟨x3, hc10_1, h⟩ := el_b h
  refine px_callS1 C (c_X9_in l tA tB ad S1 a1 (0 : Int32) (9999 : Int32) hc10_1) (va_cwS 3 C.2.2.2.2.1 gX9_nights_X9_in rfl rfl rfl (by decide +kernel) ⟨Nat.le_of_ble_eq_true rfl, Nat.le_of_ble_eq_true rfl⟩) ⟨Nat.zero_le _, Nat.zero_le _⟩ rfl rfl (Nat.le_of_ble_eq_true rfl) dX9_nights_10 ?_
  refine px_if_ne C (tgt := 18) dX9_nights_13 (by decide) (fun c13_3 => ?_) (fun c13_3 => ?_)
  · replace h := el_t c13_3 h
    refine px_aload_n C 0 dX9_nights_18 rfl rfl ?_
    obtain ⟨x6, hc19_4, h⟩ := el_b h
    refine px_callV1 C (c_X9_isSea l tA tB ad S1 hc19_4) (cwV 0 C.2.2.2.2.1 gX9_nights_X9_isSea rfl rfl rfl (by decide +kernel) ⟨Nat.le_of_ble_eq_true rfl, Nat.le_of_ble_eq_true rfl⟩) ⟨Nat.zero_le _, Nat.zero_le _⟩ km_0 rfl rfl rfl (Nat.le_of_ble_eq_true rfl) dX9_nights_19 ?_
    refine px_if_eq C (tgt := 28) dX9_nights_22 (by decide) (fun c22_6 => ?_) (fun c22_6 => ?_)
    · replace h := el_t c22_6 h
      refine px_aload_n C 0 dX9_nights_28 rfl rfl ?_
      obtain ⟨S9, hc29_7, h⟩ := el_b h
      refine px_callV0 C (c_X9_notes l tA tB ad fu S1 hc29_7) (cwV 0 C.2.2.2.2.1 gX9_nights_X9_notes rfl rfl rfl (by decide +kernel) ⟨Nat.le_of_ble_eq_true rfl, Nat.le_of_ble_eq_true rfl⟩) ⟨Nat.zero_le _, Nat.zero_le _⟩ km_0 rfl rfl rfl (Nat.le_of_ble_eq_true rfl) dX9_nights_29 ?_
      refine px_ldc2 C (v := (7919 : Int64)) lk_X9_nights_141 dX9_nights_32 ?_
      refine px_iload_n C 1 dX9_nights_35 rfl rfl ?_
      refine px_i2l C dX9_nights_36 ?_
      refine px_lmul C dX9_nights_37 ?_
      refine px_ldc2 C (v := (6151 : Int64)) lk_X9_nights_143 dX9_nights_38 ?_
      refine px_aload_n C 0 dX9_nights_41 rfl rfl ?_
      refine px_getr C (j := 16) km_0 rfl rfl iw_X9_nights_X9 (by decide) lk_X9_nights_31 rfl dX9_nights_42 ?_
      refine px_iconst C (v := (0 : Int32)) dX9_nights_45 (by decide) ?_
      refine px_iald C km_8 (j := 0) (by unfold vp_in; decide) (by decide) dX9_nights_46 ?_
      refine px_i2l C dX9_nights_47 ?_
      refine px_lmul C dX9_nights_48 ?_
      refine px_ladd C dX9_nights_49 ?_
      refine px_lconst C (v := (1 : Int64)) dX9_nights_50 (by decide) ?_
      refine px_ladd C dX9_nights_51 ?_
      obtain ⟨x10, ex10, h⟩ := el_lt h
      refine px_nml ex10 ?_
      refine px_lstore_n C [(2, .long x10), (0, .ref (ad 0)), (1, .int a1)] dX9_nights_52 rfl (by decide) rfl ?_
      refine px_lload_n C 0 dX9_nights_53 rfl rfl ?_
      refine px_lload_n C 0 dX9_nights_54 rfl rfl ?_
      refine px_lmul C dX9_nights_55 ?_
      refine px_ldc2 C (v := (65521 : Int64)) lk_X9_nights_145 dX9_nights_56 ?_
      refine px_lrem C dX9_nights_59 (by decide) ?_
      refine px_ldc2 C (v := (8 : Int64)) lk_X9_nights_147 dX9_nights_60 ?_
      refine px_ldiv C dX9_nights_63 (by decide) ?_
      refine px_l2i C dX9_nights_64 ?_
      obtain ⟨x11, ex11, h⟩ := el_lt h
      refine px_nm ex11 ?_
      refine px_istore C [(4, .int x11), (2, .long x10), (0, .ref (ad 0)), (1, .int a1)] dX9_nights_65 (by decide) rfl ?_
      refine px_iload C 0 dX9_nights_67 rfl ?_
      refine px_bipush C (v := (10 : Int32)) dX9_nights_69 (by decide) ?_
      refine px_irem C dX9_nights_71 (by decide) ?_
      refine px_aload_n C 2 dX9_nights_72 rfl rfl ?_
      refine px_getr C (j := 13) km_0 rfl rfl iw_X9_nights_X9 (by decide) lk_X9_nights_25 rfl dX9_nights_73 ?_
      refine px_aload_n C 2 dX9_nights_76 rfl rfl ?_
      refine px_getr C (j := 16) km_0 rfl rfl iw_X9_nights_X9 (by decide) lk_X9_nights_31 rfl dX9_nights_77 ?_
      refine px_iconst C (v := (0 : Int32)) dX9_nights_80 (by decide) ?_
      refine px_iald C km_8 (j := 0) (by unfold vp_in; decide) (by decide) dX9_nights_81 ?_
      obtain ⟨hix12, x12, ex12, h⟩ := el_ald h
      refine px_iald C km_6 hix12 rfl dX9_nights_82 ?_
      refine px_nm ex12 ?_
      obtain ⟨x14, hr83_19, h⟩ := el_b h
      have hj83_14 : PW p l e { frames := 1, cells := 0, slots := 0, locals := 22 } s m args below meth c (MQ below (QX KM A D cI c1 F ad (some (.int rv)) S') args s 0 0 A) D A cI c1 F KM ad 6 0 0 S9 [(0, .ref (ad 0)), (1, .int a1), (2, .long x10), (4, .int x11)] 100 [.int x14] := by
        refine px_istore C [(5, .int x14), (0, .ref (ad 0)), (1, .int a1), (2, .long x10), (4, .int x11)] dX9_nights_100 (by decide) rfl ?_
        refine px_aload_n C 1 dX9_nights_102 rfl rfl ?_
        refine px_getr C (j := 16) km_0 rfl rfl iw_X9_nights_X9 (by decide) lk_X9_nights_31 rfl dX9_nights_103 ?_
        refine px_iconst C (v := (1 : Int32)) dX9_nights_106 (by decide) ?_
        refine px_dup2 C dX9_nights_107 rfl rfl ?_
        refine px_iald C km_8 (j := 1) (by unfold vp_in; decide) (by decide) dX9_nights_108 ?_
        refine px_iload C 0 dX9_nights_109 rfl ?_
        refine px_isub C dX9_nights_111 ?_
        obtain ⟨S16, eS16, h⟩ := el_lt h
        refine px_iast C km_8 (j := 1) (by unfold vp_in; decide) (by decide) dX9_nights_112 ?_
        refine px_nmS eS16 ?_
        refine px_aload_n C 1 dX9_nights_113 rfl rfl ?_
        refine px_getr C (j := 16) km_0 rfl rfl iw_X9_nights_X9 (by decide) lk_X9_nights_31 rfl dX9_nights_114 ?_
        refine px_iconst C (v := (4 : Int32)) dX9_nights_117 (by decide) ?_
        refine px_dup2 C dX9_nights_118 rfl rfl ?_
        refine px_iald C km_8 (j := 4) (by unfold vp_in; decide) (by decide) dX9_nights_119 ?_
        refine px_iload C 0 dX9_nights_120 rfl ?_
        refine px_iadd C dX9_nights_122 ?_
        obtain ⟨S17, eS17, h⟩ := el_lt h
        refine px_iast C km_8 (j := 4) (by unfold vp_in; decide) (by decide) dX9_nights_123 ?_
        refine px_nmS eS17 ?_
        refine px_aload_n C 1 dX9_nights_124 rfl rfl ?_
        refine px_getr C (j := 16) km_0 rfl rfl iw_X9_nights_X9 (by decide) lk_X9_nights_31 rfl dX9_nights_125 ?_
        refine px_iconst C (v := (3 : Int32)) dX9_nights_128 (by decide) ?_
        refine px_iconst C (v := (0 : Int32)) dX9_nights_129 (by decide) ?_
        obtain ⟨S18, eS18, h⟩ := el_lt h
        refine px_iast C km_8 (j := 3) (by unfold vp_in; decide) (by decide) dX9_nights_130 ?_
        refine px_nmS eS18 ?_
        refine px_aload_n C 1 dX9_nights_131 rfl rfl ?_
        refine px_getr C (j := 16) km_0 rfl rfl iw_X9_nights_X9 (by decide) lk_X9_nights_31 rfl dX9_nights_132 ?_
        refine px_iconst C (v := (0 : Int32)) dX9_nights_135 (by decide) ?_
        refine px_dup2 C dX9_nights_136 rfl rfl ?_
        refine px_iald C km_8 (j := 0) (by unfold vp_in; decide) (by decide) dX9_nights_137 ?_
        refine px_iconst C (v := (1 : Int32)) dX9_nights_138 (by decide) ?_
        refine px_iadd C dX9_nights_139 ?_
        obtain ⟨S19, eS19, h⟩ := el_lt h
        refine px_iast C km_8 (j := 0) (by unfold vp_in; decide) (by decide) dX9_nights_140 ?_
        refine px_nmS eS19 ?_
        refine px_iload C 0 dX9_nights_141 rfl ?_
        exact px_iretES C dX9_nights_143 h
      clear h
      have h := hr83_19
      clear hr83_19
      refine px_icmp_ge C (tgt := 99) dX9_nights_83 (by decide) (fun c83_12 => ?_) (fun c83_12 => ?_)
      · replace h := el_t c83_12 h
        refine px_iconst C (v := (0 : Int32)) dX9_nights_99 (by decide) ?_
        cases h
        exact px_sub [2, 3, 1, 0] rfl hj83_14
      · replace h := el_f c83_12 h
        refine px_aload_n C 2 dX9_nights_86 rfl rfl ?_
        refine px_getr C (j := 16) km_0 rfl rfl iw_X9_nights_X9 (by decide) lk_X9_nights_31 rfl dX9_nights_87 ?_
        refine px_iconst C (v := (1 : Int32)) dX9_nights_90 (by decide) ?_
        refine px_iald C km_8 (j := 1) (by unfold vp_in; decide) (by decide) dX9_nights_91 ?_
        refine px_iconst C (v := (1 : Int32)) dX9_nights_92 (by decide) ?_
        refine px_iadd C dX9_nights_93 ?_
        refine px_iconst C (v := (2 : Int32)) dX9_nights_94 (by decide) ?_
        refine px_idiv C dX9_nights_95 (by decide) ?_
        refine px_goto C (tgt := 100) dX9_nights_96 (by decide) ?_
        cases h
        exact px_sub [2, 3, 1, 0] rfl hj83_14
    · replace h := el_f c22_6 h
      refine px_bipush C (v := (-2 : Int32)) dX9_nights_25 (by decide) ?_
      exact px_iretES C dX9_nights_27 h
  · replace h := el_fn c13_3 h
    refine px_iconst C (v := (-1 : Int32)) dX9_nights_16 (by decide) ?_
    exact px_iretES C dX9_nights_17 h
theorem lk_X9_now_31 : Cond.fieldLink RX9 31 "RiverTollsModel" "s" "[I" ∈ wsX9_now := List.mem_of_getElem? (i := 2) rfl
theorem lk_X9_now_62 : Cond.fieldLink RX9 62 "RiverTollsModel" "thrown" "I" ∈ wsX9_now := List.mem_of_getElem? (i := 1) rfl
theorem lk_X9_now_120 : Cond.fieldLink RX9 120 "RiverTollsModel" "undoMany" "I" ∈ wsX9_now := List.mem_of_getElem? (i := 3) rfl
theorem iw_X9_now_X9 : ∀ w ∈ u_ws RX9 TX9 28, w ∈ wsX9_now := fun _ h9 => (List.mem_cons_of_mem _ (List.mem_append_right _ h9))
set_option maxHeartbeats 4000000 in
set_option maxRecDepth 100000 in
theorem c_X9_now (l : Launch) (tA tB : Nat) (ad : Nat → Nat) (S : St) (a1 : Int32) {rv : Int32} {S' : St} (h : m_X9_now S a1 = some (rv, S')) :
    XMet l yX9_now wsX9_now ({ frames := 2, cells := 0, slots := 0, locals := 47 }) KM .boolean tA tB [.ref (ad 0), .int a1] ad S (some (.int rv)) S' := by
  refine XMet.of (cc := cX9_now) (maxL := 2) (ret := (some .int)) (own := RX9) (lv := [(0, .ref (ad 0)), (1, .int a1)]) rfl (by decide) rfl (Nat.le_of_ble_eq_true rfl) rfl ?_
  intro p e s m args below meth c D A cI c1 F C
  rw [m_X9_now] at h
  refine px_aload_n C 0 dX9_now_0 rfl rfl ?_
  refine px_iconst C (v := (0 : Int32)) dX9_now_1 (by decide) ?_
  obtain ⟨S1, eS1, h⟩ := el_lt h
  refine px_puti C (ty := .int) (j := 0) km_0 rfl rfl iw_X9_now_X9 (by decide) lk_X9_now_62 rfl tyX9 tyX9_ok nmX9 rfl (by decide +kernel) rfl rfl dX9_now_2 ?_
  refine px_nmS eS1 ?_
  refine px_iload_n C 1 dX9_now_5 rfl rfl ?_
  refine px_iconst C (v := (0 : Int32)) dX9_now_6 (by decide) ?_
  refine px_bipush C (v := (6 : Int32)) dX9_now_7 (by decide) ?_
  obtain ⟨x3, hc9_1, h⟩ := el_b h
  refine px_callS1 C (c_X9_in l tA tB ad S1 a1 (0 : Int32) (6 : Int32) hc9_1) (va_cwS 3 C.2.2.2.2.1 gX9_now_X9_in rfl rfl rfl (by decide +kernel) ⟨Nat.le_of_ble_eq_true rfl, Nat.le_of_ble_eq_true rfl⟩) ⟨Nat.zero_le _, Nat.zero_le _⟩ rfl rfl (Nat.le_of_ble_eq_true rfl) dX9_now_9 ?_
  refine px_if_ne C (tgt := 17) dX9_now_12 (by decide) (fun c12_3 => ?_) (fun c12_3 => ?_)
  · replace h := el_t c12_3 h
    refine px_iload_n C 1 dX9_now_17 rfl rfl ?_
    refine px_iconst C (v := (3 : Int32)) dX9_now_18 (by decide) ?_
    refine px_icmp_ge C (tgt := 29) dX9_now_19 (by decide) (fun c19_4 => ?_) (fun c19_4 => ?_)
    · replace h := el_t c19_4 h
      refine px_iload_n C 1 dX9_now_29 rfl rfl ?_
      refine px_iconst C (v := (3 : Int32)) dX9_now_30 (by decide) ?_
      refine px_icmp_ne C (tgt := 59) dX9_now_31 (by decide) (fun c31_5 => ?_) (fun c31_5 => ?_)
      · replace h := el_t c31_5 h
        refine px_iload_n C 1 dX9_now_59 rfl rfl ?_
        refine px_iconst C (v := (4 : Int32)) dX9_now_60 (by decide) ?_
        refine px_icmp_ne C (tgt := 73) dX9_now_61 (by decide) (fun c61_6 => ?_) (fun c61_6 => ?_)
        · replace h := el_t c61_6 h
          refine px_iload_n C 1 dX9_now_73 rfl rfl ?_
          refine px_bipush C (v := (6 : Int32)) dX9_now_74 (by decide) ?_
          refine px_icmp_ne C (tgt := 86) dX9_now_76 (by decide) (fun c76_7 => ?_) (fun c76_7 => ?_)
          · replace h := el_t c76_7 h
            refine px_aload_n C 0 dX9_now_86 rfl rfl ?_
            obtain ⟨x10, hc87_8, h⟩ := el_b h
            refine px_callV1 C (c_X9_isSea l tA tB ad S1 hc87_8) (cwV 0 C.2.2.2.2.1 gX9_now_X9_isSea rfl rfl rfl (by decide +kernel) ⟨Nat.le_of_ble_eq_true rfl, Nat.le_of_ble_eq_true rfl⟩) ⟨Nat.zero_le _, Nat.zero_le _⟩ km_0 rfl rfl rfl (Nat.le_of_ble_eq_true rfl) dX9_now_87 ?_
            refine px_if_eq C (tgt := 98) dX9_now_90 (by decide) (fun c90_10 => ?_) (fun c90_10 => ?_)
            · replace h := el_t c90_10 h
              refine px_aload_n C 0 dX9_now_98 rfl rfl ?_
              refine px_aload_n C 0 dX9_now_99 rfl rfl ?_
              refine px_getr C (j := 16) km_0 rfl rfl iw_X9_now_X9 (by decide) lk_X9_now_31 rfl dX9_now_100 ?_
              refine px_aload_n C 0 dX9_now_103 rfl rfl ?_
              refine px_getr C (j := 16) km_0 rfl rfl iw_X9_now_X9 (by decide) lk_X9_now_31 rfl dX9_now_104 ?_
              refine px_iconst C (v := (0 : Int32)) dX9_now_107 (by decide) ?_
              refine px_iald C km_8 (j := 0) (by unfold vp_in; decide) (by decide) dX9_now_108 ?_
              refine px_aload_n C 0 dX9_now_109 rfl rfl ?_
              refine px_getr C (j := 16) km_0 rfl rfl iw_X9_now_X9 (by decide) lk_X9_now_31 rfl dX9_now_110 ?_
              refine px_iconst C (v := (1 : Int32)) dX9_now_113 (by decide) ?_
              refine px_iald C km_8 (j := 1) (by unfold vp_in; decide) (by decide) dX9_now_114 ?_
              refine px_aload_n C 0 dX9_now_115 rfl rfl ?_
              refine px_getr C (j := 16) km_0 rfl rfl iw_X9_now_X9 (by decide) lk_X9_now_31 rfl dX9_now_116 ?_
              refine px_iconst C (v := (3 : Int32)) dX9_now_119 (by decide) ?_
              refine px_iald C km_8 (j := 3) (by unfold vp_in; decide) (by decide) dX9_now_120 ?_
              obtain ⟨x13, hc121_11, h⟩ := el_b h
              refine px_callV1 C (c_X9_takenBy l tA tB ad S1 8 (S1.1 8 0) (S1.1 8 1) (S1.1 8 3) km_8 hc121_11) (cwV 4 C.2.2.2.2.1 gX9_now_X9_takenBy rfl rfl rfl (by decide +kernel) ⟨Nat.le_of_ble_eq_true rfl, Nat.le_of_ble_eq_true rfl⟩) ⟨Nat.zero_le _, Nat.zero_le _⟩ km_0 rfl rfl rfl (Nat.le_of_ble_eq_true rfl) dX9_now_121 ?_
              exact px_iretES C dX9_now_124 h
            · replace h := el_f c90_10 h
              refine px_bipush C (v := (-9 : Int32)) dX9_now_93 (by decide) ?_
              refine px_goto C (tgt := 124) dX9_now_95 (by decide) ?_
              exact px_iretES C dX9_now_124 h
          · replace h := el_fn c76_7 h
            refine px_aload_n C 0 dX9_now_79 rfl rfl ?_
            refine px_geti C (j := 21) km_0 rfl rfl iw_X9_now_X9 (by decide) lk_X9_now_120 rfl dX9_now_80 ?_
            refine px_goto C (tgt := 124) dX9_now_83 (by decide) ?_
            exact px_iretES C dX9_now_124 h
        · replace h := el_fn c61_6 h
          refine px_aload_n C 0 dX9_now_64 rfl rfl ?_
          refine px_getr C (j := 16) km_0 rfl rfl iw_X9_now_X9 (by decide) lk_X9_now_31 rfl dX9_now_65 ?_
          refine px_iconst C (v := (4 : Int32)) dX9_now_68 (by decide) ?_
          refine px_iald C km_8 (j := 4) (by unfold vp_in; decide) (by decide) dX9_now_69 ?_
          refine px_goto C (tgt := 124) dX9_now_70 (by decide) ?_
          exact px_iretES C dX9_now_124 h
      · replace h := el_fn c31_5 h
        refine px_aload_n C 0 dX9_now_34 rfl rfl ?_
        refine px_getr C (j := 16) km_0 rfl rfl iw_X9_now_X9 (by decide) lk_X9_now_31 rfl dX9_now_35 ?_
        refine px_iconst C (v := (3 : Int32)) dX9_now_38 (by decide) ?_
        refine px_iald C km_8 (j := 3) (by unfold vp_in; decide) (by decide) dX9_now_39 ?_
        refine px_if_ne C (tgt := 48) dX9_now_40 (by decide) (fun c40_13 => ?_) (fun c40_13 => ?_)
        · replace h := el_t c40_13 h
          refine px_aload_n C 0 dX9_now_48 rfl rfl ?_
          refine px_getr C (j := 16) km_0 rfl rfl iw_X9_now_X9 (by decide) lk_X9_now_31 rfl dX9_now_49 ?_
          refine px_iconst C (v := (3 : Int32)) dX9_now_52 (by decide) ?_
          refine px_iald C km_8 (j := 3) (by unfold vp_in; decide) (by decide) dX9_now_53 ?_
          refine px_iconst C (v := (1 : Int32)) dX9_now_54 (by decide) ?_
          refine px_isub C dX9_now_55 ?_
          refine px_goto C (tgt := 124) dX9_now_56 (by decide) ?_
          exact px_iretES C dX9_now_124 h
        · replace h := el_fn c40_13 h
          refine px_bipush C (v := (-9 : Int32)) dX9_now_43 (by decide) ?_
          refine px_goto C (tgt := 124) dX9_now_45 (by decide) ?_
          exact px_iretES C dX9_now_124 h
    · replace h := el_f c19_4 h
      refine px_aload_n C 0 dX9_now_22 rfl rfl ?_
      refine px_getr C (j := 16) km_0 rfl rfl iw_X9_now_X9 (by decide) lk_X9_now_31 rfl dX9_now_23 ?_
      refine px_iload_n C 1 dX9_now_26 rfl rfl ?_
      obtain ⟨hix15, x15, ex15, h⟩ := el_ald h
      refine px_iald C km_8 hix15 rfl dX9_now_27 ?_
      refine px_nm ex15 ?_
      exact px_iretES C dX9_now_28 h
  · replace h := el_fn c12_3 h
    refine px_iconst C (v := (-1 : Int32)) dX9_now_15 (by decide) ?_
    exact px_iretES C dX9_now_16 h
theorem lk_X9_takesToken_80 : Cond.fieldLink RX9 80 "RiverTollsModel" "place" "I" ∈ wsX9_takesToken := List.mem_of_getElem? (i := 1) rfl
theorem lk_X9_takesToken_86 : Cond.fieldLink RX9 86 "RiverTollsModel" "value" "I" ∈ wsX9_takesToken := List.mem_of_getElem? (i := 3) rfl
theorem lk_X9_takesToken_89 : Cond.fieldLink RX9 89 "RiverTollsModel" "fault" "I" ∈ wsX9_takesToken := List.mem_of_getElem? (i := 2) rfl
theorem iw_X9_takesToken_X9 : ∀ w ∈ u_ws RX9 TX9 28, w ∈ wsX9_takesToken := fun _ h9 => (List.mem_cons_of_mem _ (List.mem_append_right _ h9))
set_option maxHeartbeats 4000000 in
set_option maxRecDepth 100000 in
theorem c_X9_takesToken (l : Launch) (tA tB : Nat) (ad : Nat → Nat) (fu : Nat) (S : St) (a1 : Int32) {rv : Int32} {S' : St} (h : m_X9_takesToken fu S a1 = some (rv, S')) :
    XMet l yX9_takesToken wsX9_takesToken ({ frames := 2, cells := 0, slots := 0, locals := 43 }) KM .boolean tA tB [.ref (ad 0), .int a1] ad S (some (.int rv)) S' := by
  refine XMet.of (cc := cX9_takesToken) (maxL := 3) (ret := (some .int)) (own := RX9) (lv := [(0, .ref (ad 0)), (1, .int a1)]) rfl (by decide) rfl (Nat.le_of_ble_eq_true rfl) rfl ?_
  intro p e s m args below meth c D A cI c1 F C
  rw [m_X9_takesToken] at h
  refine px_aload_n C 0 dX9_takesToken_0 rfl rfl ?_
  obtain ⟨x2, hc1_0, h⟩ := el_b h
  refine px_callV1 C (c_X9_isWell l tA tB ad S hc1_0) (cwV 0 C.2.2.2.2.1 gX9_takesToken_X9_isWell rfl rfl rfl (by decide +kernel) ⟨Nat.le_of_ble_eq_true rfl, Nat.le_of_ble_eq_true rfl⟩) ⟨Nat.zero_le _, Nat.zero_le _⟩ km_0 rfl rfl rfl (Nat.le_of_ble_eq_true rfl) dX9_takesToken_1 ?_
  refine px_if_ne C (tgt := 9) dX9_takesToken_4 (by decide) (fun c4_2 => ?_) (fun c4_2 => ?_)
  · replace h := el_t c4_2 h
    refine px_iload_n C 1 dX9_takesToken_9 rfl rfl ?_
    refine px_if_ne C (tgt := 23) dX9_takesToken_10 (by decide) (fun c10_3 => ?_) (fun c10_3 => ?_)
    · replace h := el_t c10_3 h
      refine px_aload_n C 0 dX9_takesToken_23 rfl rfl ?_
      refine px_geti C (j := 7) km_0 rfl rfl iw_X9_takesToken_X9 (by decide) lk_X9_takesToken_86 rfl dX9_takesToken_24 ?_
      refine px_istore_n C [(2, .int (S.1 0 7)), (0, .ref (ad 0)), (1, .int a1)] dX9_takesToken_27 rfl (by decide) rfl ?_
      refine px_aload_n C 1 dX9_takesToken_28 rfl rfl ?_
      obtain ⟨S6, hc29_4, h⟩ := el_b h
      refine px_callV0 C (c_X9_advances l tA tB ad fu S hc29_4) (cwV 0 C.2.2.2.2.1 gX9_takesToken_X9_advances rfl rfl rfl (by decide +kernel) ⟨Nat.le_of_ble_eq_true rfl, Nat.le_of_ble_eq_true rfl⟩) ⟨Nat.zero_le _, Nat.zero_le _⟩ km_0 rfl rfl rfl (Nat.le_of_ble_eq_true rfl) dX9_takesToken_29 ?_
      refine px_iload_n C 0 dX9_takesToken_32 rfl rfl ?_
      exact px_iretES C dX9_takesToken_33 h
    · replace h := el_fn c10_3 h
      refine px_aload_n C 0 dX9_takesToken_13 rfl rfl ?_
      refine px_aload_n C 0 dX9_takesToken_14 rfl rfl ?_
      refine px_geti C (j := 6) km_0 rfl rfl iw_X9_takesToken_X9 (by decide) lk_X9_takesToken_80 rfl dX9_takesToken_15 ?_
      obtain ⟨S7, eS7, h⟩ := el_lt h
      refine px_puti C (ty := .int) (j := 8) km_0 rfl rfl iw_X9_takesToken_X9 (by decide) lk_X9_takesToken_89 rfl tyX9 tyX9_ok nmX9 rfl (by decide +kernel) rfl rfl dX9_takesToken_18 ?_
      refine px_nmS eS7 ?_
      refine px_iconst C (v := (0 : Int32)) dX9_takesToken_21 (by decide) ?_
      exact px_iretES C dX9_takesToken_22 h
  · replace h := el_fn c4_2 h
    refine px_iconst C (v := (0 : Int32)) dX9_takesToken_7 (by decide) ?_
    exact px_iretES C dX9_takesToken_8 h
theorem lk_X9_number_83 : Cond.fieldLink RX9 83 "RiverTollsModel" "token" "I" ∈ wsX9_number := List.mem_of_getElem? (i := 1) rfl
theorem lk_X9_number_86 : Cond.fieldLink RX9 86 "RiverTollsModel" "value" "I" ∈ wsX9_number := List.mem_of_getElem? (i := 2) rfl
theorem iw_X9_number_X9 : ∀ w ∈ u_ws RX9 TX9 28, w ∈ wsX9_number := fun _ h9 => (List.mem_cons_of_mem _ (List.mem_append_right _ h9))
set_option maxHeartbeats 4000000 in
set_option maxRecDepth 100000 in
theorem c_X9_number (l : Launch) (tA tB : Nat) (ad : Nat → Nat) (fu : Nat) (S : St) (a1 : Int32) (a2 : Int32) {rv : Int32} {S' : St} (h : m_X9_number fu S a1 a2 = some (rv, S')) :
    XMet l yX9_number wsX9_number ({ frames := 3, cells := 0, slots := 0, locals := 65 }) KM .boolean tA tB [.ref (ad 0), .int a1, .int a2] ad S (some (.int rv)) S' := by
  refine XMet.of (cc := cX9_number) (maxL := 3) (ret := (some .int)) (own := RX9) (lv := [(0, .ref (ad 0)), (1, .int a1), (2, .int a2)]) rfl (by decide) rfl (Nat.le_of_ble_eq_true rfl) rfl ?_
  intro p e s m args below meth c D A cI c1 F C
  rw [m_X9_number] at h
  refine px_aload_n C 0 dX9_number_0 rfl rfl ?_
  refine px_aload_n C 0 dX9_number_1 rfl rfl ?_
  refine px_geti C (j := 5) km_0 rfl rfl iw_X9_number_X9 (by decide) lk_X9_number_83 rfl dX9_number_2 ?_
  refine px_iconst C (v := (2 : Int32)) dX9_number_5 (by decide) ?_
  obtain ⟨x2, hr6_9, h⟩ := el_b h
  have hj6_2 : PW p l e { frames := 3, cells := 0, slots := 0, locals := 65 } s m args below meth c (MQ below (QX KM A D cI c1 F ad (some (.int rv)) S') args s 0 0 A) D A cI c1 F KM ad 3 0 0 S [(0, .ref (ad 0)), (1, .int a1), (2, .int a2)] 26 [.int x2, .ref (ad 0)] := by
    obtain ⟨x5, S6, hc26_3, h⟩ := el_b2 h
    refine px_callV1 C (c_X9_takesToken l tA tB ad fu S x2 hc26_3) (cwV 1 C.2.2.2.2.1 gX9_number_X9_takesToken rfl rfl rfl (by decide +kernel) ⟨Nat.le_of_ble_eq_true rfl, Nat.le_of_ble_eq_true rfl⟩) ⟨Nat.zero_le _, Nat.zero_le _⟩ km_0 rfl rfl rfl (Nat.le_of_ble_eq_true rfl) dX9_number_26 ?_
    exact px_iretES C dX9_number_29 h
  clear h
  have h := hr6_9
  clear hr6_9
  refine px_icmp_ne C (tgt := 25) dX9_number_6 (by decide) (fun c6_0 => ?_) (fun c6_0 => ?_)
  · replace h := el_t c6_0 h
    refine px_iconst C (v := (0 : Int32)) dX9_number_25 (by decide) ?_
    cases h
    exact hj6_2
  · replace h := el_fn c6_0 h
    refine px_aload_n C 0 dX9_number_9 rfl rfl ?_
    refine px_geti C (j := 7) km_0 rfl rfl iw_X9_number_X9 (by decide) lk_X9_number_86 rfl dX9_number_10 ?_
    refine px_iload_n C 1 dX9_number_13 rfl rfl ?_
    refine px_iload_n C 2 dX9_number_14 rfl rfl ?_
    obtain ⟨x8, hc15_6, h⟩ := el_b h
    refine px_callS1 C (c_X9_in l tA tB ad S (S.1 0 7) a1 a2 hc15_6) (va_cwS 3 C.2.2.2.2.1 gX9_number_X9_in rfl rfl rfl (by decide +kernel) ⟨Nat.le_of_ble_eq_true rfl, Nat.le_of_ble_eq_true rfl⟩) ⟨Nat.zero_le _, Nat.zero_le _⟩ rfl rfl (Nat.le_of_ble_eq_true rfl) dX9_number_15 ?_
    refine px_if_eq C (tgt := 25) dX9_number_18 (by decide) (fun c18_8 => ?_) (fun c18_8 => ?_)
    · replace h := el_t c18_8 h
      refine px_iconst C (v := (0 : Int32)) dX9_number_25 (by decide) ?_
      cases h
      exact hj6_2
    · replace h := el_f c18_8 h
      refine px_iconst C (v := (1 : Int32)) dX9_number_21 (by decide) ?_
      refine px_goto C (tgt := 26) dX9_number_22 (by decide) ?_
      cases h
      exact hj6_2
theorem lk_X9_odds_13 : Cond.fieldLink RX9 13 "RiverTollsModel" "many" "[I" ∈ wsX9_odds := List.mem_of_getElem? (i := 2) rfl
theorem lk_X9_odds_25 : Cond.fieldLink RX9 25 "RiverTollsModel" "watch" "[I" ∈ wsX9_odds := List.mem_of_getElem? (i := 4) rfl
theorem lk_X9_odds_31 : Cond.fieldLink RX9 31 "RiverTollsModel" "s" "[I" ∈ wsX9_odds := List.mem_of_getElem? (i := 3) rfl
theorem lk_X9_odds_62 : Cond.fieldLink RX9 62 "RiverTollsModel" "thrown" "I" ∈ wsX9_odds := List.mem_of_getElem? (i := 1) rfl
theorem iw_X9_odds_X9 : ∀ w ∈ u_ws RX9 TX9 28, w ∈ wsX9_odds := fun _ h9 => (List.mem_cons_of_mem _ (List.mem_append_right _ h9))
set_option maxHeartbeats 4000000 in
set_option maxRecDepth 100000 in
theorem c_X9_odds (l : Launch) (tA tB : Nat) (ad : Nat → Nat) (fu : Nat) (S : St) (a1 : Int32) (a2 : Int32) {rv : Int32} {S' : St} (h : m_X9_odds fu S a1 a2 = some (rv, S')) :
    XMet l yX9_odds wsX9_odds ({ frames := 1, cells := 0, slots := 0, locals := 24 }) KM .boolean tA tB [.ref (ad 0), .int a1, .int a2] ad S (some (.int rv)) S' := by
  refine XMet.of (cc := cX9_odds) (maxL := 6) (ret := (some .int)) (own := RX9) (lv := [(0, .ref (ad 0)), (1, .int a1), (2, .int a2)]) rfl (by decide) rfl (Nat.le_of_ble_eq_true rfl) rfl ?_
  intro p e s m args below meth c D A cI c1 F C
  rw [m_X9_odds] at h
  refine px_aload_n C 0 dX9_odds_0 rfl rfl ?_
  refine px_iconst C (v := (0 : Int32)) dX9_odds_1 (by decide) ?_
  obtain ⟨S1, eS1, h⟩ := el_lt h
  refine px_puti C (ty := .int) (j := 0) km_0 rfl rfl iw_X9_odds_X9 (by decide) lk_X9_odds_62 rfl tyX9 tyX9_ok nmX9 rfl (by decide +kernel) rfl rfl dX9_odds_2 ?_
  refine px_nmS eS1 ?_
  refine px_iload_n C 1 dX9_odds_5 rfl rfl ?_
  refine px_iconst C (v := (0 : Int32)) dX9_odds_6 (by decide) ?_
  refine px_iconst C (v := (1 : Int32)) dX9_odds_7 (by decide) ?_
  refine px_aload_n C 0 dX9_odds_8 rfl rfl ?_
  refine px_getr C (j := 9) km_0 rfl rfl iw_X9_odds_X9 (by decide) lk_X9_odds_13 rfl dX9_odds_9 ?_
  refine px_iconst C (v := (0 : Int32)) dX9_odds_12 (by decide) ?_
  refine px_iald C km_2 (j := 0) (by unfold vp_in; decide) (by decide) dX9_odds_13 ?_
  refine px_ishl C dX9_odds_14 ?_
  refine px_iconst C (v := (1 : Int32)) dX9_odds_15 (by decide) ?_
  refine px_isub C dX9_odds_16 ?_
  obtain ⟨x3, hc17_1, h⟩ := el_b h
  refine px_callS1 C (c_X9_in l tA tB ad S1 a1 (0 : Int32) (((1 : Int32) <<< ((S1.1 2 0) &&& 31)) - (1 : Int32)) hc17_1) (va_cwS 3 C.2.2.2.2.1 gX9_odds_X9_in rfl rfl rfl (by decide +kernel) ⟨Nat.le_of_ble_eq_true rfl, Nat.le_of_ble_eq_true rfl⟩) ⟨Nat.zero_le _, Nat.zero_le _⟩ rfl rfl (Nat.le_of_ble_eq_true rfl) dX9_odds_17 ?_
  refine px_if_eq C (tgt := 32) dX9_odds_20 (by decide) (fun c20_3 => ?_) (fun c20_3 => ?_)
  · replace h := el_t c20_3 h
    refine px_iconst C (v := (-1 : Int32)) dX9_odds_32 (by decide) ?_
    exact px_iretES C dX9_odds_33 h
  · replace h := el_f c20_3 h
    refine px_iload_n C 2 dX9_odds_23 rfl rfl ?_
    refine px_iconst C (v := (0 : Int32)) dX9_odds_24 (by decide) ?_
    refine px_iconst C (v := (1 : Int32)) dX9_odds_25 (by decide) ?_
    obtain ⟨x6, hc26_4, h⟩ := el_b h
    refine px_callS1 C (c_X9_in l tA tB ad S1 a2 (0 : Int32) (1 : Int32) hc26_4) (va_cwS 3 C.2.2.2.2.1 gX9_odds_X9_in rfl rfl rfl (by decide +kernel) ⟨Nat.le_of_ble_eq_true rfl, Nat.le_of_ble_eq_true rfl⟩) ⟨Nat.zero_le _, Nat.zero_le _⟩ rfl rfl (Nat.le_of_ble_eq_true rfl) dX9_odds_26 ?_
    refine px_if_ne C (tgt := 34) dX9_odds_29 (by decide) (fun c29_6 => ?_) (fun c29_6 => ?_)
    · replace h := el_t c29_6 h
      refine px_iconst C (v := (1 : Int32)) dX9_odds_34 (by decide) ?_
      refine px_istore_n C [(3, .int (1 : Int32)), (0, .ref (ad 0)), (1, .int a1), (2, .int a2)] dX9_odds_35 rfl (by decide) rfl ?_
      refine px_iconst C (v := (1 : Int32)) dX9_odds_36 (by decide) ?_
      refine px_istore C [(4, .int (1 : Int32)), (3, .int (1 : Int32)), (0, .ref (ad 0)), (1, .int a1), (2, .int a2)] dX9_odds_37 (by decide) rfl ?_
      refine px_aload_n C 2 dX9_odds_39 rfl rfl ?_
      refine px_getr C (j := 16) km_0 rfl rfl iw_X9_odds_X9 (by decide) lk_X9_odds_31 rfl dX9_odds_40 ?_
      refine px_iconst C (v := (0 : Int32)) dX9_odds_43 (by decide) ?_
      refine px_iald C km_8 (j := 0) (by unfold vp_in; decide) (by decide) dX9_odds_44 ?_
      refine px_istore C [(5, .int (S1.1 8 0)), (4, .int (1 : Int32)), (3, .int (1 : Int32)), (0, .ref (ad 0)), (1, .int a1), (2, .int a2)] dX9_odds_45 (by decide) rfl ?_
      have hx0 : ∀  (x11 : Int32) (x12 : Int32) (x13 : Int32), m_X9_odds_r0 fu a2 S1 x11 x12 x13 = some (rv, S') → PW p l e { frames := 1, cells := 0, slots := 0, locals := 24 } s m args below meth c (MQ below (QX KM A D cI c1 F ad (some (.int rv)) S') args s 0 0 A) D A cI c1 F KM ad 6 0 0 S1 [(0, .ref (ad 0)), (1, .int a1), (2, .int a2), (3, .int x11), (4, .int x12), (5, .int x13)] 112 [] := by
        intro x11 x12 x13 h
        rw [m_X9_odds_r0] at h
        refine px_iload_n C 3 dX9_odds_112 rfl rfl ?_
        refine px_iload C 4 dX9_odds_113 rfl ?_
        obtain ⟨x15, hc115_13, h⟩ := el_b h
        refine px_callS1 C (c_X9_gcd l tA tB ad fu S1 x11 x12 hc115_13) (va_cwS 2 C.2.2.2.2.1 gX9_odds_X9_gcd rfl rfl rfl (by decide +kernel) ⟨Nat.le_of_ble_eq_true rfl, Nat.le_of_ble_eq_true rfl⟩) ⟨Nat.zero_le _, Nat.zero_le _⟩ rfl rfl (Nat.le_of_ble_eq_true rfl) dX9_odds_115 ?_
        refine px_istore C [(5, .int x15), (0, .ref (ad 0)), (1, .int a1), (2, .int a2), (3, .int x11), (4, .int x12)] dX9_odds_118 (by decide) rfl ?_
        refine px_iload_n C 3 dX9_odds_120 rfl rfl ?_
        refine px_if_ne C (tgt := 131) dX9_odds_121 (by decide) (fun c121_15 => ?_) (fun c121_15 => ?_)
        · replace h := el_t c121_15 h
          refine px_iload C 5 dX9_odds_131 rfl ?_
          refine px_iload C 0 dX9_odds_133 rfl ?_
          obtain ⟨hz135, h⟩ := el_nz h
          refine px_idiv C dX9_odds_135 hz135 ?_
          exact px_iretES C dX9_odds_136 h
        · replace h := el_fn c121_15 h
          refine px_iload_n C 4 dX9_odds_124 rfl rfl ?_
          refine px_iload C 0 dX9_odds_125 rfl ?_
          obtain ⟨hz127, h⟩ := el_nz h
          refine px_idiv C dX9_odds_127 hz127 ?_
          refine px_goto C (tgt := 136) dX9_odds_128 (by decide) ?_
          exact px_iretES C dX9_odds_136 h
      have hl0 : ∀ (n_0 : Nat) (x8 : Int32) (x9 : Int32) (x10 : Int32), m_X9_odds_L0 a1 S1 (m_X9_odds_r0 fu a2 S1) n_0 x8 x9 x10 = some (rv, S') → PW p l e { frames := 1, cells := 0, slots := 0, locals := 24 } s m args below meth c (MQ below (QX KM A D cI c1 F ad (some (.int rv)) S') args s 0 0 A) D A cI c1 F KM ad 6 0 0 S1 [(0, .ref (ad 0)), (1, .int a1), (2, .int a2), (3, .int x8), (4, .int x9), (5, .int x10)] 47 [] := by
        intro n_0
        induction n_0 with
        | zero =>
          intro x8 x9 x10 h
          rw [m_X9_odds_L0_z] at h
          cases h
        | succ n_0 ih0 =>
          intro x8 x9 x10 h
          rw [m_X9_odds_L0_s] at h
          refine px_iload C 5 dX9_odds_47 rfl ?_
          refine px_aload_n C 0 dX9_odds_49 rfl rfl ?_
          refine px_getr C (j := 9) km_0 rfl rfl iw_X9_odds_X9 (by decide) lk_X9_odds_13 rfl dX9_odds_50 ?_
          refine px_iconst C (v := (0 : Int32)) dX9_odds_53 (by decide) ?_
          refine px_iald C km_2 (j := 0) (by unfold vp_in; decide) (by decide) dX9_odds_54 ?_
          refine px_icmp_ge C (tgt := 112) dX9_odds_55 (by decide) (fun c55_16 => ?_) (fun c55_16 => ?_)
          · replace h := el_t c55_16 h
            exact (hx0 _ _ _ h)
          · replace h := el_f c55_16 h
            refine px_iload_n C 3 dX9_odds_58 rfl rfl ?_
            refine px_iload_n C 1 dX9_odds_59 rfl rfl ?_
            refine px_iload C 5 dX9_odds_60 rfl ?_
            refine px_ishr C dX9_odds_62 ?_
            refine px_iconst C (v := (1 : Int32)) dX9_odds_63 (by decide) ?_
            refine px_iand C dX9_odds_64 ?_
            refine px_iconst C (v := (1 : Int32)) dX9_odds_65 (by decide) ?_
            obtain ⟨x19, hr66_25, h⟩ := el_b h
            have hj66_19 : PW p l e { frames := 1, cells := 0, slots := 0, locals := 24 } s m args below meth c (MQ below (QX KM A D cI c1 F ad (some (.int rv)) S') args s 0 0 A) D A cI c1 F KM ad 6 0 0 S1 [(0, .ref (ad 0)), (1, .int a1), (2, .int a2), (3, .int x8), (4, .int x9), (5, .int x10)] 83 [.int x19, .int x8] := by
              refine px_imul C dX9_odds_83 ?_
              refine px_istore_n C [(3, .int (x8 * x19)), (0, .ref (ad 0)), (1, .int a1), (2, .int a2), (4, .int x9), (5, .int x10)] dX9_odds_84 rfl (by decide) rfl ?_
              refine px_iload C 4 dX9_odds_85 rfl ?_
              refine px_iload_n C 2 dX9_odds_87 rfl rfl ?_
              refine px_iload C 5 dX9_odds_88 rfl ?_
              refine px_ishr C dX9_odds_90 ?_
              refine px_iconst C (v := (1 : Int32)) dX9_odds_91 (by decide) ?_
              refine px_iand C dX9_odds_92 ?_
              refine px_iconst C (v := (1 : Int32)) dX9_odds_93 (by decide) ?_
              obtain ⟨x22, hr94_23, h⟩ := el_b h
              have hj94_22 : PW p l e { frames := 1, cells := 0, slots := 0, locals := 24 } s m args below meth c (MQ below (QX KM A D cI c1 F ad (some (.int rv)) S') args s 0 0 A) D A cI c1 F KM ad 6 0 0 S1 [(0, .ref (ad 0)), (1, .int a1), (2, .int a2), (3, .int (x8 * x19)), (4, .int x9), (5, .int x10)] 103 [.int x22, .int x9] := by
                refine px_imul C dX9_odds_103 ?_
                refine px_istore C [(4, .int (x9 * x22)), (0, .ref (ad 0)), (1, .int a1), (2, .int a2), (3, .int (x8 * x19)), (5, .int x10)] dX9_odds_104 (by decide) rfl ?_
                refine px_iinc C 5 [(5, .int (x10 + (1 : Int32))), (4, .int (x9 * x22)), (0, .ref (ad 0)), (1, .int a1), (2, .int a2), (3, .int (x8 * x19))] dX9_odds_106 rfl rfl (by decide) rfl ?_
                refine px_goto C (tgt := 47) dX9_odds_109 (by decide) ?_
                exact px_sub [2, 3, 4, 5, 1, 0] rfl (ih0 _ _ _ h)
              clear h
              have h := hr94_23
              clear hr94_23
              refine px_icmp_ne C (tgt := 102) dX9_odds_94 (by decide) (fun c94_20 => ?_) (fun c94_20 => ?_)
              · replace h := el_t c94_20 h
                refine px_iconst C (v := (1 : Int32)) dX9_odds_102 (by decide) ?_
                cases h
                exact px_sub [1, 2, 3, 0, 4, 5] rfl hj94_22
              · replace h := el_fn c94_20 h
                refine px_bipush C (v := (10 : Int32)) dX9_odds_97 (by decide) ?_
                refine px_goto C (tgt := 103) dX9_odds_99 (by decide) ?_
                cases h
                exact px_sub [1, 2, 3, 0, 4, 5] rfl hj94_22
            clear h
            have h := hr66_25
            clear hr66_25
            refine px_icmp_ne C (tgt := 82) dX9_odds_66 (by decide) (fun c66_17 => ?_) (fun c66_17 => ?_)
            · replace h := el_t c66_17 h
              refine px_iconst C (v := (1 : Int32)) dX9_odds_82 (by decide) ?_
              cases h
              exact hj66_19
            · replace h := el_fn c66_17 h
              refine px_bipush C (v := (10 : Int32)) dX9_odds_69 (by decide) ?_
              refine px_aload_n C 0 dX9_odds_71 rfl rfl ?_
              refine px_getr C (j := 13) km_0 rfl rfl iw_X9_odds_X9 (by decide) lk_X9_odds_25 rfl dX9_odds_72 ?_
              refine px_iload C 5 dX9_odds_75 rfl ?_
              obtain ⟨hix25, x25, ex25, h⟩ := el_ald h
              refine px_iald C km_6 hix25 rfl dX9_odds_77 ?_
              refine px_nm ex25 ?_
              refine px_isub C dX9_odds_78 ?_
              refine px_goto C (tgt := 83) dX9_odds_79 (by decide) ?_
              cases h
              exact hj66_19
      exact px_sub [3, 4, 5, 2, 1, 0] rfl (hl0 _ _ _ _ h)
    · replace h := el_fn c29_6 h
      refine px_iconst C (v := (-1 : Int32)) dX9_odds_32 (by decide) ?_
      exact px_iretES C dX9_odds_33 h
theorem lk_X9_one_31 : Cond.fieldLink RX9 31 "RiverTollsModel" "s" "[I" ∈ wsX9_one := List.mem_of_getElem? (i := 2) rfl
theorem lk_X9_one_62 : Cond.fieldLink RX9 62 "RiverTollsModel" "thrown" "I" ∈ wsX9_one := List.mem_of_getElem? (i := 1) rfl
theorem iw_X9_one_X9 : ∀ w ∈ u_ws RX9 TX9 28, w ∈ wsX9_one := fun _ h9 => (List.mem_cons_of_mem _ (List.mem_append_right _ h9))
set_option maxHeartbeats 4000000 in
set_option maxRecDepth 100000 in
theorem c_X9_one (l : Launch) (tA tB : Nat) (ad : Nat → Nat) (fu : Nat) (S : St) {rv : Int32} {S' : St} (h : m_X9_one fu S = some (rv, S')) :
    XMet l yX9_one wsX9_one ({ frames := 4, cells := 0, slots := 0, locals := 98 }) KM .boolean tA tB [.ref (ad 0)] ad S (some (.int rv)) S' := by
  refine XMet.of (cc := cX9_one) (maxL := 1) (ret := (some .int)) (own := RX9) (lv := [(0, .ref (ad 0))]) rfl (by decide) rfl (Nat.le_of_ble_eq_true rfl) rfl ?_
  intro p e s m args below meth c D A cI c1 F C
  rw [m_X9_one] at h
  refine px_aload_n C 0 dX9_one_0 rfl rfl ?_
  refine px_iconst C (v := (0 : Int32)) dX9_one_1 (by decide) ?_
  obtain ⟨S1, eS1, h⟩ := el_lt h
  refine px_puti C (ty := .int) (j := 0) km_0 rfl rfl iw_X9_one_X9 (by decide) lk_X9_one_62 rfl tyX9 tyX9_ok nmX9 rfl (by decide +kernel) rfl rfl dX9_one_2 ?_
  refine px_nmS eS1 ?_
  refine px_aload_n C 0 dX9_one_5 rfl rfl ?_
  refine px_getr C (j := 16) km_0 rfl rfl iw_X9_one_X9 (by decide) lk_X9_one_31 rfl dX9_one_6 ?_
  refine px_iconst C (v := (1 : Int32)) dX9_one_9 (by decide) ?_
  refine px_iald C km_8 (j := 1) (by unfold vp_in; decide) (by decide) dX9_one_10 ?_
  refine px_if_ne C (tgt := 19) dX9_one_11 (by decide) (fun c11_1 => ?_) (fun c11_1 => ?_)
  · replace h := el_t c11_1 h
    refine px_aload_n C 0 dX9_one_19 rfl rfl ?_
    refine px_aload_n C 0 dX9_one_20 rfl rfl ?_
    refine px_getr C (j := 16) km_0 rfl rfl iw_X9_one_X9 (by decide) lk_X9_one_31 rfl dX9_one_21 ?_
    refine px_aload_n C 0 dX9_one_24 rfl rfl ?_
    refine px_getr C (j := 16) km_0 rfl rfl iw_X9_one_X9 (by decide) lk_X9_one_31 rfl dX9_one_25 ?_
    refine px_iconst C (v := (1 : Int32)) dX9_one_28 (by decide) ?_
    refine px_iald C km_8 (j := 1) (by unfold vp_in; decide) (by decide) dX9_one_29 ?_
    obtain ⟨x4, S5, hc30_2, h⟩ := el_b2 h
    refine px_callV1 C (c_X9_finds l tA tB ad fu S1 8 (S1.1 8 1) km_8 hc30_2) (cwV 2 C.2.2.2.2.1 gX9_one_X9_finds rfl rfl rfl (by decide +kernel) ⟨Nat.le_of_ble_eq_true rfl, Nat.le_of_ble_eq_true rfl⟩) ⟨Nat.zero_le _, Nat.zero_le _⟩ km_0 rfl rfl rfl (Nat.le_of_ble_eq_true rfl) dX9_one_30 ?_
    refine px_aload_n C 0 dX9_one_33 rfl rfl ?_
    refine px_getr C (j := 16) km_0 rfl rfl iw_X9_one_X9 (by decide) lk_X9_one_31 rfl dX9_one_34 ?_
    refine px_iconst C (v := (1 : Int32)) dX9_one_37 (by decide) ?_
    refine px_iald C km_8 (j := 1) (by unfold vp_in; decide) (by decide) dX9_one_38 ?_
    refine px_iadd C dX9_one_39 ?_
    refine px_iconst C (v := (1 : Int32)) dX9_one_40 (by decide) ?_
    refine px_isub C dX9_one_41 ?_
    refine px_aload_n C 0 dX9_one_42 rfl rfl ?_
    refine px_getr C (j := 16) km_0 rfl rfl iw_X9_one_X9 (by decide) lk_X9_one_31 rfl dX9_one_43 ?_
    refine px_iconst C (v := (1 : Int32)) dX9_one_46 (by decide) ?_
    refine px_iald C km_8 (j := 1) (by unfold vp_in; decide) (by decide) dX9_one_47 ?_
    obtain ⟨hz48, h⟩ := el_nz h
    refine px_idiv C dX9_one_48 hz48 ?_
    exact px_iretES C dX9_one_49 h
  · replace h := el_fn c11_1 h
    refine px_bipush C (v := (-9 : Int32)) dX9_one_14 (by decide) ?_
    refine px_goto C (tgt := 49) dX9_one_16 (by decide) ?_
    exact px_iretES C dX9_one_49 h
theorem lk_X9_pays_22 : Cond.fieldLink RX9 22 "RiverTollsModel" "lord" "[I" ∈ wsX9_pays := List.mem_of_getElem? (i := 3) rfl
theorem lk_X9_pays_31 : Cond.fieldLink RX9 31 "RiverTollsModel" "s" "[I" ∈ wsX9_pays := List.mem_of_getElem? (i := 2) rfl
theorem lk_X9_pays_62 : Cond.fieldLink RX9 62 "RiverTollsModel" "thrown" "I" ∈ wsX9_pays := List.mem_of_getElem? (i := 1) rfl
theorem iw_X9_pays_X9 : ∀ w ∈ u_ws RX9 TX9 28, w ∈ wsX9_pays := fun _ h9 => (List.mem_cons_of_mem _ (List.mem_append_right _ h9))
set_option maxHeartbeats 4000000 in
set_option maxRecDepth 100000 in
theorem c_X9_pays (l : Launch) (tA tB : Nat) (ad : Nat → Nat) (fu : Nat) (S : St) {rv : Int32} {S' : St} (h : m_X9_pays fu S = some (rv, S')) :
    XMet l yX9_pays wsX9_pays ({ frames := 2, cells := 0, slots := 0, locals := 47 }) KM .boolean tA tB [.ref (ad 0)] ad S (some (.int rv)) S' := by
  refine XMet.of (cc := cX9_pays) (maxL := 3) (ret := (some .int)) (own := RX9) (lv := [(0, .ref (ad 0))]) rfl (by decide) rfl (Nat.le_of_ble_eq_true rfl) rfl ?_
  intro p e s m args below meth c D A cI c1 F C
  rw [m_X9_pays] at h
  refine px_aload_n C 0 dX9_pays_0 rfl rfl ?_
  refine px_iconst C (v := (0 : Int32)) dX9_pays_1 (by decide) ?_
  obtain ⟨S1, eS1, h⟩ := el_lt h
  refine px_puti C (ty := .int) (j := 0) km_0 rfl rfl iw_X9_pays_X9 (by decide) lk_X9_pays_62 rfl tyX9 tyX9_ok nmX9 rfl (by decide +kernel) rfl rfl dX9_pays_2 ?_
  refine px_nmS eS1 ?_
  refine px_aload_n C 0 dX9_pays_5 rfl rfl ?_
  obtain ⟨x3, hc6_1, h⟩ := el_b h
  refine px_callV1 C (c_X9_isSea l tA tB ad S1 hc6_1) (cwV 0 C.2.2.2.2.1 gX9_pays_X9_isSea rfl rfl rfl (by decide +kernel) ⟨Nat.le_of_ble_eq_true rfl, Nat.le_of_ble_eq_true rfl⟩) ⟨Nat.zero_le _, Nat.zero_le _⟩ km_0 rfl rfl rfl (Nat.le_of_ble_eq_true rfl) dX9_pays_6 ?_
  refine px_if_eq C (tgt := 15) dX9_pays_9 (by decide) (fun c9_3 => ?_) (fun c9_3 => ?_)
  · replace h := el_t c9_3 h
    refine px_aload_n C 0 dX9_pays_15 rfl rfl ?_
    refine px_getr C (j := 16) km_0 rfl rfl iw_X9_pays_X9 (by decide) lk_X9_pays_31 rfl dX9_pays_16 ?_
    refine px_iconst C (v := (0 : Int32)) dX9_pays_19 (by decide) ?_
    refine px_iald C km_8 (j := 0) (by unfold vp_in; decide) (by decide) dX9_pays_20 ?_
    refine px_istore_n C [(1, .int (S1.1 8 0)), (0, .ref (ad 0))] dX9_pays_21 rfl (by decide) rfl ?_
    refine px_aload_n C 1 dX9_pays_22 rfl rfl ?_
    refine px_aload_n C 1 dX9_pays_23 rfl rfl ?_
    refine px_getr C (j := 16) km_0 rfl rfl iw_X9_pays_X9 (by decide) lk_X9_pays_31 rfl dX9_pays_24 ?_
    refine px_iload_n C 0 dX9_pays_27 rfl rfl ?_
    refine px_aload_n C 1 dX9_pays_28 rfl rfl ?_
    refine px_getr C (j := 16) km_0 rfl rfl iw_X9_pays_X9 (by decide) lk_X9_pays_31 rfl dX9_pays_29 ?_
    refine px_iconst C (v := (1 : Int32)) dX9_pays_32 (by decide) ?_
    refine px_iald C km_8 (j := 1) (by unfold vp_in; decide) (by decide) dX9_pays_33 ?_
    refine px_aload_n C 1 dX9_pays_34 rfl rfl ?_
    refine px_getr C (j := 16) km_0 rfl rfl iw_X9_pays_X9 (by decide) lk_X9_pays_31 rfl dX9_pays_35 ?_
    refine px_iconst C (v := (3 : Int32)) dX9_pays_38 (by decide) ?_
    refine px_iald C km_8 (j := 3) (by unfold vp_in; decide) (by decide) dX9_pays_39 ?_
    obtain ⟨x6, hc40_4, h⟩ := el_b h
    refine px_callV1 C (c_X9_takenBy l tA tB ad S1 8 (S1.1 8 0) (S1.1 8 1) (S1.1 8 3) km_8 hc40_4) (cwV 4 C.2.2.2.2.1 gX9_pays_X9_takenBy rfl rfl rfl (by decide +kernel) ⟨Nat.le_of_ble_eq_true rfl, Nat.le_of_ble_eq_true rfl⟩) ⟨Nat.zero_le _, Nat.zero_le _⟩ km_0 rfl rfl rfl (Nat.le_of_ble_eq_true rfl) dX9_pays_40 ?_
    refine px_istore_n C [(2, .int x6), (1, .int (S1.1 8 0)), (0, .ref (ad 0))] dX9_pays_43 rfl (by decide) rfl ?_
    refine px_iload_n C 0 dX9_pays_44 rfl rfl ?_
    refine px_aload_n C 2 dX9_pays_45 rfl rfl ?_
    refine px_getr C (j := 16) km_0 rfl rfl iw_X9_pays_X9 (by decide) lk_X9_pays_31 rfl dX9_pays_46 ?_
    refine px_iconst C (v := (2 : Int32)) dX9_pays_49 (by decide) ?_
    refine px_iald C km_8 (j := 2) (by unfold vp_in; decide) (by decide) dX9_pays_50 ?_
    refine px_icmp_le C (tgt := 57) dX9_pays_51 (by decide) (fun c51_6 => ?_) (fun c51_6 => ?_)
    · replace h := el_t c51_6 h
      refine px_aload_n C 2 dX9_pays_57 rfl rfl ?_
      obtain ⟨S9, hc58_7, h⟩ := el_b h
      refine px_callV0 C (c_X9_notes l tA tB ad fu S1 hc58_7) (cwV 0 C.2.2.2.2.1 gX9_pays_X9_notes rfl rfl rfl (by decide +kernel) ⟨Nat.le_of_ble_eq_true rfl, Nat.le_of_ble_eq_true rfl⟩) ⟨Nat.zero_le _, Nat.zero_le _⟩ km_0 rfl rfl rfl (Nat.le_of_ble_eq_true rfl) dX9_pays_58 ?_
      refine px_aload_n C 2 dX9_pays_61 rfl rfl ?_
      refine px_getr C (j := 16) km_0 rfl rfl iw_X9_pays_X9 (by decide) lk_X9_pays_31 rfl dX9_pays_62 ?_
      refine px_iconst C (v := (2 : Int32)) dX9_pays_65 (by decide) ?_
      refine px_dup2 C dX9_pays_66 rfl rfl ?_
      refine px_iald C km_8 (j := 2) (by unfold vp_in; decide) (by decide) dX9_pays_67 ?_
      refine px_iload_n C 0 dX9_pays_68 rfl rfl ?_
      refine px_isub C dX9_pays_69 ?_
      obtain ⟨S10, eS10, h⟩ := el_lt h
      refine px_iast C km_8 (j := 2) (by unfold vp_in; decide) (by decide) dX9_pays_70 ?_
      refine px_nmS eS10 ?_
      refine px_aload_n C 2 dX9_pays_71 rfl rfl ?_
      refine px_getr C (j := 16) km_0 rfl rfl iw_X9_pays_X9 (by decide) lk_X9_pays_31 rfl dX9_pays_72 ?_
      refine px_bipush C (v := (14 : Int32)) dX9_pays_75 (by decide) ?_
      refine px_aload_n C 2 dX9_pays_77 rfl rfl ?_
      refine px_getr C (j := 12) km_0 rfl rfl iw_X9_pays_X9 (by decide) lk_X9_pays_22 rfl dX9_pays_78 ?_
      refine px_iload_n C 1 dX9_pays_81 rfl rfl ?_
      obtain ⟨hix11, x11, ex11, h⟩ := el_ald h
      refine px_iald C km_5 hix11 rfl dX9_pays_82 ?_
      refine px_nm ex11 ?_
      refine px_iadd C dX9_pays_83 ?_
      refine px_dup2 C dX9_pays_84 rfl rfl ?_
      obtain ⟨hix12, x12, ex12, h⟩ := el_ald h
      refine px_iald C km_8 hix12 rfl dX9_pays_85 ?_
      refine px_nm ex12 ?_
      refine px_iload_n C 0 dX9_pays_86 rfl rfl ?_
      refine px_iadd C dX9_pays_87 ?_
      obtain ⟨hiS13, S13, eS13, h⟩ := el_ast h
      refine px_iast C km_8 hiS13 rfl dX9_pays_88 ?_
      refine px_nmS eS13 ?_
      refine px_aload_n C 2 dX9_pays_89 rfl rfl ?_
      refine px_getr C (j := 16) km_0 rfl rfl iw_X9_pays_X9 (by decide) lk_X9_pays_31 rfl dX9_pays_90 ?_
      refine px_iconst C (v := (3 : Int32)) dX9_pays_93 (by decide) ?_
      refine px_iload_n C 0 dX9_pays_94 rfl rfl ?_
      obtain ⟨x15, hr95_19, h⟩ := el_b h
      have hj95_15 : PW p l e { frames := 2, cells := 0, slots := 0, locals := 47 } s m args below meth c (MQ below (QX KM A D cI c1 F ad (some (.int rv)) S') args s 0 0 A) D A cI c1 F KM ad 3 0 0 S13 [(0, .ref (ad 0)), (1, .int (S1.1 8 0)), (2, .int x6)] 110 [.int x15, .int (3 : Int32), .ref (ad 8)] := by
        obtain ⟨S17, eS17, h⟩ := el_lt h
        refine px_iast C km_8 (j := 3) (by unfold vp_in; decide) (by decide) dX9_pays_110 ?_
        refine px_nmS eS17 ?_
        refine px_aload_n C 0 dX9_pays_111 rfl rfl ?_
        refine px_getr C (j := 16) km_0 rfl rfl iw_X9_pays_X9 (by decide) lk_X9_pays_31 rfl dX9_pays_112 ?_
        refine px_iconst C (v := (0 : Int32)) dX9_pays_115 (by decide) ?_
        refine px_dup2 C dX9_pays_116 rfl rfl ?_
        refine px_iald C km_8 (j := 0) (by unfold vp_in; decide) (by decide) dX9_pays_117 ?_
        refine px_iconst C (v := (1 : Int32)) dX9_pays_118 (by decide) ?_
        refine px_iadd C dX9_pays_119 ?_
        obtain ⟨S18, eS18, h⟩ := el_lt h
        refine px_iast C km_8 (j := 0) (by unfold vp_in; decide) (by decide) dX9_pays_120 ?_
        refine px_nmS eS18 ?_
        refine px_iload_n C 2 dX9_pays_121 rfl rfl ?_
        exact px_iretES C dX9_pays_122 h
      clear h
      have h := hr95_19
      clear hr95_19
      refine px_if_le C (tgt := 109) dX9_pays_95 (by decide) (fun c95_13 => ?_) (fun c95_13 => ?_)
      · replace h := el_t c95_13 h
        refine px_iconst C (v := (0 : Int32)) dX9_pays_109 (by decide) ?_
        cases h
        exact px_sub [2, 1, 0] rfl hj95_15
      · replace h := el_f c95_13 h
        refine px_aload_n C 2 dX9_pays_98 rfl rfl ?_
        refine px_getr C (j := 12) km_0 rfl rfl iw_X9_pays_X9 (by decide) lk_X9_pays_22 rfl dX9_pays_99 ?_
        refine px_iload_n C 1 dX9_pays_102 rfl rfl ?_
        obtain ⟨hix19, x19, ex19, h⟩ := el_ald h
        refine px_iald C km_5 hix19 rfl dX9_pays_103 ?_
        refine px_nm ex19 ?_
        refine px_iconst C (v := (1 : Int32)) dX9_pays_104 (by decide) ?_
        refine px_iadd C dX9_pays_105 ?_
        refine px_goto C (tgt := 110) dX9_pays_106 (by decide) ?_
        cases h
        exact px_sub [2, 1, 0] rfl hj95_15
    · replace h := el_f c51_6 h
      refine px_bipush C (v := (-2 : Int32)) dX9_pays_54 (by decide) ?_
      exact px_iretES C dX9_pays_56 h
  · replace h := el_f c9_3 h
    refine px_bipush C (v := (-2 : Int32)) dX9_pays_12 (by decide) ?_
    exact px_iretES C dX9_pays_14 h
theorem lk_X9_rate_25 : Cond.fieldLink RX9 25 "RiverTollsModel" "watch" "[I" ∈ wsX9_rate := List.mem_of_getElem? (i := 10) rfl
theorem lk_X9_rate_28 : Cond.fieldLink RX9 28 "RiverTollsModel" "land" "[I" ∈ wsX9_rate := List.mem_of_getElem? (i := 11) rfl
theorem lk_X9_rate_31 : Cond.fieldLink RX9 31 "RiverTollsModel" "s" "[I" ∈ wsX9_rate := List.mem_of_getElem? (i := 3) rfl
theorem lk_X9_rate_62 : Cond.fieldLink RX9 62 "RiverTollsModel" "thrown" "I" ∈ wsX9_rate := List.mem_of_getElem? (i := 1) rfl
theorem lk_X9_rate_179 : Cond.constant RX9 179 (-1000000) ∈ wsX9_rate := List.mem_of_getElem? (i := 2) rfl
theorem lk_X9_rate_180 : Cond.fieldLink RX9 180 "RiverTollsModel" "trace" "J" ∈ wsX9_rate := List.mem_of_getElem? (i := 4) rfl
theorem lk_X9_rate_184 : Cond.constantLong RX9 184 (11) ∈ wsX9_rate := List.mem_of_getElem? (i := 5) rfl
theorem lk_X9_rate_186 : Cond.constantLong RX9 186 (101) ∈ wsX9_rate := List.mem_of_getElem? (i := 6) rfl
theorem lk_X9_rate_188 : Cond.constantLong RX9 188 (1011) ∈ wsX9_rate := List.mem_of_getElem? (i := 7) rfl
theorem lk_X9_rate_190 : Cond.constantLong RX9 190 (10101) ∈ wsX9_rate := List.mem_of_getElem? (i := 8) rfl
theorem lk_X9_rate_192 : Cond.constantLong RX9 192 (100001) ∈ wsX9_rate := List.mem_of_getElem? (i := 9) rfl
theorem iw_X9_rate_X9 : ∀ w ∈ u_ws RX9 TX9 28, w ∈ wsX9_rate := fun _ h9 => (List.mem_cons_of_mem _ (List.mem_append_right _ h9))
set_option maxHeartbeats 4000000 in
set_option maxRecDepth 100000 in
theorem c_X9_rate (l : Launch) (tA tB : Nat) (ad : Nat → Nat) (S : St) (a1 : Int32) (a2 : Int32) {rv : Int32} {S' : St} (h : m_X9_rate S a1 a2 = some (rv, S')) :
    XMet l yX9_rate wsX9_rate ({ frames := 2, cells := 0, slots := 0, locals := 43 }) KM .boolean tA tB [.ref (ad 0), .int a1, .int a2] ad S (some (.int rv)) S' := by
  refine XMet.of (cc := cX9_rate) (maxL := 4) (ret := (some .int)) (own := RX9) (lv := [(0, .ref (ad 0)), (1, .int a1), (2, .int a2)]) rfl (by decide) rfl (Nat.le_of_ble_eq_true rfl) rfl ?_
  intro p e s m args below meth c D A cI c1 F C
  rw [m_X9_rate] at h
  refine px_aload_n C 0 dX9_rate_0 rfl rfl ?_
  refine px_iconst C (v := (0 : Int32)) dX9_rate_1 (by decide) ?_
  obtain ⟨S1, eS1, h⟩ := el_lt h
  refine px_puti C (ty := .int) (j := 0) km_0 rfl rfl iw_X9_rate_X9 (by decide) lk_X9_rate_62 rfl tyX9 tyX9_ok nmX9 rfl (by decide +kernel) rfl rfl dX9_rate_2 ?_
  refine px_nmS eS1 ?_
  refine px_iload_n C 1 dX9_rate_5 rfl rfl ?_
  refine px_iconst C (v := (0 : Int32)) dX9_rate_6 (by decide) ?_
  refine px_iconst C (v := (5 : Int32)) dX9_rate_7 (by decide) ?_
  obtain ⟨x3, hc8_1, h⟩ := el_b h
  refine px_callS1 C (c_X9_in l tA tB ad S1 a1 (0 : Int32) (5 : Int32) hc8_1) (va_cwS 3 C.2.2.2.2.1 gX9_rate_X9_in rfl rfl rfl (by decide +kernel) ⟨Nat.le_of_ble_eq_true rfl, Nat.le_of_ble_eq_true rfl⟩) ⟨Nat.zero_le _, Nat.zero_le _⟩ rfl rfl (Nat.le_of_ble_eq_true rfl) dX9_rate_8 ?_
  refine px_if_eq C (tgt := 22) dX9_rate_11 (by decide) (fun c11_3 => ?_) (fun c11_3 => ?_)
  · replace h := el_t c11_3 h
    refine px_ldc C (v := (-1000000 : Int32)) lk_X9_rate_179 dX9_rate_22 ?_
    exact px_iretES C dX9_rate_24 h
  · replace h := el_f c11_3 h
    refine px_aload_n C 0 dX9_rate_14 rfl rfl ?_
    refine px_iload_n C 2 dX9_rate_15 rfl rfl ?_
    obtain ⟨x6, hc16_4, h⟩ := el_b h
    refine px_callV1 C (c_X9_isRock l tA tB ad S1 a2 hc16_4) (cwV 1 C.2.2.2.2.1 gX9_rate_X9_isRock rfl rfl rfl (by decide +kernel) ⟨Nat.le_of_ble_eq_true rfl, Nat.le_of_ble_eq_true rfl⟩) ⟨Nat.zero_le _, Nat.zero_le _⟩ km_0 rfl rfl rfl (Nat.le_of_ble_eq_true rfl) dX9_rate_16 ?_
    refine px_if_ne C (tgt := 25) dX9_rate_19 (by decide) (fun c19_6 => ?_) (fun c19_6 => ?_)
    · replace h := el_t c19_6 h
      refine px_aload_n C 0 dX9_rate_25 rfl rfl ?_
      refine px_getr C (j := 16) km_0 rfl rfl iw_X9_rate_X9 (by decide) lk_X9_rate_31 rfl dX9_rate_26 ?_
      refine px_bipush C (v := (6 : Int32)) dX9_rate_29 (by decide) ?_
      refine px_iload_n C 2 dX9_rate_31 rfl rfl ?_
      refine px_iadd C dX9_rate_32 ?_
      obtain ⟨hix8, x8, ex8, h⟩ := el_ald h
      refine px_iald C km_8 hix8 rfl dX9_rate_33 ?_
      refine px_nm ex8 ?_
      refine px_istore_n C [(3, .int x8), (0, .ref (ad 0)), (1, .int a1), (2, .int a2)] dX9_rate_34 rfl (by decide) rfl ?_
      refine px_aload_n C 1 dX9_rate_35 rfl rfl ?_
      refine px_dup C dX9_rate_36 rfl ?_
      refine px_getl C (j := 1) km_0 rfl rfl iw_X9_rate_X9 (by decide) lk_X9_rate_180 rfl dX9_rate_37 ?_
      refine px_iload_n C 2 dX9_rate_40 rfl rfl ?_
      obtain ⟨x10, hr41_25, h⟩ := el_b h
      have hj41_10 : PW p l e { frames := 2, cells := 0, slots := 0, locals := 43 } s m args below meth c (MQ below (QX KM A D cI c1 F ad (some (.int rv)) S') args s 0 0 A) D A cI c1 F KM ad 4 0 0 S1 [(0, .ref (ad 0)), (1, .int a1), (2, .int a2), (3, .int x8)] 95 [.long x10, .long (S1.2 0 1), .ref (ad 0)] := by
        refine px_ladd C dX9_rate_95 ?_
        obtain ⟨S12, eS12, h⟩ := el_lt h
        refine px_putl C (j := 1) km_0 rfl rfl iw_X9_rate_X9 (by decide) lk_X9_rate_180 rfl tyX9 tyX9_ok nmX9 rfl (by decide +kernel) dX9_rate_96 ?_
        refine px_nmS eS12 ?_
        refine px_iload_n C 1 dX9_rate_99 rfl rfl ?_
        refine px_if_ne C (tgt := 107) dX9_rate_100 (by decide) (fun c100_12 => ?_) (fun c100_12 => ?_)
        · replace h := el_t c100_12 h
          refine px_iload_n C 1 dX9_rate_107 rfl rfl ?_
          refine px_iconst C (v := (1 : Int32)) dX9_rate_108 (by decide) ?_
          refine px_icmp_ne C (tgt := 123) dX9_rate_109 (by decide) (fun c109_13 => ?_) (fun c109_13 => ?_)
          · replace h := el_t c109_13 h
            refine px_iload_n C 1 dX9_rate_123 rfl rfl ?_
            refine px_iconst C (v := (2 : Int32)) dX9_rate_124 (by decide) ?_
            refine px_icmp_ne C (tgt := 139) dX9_rate_125 (by decide) (fun c125_14 => ?_) (fun c125_14 => ?_)
            · replace h := el_t c125_14 h
              refine px_iload_n C 1 dX9_rate_139 rfl rfl ?_
              refine px_iconst C (v := (3 : Int32)) dX9_rate_140 (by decide) ?_
              refine px_icmp_ne C (tgt := 157) dX9_rate_141 (by decide) (fun c141_15 => ?_) (fun c141_15 => ?_)
              · replace h := el_t c141_15 h
                refine px_iload_n C 1 dX9_rate_157 rfl rfl ?_
                refine px_iconst C (v := (4 : Int32)) dX9_rate_158 (by decide) ?_
                refine px_icmp_ne C (tgt := 175) dX9_rate_159 (by decide) (fun c159_16 => ?_) (fun c159_16 => ?_)
                · replace h := el_t c159_16 h
                  refine px_iload_n C 3 dX9_rate_175 rfl rfl ?_
                  refine px_aload_n C 0 dX9_rate_176 rfl rfl ?_
                  refine px_getr C (j := 16) km_0 rfl rfl iw_X9_rate_X9 (by decide) lk_X9_rate_31 rfl dX9_rate_177 ?_
                  refine px_iconst C (v := (1 : Int32)) dX9_rate_180 (by decide) ?_
                  refine px_iald C km_8 (j := 1) (by unfold vp_in; decide) (by decide) dX9_rate_181 ?_
                  refine px_iadd C dX9_rate_182 ?_
                  exact px_iretES C dX9_rate_183 h
                · replace h := el_fn c159_16 h
                  refine px_iload_n C 3 dX9_rate_162 rfl rfl ?_
                  refine px_aload_n C 0 dX9_rate_163 rfl rfl ?_
                  refine px_getr C (j := 14) km_0 rfl rfl iw_X9_rate_X9 (by decide) lk_X9_rate_28 rfl dX9_rate_164 ?_
                  refine px_iload_n C 2 dX9_rate_167 rfl rfl ?_
                  obtain ⟨hix18, x18, ex18, h⟩ := el_ald h
                  refine px_iald C km_7 hix18 rfl dX9_rate_168 ?_
                  refine px_nm ex18 ?_
                  refine px_isub C dX9_rate_169 ?_
                  refine px_iload_n C 2 dX9_rate_170 rfl rfl ?_
                  refine px_iadd C dX9_rate_171 ?_
                  refine px_goto C (tgt := 183) dX9_rate_172 (by decide) ?_
                  exact px_iretES C dX9_rate_183 h
              · replace h := el_fn c141_15 h
                refine px_iconst C (v := (2 : Int32)) dX9_rate_144 (by decide) ?_
                refine px_iload_n C 3 dX9_rate_145 rfl rfl ?_
                refine px_aload_n C 0 dX9_rate_146 rfl rfl ?_
                refine px_getr C (j := 13) km_0 rfl rfl iw_X9_rate_X9 (by decide) lk_X9_rate_25 rfl dX9_rate_147 ?_
                refine px_iload_n C 2 dX9_rate_150 rfl rfl ?_
                obtain ⟨hix19, x19, ex19, h⟩ := el_ald h
                refine px_iald C km_6 hix19 rfl dX9_rate_151 ?_
                refine px_nm ex19 ?_
                refine px_iadd C dX9_rate_152 ?_
                refine px_imul C dX9_rate_153 ?_
                refine px_goto C (tgt := 183) dX9_rate_154 (by decide) ?_
                exact px_iretES C dX9_rate_183 h
            · replace h := el_fn c125_14 h
              refine px_iload_n C 3 dX9_rate_128 rfl rfl ?_
              refine px_aload_n C 0 dX9_rate_129 rfl rfl ?_
              refine px_getr C (j := 14) km_0 rfl rfl iw_X9_rate_X9 (by decide) lk_X9_rate_28 rfl dX9_rate_130 ?_
              refine px_iload_n C 2 dX9_rate_133 rfl rfl ?_
              obtain ⟨hix20, x20, ex20, h⟩ := el_ald h
              refine px_iald C km_7 hix20 rfl dX9_rate_134 ?_
              refine px_nm ex20 ?_
              refine px_isub C dX9_rate_135 ?_
              refine px_goto C (tgt := 183) dX9_rate_136 (by decide) ?_
              exact px_iretES C dX9_rate_183 h
          · replace h := el_fn c109_13 h
            refine px_iload_n C 3 dX9_rate_112 rfl rfl ?_
            refine px_aload_n C 0 dX9_rate_113 rfl rfl ?_
            refine px_getr C (j := 13) km_0 rfl rfl iw_X9_rate_X9 (by decide) lk_X9_rate_25 rfl dX9_rate_114 ?_
            refine px_iload_n C 2 dX9_rate_117 rfl rfl ?_
            obtain ⟨hix21, x21, ex21, h⟩ := el_ald h
            refine px_iald C km_6 hix21 rfl dX9_rate_118 ?_
            refine px_nm ex21 ?_
            refine px_iadd C dX9_rate_119 ?_
            refine px_goto C (tgt := 183) dX9_rate_120 (by decide) ?_
            exact px_iretES C dX9_rate_183 h
        · replace h := el_fn c100_12 h
          refine px_iload_n C 3 dX9_rate_103 rfl rfl ?_
          refine px_goto C (tgt := 183) dX9_rate_104 (by decide) ?_
          exact px_iretES C dX9_rate_183 h
      clear h
      have h := hr41_25
      clear hr41_25
      refine px_if_ne C (tgt := 48) dX9_rate_41 (by decide) (fun c41_8 => ?_) (fun c41_8 => ?_)
      · replace h := el_t c41_8 h
        refine px_iload_n C 2 dX9_rate_48 rfl rfl ?_
        refine px_iconst C (v := (1 : Int32)) dX9_rate_49 (by decide) ?_
        refine px_icmp_ne C (tgt := 59) dX9_rate_50 (by decide) (fun c50_21 => ?_) (fun c50_21 => ?_)
        · replace h := el_t c50_21 h
          refine px_iload_n C 2 dX9_rate_59 rfl rfl ?_
          refine px_iconst C (v := (2 : Int32)) dX9_rate_60 (by decide) ?_
          refine px_icmp_ne C (tgt := 70) dX9_rate_61 (by decide) (fun c61_22 => ?_) (fun c61_22 => ?_)
          · replace h := el_t c61_22 h
            refine px_iload_n C 2 dX9_rate_70 rfl rfl ?_
            refine px_iconst C (v := (3 : Int32)) dX9_rate_71 (by decide) ?_
            refine px_icmp_ne C (tgt := 81) dX9_rate_72 (by decide) (fun c72_23 => ?_) (fun c72_23 => ?_)
            · replace h := el_t c72_23 h
              refine px_iload_n C 2 dX9_rate_81 rfl rfl ?_
              refine px_iconst C (v := (4 : Int32)) dX9_rate_82 (by decide) ?_
              refine px_icmp_ne C (tgt := 92) dX9_rate_83 (by decide) (fun c83_24 => ?_) (fun c83_24 => ?_)
              · replace h := el_t c83_24 h
                refine px_ldc2 C (v := (100001 : Int64)) lk_X9_rate_192 dX9_rate_92 ?_
                cases h
                exact px_sub [1, 2, 3, 0] rfl hj41_10
              · replace h := el_fn c83_24 h
                refine px_ldc2 C (v := (10101 : Int64)) lk_X9_rate_190 dX9_rate_86 ?_
                refine px_goto C (tgt := 95) dX9_rate_89 (by decide) ?_
                cases h
                exact px_sub [1, 2, 3, 0] rfl hj41_10
            · replace h := el_fn c72_23 h
              refine px_ldc2 C (v := (1011 : Int64)) lk_X9_rate_188 dX9_rate_75 ?_
              refine px_goto C (tgt := 95) dX9_rate_78 (by decide) ?_
              cases h
              exact px_sub [1, 2, 3, 0] rfl hj41_10
          · replace h := el_fn c61_22 h
            refine px_ldc2 C (v := (101 : Int64)) lk_X9_rate_186 dX9_rate_64 ?_
            refine px_goto C (tgt := 95) dX9_rate_67 (by decide) ?_
            cases h
            exact px_sub [1, 2, 3, 0] rfl hj41_10
        · replace h := el_fn c50_21 h
          refine px_ldc2 C (v := (11 : Int64)) lk_X9_rate_184 dX9_rate_53 ?_
          refine px_goto C (tgt := 95) dX9_rate_56 (by decide) ?_
          cases h
          exact px_sub [1, 2, 3, 0] rfl hj41_10
      · replace h := el_fn c41_8 h
        refine px_lconst C (v := (1 : Int64)) dX9_rate_44 (by decide) ?_
        refine px_goto C (tgt := 95) dX9_rate_45 (by decide) ?_
        cases h
        exact px_sub [1, 2, 3, 0] rfl hj41_10
    · replace h := el_fn c19_6 h
      refine px_ldc C (v := (-1000000 : Int32)) lk_X9_rate_179 dX9_rate_22 ?_
      exact px_iretES C dX9_rate_24 h
