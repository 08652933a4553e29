theorem lk_X7_letterAt_9 : Cond.fieldLink RX7 9 "RiverTolls$Text" "letters" "[I" ∈ wsX7_letterAt := List.mem_of_getElem? (i := 1) rfl
theorem iw_X7_letterAt_X7 : ∀ w ∈ u_ws RX7 TX7 2, w ∈ wsX7_letterAt := fun _ h9 => (List.mem_cons_of_mem _ (List.mem_append_right _ h9))
set_option maxHeartbeats 4000000 in
set_option maxRecDepth 100000 in
theorem c_X7_letterAt (l : Launch) (tA tB : Nat) (ad : Nat → Nat) (S : St) (a1 : Int32) {rv : Int32} (h : m_X7_letterAt S a1 = some rv) :
    XMet l yX7_letterAt wsX7_letterAt ({ frames := 0, cells := 0, slots := 0, locals := 0 }) KX (.object "RiverTolls$Boat") tA tB [.ref (ad 1), .int a1] ad S (some (.int rv)) S := by
  refine XMet.of (cc := cX7_letterAt) (maxL := 2) (ret := (some .int)) (own := RX7) (lv := [(0, .ref (ad 1)), (1, .int a1)]) rfl (by decide) rfl (Nat.le_of_ble_eq_true rfl) rfl ?_
  intro p e s m args below meth c D A cI c1 F C
  rw [m_X7_letterAt] at h
  refine px_iload_n C 1 dX7_letterAt_0 rfl rfl ?_
  refine px_if_lt C (tgt := 22) dX7_letterAt_1 (by decide) (fun c1_0 => ?_) (fun c1_0 => ?_)
  · replace h := el_t c1_0 h
    refine px_iconst C (v := (0 : Int32)) dX7_letterAt_22 (by decide) ?_
    exact px_iretE C dX7_letterAt_23 h
  · replace h := el_f c1_0 h
    refine px_iload_n C 1 dX7_letterAt_4 rfl rfl ?_
    refine px_aload_n C 0 dX7_letterAt_5 rfl rfl ?_
    refine px_getr C (j := 1) kx_1 rfl rfl iw_X7_letterAt_X7 (by decide) lk_X7_letterAt_9 rfl dX7_letterAt_6 ?_
    refine px_alen C (v := (200 : Int32)) kx_2 rfl dX7_letterAt_9 ?_
    refine px_icmp_ge C (tgt := 22) dX7_letterAt_10 (by decide) (fun c10_1 => ?_) (fun c10_1 => ?_)
    · replace h := el_t c10_1 h
      refine px_iconst C (v := (0 : Int32)) dX7_letterAt_22 (by decide) ?_
      exact px_iretE C dX7_letterAt_23 h
    · replace h := el_f c10_1 h
      refine px_aload_n C 0 dX7_letterAt_13 rfl rfl ?_
      refine px_getr C (j := 1) kx_1 rfl rfl iw_X7_letterAt_X7 (by decide) lk_X7_letterAt_9 rfl dX7_letterAt_14 ?_
      refine px_iload_n C 1 dX7_letterAt_17 rfl rfl ?_
      obtain ⟨hix3, x3, ex3, h⟩ := el_ald h
      refine px_iald C kx_2 hix3 rfl dX7_letterAt_18 ?_
      refine px_nm ex3 ?_
      refine px_goto C (tgt := 23) dX7_letterAt_19 (by decide) ?_
      exact px_iretE C dX7_letterAt_23 h
theorem lk_X2_readDigits_9 : Cond.fieldLink RX2 9 "RiverTolls$Reader" "text" "LRiverTolls$Text;" ∈ wsX2_readDigits := List.mem_of_getElem? (i := 1) rfl
theorem lk_X2_readDigits_20 : Cond.fieldLink RX2 20 "RiverTolls$Reader" "place" "I" ∈ wsX2_readDigits := List.mem_of_getElem? (i := 4) rfl
theorem lk_X2_readDigits_34 : Cond.fieldLink RX2 34 "RiverTolls$Reader" "token" "I" ∈ wsX2_readDigits := List.mem_of_getElem? (i := 10) rfl
theorem lk_X2_readDigits_47 : Cond.fieldLink RX2 47 "RiverTolls$Reader" "start" "I" ∈ wsX2_readDigits := List.mem_of_getElem? (i := 2) rfl
theorem lk_X2_readDigits_73 : Cond.fieldLink RX2 73 "RiverTolls$Reader" "value" "I" ∈ wsX2_readDigits := List.mem_of_getElem? (i := 3) rfl
theorem lk_X2_readDigits_90 : Cond.fieldLink RX2 90 "RiverTolls$Text" "length" "I" ∈ wsX2_readDigits := List.mem_of_getElem? (i := 5) rfl
theorem iw_X2_readDigits_X2 : ∀ w ∈ u_ws RX2 TX2 7, w ∈ wsX2_readDigits := fun _ h9 => (List.mem_cons_of_mem _ (List.mem_append_left _ (List.mem_append_right _ h9)))
theorem iw_X2_readDigits_X7 : ∀ w ∈ u_ws RX7 TX7 2, w ∈ wsX2_readDigits := fun _ h9 => (List.mem_cons_of_mem _ (List.mem_append_right _ h9))
set_option maxHeartbeats 4000000 in
set_option maxRecDepth 100000 in
theorem c_X2_readDigits (l : Launch) (tA tB : Nat) (ad : Nat → Nat) (fu : Nat) (S : St) {S' : St} (h : m_X2_readDigits fu S = some S') :
    XMet l yX2_readDigits wsX2_readDigits ({ frames := 1, cells := 0, slots := 0, locals := 21 }) KX (.object "RiverTolls$Boat") tA tB [.ref (ad 3)] ad S none S' := by
  refine XMet.of (cc := cX2_readDigits) (maxL := 3) (ret := none) (own := RX2) (lv := [(0, .ref (ad 3))]) rfl (by decide) rfl (Nat.le_of_ble_eq_true rfl) rfl ?_
  intro p e s m args below meth c D A cI c1 F C
  rw [m_X2_readDigits] at h
  refine px_aload_n C 0 dX2_readDigits_0 rfl rfl ?_
  refine px_getr C (j := 0) kx_3 rfl rfl iw_X2_readDigits_X2 (by decide) lk_X2_readDigits_9 rfl dX2_readDigits_1 ?_
  refine px_aload_n C 0 dX2_readDigits_4 rfl rfl ?_
  refine px_geti C (j := 2) kx_3 rfl rfl iw_X2_readDigits_X2 (by decide) lk_X2_readDigits_47 rfl dX2_readDigits_5 ?_
  obtain ⟨x2, hc8_0, h⟩ := el_b h
  refine px_callV1 C (c_X7_letterAt l tA tB ad S (S.1 3 2) hc8_0) (cwV 1 C.2.2.2.2.1 gX2_readDigits_X7_letterAt rfl rfl rfl (by decide +kernel) ⟨Nat.le_of_ble_eq_true rfl, Nat.le_of_ble_eq_true rfl⟩) ⟨Nat.zero_le _, Nat.zero_le _⟩ kx_1 rfl rfl rfl (Nat.le_of_ble_eq_true rfl) dX2_readDigits_8 ?_
  refine px_bipush C (v := (48 : Int32)) dX2_readDigits_11 (by decide) ?_
  obtain ⟨x4, hr13_29, h⟩ := el_b h
  have hj13_4 : PW p l e { frames := 1, cells := 0, slots := 0, locals := 21 } s m args below meth c (MQ below (QX KX A D cI c1 F ad none S') args s 0 0 A) D A cI c1 F KX ad 3 0 0 S [(0, .ref (ad 3))] 21 [.int x4] := by
    refine px_istore_n C [(1, .int x4), (0, .ref (ad 3))] dX2_readDigits_21 rfl (by decide) rfl ?_
    refine px_aload_n C 1 dX2_readDigits_22 rfl rfl ?_
    refine px_iconst C (v := (0 : Int32)) dX2_readDigits_23 (by decide) ?_
    obtain ⟨S6, eS6, h⟩ := el_lt h
    refine px_puti C (ty := .int) (j := 4) kx_3 rfl rfl iw_X2_readDigits_X2 (by decide) lk_X2_readDigits_73 rfl tyX2 tyX2_ok nmX2 rfl (by decide +kernel) rfl rfl dX2_readDigits_24 ?_
    refine px_nmS eS6 ?_
    have hx0 : ∀  (S8 : St), m_X2_readDigits_r0 x4 S8 = some S' → PW p l e { frames := 1, cells := 0, slots := 0, locals := 21 } s m args below meth c (MQ below (QX KX A D cI c1 F ad none S') args s 0 0 A) D A cI c1 F KX ad 3 0 0 S8 [(0, .ref (ad 3)), (1, .int x4)] 103 [] := by
      intro S8 h
      rw [m_X2_readDigits_r0] at h
      refine px_iload_n C 1 dX2_readDigits_103 rfl rfl ?_
      obtain ⟨x10, hr104_18, h⟩ := el_b h
      have hj104_10 : PW p l e { frames := 1, cells := 0, slots := 0, locals := 21 } s m args below meth c (MQ below (QX KX A D cI c1 F ad none S') args s 0 0 A) D A cI c1 F KX ad 3 0 0 S8 [(0, .ref (ad 3)), (1, .int x4)] 125 [.int x10] := by
        refine px_istore_n C [(2, .int x10), (0, .ref (ad 3)), (1, .int x4)] dX2_readDigits_125 rfl (by decide) rfl ?_
        refine px_aload_n C 1 dX2_readDigits_126 rfl rfl ?_
        refine px_iload_n C 0 dX2_readDigits_127 rfl rfl ?_
        obtain ⟨x13, hr128_16, h⟩ := el_b h
        have hj128_13 : PW p l e { frames := 1, cells := 0, slots := 0, locals := 21 } s m args below meth c (MQ below (QX KX A D cI c1 F ad none S') args s 0 0 A) D A cI c1 F KX ad 3 0 0 S8 [(0, .ref (ad 3)), (1, .int x4), (2, .int x10)] 148 [.int x13, .ref (ad 3)] := by
          obtain ⟨S15, eS15, h⟩ := el_lt h
          refine px_puti C (ty := .int) (j := 3) kx_3 rfl rfl iw_X2_readDigits_X2 (by decide) lk_X2_readDigits_34 rfl tyX2 tyX2_ok nmX2 rfl (by decide +kernel) rfl rfl dX2_readDigits_148 ?_
          refine px_nmS eS15 ?_
          exact px_vretE C dX2_readDigits_151 h
        clear h
        have h := hr128_16
        clear hr128_16
        refine px_if_ne C (tgt := 141) dX2_readDigits_128 (by decide) (fun c128_11 => ?_) (fun c128_11 => ?_)
        · replace h := el_t c128_11 h
          refine px_bipush C (v := (-2 : Int32)) dX2_readDigits_141 (by decide) ?_
          refine px_goto C (tgt := 148) dX2_readDigits_143 (by decide) ?_
          cases h
          exact px_sub [1, 2, 0] rfl hj128_13
        · replace h := el_fn c128_11 h
          refine px_aload_n C 1 dX2_readDigits_131 rfl rfl ?_
          refine px_geti C (j := 4) kx_3 rfl rfl iw_X2_readDigits_X2 (by decide) lk_X2_readDigits_73 rfl dX2_readDigits_132 ?_
          refine px_sipush C (v := (900 : Int32)) dX2_readDigits_135 (by decide) ?_
          refine px_icmp_le C (tgt := 146) dX2_readDigits_138 (by decide) (fun c138_15 => ?_) (fun c138_15 => ?_)
          · replace h := el_t c138_15 h
            refine px_bipush C (v := (-3 : Int32)) dX2_readDigits_146 (by decide) ?_
            cases h
            exact px_sub [1, 2, 0] rfl hj128_13
          · replace h := el_f c138_15 h
            refine px_bipush C (v := (-2 : Int32)) dX2_readDigits_141 (by decide) ?_
            refine px_goto C (tgt := 148) dX2_readDigits_143 (by decide) ?_
            cases h
            exact px_sub [1, 2, 0] rfl hj128_13
      clear h
      have h := hr104_18
      clear hr104_18
      refine px_if_eq C (tgt := 124) dX2_readDigits_104 (by decide) (fun c104_8 => ?_) (fun c104_8 => ?_)
      · replace h := el_t c104_8 h
        refine px_iconst C (v := (0 : Int32)) dX2_readDigits_124 (by decide) ?_
        cases h
        exact hj104_10
      · replace h := el_f c104_8 h
        refine px_aload_n C 0 dX2_readDigits_107 rfl rfl ?_
        refine px_geti C (j := 1) kx_3 rfl rfl iw_X2_readDigits_X2 (by decide) lk_X2_readDigits_20 rfl dX2_readDigits_108 ?_
        refine px_aload_n C 0 dX2_readDigits_111 rfl rfl ?_
        refine px_geti C (j := 2) kx_3 rfl rfl iw_X2_readDigits_X2 (by decide) lk_X2_readDigits_47 rfl dX2_readDigits_112 ?_
        refine px_isub C dX2_readDigits_115 ?_
        refine px_iconst C (v := (1 : Int32)) dX2_readDigits_116 (by decide) ?_
        refine px_icmp_le C (tgt := 124) dX2_readDigits_117 (by decide) (fun c117_17 => ?_) (fun c117_17 => ?_)
        · replace h := el_t c117_17 h
          refine px_iconst C (v := (0 : Int32)) dX2_readDigits_124 (by decide) ?_
          cases h
          exact hj104_10
        · replace h := el_f c117_17 h
          refine px_iconst C (v := (1 : Int32)) dX2_readDigits_120 (by decide) ?_
          refine px_goto C (tgt := 125) dX2_readDigits_121 (by decide) ?_
          cases h
          exact hj104_10
    have hl0 : ∀ (n_0 : Nat) (S7 : St), m_X2_readDigits_L0 (m_X2_readDigits_r0 x4) n_0 S7 = some S' → PW p l e { frames := 1, cells := 0, slots := 0, locals := 21 } s m args below meth c (MQ below (QX KX A D cI c1 F ad none S') args s 0 0 A) D A cI c1 F KX ad 3 0 0 S7 [(0, .ref (ad 3)), (1, .int x4)] 27 [] := by
      intro n_0
      induction n_0 with
      | zero =>
        intro S7 h
        rw [m_X2_readDigits_L0_z] at h
        cases h
      | succ n_0 ih0 =>
        intro S7 h
        rw [m_X2_readDigits_L0_s] at h
        refine px_aload_n C 0 dX2_readDigits_27 rfl rfl ?_
        refine px_geti C (j := 1) kx_3 rfl rfl iw_X2_readDigits_X2 (by decide) lk_X2_readDigits_20 rfl dX2_readDigits_28 ?_
        refine px_aload_n C 0 dX2_readDigits_31 rfl rfl ?_
        refine px_getr C (j := 0) kx_3 rfl rfl iw_X2_readDigits_X2 (by decide) lk_X2_readDigits_9 rfl dX2_readDigits_32 ?_
        refine px_geti C (j := 0) kx_1 rfl rfl iw_X2_readDigits_X7 (by decide) lk_X2_readDigits_90 rfl dX2_readDigits_35 ?_
        refine px_icmp_ge C (tgt := 103) dX2_readDigits_38 (by decide) (fun c38_19 => ?_) (fun c38_19 => ?_)
        · replace h := el_t c38_19 h
          exact (hx0 _ h)
        · replace h := el_f c38_19 h
          refine px_aload_n C 0 dX2_readDigits_41 rfl rfl ?_
          refine px_getr C (j := 0) kx_3 rfl rfl iw_X2_readDigits_X2 (by decide) lk_X2_readDigits_9 rfl dX2_readDigits_42 ?_
          refine px_aload_n C 0 dX2_readDigits_45 rfl rfl ?_
          refine px_geti C (j := 1) kx_3 rfl rfl iw_X2_readDigits_X2 (by decide) lk_X2_readDigits_20 rfl dX2_readDigits_46 ?_
          obtain ⟨x22, hc49_20, h⟩ := el_b h
          refine px_callV1 C (c_X7_letterAt l tA tB ad S7 (S7.1 3 1) hc49_20) (cwV 1 C.2.2.2.2.1 gX2_readDigits_X7_letterAt rfl rfl rfl (by decide +kernel) ⟨Nat.le_of_ble_eq_true rfl, Nat.le_of_ble_eq_true rfl⟩) ⟨Nat.zero_le _, Nat.zero_le _⟩ kx_1 rfl rfl rfl (Nat.le_of_ble_eq_true rfl) dX2_readDigits_49 ?_
          obtain ⟨x24, hc52_22, h⟩ := el_b h
          refine px_callS1 C (c_X2_isDigit l tA tB ad S7 x22 hc52_22) (va_cwS 1 C.2.2.2.2.1 gX2_readDigits_X2_isDigit rfl rfl rfl (by decide +kernel) ⟨Nat.le_of_ble_eq_true rfl, Nat.le_of_ble_eq_true rfl⟩) ⟨Nat.zero_le _, Nat.zero_le _⟩ rfl rfl (Nat.le_of_ble_eq_true rfl) dX2_readDigits_52 ?_
          refine px_if_eq C (tgt := 103) dX2_readDigits_55 (by decide) (fun c55_24 => ?_) (fun c55_24 => ?_)
          · replace h := el_t c55_24 h
            exact (hx0 _ h)
          · replace h := el_f c55_24 h
            refine px_aload_n C 0 dX2_readDigits_58 rfl rfl ?_
            refine px_aload_n C 0 dX2_readDigits_59 rfl rfl ?_
            refine px_geti C (j := 4) kx_3 rfl rfl iw_X2_readDigits_X2 (by decide) lk_X2_readDigits_73 rfl dX2_readDigits_60 ?_
            refine px_bipush C (v := (10 : Int32)) dX2_readDigits_63 (by decide) ?_
            refine px_imul C dX2_readDigits_65 ?_
            refine px_aload_n C 0 dX2_readDigits_66 rfl rfl ?_
            refine px_getr C (j := 0) kx_3 rfl rfl iw_X2_readDigits_X2 (by decide) lk_X2_readDigits_9 rfl dX2_readDigits_67 ?_
            refine px_aload_n C 0 dX2_readDigits_70 rfl rfl ?_
            refine px_geti C (j := 1) kx_3 rfl rfl iw_X2_readDigits_X2 (by decide) lk_X2_readDigits_20 rfl dX2_readDigits_71 ?_
            obtain ⟨x27, hc74_25, h⟩ := el_b h
            refine px_callV1 C (c_X7_letterAt l tA tB ad S7 (S7.1 3 1) hc74_25) (cwV 1 C.2.2.2.2.1 gX2_readDigits_X7_letterAt rfl rfl rfl (by decide +kernel) ⟨Nat.le_of_ble_eq_true rfl, Nat.le_of_ble_eq_true rfl⟩) ⟨Nat.zero_le _, Nat.zero_le _⟩ kx_1 rfl rfl rfl (Nat.le_of_ble_eq_true rfl) dX2_readDigits_74 ?_
            refine px_iadd C dX2_readDigits_77 ?_
            refine px_bipush C (v := (48 : Int32)) dX2_readDigits_78 (by decide) ?_
            refine px_isub C dX2_readDigits_80 ?_
            refine px_sipush C (v := (901 : Int32)) dX2_readDigits_81 (by decide) ?_
            refine px_min C (List.mem_of_getElem? (i := 6) rfl) (List.mem_of_getElem? (i := 7) rfl) (List.mem_of_getElem? (i := 8) rfl) (List.mem_of_getElem? (i := 9) rfl) ⟨Nat.zero_le _, Nat.zero_le _⟩ (Nat.le_of_ble_eq_true rfl) (Nat.le_of_ble_eq_true rfl) dX2_readDigits_84 ?_
            obtain ⟨S28, eS28, h⟩ := el_lt h
            refine px_puti C (ty := .int) (j := 4) kx_3 rfl rfl iw_X2_readDigits_X2 (by decide) lk_X2_readDigits_73 rfl tyX2 tyX2_ok nmX2 rfl (by decide +kernel) rfl rfl dX2_readDigits_87 ?_
            refine px_nmS eS28 ?_
            refine px_aload_n C 0 dX2_readDigits_90 rfl rfl ?_
            refine px_dup C dX2_readDigits_91 rfl ?_
            refine px_geti C (j := 1) kx_3 rfl rfl iw_X2_readDigits_X2 (by decide) lk_X2_readDigits_20 rfl dX2_readDigits_92 ?_
            refine px_iconst C (v := (1 : Int32)) dX2_readDigits_95 (by decide) ?_
            refine px_iadd C dX2_readDigits_96 ?_
            obtain ⟨S29, eS29, h⟩ := el_lt h
            refine px_puti C (ty := .int) (j := 1) kx_3 rfl rfl iw_X2_readDigits_X2 (by decide) lk_X2_readDigits_20 rfl tyX2 tyX2_ok nmX2 rfl (by decide +kernel) rfl rfl dX2_readDigits_97 ?_
            refine px_nmS eS29 ?_
            refine px_goto C (tgt := 27) dX2_readDigits_100 (by decide) ?_
            exact (ih0 _ h)
    exact px_sub [1, 0] rfl (hl0 _ _ h)
  clear h
  have h := hr13_29
  clear hr13_29
  refine px_icmp_ne C (tgt := 20) dX2_readDigits_13 (by decide) (fun c13_2 => ?_) (fun c13_2 => ?_)
  · replace h := el_t c13_2 h
    refine px_iconst C (v := (0 : Int32)) dX2_readDigits_20 (by decide) ?_
    cases h
    exact hj13_4
  · replace h := el_fn c13_2 h
    refine px_iconst C (v := (1 : Int32)) dX2_readDigits_16 (by decide) ?_
    refine px_goto C (tgt := 21) dX2_readDigits_17 (by decide) ?_
    cases h
    exact hj13_4
theorem lk_X2_readToken_9 : Cond.fieldLink RX2 9 "RiverTolls$Reader" "text" "LRiverTolls$Text;" ∈ wsX2_readToken := List.mem_of_getElem? (i := 2) rfl
theorem lk_X2_readToken_20 : Cond.fieldLink RX2 20 "RiverTolls$Reader" "place" "I" ∈ wsX2_readToken := List.mem_of_getElem? (i := 1) rfl
theorem lk_X2_readToken_34 : Cond.fieldLink RX2 34 "RiverTolls$Reader" "token" "I" ∈ wsX2_readToken := List.mem_of_getElem? (i := 5) rfl
theorem lk_X2_readToken_47 : Cond.fieldLink RX2 47 "RiverTolls$Reader" "start" "I" ∈ wsX2_readToken := List.mem_of_getElem? (i := 4) rfl
theorem lk_X2_readToken_90 : Cond.fieldLink RX2 90 "RiverTolls$Text" "length" "I" ∈ wsX2_readToken := List.mem_of_getElem? (i := 3) rfl
theorem iw_X2_readToken_X2 : ∀ w ∈ u_ws RX2 TX2 7, w ∈ wsX2_readToken := fun _ h9 => (List.mem_cons_of_mem _ (List.mem_append_left _ (List.mem_append_right _ h9)))
theorem iw_X2_readToken_X7 : ∀ w ∈ u_ws RX7 TX7 2, w ∈ wsX2_readToken := fun _ h9 => (List.mem_cons_of_mem _ (List.mem_append_right _ h9))
set_option maxHeartbeats 4000000 in
set_option maxRecDepth 100000 in
theorem c_X2_readToken (l : Launch) (tA tB : Nat) (ad : Nat → Nat) (fu : Nat) (S : St) {S' : St} (h : m_X2_readToken fu S = some S') :
    XMet l yX2_readToken wsX2_readToken ({ frames := 2, cells := 0, slots := 0, locals := 43 }) KX (.object "RiverTolls$Boat") tA tB [.ref (ad 3)] ad S none S' := by
  refine XMet.of (cc := cX2_readToken) (maxL := 2) (ret := none) (own := RX2) (lv := [(0, .ref (ad 3))]) rfl (by decide) rfl (Nat.le_of_ble_eq_true rfl) rfl ?_
  intro p e s m args below meth c D A cI c1 F C
  rw [m_X2_readToken] at h
  have hx0 : ∀  (S2 : St), m_X2_readToken_r0 fu S2 = some S' → PW p l e { frames := 2, cells := 0, slots := 0, locals := 43 } s m args below meth c (MQ below (QX KX A D cI c1 F ad none S') args s 0 0 A) D A cI c1 F KX ad 2 0 0 S2 [(0, .ref (ad 3))] 43 [] := by
    intro S2 h
    rw [m_X2_readToken_r0] at h
    refine px_aload_n C 0 dX2_readToken_43 rfl rfl ?_
    refine px_aload_n C 0 dX2_readToken_44 rfl rfl ?_
    refine px_geti C (j := 1) kx_3 rfl rfl iw_X2_readToken_X2 (by decide) lk_X2_readToken_20 rfl dX2_readToken_45 ?_
    obtain ⟨S3, eS3, h⟩ := el_lt h
    refine px_puti C (ty := .int) (j := 2) kx_3 rfl rfl iw_X2_readToken_X2 (by decide) lk_X2_readToken_47 rfl tyX2 tyX2_ok nmX2 rfl (by decide +kernel) rfl rfl dX2_readToken_48 ?_
    refine px_nmS eS3 ?_
    refine px_aload_n C 0 dX2_readToken_51 rfl rfl ?_
    refine px_geti C (j := 1) kx_3 rfl rfl iw_X2_readToken_X2 (by decide) lk_X2_readToken_20 rfl dX2_readToken_52 ?_
    refine px_aload_n C 0 dX2_readToken_55 rfl rfl ?_
    refine px_getr C (j := 0) kx_3 rfl rfl iw_X2_readToken_X2 (by decide) lk_X2_readToken_9 rfl dX2_readToken_56 ?_
    refine px_geti C (j := 0) kx_1 rfl rfl iw_X2_readToken_X7 (by decide) lk_X2_readToken_90 rfl dX2_readToken_59 ?_
    refine px_icmp_lt C (tgt := 71) dX2_readToken_62 (by decide) (fun c62_3 => ?_) (fun c62_3 => ?_)
    · replace h := el_t c62_3 h
      refine px_aload_n C 0 dX2_readToken_71 rfl rfl ?_
      refine px_getr C (j := 0) kx_3 rfl rfl iw_X2_readToken_X2 (by decide) lk_X2_readToken_9 rfl dX2_readToken_72 ?_
      refine px_aload_n C 0 dX2_readToken_75 rfl rfl ?_
      refine px_geti C (j := 1) kx_3 rfl rfl iw_X2_readToken_X2 (by decide) lk_X2_readToken_20 rfl dX2_readToken_76 ?_
      obtain ⟨x6, hc79_4, h⟩ := el_b h
      refine px_callV1 C (c_X7_letterAt l tA tB ad S3 (S3.1 3 1) hc79_4) (cwV 1 C.2.2.2.2.1 gX2_readToken_X7_letterAt rfl rfl rfl (by decide +kernel) ⟨Nat.le_of_ble_eq_true rfl, Nat.le_of_ble_eq_true rfl⟩) ⟨Nat.zero_le _, Nat.zero_le _⟩ kx_1 rfl rfl rfl (Nat.le_of_ble_eq_true rfl) dX2_readToken_79 ?_
      refine px_istore_n C [(1, .int x6), (0, .ref (ad 3))] dX2_readToken_82 rfl (by decide) rfl ?_
      refine px_iload_n C 0 dX2_readToken_83 rfl rfl ?_
      obtain ⟨x8, hc84_6, h⟩ := el_b h
      refine px_callS1 C (c_X2_isDigit l tA tB ad S3 x6 hc84_6) (va_cwS 1 C.2.2.2.2.1 gX2_readToken_X2_isDigit rfl rfl rfl (by decide +kernel) ⟨Nat.le_of_ble_eq_true rfl, Nat.le_of_ble_eq_true rfl⟩) ⟨Nat.zero_le _, Nat.zero_le _⟩ rfl rfl (Nat.le_of_ble_eq_true rfl) dX2_readToken_84 ?_
      refine px_if_eq C (tgt := 95) dX2_readToken_87 (by decide) (fun c87_8 => ?_) (fun c87_8 => ?_)
      · replace h := el_t c87_8 h
        refine px_aload_n C 1 dX2_readToken_95 rfl rfl ?_
        refine px_dup C dX2_readToken_96 rfl ?_
        refine px_geti C (j := 1) kx_3 rfl rfl iw_X2_readToken_X2 (by decide) lk_X2_readToken_20 rfl dX2_readToken_97 ?_
        refine px_iconst C (v := (1 : Int32)) dX2_readToken_100 (by decide) ?_
        refine px_iadd C dX2_readToken_101 ?_
        obtain ⟨S10, eS10, h⟩ := el_lt h
        refine px_puti C (ty := .int) (j := 1) kx_3 rfl rfl iw_X2_readToken_X2 (by decide) lk_X2_readToken_20 rfl tyX2 tyX2_ok nmX2 rfl (by decide +kernel) rfl rfl dX2_readToken_102 ?_
        refine px_nmS eS10 ?_
        refine px_aload_n C 1 dX2_readToken_105 rfl rfl ?_
        refine px_iload_n C 0 dX2_readToken_106 rfl rfl ?_
        obtain ⟨x12, hc107_10, h⟩ := el_b h
        refine px_callS1 C (c_X2_isSign l tA tB ad S10 x6 hc107_10) (va_cwS 1 C.2.2.2.2.1 gX2_readToken_X2_isSign rfl rfl rfl (by decide +kernel) ⟨Nat.le_of_ble_eq_true rfl, Nat.le_of_ble_eq_true rfl⟩) ⟨Nat.zero_le _, Nat.zero_le _⟩ rfl rfl (Nat.le_of_ble_eq_true rfl) dX2_readToken_107 ?_
        obtain ⟨x14, hr110_16, h⟩ := el_b h
        have hj110_14 : PW p l e { frames := 2, cells := 0, slots := 0, locals := 43 } s m args below meth c (MQ below (QX KX A D cI c1 F ad none S') args s 0 0 A) D A cI c1 F KX ad 2 0 0 S10 [(0, .ref (ad 3)), (1, .int x6)] 119 [.int x14, .ref (ad 3)] := by
          obtain ⟨S16, eS16, h⟩ := el_lt h
          refine px_puti C (ty := .int) (j := 3) kx_3 rfl rfl iw_X2_readToken_X2 (by decide) lk_X2_readToken_34 rfl tyX2 tyX2_ok nmX2 rfl (by decide +kernel) rfl rfl dX2_readToken_119 ?_
          refine px_nmS eS16 ?_
          exact px_vretE C dX2_readToken_122 h
        clear h
        have h := hr110_16
        clear hr110_16
        refine px_if_eq C (tgt := 117) dX2_readToken_110 (by decide) (fun c110_12 => ?_) (fun c110_12 => ?_)
        · replace h := el_t c110_12 h
          refine px_bipush C (v := (-2 : Int32)) dX2_readToken_117 (by decide) ?_
          cases h
          exact px_sub [1, 0] rfl hj110_14
        · replace h := el_f c110_12 h
          refine px_iload_n C 0 dX2_readToken_113 rfl rfl ?_
          refine px_goto C (tgt := 119) dX2_readToken_114 (by decide) ?_
          cases h
          exact px_sub [1, 0] rfl hj110_14
      · replace h := el_f c87_8 h
        refine px_aload_n C 1 dX2_readToken_90 rfl rfl ?_
        obtain ⟨S19, hc91_17, h⟩ := el_b h
        refine px_callV0 C (c_X2_readDigits l tA tB ad fu S3 hc91_17) (cwV 0 C.2.2.2.2.1 gX2_readToken_X2_readDigits rfl rfl rfl (by decide +kernel) ⟨Nat.le_of_ble_eq_true rfl, Nat.le_of_ble_eq_true rfl⟩) ⟨Nat.zero_le _, Nat.zero_le _⟩ kx_3 rfl rfl rfl (Nat.le_of_ble_eq_true rfl) dX2_readToken_91 ?_
        exact px_vretE C dX2_readToken_94 h
    · replace h := el_f c62_3 h
      refine px_aload_n C 0 dX2_readToken_65 rfl rfl ?_
      refine px_iconst C (v := (-1 : Int32)) dX2_readToken_66 (by decide) ?_
      obtain ⟨S20, eS20, h⟩ := el_lt h
      refine px_puti C (ty := .int) (j := 3) kx_3 rfl rfl iw_X2_readToken_X2 (by decide) lk_X2_readToken_34 rfl tyX2 tyX2_ok nmX2 rfl (by decide +kernel) rfl rfl dX2_readToken_67 ?_
      refine px_nmS eS20 ?_
      exact px_vretE C dX2_readToken_70 h
  have hl0 : ∀ (n_0 : Nat) (S1 : St), m_X2_readToken_L0 (m_X2_readToken_r0 fu) n_0 S1 = some S' → PW p l e { frames := 2, cells := 0, slots := 0, locals := 43 } s m args below meth c (MQ below (QX KX A D cI c1 F ad none S') args s 0 0 A) D A cI c1 F KX ad 2 0 0 S1 [(0, .ref (ad 3))] 0 [] := by
    intro n_0
    induction n_0 with
    | zero =>
      intro S1 h
      rw [m_X2_readToken_L0_z] at h
      cases h
    | succ n_0 ih0 =>
      intro S1 h
      rw [m_X2_readToken_L0_s] at h
      refine px_aload_n C 0 dX2_readToken_0 rfl rfl ?_
      refine px_geti C (j := 1) kx_3 rfl rfl iw_X2_readToken_X2 (by decide) lk_X2_readToken_20 rfl dX2_readToken_1 ?_
      refine px_aload_n C 0 dX2_readToken_4 rfl rfl ?_
      refine px_getr C (j := 0) kx_3 rfl rfl iw_X2_readToken_X2 (by decide) lk_X2_readToken_9 rfl dX2_readToken_5 ?_
      refine px_geti C (j := 0) kx_1 rfl rfl iw_X2_readToken_X7 (by decide) lk_X2_readToken_90 rfl dX2_readToken_8 ?_
      refine px_icmp_ge C (tgt := 43) dX2_readToken_11 (by decide) (fun c11_20 => ?_) (fun c11_20 => ?_)
      · replace h := el_t c11_20 h
        exact (hx0 _ h)
      · replace h := el_f c11_20 h
        refine px_aload_n C 0 dX2_readToken_14 rfl rfl ?_
        refine px_getr C (j := 0) kx_3 rfl rfl iw_X2_readToken_X2 (by decide) lk_X2_readToken_9 rfl dX2_readToken_15 ?_
        refine px_aload_n C 0 dX2_readToken_18 rfl rfl ?_
        refine px_geti C (j := 1) kx_3 rfl rfl iw_X2_readToken_X2 (by decide) lk_X2_readToken_20 rfl dX2_readToken_19 ?_
        obtain ⟨x23, hc22_21, h⟩ := el_b h
        refine px_callV1 C (c_X7_letterAt l tA tB ad S1 (S1.1 3 1) hc22_21) (cwV 1 C.2.2.2.2.1 gX2_readToken_X7_letterAt rfl rfl rfl (by decide +kernel) ⟨Nat.le_of_ble_eq_true rfl, Nat.le_of_ble_eq_true rfl⟩) ⟨Nat.zero_le _, Nat.zero_le _⟩ kx_1 rfl rfl rfl (Nat.le_of_ble_eq_true rfl) dX2_readToken_22 ?_
        refine px_bipush C (v := (32 : Int32)) dX2_readToken_25 (by decide) ?_
        refine px_icmp_ne C (tgt := 43) dX2_readToken_27 (by decide) (fun c27_23 => ?_) (fun c27_23 => ?_)
        · replace h := el_t c27_23 h
          exact (hx0 _ h)
        · replace h := el_fn c27_23 h
          refine px_aload_n C 0 dX2_readToken_30 rfl rfl ?_
          refine px_dup C dX2_readToken_31 rfl ?_
          refine px_geti C (j := 1) kx_3 rfl rfl iw_X2_readToken_X2 (by decide) lk_X2_readToken_20 rfl dX2_readToken_32 ?_
          refine px_iconst C (v := (1 : Int32)) dX2_readToken_35 (by decide) ?_
          refine px_iadd C dX2_readToken_36 ?_
          obtain ⟨S25, eS25, h⟩ := el_lt h
          refine px_puti C (ty := .int) (j := 1) kx_3 rfl rfl iw_X2_readToken_X2 (by decide) lk_X2_readToken_20 rfl tyX2 tyX2_ok nmX2 rfl (by decide +kernel) rfl rfl dX2_readToken_37 ?_
          refine px_nmS eS25 ?_
          refine px_goto C (tgt := 0) dX2_readToken_40 (by decide) ?_
          exact (ih0 _ h)
  exact (hl0 _ _ h)
theorem lk_X2_readNumber_34 : Cond.fieldLink RX2 34 "RiverTolls$Reader" "token" "I" ∈ wsX2_readNumber := List.mem_of_getElem? (i := 1) rfl
theorem lk_X2_readNumber_73 : Cond.fieldLink RX2 73 "RiverTolls$Reader" "value" "I" ∈ wsX2_readNumber := List.mem_of_getElem? (i := 2) rfl
theorem iw_X2_readNumber_X2 : ∀ w ∈ u_ws RX2 TX2 7, w ∈ wsX2_readNumber := fun _ h9 => (List.mem_cons_of_mem _ (List.mem_append_left _ (List.mem_append_right _ h9)))
set_option maxHeartbeats 4000000 in
set_option maxRecDepth 100000 in
theorem c_X2_readNumber (l : Launch) (tA tB : Nat) (ad : Nat → Nat) (fu : Nat) (S : St) (a1 : Int32) (a2 : Int32) {rv : Int32} {S' : St} (h : m_X2_readNumber fu S a1 a2 = some (rv, S')) :
    XMet l yX2_readNumber wsX2_readNumber ({ frames := 3, cells := 0, slots := 0, locals := 64 }) KX (.object "RiverTolls$Boat") tA tB [.ref (ad 3), .int a1, .int a2] ad S (some (.int rv)) S' := by
  refine XMet.of (cc := cX2_readNumber) (maxL := 3) (ret := (some .boolean)) (own := RX2) (lv := [(0, .ref (ad 3)), (1, .int a1), (2, .int a2)]) rfl (by decide) rfl (Nat.le_of_ble_eq_true rfl) rfl ?_
  intro p e s m args below meth c D A cI c1 F C
  rw [m_X2_readNumber] at h
  refine px_aload_n C 0 dX2_readNumber_0 rfl rfl ?_
  obtain ⟨S2, hc1_0, h⟩ := el_b h
  refine px_callV0 C (c_X2_readToken l tA tB ad fu S hc1_0) (cwV 0 C.2.2.2.2.1 gX2_readNumber_X2_readToken rfl rfl rfl (by decide +kernel) ⟨Nat.le_of_ble_eq_true rfl, Nat.le_of_ble_eq_true rfl⟩) ⟨Nat.zero_le _, Nat.zero_le _⟩ kx_3 rfl rfl rfl (Nat.le_of_ble_eq_true rfl) dX2_readNumber_1 ?_
  refine px_aload_n C 0 dX2_readNumber_4 rfl rfl ?_
  refine px_geti C (j := 3) kx_3 rfl rfl iw_X2_readNumber_X2 (by decide) lk_X2_readNumber_34 rfl dX2_readNumber_5 ?_
  refine px_bipush C (v := (-3 : Int32)) dX2_readNumber_8 (by decide) ?_
  refine px_icmp_ne C (tgt := 33) dX2_readNumber_10 (by decide) (fun c10_2 => ?_) (fun c10_2 => ?_)
  · replace h := el_t c10_2 h
    refine px_iconst C (v := (0 : Int32)) dX2_readNumber_33 (by decide) ?_
    exact px_zretES C (Or.inl rfl) dX2_readNumber_34 h
  · replace h := el_fn c10_2 h
    refine px_aload_n C 0 dX2_readNumber_13 rfl rfl ?_
    refine px_geti C (j := 4) kx_3 rfl rfl iw_X2_readNumber_X2 (by decide) lk_X2_readNumber_73 rfl dX2_readNumber_14 ?_
    refine px_iload_n C 1 dX2_readNumber_17 rfl rfl ?_
    refine px_icmp_lt C (tgt := 33) dX2_readNumber_18 (by decide) (fun c18_3 => ?_) (fun c18_3 => ?_)
    · replace h := el_t c18_3 h
      refine px_iconst C (v := (0 : Int32)) dX2_readNumber_33 (by decide) ?_
      exact px_zretES C (Or.inl rfl) dX2_readNumber_34 h
    · replace h := el_f c18_3 h
      refine px_aload_n C 0 dX2_readNumber_21 rfl rfl ?_
      refine px_geti C (j := 4) kx_3 rfl rfl iw_X2_readNumber_X2 (by decide) lk_X2_readNumber_73 rfl dX2_readNumber_22 ?_
      refine px_iload_n C 2 dX2_readNumber_25 rfl rfl ?_
      refine px_icmp_gt C (tgt := 33) dX2_readNumber_26 (by decide) (fun c26_4 => ?_) (fun c26_4 => ?_)
      · replace h := el_t c26_4 h
        refine px_iconst C (v := (0 : Int32)) dX2_readNumber_33 (by decide) ?_
        exact px_zretES C (Or.inl rfl) dX2_readNumber_34 h
      · replace h := el_f c26_4 h
        refine px_iconst C (v := (1 : Int32)) dX2_readNumber_29 (by decide) ?_
        refine px_goto C (tgt := 34) dX2_readNumber_30 (by decide) ?_
        exact px_zretES C (Or.inr rfl) dX2_readNumber_34 h
theorem lk_X3_tell_9 : Cond.fieldLink RX3 9 "RiverTolls$River" "facts" "[I" ∈ wsX3_tell := List.mem_of_getElem? (i := 1) rfl
theorem iw_X3_tell_X3 : ∀ w ∈ u_ws RX3 TX3 5, w ∈ wsX3_tell := fun _ h9 => (List.mem_cons_of_mem _ (List.mem_append_right _ h9))
set_option maxHeartbeats 4000000 in
set_option maxRecDepth 100000 in
theorem c_X3_tell (l : Launch) (tA tB : Nat) (ad : Nat → Nat) (S : St) (a1 : Int32) (a2 : Int32) (a3 : Int32) {S' : St} (h : m_X3_tell S a1 a2 a3 = some S') :
    XMet l yX3_tell wsX3_tell ({ frames := 1, cells := 0, slots := 0, locals := 22 }) KX (.object "RiverTolls$Boat") tA tB [.ref (ad 4), .int a1, .int a2, .int a3] ad S none S' := by
  refine XMet.of (cc := cX3_tell) (maxL := 4) (ret := none) (own := RX3) (lv := [(0, .ref (ad 4)), (1, .int a1), (2, .int a2), (3, .int a3)]) rfl (by decide) rfl (Nat.le_of_ble_eq_true rfl) rfl ?_
  intro p e s m args below meth c D A cI c1 F C
  rw [m_X3_tell] at h
  refine px_aload_n C 0 dX3_tell_0 rfl rfl ?_
  refine px_getr C (j := 4) kx_4 rfl rfl iw_X3_tell_X3 (by decide) lk_X3_tell_9 rfl dX3_tell_1 ?_
  refine px_iload_n C 1 dX3_tell_4 rfl rfl ?_
  refine px_iconst C (v := (5 : Int32)) dX3_tell_5 (by decide) ?_
  refine px_imul C dX3_tell_6 ?_
  refine px_iload_n C 2 dX3_tell_7 rfl rfl ?_
  refine px_iadd C dX3_tell_8 ?_
  refine px_iload_n C 3 dX3_tell_9 rfl rfl ?_
  obtain ⟨S2, hc10_0, h⟩ := el_b h
  refine px_callS0 C (c_X5_put l tA tB ad S 5 40 ((a1 * (5 : Int32)) + a2) a3 kx_5 hc10_0) (va_cwS 3 C.2.2.2.2.1 gX3_tell_X5_put rfl rfl rfl (by decide +kernel) ⟨Nat.le_of_ble_eq_true rfl, Nat.le_of_ble_eq_true rfl⟩) ⟨Nat.zero_le _, Nat.zero_le _⟩ rfl rfl (Nat.le_of_ble_eq_true rfl) dX3_tell_10 ?_
  exact px_vretE C dX3_tell_13 h
theorem lk_X2_readEnd_34 : Cond.fieldLink RX2 34 "RiverTolls$Reader" "token" "I" ∈ wsX2_readEnd := List.mem_of_getElem? (i := 1) rfl
theorem iw_X2_readEnd_X2 : ∀ w ∈ u_ws RX2 TX2 7, w ∈ wsX2_readEnd := fun _ h9 => (List.mem_cons_of_mem _ (List.mem_append_left _ (List.mem_append_right _ h9)))
set_option maxHeartbeats 4000000 in
set_option maxRecDepth 100000 in
theorem c_X2_readEnd (l : Launch) (tA tB : Nat) (ad : Nat → Nat) (fu : Nat) (S : St) {rv : Int32} {S' : St} (h : m_X2_readEnd fu S = some (rv, S')) :
    XMet l yX2_readEnd wsX2_readEnd ({ frames := 3, cells := 0, slots := 0, locals := 64 }) KX (.object "RiverTolls$Boat") tA tB [.ref (ad 3)] ad S (some (.int rv)) S' := by
  refine XMet.of (cc := cX2_readEnd) (maxL := 1) (ret := (some .boolean)) (own := RX2) (lv := [(0, .ref (ad 3))]) rfl (by decide) rfl (Nat.le_of_ble_eq_true rfl) rfl ?_
  intro p e s m args below meth c D A cI c1 F C
  rw [m_X2_readEnd] at h
  refine px_aload_n C 0 dX2_readEnd_0 rfl rfl ?_
  obtain ⟨S2, hc1_0, h⟩ := el_b h
  refine px_callV0 C (c_X2_readToken l tA tB ad fu S hc1_0) (cwV 0 C.2.2.2.2.1 gX2_readEnd_X2_readToken rfl rfl rfl (by decide +kernel) ⟨Nat.le_of_ble_eq_true rfl, Nat.le_of_ble_eq_true rfl⟩) ⟨Nat.zero_le _, Nat.zero_le _⟩ kx_3 rfl rfl rfl (Nat.le_of_ble_eq_true rfl) dX2_readEnd_1 ?_
  refine px_aload_n C 0 dX2_readEnd_4 rfl rfl ?_
  refine px_geti C (j := 3) kx_3 rfl rfl iw_X2_readEnd_X2 (by decide) lk_X2_readEnd_34 rfl dX2_readEnd_5 ?_
  refine px_bipush C (v := (59 : Int32)) dX2_readEnd_8 (by decide) ?_
  refine px_icmp_ne C (tgt := 17) dX2_readEnd_10 (by decide) (fun c10_2 => ?_) (fun c10_2 => ?_)
  · replace h := el_t c10_2 h
    refine px_iconst C (v := (0 : Int32)) dX2_readEnd_17 (by decide) ?_
    exact px_zretES C (Or.inl rfl) dX2_readEnd_18 h
  · replace h := el_fn c10_2 h
    refine px_iconst C (v := (1 : Int32)) dX2_readEnd_13 (by decide) ?_
    refine px_goto C (tgt := 18) dX2_readEnd_14 (by decide) ?_
    exact px_zretES C (Or.inr rfl) dX2_readEnd_18 h
theorem lk_X2_readRock_53 : Cond.fieldLink RX2 53 "RiverTolls$River" "rocks" "I" ∈ wsX2_readRock := List.mem_of_getElem? (i := 1) rfl
theorem lk_X2_readRock_56 : Cond.fieldLink RX2 56 "RiverTolls$Reader" "LEAST_FACTS" "[I" ∈ wsX2_readRock := List.mem_of_getElem? (i := 2) rfl
theorem lk_X2_readRock_66 : Cond.fieldLink RX2 66 "RiverTolls$Reader" "MOST_FACTS" "[I" ∈ wsX2_readRock := List.mem_of_getElem? (i := 3) rfl
theorem lk_X2_readRock_73 : Cond.fieldLink RX2 73 "RiverTolls$Reader" "value" "I" ∈ wsX2_readRock := List.mem_of_getElem? (i := 4) rfl
theorem iw_X2_readRock_X2 : ∀ w ∈ u_ws RX2 TX2 7, w ∈ wsX2_readRock := fun _ h9 => (List.mem_cons_of_mem _ (List.mem_append_left _ (List.mem_append_right _ h9)))
theorem iw_X2_readRock_X3 : ∀ w ∈ u_ws RX3 TX3 5, w ∈ wsX2_readRock := fun _ h9 => (List.mem_cons_of_mem _ (List.mem_append_left _ (List.mem_append_left _ (List.mem_append_right _ h9))))
set_option maxHeartbeats 4000000 in
set_option maxRecDepth 100000 in
theorem c_X2_readRock (l : Launch) (tA tB : Nat) (ad : Nat → Nat) (fu : Nat) (S : St) {rv : Int32} {S' : St} (h : m_X2_readRock fu S = some (rv, S')) :
    XMet l yX2_readRock wsX2_readRock ({ frames := 4, cells := 0, slots := 0, locals := 86 }) KX (.object "RiverTolls$Boat") tA tB [.ref (ad 3), .ref (ad 4)] ad S (some (.int rv)) S' := by
  refine XMet.of (cc := cX2_readRock) (maxL := 3) (ret := (some .boolean)) (own := RX2) (lv := [(0, .ref (ad 3)), (1, .ref (ad 4))]) rfl (by decide) rfl (Nat.le_of_ble_eq_true rfl) rfl ?_
  intro p e s m args below meth c D A cI c1 F C
  rw [m_X2_readRock] at h
  refine px_aload_n C 1 dX2_readRock_0 rfl rfl ?_
  refine px_geti C (j := 0) kx_4 rfl rfl iw_X2_readRock_X3 (by decide) lk_X2_readRock_53 rfl dX2_readRock_1 ?_
  refine px_bipush C (v := (8 : Int32)) dX2_readRock_4 (by decide) ?_
  refine px_icmp_lt C (tgt := 11) dX2_readRock_6 (by decide) (fun c6_0 => ?_) (fun c6_0 => ?_)
  · replace h := el_t c6_0 h
    refine px_iconst C (v := (0 : Int32)) dX2_readRock_11 (by decide) ?_
    refine px_istore_n C [(2, .int (0 : Int32)), (0, .ref (ad 3)), (1, .ref (ad 4))] dX2_readRock_12 rfl (by decide) rfl ?_
    have hx0 : ∀  (x4 : Int32) (S5 : St), m_X2_readRock_r0 fu x4 S5 = some (rv, S') → PW p l e { frames := 4, cells := 0, slots := 0, locals := 86 } s m args below meth c (MQ below (QX KX A D cI c1 F ad (some (.int rv)) S') args s 0 0 A) D A cI c1 F KX ad 3 0 0 S5 [(0, .ref (ad 3)), (1, .ref (ad 4)), (2, .int x4)] 60 [] := by
      intro x4 S5 h
      rw [m_X2_readRock_r0] at h
      refine px_aload_n C 1 dX2_readRock_60 rfl rfl ?_
      refine px_dup C dX2_readRock_61 rfl ?_
      refine px_geti C (j := 0) kx_4 rfl rfl iw_X2_readRock_X3 (by decide) lk_X2_readRock_53 rfl dX2_readRock_62 ?_
      refine px_iconst C (v := (1 : Int32)) dX2_readRock_65 (by decide) ?_
      refine px_iadd C dX2_readRock_66 ?_
      obtain ⟨S6, eS6, h⟩ := el_lt h
      refine px_puti C (ty := .int) (j := 0) kx_4 rfl rfl iw_X2_readRock_X3 (by decide) lk_X2_readRock_53 rfl tyX3 tyX3_ok nmX3 rfl (by decide +kernel) rfl rfl dX2_readRock_67 ?_
      refine px_nmS eS6 ?_
      refine px_aload_n C 0 dX2_readRock_70 rfl rfl ?_
      obtain ⟨x8, S9, hc71_6, h⟩ := el_b2 h
      refine px_callV1 C (c_X2_readEnd l tA tB ad fu S6 hc71_6) (cwV 0 C.2.2.2.2.1 gX2_readRock_X2_readEnd rfl rfl rfl (by decide +kernel) ⟨Nat.le_of_ble_eq_true rfl, Nat.le_of_ble_eq_true rfl⟩) ⟨Nat.zero_le _, Nat.zero_le _⟩ kx_3 rfl rfl rfl (Nat.le_of_ble_eq_true rfl) dX2_readRock_71 ?_
      obtain ⟨hzb, h⟩ := el_zb h
      exact px_zretES C hzb dX2_readRock_74 h
    have hl0 : ∀ (n_0 : Nat) (x2 : Int32) (S3 : St), m_X2_readRock_L0 fu (m_X2_readRock_r0 fu) n_0 x2 S3 = some (rv, S') → PW p l e { frames := 4, cells := 0, slots := 0, locals := 86 } s m args below meth c (MQ below (QX KX A D cI c1 F ad (some (.int rv)) S') args s 0 0 A) D A cI c1 F KX ad 3 0 0 S3 [(0, .ref (ad 3)), (1, .ref (ad 4)), (2, .int x2)] 13 [] := by
      intro n_0
      induction n_0 with
      | zero =>
        intro x2 S3 h
        rw [m_X2_readRock_L0_z] at h
        cases h
      | succ n_0 ih0 =>
        intro x2 S3 h
        rw [m_X2_readRock_L0_s] at h
        refine px_iload_n C 2 dX2_readRock_13 rfl rfl ?_
        refine px_iconst C (v := (5 : Int32)) dX2_readRock_14 (by decide) ?_
        refine px_icmp_ge C (tgt := 60) dX2_readRock_15 (by decide) (fun c15_9 => ?_) (fun c15_9 => ?_)
        · replace h := el_t c15_9 h
          exact (hx0 _ _ h)
        · replace h := el_f c15_9 h
          refine px_aload_n C 0 dX2_readRock_18 rfl rfl ?_
          refine px_getsA C lk_X2_readRock_56 dX2_readRock_19 ?_
          refine px_iload_n C 2 dX2_readRock_22 rfl rfl ?_
          obtain ⟨x12, hc23_10, h⟩ := el_b h
          refine px_callS1 C (c_X5_getA l tA tB ad S3 x2 hc23_10) (va_cwS 2 C.2.2.2.2.1 gX2_readRock_X5_get rfl rfl rfl (by decide +kernel) ⟨Nat.le_of_ble_eq_true rfl, Nat.le_of_ble_eq_true rfl⟩) ⟨Nat.zero_le _, Nat.zero_le _⟩ rfl rfl (Nat.le_of_ble_eq_true rfl) dX2_readRock_23 ?_
          refine px_getsB C lk_X2_readRock_66 dX2_readRock_26 ?_
          refine px_iload_n C 2 dX2_readRock_29 rfl rfl ?_
          obtain ⟨x14, hc30_12, h⟩ := el_b h
          refine px_callS1 C (c_X5_getB l tA tB ad S3 x2 hc30_12) (va_cwS 2 C.2.2.2.2.1 gX2_readRock_X5_get rfl rfl rfl (by decide +kernel) ⟨Nat.le_of_ble_eq_true rfl, Nat.le_of_ble_eq_true rfl⟩) ⟨Nat.zero_le _, Nat.zero_le _⟩ rfl rfl (Nat.le_of_ble_eq_true rfl) dX2_readRock_30 ?_
          obtain ⟨x16, S17, hc33_14, h⟩ := el_b2 h
          refine px_callV1 C (c_X2_readNumber l tA tB ad fu S3 x12 x14 hc33_14) (cwV 2 C.2.2.2.2.1 gX2_readRock_X2_readNumber rfl rfl rfl (by decide +kernel) ⟨Nat.le_of_ble_eq_true rfl, Nat.le_of_ble_eq_true rfl⟩) ⟨Nat.zero_le _, Nat.zero_le _⟩ kx_3 rfl rfl rfl (Nat.le_of_ble_eq_true rfl) dX2_readRock_33 ?_
          refine px_if_ne C (tgt := 41) dX2_readRock_36 (by decide) (fun c36_17 => ?_) (fun c36_17 => ?_)
          · replace h := el_t c36_17 h
            refine px_aload_n C 1 dX2_readRock_41 rfl rfl ?_
            refine px_aload_n C 1 dX2_readRock_42 rfl rfl ?_
            refine px_geti C (j := 0) kx_4 rfl rfl iw_X2_readRock_X3 (by decide) lk_X2_readRock_53 rfl dX2_readRock_43 ?_
            refine px_iload_n C 2 dX2_readRock_46 rfl rfl ?_
            refine px_aload_n C 0 dX2_readRock_47 rfl rfl ?_
            refine px_geti C (j := 4) kx_3 rfl rfl iw_X2_readRock_X2 (by decide) lk_X2_readRock_73 rfl dX2_readRock_48 ?_
            obtain ⟨S20, hc51_18, h⟩ := el_b h
            refine px_callV0 C (c_X3_tell l tA tB ad S17 (S17.1 4 0) x2 (S17.1 3 4) hc51_18) (cwV 3 C.2.2.2.2.1 gX2_readRock_X3_tell rfl rfl rfl (by decide +kernel) ⟨Nat.le_of_ble_eq_true rfl, Nat.le_of_ble_eq_true rfl⟩) ⟨Nat.zero_le _, Nat.zero_le _⟩ kx_4 rfl rfl rfl (Nat.le_of_ble_eq_true rfl) dX2_readRock_51 ?_
            refine px_iinc C 2 [(2, .int (x2 + (1 : Int32))), (0, .ref (ad 3)), (1, .ref (ad 4))] dX2_readRock_54 rfl rfl (by decide) rfl ?_
            refine px_goto C (tgt := 13) dX2_readRock_57 (by decide) ?_
            exact px_sub [1, 2, 0] rfl (ih0 _ _ h)
          · replace h := el_fn c36_17 h
            refine px_iconst C (v := (0 : Int32)) dX2_readRock_39 (by decide) ?_
            exact px_zretES C (Or.inl rfl) dX2_readRock_40 h
    exact px_sub [1, 2, 0] rfl (hl0 _ _ _ h)
  · replace h := el_f c6_0 h
    refine px_iconst C (v := (0 : Int32)) dX2_readRock_9 (by decide) ?_
    exact px_zretES C (Or.inl rfl) dX2_readRock_10 h
theorem lk_X2_readBarrels_24 : Cond.fieldLink RX2 24 "RiverTolls$Reader" "barrelsTold" "Z" ∈ wsX2_readBarrels := List.mem_of_getElem? (i := 1) rfl
theorem lk_X2_readBarrels_73 : Cond.fieldLink RX2 73 "RiverTolls$Reader" "value" "I" ∈ wsX2_readBarrels := List.mem_of_getElem? (i := 2) rfl
theorem lk_X2_readBarrels_84 : Cond.fieldLink RX2 84 "RiverTolls$River" "barrels" "I" ∈ wsX2_readBarrels := List.mem_of_getElem? (i := 3) rfl
theorem iw_X2_readBarrels_X2 : ∀ w ∈ u_ws RX2 TX2 7, w ∈ wsX2_readBarrels := fun _ h9 => (List.mem_cons_of_mem _ (List.mem_append_left _ (List.mem_append_left _ (List.mem_append_right _ h9))))
theorem iw_X2_readBarrels_X3 : ∀ w ∈ u_ws RX3 TX3 5, w ∈ wsX2_readBarrels := fun _ h9 => (List.mem_cons_of_mem _ (List.mem_append_left _ (List.mem_append_right _ h9)))
set_option maxHeartbeats 4000000 in
set_option maxRecDepth 100000 in
theorem c_X2_readBarrels (l : Launch) (tA tB : Nat) (ad : Nat → Nat) (fu : Nat) (S : St) {rv : Int32} {S' : St} (h : m_X2_readBarrels fu S = some (rv, S')) :
    XMet l yX2_readBarrels wsX2_readBarrels ({ frames := 4, cells := 0, slots := 0, locals := 86 }) KX (.object "RiverTolls$Boat") tA tB [.ref (ad 3), .ref (ad 4)] ad S (some (.int rv)) S' := by
  refine XMet.of (cc := cX2_readBarrels) (maxL := 2) (ret := (some .boolean)) (own := RX2) (lv := [(0, .ref (ad 3)), (1, .ref (ad 4))]) rfl (by decide) rfl (Nat.le_of_ble_eq_true rfl) rfl ?_
  intro p e s m args below meth c D A cI c1 F C
  rw [m_X2_readBarrels] at h
  refine px_aload_n C 0 dX2_readBarrels_0 rfl rfl ?_
  refine px_geti C (j := 5) kx_3 rfl rfl iw_X2_readBarrels_X2 (by decide) lk_X2_readBarrels_24 rfl dX2_readBarrels_1 ?_
  refine px_if_ne C (tgt := 17) dX2_readBarrels_4 (by decide) (fun c4_0 => ?_) (fun c4_0 => ?_)
  · replace h := el_t c4_0 h
    refine px_iconst C (v := (0 : Int32)) dX2_readBarrels_17 (by decide) ?_
    exact px_zretES C (Or.inl rfl) dX2_readBarrels_18 h
  · replace h := el_fn c4_0 h
    refine px_aload_n C 0 dX2_readBarrels_7 rfl rfl ?_
    refine px_iconst C (v := (1 : Int32)) dX2_readBarrels_8 (by decide) ?_
    refine px_bipush C (v := (30 : Int32)) dX2_readBarrels_9 (by decide) ?_
    obtain ⟨x3, S4, hc11_1, h⟩ := el_b2 h
    refine px_callV1 C (c_X2_readNumber l tA tB ad fu S (1 : Int32) (30 : Int32) hc11_1) (cwV 2 C.2.2.2.2.1 gX2_readBarrels_X2_readNumber rfl rfl rfl (by decide +kernel) ⟨Nat.le_of_ble_eq_true rfl, Nat.le_of_ble_eq_true rfl⟩) ⟨Nat.zero_le _, Nat.zero_le _⟩ kx_3 rfl rfl rfl (Nat.le_of_ble_eq_true rfl) dX2_readBarrels_11 ?_
    refine px_if_ne C (tgt := 19) dX2_readBarrels_14 (by decide) (fun c14_4 => ?_) (fun c14_4 => ?_)
    · replace h := el_t c14_4 h
      refine px_aload_n C 1 dX2_readBarrels_19 rfl rfl ?_
      refine px_aload_n C 0 dX2_readBarrels_20 rfl rfl ?_
      refine px_geti C (j := 4) kx_3 rfl rfl iw_X2_readBarrels_X2 (by decide) lk_X2_readBarrels_73 rfl dX2_readBarrels_21 ?_
      obtain ⟨S6, eS6, h⟩ := el_lt h
      refine px_puti C (ty := .int) (j := 1) kx_4 rfl rfl iw_X2_readBarrels_X3 (by decide) lk_X2_readBarrels_84 rfl tyX3 tyX3_ok nmX3 rfl (by decide +kernel) rfl rfl dX2_readBarrels_24 ?_
      refine px_nmS eS6 ?_
      refine px_aload_n C 0 dX2_readBarrels_27 rfl rfl ?_
      refine px_iconst C (v := (1 : Int32)) dX2_readBarrels_28 (by decide) ?_
      obtain ⟨S7, eS7, h⟩ := el_lt h
      refine px_puti C (ty := .boolean) (j := 5) kx_3 rfl rfl iw_X2_readBarrels_X2 (by decide) lk_X2_readBarrels_24 rfl tyX2 tyX2_ok nmX2 rfl (by decide +kernel) rfl rfl dX2_readBarrels_29 ?_
      refine px_nmS eS7 ?_
      refine px_aload_n C 0 dX2_readBarrels_32 rfl rfl ?_
      obtain ⟨x9, S10, hc33_7, h⟩ := el_b2 h
      refine px_callV1 C (c_X2_readEnd l tA tB ad fu S7 hc33_7) (cwV 0 C.2.2.2.2.1 gX2_readBarrels_X2_readEnd rfl rfl rfl (by decide +kernel) ⟨Nat.le_of_ble_eq_true rfl, Nat.le_of_ble_eq_true rfl⟩) ⟨Nat.zero_le _, Nat.zero_le _⟩ kx_3 rfl rfl rfl (Nat.le_of_ble_eq_true rfl) dX2_readBarrels_33 ?_
      obtain ⟨hzb, h⟩ := el_zb h
      exact px_zretES C hzb dX2_readBarrels_36 h
    · replace h := el_fn c14_4 h
      refine px_iconst C (v := (0 : Int32)) dX2_readBarrels_17 (by decide) ?_
      exact px_zretES C (Or.inl rfl) dX2_readBarrels_18 h
theorem lk_X2_readCoins_28 : Cond.fieldLink RX2 28 "RiverTolls$Reader" "coinsTold" "Z" ∈ wsX2_readCoins := List.mem_of_getElem? (i := 1) rfl
theorem lk_X2_readCoins_73 : Cond.fieldLink RX2 73 "RiverTolls$Reader" "value" "I" ∈ wsX2_readCoins := List.mem_of_getElem? (i := 2) rfl
theorem lk_X2_readCoins_87 : Cond.fieldLink RX2 87 "RiverTolls$River" "coins" "I" ∈ wsX2_readCoins := List.mem_of_getElem? (i := 3) rfl
theorem iw_X2_readCoins_X2 : ∀ w ∈ u_ws RX2 TX2 7, w ∈ wsX2_readCoins := fun _ h9 => (List.mem_cons_of_mem _ (List.mem_append_left _ (List.mem_append_left _ (List.mem_append_right _ h9))))
theorem iw_X2_readCoins_X3 : ∀ w ∈ u_ws RX3 TX3 5, w ∈ wsX2_readCoins := fun _ h9 => (List.mem_cons_of_mem _ (List.mem_append_left _ (List.mem_append_right _ h9)))
set_option maxHeartbeats 4000000 in
set_option maxRecDepth 100000 in
theorem c_X2_readCoins (l : Launch) (tA tB : Nat) (ad : Nat → Nat) (fu : Nat) (S : St) {rv : Int32} {S' : St} (h : m_X2_readCoins fu S = some (rv, S')) :
    XMet l yX2_readCoins wsX2_readCoins ({ frames := 4, cells := 0, slots := 0, locals := 86 }) KX (.object "RiverTolls$Boat") tA tB [.ref (ad 3), .ref (ad 4)] ad S (some (.int rv)) S' := by
  refine XMet.of (cc := cX2_readCoins) (maxL := 2) (ret := (some .boolean)) (own := RX2) (lv := [(0, .ref (ad 3)), (1, .ref (ad 4))]) rfl (by decide) rfl (Nat.le_of_ble_eq_true rfl) rfl ?_
  intro p e s m args below meth c D A cI c1 F C
  rw [m_X2_readCoins] at h
  refine px_aload_n C 0 dX2_readCoins_0 rfl rfl ?_
  refine px_geti C (j := 6) kx_3 rfl rfl iw_X2_readCoins_X2 (by decide) lk_X2_readCoins_28 rfl dX2_readCoins_1 ?_
  refine px_if_ne C (tgt := 18) dX2_readCoins_4 (by decide) (fun c4_0 => ?_) (fun c4_0 => ?_)
  · replace h := el_t c4_0 h
    refine px_iconst C (v := (0 : Int32)) dX2_readCoins_18 (by decide) ?_
    exact px_zretES C (Or.inl rfl) dX2_readCoins_19 h
  · replace h := el_fn c4_0 h
    refine px_aload_n C 0 dX2_readCoins_7 rfl rfl ?_
    refine px_iconst C (v := (0 : Int32)) dX2_readCoins_8 (by decide) ?_
    refine px_sipush C (v := (900 : Int32)) dX2_readCoins_9 (by decide) ?_
    obtain ⟨x3, S4, hc12_1, h⟩ := el_b2 h
    refine px_callV1 C (c_X2_readNumber l tA tB ad fu S (0 : Int32) (900 : Int32) hc12_1) (cwV 2 C.2.2.2.2.1 gX2_readCoins_X2_readNumber rfl rfl rfl (by decide +kernel) ⟨Nat.le_of_ble_eq_true rfl, Nat.le_of_ble_eq_true rfl⟩) ⟨Nat.zero_le _, Nat.zero_le _⟩ kx_3 rfl rfl rfl (Nat.le_of_ble_eq_true rfl) dX2_readCoins_12 ?_
    refine px_if_ne C (tgt := 20) dX2_readCoins_15 (by decide) (fun c15_4 => ?_) (fun c15_4 => ?_)
    · replace h := el_t c15_4 h
      refine px_aload_n C 1 dX2_readCoins_20 rfl rfl ?_
      refine px_aload_n C 0 dX2_readCoins_21 rfl rfl ?_
      refine px_geti C (j := 4) kx_3 rfl rfl iw_X2_readCoins_X2 (by decide) lk_X2_readCoins_73 rfl dX2_readCoins_22 ?_
      obtain ⟨S6, eS6, h⟩ := el_lt h
      refine px_puti C (ty := .int) (j := 2) kx_4 rfl rfl iw_X2_readCoins_X3 (by decide) lk_X2_readCoins_87 rfl tyX3 tyX3_ok nmX3 rfl (by decide +kernel) rfl rfl dX2_readCoins_25 ?_
      refine px_nmS eS6 ?_
      refine px_aload_n C 0 dX2_readCoins_28 rfl rfl ?_
      refine px_iconst C (v := (1 : Int32)) dX2_readCoins_29 (by decide) ?_
      obtain ⟨S7, eS7, h⟩ := el_lt h
      refine px_puti C (ty := .boolean) (j := 6) kx_3 rfl rfl iw_X2_readCoins_X2 (by decide) lk_X2_readCoins_28 rfl tyX2 tyX2_ok nmX2 rfl (by decide +kernel) rfl rfl dX2_readCoins_30 ?_
      refine px_nmS eS7 ?_
      refine px_aload_n C 0 dX2_readCoins_33 rfl rfl ?_
      obtain ⟨x9, S10, hc34_7, h⟩ := el_b2 h
      refine px_callV1 C (c_X2_readEnd l tA tB ad fu S7 hc34_7) (cwV 0 C.2.2.2.2.1 gX2_readCoins_X2_readEnd rfl rfl rfl (by decide +kernel) ⟨Nat.le_of_ble_eq_true rfl, Nat.le_of_ble_eq_true rfl⟩) ⟨Nat.zero_le _, Nat.zero_le _⟩ kx_3 rfl rfl rfl (Nat.le_of_ble_eq_true rfl) dX2_readCoins_34 ?_
      obtain ⟨hzb, h⟩ := el_zb h
      exact px_zretES C hzb dX2_readCoins_37 h
    · replace h := el_fn c15_4 h
      refine px_iconst C (v := (0 : Int32)) dX2_readCoins_18 (by decide) ?_
      exact px_zretES C (Or.inl rfl) dX2_readCoins_19 h
theorem lk_X2_read_20 : Cond.fieldLink RX2 20 "RiverTolls$Reader" "place" "I" ∈ wsX2_read := List.mem_of_getElem? (i := 1) rfl
theorem lk_X2_read_24 : Cond.fieldLink RX2 24 "RiverTolls$Reader" "barrelsTold" "Z" ∈ wsX2_read := List.mem_of_getElem? (i := 2) rfl
theorem lk_X2_read_28 : Cond.fieldLink RX2 28 "RiverTolls$Reader" "coinsTold" "Z" ∈ wsX2_read := List.mem_of_getElem? (i := 3) rfl
theorem lk_X2_read_34 : Cond.fieldLink RX2 34 "RiverTolls$Reader" "token" "I" ∈ wsX2_read := List.mem_of_getElem? (i := 4) rfl
theorem lk_X2_read_47 : Cond.fieldLink RX2 47 "RiverTolls$Reader" "start" "I" ∈ wsX2_read := List.mem_of_getElem? (i := 5) rfl
theorem lk_X2_read_50 : Cond.fieldLink RX2 50 "RiverTolls$River" "items" "I" ∈ wsX2_read := List.mem_of_getElem? (i := 6) rfl
theorem iw_X2_read_X2 : ∀ w ∈ u_ws RX2 TX2 7, w ∈ wsX2_read := fun _ h9 => (List.mem_cons_of_mem _ (List.mem_append_left _ (List.mem_append_left _ (List.mem_append_right _ h9))))
theorem iw_X2_read_X3 : ∀ w ∈ u_ws RX3 TX3 5, w ∈ wsX2_read := fun _ h9 => (List.mem_cons_of_mem _ (List.mem_append_left _ (List.mem_append_right _ h9)))
set_option maxHeartbeats 4000000 in
set_option maxRecDepth 100000 in
theorem c_X2_read (l : Launch) (tA tB : Nat) (ad : Nat → Nat) (fu : Nat) (S : St) {rv : Int32} {S' : St} (h : m_X2_read fu S = some (rv, S')) :
    XMet l yX2_read wsX2_read ({ frames := 5, cells := 0, slots := 0, locals := 108 }) KX (.object "RiverTolls$Boat") tA tB [.ref (ad 3), .ref (ad 4)] ad S (some (.int rv)) S' := by
  refine XMet.of (cc := cX2_read) (maxL := 5) (ret := (some .int)) (own := RX2) (lv := [(0, .ref (ad 3)), (1, .ref (ad 4))]) rfl (by decide) rfl (Nat.le_of_ble_eq_true rfl) rfl ?_
  intro p e s m args below meth c D A cI c1 F C
  rw [m_X2_read] at h
  refine px_aload_n C 1 dX2_read_0 rfl rfl ?_
  obtain ⟨S2, hc1_0, h⟩ := el_b h
  refine px_callV0 C (c_X3_untell l tA tB ad S hc1_0) (cwV 0 C.2.2.2.2.1 gX2_read_X3_untell rfl rfl rfl (by decide +kernel) ⟨Nat.le_of_ble_eq_true rfl, Nat.le_of_ble_eq_true rfl⟩) ⟨Nat.zero_le _, Nat.zero_le _⟩ kx_4 rfl rfl rfl (Nat.le_of_ble_eq_true rfl) dX2_read_1 ?_
  refine px_aload_n C 0 dX2_read_4 rfl rfl ?_
  refine px_iconst C (v := (0 : Int32)) dX2_read_5 (by decide) ?_
  obtain ⟨S3, eS3, h⟩ := el_lt h
  refine px_puti C (ty := .int) (j := 1) kx_3 rfl rfl iw_X2_read_X2 (by decide) lk_X2_read_20 rfl tyX2 tyX2_ok nmX2 rfl (by decide +kernel) rfl rfl dX2_read_6 ?_
  refine px_nmS eS3 ?_
  refine px_aload_n C 0 dX2_read_9 rfl rfl ?_
  refine px_iconst C (v := (0 : Int32)) dX2_read_10 (by decide) ?_
  obtain ⟨S4, eS4, h⟩ := el_lt h
  refine px_puti C (ty := .boolean) (j := 5) kx_3 rfl rfl iw_X2_read_X2 (by decide) lk_X2_read_24 rfl tyX2 tyX2_ok nmX2 rfl (by decide +kernel) rfl rfl dX2_read_11 ?_
  refine px_nmS eS4 ?_
  refine px_aload_n C 0 dX2_read_14 rfl rfl ?_
  refine px_iconst C (v := (0 : Int32)) dX2_read_15 (by decide) ?_
  obtain ⟨S5, eS5, h⟩ := el_lt h
  refine px_puti C (ty := .boolean) (j := 6) kx_3 rfl rfl iw_X2_read_X2 (by decide) lk_X2_read_28 rfl tyX2 tyX2_ok nmX2 rfl (by decide +kernel) rfl rfl dX2_read_16 ?_
  refine px_nmS eS5 ?_
  refine px_iconst C (v := (0 : Int32)) dX2_read_19 (by decide) ?_
  refine px_istore_n C [(2, .int (0 : Int32)), (0, .ref (ad 3)), (1, .ref (ad 4))] dX2_read_20 rfl (by decide) rfl ?_
  have hx0 : ∀  (x8 : Int32) (S9 : St), m_X2_read_r0 x8 S9 = some (rv, S') → PW p l e { frames := 5, cells := 0, slots := 0, locals := 108 } s m args below meth c (MQ below (QX KX A D cI c1 F ad (some (.int rv)) S') args s 0 0 A) D A cI c1 F KX ad 5 0 0 S9 [(0, .ref (ad 3)), (1, .ref (ad 4)), (2, .int x8)] 121 [] := by
    intro x8 S9 h
    rw [m_X2_read_r0] at h
    refine px_aload_n C 0 dX2_read_121 rfl rfl ?_
    refine px_geti C (j := 2) kx_3 rfl rfl iw_X2_read_X2 (by decide) lk_X2_read_47 rfl dX2_read_122 ?_
    exact px_iretES C dX2_read_125 h
  have hl0 : ∀ (n_0 : Nat) (x6 : Int32) (S7 : St), m_X2_read_L0 fu m_X2_read_r0 n_0 x6 S7 = some (rv, S') → PW p l e { frames := 5, cells := 0, slots := 0, locals := 108 } s m args below meth c (MQ below (QX KX A D cI c1 F ad (some (.int rv)) S') args s 0 0 A) D A cI c1 F KX ad 5 0 0 S7 [(0, .ref (ad 3)), (1, .ref (ad 4)), (2, .int x6)] 21 [] := by
    intro n_0
    induction n_0 with
    | zero =>
      intro x6 S7 h
      rw [m_X2_read_L0_z] at h
      cases h
    | succ n_0 ih0 =>
      intro x6 S7 h
      rw [m_X2_read_L0_s] at h
      refine px_iload_n C 2 dX2_read_21 rfl rfl ?_
      refine px_bipush C (v := (10 : Int32)) dX2_read_22 (by decide) ?_
      refine px_icmp_gt C (tgt := 121) dX2_read_24 (by decide) (fun c24_9 => ?_) (fun c24_9 => ?_)
      · replace h := el_t c24_9 h
        exact (hx0 _ _ h)
      · replace h := el_f c24_9 h
        refine px_aload_n C 0 dX2_read_27 rfl rfl ?_
        obtain ⟨S12, hc28_10, h⟩ := el_b h
        refine px_callV0 C (c_X2_readToken l tA tB ad fu S7 hc28_10) (cwV 0 C.2.2.2.2.1 gX2_read_X2_readToken rfl rfl rfl (by decide +kernel) ⟨Nat.le_of_ble_eq_true rfl, Nat.le_of_ble_eq_true rfl⟩) ⟨Nat.zero_le _, Nat.zero_le _⟩ kx_3 rfl rfl rfl (Nat.le_of_ble_eq_true rfl) dX2_read_28 ?_
        refine px_aload_n C 0 dX2_read_31 rfl rfl ?_
        refine px_geti C (j := 3) kx_3 rfl rfl iw_X2_read_X2 (by decide) lk_X2_read_34 rfl dX2_read_32 ?_
        refine px_iconst C (v := (-1 : Int32)) dX2_read_35 (by decide) ?_
        refine px_icmp_ne C (tgt := 41) dX2_read_36 (by decide) (fun c36_12 => ?_) (fun c36_12 => ?_)
        · replace h := el_t c36_12 h
          refine px_aload_n C 0 dX2_read_41 rfl rfl ?_
          refine px_geti C (j := 3) kx_3 rfl rfl iw_X2_read_X2 (by decide) lk_X2_read_34 rfl dX2_read_42 ?_
          refine px_istore_n C [(3, .int (S12.1 3 3)), (0, .ref (ad 3)), (1, .ref (ad 4)), (2, .int x6)] dX2_read_45 rfl (by decide) rfl ?_
          refine px_iload_n C 0 dX2_read_46 rfl rfl ?_
          refine px_bipush C (v := (114 : Int32)) dX2_read_47 (by decide) ?_
          obtain ⟨x15, S16, hr49_53, h⟩ := el_b2 h
          have hj49_16 : PW p l e { frames := 5, cells := 0, slots := 0, locals := 108 } s m args below meth c (MQ below (QX KX A D cI c1 F ad (some (.int rv)) S') args s 0 0 A) D A cI c1 F KX ad 5 0 0 S16 [(0, .ref (ad 3)), (1, .ref (ad 4)), (2, .int x6), (3, .int (S12.1 3 3))] 93 [.int x15] := by
            refine px_istore C [(4, .int x15), (0, .ref (ad 3)), (1, .ref (ad 4)), (2, .int x6), (3, .int (S12.1 3 3))] dX2_read_93 (by decide) rfl ?_
            refine px_iload C 0 dX2_read_95 rfl ?_
            refine px_if_ne C (tgt := 105) dX2_read_97 (by decide) (fun c97_17 => ?_) (fun c97_17 => ?_)
            · replace h := el_t c97_17 h
              refine px_aload_n C 2 dX2_read_105 rfl rfl ?_
              refine px_dup C dX2_read_106 rfl ?_
              refine px_geti C (j := 3) kx_4 rfl rfl iw_X2_read_X3 (by decide) lk_X2_read_50 rfl dX2_read_107 ?_
              refine px_iconst C (v := (1 : Int32)) dX2_read_110 (by decide) ?_
              refine px_iadd C dX2_read_111 ?_
              obtain ⟨S19, eS19, h⟩ := el_lt h
              refine px_puti C (ty := .int) (j := 3) kx_4 rfl rfl iw_X2_read_X3 (by decide) lk_X2_read_50 rfl tyX3 tyX3_ok nmX3 rfl (by decide +kernel) rfl rfl dX2_read_112 ?_
              refine px_nmS eS19 ?_
              refine px_iinc C 3 [(2, .int (x6 + (1 : Int32))), (4, .int x15), (0, .ref (ad 3)), (1, .ref (ad 4)), (3, .int (S12.1 3 3))] dX2_read_115 rfl rfl (by decide) rfl ?_
              refine px_goto C (tgt := 21) dX2_read_118 (by decide) ?_
              exact px_sub [2, 3, 0] rfl (ih0 _ _ h)
            · replace h := el_fn c97_17 h
              refine px_aload_n C 1 dX2_read_100 rfl rfl ?_
              refine px_geti C (j := 2) kx_3 rfl rfl iw_X2_read_X2 (by decide) lk_X2_read_47 rfl dX2_read_101 ?_
              exact px_iretES C dX2_read_104 h
          clear h
          have h := hr49_53
          clear hr49_53
          refine px_icmp_ne C (tgt := 60) dX2_read_49 (by decide) (fun c49_13 => ?_) (fun c49_13 => ?_)
          · replace h := el_t c49_13 h
            refine px_iload_n C 0 dX2_read_60 rfl rfl ?_
            refine px_bipush C (v := (98 : Int32)) dX2_read_61 (by decide) ?_
            refine px_icmp_ne C (tgt := 74) dX2_read_63 (by decide) (fun c63_19 => ?_) (fun c63_19 => ?_)
            · replace h := el_t c63_19 h
              refine px_iload_n C 0 dX2_read_74 rfl rfl ?_
              refine px_bipush C (v := (99 : Int32)) dX2_read_75 (by decide) ?_
              refine px_icmp_ne C (tgt := 92) dX2_read_77 (by decide) (fun c77_20 => ?_) (fun c77_20 => ?_)
              · replace h := el_t c77_20 h
                refine px_iconst C (v := (0 : Int32)) dX2_read_92 (by decide) ?_
                cases h
                exact px_sub [1, 2, 3, 0] rfl hj49_16
              · replace h := el_fn c77_20 h
                refine px_aload_n C 1 dX2_read_80 rfl rfl ?_
                refine px_aload_n C 2 dX2_read_81 rfl rfl ?_
                obtain ⟨x23, S24, hc82_21, h⟩ := el_b2 h
                refine px_callV1 C (c_X2_readCoins l tA tB ad fu S12 hc82_21) (cwV 1 C.2.2.2.2.1 gX2_read_X2_readCoins rfl rfl rfl (by decide +kernel) ⟨Nat.le_of_ble_eq_true rfl, Nat.le_of_ble_eq_true rfl⟩) ⟨Nat.zero_le _, Nat.zero_le _⟩ kx_3 rfl rfl rfl (Nat.le_of_ble_eq_true rfl) dX2_read_82 ?_
                refine px_if_eq C (tgt := 92) dX2_read_85 (by decide) (fun c85_24 => ?_) (fun c85_24 => ?_)
                · replace h := el_t c85_24 h
                  refine px_iconst C (v := (0 : Int32)) dX2_read_92 (by decide) ?_
                  cases h
                  exact px_sub [1, 2, 3, 0] rfl hj49_16
                · replace h := el_f c85_24 h
                  refine px_iconst C (v := (1 : Int32)) dX2_read_88 (by decide) ?_
                  refine px_goto C (tgt := 93) dX2_read_89 (by decide) ?_
                  cases h
                  exact px_sub [1, 2, 3, 0] rfl hj49_16
            · replace h := el_fn c63_19 h
              refine px_aload_n C 1 dX2_read_66 rfl rfl ?_
              refine px_aload_n C 2 dX2_read_67 rfl rfl ?_
              obtain ⟨x27, S28, hc68_25, h⟩ := el_b2 h
              refine px_callV1 C (c_X2_readBarrels l tA tB ad fu S12 hc68_25) (cwV 1 C.2.2.2.2.1 gX2_read_X2_readBarrels rfl rfl rfl (by decide +kernel) ⟨Nat.le_of_ble_eq_true rfl, Nat.le_of_ble_eq_true rfl⟩) ⟨Nat.zero_le _, Nat.zero_le _⟩ kx_3 rfl rfl rfl (Nat.le_of_ble_eq_true rfl) dX2_read_68 ?_
              refine px_if_ne C (tgt := 88) dX2_read_71 (by decide) (fun c71_28 => ?_) (fun c71_28 => ?_)
              · replace h := el_t c71_28 h
                refine px_iconst C (v := (1 : Int32)) dX2_read_88 (by decide) ?_
                refine px_goto C (tgt := 93) dX2_read_89 (by decide) ?_
                cases h
                exact px_sub [1, 2, 3, 0] rfl hj49_16
              · replace h := el_fn c71_28 h
                refine px_iload_n C 0 dX2_read_74 rfl rfl ?_
                refine px_bipush C (v := (99 : Int32)) dX2_read_75 (by decide) ?_
                refine px_icmp_ne C (tgt := 92) dX2_read_77 (by decide) (fun c77_29 => ?_) (fun c77_29 => ?_)
                · replace h := el_t c77_29 h
                  refine px_iconst C (v := (0 : Int32)) dX2_read_92 (by decide) ?_
                  cases h
                  exact px_sub [1, 2, 3, 0] rfl hj49_16
                · replace h := el_fn c77_29 h
                  refine px_aload_n C 1 dX2_read_80 rfl rfl ?_
                  refine px_aload_n C 2 dX2_read_81 rfl rfl ?_
                  obtain ⟨x32, S33, hc82_30, h⟩ := el_b2 h
                  refine px_callV1 C (c_X2_readCoins l tA tB ad fu S28 hc82_30) (cwV 1 C.2.2.2.2.1 gX2_read_X2_readCoins rfl rfl rfl (by decide +kernel) ⟨Nat.le_of_ble_eq_true rfl, Nat.le_of_ble_eq_true rfl⟩) ⟨Nat.zero_le _, Nat.zero_le _⟩ kx_3 rfl rfl rfl (Nat.le_of_ble_eq_true rfl) dX2_read_82 ?_
                  refine px_if_eq C (tgt := 92) dX2_read_85 (by decide) (fun c85_33 => ?_) (fun c85_33 => ?_)
                  · replace h := el_t c85_33 h
                    refine px_iconst C (v := (0 : Int32)) dX2_read_92 (by decide) ?_
                    cases h
                    exact px_sub [1, 2, 3, 0] rfl hj49_16
                  · replace h := el_f c85_33 h
                    refine px_iconst C (v := (1 : Int32)) dX2_read_88 (by decide) ?_
                    refine px_goto C (tgt := 93) dX2_read_89 (by decide) ?_
                    cases h
                    exact px_sub [1, 2, 3, 0] rfl hj49_16
          · replace h := el_fn c49_13 h
            refine px_aload_n C 1 dX2_read_52 rfl rfl ?_
            refine px_aload_n C 2 dX2_read_53 rfl rfl ?_
            obtain ⟨x36, S37, hc54_34, h⟩ := el_b2 h
            refine px_callV1 C (c_X2_readRock l tA tB ad fu S12 hc54_34) (cwV 1 C.2.2.2.2.1 gX2_read_X2_readRock rfl rfl rfl (by decide +kernel) ⟨Nat.le_of_ble_eq_true rfl, Nat.le_of_ble_eq_true rfl⟩) ⟨Nat.zero_le _, Nat.zero_le _⟩ kx_3 rfl rfl rfl (Nat.le_of_ble_eq_true rfl) dX2_read_54 ?_
            refine px_if_ne C (tgt := 88) dX2_read_57 (by decide) (fun c57_37 => ?_) (fun c57_37 => ?_)
            · replace h := el_t c57_37 h
              refine px_iconst C (v := (1 : Int32)) dX2_read_88 (by decide) ?_
              refine px_goto C (tgt := 93) dX2_read_89 (by decide) ?_
              cases h
              exact px_sub [1, 2, 3, 0] rfl hj49_16
            · replace h := el_fn c57_37 h
              refine px_iload_n C 0 dX2_read_60 rfl rfl ?_
              refine px_bipush C (v := (98 : Int32)) dX2_read_61 (by decide) ?_
              refine px_icmp_ne C (tgt := 74) dX2_read_63 (by decide) (fun c63_38 => ?_) (fun c63_38 => ?_)
              · replace h := el_t c63_38 h
                refine px_iload_n C 0 dX2_read_74 rfl rfl ?_
                refine px_bipush C (v := (99 : Int32)) dX2_read_75 (by decide) ?_
                refine px_icmp_ne C (tgt := 92) dX2_read_77 (by decide) (fun c77_39 => ?_) (fun c77_39 => ?_)
                · replace h := el_t c77_39 h
                  refine px_iconst C (v := (0 : Int32)) dX2_read_92 (by decide) ?_
                  cases h
                  exact px_sub [1, 2, 3, 0] rfl hj49_16
                · replace h := el_fn c77_39 h
                  refine px_aload_n C 1 dX2_read_80 rfl rfl ?_
                  refine px_aload_n C 2 dX2_read_81 rfl rfl ?_
                  obtain ⟨x42, S43, hc82_40, h⟩ := el_b2 h
                  refine px_callV1 C (c_X2_readCoins l tA tB ad fu S37 hc82_40) (cwV 1 C.2.2.2.2.1 gX2_read_X2_readCoins rfl rfl rfl (by decide +kernel) ⟨Nat.le_of_ble_eq_true rfl, Nat.le_of_ble_eq_true rfl⟩) ⟨Nat.zero_le _, Nat.zero_le _⟩ kx_3 rfl rfl rfl (Nat.le_of_ble_eq_true rfl) dX2_read_82 ?_
                  refine px_if_eq C (tgt := 92) dX2_read_85 (by decide) (fun c85_43 => ?_) (fun c85_43 => ?_)
                  · replace h := el_t c85_43 h
                    refine px_iconst C (v := (0 : Int32)) dX2_read_92 (by decide) ?_
                    cases h
                    exact px_sub [1, 2, 3, 0] rfl hj49_16
                  · replace h := el_f c85_43 h
                    refine px_iconst C (v := (1 : Int32)) dX2_read_88 (by decide) ?_
                    refine px_goto C (tgt := 93) dX2_read_89 (by decide) ?_
                    cases h
                    exact px_sub [1, 2, 3, 0] rfl hj49_16
              · replace h := el_fn c63_38 h
                refine px_aload_n C 1 dX2_read_66 rfl rfl ?_
                refine px_aload_n C 2 dX2_read_67 rfl rfl ?_
                obtain ⟨x46, S47, hc68_44, h⟩ := el_b2 h
                refine px_callV1 C (c_X2_readBarrels l tA tB ad fu S37 hc68_44) (cwV 1 C.2.2.2.2.1 gX2_read_X2_readBarrels rfl rfl rfl (by decide +kernel) ⟨Nat.le_of_ble_eq_true rfl, Nat.le_of_ble_eq_true rfl⟩) ⟨Nat.zero_le _, Nat.zero_le _⟩ kx_3 rfl rfl rfl (Nat.le_of_ble_eq_true rfl) dX2_read_68 ?_
                refine px_if_ne C (tgt := 88) dX2_read_71 (by decide) (fun c71_47 => ?_) (fun c71_47 => ?_)
                · replace h := el_t c71_47 h
                  refine px_iconst C (v := (1 : Int32)) dX2_read_88 (by decide) ?_
                  refine px_goto C (tgt := 93) dX2_read_89 (by decide) ?_
                  cases h
                  exact px_sub [1, 2, 3, 0] rfl hj49_16
                · replace h := el_fn c71_47 h
                  refine px_iload_n C 0 dX2_read_74 rfl rfl ?_
                  refine px_bipush C (v := (99 : Int32)) dX2_read_75 (by decide) ?_
                  refine px_icmp_ne C (tgt := 92) dX2_read_77 (by decide) (fun c77_48 => ?_) (fun c77_48 => ?_)
                  · replace h := el_t c77_48 h
                    refine px_iconst C (v := (0 : Int32)) dX2_read_92 (by decide) ?_
                    cases h
                    exact px_sub [1, 2, 3, 0] rfl hj49_16
                  · replace h := el_fn c77_48 h
                    refine px_aload_n C 1 dX2_read_80 rfl rfl ?_
                    refine px_aload_n C 2 dX2_read_81 rfl rfl ?_
                    obtain ⟨x51, S52, hc82_49, h⟩ := el_b2 h
                    refine px_callV1 C (c_X2_readCoins l tA tB ad fu S47 hc82_49) (cwV 1 C.2.2.2.2.1 gX2_read_X2_readCoins rfl rfl rfl (by decide +kernel) ⟨Nat.le_of_ble_eq_true rfl, Nat.le_of_ble_eq_true rfl⟩) ⟨Nat.zero_le _, Nat.zero_le _⟩ kx_3 rfl rfl rfl (Nat.le_of_ble_eq_true rfl) dX2_read_82 ?_
                    refine px_if_eq C (tgt := 92) dX2_read_85 (by decide) (fun c85_52 => ?_) (fun c85_52 => ?_)
                    · replace h := el_t c85_52 h
                      refine px_iconst C (v := (0 : Int32)) dX2_read_92 (by decide) ?_
                      cases h
                      exact px_sub [1, 2, 3, 0] rfl hj49_16
                    · replace h := el_f c85_52 h
                      refine px_iconst C (v := (1 : Int32)) dX2_read_88 (by decide) ?_
                      refine px_goto C (tgt := 93) dX2_read_89 (by decide) ?_
                      cases h
                      exact px_sub [1, 2, 3, 0] rfl hj49_16
        · replace h := el_fn c36_12 h
          refine px_iconst C (v := (-1 : Int32)) dX2_read_39 (by decide) ?_
          exact px_iretES C dX2_read_40 h
  exact px_sub [1, 2, 0] rfl (hl0 _ _ _ h)
