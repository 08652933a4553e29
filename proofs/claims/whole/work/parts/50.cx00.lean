theorem lk_J6_bitCount_0f7a4_265 : Cond.constant RJ6 265 (1431655765) ∈ wsJ6_bitCount_0f7a4 := List.mem_of_getElem? (i := 1) rfl
theorem lk_J6_bitCount_0f7a4_266 : Cond.constant RJ6 266 (858993459) ∈ wsJ6_bitCount_0f7a4 := List.mem_of_getElem? (i := 2) rfl
theorem lk_J6_bitCount_0f7a4_267 : Cond.constant RJ6 267 (252645135) ∈ wsJ6_bitCount_0f7a4 := List.mem_of_getElem? (i := 3) rfl
set_option maxHeartbeats 4000000 in
set_option maxRecDepth 100000 in
theorem c_J6_bitCount_0f7a4 (l : Launch) (tA tB : Nat) (ad : Nat → Nat) (S : St) (a0 : Int32) {rv : Int32} (h : m_J6_bitCount_0f7a4 a0 = some rv) :
    XMet l yJ6_bitCount_0f7a4 wsJ6_bitCount_0f7a4 ({ frames := 0, cells := 0, slots := 0, locals := 0 }) KX (.object "RiverTolls$Boat") tA tB [.int a0] ad S (some (.int rv)) S := by
  refine XMet.of (cc := cJ6_bitCount_0f7a4) (maxL := 1) (ret := (some .int)) (own := RJ6) (lv := [(0, .int a0)]) rfl (by decide) rfl (Nat.le_of_ble_eq_true rfl) rfl ?_
  intro p e s m args below meth c D A cI c1 F C
  rw [m_J6_bitCount_0f7a4] at h
  refine px_iload_n C 0 dJ6_bitCount_0f7a4_0 rfl rfl ?_
  refine px_iload_n C 0 dJ6_bitCount_0f7a4_1 rfl rfl ?_
  refine px_iconst C (v := (1 : Int32)) dJ6_bitCount_0f7a4_2 (by decide) ?_
  refine px_iushr C dJ6_bitCount_0f7a4_3 ?_
  refine px_ldcw C (v := (1431655765 : Int32)) lk_J6_bitCount_0f7a4_265 dJ6_bitCount_0f7a4_4 ?_
  refine px_iand C dJ6_bitCount_0f7a4_7 ?_
  refine px_isub C dJ6_bitCount_0f7a4_8 ?_
  obtain ⟨x1, ex1, h⟩ := el_lt h
  refine px_nm ex1 ?_
  refine px_istore_n C [(0, .int x1)] dJ6_bitCount_0f7a4_9 rfl (by decide) rfl ?_
  refine px_iload_n C 0 dJ6_bitCount_0f7a4_10 rfl rfl ?_
  refine px_ldcw C (v := (858993459 : Int32)) lk_J6_bitCount_0f7a4_266 dJ6_bitCount_0f7a4_11 ?_
  refine px_iand C dJ6_bitCount_0f7a4_14 ?_
  refine px_iload_n C 0 dJ6_bitCount_0f7a4_15 rfl rfl ?_
  refine px_iconst C (v := (2 : Int32)) dJ6_bitCount_0f7a4_16 (by decide) ?_
  refine px_iushr C dJ6_bitCount_0f7a4_17 ?_
  refine px_ldcw C (v := (858993459 : Int32)) lk_J6_bitCount_0f7a4_266 dJ6_bitCount_0f7a4_18 ?_
  refine px_iand C dJ6_bitCount_0f7a4_21 ?_
  refine px_iadd C dJ6_bitCount_0f7a4_22 ?_
  obtain ⟨x2, ex2, h⟩ := el_lt h
  refine px_nm ex2 ?_
  refine px_istore_n C [(0, .int x2)] dJ6_bitCount_0f7a4_23 rfl (by decide) rfl ?_
  refine px_iload_n C 0 dJ6_bitCount_0f7a4_24 rfl rfl ?_
  refine px_iload_n C 0 dJ6_bitCount_0f7a4_25 rfl rfl ?_
  refine px_iconst C (v := (4 : Int32)) dJ6_bitCount_0f7a4_26 (by decide) ?_
  refine px_iushr C dJ6_bitCount_0f7a4_27 ?_
  refine px_iadd C dJ6_bitCount_0f7a4_28 ?_
  refine px_ldcw C (v := (252645135 : Int32)) lk_J6_bitCount_0f7a4_267 dJ6_bitCount_0f7a4_29 ?_
  refine px_iand C dJ6_bitCount_0f7a4_32 ?_
  obtain ⟨x3, ex3, h⟩ := el_lt h
  refine px_nm ex3 ?_
  refine px_istore_n C [(0, .int x3)] dJ6_bitCount_0f7a4_33 rfl (by decide) rfl ?_
  refine px_iload_n C 0 dJ6_bitCount_0f7a4_34 rfl rfl ?_
  refine px_iload_n C 0 dJ6_bitCount_0f7a4_35 rfl rfl ?_
  refine px_bipush C (v := (8 : Int32)) dJ6_bitCount_0f7a4_36 (by decide) ?_
  refine px_iushr C dJ6_bitCount_0f7a4_38 ?_
  refine px_iadd C dJ6_bitCount_0f7a4_39 ?_
  obtain ⟨x4, ex4, h⟩ := el_lt h
  refine px_nm ex4 ?_
  refine px_istore_n C [(0, .int x4)] dJ6_bitCount_0f7a4_40 rfl (by decide) rfl ?_
  refine px_iload_n C 0 dJ6_bitCount_0f7a4_41 rfl rfl ?_
  refine px_iload_n C 0 dJ6_bitCount_0f7a4_42 rfl rfl ?_
  refine px_bipush C (v := (16 : Int32)) dJ6_bitCount_0f7a4_43 (by decide) ?_
  refine px_iushr C dJ6_bitCount_0f7a4_45 ?_
  refine px_iadd C dJ6_bitCount_0f7a4_46 ?_
  obtain ⟨x5, ex5, h⟩ := el_lt h
  refine px_nm ex5 ?_
  refine px_istore_n C [(0, .int x5)] dJ6_bitCount_0f7a4_47 rfl (by decide) rfl ?_
  refine px_iload_n C 0 dJ6_bitCount_0f7a4_48 rfl rfl ?_
  refine px_bipush C (v := (63 : Int32)) dJ6_bitCount_0f7a4_49 (by decide) ?_
  refine px_iand C dJ6_bitCount_0f7a4_51 ?_
  exact px_iretE C dJ6_bitCount_0f7a4_52 h
set_option maxHeartbeats 4000000 in
set_option maxRecDepth 100000 in
theorem c_X5_copy (l : Launch) (tA tB : Nat) (ad : Nat → Nat) (fu : Nat) (S : St) (k : Nat) (nk : Nat) (w : Nat) (nw : Nat) (hk_k : KX[k]? = some (.inr (nk, .inl false))) (hk_w : KX[w]? = some (.inr (nw, .inl false))) {S' : St} (h : m_X5_copy fu S k nk w nw = some S') :
    XMet l yX5_copy wsX5_copy ({ frames := 0, cells := 0, slots := 0, locals := 0 }) KX (.object "RiverTolls$Boat") tA tB [.ref (ad k), .ref (ad w)] ad S none S' := by
  refine XMet.of (cc := cX5_copy) (maxL := 3) (ret := none) (own := RX5) (lv := [(0, .ref (ad k)), (1, .ref (ad w))]) rfl (by decide) rfl (Nat.le_of_ble_eq_true rfl) rfl ?_
  intro p e s m args below meth c D A cI c1 F C
  rw [m_X5_copy] at h
  refine px_aload_n C 0 dX5_copy_0 rfl rfl ?_
  refine px_ifnull C dX5_copy_1 ?_
  refine px_aload_n C 1 dX5_copy_4 rfl rfl ?_
  refine px_ifnonnull C (tgt := 9) dX5_copy_5 (by decide) ?_
  refine px_iconst C (v := (0 : Int32)) dX5_copy_9 (by decide) ?_
  refine px_istore_n C [(2, .int (0 : Int32)), (0, .ref (ad k)), (1, .ref (ad w))] dX5_copy_10 rfl (by decide) rfl ?_
  have hx0 : ∀  (x3 : Int32) (S4 : St), m_X5_copy_r0 x3 S4 = some S' → PW p l e { frames := 0, cells := 0, slots := 0, locals := 0 } s m args below meth c (MQ below (QX KX A D cI c1 F ad none S') args s 0 0 A) D A cI c1 F KX ad 3 0 0 S4 [(0, .ref (ad k)), (1, .ref (ad w)), (2, .int x3)] 35 [] := by
    intro x3 S4 h
    rw [m_X5_copy_r0] at h
    exact px_vretE C dX5_copy_35 h
  have hl0 : ∀ (n_0 : Nat) (x1 : Int32) (S2 : St), m_X5_copy_L0 k nk w nw m_X5_copy_r0 n_0 x1 S2 = some S' → PW p l e { frames := 0, cells := 0, slots := 0, locals := 0 } s m args below meth c (MQ below (QX KX A D cI c1 F ad none S') args s 0 0 A) D A cI c1 F KX ad 3 0 0 S2 [(0, .ref (ad k)), (1, .ref (ad w)), (2, .int x1)] 11 [] := by
    intro n_0
    induction n_0 with
    | zero =>
      intro x1 S2 h
      rw [m_X5_copy_L0_z] at h
      cases h
    | succ n_0 ih0 =>
      intro x1 S2 h
      rw [m_X5_copy_L0_s] at h
      refine px_iload_n C 2 dX5_copy_11 rfl rfl ?_
      refine px_aload_n C 0 dX5_copy_12 rfl rfl ?_
      refine px_alen C (v := Int32.ofNat nk) hk_k rfl dX5_copy_13 ?_
      refine px_icmp_ge C (tgt := 35) dX5_copy_14 (by decide) (fun c14_4 => ?_) (fun c14_4 => ?_)
      · replace h := el_t c14_4 h
        exact (hx0 _ _ h)
      · replace h := el_f c14_4 h
        refine px_iload_n C 2 dX5_copy_17 rfl rfl ?_
        refine px_aload_n C 1 dX5_copy_18 rfl rfl ?_
        refine px_alen C (v := Int32.ofNat nw) hk_w rfl dX5_copy_19 ?_
        refine px_icmp_ge C (tgt := 35) dX5_copy_20 (by decide) (fun c20_5 => ?_) (fun c20_5 => ?_)
        · replace h := el_t c20_5 h
          exact (hx0 _ _ h)
        · replace h := el_f c20_5 h
          refine px_aload_n C 1 dX5_copy_23 rfl rfl ?_
          refine px_iload_n C 2 dX5_copy_24 rfl rfl ?_
          refine px_aload_n C 0 dX5_copy_25 rfl rfl ?_
          refine px_iload_n C 2 dX5_copy_26 rfl rfl ?_
          obtain ⟨hix7, x7, ex7, h⟩ := el_ald h
          refine px_iald C hk_k hix7 rfl dX5_copy_27 ?_
          refine px_nm ex7 ?_
          obtain ⟨hiS8, S8, eS8, h⟩ := el_ast h
          refine px_iast C hk_w hiS8 rfl dX5_copy_28 ?_
          refine px_nmS eS8 ?_
          refine px_iinc C 2 [(2, .int (x1 + (1 : Int32))), (0, .ref (ad k)), (1, .ref (ad w))] dX5_copy_29 rfl rfl (by decide) rfl ?_
          refine px_goto C (tgt := 11) dX5_copy_32 (by decide) ?_
          exact px_sub [1, 2, 0] rfl (ih0 _ _ h)
  exact px_sub [1, 2, 0] rfl (hl0 _ _ _ h)
theorem lk_X0_become_9 : Cond.fieldLink RX0 9 "RiverTolls$Boat" "tolls" "[I" ∈ wsX0_become := List.mem_of_getElem? (i := 7) rfl
theorem lk_X0_become_15 : Cond.fieldLink RX0 15 "RiverTolls$Boat" "gains" "[I" ∈ wsX0_become := List.mem_of_getElem? (i := 8) rfl
theorem lk_X0_become_18 : Cond.fieldLink RX0 18 "RiverTolls$Boat" "at" "I" ∈ wsX0_become := List.mem_of_getElem? (i := 1) rfl
theorem lk_X0_become_27 : Cond.fieldLink RX0 27 "RiverTolls$Boat" "barrels" "I" ∈ wsX0_become := List.mem_of_getElem? (i := 2) rfl
theorem lk_X0_become_31 : Cond.fieldLink RX0 31 "RiverTolls$Boat" "coins" "I" ∈ wsX0_become := List.mem_of_getElem? (i := 3) rfl
theorem lk_X0_become_32 : Cond.fieldLink RX0 32 "RiverTolls$Boat" "letter" "I" ∈ wsX0_become := List.mem_of_getElem? (i := 4) rfl
theorem lk_X0_become_35 : Cond.fieldLink RX0 35 "RiverTolls$Boat" "seized" "I" ∈ wsX0_become := List.mem_of_getElem? (i := 5) rfl
theorem lk_X0_become_38 : Cond.fieldLink RX0 38 "RiverTolls$Boat" "broken" "I" ∈ wsX0_become := List.mem_of_getElem? (i := 6) rfl
theorem iw_X0_become_X0 : ∀ w ∈ u_ws RX0 TX0 8, w ∈ wsX0_become := fun _ h9 => (List.mem_cons_of_mem _ (List.mem_append_right _ h9))
set_option maxHeartbeats 4000000 in
set_option maxRecDepth 100000 in
theorem c_X0_become (l : Launch) (tA tB : Nat) (ad : Nat → Nat) (fu : Nat) (S : St) (b : Nat) (o : Nat) (hB_b : isB b = true) (hB_o : isB o = true) {S' : St} (h : m_X0_become fu S b o = some S') :
    XMet l yX0_become wsX0_become ({ frames := 1, cells := 0, slots := 0, locals := 22 }) KX (.object "RiverTolls$Boat") tA tB [.ref (ad b), .ref (ad o)] ad S none S' := by
  refine XMet.of (cc := cX0_become) (maxL := 2) (ret := none) (own := RX0) (lv := [(0, .ref (ad b)), (1, .ref (ad o))]) rfl (by decide) rfl (Nat.le_of_ble_eq_true rfl) rfl ?_
  intro p e s m args below meth c D A cI c1 F C
  obtain ⟨hk_b, hk1_b, hk2_b⟩ := kx_boat hB_b
  obtain ⟨hk_o, hk1_o, hk2_o⟩ := kx_boat hB_o
  rw [m_X0_become] at h
  refine px_aload_n C 0 dX0_become_0 rfl rfl ?_
  refine px_aload_n C 1 dX0_become_1 rfl rfl ?_
  refine px_geti C (j := 0) hk_o rfl rfl iw_X0_become_X0 (by decide) lk_X0_become_18 rfl dX0_become_2 ?_
  obtain ⟨S1, eS1, h⟩ := el_lt h
  refine px_puti C (ty := .int) (j := 0) hk_b rfl rfl iw_X0_become_X0 (by decide) lk_X0_become_18 rfl tyX0 tyX0_ok nmX0 rfl (by decide +kernel) rfl rfl dX0_become_5 ?_
  refine px_nmS eS1 ?_
  refine px_aload_n C 0 dX0_become_8 rfl rfl ?_
  refine px_aload_n C 1 dX0_become_9 rfl rfl ?_
  refine px_geti C (j := 1) hk_o rfl rfl iw_X0_become_X0 (by decide) lk_X0_become_27 rfl dX0_become_10 ?_
  obtain ⟨S2, eS2, h⟩ := el_lt h
  refine px_puti C (ty := .int) (j := 1) hk_b rfl rfl iw_X0_become_X0 (by decide) lk_X0_become_27 rfl tyX0 tyX0_ok nmX0 rfl (by decide +kernel) rfl rfl dX0_become_13 ?_
  refine px_nmS eS2 ?_
  refine px_aload_n C 0 dX0_become_16 rfl rfl ?_
  refine px_aload_n C 1 dX0_become_17 rfl rfl ?_
  refine px_geti C (j := 2) hk_o rfl rfl iw_X0_become_X0 (by decide) lk_X0_become_31 rfl dX0_become_18 ?_
  obtain ⟨S3, eS3, h⟩ := el_lt h
  refine px_puti C (ty := .int) (j := 2) hk_b rfl rfl iw_X0_become_X0 (by decide) lk_X0_become_31 rfl tyX0 tyX0_ok nmX0 rfl (by decide +kernel) rfl rfl dX0_become_21 ?_
  refine px_nmS eS3 ?_
  refine px_aload_n C 0 dX0_become_24 rfl rfl ?_
  refine px_aload_n C 1 dX0_become_25 rfl rfl ?_
  refine px_geti C (j := 3) hk_o rfl rfl iw_X0_become_X0 (by decide) lk_X0_become_32 rfl dX0_become_26 ?_
  obtain ⟨S4, eS4, h⟩ := el_lt h
  refine px_puti C (ty := .int) (j := 3) hk_b rfl rfl iw_X0_become_X0 (by decide) lk_X0_become_32 rfl tyX0 tyX0_ok nmX0 rfl (by decide +kernel) rfl rfl dX0_become_29 ?_
  refine px_nmS eS4 ?_
  refine px_aload_n C 0 dX0_become_32 rfl rfl ?_
  refine px_aload_n C 1 dX0_become_33 rfl rfl ?_
  refine px_geti C (j := 4) hk_o rfl rfl iw_X0_become_X0 (by decide) lk_X0_become_35 rfl dX0_become_34 ?_
  obtain ⟨S5, eS5, h⟩ := el_lt h
  refine px_puti C (ty := .int) (j := 4) hk_b rfl rfl iw_X0_become_X0 (by decide) lk_X0_become_35 rfl tyX0 tyX0_ok nmX0 rfl (by decide +kernel) rfl rfl dX0_become_37 ?_
  refine px_nmS eS5 ?_
  refine px_aload_n C 0 dX0_become_40 rfl rfl ?_
  refine px_aload_n C 1 dX0_become_41 rfl rfl ?_
  refine px_geti C (j := 5) hk_o rfl rfl iw_X0_become_X0 (by decide) lk_X0_become_38 rfl dX0_become_42 ?_
  obtain ⟨S6, eS6, h⟩ := el_lt h
  refine px_puti C (ty := .int) (j := 5) hk_b rfl rfl iw_X0_become_X0 (by decide) lk_X0_become_38 rfl tyX0 tyX0_ok nmX0 rfl (by decide +kernel) rfl rfl dX0_become_45 ?_
  refine px_nmS eS6 ?_
  refine px_aload_n C 1 dX0_become_48 rfl rfl ?_
  refine px_getr C (j := 6) hk_o rfl rfl iw_X0_become_X0 (by decide) lk_X0_become_9 rfl dX0_become_49 ?_
  refine px_aload_n C 0 dX0_become_52 rfl rfl ?_
  refine px_getr C (j := 6) hk_b rfl rfl iw_X0_become_X0 (by decide) lk_X0_become_9 rfl dX0_become_53 ?_
  obtain ⟨S8, hc56_6, h⟩ := el_b h
  refine px_callS0 C (c_X5_copy l tA tB ad fu S6 (o + 1) 8 (b + 1) 8 hk1_o hk1_b hc56_6) (va_cwS 2 C.2.2.2.2.1 gX0_become_X5_copy rfl rfl rfl (by decide +kernel) ⟨Nat.le_of_ble_eq_true rfl, Nat.le_of_ble_eq_true rfl⟩) ⟨Nat.zero_le _, Nat.zero_le _⟩ rfl rfl (Nat.le_of_ble_eq_true rfl) dX0_become_56 ?_
  refine px_aload_n C 1 dX0_become_59 rfl rfl ?_
  refine px_getr C (j := 7) hk_o rfl rfl iw_X0_become_X0 (by decide) lk_X0_become_15 rfl dX0_become_60 ?_
  refine px_aload_n C 0 dX0_become_63 rfl rfl ?_
  refine px_getr C (j := 7) hk_b rfl rfl iw_X0_become_X0 (by decide) lk_X0_become_15 rfl dX0_become_64 ?_
  obtain ⟨S10, hc67_8, h⟩ := el_b h
  refine px_callS0 C (c_X5_copy l tA tB ad fu S8 (o + 2) 4 (b + 2) 4 hk2_o hk2_b hc67_8) (va_cwS 2 C.2.2.2.2.1 gX0_become_X5_copy rfl rfl rfl (by decide +kernel) ⟨Nat.le_of_ble_eq_true rfl, Nat.le_of_ble_eq_true rfl⟩) ⟨Nat.zero_le _, Nat.zero_le _⟩ rfl rfl (Nat.le_of_ble_eq_true rfl) dX0_become_67 ?_
  exact px_vretE C dX0_become_70 h
theorem lk_X0_isBroken_38 : Cond.fieldLink RX0 38 "RiverTolls$Boat" "broken" "I" ∈ wsX0_isBroken := List.mem_of_getElem? (i := 1) rfl
theorem iw_X0_isBroken_X0 : ∀ w ∈ u_ws RX0 TX0 8, w ∈ wsX0_isBroken := fun _ h9 => (List.mem_cons_of_mem _ (List.mem_append_right _ h9))
set_option maxHeartbeats 4000000 in
set_option maxRecDepth 100000 in
theorem c_X0_isBroken (l : Launch) (tA tB : Nat) (ad : Nat → Nat) (S : St) (a1 : Int32) {rv : Int32} (h : m_X0_isBroken S a1 = some rv) :
    XMet l yX0_isBroken wsX0_isBroken ({ frames := 0, cells := 0, slots := 0, locals := 0 }) KX (.object "RiverTolls$Boat") tA tB [.ref (ad 8), .int a1] ad S (some (.int rv)) S := by
  refine XMet.of (cc := cX0_isBroken) (maxL := 2) (ret := (some .boolean)) (own := RX0) (lv := [(0, .ref (ad 8)), (1, .int a1)]) rfl (by decide) rfl (Nat.le_of_ble_eq_true rfl) rfl ?_
  intro p e s m args below meth c D A cI c1 F C
  rw [m_X0_isBroken] at h
  refine px_aload_n C 0 dX0_isBroken_0 rfl rfl ?_
  refine px_geti C (j := 5) kx_8 rfl rfl iw_X0_isBroken_X0 (by decide) lk_X0_isBroken_38 rfl dX0_isBroken_1 ?_
  refine px_iload_n C 1 dX0_isBroken_4 rfl rfl ?_
  refine px_ishr C dX0_isBroken_5 ?_
  refine px_iconst C (v := (1 : Int32)) dX0_isBroken_6 (by decide) ?_
  refine px_iand C dX0_isBroken_7 ?_
  refine px_iconst C (v := (1 : Int32)) dX0_isBroken_8 (by decide) ?_
  refine px_icmp_ne C (tgt := 16) dX0_isBroken_9 (by decide) (fun c9_0 => ?_) (fun c9_0 => ?_)
  · replace h := el_t c9_0 h
    refine px_iconst C (v := (0 : Int32)) dX0_isBroken_16 (by decide) ?_
    exact px_zretE C (Or.inl rfl) dX0_isBroken_17 h
  · replace h := el_fn c9_0 h
    refine px_iconst C (v := (1 : Int32)) dX0_isBroken_12 (by decide) ?_
    refine px_goto C (tgt := 17) dX0_isBroken_13 (by decide) ?_
    exact px_zretE C (Or.inr rfl) dX0_isBroken_17 h
set_option maxHeartbeats 4000000 in
set_option maxRecDepth 100000 in
theorem c_X5_get (l : Launch) (tA tB : Nat) (ad : Nat → Nat) (S : St) (k : Nat) (nk : Nat) (a1 : Int32) (hk_k : KX[k]? = some (.inr (nk, .inl false))) {rv : Int32} (h : m_X5_get nk (S.1 k) a1 = some rv) :
    XMet l yX5_get wsX5_get ({ frames := 0, cells := 0, slots := 0, locals := 0 }) KX (.object "RiverTolls$Boat") tA tB [.ref (ad k), .int a1] ad S (some (.int rv)) S := by
  refine XMet.of (cc := cX5_get) (maxL := 2) (ret := (some .int)) (own := RX5) (lv := [(0, .ref (ad k)), (1, .int a1)]) rfl (by decide) rfl (Nat.le_of_ble_eq_true rfl) rfl ?_
  intro p e s m args below meth c D A cI c1 F C
  rw [m_X5_get] at h
  refine px_aload_n C 0 dX5_get_0 rfl rfl ?_
  refine px_ifnull C dX5_get_1 ?_
  refine px_iload_n C 1 dX5_get_4 rfl rfl ?_
  refine px_if_lt C (tgt := 20) dX5_get_5 (by decide) (fun c5_0 => ?_) (fun c5_0 => ?_)
  · replace h := el_t c5_0 h
    refine px_iconst C (v := (0 : Int32)) dX5_get_20 (by decide) ?_
    exact px_iretE C dX5_get_21 h
  · replace h := el_f c5_0 h
    refine px_iload_n C 1 dX5_get_8 rfl rfl ?_
    refine px_aload_n C 0 dX5_get_9 rfl rfl ?_
    refine px_alen C (v := Int32.ofNat nk) hk_k rfl dX5_get_10 ?_
    refine px_icmp_ge C (tgt := 20) dX5_get_11 (by decide) (fun c11_1 => ?_) (fun c11_1 => ?_)
    · replace h := el_t c11_1 h
      refine px_iconst C (v := (0 : Int32)) dX5_get_20 (by decide) ?_
      exact px_iretE C dX5_get_21 h
    · replace h := el_f c11_1 h
      refine px_aload_n C 0 dX5_get_14 rfl rfl ?_
      refine px_iload_n C 1 dX5_get_15 rfl rfl ?_
      obtain ⟨hix3, x3, ex3, h⟩ := el_ald h
      refine px_iald C hk_k hix3 rfl dX5_get_16 ?_
      refine px_nm ex3 ?_
      refine px_goto C (tgt := 21) dX5_get_17 (by decide) ?_
      exact px_iretE C dX5_get_21 h
set_option maxHeartbeats 4000000 in
set_option maxRecDepth 100000 in
theorem c_X5_getA (l : Launch) (tA tB : Nat) (ad : Nat → Nat) (S : St) (a1 : Int32) {rv : Int32} (h : m_X5_get 5 lfA a1 = some rv) :
    XMet l yX5_get wsX5_get ({ frames := 0, cells := 0, slots := 0, locals := 0 }) KX (.object "RiverTolls$Boat") tA tB [.ref tA, .int a1] ad S (some (.int rv)) S := by
  refine XMet.of (cc := cX5_get) (maxL := 2) (ret := (some .int)) (own := RX5) (lv := [(0, .ref tA), (1, .int a1)]) rfl (by decide) rfl (Nat.le_of_ble_eq_true rfl) rfl ?_
  intro p e s m args below meth c D A cI c1 F C
  rw [m_X5_get] at h
  refine px_aload_n C 0 dX5_get_0 rfl rfl ?_
  refine px_ifnull C dX5_get_1 ?_
  refine px_iload_n C 1 dX5_get_4 rfl rfl ?_
  refine px_if_lt C (tgt := 20) dX5_get_5 (by decide) (fun c5_0 => ?_) (fun c5_0 => ?_)
  · replace h := el_t c5_0 h
    refine px_iconst C (v := (0 : Int32)) dX5_get_20 (by decide) ?_
    exact px_iretE C dX5_get_21 h
  · replace h := el_f c5_0 h
    refine px_iload_n C 1 dX5_get_8 rfl rfl ?_
    refine px_aload_n C 0 dX5_get_9 rfl rfl ?_
    refine px_talen C C.2.2.2.2.2.2.2.2.1.2 rfl dX5_get_10 ?_
    refine px_icmp_ge C (tgt := 20) dX5_get_11 (by decide) (fun c11_1 => ?_) (fun c11_1 => ?_)
    · replace h := el_t c11_1 h
      refine px_iconst C (v := (0 : Int32)) dX5_get_20 (by decide) ?_
      exact px_iretE C dX5_get_21 h
    · replace h := el_f c11_1 h
      refine px_aload_n C 0 dX5_get_14 rfl rfl ?_
      refine px_iload_n C 1 dX5_get_15 rfl rfl ?_
      obtain ⟨hix3, x3, ex3, h⟩ := el_ald h
      refine px_tald C C.2.2.2.2.2.2.2.2.1.2 hix3 rfl dX5_get_16 ?_
      refine px_nm ex3 ?_
      refine px_goto C (tgt := 21) dX5_get_17 (by decide) ?_
      exact px_iretE C dX5_get_21 h
set_option maxHeartbeats 4000000 in
set_option maxRecDepth 100000 in
theorem c_X5_getB (l : Launch) (tA tB : Nat) (ad : Nat → Nat) (S : St) (a1 : Int32) {rv : Int32} (h : m_X5_get 5 lfB a1 = some rv) :
    XMet l yX5_get wsX5_get ({ frames := 0, cells := 0, slots := 0, locals := 0 }) KX (.object "RiverTolls$Boat") tA tB [.ref tB, .int a1] ad S (some (.int rv)) S := by
  refine XMet.of (cc := cX5_get) (maxL := 2) (ret := (some .int)) (own := RX5) (lv := [(0, .ref tB), (1, .int a1)]) rfl (by decide) rfl (Nat.le_of_ble_eq_true rfl) rfl ?_
  intro p e s m args below meth c D A cI c1 F C
  rw [m_X5_get] at h
  refine px_aload_n C 0 dX5_get_0 rfl rfl ?_
  refine px_ifnull C dX5_get_1 ?_
  refine px_iload_n C 1 dX5_get_4 rfl rfl ?_
  refine px_if_lt C (tgt := 20) dX5_get_5 (by decide) (fun c5_0 => ?_) (fun c5_0 => ?_)
  · replace h := el_t c5_0 h
    refine px_iconst C (v := (0 : Int32)) dX5_get_20 (by decide) ?_
    exact px_iretE C dX5_get_21 h
  · replace h := el_f c5_0 h
    refine px_iload_n C 1 dX5_get_8 rfl rfl ?_
    refine px_aload_n C 0 dX5_get_9 rfl rfl ?_
    refine px_talen C C.2.2.2.2.2.2.2.2.2.2 rfl dX5_get_10 ?_
    refine px_icmp_ge C (tgt := 20) dX5_get_11 (by decide) (fun c11_1 => ?_) (fun c11_1 => ?_)
    · replace h := el_t c11_1 h
      refine px_iconst C (v := (0 : Int32)) dX5_get_20 (by decide) ?_
      exact px_iretE C dX5_get_21 h
    · replace h := el_f c11_1 h
      refine px_aload_n C 0 dX5_get_14 rfl rfl ?_
      refine px_iload_n C 1 dX5_get_15 rfl rfl ?_
      obtain ⟨hix3, x3, ex3, h⟩ := el_ald h
      refine px_tald C C.2.2.2.2.2.2.2.2.2.2 hix3 rfl dX5_get_16 ?_
      refine px_nm ex3 ?_
      refine px_goto C (tgt := 21) dX5_get_17 (by decide) ?_
      exact px_iretE C dX5_get_21 h
theorem lk_X3_fact_9 : Cond.fieldLink RX3 9 "RiverTolls$River" "facts" "[I" ∈ wsX3_fact := List.mem_of_getElem? (i := 1) rfl
theorem iw_X3_fact_X3 : ∀ w ∈ u_ws RX3 TX3 5, w ∈ wsX3_fact := fun _ h9 => (List.mem_cons_of_mem _ (List.mem_append_right _ h9))
set_option maxHeartbeats 4000000 in
set_option maxRecDepth 100000 in
theorem c_X3_fact (l : Launch) (tA tB : Nat) (ad : Nat → Nat) (S : St) (a1 : Int32) (a2 : Int32) {rv : Int32} (h : m_X3_fact S a1 a2 = some rv) :
    XMet l yX3_fact wsX3_fact ({ frames := 1, cells := 0, slots := 0, locals := 21 }) KX (.object "RiverTolls$Boat") tA tB [.ref (ad 6), .int a1, .int a2] ad S (some (.int rv)) S := by
  refine XMet.of (cc := cX3_fact) (maxL := 3) (ret := (some .int)) (own := RX3) (lv := [(0, .ref (ad 6)), (1, .int a1), (2, .int a2)]) rfl (by decide) rfl (Nat.le_of_ble_eq_true rfl) rfl ?_
  intro p e s m args below meth c D A cI c1 F C
  rw [m_X3_fact] at h
  refine px_aload_n C 0 dX3_fact_0 rfl rfl ?_
  refine px_getr C (j := 4) kx_6 rfl rfl iw_X3_fact_X3 (by decide) lk_X3_fact_9 rfl dX3_fact_1 ?_
  refine px_iload_n C 1 dX3_fact_4 rfl rfl ?_
  refine px_iconst C (v := (5 : Int32)) dX3_fact_5 (by decide) ?_
  refine px_imul C dX3_fact_6 ?_
  refine px_iload_n C 2 dX3_fact_7 rfl rfl ?_
  refine px_iadd C dX3_fact_8 ?_
  obtain ⟨x2, hc9_0, h⟩ := el_b h
  refine px_callS1 C (c_X5_get l tA tB ad S 7 40 ((a1 * (5 : Int32)) + a2) kx_7 hc9_0) (va_cwS 2 C.2.2.2.2.1 gX3_fact_X5_get rfl rfl rfl (by decide +kernel) ⟨Nat.le_of_ble_eq_true rfl, Nat.le_of_ble_eq_true rfl⟩) ⟨Nat.zero_le _, Nat.zero_le _⟩ rfl rfl (Nat.le_of_ble_eq_true rfl) dX3_fact_9 ?_
  exact px_iretE C dX3_fact_12 h
set_option maxHeartbeats 4000000 in
set_option maxRecDepth 100000 in
theorem c_X5_put (l : Launch) (tA tB : Nat) (ad : Nat → Nat) (S : St) (k : Nat) (nk : Nat) (a1 : Int32) (a2 : Int32) (hk_k : KX[k]? = some (.inr (nk, .inl false))) {S' : St} (h : m_X5_put S k nk a1 a2 = some S') :
    XMet l yX5_put wsX5_put ({ frames := 0, cells := 0, slots := 0, locals := 0 }) KX (.object "RiverTolls$Boat") tA tB [.ref (ad k), .int a1, .int a2] ad S none S' := by
  refine XMet.of (cc := cX5_put) (maxL := 3) (ret := none) (own := RX5) (lv := [(0, .ref (ad k)), (1, .int a1), (2, .int a2)]) rfl (by decide) rfl (Nat.le_of_ble_eq_true rfl) rfl ?_
  intro p e s m args below meth c D A cI c1 F C
  rw [m_X5_put] at h
  refine px_aload_n C 0 dX5_put_0 rfl rfl ?_
  refine px_ifnull C dX5_put_1 ?_
  refine px_iload_n C 1 dX5_put_4 rfl rfl ?_
  refine px_if_lt C (tgt := 18) dX5_put_5 (by decide) (fun c5_0 => ?_) (fun c5_0 => ?_)
  · replace h := el_t c5_0 h
    exact px_vretE C dX5_put_18 h
  · replace h := el_f c5_0 h
    refine px_iload_n C 1 dX5_put_8 rfl rfl ?_
    refine px_aload_n C 0 dX5_put_9 rfl rfl ?_
    refine px_alen C (v := Int32.ofNat nk) hk_k rfl dX5_put_10 ?_
    refine px_icmp_ge C (tgt := 18) dX5_put_11 (by decide) (fun c11_1 => ?_) (fun c11_1 => ?_)
    · replace h := el_t c11_1 h
      exact px_vretE C dX5_put_18 h
    · replace h := el_f c11_1 h
      refine px_aload_n C 0 dX5_put_14 rfl rfl ?_
      refine px_iload_n C 1 dX5_put_15 rfl rfl ?_
      refine px_iload_n C 2 dX5_put_16 rfl rfl ?_
      obtain ⟨hiS3, S3, eS3, h⟩ := el_ast h
      refine px_iast C hk_k hiS3 rfl dX5_put_17 ?_
      refine px_nmS eS3 ?_
      exact px_vretE C dX5_put_18 h
theorem lk_X0_start_9 : Cond.fieldLink RX0 9 "RiverTolls$Boat" "tolls" "[I" ∈ wsX0_start := List.mem_of_getElem? (i := 9) rfl
theorem lk_X0_start_15 : Cond.fieldLink RX0 15 "RiverTolls$Boat" "gains" "[I" ∈ wsX0_start := List.mem_of_getElem? (i := 10) rfl
theorem lk_X0_start_18 : Cond.fieldLink RX0 18 "RiverTolls$Boat" "at" "I" ∈ wsX0_start := List.mem_of_getElem? (i := 1) rfl
theorem lk_X0_start_22 : Cond.fieldLink RX0 22 "RiverTolls$River" "barrels" "I" ∈ wsX0_start := List.mem_of_getElem? (i := 2) rfl
theorem lk_X0_start_27 : Cond.fieldLink RX0 27 "RiverTolls$Boat" "barrels" "I" ∈ wsX0_start := List.mem_of_getElem? (i := 3) rfl
theorem lk_X0_start_28 : Cond.fieldLink RX0 28 "RiverTolls$River" "coins" "I" ∈ wsX0_start := List.mem_of_getElem? (i := 4) rfl
theorem lk_X0_start_31 : Cond.fieldLink RX0 31 "RiverTolls$Boat" "coins" "I" ∈ wsX0_start := List.mem_of_getElem? (i := 5) rfl
theorem lk_X0_start_32 : Cond.fieldLink RX0 32 "RiverTolls$Boat" "letter" "I" ∈ wsX0_start := List.mem_of_getElem? (i := 6) rfl
theorem lk_X0_start_35 : Cond.fieldLink RX0 35 "RiverTolls$Boat" "seized" "I" ∈ wsX0_start := List.mem_of_getElem? (i := 7) rfl
theorem lk_X0_start_38 : Cond.fieldLink RX0 38 "RiverTolls$Boat" "broken" "I" ∈ wsX0_start := List.mem_of_getElem? (i := 8) rfl
theorem iw_X0_start_X0 : ∀ w ∈ u_ws RX0 TX0 8, w ∈ wsX0_start := fun _ h9 => (List.mem_cons_of_mem _ (List.mem_append_left _ (List.mem_append_right _ h9)))
theorem iw_X0_start_X3 : ∀ w ∈ u_ws RX3 TX3 5, w ∈ wsX0_start := fun _ h9 => (List.mem_cons_of_mem _ (List.mem_append_right _ h9))
set_option maxHeartbeats 4000000 in
set_option maxRecDepth 100000 in
theorem c_X0_start (l : Launch) (tA tB : Nat) (ad : Nat → Nat) (fu : Nat) (S : St) {S' : St} (h : m_X0_start fu S = some S') :
    XMet l yX0_start wsX0_start ({ frames := 2, cells := 0, slots := 0, locals := 43 }) KX (.object "RiverTolls$Boat") tA tB [.ref (ad 8), .ref (ad 6)] ad S none S' := by
  refine XMet.of (cc := cX0_start) (maxL := 3) (ret := none) (own := RX0) (lv := [(0, .ref (ad 8)), (1, .ref (ad 6))]) rfl (by decide) rfl (Nat.le_of_ble_eq_true rfl) rfl ?_
  intro p e s m args below meth c D A cI c1 F C
  rw [m_X0_start] at h
  refine px_aload_n C 0 dX0_start_0 rfl rfl ?_
  refine px_iconst C (v := (0 : Int32)) dX0_start_1 (by decide) ?_
  obtain ⟨S1, eS1, h⟩ := el_lt h
  refine px_puti C (ty := .int) (j := 0) kx_8 rfl rfl iw_X0_start_X0 (by decide) lk_X0_start_18 rfl tyX0 tyX0_ok nmX0 rfl (by decide +kernel) rfl rfl dX0_start_2 ?_
  refine px_nmS eS1 ?_
  refine px_aload_n C 0 dX0_start_5 rfl rfl ?_
  refine px_aload_n C 1 dX0_start_6 rfl rfl ?_
  refine px_geti C (j := 1) kx_6 rfl rfl iw_X0_start_X3 (by decide) lk_X0_start_22 rfl dX0_start_7 ?_
  obtain ⟨S2, eS2, h⟩ := el_lt h
  refine px_puti C (ty := .int) (j := 1) kx_8 rfl rfl iw_X0_start_X0 (by decide) lk_X0_start_27 rfl tyX0 tyX0_ok nmX0 rfl (by decide +kernel) rfl rfl dX0_start_10 ?_
  refine px_nmS eS2 ?_
  refine px_aload_n C 0 dX0_start_13 rfl rfl ?_
  refine px_aload_n C 1 dX0_start_14 rfl rfl ?_
  refine px_geti C (j := 2) kx_6 rfl rfl iw_X0_start_X3 (by decide) lk_X0_start_28 rfl dX0_start_15 ?_
  obtain ⟨S3, eS3, h⟩ := el_lt h
  refine px_puti C (ty := .int) (j := 2) kx_8 rfl rfl iw_X0_start_X0 (by decide) lk_X0_start_31 rfl tyX0 tyX0_ok nmX0 rfl (by decide +kernel) rfl rfl dX0_start_18 ?_
  refine px_nmS eS3 ?_
  refine px_aload_n C 0 dX0_start_21 rfl rfl ?_
  refine px_bipush C (v := (-9 : Int32)) dX0_start_22 (by decide) ?_
  obtain ⟨S4, eS4, h⟩ := el_lt h
  refine px_puti C (ty := .int) (j := 3) kx_8 rfl rfl iw_X0_start_X0 (by decide) lk_X0_start_32 rfl tyX0 tyX0_ok nmX0 rfl (by decide +kernel) rfl rfl dX0_start_24 ?_
  refine px_nmS eS4 ?_
  refine px_aload_n C 0 dX0_start_27 rfl rfl ?_
  refine px_iconst C (v := (0 : Int32)) dX0_start_28 (by decide) ?_
  obtain ⟨S5, eS5, h⟩ := el_lt h
  refine px_puti C (ty := .int) (j := 4) kx_8 rfl rfl iw_X0_start_X0 (by decide) lk_X0_start_35 rfl tyX0 tyX0_ok nmX0 rfl (by decide +kernel) rfl rfl dX0_start_29 ?_
  refine px_nmS eS5 ?_
  refine px_aload_n C 0 dX0_start_32 rfl rfl ?_
  refine px_iconst C (v := (0 : Int32)) dX0_start_33 (by decide) ?_
  obtain ⟨S6, eS6, h⟩ := el_lt h
  refine px_puti C (ty := .int) (j := 5) kx_8 rfl rfl iw_X0_start_X0 (by decide) lk_X0_start_38 rfl tyX0 tyX0_ok nmX0 rfl (by decide +kernel) rfl rfl dX0_start_34 ?_
  refine px_nmS eS6 ?_
  refine px_iconst C (v := (0 : Int32)) dX0_start_37 (by decide) ?_
  refine px_istore_n C [(2, .int (0 : Int32)), (0, .ref (ad 8)), (1, .ref (ad 6))] dX0_start_38 rfl (by decide) rfl ?_
  have hx0 : ∀  (x9 : Int32) (S10 : St), m_X0_start_r0 fu x9 S10 = some S' → PW p l e { frames := 2, cells := 0, slots := 0, locals := 43 } s m args below meth c (MQ below (QX KX A D cI c1 F ad none S') args s 0 0 A) D A cI c1 F KX ad 3 0 0 S10 [(0, .ref (ad 8)), (1, .ref (ad 6)), (2, .int x9)] 65 [] := by
    intro x9 S10 h
    rw [m_X0_start_r0] at h
    refine px_iconst C (v := (0 : Int32)) dX0_start_65 (by decide) ?_
    refine px_istore_n C [(2, .int (0 : Int32)), (0, .ref (ad 8)), (1, .ref (ad 6))] dX0_start_66 rfl (by decide) rfl ?_
    have hx1 : ∀  (x13 : Int32) (S14 : St), m_X0_start_r1 x13 S14 = some S' → PW p l e { frames := 2, cells := 0, slots := 0, locals := 43 } s m args below meth c (MQ below (QX KX A D cI c1 F ad none S') args s 0 0 A) D A cI c1 F KX ad 3 0 0 S14 [(0, .ref (ad 8)), (1, .ref (ad 6)), (2, .int x13)] 87 [] := by
      intro x13 S14 h
      rw [m_X0_start_r1] at h
      exact px_vretE C dX0_start_87 h
    have hl1 : ∀ (n_1 : Nat) (x11 : Int32) (S12 : St), m_X0_start_L1 m_X0_start_r1 n_1 x11 S12 = some S' → PW p l e { frames := 2, cells := 0, slots := 0, locals := 43 } s m args below meth c (MQ below (QX KX A D cI c1 F ad none S') args s 0 0 A) D A cI c1 F KX ad 3 0 0 S12 [(0, .ref (ad 8)), (1, .ref (ad 6)), (2, .int x11)] 67 [] := by
      intro n_1
      induction n_1 with
      | zero =>
        intro x11 S12 h
        rw [m_X0_start_L1_z] at h
        cases h
      | succ n_1 ih1 =>
        intro x11 S12 h
        rw [m_X0_start_L1_s] at h
        refine px_iload_n C 2 dX0_start_67 rfl rfl ?_
        refine px_iconst C (v := (3 : Int32)) dX0_start_68 (by decide) ?_
        refine px_icmp_gt C (tgt := 87) dX0_start_69 (by decide) (fun c69_14 => ?_) (fun c69_14 => ?_)
        · replace h := el_t c69_14 h
          exact (hx1 _ _ h)
        · replace h := el_f c69_14 h
          refine px_aload_n C 0 dX0_start_72 rfl rfl ?_
          refine px_getr C (j := 7) kx_8 rfl rfl iw_X0_start_X0 (by decide) lk_X0_start_15 rfl dX0_start_73 ?_
          refine px_iload_n C 2 dX0_start_76 rfl rfl ?_
          refine px_iconst C (v := (0 : Int32)) dX0_start_77 (by decide) ?_
          obtain ⟨S17, hc78_15, h⟩ := el_b h
          refine px_callS0 C (c_X5_put l tA tB ad S12 10 4 x11 (0 : Int32) kx_10 hc78_15) (va_cwS 3 C.2.2.2.2.1 gX0_start_X5_put rfl rfl rfl (by decide +kernel) ⟨Nat.le_of_ble_eq_true rfl, Nat.le_of_ble_eq_true rfl⟩) ⟨Nat.zero_le _, Nat.zero_le _⟩ rfl rfl (Nat.le_of_ble_eq_true rfl) dX0_start_78 ?_
          refine px_iinc C 2 [(2, .int (x11 + (1 : Int32))), (0, .ref (ad 8)), (1, .ref (ad 6))] dX0_start_81 rfl rfl (by decide) rfl ?_
          refine px_goto C (tgt := 67) dX0_start_84 (by decide) ?_
          exact px_sub [1, 2, 0] rfl (ih1 _ _ h)
    exact px_sub [1, 2, 0] rfl (hl1 _ _ _ h)
  have hl0 : ∀ (n_0 : Nat) (x7 : Int32) (S8 : St), m_X0_start_L0 (m_X0_start_r0 fu) n_0 x7 S8 = some S' → PW p l e { frames := 2, cells := 0, slots := 0, locals := 43 } s m args below meth c (MQ below (QX KX A D cI c1 F ad none S') args s 0 0 A) D A cI c1 F KX ad 3 0 0 S8 [(0, .ref (ad 8)), (1, .ref (ad 6)), (2, .int x7)] 39 [] := by
    intro n_0
    induction n_0 with
    | zero =>
      intro x7 S8 h
      rw [m_X0_start_L0_z] at h
      cases h
    | succ n_0 ih0 =>
      intro x7 S8 h
      rw [m_X0_start_L0_s] at h
      refine px_iload_n C 2 dX0_start_39 rfl rfl ?_
      refine px_bipush C (v := (8 : Int32)) dX0_start_40 (by decide) ?_
      refine px_icmp_ge C (tgt := 65) dX0_start_42 (by decide) (fun c42_17 => ?_) (fun c42_17 => ?_)
      · replace h := el_t c42_17 h
        exact (hx0 _ _ h)
      · replace h := el_f c42_17 h
        refine px_aload_n C 0 dX0_start_45 rfl rfl ?_
        refine px_getr C (j := 6) kx_8 rfl rfl iw_X0_start_X0 (by decide) lk_X0_start_9 rfl dX0_start_46 ?_
        refine px_iload_n C 2 dX0_start_49 rfl rfl ?_
        refine px_aload_n C 1 dX0_start_50 rfl rfl ?_
        refine px_iload_n C 2 dX0_start_51 rfl rfl ?_
        refine px_iconst C (v := (0 : Int32)) dX0_start_52 (by decide) ?_
        obtain ⟨x20, hc53_18, h⟩ := el_b h
        refine px_callV1 C (c_X3_fact l tA tB ad S8 x7 (0 : Int32) hc53_18) (cwV 2 C.2.2.2.2.1 gX0_start_X3_fact rfl rfl rfl (by decide +kernel) ⟨Nat.le_of_ble_eq_true rfl, Nat.le_of_ble_eq_true rfl⟩) ⟨Nat.zero_le _, Nat.zero_le _⟩ kx_6 rfl rfl rfl (Nat.le_of_ble_eq_true rfl) dX0_start_53 ?_
        obtain ⟨S22, hc56_20, h⟩ := el_b h
        refine px_callS0 C (c_X5_put l tA tB ad S8 9 8 x7 x20 kx_9 hc56_20) (va_cwS 3 C.2.2.2.2.1 gX0_start_X5_put rfl rfl rfl (by decide +kernel) ⟨Nat.le_of_ble_eq_true rfl, Nat.le_of_ble_eq_true rfl⟩) ⟨Nat.zero_le _, Nat.zero_le _⟩ rfl rfl (Nat.le_of_ble_eq_true rfl) dX0_start_56 ?_
        refine px_iinc C 2 [(2, .int (x7 + (1 : Int32))), (0, .ref (ad 8)), (1, .ref (ad 6))] dX0_start_59 rfl rfl (by decide) rfl ?_
        refine px_goto C (tgt := 39) dX0_start_62 (by decide) ?_
        exact px_sub [1, 2, 0] rfl (ih0 _ _ h)
  exact px_sub [1, 2, 0] rfl (hl0 _ _ _ h)
theorem lk_X0_tollOf_9 : Cond.fieldLink RX0 9 "RiverTolls$Boat" "tolls" "[I" ∈ wsX0_tollOf := List.mem_of_getElem? (i := 1) rfl
theorem iw_X0_tollOf_X0 : ∀ w ∈ u_ws RX0 TX0 8, w ∈ wsX0_tollOf := fun _ h9 => (List.mem_cons_of_mem _ (List.mem_append_right _ h9))
set_option maxHeartbeats 4000000 in
set_option maxRecDepth 100000 in
theorem c_X0_tollOf (l : Launch) (tA tB : Nat) (ad : Nat → Nat) (S : St) (a1 : Int32) {rv : Int32} (h : m_X0_tollOf S a1 = some rv) :
    XMet l yX0_tollOf wsX0_tollOf ({ frames := 1, cells := 0, slots := 0, locals := 21 }) KX (.object "RiverTolls$Boat") tA tB [.ref (ad 8), .int a1] ad S (some (.int rv)) S := by
  refine XMet.of (cc := cX0_tollOf) (maxL := 2) (ret := (some .int)) (own := RX0) (lv := [(0, .ref (ad 8)), (1, .int a1)]) rfl (by decide) rfl (Nat.le_of_ble_eq_true rfl) rfl ?_
  intro p e s m args below meth c D A cI c1 F C
  rw [m_X0_tollOf] at h
  refine px_aload_n C 0 dX0_tollOf_0 rfl rfl ?_
  refine px_getr C (j := 6) kx_8 rfl rfl iw_X0_tollOf_X0 (by decide) lk_X0_tollOf_9 rfl dX0_tollOf_1 ?_
  refine px_iload_n C 1 dX0_tollOf_4 rfl rfl ?_
  obtain ⟨x2, hc5_0, h⟩ := el_b h
  refine px_callS1 C (c_X5_get l tA tB ad S 9 8 a1 kx_9 hc5_0) (va_cwS 2 C.2.2.2.2.1 gX0_tollOf_X5_get rfl rfl rfl (by decide +kernel) ⟨Nat.le_of_ble_eq_true rfl, Nat.le_of_ble_eq_true rfl⟩) ⟨Nat.zero_le _, Nat.zero_le _⟩ rfl rfl (Nat.le_of_ble_eq_true rfl) dX0_tollOf_5 ?_
  exact px_iretE C dX0_tollOf_8 h
theorem lk_X1_boatAt_11 : Cond.fieldLink RX1 11 "RiverTolls$Past" "boats" "[LRiverTolls$Boat;" ∈ wsX1_boatAt := List.mem_of_getElem? (i := 1) rfl
theorem iw_X1_boatAt_X1 : ∀ w ∈ u_ws RX1 TX1 3, w ∈ wsX1_boatAt := fun _ h9 => (List.mem_cons_of_mem _ (List.mem_append_right _ h9))
set_option maxHeartbeats 4000000 in
set_option maxRecDepth 100000 in
theorem c_X1_boatAt (l : Launch) (tA tB : Nat) (ad : Nat → Nat) (S : St) (a1 : Int32) {rv : Option Nat} (h : m_X1_boatAt S a1 = some rv) :
    XMet l yX1_boatAt wsX1_boatAt ({ frames := 0, cells := 0, slots := 0, locals := 0 }) KX (.object "RiverTolls$Boat") tA tB [.ref (ad 11), .int a1] ad S (some (va_rf (rv.map ad))) S := by
  refine XMet.of (cc := cX1_boatAt) (maxL := 2) (ret := (some (.object "RiverTolls$Boat"))) (own := RX1) (lv := [(0, .ref (ad 11)), (1, .int a1)]) rfl (by decide) rfl (Nat.le_of_ble_eq_true rfl) rfl ?_
  intro p e s m args below meth c D A cI c1 F C
  rw [m_X1_boatAt] at h
  refine px_iload_n C 1 dX1_boatAt_0 rfl rfl ?_
  refine px_if_lt C (tgt := 22) dX1_boatAt_1 (by decide) (fun c1_0 => ?_) (fun c1_0 => ?_)
  · replace h := el_t c1_0 h
    refine px_null C dX1_boatAt_22 ?_
    exact px_aretN C dX1_boatAt_23 h
  · replace h := el_f c1_0 h
    refine px_iload_n C 1 dX1_boatAt_4 rfl rfl ?_
    refine px_aload_n C 0 dX1_boatAt_5 rfl rfl ?_
    refine px_getr C (j := 2) kx_11 rfl rfl iw_X1_boatAt_X1 (by decide) lk_X1_boatAt_11 rfl dX1_boatAt_6 ?_
    refine px_alenR C (v := (10 : Int32)) kx_12 rfl dX1_boatAt_9 ?_
    refine px_icmp_ge C (tgt := 22) dX1_boatAt_10 (by decide) (fun c10_1 => ?_) (fun c10_1 => ?_)
    · replace h := el_t c10_1 h
      refine px_null C dX1_boatAt_22 ?_
      exact px_aretN C dX1_boatAt_23 h
    · replace h := el_f c10_1 h
      refine px_aload_n C 0 dX1_boatAt_13 rfl rfl ?_
      refine px_getr C (j := 2) kx_11 rfl rfl iw_X1_boatAt_X1 (by decide) lk_X1_boatAt_11 rfl dX1_boatAt_14 ?_
      refine px_iload_n C 1 dX1_boatAt_17 rfl rfl ?_
      obtain ⟨hi18, h⟩ := el_nb h
      refine px_aaldS C rfl kx_12 hi18 rfl (p_rf (p_lt hi18)) dX1_boatAt_18 ?_
      refine px_goto C (tgt := 23) dX1_boatAt_19 (by decide) ?_
      exact px_aretE C dX1_boatAt_23 h
theorem lk_X1_forgetAll_18 : Cond.fieldLink RX1 18 "RiverTolls$Past" "known" "I" ∈ wsX1_forgetAll := List.mem_of_getElem? (i := 1) rfl
theorem iw_X1_forgetAll_X1 : ∀ w ∈ u_ws RX1 TX1 3, w ∈ wsX1_forgetAll := fun _ h9 => (List.mem_cons_of_mem _ (List.mem_append_right _ h9))
set_option maxHeartbeats 4000000 in
set_option maxRecDepth 100000 in
theorem c_X1_forgetAll (l : Launch) (tA tB : Nat) (ad : Nat → Nat) (S : St) {S' : St} (h : m_X1_forgetAll S = some S') :
    XMet l yX1_forgetAll wsX1_forgetAll ({ frames := 0, cells := 0, slots := 0, locals := 0 }) KX (.object "RiverTolls$Boat") tA tB [.ref (ad 11)] ad S none S' := by
  refine XMet.of (cc := cX1_forgetAll) (maxL := 1) (ret := none) (own := RX1) (lv := [(0, .ref (ad 11))]) rfl (by decide) rfl (Nat.le_of_ble_eq_true rfl) rfl ?_
  intro p e s m args below meth c D A cI c1 F C
  rw [m_X1_forgetAll] at h
  refine px_aload_n C 0 dX1_forgetAll_0 rfl rfl ?_
  refine px_iconst C (v := (0 : Int32)) dX1_forgetAll_1 (by decide) ?_
  obtain ⟨S1, eS1, h⟩ := el_lt h
  refine px_puti C (ty := .int) (j := 0) kx_11 rfl rfl iw_X1_forgetAll_X1 (by decide) lk_X1_forgetAll_18 rfl tyX1 tyX1_ok nmX1 rfl (by decide +kernel) rfl rfl dX1_forgetAll_2 ?_
  refine px_nmS eS1 ?_
  exact px_vretE C dX1_forgetAll_5 h
theorem lk_X1_remember_18 : Cond.fieldLink RX1 18 "RiverTolls$Past" "known" "I" ∈ wsX1_remember := List.mem_of_getElem? (i := 2) rfl
theorem lk_X1_remember_22 : Cond.fieldLink RX1 22 "RiverTolls$Past" "next" "I" ∈ wsX1_remember := List.mem_of_getElem? (i := 1) rfl
theorem iw_X1_remember_X1 : ∀ w ∈ u_ws RX1 TX1 3, w ∈ wsX1_remember := fun _ h9 => (List.mem_cons_of_mem _ (List.mem_append_left _ (List.mem_append_right _ h9)))
set_option maxHeartbeats 4000000 in
set_option maxRecDepth 100000 in
theorem c_X1_remember (l : Launch) (tA tB : Nat) (ad : Nat → Nat) (fu : Nat) (S : St) {S' : St} (h : m_X1_remember fu S = some S') :
    XMet l yX1_remember wsX1_remember ({ frames := 2, cells := 0, slots := 0, locals := 43 }) KX (.object "RiverTolls$Boat") tA tB [.ref (ad 11), .ref (ad 8)] ad S none S' := by
  refine XMet.of (cc := cX1_remember) (maxL := 3) (ret := none) (own := RX1) (lv := [(0, .ref (ad 11)), (1, .ref (ad 8))]) rfl (by decide) rfl (Nat.le_of_ble_eq_true rfl) rfl ?_
  intro p e s m args below meth c D A cI c1 F C
  rw [m_X1_remember] at h
  refine px_aload_n C 0 dX1_remember_0 rfl rfl ?_
  refine px_aload_n C 0 dX1_remember_1 rfl rfl ?_
  refine px_geti C (j := 1) kx_11 rfl rfl iw_X1_remember_X1 (by decide) lk_X1_remember_22 rfl dX1_remember_2 ?_
  obtain ⟨o2, hc5_0, h⟩ := el_b h
  refine px_callV1 C (c_X1_boatAt l tA tB ad S (S.1 11 1) hc5_0) (cwV 1 C.2.2.2.2.1 gX1_remember_X1_boatAt rfl rfl rfl (by decide +kernel) ⟨Nat.le_of_ble_eq_true rfl, Nat.le_of_ble_eq_true rfl⟩) ⟨Nat.zero_le _, Nat.zero_le _⟩ kx_11 rfl rfl rfl (Nat.le_of_ble_eq_true rfl) dX1_remember_5 ?_
  rcases el_on h with ⟨rfl, h⟩ | ⟨b3, rfl, hB_b3, h⟩
  · skip
    refine px_astore_nN C [(2, .null), (0, .ref (ad 11)), (1, .ref (ad 8))] dX1_remember_8 rfl (by decide) rfl ?_
    refine px_aload_nN C 0 dX1_remember_9 rfl rfl ?_
    refine px_ifnonnullN C dX1_remember_10 ?_
    exact px_vretE C dX1_remember_13 h
  · obtain ⟨hk_b3, hk1_b3, hk2_b3⟩ := kx_boat hB_b3
    refine px_astore_n C [(2, .ref (ad b3)), (0, .ref (ad 11)), (1, .ref (ad 8))] dX1_remember_8 rfl (by decide) rfl ?_
    refine px_aload_n C 0 dX1_remember_9 rfl rfl ?_
    refine px_ifnonnull C (tgt := 14) dX1_remember_10 (by decide) ?_
    refine px_aload_n C 0 dX1_remember_14 rfl rfl ?_
    refine px_aload_n C 2 dX1_remember_15 rfl rfl ?_
    obtain ⟨S5, hc16_3, h⟩ := el_b h
    refine px_callV0 C (c_X0_become l tA tB ad fu S b3 8 hB_b3 (by decide) hc16_3) (cwV 1 C.2.2.2.2.1 gX1_remember_X0_become rfl rfl rfl (by decide +kernel) ⟨Nat.le_of_ble_eq_true rfl, Nat.le_of_ble_eq_true rfl⟩) ⟨Nat.zero_le _, Nat.zero_le _⟩ hk_b3 rfl rfl rfl (Nat.le_of_ble_eq_true rfl) dX1_remember_16 ?_
    refine px_aload_n C 1 dX1_remember_19 rfl rfl ?_
    refine px_aload_n C 1 dX1_remember_20 rfl rfl ?_
    refine px_geti C (j := 1) kx_11 rfl rfl iw_X1_remember_X1 (by decide) lk_X1_remember_22 rfl dX1_remember_21 ?_
    refine px_iconst C (v := (1 : Int32)) dX1_remember_24 (by decide) ?_
    refine px_iadd C dX1_remember_25 ?_
    refine px_bipush C (v := (10 : Int32)) dX1_remember_26 (by decide) ?_
    refine px_irem C dX1_remember_28 (by decide) ?_
    obtain ⟨S6, eS6, h⟩ := el_lt h
    refine px_puti C (ty := .int) (j := 1) kx_11 rfl rfl iw_X1_remember_X1 (by decide) lk_X1_remember_22 rfl tyX1 tyX1_ok nmX1 rfl (by decide +kernel) rfl rfl dX1_remember_29 ?_
    refine px_nmS eS6 ?_
    refine px_aload_n C 1 dX1_remember_32 rfl rfl ?_
    refine px_aload_n C 1 dX1_remember_33 rfl rfl ?_
    refine px_geti C (j := 0) kx_11 rfl rfl iw_X1_remember_X1 (by decide) lk_X1_remember_18 rfl dX1_remember_34 ?_
    refine px_iconst C (v := (1 : Int32)) dX1_remember_37 (by decide) ?_
    refine px_iadd C dX1_remember_38 ?_
    refine px_bipush C (v := (10 : Int32)) dX1_remember_39 (by decide) ?_
    refine px_min C (List.mem_of_getElem? (i := 3) rfl) (List.mem_of_getElem? (i := 4) rfl) (List.mem_of_getElem? (i := 5) rfl) (List.mem_of_getElem? (i := 6) rfl) ⟨Nat.zero_le _, Nat.zero_le _⟩ (Nat.le_of_ble_eq_true rfl) (Nat.le_of_ble_eq_true rfl) dX1_remember_41 ?_
    obtain ⟨S7, eS7, h⟩ := el_lt h
    refine px_puti C (ty := .int) (j := 0) kx_11 rfl rfl iw_X1_remember_X1 (by decide) lk_X1_remember_18 rfl tyX1 tyX1_ok nmX1 rfl (by decide +kernel) rfl rfl dX1_remember_44 ?_
    refine px_nmS eS7 ?_
    exact px_vretE C dX1_remember_47 h
theorem lk_X1_restore_18 : Cond.fieldLink RX1 18 "RiverTolls$Past" "known" "I" ∈ wsX1_restore := List.mem_of_getElem? (i := 2) rfl
theorem lk_X1_restore_22 : Cond.fieldLink RX1 22 "RiverTolls$Past" "next" "I" ∈ wsX1_restore := List.mem_of_getElem? (i := 1) rfl
theorem iw_X1_restore_X1 : ∀ w ∈ u_ws RX1 TX1 3, w ∈ wsX1_restore := fun _ h9 => (List.mem_cons_of_mem _ (List.mem_append_left _ (List.mem_append_right _ h9)))
set_option maxHeartbeats 4000000 in
set_option maxRecDepth 100000 in
theorem c_X1_restore (l : Launch) (tA tB : Nat) (ad : Nat → Nat) (fu : Nat) (S : St) {S' : St} (h : m_X1_restore fu S = some S') :
    XMet l yX1_restore wsX1_restore ({ frames := 2, cells := 0, slots := 0, locals := 43 }) KX (.object "RiverTolls$Boat") tA tB [.ref (ad 11), .ref (ad 8)] ad S none S' := by
  refine XMet.of (cc := cX1_restore) (maxL := 4) (ret := none) (own := RX1) (lv := [(0, .ref (ad 11)), (1, .ref (ad 8))]) rfl (by decide) rfl (Nat.le_of_ble_eq_true rfl) rfl ?_
  intro p e s m args below meth c D A cI c1 F C
  rw [m_X1_restore] at h
  refine px_aload_n C 0 dX1_restore_0 rfl rfl ?_
  refine px_geti C (j := 1) kx_11 rfl rfl iw_X1_restore_X1 (by decide) lk_X1_restore_22 rfl dX1_restore_1 ?_
  refine px_bipush C (v := (10 : Int32)) dX1_restore_4 (by decide) ?_
  refine px_iadd C dX1_restore_6 ?_
  refine px_iconst C (v := (1 : Int32)) dX1_restore_7 (by decide) ?_
  refine px_isub C dX1_restore_8 ?_
  refine px_bipush C (v := (10 : Int32)) dX1_restore_9 (by decide) ?_
  refine px_irem C dX1_restore_11 (by decide) ?_
  obtain ⟨x1, ex1, h⟩ := el_lt h
  refine px_nm ex1 ?_
  refine px_istore_n C [(2, .int x1), (0, .ref (ad 11)), (1, .ref (ad 8))] dX1_restore_12 rfl (by decide) rfl ?_
  refine px_aload_n C 1 dX1_restore_13 rfl rfl ?_
  refine px_iload_n C 0 dX1_restore_14 rfl rfl ?_
  obtain ⟨o3, hc15_1, h⟩ := el_b h
  refine px_callV1 C (c_X1_boatAt l tA tB ad S x1 hc15_1) (cwV 1 C.2.2.2.2.1 gX1_restore_X1_boatAt rfl rfl rfl (by decide +kernel) ⟨Nat.le_of_ble_eq_true rfl, Nat.le_of_ble_eq_true rfl⟩) ⟨Nat.zero_le _, Nat.zero_le _⟩ kx_11 rfl rfl rfl (Nat.le_of_ble_eq_true rfl) dX1_restore_15 ?_
  rcases el_on h with ⟨rfl, h⟩ | ⟨b4, rfl, hB_b4, h⟩
  · skip
    refine px_astore_nN C [(3, .null), (2, .int x1), (0, .ref (ad 11)), (1, .ref (ad 8))] dX1_restore_18 rfl (by decide) rfl ?_
    refine px_aload_nN C 0 dX1_restore_19 rfl rfl ?_
    refine px_ifnullN C (tgt := 30) dX1_restore_20 (by decide) ?_
    exact px_vretE C dX1_restore_30 h
  · obtain ⟨hk_b4, hk1_b4, hk2_b4⟩ := kx_boat hB_b4
    refine px_astore_n C [(3, .ref (ad b4)), (2, .int x1), (0, .ref (ad 11)), (1, .ref (ad 8))] dX1_restore_18 rfl (by decide) rfl ?_
    refine px_aload_n C 0 dX1_restore_19 rfl rfl ?_
    refine px_ifnull C dX1_restore_20 ?_
    refine px_aload_n C 2 dX1_restore_23 rfl rfl ?_
    refine px_geti C (j := 0) kx_11 rfl rfl iw_X1_restore_X1 (by decide) lk_X1_restore_18 rfl dX1_restore_24 ?_
    refine px_if_ne C (tgt := 31) dX1_restore_27 (by decide) (fun c27_4 => ?_) (fun c27_4 => ?_)
    · replace h := el_t c27_4 h
      refine px_aload_n C 3 dX1_restore_31 rfl rfl ?_
      refine px_aload_n C 0 dX1_restore_32 rfl rfl ?_
      obtain ⟨S7, hc33_5, h⟩ := el_b h
      refine px_callV0 C (c_X0_become l tA tB ad fu S 8 b4 (by decide) hB_b4 hc33_5) (cwV 1 C.2.2.2.2.1 gX1_restore_X0_become rfl rfl rfl (by decide +kernel) ⟨Nat.le_of_ble_eq_true rfl, Nat.le_of_ble_eq_true rfl⟩) ⟨Nat.zero_le _, Nat.zero_le _⟩ kx_8 rfl rfl rfl (Nat.le_of_ble_eq_true rfl) dX1_restore_33 ?_
      refine px_aload_n C 2 dX1_restore_36 rfl rfl ?_
      refine px_iload_n C 1 dX1_restore_37 rfl rfl ?_
      obtain ⟨S8, eS8, h⟩ := el_lt h
      refine px_puti C (ty := .int) (j := 1) kx_11 rfl rfl iw_X1_restore_X1 (by decide) lk_X1_restore_22 rfl tyX1 tyX1_ok nmX1 rfl (by decide +kernel) rfl rfl dX1_restore_38 ?_
      refine px_nmS eS8 ?_
      refine px_aload_n C 2 dX1_restore_41 rfl rfl ?_
      refine px_dup C dX1_restore_42 rfl ?_
      refine px_geti C (j := 0) kx_11 rfl rfl iw_X1_restore_X1 (by decide) lk_X1_restore_18 rfl dX1_restore_43 ?_
      refine px_iconst C (v := (1 : Int32)) dX1_restore_46 (by decide) ?_
      refine px_isub C dX1_restore_47 ?_
      obtain ⟨S9, eS9, h⟩ := el_lt h
      refine px_puti C (ty := .int) (j := 0) kx_11 rfl rfl iw_X1_restore_X1 (by decide) lk_X1_restore_18 rfl tyX1 tyX1_ok nmX1 rfl (by decide +kernel) rfl rfl dX1_restore_48 ?_
      refine px_nmS eS9 ?_
      exact px_vretE C dX1_restore_51 h
    · replace h := el_fn c27_4 h
      exact px_vretE C dX1_restore_30 h
set_option maxHeartbeats 4000000 in
set_option maxRecDepth 100000 in
theorem c_X2_isDigit (l : Launch) (tA tB : Nat) (ad : Nat → Nat) (S : St) (a0 : Int32) {rv : Int32} (h : m_X2_isDigit a0 = some rv) :
    XMet l yX2_isDigit wsX2_isDigit ({ frames := 0, cells := 0, slots := 0, locals := 0 }) KX (.object "RiverTolls$Boat") tA tB [.int a0] ad S (some (.int rv)) S := by
  refine XMet.of (cc := cX2_isDigit) (maxL := 1) (ret := (some .boolean)) (own := RX2) (lv := [(0, .int a0)]) rfl (by decide) rfl (Nat.le_of_ble_eq_true rfl) rfl ?_
  intro p e s m args below meth c D A cI c1 F C
  rw [m_X2_isDigit] at h
  refine px_iload_n C 0 dX2_isDigit_0 rfl rfl ?_
  refine px_bipush C (v := (48 : Int32)) dX2_isDigit_1 (by decide) ?_
  refine px_icmp_lt C (tgt := 16) dX2_isDigit_3 (by decide) (fun c3_0 => ?_) (fun c3_0 => ?_)
  · replace h := el_t c3_0 h
    refine px_iconst C (v := (0 : Int32)) dX2_isDigit_16 (by decide) ?_
    exact px_zretE C (Or.inl rfl) dX2_isDigit_17 h
  · replace h := el_f c3_0 h
    refine px_iload_n C 0 dX2_isDigit_6 rfl rfl ?_
    refine px_bipush C (v := (57 : Int32)) dX2_isDigit_7 (by decide) ?_
    refine px_icmp_gt C (tgt := 16) dX2_isDigit_9 (by decide) (fun c9_1 => ?_) (fun c9_1 => ?_)
    · replace h := el_t c9_1 h
      refine px_iconst C (v := (0 : Int32)) dX2_isDigit_16 (by decide) ?_
      exact px_zretE C (Or.inl rfl) dX2_isDigit_17 h
    · replace h := el_f c9_1 h
      refine px_iconst C (v := (1 : Int32)) dX2_isDigit_12 (by decide) ?_
      refine px_goto C (tgt := 17) dX2_isDigit_13 (by decide) ?_
      exact px_zretE C (Or.inr rfl) dX2_isDigit_17 h
set_option maxHeartbeats 4000000 in
set_option maxRecDepth 100000 in
theorem c_X2_isSign (l : Launch) (tA tB : Nat) (ad : Nat → Nat) (S : St) (a0 : Int32) {rv : Int32} (h : m_X2_isSign a0 = some rv) :
    XMet l yX2_isSign wsX2_isSign ({ frames := 0, cells := 0, slots := 0, locals := 0 }) KX (.object "RiverTolls$Boat") tA tB [.int a0] ad S (some (.int rv)) S := by
  refine XMet.of (cc := cX2_isSign) (maxL := 1) (ret := (some .boolean)) (own := RX2) (lv := [(0, .int a0)]) rfl (by decide) rfl (Nat.le_of_ble_eq_true rfl) rfl ?_
  intro p e s m args below meth c D A cI c1 F C
  rw [m_X2_isSign] at h
  refine px_iload_n C 0 dX2_isSign_0 rfl rfl ?_
  refine px_bipush C (v := (114 : Int32)) dX2_isSign_1 (by decide) ?_
  refine px_icmp_eq C (tgt := 24) dX2_isSign_3 (by decide) (fun c3_0 => ?_) (fun c3_0 => ?_)
  · replace h := el_t c3_0 h
    refine px_iconst C (v := (1 : Int32)) dX2_isSign_24 (by decide) ?_
    refine px_goto C (tgt := 29) dX2_isSign_25 (by decide) ?_
    exact px_zretE C (Or.inr rfl) dX2_isSign_29 h
  · replace h := el_f c3_0 h
    refine px_iload_n C 0 dX2_isSign_6 rfl rfl ?_
    refine px_bipush C (v := (98 : Int32)) dX2_isSign_7 (by decide) ?_
    refine px_icmp_eq C (tgt := 24) dX2_isSign_9 (by decide) (fun c9_1 => ?_) (fun c9_1 => ?_)
    · replace h := el_t c9_1 h
      refine px_iconst C (v := (1 : Int32)) dX2_isSign_24 (by decide) ?_
      refine px_goto C (tgt := 29) dX2_isSign_25 (by decide) ?_
      exact px_zretE C (Or.inr rfl) dX2_isSign_29 h
    · replace h := el_f c9_1 h
      refine px_iload_n C 0 dX2_isSign_12 rfl rfl ?_
      refine px_bipush C (v := (99 : Int32)) dX2_isSign_13 (by decide) ?_
      refine px_icmp_eq C (tgt := 24) dX2_isSign_15 (by decide) (fun c15_2 => ?_) (fun c15_2 => ?_)
      · replace h := el_t c15_2 h
        refine px_iconst C (v := (1 : Int32)) dX2_isSign_24 (by decide) ?_
        refine px_goto C (tgt := 29) dX2_isSign_25 (by decide) ?_
        exact px_zretE C (Or.inr rfl) dX2_isSign_29 h
      · replace h := el_f c15_2 h
        refine px_iload_n C 0 dX2_isSign_18 rfl rfl ?_
        refine px_bipush C (v := (59 : Int32)) dX2_isSign_19 (by decide) ?_
        refine px_icmp_ne C (tgt := 28) dX2_isSign_21 (by decide) (fun c21_3 => ?_) (fun c21_3 => ?_)
        · replace h := el_t c21_3 h
          refine px_iconst C (v := (0 : Int32)) dX2_isSign_28 (by decide) ?_
          exact px_zretE C (Or.inl rfl) dX2_isSign_29 h
        · replace h := el_fn c21_3 h
          refine px_iconst C (v := (1 : Int32)) dX2_isSign_24 (by decide) ?_
          refine px_goto C (tgt := 29) dX2_isSign_25 (by decide) ?_
          exact px_zretE C (Or.inr rfl) dX2_isSign_29 h
theorem lk_X3_untell_18 : Cond.fieldLink RX3 18 "RiverTolls$River" "rocks" "I" ∈ wsX3_untell := List.mem_of_getElem? (i := 1) rfl
theorem lk_X3_untell_22 : Cond.fieldLink RX3 22 "RiverTolls$River" "barrels" "I" ∈ wsX3_untell := List.mem_of_getElem? (i := 2) rfl
theorem lk_X3_untell_25 : Cond.fieldLink RX3 25 "RiverTolls$River" "coins" "I" ∈ wsX3_untell := List.mem_of_getElem? (i := 3) rfl
theorem lk_X3_untell_28 : Cond.fieldLink RX3 28 "RiverTolls$River" "items" "I" ∈ wsX3_untell := List.mem_of_getElem? (i := 4) rfl
theorem iw_X3_untell_X3 : ∀ w ∈ u_ws RX3 TX3 5, w ∈ wsX3_untell := fun _ h9 => (List.mem_cons_of_mem _ (List.mem_append_right _ h9))
set_option maxHeartbeats 4000000 in
set_option maxRecDepth 100000 in
theorem c_X3_untell (l : Launch) (tA tB : Nat) (ad : Nat → Nat) (S : St) {S' : St} (h : m_X3_untell S = some S') :
    XMet l yX3_untell wsX3_untell ({ frames := 0, cells := 0, slots := 0, locals := 0 }) KX (.object "RiverTolls$Boat") tA tB [.ref (ad 4)] ad S none S' := by
  refine XMet.of (cc := cX3_untell) (maxL := 1) (ret := none) (own := RX3) (lv := [(0, .ref (ad 4))]) rfl (by decide) rfl (Nat.le_of_ble_eq_true rfl) rfl ?_
  intro p e s m args below meth c D A cI c1 F C
  rw [m_X3_untell] at h
  refine px_aload_n C 0 dX3_untell_0 rfl rfl ?_
  refine px_iconst C (v := (0 : Int32)) dX3_untell_1 (by decide) ?_
  obtain ⟨S1, eS1, h⟩ := el_lt h
  refine px_puti C (ty := .int) (j := 0) kx_4 rfl rfl iw_X3_untell_X3 (by decide) lk_X3_untell_18 rfl tyX3 tyX3_ok nmX3 rfl (by decide +kernel) rfl rfl dX3_untell_2 ?_
  refine px_nmS eS1 ?_
  refine px_aload_n C 0 dX3_untell_5 rfl rfl ?_
  refine px_bipush C (v := (10 : Int32)) dX3_untell_6 (by decide) ?_
  obtain ⟨S2, eS2, h⟩ := el_lt h
  refine px_puti C (ty := .int) (j := 1) kx_4 rfl rfl iw_X3_untell_X3 (by decide) lk_X3_untell_22 rfl tyX3 tyX3_ok nmX3 rfl (by decide +kernel) rfl rfl dX3_untell_8 ?_
  refine px_nmS eS2 ?_
  refine px_aload_n C 0 dX3_untell_11 rfl rfl ?_
  refine px_bipush C (v := (100 : Int32)) dX3_untell_12 (by decide) ?_
  obtain ⟨S3, eS3, h⟩ := el_lt h
  refine px_puti C (ty := .int) (j := 2) kx_4 rfl rfl iw_X3_untell_X3 (by decide) lk_X3_untell_25 rfl tyX3 tyX3_ok nmX3 rfl (by decide +kernel) rfl rfl dX3_untell_14 ?_
  refine px_nmS eS3 ?_
  refine px_aload_n C 0 dX3_untell_17 rfl rfl ?_
  refine px_iconst C (v := (0 : Int32)) dX3_untell_18 (by decide) ?_
  obtain ⟨S4, eS4, h⟩ := el_lt h
  refine px_puti C (ty := .int) (j := 3) kx_4 rfl rfl iw_X3_untell_X3 (by decide) lk_X3_untell_28 rfl tyX3 tyX3_ok nmX3 rfl (by decide +kernel) rfl rfl dX3_untell_19 ?_
  refine px_nmS eS4 ?_
  exact px_vretE C dX3_untell_22 h
