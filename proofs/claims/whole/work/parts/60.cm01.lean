theorem lk_X9_tollOf_19 : Cond.fieldLink RX9 19 "RiverTollsModel" "measure" "[I" ∈ wsX9_tollOf := List.mem_of_getElem? (i := 1) rfl
theorem iw_X9_tollOf_X9 : ∀ w ∈ u_ws RX9 TX9 28, w ∈ wsX9_tollOf := fun _ h9 => (List.mem_cons_of_mem _ (List.mem_append_right _ h9))
set_option maxHeartbeats 4000000 in
set_option maxRecDepth 100000 in
theorem c_X9_tollOf (l : Launch) (tA tB : Nat) (ad : Nat → Nat) (S : St) (k : Nat) (a2 : Int32) (a3 : Int32) (hk_k : KM[k]? = some (.inr (18, .inl false))) {rv : Int32} (h : m_X9_tollOf S k a2 a3 = some rv) :
    XMet l yX9_tollOf wsX9_tollOf ({ frames := 0, cells := 0, slots := 0, locals := 0 }) KM .boolean tA tB [.ref (ad 0), .ref (ad k), .int a2, .int a3] ad S (some (.int rv)) S := by
  refine XMet.of (cc := cX9_tollOf) (maxL := 4) (ret := (some .int)) (own := RX9) (lv := [(0, .ref (ad 0)), (1, .ref (ad k)), (2, .int a2), (3, .int a3)]) rfl (by decide) rfl (Nat.le_of_ble_eq_true rfl) rfl ?_
  intro p e s m args below meth c D A cI c1 F C
  rw [m_X9_tollOf] at h
  refine px_aload_n C 1 dX9_tollOf_0 rfl rfl ?_
  refine px_iconst C (v := (5 : Int32)) dX9_tollOf_1 (by decide) ?_
  refine px_iald C hk_k (j := 5) (by unfold vp_in; decide) (by decide) dX9_tollOf_2 ?_
  refine px_iload_n C 2 dX9_tollOf_3 rfl rfl ?_
  refine px_ishr C dX9_tollOf_4 ?_
  refine px_iconst C (v := (1 : Int32)) dX9_tollOf_5 (by decide) ?_
  refine px_iand C dX9_tollOf_6 ?_
  refine px_iconst C (v := (1 : Int32)) dX9_tollOf_7 (by decide) ?_
  refine px_icmp_ne C (tgt := 15) dX9_tollOf_8 (by decide) (fun c8_0 => ?_) (fun c8_0 => ?_)
  · replace h := el_t c8_0 h
    refine px_aload_n C 1 dX9_tollOf_15 rfl rfl ?_
    refine px_bipush C (v := (6 : Int32)) dX9_tollOf_16 (by decide) ?_
    refine px_iload_n C 2 dX9_tollOf_18 rfl rfl ?_
    refine px_iadd C dX9_tollOf_19 ?_
    obtain ⟨hix2, x2, ex2, h⟩ := el_ald h
    refine px_iald C hk_k hix2 rfl dX9_tollOf_20 ?_
    refine px_nm ex2 ?_
    refine px_iload_n C 3 dX9_tollOf_21 rfl rfl ?_
    refine px_aload_n C 0 dX9_tollOf_22 rfl rfl ?_
    refine px_getr C (j := 11) km_0 rfl rfl iw_X9_tollOf_X9 (by decide) lk_X9_tollOf_19 rfl dX9_tollOf_23 ?_
    refine px_iload_n C 2 dX9_tollOf_26 rfl rfl ?_
    obtain ⟨hix3, x3, ex3, h⟩ := el_ald h
    refine px_iald C km_4 hix3 rfl dX9_tollOf_27 ?_
    refine px_nm ex3 ?_
    refine px_iadd C dX9_tollOf_28 ?_
    refine px_iconst C (v := (1 : Int32)) dX9_tollOf_29 (by decide) ?_
    refine px_isub C dX9_tollOf_30 ?_
    refine px_aload_n C 0 dX9_tollOf_31 rfl rfl ?_
    refine px_getr C (j := 11) km_0 rfl rfl iw_X9_tollOf_X9 (by decide) lk_X9_tollOf_19 rfl dX9_tollOf_32 ?_
    refine px_iload_n C 2 dX9_tollOf_35 rfl rfl ?_
    obtain ⟨hix4, x4, ex4, h⟩ := el_ald h
    refine px_iald C km_4 hix4 rfl dX9_tollOf_36 ?_
    refine px_nm ex4 ?_
    obtain ⟨hz37, h⟩ := el_nz h
    refine px_idiv C dX9_tollOf_37 hz37 ?_
    refine px_imul C dX9_tollOf_38 ?_
    exact px_iretE C dX9_tollOf_39 h
  · replace h := el_fn c8_0 h
    refine px_iconst C (v := (0 : Int32)) dX9_tollOf_11 (by decide) ?_
    refine px_goto C (tgt := 39) dX9_tollOf_12 (by decide) ?_
    exact px_iretE C dX9_tollOf_39 h
theorem lk_X9_takenBy_22 : Cond.fieldLink RX9 22 "RiverTollsModel" "lord" "[I" ∈ wsX9_takenBy := List.mem_of_getElem? (i := 1) rfl
theorem iw_X9_takenBy_X9 : ∀ w ∈ u_ws RX9 TX9 28, w ∈ wsX9_takenBy := fun _ h9 => (List.mem_cons_of_mem _ (List.mem_append_right _ h9))
set_option maxHeartbeats 4000000 in
set_option maxRecDepth 100000 in
theorem c_X9_takenBy (l : Launch) (tA tB : Nat) (ad : Nat → Nat) (S : St) (k : Nat) (a2 : Int32) (a3 : Int32) (a4 : Int32) (hk_k : KM[k]? = some (.inr (18, .inl false))) {rv : Int32} (h : m_X9_takenBy S k a2 a3 a4 = some rv) :
    XMet l yX9_takenBy wsX9_takenBy ({ frames := 1, cells := 0, slots := 0, locals := 23 }) KM .boolean tA tB [.ref (ad 0), .ref (ad k), .int a2, .int a3, .int a4] ad S (some (.int rv)) S := by
  refine XMet.of (cc := cX9_takenBy) (maxL := 5) (ret := (some .int)) (own := RX9) (lv := [(0, .ref (ad 0)), (1, .ref (ad k)), (2, .int a2), (3, .int a3), (4, .int a4)]) rfl (by decide) rfl (Nat.le_of_ble_eq_true rfl) rfl ?_
  intro p e s m args below meth c D A cI c1 F C
  rw [m_X9_takenBy] at h
  refine px_iload C 4 dX9_takenBy_0 rfl ?_
  refine px_aload_n C 0 dX9_takenBy_2 rfl rfl ?_
  refine px_getr C (j := 12) km_0 rfl rfl iw_X9_takenBy_X9 (by decide) lk_X9_takenBy_22 rfl dX9_takenBy_3 ?_
  refine px_iload_n C 2 dX9_takenBy_6 rfl rfl ?_
  obtain ⟨hix1, x1, ex1, h⟩ := el_ald h
  refine px_iald C km_5 hix1 rfl dX9_takenBy_7 ?_
  refine px_nm ex1 ?_
  refine px_iconst C (v := (1 : Int32)) dX9_takenBy_8 (by decide) ?_
  refine px_iadd C dX9_takenBy_9 ?_
  refine px_icmp_ne C (tgt := 17) dX9_takenBy_10 (by decide) (fun c10_1 => ?_) (fun c10_1 => ?_)
  · replace h := el_t c10_1 h
    refine px_aload_n C 0 dX9_takenBy_17 rfl rfl ?_
    refine px_aload_n C 1 dX9_takenBy_18 rfl rfl ?_
    refine px_iload_n C 2 dX9_takenBy_19 rfl rfl ?_
    refine px_iload_n C 3 dX9_takenBy_20 rfl rfl ?_
    obtain ⟨x4, hc21_2, h⟩ := el_b h
    refine px_callV1 C (c_X9_tollOf l tA tB ad S k a2 a3 hk_k hc21_2) (cwV 3 C.2.2.2.2.1 gX9_takenBy_X9_tollOf rfl rfl rfl (by decide +kernel) ⟨Nat.le_of_ble_eq_true rfl, Nat.le_of_ble_eq_true rfl⟩) ⟨Nat.zero_le _, Nat.zero_le _⟩ km_0 rfl rfl rfl (Nat.le_of_ble_eq_true rfl) dX9_takenBy_21 ?_
    exact px_iretE C dX9_takenBy_24 h
  · replace h := el_fn c10_1 h
    refine px_iconst C (v := (0 : Int32)) dX9_takenBy_13 (by decide) ?_
    refine px_goto C (tgt := 24) dX9_takenBy_14 (by decide) ?_
    exact px_iretE C dX9_takenBy_24 h
theorem lk_X9_paidOn_22 : Cond.fieldLink RX9 22 "RiverTollsModel" "lord" "[I" ∈ wsX9_paidOn := List.mem_of_getElem? (i := 2) rfl
theorem lk_X9_paidOn_53 : Cond.fieldLink RX9 53 "RiverTollsModel" "least" "[I" ∈ wsX9_paidOn := List.mem_of_getElem? (i := 1) rfl
theorem iw_X9_paidOn_X9 : ∀ w ∈ u_ws RX9 TX9 28, w ∈ wsX9_paidOn := fun _ h9 => (List.mem_cons_of_mem _ (List.mem_append_right _ h9))
set_option maxHeartbeats 4000000 in
set_option maxRecDepth 100000 in
theorem c_X9_paidOn (l : Launch) (tA tB : Nat) (ad : Nat → Nat) (S : St) (k : Nat) (a2 : Int32) (a3 : Int32) (a4 : Int32) (hk_k : KM[k]? = some (.inr (18, .inl false))) {rv : Int32} (h : m_X9_paidOn S k a2 a3 a4 = some rv) :
    XMet l yX9_paidOn wsX9_paidOn ({ frames := 2, cells := 0, slots := 0, locals := 47 }) KM .boolean tA tB [.ref (ad 0), .ref (ad k), .int a2, .int a3, .int a4] ad S (some (.int rv)) S := by
  refine XMet.of (cc := cX9_paidOn) (maxL := 6) (ret := (some .int)) (own := RX9) (lv := [(0, .ref (ad 0)), (1, .ref (ad k)), (2, .int a2), (3, .int a3), (4, .int a4)]) rfl (by decide) rfl (Nat.le_of_ble_eq_true rfl) rfl ?_
  intro p e s m args below meth c D A cI c1 F C
  rw [m_X9_paidOn] at h
  refine px_aload_n C 0 dX9_paidOn_0 rfl rfl ?_
  refine px_aload_n C 1 dX9_paidOn_1 rfl rfl ?_
  refine px_iload_n C 2 dX9_paidOn_2 rfl rfl ?_
  refine px_iload_n C 3 dX9_paidOn_3 rfl rfl ?_
  refine px_iload C 4 dX9_paidOn_4 rfl ?_
  obtain ⟨x2, hc6_0, h⟩ := el_b h
  refine px_callV1 C (c_X9_takenBy l tA tB ad S k a2 a3 a4 hk_k hc6_0) (cwV 4 C.2.2.2.2.1 gX9_paidOn_X9_takenBy rfl rfl rfl (by decide +kernel) ⟨Nat.le_of_ble_eq_true rfl, Nat.le_of_ble_eq_true rfl⟩) ⟨Nat.zero_le _, Nat.zero_le _⟩ km_0 rfl rfl rfl (Nat.le_of_ble_eq_true rfl) dX9_paidOn_6 ?_
  refine px_istore C [(5, .int x2), (0, .ref (ad 0)), (1, .ref (ad k)), (2, .int a2), (3, .int a3), (4, .int a4)] dX9_paidOn_9 (by decide) rfl ?_
  refine px_iload C 0 dX9_paidOn_11 rfl ?_
  refine px_aload_n C 1 dX9_paidOn_13 rfl rfl ?_
  refine px_getr C (j := 25) km_0 rfl rfl iw_X9_paidOn_X9 (by decide) lk_X9_paidOn_53 rfl dX9_paidOn_14 ?_
  refine px_iconst C (v := (5 : Int32)) dX9_paidOn_17 (by decide) ?_
  refine px_iload_n C 3 dX9_paidOn_18 rfl rfl ?_
  refine px_imul C dX9_paidOn_19 ?_
  refine px_iconst C (v := (5 : Int32)) dX9_paidOn_20 (by decide) ?_
  refine px_iadd C dX9_paidOn_21 ?_
  refine px_iload C 0 dX9_paidOn_22 rfl ?_
  obtain ⟨x4, hr24_7, h⟩ := el_b h
  have hj24_4 : PW p l e { frames := 2, cells := 0, slots := 0, locals := 47 } s m args below meth c (MQ below (QX KM A D cI c1 F ad (some (.int rv)) S) args s 0 0 A) D A cI c1 F KM ad 6 0 0 S [(0, .ref (ad 0)), (1, .ref (ad k)), (2, .int a2), (3, .int a3), (4, .int a4), (5, .int x2)] 39 [.int x4, .int (((5 : Int32) * a2) + (5 : Int32)), .ref (ad 15), .int x2] := by
    refine px_iadd C dX9_paidOn_39 ?_
    obtain ⟨hix6, x6, ex6, h⟩ := el_ald h
    refine px_iald C km_15 hix6 rfl dX9_paidOn_40 ?_
    refine px_nm ex6 ?_
    refine px_iadd C dX9_paidOn_41 ?_
    exact px_iretE C dX9_paidOn_42 h
  clear h
  have h := hr24_7
  clear hr24_7
  refine px_if_le C (tgt := 38) dX9_paidOn_24 (by decide) (fun c24_2 => ?_) (fun c24_2 => ?_)
  · replace h := el_t c24_2 h
    refine px_iconst C (v := (0 : Int32)) dX9_paidOn_38 (by decide) ?_
    cases h
    exact px_sub [1, 2, 3, 4, 5, 0] rfl hj24_4
  · replace h := el_f c24_2 h
    refine px_aload_n C 1 dX9_paidOn_27 rfl rfl ?_
    refine px_getr C (j := 12) km_0 rfl rfl iw_X9_paidOn_X9 (by decide) lk_X9_paidOn_22 rfl dX9_paidOn_28 ?_
    refine px_iload_n C 3 dX9_paidOn_31 rfl rfl ?_
    obtain ⟨hix7, x7, ex7, h⟩ := el_ald h
    refine px_iald C km_5 hix7 rfl dX9_paidOn_32 ?_
    refine px_nm ex7 ?_
    refine px_iconst C (v := (1 : Int32)) dX9_paidOn_33 (by decide) ?_
    refine px_iadd C dX9_paidOn_34 ?_
    refine px_goto C (tgt := 39) dX9_paidOn_35 (by decide) ?_
    cases h
    exact px_sub [1, 2, 3, 4, 5, 0] rfl hj24_4
theorem lk_X9_landOn_28 : Cond.fieldLink RX9 28 "RiverTollsModel" "land" "[I" ∈ wsX9_landOn := List.mem_of_getElem? (i := 1) rfl
theorem lk_X9_landOn_53 : Cond.fieldLink RX9 53 "RiverTollsModel" "least" "[I" ∈ wsX9_landOn := List.mem_of_getElem? (i := 2) rfl
theorem iw_X9_landOn_X9 : ∀ w ∈ u_ws RX9 TX9 28, w ∈ wsX9_landOn := fun _ h9 => (List.mem_cons_of_mem _ (List.mem_append_right _ h9))
set_option maxHeartbeats 4000000 in
set_option maxRecDepth 100000 in
theorem c_X9_landOn (l : Launch) (tA tB : Nat) (ad : Nat → Nat) (S : St) (a1 : Int32) (a2 : Int32) {rv : Int32} (h : m_X9_landOn S a1 a2 = some rv) :
    XMet l yX9_landOn wsX9_landOn ({ frames := 0, cells := 0, slots := 0, locals := 0 }) KM .boolean tA tB [.ref (ad 0), .int a1, .int a2] ad S (some (.int rv)) S := by
  refine XMet.of (cc := cX9_landOn) (maxL := 3) (ret := (some .int)) (own := RX9) (lv := [(0, .ref (ad 0)), (1, .int a1), (2, .int a2)]) rfl (by decide) rfl (Nat.le_of_ble_eq_true rfl) rfl ?_
  intro p e s m args below meth c D A cI c1 F C
  rw [m_X9_landOn] at h
  refine px_aload_n C 0 dX9_landOn_0 rfl rfl ?_
  refine px_getr C (j := 14) km_0 rfl rfl iw_X9_landOn_X9 (by decide) lk_X9_landOn_28 rfl dX9_landOn_1 ?_
  refine px_iload_n C 1 dX9_landOn_4 rfl rfl ?_
  obtain ⟨hix1, x1, ex1, h⟩ := el_ald h
  refine px_iald C km_7 hix1 rfl dX9_landOn_5 ?_
  refine px_nm ex1 ?_
  refine px_iload_n C 2 dX9_landOn_6 rfl rfl ?_
  refine px_imul C dX9_landOn_7 ?_
  refine px_aload_n C 0 dX9_landOn_8 rfl rfl ?_
  refine px_getr C (j := 25) km_0 rfl rfl iw_X9_landOn_X9 (by decide) lk_X9_landOn_53 rfl dX9_landOn_9 ?_
  refine px_iconst C (v := (5 : Int32)) dX9_landOn_12 (by decide) ?_
  refine px_iload_n C 1 dX9_landOn_13 rfl rfl ?_
  refine px_imul C dX9_landOn_14 ?_
  refine px_iconst C (v := (5 : Int32)) dX9_landOn_15 (by decide) ?_
  refine px_iadd C dX9_landOn_16 ?_
  obtain ⟨hix2, x2, ex2, h⟩ := el_ald h
  refine px_iald C km_15 hix2 rfl dX9_landOn_17 ?_
  refine px_nm ex2 ?_
  refine px_iadd C dX9_landOn_18 ?_
  exact px_iretE C dX9_landOn_19 h
theorem lk_X9_finds_13 : Cond.fieldLink RX9 13 "RiverTollsModel" "many" "[I" ∈ wsX9_finds := List.mem_of_getElem? (i := 2) rfl
theorem lk_X9_finds_22 : Cond.fieldLink RX9 22 "RiverTollsModel" "lord" "[I" ∈ wsX9_finds := List.mem_of_getElem? (i := 6) rfl
theorem lk_X9_finds_28 : Cond.fieldLink RX9 28 "RiverTollsModel" "land" "[I" ∈ wsX9_finds := List.mem_of_getElem? (i := 3) rfl
theorem lk_X9_finds_53 : Cond.fieldLink RX9 53 "RiverTollsModel" "least" "[I" ∈ wsX9_finds := List.mem_of_getElem? (i := 1) rfl
theorem lk_X9_finds_56 : Cond.fieldLink RX9 56 "RiverTollsModel" "isLand" "[I" ∈ wsX9_finds := List.mem_of_getElem? (i := 4) rfl
theorem lk_X9_finds_59 : Cond.fieldLink RX9 59 "RiverTollsModel" "taken" "[I" ∈ wsX9_finds := List.mem_of_getElem? (i := 5) rfl
theorem iw_X9_finds_X9 : ∀ w ∈ u_ws RX9 TX9 28, w ∈ wsX9_finds := fun _ h9 => (List.mem_cons_of_mem _ (List.mem_append_right _ h9))
set_option maxHeartbeats 4000000 in
set_option maxRecDepth 100000 in
theorem c_X9_finds (l : Launch) (tA tB : Nat) (ad : Nat → Nat) (fu : Nat) (S : St) (k : Nat) (a2 : Int32) (hk_k : KM[k]? = some (.inr (18, .inl false))) {rv : Int32} {S' : St} (h : m_X9_finds fu S k a2 = some (rv, S')) :
    XMet l yX9_finds wsX9_finds ({ frames := 3, cells := 0, slots := 0, locals := 72 }) KM .boolean tA tB [.ref (ad 0), .ref (ad k), .int a2] ad S (some (.int rv)) S' := by
  refine XMet.of (cc := cX9_finds) (maxL := 7) (ret := (some .int)) (own := RX9) (lv := [(0, .ref (ad 0)), (1, .ref (ad k)), (2, .int a2)]) rfl (by decide) rfl (Nat.le_of_ble_eq_true rfl) rfl ?_
  intro p e s m args below meth c D A cI c1 F C
  rw [m_X9_finds] at h
  refine px_iconst C (v := (0 : Int32)) dX9_finds_0 (by decide) ?_
  refine px_istore_n C [(3, .int (0 : Int32)), (0, .ref (ad 0)), (1, .ref (ad k)), (2, .int a2)] dX9_finds_1 rfl (by decide) rfl ?_
  have hx0 : ∀  (x3 : Int32) (S4 : St), m_X9_finds_r0 fu k a2 x3 S4 = some (rv, S') → PW p l e { frames := 3, cells := 0, slots := 0, locals := 72 } s m args below meth c (MQ below (QX KM A D cI c1 F ad (some (.int rv)) S') args s 0 0 A) D A cI c1 F KM ad 7 0 0 S4 [(0, .ref (ad 0)), (1, .ref (ad k)), (2, .int a2), (3, .int x3)] 29 [] := by
    intro x3 S4 h
    rw [m_X9_finds_r0] at h
    refine px_aload_n C 0 dX9_finds_29 rfl rfl ?_
    refine px_getr C (j := 9) km_0 rfl rfl iw_X9_finds_X9 (by decide) lk_X9_finds_13 rfl dX9_finds_30 ?_
    refine px_iconst C (v := (0 : Int32)) dX9_finds_33 (by decide) ?_
    refine px_iald C km_2 (j := 0) (by unfold vp_in; decide) (by decide) dX9_finds_34 ?_
    refine px_iconst C (v := (1 : Int32)) dX9_finds_35 (by decide) ?_
    refine px_isub C dX9_finds_36 ?_
    refine px_istore_n C [(3, .int ((S4.1 2 0) - (1 : Int32))), (0, .ref (ad 0)), (1, .ref (ad k)), (2, .int a2)] dX9_finds_37 rfl (by decide) rfl ?_
    have hx1 : ∀  (x7 : Int32) (S8 : St), m_X9_finds_r1 fu k a2 x7 S8 = some (rv, S') → PW p l e { frames := 3, cells := 0, slots := 0, locals := 72 } s m args below meth c (MQ below (QX KM A D cI c1 F ad (some (.int rv)) S') args s 0 0 A) D A cI c1 F KM ad 7 0 0 S8 [(0, .ref (ad 0)), (1, .ref (ad k)), (2, .int a2), (3, .int x7)] 110 [] := by
      intro x7 S8 h
      rw [m_X9_finds_r1] at h
      refine px_aload_n C 1 dX9_finds_110 rfl rfl ?_
      refine px_iconst C (v := (3 : Int32)) dX9_finds_111 (by decide) ?_
      refine px_iald C hk_k (j := 3) (by unfold vp_in; decide) (by decide) dX9_finds_112 ?_
      refine px_istore_n C [(3, .int (S8.1 k 3)), (0, .ref (ad 0)), (1, .ref (ad k)), (2, .int a2)] dX9_finds_113 rfl (by decide) rfl ?_
      refine px_aload_n C 2 dX9_finds_114 rfl rfl ?_
      refine px_iconst C (v := (0 : Int32)) dX9_finds_115 (by decide) ?_
      refine px_iald C hk_k (j := 0) (by unfold vp_in; decide) (by decide) dX9_finds_116 ?_
      refine px_istore C [(4, .int (S8.1 k 0)), (3, .int (S8.1 k 3)), (0, .ref (ad 0)), (1, .ref (ad k)), (2, .int a2)] dX9_finds_117 (by decide) rfl ?_
      have hx2 : ∀  (x12 : Int32) (x13 : Int32) (S14 : St), m_X9_finds_r2 k x12 x13 S14 = some (rv, S') → PW p l e { frames := 3, cells := 0, slots := 0, locals := 72 } s m args below meth c (MQ below (QX KM A D cI c1 F ad (some (.int rv)) S') args s 0 0 A) D A cI c1 F KM ad 7 0 0 S14 [(0, .ref (ad 0)), (1, .ref (ad k)), (2, .int a2), (3, .int x12), (4, .int x13)] 240 [] := by
        intro x12 x13 S14 h
        rw [m_X9_finds_r2] at h
        refine px_aload_n C 0 dX9_finds_240 rfl rfl ?_
        refine px_getr C (j := 25) km_0 rfl rfl iw_X9_finds_X9 (by decide) lk_X9_finds_53 rfl dX9_finds_241 ?_
        refine px_iconst C (v := (5 : Int32)) dX9_finds_244 (by decide) ?_
        refine px_aload_n C 1 dX9_finds_245 rfl rfl ?_
        refine px_iconst C (v := (0 : Int32)) dX9_finds_246 (by decide) ?_
        refine px_iald C hk_k (j := 0) (by unfold vp_in; decide) (by decide) dX9_finds_247 ?_
        refine px_imul C dX9_finds_248 ?_
        refine px_aload_n C 1 dX9_finds_249 rfl rfl ?_
        refine px_iconst C (v := (3 : Int32)) dX9_finds_250 (by decide) ?_
        refine px_iald C hk_k (j := 3) (by unfold vp_in; decide) (by decide) dX9_finds_251 ?_
        refine px_iadd C dX9_finds_252 ?_
        obtain ⟨hix15, x15, ex15, h⟩ := el_ald h
        refine px_iald C km_15 hix15 rfl dX9_finds_253 ?_
        refine px_nm ex15 ?_
        exact px_iretES C dX9_finds_254 h
      have hl2 : ∀ (n_2 : Nat) (x9 : Int32) (x10 : Int32) (S11 : St), m_X9_finds_L2 k a2 (m_X9_finds_r2 k) n_2 x9 x10 S11 = some (rv, S') → PW p l e { frames := 3, cells := 0, slots := 0, locals := 72 } s m args below meth c (MQ below (QX KM A D cI c1 F ad (some (.int rv)) S') args s 0 0 A) D A cI c1 F KM ad 7 0 0 S11 [(0, .ref (ad 0)), (1, .ref (ad k)), (2, .int a2), (3, .int x9), (4, .int x10)] 119 [] := by
        intro n_2
        induction n_2 with
        | zero =>
          intro x9 x10 S11 h
          rw [m_X9_finds_L2_z] at h
          cases h
        | succ n_2 ih2 =>
          intro x9 x10 S11 h
          rw [m_X9_finds_L2_s] at h
          refine px_iload C 4 dX9_finds_119 rfl ?_
          refine px_aload_n C 0 dX9_finds_121 rfl rfl ?_
          refine px_getr C (j := 9) km_0 rfl rfl iw_X9_finds_X9 (by decide) lk_X9_finds_13 rfl dX9_finds_122 ?_
          refine px_iconst C (v := (0 : Int32)) dX9_finds_125 (by decide) ?_
          refine px_iald C km_2 (j := 0) (by unfold vp_in; decide) (by decide) dX9_finds_126 ?_
          refine px_icmp_ge C (tgt := 240) dX9_finds_127 (by decide) (fun c127_15 => ?_) (fun c127_15 => ?_)
          · replace h := el_t c127_15 h
            exact (hx2 _ _ _ h)
          · replace h := el_f c127_15 h
            refine px_aload_n C 0 dX9_finds_130 rfl rfl ?_
            refine px_iload C 4 dX9_finds_131 rfl ?_
            refine px_iload_n C 2 dX9_finds_133 rfl rfl ?_
            obtain ⟨x18, hc134_16, h⟩ := el_b h
            refine px_callV1 C (c_X9_landOn l tA tB ad S11 x10 a2 hc134_16) (cwV 2 C.2.2.2.2.1 gX9_finds_X9_landOn rfl rfl rfl (by decide +kernel) ⟨Nat.le_of_ble_eq_true rfl, Nat.le_of_ble_eq_true rfl⟩) ⟨Nat.zero_le _, Nat.zero_le _⟩ km_0 rfl rfl rfl (Nat.le_of_ble_eq_true rfl) dX9_finds_134 ?_
            refine px_aload_n C 0 dX9_finds_137 rfl rfl ?_
            refine px_aload_n C 1 dX9_finds_138 rfl rfl ?_
            refine px_iload C 4 dX9_finds_139 rfl ?_
            refine px_iload_n C 2 dX9_finds_141 rfl rfl ?_
            refine px_iload_n C 3 dX9_finds_142 rfl rfl ?_
            obtain ⟨x20, hc143_18, h⟩ := el_b h
            refine px_callV1 C (c_X9_paidOn l tA tB ad S11 k x10 a2 x9 hk_k hc143_18) (cwV 4 C.2.2.2.2.1 gX9_finds_X9_paidOn rfl rfl rfl (by decide +kernel) ⟨Nat.le_of_ble_eq_true rfl, Nat.le_of_ble_eq_true rfl⟩) ⟨Nat.zero_le _, Nat.zero_le _⟩ km_0 rfl rfl rfl (Nat.le_of_ble_eq_true rfl) dX9_finds_143 ?_
            obtain ⟨x22, hr146_42, h⟩ := el_b h
            have hj146_22 : PW p l e { frames := 3, cells := 0, slots := 0, locals := 72 } s m args below meth c (MQ below (QX KM A D cI c1 F ad (some (.int rv)) S') args s 0 0 A) D A cI c1 F KM ad 7 0 0 S11 [(0, .ref (ad 0)), (1, .ref (ad k)), (2, .int a2), (3, .int x9), (4, .int x10)] 154 [.int x22] := by
              refine px_istore C [(5, .int x22), (0, .ref (ad 0)), (1, .ref (ad k)), (2, .int a2), (3, .int x9), (4, .int x10)] dX9_finds_154 (by decide) rfl ?_
              refine px_iload C 0 dX9_finds_156 rfl ?_
              obtain ⟨x25, hr158_41, h⟩ := el_b h
              have hj158_25 : PW p l e { frames := 3, cells := 0, slots := 0, locals := 72 } s m args below meth c (MQ below (QX KM A D cI c1 F ad (some (.int rv)) S') args s 0 0 A) D A cI c1 F KM ad 7 0 0 S11 [(0, .ref (ad 0)), (1, .ref (ad k)), (2, .int a2), (3, .int x9), (4, .int x10), (5, .int x22)] 182 [.int x25] := by
                refine px_istore C [(6, .int x25), (0, .ref (ad 0)), (1, .ref (ad k)), (2, .int a2), (3, .int x9), (4, .int x10), (5, .int x22)] dX9_finds_182 (by decide) rfl ?_
                refine px_aload_n C 1 dX9_finds_184 rfl rfl ?_
                refine px_getr C (j := 26) km_0 rfl rfl iw_X9_finds_X9 (by decide) lk_X9_finds_56 rfl dX9_finds_185 ?_
                refine px_iload C 5 dX9_finds_188 rfl ?_
                refine px_iload C 6 dX9_finds_190 rfl ?_
                obtain ⟨x28, hr192_37, h⟩ := el_b h
                have hj192_28 : PW p l e { frames := 3, cells := 0, slots := 0, locals := 72 } s m args below meth c (MQ below (QX KM A D cI c1 F ad (some (.int rv)) S') args s 0 0 A) D A cI c1 F KM ad 7 0 0 S11 [(0, .ref (ad 0)), (1, .ref (ad k)), (2, .int a2), (3, .int x9), (4, .int x10), (5, .int x22), (6, .int x25)] 200 [.int x28, .int x10, .ref (ad 16)] := by
                  obtain ⟨hiS30, S30, eS30, h⟩ := el_ast h
                  refine px_iast C km_16 hiS30 rfl dX9_finds_200 ?_
                  refine px_nmS eS30 ?_
                  refine px_aload_n C 0 dX9_finds_201 rfl rfl ?_
                  refine px_getr C (j := 27) km_0 rfl rfl iw_X9_finds_X9 (by decide) lk_X9_finds_59 rfl dX9_finds_202 ?_
                  refine px_iload C 4 dX9_finds_205 rfl ?_
                  refine px_iload C 6 dX9_finds_207 rfl ?_
                  obtain ⟨hiS31, S31, eS31, h⟩ := el_ast h
                  refine px_iast C km_17 hiS31 rfl dX9_finds_209 ?_
                  refine px_nmS eS31 ?_
                  refine px_iload C 5 dX9_finds_210 rfl ?_
                  obtain ⟨x33, hr212_36, h⟩ := el_b h
                  have hj212_33 : PW p l e { frames := 3, cells := 0, slots := 0, locals := 72 } s m args below meth c (MQ below (QX KM A D cI c1 F ad (some (.int rv)) S') args s 0 0 A) D A cI c1 F KM ad 7 0 0 S31 [(0, .ref (ad 0)), (1, .ref (ad k)), (2, .int a2), (3, .int x9), (4, .int x10), (5, .int x22), (6, .int x25)] 233 [.int x33] := by
                    refine px_istore_n C [(3, .int x33), (0, .ref (ad 0)), (1, .ref (ad k)), (2, .int a2), (4, .int x10), (5, .int x22), (6, .int x25)] dX9_finds_233 rfl (by decide) rfl ?_
                    refine px_iinc C 4 [(4, .int (x10 + (1 : Int32))), (3, .int x33), (0, .ref (ad 0)), (1, .ref (ad k)), (2, .int a2), (5, .int x22), (6, .int x25)] dX9_finds_234 rfl rfl (by decide) rfl ?_
                    refine px_goto C (tgt := 119) dX9_finds_237 (by decide) ?_
                    exact px_sub [2, 3, 4, 1, 0] rfl (ih2 _ _ _ h)
                  clear h
                  have h := hr212_36
                  clear hr212_36
                  refine px_if_ne C (tgt := 220) dX9_finds_212 (by decide) (fun c212_31 => ?_) (fun c212_31 => ?_)
                  · replace h := el_t c212_31 h
                    refine px_iconst C (v := (0 : Int32)) dX9_finds_220 (by decide) ?_
                    refine px_goto C (tgt := 233) dX9_finds_221 (by decide) ?_
                    cases h
                    exact hj212_33
                  · replace h := el_fn c212_31 h
                    refine px_iload C 6 dX9_finds_215 rfl ?_
                    refine px_if_ne C (tgt := 224) dX9_finds_217 (by decide) (fun c217_34 => ?_) (fun c217_34 => ?_)
                    · replace h := el_t c217_34 h
                      refine px_aload_n C 0 dX9_finds_224 rfl rfl ?_
                      refine px_getr C (j := 12) km_0 rfl rfl iw_X9_finds_X9 (by decide) lk_X9_finds_22 rfl dX9_finds_225 ?_
                      refine px_iload C 4 dX9_finds_228 rfl ?_
                      obtain ⟨hix36, x36, ex36, h⟩ := el_ald h
                      refine px_iald C km_5 hix36 rfl dX9_finds_230 ?_
                      refine px_nm ex36 ?_
                      refine px_iconst C (v := (1 : Int32)) dX9_finds_231 (by decide) ?_
                      refine px_iadd C dX9_finds_232 ?_
                      cases h
                      exact hj212_33
                    · replace h := el_fn c217_34 h
                      refine px_iconst C (v := (0 : Int32)) dX9_finds_220 (by decide) ?_
                      refine px_goto C (tgt := 233) dX9_finds_221 (by decide) ?_
                      cases h
                      exact hj212_33
                clear h
                have h := hr192_37
                clear hr192_37
                refine px_if_eq C (tgt := 199) dX9_finds_192 (by decide) (fun c192_26 => ?_) (fun c192_26 => ?_)
                · replace h := el_t c192_26 h
                  refine px_iconst C (v := (0 : Int32)) dX9_finds_199 (by decide) ?_
                  cases h
                  exact px_sub [1, 2, 3, 4, 5, 6, 0] rfl hj192_28
                · replace h := el_f c192_26 h
                  refine px_iconst C (v := (1 : Int32)) dX9_finds_195 (by decide) ?_
                  refine px_goto C (tgt := 200) dX9_finds_196 (by decide) ?_
                  cases h
                  exact px_sub [1, 2, 3, 4, 5, 6, 0] rfl hj192_28
              clear h
              have h := hr158_41
              clear hr158_41
              refine px_if_eq C (tgt := 173) dX9_finds_158 (by decide) (fun c158_23 => ?_) (fun c158_23 => ?_)
              · replace h := el_t c158_23 h
                refine px_aload_n C 1 dX9_finds_173 rfl rfl ?_
                refine px_aload_n C 2 dX9_finds_174 rfl rfl ?_
                refine px_iload C 5 dX9_finds_175 rfl ?_
                refine px_iload_n C 3 dX9_finds_177 rfl rfl ?_
                refine px_iload_n C 4 dX9_finds_178 rfl rfl ?_
                obtain ⟨x40, hc179_38, h⟩ := el_b h
                refine px_callV1 C (c_X9_takenBy l tA tB ad S11 k x10 a2 x9 hk_k hc179_38) (cwV 4 C.2.2.2.2.1 gX9_finds_X9_takenBy rfl rfl rfl (by decide +kernel) ⟨Nat.le_of_ble_eq_true rfl, Nat.le_of_ble_eq_true rfl⟩) ⟨Nat.zero_le _, Nat.zero_le _⟩ km_0 rfl rfl rfl (Nat.le_of_ble_eq_true rfl) dX9_finds_179 ?_
                cases h
                exact px_sub [1, 2, 3, 4, 5, 0] rfl hj158_25
              · replace h := el_f c158_23 h
                refine px_aload_n C 1 dX9_finds_161 rfl rfl ?_
                refine px_getr C (j := 14) km_0 rfl rfl iw_X9_finds_X9 (by decide) lk_X9_finds_28 rfl dX9_finds_162 ?_
                refine px_iload C 5 dX9_finds_165 rfl ?_
                obtain ⟨hix41, x41, ex41, h⟩ := el_ald h
                refine px_iald C km_7 hix41 rfl dX9_finds_167 ?_
                refine px_nm ex41 ?_
                refine px_iload_n C 3 dX9_finds_168 rfl rfl ?_
                refine px_imul C dX9_finds_169 ?_
                refine px_goto C (tgt := 182) dX9_finds_170 (by decide) ?_
                cases h
                exact px_sub [1, 2, 3, 4, 5, 0] rfl hj158_25
            clear h
            have h := hr146_42
            clear hr146_42
            refine px_icmp_ge C (tgt := 153) dX9_finds_146 (by decide) (fun c146_20 => ?_) (fun c146_20 => ?_)
            · replace h := el_t c146_20 h
              refine px_iconst C (v := (0 : Int32)) dX9_finds_153 (by decide) ?_
              cases h
              exact hj146_22
            · replace h := el_f c146_20 h
              refine px_iconst C (v := (1 : Int32)) dX9_finds_149 (by decide) ?_
              refine px_goto C (tgt := 154) dX9_finds_150 (by decide) ?_
              cases h
              exact hj146_22
      exact px_sub [2, 3, 4, 1, 0] rfl (hl2 _ _ _ _ h)
    have hl1 : ∀ (n_1 : Nat) (x5 : Int32) (S6 : St), m_X9_finds_L1 fu k a2 (m_X9_finds_r1 fu k a2) n_1 x5 S6 = some (rv, S') → PW p l e { frames := 3, cells := 0, slots := 0, locals := 72 } s m args below meth c (MQ below (QX KM A D cI c1 F ad (some (.int rv)) S') args s 0 0 A) D A cI c1 F KM ad 7 0 0 S6 [(0, .ref (ad 0)), (1, .ref (ad k)), (2, .int a2), (3, .int x5)] 38 [] := by
      intro n_1
      induction n_1 with
      | zero =>
        intro x5 S6 h
        rw [m_X9_finds_L1_z] at h
        cases h
      | succ n_1 ih1 =>
        intro x5 S6 h
        rw [m_X9_finds_L1_s] at h
        refine px_iload_n C 3 dX9_finds_38 rfl rfl ?_
        refine px_aload_n C 1 dX9_finds_39 rfl rfl ?_
        refine px_iconst C (v := (0 : Int32)) dX9_finds_40 (by decide) ?_
        refine px_iald C hk_k (j := 0) (by unfold vp_in; decide) (by decide) dX9_finds_41 ?_
        refine px_icmp_lt C (tgt := 110) dX9_finds_42 (by decide) (fun c42_43 => ?_) (fun c42_43 => ?_)
        · replace h := el_t c42_43 h
          exact (hx1 _ _ h)
        · replace h := el_f c42_43 h
          refine px_iconst C (v := (0 : Int32)) dX9_finds_45 (by decide) ?_
          refine px_istore C [(4, .int (0 : Int32)), (0, .ref (ad 0)), (1, .ref (ad k)), (2, .int a2), (3, .int x5)] dX9_finds_46 (by decide) rfl ?_
          have hx3 : ∀  (x47 : Int32) (S48 : St), m_X9_finds_r3 x5 (fun z0 z1 => m_X9_finds_L1 fu k a2 (m_X9_finds_r1 fu k a2) n_1 z0 z1) x47 S48 = some (rv, S') → PW p l e { frames := 3, cells := 0, slots := 0, locals := 72 } s m args below meth c (MQ below (QX KM A D cI c1 F ad (some (.int rv)) S') args s 0 0 A) D A cI c1 F KM ad 7 0 0 S48 [(0, .ref (ad 0)), (1, .ref (ad k)), (2, .int a2), (3, .int x5), (4, .int x47)] 104 [] := by
            intro x47 S48 h
            rw [m_X9_finds_r3] at h
            refine px_iinc C 3 [(3, .int (x5 + (-1 : Int32))), (0, .ref (ad 0)), (1, .ref (ad k)), (2, .int a2), (4, .int x47)] dX9_finds_104 rfl rfl (by decide) rfl ?_
            refine px_goto C (tgt := 38) dX9_finds_107 (by decide) ?_
            exact px_sub [1, 2, 3, 0] rfl (ih1 _ _ h)
          have hl3 : ∀ (n_3 : Nat) (x45 : Int32) (S46 : St), m_X9_finds_L3 k a2 x5 (m_X9_finds_r3 x5 (fun z0 z1 => m_X9_finds_L1 fu k a2 (m_X9_finds_r1 fu k a2) n_1 z0 z1)) n_3 x45 S46 = some (rv, S') → PW p l e { frames := 3, cells := 0, slots := 0, locals := 72 } s m args below meth c (MQ below (QX KM A D cI c1 F ad (some (.int rv)) S') args s 0 0 A) D A cI c1 F KM ad 7 0 0 S46 [(0, .ref (ad 0)), (1, .ref (ad k)), (2, .int a2), (3, .int x5), (4, .int x45)] 48 [] := by
            intro n_3
            induction n_3 with
            | zero =>
              intro x45 S46 h
              rw [m_X9_finds_L3_z] at h
              cases h
            | succ n_3 ih3 =>
              intro x45 S46 h
              rw [m_X9_finds_L3_s] at h
              refine px_iload C 4 dX9_finds_48 rfl ?_
              refine px_iconst C (v := (5 : Int32)) dX9_finds_50 (by decide) ?_
              refine px_icmp_ge C (tgt := 104) dX9_finds_51 (by decide) (fun c51_48 => ?_) (fun c51_48 => ?_)
              · replace h := el_t c51_48 h
                exact (hx3 _ _ h)
              · replace h := el_f c51_48 h
                refine px_aload_n C 0 dX9_finds_54 rfl rfl ?_
                refine px_aload_n C 1 dX9_finds_55 rfl rfl ?_
                refine px_iload_n C 3 dX9_finds_56 rfl rfl ?_
                refine px_iload_n C 2 dX9_finds_57 rfl rfl ?_
                refine px_iload C 4 dX9_finds_58 rfl ?_
                obtain ⟨x51, hc60_49, h⟩ := el_b h
                refine px_callV1 C (c_X9_paidOn l tA tB ad S46 k x5 a2 x45 hk_k hc60_49) (cwV 4 C.2.2.2.2.1 gX9_finds_X9_paidOn rfl rfl rfl (by decide +kernel) ⟨Nat.le_of_ble_eq_true rfl, Nat.le_of_ble_eq_true rfl⟩) ⟨Nat.zero_le _, Nat.zero_le _⟩ km_0 rfl rfl rfl (Nat.le_of_ble_eq_true rfl) dX9_finds_60 ?_
                refine px_istore C [(5, .int x51), (0, .ref (ad 0)), (1, .ref (ad k)), (2, .int a2), (3, .int x5), (4, .int x45)] dX9_finds_63 (by decide) rfl ?_
                refine px_aload_n C 1 dX9_finds_65 rfl rfl ?_
                refine px_iload_n C 4 dX9_finds_66 rfl rfl ?_
                refine px_iload_n C 3 dX9_finds_67 rfl rfl ?_
                obtain ⟨x53, hc68_51, h⟩ := el_b h
                refine px_callV1 C (c_X9_landOn l tA tB ad S46 x5 a2 hc68_51) (cwV 2 C.2.2.2.2.1 gX9_finds_X9_landOn rfl rfl rfl (by decide +kernel) ⟨Nat.le_of_ble_eq_true rfl, Nat.le_of_ble_eq_true rfl⟩) ⟨Nat.zero_le _, Nat.zero_le _⟩ km_0 rfl rfl rfl (Nat.le_of_ble_eq_true rfl) dX9_finds_68 ?_
                refine px_istore C [(6, .int x53), (5, .int x51), (0, .ref (ad 0)), (1, .ref (ad k)), (2, .int a2), (3, .int x5), (4, .int x45)] dX9_finds_71 (by decide) rfl ?_
                refine px_aload_n C 2 dX9_finds_73 rfl rfl ?_
                refine px_getr C (j := 25) km_0 rfl rfl iw_X9_finds_X9 (by decide) lk_X9_finds_53 rfl dX9_finds_74 ?_
                refine px_iconst C (v := (5 : Int32)) dX9_finds_77 (by decide) ?_
                refine px_iload_n C 5 dX9_finds_78 rfl rfl ?_
                refine px_imul C dX9_finds_79 ?_
                refine px_iload C 6 dX9_finds_80 rfl ?_
                refine px_iadd C dX9_finds_82 ?_
                refine px_iload C 1 dX9_finds_83 rfl ?_
                refine px_iload C 0 dX9_finds_85 rfl ?_
                obtain ⟨x55, hr87_57, h⟩ := el_b h
                have hj87_55 : PW p l e { frames := 3, cells := 0, slots := 0, locals := 72 } s m args below meth c (MQ below (QX KM A D cI c1 F ad (some (.int rv)) S') args s 0 0 A) D A cI c1 F KM ad 7 0 0 S46 [(0, .ref (ad 0)), (1, .ref (ad k)), (2, .int a2), (3, .int x5), (4, .int x45), (5, .int x51), (6, .int x53)] 97 [.int x55, .int (((5 : Int32) * x5) + x45), .ref (ad 15)] := by
                  obtain ⟨hiS57, S57, eS57, h⟩ := el_ast h
                  refine px_iast C km_15 hiS57 rfl dX9_finds_97 ?_
                  refine px_nmS eS57 ?_
                  refine px_iinc C 4 [(4, .int (x45 + (1 : Int32))), (0, .ref (ad 0)), (1, .ref (ad k)), (2, .int a2), (3, .int x5), (5, .int x51), (6, .int x53)] dX9_finds_98 rfl rfl (by decide) rfl ?_
                  refine px_goto C (tgt := 48) dX9_finds_101 (by decide) ?_
                  exact px_sub [1, 2, 3, 4, 0] rfl (ih3 _ _ h)
                clear h
                have h := hr87_57
                clear hr87_57
                refine px_icmp_ge C (tgt := 95) dX9_finds_87 (by decide) (fun c87_53 => ?_) (fun c87_53 => ?_)
                · replace h := el_t c87_53 h
                  refine px_iload C 0 dX9_finds_95 rfl ?_
                  cases h
                  exact px_sub [2, 3, 4, 5, 6, 1, 0] rfl hj87_55
                · replace h := el_f c87_53 h
                  refine px_iload C 1 dX9_finds_90 rfl ?_
                  refine px_goto C (tgt := 97) dX9_finds_92 (by decide) ?_
                  cases h
                  exact px_sub [2, 3, 4, 5, 6, 1, 0] rfl hj87_55
          exact px_sub [1, 2, 3, 4, 0] rfl (hl3 _ _ _ h)
    exact px_sub [1, 2, 3, 0] rfl (hl1 _ _ _ h)
  have hl0 : ∀ (n_0 : Nat) (x1 : Int32) (S2 : St), m_X9_finds_L0 (m_X9_finds_r0 fu k a2) n_0 x1 S2 = some (rv, S') → PW p l e { frames := 3, cells := 0, slots := 0, locals := 72 } s m args below meth c (MQ below (QX KM A D cI c1 F ad (some (.int rv)) S') args s 0 0 A) D A cI c1 F KM ad 7 0 0 S2 [(0, .ref (ad 0)), (1, .ref (ad k)), (2, .int a2), (3, .int x1)] 2 [] := by
    intro n_0
    induction n_0 with
    | zero =>
      intro x1 S2 h
      rw [m_X9_finds_L0_z] at h
      cases h
    | succ n_0 ih0 =>
      intro x1 S2 h
      rw [m_X9_finds_L0_s] at h
      refine px_iload_n C 3 dX9_finds_2 rfl rfl ?_
      refine px_iconst C (v := (5 : Int32)) dX9_finds_3 (by decide) ?_
      refine px_icmp_ge C (tgt := 29) dX9_finds_4 (by decide) (fun c4_58 => ?_) (fun c4_58 => ?_)
      · replace h := el_t c4_58 h
        exact (hx0 _ _ h)
      · replace h := el_f c4_58 h
        refine px_aload_n C 0 dX9_finds_7 rfl rfl ?_
        refine px_getr C (j := 25) km_0 rfl rfl iw_X9_finds_X9 (by decide) lk_X9_finds_53 rfl dX9_finds_8 ?_
        refine px_iconst C (v := (5 : Int32)) dX9_finds_11 (by decide) ?_
        refine px_aload_n C 0 dX9_finds_12 rfl rfl ?_
        refine px_getr C (j := 9) km_0 rfl rfl iw_X9_finds_X9 (by decide) lk_X9_finds_13 rfl dX9_finds_13 ?_
        refine px_iconst C (v := (0 : Int32)) dX9_finds_16 (by decide) ?_
        refine px_iald C km_2 (j := 0) (by unfold vp_in; decide) (by decide) dX9_finds_17 ?_
        refine px_imul C dX9_finds_18 ?_
        refine px_iload_n C 3 dX9_finds_19 rfl rfl ?_
        refine px_iadd C dX9_finds_20 ?_
        refine px_iconst C (v := (0 : Int32)) dX9_finds_21 (by decide) ?_
        obtain ⟨hiS60, S60, eS60, h⟩ := el_ast h
        refine px_iast C km_15 hiS60 rfl dX9_finds_22 ?_
        refine px_nmS eS60 ?_
        refine px_iinc C 3 [(3, .int (x1 + (1 : Int32))), (0, .ref (ad 0)), (1, .ref (ad k)), (2, .int a2)] dX9_finds_23 rfl rfl (by decide) rfl ?_
        refine px_goto C (tgt := 2) dX9_finds_26 (by decide) ?_
        exact px_sub [1, 2, 3, 0] rfl (ih0 _ _ h)
  exact px_sub [1, 2, 3, 0] rfl (hl0 _ _ _ h)
theorem lk_X9_paidAt_56 : Cond.fieldLink RX9 56 "RiverTollsModel" "isLand" "[I" ∈ wsX9_paidAt := List.mem_of_getElem? (i := 1) rfl
theorem lk_X9_paidAt_59 : Cond.fieldLink RX9 59 "RiverTollsModel" "taken" "[I" ∈ wsX9_paidAt := List.mem_of_getElem? (i := 2) rfl
theorem iw_X9_paidAt_X9 : ∀ w ∈ u_ws RX9 TX9 28, w ∈ wsX9_paidAt := fun _ h9 => (List.mem_cons_of_mem _ (List.mem_append_right _ h9))
set_option maxHeartbeats 4000000 in
set_option maxRecDepth 100000 in
theorem c_X9_paidAt (l : Launch) (tA tB : Nat) (ad : Nat → Nat) (S : St) (a1 : Int32) {rv : Int32} (h : m_X9_paidAt S a1 = some rv) :
    XMet l yX9_paidAt wsX9_paidAt ({ frames := 0, cells := 0, slots := 0, locals := 0 }) KM .boolean tA tB [.ref (ad 0), .int a1] ad S (some (.int rv)) S := by
  refine XMet.of (cc := cX9_paidAt) (maxL := 2) (ret := (some .int)) (own := RX9) (lv := [(0, .ref (ad 0)), (1, .int a1)]) rfl (by decide) rfl (Nat.le_of_ble_eq_true rfl) rfl ?_
  intro p e s m args below meth c D A cI c1 F C
  rw [m_X9_paidAt] at h
  refine px_aload_n C 0 dX9_paidAt_0 rfl rfl ?_
  refine px_getr C (j := 26) km_0 rfl rfl iw_X9_paidAt_X9 (by decide) lk_X9_paidAt_56 rfl dX9_paidAt_1 ?_
  refine px_iload_n C 1 dX9_paidAt_4 rfl rfl ?_
  obtain ⟨hix1, x1, ex1, h⟩ := el_ald h
  refine px_iald C km_16 hix1 rfl dX9_paidAt_5 ?_
  refine px_nm ex1 ?_
  refine px_iconst C (v := (1 : Int32)) dX9_paidAt_6 (by decide) ?_
  refine px_icmp_ne C (tgt := 14) dX9_paidAt_7 (by decide) (fun c7_1 => ?_) (fun c7_1 => ?_)
  · replace h := el_t c7_1 h
    refine px_aload_n C 0 dX9_paidAt_14 rfl rfl ?_
    refine px_getr C (j := 27) km_0 rfl rfl iw_X9_paidAt_X9 (by decide) lk_X9_paidAt_59 rfl dX9_paidAt_15 ?_
    refine px_iload_n C 1 dX9_paidAt_18 rfl rfl ?_
    obtain ⟨hix3, x3, ex3, h⟩ := el_ald h
    refine px_iald C km_17 hix3 rfl dX9_paidAt_19 ?_
    refine px_nm ex3 ?_
    exact px_iretE C dX9_paidAt_20 h
  · replace h := el_fn c7_1 h
    refine px_iconst C (v := (0 : Int32)) dX9_paidAt_10 (by decide) ?_
    refine px_goto C (tgt := 20) dX9_paidAt_11 (by decide) ?_
    exact px_iretE C dX9_paidAt_20 h
theorem lk_X9_byLord_13 : Cond.fieldLink RX9 13 "RiverTollsModel" "many" "[I" ∈ wsX9_byLord := List.mem_of_getElem? (i := 3) rfl
theorem lk_X9_byLord_22 : Cond.fieldLink RX9 22 "RiverTollsModel" "lord" "[I" ∈ wsX9_byLord := List.mem_of_getElem? (i := 4) rfl
theorem lk_X9_byLord_31 : Cond.fieldLink RX9 31 "RiverTollsModel" "s" "[I" ∈ wsX9_byLord := List.mem_of_getElem? (i := 2) rfl
theorem lk_X9_byLord_62 : Cond.fieldLink RX9 62 "RiverTollsModel" "thrown" "I" ∈ wsX9_byLord := List.mem_of_getElem? (i := 1) rfl
theorem iw_X9_byLord_X9 : ∀ w ∈ u_ws RX9 TX9 28, w ∈ wsX9_byLord := fun _ h9 => (List.mem_cons_of_mem _ (List.mem_append_right _ h9))
set_option maxHeartbeats 4000000 in
set_option maxRecDepth 100000 in
theorem c_X9_byLord (l : Launch) (tA tB : Nat) (ad : Nat → Nat) (fu : Nat) (S : St) (a1 : Int32) {rv : Int32} {S' : St} (h : m_X9_byLord fu S a1 = some (rv, S')) :
    XMet l yX9_byLord wsX9_byLord ({ frames := 4, cells := 0, slots := 0, locals := 98 }) KM .boolean tA tB [.ref (ad 0), .int a1] ad S (some (.int rv)) S' := by
  refine XMet.of (cc := cX9_byLord) (maxL := 4) (ret := (some .int)) (own := RX9) (lv := [(0, .ref (ad 0)), (1, .int a1)]) rfl (by decide) rfl (Nat.le_of_ble_eq_true rfl) rfl ?_
  intro p e s m args below meth c D A cI c1 F C
  rw [m_X9_byLord] at h
  refine px_aload_n C 0 dX9_byLord_0 rfl rfl ?_
  refine px_iconst C (v := (0 : Int32)) dX9_byLord_1 (by decide) ?_
  obtain ⟨S1, eS1, h⟩ := el_lt h
  refine px_puti C (ty := .int) (j := 0) km_0 rfl rfl iw_X9_byLord_X9 (by decide) lk_X9_byLord_62 rfl tyX9 tyX9_ok nmX9 rfl (by decide +kernel) rfl rfl dX9_byLord_2 ?_
  refine px_nmS eS1 ?_
  refine px_iload_n C 1 dX9_byLord_5 rfl rfl ?_
  refine px_iconst C (v := (0 : Int32)) dX9_byLord_6 (by decide) ?_
  refine px_iconst C (v := (3 : Int32)) dX9_byLord_7 (by decide) ?_
  obtain ⟨x3, hc8_1, h⟩ := el_b h
  refine px_callS1 C (c_X9_in l tA tB ad S1 a1 (0 : Int32) (3 : Int32) hc8_1) (va_cwS 3 C.2.2.2.2.1 gX9_byLord_X9_in rfl rfl rfl (by decide +kernel) ⟨Nat.le_of_ble_eq_true rfl, Nat.le_of_ble_eq_true rfl⟩) ⟨Nat.zero_le _, Nat.zero_le _⟩ rfl rfl (Nat.le_of_ble_eq_true rfl) dX9_byLord_8 ?_
  refine px_if_ne C (tgt := 16) dX9_byLord_11 (by decide) (fun c11_3 => ?_) (fun c11_3 => ?_)
  · replace h := el_t c11_3 h
    refine px_iconst C (v := (0 : Int32)) dX9_byLord_16 (by decide) ?_
    refine px_istore_n C [(2, .int (0 : Int32)), (0, .ref (ad 0)), (1, .int a1)] dX9_byLord_17 rfl (by decide) rfl ?_
    refine px_aload_n C 1 dX9_byLord_18 rfl rfl ?_
    refine px_aload_n C 1 dX9_byLord_19 rfl rfl ?_
    refine px_getr C (j := 16) km_0 rfl rfl iw_X9_byLord_X9 (by decide) lk_X9_byLord_31 rfl dX9_byLord_20 ?_
    refine px_aload_n C 1 dX9_byLord_23 rfl rfl ?_
    refine px_getr C (j := 16) km_0 rfl rfl iw_X9_byLord_X9 (by decide) lk_X9_byLord_31 rfl dX9_byLord_24 ?_
    refine px_iconst C (v := (1 : Int32)) dX9_byLord_27 (by decide) ?_
    refine px_iald C km_8 (j := 1) (by unfold vp_in; decide) (by decide) dX9_byLord_28 ?_
    obtain ⟨x6, S7, hc29_4, h⟩ := el_b2 h
    refine px_callV1 C (c_X9_finds l tA tB ad fu S1 8 (S1.1 8 1) km_8 hc29_4) (cwV 2 C.2.2.2.2.1 gX9_byLord_X9_finds rfl rfl rfl (by decide +kernel) ⟨Nat.le_of_ble_eq_true rfl, Nat.le_of_ble_eq_true rfl⟩) ⟨Nat.zero_le _, Nat.zero_le _⟩ km_0 rfl rfl rfl (Nat.le_of_ble_eq_true rfl) dX9_byLord_29 ?_
    refine px_pop C dX9_byLord_32 rfl ?_
    refine px_aload_n C 1 dX9_byLord_33 rfl rfl ?_
    refine px_getr C (j := 16) km_0 rfl rfl iw_X9_byLord_X9 (by decide) lk_X9_byLord_31 rfl dX9_byLord_34 ?_
    refine px_iconst C (v := (0 : Int32)) dX9_byLord_37 (by decide) ?_
    refine px_iald C km_8 (j := 0) (by unfold vp_in; decide) (by decide) dX9_byLord_38 ?_
    refine px_istore_n C [(3, .int (S7.1 8 0)), (2, .int (0 : Int32)), (0, .ref (ad 0)), (1, .int a1)] dX9_byLord_39 rfl (by decide) rfl ?_
    have hx0 : ∀  (x10 : Int32) (x11 : Int32), m_X9_byLord_r0 S7 x10 x11 = some (rv, S') → PW p l e { frames := 4, cells := 0, slots := 0, locals := 98 } s m args below meth c (MQ below (QX KM A D cI c1 F ad (some (.int rv)) S') args s 0 0 A) D A cI c1 F KM ad 4 0 0 S7 [(0, .ref (ad 0)), (1, .int a1), (2, .int x10), (3, .int x11)] 78 [] := by
      intro x10 x11 h
      rw [m_X9_byLord_r0] at h
      refine px_iload_n C 2 dX9_byLord_78 rfl rfl ?_
      exact px_iretES C dX9_byLord_79 h
    have hl0 : ∀ (n_0 : Nat) (x8 : Int32) (x9 : Int32), m_X9_byLord_L0 a1 S7 (m_X9_byLord_r0 S7) n_0 x8 x9 = some (rv, S') → PW p l e { frames := 4, cells := 0, slots := 0, locals := 98 } s m args below meth c (MQ below (QX KM A D cI c1 F ad (some (.int rv)) S') args s 0 0 A) D A cI c1 F KM ad 4 0 0 S7 [(0, .ref (ad 0)), (1, .int a1), (2, .int x8), (3, .int x9)] 40 [] := by
      intro n_0
      induction n_0 with
      | zero =>
        intro x8 x9 h
        rw [m_X9_byLord_L0_z] at h
        cases h
      | succ n_0 ih0 =>
        intro x8 x9 h
        rw [m_X9_byLord_L0_s] at h
        refine px_iload_n C 3 dX9_byLord_40 rfl rfl ?_
        refine px_aload_n C 0 dX9_byLord_41 rfl rfl ?_
        refine px_getr C (j := 9) km_0 rfl rfl iw_X9_byLord_X9 (by decide) lk_X9_byLord_13 rfl dX9_byLord_42 ?_
        refine px_iconst C (v := (0 : Int32)) dX9_byLord_45 (by decide) ?_
        refine px_iald C km_2 (j := 0) (by unfold vp_in; decide) (by decide) dX9_byLord_46 ?_
        refine px_icmp_ge C (tgt := 78) dX9_byLord_47 (by decide) (fun c47_11 => ?_) (fun c47_11 => ?_)
        · replace h := el_t c47_11 h
          exact (hx0 _ _ h)
        · replace h := el_f c47_11 h
          refine px_iload_n C 2 dX9_byLord_50 rfl rfl ?_
          refine px_aload_n C 0 dX9_byLord_51 rfl rfl ?_
          refine px_getr C (j := 12) km_0 rfl rfl iw_X9_byLord_X9 (by decide) lk_X9_byLord_22 rfl dX9_byLord_52 ?_
          refine px_iload_n C 3 dX9_byLord_55 rfl rfl ?_
          obtain ⟨hix13, x13, ex13, h⟩ := el_ald h
          refine px_iald C km_5 hix13 rfl dX9_byLord_56 ?_
          refine px_nm ex13 ?_
          refine px_iload_n C 1 dX9_byLord_57 rfl rfl ?_
          obtain ⟨x15, hr58_18, h⟩ := el_b h
          have hj58_15 : PW p l e { frames := 4, cells := 0, slots := 0, locals := 98 } s m args below meth c (MQ below (QX KM A D cI c1 F ad (some (.int rv)) S') args s 0 0 A) D A cI c1 F KM ad 4 0 0 S7 [(0, .ref (ad 0)), (1, .int a1), (2, .int x8), (3, .int x9)] 70 [.int x15, .int x8] := by
            refine px_iadd C dX9_byLord_70 ?_
            refine px_istore_n C [(2, .int (x8 + x15)), (0, .ref (ad 0)), (1, .int a1), (3, .int x9)] dX9_byLord_71 rfl (by decide) rfl ?_
            refine px_iinc C 3 [(3, .int (x9 + (1 : Int32))), (2, .int (x8 + x15)), (0, .ref (ad 0)), (1, .int a1)] dX9_byLord_72 rfl rfl (by decide) rfl ?_
            refine px_goto C (tgt := 40) dX9_byLord_75 (by decide) ?_
            exact px_sub [2, 3, 1, 0] rfl (ih0 _ _ h)
          clear h
          have h := hr58_18
          clear hr58_18
          refine px_icmp_ne C (tgt := 69) dX9_byLord_58 (by decide) (fun c58_13 => ?_) (fun c58_13 => ?_)
          · replace h := el_t c58_13 h
            refine px_iconst C (v := (0 : Int32)) dX9_byLord_69 (by decide) ?_
            cases h
            exact hj58_15
          · replace h := el_fn c58_13 h
            refine px_aload_n C 0 dX9_byLord_61 rfl rfl ?_
            refine px_iload_n C 3 dX9_byLord_62 rfl rfl ?_
            obtain ⟨x18, hc63_16, h⟩ := el_b h
            refine px_callV1 C (c_X9_paidAt l tA tB ad S7 x9 hc63_16) (cwV 1 C.2.2.2.2.1 gX9_byLord_X9_paidAt rfl rfl rfl (by decide +kernel) ⟨Nat.le_of_ble_eq_true rfl, Nat.le_of_ble_eq_true rfl⟩) ⟨Nat.zero_le _, Nat.zero_le _⟩ km_0 rfl rfl rfl (Nat.le_of_ble_eq_true rfl) dX9_byLord_63 ?_
            refine px_goto C (tgt := 70) dX9_byLord_66 (by decide) ?_
            cases h
            exact hj58_15
    exact px_sub [2, 3, 1, 0] rfl (hl0 _ _ _ h)
  · replace h := el_fn c11_3 h
    refine px_iconst C (v := (-1 : Int32)) dX9_byLord_14 (by decide) ?_
    exact px_iretES C dX9_byLord_15 h
set_option maxHeartbeats 4000000 in
set_option maxRecDepth 100000 in
theorem c_X9_gcd (l : Launch) (tA tB : Nat) (ad : Nat → Nat) (fu : Nat) (S : St) (a0 : Int32) (a1 : Int32) {rv : Int32} (h : m_X9_gcd fu a0 a1 = some rv) :
    XMet l yX9_gcd wsX9_gcd ({ frames := 0, cells := 0, slots := 0, locals := 0 }) KM .boolean tA tB [.int a0, .int a1] ad S (some (.int rv)) S := by
  refine XMet.of (cc := cX9_gcd) (maxL := 5) (ret := (some .int)) (own := RX9) (lv := [(0, .int a0), (1, .int a1)]) rfl (by decide) rfl (Nat.le_of_ble_eq_true rfl) rfl ?_
  intro p e s m args below meth c D A cI c1 F C
  rw [m_X9_gcd] at h
  refine px_iload_n C 0 dX9_gcd_0 rfl rfl ?_
  refine px_istore_n C [(2, .int a0), (0, .int a0), (1, .int a1)] dX9_gcd_1 rfl (by decide) rfl ?_
  refine px_iload_n C 2 dX9_gcd_2 rfl rfl ?_
  refine px_istore_n C [(3, .int a1), (2, .int a0), (0, .int a0), (1, .int a1)] dX9_gcd_3 rfl (by decide) rfl ?_
  have hx0 : ∀  (x3 : Int32) (x4 : Int32), m_X9_gcd_r0 x3 x4 = some rv → PW p l e { frames := 0, cells := 0, slots := 0, locals := 0 } s m args below meth c (MQ below (QX KM A D cI c1 F ad (some (.int rv)) S) args s 0 0 A) D A cI c1 F KM ad 5 0 0 S [(0, .int a0), (1, .int a1), (2, .int x3), (3, .int x4)] 21 [] := by
    intro x3 x4 h
    rw [m_X9_gcd_r0] at h
    refine px_iload_n C 2 dX9_gcd_21 rfl rfl ?_
    exact px_iretE C dX9_gcd_22 h
  have hl0 : ∀ (n_0 : Nat) (x1 : Int32) (x2 : Int32), m_X9_gcd_L0 m_X9_gcd_r0 n_0 x1 x2 = some rv → PW p l e { frames := 0, cells := 0, slots := 0, locals := 0 } s m args below meth c (MQ below (QX KM A D cI c1 F ad (some (.int rv)) S) args s 0 0 A) D A cI c1 F KM ad 5 0 0 S [(0, .int a0), (1, .int a1), (2, .int x1), (3, .int x2)] 4 [] := by
    intro n_0
    induction n_0 with
    | zero =>
      intro x1 x2 h
      rw [m_X9_gcd_L0_z] at h
      cases h
    | succ n_0 ih0 =>
      intro x1 x2 h
      rw [m_X9_gcd_L0_s] at h
      refine px_iload_n C 3 dX9_gcd_4 rfl rfl ?_
      refine px_if_eq C (tgt := 21) dX9_gcd_5 (by decide) (fun c5_4 => ?_) (fun c5_4 => ?_)
      · replace h := el_t c5_4 h
        exact (hx0 _ _ h)
      · replace h := el_f c5_4 h
        refine px_iload_n C 2 dX9_gcd_8 rfl rfl ?_
        refine px_iload_n C 3 dX9_gcd_9 rfl rfl ?_
        obtain ⟨hz10, h⟩ := el_nz h
        refine px_irem C dX9_gcd_10 hz10 ?_
        refine px_istore C [(4, .int (x1 - x1 / x2 * x2)), (0, .int a0), (1, .int a1), (2, .int x1), (3, .int x2)] dX9_gcd_11 (by decide) rfl ?_
        refine px_iload_n C 4 dX9_gcd_13 rfl rfl ?_
        refine px_istore_n C [(2, .int x2), (4, .int (x1 - x1 / x2 * x2)), (0, .int a0), (1, .int a1), (3, .int x2)] dX9_gcd_14 rfl (by decide) rfl ?_
        refine px_iload C 1 dX9_gcd_15 rfl ?_
        refine px_istore_n C [(3, .int (x1 - x1 / x2 * x2)), (2, .int x2), (4, .int (x1 - x1 / x2 * x2)), (0, .int a0), (1, .int a1)] dX9_gcd_17 rfl (by decide) rfl ?_
        refine px_goto C (tgt := 4) dX9_gcd_18 (by decide) ?_
        exact px_sub [3, 4, 1, 0] rfl (ih0 _ _ h)
  exact px_sub [2, 3, 1, 0] rfl (hl0 _ _ _ h)
theorem lk_X9_cheap_31 : Cond.fieldLink RX9 31 "RiverTollsModel" "s" "[I" ∈ wsX9_cheap := List.mem_of_getElem? (i := 2) rfl
theorem lk_X9_cheap_62 : Cond.fieldLink RX9 62 "RiverTollsModel" "thrown" "I" ∈ wsX9_cheap := List.mem_of_getElem? (i := 1) rfl
theorem iw_X9_cheap_X9 : ∀ w ∈ u_ws RX9 TX9 28, w ∈ wsX9_cheap := fun _ h9 => (List.mem_cons_of_mem _ (List.mem_append_right _ h9))
set_option maxHeartbeats 4000000 in
set_option maxRecDepth 100000 in
theorem c_X9_cheap (l : Launch) (tA tB : Nat) (ad : Nat → Nat) (fu : Nat) (S : St) (a1 : Int32) (a2 : Int32) {rv : Int32} {S' : St} (h : m_X9_cheap fu S a1 a2 = some (rv, S')) :
    XMet l yX9_cheap wsX9_cheap ({ frames := 2, cells := 0, slots := 0, locals := 43 }) KM .boolean tA tB [.ref (ad 0), .int a1, .int a2] ad S (some (.int rv)) S' := by
  refine XMet.of (cc := cX9_cheap) (maxL := 5) (ret := (some .int)) (own := RX9) (lv := [(0, .ref (ad 0)), (1, .int a1), (2, .int a2)]) rfl (by decide) rfl (Nat.le_of_ble_eq_true rfl) rfl ?_
  intro p e s m args below meth c D A cI c1 F C
  rw [m_X9_cheap] at h
  refine px_aload_n C 0 dX9_cheap_0 rfl rfl ?_
  refine px_iconst C (v := (0 : Int32)) dX9_cheap_1 (by decide) ?_
  obtain ⟨S1, eS1, h⟩ := el_lt h
  refine px_puti C (ty := .int) (j := 0) km_0 rfl rfl iw_X9_cheap_X9 (by decide) lk_X9_cheap_62 rfl tyX9 tyX9_ok nmX9 rfl (by decide +kernel) rfl rfl dX9_cheap_2 ?_
  refine px_nmS eS1 ?_
  refine px_aload_n C 0 dX9_cheap_5 rfl rfl ?_
  refine px_iload_n C 1 dX9_cheap_6 rfl rfl ?_
  obtain ⟨x3, hc7_1, h⟩ := el_b h
  refine px_callV1 C (c_X9_isRock l tA tB ad S1 a1 hc7_1) (cwV 1 C.2.2.2.2.1 gX9_cheap_X9_isRock rfl rfl rfl (by decide +kernel) ⟨Nat.le_of_ble_eq_true rfl, Nat.le_of_ble_eq_true rfl⟩) ⟨Nat.zero_le _, Nat.zero_le _⟩ km_0 rfl rfl rfl (Nat.le_of_ble_eq_true rfl) dX9_cheap_7 ?_
  refine px_if_eq C (tgt := 22) dX9_cheap_10 (by decide) (fun c10_3 => ?_) (fun c10_3 => ?_)
  · replace h := el_t c10_3 h
    refine px_iconst C (v := (-1 : Int32)) dX9_cheap_22 (by decide) ?_
    exact px_iretES C dX9_cheap_23 h
  · replace h := el_f c10_3 h
    refine px_iload_n C 2 dX9_cheap_13 rfl rfl ?_
    refine px_iconst C (v := (0 : Int32)) dX9_cheap_14 (by decide) ?_
    refine px_iconst C (v := (2 : Int32)) dX9_cheap_15 (by decide) ?_
    obtain ⟨x6, hc16_4, h⟩ := el_b h
    refine px_callS1 C (c_X9_in l tA tB ad S1 a2 (0 : Int32) (2 : Int32) hc16_4) (va_cwS 3 C.2.2.2.2.1 gX9_cheap_X9_in rfl rfl rfl (by decide +kernel) ⟨Nat.le_of_ble_eq_true rfl, Nat.le_of_ble_eq_true rfl⟩) ⟨Nat.zero_le _, Nat.zero_le _⟩ rfl rfl (Nat.le_of_ble_eq_true rfl) dX9_cheap_16 ?_
    refine px_if_ne C (tgt := 24) dX9_cheap_19 (by decide) (fun c19_6 => ?_) (fun c19_6 => ?_)
    · replace h := el_t c19_6 h
      refine px_iconst C (v := (1 : Int32)) dX9_cheap_24 (by decide) ?_
      refine px_istore_n C [(3, .int (1 : Int32)), (0, .ref (ad 0)), (1, .int a1), (2, .int a2)] dX9_cheap_25 rfl (by decide) rfl ?_
      refine px_iconst C (v := (2 : Int32)) dX9_cheap_26 (by decide) ?_
      refine px_istore C [(4, .int (2 : Int32)), (3, .int (1 : Int32)), (0, .ref (ad 0)), (1, .int a1), (2, .int a2)] dX9_cheap_27 (by decide) rfl ?_
      have hx0 : ∀  (x10 : Int32) (x11 : Int32), m_X9_cheap_r0 fu a1 a2 S1 x10 x11 = some (rv, S') → PW p l e { frames := 2, cells := 0, slots := 0, locals := 43 } s m args below meth c (MQ below (QX KM A D cI c1 F ad (some (.int rv)) S') args s 0 0 A) D A cI c1 F KM ad 5 0 0 S1 [(0, .ref (ad 0)), (1, .int a1), (2, .int a2), (3, .int x10), (4, .int x11)] 78 [] := by
        intro x10 x11 h
        rw [m_X9_cheap_r0] at h
        refine px_aload_n C 0 dX9_cheap_78 rfl rfl ?_
        refine px_aload_n C 0 dX9_cheap_79 rfl rfl ?_
        refine px_getr C (j := 16) km_0 rfl rfl iw_X9_cheap_X9 (by decide) lk_X9_cheap_31 rfl dX9_cheap_80 ?_
        refine px_iload_n C 1 dX9_cheap_83 rfl rfl ?_
        refine px_iload_n C 3 dX9_cheap_84 rfl rfl ?_
        obtain ⟨x13, hc85_11, h⟩ := el_b h
        refine px_callV1 C (c_X9_tollOf l tA tB ad S1 8 a1 x10 km_8 hc85_11) (cwV 3 C.2.2.2.2.1 gX9_cheap_X9_tollOf rfl rfl rfl (by decide +kernel) ⟨Nat.le_of_ble_eq_true rfl, Nat.le_of_ble_eq_true rfl⟩) ⟨Nat.zero_le _, Nat.zero_le _⟩ km_0 rfl rfl rfl (Nat.le_of_ble_eq_true rfl) dX9_cheap_85 ?_
        refine px_iload_n C 3 dX9_cheap_88 rfl rfl ?_
        obtain ⟨x15, hc89_13, h⟩ := el_b h
        refine px_callS1 C (c_X9_gcd l tA tB ad fu S1 x13 x10 hc89_13) (va_cwS 2 C.2.2.2.2.1 gX9_cheap_X9_gcd rfl rfl rfl (by decide +kernel) ⟨Nat.le_of_ble_eq_true rfl, Nat.le_of_ble_eq_true rfl⟩) ⟨Nat.zero_le _, Nat.zero_le _⟩ rfl rfl (Nat.le_of_ble_eq_true rfl) dX9_cheap_89 ?_
        refine px_istore C [(4, .int x15), (0, .ref (ad 0)), (1, .int a1), (2, .int a2), (3, .int x10)] dX9_cheap_92 (by decide) rfl ?_
        refine px_iload_n C 3 dX9_cheap_94 rfl rfl ?_
        refine px_if_ne C (tgt := 102) dX9_cheap_95 (by decide) (fun c95_15 => ?_) (fun c95_15 => ?_)
        · replace h := el_t c95_15 h
          refine px_iload_n C 3 dX9_cheap_102 rfl rfl ?_
          refine px_iconst C (v := (1 : Int32)) dX9_cheap_103 (by decide) ?_
          refine px_icmp_ne C (tgt := 123) dX9_cheap_104 (by decide) (fun c104_16 => ?_) (fun c104_16 => ?_)
          · replace h := el_t c104_16 h
            refine px_iload_n C 4 dX9_cheap_123 rfl rfl ?_
            refine px_iload C 0 dX9_cheap_124 rfl ?_
            obtain ⟨hz126, h⟩ := el_nz h
            refine px_idiv C dX9_cheap_126 hz126 ?_
            exact px_iretES C dX9_cheap_127 h
          · replace h := el_fn c104_16 h
            refine px_aload_n C 1 dX9_cheap_107 rfl rfl ?_
            refine px_aload_n C 1 dX9_cheap_108 rfl rfl ?_
            refine px_getr C (j := 16) km_0 rfl rfl iw_X9_cheap_X9 (by decide) lk_X9_cheap_31 rfl dX9_cheap_109 ?_
            refine px_iload_n C 2 dX9_cheap_112 rfl rfl ?_
            refine px_iload_n C 4 dX9_cheap_113 rfl rfl ?_
            obtain ⟨x19, hc114_17, h⟩ := el_b h
            refine px_callV1 C (c_X9_tollOf l tA tB ad S1 8 a1 x10 km_8 hc114_17) (cwV 3 C.2.2.2.2.1 gX9_cheap_X9_tollOf rfl rfl rfl (by decide +kernel) ⟨Nat.le_of_ble_eq_true rfl, Nat.le_of_ble_eq_true rfl⟩) ⟨Nat.zero_le _, Nat.zero_le _⟩ km_0 rfl rfl rfl (Nat.le_of_ble_eq_true rfl) dX9_cheap_114 ?_
            refine px_iload C 0 dX9_cheap_117 rfl ?_
            obtain ⟨hz119, h⟩ := el_nz h
            refine px_idiv C dX9_cheap_119 hz119 ?_
            refine px_goto C (tgt := 127) dX9_cheap_120 (by decide) ?_
            exact px_iretES C dX9_cheap_127 h
        · replace h := el_fn c95_15 h
          refine px_iload_n C 4 dX9_cheap_98 rfl rfl ?_
          refine px_goto C (tgt := 127) dX9_cheap_99 (by decide) ?_
          exact px_iretES C dX9_cheap_127 h
      have hl0 : ∀ (n_0 : Nat) (x8 : Int32) (x9 : Int32), m_X9_cheap_L0 a1 S1 (m_X9_cheap_r0 fu a1 a2 S1) n_0 x8 x9 = some (rv, S') → PW p l e { frames := 2, cells := 0, slots := 0, locals := 43 } s m args below meth c (MQ below (QX KM A D cI c1 F ad (some (.int rv)) S') args s 0 0 A) D A cI c1 F KM ad 5 0 0 S1 [(0, .ref (ad 0)), (1, .int a1), (2, .int a2), (3, .int x8), (4, .int x9)] 29 [] := by
        intro n_0
        induction n_0 with
        | zero =>
          intro x8 x9 h
          rw [m_X9_cheap_L0_z] at h
          cases h
        | succ n_0 ih0 =>
          intro x8 x9 h
          rw [m_X9_cheap_L0_s] at h
          refine px_iload C 4 dX9_cheap_29 rfl ?_
          refine px_bipush C (v := (30 : Int32)) dX9_cheap_31 (by decide) ?_
          refine px_icmp_gt C (tgt := 78) dX9_cheap_33 (by decide) (fun c33_19 => ?_) (fun c33_19 => ?_)
          · replace h := el_t c33_19 h
            exact (hx0 _ _ h)
          · replace h := el_f c33_19 h
            refine px_aload_n C 0 dX9_cheap_36 rfl rfl ?_
            refine px_aload_n C 0 dX9_cheap_37 rfl rfl ?_
            refine px_getr C (j := 16) km_0 rfl rfl iw_X9_cheap_X9 (by decide) lk_X9_cheap_31 rfl dX9_cheap_38 ?_
            refine px_iload_n C 1 dX9_cheap_41 rfl rfl ?_
            refine px_iload C 4 dX9_cheap_42 rfl ?_
            obtain ⟨x22, hc44_20, h⟩ := el_b h
            refine px_callV1 C (c_X9_tollOf l tA tB ad S1 8 a1 x9 km_8 hc44_20) (cwV 3 C.2.2.2.2.1 gX9_cheap_X9_tollOf rfl rfl rfl (by decide +kernel) ⟨Nat.le_of_ble_eq_true rfl, Nat.le_of_ble_eq_true rfl⟩) ⟨Nat.zero_le _, Nat.zero_le _⟩ km_0 rfl rfl rfl (Nat.le_of_ble_eq_true rfl) dX9_cheap_44 ?_
            refine px_iload_n C 3 dX9_cheap_47 rfl rfl ?_
            refine px_imul C dX9_cheap_48 ?_
            refine px_aload_n C 0 dX9_cheap_49 rfl rfl ?_
            refine px_aload_n C 0 dX9_cheap_50 rfl rfl ?_
            refine px_getr C (j := 16) km_0 rfl rfl iw_X9_cheap_X9 (by decide) lk_X9_cheap_31 rfl dX9_cheap_51 ?_
            refine px_iload_n C 1 dX9_cheap_54 rfl rfl ?_
            refine px_iload_n C 3 dX9_cheap_55 rfl rfl ?_
            obtain ⟨x24, hc56_22, h⟩ := el_b h
            refine px_callV1 C (c_X9_tollOf l tA tB ad S1 8 a1 x8 km_8 hc56_22) (cwV 3 C.2.2.2.2.1 gX9_cheap_X9_tollOf rfl rfl rfl (by decide +kernel) ⟨Nat.le_of_ble_eq_true rfl, Nat.le_of_ble_eq_true rfl⟩) ⟨Nat.zero_le _, Nat.zero_le _⟩ km_0 rfl rfl rfl (Nat.le_of_ble_eq_true rfl) dX9_cheap_56 ?_
            refine px_iload C 4 dX9_cheap_59 rfl ?_
            refine px_imul C dX9_cheap_61 ?_
            obtain ⟨x26, hr62_27, h⟩ := el_b h
            have hj62_26 : PW p l e { frames := 2, cells := 0, slots := 0, locals := 43 } s m args below meth c (MQ below (QX KM A D cI c1 F ad (some (.int rv)) S') args s 0 0 A) D A cI c1 F KM ad 5 0 0 S1 [(0, .ref (ad 0)), (1, .int a1), (2, .int a2), (3, .int x8), (4, .int x9)] 71 [.int x26] := by
              refine px_istore_n C [(3, .int x26), (0, .ref (ad 0)), (1, .int a1), (2, .int a2), (4, .int x9)] dX9_cheap_71 rfl (by decide) rfl ?_
              refine px_iinc C 4 [(4, .int (x9 + (1 : Int32))), (3, .int x26), (0, .ref (ad 0)), (1, .int a1), (2, .int a2)] dX9_cheap_72 rfl rfl (by decide) rfl ?_
              refine px_goto C (tgt := 29) dX9_cheap_75 (by decide) ?_
              exact px_sub [2, 3, 4, 1, 0] rfl (ih0 _ _ h)
            clear h
            have h := hr62_27
            clear hr62_27
            refine px_icmp_ge C (tgt := 70) dX9_cheap_62 (by decide) (fun c62_24 => ?_) (fun c62_24 => ?_)
            · replace h := el_t c62_24 h
              refine px_iload_n C 3 dX9_cheap_70 rfl rfl ?_
              cases h
              exact hj62_26
            · replace h := el_f c62_24 h
              refine px_iload C 4 dX9_cheap_65 rfl ?_
              refine px_goto C (tgt := 71) dX9_cheap_67 (by decide) ?_
              cases h
              exact hj62_26
      exact px_sub [2, 3, 4, 1, 0] rfl (hl0 _ _ _ h)
    · replace h := el_fn c19_6 h
      refine px_iconst C (v := (-1 : Int32)) dX9_cheap_22 (by decide) ?_
      exact px_iretES C dX9_cheap_23 h
