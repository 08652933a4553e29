theorem lk_X9_clear_62 : Cond.fieldLink RX9 62 "RiverTollsModel" "thrown" "I" ∈ wsX9_clear := List.mem_of_getElem? (i := 1) rfl
theorem lk_X9_clear_70 : Cond.fieldLink RX9 70 "RiverTollsModel" "typed" "I" ∈ wsX9_clear := List.mem_of_getElem? (i := 2) rfl
theorem iw_X9_clear_X9 : ∀ w ∈ u_ws RX9 TX9 28, w ∈ wsX9_clear := fun _ h9 => (List.mem_cons_of_mem _ (List.mem_append_right _ h9))
set_option maxHeartbeats 4000000 in
set_option maxRecDepth 100000 in
theorem c_X9_clear (l : Launch) (tA tB : Nat) (ad : Nat → Nat) (S : St) {rv : Int32} {S' : St} (h : m_X9_clear S = some (rv, S')) :
    XMet l yX9_clear wsX9_clear ({ frames := 0, cells := 0, slots := 0, locals := 0 }) KM .boolean tA tB [.ref (ad 0)] ad S (some (.int rv)) S' := by
  refine XMet.of (cc := cX9_clear) (maxL := 2) (ret := (some .int)) (own := RX9) (lv := [(0, .ref (ad 0))]) rfl (by decide) rfl (Nat.le_of_ble_eq_true rfl) rfl ?_
  intro p e s m args below meth c D A cI c1 F C
  rw [m_X9_clear] at h
  refine px_aload_n C 0 dX9_clear_0 rfl rfl ?_
  refine px_iconst C (v := (0 : Int32)) dX9_clear_1 (by decide) ?_
  obtain ⟨S1, eS1, h⟩ := el_lt h
  refine px_puti C (ty := .int) (j := 0) km_0 rfl rfl iw_X9_clear_X9 (by decide) lk_X9_clear_62 rfl tyX9 tyX9_ok nmX9 rfl (by decide +kernel) rfl rfl dX9_clear_2 ?_
  refine px_nmS eS1 ?_
  refine px_aload_n C 0 dX9_clear_5 rfl rfl ?_
  refine px_geti C (j := 3) km_0 rfl rfl iw_X9_clear_X9 (by decide) lk_X9_clear_70 rfl dX9_clear_6 ?_
  refine px_istore_n C [(1, .int (S1.1 0 3)), (0, .ref (ad 0))] dX9_clear_9 rfl (by decide) rfl ?_
  refine px_aload_n C 1 dX9_clear_10 rfl rfl ?_
  refine px_iconst C (v := (0 : Int32)) dX9_clear_11 (by decide) ?_
  obtain ⟨S2, eS2, h⟩ := el_lt h
  refine px_puti C (ty := .int) (j := 3) km_0 rfl rfl iw_X9_clear_X9 (by decide) lk_X9_clear_70 rfl tyX9 tyX9_ok nmX9 rfl (by decide +kernel) rfl rfl dX9_clear_12 ?_
  refine px_nmS eS2 ?_
  refine px_iload_n C 0 dX9_clear_15 rfl rfl ?_
  exact px_iretES C dX9_clear_16 h
theorem lk_X9_count_13 : Cond.fieldLink RX9 13 "RiverTollsModel" "many" "[I" ∈ wsX9_count := List.mem_of_getElem? (i := 2) rfl
theorem lk_X9_count_62 : Cond.fieldLink RX9 62 "RiverTollsModel" "thrown" "I" ∈ wsX9_count := List.mem_of_getElem? (i := 1) rfl
theorem lk_X9_count_70 : Cond.fieldLink RX9 70 "RiverTollsModel" "typed" "I" ∈ wsX9_count := List.mem_of_getElem? (i := 4) rfl
theorem lk_X9_count_117 : Cond.fieldLink RX9 117 "RiverTollsModel" "leftMany" "I" ∈ wsX9_count := List.mem_of_getElem? (i := 3) rfl
theorem iw_X9_count_X9 : ∀ w ∈ u_ws RX9 TX9 28, w ∈ wsX9_count := fun _ h9 => (List.mem_cons_of_mem _ (List.mem_append_right _ h9))
set_option maxHeartbeats 4000000 in
set_option maxRecDepth 100000 in
theorem c_X9_count (l : Launch) (tA tB : Nat) (ad : Nat → Nat) (S : St) (a1 : Int32) {rv : Int32} {S' : St} (h : m_X9_count S a1 = some (rv, S')) :
    XMet l yX9_count wsX9_count ({ frames := 0, cells := 0, slots := 0, locals := 0 }) KM .boolean tA tB [.ref (ad 0), .int a1] ad S (some (.int rv)) S' := by
  refine XMet.of (cc := cX9_count) (maxL := 2) (ret := (some .int)) (own := RX9) (lv := [(0, .ref (ad 0)), (1, .int a1)]) rfl (by decide) rfl (Nat.le_of_ble_eq_true rfl) rfl ?_
  intro p e s m args below meth c D A cI c1 F C
  rw [m_X9_count] at h
  refine px_aload_n C 0 dX9_count_0 rfl rfl ?_
  refine px_iconst C (v := (0 : Int32)) dX9_count_1 (by decide) ?_
  obtain ⟨S1, eS1, h⟩ := el_lt h
  refine px_puti C (ty := .int) (j := 0) km_0 rfl rfl iw_X9_count_X9 (by decide) lk_X9_count_62 rfl tyX9 tyX9_ok nmX9 rfl (by decide +kernel) rfl rfl dX9_count_2 ?_
  refine px_nmS eS1 ?_
  refine px_iload_n C 1 dX9_count_5 rfl rfl ?_
  refine px_if_ne C (tgt := 18) dX9_count_6 (by decide) (fun c6_1 => ?_) (fun c6_1 => ?_)
  · replace h := el_t c6_1 h
    refine px_iload_n C 1 dX9_count_18 rfl rfl ?_
    refine px_iconst C (v := (1 : Int32)) dX9_count_19 (by decide) ?_
    refine px_icmp_ne C (tgt := 30) dX9_count_20 (by decide) (fun c20_2 => ?_) (fun c20_2 => ?_)
    · replace h := el_t c20_2 h
      refine px_iload_n C 1 dX9_count_30 rfl rfl ?_
      refine px_iconst C (v := (2 : Int32)) dX9_count_31 (by decide) ?_
      refine px_icmp_ne C (tgt := 42) dX9_count_32 (by decide) (fun c32_3 => ?_) (fun c32_3 => ?_)
      · replace h := el_t c32_3 h
        refine px_iconst C (v := (-1 : Int32)) dX9_count_42 (by decide) ?_
        exact px_iretES C dX9_count_43 h
      · replace h := el_fn c32_3 h
        refine px_aload_n C 0 dX9_count_35 rfl rfl ?_
        refine px_geti C (j := 3) km_0 rfl rfl iw_X9_count_X9 (by decide) lk_X9_count_70 rfl dX9_count_36 ?_
        refine px_goto C (tgt := 43) dX9_count_39 (by decide) ?_
        exact px_iretES C dX9_count_43 h
    · replace h := el_fn c20_2 h
      refine px_aload_n C 0 dX9_count_23 rfl rfl ?_
      refine px_geti C (j := 24) km_0 rfl rfl iw_X9_count_X9 (by decide) lk_X9_count_117 rfl dX9_count_24 ?_
      refine px_goto C (tgt := 43) dX9_count_27 (by decide) ?_
      exact px_iretES C dX9_count_43 h
  · replace h := el_fn c6_1 h
    refine px_aload_n C 0 dX9_count_9 rfl rfl ?_
    refine px_getr C (j := 9) km_0 rfl rfl iw_X9_count_X9 (by decide) lk_X9_count_13 rfl dX9_count_10 ?_
    refine px_iconst C (v := (0 : Int32)) dX9_count_13 (by decide) ?_
    refine px_iald C km_2 (j := 0) (by unfold vp_in; decide) (by decide) dX9_count_14 ?_
    refine px_goto C (tgt := 43) dX9_count_15 (by decide) ?_
    exact px_iretES C dX9_count_43 h
theorem lk_X9_enough_31 : Cond.fieldLink RX9 31 "RiverTollsModel" "s" "[I" ∈ wsX9_enough := List.mem_of_getElem? (i := 2) rfl
theorem lk_X9_enough_62 : Cond.fieldLink RX9 62 "RiverTollsModel" "thrown" "I" ∈ wsX9_enough := List.mem_of_getElem? (i := 1) rfl
theorem iw_X9_enough_X9 : ∀ w ∈ u_ws RX9 TX9 28, w ∈ wsX9_enough := fun _ h9 => (List.mem_cons_of_mem _ (List.mem_append_right _ h9))
set_option maxHeartbeats 4000000 in
set_option maxRecDepth 100000 in
theorem c_X9_enough (l : Launch) (tA tB : Nat) (ad : Nat → Nat) (fu : Nat) (S : St) {rv : Int32} {S' : St} (h : m_X9_enough fu S = some (rv, S')) :
    XMet l yX9_enough wsX9_enough ({ frames := 4, cells := 0, slots := 0, locals := 98 }) KM .boolean tA tB [.ref (ad 0)] ad S (some (.int rv)) S' := by
  refine XMet.of (cc := cX9_enough) (maxL := 1) (ret := (some .int)) (own := RX9) (lv := [(0, .ref (ad 0))]) rfl (by decide) rfl (Nat.le_of_ble_eq_true rfl) rfl ?_
  intro p e s m args below meth c D A cI c1 F C
  rw [m_X9_enough] at h
  refine px_aload_n C 0 dX9_enough_0 rfl rfl ?_
  refine px_iconst C (v := (0 : Int32)) dX9_enough_1 (by decide) ?_
  obtain ⟨S1, eS1, h⟩ := el_lt h
  refine px_puti C (ty := .int) (j := 0) km_0 rfl rfl iw_X9_enough_X9 (by decide) lk_X9_enough_62 rfl tyX9 tyX9_ok nmX9 rfl (by decide +kernel) rfl rfl dX9_enough_2 ?_
  refine px_nmS eS1 ?_
  refine px_aload_n C 0 dX9_enough_5 rfl rfl ?_
  refine px_aload_n C 0 dX9_enough_6 rfl rfl ?_
  refine px_getr C (j := 16) km_0 rfl rfl iw_X9_enough_X9 (by decide) lk_X9_enough_31 rfl dX9_enough_7 ?_
  refine px_aload_n C 0 dX9_enough_10 rfl rfl ?_
  refine px_getr C (j := 16) km_0 rfl rfl iw_X9_enough_X9 (by decide) lk_X9_enough_31 rfl dX9_enough_11 ?_
  refine px_iconst C (v := (1 : Int32)) dX9_enough_14 (by decide) ?_
  refine px_iald C km_8 (j := 1) (by unfold vp_in; decide) (by decide) dX9_enough_15 ?_
  obtain ⟨x3, S4, hc16_1, h⟩ := el_b2 h
  refine px_callV1 C (c_X9_finds l tA tB ad fu S1 8 (S1.1 8 1) km_8 hc16_1) (cwV 2 C.2.2.2.2.1 gX9_enough_X9_finds rfl rfl rfl (by decide +kernel) ⟨Nat.le_of_ble_eq_true rfl, Nat.le_of_ble_eq_true rfl⟩) ⟨Nat.zero_le _, Nat.zero_le _⟩ km_0 rfl rfl rfl (Nat.le_of_ble_eq_true rfl) dX9_enough_16 ?_
  refine px_aload_n C 0 dX9_enough_19 rfl rfl ?_
  refine px_getr C (j := 16) km_0 rfl rfl iw_X9_enough_X9 (by decide) lk_X9_enough_31 rfl dX9_enough_20 ?_
  refine px_iconst C (v := (2 : Int32)) dX9_enough_23 (by decide) ?_
  refine px_iald C km_8 (j := 2) (by unfold vp_in; decide) (by decide) dX9_enough_24 ?_
  refine px_icmp_gt C (tgt := 32) dX9_enough_25 (by decide) (fun c25_4 => ?_) (fun c25_4 => ?_)
  · replace h := el_t c25_4 h
    refine px_iconst C (v := (0 : Int32)) dX9_enough_32 (by decide) ?_
    exact px_iretES C dX9_enough_33 h
  · replace h := el_f c25_4 h
    refine px_iconst C (v := (1 : Int32)) dX9_enough_28 (by decide) ?_
    refine px_goto C (tgt := 33) dX9_enough_29 (by decide) ?_
    exact px_iretES C dX9_enough_33 h
theorem lk_X9_forget_62 : Cond.fieldLink RX9 62 "RiverTollsModel" "thrown" "I" ∈ wsX9_forget := List.mem_of_getElem? (i := 1) rfl
theorem lk_X9_forget_117 : Cond.fieldLink RX9 117 "RiverTollsModel" "leftMany" "I" ∈ wsX9_forget := List.mem_of_getElem? (i := 2) rfl
theorem iw_X9_forget_X9 : ∀ w ∈ u_ws RX9 TX9 28, w ∈ wsX9_forget := fun _ h9 => (List.mem_cons_of_mem _ (List.mem_append_right _ h9))
set_option maxHeartbeats 4000000 in
set_option maxRecDepth 100000 in
theorem c_X9_forget (l : Launch) (tA tB : Nat) (ad : Nat → Nat) (S : St) {rv : Int32} {S' : St} (h : m_X9_forget S = some (rv, S')) :
    XMet l yX9_forget wsX9_forget ({ frames := 0, cells := 0, slots := 0, locals := 0 }) KM .boolean tA tB [.ref (ad 0)] ad S (some (.int rv)) S' := by
  refine XMet.of (cc := cX9_forget) (maxL := 2) (ret := (some .int)) (own := RX9) (lv := [(0, .ref (ad 0))]) rfl (by decide) rfl (Nat.le_of_ble_eq_true rfl) rfl ?_
  intro p e s m args below meth c D A cI c1 F C
  rw [m_X9_forget] at h
  refine px_aload_n C 0 dX9_forget_0 rfl rfl ?_
  refine px_iconst C (v := (0 : Int32)) dX9_forget_1 (by decide) ?_
  obtain ⟨S1, eS1, h⟩ := el_lt h
  refine px_puti C (ty := .int) (j := 0) km_0 rfl rfl iw_X9_forget_X9 (by decide) lk_X9_forget_62 rfl tyX9 tyX9_ok nmX9 rfl (by decide +kernel) rfl rfl dX9_forget_2 ?_
  refine px_nmS eS1 ?_
  refine px_aload_n C 0 dX9_forget_5 rfl rfl ?_
  refine px_geti C (j := 24) km_0 rfl rfl iw_X9_forget_X9 (by decide) lk_X9_forget_117 rfl dX9_forget_6 ?_
  refine px_istore_n C [(1, .int (S1.1 0 24)), (0, .ref (ad 0))] dX9_forget_9 rfl (by decide) rfl ?_
  refine px_aload_n C 1 dX9_forget_10 rfl rfl ?_
  refine px_iconst C (v := (0 : Int32)) dX9_forget_11 (by decide) ?_
  obtain ⟨S2, eS2, h⟩ := el_lt h
  refine px_puti C (ty := .int) (j := 24) km_0 rfl rfl iw_X9_forget_X9 (by decide) lk_X9_forget_117 rfl tyX9 tyX9_ok nmX9 rfl (by decide +kernel) rfl rfl dX9_forget_12 ?_
  refine px_nmS eS2 ?_
  refine px_iload_n C 0 dX9_forget_15 rfl rfl ?_
  exact px_iretES C dX9_forget_16 h
theorem lk_X9_got_31 : Cond.fieldLink RX9 31 "RiverTollsModel" "s" "[I" ∈ wsX9_got := List.mem_of_getElem? (i := 2) rfl
theorem lk_X9_got_62 : Cond.fieldLink RX9 62 "RiverTollsModel" "thrown" "I" ∈ wsX9_got := List.mem_of_getElem? (i := 1) rfl
theorem iw_X9_got_X9 : ∀ w ∈ u_ws RX9 TX9 28, w ∈ wsX9_got := fun _ h9 => (List.mem_cons_of_mem _ (List.mem_append_right _ h9))
set_option maxHeartbeats 4000000 in
set_option maxRecDepth 100000 in
theorem c_X9_got (l : Launch) (tA tB : Nat) (ad : Nat → Nat) (S : St) (a1 : Int32) {rv : Int32} {S' : St} (h : m_X9_got S a1 = some (rv, S')) :
    XMet l yX9_got wsX9_got ({ frames := 1, cells := 0, slots := 0, locals := 22 }) KM .boolean tA tB [.ref (ad 0), .int a1] ad S (some (.int rv)) S' := by
  refine XMet.of (cc := cX9_got) (maxL := 2) (ret := (some .int)) (own := RX9) (lv := [(0, .ref (ad 0)), (1, .int a1)]) rfl (by decide) rfl (Nat.le_of_ble_eq_true rfl) rfl ?_
  intro p e s m args below meth c D A cI c1 F C
  rw [m_X9_got] at h
  refine px_aload_n C 0 dX9_got_0 rfl rfl ?_
  refine px_iconst C (v := (0 : Int32)) dX9_got_1 (by decide) ?_
  obtain ⟨S1, eS1, h⟩ := el_lt h
  refine px_puti C (ty := .int) (j := 0) km_0 rfl rfl iw_X9_got_X9 (by decide) lk_X9_got_62 rfl tyX9 tyX9_ok nmX9 rfl (by decide +kernel) rfl rfl dX9_got_2 ?_
  refine px_nmS eS1 ?_
  refine px_iload_n C 1 dX9_got_5 rfl rfl ?_
  refine px_iconst C (v := (0 : Int32)) dX9_got_6 (by decide) ?_
  refine px_iconst C (v := (3 : Int32)) dX9_got_7 (by decide) ?_
  obtain ⟨x3, hc8_1, h⟩ := el_b h
  refine px_callS1 C (c_X9_in l tA tB ad S1 a1 (0 : Int32) (3 : Int32) hc8_1) (va_cwS 3 C.2.2.2.2.1 gX9_got_X9_in rfl rfl rfl (by decide +kernel) ⟨Nat.le_of_ble_eq_true rfl, Nat.le_of_ble_eq_true rfl⟩) ⟨Nat.zero_le _, Nat.zero_le _⟩ rfl rfl (Nat.le_of_ble_eq_true rfl) dX9_got_8 ?_
  refine px_if_eq C (tgt := 26) dX9_got_11 (by decide) (fun c11_3 => ?_) (fun c11_3 => ?_)
  · replace h := el_t c11_3 h
    refine px_iconst C (v := (-1 : Int32)) dX9_got_26 (by decide) ?_
    exact px_iretES C dX9_got_27 h
  · replace h := el_f c11_3 h
    refine px_aload_n C 0 dX9_got_14 rfl rfl ?_
    refine px_getr C (j := 16) km_0 rfl rfl iw_X9_got_X9 (by decide) lk_X9_got_31 rfl dX9_got_15 ?_
    refine px_bipush C (v := (14 : Int32)) dX9_got_18 (by decide) ?_
    refine px_iload_n C 1 dX9_got_20 rfl rfl ?_
    refine px_iadd C dX9_got_21 ?_
    obtain ⟨hix5, x5, ex5, h⟩ := el_ald h
    refine px_iald C km_8 hix5 rfl dX9_got_22 ?_
    refine px_nm ex5 ?_
    refine px_goto C (tgt := 27) dX9_got_23 (by decide) ?_
    exact px_iretES C dX9_got_27 h
theorem lk_X9_isAsLeft_13 : Cond.fieldLink RX9 13 "RiverTollsModel" "many" "[I" ∈ wsX9_isAsLeft := List.mem_of_getElem? (i := 4) rfl
theorem lk_X9_isAsLeft_31 : Cond.fieldLink RX9 31 "RiverTollsModel" "s" "[I" ∈ wsX9_isAsLeft := List.mem_of_getElem? (i := 2) rfl
theorem lk_X9_isAsLeft_47 : Cond.fieldLink RX9 47 "RiverTollsModel" "leftBehind" "[I" ∈ wsX9_isAsLeft := List.mem_of_getElem? (i := 3) rfl
theorem lk_X9_isAsLeft_50 : Cond.fieldLink RX9 50 "RiverTollsModel" "leftCoins" "[I" ∈ wsX9_isAsLeft := List.mem_of_getElem? (i := 6) rfl
theorem lk_X9_isAsLeft_59 : Cond.fieldLink RX9 59 "RiverTollsModel" "taken" "[I" ∈ wsX9_isAsLeft := List.mem_of_getElem? (i := 5) rfl
theorem lk_X9_isAsLeft_117 : Cond.fieldLink RX9 117 "RiverTollsModel" "leftMany" "I" ∈ wsX9_isAsLeft := List.mem_of_getElem? (i := 1) rfl
theorem iw_X9_isAsLeft_X9 : ∀ w ∈ u_ws RX9 TX9 28, w ∈ wsX9_isAsLeft := fun _ h9 => (List.mem_cons_of_mem _ (List.mem_append_right _ h9))
set_option maxHeartbeats 4000000 in
set_option maxRecDepth 100000 in
theorem c_X9_isAsLeft (l : Launch) (tA tB : Nat) (ad : Nat → Nat) (fu : Nat) (S : St) (a1 : Int32) {rv : Int32} (h : m_X9_isAsLeft fu S a1 = some rv) :
    XMet l yX9_isAsLeft wsX9_isAsLeft ({ frames := 0, cells := 0, slots := 0, locals := 0 }) KM .boolean tA tB [.ref (ad 0), .int a1] ad S (some (.int rv)) S := by
  refine XMet.of (cc := cX9_isAsLeft) (maxL := 7) (ret := (some .boolean)) (own := RX9) (lv := [(0, .ref (ad 0)), (1, .int a1)]) rfl (by decide) rfl (Nat.le_of_ble_eq_true rfl) rfl ?_
  intro p e s m args below meth c D A cI c1 F C
  rw [m_X9_isAsLeft] at h
  refine px_iconst C (v := (1 : Int32)) dX9_isAsLeft_0 (by decide) ?_
  refine px_istore_n C [(2, .int (1 : Int32)), (0, .ref (ad 0)), (1, .int a1)] dX9_isAsLeft_1 rfl (by decide) rfl ?_
  refine px_iconst C (v := (0 : Int32)) dX9_isAsLeft_2 (by decide) ?_
  refine px_istore_n C [(3, .int (0 : Int32)), (2, .int (1 : Int32)), (0, .ref (ad 0)), (1, .int a1)] dX9_isAsLeft_3 rfl (by decide) rfl ?_
  have hx0 : ∀  (x3 : Int32) (x4 : Int32), m_X9_isAsLeft_r0 x3 x4 = some rv → PW p l e { frames := 0, cells := 0, slots := 0, locals := 0 } s m args below meth c (MQ below (QX KM A D cI c1 F ad (some (.int rv)) S) args s 0 0 A) D A cI c1 F KM ad 7 0 0 S [(0, .ref (ad 0)), (1, .int a1), (2, .int x3), (3, .int x4)] 129 [] := by
    intro x3 x4 h
    rw [m_X9_isAsLeft_r0] at h
    refine px_iload_n C 2 dX9_isAsLeft_129 rfl rfl ?_
    obtain ⟨hzb, h⟩ := el_zb h
    exact px_zretE C hzb dX9_isAsLeft_130 h
  have hl0 : ∀ (n_0 : Nat) (x1 : Int32) (x2 : Int32), m_X9_isAsLeft_L0 fu a1 S m_X9_isAsLeft_r0 n_0 x1 x2 = some rv → PW p l e { frames := 0, cells := 0, slots := 0, locals := 0 } s m args below meth c (MQ below (QX KM A D cI c1 F ad (some (.int rv)) S) args s 0 0 A) D A cI c1 F KM ad 7 0 0 S [(0, .ref (ad 0)), (1, .int a1), (2, .int x1), (3, .int x2)] 4 [] := by
    intro n_0
    induction n_0 with
    | zero =>
      intro x1 x2 h
      rw [m_X9_isAsLeft_L0_z] at h
      cases h
    | succ n_0 ih0 =>
      intro x1 x2 h
      rw [m_X9_isAsLeft_L0_s] at h
      refine px_iload_n C 3 dX9_isAsLeft_4 rfl rfl ?_
      refine px_aload_n C 0 dX9_isAsLeft_5 rfl rfl ?_
      refine px_geti C (j := 24) km_0 rfl rfl iw_X9_isAsLeft_X9 (by decide) lk_X9_isAsLeft_117 rfl dX9_isAsLeft_6 ?_
      refine px_icmp_ge C (tgt := 129) dX9_isAsLeft_9 (by decide) (fun c9_4 => ?_) (fun c9_4 => ?_)
      · replace h := el_t c9_4 h
        exact (hx0 _ _ h)
      · replace h := el_f c9_4 h
        refine px_aload_n C 0 dX9_isAsLeft_12 rfl rfl ?_
        refine px_getr C (j := 16) km_0 rfl rfl iw_X9_isAsLeft_X9 (by decide) lk_X9_isAsLeft_31 rfl dX9_isAsLeft_13 ?_
        refine px_iconst C (v := (2 : Int32)) dX9_isAsLeft_16 (by decide) ?_
        refine px_iald C km_8 (j := 2) (by unfold vp_in; decide) (by decide) dX9_isAsLeft_17 ?_
        refine px_istore C [(4, .int (S.1 8 2)), (0, .ref (ad 0)), (1, .int a1), (2, .int x1), (3, .int x2)] dX9_isAsLeft_18 (by decide) rfl ?_
        refine px_aload_n C 1 dX9_isAsLeft_20 rfl rfl ?_
        refine px_getr C (j := 16) km_0 rfl rfl iw_X9_isAsLeft_X9 (by decide) lk_X9_isAsLeft_31 rfl dX9_isAsLeft_21 ?_
        refine px_iconst C (v := (0 : Int32)) dX9_isAsLeft_24 (by decide) ?_
        refine px_iald C km_8 (j := 0) (by unfold vp_in; decide) (by decide) dX9_isAsLeft_25 ?_
        refine px_aload_n C 1 dX9_isAsLeft_26 rfl rfl ?_
        refine px_getr C (j := 22) km_0 rfl rfl iw_X9_isAsLeft_X9 (by decide) lk_X9_isAsLeft_47 rfl dX9_isAsLeft_27 ?_
        refine px_iload_n C 4 dX9_isAsLeft_30 rfl rfl ?_
        obtain ⟨hix6, x6, ex6, h⟩ := el_ald h
        refine px_iald C km_13 hix6 rfl dX9_isAsLeft_31 ?_
        refine px_nm ex6 ?_
        refine px_iadd C dX9_isAsLeft_32 ?_
        refine px_istore C [(5, .int ((S.1 8 0) + x6)), (4, .int (S.1 8 2)), (0, .ref (ad 0)), (1, .int a1), (2, .int x1), (3, .int x2)] dX9_isAsLeft_33 (by decide) rfl ?_
        refine px_aload_n C 2 dX9_isAsLeft_35 rfl rfl ?_
        refine px_getr C (j := 16) km_0 rfl rfl iw_X9_isAsLeft_X9 (by decide) lk_X9_isAsLeft_31 rfl dX9_isAsLeft_36 ?_
        refine px_iconst C (v := (0 : Int32)) dX9_isAsLeft_39 (by decide) ?_
        refine px_iald C km_8 (j := 0) (by unfold vp_in; decide) (by decide) dX9_isAsLeft_40 ?_
        refine px_istore C [(6, .int (S.1 8 0)), (5, .int ((S.1 8 0) + x6)), (4, .int (S.1 8 2)), (0, .ref (ad 0)), (1, .int a1), (2, .int x1), (3, .int x2)] dX9_isAsLeft_41 (by decide) rfl ?_
        have hx1 : ∀  (x9 : Int32) (x10 : Int32), m_X9_isAsLeft_r1 S x1 x2 (fun z0 z1 => m_X9_isAsLeft_L0 fu a1 S m_X9_isAsLeft_r0 n_0 z0 z1) x6 x9 x10 = some rv → PW p l e { frames := 0, cells := 0, slots := 0, locals := 0 } s m args below meth c (MQ below (QX KM A D cI c1 F ad (some (.int rv)) S) args s 0 0 A) D A cI c1 F KM ad 7 0 0 S [(0, .ref (ad 0)), (1, .int a1), (2, .int x1), (3, .int x2), (4, .int x9), (5, .int ((S.1 8 0) + x6)), (6, .int x10)] 91 [] := by
          intro x9 x10 h
          rw [m_X9_isAsLeft_r1] at h
          refine px_iload_n C 2 dX9_isAsLeft_91 rfl rfl ?_
          obtain ⟨x12, hr92_16, h⟩ := el_b h
          have hj92_12 : PW p l e { frames := 0, cells := 0, slots := 0, locals := 0 } s m args below meth c (MQ below (QX KM A D cI c1 F ad (some (.int rv)) S) args s 0 0 A) D A cI c1 F KM ad 7 0 0 S [(0, .ref (ad 0)), (1, .int a1), (2, .int x1), (3, .int x2), (4, .int x9), (5, .int ((S.1 8 0) + x6)), (6, .int x10)] 122 [.int x12] := by
            refine px_istore_n C [(2, .int x12), (0, .ref (ad 0)), (1, .int a1), (3, .int x2), (4, .int x9), (5, .int ((S.1 8 0) + x6)), (6, .int x10)] dX9_isAsLeft_122 rfl (by decide) rfl ?_
            refine px_iinc C 3 [(3, .int (x2 + (1 : Int32))), (2, .int x12), (0, .ref (ad 0)), (1, .int a1), (4, .int x9), (5, .int ((S.1 8 0) + x6)), (6, .int x10)] dX9_isAsLeft_123 rfl rfl (by decide) rfl ?_
            refine px_goto C (tgt := 4) dX9_isAsLeft_126 (by decide) ?_
            exact px_sub [2, 3, 1, 0] rfl (ih0 _ _ h)
          clear h
          have h := hr92_16
          clear hr92_16
          refine px_if_eq C (tgt := 121) dX9_isAsLeft_92 (by decide) (fun c92_10 => ?_) (fun c92_10 => ?_)
          · replace h := el_t c92_10 h
            refine px_iconst C (v := (0 : Int32)) dX9_isAsLeft_121 (by decide) ?_
            cases h
            exact hj92_12
          · replace h := el_f c92_10 h
            refine px_iload C 5 dX9_isAsLeft_95 rfl ?_
            refine px_aload_n C 0 dX9_isAsLeft_97 rfl rfl ?_
            refine px_getr C (j := 9) km_0 rfl rfl iw_X9_isAsLeft_X9 (by decide) lk_X9_isAsLeft_13 rfl dX9_isAsLeft_98 ?_
            refine px_iconst C (v := (0 : Int32)) dX9_isAsLeft_101 (by decide) ?_
            refine px_iald C km_2 (j := 0) (by unfold vp_in; decide) (by decide) dX9_isAsLeft_102 ?_
            refine px_icmp_gt C (tgt := 121) dX9_isAsLeft_103 (by decide) (fun c103_13 => ?_) (fun c103_13 => ?_)
            · replace h := el_t c103_13 h
              refine px_iconst C (v := (0 : Int32)) dX9_isAsLeft_121 (by decide) ?_
              cases h
              exact hj92_12
            · replace h := el_f c103_13 h
              refine px_iload C 4 dX9_isAsLeft_106 rfl ?_
              refine px_aload_n C 0 dX9_isAsLeft_108 rfl rfl ?_
              refine px_getr C (j := 23) km_0 rfl rfl iw_X9_isAsLeft_X9 (by decide) lk_X9_isAsLeft_50 rfl dX9_isAsLeft_109 ?_
              refine px_iload_n C 3 dX9_isAsLeft_112 rfl rfl ?_
              obtain ⟨hix15, x15, ex15, h⟩ := el_ald h
              refine px_iald C km_14 hix15 rfl dX9_isAsLeft_113 ?_
              refine px_nm ex15 ?_
              refine px_icmp_ne C (tgt := 121) dX9_isAsLeft_114 (by decide) (fun c114_15 => ?_) (fun c114_15 => ?_)
              · replace h := el_t c114_15 h
                refine px_iconst C (v := (0 : Int32)) dX9_isAsLeft_121 (by decide) ?_
                cases h
                exact hj92_12
              · replace h := el_fn c114_15 h
                refine px_iconst C (v := (1 : Int32)) dX9_isAsLeft_117 (by decide) ?_
                refine px_goto C (tgt := 122) dX9_isAsLeft_118 (by decide) ?_
                cases h
                exact hj92_12
        have hl1 : ∀ (n_1 : Nat) (x7 : Int32) (x8 : Int32), m_X9_isAsLeft_L1 a1 S x6 (m_X9_isAsLeft_r1 S x1 x2 (fun z0 z1 => m_X9_isAsLeft_L0 fu a1 S m_X9_isAsLeft_r0 n_0 z0 z1) x6) n_1 x7 x8 = some rv → PW p l e { frames := 0, cells := 0, slots := 0, locals := 0 } s m args below meth c (MQ below (QX KM A D cI c1 F ad (some (.int rv)) S) args s 0 0 A) D A cI c1 F KM ad 7 0 0 S [(0, .ref (ad 0)), (1, .int a1), (2, .int x1), (3, .int x2), (4, .int x7), (5, .int ((S.1 8 0) + x6)), (6, .int x8)] 43 [] := by
          intro n_1
          induction n_1 with
          | zero =>
            intro x7 x8 h
            rw [m_X9_isAsLeft_L1_z] at h
            cases h
          | succ n_1 ih1 =>
            intro x7 x8 h
            rw [m_X9_isAsLeft_L1_s] at h
            refine px_iload C 6 dX9_isAsLeft_43 rfl ?_
            refine px_iload C 5 dX9_isAsLeft_45 rfl ?_
            refine px_icmp_ge C (tgt := 91) dX9_isAsLeft_47 (by decide) (fun c47_17 => ?_) (fun c47_17 => ?_)
            · replace h := el_t c47_17 h
              exact (hx1 _ _ h)
            · replace h := el_f c47_17 h
              refine px_iload C 6 dX9_isAsLeft_50 rfl ?_
              refine px_aload_n C 0 dX9_isAsLeft_52 rfl rfl ?_
              refine px_getr C (j := 9) km_0 rfl rfl iw_X9_isAsLeft_X9 (by decide) lk_X9_isAsLeft_13 rfl dX9_isAsLeft_53 ?_
              refine px_iconst C (v := (0 : Int32)) dX9_isAsLeft_56 (by decide) ?_
              refine px_iald C km_2 (j := 0) (by unfold vp_in; decide) (by decide) dX9_isAsLeft_57 ?_
              refine px_icmp_ge C (tgt := 91) dX9_isAsLeft_58 (by decide) (fun c58_18 => ?_) (fun c58_18 => ?_)
              · replace h := el_t c58_18 h
                exact (hx1 _ _ h)
              · replace h := el_f c58_18 h
                refine px_iload C 4 dX9_isAsLeft_61 rfl ?_
                refine px_aload_n C 0 dX9_isAsLeft_63 rfl rfl ?_
                refine px_getr C (j := 27) km_0 rfl rfl iw_X9_isAsLeft_X9 (by decide) lk_X9_isAsLeft_59 rfl dX9_isAsLeft_64 ?_
                refine px_iload C 6 dX9_isAsLeft_67 rfl ?_
                obtain ⟨hix20, x20, ex20, h⟩ := el_ald h
                refine px_iald C km_17 hix20 rfl dX9_isAsLeft_69 ?_
                refine px_nm ex20 ?_
                refine px_iload C 6 dX9_isAsLeft_70 rfl ?_
                refine px_iload_n C 1 dX9_isAsLeft_72 rfl rfl ?_
                obtain ⟨x22, hr73_23, h⟩ := el_b h
                have hj73_22 : PW p l e { frames := 0, cells := 0, slots := 0, locals := 0 } s m args below meth c (MQ below (QX KM A D cI c1 F ad (some (.int rv)) S) args s 0 0 A) D A cI c1 F KM ad 7 0 0 S [(0, .ref (ad 0)), (1, .int a1), (2, .int x1), (3, .int x2), (4, .int x7), (5, .int ((S.1 8 0) + x6)), (6, .int x8)] 81 [.int x22, .int x20, .int x7] := by
                  refine px_iadd C dX9_isAsLeft_81 ?_
                  refine px_isub C dX9_isAsLeft_82 ?_
                  refine px_istore C [(4, .int (x7 - (x20 + x22))), (0, .ref (ad 0)), (1, .int a1), (2, .int x1), (3, .int x2), (5, .int ((S.1 8 0) + x6)), (6, .int x8)] dX9_isAsLeft_83 (by decide) rfl ?_
                  refine px_iinc C 6 [(6, .int (x8 + (1 : Int32))), (4, .int (x7 - (x20 + x22))), (0, .ref (ad 0)), (1, .int a1), (2, .int x1), (3, .int x2), (5, .int ((S.1 8 0) + x6))] dX9_isAsLeft_85 rfl rfl (by decide) rfl ?_
                  refine px_goto C (tgt := 43) dX9_isAsLeft_88 (by decide) ?_
                  exact px_sub [2, 3, 4, 5, 1, 6, 0] rfl (ih1 _ _ h)
                clear h
                have h := hr73_23
                clear hr73_23
                refine px_icmp_ne C (tgt := 80) dX9_isAsLeft_73 (by decide) (fun c73_20 => ?_) (fun c73_20 => ?_)
                · replace h := el_t c73_20 h
                  refine px_iconst C (v := (0 : Int32)) dX9_isAsLeft_80 (by decide) ?_
                  cases h
                  exact hj73_22
                · replace h := el_fn c73_20 h
                  refine px_iconst C (v := (1 : Int32)) dX9_isAsLeft_76 (by decide) ?_
                  refine px_goto C (tgt := 81) dX9_isAsLeft_77 (by decide) ?_
                  cases h
                  exact hj73_22
        exact px_sub [3, 4, 5, 6, 2, 1, 0] rfl (hl1 _ _ _ h)
  exact px_sub [2, 3, 1, 0] rfl (hl0 _ _ _ h)
theorem lk_X9_isSea_13 : Cond.fieldLink RX9 13 "RiverTollsModel" "many" "[I" ∈ wsX9_isSea := List.mem_of_getElem? (i := 2) rfl
theorem lk_X9_isSea_31 : Cond.fieldLink RX9 31 "RiverTollsModel" "s" "[I" ∈ wsX9_isSea := List.mem_of_getElem? (i := 1) rfl
theorem iw_X9_isSea_X9 : ∀ w ∈ u_ws RX9 TX9 28, w ∈ wsX9_isSea := fun _ h9 => (List.mem_cons_of_mem _ (List.mem_append_right _ h9))
set_option maxHeartbeats 4000000 in
set_option maxRecDepth 100000 in
theorem c_X9_isSea (l : Launch) (tA tB : Nat) (ad : Nat → Nat) (S : St) {rv : Int32} (h : m_X9_isSea S = some rv) :
    XMet l yX9_isSea wsX9_isSea ({ frames := 0, cells := 0, slots := 0, locals := 0 }) KM .boolean tA tB [.ref (ad 0)] ad S (some (.int rv)) S := by
  refine XMet.of (cc := cX9_isSea) (maxL := 1) (ret := (some .boolean)) (own := RX9) (lv := [(0, .ref (ad 0))]) rfl (by decide) rfl (Nat.le_of_ble_eq_true rfl) rfl ?_
  intro p e s m args below meth c D A cI c1 F C
  rw [m_X9_isSea] at h
  refine px_aload_n C 0 dX9_isSea_0 rfl rfl ?_
  refine px_getr C (j := 16) km_0 rfl rfl iw_X9_isSea_X9 (by decide) lk_X9_isSea_31 rfl dX9_isSea_1 ?_
  refine px_iconst C (v := (0 : Int32)) dX9_isSea_4 (by decide) ?_
  refine px_iald C km_8 (j := 0) (by unfold vp_in; decide) (by decide) dX9_isSea_5 ?_
  refine px_aload_n C 0 dX9_isSea_6 rfl rfl ?_
  refine px_getr C (j := 9) km_0 rfl rfl iw_X9_isSea_X9 (by decide) lk_X9_isSea_13 rfl dX9_isSea_7 ?_
  refine px_iconst C (v := (0 : Int32)) dX9_isSea_10 (by decide) ?_
  refine px_iald C km_2 (j := 0) (by unfold vp_in; decide) (by decide) dX9_isSea_11 ?_
  refine px_icmp_ne C (tgt := 19) dX9_isSea_12 (by decide) (fun c12_0 => ?_) (fun c12_0 => ?_)
  · replace h := el_t c12_0 h
    refine px_iconst C (v := (0 : Int32)) dX9_isSea_19 (by decide) ?_
    exact px_zretE C (Or.inl rfl) dX9_isSea_20 h
  · replace h := el_fn c12_0 h
    refine px_iconst C (v := (1 : Int32)) dX9_isSea_15 (by decide) ?_
    refine px_goto C (tgt := 20) dX9_isSea_16 (by decide) ?_
    exact px_zretE C (Or.inr rfl) dX9_isSea_20 h
theorem lk_X9_isWell_89 : Cond.fieldLink RX9 89 "RiverTollsModel" "fault" "I" ∈ wsX9_isWell := List.mem_of_getElem? (i := 1) rfl
theorem iw_X9_isWell_X9 : ∀ w ∈ u_ws RX9 TX9 28, w ∈ wsX9_isWell := fun _ h9 => (List.mem_cons_of_mem _ (List.mem_append_right _ h9))
set_option maxHeartbeats 4000000 in
set_option maxRecDepth 100000 in
theorem c_X9_isWell (l : Launch) (tA tB : Nat) (ad : Nat → Nat) (S : St) {rv : Int32} (h : m_X9_isWell S = some rv) :
    XMet l yX9_isWell wsX9_isWell ({ frames := 0, cells := 0, slots := 0, locals := 0 }) KM .boolean tA tB [.ref (ad 0)] ad S (some (.int rv)) S := by
  refine XMet.of (cc := cX9_isWell) (maxL := 1) (ret := (some .boolean)) (own := RX9) (lv := [(0, .ref (ad 0))]) rfl (by decide) rfl (Nat.le_of_ble_eq_true rfl) rfl ?_
  intro p e s m args below meth c D A cI c1 F C
  rw [m_X9_isWell] at h
  refine px_aload_n C 0 dX9_isWell_0 rfl rfl ?_
  refine px_geti C (j := 8) km_0 rfl rfl iw_X9_isWell_X9 (by decide) lk_X9_isWell_89 rfl dX9_isWell_1 ?_
  refine px_if_ge C (tgt := 11) dX9_isWell_4 (by decide) (fun c4_0 => ?_) (fun c4_0 => ?_)
  · replace h := el_t c4_0 h
    refine px_iconst C (v := (0 : Int32)) dX9_isWell_11 (by decide) ?_
    exact px_zretE C (Or.inl rfl) dX9_isWell_12 h
  · replace h := el_f c4_0 h
    refine px_iconst C (v := (1 : Int32)) dX9_isWell_7 (by decide) ?_
    refine px_goto C (tgt := 12) dX9_isWell_8 (by decide) ?_
    exact px_zretE C (Or.inr rfl) dX9_isWell_12 h
theorem lk_X9_keep_31 : Cond.fieldLink RX9 31 "RiverTollsModel" "s" "[I" ∈ wsX9_keep := List.mem_of_getElem? (i := 3) rfl
theorem lk_X9_keep_37 : Cond.fieldLink RX9 37 "RiverTollsModel" "kept" "[I" ∈ wsX9_keep := List.mem_of_getElem? (i := 2) rfl
theorem lk_X9_keep_40 : Cond.fieldLink RX9 40 "RiverTollsModel" "isKept" "[Z" ∈ wsX9_keep := List.mem_of_getElem? (i := 4) rfl
theorem lk_X9_keep_62 : Cond.fieldLink RX9 62 "RiverTollsModel" "thrown" "I" ∈ wsX9_keep := List.mem_of_getElem? (i := 1) rfl
theorem iw_X9_keep_X9 : ∀ w ∈ u_ws RX9 TX9 28, w ∈ wsX9_keep := fun _ h9 => (List.mem_cons_of_mem _ (List.mem_append_right _ h9))
set_option maxHeartbeats 4000000 in
set_option maxRecDepth 100000 in
theorem c_X9_keep (l : Launch) (tA tB : Nat) (ad : Nat → Nat) (fu : Nat) (S : St) (a1 : Int32) {rv : Int32} {S' : St} (h : m_X9_keep fu S a1 = some (rv, S')) :
    XMet l yX9_keep wsX9_keep ({ frames := 1, cells := 0, slots := 0, locals := 22 }) KM .boolean tA tB [.ref (ad 0), .int a1] ad S (some (.int rv)) S' := by
  refine XMet.of (cc := cX9_keep) (maxL := 3) (ret := (some .int)) (own := RX9) (lv := [(0, .ref (ad 0)), (1, .int a1)]) rfl (by decide) rfl (Nat.le_of_ble_eq_true rfl) rfl ?_
  intro p e s m args below meth c D A cI c1 F C
  rw [m_X9_keep] at h
  refine px_aload_n C 0 dX9_keep_0 rfl rfl ?_
  refine px_iconst C (v := (0 : Int32)) dX9_keep_1 (by decide) ?_
  obtain ⟨S1, eS1, h⟩ := el_lt h
  refine px_puti C (ty := .int) (j := 0) km_0 rfl rfl iw_X9_keep_X9 (by decide) lk_X9_keep_62 rfl tyX9 tyX9_ok nmX9 rfl (by decide +kernel) rfl rfl dX9_keep_2 ?_
  refine px_nmS eS1 ?_
  refine px_iload_n C 1 dX9_keep_5 rfl rfl ?_
  refine px_iconst C (v := (0 : Int32)) dX9_keep_6 (by decide) ?_
  refine px_iconst C (v := (1 : Int32)) dX9_keep_7 (by decide) ?_
  obtain ⟨x3, hc8_1, h⟩ := el_b h
  refine px_callS1 C (c_X9_in l tA tB ad S1 a1 (0 : Int32) (1 : Int32) hc8_1) (va_cwS 3 C.2.2.2.2.1 gX9_keep_X9_in rfl rfl rfl (by decide +kernel) ⟨Nat.le_of_ble_eq_true rfl, Nat.le_of_ble_eq_true rfl⟩) ⟨Nat.zero_le _, Nat.zero_le _⟩ rfl rfl (Nat.le_of_ble_eq_true rfl) dX9_keep_8 ?_
  refine px_if_ne C (tgt := 16) dX9_keep_11 (by decide) (fun c11_3 => ?_) (fun c11_3 => ?_)
  · replace h := el_t c11_3 h
    refine px_iconst C (v := (0 : Int32)) dX9_keep_16 (by decide) ?_
    refine px_istore_n C [(2, .int (0 : Int32)), (0, .ref (ad 0)), (1, .int a1)] dX9_keep_17 rfl (by decide) rfl ?_
    have hx0 : ∀  (x7 : Int32) (S8 : St), m_X9_keep_r0 a1 x7 S8 = some (rv, S') → PW p l e { frames := 1, cells := 0, slots := 0, locals := 22 } s m args below meth c (MQ below (QX KM A D cI c1 F ad (some (.int rv)) S') args s 0 0 A) D A cI c1 F KM ad 3 0 0 S8 [(0, .ref (ad 0)), (1, .int a1), (2, .int x7)] 47 [] := by
      intro x7 S8 h
      rw [m_X9_keep_r0] at h
      refine px_aload_n C 0 dX9_keep_47 rfl rfl ?_
      refine px_getr C (j := 19) km_0 rfl rfl iw_X9_keep_X9 (by decide) lk_X9_keep_40 rfl dX9_keep_48 ?_
      refine px_iload_n C 1 dX9_keep_51 rfl rfl ?_
      refine px_iconst C (v := (1 : Int32)) dX9_keep_52 (by decide) ?_
      obtain ⟨hiS9, S9, eS9, h⟩ := el_ast h
      refine px_zast C rfl rfl km_11 hiS9 rfl dX9_keep_53 ?_
      refine px_nmS eS9 ?_
      refine px_aload_n C 0 dX9_keep_54 rfl rfl ?_
      refine px_getr C (j := 16) km_0 rfl rfl iw_X9_keep_X9 (by decide) lk_X9_keep_31 rfl dX9_keep_55 ?_
      refine px_iconst C (v := (0 : Int32)) dX9_keep_58 (by decide) ?_
      refine px_iald C km_8 (j := 0) (by unfold vp_in; decide) (by decide) dX9_keep_59 ?_
      exact px_iretES C dX9_keep_60 h
    have hl0 : ∀ (n_0 : Nat) (x5 : Int32) (S6 : St), m_X9_keep_L0 a1 (m_X9_keep_r0 a1) n_0 x5 S6 = some (rv, S') → PW p l e { frames := 1, cells := 0, slots := 0, locals := 22 } s m args below meth c (MQ below (QX KM A D cI c1 F ad (some (.int rv)) S') args s 0 0 A) D A cI c1 F KM ad 3 0 0 S6 [(0, .ref (ad 0)), (1, .int a1), (2, .int x5)] 18 [] := by
      intro n_0
      induction n_0 with
      | zero =>
        intro x5 S6 h
        rw [m_X9_keep_L0_z] at h
        cases h
      | succ n_0 ih0 =>
        intro x5 S6 h
        rw [m_X9_keep_L0_s] at h
        refine px_iload_n C 2 dX9_keep_18 rfl rfl ?_
        refine px_bipush C (v := (18 : Int32)) dX9_keep_19 (by decide) ?_
        refine px_icmp_ge C (tgt := 47) dX9_keep_21 (by decide) (fun c21_9 => ?_) (fun c21_9 => ?_)
        · replace h := el_t c21_9 h
          exact (hx0 _ _ h)
        · replace h := el_f c21_9 h
          refine px_aload_n C 0 dX9_keep_24 rfl rfl ?_
          refine px_getr C (j := 18) km_0 rfl rfl iw_X9_keep_X9 (by decide) lk_X9_keep_37 rfl dX9_keep_25 ?_
          refine px_bipush C (v := (18 : Int32)) dX9_keep_28 (by decide) ?_
          refine px_iload_n C 1 dX9_keep_30 rfl rfl ?_
          refine px_imul C dX9_keep_31 ?_
          refine px_iload_n C 2 dX9_keep_32 rfl rfl ?_
          refine px_iadd C dX9_keep_33 ?_
          refine px_aload_n C 0 dX9_keep_34 rfl rfl ?_
          refine px_getr C (j := 16) km_0 rfl rfl iw_X9_keep_X9 (by decide) lk_X9_keep_31 rfl dX9_keep_35 ?_
          refine px_iload_n C 2 dX9_keep_38 rfl rfl ?_
          obtain ⟨hix11, x11, ex11, h⟩ := el_ald h
          refine px_iald C km_8 hix11 rfl dX9_keep_39 ?_
          refine px_nm ex11 ?_
          obtain ⟨hiS12, S12, eS12, h⟩ := el_ast h
          refine px_iast C km_10 hiS12 rfl dX9_keep_40 ?_
          refine px_nmS eS12 ?_
          refine px_iinc C 2 [(2, .int (x5 + (1 : Int32))), (0, .ref (ad 0)), (1, .int a1)] dX9_keep_41 rfl rfl (by decide) rfl ?_
          refine px_goto C (tgt := 18) dX9_keep_44 (by decide) ?_
          exact px_sub [1, 2, 0] rfl (ih0 _ _ h)
    exact px_sub [1, 2, 0] rfl (hl0 _ _ _ h)
  · replace h := el_fn c11_3 h
    refine px_iconst C (v := (-1 : Int32)) dX9_keep_14 (by decide) ?_
    exact px_iretES C dX9_keep_15 h
theorem lk_X9_lands_28 : Cond.fieldLink RX9 28 "RiverTollsModel" "land" "[I" ∈ wsX9_lands := List.mem_of_getElem? (i := 2) rfl
theorem lk_X9_lands_31 : Cond.fieldLink RX9 31 "RiverTollsModel" "s" "[I" ∈ wsX9_lands := List.mem_of_getElem? (i := 3) rfl
theorem lk_X9_lands_62 : Cond.fieldLink RX9 62 "RiverTollsModel" "thrown" "I" ∈ wsX9_lands := List.mem_of_getElem? (i := 1) rfl
theorem iw_X9_lands_X9 : ∀ w ∈ u_ws RX9 TX9 28, w ∈ wsX9_lands := fun _ h9 => (List.mem_cons_of_mem _ (List.mem_append_right _ h9))
set_option maxHeartbeats 4000000 in
set_option maxRecDepth 100000 in
theorem c_X9_lands (l : Launch) (tA tB : Nat) (ad : Nat → Nat) (fu : Nat) (S : St) {rv : Int32} {S' : St} (h : m_X9_lands fu S = some (rv, S')) :
    XMet l yX9_lands wsX9_lands ({ frames := 1, cells := 0, slots := 0, locals := 21 }) KM .boolean tA tB [.ref (ad 0)] ad S (some (.int rv)) S' := by
  refine XMet.of (cc := cX9_lands) (maxL := 2) (ret := (some .int)) (own := RX9) (lv := [(0, .ref (ad 0))]) rfl (by decide) rfl (Nat.le_of_ble_eq_true rfl) rfl ?_
  intro p e s m args below meth c D A cI c1 F C
  rw [m_X9_lands] at h
  refine px_aload_n C 0 dX9_lands_0 rfl rfl ?_
  refine px_iconst C (v := (0 : Int32)) dX9_lands_1 (by decide) ?_
  obtain ⟨S1, eS1, h⟩ := el_lt h
  refine px_puti C (ty := .int) (j := 0) km_0 rfl rfl iw_X9_lands_X9 (by decide) lk_X9_lands_62 rfl tyX9 tyX9_ok nmX9 rfl (by decide +kernel) rfl rfl dX9_lands_2 ?_
  refine px_nmS eS1 ?_
  refine px_aload_n C 0 dX9_lands_5 rfl rfl ?_
  obtain ⟨x3, hc6_1, h⟩ := el_b h
  refine px_callV1 C (c_X9_isSea l tA tB ad S1 hc6_1) (cwV 0 C.2.2.2.2.1 gX9_lands_X9_isSea rfl rfl rfl (by decide +kernel) ⟨Nat.le_of_ble_eq_true rfl, Nat.le_of_ble_eq_true rfl⟩) ⟨Nat.zero_le _, Nat.zero_le _⟩ km_0 rfl rfl rfl (Nat.le_of_ble_eq_true rfl) dX9_lands_6 ?_
  refine px_if_ne C (tgt := 39) dX9_lands_9 (by decide) (fun c9_3 => ?_) (fun c9_3 => ?_)
  · replace h := el_t c9_3 h
    refine px_bipush C (v := (-2 : Int32)) dX9_lands_39 (by decide) ?_
    exact px_iretES C dX9_lands_41 h
  · replace h := el_fn c9_3 h
    refine px_aload_n C 0 dX9_lands_12 rfl rfl ?_
    refine px_getr C (j := 14) km_0 rfl rfl iw_X9_lands_X9 (by decide) lk_X9_lands_28 rfl dX9_lands_13 ?_
    refine px_aload_n C 0 dX9_lands_16 rfl rfl ?_
    refine px_getr C (j := 16) km_0 rfl rfl iw_X9_lands_X9 (by decide) lk_X9_lands_31 rfl dX9_lands_17 ?_
    refine px_iconst C (v := (0 : Int32)) dX9_lands_20 (by decide) ?_
    refine px_iald C km_8 (j := 0) (by unfold vp_in; decide) (by decide) dX9_lands_21 ?_
    obtain ⟨hix5, x5, ex5, h⟩ := el_ald h
    refine px_iald C km_7 hix5 rfl dX9_lands_22 ?_
    refine px_nm ex5 ?_
    refine px_aload_n C 0 dX9_lands_23 rfl rfl ?_
    refine px_getr C (j := 16) km_0 rfl rfl iw_X9_lands_X9 (by decide) lk_X9_lands_31 rfl dX9_lands_24 ?_
    refine px_iconst C (v := (1 : Int32)) dX9_lands_27 (by decide) ?_
    refine px_iald C km_8 (j := 1) (by unfold vp_in; decide) (by decide) dX9_lands_28 ?_
    refine px_imul C dX9_lands_29 ?_
    refine px_aload_n C 0 dX9_lands_30 rfl rfl ?_
    refine px_getr C (j := 16) km_0 rfl rfl iw_X9_lands_X9 (by decide) lk_X9_lands_31 rfl dX9_lands_31 ?_
    refine px_iconst C (v := (2 : Int32)) dX9_lands_34 (by decide) ?_
    refine px_iald C km_8 (j := 2) (by unfold vp_in; decide) (by decide) dX9_lands_35 ?_
    refine px_icmp_le C (tgt := 42) dX9_lands_36 (by decide) (fun c36_5 => ?_) (fun c36_5 => ?_)
    · replace h := el_t c36_5 h
      refine px_aload_n C 0 dX9_lands_42 rfl rfl ?_
      obtain ⟨S8, hc43_6, h⟩ := el_b h
      refine px_callV0 C (c_X9_notes l tA tB ad fu S1 hc43_6) (cwV 0 C.2.2.2.2.1 gX9_lands_X9_notes rfl rfl rfl (by decide +kernel) ⟨Nat.le_of_ble_eq_true rfl, Nat.le_of_ble_eq_true rfl⟩) ⟨Nat.zero_le _, Nat.zero_le _⟩ km_0 rfl rfl rfl (Nat.le_of_ble_eq_true rfl) dX9_lands_43 ?_
      refine px_aload_n C 0 dX9_lands_46 rfl rfl ?_
      refine px_getr C (j := 14) km_0 rfl rfl iw_X9_lands_X9 (by decide) lk_X9_lands_28 rfl dX9_lands_47 ?_
      refine px_aload_n C 0 dX9_lands_50 rfl rfl ?_
      refine px_getr C (j := 16) km_0 rfl rfl iw_X9_lands_X9 (by decide) lk_X9_lands_31 rfl dX9_lands_51 ?_
      refine px_iconst C (v := (0 : Int32)) dX9_lands_54 (by decide) ?_
      refine px_iald C km_8 (j := 0) (by unfold vp_in; decide) (by decide) dX9_lands_55 ?_
      obtain ⟨hix9, x9, ex9, h⟩ := el_ald h
      refine px_iald C km_7 hix9 rfl dX9_lands_56 ?_
      refine px_nm ex9 ?_
      refine px_aload_n C 0 dX9_lands_57 rfl rfl ?_
      refine px_getr C (j := 16) km_0 rfl rfl iw_X9_lands_X9 (by decide) lk_X9_lands_31 rfl dX9_lands_58 ?_
      refine px_iconst C (v := (1 : Int32)) dX9_lands_61 (by decide) ?_
      refine px_iald C km_8 (j := 1) (by unfold vp_in; decide) (by decide) dX9_lands_62 ?_
      refine px_imul C dX9_lands_63 ?_
      refine px_istore_n C [(1, .int (x9 * (S8.1 8 1))), (0, .ref (ad 0))] dX9_lands_64 rfl (by decide) rfl ?_
      refine px_aload_n C 1 dX9_lands_65 rfl rfl ?_
      refine px_getr C (j := 16) km_0 rfl rfl iw_X9_lands_X9 (by decide) lk_X9_lands_31 rfl dX9_lands_66 ?_
      refine px_iconst C (v := (2 : Int32)) dX9_lands_69 (by decide) ?_
      refine px_dup2 C dX9_lands_70 rfl rfl ?_
      refine px_iald C km_8 (j := 2) (by unfold vp_in; decide) (by decide) dX9_lands_71 ?_
      refine px_iload_n C 0 dX9_lands_72 rfl rfl ?_
      refine px_isub C dX9_lands_73 ?_
      obtain ⟨S10, eS10, h⟩ := el_lt h
      refine px_iast C km_8 (j := 2) (by unfold vp_in; decide) (by decide) dX9_lands_74 ?_
      refine px_nmS eS10 ?_
      refine px_aload_n C 1 dX9_lands_75 rfl rfl ?_
      refine px_getr C (j := 16) km_0 rfl rfl iw_X9_lands_X9 (by decide) lk_X9_lands_31 rfl dX9_lands_76 ?_
      refine px_iconst C (v := (3 : Int32)) dX9_lands_79 (by decide) ?_
      refine px_iconst C (v := (0 : Int32)) dX9_lands_80 (by decide) ?_
      obtain ⟨S11, eS11, h⟩ := el_lt h
      refine px_iast C km_8 (j := 3) (by unfold vp_in; decide) (by decide) dX9_lands_81 ?_
      refine px_nmS eS11 ?_
      refine px_aload_n C 1 dX9_lands_82 rfl rfl ?_
      refine px_getr C (j := 16) km_0 rfl rfl iw_X9_lands_X9 (by decide) lk_X9_lands_31 rfl dX9_lands_83 ?_
      refine px_iconst C (v := (0 : Int32)) dX9_lands_86 (by decide) ?_
      refine px_dup2 C dX9_lands_87 rfl rfl ?_
      refine px_iald C km_8 (j := 0) (by unfold vp_in; decide) (by decide) dX9_lands_88 ?_
      refine px_iconst C (v := (1 : Int32)) dX9_lands_89 (by decide) ?_
      refine px_iadd C dX9_lands_90 ?_
      obtain ⟨S12, eS12, h⟩ := el_lt h
      refine px_iast C km_8 (j := 0) (by unfold vp_in; decide) (by decide) dX9_lands_91 ?_
      refine px_nmS eS12 ?_
      refine px_iload_n C 0 dX9_lands_92 rfl rfl ?_
      exact px_iretES C dX9_lands_93 h
    · replace h := el_f c36_5 h
      refine px_bipush C (v := (-2 : Int32)) dX9_lands_39 (by decide) ?_
      exact px_iretES C dX9_lands_41 h
theorem lk_X9_left_47 : Cond.fieldLink RX9 47 "RiverTollsModel" "leftBehind" "[I" ∈ wsX9_left := List.mem_of_getElem? (i := 3) rfl
theorem lk_X9_left_50 : Cond.fieldLink RX9 50 "RiverTollsModel" "leftCoins" "[I" ∈ wsX9_left := List.mem_of_getElem? (i := 4) rfl
theorem lk_X9_left_62 : Cond.fieldLink RX9 62 "RiverTollsModel" "thrown" "I" ∈ wsX9_left := List.mem_of_getElem? (i := 1) rfl
theorem lk_X9_left_117 : Cond.fieldLink RX9 117 "RiverTollsModel" "leftMany" "I" ∈ wsX9_left := List.mem_of_getElem? (i := 2) rfl
theorem iw_X9_left_X9 : ∀ w ∈ u_ws RX9 TX9 28, w ∈ wsX9_left := fun _ h9 => (List.mem_cons_of_mem _ (List.mem_append_right _ h9))
set_option maxHeartbeats 4000000 in
set_option maxRecDepth 100000 in
theorem c_X9_left (l : Launch) (tA tB : Nat) (ad : Nat → Nat) (S : St) (a1 : Int32) (a2 : Int32) {rv : Int32} {S' : St} (h : m_X9_left S a1 a2 = some (rv, S')) :
    XMet l yX9_left wsX9_left ({ frames := 1, cells := 0, slots := 0, locals := 22 }) KM .boolean tA tB [.ref (ad 0), .int a1, .int a2] ad S (some (.int rv)) S' := by
  refine XMet.of (cc := cX9_left) (maxL := 3) (ret := (some .int)) (own := RX9) (lv := [(0, .ref (ad 0)), (1, .int a1), (2, .int a2)]) rfl (by decide) rfl (Nat.le_of_ble_eq_true rfl) rfl ?_
  intro p e s m args below meth c D A cI c1 F C
  rw [m_X9_left] at h
  refine px_aload_n C 0 dX9_left_0 rfl rfl ?_
  refine px_iconst C (v := (0 : Int32)) dX9_left_1 (by decide) ?_
  obtain ⟨S1, eS1, h⟩ := el_lt h
  refine px_puti C (ty := .int) (j := 0) km_0 rfl rfl iw_X9_left_X9 (by decide) lk_X9_left_62 rfl tyX9 tyX9_ok nmX9 rfl (by decide +kernel) rfl rfl dX9_left_2 ?_
  refine px_nmS eS1 ?_
  refine px_iload_n C 1 dX9_left_5 rfl rfl ?_
  refine px_iconst C (v := (0 : Int32)) dX9_left_6 (by decide) ?_
  refine px_bipush C (v := (8 : Int32)) dX9_left_7 (by decide) ?_
  obtain ⟨x3, hc9_1, h⟩ := el_b h
  refine px_callS1 C (c_X9_in l tA tB ad S1 a1 (0 : Int32) (8 : Int32) hc9_1) (va_cwS 3 C.2.2.2.2.1 gX9_left_X9_in rfl rfl rfl (by decide +kernel) ⟨Nat.le_of_ble_eq_true rfl, Nat.le_of_ble_eq_true rfl⟩) ⟨Nat.zero_le _, Nat.zero_le _⟩ rfl rfl (Nat.le_of_ble_eq_true rfl) dX9_left_9 ?_
  refine px_if_eq C (tgt := 26) dX9_left_12 (by decide) (fun c12_3 => ?_) (fun c12_3 => ?_)
  · replace h := el_t c12_3 h
    refine px_iconst C (v := (-1 : Int32)) dX9_left_26 (by decide) ?_
    exact px_iretES C dX9_left_27 h
  · replace h := el_f c12_3 h
    refine px_iload_n C 2 dX9_left_15 rfl rfl ?_
    refine px_iconst C (v := (0 : Int32)) dX9_left_16 (by decide) ?_
    refine px_sipush C (v := (900 : Int32)) dX9_left_17 (by decide) ?_
    obtain ⟨x6, hc20_4, h⟩ := el_b h
    refine px_callS1 C (c_X9_in l tA tB ad S1 a2 (0 : Int32) (900 : Int32) hc20_4) (va_cwS 3 C.2.2.2.2.1 gX9_left_X9_in rfl rfl rfl (by decide +kernel) ⟨Nat.le_of_ble_eq_true rfl, Nat.le_of_ble_eq_true rfl⟩) ⟨Nat.zero_le _, Nat.zero_le _⟩ rfl rfl (Nat.le_of_ble_eq_true rfl) dX9_left_20 ?_
    refine px_if_ne C (tgt := 28) dX9_left_23 (by decide) (fun c23_6 => ?_) (fun c23_6 => ?_)
    · replace h := el_t c23_6 h
      refine px_aload_n C 0 dX9_left_28 rfl rfl ?_
      refine px_geti C (j := 24) km_0 rfl rfl iw_X9_left_X9 (by decide) lk_X9_left_117 rfl dX9_left_29 ?_
      refine px_bipush C (v := (6 : Int32)) dX9_left_32 (by decide) ?_
      refine px_icmp_ne C (tgt := 40) dX9_left_34 (by decide) (fun c34_7 => ?_) (fun c34_7 => ?_)
      · replace h := el_t c34_7 h
        refine px_aload_n C 0 dX9_left_40 rfl rfl ?_
        refine px_getr C (j := 22) km_0 rfl rfl iw_X9_left_X9 (by decide) lk_X9_left_47 rfl dX9_left_41 ?_
        refine px_aload_n C 0 dX9_left_44 rfl rfl ?_
        refine px_geti C (j := 24) km_0 rfl rfl iw_X9_left_X9 (by decide) lk_X9_left_117 rfl dX9_left_45 ?_
        refine px_iload_n C 1 dX9_left_48 rfl rfl ?_
        obtain ⟨hiS9, S9, eS9, h⟩ := el_ast h
        refine px_iast C km_13 hiS9 rfl dX9_left_49 ?_
        refine px_nmS eS9 ?_
        refine px_aload_n C 0 dX9_left_50 rfl rfl ?_
        refine px_getr C (j := 23) km_0 rfl rfl iw_X9_left_X9 (by decide) lk_X9_left_50 rfl dX9_left_51 ?_
        refine px_aload_n C 0 dX9_left_54 rfl rfl ?_
        refine px_geti C (j := 24) km_0 rfl rfl iw_X9_left_X9 (by decide) lk_X9_left_117 rfl dX9_left_55 ?_
        refine px_iload_n C 2 dX9_left_58 rfl rfl ?_
        obtain ⟨hiS10, S10, eS10, h⟩ := el_ast h
        refine px_iast C km_14 hiS10 rfl dX9_left_59 ?_
        refine px_nmS eS10 ?_
        refine px_aload_n C 0 dX9_left_60 rfl rfl ?_
        refine px_dup C dX9_left_61 rfl ?_
        refine px_geti C (j := 24) km_0 rfl rfl iw_X9_left_X9 (by decide) lk_X9_left_117 rfl dX9_left_62 ?_
        refine px_iconst C (v := (1 : Int32)) dX9_left_65 (by decide) ?_
        refine px_iadd C dX9_left_66 ?_
        obtain ⟨S11, eS11, h⟩ := el_lt h
        refine px_puti C (ty := .int) (j := 24) km_0 rfl rfl iw_X9_left_X9 (by decide) lk_X9_left_117 rfl tyX9 tyX9_ok nmX9 rfl (by decide +kernel) rfl rfl dX9_left_67 ?_
        refine px_nmS eS11 ?_
        refine px_aload_n C 0 dX9_left_70 rfl rfl ?_
        refine px_geti C (j := 24) km_0 rfl rfl iw_X9_left_X9 (by decide) lk_X9_left_117 rfl dX9_left_71 ?_
        exact px_iretES C dX9_left_74 h
      · replace h := el_fn c34_7 h
        refine px_bipush C (v := (-3 : Int32)) dX9_left_37 (by decide) ?_
        exact px_iretES C dX9_left_39 h
    · replace h := el_fn c23_6 h
      refine px_iconst C (v := (-1 : Int32)) dX9_left_26 (by decide) ?_
      exact px_iretES C dX9_left_27 h
theorem lk_X9_most_31 : Cond.fieldLink RX9 31 "RiverTollsModel" "s" "[I" ∈ wsX9_most := List.mem_of_getElem? (i := 2) rfl
theorem lk_X9_most_34 : Cond.fieldLink RX9 34 "RiverTollsModel" "w" "[I" ∈ wsX9_most := List.mem_of_getElem? (i := 3) rfl
theorem lk_X9_most_62 : Cond.fieldLink RX9 62 "RiverTollsModel" "thrown" "I" ∈ wsX9_most := List.mem_of_getElem? (i := 1) rfl
theorem iw_X9_most_X9 : ∀ w ∈ u_ws RX9 TX9 28, w ∈ wsX9_most := fun _ h9 => (List.mem_cons_of_mem _ (List.mem_append_right _ h9))
set_option maxHeartbeats 4000000 in
set_option maxRecDepth 100000 in
theorem c_X9_most (l : Launch) (tA tB : Nat) (ad : Nat → Nat) (fu : Nat) (S : St) (a1 : Int32) (a2 : Int32) {rv : Int32} {S' : St} (h : m_X9_most fu S a1 a2 = some (rv, S')) :
    XMet l yX9_most wsX9_most ({ frames := 4, cells := 0, slots := 0, locals := 98 }) KM .boolean tA tB [.ref (ad 0), .int a1, .int a2] ad S (some (.int rv)) S' := by
  refine XMet.of (cc := cX9_most) (maxL := 6) (ret := (some .int)) (own := RX9) (lv := [(0, .ref (ad 0)), (1, .int a1), (2, .int a2)]) rfl (by decide) rfl (Nat.le_of_ble_eq_true rfl) rfl ?_
  intro p e s m args below meth c D A cI c1 F C
  rw [m_X9_most] at h
  refine px_aload_n C 0 dX9_most_0 rfl rfl ?_
  refine px_iconst C (v := (0 : Int32)) dX9_most_1 (by decide) ?_
  obtain ⟨S1, eS1, h⟩ := el_lt h
  refine px_puti C (ty := .int) (j := 0) km_0 rfl rfl iw_X9_most_X9 (by decide) lk_X9_most_62 rfl tyX9 tyX9_ok nmX9 rfl (by decide +kernel) rfl rfl dX9_most_2 ?_
  refine px_nmS eS1 ?_
  refine px_aload_n C 0 dX9_most_5 rfl rfl ?_
  refine px_iload_n C 1 dX9_most_6 rfl rfl ?_
  obtain ⟨x3, hc7_1, h⟩ := el_b h
  refine px_callV1 C (c_X9_isRock l tA tB ad S1 a1 hc7_1) (cwV 1 C.2.2.2.2.1 gX9_most_X9_isRock rfl rfl rfl (by decide +kernel) ⟨Nat.le_of_ble_eq_true rfl, Nat.le_of_ble_eq_true rfl⟩) ⟨Nat.zero_le _, Nat.zero_le _⟩ km_0 rfl rfl rfl (Nat.le_of_ble_eq_true rfl) dX9_most_7 ?_
  refine px_if_eq C (tgt := 22) dX9_most_10 (by decide) (fun c10_3 => ?_) (fun c10_3 => ?_)
  · replace h := el_t c10_3 h
    refine px_iconst C (v := (-1 : Int32)) dX9_most_22 (by decide) ?_
    exact px_iretES C dX9_most_23 h
  · replace h := el_f c10_3 h
    refine px_iload_n C 2 dX9_most_13 rfl rfl ?_
    refine px_iconst C (v := (0 : Int32)) dX9_most_14 (by decide) ?_
    refine px_iconst C (v := (1 : Int32)) dX9_most_15 (by decide) ?_
    obtain ⟨x6, hc16_4, h⟩ := el_b h
    refine px_callS1 C (c_X9_in l tA tB ad S1 a2 (0 : Int32) (1 : Int32) hc16_4) (va_cwS 3 C.2.2.2.2.1 gX9_most_X9_in rfl rfl rfl (by decide +kernel) ⟨Nat.le_of_ble_eq_true rfl, Nat.le_of_ble_eq_true rfl⟩) ⟨Nat.zero_le _, Nat.zero_le _⟩ rfl rfl (Nat.le_of_ble_eq_true rfl) dX9_most_16 ?_
    refine px_if_ne C (tgt := 24) dX9_most_19 (by decide) (fun c19_6 => ?_) (fun c19_6 => ?_)
    · replace h := el_t c19_6 h
      refine px_iload_n C 1 dX9_most_24 rfl rfl ?_
      refine px_aload_n C 0 dX9_most_25 rfl rfl ?_
      refine px_getr C (j := 16) km_0 rfl rfl iw_X9_most_X9 (by decide) lk_X9_most_31 rfl dX9_most_26 ?_
      refine px_iconst C (v := (0 : Int32)) dX9_most_29 (by decide) ?_
      refine px_iald C km_8 (j := 0) (by unfold vp_in; decide) (by decide) dX9_most_30 ?_
      refine px_icmp_lt C (tgt := 48) dX9_most_31 (by decide) (fun c31_7 => ?_) (fun c31_7 => ?_)
      · replace h := el_t c31_7 h
        refine px_bipush C (v := (-9 : Int32)) dX9_most_48 (by decide) ?_
        exact px_iretES C dX9_most_50 h
      · replace h := el_f c31_7 h
        refine px_aload_n C 0 dX9_most_34 rfl rfl ?_
        refine px_getr C (j := 16) km_0 rfl rfl iw_X9_most_X9 (by decide) lk_X9_most_31 rfl dX9_most_35 ?_
        refine px_iconst C (v := (5 : Int32)) dX9_most_38 (by decide) ?_
        refine px_iald C km_8 (j := 5) (by unfold vp_in; decide) (by decide) dX9_most_39 ?_
        refine px_iload_n C 1 dX9_most_40 rfl rfl ?_
        refine px_ishr C dX9_most_41 ?_
        refine px_iconst C (v := (1 : Int32)) dX9_most_42 (by decide) ?_
        refine px_iand C dX9_most_43 ?_
        refine px_iconst C (v := (1 : Int32)) dX9_most_44 (by decide) ?_
        refine px_icmp_ne C (tgt := 51) dX9_most_45 (by decide) (fun c45_8 => ?_) (fun c45_8 => ?_)
        · replace h := el_t c45_8 h
          refine px_aload_n C 0 dX9_most_51 rfl rfl ?_
          obtain ⟨S11, hc52_9, h⟩ := el_b h
          refine px_callV0 C (c_X9_asNow l tA tB ad fu S1 hc52_9) (cwV 0 C.2.2.2.2.1 gX9_most_X9_asNow rfl rfl rfl (by decide +kernel) ⟨Nat.le_of_ble_eq_true rfl, Nat.le_of_ble_eq_true rfl⟩) ⟨Nat.zero_le _, Nat.zero_le _⟩ km_0 rfl rfl rfl (Nat.le_of_ble_eq_true rfl) dX9_most_52 ?_
          refine px_iconst C (v := (0 : Int32)) dX9_most_55 (by decide) ?_
          refine px_istore_n C [(3, .int (0 : Int32)), (0, .ref (ad 0)), (1, .int a1), (2, .int a2)] dX9_most_56 rfl (by decide) rfl ?_
          refine px_iconst C (v := (-1 : Int32)) dX9_most_57 (by decide) ?_
          refine px_istore C [(4, .int (-1 : Int32)), (3, .int (0 : Int32)), (0, .ref (ad 0)), (1, .int a1), (2, .int a2)] dX9_most_58 (by decide) rfl ?_
          refine px_iconst C (v := (0 : Int32)) dX9_most_60 (by decide) ?_
          refine px_istore C [(5, .int (0 : Int32)), (4, .int (-1 : Int32)), (3, .int (0 : Int32)), (0, .ref (ad 0)), (1, .int a1), (2, .int a2)] dX9_most_61 (by decide) rfl ?_
          have hx0 : ∀  (x16 : Int32) (x17 : Int32) (x18 : Int32) (S19 : St), m_X9_most_r0 a2 x16 x17 x18 S19 = some (rv, S') → PW p l e { frames := 4, cells := 0, slots := 0, locals := 98 } s m args below meth c (MQ below (QX KM A D cI c1 F ad (some (.int rv)) S') args s 0 0 A) D A cI c1 F KM ad 6 0 0 S19 [(0, .ref (ad 0)), (1, .int a1), (2, .int a2), (3, .int x16), (4, .int x17), (5, .int x18)] 141 [] := by
            intro x16 x17 x18 S19 h
            rw [m_X9_most_r0] at h
            refine px_iload_n C 2 dX9_most_141 rfl rfl ?_
            refine px_if_ne C (tgt := 149) dX9_most_142 (by decide) (fun c142_19 => ?_) (fun c142_19 => ?_)
            · replace h := el_t c142_19 h
              refine px_iload C 4 dX9_most_149 rfl ?_
              exact px_iretES C dX9_most_151 h
            · replace h := el_fn c142_19 h
              refine px_iload_n C 3 dX9_most_145 rfl rfl ?_
              refine px_goto C (tgt := 151) dX9_most_146 (by decide) ?_
              exact px_iretES C dX9_most_151 h
          have hl0 : ∀ (n_0 : Nat) (x12 : Int32) (x13 : Int32) (x14 : Int32) (S15 : St), m_X9_most_L0 fu a1 (m_X9_most_r0 a2) n_0 x12 x13 x14 S15 = some (rv, S') → PW p l e { frames := 4, cells := 0, slots := 0, locals := 98 } s m args below meth c (MQ below (QX KM A D cI c1 F ad (some (.int rv)) S') args s 0 0 A) D A cI c1 F KM ad 6 0 0 S15 [(0, .ref (ad 0)), (1, .int a1), (2, .int a2), (3, .int x12), (4, .int x13), (5, .int x14)] 63 [] := by
            intro n_0
            induction n_0 with
            | zero =>
              intro x12 x13 x14 S15 h
              rw [m_X9_most_L0_z] at h
              cases h
            | succ n_0 ih0 =>
              intro x12 x13 x14 S15 h
              rw [m_X9_most_L0_s] at h
              refine px_iload C 5 dX9_most_63 rfl ?_
              refine px_bipush C (v := (10 : Int32)) dX9_most_65 (by decide) ?_
              refine px_icmp_ge C (tgt := 141) dX9_most_67 (by decide) (fun c67_20 => ?_) (fun c67_20 => ?_)
              · replace h := el_t c67_20 h
                exact (hx0 _ _ _ _ h)
              · replace h := el_f c67_20 h
                refine px_aload_n C 0 dX9_most_70 rfl rfl ?_
                refine px_getr C (j := 17) km_0 rfl rfl iw_X9_most_X9 (by decide) lk_X9_most_34 rfl dX9_most_71 ?_
                refine px_bipush C (v := (6 : Int32)) dX9_most_74 (by decide) ?_
                refine px_iload_n C 1 dX9_most_76 rfl rfl ?_
                refine px_iadd C dX9_most_77 ?_
                refine px_iload C 5 dX9_most_78 rfl ?_
                obtain ⟨hiS22, S22, eS22, h⟩ := el_ast h
                refine px_iast C km_9 hiS22 rfl dX9_most_80 ?_
                refine px_nmS eS22 ?_
                refine px_aload_n C 0 dX9_most_81 rfl rfl ?_
                refine px_aload_n C 0 dX9_most_82 rfl rfl ?_
                refine px_getr C (j := 17) km_0 rfl rfl iw_X9_most_X9 (by decide) lk_X9_most_34 rfl dX9_most_83 ?_
                refine px_aload_n C 0 dX9_most_86 rfl rfl ?_
                refine px_getr C (j := 16) km_0 rfl rfl iw_X9_most_X9 (by decide) lk_X9_most_31 rfl dX9_most_87 ?_
                refine px_iconst C (v := (1 : Int32)) dX9_most_90 (by decide) ?_
                refine px_iald C km_8 (j := 1) (by unfold vp_in; decide) (by decide) dX9_most_91 ?_
                obtain ⟨x24, S25, hc92_22, h⟩ := el_b2 h
                refine px_callV1 C (c_X9_finds l tA tB ad fu S22 9 (S22.1 8 1) km_9 hc92_22) (cwV 2 C.2.2.2.2.1 gX9_most_X9_finds rfl rfl rfl (by decide +kernel) ⟨Nat.le_of_ble_eq_true rfl, Nat.le_of_ble_eq_true rfl⟩) ⟨Nat.zero_le _, Nat.zero_le _⟩ km_0 rfl rfl rfl (Nat.le_of_ble_eq_true rfl) dX9_most_92 ?_
                refine px_pop C dX9_most_95 rfl ?_
                refine px_aload_n C 0 dX9_most_96 rfl rfl ?_
                refine px_iload_n C 1 dX9_most_97 rfl rfl ?_
                obtain ⟨x27, hc98_25, h⟩ := el_b h
                refine px_callV1 C (c_X9_paidAt l tA tB ad S25 a1 hc98_25) (cwV 1 C.2.2.2.2.1 gX9_most_X9_paidAt rfl rfl rfl (by decide +kernel) ⟨Nat.le_of_ble_eq_true rfl, Nat.le_of_ble_eq_true rfl⟩) ⟨Nat.zero_le _, Nat.zero_le _⟩ km_0 rfl rfl rfl (Nat.le_of_ble_eq_true rfl) dX9_most_98 ?_
                refine px_iload C 4 dX9_most_101 rfl ?_
                obtain ⟨x29, hr103_38, h⟩ := el_b h
                have hj103_29 : PW p l e { frames := 4, cells := 0, slots := 0, locals := 98 } s m args below meth c (MQ below (QX KM A D cI c1 F ad (some (.int rv)) S') args s 0 0 A) D A cI c1 F KM ad 6 0 0 S25 [(0, .ref (ad 0)), (1, .int a1), (2, .int a2), (3, .int x12), (4, .int x13), (5, .int x14)] 112 [.int x29] := by
                  refine px_istore_n C [(3, .int x29), (0, .ref (ad 0)), (1, .int a1), (2, .int a2), (4, .int x13), (5, .int x14)] dX9_most_112 rfl (by decide) rfl ?_
                  refine px_aload_n C 1 dX9_most_113 rfl rfl ?_
                  refine px_iload_n C 2 dX9_most_114 rfl rfl ?_
                  obtain ⟨x32, hc115_30, h⟩ := el_b h
                  refine px_callV1 C (c_X9_paidAt l tA tB ad S25 a1 hc115_30) (cwV 1 C.2.2.2.2.1 gX9_most_X9_paidAt rfl rfl rfl (by decide +kernel) ⟨Nat.le_of_ble_eq_true rfl, Nat.le_of_ble_eq_true rfl⟩) ⟨Nat.zero_le _, Nat.zero_le _⟩ km_0 rfl rfl rfl (Nat.le_of_ble_eq_true rfl) dX9_most_115 ?_
                  refine px_iload C 4 dX9_most_118 rfl ?_
                  obtain ⟨x34, hr120_37, h⟩ := el_b h
                  have hj120_34 : PW p l e { frames := 4, cells := 0, slots := 0, locals := 98 } s m args below meth c (MQ below (QX KM A D cI c1 F ad (some (.int rv)) S') args s 0 0 A) D A cI c1 F KM ad 6 0 0 S25 [(0, .ref (ad 0)), (1, .int a1), (2, .int a2), (3, .int x29), (4, .int x13), (5, .int x14)] 133 [.int x34] := by
                    refine px_istore C [(4, .int x34), (0, .ref (ad 0)), (1, .int a1), (2, .int a2), (3, .int x29), (5, .int x14)] dX9_most_133 (by decide) rfl ?_
                    refine px_iinc C 5 [(5, .int (x14 + (1 : Int32))), (4, .int x34), (0, .ref (ad 0)), (1, .int a1), (2, .int a2), (3, .int x29)] dX9_most_135 rfl rfl (by decide) rfl ?_
                    refine px_goto C (tgt := 63) dX9_most_138 (by decide) ?_
                    exact px_sub [2, 3, 4, 5, 1, 0] rfl (ih0 _ _ _ _ h)
                  clear h
                  have h := hr120_37
                  clear hr120_37
                  refine px_icmp_le C (tgt := 131) dX9_most_120 (by decide) (fun c120_32 => ?_) (fun c120_32 => ?_)
                  · replace h := el_t c120_32 h
                    refine px_iload C 4 dX9_most_131 rfl ?_
                    cases h
                    exact px_sub [1, 2, 3, 0, 4, 5] rfl hj120_34
                  · replace h := el_f c120_32 h
                    refine px_aload_n C 1 dX9_most_123 rfl rfl ?_
                    refine px_iload_n C 2 dX9_most_124 rfl rfl ?_
                    obtain ⟨x37, hc125_35, h⟩ := el_b h
                    refine px_callV1 C (c_X9_paidAt l tA tB ad S25 a1 hc125_35) (cwV 1 C.2.2.2.2.1 gX9_most_X9_paidAt rfl rfl rfl (by decide +kernel) ⟨Nat.le_of_ble_eq_true rfl, Nat.le_of_ble_eq_true rfl⟩) ⟨Nat.zero_le _, Nat.zero_le _⟩ km_0 rfl rfl rfl (Nat.le_of_ble_eq_true rfl) dX9_most_125 ?_
                    refine px_goto C (tgt := 133) dX9_most_128 (by decide) ?_
                    cases h
                    exact px_sub [1, 2, 3, 0, 4, 5] rfl hj120_34
                clear h
                have h := hr103_38
                clear hr103_38
                refine px_icmp_le C (tgt := 111) dX9_most_103 (by decide) (fun c103_27 => ?_) (fun c103_27 => ?_)
                · replace h := el_t c103_27 h
                  refine px_iload_n C 3 dX9_most_111 rfl rfl ?_
                  cases h
                  exact hj103_29
                · replace h := el_f c103_27 h
                  refine px_iload C 5 dX9_most_106 rfl ?_
                  refine px_goto C (tgt := 112) dX9_most_108 (by decide) ?_
                  cases h
                  exact hj103_29
          exact px_sub [3, 4, 5, 2, 1, 0] rfl (hl0 _ _ _ _ _ h)
        · replace h := el_fn c45_8 h
          refine px_bipush C (v := (-9 : Int32)) dX9_most_48 (by decide) ?_
          exact px_iretES C dX9_most_50 h
    · replace h := el_fn c19_6 h
      refine px_iconst C (v := (-1 : Int32)) dX9_most_22 (by decide) ?_
      exact px_iretES C dX9_most_23 h
