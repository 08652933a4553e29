theorem lk_X3_become_9 : Cond.fieldLink RX3 9 "RiverTolls$River" "facts" "[I" ∈ wsX3_become := List.mem_of_getElem? (i := 5) rfl
theorem lk_X3_become_18 : Cond.fieldLink RX3 18 "RiverTolls$River" "rocks" "I" ∈ wsX3_become := List.mem_of_getElem? (i := 1) rfl
theorem lk_X3_become_22 : Cond.fieldLink RX3 22 "RiverTolls$River" "barrels" "I" ∈ wsX3_become := List.mem_of_getElem? (i := 2) rfl
theorem lk_X3_become_25 : Cond.fieldLink RX3 25 "RiverTolls$River" "coins" "I" ∈ wsX3_become := List.mem_of_getElem? (i := 3) rfl
theorem lk_X3_become_28 : Cond.fieldLink RX3 28 "RiverTolls$River" "items" "I" ∈ wsX3_become := List.mem_of_getElem? (i := 4) rfl
theorem iw_X3_become_X3 : ∀ w ∈ u_ws RX3 TX3 5, w ∈ wsX3_become := fun _ h9 => (List.mem_cons_of_mem _ (List.mem_append_right _ h9))
set_option maxHeartbeats 4000000 in
set_option maxRecDepth 100000 in
theorem c_X3_become (l : Launch) (tA tB : Nat) (ad : Nat → Nat) (fu : Nat) (S : St) {S' : St} (h : m_X3_become fu S = some S') :
    XMet l yX3_become wsX3_become ({ frames := 1, cells := 0, slots := 0, locals := 22 }) KX (.object "RiverTolls$Boat") tA tB [.ref (ad 6), .ref (ad 4)] ad S none S' := by
  refine XMet.of (cc := cX3_become) (maxL := 2) (ret := none) (own := RX3) (lv := [(0, .ref (ad 6)), (1, .ref (ad 4))]) rfl (by decide) rfl (Nat.le_of_ble_eq_true rfl) rfl ?_
  intro p e s m args below meth c D A cI c1 F C
  rw [m_X3_become] at h
  refine px_aload_n C 0 dX3_become_0 rfl rfl ?_
  refine px_aload_n C 1 dX3_become_1 rfl rfl ?_
  refine px_geti C (j := 0) kx_4 rfl rfl iw_X3_become_X3 (by decide) lk_X3_become_18 rfl dX3_become_2 ?_
  obtain ⟨S1, eS1, h⟩ := el_lt h
  refine px_puti C (ty := .int) (j := 0) kx_6 rfl rfl iw_X3_become_X3 (by decide) lk_X3_become_18 rfl tyX3 tyX3_ok nmX3 rfl (by decide +kernel) rfl rfl dX3_become_5 ?_
  refine px_nmS eS1 ?_
  refine px_aload_n C 0 dX3_become_8 rfl rfl ?_
  refine px_aload_n C 1 dX3_become_9 rfl rfl ?_
  refine px_geti C (j := 1) kx_4 rfl rfl iw_X3_become_X3 (by decide) lk_X3_become_22 rfl dX3_become_10 ?_
  obtain ⟨S2, eS2, h⟩ := el_lt h
  refine px_puti C (ty := .int) (j := 1) kx_6 rfl rfl iw_X3_become_X3 (by decide) lk_X3_become_22 rfl tyX3 tyX3_ok nmX3 rfl (by decide +kernel) rfl rfl dX3_become_13 ?_
  refine px_nmS eS2 ?_
  refine px_aload_n C 0 dX3_become_16 rfl rfl ?_
  refine px_aload_n C 1 dX3_become_17 rfl rfl ?_
  refine px_geti C (j := 2) kx_4 rfl rfl iw_X3_become_X3 (by decide) lk_X3_become_25 rfl dX3_become_18 ?_
  obtain ⟨S3, eS3, h⟩ := el_lt h
  refine px_puti C (ty := .int) (j := 2) kx_6 rfl rfl iw_X3_become_X3 (by decide) lk_X3_become_25 rfl tyX3 tyX3_ok nmX3 rfl (by decide +kernel) rfl rfl dX3_become_21 ?_
  refine px_nmS eS3 ?_
  refine px_aload_n C 0 dX3_become_24 rfl rfl ?_
  refine px_aload_n C 1 dX3_become_25 rfl rfl ?_
  refine px_geti C (j := 3) kx_4 rfl rfl iw_X3_become_X3 (by decide) lk_X3_become_28 rfl dX3_become_26 ?_
  obtain ⟨S4, eS4, h⟩ := el_lt h
  refine px_puti C (ty := .int) (j := 3) kx_6 rfl rfl iw_X3_become_X3 (by decide) lk_X3_become_28 rfl tyX3 tyX3_ok nmX3 rfl (by decide +kernel) rfl rfl dX3_become_29 ?_
  refine px_nmS eS4 ?_
  refine px_aload_n C 1 dX3_become_32 rfl rfl ?_
  refine px_getr C (j := 4) kx_4 rfl rfl iw_X3_become_X3 (by decide) lk_X3_become_9 rfl dX3_become_33 ?_
  refine px_aload_n C 0 dX3_become_36 rfl rfl ?_
  refine px_getr C (j := 4) kx_6 rfl rfl iw_X3_become_X3 (by decide) lk_X3_become_9 rfl dX3_become_37 ?_
  obtain ⟨S6, hc40_4, h⟩ := el_b h
  refine px_callS0 C (c_X5_copy l tA tB ad fu S4 5 40 7 40 kx_5 kx_7 hc40_4) (va_cwS 2 C.2.2.2.2.1 gX3_become_X5_copy rfl rfl rfl (by decide +kernel) ⟨Nat.le_of_ble_eq_true rfl, Nat.le_of_ble_eq_true rfl⟩) ⟨Nat.zero_le _, Nat.zero_le _⟩ rfl rfl (Nat.le_of_ble_eq_true rfl) dX3_become_40 ?_
  exact px_vretE C dX3_become_43 h
set_option maxHeartbeats 4000000 in
set_option maxRecDepth 100000 in
theorem c_X6_upward (l : Launch) (tA tB : Nat) (ad : Nat → Nat) (S : St) (a0 : Int32) (a1 : Int32) {rv : Int32} (h : m_X6_upward a0 a1 = some rv) :
    XMet l yX6_upward wsX6_upward ({ frames := 0, cells := 0, slots := 0, locals := 0 }) KX (.object "RiverTolls$Boat") tA tB [.int a0, .int a1] ad S (some (.int rv)) S := by
  refine XMet.of (cc := cX6_upward) (maxL := 2) (ret := (some .int)) (own := RX6) (lv := [(0, .int a0), (1, .int a1)]) rfl (by decide) rfl (Nat.le_of_ble_eq_true rfl) rfl ?_
  intro p e s m args below meth c D A cI c1 F C
  rw [m_X6_upward] at h
  refine px_iload_n C 1 dX6_upward_0 rfl rfl ?_
  refine px_if_le C (tgt := 14) dX6_upward_1 (by decide) (fun c1_0 => ?_) (fun c1_0 => ?_)
  · replace h := el_t c1_0 h
    refine px_iconst C (v := (0 : Int32)) dX6_upward_14 (by decide) ?_
    exact px_iretE C dX6_upward_15 h
  · replace h := el_f c1_0 h
    refine px_iload_n C 0 dX6_upward_4 rfl rfl ?_
    refine px_iload_n C 1 dX6_upward_5 rfl rfl ?_
    refine px_iadd C dX6_upward_6 ?_
    refine px_iconst C (v := (1 : Int32)) dX6_upward_7 (by decide) ?_
    refine px_isub C dX6_upward_8 ?_
    refine px_iload_n C 1 dX6_upward_9 rfl rfl ?_
    obtain ⟨hz10, h⟩ := el_nz h
    refine px_idiv C dX6_upward_10 hz10 ?_
    refine px_goto C (tgt := 15) dX6_upward_11 (by decide) ?_
    exact px_iretE C dX6_upward_15 h
set_option maxHeartbeats 4000000 in
set_option maxRecDepth 100000 in
theorem c_X3_price (l : Launch) (tA tB : Nat) (ad : Nat → Nat) (S : St) (a1 : Int32) (a2 : Int32) (a3 : Int32) {rv : Int32} (h : m_X3_price S a1 a2 a3 = some rv) :
    XMet l yX3_price wsX3_price ({ frames := 2, cells := 0, slots := 0, locals := 43 }) KX (.object "RiverTolls$Boat") tA tB [.ref (ad 6), .int a1, .int a2, .int a3] ad S (some (.int rv)) S := by
  refine XMet.of (cc := cX3_price) (maxL := 4) (ret := (some .int)) (own := RX3) (lv := [(0, .ref (ad 6)), (1, .int a1), (2, .int a2), (3, .int a3)]) rfl (by decide) rfl (Nat.le_of_ble_eq_true rfl) rfl ?_
  intro p e s m args below meth c D A cI c1 F C
  rw [m_X3_price] at h
  refine px_iload_n C 2 dX3_price_0 rfl rfl ?_
  refine px_iload_n C 3 dX3_price_1 rfl rfl ?_
  refine px_aload_n C 0 dX3_price_2 rfl rfl ?_
  refine px_iload_n C 1 dX3_price_3 rfl rfl ?_
  refine px_iconst C (v := (1 : Int32)) dX3_price_4 (by decide) ?_
  obtain ⟨x2, hc5_0, h⟩ := el_b h
  refine px_callV1 C (c_X3_fact l tA tB ad S a1 (1 : Int32) hc5_0) (cwV 2 C.2.2.2.2.1 gX3_price_X3_fact rfl rfl rfl (by decide +kernel) ⟨Nat.le_of_ble_eq_true rfl, Nat.le_of_ble_eq_true rfl⟩) ⟨Nat.zero_le _, Nat.zero_le _⟩ kx_6 rfl rfl rfl (Nat.le_of_ble_eq_true rfl) dX3_price_5 ?_
  obtain ⟨x4, hc8_2, h⟩ := el_b h
  refine px_callS1 C (c_X6_upward l tA tB ad S a3 x2 hc8_2) (va_cwS 2 C.2.2.2.2.1 gX3_price_X6_upward rfl rfl rfl (by decide +kernel) ⟨Nat.le_of_ble_eq_true rfl, Nat.le_of_ble_eq_true rfl⟩) ⟨Nat.zero_le _, Nat.zero_le _⟩ rfl rfl (Nat.le_of_ble_eq_true rfl) dX3_price_8 ?_
  refine px_imul C dX3_price_11 ?_
  exact px_iretE C dX3_price_12 h
theorem lk_X4_leastFrom_37 : Cond.fieldLink RX4 37 "RiverTolls$Route" "least" "[I" ∈ wsX4_leastFrom := List.mem_of_getElem? (i := 1) rfl
theorem iw_X4_leastFrom_X4 : ∀ w ∈ u_ws RX4 TX4 14, w ∈ wsX4_leastFrom := fun _ h9 => (List.mem_cons_of_mem _ (List.mem_append_right _ h9))
set_option maxHeartbeats 4000000 in
set_option maxRecDepth 100000 in
theorem c_X4_leastFrom (l : Launch) (tA tB : Nat) (ad : Nat → Nat) (S : St) (a1 : Int32) (a2 : Int32) {rv : Int32} (h : m_X4_leastFrom S a1 a2 = some rv) :
    XMet l yX4_leastFrom wsX4_leastFrom ({ frames := 1, cells := 0, slots := 0, locals := 21 }) KX (.object "RiverTolls$Boat") tA tB [.ref (ad 51), .int a1, .int a2] ad S (some (.int rv)) S := by
  refine XMet.of (cc := cX4_leastFrom) (maxL := 3) (ret := (some .int)) (own := RX4) (lv := [(0, .ref (ad 51)), (1, .int a1), (2, .int a2)]) rfl (by decide) rfl (Nat.le_of_ble_eq_true rfl) rfl ?_
  intro p e s m args below meth c D A cI c1 F C
  rw [m_X4_leastFrom] at h
  refine px_aload_n C 0 dX4_leastFrom_0 rfl rfl ?_
  refine px_getr C (j := 13) kx_51 rfl rfl iw_X4_leastFrom_X4 (by decide) lk_X4_leastFrom_37 rfl dX4_leastFrom_1 ?_
  refine px_iconst C (v := (2 : Int32)) dX4_leastFrom_4 (by decide) ?_
  refine px_iload_n C 1 dX4_leastFrom_5 rfl rfl ?_
  refine px_imul C dX4_leastFrom_6 ?_
  refine px_iload_n C 2 dX4_leastFrom_7 rfl rfl ?_
  refine px_iadd C dX4_leastFrom_8 ?_
  obtain ⟨x2, hc9_0, h⟩ := el_b h
  refine px_callS1 C (c_X5_get l tA tB ad S 59 18 (((2 : Int32) * a1) + a2) kx_59 hc9_0) (va_cwS 2 C.2.2.2.2.1 gX4_leastFrom_X5_get rfl rfl rfl (by decide +kernel) ⟨Nat.le_of_ble_eq_true rfl, Nat.le_of_ble_eq_true rfl⟩) ⟨Nat.zero_le _, Nat.zero_le _⟩ rfl rfl (Nat.le_of_ble_eq_true rfl) dX4_leastFrom_9 ?_
  exact px_iretE C dX4_leastFrom_12 h
theorem lk_X4_costByLand_28 : Cond.fieldLink RX4 28 "RiverTolls$Route" "landPrices" "[I" ∈ wsX4_costByLand := List.mem_of_getElem? (i := 1) rfl
theorem iw_X4_costByLand_X4 : ∀ w ∈ u_ws RX4 TX4 14, w ∈ wsX4_costByLand := fun _ h9 => (List.mem_cons_of_mem _ (List.mem_append_right _ h9))
set_option maxHeartbeats 4000000 in
set_option maxRecDepth 100000 in
theorem c_X4_costByLand (l : Launch) (tA tB : Nat) (ad : Nat → Nat) (S : St) (a1 : Int32) {rv : Int32} (h : m_X4_costByLand S a1 = some rv) :
    XMet l yX4_costByLand wsX4_costByLand ({ frames := 2, cells := 0, slots := 0, locals := 43 }) KX (.object "RiverTolls$Boat") tA tB [.ref (ad 51), .int a1] ad S (some (.int rv)) S := by
  refine XMet.of (cc := cX4_costByLand) (maxL := 2) (ret := (some .int)) (own := RX4) (lv := [(0, .ref (ad 51)), (1, .int a1)]) rfl (by decide) rfl (Nat.le_of_ble_eq_true rfl) rfl ?_
  intro p e s m args below meth c D A cI c1 F C
  rw [m_X4_costByLand] at h
  refine px_aload_n C 0 dX4_costByLand_0 rfl rfl ?_
  refine px_getr C (j := 10) kx_51 rfl rfl iw_X4_costByLand_X4 (by decide) lk_X4_costByLand_28 rfl dX4_costByLand_1 ?_
  refine px_iload_n C 1 dX4_costByLand_4 rfl rfl ?_
  obtain ⟨x2, hc5_0, h⟩ := el_b h
  refine px_callS1 C (c_X5_get l tA tB ad S 56 8 a1 kx_56 hc5_0) (va_cwS 2 C.2.2.2.2.1 gX4_costByLand_X5_get rfl rfl rfl (by decide +kernel) ⟨Nat.le_of_ble_eq_true rfl, Nat.le_of_ble_eq_true rfl⟩) ⟨Nat.zero_le _, Nat.zero_le _⟩ rfl rfl (Nat.le_of_ble_eq_true rfl) dX4_costByLand_5 ?_
  refine px_aload_n C 0 dX4_costByLand_8 rfl rfl ?_
  refine px_iload_n C 1 dX4_costByLand_9 rfl rfl ?_
  refine px_iconst C (v := (1 : Int32)) dX4_costByLand_10 (by decide) ?_
  refine px_iadd C dX4_costByLand_11 ?_
  refine px_iconst C (v := (0 : Int32)) dX4_costByLand_12 (by decide) ?_
  obtain ⟨x4, hc13_2, h⟩ := el_b h
  refine px_callV1 C (c_X4_leastFrom l tA tB ad S (a1 + (1 : Int32)) (0 : Int32) hc13_2) (cwV 2 C.2.2.2.2.1 gX4_costByLand_X4_leastFrom rfl rfl rfl (by decide +kernel) ⟨Nat.le_of_ble_eq_true rfl, Nat.le_of_ble_eq_true rfl⟩) ⟨Nat.zero_le _, Nat.zero_le _⟩ kx_51 rfl rfl rfl (Nat.le_of_ble_eq_true rfl) dX4_costByLand_13 ?_
  refine px_iadd C dX4_costByLand_16 ?_
  exact px_iretE C dX4_costByLand_17 h
theorem lk_X4_due_25 : Cond.fieldLink RX4 25 "RiverTolls$Route" "prices" "[I" ∈ wsX4_due := List.mem_of_getElem? (i := 1) rfl
theorem iw_X4_due_X4 : ∀ w ∈ u_ws RX4 TX4 14, w ∈ wsX4_due := fun _ h9 => (List.mem_cons_of_mem _ (List.mem_append_right _ h9))
set_option maxHeartbeats 4000000 in
set_option maxRecDepth 100000 in
theorem c_X4_due (l : Launch) (tA tB : Nat) (ad : Nat → Nat) (S : St) (a1 : Int32) (a2 : Int32) {rv : Int32} (h : m_X4_due S a1 a2 = some rv) :
    XMet l yX4_due wsX4_due ({ frames := 1, cells := 0, slots := 0, locals := 21 }) KX (.object "RiverTolls$Boat") tA tB [.ref (ad 51), .int a1, .int a2] ad S (some (.int rv)) S := by
  refine XMet.of (cc := cX4_due) (maxL := 3) (ret := (some .int)) (own := RX4) (lv := [(0, .ref (ad 51)), (1, .int a1), (2, .int a2)]) rfl (by decide) rfl (Nat.le_of_ble_eq_true rfl) rfl ?_
  intro p e s m args below meth c D A cI c1 F C
  rw [m_X4_due] at h
  refine px_iload_n C 2 dX4_due_0 rfl rfl ?_
  refine px_iconst C (v := (1 : Int32)) dX4_due_1 (by decide) ?_
  refine px_icmp_ne C (tgt := 9) dX4_due_2 (by decide) (fun c2_0 => ?_) (fun c2_0 => ?_)
  · replace h := el_t c2_0 h
    refine px_aload_n C 0 dX4_due_9 rfl rfl ?_
    refine px_getr C (j := 9) kx_51 rfl rfl iw_X4_due_X4 (by decide) lk_X4_due_25 rfl dX4_due_10 ?_
    refine px_iload_n C 1 dX4_due_13 rfl rfl ?_
    obtain ⟨x3, hc14_1, h⟩ := el_b h
    refine px_callS1 C (c_X5_get l tA tB ad S 55 8 a1 kx_55 hc14_1) (va_cwS 2 C.2.2.2.2.1 gX4_due_X5_get rfl rfl rfl (by decide +kernel) ⟨Nat.le_of_ble_eq_true rfl, Nat.le_of_ble_eq_true rfl⟩) ⟨Nat.zero_le _, Nat.zero_le _⟩ rfl rfl (Nat.le_of_ble_eq_true rfl) dX4_due_14 ?_
    exact px_iretE C dX4_due_17 h
  · replace h := el_fn c2_0 h
    refine px_iconst C (v := (0 : Int32)) dX4_due_5 (by decide) ?_
    refine px_goto C (tgt := 17) dX4_due_6 (by decide) ?_
    exact px_iretE C dX4_due_17 h
theorem lk_X4_freedBehind_31 : Cond.fieldLink RX4 31 "RiverTolls$Route" "sameLords" "[I" ∈ wsX4_freedBehind := List.mem_of_getElem? (i := 1) rfl
theorem iw_X4_freedBehind_X4 : ∀ w ∈ u_ws RX4 TX4 14, w ∈ wsX4_freedBehind := fun _ h9 => (List.mem_cons_of_mem _ (List.mem_append_right _ h9))
set_option maxHeartbeats 4000000 in
set_option maxRecDepth 100000 in
theorem c_X4_freedBehind (l : Launch) (tA tB : Nat) (ad : Nat → Nat) (S : St) (a1 : Int32) (a2 : Int32) {rv : Int32} (h : m_X4_freedBehind S a1 a2 = some rv) :
    XMet l yX4_freedBehind wsX4_freedBehind ({ frames := 1, cells := 0, slots := 0, locals := 21 }) KX (.object "RiverTolls$Boat") tA tB [.ref (ad 51), .int a1, .int a2] ad S (some (.int rv)) S := by
  refine XMet.of (cc := cX4_freedBehind) (maxL := 3) (ret := (some .int)) (own := RX4) (lv := [(0, .ref (ad 51)), (1, .int a1), (2, .int a2)]) rfl (by decide) rfl (Nat.le_of_ble_eq_true rfl) rfl ?_
  intro p e s m args below meth c D A cI c1 F C
  rw [m_X4_freedBehind] at h
  refine px_iload_n C 2 dX4_freedBehind_0 rfl rfl ?_
  refine px_if_le C (tgt := 15) dX4_freedBehind_1 (by decide) (fun c1_0 => ?_) (fun c1_0 => ?_)
  · replace h := el_t c1_0 h
    refine px_iconst C (v := (0 : Int32)) dX4_freedBehind_15 (by decide) ?_
    exact px_iretE C dX4_freedBehind_16 h
  · replace h := el_f c1_0 h
    refine px_aload_n C 0 dX4_freedBehind_4 rfl rfl ?_
    refine px_getr C (j := 11) kx_51 rfl rfl iw_X4_freedBehind_X4 (by decide) lk_X4_freedBehind_31 rfl dX4_freedBehind_5 ?_
    refine px_iload_n C 1 dX4_freedBehind_8 rfl rfl ?_
    obtain ⟨x3, hc9_1, h⟩ := el_b h
    refine px_callS1 C (c_X5_get l tA tB ad S 57 8 a1 kx_57 hc9_1) (va_cwS 2 C.2.2.2.2.1 gX4_freedBehind_X5_get rfl rfl rfl (by decide +kernel) ⟨Nat.le_of_ble_eq_true rfl, Nat.le_of_ble_eq_true rfl⟩) ⟨Nat.zero_le _, Nat.zero_le _⟩ rfl rfl (Nat.le_of_ble_eq_true rfl) dX4_freedBehind_9 ?_
    refine px_goto C (tgt := 16) dX4_freedBehind_12 (by decide) ?_
    exact px_iretE C dX4_freedBehind_16 h
set_option maxHeartbeats 4000000 in
set_option maxRecDepth 100000 in
theorem c_X4_costByPay (l : Launch) (tA tB : Nat) (ad : Nat → Nat) (S : St) (a1 : Int32) (a2 : Int32) {rv : Int32} (h : m_X4_costByPay S a1 a2 = some rv) :
    XMet l yX4_costByPay wsX4_costByPay ({ frames := 2, cells := 0, slots := 0, locals := 43 }) KX (.object "RiverTolls$Boat") tA tB [.ref (ad 51), .int a1, .int a2] ad S (some (.int rv)) S := by
  refine XMet.of (cc := cX4_costByPay) (maxL := 4) (ret := (some .int)) (own := RX4) (lv := [(0, .ref (ad 51)), (1, .int a1), (2, .int a2)]) rfl (by decide) rfl (Nat.le_of_ble_eq_true rfl) rfl ?_
  intro p e s m args below meth c D A cI c1 F C
  rw [m_X4_costByPay] at h
  refine px_aload_n C 0 dX4_costByPay_0 rfl rfl ?_
  refine px_iload_n C 1 dX4_costByPay_1 rfl rfl ?_
  refine px_iload_n C 2 dX4_costByPay_2 rfl rfl ?_
  obtain ⟨x2, hc3_0, h⟩ := el_b h
  refine px_callV1 C (c_X4_due l tA tB ad S a1 a2 hc3_0) (cwV 2 C.2.2.2.2.1 gX4_costByPay_X4_due rfl rfl rfl (by decide +kernel) ⟨Nat.le_of_ble_eq_true rfl, Nat.le_of_ble_eq_true rfl⟩) ⟨Nat.zero_le _, Nat.zero_le _⟩ kx_51 rfl rfl rfl (Nat.le_of_ble_eq_true rfl) dX4_costByPay_3 ?_
  refine px_istore_n C [(3, .int x2), (0, .ref (ad 51)), (1, .int a1), (2, .int a2)] dX4_costByPay_6 rfl (by decide) rfl ?_
  refine px_iload_n C 0 dX4_costByPay_7 rfl rfl ?_
  refine px_aload_n C 1 dX4_costByPay_8 rfl rfl ?_
  refine px_iload_n C 2 dX4_costByPay_9 rfl rfl ?_
  refine px_iconst C (v := (1 : Int32)) dX4_costByPay_10 (by decide) ?_
  refine px_iadd C dX4_costByPay_11 ?_
  refine px_aload_n C 1 dX4_costByPay_12 rfl rfl ?_
  refine px_iload_n C 2 dX4_costByPay_13 rfl rfl ?_
  refine px_iload_n C 0 dX4_costByPay_14 rfl rfl ?_
  obtain ⟨x4, hc15_2, h⟩ := el_b h
  refine px_callV1 C (c_X4_freedBehind l tA tB ad S a1 x2 hc15_2) (cwV 2 C.2.2.2.2.1 gX4_costByPay_X4_freedBehind rfl rfl rfl (by decide +kernel) ⟨Nat.le_of_ble_eq_true rfl, Nat.le_of_ble_eq_true rfl⟩) ⟨Nat.zero_le _, Nat.zero_le _⟩ kx_51 rfl rfl rfl (Nat.le_of_ble_eq_true rfl) dX4_costByPay_15 ?_
  obtain ⟨x6, hc18_4, h⟩ := el_b h
  refine px_callV1 C (c_X4_leastFrom l tA tB ad S (a1 + (1 : Int32)) x4 hc18_4) (cwV 2 C.2.2.2.2.1 gX4_costByPay_X4_leastFrom rfl rfl rfl (by decide +kernel) ⟨Nat.le_of_ble_eq_true rfl, Nat.le_of_ble_eq_true rfl⟩) ⟨Nat.zero_le _, Nat.zero_le _⟩ kx_51 rfl rfl rfl (Nat.le_of_ble_eq_true rfl) dX4_costByPay_18 ?_
  refine px_iadd C dX4_costByPay_21 ?_
  exact px_iretE C dX4_costByPay_22 h
theorem lk_X4_load_15 : Cond.fieldLink RX4 15 "RiverTolls$Route" "tolls" "[I" ∈ wsX4_load := List.mem_of_getElem? (i := 10) rfl
theorem lk_X4_load_40 : Cond.fieldLink RX4 40 "RiverTolls$Boat" "at" "I" ∈ wsX4_load := List.mem_of_getElem? (i := 1) rfl
theorem lk_X4_load_46 : Cond.fieldLink RX4 46 "RiverTolls$Route" "at" "I" ∈ wsX4_load := List.mem_of_getElem? (i := 2) rfl
theorem lk_X4_load_47 : Cond.fieldLink RX4 47 "RiverTolls$Boat" "barrels" "I" ∈ wsX4_load := List.mem_of_getElem? (i := 3) rfl
theorem lk_X4_load_50 : Cond.fieldLink RX4 50 "RiverTolls$Route" "barrels" "I" ∈ wsX4_load := List.mem_of_getElem? (i := 4) rfl
theorem lk_X4_load_51 : Cond.fieldLink RX4 51 "RiverTolls$Boat" "letter" "I" ∈ wsX4_load := List.mem_of_getElem? (i := 5) rfl
theorem lk_X4_load_54 : Cond.fieldLink RX4 54 "RiverTolls$Route" "letter" "I" ∈ wsX4_load := List.mem_of_getElem? (i := 6) rfl
theorem lk_X4_load_55 : Cond.fieldLink RX4 55 "RiverTolls$Boat" "broken" "I" ∈ wsX4_load := List.mem_of_getElem? (i := 7) rfl
theorem lk_X4_load_58 : Cond.fieldLink RX4 58 "RiverTolls$Route" "broken" "I" ∈ wsX4_load := List.mem_of_getElem? (i := 8) rfl
theorem lk_X4_load_59 : Cond.fieldLink RX4 59 "RiverTolls$Boat" "tolls" "[I" ∈ wsX4_load := List.mem_of_getElem? (i := 9) rfl
theorem iw_X4_load_X0 : ∀ w ∈ u_ws RX0 TX0 8, w ∈ wsX4_load := fun _ h9 => (List.mem_cons_of_mem _ (List.mem_append_left _ (List.mem_append_right _ h9)))
theorem iw_X4_load_X4 : ∀ w ∈ u_ws RX4 TX4 14, w ∈ wsX4_load := fun _ h9 => (List.mem_cons_of_mem _ (List.mem_append_right _ h9))
set_option maxHeartbeats 4000000 in
set_option maxRecDepth 100000 in
theorem c_X4_load (l : Launch) (tA tB : Nat) (ad : Nat → Nat) (fu : Nat) (S : St) {S' : St} (h : m_X4_load fu S = some S') :
    XMet l yX4_load wsX4_load ({ frames := 1, cells := 0, slots := 0, locals := 22 }) KX (.object "RiverTolls$Boat") tA tB [.ref (ad 51), .ref (ad 8)] ad S none S' := by
  refine XMet.of (cc := cX4_load) (maxL := 2) (ret := none) (own := RX4) (lv := [(0, .ref (ad 51)), (1, .ref (ad 8))]) rfl (by decide) rfl (Nat.le_of_ble_eq_true rfl) rfl ?_
  intro p e s m args below meth c D A cI c1 F C
  rw [m_X4_load] at h
  refine px_aload_n C 0 dX4_load_0 rfl rfl ?_
  refine px_aload_n C 1 dX4_load_1 rfl rfl ?_
  refine px_geti C (j := 0) kx_8 rfl rfl iw_X4_load_X0 (by decide) lk_X4_load_40 rfl dX4_load_2 ?_
  obtain ⟨S1, eS1, h⟩ := el_lt h
  refine px_puti C (ty := .int) (j := 7) kx_51 rfl rfl iw_X4_load_X4 (by decide) lk_X4_load_46 rfl tyX4 tyX4_ok nmX4 rfl (by decide +kernel) rfl rfl dX4_load_5 ?_
  refine px_nmS eS1 ?_
  refine px_aload_n C 0 dX4_load_8 rfl rfl ?_
  refine px_aload_n C 1 dX4_load_9 rfl rfl ?_
  refine px_geti C (j := 1) kx_8 rfl rfl iw_X4_load_X0 (by decide) lk_X4_load_47 rfl dX4_load_10 ?_
  obtain ⟨S2, eS2, h⟩ := el_lt h
  refine px_puti C (ty := .int) (j := 0) kx_51 rfl rfl iw_X4_load_X4 (by decide) lk_X4_load_50 rfl tyX4 tyX4_ok nmX4 rfl (by decide +kernel) rfl rfl dX4_load_13 ?_
  refine px_nmS eS2 ?_
  refine px_aload_n C 0 dX4_load_16 rfl rfl ?_
  refine px_aload_n C 1 dX4_load_17 rfl rfl ?_
  refine px_geti C (j := 3) kx_8 rfl rfl iw_X4_load_X0 (by decide) lk_X4_load_51 rfl dX4_load_18 ?_
  obtain ⟨S3, eS3, h⟩ := el_lt h
  refine px_puti C (ty := .int) (j := 8) kx_51 rfl rfl iw_X4_load_X4 (by decide) lk_X4_load_54 rfl tyX4 tyX4_ok nmX4 rfl (by decide +kernel) rfl rfl dX4_load_21 ?_
  refine px_nmS eS3 ?_
  refine px_aload_n C 0 dX4_load_24 rfl rfl ?_
  refine px_aload_n C 1 dX4_load_25 rfl rfl ?_
  refine px_geti C (j := 5) kx_8 rfl rfl iw_X4_load_X0 (by decide) lk_X4_load_55 rfl dX4_load_26 ?_
  obtain ⟨S4, eS4, h⟩ := el_lt h
  refine px_puti C (ty := .int) (j := 1) kx_51 rfl rfl iw_X4_load_X4 (by decide) lk_X4_load_58 rfl tyX4 tyX4_ok nmX4 rfl (by decide +kernel) rfl rfl dX4_load_29 ?_
  refine px_nmS eS4 ?_
  refine px_aload_n C 1 dX4_load_32 rfl rfl ?_
  refine px_getr C (j := 6) kx_8 rfl rfl iw_X4_load_X0 (by decide) lk_X4_load_59 rfl dX4_load_33 ?_
  refine px_aload_n C 0 dX4_load_36 rfl rfl ?_
  refine px_getr C (j := 3) kx_51 rfl rfl iw_X4_load_X4 (by decide) lk_X4_load_15 rfl dX4_load_37 ?_
  obtain ⟨S6, hc40_4, h⟩ := el_b h
  refine px_callS0 C (c_X5_copy l tA tB ad fu S4 9 8 52 8 kx_9 kx_52 hc40_4) (va_cwS 2 C.2.2.2.2.1 gX4_load_X5_copy rfl rfl rfl (by decide +kernel) ⟨Nat.le_of_ble_eq_true rfl, Nat.le_of_ble_eq_true rfl⟩) ⟨Nat.zero_le _, Nat.zero_le _⟩ rfl rfl (Nat.le_of_ble_eq_true rfl) dX4_load_40 ?_
  exact px_vretE C dX4_load_43 h
theorem lk_X4_priceAll_9 : Cond.fieldLink RX4 9 "RiverTolls$Route" "told" "LRiverTolls$River;" ∈ wsX4_priceAll := List.mem_of_getElem? (i := 2) rfl
theorem lk_X4_priceAll_15 : Cond.fieldLink RX4 15 "RiverTolls$Route" "tolls" "[I" ∈ wsX4_priceAll := List.mem_of_getElem? (i := 5) rfl
theorem lk_X4_priceAll_25 : Cond.fieldLink RX4 25 "RiverTolls$Route" "prices" "[I" ∈ wsX4_priceAll := List.mem_of_getElem? (i := 7) rfl
theorem lk_X4_priceAll_28 : Cond.fieldLink RX4 28 "RiverTolls$Route" "landPrices" "[I" ∈ wsX4_priceAll := List.mem_of_getElem? (i := 8) rfl
theorem lk_X4_priceAll_31 : Cond.fieldLink RX4 31 "RiverTolls$Route" "sameLords" "[I" ∈ wsX4_priceAll := List.mem_of_getElem? (i := 9) rfl
theorem lk_X4_priceAll_46 : Cond.fieldLink RX4 46 "RiverTolls$Route" "at" "I" ∈ wsX4_priceAll := List.mem_of_getElem? (i := 1) rfl
theorem lk_X4_priceAll_50 : Cond.fieldLink RX4 50 "RiverTolls$Route" "barrels" "I" ∈ wsX4_priceAll := List.mem_of_getElem? (i := 6) rfl
theorem lk_X4_priceAll_58 : Cond.fieldLink RX4 58 "RiverTolls$Route" "broken" "I" ∈ wsX4_priceAll := List.mem_of_getElem? (i := 4) rfl
theorem lk_X4_priceAll_79 : Cond.fieldLink RX4 79 "RiverTolls$River" "rocks" "I" ∈ wsX4_priceAll := List.mem_of_getElem? (i := 3) rfl
theorem iw_X4_priceAll_X3 : ∀ w ∈ u_ws RX3 TX3 5, w ∈ wsX4_priceAll := fun _ h9 => (List.mem_cons_of_mem _ (List.mem_append_right _ h9))
theorem iw_X4_priceAll_X4 : ∀ w ∈ u_ws RX4 TX4 14, w ∈ wsX4_priceAll := fun _ h9 => (List.mem_cons_of_mem _ (List.mem_append_left _ (List.mem_append_right _ h9)))
set_option maxHeartbeats 4000000 in
set_option maxRecDepth 100000 in
theorem c_X4_priceAll (l : Launch) (tA tB : Nat) (ad : Nat → Nat) (fu : Nat) (S : St) {S' : St} (h : m_X4_priceAll fu S = some S') :
    XMet l yX4_priceAll wsX4_priceAll ({ frames := 3, cells := 0, slots := 0, locals := 66 }) KX (.object "RiverTolls$Boat") tA tB [.ref (ad 51)] ad S none S' := by
  refine XMet.of (cc := cX4_priceAll) (maxL := 5) (ret := none) (own := RX4) (lv := [(0, .ref (ad 51))]) rfl (by decide) rfl (Nat.le_of_ble_eq_true rfl) rfl ?_
  intro p e s m args below meth c D A cI c1 F C
  rw [m_X4_priceAll] at h
  refine px_aload_n C 0 dX4_priceAll_0 rfl rfl ?_
  refine px_geti C (j := 7) kx_51 rfl rfl iw_X4_priceAll_X4 (by decide) lk_X4_priceAll_46 rfl dX4_priceAll_1 ?_
  refine px_istore_n C [(1, .int (S.1 51 7)), (0, .ref (ad 51))] dX4_priceAll_4 rfl (by decide) rfl ?_
  have hx0 : ∀  (x3 : Int32) (S4 : St), m_X4_priceAll_r0 x3 S4 = some S' → PW p l e { frames := 3, cells := 0, slots := 0, locals := 66 } s m args below meth c (MQ below (QX KX A D cI c1 F ad none S') args s 0 0 A) D A cI c1 F KX ad 5 0 0 S4 [(0, .ref (ad 51)), (1, .int x3)] 161 [] := by
    intro x3 S4 h
    rw [m_X4_priceAll_r0] at h
    exact px_vretE C dX4_priceAll_161 h
  have hl0 : ∀ (n_0 : Nat) (x1 : Int32) (S2 : St), m_X4_priceAll_L0 m_X4_priceAll_r0 n_0 x1 S2 = some S' → PW p l e { frames := 3, cells := 0, slots := 0, locals := 66 } s m args below meth c (MQ below (QX KX A D cI c1 F ad none S') args s 0 0 A) D A cI c1 F KX ad 5 0 0 S2 [(0, .ref (ad 51)), (1, .int x1)] 5 [] := by
    intro n_0
    induction n_0 with
    | zero =>
      intro x1 S2 h
      rw [m_X4_priceAll_L0_z] at h
      cases h
    | succ n_0 ih0 =>
      intro x1 S2 h
      rw [m_X4_priceAll_L0_s] at h
      refine px_iload_n C 1 dX4_priceAll_5 rfl rfl ?_
      refine px_aload_n C 0 dX4_priceAll_6 rfl rfl ?_
      refine px_getr C (j := 6) kx_51 rfl rfl iw_X4_priceAll_X4 (by decide) lk_X4_priceAll_9 rfl dX4_priceAll_7 ?_
      refine px_geti C (j := 0) kx_6 rfl rfl iw_X4_priceAll_X3 (by decide) lk_X4_priceAll_79 rfl dX4_priceAll_10 ?_
      refine px_icmp_ge C (tgt := 161) dX4_priceAll_13 (by decide) (fun c13_4 => ?_) (fun c13_4 => ?_)
      · replace h := el_t c13_4 h
        exact (hx0 _ _ h)
      · replace h := el_f c13_4 h
        refine px_aload_n C 0 dX4_priceAll_16 rfl rfl ?_
        refine px_geti C (j := 1) kx_51 rfl rfl iw_X4_priceAll_X4 (by decide) lk_X4_priceAll_58 rfl dX4_priceAll_17 ?_
        refine px_iload_n C 1 dX4_priceAll_20 rfl rfl ?_
        refine px_ishr C dX4_priceAll_21 ?_
        refine px_iconst C (v := (1 : Int32)) dX4_priceAll_22 (by decide) ?_
        refine px_iand C dX4_priceAll_23 ?_
        refine px_iconst C (v := (1 : Int32)) dX4_priceAll_24 (by decide) ?_
        obtain ⟨x7, hr25_37, h⟩ := el_b h
        have hj25_7 : PW p l e { frames := 3, cells := 0, slots := 0, locals := 66 } s m args below meth c (MQ below (QX KX A D cI c1 F ad none S') args s 0 0 A) D A cI c1 F KX ad 5 0 0 S2 [(0, .ref (ad 51)), (1, .int x1)] 33 [.int x7] := by
          refine px_istore_n C [(2, .int x7), (0, .ref (ad 51)), (1, .int x1)] dX4_priceAll_33 rfl (by decide) rfl ?_
          refine px_iload_n C 0 dX4_priceAll_34 rfl rfl ?_
          obtain ⟨x10, hr35_36, h⟩ := el_b h
          have hj35_10 : PW p l e { frames := 3, cells := 0, slots := 0, locals := 66 } s m args below meth c (MQ below (QX KX A D cI c1 F ad none S') args s 0 0 A) D A cI c1 F KX ad 5 0 0 S2 [(0, .ref (ad 51)), (1, .int x1), (2, .int x7)] 62 [.int x10] := by
            refine px_istore_n C [(3, .int x10), (0, .ref (ad 51)), (1, .int x1), (2, .int x7)] dX4_priceAll_62 rfl (by decide) rfl ?_
            refine px_aload_n C 1 dX4_priceAll_63 rfl rfl ?_
            refine px_getr C (j := 9) kx_51 rfl rfl iw_X4_priceAll_X4 (by decide) lk_X4_priceAll_25 rfl dX4_priceAll_64 ?_
            refine px_iload_n C 2 dX4_priceAll_67 rfl rfl ?_
            refine px_iload_n C 0 dX4_priceAll_68 rfl rfl ?_
            obtain ⟨S13, hc69_11, h⟩ := el_b h
            refine px_callS0 C (c_X5_put l tA tB ad S2 55 8 x1 x10 kx_55 hc69_11) (va_cwS 3 C.2.2.2.2.1 gX4_priceAll_X5_put rfl rfl rfl (by decide +kernel) ⟨Nat.le_of_ble_eq_true rfl, Nat.le_of_ble_eq_true rfl⟩) ⟨Nat.zero_le _, Nat.zero_le _⟩ rfl rfl (Nat.le_of_ble_eq_true rfl) dX4_priceAll_69 ?_
            refine px_aload_n C 1 dX4_priceAll_72 rfl rfl ?_
            refine px_getr C (j := 10) kx_51 rfl rfl iw_X4_priceAll_X4 (by decide) lk_X4_priceAll_28 rfl dX4_priceAll_73 ?_
            refine px_iload_n C 2 dX4_priceAll_76 rfl rfl ?_
            refine px_aload_n C 1 dX4_priceAll_77 rfl rfl ?_
            refine px_getr C (j := 6) kx_51 rfl rfl iw_X4_priceAll_X4 (by decide) lk_X4_priceAll_9 rfl dX4_priceAll_78 ?_
            refine px_iload_n C 2 dX4_priceAll_81 rfl rfl ?_
            refine px_iconst C (v := (4 : Int32)) dX4_priceAll_82 (by decide) ?_
            obtain ⟨x15, hc83_13, h⟩ := el_b h
            refine px_callV1 C (c_X3_fact l tA tB ad S13 x1 (4 : Int32) hc83_13) (cwV 2 C.2.2.2.2.1 gX4_priceAll_X3_fact rfl rfl rfl (by decide +kernel) ⟨Nat.le_of_ble_eq_true rfl, Nat.le_of_ble_eq_true rfl⟩) ⟨Nat.zero_le _, Nat.zero_le _⟩ kx_6 rfl rfl rfl (Nat.le_of_ble_eq_true rfl) dX4_priceAll_83 ?_
            refine px_aload_n C 1 dX4_priceAll_86 rfl rfl ?_
            refine px_geti C (j := 0) kx_51 rfl rfl iw_X4_priceAll_X4 (by decide) lk_X4_priceAll_50 rfl dX4_priceAll_87 ?_
            refine px_imul C dX4_priceAll_90 ?_
            obtain ⟨S17, hc91_15, h⟩ := el_b h
            refine px_callS0 C (c_X5_put l tA tB ad S13 56 8 x1 (x15 * (S13.1 51 0)) kx_56 hc91_15) (va_cwS 3 C.2.2.2.2.1 gX4_priceAll_X5_put rfl rfl rfl (by decide +kernel) ⟨Nat.le_of_ble_eq_true rfl, Nat.le_of_ble_eq_true rfl⟩) ⟨Nat.zero_le _, Nat.zero_le _⟩ rfl rfl (Nat.le_of_ble_eq_true rfl) dX4_priceAll_91 ?_
            refine px_iload_n C 2 dX4_priceAll_94 rfl rfl ?_
            refine px_iconst C (v := (1 : Int32)) dX4_priceAll_95 (by decide) ?_
            refine px_iadd C dX4_priceAll_96 ?_
            refine px_aload_n C 1 dX4_priceAll_97 rfl rfl ?_
            refine px_getr C (j := 6) kx_51 rfl rfl iw_X4_priceAll_X4 (by decide) lk_X4_priceAll_9 rfl dX4_priceAll_98 ?_
            refine px_geti C (j := 0) kx_6 rfl rfl iw_X4_priceAll_X3 (by decide) lk_X4_priceAll_79 rfl dX4_priceAll_101 ?_
            obtain ⟨x19, hr104_31, h⟩ := el_b h
            have hj104_19 : PW p l e { frames := 3, cells := 0, slots := 0, locals := 66 } s m args below meth c (MQ below (QX KX A D cI c1 F ad none S') args s 0 0 A) D A cI c1 F KX ad 5 0 0 S17 [(0, .ref (ad 51)), (1, .int x1), (2, .int x7), (3, .int x10)] 135 [.int x19] := by
              refine px_istore C [(4, .int x19), (0, .ref (ad 51)), (1, .int x1), (2, .int x7), (3, .int x10)] dX4_priceAll_135 (by decide) rfl ?_
              refine px_aload_n C 1 dX4_priceAll_137 rfl rfl ?_
              refine px_getr C (j := 11) kx_51 rfl rfl iw_X4_priceAll_X4 (by decide) lk_X4_priceAll_31 rfl dX4_priceAll_138 ?_
              refine px_iload_n C 2 dX4_priceAll_141 rfl rfl ?_
              refine px_iload C 0 dX4_priceAll_142 rfl ?_
              obtain ⟨x22, hr144_25, h⟩ := el_b h
              have hj144_22 : PW p l e { frames := 3, cells := 0, slots := 0, locals := 66 } s m args below meth c (MQ below (QX KX A D cI c1 F ad none S') args s 0 0 A) D A cI c1 F KX ad 5 0 0 S17 [(0, .ref (ad 51)), (1, .int x1), (2, .int x7), (3, .int x10), (4, .int x19)] 152 [.int x22, .int x1, .ref (ad 57)] := by
                obtain ⟨S25, hc152_23, h⟩ := el_b h
                refine px_callS0 C (c_X5_put l tA tB ad S17 57 8 x1 x22 kx_57 hc152_23) (va_cwS 3 C.2.2.2.2.1 gX4_priceAll_X5_put rfl rfl rfl (by decide +kernel) ⟨Nat.le_of_ble_eq_true rfl, Nat.le_of_ble_eq_true rfl⟩) ⟨Nat.zero_le _, Nat.zero_le _⟩ rfl rfl (Nat.le_of_ble_eq_true rfl) dX4_priceAll_152 ?_
                refine px_iinc C 1 [(1, .int (x1 + (1 : Int32))), (0, .ref (ad 51)), (2, .int x7), (3, .int x10), (4, .int x19)] dX4_priceAll_155 rfl rfl (by decide) rfl ?_
                refine px_goto C (tgt := 5) dX4_priceAll_158 (by decide) ?_
                exact px_sub [1, 0] rfl (ih0 _ _ h)
              clear h
              have h := hr144_25
              clear hr144_25
              refine px_if_eq C (tgt := 151) dX4_priceAll_144 (by decide) (fun c144_20 => ?_) (fun c144_20 => ?_)
              · replace h := el_t c144_20 h
                refine px_iconst C (v := (0 : Int32)) dX4_priceAll_151 (by decide) ?_
                cases h
                exact px_sub [1, 2, 3, 4, 0] rfl hj144_22
              · replace h := el_f c144_20 h
                refine px_iconst C (v := (1 : Int32)) dX4_priceAll_147 (by decide) ?_
                refine px_goto C (tgt := 152) dX4_priceAll_148 (by decide) ?_
                cases h
                exact px_sub [1, 2, 3, 4, 0] rfl hj144_22
            clear h
            have h := hr104_31
            clear hr104_31
            refine px_icmp_ge C (tgt := 134) dX4_priceAll_104 (by decide) (fun c104_17 => ?_) (fun c104_17 => ?_)
            · replace h := el_t c104_17 h
              refine px_iconst C (v := (0 : Int32)) dX4_priceAll_134 (by decide) ?_
              cases h
              exact px_sub [1, 2, 3, 0] rfl hj104_19
            · replace h := el_f c104_17 h
              refine px_aload_n C 1 dX4_priceAll_107 rfl rfl ?_
              refine px_getr C (j := 6) kx_51 rfl rfl iw_X4_priceAll_X4 (by decide) lk_X4_priceAll_9 rfl dX4_priceAll_108 ?_
              refine px_iload_n C 2 dX4_priceAll_111 rfl rfl ?_
              refine px_iconst C (v := (2 : Int32)) dX4_priceAll_112 (by decide) ?_
              obtain ⟨x28, hc113_26, h⟩ := el_b h
              refine px_callV1 C (c_X3_fact l tA tB ad S17 x1 (2 : Int32) hc113_26) (cwV 2 C.2.2.2.2.1 gX4_priceAll_X3_fact rfl rfl rfl (by decide +kernel) ⟨Nat.le_of_ble_eq_true rfl, Nat.le_of_ble_eq_true rfl⟩) ⟨Nat.zero_le _, Nat.zero_le _⟩ kx_6 rfl rfl rfl (Nat.le_of_ble_eq_true rfl) dX4_priceAll_113 ?_
              refine px_aload_n C 1 dX4_priceAll_116 rfl rfl ?_
              refine px_getr C (j := 6) kx_51 rfl rfl iw_X4_priceAll_X4 (by decide) lk_X4_priceAll_9 rfl dX4_priceAll_117 ?_
              refine px_iload_n C 2 dX4_priceAll_120 rfl rfl ?_
              refine px_iconst C (v := (1 : Int32)) dX4_priceAll_121 (by decide) ?_
              refine px_iadd C dX4_priceAll_122 ?_
              refine px_iconst C (v := (2 : Int32)) dX4_priceAll_123 (by decide) ?_
              obtain ⟨x30, hc124_28, h⟩ := el_b h
              refine px_callV1 C (c_X3_fact l tA tB ad S17 (x1 + (1 : Int32)) (2 : Int32) hc124_28) (cwV 2 C.2.2.2.2.1 gX4_priceAll_X3_fact rfl rfl rfl (by decide +kernel) ⟨Nat.le_of_ble_eq_true rfl, Nat.le_of_ble_eq_true rfl⟩) ⟨Nat.zero_le _, Nat.zero_le _⟩ kx_6 rfl rfl rfl (Nat.le_of_ble_eq_true rfl) dX4_priceAll_124 ?_
              refine px_icmp_ne C (tgt := 134) dX4_priceAll_127 (by decide) (fun c127_30 => ?_) (fun c127_30 => ?_)
              · replace h := el_t c127_30 h
                refine px_iconst C (v := (0 : Int32)) dX4_priceAll_134 (by decide) ?_
                cases h
                exact px_sub [1, 2, 3, 0] rfl hj104_19
              · replace h := el_fn c127_30 h
                refine px_iconst C (v := (1 : Int32)) dX4_priceAll_130 (by decide) ?_
                refine px_goto C (tgt := 135) dX4_priceAll_131 (by decide) ?_
                cases h
                exact px_sub [1, 2, 3, 0] rfl hj104_19
          clear h
          have h := hr35_36
          clear hr35_36
          refine px_if_eq C (tgt := 42) dX4_priceAll_35 (by decide) (fun c35_8 => ?_) (fun c35_8 => ?_)
          · replace h := el_t c35_8 h
            refine px_aload_n C 1 dX4_priceAll_42 rfl rfl ?_
            refine px_getr C (j := 6) kx_51 rfl rfl iw_X4_priceAll_X4 (by decide) lk_X4_priceAll_9 rfl dX4_priceAll_43 ?_
            refine px_iload_n C 2 dX4_priceAll_46 rfl rfl ?_
            refine px_aload_n C 1 dX4_priceAll_47 rfl rfl ?_
            refine px_getr C (j := 3) kx_51 rfl rfl iw_X4_priceAll_X4 (by decide) lk_X4_priceAll_15 rfl dX4_priceAll_48 ?_
            refine px_iload_n C 2 dX4_priceAll_51 rfl rfl ?_
            obtain ⟨x34, hc52_32, h⟩ := el_b h
            refine px_callS1 C (c_X5_get l tA tB ad S2 52 8 x1 kx_52 hc52_32) (va_cwS 2 C.2.2.2.2.1 gX4_priceAll_X5_get rfl rfl rfl (by decide +kernel) ⟨Nat.le_of_ble_eq_true rfl, Nat.le_of_ble_eq_true rfl⟩) ⟨Nat.zero_le _, Nat.zero_le _⟩ rfl rfl (Nat.le_of_ble_eq_true rfl) dX4_priceAll_52 ?_
            refine px_aload_n C 1 dX4_priceAll_55 rfl rfl ?_
            refine px_geti C (j := 0) kx_51 rfl rfl iw_X4_priceAll_X4 (by decide) lk_X4_priceAll_50 rfl dX4_priceAll_56 ?_
            obtain ⟨x36, hc59_34, h⟩ := el_b h
            refine px_callV1 C (c_X3_price l tA tB ad S2 x1 x34 (S2.1 51 0) hc59_34) (cwV 3 C.2.2.2.2.1 gX4_priceAll_X3_price rfl rfl rfl (by decide +kernel) ⟨Nat.le_of_ble_eq_true rfl, Nat.le_of_ble_eq_true rfl⟩) ⟨Nat.zero_le _, Nat.zero_le _⟩ kx_6 rfl rfl rfl (Nat.le_of_ble_eq_true rfl) dX4_priceAll_59 ?_
            cases h
            exact px_sub [1, 2, 0] rfl hj35_10
          · replace h := el_f c35_8 h
            refine px_iconst C (v := (0 : Int32)) dX4_priceAll_38 (by decide) ?_
            refine px_goto C (tgt := 62) dX4_priceAll_39 (by decide) ?_
            cases h
            exact px_sub [1, 2, 0] rfl hj35_10
        clear h
        have h := hr25_37
        clear hr25_37
        refine px_icmp_ne C (tgt := 32) dX4_priceAll_25 (by decide) (fun c25_5 => ?_) (fun c25_5 => ?_)
        · replace h := el_t c25_5 h
          refine px_iconst C (v := (0 : Int32)) dX4_priceAll_32 (by decide) ?_
          cases h
          exact hj25_7
        · replace h := el_fn c25_5 h
          refine px_iconst C (v := (1 : Int32)) dX4_priceAll_28 (by decide) ?_
          refine px_goto C (tgt := 33) dX4_priceAll_29 (by decide) ?_
          cases h
          exact hj25_7
  exact px_sub [1, 0] rfl (hl0 _ _ _ h)
theorem lk_X4_setLeast_37 : Cond.fieldLink RX4 37 "RiverTolls$Route" "least" "[I" ∈ wsX4_setLeast := List.mem_of_getElem? (i := 1) rfl
theorem iw_X4_setLeast_X4 : ∀ w ∈ u_ws RX4 TX4 14, w ∈ wsX4_setLeast := fun _ h9 => (List.mem_cons_of_mem _ (List.mem_append_right _ h9))
set_option maxHeartbeats 4000000 in
set_option maxRecDepth 100000 in
theorem c_X4_setLeast (l : Launch) (tA tB : Nat) (ad : Nat → Nat) (S : St) (a1 : Int32) (a2 : Int32) (a3 : Int32) {S' : St} (h : m_X4_setLeast S a1 a2 a3 = some S') :
    XMet l yX4_setLeast wsX4_setLeast ({ frames := 1, cells := 0, slots := 0, locals := 22 }) KX (.object "RiverTolls$Boat") tA tB [.ref (ad 51), .int a1, .int a2, .int a3] ad S none S' := by
  refine XMet.of (cc := cX4_setLeast) (maxL := 4) (ret := none) (own := RX4) (lv := [(0, .ref (ad 51)), (1, .int a1), (2, .int a2), (3, .int a3)]) rfl (by decide) rfl (Nat.le_of_ble_eq_true rfl) rfl ?_
  intro p e s m args below meth c D A cI c1 F C
  rw [m_X4_setLeast] at h
  refine px_aload_n C 0 dX4_setLeast_0 rfl rfl ?_
  refine px_getr C (j := 13) kx_51 rfl rfl iw_X4_setLeast_X4 (by decide) lk_X4_setLeast_37 rfl dX4_setLeast_1 ?_
  refine px_iconst C (v := (2 : Int32)) dX4_setLeast_4 (by decide) ?_
  refine px_iload_n C 1 dX4_setLeast_5 rfl rfl ?_
  refine px_imul C dX4_setLeast_6 ?_
  refine px_iload_n C 2 dX4_setLeast_7 rfl rfl ?_
  refine px_iadd C dX4_setLeast_8 ?_
  refine px_iload_n C 3 dX4_setLeast_9 rfl rfl ?_
  obtain ⟨S2, hc10_0, h⟩ := el_b h
  refine px_callS0 C (c_X5_put l tA tB ad S 59 18 (((2 : Int32) * a1) + a2) a3 kx_59 hc10_0) (va_cwS 3 C.2.2.2.2.1 gX4_setLeast_X5_put rfl rfl rfl (by decide +kernel) ⟨Nat.le_of_ble_eq_true rfl, Nat.le_of_ble_eq_true rfl⟩) ⟨Nat.zero_le _, Nat.zero_le _⟩ rfl rfl (Nat.le_of_ble_eq_true rfl) dX4_setLeast_10 ?_
  exact px_vretE C dX4_setLeast_13 h
theorem lk_X4_weighAll_9 : Cond.fieldLink RX4 9 "RiverTolls$Route" "told" "LRiverTolls$River;" ∈ wsX4_weighAll := List.mem_of_getElem? (i := 1) rfl
theorem lk_X4_weighAll_46 : Cond.fieldLink RX4 46 "RiverTolls$Route" "at" "I" ∈ wsX4_weighAll := List.mem_of_getElem? (i := 3) rfl
theorem lk_X4_weighAll_79 : Cond.fieldLink RX4 79 "RiverTolls$River" "rocks" "I" ∈ wsX4_weighAll := List.mem_of_getElem? (i := 2) rfl
theorem iw_X4_weighAll_X3 : ∀ w ∈ u_ws RX3 TX3 5, w ∈ wsX4_weighAll := fun _ h9 => (List.mem_cons_of_mem _ (List.mem_append_right _ h9))
theorem iw_X4_weighAll_X4 : ∀ w ∈ u_ws RX4 TX4 14, w ∈ wsX4_weighAll := fun _ h9 => (List.mem_cons_of_mem _ (List.mem_append_left _ (List.mem_append_right _ h9)))
set_option maxHeartbeats 4000000 in
set_option maxRecDepth 100000 in
theorem c_X4_weighAll (l : Launch) (tA tB : Nat) (ad : Nat → Nat) (fu : Nat) (S : St) {S' : St} (h : m_X4_weighAll fu S = some S') :
    XMet l yX4_weighAll wsX4_weighAll ({ frames := 3, cells := 0, slots := 0, locals := 66 }) KX (.object "RiverTolls$Boat") tA tB [.ref (ad 51)] ad S none S' := by
  refine XMet.of (cc := cX4_weighAll) (maxL := 2) (ret := none) (own := RX4) (lv := [(0, .ref (ad 51))]) rfl (by decide) rfl (Nat.le_of_ble_eq_true rfl) rfl ?_
  intro p e s m args below meth c D A cI c1 F C
  rw [m_X4_weighAll] at h
  refine px_aload_n C 0 dX4_weighAll_0 rfl rfl ?_
  refine px_aload_n C 0 dX4_weighAll_1 rfl rfl ?_
  refine px_getr C (j := 6) kx_51 rfl rfl iw_X4_weighAll_X4 (by decide) lk_X4_weighAll_9 rfl dX4_weighAll_2 ?_
  refine px_geti C (j := 0) kx_6 rfl rfl iw_X4_weighAll_X3 (by decide) lk_X4_weighAll_79 rfl dX4_weighAll_5 ?_
  refine px_iconst C (v := (0 : Int32)) dX4_weighAll_8 (by decide) ?_
  refine px_iconst C (v := (0 : Int32)) dX4_weighAll_9 (by decide) ?_
  obtain ⟨S2, hc10_0, h⟩ := el_b h
  refine px_callV0 C (c_X4_setLeast l tA tB ad S (S.1 6 0) (0 : Int32) (0 : Int32) hc10_0) (cwV 3 C.2.2.2.2.1 gX4_weighAll_X4_setLeast rfl rfl rfl (by decide +kernel) ⟨Nat.le_of_ble_eq_true rfl, Nat.le_of_ble_eq_true rfl⟩) ⟨Nat.zero_le _, Nat.zero_le _⟩ kx_51 rfl rfl rfl (Nat.le_of_ble_eq_true rfl) dX4_weighAll_10 ?_
  refine px_aload_n C 0 dX4_weighAll_13 rfl rfl ?_
  refine px_aload_n C 0 dX4_weighAll_14 rfl rfl ?_
  refine px_getr C (j := 6) kx_51 rfl rfl iw_X4_weighAll_X4 (by decide) lk_X4_weighAll_9 rfl dX4_weighAll_15 ?_
  refine px_geti C (j := 0) kx_6 rfl rfl iw_X4_weighAll_X3 (by decide) lk_X4_weighAll_79 rfl dX4_weighAll_18 ?_
  refine px_iconst C (v := (1 : Int32)) dX4_weighAll_21 (by decide) ?_
  refine px_iconst C (v := (0 : Int32)) dX4_weighAll_22 (by decide) ?_
  obtain ⟨S4, hc23_2, h⟩ := el_b h
  refine px_callV0 C (c_X4_setLeast l tA tB ad S2 (S2.1 6 0) (1 : Int32) (0 : Int32) hc23_2) (cwV 3 C.2.2.2.2.1 gX4_weighAll_X4_setLeast rfl rfl rfl (by decide +kernel) ⟨Nat.le_of_ble_eq_true rfl, Nat.le_of_ble_eq_true rfl⟩) ⟨Nat.zero_le _, Nat.zero_le _⟩ kx_51 rfl rfl rfl (Nat.le_of_ble_eq_true rfl) dX4_weighAll_23 ?_
  refine px_aload_n C 0 dX4_weighAll_26 rfl rfl ?_
  refine px_getr C (j := 6) kx_51 rfl rfl iw_X4_weighAll_X4 (by decide) lk_X4_weighAll_9 rfl dX4_weighAll_27 ?_
  refine px_geti C (j := 0) kx_6 rfl rfl iw_X4_weighAll_X3 (by decide) lk_X4_weighAll_79 rfl dX4_weighAll_30 ?_
  refine px_iconst C (v := (1 : Int32)) dX4_weighAll_33 (by decide) ?_
  refine px_isub C dX4_weighAll_34 ?_
  refine px_istore_n C [(1, .int ((S4.1 6 0) - (1 : Int32))), (0, .ref (ad 51))] dX4_weighAll_35 rfl (by decide) rfl ?_
  have hx0 : ∀  (x7 : Int32) (S8 : St), m_X4_weighAll_r0 x7 S8 = some S' → PW p l e { frames := 3, cells := 0, slots := 0, locals := 66 } s m args below meth c (MQ below (QX KX A D cI c1 F ad none S') args s 0 0 A) D A cI c1 F KX ad 2 0 0 S8 [(0, .ref (ad 51)), (1, .int x7)] 90 [] := by
    intro x7 S8 h
    rw [m_X4_weighAll_r0] at h
    exact px_vretE C dX4_weighAll_90 h
  have hl0 : ∀ (n_0 : Nat) (x5 : Int32) (S6 : St), m_X4_weighAll_L0 m_X4_weighAll_r0 n_0 x5 S6 = some S' → PW p l e { frames := 3, cells := 0, slots := 0, locals := 66 } s m args below meth c (MQ below (QX KX A D cI c1 F ad none S') args s 0 0 A) D A cI c1 F KX ad 2 0 0 S6 [(0, .ref (ad 51)), (1, .int x5)] 36 [] := by
    intro n_0
    induction n_0 with
    | zero =>
      intro x5 S6 h
      rw [m_X4_weighAll_L0_z] at h
      cases h
    | succ n_0 ih0 =>
      intro x5 S6 h
      rw [m_X4_weighAll_L0_s] at h
      refine px_iload_n C 1 dX4_weighAll_36 rfl rfl ?_
      refine px_aload_n C 0 dX4_weighAll_37 rfl rfl ?_
      refine px_geti C (j := 7) kx_51 rfl rfl iw_X4_weighAll_X4 (by decide) lk_X4_weighAll_46 rfl dX4_weighAll_38 ?_
      refine px_icmp_lt C (tgt := 90) dX4_weighAll_41 (by decide) (fun c41_8 => ?_) (fun c41_8 => ?_)
      · replace h := el_t c41_8 h
        exact (hx0 _ _ h)
      · replace h := el_f c41_8 h
        refine px_aload_n C 0 dX4_weighAll_44 rfl rfl ?_
        refine px_iload_n C 1 dX4_weighAll_45 rfl rfl ?_
        refine px_iconst C (v := (0 : Int32)) dX4_weighAll_46 (by decide) ?_
        refine px_aload_n C 0 dX4_weighAll_47 rfl rfl ?_
        refine px_iload_n C 1 dX4_weighAll_48 rfl rfl ?_
        refine px_iconst C (v := (0 : Int32)) dX4_weighAll_49 (by decide) ?_
        obtain ⟨x11, hc50_9, h⟩ := el_b h
        refine px_callV1 C (c_X4_costByPay l tA tB ad S6 x5 (0 : Int32) hc50_9) (cwV 2 C.2.2.2.2.1 gX4_weighAll_X4_costByPay rfl rfl rfl (by decide +kernel) ⟨Nat.le_of_ble_eq_true rfl, Nat.le_of_ble_eq_true rfl⟩) ⟨Nat.zero_le _, Nat.zero_le _⟩ kx_51 rfl rfl rfl (Nat.le_of_ble_eq_true rfl) dX4_weighAll_50 ?_
        refine px_aload_n C 0 dX4_weighAll_53 rfl rfl ?_
        refine px_iload_n C 1 dX4_weighAll_54 rfl rfl ?_
        obtain ⟨x13, hc55_11, h⟩ := el_b h
        refine px_callV1 C (c_X4_costByLand l tA tB ad S6 x5 hc55_11) (cwV 1 C.2.2.2.2.1 gX4_weighAll_X4_costByLand rfl rfl rfl (by decide +kernel) ⟨Nat.le_of_ble_eq_true rfl, Nat.le_of_ble_eq_true rfl⟩) ⟨Nat.zero_le _, Nat.zero_le _⟩ kx_51 rfl rfl rfl (Nat.le_of_ble_eq_true rfl) dX4_weighAll_55 ?_
        refine px_min C (List.mem_of_getElem? (i := 4) rfl) (List.mem_of_getElem? (i := 5) rfl) (List.mem_of_getElem? (i := 6) rfl) (List.mem_of_getElem? (i := 7) rfl) ⟨Nat.zero_le _, Nat.zero_le _⟩ (Nat.le_of_ble_eq_true rfl) (Nat.le_of_ble_eq_true rfl) dX4_weighAll_58 ?_
        obtain ⟨S15, hc61_13, h⟩ := el_b h
        refine px_callV0 C (c_X4_setLeast l tA tB ad S6 x5 (0 : Int32) (if x13 < x11 then x13 else x11) hc61_13) (cwV 3 C.2.2.2.2.1 gX4_weighAll_X4_setLeast rfl rfl rfl (by decide +kernel) ⟨Nat.le_of_ble_eq_true rfl, Nat.le_of_ble_eq_true rfl⟩) ⟨Nat.zero_le _, Nat.zero_le _⟩ kx_51 rfl rfl rfl (Nat.le_of_ble_eq_true rfl) dX4_weighAll_61 ?_
        refine px_aload_n C 0 dX4_weighAll_64 rfl rfl ?_
        refine px_iload_n C 1 dX4_weighAll_65 rfl rfl ?_
        refine px_iconst C (v := (1 : Int32)) dX4_weighAll_66 (by decide) ?_
        refine px_aload_n C 0 dX4_weighAll_67 rfl rfl ?_
        refine px_iload_n C 1 dX4_weighAll_68 rfl rfl ?_
        refine px_iconst C (v := (1 : Int32)) dX4_weighAll_69 (by decide) ?_
        obtain ⟨x17, hc70_15, h⟩ := el_b h
        refine px_callV1 C (c_X4_costByPay l tA tB ad S15 x5 (1 : Int32) hc70_15) (cwV 2 C.2.2.2.2.1 gX4_weighAll_X4_costByPay rfl rfl rfl (by decide +kernel) ⟨Nat.le_of_ble_eq_true rfl, Nat.le_of_ble_eq_true rfl⟩) ⟨Nat.zero_le _, Nat.zero_le _⟩ kx_51 rfl rfl rfl (Nat.le_of_ble_eq_true rfl) dX4_weighAll_70 ?_
        refine px_aload_n C 0 dX4_weighAll_73 rfl rfl ?_
        refine px_iload_n C 1 dX4_weighAll_74 rfl rfl ?_
        obtain ⟨x19, hc75_17, h⟩ := el_b h
        refine px_callV1 C (c_X4_costByLand l tA tB ad S15 x5 hc75_17) (cwV 1 C.2.2.2.2.1 gX4_weighAll_X4_costByLand rfl rfl rfl (by decide +kernel) ⟨Nat.le_of_ble_eq_true rfl, Nat.le_of_ble_eq_true rfl⟩) ⟨Nat.zero_le _, Nat.zero_le _⟩ kx_51 rfl rfl rfl (Nat.le_of_ble_eq_true rfl) dX4_weighAll_75 ?_
        refine px_min C (List.mem_of_getElem? (i := 4) rfl) (List.mem_of_getElem? (i := 5) rfl) (List.mem_of_getElem? (i := 6) rfl) (List.mem_of_getElem? (i := 7) rfl) ⟨Nat.zero_le _, Nat.zero_le _⟩ (Nat.le_of_ble_eq_true rfl) (Nat.le_of_ble_eq_true rfl) dX4_weighAll_78 ?_
        obtain ⟨S21, hc81_19, h⟩ := el_b h
        refine px_callV0 C (c_X4_setLeast l tA tB ad S15 x5 (1 : Int32) (if x19 < x17 then x19 else x17) hc81_19) (cwV 3 C.2.2.2.2.1 gX4_weighAll_X4_setLeast rfl rfl rfl (by decide +kernel) ⟨Nat.le_of_ble_eq_true rfl, Nat.le_of_ble_eq_true rfl⟩) ⟨Nat.zero_le _, Nat.zero_le _⟩ kx_51 rfl rfl rfl (Nat.le_of_ble_eq_true rfl) dX4_weighAll_81 ?_
        refine px_iinc C 1 [(1, .int (x5 + (-1 : Int32))), (0, .ref (ad 51))] dX4_weighAll_84 rfl rfl (by decide) rfl ?_
        refine px_goto C (tgt := 36) dX4_weighAll_87 (by decide) ?_
        exact px_sub [1, 0] rfl (ih0 _ _ h)
  exact px_sub [1, 0] rfl (hl0 _ _ _ h)
theorem lk_X4_walk_9 : Cond.fieldLink RX4 9 "RiverTolls$Route" "told" "LRiverTolls$River;" ∈ wsX4_walk := List.mem_of_getElem? (i := 2) rfl
theorem lk_X4_walk_19 : Cond.fieldLink RX4 19 "RiverTolls$Route" "paid" "[I" ∈ wsX4_walk := List.mem_of_getElem? (i := 7) rfl
theorem lk_X4_walk_22 : Cond.fieldLink RX4 22 "RiverTolls$Route" "byLand" "[I" ∈ wsX4_walk := List.mem_of_getElem? (i := 6) rfl
theorem lk_X4_walk_28 : Cond.fieldLink RX4 28 "RiverTolls$Route" "landPrices" "[I" ∈ wsX4_walk := List.mem_of_getElem? (i := 9) rfl
theorem lk_X4_walk_34 : Cond.fieldLink RX4 34 "RiverTolls$Route" "spent" "[I" ∈ wsX4_walk := List.mem_of_getElem? (i := 8) rfl
theorem lk_X4_walk_46 : Cond.fieldLink RX4 46 "RiverTolls$Route" "at" "I" ∈ wsX4_walk := List.mem_of_getElem? (i := 1) rfl
theorem lk_X4_walk_54 : Cond.fieldLink RX4 54 "RiverTolls$Route" "letter" "I" ∈ wsX4_walk := List.mem_of_getElem? (i := 4) rfl
theorem lk_X4_walk_79 : Cond.fieldLink RX4 79 "RiverTolls$River" "rocks" "I" ∈ wsX4_walk := List.mem_of_getElem? (i := 3) rfl
theorem lk_X4_walk_115 : Cond.fieldLink RX4 115 "RiverTolls$Route" "total" "I" ∈ wsX4_walk := List.mem_of_getElem? (i := 5) rfl
theorem iw_X4_walk_X3 : ∀ w ∈ u_ws RX3 TX3 5, w ∈ wsX4_walk := fun _ h9 => (List.mem_cons_of_mem _ (List.mem_append_right _ h9))
theorem iw_X4_walk_X4 : ∀ w ∈ u_ws RX4 TX4 14, w ∈ wsX4_walk := fun _ h9 => (List.mem_cons_of_mem _ (List.mem_append_left _ (List.mem_append_right _ h9)))
set_option maxHeartbeats 4000000 in
set_option maxRecDepth 100000 in
theorem c_X4_walk (l : Launch) (tA tB : Nat) (ad : Nat → Nat) (fu : Nat) (S : St) {S' : St} (h : m_X4_walk fu S = some S') :
    XMet l yX4_walk wsX4_walk ({ frames := 3, cells := 0, slots := 0, locals := 66 }) KX (.object "RiverTolls$Boat") tA tB [.ref (ad 51)] ad S none S' := by
  refine XMet.of (cc := cX4_walk) (maxL := 5) (ret := none) (own := RX4) (lv := [(0, .ref (ad 51))]) rfl (by decide) rfl (Nat.le_of_ble_eq_true rfl) rfl ?_
  intro p e s m args below meth c D A cI c1 F C
  rw [m_X4_walk] at h
  refine px_aload_n C 0 dX4_walk_0 rfl rfl ?_
  refine px_geti C (j := 7) kx_51 rfl rfl iw_X4_walk_X4 (by decide) lk_X4_walk_46 rfl dX4_walk_1 ?_
  refine px_aload_n C 0 dX4_walk_4 rfl rfl ?_
  refine px_getr C (j := 6) kx_51 rfl rfl iw_X4_walk_X4 (by decide) lk_X4_walk_9 rfl dX4_walk_5 ?_
  refine px_geti C (j := 0) kx_6 rfl rfl iw_X4_walk_X3 (by decide) lk_X4_walk_79 rfl dX4_walk_8 ?_
  obtain ⟨x2, hr11_48, h⟩ := el_b h
  have hj11_2 : PW p l e { frames := 3, cells := 0, slots := 0, locals := 66 } s m args below meth c (MQ below (QX KX A D cI c1 F ad none S') args s 0 0 A) D A cI c1 F KX ad 5 0 0 S [(0, .ref (ad 51))] 38 [.int x2] := by
    refine px_istore_n C [(1, .int x2), (0, .ref (ad 51))] dX4_walk_38 rfl (by decide) rfl ?_
    refine px_aload_n C 1 dX4_walk_39 rfl rfl ?_
    refine px_aload_n C 1 dX4_walk_40 rfl rfl ?_
    refine px_aload_n C 1 dX4_walk_41 rfl rfl ?_
    refine px_geti C (j := 7) kx_51 rfl rfl iw_X4_walk_X4 (by decide) lk_X4_walk_46 rfl dX4_walk_42 ?_
    refine px_iload_n C 0 dX4_walk_45 rfl rfl ?_
    obtain ⟨x5, hc46_3, h⟩ := el_b h
    refine px_callV1 C (c_X4_leastFrom l tA tB ad S (S.1 51 7) x2 hc46_3) (cwV 2 C.2.2.2.2.1 gX4_walk_X4_leastFrom rfl rfl rfl (by decide +kernel) ⟨Nat.le_of_ble_eq_true rfl, Nat.le_of_ble_eq_true rfl⟩) ⟨Nat.zero_le _, Nat.zero_le _⟩ kx_51 rfl rfl rfl (Nat.le_of_ble_eq_true rfl) dX4_walk_46 ?_
    obtain ⟨S6, eS6, h⟩ := el_lt h
    refine px_puti C (ty := .int) (j := 2) kx_51 rfl rfl iw_X4_walk_X4 (by decide) lk_X4_walk_115 rfl tyX4 tyX4_ok nmX4 rfl (by decide +kernel) rfl rfl dX4_walk_49 ?_
    refine px_nmS eS6 ?_
    refine px_aload_n C 1 dX4_walk_52 rfl rfl ?_
    refine px_geti C (j := 7) kx_51 rfl rfl iw_X4_walk_X4 (by decide) lk_X4_walk_46 rfl dX4_walk_53 ?_
    refine px_istore_n C [(2, .int (S6.1 51 7)), (1, .int x2), (0, .ref (ad 51))] dX4_walk_56 rfl (by decide) rfl ?_
    have hx0 : ∀  (x10 : Int32) (x11 : Int32) (S12 : St), m_X4_walk_r0 x10 x11 S12 = some S' → PW p l e { frames := 3, cells := 0, slots := 0, locals := 66 } s m args below meth c (MQ below (QX KX A D cI c1 F ad none S') args s 0 0 A) D A cI c1 F KX ad 5 0 0 S12 [(0, .ref (ad 51)), (1, .int x10), (2, .int x11)] 170 [] := by
      intro x10 x11 S12 h
      rw [m_X4_walk_r0] at h
      exact px_vretE C dX4_walk_170 h
    have hl0 : ∀ (n_0 : Nat) (x7 : Int32) (x8 : Int32) (S9 : St), m_X4_walk_L0 m_X4_walk_r0 n_0 x7 x8 S9 = some S' → PW p l e { frames := 3, cells := 0, slots := 0, locals := 66 } s m args below meth c (MQ below (QX KX A D cI c1 F ad none S') args s 0 0 A) D A cI c1 F KX ad 5 0 0 S9 [(0, .ref (ad 51)), (1, .int x7), (2, .int x8)] 57 [] := by
      intro n_0
      induction n_0 with
      | zero =>
        intro x7 x8 S9 h
        rw [m_X4_walk_L0_z] at h
        cases h
      | succ n_0 ih0 =>
        intro x7 x8 S9 h
        rw [m_X4_walk_L0_s] at h
        refine px_iload_n C 2 dX4_walk_57 rfl rfl ?_
        refine px_aload_n C 0 dX4_walk_58 rfl rfl ?_
        refine px_getr C (j := 6) kx_51 rfl rfl iw_X4_walk_X4 (by decide) lk_X4_walk_9 rfl dX4_walk_59 ?_
        refine px_geti C (j := 0) kx_6 rfl rfl iw_X4_walk_X3 (by decide) lk_X4_walk_79 rfl dX4_walk_62 ?_
        refine px_icmp_ge C (tgt := 170) dX4_walk_65 (by decide) (fun c65_12 => ?_) (fun c65_12 => ?_)
        · replace h := el_t c65_12 h
          exact (hx0 _ _ _ h)
        · replace h := el_f c65_12 h
          refine px_aload_n C 0 dX4_walk_68 rfl rfl ?_
          refine px_iload_n C 2 dX4_walk_69 rfl rfl ?_
          obtain ⟨x15, hc70_13, h⟩ := el_b h
          refine px_callV1 C (c_X4_costByLand l tA tB ad S9 x8 hc70_13) (cwV 1 C.2.2.2.2.1 gX4_walk_X4_costByLand rfl rfl rfl (by decide +kernel) ⟨Nat.le_of_ble_eq_true rfl, Nat.le_of_ble_eq_true rfl⟩) ⟨Nat.zero_le _, Nat.zero_le _⟩ kx_51 rfl rfl rfl (Nat.le_of_ble_eq_true rfl) dX4_walk_70 ?_
          refine px_aload_n C 0 dX4_walk_73 rfl rfl ?_
          refine px_iload_n C 2 dX4_walk_74 rfl rfl ?_
          refine px_iload_n C 1 dX4_walk_75 rfl rfl ?_
          obtain ⟨x17, hc76_15, h⟩ := el_b h
          refine px_callV1 C (c_X4_costByPay l tA tB ad S9 x8 x7 hc76_15) (cwV 2 C.2.2.2.2.1 gX4_walk_X4_costByPay rfl rfl rfl (by decide +kernel) ⟨Nat.le_of_ble_eq_true rfl, Nat.le_of_ble_eq_true rfl⟩) ⟨Nat.zero_le _, Nat.zero_le _⟩ kx_51 rfl rfl rfl (Nat.le_of_ble_eq_true rfl) dX4_walk_76 ?_
          obtain ⟨x19, hr79_44, h⟩ := el_b h
          have hj79_19 : PW p l e { frames := 3, cells := 0, slots := 0, locals := 66 } s m args below meth c (MQ below (QX KX A D cI c1 F ad none S') args s 0 0 A) D A cI c1 F KX ad 5 0 0 S9 [(0, .ref (ad 51)), (1, .int x7), (2, .int x8)] 87 [.int x19] := by
            refine px_istore_n C [(3, .int x19), (0, .ref (ad 51)), (1, .int x7), (2, .int x8)] dX4_walk_87 rfl (by decide) rfl ?_
            refine px_iload_n C 0 dX4_walk_88 rfl rfl ?_
            obtain ⟨x22, hr89_43, h⟩ := el_b h
            have hj89_22 : PW p l e { frames := 3, cells := 0, slots := 0, locals := 66 } s m args below meth c (MQ below (QX KX A D cI c1 F ad none S') args s 0 0 A) D A cI c1 F KX ad 5 0 0 S9 [(0, .ref (ad 51)), (1, .int x7), (2, .int x8), (3, .int x19)] 102 [.int x22] := by
              refine px_istore C [(4, .int x22), (0, .ref (ad 51)), (1, .int x7), (2, .int x8), (3, .int x19)] dX4_walk_102 (by decide) rfl ?_
              refine px_aload_n C 1 dX4_walk_104 rfl rfl ?_
              refine px_getr C (j := 5) kx_51 rfl rfl iw_X4_walk_X4 (by decide) lk_X4_walk_22 rfl dX4_walk_105 ?_
              refine px_iload_n C 3 dX4_walk_108 rfl rfl ?_
              refine px_iload_n C 4 dX4_walk_109 rfl rfl ?_
              obtain ⟨x25, hr110_40, h⟩ := el_b h
              have hj110_25 : PW p l e { frames := 3, cells := 0, slots := 0, locals := 66 } s m args below meth c (MQ below (QX KX A D cI c1 F ad none S') args s 0 0 A) D A cI c1 F KX ad 5 0 0 S9 [(0, .ref (ad 51)), (1, .int x7), (2, .int x8), (3, .int x19), (4, .int x22)] 118 [.int x25, .int x8, .ref (ad 54)] := by
                obtain ⟨S28, hc118_26, h⟩ := el_b h
                refine px_callS0 C (c_X5_put l tA tB ad S9 54 8 x8 x25 kx_54 hc118_26) (va_cwS 3 C.2.2.2.2.1 gX4_walk_X5_put rfl rfl rfl (by decide +kernel) ⟨Nat.le_of_ble_eq_true rfl, Nat.le_of_ble_eq_true rfl⟩) ⟨Nat.zero_le _, Nat.zero_le _⟩ rfl rfl (Nat.le_of_ble_eq_true rfl) dX4_walk_118 ?_
                refine px_aload_n C 0 dX4_walk_121 rfl rfl ?_
                refine px_getr C (j := 4) kx_51 rfl rfl iw_X4_walk_X4 (by decide) lk_X4_walk_19 rfl dX4_walk_122 ?_
                refine px_iload_n C 2 dX4_walk_125 rfl rfl ?_
                refine px_iload C 4 dX4_walk_126 rfl ?_
                obtain ⟨S30, hc128_28, h⟩ := el_b h
                refine px_callS0 C (c_X5_put l tA tB ad S28 53 8 x8 x22 kx_53 hc128_28) (va_cwS 3 C.2.2.2.2.1 gX4_walk_X5_put rfl rfl rfl (by decide +kernel) ⟨Nat.le_of_ble_eq_true rfl, Nat.le_of_ble_eq_true rfl⟩) ⟨Nat.zero_le _, Nat.zero_le _⟩ rfl rfl (Nat.le_of_ble_eq_true rfl) dX4_walk_128 ?_
                refine px_aload_n C 0 dX4_walk_131 rfl rfl ?_
                refine px_getr C (j := 12) kx_51 rfl rfl iw_X4_walk_X4 (by decide) lk_X4_walk_34 rfl dX4_walk_132 ?_
                refine px_iload_n C 2 dX4_walk_135 rfl rfl ?_
                refine px_iload_n C 3 dX4_walk_136 rfl rfl ?_
                obtain ⟨x32, hr137_39, h⟩ := el_b h
                have hj137_32 : PW p l e { frames := 3, cells := 0, slots := 0, locals := 66 } s m args below meth c (MQ below (QX KX A D cI c1 F ad none S') args s 0 0 A) D A cI c1 F KX ad 5 0 0 S30 [(0, .ref (ad 51)), (1, .int x7), (2, .int x8), (3, .int x19), (4, .int x22)] 153 [.int x32, .int x8, .ref (ad 58)] := by
                  obtain ⟨S35, hc153_33, h⟩ := el_b h
                  refine px_callS0 C (c_X5_put l tA tB ad S30 58 8 x8 x32 kx_58 hc153_33) (va_cwS 3 C.2.2.2.2.1 gX4_walk_X5_put rfl rfl rfl (by decide +kernel) ⟨Nat.le_of_ble_eq_true rfl, Nat.le_of_ble_eq_true rfl⟩) ⟨Nat.zero_le _, Nat.zero_le _⟩ rfl rfl (Nat.le_of_ble_eq_true rfl) dX4_walk_153 ?_
                  refine px_aload_n C 0 dX4_walk_156 rfl rfl ?_
                  refine px_iload_n C 2 dX4_walk_157 rfl rfl ?_
                  refine px_iload C 4 dX4_walk_158 rfl ?_
                  obtain ⟨x37, hc160_35, h⟩ := el_b h
                  refine px_callV1 C (c_X4_freedBehind l tA tB ad S35 x8 x22 hc160_35) (cwV 2 C.2.2.2.2.1 gX4_walk_X4_freedBehind rfl rfl rfl (by decide +kernel) ⟨Nat.le_of_ble_eq_true rfl, Nat.le_of_ble_eq_true rfl⟩) ⟨Nat.zero_le _, Nat.zero_le _⟩ kx_51 rfl rfl rfl (Nat.le_of_ble_eq_true rfl) dX4_walk_160 ?_
                  refine px_istore_n C [(1, .int x37), (0, .ref (ad 51)), (2, .int x8), (3, .int x19), (4, .int x22)] dX4_walk_163 rfl (by decide) rfl ?_
                  refine px_iinc C 2 [(2, .int (x8 + (1 : Int32))), (1, .int x37), (0, .ref (ad 51)), (3, .int x19), (4, .int x22)] dX4_walk_164 rfl rfl (by decide) rfl ?_
                  refine px_goto C (tgt := 57) dX4_walk_167 (by decide) ?_
                  exact px_sub [2, 1, 0] rfl (ih0 _ _ _ h)
                clear h
                have h := hr137_39
                clear hr137_39
                refine px_if_eq C (tgt := 151) dX4_walk_137 (by decide) (fun c137_30 => ?_) (fun c137_30 => ?_)
                · replace h := el_t c137_30 h
                  refine px_iload C 4 dX4_walk_151 rfl ?_
                  cases h
                  exact hj137_32
                · replace h := el_f c137_30 h
                  refine px_aload_n C 0 dX4_walk_140 rfl rfl ?_
                  refine px_getr C (j := 10) kx_51 rfl rfl iw_X4_walk_X4 (by decide) lk_X4_walk_28 rfl dX4_walk_141 ?_
                  refine px_iload_n C 2 dX4_walk_144 rfl rfl ?_
                  obtain ⟨x39, hc145_37, h⟩ := el_b h
                  refine px_callS1 C (c_X5_get l tA tB ad S30 56 8 x8 kx_56 hc145_37) (va_cwS 2 C.2.2.2.2.1 gX4_walk_X5_get rfl rfl rfl (by decide +kernel) ⟨Nat.le_of_ble_eq_true rfl, Nat.le_of_ble_eq_true rfl⟩) ⟨Nat.zero_le _, Nat.zero_le _⟩ rfl rfl (Nat.le_of_ble_eq_true rfl) dX4_walk_145 ?_
                  refine px_goto C (tgt := 153) dX4_walk_148 (by decide) ?_
                  cases h
                  exact hj137_32
              clear h
              have h := hr110_40
              clear hr110_40
              refine px_if_eq C (tgt := 117) dX4_walk_110 (by decide) (fun c110_23 => ?_) (fun c110_23 => ?_)
              · replace h := el_t c110_23 h
                refine px_iconst C (v := (0 : Int32)) dX4_walk_117 (by decide) ?_
                cases h
                exact px_sub [1, 2, 3, 4, 0] rfl hj110_25
              · replace h := el_f c110_23 h
                refine px_iconst C (v := (1 : Int32)) dX4_walk_113 (by decide) ?_
                refine px_goto C (tgt := 118) dX4_walk_114 (by decide) ?_
                cases h
                exact px_sub [1, 2, 3, 4, 0] rfl hj110_25
            clear h
            have h := hr89_43
            clear hr89_43
            refine px_if_eq C (tgt := 96) dX4_walk_89 (by decide) (fun c89_20 => ?_) (fun c89_20 => ?_)
            · replace h := el_t c89_20 h
              refine px_aload_n C 1 dX4_walk_96 rfl rfl ?_
              refine px_iload_n C 3 dX4_walk_97 rfl rfl ?_
              refine px_iload_n C 2 dX4_walk_98 rfl rfl ?_
              obtain ⟨x43, hc99_41, h⟩ := el_b h
              refine px_callV1 C (c_X4_due l tA tB ad S9 x8 x7 hc99_41) (cwV 2 C.2.2.2.2.1 gX4_walk_X4_due rfl rfl rfl (by decide +kernel) ⟨Nat.le_of_ble_eq_true rfl, Nat.le_of_ble_eq_true rfl⟩) ⟨Nat.zero_le _, Nat.zero_le _⟩ kx_51 rfl rfl rfl (Nat.le_of_ble_eq_true rfl) dX4_walk_99 ?_
              cases h
              exact px_sub [1, 2, 3, 0] rfl hj89_22
            · replace h := el_f c89_20 h
              refine px_iconst C (v := (0 : Int32)) dX4_walk_92 (by decide) ?_
              refine px_goto C (tgt := 102) dX4_walk_93 (by decide) ?_
              cases h
              exact px_sub [1, 2, 3, 0] rfl hj89_22
          clear h
          have h := hr79_44
          clear hr79_44
          refine px_icmp_ge C (tgt := 86) dX4_walk_79 (by decide) (fun c79_17 => ?_) (fun c79_17 => ?_)
          · replace h := el_t c79_17 h
            refine px_iconst C (v := (0 : Int32)) dX4_walk_86 (by decide) ?_
            cases h
            exact hj79_19
          · replace h := el_f c79_17 h
            refine px_iconst C (v := (1 : Int32)) dX4_walk_82 (by decide) ?_
            refine px_goto C (tgt := 87) dX4_walk_83 (by decide) ?_
            cases h
            exact hj79_19
    exact px_sub [2, 1, 0] rfl (hl0 _ _ _ _ h)
  clear h
  have h := hr11_48
  clear hr11_48
  refine px_icmp_ge C (tgt := 37) dX4_walk_11 (by decide) (fun c11_0 => ?_) (fun c11_0 => ?_)
  · replace h := el_t c11_0 h
    refine px_iconst C (v := (0 : Int32)) dX4_walk_37 (by decide) ?_
    cases h
    exact hj11_2
  · replace h := el_f c11_0 h
    refine px_aload_n C 0 dX4_walk_14 rfl rfl ?_
    refine px_geti C (j := 8) kx_51 rfl rfl iw_X4_walk_X4 (by decide) lk_X4_walk_54 rfl dX4_walk_15 ?_
    refine px_aload_n C 0 dX4_walk_18 rfl rfl ?_
    refine px_getr C (j := 6) kx_51 rfl rfl iw_X4_walk_X4 (by decide) lk_X4_walk_9 rfl dX4_walk_19 ?_
    refine px_aload_n C 0 dX4_walk_22 rfl rfl ?_
    refine px_geti C (j := 7) kx_51 rfl rfl iw_X4_walk_X4 (by decide) lk_X4_walk_46 rfl dX4_walk_23 ?_
    refine px_iconst C (v := (2 : Int32)) dX4_walk_26 (by decide) ?_
    obtain ⟨x47, hc27_45, h⟩ := el_b h
    refine px_callV1 C (c_X3_fact l tA tB ad S (S.1 51 7) (2 : Int32) hc27_45) (cwV 2 C.2.2.2.2.1 gX4_walk_X3_fact rfl rfl rfl (by decide +kernel) ⟨Nat.le_of_ble_eq_true rfl, Nat.le_of_ble_eq_true rfl⟩) ⟨Nat.zero_le _, Nat.zero_le _⟩ kx_6 rfl rfl rfl (Nat.le_of_ble_eq_true rfl) dX4_walk_27 ?_
    refine px_icmp_ne C (tgt := 37) dX4_walk_30 (by decide) (fun c30_47 => ?_) (fun c30_47 => ?_)
    · replace h := el_t c30_47 h
      refine px_iconst C (v := (0 : Int32)) dX4_walk_37 (by decide) ?_
      cases h
      exact hj11_2
    · replace h := el_fn c30_47 h
      refine px_iconst C (v := (1 : Int32)) dX4_walk_33 (by decide) ?_
      refine px_goto C (tgt := 38) dX4_walk_34 (by decide) ?_
      cases h
      exact hj11_2
