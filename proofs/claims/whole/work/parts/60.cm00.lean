theorem lk_X9_letterAt_7 : Cond.fieldLink RX9 7 "RiverTollsModel" "text" "[I" ∈ wsX9_letterAt := List.mem_of_getElem? (i := 2) rfl
theorem lk_X9_letterAt_70 : Cond.fieldLink RX9 70 "RiverTollsModel" "typed" "I" ∈ wsX9_letterAt := List.mem_of_getElem? (i := 1) rfl
theorem iw_X9_letterAt_X9 : ∀ w ∈ u_ws RX9 TX9 28, w ∈ wsX9_letterAt := fun _ h9 => (List.mem_cons_of_mem _ (List.mem_append_right _ h9))
set_option maxHeartbeats 4000000 in
set_option maxRecDepth 100000 in
theorem c_X9_letterAt (l : Launch) (tA tB : Nat) (ad : Nat → Nat) (S : St) (a1 : Int32) {rv : Int32} (h : m_X9_letterAt S a1 = some rv) :
    XMet l yX9_letterAt wsX9_letterAt ({ frames := 0, cells := 0, slots := 0, locals := 0 }) KM .boolean tA tB [.ref (ad 0), .int a1] ad S (some (.int rv)) S := by
  refine XMet.of (cc := cX9_letterAt) (maxL := 2) (ret := (some .int)) (own := RX9) (lv := [(0, .ref (ad 0)), (1, .int a1)]) rfl (by decide) rfl (Nat.le_of_ble_eq_true rfl) rfl ?_
  intro p e s m args below meth c D A cI c1 F C
  rw [m_X9_letterAt] at h
  refine px_iload_n C 1 dX9_letterAt_0 rfl rfl ?_
  refine px_aload_n C 0 dX9_letterAt_1 rfl rfl ?_
  refine px_geti C (j := 3) km_0 rfl rfl iw_X9_letterAt_X9 (by decide) lk_X9_letterAt_70 rfl dX9_letterAt_2 ?_
  refine px_icmp_ge C (tgt := 17) dX9_letterAt_5 (by decide) (fun c5_0 => ?_) (fun c5_0 => ?_)
  · replace h := el_t c5_0 h
    refine px_iconst C (v := (-1 : Int32)) dX9_letterAt_17 (by decide) ?_
    exact px_iretE C dX9_letterAt_18 h
  · replace h := el_f c5_0 h
    refine px_aload_n C 0 dX9_letterAt_8 rfl rfl ?_
    refine px_getr C (j := 2) km_0 rfl rfl iw_X9_letterAt_X9 (by decide) lk_X9_letterAt_7 rfl dX9_letterAt_9 ?_
    refine px_iload_n C 1 dX9_letterAt_12 rfl rfl ?_
    obtain ⟨hix2, x2, ex2, h⟩ := el_ald h
    refine px_iald C km_1 hix2 rfl dX9_letterAt_13 ?_
    refine px_nm ex2 ?_
    refine px_goto C (tgt := 18) dX9_letterAt_14 (by decide) ?_
    exact px_iretE C dX9_letterAt_18 h
set_option maxHeartbeats 4000000 in
set_option maxRecDepth 100000 in
theorem c_X9_in (l : Launch) (tA tB : Nat) (ad : Nat → Nat) (S : St) (a0 : Int32) (a1 : Int32) (a2 : Int32) {rv : Int32} (h : m_X9_in a0 a1 a2 = some rv) :
    XMet l yX9_in wsX9_in ({ frames := 0, cells := 0, slots := 0, locals := 0 }) KM .boolean tA tB [.int a0, .int a1, .int a2] ad S (some (.int rv)) S := by
  refine XMet.of (cc := cX9_in) (maxL := 3) (ret := (some .boolean)) (own := RX9) (lv := [(0, .int a0), (1, .int a1), (2, .int a2)]) rfl (by decide) rfl (Nat.le_of_ble_eq_true rfl) rfl ?_
  intro p e s m args below meth c D A cI c1 F C
  rw [m_X9_in] at h
  refine px_iload_n C 0 dX9_in_0 rfl rfl ?_
  refine px_iload_n C 1 dX9_in_1 rfl rfl ?_
  refine px_icmp_lt C (tgt := 14) dX9_in_2 (by decide) (fun c2_0 => ?_) (fun c2_0 => ?_)
  · replace h := el_t c2_0 h
    refine px_iconst C (v := (0 : Int32)) dX9_in_14 (by decide) ?_
    exact px_zretE C (Or.inl rfl) dX9_in_15 h
  · replace h := el_f c2_0 h
    refine px_iload_n C 0 dX9_in_5 rfl rfl ?_
    refine px_iload_n C 2 dX9_in_6 rfl rfl ?_
    refine px_icmp_gt C (tgt := 14) dX9_in_7 (by decide) (fun c7_1 => ?_) (fun c7_1 => ?_)
    · replace h := el_t c7_1 h
      refine px_iconst C (v := (0 : Int32)) dX9_in_14 (by decide) ?_
      exact px_zretE C (Or.inl rfl) dX9_in_15 h
    · replace h := el_f c7_1 h
      refine px_iconst C (v := (1 : Int32)) dX9_in_10 (by decide) ?_
      refine px_goto C (tgt := 15) dX9_in_11 (by decide) ?_
      exact px_zretE C (Or.inr rfl) dX9_in_15 h
theorem lk_X9_advances_73 : Cond.fieldLink RX9 73 "RiverTollsModel" "next" "I" ∈ wsX9_advances := List.mem_of_getElem? (i := 1) rfl
theorem lk_X9_advances_80 : Cond.fieldLink RX9 80 "RiverTollsModel" "place" "I" ∈ wsX9_advances := List.mem_of_getElem? (i := 2) rfl
theorem lk_X9_advances_83 : Cond.fieldLink RX9 83 "RiverTollsModel" "token" "I" ∈ wsX9_advances := List.mem_of_getElem? (i := 3) rfl
theorem lk_X9_advances_86 : Cond.fieldLink RX9 86 "RiverTollsModel" "value" "I" ∈ wsX9_advances := List.mem_of_getElem? (i := 4) rfl
theorem iw_X9_advances_X9 : ∀ w ∈ u_ws RX9 TX9 28, w ∈ wsX9_advances := fun _ h9 => (List.mem_cons_of_mem _ (List.mem_append_right _ h9))
set_option maxHeartbeats 4000000 in
set_option maxRecDepth 100000 in
theorem c_X9_advances (l : Launch) (tA tB : Nat) (ad : Nat → Nat) (fu : Nat) (S : St) {S' : St} (h : m_X9_advances fu S = some S') :
    XMet l yX9_advances wsX9_advances ({ frames := 1, cells := 0, slots := 0, locals := 22 }) KM .boolean tA tB [.ref (ad 0)] ad S none S' := by
  refine XMet.of (cc := cX9_advances) (maxL := 2) (ret := none) (own := RX9) (lv := [(0, .ref (ad 0))]) rfl (by decide) rfl (Nat.le_of_ble_eq_true rfl) rfl ?_
  intro p e s m args below meth c D A cI c1 F C
  rw [m_X9_advances] at h
  have hx0 : ∀  (S2 : St), m_X9_advances_r0 fu S2 = some S' → PW p l e { frames := 1, cells := 0, slots := 0, locals := 22 } s m args below meth c (MQ below (QX KM A D cI c1 F ad none S') args s 0 0 A) D A cI c1 F KM ad 2 0 0 S2 [(0, .ref (ad 0))] 26 [] := by
    intro S2 h
    rw [m_X9_advances_r0] at h
    refine px_aload_n C 0 dX9_advances_26 rfl rfl ?_
    refine px_aload_n C 0 dX9_advances_27 rfl rfl ?_
    refine px_geti C (j := 4) km_0 rfl rfl iw_X9_advances_X9 (by decide) lk_X9_advances_73 rfl dX9_advances_28 ?_
    obtain ⟨S3, eS3, h⟩ := el_lt h
    refine px_puti C (ty := .int) (j := 6) km_0 rfl rfl iw_X9_advances_X9 (by decide) lk_X9_advances_80 rfl tyX9 tyX9_ok nmX9 rfl (by decide +kernel) rfl rfl dX9_advances_31 ?_
    refine px_nmS eS3 ?_
    refine px_aload_n C 0 dX9_advances_34 rfl rfl ?_
    refine px_aload_n C 0 dX9_advances_35 rfl rfl ?_
    refine px_geti C (j := 4) km_0 rfl rfl iw_X9_advances_X9 (by decide) lk_X9_advances_73 rfl dX9_advances_36 ?_
    obtain ⟨x5, hc39_3, h⟩ := el_b h
    refine px_callV1 C (c_X9_letterAt l tA tB ad S3 (S3.1 0 4) hc39_3) (cwV 1 C.2.2.2.2.1 gX9_advances_X9_letterAt rfl rfl rfl (by decide +kernel) ⟨Nat.le_of_ble_eq_true rfl, Nat.le_of_ble_eq_true rfl⟩) ⟨Nat.zero_le _, Nat.zero_le _⟩ km_0 rfl rfl rfl (Nat.le_of_ble_eq_true rfl) dX9_advances_39 ?_
    refine px_istore_n C [(1, .int x5), (0, .ref (ad 0))] dX9_advances_42 rfl (by decide) rfl ?_
    refine px_iload_n C 0 dX9_advances_43 rfl rfl ?_
    refine px_if_ge C (tgt := 55) dX9_advances_44 (by decide) (fun c44_5 => ?_) (fun c44_5 => ?_)
    · replace h := el_t c44_5 h
      refine px_iload_n C 0 dX9_advances_55 rfl rfl ?_
      refine px_bipush C (v := (48 : Int32)) dX9_advances_56 (by decide) ?_
      refine px_bipush C (v := (57 : Int32)) dX9_advances_58 (by decide) ?_
      obtain ⟨x8, hc60_6, h⟩ := el_b h
      refine px_callS1 C (c_X9_in l tA tB ad S3 x5 (48 : Int32) (57 : Int32) hc60_6) (va_cwS 3 C.2.2.2.2.1 gX9_advances_X9_in rfl rfl rfl (by decide +kernel) ⟨Nat.le_of_ble_eq_true rfl, Nat.le_of_ble_eq_true rfl⟩) ⟨Nat.zero_le _, Nat.zero_le _⟩ rfl rfl (Nat.le_of_ble_eq_true rfl) dX9_advances_60 ?_
      refine px_if_eq C (tgt := 183) dX9_advances_63 (by decide) (fun c63_8 => ?_) (fun c63_8 => ?_)
      · replace h := el_t c63_8 h
        refine px_aload_n C 1 dX9_advances_183 rfl rfl ?_
        refine px_dup C dX9_advances_184 rfl ?_
        refine px_geti C (j := 4) km_0 rfl rfl iw_X9_advances_X9 (by decide) lk_X9_advances_73 rfl dX9_advances_185 ?_
        refine px_iconst C (v := (1 : Int32)) dX9_advances_188 (by decide) ?_
        refine px_iadd C dX9_advances_189 ?_
        obtain ⟨S10, eS10, h⟩ := el_lt h
        refine px_puti C (ty := .int) (j := 4) km_0 rfl rfl iw_X9_advances_X9 (by decide) lk_X9_advances_73 rfl tyX9 tyX9_ok nmX9 rfl (by decide +kernel) rfl rfl dX9_advances_190 ?_
        refine px_nmS eS10 ?_
        refine px_aload_n C 1 dX9_advances_193 rfl rfl ?_
        refine px_iload_n C 0 dX9_advances_194 rfl rfl ?_
        obtain ⟨S11, eS11, h⟩ := el_lt h
        refine px_puti C (ty := .int) (j := 7) km_0 rfl rfl iw_X9_advances_X9 (by decide) lk_X9_advances_86 rfl tyX9 tyX9_ok nmX9 rfl (by decide +kernel) rfl rfl dX9_advances_195 ?_
        refine px_nmS eS11 ?_
        refine px_aload_n C 1 dX9_advances_198 rfl rfl ?_
        refine px_iload_n C 0 dX9_advances_199 rfl rfl ?_
        refine px_bipush C (v := (59 : Int32)) dX9_advances_200 (by decide) ?_
        obtain ⟨x13, hr202_18, h⟩ := el_b h
        have hj202_13 : PW p l e { frames := 1, cells := 0, slots := 0, locals := 22 } s m args below meth c (MQ below (QX KM A D cI c1 F ad none S') args s 0 0 A) D A cI c1 F KM ad 2 0 0 S11 [(0, .ref (ad 0)), (1, .int x5)] 232 [.int x13, .ref (ad 0)] := by
          obtain ⟨S15, eS15, h⟩ := el_lt h
          refine px_puti C (ty := .int) (j := 5) km_0 rfl rfl iw_X9_advances_X9 (by decide) lk_X9_advances_83 rfl tyX9 tyX9_ok nmX9 rfl (by decide +kernel) rfl rfl dX9_advances_232 ?_
          refine px_nmS eS15 ?_
          exact px_vretE C dX9_advances_235 h
        clear h
        have h := hr202_18
        clear hr202_18
        refine px_icmp_ne C (tgt := 209) dX9_advances_202 (by decide) (fun c202_11 => ?_) (fun c202_11 => ?_)
        · replace h := el_t c202_11 h
          refine px_iload_n C 0 dX9_advances_209 rfl rfl ?_
          refine px_bipush C (v := (114 : Int32)) dX9_advances_210 (by decide) ?_
          refine px_icmp_eq C (tgt := 227) dX9_advances_212 (by decide) (fun c212_15 => ?_) (fun c212_15 => ?_)
          · replace h := el_t c212_15 h
            refine px_iconst C (v := (1 : Int32)) dX9_advances_227 (by decide) ?_
            refine px_goto C (tgt := 232) dX9_advances_228 (by decide) ?_
            cases h
            exact px_sub [1, 0] rfl hj202_13
          · replace h := el_f c212_15 h
            refine px_iload_n C 0 dX9_advances_215 rfl rfl ?_
            refine px_bipush C (v := (98 : Int32)) dX9_advances_216 (by decide) ?_
            refine px_icmp_eq C (tgt := 227) dX9_advances_218 (by decide) (fun c218_16 => ?_) (fun c218_16 => ?_)
            · replace h := el_t c218_16 h
              refine px_iconst C (v := (1 : Int32)) dX9_advances_227 (by decide) ?_
              refine px_goto C (tgt := 232) dX9_advances_228 (by decide) ?_
              cases h
              exact px_sub [1, 0] rfl hj202_13
            · replace h := el_f c218_16 h
              refine px_iload_n C 0 dX9_advances_221 rfl rfl ?_
              refine px_bipush C (v := (99 : Int32)) dX9_advances_222 (by decide) ?_
              refine px_icmp_ne C (tgt := 231) dX9_advances_224 (by decide) (fun c224_17 => ?_) (fun c224_17 => ?_)
              · replace h := el_t c224_17 h
                refine px_iconst C (v := (4 : Int32)) dX9_advances_231 (by decide) ?_
                cases h
                exact px_sub [1, 0] rfl hj202_13
              · replace h := el_fn c224_17 h
                refine px_iconst C (v := (1 : Int32)) dX9_advances_227 (by decide) ?_
                refine px_goto C (tgt := 232) dX9_advances_228 (by decide) ?_
                cases h
                exact px_sub [1, 0] rfl hj202_13
        · replace h := el_fn c202_11 h
          refine px_iconst C (v := (3 : Int32)) dX9_advances_205 (by decide) ?_
          refine px_goto C (tgt := 232) dX9_advances_206 (by decide) ?_
          cases h
          exact px_sub [1, 0] rfl hj202_13
      · replace h := el_f c63_8 h
        refine px_aload_n C 1 dX9_advances_66 rfl rfl ?_
        refine px_iconst C (v := (0 : Int32)) dX9_advances_67 (by decide) ?_
        obtain ⟨S20, eS20, h⟩ := el_lt h
        refine px_puti C (ty := .int) (j := 7) km_0 rfl rfl iw_X9_advances_X9 (by decide) lk_X9_advances_86 rfl tyX9 tyX9_ok nmX9 rfl (by decide +kernel) rfl rfl dX9_advances_68 ?_
        refine px_nmS eS20 ?_
        have hx1 : ∀  (S22 : St), m_X9_advances_r1 x5 S22 = some S' → PW p l e { frames := 1, cells := 0, slots := 0, locals := 22 } s m args below meth c (MQ below (QX KM A D cI c1 F ad none S') args s 0 0 A) D A cI c1 F KM ad 2 0 0 S22 [(0, .ref (ad 0)), (1, .int x5)] 142 [] := by
          intro S22 h
          rw [m_X9_advances_r1] at h
          refine px_aload_n C 0 dX9_advances_142 rfl rfl ?_
          refine px_aload_n C 0 dX9_advances_143 rfl rfl ?_
          refine px_geti C (j := 7) km_0 rfl rfl iw_X9_advances_X9 (by decide) lk_X9_advances_86 rfl dX9_advances_144 ?_
          refine px_sipush C (v := (900 : Int32)) dX9_advances_147 (by decide) ?_
          obtain ⟨x24, hr150_28, h⟩ := el_b h
          have hj150_24 : PW p l e { frames := 1, cells := 0, slots := 0, locals := 22 } s m args below meth c (MQ below (QX KM A D cI c1 F ad none S') args s 0 0 A) D A cI c1 F KM ad 2 0 0 S22 [(0, .ref (ad 0)), (1, .int x5)] 177 [.int x24, .ref (ad 0)] := by
            obtain ⟨S26, eS26, h⟩ := el_lt h
            refine px_puti C (ty := .int) (j := 5) km_0 rfl rfl iw_X9_advances_X9 (by decide) lk_X9_advances_83 rfl tyX9 tyX9_ok nmX9 rfl (by decide +kernel) rfl rfl dX9_advances_177 ?_
            refine px_nmS eS26 ?_
            refine px_goto C (tgt := 235) dX9_advances_180 (by decide) ?_
            exact px_vretE C dX9_advances_235 h
          clear h
          have h := hr150_28
          clear hr150_28
          refine px_icmp_gt C (tgt := 172) dX9_advances_150 (by decide) (fun c150_22 => ?_) (fun c150_22 => ?_)
          · replace h := el_t c150_22 h
            refine px_iconst C (v := (4 : Int32)) dX9_advances_172 (by decide) ?_
            refine px_goto C (tgt := 177) dX9_advances_173 (by decide) ?_
            cases h
            exact hj150_24
          · replace h := el_f c150_22 h
            refine px_iload_n C 1 dX9_advances_153 rfl rfl ?_
            refine px_bipush C (v := (48 : Int32)) dX9_advances_154 (by decide) ?_
            refine px_icmp_ne C (tgt := 176) dX9_advances_156 (by decide) (fun c156_26 => ?_) (fun c156_26 => ?_)
            · replace h := el_t c156_26 h
              refine px_iconst C (v := (2 : Int32)) dX9_advances_176 (by decide) ?_
              cases h
              exact hj150_24
            · replace h := el_fn c156_26 h
              refine px_aload_n C 0 dX9_advances_159 rfl rfl ?_
              refine px_geti C (j := 4) km_0 rfl rfl iw_X9_advances_X9 (by decide) lk_X9_advances_73 rfl dX9_advances_160 ?_
              refine px_aload_n C 0 dX9_advances_163 rfl rfl ?_
              refine px_geti C (j := 6) km_0 rfl rfl iw_X9_advances_X9 (by decide) lk_X9_advances_80 rfl dX9_advances_164 ?_
              refine px_isub C dX9_advances_167 ?_
              refine px_iconst C (v := (1 : Int32)) dX9_advances_168 (by decide) ?_
              refine px_icmp_le C (tgt := 176) dX9_advances_169 (by decide) (fun c169_27 => ?_) (fun c169_27 => ?_)
              · replace h := el_t c169_27 h
                refine px_iconst C (v := (2 : Int32)) dX9_advances_176 (by decide) ?_
                cases h
                exact hj150_24
              · replace h := el_f c169_27 h
                refine px_iconst C (v := (4 : Int32)) dX9_advances_172 (by decide) ?_
                refine px_goto C (tgt := 177) dX9_advances_173 (by decide) ?_
                cases h
                exact hj150_24
        have hl1 : ∀ (n_1 : Nat) (S21 : St), m_X9_advances_L1 (m_X9_advances_r1 x5) n_1 S21 = some S' → PW p l e { frames := 1, cells := 0, slots := 0, locals := 22 } s m args below meth c (MQ below (QX KM A D cI c1 F ad none S') args s 0 0 A) D A cI c1 F KM ad 2 0 0 S21 [(0, .ref (ad 0)), (1, .int x5)] 71 [] := by
          intro n_1
          induction n_1 with
          | zero =>
            intro S21 h
            rw [m_X9_advances_L1_z] at h
            cases h
          | succ n_1 ih1 =>
            intro S21 h
            rw [m_X9_advances_L1_s] at h
            refine px_aload_n C 0 dX9_advances_71 rfl rfl ?_
            refine px_aload_n C 0 dX9_advances_72 rfl rfl ?_
            refine px_geti C (j := 4) km_0 rfl rfl iw_X9_advances_X9 (by decide) lk_X9_advances_73 rfl dX9_advances_73 ?_
            obtain ⟨x31, hc76_29, h⟩ := el_b h
            refine px_callV1 C (c_X9_letterAt l tA tB ad S21 (S21.1 0 4) hc76_29) (cwV 1 C.2.2.2.2.1 gX9_advances_X9_letterAt rfl rfl rfl (by decide +kernel) ⟨Nat.le_of_ble_eq_true rfl, Nat.le_of_ble_eq_true rfl⟩) ⟨Nat.zero_le _, Nat.zero_le _⟩ km_0 rfl rfl rfl (Nat.le_of_ble_eq_true rfl) dX9_advances_76 ?_
            refine px_bipush C (v := (48 : Int32)) dX9_advances_79 (by decide) ?_
            refine px_bipush C (v := (57 : Int32)) dX9_advances_81 (by decide) ?_
            obtain ⟨x33, hc83_31, h⟩ := el_b h
            refine px_callS1 C (c_X9_in l tA tB ad S21 x31 (48 : Int32) (57 : Int32) hc83_31) (va_cwS 3 C.2.2.2.2.1 gX9_advances_X9_in rfl rfl rfl (by decide +kernel) ⟨Nat.le_of_ble_eq_true rfl, Nat.le_of_ble_eq_true rfl⟩) ⟨Nat.zero_le _, Nat.zero_le _⟩ rfl rfl (Nat.le_of_ble_eq_true rfl) dX9_advances_83 ?_
            refine px_if_eq C (tgt := 142) dX9_advances_86 (by decide) (fun c86_33 => ?_) (fun c86_33 => ?_)
            · replace h := el_t c86_33 h
              exact (hx1 _ h)
            · replace h := el_f c86_33 h
              refine px_aload_n C 0 dX9_advances_89 rfl rfl ?_
              refine px_aload_n C 0 dX9_advances_90 rfl rfl ?_
              refine px_geti C (j := 7) km_0 rfl rfl iw_X9_advances_X9 (by decide) lk_X9_advances_86 rfl dX9_advances_91 ?_
              refine px_sipush C (v := (900 : Int32)) dX9_advances_94 (by decide) ?_
              obtain ⟨x36, hr97_41, h⟩ := el_b h
              have hj97_36 : PW p l e { frames := 1, cells := 0, slots := 0, locals := 22 } s m args below meth c (MQ below (QX KM A D cI c1 F ad none S') args s 0 0 A) D A cI c1 F KM ad 2 0 0 S21 [(0, .ref (ad 0)), (1, .int x5)] 126 [.int x36, .ref (ad 0)] := by
                obtain ⟨S38, eS38, h⟩ := el_lt h
                refine px_puti C (ty := .int) (j := 7) km_0 rfl rfl iw_X9_advances_X9 (by decide) lk_X9_advances_86 rfl tyX9 tyX9_ok nmX9 rfl (by decide +kernel) rfl rfl dX9_advances_126 ?_
                refine px_nmS eS38 ?_
                refine px_aload_n C 0 dX9_advances_129 rfl rfl ?_
                refine px_dup C dX9_advances_130 rfl ?_
                refine px_geti C (j := 4) km_0 rfl rfl iw_X9_advances_X9 (by decide) lk_X9_advances_73 rfl dX9_advances_131 ?_
                refine px_iconst C (v := (1 : Int32)) dX9_advances_134 (by decide) ?_
                refine px_iadd C dX9_advances_135 ?_
                obtain ⟨S39, eS39, h⟩ := el_lt h
                refine px_puti C (ty := .int) (j := 4) km_0 rfl rfl iw_X9_advances_X9 (by decide) lk_X9_advances_73 rfl tyX9 tyX9_ok nmX9 rfl (by decide +kernel) rfl rfl dX9_advances_136 ?_
                refine px_nmS eS39 ?_
                refine px_goto C (tgt := 71) dX9_advances_139 (by decide) ?_
                exact (ih1 _ h)
              clear h
              have h := hr97_41
              clear hr97_41
              refine px_icmp_le C (tgt := 107) dX9_advances_97 (by decide) (fun c97_34 => ?_) (fun c97_34 => ?_)
              · replace h := el_t c97_34 h
                refine px_bipush C (v := (10 : Int32)) dX9_advances_107 (by decide) ?_
                refine px_aload_n C 0 dX9_advances_109 rfl rfl ?_
                refine px_geti C (j := 7) km_0 rfl rfl iw_X9_advances_X9 (by decide) lk_X9_advances_86 rfl dX9_advances_110 ?_
                refine px_imul C dX9_advances_113 ?_
                refine px_aload_n C 0 dX9_advances_114 rfl rfl ?_
                refine px_aload_n C 0 dX9_advances_115 rfl rfl ?_
                refine px_geti C (j := 4) km_0 rfl rfl iw_X9_advances_X9 (by decide) lk_X9_advances_73 rfl dX9_advances_116 ?_
                obtain ⟨x41, hc119_39, h⟩ := el_b h
                refine px_callV1 C (c_X9_letterAt l tA tB ad S21 (S21.1 0 4) hc119_39) (cwV 1 C.2.2.2.2.1 gX9_advances_X9_letterAt rfl rfl rfl (by decide +kernel) ⟨Nat.le_of_ble_eq_true rfl, Nat.le_of_ble_eq_true rfl⟩) ⟨Nat.zero_le _, Nat.zero_le _⟩ km_0 rfl rfl rfl (Nat.le_of_ble_eq_true rfl) dX9_advances_119 ?_
                refine px_iadd C dX9_advances_122 ?_
                refine px_bipush C (v := (48 : Int32)) dX9_advances_123 (by decide) ?_
                refine px_isub C dX9_advances_125 ?_
                cases h
                exact hj97_36
              · replace h := el_f c97_34 h
                refine px_aload_n C 0 dX9_advances_100 rfl rfl ?_
                refine px_geti C (j := 7) km_0 rfl rfl iw_X9_advances_X9 (by decide) lk_X9_advances_86 rfl dX9_advances_101 ?_
                refine px_goto C (tgt := 126) dX9_advances_104 (by decide) ?_
                cases h
                exact hj97_36
        exact px_sub [1, 0] rfl (hl1 _ _ h)
    · replace h := el_f c44_5 h
      refine px_aload_n C 1 dX9_advances_47 rfl rfl ?_
      refine px_iconst C (v := (0 : Int32)) dX9_advances_48 (by decide) ?_
      obtain ⟨S43, eS43, h⟩ := el_lt h
      refine px_puti C (ty := .int) (j := 5) km_0 rfl rfl iw_X9_advances_X9 (by decide) lk_X9_advances_83 rfl tyX9 tyX9_ok nmX9 rfl (by decide +kernel) rfl rfl dX9_advances_49 ?_
      refine px_nmS eS43 ?_
      refine px_goto C (tgt := 235) dX9_advances_52 (by decide) ?_
      exact px_vretE C dX9_advances_235 h
  have hl0 : ∀ (n_0 : Nat) (S1 : St), m_X9_advances_L0 (m_X9_advances_r0 fu) n_0 S1 = some S' → PW p l e { frames := 1, cells := 0, slots := 0, locals := 22 } s m args below meth c (MQ below (QX KM A D cI c1 F ad none S') args s 0 0 A) D A cI c1 F KM ad 2 0 0 S1 [(0, .ref (ad 0))] 0 [] := by
    intro n_0
    induction n_0 with
    | zero =>
      intro S1 h
      rw [m_X9_advances_L0_z] at h
      cases h
    | succ n_0 ih0 =>
      intro S1 h
      rw [m_X9_advances_L0_s] at h
      refine px_aload_n C 0 dX9_advances_0 rfl rfl ?_
      refine px_aload_n C 0 dX9_advances_1 rfl rfl ?_
      refine px_geti C (j := 4) km_0 rfl rfl iw_X9_advances_X9 (by decide) lk_X9_advances_73 rfl dX9_advances_2 ?_
      obtain ⟨x45, hc5_43, h⟩ := el_b h
      refine px_callV1 C (c_X9_letterAt l tA tB ad S1 (S1.1 0 4) hc5_43) (cwV 1 C.2.2.2.2.1 gX9_advances_X9_letterAt rfl rfl rfl (by decide +kernel) ⟨Nat.le_of_ble_eq_true rfl, Nat.le_of_ble_eq_true rfl⟩) ⟨Nat.zero_le _, Nat.zero_le _⟩ km_0 rfl rfl rfl (Nat.le_of_ble_eq_true rfl) dX9_advances_5 ?_
      refine px_bipush C (v := (32 : Int32)) dX9_advances_8 (by decide) ?_
      refine px_icmp_ne C (tgt := 26) dX9_advances_10 (by decide) (fun c10_45 => ?_) (fun c10_45 => ?_)
      · replace h := el_t c10_45 h
        exact (hx0 _ h)
      · replace h := el_fn c10_45 h
        refine px_aload_n C 0 dX9_advances_13 rfl rfl ?_
        refine px_dup C dX9_advances_14 rfl ?_
        refine px_geti C (j := 4) km_0 rfl rfl iw_X9_advances_X9 (by decide) lk_X9_advances_73 rfl dX9_advances_15 ?_
        refine px_iconst C (v := (1 : Int32)) dX9_advances_18 (by decide) ?_
        refine px_iadd C dX9_advances_19 ?_
        obtain ⟨S47, eS47, h⟩ := el_lt h
        refine px_puti C (ty := .int) (j := 4) km_0 rfl rfl iw_X9_advances_X9 (by decide) lk_X9_advances_73 rfl tyX9 tyX9_ok nmX9 rfl (by decide +kernel) rfl rfl dX9_advances_20 ?_
        refine px_nmS eS47 ?_
        refine px_goto C (tgt := 0) dX9_advances_23 (by decide) ?_
        exact (ih0 _ h)
  exact (hl0 _ _ h)
theorem lk_X9_ahead_13 : Cond.fieldLink RX9 13 "RiverTollsModel" "many" "[I" ∈ wsX9_ahead := List.mem_of_getElem? (i := 1) rfl
theorem lk_X9_ahead_31 : Cond.fieldLink RX9 31 "RiverTollsModel" "s" "[I" ∈ wsX9_ahead := List.mem_of_getElem? (i := 2) rfl
theorem iw_X9_ahead_X9 : ∀ w ∈ u_ws RX9 TX9 28, w ∈ wsX9_ahead := fun _ h9 => (List.mem_cons_of_mem _ (List.mem_append_right _ h9))
set_option maxHeartbeats 4000000 in
set_option maxRecDepth 100000 in
theorem c_X9_ahead (l : Launch) (tA tB : Nat) (ad : Nat → Nat) (S : St) {rv : Int32} (h : m_X9_ahead S = some rv) :
    XMet l yX9_ahead wsX9_ahead ({ frames := 0, cells := 0, slots := 0, locals := 0 }) KM .boolean tA tB [.ref (ad 0)] ad S (some (.int rv)) S := by
  refine XMet.of (cc := cX9_ahead) (maxL := 1) (ret := (some .int)) (own := RX9) (lv := [(0, .ref (ad 0))]) rfl (by decide) rfl (Nat.le_of_ble_eq_true rfl) rfl ?_
  intro p e s m args below meth c D A cI c1 F C
  rw [m_X9_ahead] at h
  refine px_iconst C (v := (1 : Int32)) dX9_ahead_0 (by decide) ?_
  refine px_aload_n C 0 dX9_ahead_1 rfl rfl ?_
  refine px_getr C (j := 9) km_0 rfl rfl iw_X9_ahead_X9 (by decide) lk_X9_ahead_13 rfl dX9_ahead_2 ?_
  refine px_iconst C (v := (0 : Int32)) dX9_ahead_5 (by decide) ?_
  refine px_iald C km_2 (j := 0) (by unfold vp_in; decide) (by decide) dX9_ahead_6 ?_
  refine px_ishl C dX9_ahead_7 ?_
  refine px_iconst C (v := (1 : Int32)) dX9_ahead_8 (by decide) ?_
  refine px_aload_n C 0 dX9_ahead_9 rfl rfl ?_
  refine px_getr C (j := 16) km_0 rfl rfl iw_X9_ahead_X9 (by decide) lk_X9_ahead_31 rfl dX9_ahead_10 ?_
  refine px_iconst C (v := (0 : Int32)) dX9_ahead_13 (by decide) ?_
  refine px_iald C km_8 (j := 0) (by unfold vp_in; decide) (by decide) dX9_ahead_14 ?_
  refine px_ishl C dX9_ahead_15 ?_
  refine px_isub C dX9_ahead_16 ?_
  exact px_iretE C dX9_ahead_17 h
theorem lk_X9_asNow_31 : Cond.fieldLink RX9 31 "RiverTollsModel" "s" "[I" ∈ wsX9_asNow := List.mem_of_getElem? (i := 2) rfl
theorem lk_X9_asNow_34 : Cond.fieldLink RX9 34 "RiverTollsModel" "w" "[I" ∈ wsX9_asNow := List.mem_of_getElem? (i := 1) rfl
theorem iw_X9_asNow_X9 : ∀ w ∈ u_ws RX9 TX9 28, w ∈ wsX9_asNow := fun _ h9 => (List.mem_cons_of_mem _ (List.mem_append_right _ h9))
set_option maxHeartbeats 4000000 in
set_option maxRecDepth 100000 in
theorem c_X9_asNow (l : Launch) (tA tB : Nat) (ad : Nat → Nat) (fu : Nat) (S : St) {S' : St} (h : m_X9_asNow fu S = some S') :
    XMet l yX9_asNow wsX9_asNow ({ frames := 0, cells := 0, slots := 0, locals := 0 }) KM .boolean tA tB [.ref (ad 0)] ad S none S' := by
  refine XMet.of (cc := cX9_asNow) (maxL := 2) (ret := none) (own := RX9) (lv := [(0, .ref (ad 0))]) rfl (by decide) rfl (Nat.le_of_ble_eq_true rfl) rfl ?_
  intro p e s m args below meth c D A cI c1 F C
  rw [m_X9_asNow] at h
  refine px_iconst C (v := (0 : Int32)) dX9_asNow_0 (by decide) ?_
  refine px_istore_n C [(1, .int (0 : Int32)), (0, .ref (ad 0))] dX9_asNow_1 rfl (by decide) rfl ?_
  have hx0 : ∀  (x3 : Int32) (S4 : St), m_X9_asNow_r0 x3 S4 = some S' → PW p l e { frames := 0, cells := 0, slots := 0, locals := 0 } s m args below meth c (MQ below (QX KM A D cI c1 F ad none S') args s 0 0 A) D A cI c1 F KM ad 2 0 0 S4 [(0, .ref (ad 0)), (1, .int x3)] 26 [] := by
    intro x3 S4 h
    rw [m_X9_asNow_r0] at h
    exact px_vretE C dX9_asNow_26 h
  have hl0 : ∀ (n_0 : Nat) (x1 : Int32) (S2 : St), m_X9_asNow_L0 m_X9_asNow_r0 n_0 x1 S2 = some S' → PW p l e { frames := 0, cells := 0, slots := 0, locals := 0 } s m args below meth c (MQ below (QX KM A D cI c1 F ad none S') args s 0 0 A) D A cI c1 F KM ad 2 0 0 S2 [(0, .ref (ad 0)), (1, .int x1)] 2 [] := by
    intro n_0
    induction n_0 with
    | zero =>
      intro x1 S2 h
      rw [m_X9_asNow_L0_z] at h
      cases h
    | succ n_0 ih0 =>
      intro x1 S2 h
      rw [m_X9_asNow_L0_s] at h
      refine px_iload_n C 1 dX9_asNow_2 rfl rfl ?_
      refine px_bipush C (v := (18 : Int32)) dX9_asNow_3 (by decide) ?_
      refine px_icmp_ge C (tgt := 26) dX9_asNow_5 (by decide) (fun c5_4 => ?_) (fun c5_4 => ?_)
      · replace h := el_t c5_4 h
        exact (hx0 _ _ h)
      · replace h := el_f c5_4 h
        refine px_aload_n C 0 dX9_asNow_8 rfl rfl ?_
        refine px_getr C (j := 17) km_0 rfl rfl iw_X9_asNow_X9 (by decide) lk_X9_asNow_34 rfl dX9_asNow_9 ?_
        refine px_iload_n C 1 dX9_asNow_12 rfl rfl ?_
        refine px_aload_n C 0 dX9_asNow_13 rfl rfl ?_
        refine px_getr C (j := 16) km_0 rfl rfl iw_X9_asNow_X9 (by decide) lk_X9_asNow_31 rfl dX9_asNow_14 ?_
        refine px_iload_n C 1 dX9_asNow_17 rfl rfl ?_
        obtain ⟨hix6, x6, ex6, h⟩ := el_ald h
        refine px_iald C km_8 hix6 rfl dX9_asNow_18 ?_
        refine px_nm ex6 ?_
        obtain ⟨hiS7, S7, eS7, h⟩ := el_ast h
        refine px_iast C km_9 hiS7 rfl dX9_asNow_19 ?_
        refine px_nmS eS7 ?_
        refine px_iinc C 1 [(1, .int (x1 + (1 : Int32))), (0, .ref (ad 0))] dX9_asNow_20 rfl rfl (by decide) rfl ?_
        refine px_goto C (tgt := 2) dX9_asNow_23 (by decide) ?_
        exact px_sub [1, 0] rfl (ih0 _ _ h)
  exact px_sub [1, 0] rfl (hl0 _ _ _ h)
theorem lk_X9_back_31 : Cond.fieldLink RX9 31 "RiverTollsModel" "s" "[I" ∈ wsX9_back := List.mem_of_getElem? (i := 3) rfl
theorem lk_X9_back_37 : Cond.fieldLink RX9 37 "RiverTollsModel" "kept" "[I" ∈ wsX9_back := List.mem_of_getElem? (i := 4) rfl
theorem lk_X9_back_40 : Cond.fieldLink RX9 40 "RiverTollsModel" "isKept" "[Z" ∈ wsX9_back := List.mem_of_getElem? (i := 2) rfl
theorem lk_X9_back_62 : Cond.fieldLink RX9 62 "RiverTollsModel" "thrown" "I" ∈ wsX9_back := List.mem_of_getElem? (i := 1) rfl
theorem lk_X9_back_120 : Cond.fieldLink RX9 120 "RiverTollsModel" "undoMany" "I" ∈ wsX9_back := List.mem_of_getElem? (i := 5) rfl
theorem iw_X9_back_X9 : ∀ w ∈ u_ws RX9 TX9 28, w ∈ wsX9_back := fun _ h9 => (List.mem_cons_of_mem _ (List.mem_append_right _ h9))
set_option maxHeartbeats 4000000 in
set_option maxRecDepth 100000 in
theorem c_X9_back (l : Launch) (tA tB : Nat) (ad : Nat → Nat) (fu : Nat) (S : St) (a1 : Int32) {rv : Int32} {S' : St} (h : m_X9_back fu S a1 = some (rv, S')) :
    XMet l yX9_back wsX9_back ({ frames := 1, cells := 0, slots := 0, locals := 22 }) KM .boolean tA tB [.ref (ad 0), .int a1] ad S (some (.int rv)) S' := by
  refine XMet.of (cc := cX9_back) (maxL := 3) (ret := (some .int)) (own := RX9) (lv := [(0, .ref (ad 0)), (1, .int a1)]) rfl (by decide) rfl (Nat.le_of_ble_eq_true rfl) rfl ?_
  intro p e s m args below meth c D A cI c1 F C
  rw [m_X9_back] at h
  refine px_aload_n C 0 dX9_back_0 rfl rfl ?_
  refine px_iconst C (v := (0 : Int32)) dX9_back_1 (by decide) ?_
  obtain ⟨S1, eS1, h⟩ := el_lt h
  refine px_puti C (ty := .int) (j := 0) km_0 rfl rfl iw_X9_back_X9 (by decide) lk_X9_back_62 rfl tyX9 tyX9_ok nmX9 rfl (by decide +kernel) rfl rfl dX9_back_2 ?_
  refine px_nmS eS1 ?_
  refine px_iload_n C 1 dX9_back_5 rfl rfl ?_
  refine px_iconst C (v := (0 : Int32)) dX9_back_6 (by decide) ?_
  refine px_iconst C (v := (1 : Int32)) dX9_back_7 (by decide) ?_
  obtain ⟨x3, hc8_1, h⟩ := el_b h
  refine px_callS1 C (c_X9_in l tA tB ad S1 a1 (0 : Int32) (1 : Int32) hc8_1) (va_cwS 3 C.2.2.2.2.1 gX9_back_X9_in rfl rfl rfl (by decide +kernel) ⟨Nat.le_of_ble_eq_true rfl, Nat.le_of_ble_eq_true rfl⟩) ⟨Nat.zero_le _, Nat.zero_le _⟩ rfl rfl (Nat.le_of_ble_eq_true rfl) dX9_back_8 ?_
  refine px_if_ne C (tgt := 16) dX9_back_11 (by decide) (fun c11_3 => ?_) (fun c11_3 => ?_)
  · replace h := el_t c11_3 h
    refine px_aload_n C 0 dX9_back_16 rfl rfl ?_
    refine px_getr C (j := 19) km_0 rfl rfl iw_X9_back_X9 (by decide) lk_X9_back_40 rfl dX9_back_17 ?_
    refine px_iload_n C 1 dX9_back_20 rfl rfl ?_
    obtain ⟨hix5, x5, ex5, h⟩ := el_ald h
    refine px_zald C rfl km_11 hix5 rfl dX9_back_21 ?_
    refine px_nm ex5 ?_
    refine px_if_ne C (tgt := 28) dX9_back_22 (by decide) (fun c22_5 => ?_) (fun c22_5 => ?_)
    · replace h := el_t c22_5 h
      refine px_iconst C (v := (0 : Int32)) dX9_back_28 (by decide) ?_
      refine px_istore_n C [(2, .int (0 : Int32)), (0, .ref (ad 0)), (1, .int a1)] dX9_back_29 rfl (by decide) rfl ?_
      have hx0 : ∀  (x9 : Int32) (S10 : St), m_X9_back_r0 x9 S10 = some (rv, S') → PW p l e { frames := 1, cells := 0, slots := 0, locals := 22 } s m args below meth c (MQ below (QX KM A D cI c1 F ad (some (.int rv)) S') args s 0 0 A) D A cI c1 F KM ad 3 0 0 S10 [(0, .ref (ad 0)), (1, .int a1), (2, .int x9)] 59 [] := by
        intro x9 S10 h
        rw [m_X9_back_r0] at h
        refine px_aload_n C 0 dX9_back_59 rfl rfl ?_
        refine px_iconst C (v := (0 : Int32)) dX9_back_60 (by decide) ?_
        obtain ⟨S11, eS11, h⟩ := el_lt h
        refine px_puti C (ty := .int) (j := 21) km_0 rfl rfl iw_X9_back_X9 (by decide) lk_X9_back_120 rfl tyX9 tyX9_ok nmX9 rfl (by decide +kernel) rfl rfl dX9_back_61 ?_
        refine px_nmS eS11 ?_
        refine px_aload_n C 0 dX9_back_64 rfl rfl ?_
        refine px_getr C (j := 16) km_0 rfl rfl iw_X9_back_X9 (by decide) lk_X9_back_31 rfl dX9_back_65 ?_
        refine px_iconst C (v := (0 : Int32)) dX9_back_68 (by decide) ?_
        refine px_iald C km_8 (j := 0) (by unfold vp_in; decide) (by decide) dX9_back_69 ?_
        exact px_iretES C dX9_back_70 h
      have hl0 : ∀ (n_0 : Nat) (x7 : Int32) (S8 : St), m_X9_back_L0 a1 m_X9_back_r0 n_0 x7 S8 = some (rv, S') → PW p l e { frames := 1, cells := 0, slots := 0, locals := 22 } s m args below meth c (MQ below (QX KM A D cI c1 F ad (some (.int rv)) S') args s 0 0 A) D A cI c1 F KM ad 3 0 0 S8 [(0, .ref (ad 0)), (1, .int a1), (2, .int x7)] 30 [] := by
        intro n_0
        induction n_0 with
        | zero =>
          intro x7 S8 h
          rw [m_X9_back_L0_z] at h
          cases h
        | succ n_0 ih0 =>
          intro x7 S8 h
          rw [m_X9_back_L0_s] at h
          refine px_iload_n C 2 dX9_back_30 rfl rfl ?_
          refine px_bipush C (v := (18 : Int32)) dX9_back_31 (by decide) ?_
          refine px_icmp_ge C (tgt := 59) dX9_back_33 (by decide) (fun c33_11 => ?_) (fun c33_11 => ?_)
          · replace h := el_t c33_11 h
            exact (hx0 _ _ h)
          · replace h := el_f c33_11 h
            refine px_aload_n C 0 dX9_back_36 rfl rfl ?_
            refine px_getr C (j := 16) km_0 rfl rfl iw_X9_back_X9 (by decide) lk_X9_back_31 rfl dX9_back_37 ?_
            refine px_iload_n C 2 dX9_back_40 rfl rfl ?_
            refine px_aload_n C 0 dX9_back_41 rfl rfl ?_
            refine px_getr C (j := 18) km_0 rfl rfl iw_X9_back_X9 (by decide) lk_X9_back_37 rfl dX9_back_42 ?_
            refine px_bipush C (v := (18 : Int32)) dX9_back_45 (by decide) ?_
            refine px_iload_n C 1 dX9_back_47 rfl rfl ?_
            refine px_imul C dX9_back_48 ?_
            refine px_iload_n C 2 dX9_back_49 rfl rfl ?_
            refine px_iadd C dX9_back_50 ?_
            obtain ⟨hix13, x13, ex13, h⟩ := el_ald h
            refine px_iald C km_10 hix13 rfl dX9_back_51 ?_
            refine px_nm ex13 ?_
            obtain ⟨hiS14, S14, eS14, h⟩ := el_ast h
            refine px_iast C km_8 hiS14 rfl dX9_back_52 ?_
            refine px_nmS eS14 ?_
            refine px_iinc C 2 [(2, .int (x7 + (1 : Int32))), (0, .ref (ad 0)), (1, .int a1)] dX9_back_53 rfl rfl (by decide) rfl ?_
            refine px_goto C (tgt := 30) dX9_back_56 (by decide) ?_
            exact px_sub [1, 2, 0] rfl (ih0 _ _ h)
      exact px_sub [1, 2, 0] rfl (hl0 _ _ _ h)
    · replace h := el_fn c22_5 h
      refine px_bipush C (v := (-2 : Int32)) dX9_back_25 (by decide) ?_
      exact px_iretES C dX9_back_27 h
  · replace h := el_fn c11_3 h
    refine px_iconst C (v := (-1 : Int32)) dX9_back_14 (by decide) ?_
    exact px_iretES C dX9_back_15 h
theorem lk_X9_isRock_13 : Cond.fieldLink RX9 13 "RiverTollsModel" "many" "[I" ∈ wsX9_isRock := List.mem_of_getElem? (i := 1) rfl
theorem iw_X9_isRock_X9 : ∀ w ∈ u_ws RX9 TX9 28, w ∈ wsX9_isRock := fun _ h9 => (List.mem_cons_of_mem _ (List.mem_append_right _ h9))
set_option maxHeartbeats 4000000 in
set_option maxRecDepth 100000 in
theorem c_X9_isRock (l : Launch) (tA tB : Nat) (ad : Nat → Nat) (S : St) (a1 : Int32) {rv : Int32} (h : m_X9_isRock S a1 = some rv) :
    XMet l yX9_isRock wsX9_isRock ({ frames := 1, cells := 0, slots := 0, locals := 22 }) KM .boolean tA tB [.ref (ad 0), .int a1] ad S (some (.int rv)) S := by
  refine XMet.of (cc := cX9_isRock) (maxL := 2) (ret := (some .boolean)) (own := RX9) (lv := [(0, .ref (ad 0)), (1, .int a1)]) rfl (by decide) rfl (Nat.le_of_ble_eq_true rfl) rfl ?_
  intro p e s m args below meth c D A cI c1 F C
  rw [m_X9_isRock] at h
  refine px_iload_n C 1 dX9_isRock_0 rfl rfl ?_
  refine px_iconst C (v := (0 : Int32)) dX9_isRock_1 (by decide) ?_
  refine px_aload_n C 0 dX9_isRock_2 rfl rfl ?_
  refine px_getr C (j := 9) km_0 rfl rfl iw_X9_isRock_X9 (by decide) lk_X9_isRock_13 rfl dX9_isRock_3 ?_
  refine px_iconst C (v := (0 : Int32)) dX9_isRock_6 (by decide) ?_
  refine px_iald C km_2 (j := 0) (by unfold vp_in; decide) (by decide) dX9_isRock_7 ?_
  refine px_iconst C (v := (1 : Int32)) dX9_isRock_8 (by decide) ?_
  refine px_isub C dX9_isRock_9 ?_
  obtain ⟨x2, hc10_0, h⟩ := el_b h
  refine px_callS1 C (c_X9_in l tA tB ad S a1 (0 : Int32) ((S.1 2 0) - (1 : Int32)) hc10_0) (va_cwS 3 C.2.2.2.2.1 gX9_isRock_X9_in rfl rfl rfl (by decide +kernel) ⟨Nat.le_of_ble_eq_true rfl, Nat.le_of_ble_eq_true rfl⟩) ⟨Nat.zero_le _, Nat.zero_le _⟩ rfl rfl (Nat.le_of_ble_eq_true rfl) dX9_isRock_10 ?_
  obtain ⟨hzb, h⟩ := el_zb h
  exact px_zretE C hzb dX9_isRock_13 h
theorem lk_X9_notes_31 : Cond.fieldLink RX9 31 "RiverTollsModel" "s" "[I" ∈ wsX9_notes := List.mem_of_getElem? (i := 3) rfl
theorem lk_X9_notes_44 : Cond.fieldLink RX9 44 "RiverTollsModel" "undos" "[I" ∈ wsX9_notes := List.mem_of_getElem? (i := 2) rfl
theorem lk_X9_notes_120 : Cond.fieldLink RX9 120 "RiverTollsModel" "undoMany" "I" ∈ wsX9_notes := List.mem_of_getElem? (i := 1) rfl
theorem iw_X9_notes_X9 : ∀ w ∈ u_ws RX9 TX9 28, w ∈ wsX9_notes := fun _ h9 => (List.mem_cons_of_mem _ (List.mem_append_right _ h9))
set_option maxHeartbeats 4000000 in
set_option maxRecDepth 100000 in
theorem c_X9_notes (l : Launch) (tA tB : Nat) (ad : Nat → Nat) (fu : Nat) (S : St) {S' : St} (h : m_X9_notes fu S = some S') :
    XMet l yX9_notes wsX9_notes ({ frames := 0, cells := 0, slots := 0, locals := 0 }) KM .boolean tA tB [.ref (ad 0)] ad S none S' := by
  refine XMet.of (cc := cX9_notes) (maxL := 2) (ret := none) (own := RX9) (lv := [(0, .ref (ad 0))]) rfl (by decide) rfl (Nat.le_of_ble_eq_true rfl) rfl ?_
  intro p e s m args below meth c D A cI c1 F C
  rw [m_X9_notes] at h
  refine px_aload_n C 0 dX9_notes_0 rfl rfl ?_
  refine px_geti C (j := 21) km_0 rfl rfl iw_X9_notes_X9 (by decide) lk_X9_notes_120 rfl dX9_notes_1 ?_
  refine px_bipush C (v := (10 : Int32)) dX9_notes_4 (by decide) ?_
  obtain ⟨S2, hr6_19, h⟩ := el_b h
  have hj6_2 : PW p l e { frames := 0, cells := 0, slots := 0, locals := 0 } s m args below meth c (MQ below (QX KM A D cI c1 F ad none S') args s 0 0 A) D A cI c1 F KM ad 2 0 0 S2 [(0, .ref (ad 0))] 45 [] := by
    refine px_iconst C (v := (0 : Int32)) dX9_notes_45 (by decide) ?_
    refine px_istore_n C [(1, .int (0 : Int32)), (0, .ref (ad 0))] dX9_notes_46 rfl (by decide) rfl ?_
    have hx0 : ∀  (x6 : Int32) (S7 : St), m_X9_notes_r0 x6 S7 = some S' → PW p l e { frames := 0, cells := 0, slots := 0, locals := 0 } s m args below meth c (MQ below (QX KM A D cI c1 F ad none S') args s 0 0 A) D A cI c1 F KM ad 2 0 0 S7 [(0, .ref (ad 0)), (1, .int x6)] 79 [] := by
      intro x6 S7 h
      rw [m_X9_notes_r0] at h
      refine px_aload_n C 0 dX9_notes_79 rfl rfl ?_
      refine px_dup C dX9_notes_80 rfl ?_
      refine px_geti C (j := 21) km_0 rfl rfl iw_X9_notes_X9 (by decide) lk_X9_notes_120 rfl dX9_notes_81 ?_
      refine px_iconst C (v := (1 : Int32)) dX9_notes_84 (by decide) ?_
      refine px_iadd C dX9_notes_85 ?_
      obtain ⟨S8, eS8, h⟩ := el_lt h
      refine px_puti C (ty := .int) (j := 21) km_0 rfl rfl iw_X9_notes_X9 (by decide) lk_X9_notes_120 rfl tyX9 tyX9_ok nmX9 rfl (by decide +kernel) rfl rfl dX9_notes_86 ?_
      refine px_nmS eS8 ?_
      exact px_vretE C dX9_notes_89 h
    have hl0 : ∀ (n_0 : Nat) (x4 : Int32) (S5 : St), m_X9_notes_L0 m_X9_notes_r0 n_0 x4 S5 = some S' → PW p l e { frames := 0, cells := 0, slots := 0, locals := 0 } s m args below meth c (MQ below (QX KM A D cI c1 F ad none S') args s 0 0 A) D A cI c1 F KM ad 2 0 0 S5 [(0, .ref (ad 0)), (1, .int x4)] 47 [] := by
      intro n_0
      induction n_0 with
      | zero =>
        intro x4 S5 h
        rw [m_X9_notes_L0_z] at h
        cases h
      | succ n_0 ih0 =>
        intro x4 S5 h
        rw [m_X9_notes_L0_s] at h
        refine px_iload_n C 1 dX9_notes_47 rfl rfl ?_
        refine px_bipush C (v := (18 : Int32)) dX9_notes_48 (by decide) ?_
        refine px_icmp_ge C (tgt := 79) dX9_notes_50 (by decide) (fun c50_8 => ?_) (fun c50_8 => ?_)
        · replace h := el_t c50_8 h
          exact (hx0 _ _ h)
        · replace h := el_f c50_8 h
          refine px_aload_n C 0 dX9_notes_53 rfl rfl ?_
          refine px_getr C (j := 20) km_0 rfl rfl iw_X9_notes_X9 (by decide) lk_X9_notes_44 rfl dX9_notes_54 ?_
          refine px_bipush C (v := (18 : Int32)) dX9_notes_57 (by decide) ?_
          refine px_aload_n C 0 dX9_notes_59 rfl rfl ?_
          refine px_geti C (j := 21) km_0 rfl rfl iw_X9_notes_X9 (by decide) lk_X9_notes_120 rfl dX9_notes_60 ?_
          refine px_imul C dX9_notes_63 ?_
          refine px_iload_n C 1 dX9_notes_64 rfl rfl ?_
          refine px_iadd C dX9_notes_65 ?_
          refine px_aload_n C 0 dX9_notes_66 rfl rfl ?_
          refine px_getr C (j := 16) km_0 rfl rfl iw_X9_notes_X9 (by decide) lk_X9_notes_31 rfl dX9_notes_67 ?_
          refine px_iload_n C 1 dX9_notes_70 rfl rfl ?_
          obtain ⟨hix10, x10, ex10, h⟩ := el_ald h
          refine px_iald C km_8 hix10 rfl dX9_notes_71 ?_
          refine px_nm ex10 ?_
          obtain ⟨hiS11, S11, eS11, h⟩ := el_ast h
          refine px_iast C km_12 hiS11 rfl dX9_notes_72 ?_
          refine px_nmS eS11 ?_
          refine px_iinc C 1 [(1, .int (x4 + (1 : Int32))), (0, .ref (ad 0))] dX9_notes_73 rfl rfl (by decide) rfl ?_
          refine px_goto C (tgt := 47) dX9_notes_76 (by decide) ?_
          exact px_sub [1, 0] rfl (ih0 _ _ h)
    exact px_sub [1, 0] rfl (hl0 _ _ _ h)
  clear h
  have h := hr6_19
  clear hr6_19
  refine px_icmp_ne C (tgt := 45) dX9_notes_6 (by decide) (fun c6_0 => ?_) (fun c6_0 => ?_)
  · replace h := el_t c6_0 h
    cases h
    exact hj6_2
  · replace h := el_fn c6_0 h
    refine px_iconst C (v := (0 : Int32)) dX9_notes_9 (by decide) ?_
    refine px_istore_n C [(1, .int (0 : Int32)), (0, .ref (ad 0))] dX9_notes_10 rfl (by decide) rfl ?_
    have hx1 : ∀  (x14 : Int32) (S15 : St), m_X9_notes_r1 x14 S15 = some S2 → PW p l e { frames := 0, cells := 0, slots := 0, locals := 0 } s m args below meth c (MQ below (QX KM A D cI c1 F ad none S') args s 0 0 A) D A cI c1 F KM ad 2 0 0 S15 [(0, .ref (ad 0)), (1, .int x14)] 39 [] := by
      intro x14 S15 h
      rw [m_X9_notes_r1] at h
      refine px_aload_n C 0 dX9_notes_39 rfl rfl ?_
      refine px_bipush C (v := (9 : Int32)) dX9_notes_40 (by decide) ?_
      obtain ⟨S16, eS16, h⟩ := el_lt h
      refine px_puti C (ty := .int) (j := 21) km_0 rfl rfl iw_X9_notes_X9 (by decide) lk_X9_notes_120 rfl tyX9 tyX9_ok nmX9 rfl (by decide +kernel) rfl rfl dX9_notes_42 ?_
      refine px_nmS eS16 ?_
      cases h
      exact px_sub [0] rfl hj6_2
    have hl1 : ∀ (n_1 : Nat) (x12 : Int32) (S13 : St), m_X9_notes_L1 m_X9_notes_r1 n_1 x12 S13 = some S2 → PW p l e { frames := 0, cells := 0, slots := 0, locals := 0 } s m args below meth c (MQ below (QX KM A D cI c1 F ad none S') args s 0 0 A) D A cI c1 F KM ad 2 0 0 S13 [(0, .ref (ad 0)), (1, .int x12)] 11 [] := by
      intro n_1
      induction n_1 with
      | zero =>
        intro x12 S13 h
        rw [m_X9_notes_L1_z] at h
        cases h
      | succ n_1 ih1 =>
        intro x12 S13 h
        rw [m_X9_notes_L1_s] at h
        refine px_iload_n C 1 dX9_notes_11 rfl rfl ?_
        refine px_sipush C (v := (162 : Int32)) dX9_notes_12 (by decide) ?_
        refine px_icmp_ge C (tgt := 39) dX9_notes_15 (by decide) (fun c15_16 => ?_) (fun c15_16 => ?_)
        · replace h := el_t c15_16 h
          exact (hx1 _ _ h)
        · replace h := el_f c15_16 h
          refine px_aload_n C 0 dX9_notes_18 rfl rfl ?_
          refine px_getr C (j := 20) km_0 rfl rfl iw_X9_notes_X9 (by decide) lk_X9_notes_44 rfl dX9_notes_19 ?_
          refine px_iload_n C 1 dX9_notes_22 rfl rfl ?_
          refine px_aload_n C 0 dX9_notes_23 rfl rfl ?_
          refine px_getr C (j := 20) km_0 rfl rfl iw_X9_notes_X9 (by decide) lk_X9_notes_44 rfl dX9_notes_24 ?_
          refine px_iload_n C 1 dX9_notes_27 rfl rfl ?_
          refine px_bipush C (v := (18 : Int32)) dX9_notes_28 (by decide) ?_
          refine px_iadd C dX9_notes_30 ?_
          obtain ⟨hix18, x18, ex18, h⟩ := el_ald h
          refine px_iald C km_12 hix18 rfl dX9_notes_31 ?_
          refine px_nm ex18 ?_
          obtain ⟨hiS19, S19, eS19, h⟩ := el_ast h
          refine px_iast C km_12 hiS19 rfl dX9_notes_32 ?_
          refine px_nmS eS19 ?_
          refine px_iinc C 1 [(1, .int (x12 + (1 : Int32))), (0, .ref (ad 0))] dX9_notes_33 rfl rfl (by decide) rfl ?_
          refine px_goto C (tgt := 11) dX9_notes_36 (by decide) ?_
          exact px_sub [1, 0] rfl (ih1 _ _ h)
    exact px_sub [1, 0] rfl (hl1 _ _ _ h)
set_option maxHeartbeats 4000000 in
set_option maxRecDepth 100000 in
theorem c_X9_ones (l : Launch) (tA tB : Nat) (ad : Nat → Nat) (fu : Nat) (S : St) (a0 : Int32) {rv : Int32} (h : m_X9_ones fu a0 = some rv) :
    XMet l yX9_ones wsX9_ones ({ frames := 0, cells := 0, slots := 0, locals := 0 }) KM .boolean tA tB [.int a0] ad S (some (.int rv)) S := by
  refine XMet.of (cc := cX9_ones) (maxL := 3) (ret := (some .int)) (own := RX9) (lv := [(0, .int a0)]) rfl (by decide) rfl (Nat.le_of_ble_eq_true rfl) rfl ?_
  intro p e s m args below meth c D A cI c1 F C
  rw [m_X9_ones] at h
  refine px_iconst C (v := (0 : Int32)) dX9_ones_0 (by decide) ?_
  refine px_istore_n C [(1, .int (0 : Int32)), (0, .int a0)] dX9_ones_1 rfl (by decide) rfl ?_
  refine px_iconst C (v := (0 : Int32)) dX9_ones_2 (by decide) ?_
  refine px_istore_n C [(2, .int (0 : Int32)), (1, .int (0 : Int32)), (0, .int a0)] dX9_ones_3 rfl (by decide) rfl ?_
  have hx0 : ∀  (x3 : Int32) (x4 : Int32), m_X9_ones_r0 x3 x4 = some rv → PW p l e { frames := 0, cells := 0, slots := 0, locals := 0 } s m args below meth c (MQ below (QX KM A D cI c1 F ad (some (.int rv)) S) args s 0 0 A) D A cI c1 F KM ad 3 0 0 S [(0, .int a0), (1, .int x3), (2, .int x4)] 24 [] := by
    intro x3 x4 h
    rw [m_X9_ones_r0] at h
    refine px_iload_n C 1 dX9_ones_24 rfl rfl ?_
    exact px_iretE C dX9_ones_25 h
  have hl0 : ∀ (n_0 : Nat) (x1 : Int32) (x2 : Int32), m_X9_ones_L0 a0 m_X9_ones_r0 n_0 x1 x2 = some rv → PW p l e { frames := 0, cells := 0, slots := 0, locals := 0 } s m args below meth c (MQ below (QX KM A D cI c1 F ad (some (.int rv)) S) args s 0 0 A) D A cI c1 F KM ad 3 0 0 S [(0, .int a0), (1, .int x1), (2, .int x2)] 4 [] := by
    intro n_0
    induction n_0 with
    | zero =>
      intro x1 x2 h
      rw [m_X9_ones_L0_z] at h
      cases h
    | succ n_0 ih0 =>
      intro x1 x2 h
      rw [m_X9_ones_L0_s] at h
      refine px_iload_n C 2 dX9_ones_4 rfl rfl ?_
      refine px_bipush C (v := (8 : Int32)) dX9_ones_5 (by decide) ?_
      refine px_icmp_ge C (tgt := 24) dX9_ones_7 (by decide) (fun c7_4 => ?_) (fun c7_4 => ?_)
      · replace h := el_t c7_4 h
        exact (hx0 _ _ h)
      · replace h := el_f c7_4 h
        refine px_iload_n C 1 dX9_ones_10 rfl rfl ?_
        refine px_iload_n C 0 dX9_ones_11 rfl rfl ?_
        refine px_iload_n C 2 dX9_ones_12 rfl rfl ?_
        refine px_ishr C dX9_ones_13 ?_
        refine px_iconst C (v := (1 : Int32)) dX9_ones_14 (by decide) ?_
        refine px_iand C dX9_ones_15 ?_
        refine px_iadd C dX9_ones_16 ?_
        obtain ⟨x6, ex6, h⟩ := el_lt h
        refine px_nm ex6 ?_
        refine px_istore_n C [(1, .int x6), (0, .int a0), (2, .int x2)] dX9_ones_17 rfl (by decide) rfl ?_
        refine px_iinc C 2 [(2, .int (x2 + (1 : Int32))), (1, .int x6), (0, .int a0)] dX9_ones_18 rfl rfl (by decide) rfl ?_
        refine px_goto C (tgt := 4) dX9_ones_21 (by decide) ?_
        exact px_sub [2, 1, 0] rfl (ih0 _ _ h)
  exact px_sub [2, 1, 0] rfl (hl0 _ _ _ h)
theorem lk_X9_breaks_31 : Cond.fieldLink RX9 31 "RiverTollsModel" "s" "[I" ∈ wsX9_breaks := List.mem_of_getElem? (i := 2) rfl
theorem lk_X9_breaks_62 : Cond.fieldLink RX9 62 "RiverTollsModel" "thrown" "I" ∈ wsX9_breaks := List.mem_of_getElem? (i := 1) rfl
theorem iw_X9_breaks_X9 : ∀ w ∈ u_ws RX9 TX9 28, w ∈ wsX9_breaks := fun _ h9 => (List.mem_cons_of_mem _ (List.mem_append_right _ h9))
set_option maxHeartbeats 4000000 in
set_option maxRecDepth 100000 in
theorem c_X9_breaks (l : Launch) (tA tB : Nat) (ad : Nat → Nat) (fu : Nat) (S : St) (a1 : Int32) {rv : Int32} {S' : St} (h : m_X9_breaks fu S a1 = some (rv, S')) :
    XMet l yX9_breaks wsX9_breaks ({ frames := 2, cells := 0, slots := 0, locals := 43 }) KM .boolean tA tB [.ref (ad 0), .int a1] ad S (some (.int rv)) S' := by
  refine XMet.of (cc := cX9_breaks) (maxL := 2) (ret := (some .int)) (own := RX9) (lv := [(0, .ref (ad 0)), (1, .int a1)]) rfl (by decide) rfl (Nat.le_of_ble_eq_true rfl) rfl ?_
  intro p e s m args below meth c D A cI c1 F C
  rw [m_X9_breaks] at h
  refine px_aload_n C 0 dX9_breaks_0 rfl rfl ?_
  refine px_iconst C (v := (0 : Int32)) dX9_breaks_1 (by decide) ?_
  obtain ⟨S1, eS1, h⟩ := el_lt h
  refine px_puti C (ty := .int) (j := 0) km_0 rfl rfl iw_X9_breaks_X9 (by decide) lk_X9_breaks_62 rfl tyX9 tyX9_ok nmX9 rfl (by decide +kernel) rfl rfl dX9_breaks_2 ?_
  refine px_nmS eS1 ?_
  refine px_aload_n C 0 dX9_breaks_5 rfl rfl ?_
  refine px_iload_n C 1 dX9_breaks_6 rfl rfl ?_
  obtain ⟨x3, hc7_1, h⟩ := el_b h
  refine px_callV1 C (c_X9_isRock l tA tB ad S1 a1 hc7_1) (cwV 1 C.2.2.2.2.1 gX9_breaks_X9_isRock rfl rfl rfl (by decide +kernel) ⟨Nat.le_of_ble_eq_true rfl, Nat.le_of_ble_eq_true rfl⟩) ⟨Nat.zero_le _, Nat.zero_le _⟩ km_0 rfl rfl rfl (Nat.le_of_ble_eq_true rfl) dX9_breaks_7 ?_
  refine px_if_ne C (tgt := 15) dX9_breaks_10 (by decide) (fun c10_3 => ?_) (fun c10_3 => ?_)
  · replace h := el_t c10_3 h
    refine px_aload_n C 0 dX9_breaks_15 rfl rfl ?_
    refine px_getr C (j := 16) km_0 rfl rfl iw_X9_breaks_X9 (by decide) lk_X9_breaks_31 rfl dX9_breaks_16 ?_
    refine px_iconst C (v := (5 : Int32)) dX9_breaks_19 (by decide) ?_
    refine px_iald C km_8 (j := 5) (by unfold vp_in; decide) (by decide) dX9_breaks_20 ?_
    refine px_iload_n C 1 dX9_breaks_21 rfl rfl ?_
    refine px_ishr C dX9_breaks_22 ?_
    refine px_iconst C (v := (1 : Int32)) dX9_breaks_23 (by decide) ?_
    refine px_iand C dX9_breaks_24 ?_
    refine px_iconst C (v := (1 : Int32)) dX9_breaks_25 (by decide) ?_
    refine px_icmp_ne C (tgt := 32) dX9_breaks_26 (by decide) (fun c26_4 => ?_) (fun c26_4 => ?_)
    · replace h := el_t c26_4 h
      refine px_aload_n C 0 dX9_breaks_32 rfl rfl ?_
      obtain ⟨S7, hc33_5, h⟩ := el_b h
      refine px_callV0 C (c_X9_notes l tA tB ad fu S1 hc33_5) (cwV 0 C.2.2.2.2.1 gX9_breaks_X9_notes rfl rfl rfl (by decide +kernel) ⟨Nat.le_of_ble_eq_true rfl, Nat.le_of_ble_eq_true rfl⟩) ⟨Nat.zero_le _, Nat.zero_le _⟩ km_0 rfl rfl rfl (Nat.le_of_ble_eq_true rfl) dX9_breaks_33 ?_
      refine px_aload_n C 0 dX9_breaks_36 rfl rfl ?_
      refine px_getr C (j := 16) km_0 rfl rfl iw_X9_breaks_X9 (by decide) lk_X9_breaks_31 rfl dX9_breaks_37 ?_
      refine px_iconst C (v := (5 : Int32)) dX9_breaks_40 (by decide) ?_
      refine px_dup2 C dX9_breaks_41 rfl rfl ?_
      refine px_iald C km_8 (j := 5) (by unfold vp_in; decide) (by decide) dX9_breaks_42 ?_
      refine px_iconst C (v := (1 : Int32)) dX9_breaks_43 (by decide) ?_
      refine px_iload_n C 1 dX9_breaks_44 rfl rfl ?_
      refine px_ishl C dX9_breaks_45 ?_
      refine px_ior C dX9_breaks_46 ?_
      obtain ⟨S8, eS8, h⟩ := el_lt h
      refine px_iast C km_8 (j := 5) (by unfold vp_in; decide) (by decide) dX9_breaks_47 ?_
      refine px_nmS eS8 ?_
      refine px_aload_n C 0 dX9_breaks_48 rfl rfl ?_
      refine px_getr C (j := 16) km_0 rfl rfl iw_X9_breaks_X9 (by decide) lk_X9_breaks_31 rfl dX9_breaks_49 ?_
      refine px_iconst C (v := (5 : Int32)) dX9_breaks_52 (by decide) ?_
      refine px_iald C km_8 (j := 5) (by unfold vp_in; decide) (by decide) dX9_breaks_53 ?_
      obtain ⟨x10, hc54_8, h⟩ := el_b h
      refine px_callS1 C (c_X9_ones l tA tB ad fu S8 (S8.1 8 5) hc54_8) (va_cwS 1 C.2.2.2.2.1 gX9_breaks_X9_ones rfl rfl rfl (by decide +kernel) ⟨Nat.le_of_ble_eq_true rfl, Nat.le_of_ble_eq_true rfl⟩) ⟨Nat.zero_le _, Nat.zero_le _⟩ rfl rfl (Nat.le_of_ble_eq_true rfl) dX9_breaks_54 ?_
      exact px_iretES C dX9_breaks_57 h
    · replace h := el_fn c26_4 h
      refine px_bipush C (v := (-2 : Int32)) dX9_breaks_29 (by decide) ?_
      exact px_iretES C dX9_breaks_31 h
  · replace h := el_fn c10_3 h
    refine px_iconst C (v := (-1 : Int32)) dX9_breaks_13 (by decide) ?_
    exact px_iretES C dX9_breaks_14 h
