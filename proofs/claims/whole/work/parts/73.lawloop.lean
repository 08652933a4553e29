/-! the law's loop -/
set_option maxHeartbeats 4000000 in
set_option maxRecDepth 100000 in
theorem law_loop {p : Program} {l : Launch} {e : Env} {s : State} {m : MethodId} {below : List Frame} {meth : Method} {c : Code} {b L : Nat} {xs : Nat → Int32} {D : va_G} {cI cB cz : ClassId} {tA tB : Nat} {adX adM : Nat → Nat} (C8 : LX8 p s m meth c D b cI cB tA tB) (C9 : LX9 p s m meth c D b cI cz tA tB) (X : LXs b L xs s) (hL : L ≤ 192) : ∀ (n i : Nat) (S T : St), L + 1 ≤ i + n → i ≤ L → Rel S T → LWP p l e s m below meth c b D cI cB cz adX adM S T [(0, .ref b), (1, .ref (adX 0)), (2, .ref (adM 0)), (3, .int (nI i))] 18 [] := by
  intro n
  induction n with
  | zero => intro i S T h1 h2 _; omega
  | succ n ih =>
    intro i S T h1 h2 h
    refine px_iload_n C8 3 dL_law_18 rfl rfl ?_
    refine px_aload_n C8 0 dL_law_19 rfl rfl ?_
    refine lx_slen C8 X.1 X.2 (Nat.not_le.mpr X.2) dL_law_20 ?_
    refine px_iconst C8 (v := (3 : Int32)) dL_law_21 (by decide) ?_
    refine px_isub C8 dL_law_22 ?_
    refine px_icmp_gt C8 (tgt := 899) dL_law_23 (by decide) (fun c1 => ?_) (fun c1 => ?_)
    · refine px_iconst C8 (v := (1 : Int32)) dL_law_899 (by decide) ?_
      exact lx_ret C8 dL_law_900
    · have hi : i + 3 ≤ L := lx_bound hL h2 c1
      refine px_aload_n C8 0 dL_law_26 rfl rfl ?_
      refine px_iload_n C8 3 dL_law_27 rfl rfl ?_
      refine lx_sld C8 X.1 X.2 (Nat.not_le.mpr X.2) (nI_in (show i < L by omega) (by omega)) dL_law_28 ?_
      refine px_bipush C8 (v := (31 : Int32)) dL_law_29 (by decide) ?_
      refine px_iand C8 dL_law_31 ?_
      obtain ⟨k, hk, ek⟩ := and31 (xs (nI i).toNatClampNeg)
      refine px_nm ek.symm ?_
      have back : ∀ S1 T1 : St, Rel S1 T1 → LWP p l e s m below meth c b D cI cB cz adX adM S1 T1 [(0, .ref b), (1, .ref (adX 0)), (2, .ref (adM 0)), (3, .int (nI i))] 893 [] := fun S1 T1 h3 => by
        refine px_iinc C8 (v := nI (i + 3)) 3 [(3, .int (nI (i + 3))), (0, .ref b), (1, .ref (adX 0)), (2, .ref (adM 0))] dL_law_893 rfl (by rw [show Int32.ofInt 3 = nI 3 by decide]; exact nI_add i 3) (by decide) rfl ?_
        refine px_goto C8 (tgt := 18) dL_law_896 (by decide) ?_
        exact px_sub [1, 2, 3, 0] rfl (ih (i + 3) S1 T1 (by omega) hi h3)
      match k, hk with
      | 0, _ => exact px_tableIn C8 (tgt := 176) dL_law_32 (by decide) (by decide) rfl (by decide) (lc_0 C8 C9 X hL hi h back)
      | 1, _ => exact px_tableIn C8 (tgt := 199) dL_law_32 (by decide) (by decide) rfl (by decide) (lc_1 C8 C9 X hL hi h back)
      | 2, _ => exact px_tableIn C8 (tgt := 212) dL_law_32 (by decide) (by decide) rfl (by decide) (lc_2 C8 C9 X hL hi h back)
      | 3, _ => exact px_tableIn C8 (tgt := 225) dL_law_32 (by decide) (by decide) rfl (by decide) (lc_3 C8 C9 X hL hi h back)
      | 4, _ => exact px_tableIn C8 (tgt := 258) dL_law_32 (by decide) (by decide) rfl (by decide) (lc_4 C8 C9 X hL hi h back)
      | 5, _ => exact px_tableIn C8 (tgt := 291) dL_law_32 (by decide) (by decide) rfl (by decide) (lc_5 C8 C9 X hL hi h back)
      | 6, _ => exact px_tableIn C8 (tgt := 314) dL_law_32 (by decide) (by decide) rfl (by decide) (lc_6 C8 C9 X hL hi h back)
      | 7, _ => exact px_tableIn C8 (tgt := 337) dL_law_32 (by decide) (by decide) rfl (by decide) (lc_7 C8 C9 X hL hi h back)
      | 8, _ => exact px_tableIn C8 (tgt := 350) dL_law_32 (by decide) (by decide) rfl (by decide) (lc_8 C8 C9 X hL hi h back)
      | 9, _ => exact px_tableIn C8 (tgt := 363) dL_law_32 (by decide) (by decide) rfl (by decide) (lc_9 C8 C9 X hL hi h back)
      | 10, _ => exact px_tableIn C8 (tgt := 386) dL_law_32 (by decide) (by decide) rfl (by decide) (lc_10 C8 C9 X hL hi h back)
      | 11, _ => exact px_tableIn C8 (tgt := 419) dL_law_32 (by decide) (by decide) rfl (by decide) (lc_11 C8 C9 X hL hi h back)
      | 12, _ => exact px_tableIn C8 (tgt := 452) dL_law_32 (by decide) (by decide) rfl (by decide) (lc_12 C8 C9 X hL hi h back)
      | 13, _ => exact px_tableIn C8 (tgt := 475) dL_law_32 (by decide) (by decide) rfl (by decide) (lc_13 C8 C9 X hL hi h back)
      | 14, _ => exact px_tableIn C8 (tgt := 488) dL_law_32 (by decide) (by decide) rfl (by decide) (lc_14 C8 C9 X hL hi h back)
      | 15, _ => exact px_tableIn C8 (tgt := 511) dL_law_32 (by decide) (by decide) rfl (by decide) (lc_15 C8 C9 X hL hi h back)
      | 16, _ => exact px_tableIn C8 (tgt := 524) dL_law_32 (by decide) (by decide) rfl (by decide) (lc_16 C8 C9 X hL hi h back)
      | 17, _ => exact px_tableIn C8 (tgt := 547) dL_law_32 (by decide) (by decide) rfl (by decide) (lc_17 C8 C9 X hL hi h back)
      | 18, _ => exact px_tableIn C8 (tgt := 570) dL_law_32 (by decide) (by decide) rfl (by decide) (lc_18 C8 C9 X hL hi h back)
      | 19, _ => exact px_tableIn C8 (tgt := 603) dL_law_32 (by decide) (by decide) rfl (by decide) (lc_19 C8 C9 X hL hi h back)
      | 20, _ => exact px_tableIn C8 (tgt := 616) dL_law_32 (by decide) (by decide) rfl (by decide) (lc_20 C8 C9 X hL hi h back)
      | 21, _ => exact px_tableIn C8 (tgt := 649) dL_law_32 (by decide) (by decide) rfl (by decide) (lc_21 C8 C9 X hL hi h back)
      | 22, _ => exact px_tableIn C8 (tgt := 672) dL_law_32 (by decide) (by decide) rfl (by decide) (lc_22 C8 C9 X hL hi h back)
      | 23, _ => exact px_tableIn C8 (tgt := 685) dL_law_32 (by decide) (by decide) rfl (by decide) (lc_23 C8 C9 X hL hi h back)
      | 24, _ => exact px_tableIn C8 (tgt := 718) dL_law_32 (by decide) (by decide) rfl (by decide) (lc_24 C8 C9 X hL hi h back)
      | 25, _ => exact px_tableIn C8 (tgt := 731) dL_law_32 (by decide) (by decide) rfl (by decide) (lc_25 C8 C9 X hL hi h back)
      | 26, _ => exact px_tableIn C8 (tgt := 744) dL_law_32 (by decide) (by decide) rfl (by decide) (lc_26 C8 C9 X hL hi h back)
      | 27, _ => exact px_tableIn C8 (tgt := 777) dL_law_32 (by decide) (by decide) rfl (by decide) (lc_27 C8 C9 X hL hi h back)
      | 28, _ => exact px_tableIn C8 (tgt := 810) dL_law_32 (by decide) (by decide) rfl (by decide) (lc_28 C8 C9 X hL hi h back)
      | 29, _ => exact px_tableIn C8 (tgt := 833) dL_law_32 (by decide) (by decide) rfl (by decide) (lc_29 C8 C9 X hL hi h back)
      | 30, _ => exact px_tableIn C8 (tgt := 856) dL_law_32 (by decide) (by decide) rfl (by decide) (lc_30 C8 C9 X hL hi h back)
      | 31, _ => exact px_tableIn C8 (tgt := 879) dL_law_32 (by decide) (by decide) rfl (by decide) (lc_31 C8 C9 X hL hi h back)
      | k + 32, hk => exact absurd hk (by omega)
