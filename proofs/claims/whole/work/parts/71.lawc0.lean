/-! the law: cases 0 .. 15 -/
set_option maxHeartbeats 4000000 in
set_option maxRecDepth 100000 in
theorem lc_0 {p : Program} {l : Launch} {e : Env} {s : State} {m : MethodId} {below : List Frame} {meth : Method} {c : Code} {b L : Nat} {xs : Nat → Int32} {D : va_G} {cI cB cz : ClassId} {tA tB : Nat} {adX adM : Nat → Nat} (C8 : LX8 p s m meth c D b cI cB tA tB) (C9 : LX9 p s m meth c D b cI cz tA tB) (X : LXs b L xs s) (hL : L ≤ 192) {i : Nat} (hi : i + 3 ≤ L) {S T : St} (h : Rel S T) (back : ∀ S1 T1 : St, Rel S1 T1 → LWP p l e s m below meth c b D cI cB cz adX adM S1 T1 [(0, .ref b), (1, .ref (adX 0)), (2, .ref (adM 0)), (3, .int (nI i))] 893 []) : LWP p l e s m below meth c b D cI cB cz adX adM S T [(0, .ref b), (1, .ref (adX 0)), (2, .ref (adM 0)), (3, .int (nI i))] 176 [] := by
  obtain ⟨r, S2, T2, e1, e2, h2⟩ := a_type h (xs (i + 1))
  refine px_aload_n C8 1 dL_law_176 rfl rfl ?_
  refine lx_arg C8 X hL (j := 1) (i := i) (by decide) (by omega) rfl rfl dL_law_177 dL_law_178 dL_law_179 dL_law_180 dL_law_181 ?_
  refine px_callV1 C8 (c_X8_type l tA tB adX S (xs (i + 1)) e1) (cwV 1 C8.2.2.2.2.1 gL_law_X8_type rfl rfl rfl (by decide +kernel) ⟨Nat.le_of_ble_eq_true rfl, Nat.le_of_ble_eq_true rfl⟩) ⟨Nat.le_refl _, Nat.le_refl _⟩ kx_0 rfl rfl rfl (Nat.le_of_ble_eq_true rfl) dL_law_182 ?_
  refine pw_swap ?_
  refine px_aload_n C9 2 dL_law_185 rfl rfl ?_
  refine lx_arg C9 X hL (j := 1) (i := i) (by decide) (by omega) rfl rfl dL_law_186 dL_law_187 dL_law_188 dL_law_189 dL_law_190 ?_
  refine px_callV1 C9 (c_X9_type l tA tB adM T (xs (i + 1)) e2) (cwV 1 C9.2.2.2.2.1 gL_law_X9_type rfl rfl rfl (by decide +kernel) ⟨Nat.le_of_ble_eq_true rfl, Nat.le_of_ble_eq_true rfl⟩) ⟨Nat.le_refl _, Nat.le_refl _⟩ km_0 rfl rfl rfl (Nat.le_of_ble_eq_true rfl) dL_law_191 ?_
  refine pw_swap ?_
  exact px_icmp_eq C8 (tgt := 893) dL_law_194 (by decide) (fun _ => back _ _ h2) (fun z => absurd rfl z)
set_option maxHeartbeats 4000000 in
set_option maxRecDepth 100000 in
theorem lc_1 {p : Program} {l : Launch} {e : Env} {s : State} {m : MethodId} {below : List Frame} {meth : Method} {c : Code} {b L : Nat} {xs : Nat → Int32} {D : va_G} {cI cB cz : ClassId} {tA tB : Nat} {adX adM : Nat → Nat} (C8 : LX8 p s m meth c D b cI cB tA tB) (C9 : LX9 p s m meth c D b cI cz tA tB) (X : LXs b L xs s) (hL : L ≤ 192) {i : Nat} (hi : i + 3 ≤ L) {S T : St} (h : Rel S T) (back : ∀ S1 T1 : St, Rel S1 T1 → LWP p l e s m below meth c b D cI cB cz adX adM S1 T1 [(0, .ref b), (1, .ref (adX 0)), (2, .ref (adM 0)), (3, .int (nI i))] 893 []) : LWP p l e s m below meth c b D cI cB cz adX adM S T [(0, .ref b), (1, .ref (adX 0)), (2, .ref (adM 0)), (3, .int (nI i))] 199 [] := by
  obtain ⟨r, S2, T2, e1, e2, h2⟩ := a_clear h
  refine px_aload_n C8 1 dL_law_199 rfl rfl ?_
  refine px_callV1 C8 (c_X8_clear l tA tB adX S e1) (cwV 0 C8.2.2.2.2.1 gL_law_X8_clear rfl rfl rfl (by decide +kernel) ⟨Nat.le_of_ble_eq_true rfl, Nat.le_of_ble_eq_true rfl⟩) ⟨Nat.le_refl _, Nat.le_refl _⟩ kx_0 rfl rfl rfl (Nat.le_of_ble_eq_true rfl) dL_law_200 ?_
  refine pw_swap ?_
  refine px_aload_n C9 2 dL_law_203 rfl rfl ?_
  refine px_callV1 C9 (c_X9_clear l tA tB adM T e2) (cwV 0 C9.2.2.2.2.1 gL_law_X9_clear rfl rfl rfl (by decide +kernel) ⟨Nat.le_of_ble_eq_true rfl, Nat.le_of_ble_eq_true rfl⟩) ⟨Nat.le_refl _, Nat.le_refl _⟩ km_0 rfl rfl rfl (Nat.le_of_ble_eq_true rfl) dL_law_204 ?_
  refine pw_swap ?_
  exact px_icmp_eq C8 (tgt := 893) dL_law_207 (by decide) (fun _ => back _ _ h2) (fun z => absurd rfl z)
set_option maxHeartbeats 4000000 in
set_option maxRecDepth 100000 in
theorem lc_2 {p : Program} {l : Launch} {e : Env} {s : State} {m : MethodId} {below : List Frame} {meth : Method} {c : Code} {b L : Nat} {xs : Nat → Int32} {D : va_G} {cI cB cz : ClassId} {tA tB : Nat} {adX adM : Nat → Nat} (C8 : LX8 p s m meth c D b cI cB tA tB) (C9 : LX9 p s m meth c D b cI cz tA tB) (X : LXs b L xs s) (hL : L ≤ 192) {i : Nat} (hi : i + 3 ≤ L) {S T : St} (h : Rel S T) (back : ∀ S1 T1 : St, Rel S1 T1 → LWP p l e s m below meth c b D cI cB cz adX adM S1 T1 [(0, .ref b), (1, .ref (adX 0)), (2, .ref (adM 0)), (3, .int (nI i))] 893 []) : LWP p l e s m below meth c b D cI cB cz adX adM S T [(0, .ref b), (1, .ref (adX 0)), (2, .ref (adM 0)), (3, .int (nI i))] 212 [] := by
  obtain ⟨r, S2, T2, e1, e2, h2⟩ := a_river (Nat.le_refl 300) h
  refine px_aload_n C8 1 dL_law_212 rfl rfl ?_
  refine px_callV1 C8 (c_X8_river l tA tB adX 300 S e1) (cwV 0 C8.2.2.2.2.1 gL_law_X8_river rfl rfl rfl (by decide +kernel) ⟨Nat.le_of_ble_eq_true rfl, Nat.le_of_ble_eq_true rfl⟩) ⟨Nat.le_refl _, Nat.le_refl _⟩ kx_0 rfl rfl rfl (Nat.le_of_ble_eq_true rfl) dL_law_213 ?_
  refine pw_swap ?_
  refine px_aload_n C9 2 dL_law_216 rfl rfl ?_
  refine px_callV1 C9 (c_X9_river l tA tB adM 300 T e2) (cwV 0 C9.2.2.2.2.1 gL_law_X9_river rfl rfl rfl (by decide +kernel) ⟨Nat.le_of_ble_eq_true rfl, Nat.le_of_ble_eq_true rfl⟩) ⟨Nat.le_refl _, Nat.le_refl _⟩ km_0 rfl rfl rfl (Nat.le_of_ble_eq_true rfl) dL_law_217 ?_
  refine pw_swap ?_
  exact px_icmp_eq C8 (tgt := 893) dL_law_220 (by decide) (fun _ => back _ _ h2) (fun z => absurd rfl z)
set_option maxHeartbeats 4000000 in
set_option maxRecDepth 100000 in
theorem lc_3 {p : Program} {l : Launch} {e : Env} {s : State} {m : MethodId} {below : List Frame} {meth : Method} {c : Code} {b L : Nat} {xs : Nat → Int32} {D : va_G} {cI cB cz : ClassId} {tA tB : Nat} {adX adM : Nat → Nat} (C8 : LX8 p s m meth c D b cI cB tA tB) (C9 : LX9 p s m meth c D b cI cz tA tB) (X : LXs b L xs s) (hL : L ≤ 192) {i : Nat} (hi : i + 3 ≤ L) {S T : St} (h : Rel S T) (back : ∀ S1 T1 : St, Rel S1 T1 → LWP p l e s m below meth c b D cI cB cz adX adM S1 T1 [(0, .ref b), (1, .ref (adX 0)), (2, .ref (adM 0)), (3, .int (nI i))] 893 []) : LWP p l e s m below meth c b D cI cB cz adX adM S T [(0, .ref b), (1, .ref (adX 0)), (2, .ref (adM 0)), (3, .int (nI i))] 225 [] := by
  obtain ⟨r, T2, e1, e2, h2⟩ := a_rock h (xs (i + 1)) (xs (i + 2))
  refine px_aload_n C8 1 dL_law_225 rfl rfl ?_
  refine lx_arg C8 X hL (j := 1) (i := i) (by decide) (by omega) rfl rfl dL_law_226 dL_law_227 dL_law_228 dL_law_229 dL_law_230 ?_
  refine lx_arg C8 X hL (j := 2) (i := i) (by decide) (by omega) rfl rfl dL_law_231 dL_law_232 dL_law_233 dL_law_234 dL_law_235 ?_
  refine px_callV1 C8 (c_X8_rock l tA tB adX S (xs (i + 1)) (xs (i + 2)) e1) (cwV 2 C8.2.2.2.2.1 gL_law_X8_rock rfl rfl rfl (by decide +kernel) ⟨Nat.le_of_ble_eq_true rfl, Nat.le_of_ble_eq_true rfl⟩) ⟨Nat.le_refl _, Nat.le_refl _⟩ kx_0 rfl rfl rfl (Nat.le_of_ble_eq_true rfl) dL_law_236 ?_
  refine pw_swap ?_
  refine px_aload_n C9 2 dL_law_239 rfl rfl ?_
  refine lx_arg C9 X hL (j := 1) (i := i) (by decide) (by omega) rfl rfl dL_law_240 dL_law_241 dL_law_242 dL_law_243 dL_law_244 ?_
  refine lx_arg C9 X hL (j := 2) (i := i) (by decide) (by omega) rfl rfl dL_law_245 dL_law_246 dL_law_247 dL_law_248 dL_law_249 ?_
  refine px_callV1 C9 (c_X9_rock l tA tB adM T (xs (i + 1)) (xs (i + 2)) e2) (cwV 2 C9.2.2.2.2.1 gL_law_X9_rock rfl rfl rfl (by decide +kernel) ⟨Nat.le_of_ble_eq_true rfl, Nat.le_of_ble_eq_true rfl⟩) ⟨Nat.le_refl _, Nat.le_refl _⟩ km_0 rfl rfl rfl (Nat.le_of_ble_eq_true rfl) dL_law_250 ?_
  refine pw_swap ?_
  exact px_icmp_eq C8 (tgt := 893) dL_law_253 (by decide) (fun _ => back _ _ h2) (fun z => absurd rfl z)
set_option maxHeartbeats 4000000 in
set_option maxRecDepth 100000 in
theorem lc_4 {p : Program} {l : Launch} {e : Env} {s : State} {m : MethodId} {below : List Frame} {meth : Method} {c : Code} {b L : Nat} {xs : Nat → Int32} {D : va_G} {cI cB cz : ClassId} {tA tB : Nat} {adX adM : Nat → Nat} (C8 : LX8 p s m meth c D b cI cB tA tB) (C9 : LX9 p s m meth c D b cI cz tA tB) (X : LXs b L xs s) (hL : L ≤ 192) {i : Nat} (hi : i + 3 ≤ L) {S T : St} (h : Rel S T) (back : ∀ S1 T1 : St, Rel S1 T1 → LWP p l e s m below meth c b D cI cB cz adX adM S1 T1 [(0, .ref b), (1, .ref (adX 0)), (2, .ref (adM 0)), (3, .int (nI i))] 893 []) : LWP p l e s m below meth c b D cI cB cz adX adM S T [(0, .ref b), (1, .ref (adX 0)), (2, .ref (adM 0)), (3, .int (nI i))] 258 [] := by
  obtain ⟨r, T2, e1, e2, h2⟩ := a_takes h (xs (i + 1)) (xs (i + 2))
  refine px_aload_n C8 1 dL_law_258 rfl rfl ?_
  refine lx_arg C8 X hL (j := 1) (i := i) (by decide) (by omega) rfl rfl dL_law_259 dL_law_260 dL_law_261 dL_law_262 dL_law_263 ?_
  refine lx_arg C8 X hL (j := 2) (i := i) (by decide) (by omega) rfl rfl dL_law_264 dL_law_265 dL_law_266 dL_law_267 dL_law_268 ?_
  refine px_callV1 C8 (c_X8_takes l tA tB adX S (xs (i + 1)) (xs (i + 2)) e1) (cwV 2 C8.2.2.2.2.1 gL_law_X8_takes rfl rfl rfl (by decide +kernel) ⟨Nat.le_of_ble_eq_true rfl, Nat.le_of_ble_eq_true rfl⟩) ⟨Nat.le_refl _, Nat.le_refl _⟩ kx_0 rfl rfl rfl (Nat.le_of_ble_eq_true rfl) dL_law_269 ?_
  refine pw_swap ?_
  refine px_aload_n C9 2 dL_law_272 rfl rfl ?_
  refine lx_arg C9 X hL (j := 1) (i := i) (by decide) (by omega) rfl rfl dL_law_273 dL_law_274 dL_law_275 dL_law_276 dL_law_277 ?_
  refine lx_arg C9 X hL (j := 2) (i := i) (by decide) (by omega) rfl rfl dL_law_278 dL_law_279 dL_law_280 dL_law_281 dL_law_282 ?_
  refine px_callV1 C9 (c_X9_takes l tA tB adM T (xs (i + 1)) (xs (i + 2)) e2) (cwV 2 C9.2.2.2.2.1 gL_law_X9_takes rfl rfl rfl (by decide +kernel) ⟨Nat.le_of_ble_eq_true rfl, Nat.le_of_ble_eq_true rfl⟩) ⟨Nat.le_refl _, Nat.le_refl _⟩ km_0 rfl rfl rfl (Nat.le_of_ble_eq_true rfl) dL_law_283 ?_
  refine pw_swap ?_
  exact px_icmp_eq C8 (tgt := 893) dL_law_286 (by decide) (fun _ => back _ _ h2) (fun z => absurd rfl z)
set_option maxHeartbeats 4000000 in
set_option maxRecDepth 100000 in
theorem lc_5 {p : Program} {l : Launch} {e : Env} {s : State} {m : MethodId} {below : List Frame} {meth : Method} {c : Code} {b L : Nat} {xs : Nat → Int32} {D : va_G} {cI cB cz : ClassId} {tA tB : Nat} {adX adM : Nat → Nat} (C8 : LX8 p s m meth c D b cI cB tA tB) (C9 : LX9 p s m meth c D b cI cz tA tB) (X : LXs b L xs s) (hL : L ≤ 192) {i : Nat} (hi : i + 3 ≤ L) {S T : St} (h : Rel S T) (back : ∀ S1 T1 : St, Rel S1 T1 → LWP p l e s m below meth c b D cI cB cz adX adM S1 T1 [(0, .ref b), (1, .ref (adX 0)), (2, .ref (adM 0)), (3, .int (nI i))] 893 []) : LWP p l e s m below meth c b D cI cB cz adX adM S T [(0, .ref b), (1, .ref (adX 0)), (2, .ref (adM 0)), (3, .int (nI i))] 291 [] := by
  obtain ⟨r, T2, e1, e2, h2⟩ := a_now h (xs (i + 1))
  refine px_aload_n C8 1 dL_law_291 rfl rfl ?_
  refine lx_arg C8 X hL (j := 1) (i := i) (by decide) (by omega) rfl rfl dL_law_292 dL_law_293 dL_law_294 dL_law_295 dL_law_296 ?_
  refine px_callV1 C8 (c_X8_now l tA tB adX S (xs (i + 1)) e1) (cwV 1 C8.2.2.2.2.1 gL_law_X8_now rfl rfl rfl (by decide +kernel) ⟨Nat.le_of_ble_eq_true rfl, Nat.le_of_ble_eq_true rfl⟩) ⟨Nat.le_refl _, Nat.le_refl _⟩ kx_0 rfl rfl rfl (Nat.le_of_ble_eq_true rfl) dL_law_297 ?_
  refine pw_swap ?_
  refine px_aload_n C9 2 dL_law_300 rfl rfl ?_
  refine lx_arg C9 X hL (j := 1) (i := i) (by decide) (by omega) rfl rfl dL_law_301 dL_law_302 dL_law_303 dL_law_304 dL_law_305 ?_
  refine px_callV1 C9 (c_X9_now l tA tB adM T (xs (i + 1)) e2) (cwV 1 C9.2.2.2.2.1 gL_law_X9_now rfl rfl rfl (by decide +kernel) ⟨Nat.le_of_ble_eq_true rfl, Nat.le_of_ble_eq_true rfl⟩) ⟨Nat.le_refl _, Nat.le_refl _⟩ km_0 rfl rfl rfl (Nat.le_of_ble_eq_true rfl) dL_law_306 ?_
  refine pw_swap ?_
  exact px_icmp_eq C8 (tgt := 893) dL_law_309 (by decide) (fun _ => back _ _ h2) (fun z => absurd rfl z)
set_option maxHeartbeats 4000000 in
set_option maxRecDepth 100000 in
theorem lc_6 {p : Program} {l : Launch} {e : Env} {s : State} {m : MethodId} {below : List Frame} {meth : Method} {c : Code} {b L : Nat} {xs : Nat → Int32} {D : va_G} {cI cB cz : ClassId} {tA tB : Nat} {adX adM : Nat → Nat} (C8 : LX8 p s m meth c D b cI cB tA tB) (C9 : LX9 p s m meth c D b cI cz tA tB) (X : LXs b L xs s) (hL : L ≤ 192) {i : Nat} (hi : i + 3 ≤ L) {S T : St} (h : Rel S T) (back : ∀ S1 T1 : St, Rel S1 T1 → LWP p l e s m below meth c b D cI cB cz adX adM S1 T1 [(0, .ref b), (1, .ref (adX 0)), (2, .ref (adM 0)), (3, .int (nI i))] 893 []) : LWP p l e s m below meth c b D cI cB cz adX adM S T [(0, .ref b), (1, .ref (adX 0)), (2, .ref (adM 0)), (3, .int (nI i))] 314 [] := by
  obtain ⟨r, T2, e1, e2, h2⟩ := a_got h (xs (i + 1))
  refine px_aload_n C8 1 dL_law_314 rfl rfl ?_
  refine lx_arg C8 X hL (j := 1) (i := i) (by decide) (by omega) rfl rfl dL_law_315 dL_law_316 dL_law_317 dL_law_318 dL_law_319 ?_
  refine px_callV1 C8 (c_X8_got l tA tB adX S (xs (i + 1)) e1) (cwV 1 C8.2.2.2.2.1 gL_law_X8_got rfl rfl rfl (by decide +kernel) ⟨Nat.le_of_ble_eq_true rfl, Nat.le_of_ble_eq_true rfl⟩) ⟨Nat.le_refl _, Nat.le_refl _⟩ kx_0 rfl rfl rfl (Nat.le_of_ble_eq_true rfl) dL_law_320 ?_
  refine pw_swap ?_
  refine px_aload_n C9 2 dL_law_323 rfl rfl ?_
  refine lx_arg C9 X hL (j := 1) (i := i) (by decide) (by omega) rfl rfl dL_law_324 dL_law_325 dL_law_326 dL_law_327 dL_law_328 ?_
  refine px_callV1 C9 (c_X9_got l tA tB adM T (xs (i + 1)) e2) (cwV 1 C9.2.2.2.2.1 gL_law_X9_got rfl rfl rfl (by decide +kernel) ⟨Nat.le_of_ble_eq_true rfl, Nat.le_of_ble_eq_true rfl⟩) ⟨Nat.le_refl _, Nat.le_refl _⟩ km_0 rfl rfl rfl (Nat.le_of_ble_eq_true rfl) dL_law_329 ?_
  refine pw_swap ?_
  exact px_icmp_eq C8 (tgt := 893) dL_law_332 (by decide) (fun _ => back _ _ h2) (fun z => absurd rfl z)
set_option maxHeartbeats 4000000 in
set_option maxRecDepth 100000 in
theorem lc_7 {p : Program} {l : Launch} {e : Env} {s : State} {m : MethodId} {below : List Frame} {meth : Method} {c : Code} {b L : Nat} {xs : Nat → Int32} {D : va_G} {cI cB cz : ClassId} {tA tB : Nat} {adX adM : Nat → Nat} (C8 : LX8 p s m meth c D b cI cB tA tB) (C9 : LX9 p s m meth c D b cI cz tA tB) (X : LXs b L xs s) (hL : L ≤ 192) {i : Nat} (hi : i + 3 ≤ L) {S T : St} (h : Rel S T) (back : ∀ S1 T1 : St, Rel S1 T1 → LWP p l e s m below meth c b D cI cB cz adX adM S1 T1 [(0, .ref b), (1, .ref (adX 0)), (2, .ref (adM 0)), (3, .int (nI i))] 893 []) : LWP p l e s m below meth c b D cI cB cz adX adM S T [(0, .ref b), (1, .ref (adX 0)), (2, .ref (adM 0)), (3, .int (nI i))] 337 [] := by
  obtain ⟨r, S2, T2, e1, e2, h2⟩ := a_pays (Nat.le_refl 300) h
  refine px_aload_n C8 1 dL_law_337 rfl rfl ?_
  refine px_callV1 C8 (c_X8_pays l tA tB adX 300 S e1) (cwV 0 C8.2.2.2.2.1 gL_law_X8_pays rfl rfl rfl (by decide +kernel) ⟨Nat.le_of_ble_eq_true rfl, Nat.le_of_ble_eq_true rfl⟩) ⟨Nat.le_refl _, Nat.le_refl _⟩ kx_0 rfl rfl rfl (Nat.le_of_ble_eq_true rfl) dL_law_338 ?_
  refine pw_swap ?_
  refine px_aload_n C9 2 dL_law_341 rfl rfl ?_
  refine px_callV1 C9 (c_X9_pays l tA tB adM 300 T e2) (cwV 0 C9.2.2.2.2.1 gL_law_X9_pays rfl rfl rfl (by decide +kernel) ⟨Nat.le_of_ble_eq_true rfl, Nat.le_of_ble_eq_true rfl⟩) ⟨Nat.le_refl _, Nat.le_refl _⟩ km_0 rfl rfl rfl (Nat.le_of_ble_eq_true rfl) dL_law_342 ?_
  refine pw_swap ?_
  exact px_icmp_eq C8 (tgt := 893) dL_law_345 (by decide) (fun _ => back _ _ h2) (fun z => absurd rfl z)
set_option maxHeartbeats 4000000 in
set_option maxRecDepth 100000 in
theorem lc_8 {p : Program} {l : Launch} {e : Env} {s : State} {m : MethodId} {below : List Frame} {meth : Method} {c : Code} {b L : Nat} {xs : Nat → Int32} {D : va_G} {cI cB cz : ClassId} {tA tB : Nat} {adX adM : Nat → Nat} (C8 : LX8 p s m meth c D b cI cB tA tB) (C9 : LX9 p s m meth c D b cI cz tA tB) (X : LXs b L xs s) (hL : L ≤ 192) {i : Nat} (hi : i + 3 ≤ L) {S T : St} (h : Rel S T) (back : ∀ S1 T1 : St, Rel S1 T1 → LWP p l e s m below meth c b D cI cB cz adX adM S1 T1 [(0, .ref b), (1, .ref (adX 0)), (2, .ref (adM 0)), (3, .int (nI i))] 893 []) : LWP p l e s m below meth c b D cI cB cz adX adM S T [(0, .ref b), (1, .ref (adX 0)), (2, .ref (adM 0)), (3, .int (nI i))] 350 [] := by
  obtain ⟨r, S2, T2, e1, e2, h2⟩ := a_lands (Nat.le_refl 300) h
  refine px_aload_n C8 1 dL_law_350 rfl rfl ?_
  refine px_callV1 C8 (c_X8_lands l tA tB adX 300 S e1) (cwV 0 C8.2.2.2.2.1 gL_law_X8_lands rfl rfl rfl (by decide +kernel) ⟨Nat.le_of_ble_eq_true rfl, Nat.le_of_ble_eq_true rfl⟩) ⟨Nat.le_refl _, Nat.le_refl _⟩ kx_0 rfl rfl rfl (Nat.le_of_ble_eq_true rfl) dL_law_351 ?_
  refine pw_swap ?_
  refine px_aload_n C9 2 dL_law_354 rfl rfl ?_
  refine px_callV1 C9 (c_X9_lands l tA tB adM 300 T e2) (cwV 0 C9.2.2.2.2.1 gL_law_X9_lands rfl rfl rfl (by decide +kernel) ⟨Nat.le_of_ble_eq_true rfl, Nat.le_of_ble_eq_true rfl⟩) ⟨Nat.le_refl _, Nat.le_refl _⟩ km_0 rfl rfl rfl (Nat.le_of_ble_eq_true rfl) dL_law_355 ?_
  refine pw_swap ?_
  exact px_icmp_eq C8 (tgt := 893) dL_law_358 (by decide) (fun _ => back _ _ h2) (fun z => absurd rfl z)
set_option maxHeartbeats 4000000 in
set_option maxRecDepth 100000 in
theorem lc_9 {p : Program} {l : Launch} {e : Env} {s : State} {m : MethodId} {below : List Frame} {meth : Method} {c : Code} {b L : Nat} {xs : Nat → Int32} {D : va_G} {cI cB cz : ClassId} {tA tB : Nat} {adX adM : Nat → Nat} (C8 : LX8 p s m meth c D b cI cB tA tB) (C9 : LX9 p s m meth c D b cI cz tA tB) (X : LXs b L xs s) (hL : L ≤ 192) {i : Nat} (hi : i + 3 ≤ L) {S T : St} (h : Rel S T) (back : ∀ S1 T1 : St, Rel S1 T1 → LWP p l e s m below meth c b D cI cB cz adX adM S1 T1 [(0, .ref b), (1, .ref (adX 0)), (2, .ref (adM 0)), (3, .int (nI i))] 893 []) : LWP p l e s m below meth c b D cI cB cz adX adM S T [(0, .ref b), (1, .ref (adX 0)), (2, .ref (adM 0)), (3, .int (nI i))] 363 [] := by
  obtain ⟨r, S2, T2, e1, e2, h2⟩ := a_nights (Nat.le_refl 300) h (xs (i + 1))
  refine px_aload_n C8 1 dL_law_363 rfl rfl ?_
  refine lx_arg C8 X hL (j := 1) (i := i) (by decide) (by omega) rfl rfl dL_law_364 dL_law_365 dL_law_366 dL_law_367 dL_law_368 ?_
  refine px_callV1 C8 (c_X8_nights l tA tB adX 300 S (xs (i + 1)) e1) (cwV 1 C8.2.2.2.2.1 gL_law_X8_nights rfl rfl rfl (by decide +kernel) ⟨Nat.le_of_ble_eq_true rfl, Nat.le_of_ble_eq_true rfl⟩) ⟨Nat.le_refl _, Nat.le_refl _⟩ kx_0 rfl rfl rfl (Nat.le_of_ble_eq_true rfl) dL_law_369 ?_
  refine pw_swap ?_
  refine px_aload_n C9 2 dL_law_372 rfl rfl ?_
  refine lx_arg C9 X hL (j := 1) (i := i) (by decide) (by omega) rfl rfl dL_law_373 dL_law_374 dL_law_375 dL_law_376 dL_law_377 ?_
  refine px_callV1 C9 (c_X9_nights l tA tB adM 300 T (xs (i + 1)) e2) (cwV 1 C9.2.2.2.2.1 gL_law_X9_nights rfl rfl rfl (by decide +kernel) ⟨Nat.le_of_ble_eq_true rfl, Nat.le_of_ble_eq_true rfl⟩) ⟨Nat.le_refl _, Nat.le_refl _⟩ km_0 rfl rfl rfl (Nat.le_of_ble_eq_true rfl) dL_law_378 ?_
  refine pw_swap ?_
  exact px_icmp_eq C8 (tgt := 893) dL_law_381 (by decide) (fun _ => back _ _ h2) (fun z => absurd rfl z)
set_option maxHeartbeats 4000000 in
set_option maxRecDepth 100000 in
theorem lc_10 {p : Program} {l : Launch} {e : Env} {s : State} {m : MethodId} {below : List Frame} {meth : Method} {c : Code} {b L : Nat} {xs : Nat → Int32} {D : va_G} {cI cB cz : ClassId} {tA tB : Nat} {adX adM : Nat → Nat} (C8 : LX8 p s m meth c D b cI cB tA tB) (C9 : LX9 p s m meth c D b cI cz tA tB) (X : LXs b L xs s) (hL : L ≤ 192) {i : Nat} (hi : i + 3 ≤ L) {S T : St} (h : Rel S T) (back : ∀ S1 T1 : St, Rel S1 T1 → LWP p l e s m below meth c b D cI cB cz adX adM S1 T1 [(0, .ref b), (1, .ref (adX 0)), (2, .ref (adM 0)), (3, .int (nI i))] 893 []) : LWP p l e s m below meth c b D cI cB cz adX adM S T [(0, .ref b), (1, .ref (adX 0)), (2, .ref (adM 0)), (3, .int (nI i))] 386 [] := by
  obtain ⟨r, S2, T2, e1, e2, h2⟩ := a_sells (Nat.le_refl 300) h (xs (i + 1)) (xs (i + 2))
  refine px_aload_n C8 1 dL_law_386 rfl rfl ?_
  refine lx_arg C8 X hL (j := 1) (i := i) (by decide) (by omega) rfl rfl dL_law_387 dL_law_388 dL_law_389 dL_law_390 dL_law_391 ?_
  refine lx_arg C8 X hL (j := 2) (i := i) (by decide) (by omega) rfl rfl dL_law_392 dL_law_393 dL_law_394 dL_law_395 dL_law_396 ?_
  refine px_callV1 C8 (c_X8_sells l tA tB adX 300 S (xs (i + 1)) (xs (i + 2)) e1) (cwV 2 C8.2.2.2.2.1 gL_law_X8_sells rfl rfl rfl (by decide +kernel) ⟨Nat.le_of_ble_eq_true rfl, Nat.le_of_ble_eq_true rfl⟩) ⟨Nat.le_refl _, Nat.le_refl _⟩ kx_0 rfl rfl rfl (Nat.le_of_ble_eq_true rfl) dL_law_397 ?_
  refine pw_swap ?_
  refine px_aload_n C9 2 dL_law_400 rfl rfl ?_
  refine lx_arg C9 X hL (j := 1) (i := i) (by decide) (by omega) rfl rfl dL_law_401 dL_law_402 dL_law_403 dL_law_404 dL_law_405 ?_
  refine lx_arg C9 X hL (j := 2) (i := i) (by decide) (by omega) rfl rfl dL_law_406 dL_law_407 dL_law_408 dL_law_409 dL_law_410 ?_
  refine px_callV1 C9 (c_X9_sells l tA tB adM 300 T (xs (i + 1)) (xs (i + 2)) e2) (cwV 2 C9.2.2.2.2.1 gL_law_X9_sells rfl rfl rfl (by decide +kernel) ⟨Nat.le_of_ble_eq_true rfl, Nat.le_of_ble_eq_true rfl⟩) ⟨Nat.le_refl _, Nat.le_refl _⟩ km_0 rfl rfl rfl (Nat.le_of_ble_eq_true rfl) dL_law_411 ?_
  refine pw_swap ?_
  exact px_icmp_eq C8 (tgt := 893) dL_law_414 (by decide) (fun _ => back _ _ h2) (fun z => absurd rfl z)
set_option maxHeartbeats 4000000 in
set_option maxRecDepth 100000 in
theorem lc_11 {p : Program} {l : Launch} {e : Env} {s : State} {m : MethodId} {below : List Frame} {meth : Method} {c : Code} {b L : Nat} {xs : Nat → Int32} {D : va_G} {cI cB cz : ClassId} {tA tB : Nat} {adX adM : Nat → Nat} (C8 : LX8 p s m meth c D b cI cB tA tB) (C9 : LX9 p s m meth c D b cI cz tA tB) (X : LXs b L xs s) (hL : L ≤ 192) {i : Nat} (hi : i + 3 ≤ L) {S T : St} (h : Rel S T) (back : ∀ S1 T1 : St, Rel S1 T1 → LWP p l e s m below meth c b D cI cB cz adX adM S1 T1 [(0, .ref b), (1, .ref (adX 0)), (2, .ref (adM 0)), (3, .int (nI i))] 893 []) : LWP p l e s m below meth c b D cI cB cz adX adM S T [(0, .ref b), (1, .ref (adX 0)), (2, .ref (adM 0)), (3, .int (nI i))] 419 [] := by
  obtain ⟨r, S2, T2, e1, e2, h2⟩ := a_sets (Nat.le_refl 300) h (xs (i + 1)) (xs (i + 2))
  refine px_aload_n C8 1 dL_law_419 rfl rfl ?_
  refine lx_arg C8 X hL (j := 1) (i := i) (by decide) (by omega) rfl rfl dL_law_420 dL_law_421 dL_law_422 dL_law_423 dL_law_424 ?_
  refine lx_arg C8 X hL (j := 2) (i := i) (by decide) (by omega) rfl rfl dL_law_425 dL_law_426 dL_law_427 dL_law_428 dL_law_429 ?_
  refine px_callV1 C8 (c_X8_sets l tA tB adX 300 S (xs (i + 1)) (xs (i + 2)) e1) (cwV 2 C8.2.2.2.2.1 gL_law_X8_sets rfl rfl rfl (by decide +kernel) ⟨Nat.le_of_ble_eq_true rfl, Nat.le_of_ble_eq_true rfl⟩) ⟨Nat.le_refl _, Nat.le_refl _⟩ kx_0 rfl rfl rfl (Nat.le_of_ble_eq_true rfl) dL_law_430 ?_
  refine pw_swap ?_
  refine px_aload_n C9 2 dL_law_433 rfl rfl ?_
  refine lx_arg C9 X hL (j := 1) (i := i) (by decide) (by omega) rfl rfl dL_law_434 dL_law_435 dL_law_436 dL_law_437 dL_law_438 ?_
  refine lx_arg C9 X hL (j := 2) (i := i) (by decide) (by omega) rfl rfl dL_law_439 dL_law_440 dL_law_441 dL_law_442 dL_law_443 ?_
  refine px_callV1 C9 (c_X9_sets l tA tB adM 300 T (xs (i + 1)) (xs (i + 2)) e2) (cwV 2 C9.2.2.2.2.1 gL_law_X9_sets rfl rfl rfl (by decide +kernel) ⟨Nat.le_of_ble_eq_true rfl, Nat.le_of_ble_eq_true rfl⟩) ⟨Nat.le_refl _, Nat.le_refl _⟩ km_0 rfl rfl rfl (Nat.le_of_ble_eq_true rfl) dL_law_444 ?_
  refine pw_swap ?_
  exact px_icmp_eq C8 (tgt := 893) dL_law_447 (by decide) (fun _ => back _ _ h2) (fun z => absurd rfl z)
set_option maxHeartbeats 4000000 in
set_option maxRecDepth 100000 in
theorem lc_12 {p : Program} {l : Launch} {e : Env} {s : State} {m : MethodId} {below : List Frame} {meth : Method} {c : Code} {b L : Nat} {xs : Nat → Int32} {D : va_G} {cI cB cz : ClassId} {tA tB : Nat} {adX adM : Nat → Nat} (C8 : LX8 p s m meth c D b cI cB tA tB) (C9 : LX9 p s m meth c D b cI cz tA tB) (X : LXs b L xs s) (hL : L ≤ 192) {i : Nat} (hi : i + 3 ≤ L) {S T : St} (h : Rel S T) (back : ∀ S1 T1 : St, Rel S1 T1 → LWP p l e s m below meth c b D cI cB cz adX adM S1 T1 [(0, .ref b), (1, .ref (adX 0)), (2, .ref (adM 0)), (3, .int (nI i))] 893 []) : LWP p l e s m below meth c b D cI cB cz adX adM S T [(0, .ref b), (1, .ref (adX 0)), (2, .ref (adM 0)), (3, .int (nI i))] 452 [] := by
  obtain ⟨r, S2, T2, e1, e2, h2⟩ := a_breaks (Nat.le_refl 300) h (xs (i + 1))
  refine px_aload_n C8 1 dL_law_452 rfl rfl ?_
  refine lx_arg C8 X hL (j := 1) (i := i) (by decide) (by omega) rfl rfl dL_law_453 dL_law_454 dL_law_455 dL_law_456 dL_law_457 ?_
  refine px_callV1 C8 (c_X8_breaks l tA tB adX 300 S (xs (i + 1)) e1) (cwV 1 C8.2.2.2.2.1 gL_law_X8_breaks rfl rfl rfl (by decide +kernel) ⟨Nat.le_of_ble_eq_true rfl, Nat.le_of_ble_eq_true rfl⟩) ⟨Nat.le_refl _, Nat.le_refl _⟩ kx_0 rfl rfl rfl (Nat.le_of_ble_eq_true rfl) dL_law_458 ?_
  refine pw_swap ?_
  refine px_aload_n C9 2 dL_law_461 rfl rfl ?_
  refine lx_arg C9 X hL (j := 1) (i := i) (by decide) (by omega) rfl rfl dL_law_462 dL_law_463 dL_law_464 dL_law_465 dL_law_466 ?_
  refine px_callV1 C9 (c_X9_breaks l tA tB adM 300 T (xs (i + 1)) e2) (cwV 1 C9.2.2.2.2.1 gL_law_X9_breaks rfl rfl rfl (by decide +kernel) ⟨Nat.le_of_ble_eq_true rfl, Nat.le_of_ble_eq_true rfl⟩) ⟨Nat.le_refl _, Nat.le_refl _⟩ km_0 rfl rfl rfl (Nat.le_of_ble_eq_true rfl) dL_law_467 ?_
  refine pw_swap ?_
  exact px_icmp_eq C8 (tgt := 893) dL_law_470 (by decide) (fun _ => back _ _ h2) (fun z => absurd rfl z)
set_option maxHeartbeats 4000000 in
set_option maxRecDepth 100000 in
theorem lc_13 {p : Program} {l : Launch} {e : Env} {s : State} {m : MethodId} {below : List Frame} {meth : Method} {c : Code} {b L : Nat} {xs : Nat → Int32} {D : va_G} {cI cB cz : ClassId} {tA tB : Nat} {adX adM : Nat → Nat} (C8 : LX8 p s m meth c D b cI cB tA tB) (C9 : LX9 p s m meth c D b cI cz tA tB) (X : LXs b L xs s) (hL : L ≤ 192) {i : Nat} (hi : i + 3 ≤ L) {S T : St} (h : Rel S T) (back : ∀ S1 T1 : St, Rel S1 T1 → LWP p l e s m below meth c b D cI cB cz adX adM S1 T1 [(0, .ref b), (1, .ref (adX 0)), (2, .ref (adM 0)), (3, .int (nI i))] 893 []) : LWP p l e s m below meth c b D cI cB cz adX adM S T [(0, .ref b), (1, .ref (adX 0)), (2, .ref (adM 0)), (3, .int (nI i))] 475 [] := by
  obtain ⟨r, S2, T2, e1, e2, h2⟩ := a_undo (Nat.le_refl 300) h
  refine px_aload_n C8 1 dL_law_475 rfl rfl ?_
  refine px_callV1 C8 (c_X8_undo l tA tB adX 300 S e1) (cwV 0 C8.2.2.2.2.1 gL_law_X8_undo rfl rfl rfl (by decide +kernel) ⟨Nat.le_of_ble_eq_true rfl, Nat.le_of_ble_eq_true rfl⟩) ⟨Nat.le_refl _, Nat.le_refl _⟩ kx_0 rfl rfl rfl (Nat.le_of_ble_eq_true rfl) dL_law_476 ?_
  refine pw_swap ?_
  refine px_aload_n C9 2 dL_law_479 rfl rfl ?_
  refine px_callV1 C9 (c_X9_undo l tA tB adM 300 T e2) (cwV 0 C9.2.2.2.2.1 gL_law_X9_undo rfl rfl rfl (by decide +kernel) ⟨Nat.le_of_ble_eq_true rfl, Nat.le_of_ble_eq_true rfl⟩) ⟨Nat.le_refl _, Nat.le_refl _⟩ km_0 rfl rfl rfl (Nat.le_of_ble_eq_true rfl) dL_law_480 ?_
  refine pw_swap ?_
  exact px_icmp_eq C8 (tgt := 893) dL_law_483 (by decide) (fun _ => back _ _ h2) (fun z => absurd rfl z)
set_option maxHeartbeats 4000000 in
set_option maxRecDepth 100000 in
theorem lc_14 {p : Program} {l : Launch} {e : Env} {s : State} {m : MethodId} {below : List Frame} {meth : Method} {c : Code} {b L : Nat} {xs : Nat → Int32} {D : va_G} {cI cB cz : ClassId} {tA tB : Nat} {adX adM : Nat → Nat} (C8 : LX8 p s m meth c D b cI cB tA tB) (C9 : LX9 p s m meth c D b cI cz tA tB) (X : LXs b L xs s) (hL : L ≤ 192) {i : Nat} (hi : i + 3 ≤ L) {S T : St} (h : Rel S T) (back : ∀ S1 T1 : St, Rel S1 T1 → LWP p l e s m below meth c b D cI cB cz adX adM S1 T1 [(0, .ref b), (1, .ref (adX 0)), (2, .ref (adM 0)), (3, .int (nI i))] 893 []) : LWP p l e s m below meth c b D cI cB cz adX adM S T [(0, .ref b), (1, .ref (adX 0)), (2, .ref (adM 0)), (3, .int (nI i))] 488 [] := by
  obtain ⟨r, S2, T2, e1, e2, h2⟩ := a_way (Nat.le_refl 300) h (xs (i + 1))
  refine px_aload_n C8 1 dL_law_488 rfl rfl ?_
  refine lx_arg C8 X hL (j := 1) (i := i) (by decide) (by omega) rfl rfl dL_law_489 dL_law_490 dL_law_491 dL_law_492 dL_law_493 ?_
  refine px_callV1 C8 (c_X8_way l tA tB adX 300 S (xs (i + 1)) e1) (cwV 1 C8.2.2.2.2.1 gL_law_X8_way rfl rfl rfl (by decide +kernel) ⟨Nat.le_of_ble_eq_true rfl, Nat.le_of_ble_eq_true rfl⟩) ⟨Nat.le_refl _, Nat.le_refl _⟩ kx_0 rfl rfl rfl (Nat.le_of_ble_eq_true rfl) dL_law_494 ?_
  refine pw_swap ?_
  refine px_aload_n C9 2 dL_law_497 rfl rfl ?_
  refine lx_arg C9 X hL (j := 1) (i := i) (by decide) (by omega) rfl rfl dL_law_498 dL_law_499 dL_law_500 dL_law_501 dL_law_502 ?_
  refine px_callV1 C9 (c_X9_way l tA tB adM 300 T (xs (i + 1)) e2) (cwV 1 C9.2.2.2.2.1 gL_law_X9_way rfl rfl rfl (by decide +kernel) ⟨Nat.le_of_ble_eq_true rfl, Nat.le_of_ble_eq_true rfl⟩) ⟨Nat.le_refl _, Nat.le_refl _⟩ km_0 rfl rfl rfl (Nat.le_of_ble_eq_true rfl) dL_law_503 ?_
  refine pw_swap ?_
  exact px_icmp_eq C8 (tgt := 893) dL_law_506 (by decide) (fun _ => back _ _ h2) (fun z => absurd rfl z)
set_option maxHeartbeats 4000000 in
set_option maxRecDepth 100000 in
theorem lc_15 {p : Program} {l : Launch} {e : Env} {s : State} {m : MethodId} {below : List Frame} {meth : Method} {c : Code} {b L : Nat} {xs : Nat → Int32} {D : va_G} {cI cB cz : ClassId} {tA tB : Nat} {adX adM : Nat → Nat} (C8 : LX8 p s m meth c D b cI cB tA tB) (C9 : LX9 p s m meth c D b cI cz tA tB) (X : LXs b L xs s) (hL : L ≤ 192) {i : Nat} (hi : i + 3 ≤ L) {S T : St} (h : Rel S T) (back : ∀ S1 T1 : St, Rel S1 T1 → LWP p l e s m below meth c b D cI cB cz adX adM S1 T1 [(0, .ref b), (1, .ref (adX 0)), (2, .ref (adM 0)), (3, .int (nI i))] 893 []) : LWP p l e s m below meth c b D cI cB cz adX adM S T [(0, .ref b), (1, .ref (adX 0)), (2, .ref (adM 0)), (3, .int (nI i))] 511 [] := by
  obtain ⟨r, S2, T2, e1, e2, h2⟩ := a_enough (Nat.le_refl 300) h
  refine px_aload_n C8 1 dL_law_511 rfl rfl ?_
  refine px_callV1 C8 (c_X8_enough l tA tB adX 300 S e1) (cwV 0 C8.2.2.2.2.1 gL_law_X8_enough rfl rfl rfl (by decide +kernel) ⟨Nat.le_of_ble_eq_true rfl, Nat.le_of_ble_eq_true rfl⟩) ⟨Nat.le_refl _, Nat.le_refl _⟩ kx_0 rfl rfl rfl (Nat.le_of_ble_eq_true rfl) dL_law_512 ?_
  refine pw_swap ?_
  refine px_aload_n C9 2 dL_law_515 rfl rfl ?_
  refine px_callV1 C9 (c_X9_enough l tA tB adM 300 T e2) (cwV 0 C9.2.2.2.2.1 gL_law_X9_enough rfl rfl rfl (by decide +kernel) ⟨Nat.le_of_ble_eq_true rfl, Nat.le_of_ble_eq_true rfl⟩) ⟨Nat.le_refl _, Nat.le_refl _⟩ km_0 rfl rfl rfl (Nat.le_of_ble_eq_true rfl) dL_law_516 ?_
  refine pw_swap ?_
  exact px_icmp_eq C8 (tgt := 893) dL_law_519 (by decide) (fun _ => back _ _ h2) (fun z => absurd rfl z)
