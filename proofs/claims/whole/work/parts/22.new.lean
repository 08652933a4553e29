/-! constructors: explicit worlds that grow -/
def S00 : St := (fun _ _ => 0, fun _ _ => 0)
theorem p_Z.narrow {tA tB : Nat} {A B : Nat → Prop} {U : State} {H : Heap} (h : p_Z tA tB A U H) (hAB : ∀ q, B q → A q) : p_Z tA tB B U H := ⟨⟨h.1.1.narrow hAB, h.1.2.narrow hAB⟩, h.2.1.narrow hAB, h.2.2.narrow hAB⟩
def NPre (t1 : FieldType) (tA tB : Nat) (D : va_G) (cI c1 : ClassId) (wc : va_W) (sz : Nat) (U : State) : Prop :=
  U.heap.size = sz ∧ va_P D vwCl wc U.heap ∧ va_K D vwCl [(cI, .int), (c1, t1)] U ∧ va_D (fun _ => True) wc ∧ p_Z tA tB (va_A wc sz) U U.heap ∧ va_AO "RiverTolls$Boat" U
def NQ (w1 : (Nat → Nat) → va_W) (A : Nat → Prop) (D : va_G) : Array Value → State → Outcome → State → Prop := fun _ st oc t =>
  oc = .returned none ∧ (∃ qs : Nat → Nat, va_P D vwCl (w1 qs) t.heap ∧ va_D A (w1 qs)) ∧ va_F A st t
def NMet (l : Launch) (y : MethodName) (ws : List Cond) (rm : Room) (t1 : FieldType) (tA tB : Nat) (av : List Value) (wc : va_W) (w1 : ClassId → ClassId → (Nat → Nat) → va_W) (mc ms : Nat) : Prop :=
  ∀ (D : va_G) (sz : Nat) (cI c1 : ClassId), Met l y ws rm (va_Pc av (NPre t1 tA tB D cI c1 wc sz)) (NQ (w1 cI c1) (va_A wc sz) D) mc ms (va_A wc sz)
theorem NPre.blind {av : List Value} {t1 : FieldType} {tA tB : Nat} {D : va_G} {cI c1 : ClassId} {wc : va_W} {sz : Nat} : FrameBlind (va_Pc av (NPre t1 tA tB D cI c1 wc sz)) := by
  intro a U g mk q
  obtain ⟨q0, q1, qP, qK, qD, qZ, qO⟩ := q
  exact ⟨q0, q1, qP, va_K.moved (u := U) (U := U.calling g mk a) (Vm.Alike.refl U.vm) qK, qD, p_Z.moved (u := U) (U := U.calling g mk a) (Vm.Alike.refl U.vm) qZ, va_AO.moved (u := U) (U := U.calling g mk a) (Vm.Alike.refl U.vm) qO⟩
theorem NMet.of {l : Launch} {y : MethodName} {ws ws' : List Cond} {rm : Room} {t1 : FieldType} {tA tB : Nat} {av : List Value} {wc : va_W} {w1 : ClassId → ClassId → (Nat → Nat) → va_W} {mc ms : Nat} {cc : ByteArray} {maxL : Nat} {lv : List (Nat × Value)}
    {own : String} (ho : y.cls = own) (hi : y.name = "<init>") (hy : plainName y.cls = true) (hw : ws = Cond.code y cc maxL none :: ws') (hlen : (lg_sl av).length ≤ maxL) (hlv : lv_args 0 av = lv)
    (body : ∀ (p : Program) (e : Env) (s : State) (m : MethodId) (args : Array Value) (below : List Frame) (meth : Method) (c : Code) (D : va_G) (A : Nat → Prop) (cI c1 : ClassId), CX p s m args meth c D A cI c1 t1 tA tB cc maxL ws own none → (∀ q, s.heap.size ≤ q → A q) → meth.name = "<init>" → va_AO "RiverTolls$Boat" s →
      PW p l e rm s m args below meth c (MQ below (NQ (w1 cI c1) A D) args s mc ms A) D A cI c1 wc [] (fun k => k) maxL 0 0 S00 lv 0 []) : NMet l y ws rm t1 tA tB av wc w1 mc ms := by
  intro D sz cI c1
  refine Met.ofW (cc := cc) (maxL := maxL) (ret := none) hy hw ?_
  intro p e s m args below meth c s₁ B hml hv
  obtain ⟨rfl, rfl, hP, hK, hD, hZ, hO⟩ := hv
  rw [lg_entry_eq]
  exact body p e s m _ below meth c D (va_A wc s.heap.size) cI c1 ⟨B.exec, B.bytes, hml, ho ▸ findClass_of_methodNamed B.named, atoms_spec (ws := ws) B.pre, hK, B.returns, B.notSynchronized, hZ⟩ (fun q h => Or.inr h) (((name_of_methodNamed B.named B.method).1).trans hi) hO s.heap [] _ hP (va_D.self (A := fun _ => True) hD) va_S.rf (hlv ▸ lv_entry av hlen)
theorem NMet.ofV {l : Launch} {y : MethodName} {ws ws' : List Cond} {rm : Room} {t1 : FieldType} {tA tB : Nat} {av : List Value} {wc : va_W} {w1 : ClassId → ClassId → (Nat → Nat) → va_W} {mc ms : Nat} {cc : ByteArray} {maxL : Nat} {lv : List (Nat × Value)}
    {own : String} (ho : y.cls = own) (hy : plainName y.cls = true) (hw : ws = Cond.code y cc maxL none :: ws') (hlen : (lg_sl av).length ≤ maxL) (hlv : lv_args 0 av = lv)
    (body : ∀ (p : Program) (e : Env) (s : State) (m : MethodId) (args : Array Value) (below : List Frame) (meth : Method) (c : Code) (D : va_G) (A : Nat → Prop) (cI c1 : ClassId), CX p s m args meth c D A cI c1 t1 tA tB cc maxL ws own none → (∀ q, s.heap.size ≤ q → A q) → va_AO "RiverTolls$Boat" s →
      PW p l e rm s m args below meth c (MQ below (NQ (w1 cI c1) A D) args s mc ms A) D A cI c1 wc [] (fun k => k) maxL 0 0 S00 lv 0 []) : NMet l y ws rm t1 tA tB av wc w1 mc ms := by
  intro D sz cI c1
  refine Met.ofW (cc := cc) (maxL := maxL) (ret := none) hy hw ?_
  intro p e s m args below meth c s₁ B hml hv
  obtain ⟨rfl, rfl, hP, hK, hD, hZ, hO⟩ := hv
  rw [lg_entry_eq]
  exact body p e s m _ below meth c D (va_A wc s.heap.size) cI c1 ⟨B.exec, B.bytes, hml, ho ▸ findClass_of_methodNamed B.named, atoms_spec (ws := ws) B.pre, hK, B.returns, B.notSynchronized, hZ⟩ (fun q h => Or.inr h) hO s.heap [] _ hP (va_D.self (A := fun _ => True) hD) va_S.rf (hlv ▸ lv_entry av hlen)
section NX
variable {p : Program} {l : Launch} {e : Env} {R : Room} {s : State} {m : MethodId} {args : Array Value} {below : List Frame} {meth : Method} {c : Code} {Q : State → Prop} {D : va_G} {A : Nat → Prop} {cI c1 : ClassId} {t1 : FieldType} {tA tB : Nat} {F : va_W} {ad : Nat → Nat} {nL : Nat} {kc ks : Nat} {S : St} {lv : List (Nat × Value)} {pc : Nat} {st : List Value} {cc : ByteArray} {Ts : List Cond} {own : String} {rt : Option FieldType}
theorem nx_obj (C : CX p s m args meth c D A cI c1 t1 tA tB cc nL Ts own rt) {index a : Nat} (h1 : Cond.methodLink own index objectInit ∈ Ts) (h2 : Cond.instanceMethod objectInit ∈ Ts) (h3 : Cond.code objectInit ⟨#[0xb1]⟩ 1 none ∈ Ts) (hf : 1 ≤ R.frames) (hlo : (st.map fun v => v.category).sum + 12 ≤ R.locals) (hdg : decode cc pc = .ok (.invokespecial index, 3))
    (kk : PW p l e R s m args below meth c Q D A cI c1 F [] ad nL kc ks S lv (pc + 3) st) : PW p l e R s m args below meth c Q D A cI c1 F [] ad nL kc ks S lv pc (.ref a :: st) := fun H locs ls hP hD hS hl =>
  W.objInit C.1 C.2.1 C.2.2.2.1 (C.2.2.2.2.1 _ h1) (C.2.2.2.2.1 _ h2) (C.2.2.2.2.1 _ h3) rfl (by rw [C.2.2.1]; exact hl.1) rfl hdg hf (by show 2 * 0 + _ + 12 ≤ _; omega) (W.eq rfl (kk H locs ls hP hD hS hl))
theorem nx_new (C : CX p s m args meth c D A cI c1 t1 tA tB cc nL Ts own rt) {index ci N : Nat} {Cn : String} {T : u_T} (hA : ∀ q, s.heap.size ≤ q → A q) (hin : ∀ w ∈ u_ws Cn T N, w ∈ Ts) (ty : Nat → FieldType) (hty : ∀ k, k < N → parseFieldDescriptor (T k).2.2.1 = some (ty k)) (hcl : Cond.classLink own index Cn ∈ Ts) (hi : Cond.instantiable Cn N ∈ Ts) (hini : Cond.initialized Cn ∈ Ts) (hc : vwCl[ci]? = some (Cn, T, N)) (fs : List Value) (hfs : ∀ j, j < N → defaultValue (ty j) = vp_V fs j) (hk : kc + 1 ≤ R.cells ∧ ks + N ≤ R.slots) (hdg : decode cc pc = .ok (.new index, 3)) (F' : Nat → va_W) (hF : ∀ q : Nat, F ++ [(q, .inr (ci, fs))] = F' q)
    (kk : ∀ q : Nat, PW p l e R s m args below meth c Q D A cI c1 (F' q) [] ad nL (kc + 1) (ks + N) S lv (pc + 3) (.ref q :: st)) : PW p l e R s m args below meth c Q D A cI c1 F [] ad nL kc ks S lv pc st := fun H locs ls hP hD hS hl =>
  va_new C.1 C.2.1 C.2.2.2.2.1 hin ty hty C.2.2.2.1 (C.2.2.2.2.1 _ hcl) (C.2.2.2.2.1 _ hi) (C.2.2.2.2.1 _ hini) C.2.2.2.2.2.1 (show va_P D vwCl F H from hP) hD hS hA hc hfs hk.1 hk.2 hdg (fun q H1 h1 h2 h3 => kk q H1 locs ls (by rw [← hF q]; exact h1) (by rw [← hF q]; exact h2) h3 hl)
theorem nx_newi (C : CX p s m args meth c D A cI c1 t1 tA tB cc nL Ts own rt) (hA : ∀ q, s.heap.size ≤ q → A q) (harr : Cond.arrayClass .int ∈ Ts) {n : Int32} (N : Nat) (hn : ¬ n < 0) (hN : n.toNatClampNeg = N) (hby : N * 4 ≤ 536870912) (hk : kc + 1 ≤ R.cells ∧ ks + N ≤ R.slots) (hdg : decode cc pc = .ok (.newarray .int, 2)) (F' : Nat → va_W) (hF : ∀ q : Nat, F ++ [(q, .inl (cI, N, .inl (fun _ => 0)))] = F' q)
    (kk : ∀ q : Nat, PW p l e R s m args below meth c Q D A cI c1 (F' q) [] ad nL (kc + 1) (ks + N) S lv (pc + 2) (.ref q :: st)) : PW p l e R s m args below meth c Q D A cI c1 F [] ad nL kc ks S lv pc (.int n :: st) := fun H locs ls hP hD hS hl =>
  va_newa (atype := .int) (ty := .int) (a0 := (N, .inl (fun _ => 0))) C.1 C.2.1 (C.2.2.2.2.1 _ harr) rfl C.2.2.2.2.2.1 (show va_P D vwCl F H from hP) hD hS hA (fun _ => rfl) hn hN hby hk.1 hk.2 hdg (fun q cA H1 hK h1 h2 h3 => by
    have hcc : cA = cI := Option.some.inj ((va_nm_int (hK.2 2 _ rfl).2).symm.trans (va_nm_int (C.2.2.2.2.2.1.2 0 _ rfl).2))
    rw [hcc] at h1 h2
    exact kk q H1 locs ls (by rw [← hF q]; exact h1) (by rw [← hF q]; exact h2) h3 hl)
theorem nx_newz (C : CX p s m args meth c D A cI c1 t1 tA tB cc nL Ts own rt) (ht : t1 = .boolean) (hA : ∀ q, s.heap.size ≤ q → A q) (harr : Cond.arrayClass .boolean ∈ Ts) {n : Int32} (N : Nat) (hn : ¬ n < 0) (hN : n.toNatClampNeg = N) (hby : N * 1 ≤ 536870912) (hk : kc + 1 ≤ R.cells ∧ ks + N ≤ R.slots) (hdg : decode cc pc = .ok (.newarray .boolean, 2)) (F' : Nat → va_W) (hF : ∀ q : Nat, F ++ [(q, .inl (c1, N, .inl (fun _ => 0)))] = F' q)
    (kk : ∀ q : Nat, PW p l e R s m args below meth c Q D A cI c1 (F' q) [] ad nL (kc + 1) (ks + N) S lv (pc + 2) (.ref q :: st)) : PW p l e R s m args below meth c Q D A cI c1 F [] ad nL kc ks S lv pc (.int n :: st) := by
  subst ht
  exact fun H locs ls hP hD hS hl =>
    va_newa (atype := .boolean) (ty := .boolean) (a0 := (N, .inl (fun _ => 0))) C.1 C.2.1 (C.2.2.2.2.1 _ harr) rfl C.2.2.2.2.2.1 (show va_P D vwCl F H from hP) hD hS hA (fun _ => rfl) hn hN hby hk.1 hk.2 hdg (fun q cA H1 hK h1 h2 h3 => by
      have hcc : cA = c1 := Option.some.inj ((va_nm_boolean (hK.2 2 _ rfl).2).symm.trans (va_nm_boolean (C.2.2.2.2.2.1.2 1 _ rfl).2))
      rw [hcc] at h1 h2
      exact kk q H1 locs ls (by rw [← hF q]; exact h1) (by rw [← hF q]; exact h2) h3 hl)
theorem nx_newq (C : CX p s m args meth c D A cI c1 t1 tA tB cc nL Ts own rt) {Cn : String} (ht : t1 = .object Cn) (hA : ∀ q, s.heap.size ≤ q → A q) {index : Nat} (hcl : Cond.classLink own index Cn ∈ Ts) (hO : va_AO Cn s) {n : Int32} (N : Nat) (hn : ¬ n < 0) (hN : n.toNatClampNeg = N) (hby : N * 4 ≤ 536870912) (hk : kc + 1 ≤ R.cells ∧ ks + N ≤ R.slots) (hdg : decode cc pc = .ok (.anewarray index, 3)) (F' : Nat → va_W) (hF : ∀ q : Nat, F ++ [(q, .inl (c1, N, .inr (.inr (.inr (.inr (fun _ => none))))))] = F' q)
    (kk : ∀ q : Nat, PW p l e R s m args below meth c Q D A cI c1 (F' q) [] ad nL (kc + 1) (ks + N) S lv (pc + 3) (.ref q :: st)) : PW p l e R s m args below meth c Q D A cI c1 F [] ad nL kc ks S lv pc (.int n :: st) := by
  subst ht
  exact fun H locs ls hP hD hS hl =>
    va_newq C.1 C.2.1 C.2.2.2.1 (C.2.2.2.2.1 _ hcl) hO C.2.2.2.2.2.1 (show va_P D vwCl F H from hP) hD hS hA hn hN hby hk.1 hk.2 hdg (fun q cA H1 hK h1 h2 h3 => by
      have hcc : cA = c1 := Option.some.inj ((va_nmO (hK.2 2 _ rfl).2 rfl).symm.trans (va_nmO (C.2.2.2.2.2.1.2 1 _ rfl).2 rfl))
      rw [hcc] at h1 h2
      exact kk q H1 locs ls (by rw [← hF q]; exact h1) (by rw [← hF q]; exact h2) h3 hl)
theorem nx_putF (C : CX p s m args meth c D A cI c1 t1 tA tB cc nL Ts own rt) {a ci j index N : Nat} {Cn : String} {T : u_T} {fs : List Value} {v : Value} (q0 : Nat) (he : F[q0]? = some (a, .inr (ci, fs))) (hc : vwCl[ci]? = some (Cn, T, N)) (hin : ∀ w ∈ u_ws Cn T N, w ∈ Ts) (hjN : j < N) (hlink : Cond.fieldLink own index (T j).1 (T j).2.1 (T j).2.2.1 ∈ Ts) (ty0 : Nat → FieldType) (hty : ∀ a, a < N → parseFieldDescriptor (T a).2.2.1 = some (ty0 a)) (hnm : ∀ a, a < N → ∀ b, b < N → a ≠ b → (T a).2.1 ≠ (T b).2.1) (hfin : (T j).2.2.2 = true) (hmi : meth.name = "<init>") (hdecl : (T j).1 = own) {ty : FieldType} (hd : parseFieldDescriptor (T j).2.2.1 = some ty) (hn : narrow ty v = v) (hfit : fits ty v = true) (hl0 : j < fs.length) (hdg : decode cc pc = .ok (.putfield index, 3)) (F' : va_W) (hF : F.set q0 (a, .inr (ci, fs.set j v)) = F')
    (kk : PW p l e R s m args below meth c Q D A cI c1 F' [] ad nL kc ks S lv (pc + 3) st) : PW p l e R s m args below meth c Q D A cI c1 F [] ad nL kc ks S lv pc (v :: .ref a :: st) := by
  subst hF
  exact fun H locs ls hP hD hS hl => va_putF C.1 C.2.1 C.2.2.2.2.1 hin ty0 hty hnm C.2.2.2.1 C.2.2.2.2.2.1 (show va_P D vwCl F H from hP) hD hS q0 he hc j hjN (C.2.2.2.2.1 _ hlink) (fun _ h9 => h9) hfin hmi hdecl hd hn hfit hl0 hdg (fun H1 locs1 h1 h2 h3 => kk H1 locs1 ls h1 h2 h3 hl)
theorem nx_put (C : CX p s m args meth c D A cI c1 t1 tA tB cc nL Ts own rt) {a ci j index N : Nat} {Cn : String} {T : u_T} {fs : List Value} {v : Value} (q0 : Nat) (he : F[q0]? = some (a, .inr (ci, fs))) (hc : vwCl[ci]? = some (Cn, T, N)) (hin : ∀ w ∈ u_ws Cn T N, w ∈ Ts) (hjN : j < N) (hlink : Cond.fieldLink own index (T j).1 (T j).2.1 (T j).2.2.1 ∈ Ts) (ty0 : Nat → FieldType) (hty : ∀ a, a < N → parseFieldDescriptor (T a).2.2.1 = some (ty0 a)) (hnm : ∀ a, a < N → ∀ b, b < N → a ≠ b → (T a).2.1 ≠ (T b).2.1) (hfin : (T j).2.2.2 = false) {ty : FieldType} (hd : parseFieldDescriptor (T j).2.2.1 = some ty) (hn : narrow ty v = v) (hfit : fits ty v = true) (hl0 : j < fs.length) (hdg : decode cc pc = .ok (.putfield index, 3)) (F' : va_W) (hF : F.set q0 (a, .inr (ci, fs.set j v)) = F')
    (kk : PW p l e R s m args below meth c Q D A cI c1 F' [] ad nL kc ks S lv (pc + 3) st) : PW p l e R s m args below meth c Q D A cI c1 F [] ad nL kc ks S lv pc (v :: .ref a :: st) := by
  subst hF
  exact fun H locs ls hP hD hS hl => va_put C.1 C.2.1 C.2.2.2.2.1 hin ty0 hty hnm C.2.2.2.1 C.2.2.2.2.2.1 (show va_P D vwCl F H from hP) hD hS q0 he hc j hjN (C.2.2.2.2.1 _ hlink) (fun _ h9 => h9) hfin hd hn hfit hl0 hdg (fun H1 locs1 h1 h2 h3 => kk H1 locs1 ls h1 h2 h3 hl)
theorem nx_get (C : CX p s m args meth c D A cI c1 t1 tA tB cc nL Ts own rt) {a ci j index N : Nat} {Cn : String} {T : u_T} {fs : List Value} {v : Value} (q0 : Nat) (he : F[q0]? = some (a, .inr (ci, fs))) (hc : vwCl[ci]? = some (Cn, T, N)) (hin : ∀ w ∈ u_ws Cn T N, w ∈ Ts) (hjN : j < N) (hlink : Cond.fieldLink own index (T j).1 (T j).2.1 (T j).2.2.1 ∈ Ts) (hv : fs[j]? = some v) (hdg : decode cc pc = .ok (.getfield index, 3))
    (kk : PW p l e R s m args below meth c Q D A cI c1 F [] ad nL kc ks S lv (pc + 3) (v :: st)) : PW p l e R s m args below meth c Q D A cI c1 F [] ad nL kc ks S lv pc (.ref a :: st) :=
  fun H locs ls hP hD hS hl => va_get C.1 C.2.1 C.2.2.2.2.1 hin C.2.2.2.1 C.2.2.2.2.2.1 (show va_P D vwCl F H from hP) q0 he hc j hjN (C.2.2.2.2.1 _ hlink) (fun _ h9 => h9) hv hdg (kk H locs ls hP hD hS hl)
theorem nx_alen (C : CX p s m args meth c D A cI c1 t1 tA tB cc nL Ts own rt) {a : Nat} {x : vp_A} (q0 : Nat) (he : F[q0]? = some (a, .inl (c1, x))) {v : Int32} (hv : Int32.ofNat x.1 = v) (hdg : decode cc pc = .ok (.arraylength, 1))
    (kk : PW p l e R s m args below meth c Q D A cI c1 F [] ad nL kc ks S lv (pc + 1) (.int v :: st)) : PW p l e R s m args below meth c Q D A cI c1 F [] ad nL kc ks S lv pc (.ref a :: st) :=
  fun H locs ls hP hD hS hl => va_alen C.1 C.2.1 C.2.2.2.2.2.1 (show va_P D vwCl F H from hP) q0 1 he rfl hv hdg (kk H locs ls hP hD hS hl)
theorem nx_astq (C : CX p s m args meth c D A cI c1 t1 tA tB cc nL Ts own rt) {a n v ci : Nat} {vs : List Value} {r : vw_C} {f : Nat → Option Nat} (ht : t1 = .object r.1) (q0 qk : Nat) (he : F[q0]? = some (a, .inl (c1, n, .inr (.inr (.inr (.inr f)))))) (hv : F[qk]? = some (v, .inr (ci, vs))) (hc : vwCl[ci]? = some r) {i : Int32} (hin : vp_in i n) (hdg : decode cc pc = .ok (.aastore, 1)) (F' : va_W) (hF : F.set q0 (a, .inl (c1, n, .inr (.inr (.inr (.inr (va_up f i.toNatClampNeg (some v))))))) = F')
    (kk : PW p l e R s m args below meth c Q D A cI c1 F' [] ad nL kc ks S lv (pc + 1) st) : PW p l e R s m args below meth c Q D A cI c1 F [] ad nL kc ks S lv pc (.ref v :: .int i :: .ref a :: st) := by
  subst hF
  exact fun H locs ls hP hD hS hl => va_astq C.1 C.2.1 C.2.2.2.2.2.1 (show va_P D vwCl F H from hP) hD hS q0 1 qk ci he (by rw [ht]; rfl) hv hc hin hdg (fun H1 locs1 h1 h2 h3 => kk H1 locs1 ls h1 h2 h3 hl)
theorem nx_iast (C : CX p s m args meth c D A cI c1 t1 tA tB cc nL Ts own rt) {a n : Nat} {f : Nat → Int32} (q0 : Nat) (he : F[q0]? = some (a, .inl (cI, n, .inl f))) {i x : Int32} (hin : vp_in i n) (hdg : decode cc pc = .ok (.iastore, 1)) (F' : va_W) (hF : F.set q0 (a, .inl (cI, n, .inl (upd f i.toNatClampNeg x))) = F')
    (kk : PW p l e R s m args below meth c Q D A cI c1 F' [] ad nL kc ks S lv (pc + 1) st) : PW p l e R s m args below meth c Q D A cI c1 F [] ad nL kc ks S lv pc (.int x :: .int i :: .ref a :: st) := by
  subst hF
  exact fun H locs ls hP hD hS hl => va_iast C.1 C.2.1 C.2.2.2.2.2.1 (show va_P D vwCl F H from hP) hD hS q0 0 he rfl hin hdg (fun H1 locs1 h1 h2 h3 => kk H1 locs1 ls h1 h2 h3 hl)
theorem nx_callI (C : CX p s m args meth c D A cI c1 t1 tA tB cc nL Ts own rt) (hA : ∀ q, s.heap.size ≤ q → A q) (hO : va_AO "RiverTolls$Boat" s) {y : MethodName} {ws : List Cond} {rm : Room} {As rest : List Value} {wc wr : va_W} {w1 : ClassId → ClassId → (Nat → Nat) → va_W} {mc ms b n index maxL : Nat} {bytes : ByteArray} (hM : NMet l y ws rm t1 tA tB (.ref b :: As) wc w1 mc ms) (cw : CallB R s args own index y bytes maxL none ws rm mc ms n ∧ y.name = "<init>" ∧ (Cond.instanceMethod y).before args s = true) (hk : kc + mc ≤ R.cells ∧ ks + ms ≤ R.slots)
    (isC isR : List Nat) (hC0 : isC.filterMap (fun i => F[i]?) = wc) (hC : isC.map (fun i => F[i]?) = wc.map some) (hR : isR.map (fun i => F[i]?) = wr.map some) (hnC : va_nd isC = true) (hnR : va_nd isR = true) (hdis : ∀ i ∈ isR, i ∉ isC) (hn : As.length = n) (hst : st = As.reverse ++ .ref b :: rest) (hW : (rest.map fun v => v.category).sum ≤ 8) (hdg : decode cc pc = .ok (.invokespecial index, 3)) (F' : (Nat → Nat) → va_W) (hF : ∀ qs : Nat → Nat, wr ++ w1 cI c1 qs = F' qs)
    (kk : ∀ qs : Nat → Nat, PW p l e R s m args below meth c Q D A cI c1 (F' qs) [] ad nL (kc + mc) (ks + ms) S lv (pc + 3) rest) : PW p l e R s m args below meth c Q D A cI c1 F [] ad nL kc ks S lv pc st := by
  intro H locs ls hP hD hS hl
  subst hst
  have hP : va_P D vwCl F H := hP
  have hD : va_D A F := hD
  have hW0 : 2 * (F0 m pc ls (As.reverse ++ .ref b :: rest)).monitorRoom + (rest.map fun v => v.category).sum ≤ 8 := by
    show 2 * 0 + _ ≤ 8
    omega
  have hPc := hP.sub (ws' := wc) isC hC0
  have hDc := hD.sub (ws' := wc) isC hnC hC
  have hFc := va_free (wc := wc) hD hS hA isC hC
  have hpre : ∀ U : State, U.heap = H → s.WarmedH U.vm → NPre t1 tA tB D cI c1 wc H.size U := fun U hU hWm => ⟨by rw [hU], by rw [hU]; exact hPc, va_K.moved hWm.alike C.2.2.2.2.2.1, hDc.weaken (fun _ _ _ _ => trivial), p_Z.moved hWm.alike (by rw [hU]; exact (C.2.2.2.2.2.2.2.2.kept (fun a h1 h2 => hS.2.1 a h1 h2)).narrow hFc), va_AO.moved hWm.alike hO⟩
  have hr := va_runI (b := b) (As := As) (rest := rest) (cells := kc) (slots := ks) (locs := locs) (H := H) (l := l) (e := e) (R := R) (below := below) (meth := meth) ⟨C.1, C.2.1, C.2.2.1, C.2.2.2.1, C.2.2.2.2.1⟩ (hM D H.size cI c1) cw ⟨NPre.blind, fun U hU hWm => ⟨rfl, hpre U hU hWm⟩⟩ (g := F0 m pc ls (As.reverse ++ .ref b :: rest)) rfl hn hl.1 rfl hW0 hdg hk
  intro T hT X
  obtain ⟨v, st₀, t, T', L, h0, X', hL, e1, e2, ⟨hv, ⟨qs, hP1, hD1⟩, hz, hk1⟩, sg⟩ := hr T hT X
  cases hv
  rw [h0] at hz hk1
  obtain ⟨hP2, hD2⟩ := va_join hP hD isC isR hC hR hnR hdis hk1 hFc hP1 hD1
  obtain ⟨t2, a1, b1⟩ := kk qs T'.heap (locs ++ L) ls (by rw [e1]; rw [← hF qs]; exact hP2) (by rw [← hF qs]; exact hD2) ⟨Nat.le_trans hS.1 (by rw [e1]; exact hz), fun q h1 h2 => by rw [e1, hk1 q (Nat.lt_of_lt_of_le h1 hS.1) (fun z => h2 (hFc q z))]; exact hS.2.1 q h1 h2, fun q hq => by
      rcases List.mem_append.mp hq with h | h
      · exact hS.2.2 q h
      · exact hFc _ (hL q h)⟩ hl T' rfl X'
  exact ⟨t2, sg t2 a1, b1⟩
theorem nx_vret (C : CX p s m args meth c D A cI c1 t1 tA tB cc nL Ts own none) {w1 : (Nat → Nat) → va_W} (qs : Nat → Nat) (is : List Nat) (h0 : is.filterMap (fun i => F[i]?) = w1 qs) (hn : va_nd is = true) (h1 : is.map (fun i => F[i]?) = (w1 qs).map some) (hdg : decode cc pc = .ok (.return_, 1)) : PW p l e R s m args below meth c (MQ below (NQ w1 A D) args s kc ks A) D A cI c1 F [] ad nL kc ks S lv pc [] := fun H locs ls hP hD hS hl =>
  W.vret C.1 C.2.1 C.2.2.2.2.2.2.1 (hq := fun t ht hW => ⟨rfl, ⟨qs, by rw [ht]; exact (show va_P D vwCl F H from hP).sub is h0, (show va_D A F from hD).sub is hn h1⟩, hS.F ht⟩) (hf := hS.2.2) (hdg := hdg) (hlocks := C.2.2.2.2.2.2.2.1)
theorem nx_callV (C : CX p s m args meth c D A cI c1 t1 tA tB cc nL Ts own rt) (hA : ∀ q, s.heap.size ≤ q → A q) (hO : va_AO "RiverTolls$Boat" s) {y : MethodName} {ws : List Cond} {rm : Room} {As rest : List Value} {wc wr : va_W} {w1 : ClassId → ClassId → (Nat → Nat) → va_W} {mc ms b n index maxL ci N : Nat} {Cn : String} {T : u_T} {fs : List Value} {bytes : ByteArray} (hM : NMet l y ws rm t1 tA tB (.ref b :: As) wc w1 mc ms) (cw : CallW R s args own Cn index y bytes maxL none ws rm mc ms n) (q0 : Nat) (he : F[q0]? = some (b, .inr (ci, fs))) (hc : vwCl[ci]? = some (Cn, T, N)) (hk : kc + mc ≤ R.cells ∧ ks + ms ≤ R.slots)
    (isC isR : List Nat) (hC0 : isC.filterMap (fun i => F[i]?) = wc) (hC : isC.map (fun i => F[i]?) = wc.map some) (hR : isR.map (fun i => F[i]?) = wr.map some) (hnC : va_nd isC = true) (hnR : va_nd isR = true) (hdis : ∀ i ∈ isR, i ∉ isC) (hn : As.length = n) (hst : st = As.reverse ++ .ref b :: rest) (hW : (rest.map fun v => v.category).sum ≤ 8) (hdg : decode cc pc = .ok (.invokevirtual index, 3)) (F' : (Nat → Nat) → va_W) (hF : ∀ qs : Nat → Nat, wr ++ w1 cI c1 qs = F' qs)
    (kk : ∀ qs : Nat → Nat, PW p l e R s m args below meth c Q D A cI c1 (F' qs) [] ad nL (kc + mc) (ks + ms) S lv (pc + 3) rest) : PW p l e R s m args below meth c Q D A cI c1 F [] ad nL kc ks S lv pc st := by
  intro H locs ls hP hD hS hl
  subst hst
  have hP : va_P D vwCl F H := hP
  have hD : va_D A F := hD
  have hW0 : 2 * (F0 m pc ls (As.reverse ++ .ref b :: rest)).monitorRoom + (rest.map fun v => v.category).sum ≤ 8 := by
    show 2 * 0 + _ ≤ 8
    omega
  have hPc := hP.sub (ws' := wc) isC hC0
  have hDc := hD.sub (ws' := wc) isC hnC hC
  have hFc := va_free (wc := wc) hD hS hA isC hC
  have hpre : ∀ U : State, U.heap = H → s.WarmedH U.vm → NPre t1 tA tB D cI c1 wc H.size U := fun U hU hWm => ⟨by rw [hU], by rw [hU]; exact hPc, va_K.moved hWm.alike C.2.2.2.2.2.1, hDc.weaken (fun _ _ _ _ => trivial), p_Z.moved hWm.alike (by rw [hU]; exact (C.2.2.2.2.2.2.2.2.kept (fun a h1 h2 => hS.2.1 a h1 h2)).narrow hFc), va_AO.moved hWm.alike hO⟩
  have hr := va_runV (C := Cn) (b := b) (As := As) (rest := rest) (cells := kc) (slots := ks) (locs := locs) (H := H) (l := l) (e := e) (R := R) (below := below) (meth := meth) ⟨C.1, C.2.1, C.2.2.1, C.2.2.2.1, C.2.2.2.2.1⟩ (hM D H.size cI c1) cw ⟨NPre.blind, va_recv (q := (Cn, T, N)) C.2.2.2.2.2.1 hP hc he, fun U hU hWm => ⟨rfl, hpre U hU hWm⟩⟩ (g := F0 m pc ls (As.reverse ++ .ref b :: rest)) rfl hn hl.1 rfl hW0 hdg hk
  intro T hT X
  obtain ⟨v, st₀, t, T', L, h0, X', hL, e1, e2, ⟨hv, ⟨qs, hP1, hD1⟩, hz, hk1⟩, sg⟩ := hr T hT X
  cases hv
  rw [h0] at hz hk1
  obtain ⟨hP2, hD2⟩ := va_join hP hD isC isR hC hR hnR hdis hk1 hFc hP1 hD1
  obtain ⟨t2, a1, b1⟩ := kk qs T'.heap (locs ++ L) ls (by rw [e1]; rw [← hF qs]; exact hP2) (by rw [← hF qs]; exact hD2) ⟨Nat.le_trans hS.1 (by rw [e1]; exact hz), fun q h1 h2 => by rw [e1, hk1 q (Nat.lt_of_lt_of_le h1 hS.1) (fun z => h2 (hFc q z))]; exact hS.2.1 q h1 h2, fun q hq => by
      rcases List.mem_append.mp hq with h | h
      · exact hS.2.2 q h
      · exact hFc _ (hL q h)⟩ hl T' rfl X'
  exact ⟨t2, sg t2 a1, b1⟩
theorem nx_toK {K : List Kd} {ad' : Nat → Nat} {S' : St} (is : List Nat) (h0 : is.filterMap (fun i => F[i]?) = p_w K ad' cI c1 S' ++ []) (hn : va_nd is = true) (h1 : is.map (fun i => F[i]?) = (p_w K ad' cI c1 S' ++ []).map some)
    (kk : PW p l e R s m args below meth c Q D A cI c1 [] K ad' nL kc ks S' lv pc st) : PW p l e R s m args below meth c Q D A cI c1 F [] ad nL kc ks S lv pc st := fun H locs ls hP hD hS hl =>
  kk H locs ls ((show va_P D vwCl F H from hP).sub is h0) ((show va_D A F from hD).sub is hn h1) hS hl
theorem nx_vretK {K : List Kd} (C : CX p s m args meth c D A cI c1 t1 tA tB cc nL Ts own none) {w1 : (Nat → Nat) → va_W} (qs : Nat → Nat) (h0 : p_w K ad cI c1 S ++ [] = w1 qs) (hdg : decode cc pc = .ok (.return_, 1)) : PW p l e R s m args below meth c (MQ below (NQ w1 A D) args s kc ks A) D A cI c1 [] K ad nL kc ks S lv pc [] := fun H locs ls hP hD hS hl =>
  W.vret C.1 C.2.1 C.2.2.2.2.2.2.1 (hq := fun t ht hW => ⟨rfl, ⟨qs, by rw [ht, ← h0]; exact hP, by rw [← h0]; exact hD⟩, hS.F ht⟩) (hf := hS.2.2) (hdg := hdg) (hlocks := C.2.2.2.2.2.2.2.1)
end NX
