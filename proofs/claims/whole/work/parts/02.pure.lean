/-! A pure heap: cells by their places 0, 1 ..; what an object or an array holds is a function; references are places. -/
abbrev St : Type := (Nat → Nat → Int32) × (Nat → Nat → Int64)
/-- a field: .inl false an int, .inl true a long, .inr a reference to a place -/
abbrev Sl : Type := Bool ⊕ Option Nat
/-- a cell: an object (class number, fields); an array (length; ints, booleans, references) -/
abbrev Kd : Type := (Nat × List Sl) ⊕ (Nat × (Bool ⊕ (Nat → Option Nat)))
def st_i (S : St) (k j : Nat) (v : Int32) : St := (fun a => if a = k then upd (S.1 k) j v else S.1 a, S.2)
def st_l (S : St) (k j : Nat) (v : Int64) : St := (S.1, fun a => if a = k then (fun b => if b = j then v else S.2 k b) else S.2 a)
def p_slot (ad : Nat → Nat) (i : Int32) (g : Int64) : Sl → Value
  | .inl false => .int i
  | .inl true => .long g
  | .inr t => va_rf (t.map ad)
def p_cell (ad : Nat → Nat) (cI c1 : ClassId) (S : St) (k : Nat) : Kd → va_E
  | .inl q => .inr (q.1, q.2.mapIdx (fun j x => p_slot ad (S.1 k j) (S.2 k j) x))
  | .inr (n, .inl false) => .inl (cI, n, .inl (S.1 k))
  | .inr (n, .inl true) => .inl (c1, n, .inl (S.1 k))
  | .inr (n, .inr f) => .inl (c1, n, .inr (.inr (.inr (.inr (fun j => (f j).map ad)))))
def p_w (K : List Kd) (ad : Nat → Nat) (cI c1 : ClassId) (S : St) : va_W := K.mapIdx (fun k kd => (ad k, p_cell ad cI c1 S k kd))
theorem p_w_len (K : List Kd) (ad : Nat → Nat) (cI c1 : ClassId) (S : St) : (p_w K ad cI c1 S).length = K.length := by
  unfold p_w; rw [List.length_mapIdx]
theorem p_w_at {K : List Kd} {ad : Nat → Nat} {cI c1 : ClassId} {S : St} {F : va_W} {k : Nat} {kd : Kd} (h : K[k]? = some kd) : (p_w K ad cI c1 S ++ F)[k]? = some (ad k, p_cell ad cI c1 S k kd) := by
  have hl : k < (p_w K ad cI c1 S).length := by rw [p_w_len]; exact (List.getElem?_eq_some_iff.mp h).1
  rw [List.getElem?_append_left hl]
  unfold p_w
  rw [List.getElem?_mapIdx, h]; rfl
theorem p_cell_congr {ad : Nat → Nat} {cI c1 : ClassId} {S S' : St} {k : Nat} (h1 : S'.1 k = S.1 k) (h2 : S'.2 k = S.2 k) (d : Kd) : p_cell ad cI c1 S' k d = p_cell ad cI c1 S k d := by
  rcases d with q | ⟨n, z | f⟩
  · simp only [p_cell, h1, h2]
  · cases z <;> simp only [p_cell, h1]
  · simp only [p_cell]
theorem p_w_set {K : List Kd} {ad : Nat → Nat} {cI c1 : ClassId} {S S' : St} {F : va_W} {k : Nat} {kd : Kd} (h : K[k]? = some kd) (ho : ∀ a, a ≠ k → S'.1 a = S.1 a ∧ S'.2 a = S.2 a) :
    (p_w K ad cI c1 S ++ F).set k (ad k, p_cell ad cI c1 S' k kd) = p_w K ad cI c1 S' ++ F := by
  have hl : k < (p_w K ad cI c1 S).length := by rw [p_w_len]; exact (List.getElem?_eq_some_iff.mp h).1
  rw [List.set_append_left _ _ hl]
  congr 1
  apply List.ext_getElem?
  intro j
  by_cases hj : j = k
  · subst hj
    rw [List.getElem?_set_self hl]
    unfold p_w
    rw [List.getElem?_mapIdx, h]; rfl
  · rw [List.getElem?_set_ne (fun e => hj e.symm)]
    unfold p_w
    rw [List.getElem?_mapIdx, List.getElem?_mapIdx]
    cases K[j]? with
    | none => rfl
    | some d => simp only [Option.map_some]; rw [p_cell_congr (ho j hj).1 (ho j hj).2]
theorem p_w_ad {K : List Kd} {ad : Nat → Nat} {cI c1 : ClassId} {S S' : St} {F : va_W} {i : Nat} {p : Nat × va_E} (h : (p_w K ad cI c1 S' ++ F)[i]? = some p) : ∃ e, (p_w K ad cI c1 S ++ F)[i]? = some (p.1, e) := by
  by_cases hl : i < K.length
  · rw [List.getElem?_append_left (by rw [p_w_len]; exact hl)] at h ⊢
    unfold p_w at h ⊢
    rw [List.getElem?_mapIdx] at h ⊢
    cases hk : K[i]? with
    | none => rw [hk] at h; cases h
    | some d => rw [hk] at h; cases h; exact ⟨_, rfl⟩
  · rw [List.getElem?_append_right (by rw [p_w_len]; exact Nat.not_lt.mp hl), p_w_len] at h ⊢
    exact ⟨p.2, h⟩
theorem p_w_D {K : List Kd} {ad : Nat → Nat} {cI c1 : ClassId} {S S' : St} {F : va_W} {A : Nat → Prop} (h : va_D A (p_w K ad cI c1 S ++ F)) : va_D A (p_w K ad cI c1 S' ++ F) := by
  refine ⟨fun i j p q hi hj e => ?_, fun k q hk => ?_⟩
  · obtain ⟨e1, h1⟩ := p_w_ad (S := S) hi
    obtain ⟨e2, h2⟩ := p_w_ad (S := S) hj
    exact h.1 i j _ _ h1 h2 e
  · obtain ⟨e1, h1⟩ := p_w_ad (S := S) hk
    exact h.2 k (q.1, e1) h1
theorem st_i_o {S : St} {k j : Nat} {v : Int32} (a : Nat) (h : a ≠ k) : (st_i S k j v).1 a = S.1 a ∧ (st_i S k j v).2 a = S.2 a := ⟨if_neg h, rfl⟩
theorem st_l_o {S : St} {k j : Nat} {v : Int64} (a : Nat) (h : a ≠ k) : (st_l S k j v).1 a = S.1 a ∧ (st_l S k j v).2 a = S.2 a := ⟨rfl, if_neg h⟩
theorem p_obj_i {ad : Nat → Nat} {cI c1 : ClassId} {S : St} {k j ci : Nat} {sl : List Sl} {v : Int32} (hj : sl[j]? = some (.inl false)) :
    (.inr (ci, (sl.mapIdx (fun j x => p_slot ad (S.1 k j) (S.2 k j) x)).set j (.int v)) : va_E) = p_cell ad cI c1 (st_i S k j v) k (.inl (ci, sl)) := by
  have hl : j < sl.length := (List.getElem?_eq_some_iff.mp hj).1
  show (.inr (ci, _) : va_E) = .inr (ci, _)
  congr 2
  apply List.ext_getElem?
  intro i
  by_cases hi : i = j
  · subst hi
    rw [List.getElem?_set_self (by rw [List.length_mapIdx]; exact hl), List.getElem?_mapIdx, hj]
    simp [p_slot, st_i, upd]
  · rw [List.getElem?_set_ne (fun e => hi e.symm), List.getElem?_mapIdx, List.getElem?_mapIdx]
    simp [st_i, upd, hi]
theorem p_obj_l {ad : Nat → Nat} {cI c1 : ClassId} {S : St} {k j ci : Nat} {sl : List Sl} {v : Int64} (hj : sl[j]? = some (.inl true)) :
    (.inr (ci, (sl.mapIdx (fun j x => p_slot ad (S.1 k j) (S.2 k j) x)).set j (.long v)) : va_E) = p_cell ad cI c1 (st_l S k j v) k (.inl (ci, sl)) := by
  have hl : j < sl.length := (List.getElem?_eq_some_iff.mp hj).1
  show (.inr (ci, _) : va_E) = .inr (ci, _)
  congr 2
  apply List.ext_getElem?
  intro i
  by_cases hi : i = j
  · subst hi
    rw [List.getElem?_set_self (by rw [List.length_mapIdx]; exact hl), List.getElem?_mapIdx, hj]
    simp [p_slot, st_l]
  · rw [List.getElem?_set_ne (fun e => hi e.symm), List.getElem?_mapIdx, List.getElem?_mapIdx]
    simp [st_l, hi]
theorem p_fld {ad : Nat → Nat} {S : St} {k j : Nat} {sl : List Sl} {x : Sl} (hj : sl[j]? = some x) : (sl.mapIdx (fun j x => p_slot ad (S.1 k j) (S.2 k j) x))[j]? = some (p_slot ad (S.1 k j) (S.2 k j) x) := by
  rw [List.getElem?_mapIdx, hj]; rfl
/-! The two tables of the reader: arrays that nobody writes -/
def lfA (j : Nat) : Int32 := if j = 1 then 1 else 0
def lfB (j : Nat) : Int32 := if j = 0 then 9 else if j = 1 then 5 else if j = 2 then 3 else if j = 3 then 10 else 30
def p_Z (tA tB : Nat) (A : Nat → Prop) (U : State) (H : Heap) : Prop :=
  (va_Z "RiverTolls$Reader" "LEAST_FACTS" "[I" (.ref tA) A U H ∧ va_T .int tA 5 (fun j => .int (lfA j)) A U H) ∧ va_Z "RiverTolls$Reader" "MOST_FACTS" "[I" (.ref tB) A U H ∧ va_T .int tB 5 (fun j => .int (lfB j)) A U H
theorem p_Z.moved {tA tB : Nat} {A : Nat → Prop} {u U : State} {H : Heap} (hvm : u.vm.Alike U.vm) (h : p_Z tA tB A u H) : p_Z tA tB A U H := ⟨⟨h.1.1.moved hvm, h.1.2.moved hvm⟩, h.2.1.moved hvm, h.2.2.moved hvm⟩
theorem p_Z.kept {tA tB : Nat} {A : Nat → Prop} {U : State} {H H1 : Heap} (h : p_Z tA tB A U H) (hq : ∀ a : Nat, a < H.size → ¬ A a → H1[a]? = H[a]?) : p_Z tA tB A U H1 := ⟨⟨h.1.1.kept hq, h.1.2.kept hq⟩, h.2.1.kept hq, h.2.2.kept hq⟩
/-! what stands through a method's walk; the world at a call; a contract; the judgement -/
def CX (p : Program) (s : State) (m : MethodId) (args : Array Value) (meth : Method) (c : Code) (D : va_G) (A : Nat → Prop) (cI c1 : ClassId) (t1 : FieldType) (tA tB : Nat) (cc : ByteArray) (nL : Nat) (Ts : List Cond) (own : String) (rt : Option FieldType) : Prop :=
  p.tables.exec = Jvm.exec ∧ c.code = cc ∧ c.maxLocals = nL ∧ s.vm.findClass own = some m.cls ∧ (∀ w ∈ Ts, w.before args s = true) ∧ va_K D vwCl [(cI, .int), (c1, t1)] s ∧ meth.sig.returnType = rt ∧ meth.locks = false ∧ p_Z tA tB A s s.heap
def XPre (K : List Kd) (t1 : FieldType) (tA tB : Nat) (A : Nat → Prop) (D : va_G) (cI c1 : ClassId) (F : va_W) (ad : Nat → Nat) (S : St) (U : State) : Prop :=
  va_P D vwCl (p_w K ad cI c1 S ++ F) U.heap ∧ va_K D vwCl [(cI, .int), (c1, t1)] U ∧ va_D A (p_w K ad cI c1 S ++ F) ∧ p_Z tA tB A U U.heap
def QX (K : List Kd) (A : Nat → Prop) (D : va_G) (cI c1 : ClassId) (F : va_W) (ad : Nat → Nat) (rv : Option Value) (S' : St) : Array Value → State → Outcome → State → Prop := fun _ st oc t =>
  oc = .returned rv ∧ va_P D vwCl (p_w K ad cI c1 S' ++ F) t.heap ∧ va_F A st t
def XMet (l : Launch) (y : MethodName) (ws : List Cond) (rm : Room) (K : List Kd) (t1 : FieldType) (tA tB : Nat) (av : List Value) (ad : Nat → Nat) (S : St) (rv : Option Value) (S' : St) : Prop :=
  ∀ (D : va_G) (A : Nat → Prop) (cI c1 : ClassId) (F : va_W), Met l y ws rm (va_Pc av (XPre K t1 tA tB A D cI c1 F ad S)) (QX K A D cI c1 F ad rv S') 0 0 A
def PW (p : Program) (l : Launch) (e : Env) (R : Room) (s : State) (m : MethodId) (args : Array Value) (below : List Frame) (meth : Method) (c : Code) (Q : State → Prop) (D : va_G) (A : Nat → Prop) (cI c1 : ClassId) (F : va_W) (K : List Kd) (ad : Nat → Nat) (nL : Nat) (kc ks : Nat) (S : St) (lv : List (Nat × Value)) (pc : Nat) (st : List Value) : Prop :=
  ∀ (H : Heap) (locs : List Loc) (ls : Array Slot), va_P D vwCl (p_w K ad cI c1 S ++ F) H → va_D A (p_w K ad cI c1 S ++ F) → va_S A s.heap H locs → lv_has ls nL lv → W p l e R s m args below meth c H locs kc ks Q (F0 m pc ls st)
theorem XPre.blind {av : List Value} {K : List Kd} {t1 : FieldType} {tA tB : Nat} {A : Nat → Prop} {D : va_G} {cI c1 : ClassId} {F : va_W} {ad : Nat → Nat} {S : St} : FrameBlind (va_Pc av (XPre K t1 tA tB A D cI c1 F ad S)) := by
  intro a U g mk q
  obtain ⟨q0, qP, qK, qD, qZ⟩ := q
  exact ⟨q0, qP, va_K.moved (u := U) (U := U.calling g mk a) (Vm.Alike.refl U.vm) qK, qD, p_Z.moved (u := U) (U := U.calling g mk a) (Vm.Alike.refl U.vm) qZ⟩
theorem XMet.of {l : Launch} {y : MethodName} {ws ws' : List Cond} {rm : Room} {K : List Kd} {t1 : FieldType} {tA tB : Nat} {av : List Value} {ad : Nat → Nat} {S : St} {rv : Option Value} {S' : St} {cc : ByteArray} {maxL : Nat} {ret : Option FieldType} {lv : List (Nat × Value)}
    {own : String} (ho : y.cls = own) (hy : plainName y.cls = true) (hw : ws = Cond.code y cc maxL ret :: ws') (hlen : (lg_sl av).length ≤ maxL) (hlv : lv_args 0 av = lv)
    (body : ∀ (p : Program) (e : Env) (s : State) (m : MethodId) (args : Array Value) (below : List Frame) (meth : Method) (c : Code) (D : va_G) (A : Nat → Prop) (cI c1 : ClassId) (F : va_W), CX p s m args meth c D A cI c1 t1 tA tB cc maxL ws own ret →
      PW p l e rm s m args below meth c (MQ below (QX K A D cI c1 F ad rv S') args s 0 0 A) D A cI c1 F K ad maxL 0 0 S lv 0 []) : XMet l y ws rm K t1 tA tB av ad S rv S' := by
  intro D A cI c1 F
  refine Met.ofW (cc := cc) (maxL := maxL) (ret := ret) hy hw ?_
  intro p e s m args below meth c s₁ B hml hv
  obtain ⟨rfl, hP, hK, hD, hZ⟩ := hv
  rw [lg_entry_eq]
  exact body p e s m _ below meth c D A cI c1 F ⟨B.exec, B.bytes, hml, ho ▸ findClass_of_methodNamed B.named, atoms_spec (ws := ws) B.pre, hK, B.returns, B.notSynchronized, hZ⟩ s.heap [] _ hP hD va_S.rf (hlv ▸ lv_entry av hlen)

section PX
variable {p : Program} {l : Launch} {e : Env} {R : Room} {s : State} {m : MethodId} {args : Array Value} {below : List Frame} {meth : Method} {c : Code} {Q : State → Prop} {D : va_G} {A : Nat → Prop} {cI c1 : ClassId} {t1 : FieldType} {tA tB : Nat} {F : va_W} {K : List Kd} {ad : Nat → Nat} {nL : Nat} {kc ks : Nat} {S : St} {lv : List (Nat × Value)} {pc : Nat} {st : List Value} {cc : ByteArray} {Ts : List Cond} {own : String} {rt : Option FieldType}

theorem px_iconst (C : CX p s m args meth c D A cI c1 t1 tA tB cc nL Ts own rt) {n : Int} {v : Int32} (hdg : decode cc pc = .ok (.iconst n, 1)) (hv : Int32.ofInt n = v) (k : PW p l e R s m args below meth c Q D A cI c1 F K ad nL kc ks S lv (pc + 1) (.int v :: st)) : PW p l e R s m args below meth c Q D A cI c1 F K ad nL kc ks S lv (pc) (st) := fun H locs ls hP hD hS hl => lv_iconst C.1 C.2.1 hdg hv (k H locs ls hP hD hS hl)

theorem px_bipush (C : CX p s m args meth c D A cI c1 t1 tA tB cc nL Ts own rt) {n : Int} {v : Int32} (hdg : decode cc pc = .ok (.bipush n, 2)) (hv : (Int8.ofInt n).toInt32 = v) (k : PW p l e R s m args below meth c Q D A cI c1 F K ad nL kc ks S lv (pc + 2) (.int v :: st)) : PW p l e R s m args below meth c Q D A cI c1 F K ad nL kc ks S lv (pc) (st) := fun H locs ls hP hD hS hl => lv_bipush C.1 C.2.1 hdg hv (k H locs ls hP hD hS hl)

theorem px_sipush (C : CX p s m args meth c D A cI c1 t1 tA tB cc nL Ts own rt) {n : Int} {v : Int32} (hdg : decode cc pc = .ok (.sipush n, 3)) (hv : (Int16.ofInt n).toInt32 = v) (k : PW p l e R s m args below meth c Q D A cI c1 F K ad nL kc ks S lv (pc + 3) (.int v :: st)) : PW p l e R s m args below meth c Q D A cI c1 F K ad nL kc ks S lv (pc) (st) := fun H locs ls hP hD hS hl => lv_sipush C.1 C.2.1 hdg hv (k H locs ls hP hD hS hl)

theorem px_lconst (C : CX p s m args meth c D A cI c1 t1 tA tB cc nL Ts own rt) {n : Fin 2} {v : Int64} (hdg : decode cc pc = .ok (.lconst n, 1)) (hv : Int64.ofNat (n : Nat) = v) (k : PW p l e R s m args below meth c Q D A cI c1 F K ad nL kc ks S lv (pc + 1) (.long v :: st)) : PW p l e R s m args below meth c Q D A cI c1 F K ad nL kc ks S lv (pc) (st) := fun H locs ls hP hD hS hl => lv_lconst C.1 C.2.1 hdg hv (k H locs ls hP hD hS hl)

theorem px_null (C : CX p s m args meth c D A cI c1 t1 tA tB cc nL Ts own rt) (hdg : decode cc pc = .ok (.aconst_null, 1)) (k : PW p l e R s m args below meth c Q D A cI c1 F K ad nL kc ks S lv (pc + 1) (.null :: st)) : PW p l e R s m args below meth c Q D A cI c1 F K ad nL kc ks S lv (pc) (st) := fun H locs ls hP hD hS hl => lv_null C.1 C.2.1 hdg (k H locs ls hP hD hS hl)

theorem px_ldc (C : CX p s m args meth c D A cI c1 t1 tA tB cc nL Ts own rt) {index : Nat} {v : Int32} (hc : Cond.constant own index v ∈ Ts) (hdg : decode cc pc = .ok (.ldc index, 2)) (k : PW p l e R s m args below meth c Q D A cI c1 F K ad nL kc ks S lv (pc + 2) (.int v :: st)) : PW p l e R s m args below meth c Q D A cI c1 F K ad nL kc ks S lv (pc) (st) := fun H locs ls hP hD hS hl => lv_ldc C.1 C.2.1 C.2.2.2.1 (C.2.2.2.2.1 _ hc) hdg (k H locs ls hP hD hS hl)

theorem px_ldcw (C : CX p s m args meth c D A cI c1 t1 tA tB cc nL Ts own rt) {index : Nat} {v : Int32} (hc : Cond.constant own index v ∈ Ts) (hdg : decode cc pc = .ok (.ldc_w index, 3)) (k : PW p l e R s m args below meth c Q D A cI c1 F K ad nL kc ks S lv (pc + 3) (.int v :: st)) : PW p l e R s m args below meth c Q D A cI c1 F K ad nL kc ks S lv (pc) (st) := fun H locs ls hP hD hS hl => lv_ldcw C.1 C.2.1 C.2.2.2.1 (C.2.2.2.2.1 _ hc) hdg (k H locs ls hP hD hS hl)

theorem px_ldc2 (C : CX p s m args meth c D A cI c1 t1 tA tB cc nL Ts own rt) {index : Nat} {v : Int64} (hc : Cond.constantLong own index v ∈ Ts) (hdg : decode cc pc = .ok (.ldc2_w index, 3)) (k : PW p l e R s m args below meth c Q D A cI c1 F K ad nL kc ks S lv (pc + 3) (.long v :: st)) : PW p l e R s m args below meth c Q D A cI c1 F K ad nL kc ks S lv (pc) (st) := fun H locs ls hP hD hS hl => lv_ldc2 C.1 C.2.1 C.2.2.2.1 (C.2.2.2.2.1 _ hc) hdg (k H locs ls hP hD hS hl)

theorem px_iload_n (C : CX p s m args meth c D A cI c1 t1 tA tB cc nL Ts own rt) {w : Fin 4} {i : Nat} {x : Int32} (q : Nat) (hdg : decode cc pc = .ok (.iload_n w, 1)) (hi : (w : Nat) = i) (hq : lv[q]? = some (i, .int x)) (k : PW p l e R s m args below meth c Q D A cI c1 F K ad nL kc ks S lv (pc + 1) (.int x :: st)) : PW p l e R s m args below meth c Q D A cI c1 F K ad nL kc ks S lv (pc) (st) := fun H locs ls hP hD hS hl => lv_iload_n C.1 C.2.1 hdg hi (lv_at hl q hq) (k H locs ls hP hD hS hl)

theorem px_iload (C : CX p s m args meth c D A cI c1 t1 tA tB cc nL Ts own rt) {i : Nat} {x : Int32} (q : Nat) (hdg : decode cc pc = .ok (.iload i, 2)) (hq : lv[q]? = some (i, .int x)) (k : PW p l e R s m args below meth c Q D A cI c1 F K ad nL kc ks S lv (pc + 2) (.int x :: st)) : PW p l e R s m args below meth c Q D A cI c1 F K ad nL kc ks S lv (pc) (st) := fun H locs ls hP hD hS hl => lv_iload C.1 C.2.1 hdg (lv_at hl q hq) (k H locs ls hP hD hS hl)

theorem px_lload_n (C : CX p s m args meth c D A cI c1 t1 tA tB cc nL Ts own rt) {w : Fin 4} {i : Nat} {x : Int64} (q : Nat) (hdg : decode cc pc = .ok (.lload_n w, 1)) (hi : (w : Nat) = i) (hq : lv[q]? = some (i, .long x)) (k : PW p l e R s m args below meth c Q D A cI c1 F K ad nL kc ks S lv (pc + 1) (.long x :: st)) : PW p l e R s m args below meth c Q D A cI c1 F K ad nL kc ks S lv (pc) (st) := fun H locs ls hP hD hS hl => lv_lload_n C.1 C.2.1 hdg hi (lv_at hl q hq) (k H locs ls hP hD hS hl)

theorem px_lload (C : CX p s m args meth c D A cI c1 t1 tA tB cc nL Ts own rt) {i : Nat} {x : Int64} (q : Nat) (hdg : decode cc pc = .ok (.lload i, 2)) (hq : lv[q]? = some (i, .long x)) (k : PW p l e R s m args below meth c Q D A cI c1 F K ad nL kc ks S lv (pc + 2) (.long x :: st)) : PW p l e R s m args below meth c Q D A cI c1 F K ad nL kc ks S lv (pc) (st) := fun H locs ls hP hD hS hl => lv_lload C.1 C.2.1 hdg (lv_at hl q hq) (k H locs ls hP hD hS hl)

theorem px_aload_n (C : CX p s m args meth c D A cI c1 t1 tA tB cc nL Ts own rt) {w : Fin 4} {i : Nat} {x : Nat} (q : Nat) (hdg : decode cc pc = .ok (.aload_n w, 1)) (hi : (w : Nat) = i) (hq : lv[q]? = some (i, .ref x)) (k : PW p l e R s m args below meth c Q D A cI c1 F K ad nL kc ks S lv (pc + 1) (.ref x :: st)) : PW p l e R s m args below meth c Q D A cI c1 F K ad nL kc ks S lv (pc) (st) := fun H locs ls hP hD hS hl => lv_aload_n C.1 C.2.1 hdg hi (lv_at hl q hq) (k H locs ls hP hD hS hl)

theorem px_aload (C : CX p s m args meth c D A cI c1 t1 tA tB cc nL Ts own rt) {i : Nat} {x : Nat} (q : Nat) (hdg : decode cc pc = .ok (.aload i, 2)) (hq : lv[q]? = some (i, .ref x)) (k : PW p l e R s m args below meth c Q D A cI c1 F K ad nL kc ks S lv (pc + 2) (.ref x :: st)) : PW p l e R s m args below meth c Q D A cI c1 F K ad nL kc ks S lv (pc) (st) := fun H locs ls hP hD hS hl => lv_aload C.1 C.2.1 hdg (lv_at hl q hq) (k H locs ls hP hD hS hl)

theorem px_istore_n (C : CX p s m args meth c D A cI c1 t1 tA tB cc nL Ts own rt) {w : Fin 4} {i : Nat} {x : Int32} (lv' : List (Nat × Value)) (hdg : decode cc pc = .ok (.istore_n w, 1)) (hi : (w : Nat) = i) (hn : i < nL) (hlv : (i, Value.int x) :: lv.filter (fun q => !(q.1 == i) && !(q.1 + 1 == i && q.2.category == 2)) = lv') (k : PW p l e R s m args below meth c Q D A cI c1 F K ad nL kc ks S lv' (pc + 1) (st)) : PW p l e R s m args below meth c Q D A cI c1 F K ad nL kc ks S lv (pc) (.int x :: st) := fun H locs ls hP hD hS hl => lv_istore_n C.1 C.2.1 hdg hi hl hn hlv (fun ls' hl' => k H locs ls' hP hD hS hl')

theorem px_istore (C : CX p s m args meth c D A cI c1 t1 tA tB cc nL Ts own rt) {i : Nat} {x : Int32} (lv' : List (Nat × Value)) (hdg : decode cc pc = .ok (.istore i, 2)) (hn : i < nL) (hlv : (i, Value.int x) :: lv.filter (fun q => !(q.1 == i) && !(q.1 + 1 == i && q.2.category == 2)) = lv') (k : PW p l e R s m args below meth c Q D A cI c1 F K ad nL kc ks S lv' (pc + 2) (st)) : PW p l e R s m args below meth c Q D A cI c1 F K ad nL kc ks S lv (pc) (.int x :: st) := fun H locs ls hP hD hS hl => lv_istore C.1 C.2.1 hdg hl hn hlv (fun ls' hl' => k H locs ls' hP hD hS hl')

theorem px_astore_n (C : CX p s m args meth c D A cI c1 t1 tA tB cc nL Ts own rt) {w : Fin 4} {i : Nat} {x : Nat} (lv' : List (Nat × Value)) (hdg : decode cc pc = .ok (.astore_n w, 1)) (hi : (w : Nat) = i) (hn : i < nL) (hlv : (i, Value.ref x) :: lv.filter (fun q => !(q.1 == i) && !(q.1 + 1 == i && q.2.category == 2)) = lv') (k : PW p l e R s m args below meth c Q D A cI c1 F K ad nL kc ks S lv' (pc + 1) (st)) : PW p l e R s m args below meth c Q D A cI c1 F K ad nL kc ks S lv (pc) (.ref x :: st) := fun H locs ls hP hD hS hl => lv_astore_n C.1 C.2.1 hdg hi hl hn hlv (fun ls' hl' => k H locs ls' hP hD hS hl')

theorem px_astore (C : CX p s m args meth c D A cI c1 t1 tA tB cc nL Ts own rt) {i : Nat} {x : Nat} (lv' : List (Nat × Value)) (hdg : decode cc pc = .ok (.astore i, 2)) (hn : i < nL) (hlv : (i, Value.ref x) :: lv.filter (fun q => !(q.1 == i) && !(q.1 + 1 == i && q.2.category == 2)) = lv') (k : PW p l e R s m args below meth c Q D A cI c1 F K ad nL kc ks S lv' (pc + 2) (st)) : PW p l e R s m args below meth c Q D A cI c1 F K ad nL kc ks S lv (pc) (.ref x :: st) := fun H locs ls hP hD hS hl => lv_astore C.1 C.2.1 hdg hl hn hlv (fun ls' hl' => k H locs ls' hP hD hS hl')

theorem px_astore_nN (C : CX p s m args meth c D A cI c1 t1 tA tB cc nL Ts own rt) {w : Fin 4} {i : Nat} (lv' : List (Nat × Value)) (hdg : decode cc pc = .ok (.astore_n w, 1)) (hi : (w : Nat) = i) (hn : i < nL) (hlv : (i, Value.null) :: lv.filter (fun q => !(q.1 == i) && !(q.1 + 1 == i && q.2.category == 2)) = lv') (k : PW p l e R s m args below meth c Q D A cI c1 F K ad nL kc ks S lv' (pc + 1) (st)) : PW p l e R s m args below meth c Q D A cI c1 F K ad nL kc ks S lv (pc) (.null :: st) := fun H locs ls hP hD hS hl => lv_astore_nN C.1 C.2.1 hdg hi hl hn hlv (fun ls' hl' => k H locs ls' hP hD hS hl')

theorem px_astoreN (C : CX p s m args meth c D A cI c1 t1 tA tB cc nL Ts own rt) {i : Nat} (lv' : List (Nat × Value)) (hdg : decode cc pc = .ok (.astore i, 2)) (hn : i < nL) (hlv : (i, Value.null) :: lv.filter (fun q => !(q.1 == i) && !(q.1 + 1 == i && q.2.category == 2)) = lv') (k : PW p l e R s m args below meth c Q D A cI c1 F K ad nL kc ks S lv' (pc + 2) (st)) : PW p l e R s m args below meth c Q D A cI c1 F K ad nL kc ks S lv (pc) (.null :: st) := fun H locs ls hP hD hS hl => lv_astoreN C.1 C.2.1 hdg hl hn hlv (fun ls' hl' => k H locs ls' hP hD hS hl')

theorem px_aload_nN (C : CX p s m args meth c D A cI c1 t1 tA tB cc nL Ts own rt) {w : Fin 4} {i : Nat} (q : Nat) (hdg : decode cc pc = .ok (.aload_n w, 1)) (hi : (w : Nat) = i) (hq : lv[q]? = some (i, Value.null)) (k : PW p l e R s m args below meth c Q D A cI c1 F K ad nL kc ks S lv (pc + 1) (.null :: st)) : PW p l e R s m args below meth c Q D A cI c1 F K ad nL kc ks S lv (pc) (st) := fun H locs ls hP hD hS hl => lv_aload_nN C.1 C.2.1 hdg hi (lv_at hl q hq) (k H locs ls hP hD hS hl)

theorem px_aloadN (C : CX p s m args meth c D A cI c1 t1 tA tB cc nL Ts own rt) {i : Nat} (q : Nat) (hdg : decode cc pc = .ok (.aload i, 2)) (hq : lv[q]? = some (i, Value.null)) (k : PW p l e R s m args below meth c Q D A cI c1 F K ad nL kc ks S lv (pc + 2) (.null :: st)) : PW p l e R s m args below meth c Q D A cI c1 F K ad nL kc ks S lv (pc) (st) := fun H locs ls hP hD hS hl => lv_aloadN C.1 C.2.1 hdg (lv_at hl q hq) (k H locs ls hP hD hS hl)

theorem px_lstore_n (C : CX p s m args meth c D A cI c1 t1 tA tB cc nL Ts own rt) {w : Fin 4} {i : Nat} {x : Int64} (lv' : List (Nat × Value)) (hdg : decode cc pc = .ok (.lstore_n w, 1)) (hi : (w : Nat) = i) (hn : i + 1 < nL) (hlv : (i, Value.long x) :: lv.filter (fun q => !(q.1 == i) && (!(q.1 == i + 1) && !(q.1 + 1 == i && q.2.category == 2))) = lv') (k : PW p l e R s m args below meth c Q D A cI c1 F K ad nL kc ks S lv' (pc + 1) (st)) : PW p l e R s m args below meth c Q D A cI c1 F K ad nL kc ks S lv (pc) (.long x :: st) := fun H locs ls hP hD hS hl => lv_lstore_n C.1 C.2.1 hdg hi hl hn hlv (fun ls' hl' => k H locs ls' hP hD hS hl')

theorem px_iinc (C : CX p s m args meth c D A cI c1 t1 tA tB cc nL Ts own rt) {i : Nat} {n : Int} {x v : Int32} (q : Nat) (lv' : List (Nat × Value)) (hdg : decode cc pc = .ok (.iinc i n, 3)) (hq : lv[q]? = some (i, .int x)) (hv : x + Int32.ofInt n = v) (hn : i < nL) (hlv : (i, Value.int v) :: lv.filter (fun q => !(q.1 == i) && !(q.1 + 1 == i && q.2.category == 2)) = lv') (k : PW p l e R s m args below meth c Q D A cI c1 F K ad nL kc ks S lv' (pc + 3) (st)) : PW p l e R s m args below meth c Q D A cI c1 F K ad nL kc ks S lv (pc) (st) := fun H locs ls hP hD hS hl => lv_iinc C.1 C.2.1 hdg hl hq hv hn hlv (fun ls' hl' => k H locs ls' hP hD hS hl')

theorem px_iadd (C : CX p s m args meth c D A cI c1 t1 tA tB cc nL Ts own rt) {x y : Int32} (hdg : decode cc pc = .ok (.iadd, 1)) (k : PW p l e R s m args below meth c Q D A cI c1 F K ad nL kc ks S lv (pc + 1) (.int (x + y) :: st)) : PW p l e R s m args below meth c Q D A cI c1 F K ad nL kc ks S lv (pc) (.int y :: .int x :: st) := fun H locs ls hP hD hS hl => lv_iadd C.1 C.2.1 hdg (k H locs ls hP hD hS hl)

theorem px_isub (C : CX p s m args meth c D A cI c1 t1 tA tB cc nL Ts own rt) {x y : Int32} (hdg : decode cc pc = .ok (.isub, 1)) (k : PW p l e R s m args below meth c Q D A cI c1 F K ad nL kc ks S lv (pc + 1) (.int (x - y) :: st)) : PW p l e R s m args below meth c Q D A cI c1 F K ad nL kc ks S lv (pc) (.int y :: .int x :: st) := fun H locs ls hP hD hS hl => lv_isub C.1 C.2.1 hdg (k H locs ls hP hD hS hl)

theorem px_imul (C : CX p s m args meth c D A cI c1 t1 tA tB cc nL Ts own rt) {x y : Int32} (hdg : decode cc pc = .ok (.imul, 1)) (k : PW p l e R s m args below meth c Q D A cI c1 F K ad nL kc ks S lv (pc + 1) (.int (x * y) :: st)) : PW p l e R s m args below meth c Q D A cI c1 F K ad nL kc ks S lv (pc) (.int y :: .int x :: st) := fun H locs ls hP hD hS hl => lv_imul C.1 C.2.1 hdg (k H locs ls hP hD hS hl)

theorem px_iand (C : CX p s m args meth c D A cI c1 t1 tA tB cc nL Ts own rt) {x y : Int32} (hdg : decode cc pc = .ok (.iand, 1)) (k : PW p l e R s m args below meth c Q D A cI c1 F K ad nL kc ks S lv (pc + 1) (.int (x &&& y) :: st)) : PW p l e R s m args below meth c Q D A cI c1 F K ad nL kc ks S lv (pc) (.int y :: .int x :: st) := fun H locs ls hP hD hS hl => lv_iand C.1 C.2.1 hdg (k H locs ls hP hD hS hl)

theorem px_ior (C : CX p s m args meth c D A cI c1 t1 tA tB cc nL Ts own rt) {x y : Int32} (hdg : decode cc pc = .ok (.ior, 1)) (k : PW p l e R s m args below meth c Q D A cI c1 F K ad nL kc ks S lv (pc + 1) (.int (x ||| y) :: st)) : PW p l e R s m args below meth c Q D A cI c1 F K ad nL kc ks S lv (pc) (.int y :: .int x :: st) := fun H locs ls hP hD hS hl => lv_ior C.1 C.2.1 hdg (k H locs ls hP hD hS hl)

theorem px_ixor (C : CX p s m args meth c D A cI c1 t1 tA tB cc nL Ts own rt) {x y : Int32} (hdg : decode cc pc = .ok (.ixor, 1)) (k : PW p l e R s m args below meth c Q D A cI c1 F K ad nL kc ks S lv (pc + 1) (.int (x ^^^ y) :: st)) : PW p l e R s m args below meth c Q D A cI c1 F K ad nL kc ks S lv (pc) (.int y :: .int x :: st) := fun H locs ls hP hD hS hl => lv_ixor C.1 C.2.1 hdg (k H locs ls hP hD hS hl)

theorem px_ishl (C : CX p s m args meth c D A cI c1 t1 tA tB cc nL Ts own rt) {x y : Int32} (hdg : decode cc pc = .ok (.ishl, 1)) (k : PW p l e R s m args below meth c Q D A cI c1 F K ad nL kc ks S lv (pc + 1) (.int (x <<< (y &&& 31)) :: st)) : PW p l e R s m args below meth c Q D A cI c1 F K ad nL kc ks S lv (pc) (.int y :: .int x :: st) := fun H locs ls hP hD hS hl => lv_ishl C.1 C.2.1 hdg (k H locs ls hP hD hS hl)

theorem px_ishr (C : CX p s m args meth c D A cI c1 t1 tA tB cc nL Ts own rt) {x y : Int32} (hdg : decode cc pc = .ok (.ishr, 1)) (k : PW p l e R s m args below meth c Q D A cI c1 F K ad nL kc ks S lv (pc + 1) (.int (x >>> (y &&& 31)) :: st)) : PW p l e R s m args below meth c Q D A cI c1 F K ad nL kc ks S lv (pc) (.int y :: .int x :: st) := fun H locs ls hP hD hS hl => lv_ishr C.1 C.2.1 hdg (k H locs ls hP hD hS hl)

theorem px_iushr (C : CX p s m args meth c D A cI c1 t1 tA tB cc nL Ts own rt) {x y : Int32} (hdg : decode cc pc = .ok (.iushr, 1)) (k : PW p l e R s m args below meth c Q D A cI c1 F K ad nL kc ks S lv (pc + 1) (.int ((x.toUInt32 >>> (y.toUInt32 &&& Int32.toUInt32 31)).toInt32) :: st)) : PW p l e R s m args below meth c Q D A cI c1 F K ad nL kc ks S lv (pc) (.int y :: .int x :: st) := fun H locs ls hP hD hS hl => lv_iushr C.1 C.2.1 hdg rfl (k H locs ls hP hD hS hl)

theorem px_idiv (C : CX p s m args meth c D A cI c1 t1 tA tB cc nL Ts own rt) {x y : Int32} (hdg : decode cc pc = .ok (.idiv, 1)) (hne : ¬ y = 0) (k : PW p l e R s m args below meth c Q D A cI c1 F K ad nL kc ks S lv (pc + 1) (.int (x / y) :: st)) : PW p l e R s m args below meth c Q D A cI c1 F K ad nL kc ks S lv (pc) (.int y :: .int x :: st) := fun H locs ls hP hD hS hl => lv_idiv C.1 C.2.1 hdg hne (k H locs ls hP hD hS hl)

theorem px_irem (C : CX p s m args meth c D A cI c1 t1 tA tB cc nL Ts own rt) {x y : Int32} (hdg : decode cc pc = .ok (.irem, 1)) (hne : ¬ y = 0) (k : PW p l e R s m args below meth c Q D A cI c1 F K ad nL kc ks S lv (pc + 1) (.int (x - x / y * y) :: st)) : PW p l e R s m args below meth c Q D A cI c1 F K ad nL kc ks S lv (pc) (.int y :: .int x :: st) := fun H locs ls hP hD hS hl => lv_irem C.1 C.2.1 hdg hne (k H locs ls hP hD hS hl)

theorem px_ladd (C : CX p s m args meth c D A cI c1 t1 tA tB cc nL Ts own rt) {x y : Int64} (hdg : decode cc pc = .ok (.ladd, 1)) (k : PW p l e R s m args below meth c Q D A cI c1 F K ad nL kc ks S lv (pc + 1) (.long (x + y) :: st)) : PW p l e R s m args below meth c Q D A cI c1 F K ad nL kc ks S lv (pc) (.long y :: .long x :: st) := fun H locs ls hP hD hS hl => lv_ladd C.1 C.2.1 hdg (k H locs ls hP hD hS hl)

theorem px_lmul (C : CX p s m args meth c D A cI c1 t1 tA tB cc nL Ts own rt) {x y : Int64} (hdg : decode cc pc = .ok (.lmul, 1)) (k : PW p l e R s m args below meth c Q D A cI c1 F K ad nL kc ks S lv (pc + 1) (.long (x * y) :: st)) : PW p l e R s m args below meth c Q D A cI c1 F K ad nL kc ks S lv (pc) (.long y :: .long x :: st) := fun H locs ls hP hD hS hl => lv_lmul C.1 C.2.1 hdg (k H locs ls hP hD hS hl)

theorem px_ldiv (C : CX p s m args meth c D A cI c1 t1 tA tB cc nL Ts own rt) {x y : Int64} (hdg : decode cc pc = .ok (.ldiv, 1)) (hne : ¬ y = 0) (k : PW p l e R s m args below meth c Q D A cI c1 F K ad nL kc ks S lv (pc + 1) (.long (x / y) :: st)) : PW p l e R s m args below meth c Q D A cI c1 F K ad nL kc ks S lv (pc) (.long y :: .long x :: st) := fun H locs ls hP hD hS hl => lv_ldiv C.1 C.2.1 hdg hne (k H locs ls hP hD hS hl)

theorem px_lrem (C : CX p s m args meth c D A cI c1 t1 tA tB cc nL Ts own rt) {x y : Int64} (hdg : decode cc pc = .ok (.lrem, 1)) (hne : ¬ y = 0) (k : PW p l e R s m args below meth c Q D A cI c1 F K ad nL kc ks S lv (pc + 1) (.long (x - x / y * y) :: st)) : PW p l e R s m args below meth c Q D A cI c1 F K ad nL kc ks S lv (pc) (.long y :: .long x :: st) := fun H locs ls hP hD hS hl => lv_lrem C.1 C.2.1 hdg hne (k H locs ls hP hD hS hl)

theorem px_i2l (C : CX p s m args meth c D A cI c1 t1 tA tB cc nL Ts own rt) {x : Int32} (hdg : decode cc pc = .ok (.i2l, 1)) (k : PW p l e R s m args below meth c Q D A cI c1 F K ad nL kc ks S lv (pc + 1) (.long x.toInt64 :: st)) : PW p l e R s m args below meth c Q D A cI c1 F K ad nL kc ks S lv (pc) (.int x :: st) := fun H locs ls hP hD hS hl => lv_i2l C.1 C.2.1 hdg rfl (k H locs ls hP hD hS hl)

theorem px_l2i (C : CX p s m args meth c D A cI c1 t1 tA tB cc nL Ts own rt) {x : Int64} (hdg : decode cc pc = .ok (.l2i, 1)) (k : PW p l e R s m args below meth c Q D A cI c1 F K ad nL kc ks S lv (pc + 1) (.int x.toInt32 :: st)) : PW p l e R s m args below meth c Q D A cI c1 F K ad nL kc ks S lv (pc) (.long x :: st) := fun H locs ls hP hD hS hl => lv_l2i C.1 C.2.1 hdg rfl (k H locs ls hP hD hS hl)

theorem px_dup (C : CX p s m args meth c D A cI c1 t1 tA tB cc nL Ts own rt) {a : Value} (hdg : decode cc pc = .ok (.dup, 1)) (ha : a.category = 1) (k : PW p l e R s m args below meth c Q D A cI c1 F K ad nL kc ks S lv (pc + 1) (a :: a :: st)) : PW p l e R s m args below meth c Q D A cI c1 F K ad nL kc ks S lv (pc) (a :: st) := fun H locs ls hP hD hS hl => lv_dup C.1 C.2.1 hdg ha (k H locs ls hP hD hS hl)

theorem px_pop (C : CX p s m args meth c D A cI c1 t1 tA tB cc nL Ts own rt) {a : Value} (hdg : decode cc pc = .ok (.pop, 1)) (ha : a.category = 1) (k : PW p l e R s m args below meth c Q D A cI c1 F K ad nL kc ks S lv (pc + 1) (st)) : PW p l e R s m args below meth c Q D A cI c1 F K ad nL kc ks S lv (pc) (a :: st) := fun H locs ls hP hD hS hl => lv_pop C.1 C.2.1 hdg ha (k H locs ls hP hD hS hl)

theorem px_dup2 (C : CX p s m args meth c D A cI c1 t1 tA tB cc nL Ts own rt) {a b : Value} (hdg : decode cc pc = .ok (.dup2, 1)) (ha : a.category = 1) (hb : b.category = 1) (k : PW p l e R s m args below meth c Q D A cI c1 F K ad nL kc ks S lv (pc + 1) (a :: b :: a :: b :: st)) : PW p l e R s m args below meth c Q D A cI c1 F K ad nL kc ks S lv (pc) (a :: b :: st) := fun H locs ls hP hD hS hl => lv_dup2_11 C.1 C.2.1 hdg ha hb (k H locs ls hP hD hS hl)

theorem px_goto (C : CX p s m args meth c D A cI c1 t1 tA tB cc nL Ts own rt) {off : Int} {tgt : Nat} (hdg : decode cc pc = .ok (.goto off, 3)) (ht : (pc : Int) + off = (tgt : Int)) (k : PW p l e R s m args below meth c Q D A cI c1 F K ad nL kc ks S lv (tgt) (st)) : PW p l e R s m args below meth c Q D A cI c1 F K ad nL kc ks S lv (pc) (st) := fun H locs ls hP hD hS hl => lv_goto C.1 C.2.1 hdg ht (k H locs ls hP hD hS hl)

theorem px_if_eq (C : CX p s m args meth c D A cI c1 t1 tA tB cc nL Ts own rt) {x : Int32} {off : Int} {tgt : Nat} (hdg : decode cc pc = .ok (.ifCond .eq off, 3)) (ht : (pc : Int) + off = (tgt : Int)) (kt : x = 0 → PW p l e R s m args below meth c Q D A cI c1 F K ad nL kc ks S lv (tgt) (st)) (kf : ¬ x = 0 → PW p l e R s m args below meth c Q D A cI c1 F K ad nL kc ks S lv (pc + 3) (st)) : PW p l e R s m args below meth c Q D A cI c1 F K ad nL kc ks S lv (pc) (.int x :: st) := fun H locs ls hP hD hS hl => lv_if_eq C.1 C.2.1 hdg ht (fun q => kt q H locs ls hP hD hS hl) (fun q => kf q H locs ls hP hD hS hl)

theorem px_if_ne (C : CX p s m args meth c D A cI c1 t1 tA tB cc nL Ts own rt) {x : Int32} {off : Int} {tgt : Nat} (hdg : decode cc pc = .ok (.ifCond .ne off, 3)) (ht : (pc : Int) + off = (tgt : Int)) (kt : ¬ x = 0 → PW p l e R s m args below meth c Q D A cI c1 F K ad nL kc ks S lv (tgt) (st)) (kf : x = 0 → PW p l e R s m args below meth c Q D A cI c1 F K ad nL kc ks S lv (pc + 3) (st)) : PW p l e R s m args below meth c Q D A cI c1 F K ad nL kc ks S lv (pc) (.int x :: st) := fun H locs ls hP hD hS hl => lv_if_ne C.1 C.2.1 hdg ht (fun q => kt q H locs ls hP hD hS hl) (fun q => kf q H locs ls hP hD hS hl)

theorem px_if_lt (C : CX p s m args meth c D A cI c1 t1 tA tB cc nL Ts own rt) {x : Int32} {off : Int} {tgt : Nat} (hdg : decode cc pc = .ok (.ifCond .lt off, 3)) (ht : (pc : Int) + off = (tgt : Int)) (kt : x < 0 → PW p l e R s m args below meth c Q D A cI c1 F K ad nL kc ks S lv (tgt) (st)) (kf : ¬ x < 0 → PW p l e R s m args below meth c Q D A cI c1 F K ad nL kc ks S lv (pc + 3) (st)) : PW p l e R s m args below meth c Q D A cI c1 F K ad nL kc ks S lv (pc) (.int x :: st) := fun H locs ls hP hD hS hl => lv_if_lt C.1 C.2.1 hdg ht (fun q => kt q H locs ls hP hD hS hl) (fun q => kf q H locs ls hP hD hS hl)

theorem px_if_ge (C : CX p s m args meth c D A cI c1 t1 tA tB cc nL Ts own rt) {x : Int32} {off : Int} {tgt : Nat} (hdg : decode cc pc = .ok (.ifCond .ge off, 3)) (ht : (pc : Int) + off = (tgt : Int)) (kt : 0 ≤ x → PW p l e R s m args below meth c Q D A cI c1 F K ad nL kc ks S lv (tgt) (st)) (kf : ¬ 0 ≤ x → PW p l e R s m args below meth c Q D A cI c1 F K ad nL kc ks S lv (pc + 3) (st)) : PW p l e R s m args below meth c Q D A cI c1 F K ad nL kc ks S lv (pc) (.int x :: st) := fun H locs ls hP hD hS hl => lv_if_ge C.1 C.2.1 hdg ht (fun q => kt q H locs ls hP hD hS hl) (fun q => kf q H locs ls hP hD hS hl)

theorem px_if_gt (C : CX p s m args meth c D A cI c1 t1 tA tB cc nL Ts own rt) {x : Int32} {off : Int} {tgt : Nat} (hdg : decode cc pc = .ok (.ifCond .gt off, 3)) (ht : (pc : Int) + off = (tgt : Int)) (kt : 0 < x → PW p l e R s m args below meth c Q D A cI c1 F K ad nL kc ks S lv (tgt) (st)) (kf : ¬ 0 < x → PW p l e R s m args below meth c Q D A cI c1 F K ad nL kc ks S lv (pc + 3) (st)) : PW p l e R s m args below meth c Q D A cI c1 F K ad nL kc ks S lv (pc) (.int x :: st) := fun H locs ls hP hD hS hl => lv_if_gt C.1 C.2.1 hdg ht (fun q => kt q H locs ls hP hD hS hl) (fun q => kf q H locs ls hP hD hS hl)

theorem px_if_le (C : CX p s m args meth c D A cI c1 t1 tA tB cc nL Ts own rt) {x : Int32} {off : Int} {tgt : Nat} (hdg : decode cc pc = .ok (.ifCond .le off, 3)) (ht : (pc : Int) + off = (tgt : Int)) (kt : x ≤ 0 → PW p l e R s m args below meth c Q D A cI c1 F K ad nL kc ks S lv (tgt) (st)) (kf : ¬ x ≤ 0 → PW p l e R s m args below meth c Q D A cI c1 F K ad nL kc ks S lv (pc + 3) (st)) : PW p l e R s m args below meth c Q D A cI c1 F K ad nL kc ks S lv (pc) (.int x :: st) := fun H locs ls hP hD hS hl => lv_if_le C.1 C.2.1 hdg ht (fun q => kt q H locs ls hP hD hS hl) (fun q => kf q H locs ls hP hD hS hl)

theorem px_icmp_eq (C : CX p s m args meth c D A cI c1 t1 tA tB cc nL Ts own rt) {x y : Int32} {off : Int} {tgt : Nat} (hdg : decode cc pc = .ok (.if_icmp .eq off, 3)) (ht : (pc : Int) + off = (tgt : Int)) (kt : x = y → PW p l e R s m args below meth c Q D A cI c1 F K ad nL kc ks S lv (tgt) (st)) (kf : ¬ x = y → PW p l e R s m args below meth c Q D A cI c1 F K ad nL kc ks S lv (pc + 3) (st)) : PW p l e R s m args below meth c Q D A cI c1 F K ad nL kc ks S lv (pc) (.int y :: .int x :: st) := fun H locs ls hP hD hS hl => lv_icmp_eq C.1 C.2.1 hdg ht (fun q => kt q H locs ls hP hD hS hl) (fun q => kf q H locs ls hP hD hS hl)

theorem px_icmp_ne (C : CX p s m args meth c D A cI c1 t1 tA tB cc nL Ts own rt) {x y : Int32} {off : Int} {tgt : Nat} (hdg : decode cc pc = .ok (.if_icmp .ne off, 3)) (ht : (pc : Int) + off = (tgt : Int)) (kt : ¬ x = y → PW p l e R s m args below meth c Q D A cI c1 F K ad nL kc ks S lv (tgt) (st)) (kf : x = y → PW p l e R s m args below meth c Q D A cI c1 F K ad nL kc ks S lv (pc + 3) (st)) : PW p l e R s m args below meth c Q D A cI c1 F K ad nL kc ks S lv (pc) (.int y :: .int x :: st) := fun H locs ls hP hD hS hl => lv_icmp_ne C.1 C.2.1 hdg ht (fun q => kt q H locs ls hP hD hS hl) (fun q => kf q H locs ls hP hD hS hl)

theorem px_icmp_lt (C : CX p s m args meth c D A cI c1 t1 tA tB cc nL Ts own rt) {x y : Int32} {off : Int} {tgt : Nat} (hdg : decode cc pc = .ok (.if_icmp .lt off, 3)) (ht : (pc : Int) + off = (tgt : Int)) (kt : x < y → PW p l e R s m args below meth c Q D A cI c1 F K ad nL kc ks S lv (tgt) (st)) (kf : ¬ x < y → PW p l e R s m args below meth c Q D A cI c1 F K ad nL kc ks S lv (pc + 3) (st)) : PW p l e R s m args below meth c Q D A cI c1 F K ad nL kc ks S lv (pc) (.int y :: .int x :: st) := fun H locs ls hP hD hS hl => lv_icmp_lt C.1 C.2.1 hdg ht (fun q => kt q H locs ls hP hD hS hl) (fun q => kf q H locs ls hP hD hS hl)

theorem px_icmp_ge (C : CX p s m args meth c D A cI c1 t1 tA tB cc nL Ts own rt) {x y : Int32} {off : Int} {tgt : Nat} (hdg : decode cc pc = .ok (.if_icmp .ge off, 3)) (ht : (pc : Int) + off = (tgt : Int)) (kt : y ≤ x → PW p l e R s m args below meth c Q D A cI c1 F K ad nL kc ks S lv (tgt) (st)) (kf : ¬ y ≤ x → PW p l e R s m args below meth c Q D A cI c1 F K ad nL kc ks S lv (pc + 3) (st)) : PW p l e R s m args below meth c Q D A cI c1 F K ad nL kc ks S lv (pc) (.int y :: .int x :: st) := fun H locs ls hP hD hS hl => lv_icmp_ge C.1 C.2.1 hdg ht (fun q => kt q H locs ls hP hD hS hl) (fun q => kf q H locs ls hP hD hS hl)

theorem px_icmp_gt (C : CX p s m args meth c D A cI c1 t1 tA tB cc nL Ts own rt) {x y : Int32} {off : Int} {tgt : Nat} (hdg : decode cc pc = .ok (.if_icmp .gt off, 3)) (ht : (pc : Int) + off = (tgt : Int)) (kt : y < x → PW p l e R s m args below meth c Q D A cI c1 F K ad nL kc ks S lv (tgt) (st)) (kf : ¬ y < x → PW p l e R s m args below meth c Q D A cI c1 F K ad nL kc ks S lv (pc + 3) (st)) : PW p l e R s m args below meth c Q D A cI c1 F K ad nL kc ks S lv (pc) (.int y :: .int x :: st) := fun H locs ls hP hD hS hl => lv_icmp_gt C.1 C.2.1 hdg ht (fun q => kt q H locs ls hP hD hS hl) (fun q => kf q H locs ls hP hD hS hl)

theorem px_icmp_le (C : CX p s m args meth c D A cI c1 t1 tA tB cc nL Ts own rt) {x y : Int32} {off : Int} {tgt : Nat} (hdg : decode cc pc = .ok (.if_icmp .le off, 3)) (ht : (pc : Int) + off = (tgt : Int)) (kt : x ≤ y → PW p l e R s m args below meth c Q D A cI c1 F K ad nL kc ks S lv (tgt) (st)) (kf : ¬ x ≤ y → PW p l e R s m args below meth c Q D A cI c1 F K ad nL kc ks S lv (pc + 3) (st)) : PW p l e R s m args below meth c Q D A cI c1 F K ad nL kc ks S lv (pc) (.int y :: .int x :: st) := fun H locs ls hP hD hS hl => lv_icmp_le C.1 C.2.1 hdg ht (fun q => kt q H locs ls hP hD hS hl) (fun q => kf q H locs ls hP hD hS hl)

theorem px_ifnull (C : CX p s m args meth c D A cI c1 t1 tA tB cc nL Ts own rt) {x : Nat} {off : Int} (hdg : decode cc pc = .ok (.ifnull off, 3)) (k : PW p l e R s m args below meth c Q D A cI c1 F K ad nL kc ks S lv (pc + 3) (st)) : PW p l e R s m args below meth c Q D A cI c1 F K ad nL kc ks S lv (pc) (.ref x :: st) := fun H locs ls hP hD hS hl => lv_ifnull C.1 C.2.1 hdg (k H locs ls hP hD hS hl)

theorem px_ifnullN (C : CX p s m args meth c D A cI c1 t1 tA tB cc nL Ts own rt) {off : Int} {tgt : Nat} (hdg : decode cc pc = .ok (.ifnull off, 3)) (ht : (pc : Int) + off = (tgt : Int)) (k : PW p l e R s m args below meth c Q D A cI c1 F K ad nL kc ks S lv (tgt) (st)) : PW p l e R s m args below meth c Q D A cI c1 F K ad nL kc ks S lv (pc) (.null :: st) := fun H locs ls hP hD hS hl => lv_ifnullN C.1 C.2.1 hdg ht (k H locs ls hP hD hS hl)

theorem px_ifnonnull (C : CX p s m args meth c D A cI c1 t1 tA tB cc nL Ts own rt) {x : Nat} {off : Int} {tgt : Nat} (hdg : decode cc pc = .ok (.ifnonnull off, 3)) (ht : (pc : Int) + off = (tgt : Int)) (k : PW p l e R s m args below meth c Q D A cI c1 F K ad nL kc ks S lv (tgt) (st)) : PW p l e R s m args below meth c Q D A cI c1 F K ad nL kc ks S lv (pc) (.ref x :: st) := fun H locs ls hP hD hS hl => lv_ifnonnull C.1 C.2.1 hdg ht (k H locs ls hP hD hS hl)

theorem px_ifnonnullN (C : CX p s m args meth c D A cI c1 t1 tA tB cc nL Ts own rt) {off : Int} (hdg : decode cc pc = .ok (.ifnonnull off, 3)) (k : PW p l e R s m args below meth c Q D A cI c1 F K ad nL kc ks S lv (pc + 3) (st)) : PW p l e R s m args below meth c Q D A cI c1 F K ad nL kc ks S lv (pc) (.null :: st) := fun H locs ls hP hD hS hl => lv_ifnonnullN C.1 C.2.1 hdg (k H locs ls hP hD hS hl)

theorem px_tableOut (C : CX p s m args meth c D A cI c1 t1 tA tB cc nL Ts own rt) {dflt lo hi : Int} {offs : Array Int} {len : Nat} {x : Int32} {tgt : Nat} (hdg : decode cc pc = .ok (.tableswitch dflt lo hi offs, len)) (h : x.toInt < lo ∨ hi < x.toInt) (ht : (pc : Int) + dflt = (tgt : Int)) (k : PW p l e R s m args below meth c Q D A cI c1 F K ad nL kc ks S lv (tgt) (st)) : PW p l e R s m args below meth c Q D A cI c1 F K ad nL kc ks S lv (pc) (.int x :: st) := fun H locs ls hP hD hS hl => lv_tableOut C.1 C.2.1 hdg h ht (k H locs ls hP hD hS hl)

theorem px_tableIn (C : CX p s m args meth c D A cI c1 t1 tA tB cc nL Ts own rt) {dflt lo hi : Int} {offs : Array Int} {len : Nat} {x : Int32} {off : Int} {tgt : Nat} (hdg : decode cc pc = .ok (.tableswitch dflt lo hi offs, len)) (h1 : ¬ x.toInt < lo) (h2 : ¬ hi < x.toInt) (ho : offs[(x.toInt - lo).toNat]? = some off) (ht : (pc : Int) + off = (tgt : Int)) (k : PW p l e R s m args below meth c Q D A cI c1 F K ad nL kc ks S lv (tgt) (st)) : PW p l e R s m args below meth c Q D A cI c1 F K ad nL kc ks S lv (pc) (.int x :: st) := fun H locs ls hP hD hS hl => lv_tableIn C.1 C.2.1 hdg h1 h2 ho ht (k H locs ls hP hD hS hl)

theorem px_geti (C : CX p s m args meth c D A cI c1 t1 tA tB cc nL Ts own rt) {k ci j index N : Nat} {sl : List Sl} {Cn ref : String} {T : u_T} (hk : K[k]? = some (.inl (ci, sl))) (hj : sl[j]? = some (.inl false)) (hc : vwCl[ci]? = some (Cn, T, N)) (hin : ∀ w ∈ u_ws Cn T N, w ∈ Ts) (hjN : j < N) (hlink : Cond.fieldLink own index ref (T j).2.1 (T j).2.2.1 ∈ Ts) (hsame : ref = (T j).1) (hdg : decode cc pc = .ok (.getfield index, 3)) (kk : PW p l e R s m args below meth c Q D A cI c1 F K ad nL kc ks S lv (pc + 3) (.int (S.1 k j) :: st)) : PW p l e R s m args below meth c Q D A cI c1 F K ad nL kc ks S lv (pc) (.ref (ad k) :: st) := fun H locs ls hP hD hS hl => va_get (v := .int (S.1 k j)) C.1 C.2.1 C.2.2.2.2.1 hin C.2.2.2.1 C.2.2.2.2.2.1 hP k (p_w_at hk) hc j hjN (C.2.2.2.2.1 _ hlink) (fun _ h9 => hsame ▸ h9) (p_fld hj) hdg (kk H locs ls hP hD hS hl)

theorem px_getl (C : CX p s m args meth c D A cI c1 t1 tA tB cc nL Ts own rt) {k ci j index N : Nat} {sl : List Sl} {Cn ref : String} {T : u_T} (hk : K[k]? = some (.inl (ci, sl))) (hj : sl[j]? = some (.inl true)) (hc : vwCl[ci]? = some (Cn, T, N)) (hin : ∀ w ∈ u_ws Cn T N, w ∈ Ts) (hjN : j < N) (hlink : Cond.fieldLink own index ref (T j).2.1 (T j).2.2.1 ∈ Ts) (hsame : ref = (T j).1) (hdg : decode cc pc = .ok (.getfield index, 3)) (kk : PW p l e R s m args below meth c Q D A cI c1 F K ad nL kc ks S lv (pc + 3) (.long (S.2 k j) :: st)) : PW p l e R s m args below meth c Q D A cI c1 F K ad nL kc ks S lv (pc) (.ref (ad k) :: st) := fun H locs ls hP hD hS hl => va_get (v := .long (S.2 k j)) C.1 C.2.1 C.2.2.2.2.1 hin C.2.2.2.1 C.2.2.2.2.2.1 hP k (p_w_at hk) hc j hjN (C.2.2.2.2.1 _ hlink) (fun _ h9 => hsame ▸ h9) (p_fld hj) hdg (kk H locs ls hP hD hS hl)

theorem px_getr (C : CX p s m args meth c D A cI c1 t1 tA tB cc nL Ts own rt) {k ci j index N : Nat} {sl : List Sl} {Cn ref : String} {T : u_T} (hk : K[k]? = some (.inl (ci, sl))) {t : Nat} (hj : sl[j]? = some (.inr (some t))) (hc : vwCl[ci]? = some (Cn, T, N)) (hin : ∀ w ∈ u_ws Cn T N, w ∈ Ts) (hjN : j < N) (hlink : Cond.fieldLink own index ref (T j).2.1 (T j).2.2.1 ∈ Ts) (hsame : ref = (T j).1) (hdg : decode cc pc = .ok (.getfield index, 3)) (kk : PW p l e R s m args below meth c Q D A cI c1 F K ad nL kc ks S lv (pc + 3) (.ref (ad t) :: st)) : PW p l e R s m args below meth c Q D A cI c1 F K ad nL kc ks S lv (pc) (.ref (ad k) :: st) := fun H locs ls hP hD hS hl => va_get (v := .ref (ad t)) C.1 C.2.1 C.2.2.2.2.1 hin C.2.2.2.1 C.2.2.2.2.2.1 hP k (p_w_at hk) hc j hjN (C.2.2.2.2.1 _ hlink) (fun _ h9 => hsame ▸ h9) (p_fld hj) hdg (kk H locs ls hP hD hS hl)

theorem px_puti (C : CX p s m args meth c D A cI c1 t1 tA tB cc nL Ts own rt) {k ci j index N : Nat} {sl : List Sl} {Cn ref : String} {T : u_T} (hk : K[k]? = some (.inl (ci, sl))) {v : Int32} (hj : sl[j]? = some (.inl false)) (hc : vwCl[ci]? = some (Cn, T, N)) (hin : ∀ w ∈ u_ws Cn T N, w ∈ Ts) (hjN : j < N) (hlink : Cond.fieldLink own index ref (T j).2.1 (T j).2.2.1 ∈ Ts) (hsame : ref = (T j).1) (ty0 : Nat → FieldType) (hty : ∀ a, a < N → parseFieldDescriptor (T a).2.2.1 = some (ty0 a)) (hnm : ∀ a, a < N → ∀ b, b < N → a ≠ b → (T a).2.1 ≠ (T b).2.1) (hfin : (T j).2.2.2 = false) {ty : FieldType} (hd : parseFieldDescriptor (T j).2.2.1 = some ty) (hn : narrow ty (.int v) = .int v) (hfit : fits ty (.int v) = true) (hdg : decode cc pc = .ok (.putfield index, 3)) (kk : PW p l e R s m args below meth c Q D A cI c1 F K ad nL kc ks (st_i S k j v) lv (pc + 3) (st)) : PW p l e R s m args below meth c Q D A cI c1 F K ad nL kc ks S lv (pc) (.int v :: .ref (ad k) :: st) := fun H locs ls hP hD hS hl => va_put C.1 C.2.1 C.2.2.2.2.1 hin ty0 hty hnm C.2.2.2.1 C.2.2.2.2.2.1 hP hD hS k (p_w_at hk) hc j hjN (C.2.2.2.2.1 _ hlink) (fun _ h9 => hsame ▸ h9) hfin hd hn hfit (by rw [List.length_mapIdx]; exact (List.getElem?_eq_some_iff.mp hj).1) hdg (fun H1 locs1 h1 h2 h3 => kk H1 locs1 ls (by rw [p_obj_i (cI := cI) (c1 := c1) hj, p_w_set hk (st_i_o (j := j) (v := v))] at h1; exact h1) (p_w_D hD) h3 hl)

theorem px_putl (C : CX p s m args meth c D A cI c1 t1 tA tB cc nL Ts own rt) {k ci j index N : Nat} {sl : List Sl} {Cn ref : String} {T : u_T} (hk : K[k]? = some (.inl (ci, sl))) {v : Int64} (hj : sl[j]? = some (.inl true)) (hc : vwCl[ci]? = some (Cn, T, N)) (hin : ∀ w ∈ u_ws Cn T N, w ∈ Ts) (hjN : j < N) (hlink : Cond.fieldLink own index ref (T j).2.1 (T j).2.2.1 ∈ Ts) (hsame : ref = (T j).1) (ty0 : Nat → FieldType) (hty : ∀ a, a < N → parseFieldDescriptor (T a).2.2.1 = some (ty0 a)) (hnm : ∀ a, a < N → ∀ b, b < N → a ≠ b → (T a).2.1 ≠ (T b).2.1) (hfin : (T j).2.2.2 = false) (hd : parseFieldDescriptor (T j).2.2.1 = some .long) (hdg : decode cc pc = .ok (.putfield index, 3)) (kk : PW p l e R s m args below meth c Q D A cI c1 F K ad nL kc ks (st_l S k j v) lv (pc + 3) (st)) : PW p l e R s m args below meth c Q D A cI c1 F K ad nL kc ks S lv (pc) (.long v :: .ref (ad k) :: st) := fun H locs ls hP hD hS hl => va_put C.1 C.2.1 C.2.2.2.2.1 hin ty0 hty hnm C.2.2.2.1 C.2.2.2.2.2.1 hP hD hS k (p_w_at hk) hc j hjN (C.2.2.2.2.1 _ hlink) (fun _ h9 => hsame ▸ h9) hfin hd rfl rfl (by rw [List.length_mapIdx]; exact (List.getElem?_eq_some_iff.mp hj).1) hdg (fun H1 locs1 h1 h2 h3 => kk H1 locs1 ls (by rw [p_obj_l (cI := cI) (c1 := c1) hj, p_w_set hk (st_l_o (j := j) (v := v))] at h1; exact h1) (p_w_D hD) h3 hl)

theorem px_iald (C : CX p s m args meth c D A cI c1 t1 tA tB cc nL Ts own rt) {k n j : Nat} {i : Int32} (hk : K[k]? = some (.inr (n, .inl false))) (hin : vp_in i n) (hj : i.toNatClampNeg = j) (hdg : decode cc pc = .ok (.iaload, 1)) (kk : PW p l e R s m args below meth c Q D A cI c1 F K ad nL kc ks S lv (pc + 1) (.int (S.1 k j) :: st)) : PW p l e R s m args below meth c Q D A cI c1 F K ad nL kc ks S lv (pc) (.int i :: .ref (ad k) :: st) := fun H locs ls hP hD hS hl => va_iald C.1 C.2.1 C.2.2.2.2.2.1 hP k 0 (p_w_at hk) rfl hin hdg (by rw [hj]; exact kk H locs ls hP hD hS hl)

theorem px_zald (C : CX p s m args meth c D A cI c1 t1 tA tB cc nL Ts own rt) {k n j : Nat} {i : Int32} (ht : t1 = .boolean) (hk : K[k]? = some (.inr (n, .inl true))) (hin : vp_in i n) (hj : i.toNatClampNeg = j) (hdg : decode cc pc = .ok (.baload, 1)) (kk : PW p l e R s m args below meth c Q D A cI c1 F K ad nL kc ks S lv (pc + 1) (.int (S.1 k j) :: st)) : PW p l e R s m args below meth c Q D A cI c1 F K ad nL kc ks S lv (pc) (.int i :: .ref (ad k) :: st) := fun H locs ls hP hD hS hl => va_zald C.1 C.2.1 C.2.2.2.2.2.1 hP k 1 (p_w_at hk) (by rw [ht]; rfl) hin hdg (by rw [hj]; exact kk H locs ls hP hD hS hl)

theorem px_aald (C : CX p s m args meth c D A cI c1 t1 tA tB cc nL Ts own rt) {k n j : Nat} {i : Int32} {f : Nat → Option Nat} {Cn : String} (ht : t1 = .object Cn) (hk : K[k]? = some (.inr (n, .inr f))) (hin : vp_in i n) (hj : i.toNatClampNeg = j) (hdg : decode cc pc = .ok (.aaload, 1)) (kk : PW p l e R s m args below meth c Q D A cI c1 F K ad nL kc ks S lv (pc + 1) (va_rf ((f j).map ad) :: st)) : PW p l e R s m args below meth c Q D A cI c1 F K ad nL kc ks S lv (pc) (.int i :: .ref (ad k) :: st) := fun H locs ls hP hD hS hl => va_aldq (C := Cn) C.1 C.2.1 C.2.2.2.2.2.1 hP k 1 (p_w_at hk) (by rw [ht]; rfl) hin hdg (by rw [hj]; exact kk H locs ls hP hD hS hl)

theorem px_alen (C : CX p s m args meth c D A cI c1 t1 tA tB cc nL Ts own rt) {k n : Nat} {v : Int32} (hk : K[k]? = some (.inr (n, .inl false))) (hv : Int32.ofNat n = v) (hdg : decode cc pc = .ok (.arraylength, 1)) (kk : PW p l e R s m args below meth c Q D A cI c1 F K ad nL kc ks S lv (pc + 1) (.int v :: st)) : PW p l e R s m args below meth c Q D A cI c1 F K ad nL kc ks S lv (pc) (.ref (ad k) :: st) := fun H locs ls hP hD hS hl => va_alen C.1 C.2.1 C.2.2.2.2.2.1 hP k 0 (p_w_at hk) (ty := .int) rfl hv hdg (kk H locs ls hP hD hS hl)

theorem px_alenR (C : CX p s m args meth c D A cI c1 t1 tA tB cc nL Ts own rt) {k n : Nat} {v : Int32} {f : Nat → Option Nat} (hk : K[k]? = some (.inr (n, .inr f))) (hv : Int32.ofNat n = v) (hdg : decode cc pc = .ok (.arraylength, 1)) (kk : PW p l e R s m args below meth c Q D A cI c1 F K ad nL kc ks S lv (pc + 1) (.int v :: st)) : PW p l e R s m args below meth c Q D A cI c1 F K ad nL kc ks S lv (pc) (.ref (ad k) :: st) := fun H locs ls hP hD hS hl => va_alen C.1 C.2.1 C.2.2.2.2.2.1 hP k 1 (p_w_at hk) (ty := t1) rfl hv hdg (kk H locs ls hP hD hS hl)

theorem p_ast {S : St} {k j : Nat} {v : Int32} : upd (S.1 k) j v = (st_i S k j v).1 k := (if_pos rfl).symm

theorem px_iast (C : CX p s m args meth c D A cI c1 t1 tA tB cc nL Ts own rt) {k n j : Nat} {i v : Int32} (hk : K[k]? = some (.inr (n, .inl false))) (hin : vp_in i n) (hj : i.toNatClampNeg = j) (hdg : decode cc pc = .ok (.iastore, 1)) (kk : PW p l e R s m args below meth c Q D A cI c1 F K ad nL kc ks (st_i S k j v) lv (pc + 1) (st)) : PW p l e R s m args below meth c Q D A cI c1 F K ad nL kc ks S lv (pc) (.int v :: .int i :: .ref (ad k) :: st) := fun H locs ls hP hD hS hl => va_iast C.1 C.2.1 C.2.2.2.2.2.1 hP hD hS k 0 (p_w_at hk) rfl hin hdg (fun H1 locs1 h1 h2 h3 => kk H1 locs1 ls (by rw [hj, p_ast] at h1; exact (p_w_set (cI := cI) (c1 := c1) (F := F) (ad := ad) hk (st_i_o (S := S) (j := j) (v := v))) ▸ h1) (p_w_D hD) h3 hl)

theorem px_zast (C : CX p s m args meth c D A cI c1 t1 tA tB cc nL Ts own rt) {k n j : Nat} {i v : Int32} (ht : t1 = .boolean) (hz : vp_nar .boolean v = v) (hk : K[k]? = some (.inr (n, .inl true))) (hin : vp_in i n) (hj : i.toNatClampNeg = j) (hdg : decode cc pc = .ok (.bastore, 1)) (kk : PW p l e R s m args below meth c Q D A cI c1 F K ad nL kc ks (st_i S k j v) lv (pc + 1) (st)) : PW p l e R s m args below meth c Q D A cI c1 F K ad nL kc ks S lv (pc) (.int v :: .int i :: .ref (ad k) :: st) := fun H locs ls hP hD hS hl => va_zast C.1 C.2.1 C.2.2.2.2.2.1 hP hD hS k 1 (p_w_at hk) (by rw [ht]; rfl) hin hdg (fun H1 locs1 h1 h2 h3 => kk H1 locs1 ls (by rw [hz, hj, p_ast] at h1; exact (p_w_set (cI := cI) (c1 := c1) (F := F) (ad := ad) hk (st_i_o (S := S) (j := j) (v := v))) ▸ h1) (p_w_D hD) h3 hl)

theorem px_getsA (C : CX p s m args meth c D A cI c1 t1 tA tB cc nL Ts own rt) {index : Nat} (hlink : Cond.fieldLink own index "RiverTolls$Reader" "LEAST_FACTS" "[I" ∈ Ts) (hdg : decode cc pc = .ok (.getstatic index, 3)) (kk : PW p l e R s m args below meth c Q D A cI c1 F K ad nL kc ks S lv (pc + 3) (.ref tA :: st)) : PW p l e R s m args below meth c Q D A cI c1 F K ad nL kc ks S lv (pc) (st) := fun H locs ls hP hD hS hl => va_gets C.1 C.2.1 C.2.2.2.2.2.2.2.2.1.1 hS C.2.2.2.1 (C.2.2.2.2.1 _ hlink) (fun _ h9 => h9) hdg (kk H locs ls hP hD hS hl)

theorem px_getsB (C : CX p s m args meth c D A cI c1 t1 tA tB cc nL Ts own rt) {index : Nat} (hlink : Cond.fieldLink own index "RiverTolls$Reader" "MOST_FACTS" "[I" ∈ Ts) (hdg : decode cc pc = .ok (.getstatic index, 3)) (kk : PW p l e R s m args below meth c Q D A cI c1 F K ad nL kc ks S lv (pc + 3) (.ref tB :: st)) : PW p l e R s m args below meth c Q D A cI c1 F K ad nL kc ks S lv (pc) (st) := fun H locs ls hP hD hS hl => va_gets C.1 C.2.1 C.2.2.2.2.2.2.2.2.2.1 hS C.2.2.2.1 (C.2.2.2.2.1 _ hlink) (fun _ h9 => h9) hdg (kk H locs ls hP hD hS hl)

theorem px_tald (C : CX p s m args meth c D A cI c1 t1 tA tB cc nL Ts own rt) {t n j : Nat} {i : Int32} {f : Nat → Int32} (hT : va_T .int t n (fun j => .int (f j)) A s s.heap) (hin : vp_in i n) (hj : i.toNatClampNeg = j) (hdg : decode cc pc = .ok (.iaload, 1)) (kk : PW p l e R s m args below meth c Q D A cI c1 F K ad nL kc ks S lv (pc + 1) (.int (f j) :: st)) : PW p l e R s m args below meth c Q D A cI c1 F K ad nL kc ks S lv (pc) (.int i :: .ref t :: st) := fun H locs ls hP hD hS hl => va_ti C.1 C.2.1 hT hS hin rfl hdg (by rw [hj]; exact kk H locs ls hP hD hS hl)

theorem px_talen (C : CX p s m args meth c D A cI c1 t1 tA tB cc nL Ts own rt) {t n : Nat} {v : Int32} {f : Nat → Value} (hT : va_T .int t n f A s s.heap) (hv : Int32.ofNat n = v) (hdg : decode cc pc = .ok (.arraylength, 1)) (kk : PW p l e R s m args below meth c Q D A cI c1 F K ad nL kc ks S lv (pc + 1) (.int v :: st)) : PW p l e R s m args below meth c Q D A cI c1 F K ad nL kc ks S lv (pc) (.ref t :: st) := fun H locs ls hP hD hS hl => va_tlen C.1 C.2.1 hT hS hv hdg (kk H locs ls hP hD hS hl)

theorem px_min (C : CX p s m args meth c D A cI c1 t1 tA tB cc nL Ts own rt) {index : Nat} {x y : Int32} (h1 : Cond.methodLink own index Lib.Math.min.name ∈ Ts) (h2 : Cond.static Lib.Math.min.name ∈ Ts) (h3 : Cond.initialized "java/lang/Math" ∈ Ts) (h4 : Cond.code Lib.Math.min.name Lib.Math.min.code 2 (some .int) ∈ Ts) (hkc : kc ≤ R.cells ∧ ks ≤ R.slots) (hf : 1 ≤ R.frames) (hlo : (st.map fun v => v.category).sum + 13 ≤ R.locals) (hdg : decode cc pc = .ok (.invokestatic index, 3)) (kk : PW p l e R s m args below meth c Q D A cI c1 F K ad nL kc ks S lv (pc + 3) (.int (if y < x then y else x) :: st)) : PW p l e R s m args below meth c Q D A cI c1 F K ad nL kc ks S lv (pc) (.int y :: .int x :: st) := fun H locs ls hP hD hS hl => va_mmin C.1 C.2.1 (C.2.2.1.trans hl.1.symm) C.2.2.2.1 (C.2.2.2.2.1 _ h1) (C.2.2.2.2.1 _ h2) (C.2.2.2.2.1 _ h3) (C.2.2.2.2.1 _ h4) hf hlo hkc.1 hkc.2 hdg (kk H locs ls hP hD hS hl)

theorem px_iret (C : CX p s m args meth c D A cI c1 t1 tA tB cc nL Ts own (some .int)) {v : Int32} (hdg : decode cc pc = .ok (.ireturn, 1)) : PW p l e R s m args below meth c (MQ below (QX K A D cI c1 F ad (some (.int v)) S) args s 0 0 A) D A cI c1 F K ad nL 0 0 S lv pc [.int v] := fun H locs ls hP hD hS hl => W.iret C.1 C.2.1 C.2.2.2.2.2.2.1 (hq := fun t ht hW => ⟨rfl, by rw [ht]; exact hP, hS.F ht⟩) (hf := hS.2.2) (hdg := hdg) (hlocks := C.2.2.2.2.2.2.2.1)

theorem px_zret (C : CX p s m args meth c D A cI c1 t1 tA tB cc nL Ts own (some .boolean)) {v : Int32} (hz : v = 0 ∨ v = 1) (hdg : decode cc pc = .ok (.ireturn, 1)) : PW p l e R s m args below meth c (MQ below (QX K A D cI c1 F ad (some (.int v)) S) args s 0 0 A) D A cI c1 F K ad nL 0 0 S lv pc [.int v] := fun H locs ls hP hD hS hl => W.zret C.1 C.2.1 C.2.2.2.2.2.2.1 (by rcases hz with rfl | rfl <;> rfl) (hq := fun t ht hW => ⟨rfl, by rw [ht]; exact hP, hS.F ht⟩) (hf := hS.2.2) (hdg := hdg) (hlocks := C.2.2.2.2.2.2.2.1)

theorem px_lret (C : CX p s m args meth c D A cI c1 t1 tA tB cc nL Ts own (some .long)) {v : Int64} (hdg : decode cc pc = .ok (.lreturn, 1)) : PW p l e R s m args below meth c (MQ below (QX K A D cI c1 F ad (some (.long v)) S) args s 0 0 A) D A cI c1 F K ad nL 0 0 S lv pc [.long v] := fun H locs ls hP hD hS hl => W.lret C.1 C.2.1 C.2.2.2.2.2.2.1 (hq := fun t ht hW => ⟨rfl, by rw [ht]; exact hP, hS.F ht⟩) (hf := hS.2.2) (hdg := hdg) (hlocks := C.2.2.2.2.2.2.2.1)

theorem px_vret (C : CX p s m args meth c D A cI c1 t1 tA tB cc nL Ts own none)  (hdg : decode cc pc = .ok (.return_, 1)) : PW p l e R s m args below meth c (MQ below (QX K A D cI c1 F ad none S) args s 0 0 A) D A cI c1 F K ad nL 0 0 S lv pc [] := fun H locs ls hP hD hS hl => W.vret C.1 C.2.1 C.2.2.2.2.2.2.1 (hq := fun t ht hW => ⟨rfl, by rw [ht]; exact hP, hS.F ht⟩) (hf := hS.2.2) (hdg := hdg) (hlocks := C.2.2.2.2.2.2.2.1)

theorem px_aret {Cn : String} (C : CX p s m args meth c D A cI c1 t1 tA tB cc nL Ts own (some (.object Cn))) {v : Value} (hv : v = .null ∨ ∃ a, v = .ref a) (hdg : decode cc pc = .ok (.areturn, 1)) : PW p l e R s m args below meth c (MQ below (QX K A D cI c1 F ad (some v) S) args s 0 0 A) D A cI c1 F K ad nL 0 0 S lv pc [v] := fun H locs ls hP hD hS hl => W.aret C.1 C.2.1 C.2.2.2.2.2.2.1 (Or.inl ⟨_, rfl⟩) hv (hq := fun t ht hW => ⟨rfl, by rw [ht]; exact hP, hS.F ht⟩) (hf := hS.2.2) (hdg := hdg) (hlocks := C.2.2.2.2.2.2.2.1)

theorem px_callV (C : CX p s m args meth c D A cI c1 t1 tA tB cc nL Ts own rt) {y : MethodName} {ws : List Cond} {rm : Room} {As rest : List Value} {rv : Option Value} {S' : St} {bytes : ByteArray} {maxL n index : Nat} {ret : Option FieldType} {Cn : String} {b ci N : Nat} {sl : List Sl} {T : u_T} (hM : XMet l y ws rm K t1 tA tB (.ref (ad b) :: As) ad S rv S') (cw : CallW R s args own Cn index y bytes maxL ret ws rm 0 0 n) (hkc : kc ≤ R.cells ∧ ks ≤ R.slots) (hk : K[b]? = some (.inl (ci, sl))) (hc : vwCl[ci]? = some (Cn, T, N)) (hn : As.length = n) (hst : st = As.reverse ++ .ref (ad b) :: rest) (hW : (rest.map fun v => v.category).sum ≤ 8) (hdg : decode cc pc = .ok (.invokevirtual index, 3))
    (kk : PW p l e R s m args below meth c Q D A cI c1 F K ad nL kc ks S' lv (pc + 3) (rv.toList ++ rest)) : PW p l e R s m args below meth c Q D A cI c1 F K ad nL kc ks S lv (pc) (st) := by
  intro H locs ls hP hD hS hl
  subst hst
  have hW0 : 2 * (F0 m pc ls (As.reverse ++ .ref (ad b) :: rest)).monitorRoom + (rest.map fun v => v.category).sum ≤ 8 := by
    show 2 * 0 + _ ≤ 8
    omega
  have hpre : ∀ U : State, U.heap = H → s.WarmedH U.vm → XPre K t1 tA tB A D cI c1 F ad S U := fun U hU hWm => ⟨by rw [hU]; exact hP, va_K.moved hWm.alike C.2.2.2.2.2.1, hD, p_Z.moved hWm.alike (by rw [hU]; exact C.2.2.2.2.2.2.2.2.kept (fun a h1 h2 => hS.2.1 a h1 h2))⟩
  have hr := va_runV (C := Cn) (b := ad b) (As := As) (rest := rest) (cells := kc) (slots := ks) (locs := locs) (H := H) (l := l) (e := e) (R := R) (below := below) (meth := meth) ⟨C.1, C.2.1, C.2.2.1, C.2.2.2.1, C.2.2.2.2.1⟩ (hM D A cI c1 F) cw ⟨XPre.blind, va_recv (q := (Cn, T, N)) C.2.2.2.2.2.1 hP hc (p_w_at hk), fun U hU hWm => ⟨rfl, hpre U hU hWm⟩⟩ (g := F0 m pc ls (As.reverse ++ .ref (ad b) :: rest)) rfl hn hl.1 rfl hW0 hdg hkc
  intro T hT X
  obtain ⟨v, st₀, t, T', L, h0, X', hL, e1, e2, ⟨hv, hP1, hz, hk1⟩, sg⟩ := hr T hT X
  cases hv
  rw [h0] at hz hk1
  obtain ⟨t2, a1, b1⟩ := kk T'.heap (locs ++ L) ls (by rw [e1]; exact hP1) (p_w_D hD) ⟨Nat.le_trans hS.1 (by rw [e1]; exact hz), fun q h1 h2 => by rw [e1, hk1 q (Nat.lt_of_lt_of_le h1 hS.1) h2]; exact hS.2.1 q h1 h2, fun q hq => by
      rcases List.mem_append.mp hq with h | h
      · exact hS.2.2 q h
      · exact hL q h⟩ hl T' rfl X'
  exact ⟨t2, sg t2 a1, b1⟩

theorem px_callS (C : CX p s m args meth c D A cI c1 t1 tA tB cc nL Ts own rt) {y : MethodName} {ws : List Cond} {rm : Room} {As rest : List Value} {rv : Option Value} {S' : St} {bytes : ByteArray} {maxL n index : Nat} {ret : Option FieldType}  (hM : XMet l y ws rm K t1 tA tB As ad S rv S') (cw : CallB R s args own index y bytes maxL ret ws rm 0 0 n ∧ (Cond.static y).before args s = true) (hkc : kc ≤ R.cells ∧ ks ≤ R.slots)  (hn : As.length = n) (hst : st = As.reverse ++ rest) (hW : (rest.map fun v => v.category).sum ≤ 8) (hdg : decode cc pc = .ok (.invokestatic index, 3))
    (kk : PW p l e R s m args below meth c Q D A cI c1 F K ad nL kc ks S' lv (pc + 3) (rv.toList ++ rest)) : PW p l e R s m args below meth c Q D A cI c1 F K ad nL kc ks S lv (pc) (st) := by
  intro H locs ls hP hD hS hl
  subst hst
  have hW0 : 2 * (F0 m pc ls (As.reverse ++ rest)).monitorRoom + (rest.map fun v => v.category).sum ≤ 8 := by
    show 2 * 0 + _ ≤ 8
    omega
  have hpre : ∀ U : State, U.heap = H → s.WarmedH U.vm → XPre K t1 tA tB A D cI c1 F ad S U := fun U hU hWm => ⟨by rw [hU]; exact hP, va_K.moved hWm.alike C.2.2.2.2.2.1, hD, p_Z.moved hWm.alike (by rw [hU]; exact C.2.2.2.2.2.2.2.2.kept (fun a h1 h2 => hS.2.1 a h1 h2))⟩
  have hr := va_runS (As := As) (rest := rest) (cells := kc) (slots := ks) (locs := locs) (H := H) (l := l) (e := e) (R := R) (below := below) (meth := meth) ⟨C.1, C.2.1, C.2.2.1, C.2.2.2.1, C.2.2.2.2.1⟩ (hM D A cI c1 F) cw ⟨XPre.blind, fun U hU hWm => ⟨rfl, hpre U hU hWm⟩⟩ (g := F0 m pc ls (As.reverse ++ rest)) rfl hn hl.1 rfl hW0 hdg hkc
  intro T hT X
  obtain ⟨v, st₀, t, T', L, h0, X', hL, e1, e2, ⟨hv, hP1, hz, hk1⟩, sg⟩ := hr T hT X
  cases hv
  rw [h0] at hz hk1
  obtain ⟨t2, a1, b1⟩ := kk T'.heap (locs ++ L) ls (by rw [e1]; exact hP1) (p_w_D hD) ⟨Nat.le_trans hS.1 (by rw [e1]; exact hz), fun q h1 h2 => by rw [e1, hk1 q (Nat.lt_of_lt_of_le h1 hS.1) h2]; exact hS.2.1 q h1 h2, fun q hq => by
      rcases List.mem_append.mp hq with h | h
      · exact hS.2.2 q h
      · exact hL q h⟩ hl T' rfl X'
  exact ⟨t2, sg t2 a1, b1⟩

theorem px_nm {x y : Int32} (e1 : y = x) (k : PW p l e R s m args below meth c Q D A cI c1 F K ad nL kc ks S lv (pc) (.int y :: st)) : PW p l e R s m args below meth c Q D A cI c1 F K ad nL kc ks S lv (pc) (.int x :: st) := e1 ▸ k

theorem px_nml {x y : Int64} (e1 : y = x) (k : PW p l e R s m args below meth c Q D A cI c1 F K ad nL kc ks S lv (pc) (.long y :: st)) : PW p l e R s m args below meth c Q D A cI c1 F K ad nL kc ks S lv (pc) (.long x :: st) := e1 ▸ k

theorem px_nmS {S' : St} (e1 : S' = S) (k : PW p l e R s m args below meth c Q D A cI c1 F K ad nL kc ks S' lv (pc) (st)) : PW p l e R s m args below meth c Q D A cI c1 F K ad nL kc ks S lv (pc) (st) := e1 ▸ k

theorem px_sub {lv' : List (Nat × Value)} (kz : List Nat) (hlv : lv_pick lv kz = lv') (k : PW p l e R s m args below meth c Q D A cI c1 F K ad nL kc ks S lv' (pc) (st)) : PW p l e R s m args below meth c Q D A cI c1 F K ad nL kc ks S lv (pc) (st) := fun H locs ls hP hD hS hl => k H locs ls hP hD hS (lv_sub hl kz hlv)

theorem p_lt {i : Int32} {n : Nat} (h : vp_in i n) : i.toNatClampNeg < n := Nat.not_le.mp fun q => h (Or.inr q)

theorem p_rf {n b j : Nat} (h : j < n) : (fun j => if j < n then some (b + 3 * j) else none) j = some (b + 3 * j) := if_pos h

theorem px_aaldS (C : CX p s m args meth c D A cI c1 t1 tA tB cc nL Ts own rt) {k n j t : Nat} {i : Int32} {f : Nat → Option Nat} {Cn : String} (ht : t1 = .object Cn) (hk : K[k]? = some (.inr (n, .inr f))) (hin : vp_in i n) (hj : i.toNatClampNeg = j) (hf : f j = some t) (hdg : decode cc pc = .ok (.aaload, 1)) (kk : PW p l e R s m args below meth c Q D A cI c1 F K ad nL kc ks S lv (pc + 1) (.ref (ad t) :: st)) : PW p l e R s m args below meth c Q D A cI c1 F K ad nL kc ks S lv (pc) (.int i :: .ref (ad k) :: st) := px_aald C ht hk hin hj hdg (by rw [hf]; exact kk)

theorem px_callV0 (C : CX p s m args meth c D A cI c1 t1 tA tB cc nL Ts own rt) {y : MethodName} {ws : List Cond} {rm : Room} {As rest : List Value} {S' : St} {bytes : ByteArray} {maxL n index : Nat} {ret : Option FieldType} {Cn : String} {b ci N : Nat} {sl : List Sl} {T : u_T} (hM : XMet l y ws rm K t1 tA tB (.ref (ad b) :: As) ad S none S') (cw : CallW R s args own Cn index y bytes maxL ret ws rm 0 0 n) (hkc : kc ≤ R.cells ∧ ks ≤ R.slots) (hk : K[b]? = some (.inl (ci, sl))) (hc : vwCl[ci]? = some (Cn, T, N)) (hn : As.length = n) (hst : st = As.reverse ++ .ref (ad b) :: rest) (hW : (rest.map fun v => v.category).sum ≤ 8) (hdg : decode cc pc = .ok (.invokevirtual index, 3)) (kk : PW p l e R s m args below meth c Q D A cI c1 F K ad nL kc ks S' lv (pc + 3) (rest)) : PW p l e R s m args below meth c Q D A cI c1 F K ad nL kc ks S lv (pc) (st) := px_callV C hM cw hkc hk hc hn hst hW hdg kk

theorem px_callS0 (C : CX p s m args meth c D A cI c1 t1 tA tB cc nL Ts own rt) {y : MethodName} {ws : List Cond} {rm : Room} {As rest : List Value} {S' : St} {bytes : ByteArray} {maxL n index : Nat} {ret : Option FieldType} (hM : XMet l y ws rm K t1 tA tB As ad S none S') (cw : CallB R s args own index y bytes maxL ret ws rm 0 0 n ∧ (Cond.static y).before args s = true) (hkc : kc ≤ R.cells ∧ ks ≤ R.slots) (hn : As.length = n) (hst : st = As.reverse ++ rest) (hW : (rest.map fun v => v.category).sum ≤ 8) (hdg : decode cc pc = .ok (.invokestatic index, 3)) (kk : PW p l e R s m args below meth c Q D A cI c1 F K ad nL kc ks S' lv (pc + 3) (rest)) : PW p l e R s m args below meth c Q D A cI c1 F K ad nL kc ks S lv (pc) (st) := px_callS C hM cw hkc hn hst hW hdg kk

theorem px_callV1 (C : CX p s m args meth c D A cI c1 t1 tA tB cc nL Ts own rt) {y : MethodName} {ws : List Cond} {rm : Room} {As rest : List Value} {v : Value} {S' : St} {bytes : ByteArray} {maxL n index : Nat} {ret : Option FieldType} {Cn : String} {b ci N : Nat} {sl : List Sl} {T : u_T} (hM : XMet l y ws rm K t1 tA tB (.ref (ad b) :: As) ad S (some v) S') (cw : CallW R s args own Cn index y bytes maxL ret ws rm 0 0 n) (hkc : kc ≤ R.cells ∧ ks ≤ R.slots) (hk : K[b]? = some (.inl (ci, sl))) (hc : vwCl[ci]? = some (Cn, T, N)) (hn : As.length = n) (hst : st = As.reverse ++ .ref (ad b) :: rest) (hW : (rest.map fun v => v.category).sum ≤ 8) (hdg : decode cc pc = .ok (.invokevirtual index, 3)) (kk : PW p l e R s m args below meth c Q D A cI c1 F K ad nL kc ks S' lv (pc + 3) (v :: rest)) : PW p l e R s m args below meth c Q D A cI c1 F K ad nL kc ks S lv (pc) (st) := px_callV C hM cw hkc hk hc hn hst hW hdg kk

theorem px_callS1 (C : CX p s m args meth c D A cI c1 t1 tA tB cc nL Ts own rt) {y : MethodName} {ws : List Cond} {rm : Room} {As rest : List Value} {v : Value} {S' : St} {bytes : ByteArray} {maxL n index : Nat} {ret : Option FieldType} (hM : XMet l y ws rm K t1 tA tB As ad S (some v) S') (cw : CallB R s args own index y bytes maxL ret ws rm 0 0 n ∧ (Cond.static y).before args s = true) (hkc : kc ≤ R.cells ∧ ks ≤ R.slots) (hn : As.length = n) (hst : st = As.reverse ++ rest) (hW : (rest.map fun v => v.category).sum ≤ 8) (hdg : decode cc pc = .ok (.invokestatic index, 3)) (kk : PW p l e R s m args below meth c Q D A cI c1 F K ad nL kc ks S' lv (pc + 3) (v :: rest)) : PW p l e R s m args below meth c Q D A cI c1 F K ad nL kc ks S lv (pc) (st) := px_callS C hM cw hkc hn hst hW hdg kk

theorem px_iretE (C : CX p s m args meth c D A cI c1 t1 tA tB cc nL Ts own (some .int)) {v rv : Int32} (hdg : decode cc pc = .ok (.ireturn, 1)) (h : some v = some rv) : PW p l e R s m args below meth c (MQ below (QX K A D cI c1 F ad (some (.int rv)) S) args s 0 0 A) D A cI c1 F K ad nL 0 0 S lv pc [.int v] := by cases h; exact px_iret C hdg

theorem px_iretES (C : CX p s m args meth c D A cI c1 t1 tA tB cc nL Ts own (some .int)) {v rv : Int32} {S' : St} (hdg : decode cc pc = .ok (.ireturn, 1)) (h : some (v, S) = some (rv, S')) : PW p l e R s m args below meth c (MQ below (QX K A D cI c1 F ad (some (.int rv)) S') args s 0 0 A) D A cI c1 F K ad nL 0 0 S lv pc [.int v] := by cases h; exact px_iret C hdg

theorem px_zretE (C : CX p s m args meth c D A cI c1 t1 tA tB cc nL Ts own (some .boolean)) {v rv : Int32} (hz : v = 0 ∨ v = 1) (hdg : decode cc pc = .ok (.ireturn, 1)) (h : some v = some rv) : PW p l e R s m args below meth c (MQ below (QX K A D cI c1 F ad (some (.int rv)) S) args s 0 0 A) D A cI c1 F K ad nL 0 0 S lv pc [.int v] := by cases h; exact px_zret C hz hdg

theorem px_zretES (C : CX p s m args meth c D A cI c1 t1 tA tB cc nL Ts own (some .boolean)) {v rv : Int32} {S' : St} (hz : v = 0 ∨ v = 1) (hdg : decode cc pc = .ok (.ireturn, 1)) (h : some (v, S) = some (rv, S')) : PW p l e R s m args below meth c (MQ below (QX K A D cI c1 F ad (some (.int rv)) S') args s 0 0 A) D A cI c1 F K ad nL 0 0 S lv pc [.int v] := by cases h; exact px_zret C hz hdg

theorem px_lretE (C : CX p s m args meth c D A cI c1 t1 tA tB cc nL Ts own (some .long)) {v rv : Int64} (hdg : decode cc pc = .ok (.lreturn, 1)) (h : some v = some rv) : PW p l e R s m args below meth c (MQ below (QX K A D cI c1 F ad (some (.long rv)) S) args s 0 0 A) D A cI c1 F K ad nL 0 0 S lv pc [.long v] := by cases h; exact px_lret C hdg

theorem px_lretES (C : CX p s m args meth c D A cI c1 t1 tA tB cc nL Ts own (some .long)) {v rv : Int64} {S' : St} (hdg : decode cc pc = .ok (.lreturn, 1)) (h : some (v, S) = some (rv, S')) : PW p l e R s m args below meth c (MQ below (QX K A D cI c1 F ad (some (.long rv)) S') args s 0 0 A) D A cI c1 F K ad nL 0 0 S lv pc [.long v] := by cases h; exact px_lret C hdg

theorem px_vretE (C : CX p s m args meth c D A cI c1 t1 tA tB cc nL Ts own none) {S' : St} (hdg : decode cc pc = .ok (.return_, 1)) (h : some S = some S') : PW p l e R s m args below meth c (MQ below (QX K A D cI c1 F ad none S') args s 0 0 A) D A cI c1 F K ad nL 0 0 S lv pc [] := by cases h; exact px_vret C hdg

theorem px_aretE {Cn : String} (C : CX p s m args meth c D A cI c1 t1 tA tB cc nL Ts own (some (.object Cn))) {t : Nat} {rv : Option Nat} (hdg : decode cc pc = .ok (.areturn, 1)) (h : some (some t) = some rv) : PW p l e R s m args below meth c (MQ below (QX K A D cI c1 F ad (some (va_rf (rv.map ad))) S) args s 0 0 A) D A cI c1 F K ad nL 0 0 S lv pc [.ref (ad t)] := by cases h; exact px_aret C (Or.inr ⟨_, rfl⟩) hdg

theorem px_aretN {Cn : String} (C : CX p s m args meth c D A cI c1 t1 tA tB cc nL Ts own (some (.object Cn))) {rv : Option Nat} (hdg : decode cc pc = .ok (.areturn, 1)) (h : some (none : Option Nat) = some rv) : PW p l e R s m args below meth c (MQ below (QX K A D cI c1 F ad (some (va_rf (rv.map ad))) S) args s 0 0 A) D A cI c1 F K ad nL 0 0 S lv pc [.null] := by cases h; exact px_aret C (Or.inl rfl) hdg

end PX
/-- behind a table of cases: none of them -/
theorem sw_out {x : Int32} (n : Nat) (hn : n < 2 ^ 31) (h : ∀ k : Nat, k < n → ¬ x = nI k) : x.toInt < 0 ∨ ((n : Int) - 1) < x.toInt := by
  rcases Int.lt_or_le x.toInt 0 with q | q
  · exact Or.inl q
  · refine Or.inr (Int.not_le.mp fun q2 => ?_)
    refine h x.toInt.toNat (by omega) ?_
    apply Int32.toInt_inj.mp
    rw [nI_toInt (by omega)]
    omega
def nb {α : Type} (n : Nat) (i : Int32) (o : Option α) : Option α := if i < 0 ∨ n ≤ i.toNatClampNeg then none else o
theorem el_nb {α : Type} {n : Nat} {i : Int32} {o : Option α} {r : α} (h : nb n i o = some r) : vp_in i n ∧ o = some r := by
  unfold nb at h
  split at h
  · cases h
  · next q => exact ⟨q, h⟩
/-! a mirror's steps, taken apart -/
def lt {α β : Type} (x : α) (f : α → β) : β := f x
def ob2 {α β γ : Type} (o : Option (α × β)) (f : α → β → Option γ) : Option γ := o.bind (fun x => f x.1 x.2)
def ob3 {α β γ δ : Type} (o : Option (α × β × γ)) (f : α → β → γ → Option δ) : Option δ := o.bind (fun x => f x.1 x.2.1 x.2.2)
def ob4 {α β γ δ ε : Type} (o : Option (α × β × γ × δ)) (f : α → β → γ → δ → Option ε) : Option ε := o.bind (fun x => f x.1 x.2.1 x.2.2.1 x.2.2.2)
def ald (n : Nat) (f : Nat → Int32) (i : Int32) : Option Int32 := if i < 0 ∨ n ≤ i.toNatClampNeg then none else some (f i.toNatClampNeg)
def ast (n : Nat) (S : St) (k : Nat) (i v : Int32) : Option St := if i < 0 ∨ n ≤ i.toNatClampNeg then none else some (st_i S k i.toNatClampNeg v)
def nz {α : Type} (y : Int32) (o : Option α) : Option α := if y = 0 then none else o
def zb {α : Type} (v : Int32) (o : Option α) : Option α := if v = 0 ∨ v = 1 then o else none
theorem el_t {α : Type} {c : Prop} [Decidable c] {a b : Option α} {r : α} (hc : c) (h : (if c then a else b) = some r) : a = some r := by rw [if_pos hc] at h; exact h
theorem el_f {α : Type} {c : Prop} [Decidable c] {a b : Option α} {r : α} (hc : ¬ c) (h : (if c then a else b) = some r) : b = some r := by rw [if_neg hc] at h; exact h
theorem el_fn {α : Type} {c : Prop} [Decidable c] {a b : Option α} {r : α} (hc : c) (h : (if ¬ c then a else b) = some r) : b = some r := by rw [if_neg (fun q => q hc)] at h; exact h
theorem el_lt {α β : Type} {x : α} {f : α → Option β} {r : β} (h : lt x f = some r) : ∃ v, v = x ∧ f v = some r := ⟨x, rfl, h⟩
theorem el_b {α β : Type} {o : Option α} {f : α → Option β} {r : β} (h : o.bind f = some r) : ∃ v, o = some v ∧ f v = some r := by
  cases o with
  | none => cases h
  | some v => exact ⟨v, rfl, h⟩
theorem el_b2 {α β γ : Type} {o : Option (α × β)} {f : α → β → Option γ} {r : γ} (h : ob2 o f = some r) : ∃ a b, o = some (a, b) ∧ f a b = some r := by
  obtain ⟨v, h1, h2⟩ := el_b h
  exact ⟨v.1, v.2, h1, h2⟩
theorem el_b3 {α β γ δ : Type} {o : Option (α × β × γ)} {f : α → β → γ → Option δ} {r : δ} (h : ob3 o f = some r) : ∃ a b c, o = some (a, b, c) ∧ f a b c = some r := by
  obtain ⟨v, h1, h2⟩ := el_b h
  exact ⟨v.1, v.2.1, v.2.2, h1, h2⟩
theorem el_b4 {α β γ δ ε : Type} {o : Option (α × β × γ × δ)} {f : α → β → γ → δ → Option ε} {r : ε} (h : ob4 o f = some r) : ∃ a b c d, o = some (a, b, c, d) ∧ f a b c d = some r := by
  obtain ⟨v, h1, h2⟩ := el_b h
  exact ⟨v.1, v.2.1, v.2.2.1, v.2.2.2, h1, h2⟩
theorem el_ald {β : Type} {n : Nat} {g : Nat → Int32} {i : Int32} {f : Int32 → Option β} {r : β} (h : (ald n g i).bind f = some r) : vp_in i n ∧ ∃ v, v = g i.toNatClampNeg ∧ f v = some r := by
  unfold ald at h
  split at h
  · cases h
  · next q => exact ⟨q, _, rfl, h⟩
theorem el_ast {β : Type} {n : Nat} {S : St} {k : Nat} {i v : Int32} {f : St → Option β} {r : β} (h : (ast n S k i v).bind f = some r) : vp_in i n ∧ ∃ S', S' = st_i S k i.toNatClampNeg v ∧ f S' = some r := by
  unfold ast at h
  split at h
  · cases h
  · next q => exact ⟨q, _, rfl, h⟩
theorem el_nz {α : Type} {y : Int32} {o : Option α} {r : α} (h : nz y o = some r) : ¬ y = 0 ∧ o = some r := by
  unfold nz at h
  split at h
  · cases h
  · next q => exact ⟨q, h⟩
theorem el_zb {α : Type} {v : Int32} {o : Option α} {r : α} (h : zb v o = some r) : (v = 0 ∨ v = 1) ∧ o = some r := by
  unfold zb at h
  split at h
  · next q => exact ⟨q, h⟩
  · cases h
