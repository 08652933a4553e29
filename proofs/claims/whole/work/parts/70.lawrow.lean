/-! THE CLAIM OUT OF ONE WALK OF THE LAW'S BODY. Your part is whole_start (and what it stands on); all else here is the same for every law, but numbers. -/
def R_law : String := "RiverTollsLaw"
def lw_P (b : Addr) (xs : List Int32) (args : Array Value) (s : State) : Prop := args = #[.ref b] ∧ s.IntsAt b xs ∧ xs.length ≤ 192 ∧ (Jvm.Cond.and given_1 narrow_1).before args s = true
def lw_Q (_ : Array Value) (s : State) (o : Outcome) (t : State) : Prop := o = .returned (some (.int 1)) ∧ Framed s o t [] 600000 7302250
def lw_Z (below : List Frame) (a : Array Value) (s : State) : State → Prop := fun t => ∃ o, t.status = .running ∧ Ended t below o ∧ lw_Q a s o t
/-- the law's own end, with 1 on the stack, nothing written that was there before, its room as the claim has it -/
theorem lw_ret {p : Program} {l : Launch} {e : Env} {s : State} {m : MethodId} {below : List Frame} {meth : Method} {c : Code} {b : Nat} (hx : p.tables.exec = Jvm.exec) (hb : c.code = code) (hr : meth.sig.returnType = ret) (hlocks : meth.locks = false) {pc : Nat} {H : Heap} {ls : Array Slot} (hdg : decode code pc = .ok (.ireturn, 1)) : W p l e room_1 s m #[Value.ref b] below meth c H [] 600000 7302250 (lw_Z below #[Value.ref b] s) (F0 m pc ls [.int 1]) := by
  intro T hT X
  obtain ⟨fs, hret, hrun, hended, hW, hframe⟩ := X.leave (v := some (.int 1)) (hlocks := hlocks) (fun h => by rw [hr] at h; cases h)
  have hmeth' : T.vm.method? m = some meth := X.method'
  refine ⟨T.setFrames fs, ?_, .returned (some (.int 1)), hrun, hended, rfl, ⟨_, rfl⟩, hW, hframe⟩
  jvm_step X.here [X.here.top, hx, hb, hdg, hmeth', hr, ret, narrow_b1]
  (try refine ⟨rfl, ?_⟩); (try refine ⟨rfl, ?_⟩)
  first | (intro acts; rw [hret _ acts rfl rfl rfl]) | rw [hret _ _ rfl rfl rfl]
  exact Steps.refl _
/-- what holds at the law's entry: the machine, the code, the tables' words (any of lw_tbl by 'hts w (by decide +kernel)'), the script of L ints xs at the cell b, what the Statement gives of the start (any of its parts by flat_of_before) -/
def lw_At (p : Program) (s : State) (m : MethodId) (meth : Method) (c : Code) (b L : Nat) (xs : Nat → Int32) : Prop :=
  p.tables.exec = Jvm.exec ∧ c.code = code ∧ meth.sig.returnType = ret ∧ c.maxLocals = 4 ∧ s.vm.findClass R_law = some m.cls ∧ (∀ w ∈ lw_tbl, w.before #[Value.ref b] s = true) ∧ va_X b L xs s s.heap ∧ b < s.heap.size ∧ meth.locks = false ∧ (Jvm.Cond.and given_1 narrow_1).before #[Value.ref b] s = true
abbrev LX8 (p : Program) (s : State) (m : MethodId) (meth : Method) (c : Code) (D : va_G) (b : Nat) (cI cB : ClassId) (tA tB : Nat) : Prop := CX p s m #[Value.ref b] meth c D (fun q : Nat => s.heap.size ≤ q) cI cB (.object "RiverTolls$Boat") tA tB cL_law 4 wsL_law RL ret
abbrev LX9 (p : Program) (s : State) (m : MethodId) (meth : Method) (c : Code) (D : va_G) (b : Nat) (cI cz : ClassId) (tA tB : Nat) : Prop := CX p s m #[Value.ref b] meth c D (fun q : Nat => s.heap.size ≤ q) cI cz .boolean tA tB cL_law 4 wsL_law RL ret
def LXs (b L : Nat) (xs : Nat → Int32) (s : State) : Prop := va_X b L xs s s.heap ∧ b < s.heap.size
abbrev LWP (p : Program) (l : Launch) (e : Env) (s : State) (m : MethodId) (below : List Frame) (meth : Method) (c : Code) (b : Nat) (D : va_G) (cI cB cz : ClassId) (adX adM : Nat → Nat) (S T : St) (lv : List (Nat × Value)) (pc : Nat) (st : List Value) : Prop :=
  PW p l e room_1 s m #[Value.ref b] below meth c (lw_Z below #[Value.ref b] s) D (fun q : Nat => s.heap.size ≤ q) cI cB (p_w KM adM cI cz T) KX adX 4 600000 7302250 S lv pc st
theorem lx_sw {a b : va_W} {k : Nat} {q : Nat × va_E} (h : (a ++ b)[k]? = some q) : ∃ j : Nat, (b ++ a)[j]? = some q := by
  have h1 := List.mem_of_getElem? h
  rw [List.mem_append] at h1
  exact List.getElem?_of_mem (List.mem_append.mpr h1.symm)
theorem lx_Psw {D : va_G} {cl : List vw_C} {a b : va_W} {H : Heap} (h : va_P D cl (a ++ b) H) : va_P D cl (b ++ a) H := fun k q hk => by
  obtain ⟨j, hj⟩ := lx_sw hk
  exact h j q hj
theorem lx_Dsw {A : Nat → Prop} {a b : va_W} (h : va_D A (a ++ b)) : va_D A (b ++ a) := by
  have hb : ∀ (i : Nat) (p : Nat × va_E), b[i]? = some p → (a ++ b)[a.length + i]? = some p := fun i p hi => by
    rw [List.getElem?_append_right (by omega), Nat.add_sub_cancel_left]
    exact hi
  have ha : ∀ (i : Nat) (p : Nat × va_E), a[i]? = some p → (a ++ b)[i]? = some p := fun i p hi => by
    rw [List.getElem?_append_left (List.getElem?_eq_some_iff.mp hi).1]
    exact hi
  refine va_D.app ⟨fun i j p q hi hj e => ?_, fun k q hk => h.2 _ q (hb k q hk)⟩ ⟨fun i j p q hi hj e => h.1 i j p q (ha i p hi) (ha j q hj) e, fun k q hk => h.2 _ q (ha k q hk)⟩ (fun i j p q hi hj e => ?_)
  · have := h.1 _ _ p q (hb i p hi) (hb j q hj) e
    omega
  · have h1 := h.1 _ _ p q (hb i p hi) (ha j q hj) e
    have h2 := (List.getElem?_eq_some_iff.mp hj).1
    omega
theorem lg_cmp_self (r : Int64) : lg_cmp r r = 0 := by simp [lg_cmp]
theorem and31 (x : Int32) : ∃ k : Nat, k < 32 ∧ x &&& 31 = nI k := by
  refine ⟨(x &&& 31).toBitVec.toNat, ?_, Int32.toBitVec_inj.mp ?_⟩
  · have e : (x &&& 31).toBitVec = x.toBitVec &&& 31#32 := rfl
    rw [e, BitVec.toNat_and]
    exact Nat.lt_of_le_of_lt Nat.and_le_right (by decide)
  · show _ = BitVec.ofNat 32 _
    rw [BitVec.ofNat_toNat, BitVec.setWidth_eq]
theorem lx_bound {L i : Nat} (hL : L ≤ 192) (h : i ≤ L) (c : ¬ Int32.ofNat L - 3 < nI i) : i + 3 ≤ L := by
  rcases Nat.lt_or_ge L 3 with q | q
  · exfalso
    rcases (show L = 0 ∨ L = 1 ∨ L = 2 by omega) with rfl | rfl | rfl
    · rcases (show i = 0 by omega) with rfl
      exact c (by decide)
    · rcases (show i = 0 ∨ i = 1 by omega) with rfl | rfl <;> exact c (by decide)
    · rcases (show i = 0 ∨ i = 1 ∨ i = 2 by omega) with rfl | rfl | rfl <;> exact c (by decide)
  · obtain ⟨k, rfl⟩ : ∃ k : Nat, L = k + 3 := ⟨L - 3, by omega⟩
    have e : Int32.ofNat (k + 3) - 3 = nI k := by
      show nI (k + 3) - 3 = nI k
      rw [← nI_add k 3]
      exact Int32.add_sub_cancel (nI k) 3
    rw [e] at c
    rcases Nat.lt_or_ge k i with z | z
    · exact absurd (nI_lt z (by omega)) c
    · omega
section LWR
variable {p : Program} {l : Launch} {e : Env} {R : Room} {s : State} {m : MethodId} {args : Array Value} {below : List Frame} {meth : Method} {c : Code} {Q : State → Prop} {D : va_G} {A : Nat → Prop} {cI c1 : ClassId} {t1 : FieldType} {tA tB : Nat} {F : va_W} {K : List Kd} {ad : Nat → Nat} {nL : Nat} {kc ks : Nat} {S : St} {lv : List (Nat × Value)} {pc : Nat} {st : List Value} {cc : ByteArray} {Ts : List Cond} {own : String} {rt : Option FieldType}
theorem lx_sld (C : CX p s m args meth c D A cI c1 t1 tA tB cc nL Ts own rt) {b L : Nat} {xs : Nat → Int32} (hX : va_X b L xs s s.heap) (hbl : b < s.heap.size) (hbA : ¬ A b) {i : Int32} (hin : vp_in i L) (hdg : decode cc pc = .ok (.iaload, 1))
    (k : PW p l e R s m args below meth c Q D A cI c1 F K ad nL kc ks S lv (pc + 1) (.int (xs i.toNatClampNeg) :: st)) : PW p l e R s m args below meth c Q D A cI c1 F K ad nL kc ks S lv pc (.int i :: .ref b :: st) := fun H locs ls hP hD hS hl => va_sld C.1 C.2.1 hX hbl hbA hS hin hdg (k H locs ls hP hD hS hl)
theorem lx_slen (C : CX p s m args meth c D A cI c1 t1 tA tB cc nL Ts own rt) {b L : Nat} {xs : Nat → Int32} (hX : va_X b L xs s s.heap) (hbl : b < s.heap.size) (hbA : ¬ A b) (hdg : decode cc pc = .ok (.arraylength, 1))
    (k : PW p l e R s m args below meth c Q D A cI c1 F K ad nL kc ks S lv (pc + 1) (.int (Int32.ofNat L) :: st)) : PW p l e R s m args below meth c Q D A cI c1 F K ad nL kc ks S lv pc (.ref b :: st) := fun H locs ls hP hD hS hl => va_slen C.1 C.2.1 hX hbl hbA hS hdg (k H locs ls hP hD hS hl)
theorem px_lcmp (C : CX p s m args meth c D A cI c1 t1 tA tB cc nL Ts own rt) {x y : Int64} (hdg : decode cc pc = .ok (.lcmp, 1))
    (k : PW p l e R s m args below meth c Q D A cI c1 F K ad nL kc ks S lv (pc + 1) (.int (lg_cmp x y) :: st)) : PW p l e R s m args below meth c Q D A cI c1 F K ad nL kc ks S lv pc (.long y :: .long x :: st) := fun H locs ls hP hD hS hl => W.lcmp C.1 C.2.1 hdg (k H locs ls hP hD hS hl)
theorem pw_widen {k2 n2 : Nat} (h1 : kc ≤ k2) (h2 : ks ≤ n2) (k : PW p l e R s m args below meth c Q D A cI c1 F K ad nL k2 n2 S lv pc st) : PW p l e R s m args below meth c Q D A cI c1 F K ad nL kc ks S lv pc st := fun H locs ls hP hD hS hl => W.widen h1 h2 (k H locs ls hP hD hS hl)
theorem pw_swap {K2 : List Kd} {ad2 : Nat → Nat} {c2 : ClassId} {T : St} (k : PW p l e R s m args below meth c Q D A cI c2 (p_w K ad cI c1 S) K2 ad2 nL kc ks T lv pc st) : PW p l e R s m args below meth c Q D A cI c1 (p_w K2 ad2 cI c2 T) K ad nL kc ks S lv pc st := fun H locs ls hP hD hS hl => k H locs ls (lx_Psw hP) (lx_Dsw hD) hS hl
theorem lx_arg (C : CX p s m args meth c D (fun q : Nat => s.heap.size ≤ q) cI c1 t1 tA tB cc nL Ts own rt) {b L : Nat} {xs : Nat → Int32} (X : LXs b L xs s) (hL : L ≤ 192) {i j : Nat} {n : Int} (hv : Int32.ofInt n = nI j) (hij : i + j < L) (q0 : lv[0]? = some (0, .ref b)) (q3 : lv[3]? = some (3, .int (nI i)))
    (d0 : decode cc pc = .ok (.aload_n 0, 1)) (d1 : decode cc (pc + 1) = .ok (.iload_n 3, 1)) (d2 : decode cc (pc + 1 + 1) = .ok (.iconst n, 1)) (d3 : decode cc (pc + 1 + 1 + 1) = .ok (.iadd, 1)) (d4 : decode cc (pc + 1 + 1 + 1 + 1) = .ok (.iaload, 1))
    (kk : PW p l e R s m args below meth c Q D (fun q : Nat => s.heap.size ≤ q) cI c1 F K ad nL kc ks S lv (pc + 1 + 1 + 1 + 1 + 1) (.int (xs (i + j)) :: st)) : PW p l e R s m args below meth c Q D (fun q : Nat => s.heap.size ≤ q) cI c1 F K ad nL kc ks S lv pc st := by
  refine px_aload_n C 0 d0 rfl q0 ?_
  refine px_iload_n C 3 d1 rfl q3 ?_
  refine px_iconst C d2 hv ?_
  refine px_iadd C d3 ?_
  refine px_nm (nI_add i j).symm ?_
  refine lx_sld C X.1 X.2 (Nat.not_le.mpr X.2) (nI_in hij (by omega)) d4 ?_
  rw [nI_clamp (by omega)]
  exact kk
end LWR
theorem lx_ret {p : Program} {l : Launch} {e : Env} {s : State} {m : MethodId} {below : List Frame} {meth : Method} {c : Code} {b : Nat} {D : va_G} {cI cB cz : ClassId} {tA tB : Nat} {adX adM : Nat → Nat} (C8 : LX8 p s m meth c D b cI cB tA tB) {S T : St} {lv : List (Nat × Value)} {pc : Nat} (hdg : decode code pc = .ok (.ireturn, 1)) : LWP p l e s m below meth c b D cI cB cz adX adM S T lv pc [.int 1] := fun _ _ _ _ _ hS _ =>
  va_forget hS.2.2 (lw_ret C8.1 C8.2.1 C8.2.2.2.2.2.2.1 C8.2.2.2.2.2.2.2.1 hdg)
