/-! both objects fresh: they are related -/
def T0 : St := (fun k => match k with
  | 8 => upd (upd (fun _ => 0) 1 10) 2 100
  | _ => (fun _ => 0), fun _ _ => 0)
set_option maxRecDepth 100000 in
theorem pw_KM (h0 : Nat) (qs : Nat → Nat) (cI c1 : ClassId) : p_w KM (adK h0 qs) cI c1 T0 = nw_X9_init h0 cI c1 qs := by
  rw [p_wl_eq]
  rfl
theorem start_S0 : ∃ S1 : St, m_X0_start 300 S0 = some S1 ∧ Rel S1 T0 := by
  obtain ⟨S1, e, h0, h1, h2, h3, h4, h5, h9, h10, ho, hl⟩ := xStart (fu := 300) S0 (Nat.le_refl _)
  have o : ∀ a : Nat, a ≠ 8 → a ≠ 9 → a ≠ 10 → S1.1 a = S0.1 a := ho
  refine ⟨S1, e, 0, by omega, ?_, rfl, fun r hr => by omega, ⟨⟨0, by omega, h0, rfl⟩, ⟨10, by omega, h1, rfl⟩, h2, ⟨0, by omega, h3, rfl⟩, h4, ⟨0, by omega, h5, rfl⟩, fun r hr => by omega, fun k hk => ?_⟩, ⟨0, by omega, ?_, rfl, fun j hj => by omega⟩, ⟨0, 0, by omega, by omega, ?_, ?_, rfl, fun j hj => by omega⟩, fun i hi => Or.inl ⟨?_, rfl⟩, ⟨0, by omega, ?_, rfl, fun j hj => by omega⟩, ?_⟩
  · rw [o 6 (by omega) (by omega) (by omega)]; rfl
  · rw [h10 k hk]
    rcases (show k = 0 ∨ k = 1 ∨ k = 2 ∨ k = 3 by omega) with rfl | rfl | rfl | rfl <;> rfl
  · rw [o 1 (by omega) (by omega) (by omega)]; rfl
  · rw [o 11 (by omega) (by omega) (by omega)]; rfl
  · rw [o 11 (by omega) (by omega) (by omega)]; rfl
  · rw [o 50 (by omega) (by omega) (by omega)]; rfl
  · rw [o 0 (by omega) (by omega) (by omega)]; rfl
  · rw [hl]; rfl
