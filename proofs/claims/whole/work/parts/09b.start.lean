/-! ===== the start, worked out ===== -/
set_option maxRecDepth 1000000 in
theorem init_ok : ((f_X10_init_149 x0c).elim false fun R => (f_X11_init_328 y0m).elim false fun R' => P0b (x27 R) R' && decide (gn R = 0)) = true := by decide +kernel
theorem init_PP : ∃ R R', f_X10_init_149 x0c = some R ∧ f_X11_init_328 y0m = some R' ∧ gn R = 0 ∧ PP (x27 R) R' := by
  have h := init_ok
  cases hR : f_X10_init_149 x0c with
  | none => rw [hR] at h; cases h
  | some R =>
    cases hR' : f_X11_init_328 y0m with
    | none => rw [hR, hR'] at h; cases h
    | some R' =>
      rw [hR, hR'] at h
      have h : (P0b (x27 R) R' && decide (gn R = 0)) = true := h
      rw [Bool.and_eq_true] at h
      exact ⟨R, R', rfl, rfl, of_decide_eq_true h.2, PP_0 h.1 (Nat.le_refl 27)⟩
