/-! ===== every answer agrees ===== -/
theorem simAll : SimAll PP := ⟨s_carve, s_carved, s_set, s_count, s_feed, s_text, s_force, s_asks, s_work, s_forget, s_workTold, s_hull, s_state, s_days, s_fewest, s_crack, s_far, s_odds, s_stop, s_wished, s_old, s_copyOf, s_even, s_hours, s_left, s_judge, s_floats, s_bears, s_bar, s_tree, s_bore, s_worth, s_which, s_boring, s_hole, s_fell, s_forest, s_dries, s_shade, s_drawn, s_image, s_back, s_sheet, s_cell, s_copy, s_worksBy, s_taken⟩
theorem PP_ge : ∀ x y, PP x y → 27 ≤ gn x := fun _ _ h => h.1.1
