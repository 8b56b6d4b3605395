/-! a point by its number -/
theorem pt_off : ∀ p, p < 6 → (vp_in (nI p - nI p / 2 * 2) 2 ∧ vp_in (nI p / 2) 3 ∧ (nI p - nI p / 2 * 2).toNatClampNeg = p % 2 ∧ (nI p / 2).toNatClampNeg = p / 2) := by
  unfold vp_in
  decide
theorem pt_yes {S : fw_S} {p : Nat} {post : fw_S → Nat → Prop} {px : Nat → fw_S → Prop} (hp : p ≤ 5) : wp_Out_pointAt S 0 (nI p) post px = post S (pO p) := by
  obtain ⟨h1, h2, h3, h4⟩ := pt_off p (by omega)
  have f1 : ¬ nI p < 0 := nI_pos (by omega)
  have f2 : nI p < 6 := nI_lt (b := 6) (by omega) (by omega)
  have e : 0 + 1 + (18 + 95 * (p % 2)) + 1 + (1 + 31 * (p / 2)) = pO p := by unfold pO; omega
  simp only [wp_Out_pointAt, wp_Out_checkIndex, f1, f2, h1, h2, h3, h4, e, false_implies, true_implies, true_and, and_true, not_true, not_false_eq_true]
theorem pt_lo {S : fw_S} {a : Int32} {post : fw_S → Nat → Prop} {px : Nat → fw_S → Prop} (h : a < 0) : wp_Out_pointAt S 0 a post px = px 1 S := by
  simp only [wp_Out_pointAt, wp_Out_checkIndex, wp_Out_checkIndex_9, h, false_implies, true_implies, true_and, and_true, not_true, not_false_eq_true]
theorem pt_hi {S : fw_S} {a : Int32} {post : fw_S → Nat → Prop} {px : Nat → fw_S → Prop} (h : ¬ a < 0) (h2 : ¬ a < 6) : wp_Out_pointAt S 0 a post px = px 1 S := by
  simp only [wp_Out_pointAt, wp_Out_checkIndex, wp_Out_checkIndex_9, h, h2, false_implies, true_implies, true_and, and_true, not_true, not_false_eq_true]
theorem np_yes {S : fw_S} {p : Nat} {post : fw_S → Int32 → Prop} (hp : p ≤ 5) : wp_M_noPoint S 209 (nI p) post = post (fw_si (fw_si S 209 0 0) 209 39 0) 0 := by
  have f1 : ¬ nI p < 0 := nI_pos (by omega)
  have f2 : ¬ 5 < nI p := nI_nlt (a := 5) (b := p) (by omega) (by omega)
  simp [wp_M_noPoint, wp_M_noPoint_15, wp_M_noPoint_35, wp_M_isIn, wp_M_isIn_14, wp_M_isIn_15, fw_bz, gi_i, f1, f2]
theorem np_lo {S : fw_S} {a : Int32} {post : fw_S → Int32 → Prop} (h : a < 0) : wp_M_noPoint S 209 a post = post (fw_si (fw_si S 209 0 1) 209 39 0) 1 := by
  simp [wp_M_noPoint, wp_M_noPoint_15, wp_M_noPoint_35, wp_M_isIn, wp_M_isIn_14, wp_M_isIn_15, fw_bz, gi_i, h]
theorem np_hi {S : fw_S} {a : Int32} {post : fw_S → Int32 → Prop} (h : ¬ a < 0) (h2 : 5 < a) : wp_M_noPoint S 209 a post = post (fw_si (fw_si S 209 0 1) 209 39 0) 1 := by
  simp [wp_M_noPoint, wp_M_noPoint_15, wp_M_noPoint_35, wp_M_isIn, wp_M_isIn_14, wp_M_isIn_15, fw_bz, gi_i, h, h2]
theorem z0 : (0 : Int32).toNatClampNeg = 0 := by decide
theorem z1 : vp_in 0 1 := by unfold vp_in; decide
theorem lgs (x : Int64) : lg_cmp x x = 0 := by unfold lg_cmp; simp
