theorem cell0 : ∀ p, p < 6 → (vp_in (6 * (24 * nI p)) 864 ∧ (6 * (24 * nI p)).toNatClampNeg = 144 * p ∧ vp_in (6 * (24 * nI p + 0)) 864 ∧ (6 * (24 * nI p + 0)).toNatClampNeg = 144 * p) := by
  unfold vp_in
  decide
/-- what 'about' asks of a point -/
theorem RV.abt {S : fw_S} {t n p : Nat} (h : RV (vw p S) t n) : ∃ z s, z ≤ 23 ∧ s ≤ n ∧ S.1 (pO p + 2) 3 = nI z ∧ S.1 221 p = nI z ∧ S.1 (pO p) 6 = nI s ∧ S.1 218 p = nI s ∧ (s = 0 → S.1 (pO p) 7 = -1) ∧ (s ≠ 0 → S.1 220 p = S.1 (pO p) 7) ∧ (0 < z → S.1 225 (144 * p) = S.1 (pO p + 2) 2 - nI z) := by
  obtain ⟨w, s, ls, z, h0, u, g, hm, hc, hq, h2⟩ := h
  obtain ⟨m1, m2, m3, ⟨m4, m5, m6, m7, m8, m9⟩, m10, m11⟩ := hm
  obtain ⟨⟨q1, q2, q3, q4⟩, q5, q6, q7, q8, q9, q10⟩ := hq
  refine ⟨z, s, q3, by omega, q1, q2, m5, m4, m10, fun e => (m11 e).1, fun e => ?_⟩
  have := (q10 0 e).1
  rw [show nI 0 = 0 from nI_0, Int32.add_zero] at this
  exact this
set_option maxHeartbeats 2000000 in
theorem op_about {L i n : Nat} {xs : Nat → Int32} {k : fw_S → Int32 → Prop} {S : fw_S} (hx : LX L i) (hn : n < 512) (hR : RR n S) (hk : ∀ S', RR (n + 1) S' → k S' (nI (i + 5))) : wp_Law_law_1211 L xs k S (nI i) := by
  have hx1 := hx.1
  have hx2 := hx.2
  have v0 : (nI i).toNatClampNeg ≤ 2560 := by rw [nI_clamp (by omega)]; omega
  have v1 : vp_in (nI i + 1) L := lx_in (c := 1) hx (by omega)
  have v2 : vp_in (nI i + 2) L := lx_in (c := 2) hx (by omega)
  unfold wp_Law_law_1211
  generalize xs (nI i + 1).toNatClampNeg = a
  generalize xs (nI i + 2).toNatClampNeg = b
  simp only [v0, v1, v2, true_and]
  rcases ixc a 5 (M := 6) (H := 5) (by omega) rfl rfl with ⟨ja, ha, rfl, a1, a2, a3, a4, a5⟩ | a1 | ⟨a1, a2, a3⟩
  · rcases nmc b 0 5 (A := 0) (B := 5) (by omega) (by omega) rfl rfl with ⟨jb, lb, hb, rfl, b1, b2, b3⟩ | b1 | ⟨b1, b2, b3⟩
    · obtain ⟨t, hv⟩ := hR.rv ha
      obtain ⟨z, s, hz, hs, e1, e2, e3, e4, e5, e6, e7⟩ := hv.abt
      have e8 := hv.uw
      obtain ⟨e9, e10⟩ := hv.here
      obtain ⟨e11, e12⟩ := hv.full
      have hp : ja < 6 := by omega
      have hpo := pO_lt hp
      obtain ⟨c1, c2, c3, c4⟩ := cell0 ja hp
      have k0 : nI 0 = 0 := rfl
      have k1 : nI 1 = 1 := rfl
      have k2 : nI 2 = 2 := rfl
      have k3 : nI 3 = 3 := rfl
      have k4 : nI 4 = 4 := rfl
      have k5 : nI 5 = 5 := rfl
      have hn2 : n < 2 ^ 31 := by omega
      rcases (show jb = 0 ∨ jb = 1 ∨ jb = 2 ∨ jb = 3 ∨ jb = 4 ∨ jb = 5 by omega) with rfl | rfl | rfl | rfl | rfl | rfl
      · simp [gi_i, gl_i, gl_l, gi_l, z0, z1, lgs, v0, wp_Law_law_1276, wp_Law_about, wp_Out_about, wp_Queue_firstNumber, wp_Queue_firstNumber_20, wp_Car_presence, wp_Car_presence_21, wp_Out_checkNumber, wp_Out_checkNumber_10, wp_M_about, wp_M_about_28, wp_M_about_64, wp_M_about_103, wp_M_about_162, wp_M_cell, wp_M_isIn, wp_M_isIn_14, wp_M_isIn_15, wp_M_thrown, fw_bz, pt_yes ha, a1, a2, a3, a4, a5, k0, e1, e2]
        exact lx_next hx (hk _ (hR.out.thrown.up hn))
      · simp [gi_i, gl_i, gl_l, gi_l, z0, z1, lgs, v0, wp_Law_law_1276, wp_Law_about, wp_Out_about, wp_Queue_firstNumber, wp_Queue_firstNumber_20, wp_Car_presence, wp_Car_presence_21, wp_Out_checkNumber, wp_Out_checkNumber_10, wp_M_about, wp_M_about_28, wp_M_about_64, wp_M_about_103, wp_M_about_162, wp_M_cell, wp_M_isIn, wp_M_isIn_14, wp_M_isIn_15, wp_M_thrown, fw_bz, pt_yes ha, a1, a2, a3, a4, a5, k1, e8]
        exact lx_next hx (hk _ (hR.out.thrown.up hn))
      · simp [gi_i, gl_i, gl_l, gi_l, z0, z1, lgs, v0, wp_Law_law_1276, wp_Law_about, wp_Out_about, wp_Queue_firstNumber, wp_Queue_firstNumber_20, wp_Car_presence, wp_Car_presence_21, wp_Out_checkNumber, wp_Out_checkNumber_10, wp_M_about, wp_M_about_28, wp_M_about_64, wp_M_about_103, wp_M_about_162, wp_M_cell, wp_M_isIn, wp_M_isIn_14, wp_M_isIn_15, wp_M_thrown, fw_bz, pt_yes ha, a1, a2, a3, a4, a5, k2, e3, e4]
        exact lx_next hx (hk _ (hR.out.thrown.up hn))
      · by_cases s0 : s = 0
        · have x1 := e5 s0
          subst s0
          simp [gi_i, gl_i, gl_l, gi_l, z0, z1, lgs, v0, wp_Law_law_1276, wp_Law_about, wp_Out_about, wp_Queue_firstNumber, wp_Queue_firstNumber_20, wp_Car_presence, wp_Car_presence_21, wp_Out_checkNumber, wp_Out_checkNumber_10, wp_M_about, wp_M_about_28, wp_M_about_64, wp_M_about_103, wp_M_about_162, wp_M_cell, wp_M_isIn, wp_M_isIn_14, wp_M_isIn_15, wp_M_thrown, fw_bz, pt_yes ha, a1, a2, a3, a4, a5, k3, k0, e4, x1]
          exact lx_next hx (hk _ (hR.out.thrown.up hn))
        · have x1 := e6 s0
          have x2 : ¬ nI s ≤ 0 := nI_nle (by omega) (by omega)
          have x3 : 0 < nI s := nI_lt (a := 0) (by omega) (by omega)
          simp [gi_i, gl_i, gl_l, gi_l, z0, z1, lgs, v0, wp_Law_law_1276, wp_Law_about, wp_Out_about, wp_Queue_firstNumber, wp_Queue_firstNumber_20, wp_Car_presence, wp_Car_presence_21, wp_Out_checkNumber, wp_Out_checkNumber_10, wp_M_about, wp_M_about_28, wp_M_about_64, wp_M_about_103, wp_M_about_162, wp_M_cell, wp_M_isIn, wp_M_isIn_14, wp_M_isIn_15, wp_M_thrown, fw_bz, pt_yes ha, a1, a2, a3, a4, a5, k3, e4, x1, x2, x3]
          exact lx_next hx (hk _ (hR.out.thrown.up hn))
      · rcases e10 with e10 | e10
        · simp [gi_i, gl_i, gl_l, gi_l, z0, z1, lgs, v0, wp_Law_law_1276, wp_Law_about, wp_Out_about, wp_Queue_firstNumber, wp_Queue_firstNumber_20, wp_Car_presence, wp_Car_presence_21, wp_Out_checkNumber, wp_Out_checkNumber_10, wp_M_about, wp_M_about_28, wp_M_about_64, wp_M_about_103, wp_M_about_162, wp_M_cell, wp_M_isIn, wp_M_isIn_14, wp_M_isIn_15, wp_M_thrown, fw_bz, pt_yes ha, a1, a2, a3, a4, a5, k4, e9, e10]
          exact lx_next hx (hk _ (hR.out.thrown.up hn))
        · have x1 := e12 e10
          rcases e11 with e11 | e11
          all_goals simp [gi_i, gl_i, gl_l, gi_l, z0, z1, lgs, v0, wp_Law_law_1276, wp_Law_about, wp_Out_about, wp_Queue_firstNumber, wp_Queue_firstNumber_20, wp_Car_presence, wp_Car_presence_21, wp_Out_checkNumber, wp_Out_checkNumber_10, wp_M_about, wp_M_about_28, wp_M_about_64, wp_M_about_103, wp_M_about_162, wp_M_cell, wp_M_isIn, wp_M_isIn_14, wp_M_isIn_15, wp_M_thrown, fw_bz, pt_yes ha, a1, a2, a3, a4, a5, k4, e9, e10, e11, x1]
          all_goals exact lx_next hx (hk _ (hR.out.thrown.up hn))
      · by_cases s0 : z = 0
        · subst s0
          simp [gi_i, gl_i, gl_l, gi_l, z0, z1, lgs, v0, wp_Law_law_1276, wp_Law_about, wp_Out_about, wp_Queue_firstNumber, wp_Queue_firstNumber_20, wp_Car_presence, wp_Car_presence_21, wp_Out_checkNumber, wp_Out_checkNumber_10, wp_M_about, wp_M_about_28, wp_M_about_64, wp_M_about_103, wp_M_about_162, wp_M_cell, wp_M_isIn, wp_M_isIn_14, wp_M_isIn_15, wp_M_thrown, fw_bz, pt_yes ha, a1, a2, a3, a4, a5, k5, k0, e1, e2]
          exact lx_next hx (hk _ (hR.out.thrown.up hn))
        · have x1 := e7 (by omega)
          have x2 : ¬ nI z ≤ 0 := nI_nle (by omega) (by omega)
          have x3 : ¬ nI z = 0 := nI_ne0 (by omega) (by omega)
          have x4 : 0 < nI z := nI_lt (a := 0) (by omega) (by omega)
          simp [gi_i, gl_i, gl_l, gi_l, z0, z1, lgs, v0, wp_Law_law_1276, wp_Law_about, wp_Out_about, wp_Queue_firstNumber, wp_Queue_firstNumber_20, wp_Car_presence, wp_Car_presence_21, wp_Out_checkNumber, wp_Out_checkNumber_10, wp_M_about, wp_M_about_28, wp_M_about_64, wp_M_about_103, wp_M_about_162, wp_M_cell, wp_M_isIn, wp_M_isIn_14, wp_M_isIn_15, wp_M_thrown, fw_bz, pt_yes ha, a1, a2, a3, a4, a5, k5, e1, e2, x1, x2, x3, x4, c1, c2, c3, c4]
          exact lx_next hx (hk _ (hR.out.thrown.up hn))
    · simp [gi_i, gl_i, gl_l, gi_l, z0, z1, lgs, v0, wp_Law_law_1276, wp_Law_about, wp_Out_about, wp_Queue_firstNumber, wp_Queue_firstNumber_20, wp_Car_presence, wp_Car_presence_21, wp_Out_checkNumber, wp_Out_checkNumber_10, wp_M_about, wp_M_about_28, wp_M_about_64, wp_M_about_103, wp_M_about_162, wp_M_cell, wp_M_isIn, wp_M_isIn_14, wp_M_isIn_15, wp_M_thrown, fw_bz, pt_yes ha, a1, a2, a3, a4, a5, b1]
      exact lx_next hx (hk _ (hR.thrown.up hn))
    · simp [gi_i, gl_i, gl_l, gi_l, z0, z1, lgs, v0, wp_Law_law_1276, wp_Law_about, wp_Out_about, wp_Queue_firstNumber, wp_Queue_firstNumber_20, wp_Car_presence, wp_Car_presence_21, wp_Out_checkNumber, wp_Out_checkNumber_10, wp_M_about, wp_M_about_28, wp_M_about_64, wp_M_about_103, wp_M_about_162, wp_M_cell, wp_M_isIn, wp_M_isIn_14, wp_M_isIn_15, wp_M_thrown, fw_bz, pt_yes ha, a1, a2, a3, a4, a5, b1, b2, b3]
      exact lx_next hx (hk _ (hR.thrown.up hn))
  · simp [gi_i, gl_i, gl_l, gi_l, z0, z1, lgs, v0, wp_Law_law_1276, wp_Law_about, wp_Out_about, wp_Queue_firstNumber, wp_Queue_firstNumber_20, wp_Car_presence, wp_Car_presence_21, wp_Out_checkNumber, wp_Out_checkNumber_10, wp_M_about, wp_M_about_28, wp_M_about_64, wp_M_about_103, wp_M_about_162, wp_M_cell, wp_M_isIn, wp_M_isIn_14, wp_M_isIn_15, wp_M_thrown, fw_bz, pt_lo a1, a1]
    exact lx_next hx (hk _ (hR.thrown.up hn))
  · simp [gi_i, gl_i, gl_l, gi_l, z0, z1, lgs, v0, wp_Law_law_1276, wp_Law_about, wp_Out_about, wp_Queue_firstNumber, wp_Queue_firstNumber_20, wp_Car_presence, wp_Car_presence_21, wp_Out_checkNumber, wp_Out_checkNumber_10, wp_M_about, wp_M_about_28, wp_M_about_64, wp_M_about_103, wp_M_about_162, wp_M_cell, wp_M_isIn, wp_M_isIn_14, wp_M_isIn_15, wp_M_thrown, fw_bz, pt_hi a1 a2, a1, a3]
    exact lx_next hx (hk _ (hR.thrown.up hn))
