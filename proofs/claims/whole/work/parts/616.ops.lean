theorem min_nI {c : Nat} (h : c < 2 ^ 31) : (if 128 < nI c then (128 : Int32) else nI c) = nI (min c 128) := by
  by_cases e : 128 < c
  · rw [if_pos (show (128 : Int32) < nI c from nI_lt (a := 128) e h), Nat.min_eq_right (by omega)]
    rfl
  · rw [if_neg (show ¬ (128 : Int32) < nI c from nI_nlt (a := 128) (b := c) (by omega) (by omega)), Nat.min_eq_left (by omega)]
theorem row_nI {j b : Nat} (hj : j < 128) (hb : b ≤ 4) : nI j * 5 + nI b = nI (5 * j + b) ∧ 5 * nI j + nI b = nI (5 * j + b) ∧ vp_in (nI (5 * j + b)) 640 ∧ (nI (5 * j + b)).toNatClampNeg = 5 * j + b := by
  have e : 5 * nI j = nI (5 * j) := (Int32.ofNat_mul 5 j).symm
  refine ⟨?_, ?_, vp_in_nI (by omega) (by omega), nI_clamp (by omega)⟩
  · rw [Int32.mul_comm, e, nI_add]
  · rw [e, nI_add]
set_option maxHeartbeats 2000000 in
theorem op_bill {L i n : Nat} {xs : Nat → Int32} {k : fw_S → Int32 → Prop} {S : fw_S} (hx : LX L i) (hn : n < 512) (hR : RR n S) (hk : ∀ S', RR (n + 1) S' → k S' (nI (i + 5))) : wp_Law_law_1347 L xs k S (nI i) := by
  have hx1 := hx.1
  have hx2 := hx.2
  have v0 : (nI i).toNatClampNeg ≤ 2560 := by rw [nI_clamp (by omega)]; omega
  have v1 : vp_in (nI i + 1) L := lx_in (c := 1) hx (by omega)
  have v2 : vp_in (nI i + 2) L := lx_in (c := 2) hx (by omega)
  unfold wp_Law_law_1347
  generalize xs (nI i + 1).toNatClampNeg = a
  generalize xs (nI i + 2).toNatClampNeg = b
  simp only [v0, v1, v2, true_and]
  obtain ⟨t, hG⟩ := hR.rg
  obtain ⟨c, hc, e1, e2⟩ := hG.2.2.2.2.2.2.2
  have e3 := min_nI (c := c) (by omega)
  by_cases a1 : a < 0
  · simp [gi_i, gl_i, gl_l, gi_l, z0, z1, lgs, v0, wp_Law_law_1412, wp_Law_bill, wp_Out_bill, wp_Out_checkIndex, wp_Out_checkIndex_9, wp_Out_checkNumber, wp_Out_checkNumber_10, wp_M_bill, wp_M_bill_20, wp_M_bill_38, wp_M_bill_62, wp_M_isIn, wp_M_isIn_14, wp_M_isIn_15, wp_M_thrown, fw_bz, a1]
    exact lx_next hx (hk _ (hR.thrown.up hn))
  · obtain ⟨j, hj, rfl⟩ := nI_of a1
    by_cases hjc : j < min c 128
    · have a2 : nI j < nI (min c 128) := nI_lt hjc (by omega)
      have a3 : ¬ nI c ≤ nI j := nI_ge (by omega) (by omega)
      have a6 : nI j < nI c := nI_lt (by omega) (by omega)
      have a4 : nI j < 128 := nI_lt (b := 128) (by omega) (by omega)
      rcases nmc b 0 4 (A := 0) (B := 4) (by omega) (by omega) rfl rfl with ⟨jb, lb, hb, rfl, b1, b2, b3⟩ | b1 | ⟨b1, b2, b3⟩
      · obtain ⟨r1, r2, r3, r4⟩ := row_nI (j := j) (b := jb) (by omega) hb
        have e4 := hG.2.2.2.2.2.1 (5 * j + jb) (by omega)
        simp [gi_i, gl_i, gl_l, gi_l, z0, z1, lgs, v0, wp_Law_law_1412, wp_Law_bill, wp_Out_bill, wp_Out_checkIndex, wp_Out_checkIndex_9, wp_Out_checkNumber, wp_Out_checkNumber_10, wp_M_bill, wp_M_bill_20, wp_M_bill_38, wp_M_bill_62, wp_M_isIn, wp_M_isIn_14, wp_M_isIn_15, wp_M_thrown, fw_bz, a1, a2, a3, a4, a6, b1, b2, b3, e1, e2, e3, r1, r2, r3, r4, e4]
        exact lx_next hx (hk _ (hR.out.thrown.up hn))
      · simp [gi_i, gl_i, gl_l, gi_l, z0, z1, lgs, v0, wp_Law_law_1412, wp_Law_bill, wp_Out_bill, wp_Out_checkIndex, wp_Out_checkIndex_9, wp_Out_checkNumber, wp_Out_checkNumber_10, wp_M_bill, wp_M_bill_20, wp_M_bill_38, wp_M_bill_62, wp_M_isIn, wp_M_isIn_14, wp_M_isIn_15, wp_M_thrown, fw_bz, a1, a2, a3, a4, a6, b1, e1, e2, e3]
        exact lx_next hx (hk _ (hR.thrown.up hn))
      · simp [gi_i, gl_i, gl_l, gi_l, z0, z1, lgs, v0, wp_Law_law_1412, wp_Law_bill, wp_Out_bill, wp_Out_checkIndex, wp_Out_checkIndex_9, wp_Out_checkNumber, wp_Out_checkNumber_10, wp_M_bill, wp_M_bill_20, wp_M_bill_38, wp_M_bill_62, wp_M_isIn, wp_M_isIn_14, wp_M_isIn_15, wp_M_thrown, fw_bz, a1, a2, a3, a4, a6, b1, b2, b3, e1, e2, e3]
        exact lx_next hx (hk _ (hR.thrown.up hn))
    · have a2 : ¬ nI j < nI (min c 128) := nI_nlt (by omega) hj
      by_cases a3 : nI c ≤ nI j
      · simp [gi_i, gl_i, gl_l, gi_l, z0, z1, lgs, v0, wp_Law_law_1412, wp_Law_bill, wp_Out_bill, wp_Out_checkIndex, wp_Out_checkIndex_9, wp_Out_checkNumber, wp_Out_checkNumber_10, wp_M_bill, wp_M_bill_20, wp_M_bill_38, wp_M_bill_62, wp_M_isIn, wp_M_isIn_14, wp_M_isIn_15, wp_M_thrown, fw_bz, a1, a2, a3, e1, e2, e3]
        exact lx_next hx (hk _ (hR.thrown.up hn))
      · have a4 : ¬ nI j < 128 := nI_nlt (b := 128) (by have := mt (fun q => nI_le (a := c) (b := j) q hj) a3; omega) hj
        simp [gi_i, gl_i, gl_l, gi_l, z0, z1, lgs, v0, wp_Law_law_1412, wp_Law_bill, wp_Out_bill, wp_Out_checkIndex, wp_Out_checkIndex_9, wp_Out_checkNumber, wp_Out_checkNumber_10, wp_M_bill, wp_M_bill_20, wp_M_bill_38, wp_M_bill_62, wp_M_isIn, wp_M_isIn_14, wp_M_isIn_15, wp_M_thrown, fw_bz, a1, a2, a3, a4, e1, e2, e3]
        exact lx_next hx (hk _ (hR.thrown.up hn))
