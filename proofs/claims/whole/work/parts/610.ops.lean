/-! the calls that touch no point -/
theorem nofoot {q o k : Nat} (hq : q < 6) (h : o < 12 ∨ o = 19 ∨ o = 114 ∨ (209 ≤ o ∧ o ≤ 212) ∨ ((o = 213 ∨ o = 214) ∧ k < 16) ∨ 241 ≤ o) : ¬ foot q o k := by
  have := pO_lt hq
  have h2 : ¬ (pO q ≤ 19 ∧ 19 < pO q + 31) := by omega
  unfold foot
  omega
theorem rd1 : (1 : Int32) ≠ 0 := by decide
theorem rd2 : (2 : Int32) ≠ 0 := by decide
theorem rd12 : (1 : Int32) ≠ 2 := by decide
/-- a store into the law's, the object's or the reference's own cells that the relation doesn't read -/
theorem RR.thrown {n : Nat} {S : fw_S} {v : Int32} (h : RR n S) : RR n (fw_si S 209 0 v) := by
  obtain ⟨t, hG, hK, hV⟩ := h
  refine ⟨t, ?_, KN_eq hK (by simp [gi_i]) (fun a k ha => by unfold isC at ha; rw [gi_i, if_neg (by omega)]), fun q hq => by rw [vw_si (nofoot hq (by omega))]; exact hV q hq⟩
  unfold RG at hG ⊢
  simp only [gi_i, gi_l]
  simpa using hG
theorem RG.up {S : fw_S} {t n : Nat} (hn : n < 512) (h : RG S t n) : RG S t (n + 1) := by
  obtain ⟨⟨a, b, c, d⟩, h2, h3, h4, h5, h6, h7, e, he, h8⟩ := h
  exact ⟨⟨a, b, by omega, by omega⟩, h2, h3, h4, h5, h6, h7, e, by omega, h8⟩
theorem RR.up {n : Nat} {S : fw_S} (hn : n < 512) (h : RR n S) : RR (n + 1) S := by
  obtain ⟨t, hG, hK, hV⟩ := h
  exact ⟨t, hG.up hn, hK, fun q hq => (hV q hq).up⟩
theorem RR.unk {n : Nat} {S : fw_S} (h : RR n S) : RR n (fw_si S 209 39 0) := by
  obtain ⟨t, hG, hK, hV⟩ := h
  refine ⟨t, ?_, .inl (by simp [gi_i]), fun q hq => by rw [vw_si (nofoot hq (by omega))]; exact hV q hq⟩
  unfold RG at hG ⊢
  simp only [gi_i, gi_l]
  simpa using hG
theorem RR.out {n : Nat} {S : fw_S} {v : Int64} (h : RR n S) : RR n (fw_sl S 244 0 v) := by
  obtain ⟨t, hG, hK, hV⟩ := h
  refine ⟨t, ?_, KN_eq hK rfl (fun a k ha => rfl), fun q hq => by rw [vw_sl (nofoot hq (by omega))]; exact hV q hq⟩
  unfold RG at hG ⊢
  simp only [gl_i, gl_l]
  simpa using hG
theorem V112 (j : Nat) (h : j ≤ 15) : vp_in (nI j) 112 := vp_in_nI (by omega) (by omega)
/-- an index: it is one, or it is below, or above -/
theorem ixc (a : Int32) (N : Nat) {M H : Int32} (hN : N + 1 < 2 ^ 31) (eM : M = nI (N + 1)) (eH : H = nI N) : (∃ j, j ≤ N ∧ a = nI j ∧ ¬ nI j < 0 ∧ nI j < M ∧ ¬ H < nI j ∧ vp_in (nI j) (N + 1) ∧ (nI j).toNatClampNeg = j) ∨ a < 0 ∨ (¬ a < 0 ∧ ¬ a < M ∧ H < a) := by
  subst eM eH
  by_cases h0 : a < 0
  · exact .inr (.inl h0)
  · obtain ⟨j, hj, rfl⟩ := nI_of h0
    by_cases h1 : j ≤ N
    · exact .inl ⟨j, h1, rfl, h0, nI_lt (by omega) hN, nI_nlt h1 (by omega), vp_in_nI (by omega) hN, nI_clamp hj⟩
    · exact .inr (.inr ⟨h0, nI_nlt (by omega) hj, nI_lt (by omega) hj⟩)
/-- a number: it is in its range, or below, or above -/
theorem nmc (a : Int32) (lo hi : Nat) {A B : Int32} (hl : lo < 2 ^ 31) (hh : hi < 2 ^ 31) (eA : A = nI lo) (eB : B = nI hi) : (∃ j, lo ≤ j ∧ j ≤ hi ∧ a = nI j ∧ ¬ nI j < A ∧ nI j ≤ B ∧ ¬ B < nI j) ∨ a < A ∨ (¬ a < A ∧ ¬ a ≤ B ∧ B < a) := by
  subst eA eB
  rcases rg_cases a lo hi hl hh with ⟨j, h1, h2, rfl⟩ | h | h
  · exact .inl ⟨j, h1, h2, rfl, nI_nlt h1 (by omega), nI_le h2 hh, nI_nlt h2 hh⟩
  · exact .inr (.inl h)
  · by_cases h0 : a < nI lo
    · exact .inr (.inl h0)
    · refine .inr (.inr ⟨h0, ?_, h⟩)
      intro q
      rw [Int32.lt_iff_toInt_lt] at h
      rw [Int32.le_iff_toInt_le] at q
      omega
set_option maxHeartbeats 2000000 in
theorem op_limit {L i n : Nat} {xs : Nat → Int32} {k : fw_S → Int32 → Prop} {S : fw_S} (hx : LX L i) (hn : n < 512) (hR : RR n S) (hk : ∀ S', RR (n + 1) S' → k S' (nI (i + 5))) : wp_Law_law_144 L xs k S (nI i) := by
  have hx1 := hx.1
  have hx2 := hx.2
  have v0 : (nI i).toNatClampNeg ≤ 2560 := by rw [nI_clamp (by omega)]; omega
  have v1 : vp_in (nI i + 1) L := lx_in (c := 1) hx (by omega)
  have v2 : vp_in (nI i + 2) L := lx_in (c := 2) hx (by omega)
  unfold wp_Law_law_144
  generalize xs (nI i + 1).toNatClampNeg = a
  generalize xs (nI i + 2).toNatClampNeg = b
  simp only [v0, v1, v2, true_and]
  rcases ixc a 1 (M := 2) (H := 1) (by omega) rfl rfl with ⟨ja, ha, rfl, a1, a2, a3, a4, a5⟩ | a1 | ⟨a1, a2, a3⟩
  · skip
    rcases nmc b 0 2000 (A := 0) (B := 2000) (by omega) (by omega) rfl rfl with ⟨jb, lb, hb, rfl, b1, b2, b3⟩ | b1 | ⟨b1, b2, b3⟩
    · skip
      simp [wp_Law_limit, wp_Out_limit, wp_M_limit, wp_M_limit_30, wp_M_limit_52, wp_Out_checkIndex, wp_Out_checkIndex_9, wp_Out_checkNumber, wp_Out_checkNumber_10, wp_M_isIn, wp_M_isIn_14, wp_M_isIn_15, wp_M_thrown, fw_bz, gi_i, a1, a2, a3, a4, a5, b1, b2, b3]
      refine lx_next hx (hk _ ?_)
      obtain ⟨t, hG, hK, hV⟩ := hR
      refine ⟨t, ?_, .inl (by simp [gi_i]), fun q hq => ?_⟩
      · have hj : ja = 0 ∨ ja = 1 := by omega
        refine RG.up hn ?_
        obtain ⟨g1, g2, g3⟩ := hG
        rcases hj with rfl | rfl
        all_goals
          refine ⟨by simpa [gi_i] using g1, fun j hj => ?_, by simpa [gi_i, gi_l] using g3⟩
          have hj : j = 0 ∨ j = 1 := by omega
          have q0 := g2 0 (by omega)
          have q1 := g2 1 (by omega)
          rcases hj with rfl | rfl
          all_goals simp [gi_i] at q0 q1 ⊢
          all_goals first | exact q0 | exact q1 | exact ⟨jb, hb, rfl⟩
      · have hj : ja = 0 ∨ ja = 1 := by omega
        rcases hj with rfl | rfl
        all_goals
          rw [vw_si (nofoot hq (by omega)), vw_si (nofoot hq (by omega)), vw_si (nofoot hq (by omega)), vw_si (nofoot hq (by omega))]
          exact (hV q hq).up
    · simp [wp_Law_limit, wp_Out_limit, wp_M_limit, wp_M_limit_30, wp_M_limit_52, wp_Out_checkIndex, wp_Out_checkIndex_9, wp_Out_checkNumber, wp_Out_checkNumber_10, wp_M_isIn, wp_M_isIn_14, wp_M_isIn_15, wp_M_thrown, fw_bz, gi_i, a1, a2, a3, a4, a5, b1]
      exact lx_next hx (hk _ (hR.thrown.up hn))
    · simp [wp_Law_limit, wp_Out_limit, wp_M_limit, wp_M_limit_30, wp_M_limit_52, wp_Out_checkIndex, wp_Out_checkIndex_9, wp_Out_checkNumber, wp_Out_checkNumber_10, wp_M_isIn, wp_M_isIn_14, wp_M_isIn_15, wp_M_thrown, fw_bz, gi_i, a1, a2, a3, a4, a5, b1, b2, b3]
      exact lx_next hx (hk _ (hR.thrown.up hn))
  · simp [wp_Law_limit, wp_Out_limit, wp_M_limit, wp_M_limit_30, wp_M_limit_52, wp_Out_checkIndex, wp_Out_checkIndex_9, wp_Out_checkNumber, wp_Out_checkNumber_10, wp_M_isIn, wp_M_isIn_14, wp_M_isIn_15, wp_M_thrown, fw_bz, gi_i, a1]
    exact lx_next hx (hk _ (hR.thrown.up hn))
  · simp [wp_Law_limit, wp_Out_limit, wp_M_limit, wp_M_limit_30, wp_M_limit_52, wp_Out_checkIndex, wp_Out_checkIndex_9, wp_Out_checkNumber, wp_Out_checkNumber_10, wp_M_isIn, wp_M_isIn_14, wp_M_isIn_15, wp_M_thrown, fw_bz, gi_i, a1, a2, a3]
    exact lx_next hx (hk _ (hR.thrown.up hn))
set_option maxHeartbeats 2000000 in
theorem op_fees {L i n : Nat} {xs : Nat → Int32} {k : fw_S → Int32 → Prop} {S : fw_S} (hx : LX L i) (hn : n < 512) (hR : RR n S) (hk : ∀ S', RR (n + 1) S' → k S' (nI (i + 5))) : wp_Law_law_252 L xs k S (nI i) := by
  have hx1 := hx.1
  have hx2 := hx.2
  have v0 : (nI i).toNatClampNeg ≤ 2560 := by rw [nI_clamp (by omega)]; omega
  have v1 : vp_in (nI i + 1) L := lx_in (c := 1) hx (by omega)
  have v2 : vp_in (nI i + 2) L := lx_in (c := 2) hx (by omega)
  unfold wp_Law_law_252
  generalize xs (nI i + 1).toNatClampNeg = a
  generalize xs (nI i + 2).toNatClampNeg = b
  simp only [v0, v1, v2, true_and]
  rcases nmc a 0 1000000 (A := 0) (B := 1000000) (by omega) (by omega) rfl rfl with ⟨ja, la, ha, rfl, a1, a2, a3⟩ | a1 | ⟨a1, a2, a3⟩
  · skip
    rcases nmc b 0 1000000 (A := 0) (B := 1000000) (by omega) (by omega) rfl rfl with ⟨jb, lb, hb, rfl, b1, b2, b3⟩ | b1 | ⟨b1, b2, b3⟩
    · skip
      simp [wp_Law_fees, wp_Out_fees, wp_M_fees, wp_M_fees_25, wp_M_fees_26, wp_M_fees_46, wp_Out_checkIndex, wp_Out_checkIndex_9, wp_Out_checkNumber, wp_Out_checkNumber_10, wp_M_isIn, wp_M_isIn_14, wp_M_isIn_15, wp_M_thrown, fw_bz, gi_i, a1, a2, a3, b1, b2, b3]
      refine lx_next hx (hk _ ?_)
      obtain ⟨t, hG, hK, hV⟩ := hR
      refine ⟨t, RG.up hn ?_, KN_eq hK (by simp [gi_i]) (fun a k ha => by unfold isC at ha; simp only [gi_i]; repeat' rw [if_neg (by omega)]), fun q hq => ?_⟩
      · obtain ⟨g1, g2, g3, g4, g5⟩ := hG
        refine ⟨by simpa [gi_i] using g1, by simpa [gi_i] using g2, by simpa [gi_i] using g3, ?_, by simpa [gi_i, gi_l] using g5⟩
        simp [gi_i]
        exact ⟨⟨ja, ha, rfl⟩, jb, hb, rfl⟩
      · repeat rw [vw_si (nofoot hq (by omega))]
        exact (hV q hq).up
    · simp [wp_Law_fees, wp_Out_fees, wp_M_fees, wp_M_fees_25, wp_M_fees_26, wp_M_fees_46, wp_Out_checkIndex, wp_Out_checkIndex_9, wp_Out_checkNumber, wp_Out_checkNumber_10, wp_M_isIn, wp_M_isIn_14, wp_M_isIn_15, wp_M_thrown, fw_bz, gi_i, a1, a2, a3, b1]
      exact lx_next hx (hk _ (hR.thrown.up hn))
    · simp [wp_Law_fees, wp_Out_fees, wp_M_fees, wp_M_fees_25, wp_M_fees_26, wp_M_fees_46, wp_Out_checkIndex, wp_Out_checkIndex_9, wp_Out_checkNumber, wp_Out_checkNumber_10, wp_M_isIn, wp_M_isIn_14, wp_M_isIn_15, wp_M_thrown, fw_bz, gi_i, a1, a2, a3, b1, b2, b3]
      exact lx_next hx (hk _ (hR.thrown.up hn))
  · simp [wp_Law_fees, wp_Out_fees, wp_M_fees, wp_M_fees_25, wp_M_fees_26, wp_M_fees_46, wp_Out_checkIndex, wp_Out_checkIndex_9, wp_Out_checkNumber, wp_Out_checkNumber_10, wp_M_isIn, wp_M_isIn_14, wp_M_isIn_15, wp_M_thrown, fw_bz, gi_i, a1]
    exact lx_next hx (hk _ (hR.thrown.up hn))
  · simp [wp_Law_fees, wp_Out_fees, wp_M_fees, wp_M_fees_25, wp_M_fees_26, wp_M_fees_46, wp_Out_checkIndex, wp_Out_checkIndex_9, wp_Out_checkNumber, wp_Out_checkNumber_10, wp_M_isIn, wp_M_isIn_14, wp_M_isIn_15, wp_M_thrown, fw_bz, gi_i, a1, a2, a3]
    exact lx_next hx (hk _ (hR.thrown.up hn))
set_option maxHeartbeats 2000000 in
theorem op_band {L i n : Nat} {xs : Nat → Int32} {k : fw_S → Int32 → Prop} {S : fw_S} (hx : LX L i) (hn : n < 512) (hR : RR n S) (hk : ∀ S', RR (n + 1) S' → k S' (nI (i + 5))) : wp_Law_law_192 L xs k S (nI i) := by
  have hx1 := hx.1
  have hx2 := hx.2
  have v0 : (nI i).toNatClampNeg ≤ 2560 := by rw [nI_clamp (by omega)]; omega
  have v1 : vp_in (nI i + 1) L := lx_in (c := 1) hx (by omega)
  have v2 : vp_in (nI i + 2) L := lx_in (c := 2) hx (by omega)
  have v3 : vp_in (nI i + 3) L := lx_in (c := 3) hx (by omega)
  unfold wp_Law_law_192
  generalize xs (nI i + 1).toNatClampNeg = a
  generalize xs (nI i + 2).toNatClampNeg = b
  generalize xs (nI i + 3).toNatClampNeg = c
  simp only [v0, v1, v2, v3, true_and]
  rcases ixc a 3 (M := 4) (H := 3) (by omega) rfl rfl with ⟨ja, ha, rfl, a1, a2, a3, a4, a5⟩ | a1 | ⟨a1, a2, a3⟩
  · skip
    rcases nmc b 0 1439 (A := 0) (B := 1439) (by omega) (by omega) rfl rfl with ⟨jb, lb, hb, rfl, b1, b2, b3⟩ | b1 | ⟨b1, b2, b3⟩
    · skip
      rcases nmc c 0 100000 (A := 0) (B := 100000) (by omega) (by omega) rfl rfl with ⟨jc, lc, hc, rfl, c1, c2, c3⟩ | c1 | ⟨c1, c2, c3⟩
      · skip
        simp [wp_Law_band, wp_Out_band, wp_Tariff_setBand, wp_M_band, wp_M_band_39, wp_M_band_40, wp_M_band_64, wp_Out_checkIndex, wp_Out_checkIndex_9, wp_Out_checkNumber, wp_Out_checkNumber_10, wp_M_isIn, wp_M_isIn_14, wp_M_isIn_15, wp_M_thrown, fw_bz, gi_i, a1, a2, a3, a4, a5, b1, b2, b3, c1, c2, c3]
        refine lx_next hx (hk _ ?_)
        obtain ⟨t, hG, hK, hV⟩ := hR
        refine ⟨t, RG.up hn ?_, KN_eq hK (by simp [gi_i]) (fun a k ha => by unfold isC at ha; simp only [gi_i]; repeat' rw [if_neg (by omega)]), fun q hq => ?_⟩
        · obtain ⟨g1, g2, g3, g5⟩ := hG
          refine ⟨by simpa [gi_i] using g1, (fun j hj => by have q := g2 j hj; rcases (show j = 0 ∨ j = 1 by omega) with rfl | rfl <;> simpa [gi_i] using q), fun k hk => ?_, by simpa [gi_i, gi_l] using g5⟩
          have q := g3 k hk
          by_cases e : k = ja
          · subst e
            simp [gi_i]
            exact ⟨.inr ⟨jb, by omega, rfl⟩, jc, hc, rfl⟩
          · simpa [gi_i, e] using q
        · repeat rw [vw_si (nofoot hq (by omega))]
          exact (hV q hq).up
      · simp [wp_Law_band, wp_Out_band, wp_Tariff_setBand, wp_M_band, wp_M_band_39, wp_M_band_40, wp_M_band_64, wp_Out_checkIndex, wp_Out_checkIndex_9, wp_Out_checkNumber, wp_Out_checkNumber_10, wp_M_isIn, wp_M_isIn_14, wp_M_isIn_15, wp_M_thrown, fw_bz, gi_i, a1, a2, a3, a4, a5, b1, b2, b3, c1]
        exact lx_next hx (hk _ (hR.thrown.up hn))
      · simp [wp_Law_band, wp_Out_band, wp_Tariff_setBand, wp_M_band, wp_M_band_39, wp_M_band_40, wp_M_band_64, wp_Out_checkIndex, wp_Out_checkIndex_9, wp_Out_checkNumber, wp_Out_checkNumber_10, wp_M_isIn, wp_M_isIn_14, wp_M_isIn_15, wp_M_thrown, fw_bz, gi_i, a1, a2, a3, a4, a5, b1, b2, b3, c1, c2, c3]
        exact lx_next hx (hk _ (hR.thrown.up hn))
    · simp [wp_Law_band, wp_Out_band, wp_Tariff_setBand, wp_M_band, wp_M_band_39, wp_M_band_40, wp_M_band_64, wp_Out_checkIndex, wp_Out_checkIndex_9, wp_Out_checkNumber, wp_Out_checkNumber_10, wp_M_isIn, wp_M_isIn_14, wp_M_isIn_15, wp_M_thrown, fw_bz, gi_i, a1, a2, a3, a4, a5, b1]
      exact lx_next hx (hk _ (hR.thrown.up hn))
    · simp [wp_Law_band, wp_Out_band, wp_Tariff_setBand, wp_M_band, wp_M_band_39, wp_M_band_40, wp_M_band_64, wp_Out_checkIndex, wp_Out_checkIndex_9, wp_Out_checkNumber, wp_Out_checkNumber_10, wp_M_isIn, wp_M_isIn_14, wp_M_isIn_15, wp_M_thrown, fw_bz, gi_i, a1, a2, a3, a4, a5, b1, b2, b3]
      exact lx_next hx (hk _ (hR.thrown.up hn))
  · simp [wp_Law_band, wp_Out_band, wp_Tariff_setBand, wp_M_band, wp_M_band_39, wp_M_band_40, wp_M_band_64, wp_Out_checkIndex, wp_Out_checkIndex_9, wp_Out_checkNumber, wp_Out_checkNumber_10, wp_M_isIn, wp_M_isIn_14, wp_M_isIn_15, wp_M_thrown, fw_bz, gi_i, a1]
    exact lx_next hx (hk _ (hR.thrown.up hn))
  · simp [wp_Law_band, wp_Out_band, wp_Tariff_setBand, wp_M_band, wp_M_band_39, wp_M_band_40, wp_M_band_64, wp_Out_checkIndex, wp_Out_checkIndex_9, wp_Out_checkNumber, wp_Out_checkNumber_10, wp_M_isIn, wp_M_isIn_14, wp_M_isIn_15, wp_M_thrown, fw_bz, gi_i, a1, a2, a3]
    exact lx_next hx (hk _ (hR.thrown.up hn))
set_option maxHeartbeats 2000000 in
theorem op_card {L i n : Nat} {xs : Nat → Int32} {k : fw_S → Int32 → Prop} {S : fw_S} (hx : LX L i) (hn : n < 512) (hR : RR n S) (hk : ∀ S', RR (n + 1) S' → k S' (nI (i + 5))) : wp_Law_law_300 L xs k S (nI i) := by
  have hx1 := hx.1
  have hx2 := hx.2
  have v0 : (nI i).toNatClampNeg ≤ 2560 := by rw [nI_clamp (by omega)]; omega
  have v1 : vp_in (nI i + 1) L := lx_in (c := 1) hx (by omega)
  have v2 : vp_in (nI i + 2) L := lx_in (c := 2) hx (by omega)
  have v3 : vp_in (nI i + 3) L := lx_in (c := 3) hx (by omega)
  unfold wp_Law_law_300
  generalize xs (nI i + 1).toNatClampNeg = a
  generalize xs (nI i + 2).toNatClampNeg = b
  generalize xs (nI i + 3).toNatClampNeg = c
  simp only [v0, v1, v2, v3, true_and]
  rcases ixc a 15 (M := 16) (H := 15) (by omega) rfl rfl with ⟨ja, ha, rfl, a1, a2, a3, a4, a5⟩ | a1 | ⟨a1, a2, a3⟩
  · skip
    rcases nmc b 0 1 (A := 0) (B := 1) (by omega) (by omega) rfl rfl with ⟨jb, lb, hb, rfl, b1, b2, b3⟩ | b1 | ⟨b1, b2, b3⟩
    · skip
      rcases nmc c 0 15 (A := 0) (B := 15) (by omega) (by omega) rfl rfl with ⟨jc, lc, hc, rfl, c1, c2, c3⟩ | c1 | ⟨c1, c2, c3⟩
      · skip
        simp [V112 _ ha, wp_Law_card, wp_Out_card, wp_Cards_setCard, wp_M_card, wp_M_card_38, wp_M_card_39, wp_M_card_63, wp_Out_checkIndex, wp_Out_checkIndex_9, wp_Out_checkNumber, wp_Out_checkNumber_10, wp_M_isIn, wp_M_isIn_14, wp_M_isIn_15, wp_M_thrown, fw_bz, gi_i, a1, a2, a3, a4, a5, b1, b2, b3, c1, c2, c3]
        refine lx_next hx (hk _ ?_)
        obtain ⟨t, hG, hK, hV⟩ := hR
        refine ⟨t, RG.up hn ?_, KN_eq hK (by simp [gi_i]) (fun a k ha => by unfold isC at ha; simp only [gi_i]; repeat' rw [if_neg (by omega)]), fun q hq => ?_⟩
        · obtain ⟨g1, g2, g3, g4, g5, g6⟩ := hG
          refine ⟨by simpa [gi_i] using g1, (fun j hj => by have q := g2 j hj; rcases (show j = 0 ∨ j = 1 by omega) with rfl | rfl <;> simpa [gi_i] using q), by simpa [gi_i] using g3, by simpa [gi_i] using g4, fun k hk => ?_, by simpa [gi_i, gi_l] using g6⟩
          have q := g5 k hk
          by_cases e : k = ja
          · subst e
            simp [gi_i]
          · simpa [gi_i, e] using q
        · repeat rw [vw_si (nofoot hq (by omega))]
          exact (hV q hq).up
      · simp [wp_Law_card, wp_Out_card, wp_Cards_setCard, wp_M_card, wp_M_card_38, wp_M_card_39, wp_M_card_63, wp_Out_checkIndex, wp_Out_checkIndex_9, wp_Out_checkNumber, wp_Out_checkNumber_10, wp_M_isIn, wp_M_isIn_14, wp_M_isIn_15, wp_M_thrown, fw_bz, gi_i, a1, a2, a3, a4, a5, b1, b2, b3, c1]
        exact lx_next hx (hk _ (hR.thrown.up hn))
      · simp [wp_Law_card, wp_Out_card, wp_Cards_setCard, wp_M_card, wp_M_card_38, wp_M_card_39, wp_M_card_63, wp_Out_checkIndex, wp_Out_checkIndex_9, wp_Out_checkNumber, wp_Out_checkNumber_10, wp_M_isIn, wp_M_isIn_14, wp_M_isIn_15, wp_M_thrown, fw_bz, gi_i, a1, a2, a3, a4, a5, b1, b2, b3, c1, c2, c3]
        exact lx_next hx (hk _ (hR.thrown.up hn))
    · simp [wp_Law_card, wp_Out_card, wp_Cards_setCard, wp_M_card, wp_M_card_38, wp_M_card_39, wp_M_card_63, wp_Out_checkIndex, wp_Out_checkIndex_9, wp_Out_checkNumber, wp_Out_checkNumber_10, wp_M_isIn, wp_M_isIn_14, wp_M_isIn_15, wp_M_thrown, fw_bz, gi_i, a1, a2, a3, a4, a5, b1]
      exact lx_next hx (hk _ (hR.thrown.up hn))
    · simp [wp_Law_card, wp_Out_card, wp_Cards_setCard, wp_M_card, wp_M_card_38, wp_M_card_39, wp_M_card_63, wp_Out_checkIndex, wp_Out_checkIndex_9, wp_Out_checkNumber, wp_Out_checkNumber_10, wp_M_isIn, wp_M_isIn_14, wp_M_isIn_15, wp_M_thrown, fw_bz, gi_i, a1, a2, a3, a4, a5, b1, b2, b3]
      exact lx_next hx (hk _ (hR.thrown.up hn))
  · simp [wp_Law_card, wp_Out_card, wp_Cards_setCard, wp_M_card, wp_M_card_38, wp_M_card_39, wp_M_card_63, wp_Out_checkIndex, wp_Out_checkIndex_9, wp_Out_checkNumber, wp_Out_checkNumber_10, wp_M_isIn, wp_M_isIn_14, wp_M_isIn_15, wp_M_thrown, fw_bz, gi_i, a1]
    exact lx_next hx (hk _ (hR.thrown.up hn))
  · simp [wp_Law_card, wp_Out_card, wp_Cards_setCard, wp_M_card, wp_M_card_38, wp_M_card_39, wp_M_card_63, wp_Out_checkIndex, wp_Out_checkIndex_9, wp_Out_checkNumber, wp_Out_checkNumber_10, wp_M_isIn, wp_M_isIn_14, wp_M_isIn_15, wp_M_thrown, fw_bz, gi_i, a1, a2, a3]
    exact lx_next hx (hk _ (hR.thrown.up hn))
