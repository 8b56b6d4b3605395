theorem RV.want {A : fw_S} {t n v : Nat} (h : RV A t n) (h1 : A.1 1 0 = 1) (h2 : A.1 1 1 = 0) (hv : v ≤ 320) : RV (fw_si (fw_si A 1 2 (nI v)) 228 0 (nI v)) t n := by
  obtain ⟨w, s, ls, z, h0, u, g, hm, hc, hq, hs, hb, hkk⟩ := h
  have hr : ∀ k, rw_ h0 k < 31 ∧ 4 ≤ rw_ h0 k := fun k => by unfold rw_; omega
  have r1 : ∀ k, ¬ rw_ h0 k = 228 := fun k => by have := hr k; omega
  have r2 : ∀ k, ¬ rw_ h0 k = 1 := fun k => by have := hr k; omega
  refine ⟨w, s, ls, z, h0, u, g, ?_, ?_, ?_, ?_, ?_, ?_⟩
  · unfold RVm at hm ⊢
    simpa [gi_i, gi_l] using hm
  · obtain ⟨c1, c2, c3, c4, c5, c6, c7⟩ := hc
    refine ⟨by simpa [gi_i] using c1, by simpa [gi_i] using c2, fun q => ?_, by simpa [gi_i, gi_l] using c4, fun _ _ => ⟨v, hv, by simp [gi_i], by simp [gi_i]⟩, fun q => ?_, by simpa [gi_i] using c7⟩
    · exact absurd ((show A.1 1 0 = 0 from by simpa [gi_i] using q).symm.trans h1) (by decide)
    · exact absurd (h2.symm.trans (show A.1 1 1 = 1 from by simpa [gi_i] using q)) (by decide)
  · unfold RVq at hq ⊢
    simpa [gi_i, gi_l, r1, r2] using hq
  · unfold RVs at hs ⊢
    simpa [gi_i, gi_l, r1, r2] using hs
  · unfold RVb at hb ⊢
    simpa [gi_i, gi_l] using hb
  · unfold RVk at hkk ⊢
    simpa [gi_i, gi_l] using hkk
set_option maxHeartbeats 2000000 in
theorem op_want {L i n : Nat} {xs : Nat → Int32} {k : fw_S → Int32 → Prop} {S : fw_S} (hx : LX L i) (hn : n < 512) (hR : RR n S) (hk : ∀ S', RR (n + 1) S' → k S' (nI (i + 5))) : wp_Law_law_522 L xs k S (nI i) := by
  have hx1 := hx.1
  have hx2 := hx.2
  have v0 : (nI i).toNatClampNeg ≤ 2560 := by rw [nI_clamp (by omega)]; omega
  have v1 : vp_in (nI i + 1) L := lx_in (c := 1) hx (by omega)
  have v2 : vp_in (nI i + 2) L := lx_in (c := 2) hx (by omega)
  unfold wp_Law_law_522
  generalize xs (nI i + 1).toNatClampNeg = a
  generalize xs (nI i + 2).toNatClampNeg = b
  simp only [v0, v1, v2, true_and]
  rcases ixc a 5 (M := 6) (H := 5) (by omega) rfl rfl with ⟨ja, ha, rfl, a1, a2, a3, a4, a5⟩ | a1 | ⟨a1, a2, a3⟩
  · rcases nmc b 0 320 (A := 0) (B := 320) (by omega) (by omega) rfl rfl with ⟨jb, lb, hb, rfl, b1, b2, b3⟩ | b1 | ⟨b1, b2, b3⟩
    · obtain ⟨t, hv⟩ := hR.rv ha
      obtain ⟨e1, e2⟩ := hv.here
      obtain ⟨e3, e4⟩ := hv.full
      have hp : ja < 6 := by omega
      have hpo := pO_lt hp
      have e5 : ¬ pO ja = 226 := by omega
      have e6 : ¬ pO ja = 230 := by omega
      rcases e2 with e2 | e2
      · simp [wp_M_thrown, gi_i, gl_i, gl_l, gi_l, z0, z1, lgs, v0, wp_Law_law_588, wp_Law_law_594, wp_Law_want, wp_Law_want_16, wp_Out_want, wp_Out_want_34, wp_Out_checkNumber, wp_Out_checkNumber_10, wp_M_want, wp_M_want_30, wp_M_want_58, wp_M_isIn, wp_M_isIn_14, wp_M_isIn_15, fw_bz, pt_yes ha, a1, a2, a3, a4, a5, b1, b2, b3, e1, e2]
        exact lx_next hx (hk _ (hR.out.thrown.up hn))
      · have e4 := e4 e2
        rcases e3 with e3 | e3
        · simp [wp_M_thrown, gi_i, gl_i, gl_l, gi_l, z0, z1, lgs, v0, wp_Law_law_588, wp_Law_law_594, wp_Law_want, wp_Law_want_16, wp_Out_want, wp_Out_want_34, wp_Out_checkNumber, wp_Out_checkNumber_10, wp_M_want, wp_M_want_30, wp_M_want_58, wp_M_isIn, wp_M_isIn_14, wp_M_isIn_15, fw_bz, pt_yes ha, a1, a2, a3, a4, a5, b1, b2, b3, e1, e2, e3, e4, e5, e6]
          refine lx_next hx (hk _ ?_)
          refine hR.pt hn (p := ja) (fun a k hg => ?_) (fun k => by simp [gi_l, gl_l]) (by simp [gi_i]) (fun q hq e => ?_) (fun t ht hv => ?_)
          · unfold gcell at hg
            simp only [gi_i, gl_i]
            repeat rw [if_neg (by omega)]
          · rw [vw_si (nf_m hq e (by unfold isM; omega)), vw_si (nofoot hq (by omega)), vw_si (nofoot hq (by omega)), vw_sl (nofoot hq (by omega)), vw_si (nf_x hp hq e (by omega))]
          · rw [vw_mi hp (by unfold isM; omega), vw_si (nofoot hp (by omega)), vw_si (nofoot hp (by omega)), vw_sl (nofoot hp (by omega)), vw_xi hp (by omega)]
            exact (hv.want e2 e3 hb).up
        · simp [wp_M_thrown, gi_i, gl_i, gl_l, gi_l, z0, z1, lgs, v0, wp_Law_law_588, wp_Law_law_594, wp_Law_want, wp_Law_want_16, wp_Out_want, wp_Out_want_34, wp_Out_checkNumber, wp_Out_checkNumber_10, wp_M_want, wp_M_want_30, wp_M_want_58, wp_M_isIn, wp_M_isIn_14, wp_M_isIn_15, fw_bz, pt_yes ha, a1, a2, a3, a4, a5, b1, b2, b3, e1, e2, e3, e4, e5, e6]
          exact lx_next hx (hk _ (hR.out.thrown.up hn))
    · simp [wp_M_thrown, gi_i, gl_i, gl_l, gi_l, z0, z1, lgs, v0, wp_Law_law_588, wp_Law_law_594, wp_Law_want, wp_Law_want_16, wp_Out_want, wp_Out_want_34, wp_Out_checkNumber, wp_Out_checkNumber_10, wp_M_want, wp_M_want_30, wp_M_want_58, wp_M_isIn, wp_M_isIn_14, wp_M_isIn_15, fw_bz, pt_yes ha, a1, a2, a3, a4, a5, b1]
      exact lx_next hx (hk _ (hR.thrown.up hn))
    · simp [wp_M_thrown, gi_i, gl_i, gl_l, gi_l, z0, z1, lgs, v0, wp_Law_law_588, wp_Law_law_594, wp_Law_want, wp_Law_want_16, wp_Out_want, wp_Out_want_34, wp_Out_checkNumber, wp_Out_checkNumber_10, wp_M_want, wp_M_want_30, wp_M_want_58, wp_M_isIn, wp_M_isIn_14, wp_M_isIn_15, fw_bz, pt_yes ha, a1, a2, a3, a4, a5, b1, b2, b3]
      exact lx_next hx (hk _ (hR.thrown.up hn))
  · simp [wp_M_thrown, gi_i, gl_i, gl_l, gi_l, z0, z1, lgs, v0, wp_Law_law_588, wp_Law_law_594, wp_Law_want, wp_Law_want_16, wp_Out_want, wp_Out_want_34, wp_Out_checkNumber, wp_Out_checkNumber_10, wp_M_want, wp_M_want_30, wp_M_want_58, wp_M_isIn, wp_M_isIn_14, wp_M_isIn_15, fw_bz, pt_lo a1, a1]
    exact lx_next hx (hk _ (hR.thrown.up hn))
  · simp [wp_M_thrown, gi_i, gl_i, gl_l, gi_l, z0, z1, lgs, v0, wp_Law_law_588, wp_Law_law_594, wp_Law_want, wp_Law_want_16, wp_Out_want, wp_Out_want_34, wp_Out_checkNumber, wp_Out_checkNumber_10, wp_M_want, wp_M_want_30, wp_M_want_58, wp_M_isIn, wp_M_isIn_14, wp_M_isIn_15, fw_bz, pt_hi a1 a2, a1, a3]
    exact lx_next hx (hk _ (hR.thrown.up hn))
