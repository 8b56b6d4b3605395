theorem in_any {S : fw_S} {a lo hi : Int32} {post : fw_S → Int32 → Prop} (h : ∀ r, r = 0 ∨ r = 1 → post S r) : wp_M_isIn S a lo hi post := by
  unfold wp_M_isIn wp_M_isIn_14 wp_M_isIn_15
  exact ⟨fun _ => ⟨.inl rfl, h 0 (.inl rfl)⟩, fun _ => ⟨fun _ => ⟨.inl rfl, h 0 (.inl rfl)⟩, fun _ => ⟨.inr rfl, h 1 (.inr rfl)⟩⟩⟩
theorem mcar_bad {S : fw_S} {a b c d : Int32} {post : fw_S → Int32 → Prop} (ha : a < 0 ∨ 5 < a) (h : post (fw_si S 209 0 1) 0) : wp_M_car S 209 a b c d post := by
  have K : ∀ p0, wp_M_car_37 209 a b c d post S p0 := fun p0 => by
    unfold wp_M_car_37
    refine in_no ha ⟨fun q => absurd rfl q, fun _ => ?_⟩
    unfold wp_M_car_63 wp_M_car_82
    intro S1 e1
    subst e1
    refine ⟨fun _ => h, fun q => absurd ?_ q⟩
    simp [gi_i]
  unfold wp_M_car wp_M_car_36
  exact in_any fun r _ => ⟨fun _ => K 0, fun _ => in_any fun r _ => ⟨fun _ => K 0, fun _ => in_any fun r _ => ⟨fun _ => K 0, fun _ => K 1⟩⟩⟩
theorem fz0 : fw_z 0 = 0 := by decide
theorem fz1 : fw_z 1 = 1 := by decide
theorem hung {d : Nat} (h : d ≤ 100000) : nI d * 3600 = Int32.ofInt ((3600 * d : Nat) : Int) ∧ 3600 * (nI d).toInt64 = Int64.ofInt ((3600 * d : Nat) : Int) := by
  constructor
  · rw [Nat.mul_comm]
    exact (Int32.ofNat_mul d 3600).symm
  · rw [nI_l (by omega)]
    exact lN_mul 3600 d
theorem RV.car {A : fw_S} {t n b c d : Nat} (h : RV A t n) (hb0 : b ≤ 320) (hc0 : 1 ≤ c ∧ c ≤ 9) (hd0 : 1 ≤ d ∧ d ≤ 100000) :
    RV (fw_si (fw_sl (fw_si (fw_si (fw_si (fw_si (fw_si (fw_si (fw_si (fw_si A 1 0 1) 1 1 0) 1 2 (nI b)) 1 3 (nI c)) 1 4 (nI d * 3600)) 227 0 1) 228 0 (nI b)) 229 0 (nI c)) 230 0 (3600 * (nI d).toInt64)) 231 0 0) t n := by
  obtain ⟨w, s, ls, z, h0, u, g, hm, hc, hq, hs, hb, hkk⟩ := h
  have hr : ∀ k, rw_ h0 k < 31 ∧ 4 ≤ rw_ h0 k := fun k => by unfold rw_; omega
  have r0 : ∀ k a, 31 ≤ a → ¬ rw_ h0 k = a := fun k a _ => by have := hr k; omega
  have r2 : ∀ k, ¬ rw_ h0 k = 1 := fun k => by have := hr k; omega
  obtain ⟨u1, u2⟩ := hung hd0.2
  refine ⟨w, s, ls, z, h0, u, ((3600 * d : Nat) : Int), ?_, ?_, ?_, ?_, ?_, ?_⟩
  · unfold RVm at hm ⊢
    simpa [gi_i, gi_l, gl_i, gl_l] using hm
  · refine ⟨by simp [gi_i, gl_i, bz], by simp [gi_i, gl_i, bz], fun q => ?_, fun _ => ⟨by simp [gi_i, gl_i], ⟨c, hc0.1, hc0.2, by simp [gi_i, gl_i], by simp [gi_i, gl_i]⟩, by simp [gi_i, gl_i, u1], by simp [gl_l, gi_l, u2], by omega, by omega, ?_⟩, fun _ _ => ⟨b, hb0, by simp [gi_i, gl_i], by simp [gi_i, gl_i]⟩, fun q => ?_, fun _ _ => by simp [gi_i, gl_i]⟩
    · simp [gi_i, gl_i] at q
    · simp [gi_i, gl_i]
      omega
    · simp [gi_i, gl_i] at q
  · unfold RVq at hq ⊢
    simpa [gi_i, gi_l, gl_i, gl_l, r0, r2] using hq
  · unfold RVs at hs ⊢
    simpa [gi_i, gi_l, gl_i, gl_l, r0, r2] using hs
  · unfold RVb at hb ⊢
    simpa [gi_i, gi_l, gl_i, gl_l] using hb
  · unfold RVk at hkk ⊢
    simpa [gi_i, gi_l, gl_i, gl_l] using hkk
set_option maxHeartbeats 2000000 in
theorem op_total {L i n : Nat} {xs : Nat → Int32} {k : fw_S → Int32 → Prop} {S : fw_S} (hx : LX L i) (hn : n < 512) (hR : RR n S) (hk : ∀ S', RR (n + 1) S' → k S' (nI (i + 5))) : wp_Law_law_1415 L xs k S (nI i) := by
  have hx1 := hx.1
  have hx2 := hx.2
  have v0 : (nI i).toNatClampNeg ≤ 2560 := by rw [nI_clamp (by omega)]; omega
  have v1 : vp_in (nI i + 1) L := lx_in (c := 1) hx (by omega)
  unfold wp_Law_law_1415
  generalize xs (nI i + 1).toNatClampNeg = a
  simp only [v0, v1, true_and]
  rcases ixc a 15 (M := 16) (H := 15) (by omega) rfl rfl with ⟨ja, ha, rfl, a1, a2, a3, a4, a5⟩ | a1 | ⟨a1, a2, a3⟩
  · obtain ⟨t, hG⟩ := hR.rg
    have e1 := hG.2.2.2.2.2.2.1 ja (by omega)
    simp [wp_M_thrown, gi_i, gl_i, gl_l, gi_l, z0, z1, lgs, v0, wp_Law_law_1467, wp_Law_total, wp_Out_total, wp_Out_checkIndex, wp_Out_checkIndex_9, wp_M_total, wp_M_total_16, wp_M_total_36, wp_M_isIn, wp_M_isIn_14, wp_M_isIn_15, fw_bz, a1, a2, a3, a4, a5, e1]
    exact lx_next hx (hk _ (hR.out.thrown.up hn))
  · simp [wp_M_thrown, gi_i, gl_i, gl_l, gi_l, z0, z1, lgs, v0, wp_Law_law_1467, wp_Law_total, wp_Out_total, wp_Out_checkIndex, wp_Out_checkIndex_9, wp_M_total, wp_M_total_16, wp_M_total_36, wp_M_isIn, wp_M_isIn_14, wp_M_isIn_15, fw_bz, a1]
    exact lx_next hx (hk _ (hR.thrown.up hn))
  · simp [wp_M_thrown, gi_i, gl_i, gl_l, gi_l, z0, z1, lgs, v0, wp_Law_law_1467, wp_Law_total, wp_Out_total, wp_Out_checkIndex, wp_Out_checkIndex_9, wp_M_total, wp_M_total_16, wp_M_total_36, wp_M_isIn, wp_M_isIn_14, wp_M_isIn_15, fw_bz, a1, a2, a3]
    exact lx_next hx (hk _ (hR.thrown.up hn))
set_option maxHeartbeats 2000000 in
theorem op_car {L i n : Nat} {xs : Nat → Int32} {k : fw_S → Int32 → Prop} {S : fw_S} (hx : LX L i) (hn : n < 512) (hR : RR n S) (hk : ∀ S', RR (n + 1) S' → k S' (nI (i + 5))) : wp_Law_law_423 L xs k S (nI i) := by
  have hx1 := hx.1
  have hx2 := hx.2
  have v0 : (nI i).toNatClampNeg ≤ 2560 := by rw [nI_clamp (by omega)]; omega
  have v1 : vp_in (nI i + 1) L := lx_in (c := 1) hx (by omega)
  have v2 : vp_in (nI i + 2) L := lx_in (c := 2) hx (by omega)
  have v3 : vp_in (nI i + 3) L := lx_in (c := 3) hx (by omega)
  have v4 : vp_in (nI i + 4) L := lx_in (c := 4) hx (by omega)
  unfold wp_Law_law_423
  generalize xs (nI i + 1).toNatClampNeg = a
  generalize xs (nI i + 2).toNatClampNeg = b
  generalize xs (nI i + 3).toNatClampNeg = c
  generalize xs (nI i + 4).toNatClampNeg = d
  simp only [v0, v1, v2, v3, v4, true_and]
  rcases ixc a 5 (M := 6) (H := 5) (by omega) rfl rfl with ⟨ja, ha, rfl, a1, a2, a3, a4, a5⟩ | a1 | ⟨a1, a2, a3⟩
  · rcases nmc b 0 320 (A := 0) (B := 320) (by omega) (by omega) rfl rfl with ⟨jb, lb, hb, rfl, b1, b2, b3⟩ | b1 | ⟨b1, b2, b3⟩
    · rcases nmc c 1 9 (A := 1) (B := 9) (by omega) (by omega) rfl rfl with ⟨jc, lc, hc, rfl, c1, c2, c3⟩ | c1 | ⟨c1, c2, c3⟩
      · rcases nmc d 1 100000 (A := 1) (B := 100000) (by omega) (by omega) rfl rfl with ⟨jd, ld, hd, rfl, d1, d2, d3⟩ | d1 | ⟨d1, d2, d3⟩
        · obtain ⟨t, hv⟩ := hR.rv ha
          obtain ⟨e1, e2⟩ := hv.here
          have hp : ja < 6 := by omega
          have hpo := pO_lt hp
          have e5 : ∀ a, 180 ≤ a → ¬ pO ja = a := fun a _ => by omega
          rcases e2 with e2 | e2
          · simp [gi_i, gl_i, gl_l, gi_l, z0, z1, lgs, v0, wp_Law_car, wp_Law_car_20, wp_Out_car, wp_Car_come, wp_Out_checkNumber, wp_Out_checkNumber_10, wp_M_thrown, wp_Law_law_513, wp_Law_law_519, wp_M_car, wp_M_car_36, wp_M_car_37, wp_M_car_63, wp_M_car_82, wp_M_isIn, wp_M_isIn_14, wp_M_isIn_15, fw_bz, fz0, fz1, pt_yes ha, a1, a2, a3, a4, a5, b1, b2, b3, c1, c2, c3, d1, d2, d3, e1, e2, e5]
            refine lx_next hx (hk _ ?_)
            refine hR.pt hn (p := ja) (fun a k hg => ?_) (fun k => by simp [gi_l, gl_l]) (by simp [gi_i, gl_i]) (fun q hq e => ?_) (fun t ht hv => ?_)
            · unfold gcell at hg
              simp only [gi_i, gl_i]
              repeat rw [if_neg (by omega)]
            · rw [vw_si (nf_m hq e (by unfold isM; omega)), vw_sl (nf_m hq e (by unfold isM; omega)), vw_si (nf_m hq e (by unfold isM; omega)), vw_si (nf_m hq e (by unfold isM; omega)), vw_si (nf_m hq e (by unfold isM; omega)), vw_si (nofoot hq (by omega)), vw_si (nofoot hq (by omega)), vw_sl (nofoot hq (by omega)), vw_si (nf_x hp hq e (by omega)), vw_si (nf_x hp hq e (by omega)), vw_si (nf_x hp hq e (by omega)), vw_si (nf_x hp hq e (by omega)), vw_si (nf_x hp hq e (by omega))]
            · rw [vw_mi hp (by unfold isM; omega), vw_ml hp (by unfold isM; omega), vw_mi hp (by unfold isM; omega), vw_mi hp (by unfold isM; omega), vw_mi hp (by unfold isM; omega), vw_si (nofoot hp (by omega)), vw_si (nofoot hp (by omega)), vw_sl (nofoot hp (by omega)), vw_xi hp (by omega), vw_xi hp (by omega), vw_xi hp (by omega), vw_xi hp (by omega), vw_xi hp (by omega)]
              exact (hv.car hb ⟨lc, hc⟩ ⟨ld, hd⟩).up
          · simp [gi_i, gl_i, gl_l, gi_l, z0, z1, lgs, v0, wp_Law_car, wp_Law_car_20, wp_Out_car, wp_Car_come, wp_Out_checkNumber, wp_Out_checkNumber_10, wp_M_thrown, wp_Law_law_513, wp_Law_law_519, wp_M_car, wp_M_car_36, wp_M_car_37, wp_M_car_63, wp_M_car_82, wp_M_isIn, wp_M_isIn_14, wp_M_isIn_15, fw_bz, fz0, fz1, pt_yes ha, a1, a2, a3, a4, a5, b1, b2, b3, c1, c2, c3, d1, d2, d3, e1, e2, e5]
            exact lx_next hx (hk _ (hR.out.thrown.up hn))
        · simp [gi_i, gl_i, gl_l, gi_l, z0, z1, lgs, v0, wp_Law_car, wp_Law_car_20, wp_Out_car, wp_Car_come, wp_Out_checkNumber, wp_Out_checkNumber_10, wp_M_thrown, wp_Law_law_513, wp_Law_law_519, wp_M_car, wp_M_car_36, wp_M_car_37, wp_M_car_63, wp_M_car_82, wp_M_isIn, wp_M_isIn_14, wp_M_isIn_15, fw_bz, fz0, fz1, pt_yes ha, a1, a2, a3, a4, a5, b1, b2, b3, c1, c2, c3, d1]
          exact lx_next hx (hk _ (hR.thrown.up hn))
        · simp [gi_i, gl_i, gl_l, gi_l, z0, z1, lgs, v0, wp_Law_car, wp_Law_car_20, wp_Out_car, wp_Car_come, wp_Out_checkNumber, wp_Out_checkNumber_10, wp_M_thrown, wp_Law_law_513, wp_Law_law_519, wp_M_car, wp_M_car_36, wp_M_car_37, wp_M_car_63, wp_M_car_82, wp_M_isIn, wp_M_isIn_14, wp_M_isIn_15, fw_bz, fz0, fz1, pt_yes ha, a1, a2, a3, a4, a5, b1, b2, b3, c1, c2, c3, d1, d2, d3]
          exact lx_next hx (hk _ (hR.thrown.up hn))
      · simp [gi_i, gl_i, gl_l, gi_l, z0, z1, lgs, v0, wp_Law_car, wp_Law_car_20, wp_Out_car, wp_Car_come, wp_Out_checkNumber, wp_Out_checkNumber_10, wp_M_thrown, wp_Law_law_513, wp_Law_law_519, wp_M_car, wp_M_car_36, wp_M_car_37, wp_M_car_63, wp_M_car_82, wp_M_isIn, wp_M_isIn_14, wp_M_isIn_15, fw_bz, fz0, fz1, pt_yes ha, a1, a2, a3, a4, a5, b1, b2, b3, c1]
        exact lx_next hx (hk _ (hR.thrown.up hn))
      · simp [gi_i, gl_i, gl_l, gi_l, z0, z1, lgs, v0, wp_Law_car, wp_Law_car_20, wp_Out_car, wp_Car_come, wp_Out_checkNumber, wp_Out_checkNumber_10, wp_M_thrown, wp_Law_law_513, wp_Law_law_519, wp_M_car, wp_M_car_36, wp_M_car_37, wp_M_car_63, wp_M_car_82, wp_M_isIn, wp_M_isIn_14, wp_M_isIn_15, fw_bz, fz0, fz1, pt_yes ha, a1, a2, a3, a4, a5, b1, b2, b3, c1, c2, c3]
        exact lx_next hx (hk _ (hR.thrown.up hn))
    · simp [gi_i, gl_i, gl_l, gi_l, z0, z1, lgs, v0, wp_Law_car, wp_Law_car_20, wp_Out_car, wp_Car_come, wp_Out_checkNumber, wp_Out_checkNumber_10, wp_M_thrown, wp_Law_law_513, wp_Law_law_519, wp_M_car, wp_M_car_36, wp_M_car_37, wp_M_car_63, wp_M_car_82, wp_M_isIn, wp_M_isIn_14, wp_M_isIn_15, fw_bz, fz0, fz1, pt_yes ha, a1, a2, a3, a4, a5, b1]
      exact lx_next hx (hk _ (hR.thrown.up hn))
    · simp [gi_i, gl_i, gl_l, gi_l, z0, z1, lgs, v0, wp_Law_car, wp_Law_car_20, wp_Out_car, wp_Car_come, wp_Out_checkNumber, wp_Out_checkNumber_10, wp_M_thrown, wp_Law_law_513, wp_Law_law_519, wp_M_car, wp_M_car_36, wp_M_car_37, wp_M_car_63, wp_M_car_82, wp_M_isIn, wp_M_isIn_14, wp_M_isIn_15, fw_bz, fz0, fz1, pt_yes ha, a1, a2, a3, a4, a5, b1, b2, b3]
      exact lx_next hx (hk _ (hR.thrown.up hn))
  · simp [gi_i, gl_i, gl_l, gi_l, z0, z1, lgs, v0, wp_Law_car, wp_Law_car_20, wp_Out_car, wp_Car_come, wp_Out_checkNumber, wp_Out_checkNumber_10, pt_lo a1]
    refine mcar_bad (.inl a1) ?_
    simp [wp_M_thrown, gi_i, wp_Law_law_519, v0]
    exact lx_next hx (hk _ (hR.thrown.up hn))
  · simp [gi_i, gl_i, gl_l, gi_l, z0, z1, lgs, v0, wp_Law_car, wp_Law_car_20, wp_Out_car, wp_Car_come, wp_Out_checkNumber, wp_Out_checkNumber_10, pt_hi a1 a2]
    refine mcar_bad (.inr a3) ?_
    simp [wp_M_thrown, gi_i, wp_Law_law_519, v0]
    exact lx_next hx (hk _ (hR.thrown.up hn))
