theorem RV.powr {A : fw_S} {t n : Nat} {v : Int32} (hn : n < 512) (h : RV A t n) (hv : (v = 1 ∧ (A.1 0 3 = 1 ∨ A.1 0 6 = 0)) ∨ (v = 0 ∧ A.1 0 9 = 0)) : RV (fw_si (fw_si A 0 3 v) 215 0 v) t n := by
  obtain ⟨w, s, ls, z, h0, u, g, hm, hc, hq, hs, hb, hkk⟩ := h
  have hr : ∀ k, rw_ h0 k < 31 ∧ 4 ≤ rw_ h0 k := fun k => by unfold rw_; omega
  have r0 : ∀ k a, 31 ≤ a → ¬ rw_ h0 k = a := fun k a _ => by have := hr k; omega
  have r2 : ∀ k, ¬ rw_ h0 k = 0 := fun k => by have := hr k; omega
  refine ⟨w, s, ls, z, h0, u, g, ?_, ?_, ?_, ?_, ?_, ?_⟩
  · obtain ⟨m1, m2, m3⟩ := hm
    refine ⟨⟨by simp [gi_i], ?_⟩, by simpa [gi_i] using m2, by simpa [gi_i, gi_l] using m3⟩
    rcases hv with ⟨rfl, _⟩ | ⟨rfl, _⟩
    · exact .inr (by simp [gi_i])
    · exact .inl (by simp [gi_i])
  · obtain ⟨c1, c2, c3, c4, c5, c6, c7⟩ := hc
    refine ⟨by simpa [gi_i] using c1, by simpa [gi_i] using c2, by simpa [gi_i] using c3, by simpa [gi_i, gi_l] using c4, by simpa [gi_i] using c5, by simpa [gi_i] using c6, fun q1 q2 => ?_⟩
    rcases hv with ⟨rfl, e | e⟩ | ⟨rfl, _⟩
    · simpa [gi_i] using c7 q1 e
    · rw [hm.2.2.2.1.2.1] at e
      exact absurd e (nI_ne0 (by omega) (by have := hm.2.2.2.1; omega))
    · simp [gi_i] at q2
  · obtain ⟨q1, q2, q3, q4, ⟨q5, q5'⟩, q6, q7⟩ := hq
    refine ⟨by simpa [gi_i] using q1, by simpa [gi_i] using q2, by simpa [gi_i] using q3, by simpa [gi_i] using q4, ⟨by simpa [gi_i] using q5, ?_⟩, by simpa [gi_i] using q6, by simpa [gi_i, gi_l, r0, r2] using q7⟩
    rcases hv with ⟨rfl, _⟩ | ⟨rfl, e⟩
    · rcases q5' with q | ⟨x1, x2, x3, x4⟩
      · exact .inl (by simpa [gi_i] using q)
      · exact .inr ⟨x1, by simp [gi_i], by simpa [gi_i] using x3, by simpa [gi_i] using x4⟩
    · exact .inl (by simpa [gi_i] using e)
  · unfold RVs at hs ⊢
    simpa [gi_i, gi_l, r0, r2] using hs
  · unfold RVb at hb ⊢
    simpa [gi_i, gi_l] using hb
  · unfold RVk at hkk ⊢
    simpa [gi_i, gi_l] using hkk
/-- power comes back while a session was under way: it ends -/
theorem pow_view {A : fw_S} {t n w s ls z h u : Nat} {g : Int} (hm : RVm A t n w s ls) (hc : RVc A t s g) (hq : RVq A t w s z h u) (hs : RVs A t w s z h u) (hb : RVb A t w) (hkk : RVk A) (hs0 : s ≠ 0) (hp0 : A.1 0 3 = 0) (hw : lN w / 3600 = (nI (w / 3600)).toInt64) :
    RV (fw_si (mputS 0 (6 * z) z (fw_si (fw_si (fw_si (tellS 0 (rw_ h z) (fw_si A 0 3 1) 2 (nI t) (nI (w / 3600)) 0) 0 6 0) 0 7 (-1)) 215 0 1) 3 (nI t) 0) 218 0 0) t n := by
  obtain ⟨k1, c, hc16, k2⟩ := hm.2.2.2.2.2 hs0
  have hz := hq.1.2.2.1
  have hr : ∀ k, rw_ h k < 31 ∧ 4 ≤ rw_ h k := fun k => by unfold rw_; omega
  have r0 : ∀ k a, 31 ≤ a → ¬ rw_ h k = a := fun k a _ => by have := hr k; omega
  have r2 : ∀ k, ¬ rw_ h k = 0 := fun k => by have := hr k; omega
  have hm1 : RVm (fw_si (fw_si A 0 3 1) 215 0 1) t n w s ls := by
    obtain ⟨m1, m2, m3⟩ := hm
    exact ⟨⟨by simp [gi_i], .inr (by simp [gi_i])⟩, by simpa [gi_i] using m2, by simpa [gi_i, gi_l] using m3⟩
  have hq1 : RVq (fw_si (fw_si A 0 3 1) 215 0 1) t w s z h u := by
    obtain ⟨q1, q2, q3, q4, ⟨q5, q5'⟩, q6, q7⟩ := hq
    refine ⟨by simpa [gi_i] using q1, by simpa [gi_i] using q2, by simpa [gi_i] using q3, by simpa [gi_i] using q4, ⟨by simpa [gi_i] using q5, ?_⟩, by simpa [gi_i] using q6, by simpa [gi_i, gi_l, r0, r2] using q7⟩
    rcases q5' with q | ⟨x1, x2, x3, x4⟩
    · exact .inl (by simpa [gi_i] using q)
    · exact .inr ⟨x1, by simp [gi_i], by simpa [gi_i] using x3, by simpa [gi_i] using x4⟩
  have hs1 : RVs (fw_si (fw_si A 0 3 1) 215 0 1) t w s z h u := by
    unfold RVs at hs ⊢
    simpa [gi_i, gi_l, r0, r2] using hs
  have hb1 : RVb (fw_si (fw_si A 0 3 1) 215 0 1) t w := by
    unfold RVb at hb ⊢
    simpa [gi_i, gi_l] using hb
  have hk1 : RVk (fw_si (fw_si A 0 3 1) 215 0 1) := by
    unfold RVk at hkk ⊢
    simpa [gi_i, gi_l] using hkk
  refine RV.stop (g' := g) (c := c) (idl := 0) hm1 hq1 hs1 hb1 hk1 hs0 ?_ hc16 (by omega) ?_ ?_ ?_
  · refine PUT.mk (A1 := fw_si A 0 3 1) (B := fw_si (fw_si (fw_si (tellS 0 (rw_ h z) (fw_si A 0 3 1) 2 (nI t) (nI (w / 3600)) 0) 0 6 0) 0 7 (-1)) 215 0 1) hz (fun a k hq => ?_) (fun _ => rfl) (fun a k hq => ?_) (fun k => rfl) (fun a k hq => ?_) (fun k => rfl) ?_ ?_ ?_ ?_ hq1.2.2.1
    · unfold pcell at hq
      simp only [gi_i (o := 215)]
      repeat rw [if_neg (by omega)]
    · unfold pcell at hq
      simp only [gi_i]
      repeat rw [if_neg (by omega)]
      rfl
    · unfold pcell at hq
      simp only [gi_i]
      repeat rw [if_neg (by omega)]
      rfl
    · simp only [gi_i, tell0_i (show ¬ 218 = 2 ∧ ¬ (4 ≤ 218 ∧ 218 < 28) by omega)]
      simp
      exact hm.2.2.2.1.1.trans hm.2.2.2.1.2.1.symm
    · simp only [gi_i, tell0_i (show ¬ 220 = 2 ∧ ¬ (4 ≤ 220 ∧ 220 < 28) by omega)]
      simp
      exact k1.trans k2
    · simp [gi_i]
      exact k2
    · simp only [gi_l, tell_l]
      rw [hm.2.2.1.1]
      exact hw
  · simp [gi_i, gi_l, mput_i, mput_l, tell0_i, tell_l]
  · have hc := hc
    unfold RVc at hc ⊢
    simp only [gi_i, gi_l, mput_i (show ¬ 227 = 225 ∧ ¬ 227 = 221 ∧ ¬ 227 = 222 by omega), mput_i (show ¬ 1 = 225 ∧ ¬ 1 = 221 ∧ ¬ 1 = 222 by omega), mput_i (show ¬ 231 = 225 ∧ ¬ 231 = 221 ∧ ¬ 231 = 222 by omega), mput_i (show ¬ 229 = 225 ∧ ¬ 229 = 221 ∧ ¬ 229 = 222 by omega), mput_i (show ¬ 228 = 225 ∧ ¬ 228 = 221 ∧ ¬ 228 = 222 by omega), mput_i (show ¬ 232 = 225 ∧ ¬ 232 = 221 ∧ ¬ 232 = 222 by omega), mput_l (show ¬ 230 = 226 by omega), tell0_i (show ¬ 227 = 2 ∧ ¬ (4 ≤ 227 ∧ 227 < 28) by omega), tell0_i (show ¬ 1 = 2 ∧ ¬ (4 ≤ 1 ∧ 1 < 28) by omega), tell0_i (show ¬ 231 = 2 ∧ ¬ (4 ≤ 231 ∧ 231 < 28) by omega), tell0_i (show ¬ 229 = 2 ∧ ¬ (4 ≤ 229 ∧ 229 < 28) by omega), tell0_i (show ¬ 228 = 2 ∧ ¬ (4 ≤ 228 ∧ 228 < 28) by omega), tell0_i (show ¬ 232 = 2 ∧ ¬ (4 ≤ 232 ∧ 232 < 28) by omega), tell_l, Nat.reduceEqDiff, false_and, and_false, if_false]
    exact ⟨hc.1, hc.2.1, hc.2.2.1, hc.2.2.2.1, hc.2.2.2.2.1, hc.2.2.2.2.2.1, fun q => absurd rfl q⟩
  · refine ⟨fun o k ho => ?_, fun o k ho => ?_, fun o k ho => ?_⟩
    · simp only [gi_i, mput_i (show ¬ o = 225 ∧ ¬ o = 221 ∧ ¬ o = 222 by omega), tell0_i (show ¬ o = 2 ∧ ¬ (4 ≤ o ∧ o < 28) by omega)]
      repeat rw [if_neg (by omega)]
    · simp only [gi_l, mput_l (show ¬ o = 226 by omega), tell_l]
    · have : 28 < o := by omega
      simp only [gi_i, mput_i (show ¬ o = 225 ∧ ¬ o = 221 ∧ ¬ o = 222 by omega), tell0_i (show ¬ o = 2 ∧ ¬ (4 ≤ o ∧ o < 28) by omega)]
      repeat rw [if_neg (by omega)]
set_option maxHeartbeats 4000000 in
theorem op_power {L i n : Nat} {xs : Nat → Int32} {k : fw_S → Int32 → Prop} {S : fw_S} (hx : LX L i) (hn : n < 512) (hR : RR n S) (hk : ∀ S', RR (n + 1) S' → k S' (nI (i + 5))) : wp_Law_law_792 L xs k S (nI i) := by
  have hx1 := hx.1
  have hx2 := hx.2
  have v0 : (nI i).toNatClampNeg ≤ 2560 := by rw [nI_clamp (by omega)]; omega
  have v1 : vp_in (nI i + 1) L := lx_in (c := 1) hx (by omega)
  have v2 : vp_in (nI i + 2) L := lx_in (c := 2) hx (by omega)
  unfold wp_Law_law_792 wp_Law_law_813 wp_Law_law_839
  generalize xs (nI i + 1).toNatClampNeg = a
  generalize xs (nI i + 2).toNatClampNeg = b
  simp only [v0, v1, v2, true_and]
  rcases ixc a 5 (M := 6) (H := 5) (by omega) rfl rfl with ⟨ja, ha, rfl, a1, a2, a3, a4, a5⟩ | a1 | ⟨a1, a2, a3⟩
  · obtain ⟨t, hG, hK, hV⟩ := id hR
    have hp : ja < 6 := by omega
    have hv := hV ja hp
    have e4 := hv.uw
    have e3 := hv.uwp
    obtain ⟨w, s, ls, z, h, u, g, hm, hc, hq, hs, hbb, hkk⟩ := hV ja hp
    have hpo := pO_lt hp
    have e5 : ∀ a, 180 ≤ a → ¬ pO ja = a := fun a _ => by omega
    have e7 : ∀ a, 210 ≤ a → ¬ a = pO ja := fun a _ => by omega
    obtain ⟨g1, g2, g3, g4⟩ := hG.1
    have f1 : S.1 (pO ja + 2) 1 = nI h := hq.2.1.1
    have f2 : S.1 (pO ja + 2) 3 = nI z := hq.1.1
    have f3 : S.1 221 ja = nI z := hq.1.2.1
    have f4 : S.1 (pO ja) 6 = nI s := hm.2.2.2.1.2.1
    have f5 : S.1 218 ja = nI s := hm.2.2.2.1.1
    have f6 : S.1 215 ja = S.1 (pO ja) 3 := hm.1.1
    have f8 : S.2 (pO ja) 5 = lN w := hm.2.2.1.2.1
    have hls : s ≤ n := by have := hm.2.2.2.1; omega
    have hw := wh_ok hm.2.2.1.2.2 g3 g4
    have hz := hq.1.2.2.1
    have hr : rw_ h z < 31 := by unfold rw_; omega
    by_cases hb : b = 0
    · simp [gi_i, gl_i, gl_l, gi_l, z0, z1, lgs, v0, v1, v2, wp_Law_power, wp_Out_power, wp_Point_setPower, wp_Point_setPower_15, wp_Point_setPower_16, wp_Point_setPower_43, wp_Point_dropIfUnreachable, wp_Point_dropIfUnreachable_12, wp_Point_isReachable, wp_Point_isReachable_18, wp_Point_isReachable_19, wp_Point_end, wp_M_power, wp_M_power_26, wp_M_power_27, wp_M_power_54, wp_M_power_74, wp_M_ends, wp_M_thrown, fw_bz, fz0, fz1, mput_i, mput_l, pt_yes ha, np_yes ha, a4, a5, hb, f3, f4, f5, f6, f8, e4, e5, e7, g1, g2]
      refine lx_next hx (hk _ ?_)
      refine RR.pt2 (p := ja) hG hV hn (fun a k hg => ?_) (fun k => by simp [gi_l, gl_l]) (by simp [gi_i, gl_i]) (fun q hq e => ?_) ?_
      · unfold gcell at hg
        simp only [gi_i, gl_i]
        repeat rw [if_neg (by omega)]
      · rw [vw_si (nf_m hq e (by unfold isM; omega)), vw_si (nf_m hq e (by unfold isM; omega)), vw_si (nofoot hq (by omega)), vw_si (nofoot hq (by omega)), vw_si (nf_x0 hp hq e), vw_si (nf_x0 hp hq e)]
      · rw [vw_mi hp (by unfold isM; omega), vw_mi hp (by unfold isM; omega), vw_si (nofoot hp (by omega)), vw_si (nofoot hp (by omega)), vw_xi0 hp, vw_xi0 hp]
        rw [si_comm (A := fw_si (fw_si (vw ja S) 0 3 0) 0 9 0) (by omega), si_comm (A := vw ja S) (o := 0) (k := 3) (by omega), si_comm (A := fw_si (vw ja S) 0 9 0) (o := 0) (k := 3) (by omega)]
        exact (hv.uw0.powr hn (.inr ⟨rfl, by simp [gi_i]⟩)).up
    · rcases hm.1.2 with b4 | b4
      · have b4 : S.1 (pO ja) 3 = 0 := b4
        have e6 : S.1 (pO ja) 9 = 0 := by
          rcases e3 with q | q
          · exact q
          · exact absurd (b4.symm.trans q.1) (by decide)
        have hS3 : fw_si (fw_si S (pO ja) 3 1) (pO ja) 9 0 = fw_si S (pO ja) 3 1 := si_same (by simp [gi_i, e6])
        by_cases hs0 : s = 0
        · have s1 : nI s = 0 := by rw [hs0]; rfl
          rcases hm.2.1.2 with b0 | b0
          all_goals
            have b0 : S.1 (pO ja) 4 = _ := b0
            simp [gi_i, gl_i, gl_l, gi_l, z0, z1, lgs, v0, v1, v2, wp_Law_power, wp_Out_power, wp_Point_setPower, wp_Point_setPower_15, wp_Point_setPower_16, wp_Point_setPower_43, wp_Point_dropIfUnreachable, wp_Point_dropIfUnreachable_12, wp_Point_isReachable, wp_Point_isReachable_18, wp_Point_isReachable_19, wp_Point_end, wp_M_power, wp_M_power_26, wp_M_power_27, wp_M_power_54, wp_M_power_74, wp_M_ends, wp_M_thrown, fw_bz, fz0, fz1, mput_i, mput_l, pt_yes ha, np_yes ha, a4, a5, hb, f3, f4, f5, f6, f8, e4, e5, e7, g1, g2, b0, b4, e6, hS3, s1]
            refine lx_next hx (hk _ ?_)
            refine RR.pt2 (p := ja) hG hV hn (fun a k hg => ?_) (fun k => by simp [gi_l, gl_l]) (by simp [gi_i, gl_i]) (fun q hq e => ?_) ?_
            · unfold gcell at hg
              simp only [gi_i, gl_i]
              repeat rw [if_neg (by omega)]
            · rw [vw_si (nf_m hq e (by unfold isM; omega)), vw_si (nf_m hq e (by unfold isM; omega)), vw_si (nofoot hq (by omega)), vw_si (nofoot hq (by omega)), vw_si (nf_x0 hp hq e)]
            · rw [vw_mi hp (by unfold isM; omega), vw_mi hp (by unfold isM; omega), vw_si (nofoot hp (by omega)), vw_si (nofoot hp (by omega)), vw_xi0 hp]
              rw [si_same (o := 224) (k := 0) (by rw [gi_i, gi_i]; simp; rw [← vm_i (by unfold isM; omega), e4, e6])]
              exact (hv.powr hn (.inl ⟨rfl, .inr (f4.trans s1)⟩)).up
        · have s1 : ¬ nI s = 0 := nI_ne0 (by omega) (by omega)
          have s2 : ¬ nI s ≤ 0 := nI_nle (by omega) (by omega)
          have s3 : 0 < nI s := nI_lt (a := 0) (by omega) (by omega)
          have T := fun (kd tm idl : Int32) (post : fw_S → Prop) => tell_ex (S := fw_si S (pO ja) 3 1) (o := pO ja) (kd := kd) (tm := tm) (idl := idl) (post := post) (by rw [gi_i, if_neg (by omega)]; exact f1) (by rw [gi_i, if_neg (by omega)]; exact f2) hq.2.1.2 hz
          have TI : ∀ (a j : Nat) (kd tm wh idl : Int32), 209 ≤ a → (tellS (pO ja) (pO ja + rw_ h z) (fw_si S (pO ja) 3 1) kd tm wh idl).1 a j = S.1 a j := fun a j kd tm wh idl h => by
            rw [tell_i (by omega), gi_i, if_neg (by omega)]
          have hM : ∀ (S' : fw_S) (kd idl : Int32) (post : fw_S → Prop), S'.1 221 ja = nI z → wp_M_put S' 209 (nI ja) kd idl post = post (mputS ja (144 * ja + 6 * z) (24 * ja + z) S' kd (S'.1 209 1) idl) := fun S' kd idl post h => mput_ex ha h hz
          rcases hm.2.1.2 with b0 | b0
          all_goals
            have b0 : S.1 (pO ja) 4 = _ := b0
            simp [gi_i, gl_i, gl_l, gi_l, z0, z1, lgs, v0, v1, v2, wp_Law_power, wp_Out_power, wp_Point_setPower, wp_Point_setPower_15, wp_Point_setPower_16, wp_Point_setPower_43, wp_Point_dropIfUnreachable, wp_Point_dropIfUnreachable_12, wp_Point_isReachable, wp_Point_isReachable_18, wp_Point_isReachable_19, wp_Point_end, wp_M_power, wp_M_power_26, wp_M_power_27, wp_M_power_54, wp_M_power_74, wp_M_ends, wp_M_thrown, fw_bz, fz0, fz1, mput_i, mput_l, pt_yes ha, np_yes ha, a4, a5, hb, f3, f4, f5, f6, f8, e4, e5, e7, g1, g2, b0, b4, e6, hS3, s1, s2, s3, T, TI, tell_l, hM, hw.1]
            refine lx_next hx (hk _ ?_)
            refine RR.pt2 (p := ja) hG hV hn (fun a k hg => ?_) (fun k => by simp [gi_l, gl_l, mput_l, tell_l]) (by simp [gi_i, gl_i, mput_i]) (fun q hq e => ?_) ?_
            · unfold gcell at hg
              have hma : ¬ a = 225 ∧ ¬ a = 221 ∧ ¬ a = 222 := by omega
              have hta : a = pO ja ∨ a = pO ja + 1 ∨ a < pO ja ∨ pO ja + 31 ≤ a := by omega
              simp only [gi_i, gl_i, mput_i hma, tell_i hta]
              repeat rw [if_neg (by omega)]
            · rw [vw_si (nf_m hq e (by unfold isM; omega)), vwo_mput hq e hz, vw_si (nf_m hq e (by unfold isM; omega)), vw_si (nf_m hq e (by unfold isM; omega)), vw_si (nofoot hq (by omega)), vw_si (nofoot hq (by omega)), vw_si (nf_x0 hp hq e), vw_si (nf_x0 hp hq e), vwo_tell hp hq e hr, vw_si (nf_x0 hp hq e)]
            · rw [vw_mi hp (by unfold isM; omega), vw_mput hp hz, vw_mi hp (by unfold isM; omega), vw_mi hp (by unfold isM; omega), vw_si (nofoot hp (by omega)), vw_si (nofoot hp (by omega)), vw_xi0 hp, vw_xi0 hp, vw_tell hp hr, vw_xi0 hp]
              rw [si_same (o := 224) (k := 0) (by rw [gi_i, gi_i, gi_i, tell0_i (by omega), gi_i]; simp; rw [← vm_i (by unfold isM; omega), e4, e6])]
              exact (pow_view hm hc hq hs hbb hkk hs0 b4 hw.2).up
      · have b4 : S.1 (pO ja) 3 = 1 := b4
        rcases hm.2.1.2 with b0 | b0
        · have b0 : S.1 (pO ja) 4 = 0 := b0
          have e6 : S.1 (pO ja) 9 = 0 := by
            rcases e3 with q | q
            · exact q
            · exact absurd (b0.symm.trans q.2) (by decide)
          have hS3 : fw_si (fw_si S (pO ja) 3 1) (pO ja) 9 0 = S := by
            rw [si_same (A := S) b4, si_same e6]
          simp [gi_i, gl_i, gl_l, gi_l, z0, z1, lgs, v0, v1, v2, wp_Law_power, wp_Out_power, wp_Point_setPower, wp_Point_setPower_15, wp_Point_setPower_16, wp_Point_setPower_43, wp_Point_dropIfUnreachable, wp_Point_dropIfUnreachable_12, wp_Point_isReachable, wp_Point_isReachable_18, wp_Point_isReachable_19, wp_Point_end, wp_M_power, wp_M_power_26, wp_M_power_27, wp_M_power_54, wp_M_power_74, wp_M_ends, wp_M_thrown, fw_bz, fz0, fz1, mput_i, mput_l, pt_yes ha, np_yes ha, a4, a5, hb, f3, f4, f5, f6, f8, e4, e5, e7, g1, g2, b0, b4, e6, hS3]
          rw [si_same (o := 224) (k := ja) (by simp [gi_i, e4, e6]), si_same (o := 215) (k := ja) (by simp [gi_i, f6, b4])]
          exact lx_next hx (hk _ (hR.thrown.unk.up hn))
        · have b0 : S.1 (pO ja) 4 = 1 := b0
          have hS3 : fw_si S (pO ja) 3 1 = S := si_same b4
          simp [gi_i, gl_i, gl_l, gi_l, z0, z1, lgs, v0, v1, v2, wp_Law_power, wp_Out_power, wp_Point_setPower, wp_Point_setPower_15, wp_Point_setPower_16, wp_Point_setPower_43, wp_Point_dropIfUnreachable, wp_Point_dropIfUnreachable_12, wp_Point_isReachable, wp_Point_isReachable_18, wp_Point_isReachable_19, wp_Point_end, wp_M_power, wp_M_power_26, wp_M_power_27, wp_M_power_54, wp_M_power_74, wp_M_ends, wp_M_thrown, fw_bz, fz0, fz1, mput_i, mput_l, pt_yes ha, np_yes ha, a4, a5, hb, f3, f4, f5, f6, f8, e4, e5, e7, g1, g2, b0, b4, hS3]
          rw [si_same (o := 224) (k := ja) (by simp [gi_i, e4]), si_same (o := 215) (k := ja) (by simp [gi_i, f6, b4])]
          exact lx_next hx (hk _ (hR.thrown.unk.up hn))
  · by_cases hb : b = 0
    all_goals simp [gi_i, gl_i, gl_l, gi_l, z0, z1, lgs, v0, v1, v2, wp_Law_power, wp_Out_power, wp_Point_setPower, wp_Point_setPower_15, wp_Point_setPower_16, wp_Point_setPower_43, wp_Point_dropIfUnreachable, wp_Point_dropIfUnreachable_12, wp_Point_isReachable, wp_Point_isReachable_18, wp_Point_isReachable_19, wp_Point_end, wp_M_power, wp_M_power_26, wp_M_power_27, wp_M_power_54, wp_M_power_74, wp_M_ends, wp_M_thrown, fw_bz, fz0, fz1, mput_i, mput_l, hb, pt_lo a1, np_lo a1]
    all_goals exact lx_next hx (hk _ (hR.thrown.unk.up hn))
  · by_cases hb : b = 0
    all_goals simp [gi_i, gl_i, gl_l, gi_l, z0, z1, lgs, v0, v1, v2, wp_Law_power, wp_Out_power, wp_Point_setPower, wp_Point_setPower_15, wp_Point_setPower_16, wp_Point_setPower_43, wp_Point_dropIfUnreachable, wp_Point_dropIfUnreachable_12, wp_Point_isReachable, wp_Point_isReachable_18, wp_Point_isReachable_19, wp_Point_end, wp_M_power, wp_M_power_26, wp_M_power_27, wp_M_power_54, wp_M_power_74, wp_M_ends, wp_M_thrown, fw_bz, fz0, fz1, mput_i, mput_l, hb, pt_hi a1 a2, np_hi a1 a3]
    all_goals exact lx_next hx (hk _ (hR.thrown.unk.up hn))
