set_option maxHeartbeats 8000000 in
theorem op_carry {L i n : Nat} {xs : Nat → Int32} {k : fw_S → Int32 → Prop} {S : fw_S} (hx : LX L i) (hn : n < 512) (hR : RR n S) (hk : ∀ S', RR (n + 1) S' → k S' (nI (i + 5))) : wp_Law_law_856 L xs k S (nI i) := by
  have hx1 := hx.1
  have hx2 := hx.2
  have v0 : (nI i).toNatClampNeg ≤ 2560 := by rw [nI_clamp (by omega)]; omega
  have v1 : vp_in (nI i + 1) L := lx_in (c := 1) hx (by omega)
  generalize ea : xs (nI i + 1).toNatClampNeg = a
  rcases ixc a 5 (M := 6) (H := 5) (by omega) rfl rfl with ⟨ja, ha, rfl, a1, a2, a3, a4, a5⟩ | a1 | ⟨a1, a2, a3⟩
  · obtain ⟨t, hG, hK, hV⟩ := id hR
    have hp : ja < 6 := by omega
    have hv := hV ja hp
    have e4 := hv.uw
    obtain ⟨w, s, ls, z, h, u, g, hm, hc, hq, hs, hb, hkk⟩ := hV ja hp
    have hpo := pO_lt hp
    have e5 : ∀ a, 180 ≤ a → ¬ pO ja = a := fun a _ => by omega
    have e7 : ∀ a, 210 ≤ a → ¬ a = pO ja := fun a _ => by omega
    obtain ⟨g1, g2, g3, g4⟩ := hG.1
    have f1 : S.1 (pO ja + 2) 1 = nI h := hq.2.1.1
    have f2 : S.1 (pO ja + 2) 3 = nI z := hq.1.1
    have f3 : S.1 221 ja = nI z := hq.1.2.1
    have hh := hq.2.1.2
    have hz := hq.1.2.2.1
    have hw1 : w ≤ 7360 * t := hm.2.2.1.2.2
    rcases hq.2.2.2.2.1.2 with b | ⟨z0', bp, bl, b⟩
    · have b : S.1 (pO ja) 9 = 0 := b
      unfold wp_Law_law_856 wp_Law_law_909
      simp only [v0, v1, ea, true_and]
      simp [gi_i, gl_i, gl_l, gi_l, z0, z1, lgs, v0, v1, wp_Law_carry, wp_Out_carry, wp_Out_carry_63, wp_Queue_removeFirst, wp_Queue_removeFirst_35, wp_Office_takeIn, wp_Office_takeIn_109, wp_Bill_begin, wp_Bill_grow, wp_Bill_cents, wp_Office_close, wp_Office_close_99, wp_M_carry, wp_M_carry_54, wp_M_takeIn, wp_M_takeIn_189, wp_M_cell, wp_M_charge, wp_M_close, wp_M_close_117, wp_M_thrown, fz0, fz1, pt_yes ha, np_yes ha, a4, a5, e4, e5, e7, b]
      exact lx_next hx (hk _ (hR.out.thrown.unk.up hn))
    · rcases b with b | ⟨b, rfl⟩
      · have b : S.1 (pO ja) 9 = 1 := b
        have F1 := fun (post : fw_S → Nat → Prop) => first_ex (S := S) (o := pO ja) (post := post) f1 hh
        have FN := fun (post : fw_S → Int32 → Prop) => firstn_ex (S := S) (o := pO ja) (post := post) f2 z0' hz
        have hu := hq.2.2.2.2.2.1
        have d1 : (24 : Int32) * nI ja = nI (24 * ja) := pk_mul 24 ja
        have d2 : (6 : Int32) * nI (24 * ja) = nI (144 * ja) := by
          rw [show (6 : Int32) * nI (24 * ja) = nI (6 * (24 * ja)) from pk_mul 6 _]
          exact congrArg nI (by omega)
        have dj : ∀ j : Nat, j ≤ 5 → vp_in (nI (144 * ja + j)) 864 ∧ (nI (144 * ja + j)).toNatClampNeg = 144 * ja + j := fun j hj => ⟨vp_in_nI (by omega) (by omega), nI_clamp (by omega)⟩
        have d3 := dj 0 (by omega)
        rw [Nat.add_zero] at d3
        have yy := hq.2.2.2.2.2.2 0 z0'
        have y0 : S.1 225 (144 * ja) = S.1 (pO ja + 2) 2 - nI z + nI 0 := by
          have := yy.1
          rw [← vq_i (by omega)] at this
          exact this
        rw [show nI 0 = 0 from rfl, Int32.add_zero] at y0
        have x1 : S.1 233 ja = S.1 12 ja := hu.1
        rcases Nat.eq_or_lt_of_le hu.2.1 with rfl | hu1
        · -- it was taken before
          have hN : ¬ S.1 (pO ja + 2) 2 - nI z = S.1 12 ja + 1 := by
            have e := hu.2.2.2
            have e : S.1 12 ja + 1 = S.1 (pO ja + 2) 2 - nI z + nI 1 := e
            rw [e]
            intro q
            have := congrArg (fun x => x - (S.1 (pO ja + 2) 2 - nI z)) q
            simp at this
            rw [Int32.add_comm] at this
            simp at this
            exact absurd this (by decide)
          unfold wp_Law_law_856 wp_Law_law_909
          simp only [v0, v1, ea, true_and]
          simp [gi_i, gl_i, gl_l, gi_l, z0, z1, lgs, v0, v1, wp_Law_carry, wp_Out_carry, wp_Out_carry_63, wp_Queue_removeFirst, wp_Queue_removeFirst_35, wp_Office_takeIn, wp_Office_takeIn_109, wp_Bill_begin, wp_Bill_grow, wp_Bill_cents, wp_Office_close, wp_Office_close_99, wp_M_carry, wp_M_carry_54, wp_M_takeIn, wp_M_takeIn_189, wp_M_cell, wp_M_charge, wp_M_close, wp_M_close_117, wp_M_thrown, fz0, fz1, pt_yes ha, np_yes ha, a4, a5, e4, e5, e7, b, F1, FN, d1, d2, d3, y0, x1, hN]
          refine lx_next hx (hk _ ?_)
          refine RR.pt2 (p := ja) hG hV hn (fun a k hg => ?_) (fun k => by simp [gi_l, gl_l]) (by simp [gi_i, gl_i]) (fun q hq e => ?_) ?_
          · unfold gcell at hg
            simp only [gi_i, gl_i]
            repeat rw [if_neg (by omega)]
          · rw [vw_si (nf_m hq e (by unfold isM; omega)), vw_si (nofoot hq (by omega)), vw_si (nofoot hq (by omega)), vw_sl (nofoot hq (by omega)), vw_si (nf_x0 hp hq e)]
          · rw [vw_mi hp (by unfold isM; omega), vw_si (nofoot hp (by omega)), vw_si (nofoot hp (by omega)), vw_sl (nofoot hp (by omega)), vw_xi0 hp]
            exact (RV.again hm hc hq hs hb hkk z0' bp bl).up
        · have hu0 : u = 0 := by omega
          subst hu0
          obtain ⟨k0, w0, c, a, ii, b0, q1, q2, q3, q4, q5, ⟨q6, q7⟩, ⟨q8, q9⟩, ⟨q10, q11⟩, q12, q13⟩ := hs.first z0'
          have hr : rw_ h 0 < 31 := by unfold rw_; omega
          rw [← vx_i hr] at q2 q3 q7 q9 q11
          have q5 : k0 = 0 ↔ ¬ S.1 (13 + ja) 0 = 1 := q5
          have q12 : S.1 (13 + ja) 5 = nI b0 := q12
          rcases (show k0 = 0 ∨ k0 = 1 ∨ k0 = 2 by omega) with rfl | rfl | rfl
          · exact carry_start hx hn hk ea ha hG hV hm hc hq hs hb hkk z0' bp bl b q2 q3 q4 (q5.mp rfl) q6 q7 q8 q9 q10 q11 q12 q13
          · exact carry_read hx hn hk ea ha hG hV hm hc hq hs hb hkk z0' bp bl b q2 q3 q4 (Classical.byContradiction fun q => absurd (q5.mpr q) (by decide)) q6 q7 q8 q9 q10 q11 q12 q13
          · exact carry_stop hx hn hk ea ha hG hV hm hc hq hs hb hkk z0' bp bl b q2 q3 q4 (Classical.byContradiction fun q => absurd (q5.mpr q) (by decide)) q6 q7 q8 q9 q10 q11 q12 q13
      · have b : S.1 (pO ja) 9 = 2 := b
        obtain ⟨z', rfl⟩ : ∃ z', z = z' + 1 := ⟨z - 1, by omega⟩
        have r1 : nI h + 1 - (nI h + 1) / 24 * 24 = nI ((h + 1) % 24) := ring24 (z := 1) hh (by omega)
        have r2 : nI (z' + 1) - 1 = nI z' := nI_pred z'
        have r3 : ¬ nI (z' + 1) ≤ 0 := nI_nle (by omega) (by omega)
        have r4 : 0 < nI (z' + 1) := nI_lt (a := 0) (by omega) (by omega)
        unfold wp_Law_law_856 wp_Law_law_909
        simp only [v0, v1, ea, true_and]
        simp [gi_i, gl_i, gl_l, gi_l, z0, z1, lgs, v0, v1, wp_Law_carry, wp_Out_carry, wp_Out_carry_63, wp_Queue_removeFirst, wp_Queue_removeFirst_35, wp_Office_takeIn, wp_Office_takeIn_109, wp_Bill_begin, wp_Bill_grow, wp_Bill_cents, wp_Office_close, wp_Office_close_99, wp_M_carry, wp_M_carry_54, wp_M_takeIn, wp_M_takeIn_189, wp_M_cell, wp_M_charge, wp_M_close, wp_M_close_117, wp_M_thrown, fz0, fz1, pt_yes ha, np_yes ha, a4, a5, e4, e5, e7, b, f1, f2, r1, r2, r3, r4]
        refine goes_ex ha (z := z') (by omega) (by simp [gi_i, gl_i, f3, e5, e7]) ?_
        simp [gi_i, gl_i, gl_l, gi_l, sh_i, sh_l, lgs]
        refine lx_next hx (hk _ ?_)
        refine RR.pt2 (p := ja) hG hV hn (fun a k hg => ?_) (fun k => by simp [gi_l, gl_l, sh_l]) (by simp [gi_i, gl_i, sh_i]) (fun q hq e => ?_) ?_
        · unfold gcell at hg
          simp only [gi_i, gl_i, sh_i]
          repeat rw [if_neg (by omega)]
        · rw [vw_si (nf_m hq e (by unfold isM; omega)), vw_si (nf_m hq e (by unfold isM; omega)), vwo_shX hp hq e (by omega), vw_si (nf_m hq e (by unfold isM; omega)), vw_si (nofoot hq (by omega)), vw_si (nofoot hq (by omega)), vw_sl (nofoot hq (by omega)), vw_si (nf_x0 hp hq e), vw_si (nf_x hp hq e (by omega)), vw_si (nf_x hp hq e (by omega)), vw_si (nf_x hp hq e (by omega))]
        · rw [vw_mi hp (by unfold isM; omega), vw_mi hp (by unfold isM; omega), vw_shX hp (by omega), vw_mi hp (by unfold isM; omega), vw_si (nofoot hp (by omega)), vw_si (nofoot hp (by omega)), vw_sl (nofoot hp (by omega)), vw_xi0 hp, vw_xi hp (by omega), vw_xi hp (by omega), vw_xi hp (by omega)]
          refine (RV.goes hm hc hq hs hb hkk ?_).up
          refine ⟨fun o k ho => ?_, fun o k ho => ?_, by simp [gi_i, sh_i], by simp [gi_i, sh_i], fun c hc => ?_, fun k hk => ?_⟩
          · simp only [gi_i, sh_i]
            repeat rw [if_neg (by omega)]
          · simp only [gi_l, sh_l]
            rw [if_neg (by omega)]
          · simp only [gi_i, sh_i, true_and]
            rw [if_neg (by omega), if_neg (by omega), if_pos (by omega)]
            repeat rw [if_neg (by omega)]
          · simp only [gi_l, sh_l, true_and]
            rw [if_pos (by omega)]
  · unfold wp_Law_law_856 wp_Law_law_909
    simp only [v0, v1, ea, true_and]
    simp [gi_i, gl_i, gl_l, gi_l, z0, z1, lgs, v0, v1, wp_Law_carry, wp_Out_carry, wp_M_carry, wp_M_carry_54, wp_M_thrown, pt_lo a1, np_lo a1]
    exact lx_next hx (hk _ (hR.thrown.unk.up hn))
  · unfold wp_Law_law_856 wp_Law_law_909
    simp only [v0, v1, ea, true_and]
    simp [gi_i, gl_i, gl_l, gi_l, z0, z1, lgs, v0, v1, wp_Law_carry, wp_Out_carry, wp_M_carry, wp_M_carry_54, wp_M_thrown, pt_hi a1 a2, np_hi a1 a3]
    exact lx_next hx (hk _ (hR.thrown.unk.up hn))
