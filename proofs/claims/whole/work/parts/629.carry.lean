theorem nf_b {p q k : Nat} (hq : q < 6) (e : q ≠ p) (hp : p < 6) : ¬ foot q (13 + p) k := by
  have h2 := pO_lt hq
  unfold foot
  omega
theorem nf_t {p q : Nat} (hq : q < 6) (e : q ≠ p) : ¬ foot q 12 p := by
  have h2 := pO_lt hq
  unfold foot
  omega
set_option maxHeartbeats 8000000 in
theorem carry_start {L i n ja t w s ls z h : Nat} {g : Int} {xs : Nat → Int32} {k : fw_S → Int32 → Prop} {S : fw_S} (hx : LX L i) (hn : n < 512) (hk : ∀ S', RR (n + 1) S' → k S' (nI (i + 5))) (ea : xs (nI i + 1).toNatClampNeg = nI ja) (ha : ja ≤ 5) (hG : RG S t n) (hV : ∀ q, q < 6 → RV (vw q S) t n)
    (hm : RVm (vw ja S) t n w s ls) (hc : RVc (vw ja S) t s g) (hq : RVq (vw ja S) t w s z h 0) (hs : RVs (vw ja S) t w s z h 0) (hb : RVb (vw ja S) t w) (hkk : RVk (vw ja S)) (z0' : 0 < z) (bp : (vw ja S).1 0 3 = 1) (bl : (vw ja S).1 0 4 = 1) (b : S.1 (pO ja) 9 = 1)
    {w0 c a ii b0 : Nat} (m0 : S.1 (pO ja + rw_ h 0) 0 = 0) (m4 : S.1 (pO ja + rw_ h 0) 4 = nI w0) (hw0 : 3600 * w0 ≤ w) (hop : ¬ S.1 (13 + ja) 0 = 1) (hc16 : c < 16) (m2 : S.1 (pO ja + rw_ h 0) 2 = nI c) (ha' : a ≤ t) (m3 : S.1 (pO ja + rw_ h 0) 3 = nI a) (hii : ii ≤ t) (m5 : S.1 (pO ja + rw_ h 0) 5 = nI ii) (hb0 : S.1 (13 + ja) 5 = nI b0) (hbw : b0 ≤ w0) : wp_Law_law_856 L xs k S (nI i) := by
  have hx1 := hx.1
  have hx2 := hx.2
  have v0 : (nI i).toNatClampNeg ≤ 2560 := by rw [nI_clamp (by omega)]; omega
  have v1 : vp_in (nI i + 1) L := lx_in (c := 1) hx (by omega)
  have hp : ja < 6 := by omega
  have e4 := (hV ja hp).uw
  have a4 : vp_in (nI ja) 6 := vp_in_nI (by omega) (by omega)
  have a5 : (nI ja).toNatClampNeg = ja := nI_clamp (by omega)
  have hpo := pO_lt hp
  have hr : 4 ≤ rw_ h 0 ∧ rw_ h 0 < 28 := by unfold rw_; omega
  have e5 : ∀ a, 180 ≤ a → ¬ pO ja = a := fun a _ => by omega
  have e7 : ∀ a, 210 ≤ a → ¬ a = pO ja := fun a _ => by omega
  have e8 : ∀ a, a < 21 → ¬ pO ja + rw_ h 0 = a := fun a _ => by omega
  have e9 : ¬ pO ja + rw_ h 0 = 13 + ja := by omega
  have e10 : ∀ a, 20 < a → ¬ 13 + ja = a := fun a _ => by omega
  have nlr : ∀ a, a < 13 → ¬ 13 + ja = a := fun a _ => by omega
  have bad : 9 + (4 + ja) = 13 + ja := by omega
  have e11 : ∀ a, 20 < a → ¬ a = 13 + ja := fun a _ => by omega
  have e12 : ∀ a, a < 13 → ¬ a = 13 + ja := fun a _ => by omega
  have e13 : ¬ pO ja = 13 + ja := by omega
  have e14 : ¬ 13 + ja = pO ja := by omega
  obtain ⟨g1, g2, g3, g4⟩ := hG.1
  have f1 : S.1 (pO ja + 2) 1 = nI h := hq.2.1.1
  have f2 : S.1 (pO ja + 2) 3 = nI z := hq.1.1
  have hh := hq.2.1.2
  have hz := hq.1.2.2.1
  have hw1 : w ≤ 7360 * t := hm.2.2.1.2.2
  have F1 := fun (post : fw_S → Nat → Prop) => first_ex (S := S) (o := pO ja) (post := post) f1 hh
  have FN := fun (post : fw_S → Int32 → Prop) => firstn_ex (S := S) (o := pO ja) (post := post) f2 z0' hz
  have hu := hq.2.2.2.2.2.1
  have hN : S.1 (pO ja + 2) 2 - nI z = S.1 12 ja + 1 := by
    have e : S.1 12 ja + 1 = S.1 (pO ja + 2) 2 - nI z + nI 0 := hu.2.2.2
    rw [show nI 0 = 0 from rfl, Int32.add_zero] at e
    exact e.symm
  have d1 : (24 : Int32) * nI ja = nI (24 * ja) := pk_mul 24 ja
  have d2 : (6 : Int32) * nI (24 * ja) = nI (144 * ja) := by
    rw [show (6 : Int32) * nI (24 * ja) = nI (6 * (24 * ja)) from pk_mul 6 _]
    exact congrArg nI (by omega)
  have dj : ∀ j : Nat, j ≤ 5 → nI (144 * ja) + nI j = nI (144 * ja + j) ∧ vp_in (nI (144 * ja + j)) 864 ∧ (nI (144 * ja + j)).toNatClampNeg = 144 * ja + j := fun j hj => ⟨nI_add _ _, vp_in_nI (by omega) (by omega), nI_clamp (by omega)⟩
  have d3 := (dj 0 (by omega)).2
  rw [Nat.add_zero] at d3
  have dj1 : nI (144 * ja) + 1 = nI (144 * ja + 1) ∧ _ := dj 1 (by omega)
  have dj2 : nI (144 * ja) + 2 = nI (144 * ja + 2) ∧ _ := dj 2 (by omega)
  have dj3 : nI (144 * ja) + 3 = nI (144 * ja + 3) ∧ _ := dj 3 (by omega)
  have dj4 : nI (144 * ja) + 4 = nI (144 * ja + 4) ∧ _ := dj 4 (by omega)
  have dj5 : nI (144 * ja) + 5 = nI (144 * ja + 5) ∧ _ := dj 5 (by omega)
  have dv : vp_in (nI (24 * ja)) 144 ∧ (nI (24 * ja)).toNatClampNeg = 24 * ja := ⟨vp_in_nI (by omega) (by omega), nI_clamp (by omega)⟩
  have yy := hq.2.2.2.2.2.2 0 z0'
  have y0 : S.1 225 (144 * ja) = S.1 12 ja + 1 := by
    have := yy.1
    rw [← vq_i (by omega)] at this
    have this : S.1 225 (144 * ja) = S.1 (pO ja + 2) 2 - nI z + nI 0 := this
    rw [this, show nI 0 = 0 from rfl, Int32.add_zero, hN]
  have y1 : S.1 225 (144 * ja + 1) = 1 := by
    have := yy.2.1
    rw [← vq_i (by omega), ← vx_i (by omega)] at this
    exact this.trans (by rw [m0]; rfl)
  have y2 : S.1 225 (144 * ja + 2) = S.1 (pO ja + rw_ h 0) 1 := by
    have := yy.2.2.1
    rw [← vq_i (by omega), ← vx_i (by omega)] at this
    exact this
  have y3 : S.1 225 (144 * ja + 3) = nI c := by
    have := yy.2.2.2.1
    rw [← vq_i (by omega), ← vx_i (by omega)] at this
    exact this.trans m2
  have y4 : S.1 225 (144 * ja + 4) = nI a := by
    have := yy.2.2.2.2.1
    rw [← vq_i (by omega), ← vx_i (by omega)] at this
    exact this.trans m3
  have y5 : S.1 225 (144 * ja + 5) = nI ii := by
    have := yy.2.2.2.2.2.1
    rw [← vq_i (by omega), ← vx_i (by omega)] at this
    exact this.trans m5
  have y6 : S.2 226 (24 * ja) = lN w0 := by
    have := yy.2.2.2.2.2.2
    rw [← vq_l (by omega), ← vx_i (by omega)] at this
    exact this.trans (by rw [m4, nI_l (by omega)])
  have x1 : S.1 233 ja = S.1 12 ja := hu.1
  obtain ⟨⟨q1, q2⟩, q3, ⟨q4, cb, hcb, q5⟩, q6, ⟨at', hat, q7, q8⟩, b', ff, q9, q10, q11, q12, q13, q14, q15⟩ := hb
  have hbb : b' = b0 := nI_inj (by omega) (by omega) (q9.symm.trans hb0)
  subst hbb
  have x2 : S.1 234 ja = S.1 (13 + ja) 0 := q1
  have x3 : S.1 (13 + ja) 5 = nI b' := q9
  have x4 : S.2 238 ja = lN b' := q10
  have x5 : S.1 (13 + ja) 6 = nI at' := q8
  have x6 : S.1 240 ja = nI at' := q7
  have x7 : S.1 (13 + ja) 2 = nI cb := q5
  have x8 : S.1 236 ja = nI cb := q4.trans q5
  have x9 : S.2 237 ja = S.2 (13 + ja) 3 := q6
  have m0' : (vw ja S).1 (rw_ h 0) 0 = nI 0 := (vx_i (by omega)).symm.trans m0
  have m4' : (vw ja S).1 (rw_ h 0) 4 = nI w0 := (vx_i (by omega)).symm.trans m4
  unfold wp_Law_law_856 wp_Law_law_909
  simp only [v0, v1, ea, true_and]
  obtain ⟨fee, hfee, t1⟩ := hG.2.2.2.1.2.1
  have t2 : S.1 209 5 = nI fee := hG.2.2.2.1.1.symm.trans t1
  have t3 : (nI fee).toInt64 = lN fee := nI_l (by omega)
  simp [gi_i, gl_i, gl_l, gi_l, z0, z1, lgs, v0, v1, wp_Law_carry, wp_Out_carry, wp_Out_carry_63, wp_Office_takeIn, wp_Office_takeIn_109, wp_Bill_begin, wp_Bill_grow, wp_Bill_cents, wp_Office_close, wp_Office_close_99, wp_M_carry, wp_M_carry_54, wp_M_takeIn, wp_M_takeIn_189, wp_M_cell, wp_M_charge, wp_M_close, wp_M_close_117, wp_M_thrown, fz0, fz1, pt_yes ha, np_yes ha, a4, a5, e4, e5, e7, b, F1, FN, hN, d1, d2, d3, dj1, dj2, dj3, dj4, dj5, dv, y0, y1, y2, y3, y4, y5, y6, m0, m2, m3, m4, m5, x1, x2, x3, x4, x5, x6, x7, x8, x9, nlr, e8, e9, e10, bad, e11, e12, e13, e14, t1, t2, t3]
  refine lx_next hx (hk _ ?_)
  refine RR.pt2 (p := ja) hG hV hn (fun a k hg => ?_) (fun k => by simp [gi_l, gl_l, e11, e12]) (by simp [gi_i, gl_i, e11, e12]) (fun q hq e => ?_) ?_
  · unfold gcell at hg
    simp only [gi_i, gl_i]
    repeat rw [if_neg (by omega)]
  · rw [vw_si (nf_m hq e (by unfold isM; omega)), vw_si (nf_m hq e (by unfold isM; omega)), vw_sl (nf_m hq e (by unfold isM; omega)), vw_sl (nf_m hq e (by unfold isM; omega)), vw_sl (nf_m hq e (by unfold isM; omega)), vw_si (nf_m hq e (by unfold isM; omega)), vw_si (nf_m hq e (by unfold isM; omega)), vw_si (nf_m hq e (by unfold isM; omega)), vw_si (nf_m hq e (by unfold isM; omega)), vw_si (nofoot hq (by omega)), vw_si (nofoot hq (by omega)), vw_sl (nofoot hq (by omega)), vw_si (nf_x0 hp hq e), vw_si (nf_b hq e hp), vw_si (nf_b hq e hp), vw_si (nf_b hq e hp), vw_sl (nf_b hq e hp), vw_si (nf_b hq e hp), vw_si (nf_b hq e hp), vw_si (nf_b hq e hp), vw_si (nf_t hq e)]
  · rw [vw_mi hp (by unfold isM; omega), vw_mi hp (by unfold isM; omega), vw_ml hp (by unfold isM; omega), vw_ml hp (by unfold isM; omega), vw_ml hp (by unfold isM; omega), vw_mi hp (by unfold isM; omega), vw_mi hp (by unfold isM; omega), vw_mi hp (by unfold isM; omega), vw_mi hp (by unfold isM; omega), vw_si (nofoot hp (by omega)), vw_si (nofoot hp (by omega)), vw_sl (nofoot hp (by omega)), vw_xi0 hp, vw_bi hp, vw_bi hp, vw_bi hp, vw_bl hp, vw_bi hp, vw_bi hp, vw_bi hp, vw_ti hp]
    refine (RV.take (k0 := 0) (w0 := w0) hm hc hq hs hkk z0' bp bl ?_ ?_ (by omega) (by omega) m0' m4' hw0 (by simp [gi_i, gl_i]) (by simp [gi_i, gl_i])).up
    · refine ⟨fun o k ho => ?_, fun o k ho => ?_, by simp [gi_i, gl_i], by simp [gi_i, gl_i], ?_, ?_⟩
      · simp only [gi_i, gl_i]
        repeat rw [if_neg (by omega)]
      · simp only [gi_l, gl_l]
        repeat rw [if_neg (by omega)]
      · simp [gi_i, gl_i]
        rfl
      · simp [gi_i, gl_i]
        rfl
    · refine ⟨⟨by simp [gi_i, gl_i], .inr (by simp [gi_i, gl_i])⟩, by simp [gi_i, gl_i], ⟨by simp [gi_i, gl_i], c, hc16, by simp [gi_i, gl_i]⟩, by simp [gi_l, gl_l], ⟨a, ha', by simp [gi_i, gl_i], by simp [gi_i, gl_i]⟩, w0, w0, by simp [gi_i, gl_i], by simp [gi_l, gl_l], by simp [gi_i, gl_i], by simp [gi_l, gl_l], by omega, hw0, fun _ => ⟨fee, by simp [gi_l, gl_l], by omega⟩⟩
