theorem RR.pt2 {n p t : Nat} {S S' : fw_S} (g : RG S t n) (hV : ∀ q, q < 6 → RV (vw q S) t n) (hn : n < 512) (hG : ∀ a k, gcell a k → S'.1 a k = S.1 a k) (hl : ∀ k, S'.2 11 k = S.2 11 k ∧ S'.2 242 k = S.2 242 k) (hK : S'.1 209 39 = 0) (hv : ∀ q, q < 6 → q ≠ p → vw q S' = vw q S) (hvp : RV (vw p S') t (n + 1)) : RR (n + 1) S' := by
  refine ⟨t, (RG_eq hG hl g).up hn, .inl hK, fun q hq => ?_⟩
  by_cases e : q = p
  · subst e
    exact hvp
  · rw [hv q hq e]
    exact (hV q hq).up
theorem idle_ex {S : fw_S} {p t s : Nat} {g : Int} (hc : RVc (vw p S) t s g) (hp : p ≤ 5) (hh : S.1 (pO p + 1) 0 = 1) : ∃ idl, idl ≤ t ∧ (∀ (S' : fw_S) (post : fw_S → Int32 → Prop), S'.1 (pO p + 1) 1 = S.1 (pO p + 1) 1 → S'.1 (pO p + 1) 5 = S.1 (pO p + 1) 5 → wp_Car_idleSeconds S' (pO p + 1) (nI t) post = post S' (nI idl)) ∧ ∀ (S' : fw_S) (post : fw_S → Int32 → Prop), S'.1 227 p = S.1 227 p → S'.1 231 p = S.1 231 p → S'.1 232 p = S.1 232 p → S'.1 209 1 = nI t → wp_M_idle S' 209 (nI p) post = post S' (nI idl) := by
  have a4 : vp_in (nI p) 6 := vp_in_nI (by omega) (by omega)
  have a5 : (nI p).toNatClampNeg = p := nI_clamp (by omega)
  have f1 : S.1 227 p = S.1 (pO p + 1) 0 := hc.1.1
  have f2 : S.1 231 p = S.1 (pO p + 1) 1 := (hc.2.2.2.1 hh).1
  rcases hc.2.1 with b | b
  · have b : S.1 (pO p + 1) 1 = 0 := b
    refine ⟨0, by omega, fun S' post h1 h2 => ?_, fun S' post h1 h2 h3 h4 => ?_⟩
    · simp [wp_Car_idleSeconds, wp_Car_idleSeconds_17, h1, b]
      rfl
    · simp [wp_M_idle, wp_M_idle_32, wp_M_idle_33, a4, a5, h1, h2, f1, f2, hh, b]
      rfl
  · obtain ⟨-, fs, hfs, k1, k2⟩ := hc.2.2.2.2.2.1 b
    have b : S.1 (pO p + 1) 1 = 1 := b
    have k1 : S.1 (pO p + 1) 5 = nI fs := k1
    have k2 : S.1 232 p = nI fs := k2
    have e : nI t - nI fs = nI (t - fs) := pk_sub hfs
    refine ⟨t - fs, by omega, fun S' post h1 h2 => ?_, fun S' post h1 h2 h3 h4 => ?_⟩
    · simp [wp_Car_idleSeconds, wp_Car_idleSeconds_17, h1, h2, b, k1, e]
    · simp [wp_M_idle, wp_M_idle_32, wp_M_idle_33, a4, a5, h1, h2, h3, h4, f1, f2, hh, b, k2, e]
theorem RV.notruns_go {A : fw_S} {t n : Nat} (hn : n < 512) (h : RV A t n) (hr : A.1 0 6 = 0 ∨ A.1 0 3 = 0) : RV (fw_si (fw_si (fw_si (fw_si A 1 0 0) 1 1 0) 1 2 0) 227 0 0) t n := by
  obtain ⟨w, s, ls, z, h0, u, g, hm, hc, hq, hs, hb, hkk⟩ := h
  have hr0 : ∀ k, rw_ h0 k < 31 ∧ 4 ≤ rw_ h0 k := fun k => by unfold rw_; omega
  have r0 : ∀ k a, 31 ≤ a → ¬ rw_ h0 k = a := fun k a _ => by have := hr0 k; omega
  have r2 : ∀ k, ¬ rw_ h0 k = 1 := fun k => by have := hr0 k; omega
  refine ⟨w, s, ls, z, h0, u, g, ?_, ?_, ?_, ?_, ?_, ?_⟩
  · unfold RVm at hm ⊢
    simpa [gi_i, gi_l] using hm
  · unfold RVc bz
    simp [gi_i, gi_l]
    intro q1 q2
    rcases hr with hr | hr
    · have e := hm.2.2.2.1.2.1
      rw [hr] at e
      rcases Nat.lt_or_ge 0 s with q | q
      · exact absurd e.symm (nI_ne0 q (by have := hm.2.2.2.1.2.2.2.2; omega))
      · omega
    · rw [hr] at q2
      exact absurd q2 (by decide)
  · unfold RVq at hq ⊢
    simpa [gi_i, gi_l, r0, r2] using hq
  · unfold RVs at hs ⊢
    simpa [gi_i, gi_l, r0, r2] using hs
  · unfold RVb at hb ⊢
    simpa [gi_i, gi_l] using hb
  · unfold RVk at hkk ⊢
    simpa [gi_i, gi_l] using hkk
set_option maxHeartbeats 4000000 in
theorem op_leave {L i n : Nat} {xs : Nat → Int32} {k : fw_S → Int32 → Prop} {S : fw_S} (hx : LX L i) (hn : n < 512) (hR : RR n S) (hk : ∀ S', RR (n + 1) S' → k S' (nI (i + 5))) : wp_Law_law_597 L xs k S (nI i) := by
  have hx1 := hx.1
  have hx2 := hx.2
  have v0 : (nI i).toNatClampNeg ≤ 2560 := by rw [nI_clamp (by omega)]; omega
  have v1 : vp_in (nI i + 1) L := lx_in (c := 1) hx (by omega)
  unfold wp_Law_law_597 wp_Law_law_651 wp_Law_law_657
  generalize xs (nI i + 1).toNatClampNeg = a
  simp only [v0, v1, true_and]
  rcases ixc a 5 (M := 6) (H := 5) (by omega) rfl rfl with ⟨ja, ha, rfl, a1, a2, a3, a4, a5⟩ | a1 | ⟨a1, a2, a3⟩
  · obtain ⟨t, hG, hK, hV⟩ := id hR
    have hp : ja < 6 := by omega
    obtain ⟨w, s, ls, z, h, u, g, hm, hc, hq, hs, hb, hkk⟩ := hV ja hp
    have hpo := pO_lt hp
    have e5 : ∀ a, 180 ≤ a → ¬ pO ja = a := fun a _ => by omega
    have e7 : ∀ a, 210 ≤ a → ¬ a = pO ja := fun a _ => by omega
    obtain ⟨g1, g2, g3, g4⟩ := hG.1
    have f1 : S.1 (pO ja + 2) 1 = nI h := hq.2.1.1
    have f2 : S.1 (pO ja + 2) 3 = nI z := hq.1.1
    have f3 : S.1 221 ja = nI z := hq.1.2.1
    have f4 : S.1 (pO ja) 6 = nI s := hm.2.2.2.1.2.1
    have f5 : S.1 218 ja = nI s := hm.2.2.2.1.1
    have f6 : S.1 215 ja = S.1 (pO ja) 3 := hm.1.1
    have f7 : S.1 227 ja = S.1 (pO ja + 1) 0 := hc.1.1
    have f8 : S.2 (pO ja) 5 = lN w := hm.2.2.1.2.1
    have hls : s ≤ n := by have := hm.2.2.2.1; omega
    have hw := wh_ok hm.2.2.1.2.2 g3 g4
    rcases hc.1.2 with b1 | b1
    · have b1 : S.1 (pO ja + 1) 0 = 0 := b1
      simp [gi_i, gl_i, gl_l, gi_l, z0, z1, lgs, v0, v1, wp_Law_leave, wp_Law_leave_15, wp_Out_leave, wp_Out_leave_44, wp_M_leave, wp_M_leave_17, wp_M_leave_37, wp_M_thrown, pt_yes ha, np_yes ha, a4, a5, b1, f7]
      refine lx_next hx (hk _ ?_)
      exact hR.out.thrown.unk.up hn
    · have b2 : S.1 (pO ja + 1) 0 = 1 := b1
      have f9 : S.1 231 ja = S.1 (pO ja + 1) 1 := (hc.2.2.2.1 b1).1
      by_cases hs0 : s = 0
      · have s1 : nI s = 0 := by rw [hs0]; rfl
        have s1' : (0 : Int32) ≤ 0 := by decide
        · simp [gi_i, gl_i, gl_l, gi_l, z0, z1, lgs, v0, v1, wp_Law_leave, wp_Law_leave_15, wp_Out_leave, wp_Out_leave_44, wp_Point_runs, wp_Point_runs_18, wp_Point_runs_19, fw_bz, wp_Point_end, wp_Car_go, wp_M_runs, wp_M_runs_22, wp_M_runs_23, wp_M_ends, mput_i, mput_l, fz0, wp_M_leave, wp_M_leave_17, wp_M_leave_37, wp_M_thrown, pt_yes ha, np_yes ha, a4, a5, b2, f3, f4, f5, f6, f7, f8, f9, hw.1, g1, g2, e5, e7, s1, s1']
          refine lx_next hx (hk _ ?_)
          refine RR.pt2 (p := ja) hG hV hn (fun a k hg => ?_) (fun k => by simp [gi_l, gl_l]) (by simp [gi_i, gl_i]) (fun q hq e => ?_) ?_
          · unfold gcell at hg
            simp only [gi_i, gl_i]
            repeat rw [if_neg (by omega)]
          · rw [vw_si (nf_m hq e (by unfold isM; omega)), vw_si (nofoot hq (by omega)), vw_si (nofoot hq (by omega)), vw_sl (nofoot hq (by omega)), vw_si (nf_x hp hq e (by omega)), vw_si (nf_x hp hq e (by omega)), vw_si (nf_x hp hq e (by omega))]
          · rw [vw_mi hp (by unfold isM; omega), vw_si (nofoot hp (by omega)), vw_si (nofoot hp (by omega)), vw_sl (nofoot hp (by omega)), vw_xi hp (by omega), vw_xi hp (by omega), vw_xi hp (by omega)]
            exact ((hV ja hp).notruns_go hn (.inl (f4.trans s1))).up
      · have s1 : ¬ nI s = 0 := nI_ne0 (by omega) (by omega)
        have s2 : ¬ nI s ≤ 0 := nI_nle (by omega) (by omega)
        have s3 : 0 < nI s := nI_lt (a := 0) (by omega) (by omega)
        rcases hm.1.2 with b3 | b3
        · have b4 : S.1 (pO ja) 3 = 0 := b3
          simp [gi_i, gl_i, gl_l, gi_l, z0, z1, lgs, v0, v1, wp_Law_leave, wp_Law_leave_15, wp_Out_leave, wp_Out_leave_44, wp_Point_runs, wp_Point_runs_18, wp_Point_runs_19, fw_bz, wp_Point_end, wp_Car_go, wp_M_runs, wp_M_runs_22, wp_M_runs_23, wp_M_ends, mput_i, mput_l, fz0, wp_M_leave, wp_M_leave_17, wp_M_leave_37, wp_M_thrown, pt_yes ha, np_yes ha, a4, a5, b2, f3, f4, f5, f6, f7, f8, f9, hw.1, g1, g2, e5, e7, s1, s2, s3, b4]
          refine lx_next hx (hk _ ?_)
          refine RR.pt2 (p := ja) hG hV hn (fun a k hg => ?_) (fun k => by simp [gi_l, gl_l]) (by simp [gi_i, gl_i]) (fun q hq e => ?_) ?_
          · unfold gcell at hg
            simp only [gi_i, gl_i]
            repeat rw [if_neg (by omega)]
          · rw [vw_si (nf_m hq e (by unfold isM; omega)), vw_si (nofoot hq (by omega)), vw_si (nofoot hq (by omega)), vw_sl (nofoot hq (by omega)), vw_si (nf_x hp hq e (by omega)), vw_si (nf_x hp hq e (by omega)), vw_si (nf_x hp hq e (by omega))]
          · rw [vw_mi hp (by unfold isM; omega), vw_si (nofoot hp (by omega)), vw_si (nofoot hp (by omega)), vw_sl (nofoot hp (by omega)), vw_xi hp (by omega), vw_xi hp (by omega), vw_xi hp (by omega)]
            exact ((hV ja hp).notruns_go hn (.inr b4)).up
        · have b4 : S.1 (pO ja) 3 = 1 := b3
          have hz := hq.1.2.2.1
          have hr : rw_ h z < 31 := by unfold rw_; omega
          have T := fun (kd tm idl : Int32) (post : fw_S → Prop) => tell_ex (S := S) (o := pO ja) (kd := kd) (tm := tm) (idl := idl) (post := post) f1 f2 hq.2.1.2 hz
          have TI : ∀ (a j : Nat) (kd tm wh idl : Int32), 209 ≤ a → (tellS (pO ja) (pO ja + rw_ h z) S kd tm wh idl).1 a j = S.1 a j := fun a j kd tm wh idl h => tell_i (by omega)
          have hM : ∀ (S' : fw_S) (kd idl : Int32) (post : fw_S → Prop), S'.1 221 ja = nI z → wp_M_put S' 209 (nI ja) kd idl post = post (mputS ja (144 * ja + 6 * z) (24 * ja + z) S' kd (S'.1 209 1) idl) := fun S' kd idl post h => mput_ex ha h hz
          obtain ⟨idl, hidl, I1, I2⟩ := idle_ex hc ha b2
          simp [gi_i, gl_i, gl_l, gi_l, z0, z1, lgs, v0, v1, wp_Law_leave, wp_Law_leave_15, wp_Out_leave, wp_Out_leave_44, wp_Point_runs, wp_Point_runs_18, wp_Point_runs_19, fw_bz, wp_Point_end, wp_Car_go, wp_M_runs, wp_M_runs_22, wp_M_runs_23, wp_M_ends, mput_i, mput_l, fz0, wp_M_leave, wp_M_leave_17, wp_M_leave_37, wp_M_thrown, pt_yes ha, np_yes ha, a4, a5, b2, f3, f4, f5, f6, f7, f8, f9, hw.1, g1, g2, e5, e7, s1, s2, s3, b4, T, TI, tell_l, hM, I1, I2]
          refine lx_next hx (hk _ ?_)
          refine RR.pt2 (p := ja) hG hV hn (fun a k hg => ?_) (fun k => by simp [gi_l, gl_l, mput_l, tell_l]) (by simp [gi_i, gl_i, mput_i]) (fun q hq e => ?_) ?_
          · unfold gcell at hg
            have hma : ¬ a = 225 ∧ ¬ a = 221 ∧ ¬ a = 222 := by omega
            have hta : a = pO ja ∨ a = pO ja + 1 ∨ a < pO ja ∨ pO ja + 31 ≤ a := by omega
            simp only [gi_i, gl_i, mput_i hma, tell_i hta]
            repeat rw [if_neg (by omega)]
          · rw [vw_si (nf_m hq e (by unfold isM; omega)), vw_si (nf_m hq e (by unfold isM; omega)), vwo_mput hq e hz, vw_si (nofoot hq (by omega)), vw_si (nofoot hq (by omega)), vw_sl (nofoot hq (by omega)), vw_si (nf_x hp hq e (by omega)), vw_si (nf_x hp hq e (by omega)), vw_si (nf_x hp hq e (by omega)), vw_si (nf_x0 hp hq e), vw_si (nf_x0 hp hq e), vwo_tell hp hq e hr]
          · rw [vw_mi hp (by unfold isM; omega), vw_mi hp (by unfold isM; omega), vw_mput hp hz, vw_si (nofoot hp (by omega)), vw_si (nofoot hp (by omega)), vw_sl (nofoot hp (by omega)), vw_xi hp (by omega), vw_xi hp (by omega), vw_xi hp (by omega), vw_xi0 hp, vw_xi0 hp, vw_tell hp hr]
            obtain ⟨k1, c, hc16, k2⟩ := hm.2.2.2.2.2 hs0
            refine (RV.stop (g' := g) (c := c) (idl := idl) hm hq hs hb hkk hs0 ?_ hc16 hidl ?_ ?_ ?_).up
            · refine PUT.mk (A1 := vw ja S) (B := fw_si (fw_si (fw_si (fw_si (fw_si (tellS 0 (rw_ h z) (vw ja S) 2 (nI t) (nI (w / 3600)) (nI idl)) 0 6 0) 0 7 (-1)) 1 0 0) 1 1 0) 1 2 0) hz (fun _ _ _ => rfl) (fun _ => rfl) (fun a k hq => ?_) (fun k => rfl) (fun a k hq => ?_) (fun k => rfl) ?_ ?_ k2 ?_ hq.2.2.1
              · unfold pcell at hq
                simp only [gi_i]
                repeat rw [if_neg (by omega)]
                rfl
              · unfold pcell at hq
                simp only [gi_i]
                repeat rw [if_neg (by omega)]
                rfl
              · simp only [gi_i, tell0_i (show ¬ 218 = 2 ∧ ¬ (4 ≤ 218 ∧ 218 < 28) by omega)]
                simp
                exact f5.trans f4.symm
              · simp only [gi_i, tell0_i (show ¬ 220 = 2 ∧ ¬ (4 ≤ 220 ∧ 220 < 28) by omega)]
                simp
                exact k1.trans k2
              · simp only [gi_l, tell_l]
                rw [hm.2.2.1.1]
                exact hw.2
            · simp [gi_i, gi_l, mput_i, mput_l, tell0_i, tell_l]
            · unfold RVc bz
              simp [gi_i, gi_l, mput_i, mput_l, tell0_i, tell_l]
            · refine ⟨fun o k ho => ?_, fun o k ho => ?_, fun o k ho => ?_⟩
              · simp only [gi_i, mput_i (show ¬ o = 225 ∧ ¬ o = 221 ∧ ¬ o = 222 by omega), tell0_i (show ¬ o = 2 ∧ ¬ (4 ≤ o ∧ o < 28) by omega)]
                repeat rw [if_neg (by omega)]
              · simp only [gi_l, mput_l (show ¬ o = 226 by omega), tell_l]
              · have : 28 < o := by omega
                simp only [gi_i, mput_i (show ¬ o = 225 ∧ ¬ o = 221 ∧ ¬ o = 222 by omega), tell0_i (show ¬ o = 2 ∧ ¬ (4 ≤ o ∧ o < 28) by omega)]
                repeat rw [if_neg (by omega)]
  · simp [gi_i, gl_i, gl_l, gi_l, z0, z1, lgs, v0, v1, wp_Law_leave, wp_Law_leave_15, wp_Out_leave, wp_Out_leave_44, wp_M_leave, wp_M_leave_17, wp_M_leave_37, wp_M_thrown, pt_lo a1, np_lo a1]
    exact lx_next hx (hk _ (hR.thrown.unk.up hn))
  · simp [gi_i, gl_i, gl_l, gi_l, z0, z1, lgs, v0, v1, wp_Law_leave, wp_Law_leave_15, wp_Out_leave, wp_Out_leave_44, wp_M_leave, wp_M_leave_17, wp_M_leave_37, wp_M_thrown, pt_hi a1 a2, np_hi a1 a3]
    exact lx_next hx (hk _ (hR.thrown.unk.up hn))
