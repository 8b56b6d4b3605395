theorem si_comm {A : fw_S} {o k a j : Nat} {v x : Int32} (h : a ≠ o ∨ j ≠ k) : fw_si (fw_si A o k v) a j x = fw_si (fw_si A a j x) o k v := by
  refine Prod.ext (funext fun b => funext fun i => ?_) rfl
  show (if b = a ∧ i = j then x else if b = o ∧ i = k then v else A.1 b i) = (if b = o ∧ i = k then v else if b = a ∧ i = j then x else A.1 b i)
  repeat' split
  all_goals first | rfl | omega
theorem RV.line {A : fw_S} {t n : Nat} {v : Int32} (h : RV A t n) (hv : v = 1 ∨ (v = 0 ∧ A.1 0 9 = 0)) : RV (fw_si (fw_si A 0 4 v) 216 0 v) t n := by
  obtain ⟨w, s, ls, z, h0, u, g, hm, hc, hq, hs, hb, hkk⟩ := h
  have hr : ∀ k, rw_ h0 k < 31 ∧ 4 ≤ rw_ h0 k := fun k => by unfold rw_; omega
  have r0 : ∀ k a, 31 ≤ a → ¬ rw_ h0 k = a := fun k a _ => by have := hr k; omega
  have r2 : ∀ k, ¬ rw_ h0 k = 0 := fun k => by have := hr k; omega
  refine ⟨w, s, ls, z, h0, u, g, ?_, ?_, ?_, ?_, ?_, ?_⟩
  · obtain ⟨m1, m2, m3⟩ := hm
    refine ⟨by simpa [gi_i] using m1, ⟨by simp [gi_i], ?_⟩, by simpa [gi_i, gi_l] using m3⟩
    rcases hv with rfl | ⟨rfl, _⟩
    · exact .inr (by simp [gi_i])
    · exact .inl (by simp [gi_i])
  · unfold RVc at hc ⊢
    simpa [gi_i, gi_l] using hc
  · obtain ⟨q1, q2, q3, q4, ⟨q5, q5'⟩, q6, q7⟩ := hq
    refine ⟨by simpa [gi_i] using q1, by simpa [gi_i] using q2, by simpa [gi_i] using q3, by simpa [gi_i] using q4, ⟨by simpa [gi_i] using q5, ?_⟩, by simpa [gi_i] using q6, by simpa [gi_i, gi_l, r0, r2] using q7⟩
    rcases hv with rfl | ⟨rfl, e⟩
    · rcases q5' with q | ⟨x1, x2, x3, x4⟩
      · exact .inl (by simpa [gi_i] using q)
      · exact .inr ⟨x1, by simpa [gi_i] using x2, by simp [gi_i], by simpa [gi_i] using x4⟩
    · exact .inl (by simpa [gi_i] using e)
  · unfold RVs at hs ⊢
    simpa [gi_i, gi_l, r0, r2] using hs
  · unfold RVb at hb ⊢
    simpa [gi_i, gi_l] using hb
  · unfold RVk at hkk ⊢
    simpa [gi_i, gi_l] using hkk
theorem RV.uwp {S : fw_S} {t n p : Nat} (h : RV (vw p S) t n) : S.1 (pO p) 9 = 0 ∨ (S.1 (pO p) 3 = 1 ∧ S.1 (pO p) 4 = 1) := by
  obtain ⟨w, s, ls, z, h0, u, g, hm, hc, hq, h2⟩ := h
  rcases hq.2.2.2.2.1.2 with q | ⟨_, x2, x3, _⟩
  · exact .inl q
  · exact .inr ⟨x2, x3⟩
theorem RV.pw {S : fw_S} {t n p : Nat} (h : RV (vw p S) t n) : S.1 215 p = S.1 (pO p) 3 ∧ (S.1 (pO p) 3 = 0 ∨ S.1 (pO p) 3 = 1) := by
  obtain ⟨w, s, ls, z, h0, u, g, hm, h2⟩ := h
  exact ⟨hm.1.1, hm.1.2⟩
set_option maxHeartbeats 2000000 in
theorem op_line {L i n : Nat} {xs : Nat → Int32} {k : fw_S → Int32 → Prop} {S : fw_S} (hx : LX L i) (hn : n < 512) (hR : RR n S) (hk : ∀ S', RR (n + 1) S' → k S' (nI (i + 5))) : wp_Law_law_728 L xs k S (nI i) := by
  have hx1 := hx.1
  have hx2 := hx.2
  have v0 : (nI i).toNatClampNeg ≤ 2560 := by rw [nI_clamp (by omega)]; omega
  have v1 : vp_in (nI i + 1) L := lx_in (c := 1) hx (by omega)
  have v2 : vp_in (nI i + 2) L := lx_in (c := 2) hx (by omega)
  unfold wp_Law_law_728 wp_Law_law_749 wp_Law_law_775
  generalize xs (nI i + 1).toNatClampNeg = a
  generalize xs (nI i + 2).toNatClampNeg = b
  simp only [v0, v1, v2, true_and]
  rcases ixc a 5 (M := 6) (H := 5) (by omega) rfl rfl with ⟨ja, ha, rfl, a1, a2, a3, a4, a5⟩ | a1 | ⟨a1, a2, a3⟩
  · obtain ⟨t, hv⟩ := hR.rv ha
    obtain ⟨e1, e2⟩ := hv.pw
    have e3 := hv.uwp
    have e4 := hv.uw
    have hp : ja < 6 := by omega
    have hpo := pO_lt hp
    have e5 : ∀ a, 180 ≤ a → ¬ pO ja = a := fun a _ => by omega
    have e7 : ∀ a, 210 ≤ a → ¬ a = pO ja := fun a _ => by omega
    by_cases hb : b = 0
    · rcases e2 with e2 | e2
      all_goals simp [gi_i, gl_i, gl_l, gi_l, z0, z1, lgs, v0, v1, v2, wp_Law_line, wp_Out_line, wp_Point_setLine, wp_Point_dropIfUnreachable, wp_Point_dropIfUnreachable_12, wp_Point_isReachable, wp_Point_isReachable_18, wp_Point_isReachable_19, wp_M_line, wp_M_line_35, wp_M_thrown, fw_bz, fz0, fz1, pt_yes ha, np_yes ha, a1, a2, a3, a4, a5, hb, e1, e2, e4, e5, e7]
      · refine lx_next hx (hk _ ?_)
        refine hR.pt hn (p := ja) (fun a k hg => ?_) (fun k => by simp [gi_l, gl_l]) (by simp [gi_i, gl_i]) (fun q hq e => ?_) (fun t ht hv => ?_)
        · unfold gcell at hg
          simp only [gi_i, gl_i]
          repeat rw [if_neg (by omega)]
        · rw [vw_si (nf_m hq e (by unfold isM; omega)), vw_si (nf_m hq e (by unfold isM; omega)), vw_si (nofoot hq (by omega)), vw_si (nofoot hq (by omega)), vw_si (nf_x0 hp hq e), vw_si (nf_x0 hp hq e)]
        · rw [vw_mi hp (by unfold isM; omega), vw_mi hp (by unfold isM; omega), vw_si (nofoot hp (by omega)), vw_si (nofoot hp (by omega)), vw_xi0 hp, vw_xi0 hp]
          rw [si_comm (A := fw_si (fw_si (vw ja S) 0 4 0) 0 9 0) (by omega), si_comm (A := vw ja S) (o := 0) (k := 4) (by omega), si_comm (A := fw_si (vw ja S) 0 9 0) (o := 0) (k := 4) (by omega)]
          exact (hv.uw0.line (.inr ⟨rfl, by simp [gi_i]⟩)).up
      · refine lx_next hx (hk _ ?_)
        refine hR.pt hn (p := ja) (fun a k hg => ?_) (fun k => by simp [gi_l, gl_l]) (by simp [gi_i, gl_i]) (fun q hq e => ?_) (fun t ht hv => ?_)
        · unfold gcell at hg
          simp only [gi_i, gl_i]
          repeat rw [if_neg (by omega)]
        · rw [vw_si (nf_m hq e (by unfold isM; omega)), vw_si (nf_m hq e (by unfold isM; omega)), vw_si (nofoot hq (by omega)), vw_si (nofoot hq (by omega)), vw_si (nf_x0 hp hq e), vw_si (nf_x0 hp hq e)]
        · rw [vw_mi hp (by unfold isM; omega), vw_mi hp (by unfold isM; omega), vw_si (nofoot hp (by omega)), vw_si (nofoot hp (by omega)), vw_xi0 hp, vw_xi0 hp]
          rw [si_comm (A := fw_si (fw_si (vw ja S) 0 4 0) 0 9 0) (by omega), si_comm (A := vw ja S) (o := 0) (k := 4) (by omega), si_comm (A := fw_si (vw ja S) 0 9 0) (o := 0) (k := 4) (by omega)]
          exact (hv.uw0.line (.inr ⟨rfl, by simp [gi_i]⟩)).up
    · rcases e2 with e2 | e2
      · have e6 : S.1 (pO ja) 9 = 0 := by
          rcases e3 with q | q
          · exact q
          · exact absurd (e2.symm.trans q.1) (by decide)
        simp [gi_i, gl_i, gl_l, gi_l, z0, z1, lgs, v0, v1, v2, wp_Law_line, wp_Out_line, wp_Point_setLine, wp_Point_dropIfUnreachable, wp_Point_dropIfUnreachable_12, wp_Point_isReachable, wp_Point_isReachable_18, wp_Point_isReachable_19, wp_M_line, wp_M_line_35, wp_M_thrown, fw_bz, fz0, fz1, pt_yes ha, np_yes ha, a1, a2, a3, a4, a5, hb, e1, e2, e4, e5, e6, e7]
        refine lx_next hx (hk _ ?_)
        refine hR.pt hn (p := ja) (fun a k hg => ?_) (fun k => by simp [gi_l, gl_l]) (by simp [gi_i, gl_i]) (fun q hq e => ?_) (fun t ht hv => ?_)
        · unfold gcell at hg
          simp only [gi_i, gl_i]
          repeat rw [if_neg (by omega)]
        · rw [vw_si (nf_m hq e (by unfold isM; omega)), vw_si (nf_m hq e (by unfold isM; omega)), vw_si (nofoot hq (by omega)), vw_si (nofoot hq (by omega)), vw_si (nf_x0 hp hq e), vw_si (nf_x0 hp hq e)]
        · rw [vw_mi hp (by unfold isM; omega), vw_mi hp (by unfold isM; omega), vw_si (nofoot hp (by omega)), vw_si (nofoot hp (by omega)), vw_xi0 hp, vw_xi0 hp]
          rw [si_same (A := fw_si (vw ja S) 0 4 1) (o := 0) (k := 9) e6, si_same (o := 224) (k := 0) (by rw [gi_i, gi_i]; simp; rw [← vm_i (by unfold isM; omega), e4, e6])]
          exact (hv.line (.inl rfl)).up
      · simp [gi_i, gl_i, gl_l, gi_l, z0, z1, lgs, v0, v1, v2, wp_Law_line, wp_Out_line, wp_Point_setLine, wp_Point_dropIfUnreachable, wp_Point_dropIfUnreachable_12, wp_Point_isReachable, wp_Point_isReachable_18, wp_Point_isReachable_19, wp_M_line, wp_M_line_35, wp_M_thrown, fw_bz, fz0, fz1, pt_yes ha, np_yes ha, a1, a2, a3, a4, a5, hb, e1, e2, e4, e5, e7]
        refine lx_next hx (hk _ ?_)
        refine hR.pt hn (p := ja) (fun a k hg => ?_) (fun k => by simp [gi_l, gl_l]) (by simp [gi_i, gl_i]) (fun q hq e => ?_) (fun t ht hv => ?_)
        · unfold gcell at hg
          simp only [gi_i, gl_i]
          repeat rw [if_neg (by omega)]
        · rw [vw_si (nf_m hq e (by unfold isM; omega)), vw_si (nf_m hq e (by unfold isM; omega)), vw_si (nofoot hq (by omega)), vw_si (nofoot hq (by omega)), vw_si (nf_x0 hp hq e)]
        · rw [vw_mi hp (by unfold isM; omega), vw_mi hp (by unfold isM; omega), vw_si (nofoot hp (by omega)), vw_si (nofoot hp (by omega)), vw_xi0 hp]
          rw [si_same (o := 224) (k := 0) (by rw [gi_i, gi_i]; simp; rw [← vm_i (by unfold isM; omega), e4])]
          exact (hv.line (.inl rfl)).up
  · by_cases hb : b = 0
    all_goals simp [gi_i, gl_i, gl_l, gi_l, z0, z1, lgs, v0, v1, v2, wp_Law_line, wp_Out_line, wp_Point_setLine, wp_Point_dropIfUnreachable, wp_Point_dropIfUnreachable_12, wp_Point_isReachable, wp_Point_isReachable_18, wp_Point_isReachable_19, wp_M_line, wp_M_line_35, wp_M_thrown, fw_bz, fz0, fz1, pt_lo a1, np_lo a1, hb]
    all_goals exact lx_next hx (hk _ (hR.thrown.unk.up hn))
  · by_cases hb : b = 0
    all_goals simp [gi_i, gl_i, gl_l, gi_l, z0, z1, lgs, v0, v1, v2, wp_Law_line, wp_Out_line, wp_Point_setLine, wp_Point_dropIfUnreachable, wp_Point_dropIfUnreachable_12, wp_Point_isReachable, wp_Point_isReachable_18, wp_Point_isReachable_19, wp_M_line, wp_M_line_35, wp_M_thrown, fw_bz, fz0, fz1, pt_hi a1 a2, np_hi a1 a3, hb]
    all_goals exact lx_next hx (hk _ (hR.thrown.unk.up hn))
