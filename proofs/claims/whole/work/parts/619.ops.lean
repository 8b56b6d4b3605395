theorem mcp_all {S : fw_S} {p : Nat} (hp : p < 6) {post : fw_S → Int32 → Prop} (h : post (mcp S p 16) 1) : ∃ f0, wp_M_copy_30 209 (nI p) post f0 S 0 :=
  ⟨17, by
    have := mcp_loop hp h 16 0 rfl
    rw [mcp_0] at this
    exact this⟩
theorem RV.cpy {A A' : fw_S} {t n : Nat} (h : RV A t n) (hi : ∀ o k, o ≠ 29 → o ≠ 30 → o ≠ 213 → o ≠ 214 → A'.1 o k = A.1 o k) (hl : A'.2 = A.2) (hkk : RVk A') : RV A' t n := by
  obtain ⟨w, s, ls, z, h0, u, g, hm, hc, hq, hs, hb, _⟩ := h
  have hr : ∀ k, rw_ h0 k < 28 := fun k => by unfold rw_; omega
  have r : ∀ k j, A'.1 (rw_ h0 k) j = A.1 (rw_ h0 k) j := fun k j => hi _ _ (by have := hr k; omega) (by have := hr k; omega) (by have := hr k; omega) (by have := hr k; omega)
  refine ⟨w, s, ls, z, h0, u, g, ?_, ?_, ?_, ?_, ?_, hkk⟩
  · unfold RVm at hm ⊢
    simpa [hi, hl] using hm
  · unfold RVc at hc ⊢
    simpa [hi, hl] using hc
  · unfold RVq at hq ⊢
    simpa [hi, hl, r] using hq
  · unfold RVs at hs ⊢
    simpa [hi, hl, r] using hs
  · unfold RVb at hb ⊢
    simpa [hi, hl] using hb
theorem RV.ln {S : fw_S} {t n p : Nat} (h : RV (vw p S) t n) : S.1 216 p = S.1 (pO p) 4 ∧ (S.1 (pO p) 4 = 0 ∨ S.1 (pO p) 4 = 1) := by
  obtain ⟨w, s, ls, z, h0, u, g, hm, h2⟩ := h
  exact ⟨hm.2.1.1, hm.2.1.2⟩
theorem cp_i (S : fw_S) (a b n x j : Nat) : (fw_cp S a b n).1 x j = if x = b ∧ j < n then S.1 a j else S.1 x j := rfl
theorem cp_l (S : fw_S) (a b n x j : Nat) : (fw_cp S a b n).2 x j = S.2 x j := rfl
theorem mcp_i (S : fw_S) (p k a j : Nat) : (mcp S p k).1 a j = if (a = 213 ∨ a = 214) ∧ 16 + 16 * p ≤ j ∧ j < 16 + 16 * p + k then S.1 a (j - (16 + 16 * p)) else S.1 a j := rfl
theorem RR.cpy {n p : Nat} {S : fw_S} {v : Int64} (hR : RR n S) (hn : n < 512) (hp : p < 6) : RR (n + 1) (mcp (fw_si (fw_si (fw_sl (fw_cp (fw_cp S 4 (pO p + 29) 16) 5 (pO p + 30) 16) 244 0 v) 209 0 0) 209 39 0) p 16) := by
  have hpo := pO_lt hp
  obtain ⟨tt, hGG⟩ := hR.rg
  have h5 := hGG.2.2.2.2.1
  refine hR.pt hn (p := p) (fun a k hg => ?_) (fun k => ?_) ?_ (fun q hq e => ?_) (fun t ht hv => ?_)
  · unfold gcell at hg
    simp only [mcp_i, gi_i, gl_i, cp_i]
    rw [if_neg (by omega), if_neg (by omega), if_neg (by omega), if_neg (by omega), if_neg (by omega)]
  · exact ⟨by show (if (11 : Nat) = 244 ∧ k = 0 then v else S.2 11 k) = _; rw [if_neg (by omega)], by show (if (242 : Nat) = 244 ∧ k = 0 then v else S.2 242 k) = _; rw [if_neg (by omega)]⟩
  · simp [mcp_i, gi_i]
  · have h2 := pO_lt hq
    have h3 := pO_ne hp hq (Ne.symm e)
    refine vw_eq (fun o k hf => ?_) (fun o k hf => ?_)
    · unfold foot at hf
      simp only [mcp_i, gi_i, gl_i, cp_i]
      rw [if_neg (by omega), if_neg (by omega), if_neg (by omega), if_neg (by omega), if_neg (by omega)]
    · unfold foot at hf
      show (if o = 244 ∧ k = 0 then v else S.2 o k) = _
      rw [if_neg (by omega)]
  · refine RV.up (hv.cpy (fun o k h1 h2 h3 h4 => ?_) ?_ (fun k hk => ?_))
    · simp only [vw]
      repeat' split
      all_goals first | rfl | omega | (simp only [mcp_i, gi_i, gl_i, cp_i]; rw [if_neg (by omega), if_neg (by omega), if_neg (by omega), if_neg (by omega), if_neg (by omega)])
    · refine funext fun o => funext fun k => ?_
      show (if o < 31 then (if pO p + o = 244 ∧ k = 0 then v else S.2 (pO p + o) k) else if o = 31 then (if 13 + p = 244 ∧ k = 0 then v else S.2 (13 + p) k) else if o = 226 then (if k < 24 then (if (226 : Nat) = 244 ∧ 24 * p + k = 0 then v else S.2 226 (24 * p + k)) else 0) else if 215 ≤ o ∧ o ≤ 240 ∧ o ≠ 225 then (if k = 0 then (if o = 244 ∧ p = 0 then v else S.2 o p) else 0) else 0) = (if o < 31 then S.2 (pO p + o) k else if o = 31 then S.2 (13 + p) k else if o = 226 then (if k < 24 then S.2 226 (24 * p + k) else 0) else if 215 ≤ o ∧ o ≤ 240 ∧ o ≠ 225 then (if k = 0 then S.2 o p else 0) else 0)
      repeat' split
      all_goals first | rfl | omega
    · obtain ⟨g1, g2⟩ := h5 k hk
      rw [← vx_i (c := 29) (by omega), ← vx_i (c := 30) (by omega), ← vk_i (.inl rfl) hk, ← vk_i (.inr rfl) hk]
      simp only [mcp_i, gi_i, gl_i, cp_i, true_and, true_or, or_true, and_true, Nat.add_sub_cancel_left]
      constructor
      all_goals repeat' split
      all_goals first | omega | exact g1 | exact g2
set_option maxHeartbeats 2000000 in
theorem op_copy {L i n : Nat} {xs : Nat → Int32} {k : fw_S → Int32 → Prop} {S : fw_S} (hx : LX L i) (hn : n < 512) (hR : RR n S) (hk : ∀ S', RR (n + 1) S' → k S' (nI (i + 5))) : wp_Law_law_360 L xs k S (nI i) := by
  have hx1 := hx.1
  have hx2 := hx.2
  have v0 : (nI i).toNatClampNeg ≤ 2560 := by rw [nI_clamp (by omega)]; omega
  have v1 : vp_in (nI i + 1) L := lx_in (c := 1) hx (by omega)
  unfold wp_Law_law_360
  generalize xs (nI i + 1).toNatClampNeg = a
  simp only [v0, v1, true_and]
  rcases ixc a 5 (M := 6) (H := 5) (by omega) rfl rfl with ⟨ja, ha, rfl, a1, a2, a3, a4, a5⟩ | a1 | ⟨a1, a2, a3⟩
  · obtain ⟨t, hv⟩ := hR.rv ha
    obtain ⟨e1, e2⟩ := hv.pw
    obtain ⟨e3, e4⟩ := hv.ln
    have hp : ja < 6 := by omega
    have hpo := pO_lt hp
    have e5 : ∀ a, 180 ≤ a → ¬ pO ja = a := fun a _ => by omega
    have e6 : ∀ x c, 210 ≤ x → c < 31 → ¬ x = pO ja + c := fun x c _ _ => by omega
    rcases e2 with e2 | e2
    · simp [gi_i, gl_i, gl_l, gi_l, cp_i, cp_l, z0, z1, lgs, v0, wp_Law_law_414, wp_Law_law_420, wp_Law_copy, wp_Law_copy_15, wp_Out_copy, wp_Cards_takeOver, wp_Point_isReachable, wp_Point_isReachable_18, wp_Point_isReachable_19, wp_M_copy, wp_M_copy_26, wp_M_thrown, fw_bz, pt_yes ha, np_yes ha, a4, a5, e1, e2]
      exact lx_next hx (hk _ (hR.out.thrown.unk.up hn))
    · rcases e4 with e4 | e4
      · simp [gi_i, gl_i, gl_l, gi_l, cp_i, cp_l, z0, z1, lgs, v0, wp_Law_law_414, wp_Law_law_420, wp_Law_copy, wp_Law_copy_15, wp_Out_copy, wp_Cards_takeOver, wp_Point_isReachable, wp_Point_isReachable_18, wp_Point_isReachable_19, wp_M_copy, wp_M_copy_26, wp_M_thrown, fw_bz, pt_yes ha, np_yes ha, a4, a5, e1, e2, e3, e4]
        exact lx_next hx (hk _ (hR.out.thrown.unk.up hn))
      · simp [gi_i, gl_i, gl_l, gi_l, cp_i, cp_l, z0, z1, lgs, v0, wp_Law_law_414, wp_Law_law_420, wp_Law_copy, wp_Law_copy_15, wp_Out_copy, wp_Cards_takeOver, wp_Point_isReachable, wp_Point_isReachable_18, wp_Point_isReachable_19, wp_M_copy, wp_M_copy_26, wp_M_thrown, fw_bz, pt_yes ha, np_yes ha, a4, a5, e1, e2, e3, e4, e5]
        refine mcp_all hp ?_
        have x1 : (mcp (fw_si (fw_si (fw_sl (fw_cp (fw_cp S 4 (pO ja + 29) 16) 5 (pO ja + 30) 16) 244 0 1) 209 0 0) 209 39 0) ja 16).2 244 0 = 1 := rfl
        simp [mcp_i, gi_i, x1, lgs]
        exact lx_next hx (hk _ (hR.cpy hn hp))
  · simp [gi_i, gl_i, gl_l, gi_l, cp_i, cp_l, z0, z1, lgs, v0, wp_Law_law_414, wp_Law_law_420, wp_Law_copy, wp_Law_copy_15, wp_Out_copy, wp_Cards_takeOver, wp_Point_isReachable, wp_Point_isReachable_18, wp_Point_isReachable_19, wp_M_copy, wp_M_copy_26, wp_M_thrown, fw_bz, pt_lo a1, np_lo a1]
    exact lx_next hx (hk _ (hR.thrown.unk.up hn))
  · simp [gi_i, gl_i, gl_l, gi_l, cp_i, cp_l, z0, z1, lgs, v0, wp_Law_law_414, wp_Law_law_420, wp_Law_copy, wp_Law_copy_15, wp_Out_copy, wp_Cards_takeOver, wp_Point_isReachable, wp_Point_isReachable_18, wp_Point_isReachable_19, wp_M_copy, wp_M_copy_26, wp_M_thrown, fw_bz, pt_hi a1 a2, np_hi a1 a3]
    exact lx_next hx (hk _ (hR.thrown.unk.up hn))
