/-- a session that ends, in the point's view: the car stays -/
theorem stop_view {A : fw_S} {t n w s ls z h u idl : Nat} {g : Int} (hm : RVm A t n w s ls) (hc : RVc A t s g) (hq : RVq A t w s z h u) (hs : RVs A t w s z h u) (hb : RVb A t w) (hkk : RVk A) (hs0 : s ≠ 0) (hidl : idl ≤ t) (hw : lN w / 3600 = (nI (w / 3600)).toInt64) :
    RV (fw_si (mputS 0 (6 * z) z (fw_si (fw_si (tellS 0 (rw_ h z) A 2 (nI t) (nI (w / 3600)) (nI idl)) 0 6 0) 0 7 (-1)) 3 (nI t) (nI idl)) 218 0 0) t n := by
  obtain ⟨k1, c, hc16, k2⟩ := hm.2.2.2.2.2 hs0
  have hz := hq.1.2.2.1
  refine RV.stop (g' := g) (c := c) (idl := idl) hm hq hs hb hkk hs0 ?_ hc16 hidl ?_ ?_ ?_
  · refine PUT.mk (A1 := A) (B := fw_si (fw_si (tellS 0 (rw_ h z) A 2 (nI t) (nI (w / 3600)) (nI idl)) 0 6 0) 0 7 (-1)) hz (fun _ _ _ => rfl) (fun _ => rfl) (fun a k hq => ?_) (fun k => rfl) (fun a k hq => ?_) (fun k => rfl) ?_ ?_ k2 ?_ hq.2.2.1
    · unfold pcell at hq
      simp only [gi_i]
      repeat rw [if_neg (by omega)]
      rfl
    · unfold pcell at hq
      simp only [gi_i]
      repeat rw [if_neg (by omega)]
      rfl
    · simp only [gi_i, tell0_i (show ¬ 218 = 2 ∧ ¬ (4 ≤ 218 ∧ 218 < 28) by omega)]
      simp
      exact hm.2.2.2.1.1.trans hm.2.2.2.1.2.1.symm
    · simp only [gi_i, tell0_i (show ¬ 220 = 2 ∧ ¬ (4 ≤ 220 ∧ 220 < 28) by omega)]
      simp
      exact k1.trans k2
    · simp only [gi_l, tell_l]
      rw [hm.2.2.1.1]
      exact hw
  · simp [gi_i, gi_l, mput_i, mput_l, tell0_i, tell_l]
  · have hc := hc
    unfold RVc at hc ⊢
    simp only [gi_i, gi_l, mput_i (show ¬ 227 = 225 ∧ ¬ 227 = 221 ∧ ¬ 227 = 222 by omega), mput_i (show ¬ 1 = 225 ∧ ¬ 1 = 221 ∧ ¬ 1 = 222 by omega), mput_i (show ¬ 231 = 225 ∧ ¬ 231 = 221 ∧ ¬ 231 = 222 by omega), mput_i (show ¬ 229 = 225 ∧ ¬ 229 = 221 ∧ ¬ 229 = 222 by omega), mput_i (show ¬ 228 = 225 ∧ ¬ 228 = 221 ∧ ¬ 228 = 222 by omega), mput_i (show ¬ 232 = 225 ∧ ¬ 232 = 221 ∧ ¬ 232 = 222 by omega), mput_l (show ¬ 230 = 226 by omega), tell0_i (show ¬ 227 = 2 ∧ ¬ (4 ≤ 227 ∧ 227 < 28) by omega), tell0_i (show ¬ 1 = 2 ∧ ¬ (4 ≤ 1 ∧ 1 < 28) by omega), tell0_i (show ¬ 231 = 2 ∧ ¬ (4 ≤ 231 ∧ 231 < 28) by omega), tell0_i (show ¬ 229 = 2 ∧ ¬ (4 ≤ 229 ∧ 229 < 28) by omega), tell0_i (show ¬ 228 = 2 ∧ ¬ (4 ≤ 228 ∧ 228 < 28) by omega), tell0_i (show ¬ 232 = 2 ∧ ¬ (4 ≤ 232 ∧ 232 < 28) by omega), tell_l, Nat.reduceEqDiff, false_and, and_false, if_false]
    exact ⟨hc.1, hc.2.1, hc.2.2.1, hc.2.2.2.1, hc.2.2.2.2.1, hc.2.2.2.2.2.1, fun q => absurd rfl q⟩
  · refine ⟨fun o k ho => ?_, fun o k ho => ?_, fun o k ho => ?_⟩
    · simp only [gi_i, mput_i (show ¬ o = 225 ∧ ¬ o = 221 ∧ ¬ o = 222 by omega), tell0_i (show ¬ o = 2 ∧ ¬ (4 ≤ o ∧ o < 28) by omega)]
      repeat rw [if_neg (by omega)]
    · simp only [gi_l, mput_l (show ¬ o = 226 by omega), tell_l]
    · have : 28 < o := by omega
      simp only [gi_i, mput_i (show ¬ o = 225 ∧ ¬ o = 221 ∧ ¬ o = 222 by omega), tell0_i (show ¬ o = 2 ∧ ¬ (4 ≤ o ∧ o < 28) by omega)]
      repeat rw [if_neg (by omega)]
set_option maxHeartbeats 8000000 in
theorem op_show {L i n : Nat} {xs : Nat → Int32} {k : fw_S → Int32 → Prop} {S : fw_S} (hx : LX L i) (hn : n < 512) (hR : RR n S) (hk : ∀ S', RR (n + 1) S' → k S' (nI (i + 5))) : wp_Law_law_660 L xs k S (nI i) := by
  have hx1 := hx.1
  have hx2 := hx.2
  have v0 : (nI i).toNatClampNeg ≤ 2560 := by rw [nI_clamp (by omega)]; omega
  have v1 : vp_in (nI i + 1) L := lx_in (c := 1) hx (by omega)
  have v2 : vp_in (nI i + 2) L := lx_in (c := 2) hx (by omega)
  unfold wp_Law_law_660 wp_Law_law_725
  generalize xs (nI i + 1).toNatClampNeg = a
  generalize xs (nI i + 2).toNatClampNeg = b
  simp only [v0, v1, v2, true_and]
  rcases ixc a 5 (M := 6) (H := 5) (by omega) rfl rfl with ⟨ja, ha, rfl, a1, a2, a3, a4, a5⟩ | a1 | ⟨a1, a2, a3⟩
  · rcases ixc b 15 (M := 16) (H := 15) (by omega) rfl rfl with ⟨jc, hjc, rfl, c1, c2, c3, c4, c5⟩ | c1 | ⟨c1, c2, c3⟩
    · obtain ⟨t, hG, hK, hV⟩ := id hR
      have hp : ja < 6 := by omega
      obtain ⟨w, s, ls, z, h, u, g, hm, hc, hq, hs, hb, hkk⟩ := hV ja hp
      have hpo := pO_lt hp
      have e5 : ∀ a, 180 ≤ a → ¬ pO ja = a := fun a _ => by omega
      have e7 : ∀ a, 210 ≤ a → ¬ a = pO ja := fun a _ => by omega
      obtain ⟨g1, g2, g3, g4⟩ := hG.1
      have f1 : S.1 (pO ja + 2) 1 = nI h := hq.2.1.1
      have f2 : S.1 (pO ja + 2) 3 = nI z := hq.1.1
      have f3 : S.1 221 ja = nI z := hq.1.2.1
      have f4 : S.1 (pO ja) 6 = nI s := hm.2.2.2.1.2.1
      have f5 : S.1 218 ja = nI s := hm.2.2.2.1.1
      have f6 : S.1 215 ja = S.1 (pO ja) 3 := hm.1.1
      have f7 : S.1 227 ja = S.1 (pO ja + 1) 0 := hc.1.1
      have f8 : S.2 (pO ja) 5 = lN w := hm.2.2.1.2.1
      have f10 : S.1 (pO ja) 8 = nI ls := hm.2.2.2.1.2.2.2.1
      have f11 : S.1 219 ja = nI ls := hm.2.2.2.1.2.2.1
      have hls : s ≤ n ∧ ls ≤ n := by have := hm.2.2.2.1; omega
      have hw := wh_ok hm.2.2.1.2.2 g3 g4
      have hz := hq.1.2.2.1
      have hr : rw_ h z < 31 := by unfold rw_; omega
      have hM : ∀ (S' : fw_S) (kd idl : Int32) (post : fw_S → Prop), S'.1 221 ja = nI z → wp_M_put S' 209 (nI ja) kd idl post = post (mputS ja (144 * ja + 6 * z) (24 * ja + z) S' kd (S'.1 209 1) idl) := fun S' kd idl post h => mput_ex ha h hz
      have cc : ∀ c, c < 16 → (vp_in (nI c) 16 ∧ (nI c).toNatClampNeg = c) := fun c hc => ⟨vp_in_nI (by omega) (by omega), nI_clamp (by omega)⟩
      simp [v0, z0, z1, wp_Law_show, wp_Out_show, wp_Out_checkIndex, wp_Out_checkIndex_9, wp_M_show, wp_M_show_24, wp_M_isIn, wp_M_isIn_14, wp_M_isIn_15, wp_M_thrown, fw_bz, pt_yes ha, a1, a2, a3, c1, c2, c3]
      rcases hm.2.1.2 with b0 | b0
      · have b0 : S.1 (pO ja) 4 = 0 := b0
        have b0m : S.1 216 ja = 0 := hm.2.1.1.trans b0
        have lr : (16 : Int32) + 16 * nI ja = nI (16 + 16 * ja) := by
          rw [show (16 : Int32) * nI ja = nI (16 * ja) from pk_mul 16 ja]
          exact nI_add 16 _
        have L1 := lr
        have L2 : ∀ c, c < 16 → nI (16 + 16 * ja) + nI c = nI (16 + 16 * ja + c) ∧ vp_in (nI (16 + 16 * ja + c)) 112 ∧ (nI (16 + 16 * ja + c)).toNatClampNeg = 16 + 16 * ja + c := fun c hc => ⟨nI_add _ _, vp_in_nI (by omega) (by omega), nI_clamp (by omega)⟩
        have L3 := L2 jc (by omega)
        have L4 : ∀ c, c < 16 → S.1 213 (16 + 16 * ja + c) = S.1 (pO ja + 29) c := fun c hc => ((vk_i (p := ja) (.inl rfl) hc).trans (hkk c hc).1.symm)
        have L5 : ∀ c, c < 16 → S.1 214 (16 + 16 * ja + c) = S.1 (pO ja + 30) c := fun c hc => ((vk_i (p := ja) (.inr rfl) hc).trans (hkk c hc).2.symm)
        by_cases hs0 : s = 0
        · have s1 : nI s = 0 := by rw [hs0]; rfl
          subst hs0
          rcases hm.1.2 with b4 | b4
          · have b4 : S.1 (pO ja) 3 = 0 := b4
            simp [gi_i, gl_i, gl_l, gi_l, lgs, wp_Out_show_33, wp_Out_show_62, wp_Out_show_103, wp_Point_mayBegin, wp_Point_mayBegin_40, wp_Point_mayBegin_41, wp_Point_runs, wp_Point_runs_18, wp_Point_runs_19, wp_Cards_isGood, wp_Cards_isGood_15, wp_Cards_areOfOneHolder, wp_Cards_areOfOneHolder_29, wp_Cards_areOfOneHolder_33, wp_Cards_areOfOneHolder_34, wp_Point_begin, wp_Point_end, fw_bz, wp_M_show_25, wp_M_show_102, wp_M_show_103, wp_M_show_146, wp_M_show_156, wp_M_show_203, wp_M_show_207, wp_M_show_208, wp_M_show_224, wp_M_list, wp_M_list_20, wp_M_ends, mput_i, mput_l, a4, a5, c4, c5, f3, f4, f5, f6, f7, f8, g1, g2, e5, e7, b0, b0m, L1, L2, L3, L4, L5, s1, b4]
            exact lx_next hx (hk _ (hR.out.thrown.unk.up hn))
          · have b4 : S.1 (pO ja) 3 = 1 := b4
            rcases hc.1.2 with b2 | b2
            · have b2 : S.1 (pO ja + 1) 0 = 0 := b2
              simp [gi_i, gl_i, gl_l, gi_l, lgs, wp_Out_show_33, wp_Out_show_62, wp_Out_show_103, wp_Point_mayBegin, wp_Point_mayBegin_40, wp_Point_mayBegin_41, wp_Point_runs, wp_Point_runs_18, wp_Point_runs_19, wp_Cards_isGood, wp_Cards_isGood_15, wp_Cards_areOfOneHolder, wp_Cards_areOfOneHolder_29, wp_Cards_areOfOneHolder_33, wp_Cards_areOfOneHolder_34, wp_Point_begin, wp_Point_end, fw_bz, wp_M_show_25, wp_M_show_102, wp_M_show_103, wp_M_show_146, wp_M_show_156, wp_M_show_203, wp_M_show_207, wp_M_show_208, wp_M_show_224, wp_M_list, wp_M_list_20, wp_M_ends, mput_i, mput_l, a4, a5, c4, c5, f3, f4, f5, f6, f7, f8, g1, g2, e5, e7, b0, b0m, L1, L2, L3, L4, L5, s1, b4, b2]
              exact lx_next hx (hk _ (hR.out.thrown.unk.up hn))
            · have b2 : S.1 (pO ja + 1) 0 = 1 := b2
              by_cases hz20 : 20 < z
              · have d1 : 20 < nI z := nI_lt (a := 20) hz20 (by omega)
                have d2 : ¬ nI z ≤ 20 := nI_ge (a := 20) hz20 (by omega)
                simp [gi_i, gl_i, gl_l, gi_l, lgs, wp_Out_show_33, wp_Out_show_62, wp_Out_show_103, wp_Point_mayBegin, wp_Point_mayBegin_40, wp_Point_mayBegin_41, wp_Point_runs, wp_Point_runs_18, wp_Point_runs_19, wp_Cards_isGood, wp_Cards_isGood_15, wp_Cards_areOfOneHolder, wp_Cards_areOfOneHolder_29, wp_Cards_areOfOneHolder_33, wp_Cards_areOfOneHolder_34, wp_Point_begin, wp_Point_end, fw_bz, wp_M_show_25, wp_M_show_102, wp_M_show_103, wp_M_show_146, wp_M_show_156, wp_M_show_203, wp_M_show_207, wp_M_show_208, wp_M_show_224, wp_M_list, wp_M_list_20, wp_M_ends, mput_i, mput_l, a4, a5, c4, c5, f3, f4, f5, f6, f7, f8, g1, g2, e5, e7, b0, b0m, L1, L2, L3, L4, L5, s1, b4, b2, d1, d2, f2]
                exact lx_next hx (hk _ (hR.out.thrown.unk.up hn))
              · have d1 : ¬ 20 < nI z := nI_nlt (b := 20) (a := 20) (by omega) (by omega) |> fun _ => nI_nlt (a := 20) (b := z) (by omega) (by omega)
                have d2 : nI z ≤ 20 := nI_le (b := 20) (by omega) (by omega)
                by_cases hst : S.1 (pO ja + 29) jc = 1
                · have B1 : ∀ (a k : Nat) (x : Int32), ¬ a = pO ja → (fw_si (fw_si (fw_si S (pO ja) 8 (nI (ls + 1))) (pO ja) 6 (nI (ls + 1))) (pO ja) 7 (nI jc)).1 a k = S.1 a k := fun a k x h => by simp [gi_i, h]
                  have T := fun (kd tm idl : Int32) (post : fw_S → Prop) => tell_ex (S := fw_si (fw_si (fw_si S (pO ja) 8 (nI (ls + 1))) (pO ja) 6 (nI (ls + 1))) (pO ja) 7 (nI jc)) (o := pO ja) (kd := kd) (tm := tm) (idl := idl) (post := post) (by rw [B1 _ _ 0 (by omega)]; exact f1) (by rw [B1 _ _ 0 (by omega)]; exact f2) hq.2.1.2 hz
                  have TI : ∀ (a j : Nat) (kd tm wh idl : Int32), 209 ≤ a → (tellS (pO ja) (pO ja + rw_ h z) (fw_si (fw_si (fw_si S (pO ja) 8 (nI (ls + 1))) (pO ja) 6 (nI (ls + 1))) (pO ja) 7 (nI jc)) kd tm wh idl).1 a j = S.1 a j := fun a j kd tm wh idl h => by
                    rw [tell_i (by omega)]
                    exact B1 _ _ 0 (by omega)
                  simp [gi_i, gl_i, gl_l, gi_l, lgs, wp_Out_show_33, wp_Out_show_62, wp_Out_show_103, wp_Point_mayBegin, wp_Point_mayBegin_40, wp_Point_mayBegin_41, wp_Point_runs, wp_Point_runs_18, wp_Point_runs_19, wp_Cards_isGood, wp_Cards_isGood_15, wp_Cards_areOfOneHolder, wp_Cards_areOfOneHolder_29, wp_Cards_areOfOneHolder_33, wp_Cards_areOfOneHolder_34, wp_Point_begin, wp_Point_end, fw_bz, wp_M_show_25, wp_M_show_102, wp_M_show_103, wp_M_show_146, wp_M_show_156, wp_M_show_203, wp_M_show_207, wp_M_show_208, wp_M_show_224, wp_M_list, wp_M_list_20, wp_M_ends, mput_i, mput_l, a4, a5, c4, c5, f3, f4, f5, f6, f7, f8, g1, g2, e5, e7, b0, b0m, L1, L2, L3, L4, L5, s1, b4, b2, d1, d2, f2, hst, L4 jc (by omega), f10, f11, nI_1, T, TI, tell_l, hM, hw.1]
                  refine lx_next hx (hk _ ?_)
                  refine RR.pt2 (p := ja) hG hV hn (fun a k hg => ?_) (fun k => by simp [gi_l, gl_l, mput_l, tell_l]) (by simp [gi_i, gl_i, mput_i]) (fun q hq e => ?_) ?_
                  · unfold gcell at hg
                    have hma : ¬ a = 225 ∧ ¬ a = 221 ∧ ¬ a = 222 := by omega
                    have hta : a = pO ja ∨ a = pO ja + 1 ∨ a < pO ja ∨ pO ja + 31 ≤ a := by omega
                    simp only [gi_i, gl_i, mput_i hma, tell_i hta]
                    repeat rw [if_neg (by omega)]
                  · rw [vwo_mput hq e hz, vw_si (nf_m hq e (by unfold isM; omega)), vw_si (nf_m hq e (by unfold isM; omega)), vw_si (nf_m hq e (by unfold isM; omega)), vw_si (nofoot hq (by omega)), vw_si (nofoot hq (by omega)), vw_sl (nofoot hq (by omega)), vwo_tell hp hq e hr, vw_si (nf_x0 hp hq e), vw_si (nf_x0 hp hq e), vw_si (nf_x0 hp hq e)]
                  · rw [vw_mput hp hz, vw_mi hp (by unfold isM; omega), vw_mi hp (by unfold isM; omega), vw_mi hp (by unfold isM; omega), vw_si (nofoot hp (by omega)), vw_si (nofoot hp (by omega)), vw_sl (nofoot hp (by omega)), vw_tell hp hr, vw_xi0 hp, vw_xi0 hp, vw_xi0 hp]
                    refine RV.start (g := g) (c := jc) hm hq hs hb hkk (by omega) ?_ (by omega) ?_ ?_ ?_
                    · refine PUT.mk (A1 := fw_si (fw_si (fw_si (vw ja S) 0 8 (nI (ls + 1))) 0 6 (nI (ls + 1))) 0 7 (nI jc)) (B := fw_si (fw_si (fw_si (tellS 0 (rw_ h z) (fw_si (fw_si (fw_si (vw ja S) 0 8 (nI (ls + 1))) 0 6 (nI (ls + 1))) 0 7 (nI jc)) 0 (nI t) (nI (w / 3600)) 0) 219 0 (nI (ls + 1))) 218 0 (nI (ls + 1))) 220 0 (nI jc)) hz (fun a k hq => ?_) (fun _ => rfl) (fun a k hq => ?_) (fun k => rfl) (fun a k hq => ?_) (fun k => rfl) ?_ ?_ ?_ ?_ hq.2.2.1
                      · unfold pcell at hq
                        simp only [gi_i]
                        repeat rw [if_neg (by omega)]
                      · unfold pcell at hq
                        simp only [gi_i]
                        repeat rw [if_neg (by omega)]
                        rfl
                      · rfl
                      · simp [gi_i]
                      · simp [gi_i]
                      · simp [gi_i]
                      · simp only [gi_l, tell_l]
                        rw [hm.2.2.1.1]
                        exact hw.2
                    · simp [gi_i, gi_l, mput_i, mput_l, tell0_i, tell_l]
                    · have hc := hc
                      unfold RVc at hc ⊢
                      simp only [gi_i, gi_l, mput_i (show ¬ 227 = 225 ∧ ¬ 227 = 221 ∧ ¬ 227 = 222 by omega), mput_i (show ¬ 1 = 225 ∧ ¬ 1 = 221 ∧ ¬ 1 = 222 by omega), mput_i (show ¬ 231 = 225 ∧ ¬ 231 = 221 ∧ ¬ 231 = 222 by omega), mput_i (show ¬ 229 = 225 ∧ ¬ 229 = 221 ∧ ¬ 229 = 222 by omega), mput_i (show ¬ 228 = 225 ∧ ¬ 228 = 221 ∧ ¬ 228 = 222 by omega), mput_i (show ¬ 232 = 225 ∧ ¬ 232 = 221 ∧ ¬ 232 = 222 by omega), mput_l (show ¬ 230 = 226 by omega), mput_i (show ¬ 0 = 225 ∧ ¬ 0 = 221 ∧ ¬ 0 = 222 by omega), tell0_i (show ¬ 227 = 2 ∧ ¬ (4 ≤ 227 ∧ 227 < 28) by omega), tell0_i (show ¬ 1 = 2 ∧ ¬ (4 ≤ 1 ∧ 1 < 28) by omega), tell0_i (show ¬ 231 = 2 ∧ ¬ (4 ≤ 231 ∧ 231 < 28) by omega), tell0_i (show ¬ 229 = 2 ∧ ¬ (4 ≤ 229 ∧ 229 < 28) by omega), tell0_i (show ¬ 228 = 2 ∧ ¬ (4 ≤ 228 ∧ 228 < 28) by omega), tell0_i (show ¬ 232 = 2 ∧ ¬ (4 ≤ 232 ∧ 232 < 28) by omega), tell0_i (show ¬ 0 = 2 ∧ ¬ (4 ≤ 0 ∧ 0 < 28) by omega), tell_l, Nat.reduceEqDiff, false_and, and_false, if_false]
                      exact ⟨hc.1, hc.2.1, hc.2.2.1, hc.2.2.2.1, hc.2.2.2.2.1, hc.2.2.2.2.2.1, fun _ _ => b2⟩
                    · refine ⟨fun o k ho => ?_, fun o k ho => ?_, fun o k ho => ?_⟩
                      · simp only [gi_i, mput_i (show ¬ o = 225 ∧ ¬ o = 221 ∧ ¬ o = 222 by omega), tell0_i (show ¬ o = 2 ∧ ¬ (4 ≤ o ∧ o < 28) by omega)]
                        repeat rw [if_neg (by omega)]
                      · simp only [gi_l, mput_l (show ¬ o = 226 by omega), tell_l]
                      · have : 28 < o := by omega
                        simp only [gi_i, mput_i (show ¬ o = 225 ∧ ¬ o = 221 ∧ ¬ o = 222 by omega), tell0_i (show ¬ o = 2 ∧ ¬ (4 ≤ o ∧ o < 28) by omega)]
                        repeat rw [if_neg (by omega)]
                · simp [gi_i, gl_i, gl_l, gi_l, lgs, wp_Out_show_33, wp_Out_show_62, wp_Out_show_103, wp_Point_mayBegin, wp_Point_mayBegin_40, wp_Point_mayBegin_41, wp_Point_runs, wp_Point_runs_18, wp_Point_runs_19, wp_Cards_isGood, wp_Cards_isGood_15, wp_Cards_areOfOneHolder, wp_Cards_areOfOneHolder_29, wp_Cards_areOfOneHolder_33, wp_Cards_areOfOneHolder_34, wp_Point_begin, wp_Point_end, fw_bz, wp_M_show_25, wp_M_show_102, wp_M_show_103, wp_M_show_146, wp_M_show_156, wp_M_show_203, wp_M_show_207, wp_M_show_208, wp_M_show_224, wp_M_list, wp_M_list_20, wp_M_ends, mput_i, mput_l, a4, a5, c4, c5, f3, f4, f5, f6, f7, f8, g1, g2, e5, e7, b0, b0m, L1, L2, L3, L4, L5, s1, b4, b2, d1, d2, f2, hst, L4 jc (by omega)]
                  exact lx_next hx (hk _ (hR.out.thrown.unk.up hn))
        · have s1 : ¬ nI s = 0 := nI_ne0 (by omega) (by omega)
          have s2 : ¬ nI s ≤ 0 := nI_nle (by omega) (by omega)
          have s3 : 0 < nI s := nI_lt (a := 0) (by omega) (by omega)
          obtain ⟨k1, c, hc16, k2⟩ := hm.2.2.2.2.2 hs0
          have k2 : S.1 (pO ja) 7 = nI c := k2
          have k3 : S.1 220 ja = nI c := k1.trans k2
          have cc1 := cc c hc16
          have L6 := L2 c hc16
          have hcx : nI jc = nI c ↔ jc = c := nI_eq (by omega) (by omega)
          rcases hm.1.2 with b4 | b4
          · have b4 : S.1 (pO ja) 3 = 0 := b4
            by_cases q1 : jc = c
            · subst q1
              simp [gi_i, gl_i, gl_l, gi_l, lgs, wp_Out_show_33, wp_Out_show_62, wp_Out_show_103, wp_Point_mayBegin, wp_Point_mayBegin_40, wp_Point_mayBegin_41, wp_Point_runs, wp_Point_runs_18, wp_Point_runs_19, wp_Cards_isGood, wp_Cards_isGood_15, wp_Cards_areOfOneHolder, wp_Cards_areOfOneHolder_29, wp_Cards_areOfOneHolder_33, wp_Cards_areOfOneHolder_34, wp_Point_begin, wp_Point_end, fw_bz, wp_M_show_25, wp_M_show_102, wp_M_show_103, wp_M_show_146, wp_M_show_156, wp_M_show_203, wp_M_show_207, wp_M_show_208, wp_M_show_224, wp_M_list, wp_M_list_20, wp_M_ends, mput_i, mput_l, a4, a5, c4, c5, f3, f4, f5, f6, f7, f8, g1, g2, e5, e7, b0, b0m, L1, L2, L3, L4, L5, s1, b4, k2, k3, cc1, L6]
              exact lx_next hx (hk _ (hR.out.thrown.unk.up hn))
            · by_cases q2 : S.1 (pO ja + 30) jc = S.1 (pO ja + 30) c
              · by_cases q3 : S.1 (pO ja + 30) c = 0
                all_goals simp [gi_i, gl_i, gl_l, gi_l, lgs, wp_Out_show_33, wp_Out_show_62, wp_Out_show_103, wp_Point_mayBegin, wp_Point_mayBegin_40, wp_Point_mayBegin_41, wp_Point_runs, wp_Point_runs_18, wp_Point_runs_19, wp_Cards_isGood, wp_Cards_isGood_15, wp_Cards_areOfOneHolder, wp_Cards_areOfOneHolder_29, wp_Cards_areOfOneHolder_33, wp_Cards_areOfOneHolder_34, wp_Point_begin, wp_Point_end, fw_bz, wp_M_show_25, wp_M_show_102, wp_M_show_103, wp_M_show_146, wp_M_show_156, wp_M_show_203, wp_M_show_207, wp_M_show_208, wp_M_show_224, wp_M_list, wp_M_list_20, wp_M_ends, mput_i, mput_l, a4, a5, c4, c5, f3, f4, f5, f6, f7, f8, g1, g2, e5, e7, b0, b0m, L1, L2, L3, L4, L5, s1, b4, k2, k3, cc1, L6, hcx, q1, q2, q3, L5 jc (by omega), L5 c hc16]
                all_goals exact lx_next hx (hk _ (hR.out.thrown.unk.up hn))
              · simp [gi_i, gl_i, gl_l, gi_l, lgs, wp_Out_show_33, wp_Out_show_62, wp_Out_show_103, wp_Point_mayBegin, wp_Point_mayBegin_40, wp_Point_mayBegin_41, wp_Point_runs, wp_Point_runs_18, wp_Point_runs_19, wp_Cards_isGood, wp_Cards_isGood_15, wp_Cards_areOfOneHolder, wp_Cards_areOfOneHolder_29, wp_Cards_areOfOneHolder_33, wp_Cards_areOfOneHolder_34, wp_Point_begin, wp_Point_end, fw_bz, wp_M_show_25, wp_M_show_102, wp_M_show_103, wp_M_show_146, wp_M_show_156, wp_M_show_203, wp_M_show_207, wp_M_show_208, wp_M_show_224, wp_M_list, wp_M_list_20, wp_M_ends, mput_i, mput_l, a4, a5, c4, c5, f3, f4, f5, f6, f7, f8, g1, g2, e5, e7, b0, b0m, L1, L2, L3, L4, L5, s1, b4, k2, k3, cc1, L6, hcx, q1, q2, L5 jc (by omega), L5 c hc16]
                exact lx_next hx (hk _ (hR.out.thrown.unk.up hn))
          · have b4 : S.1 (pO ja) 3 = 1 := b4
            have b2 : S.1 (pO ja + 1) 0 = 1 := hc.2.2.2.2.2.2 hs0 b4
            by_cases q1 : jc = c
            · subst q1
              have T := fun (kd tm idl : Int32) (post : fw_S → Prop) => tell_ex (S := S) (o := pO ja) (kd := kd) (tm := tm) (idl := idl) (post := post) f1 f2 hq.2.1.2 hz
              have TI : ∀ (a j : Nat) (kd tm wh idl : Int32), 209 ≤ a → (tellS (pO ja) (pO ja + rw_ h z) S kd tm wh idl).1 a j = S.1 a j := fun a j kd tm wh idl h => tell_i (by omega)
              obtain ⟨idl, hidl, I1, I2⟩ := idle_ex hc ha b2
              simp [gi_i, gl_i, gl_l, gi_l, lgs, wp_Out_show_33, wp_Out_show_62, wp_Out_show_103, wp_Point_mayBegin, wp_Point_mayBegin_40, wp_Point_mayBegin_41, wp_Point_runs, wp_Point_runs_18, wp_Point_runs_19, wp_Cards_isGood, wp_Cards_isGood_15, wp_Cards_areOfOneHolder, wp_Cards_areOfOneHolder_29, wp_Cards_areOfOneHolder_33, wp_Cards_areOfOneHolder_34, wp_Point_begin, wp_Point_end, fw_bz, wp_M_show_25, wp_M_show_102, wp_M_show_103, wp_M_show_146, wp_M_show_156, wp_M_show_203, wp_M_show_207, wp_M_show_208, wp_M_show_224, wp_M_list, wp_M_list_20, wp_M_ends, mput_i, mput_l, a4, a5, c4, c5, f3, f4, f5, f6, f7, f8, g1, g2, e5, e7, b0, b0m, L1, L2, L3, L4, L5, s1, b4, b2, k2, k3, cc1, L6, T, TI, tell_l, hM, I1, I2, hw.1]
              refine lx_next hx (hk _ ?_)
              refine RR.pt2 (p := ja) hG hV hn (fun a k hg => ?_) (fun k => by simp [gi_l, gl_l, mput_l, tell_l]) (by simp [gi_i, gl_i, mput_i]) (fun q hq e => ?_) ?_
              · unfold gcell at hg
                have hma : ¬ a = 225 ∧ ¬ a = 221 ∧ ¬ a = 222 := by omega
                have hta : a = pO ja ∨ a = pO ja + 1 ∨ a < pO ja ∨ pO ja + 31 ≤ a := by omega
                simp only [gi_i, gl_i, mput_i hma, tell_i hta]
                repeat rw [if_neg (by omega)]
              · rw [vw_si (nf_m hq e (by unfold isM; omega)), vwo_mput hq e hz, vw_si (nofoot hq (by omega)), vw_si (nofoot hq (by omega)), vw_sl (nofoot hq (by omega)), vw_si (nf_x0 hp hq e), vw_si (nf_x0 hp hq e), vwo_tell hp hq e hr]
              · rw [vw_mi hp (by unfold isM; omega), vw_mput hp hz, vw_si (nofoot hp (by omega)), vw_si (nofoot hp (by omega)), vw_sl (nofoot hp (by omega)), vw_xi0 hp, vw_xi0 hp, vw_tell hp hr]
                exact (stop_view hm hc hq hs hb hkk hs0 hidl hw.2).up
            · by_cases q2 : S.1 (pO ja + 30) jc = S.1 (pO ja + 30) c
              · by_cases q3 : S.1 (pO ja + 30) c = 0
                · simp [gi_i, gl_i, gl_l, gi_l, lgs, wp_Out_show_33, wp_Out_show_62, wp_Out_show_103, wp_Point_mayBegin, wp_Point_mayBegin_40, wp_Point_mayBegin_41, wp_Point_runs, wp_Point_runs_18, wp_Point_runs_19, wp_Cards_isGood, wp_Cards_isGood_15, wp_Cards_areOfOneHolder, wp_Cards_areOfOneHolder_29, wp_Cards_areOfOneHolder_33, wp_Cards_areOfOneHolder_34, wp_Point_begin, wp_Point_end, fw_bz, wp_M_show_25, wp_M_show_102, wp_M_show_103, wp_M_show_146, wp_M_show_156, wp_M_show_203, wp_M_show_207, wp_M_show_208, wp_M_show_224, wp_M_list, wp_M_list_20, wp_M_ends, mput_i, mput_l, a4, a5, c4, c5, f3, f4, f5, f6, f7, f8, g1, g2, e5, e7, b0, b0m, L1, L2, L3, L4, L5, s1, b4, b2, k2, k3, cc1, L6, hcx, q1, q2, q3, L5 jc (by omega), L5 c hc16]
                  exact lx_next hx (hk _ (hR.out.thrown.unk.up hn))
                · have T := fun (kd tm idl : Int32) (post : fw_S → Prop) => tell_ex (S := S) (o := pO ja) (kd := kd) (tm := tm) (idl := idl) (post := post) f1 f2 hq.2.1.2 hz
                  have TI : ∀ (a j : Nat) (kd tm wh idl : Int32), 209 ≤ a → (tellS (pO ja) (pO ja + rw_ h z) S kd tm wh idl).1 a j = S.1 a j := fun a j kd tm wh idl h => tell_i (by omega)
                  obtain ⟨idl, hidl, I1, I2⟩ := idle_ex hc ha b2
                  simp [gi_i, gl_i, gl_l, gi_l, lgs, wp_Out_show_33, wp_Out_show_62, wp_Out_show_103, wp_Point_mayBegin, wp_Point_mayBegin_40, wp_Point_mayBegin_41, wp_Point_runs, wp_Point_runs_18, wp_Point_runs_19, wp_Cards_isGood, wp_Cards_isGood_15, wp_Cards_areOfOneHolder, wp_Cards_areOfOneHolder_29, wp_Cards_areOfOneHolder_33, wp_Cards_areOfOneHolder_34, wp_Point_begin, wp_Point_end, fw_bz, wp_M_show_25, wp_M_show_102, wp_M_show_103, wp_M_show_146, wp_M_show_156, wp_M_show_203, wp_M_show_207, wp_M_show_208, wp_M_show_224, wp_M_list, wp_M_list_20, wp_M_ends, mput_i, mput_l, a4, a5, c4, c5, f3, f4, f5, f6, f7, f8, g1, g2, e5, e7, b0, b0m, L1, L2, L3, L4, L5, s1, b4, b2, k2, k3, cc1, L6, hcx, q1, q2, q3, L5 jc (by omega), L5 c hc16, T, TI, tell_l, hM, I1, I2, hw.1]
                  refine lx_next hx (hk _ ?_)
                  refine RR.pt2 (p := ja) hG hV hn (fun a k hg => ?_) (fun k => by simp [gi_l, gl_l, mput_l, tell_l]) (by simp [gi_i, gl_i, mput_i]) (fun q hq e => ?_) ?_
                  · unfold gcell at hg
                    have hma : ¬ a = 225 ∧ ¬ a = 221 ∧ ¬ a = 222 := by omega
                    have hta : a = pO ja ∨ a = pO ja + 1 ∨ a < pO ja ∨ pO ja + 31 ≤ a := by omega
                    simp only [gi_i, gl_i, mput_i hma, tell_i hta]
                    repeat rw [if_neg (by omega)]
                  · rw [vw_si (nf_m hq e (by unfold isM; omega)), vwo_mput hq e hz, vw_si (nofoot hq (by omega)), vw_si (nofoot hq (by omega)), vw_sl (nofoot hq (by omega)), vw_si (nf_x0 hp hq e), vw_si (nf_x0 hp hq e), vwo_tell hp hq e hr]
                  · rw [vw_mi hp (by unfold isM; omega), vw_mput hp hz, vw_si (nofoot hp (by omega)), vw_si (nofoot hp (by omega)), vw_sl (nofoot hp (by omega)), vw_xi0 hp, vw_xi0 hp, vw_tell hp hr]
                    exact (stop_view hm hc hq hs hb hkk hs0 hidl hw.2).up
              · by_cases q3 : S.1 (pO ja + 30) jc = 0
                · have q4 : ¬ 0 = S.1 (pO ja + 30) c := fun q => q2 (q3.trans q)
                  simp [gi_i, gl_i, gl_l, gi_l, lgs, wp_Out_show_33, wp_Out_show_62, wp_Out_show_103, wp_Point_mayBegin, wp_Point_mayBegin_40, wp_Point_mayBegin_41, wp_Point_runs, wp_Point_runs_18, wp_Point_runs_19, wp_Cards_isGood, wp_Cards_isGood_15, wp_Cards_areOfOneHolder, wp_Cards_areOfOneHolder_29, wp_Cards_areOfOneHolder_33, wp_Cards_areOfOneHolder_34, wp_Point_begin, wp_Point_end, fw_bz, wp_M_show_25, wp_M_show_102, wp_M_show_103, wp_M_show_146, wp_M_show_156, wp_M_show_203, wp_M_show_207, wp_M_show_208, wp_M_show_224, wp_M_list, wp_M_list_20, wp_M_ends, mput_i, mput_l, a4, a5, c4, c5, f3, f4, f5, f6, f7, f8, g1, g2, e5, e7, b0, b0m, L1, L2, L3, L4, L5, s1, b4, b2, k2, k3, cc1, L6, hcx, q1, q3, q4, L5 jc (by omega), L5 c hc16]
                  exact lx_next hx (hk _ (hR.out.thrown.unk.up hn))
                · simp [gi_i, gl_i, gl_l, gi_l, lgs, wp_Out_show_33, wp_Out_show_62, wp_Out_show_103, wp_Point_mayBegin, wp_Point_mayBegin_40, wp_Point_mayBegin_41, wp_Point_runs, wp_Point_runs_18, wp_Point_runs_19, wp_Cards_isGood, wp_Cards_isGood_15, wp_Cards_areOfOneHolder, wp_Cards_areOfOneHolder_29, wp_Cards_areOfOneHolder_33, wp_Cards_areOfOneHolder_34, wp_Point_begin, wp_Point_end, fw_bz, wp_M_show_25, wp_M_show_102, wp_M_show_103, wp_M_show_146, wp_M_show_156, wp_M_show_203, wp_M_show_207, wp_M_show_208, wp_M_show_224, wp_M_list, wp_M_list_20, wp_M_ends, mput_i, mput_l, a4, a5, c4, c5, f3, f4, f5, f6, f7, f8, g1, g2, e5, e7, b0, b0m, L1, L2, L3, L4, L5, s1, b4, b2, k2, k3, cc1, L6, hcx, q1, q2, q3, L5 jc (by omega), L5 c hc16]
                  exact lx_next hx (hk _ (hR.out.thrown.unk.up hn))
      · have b0 : S.1 (pO ja) 4 = 1 := b0
        have b0m : S.1 216 ja = 1 := hm.2.1.1.trans b0
        have L1 : True := trivial
        have L2 : ∀ c, c < 16 → 0 + nI c = nI c ∧ vp_in (nI c) 112 ∧ (nI c).toNatClampNeg = c := fun c hc => ⟨Int32.zero_add _, vp_in_nI (by omega) (by omega), nI_clamp (by omega)⟩
        have L3 := L2 jc (by omega)
        have L4 : ∀ c, c < 16 → S.1 213 c = S.1 4 c := fun c hc => (hG.2.2.2.2.1 c hc).1.symm
        have L5 : ∀ c, c < 16 → S.1 214 c = S.1 5 c := fun c hc => (hG.2.2.2.2.1 c hc).2.symm
        by_cases hs0 : s = 0
        · have s1 : nI s = 0 := by rw [hs0]; rfl
          subst hs0
          rcases hm.1.2 with b4 | b4
          · have b4 : S.1 (pO ja) 3 = 0 := b4
            simp [gi_i, gl_i, gl_l, gi_l, lgs, wp_Out_show_33, wp_Out_show_62, wp_Out_show_103, wp_Point_mayBegin, wp_Point_mayBegin_40, wp_Point_mayBegin_41, wp_Point_runs, wp_Point_runs_18, wp_Point_runs_19, wp_Cards_isGood, wp_Cards_isGood_15, wp_Cards_areOfOneHolder, wp_Cards_areOfOneHolder_29, wp_Cards_areOfOneHolder_33, wp_Cards_areOfOneHolder_34, wp_Point_begin, wp_Point_end, fw_bz, wp_M_show_25, wp_M_show_102, wp_M_show_103, wp_M_show_146, wp_M_show_156, wp_M_show_203, wp_M_show_207, wp_M_show_208, wp_M_show_224, wp_M_list, wp_M_list_20, wp_M_ends, mput_i, mput_l, a4, a5, c4, c5, f3, f4, f5, f6, f7, f8, g1, g2, e5, e7, b0, b0m, L1, L2, L3, L4, L5, s1, b4]
            exact lx_next hx (hk _ (hR.out.thrown.unk.up hn))
          · have b4 : S.1 (pO ja) 3 = 1 := b4
            rcases hc.1.2 with b2 | b2
            · have b2 : S.1 (pO ja + 1) 0 = 0 := b2
              simp [gi_i, gl_i, gl_l, gi_l, lgs, wp_Out_show_33, wp_Out_show_62, wp_Out_show_103, wp_Point_mayBegin, wp_Point_mayBegin_40, wp_Point_mayBegin_41, wp_Point_runs, wp_Point_runs_18, wp_Point_runs_19, wp_Cards_isGood, wp_Cards_isGood_15, wp_Cards_areOfOneHolder, wp_Cards_areOfOneHolder_29, wp_Cards_areOfOneHolder_33, wp_Cards_areOfOneHolder_34, wp_Point_begin, wp_Point_end, fw_bz, wp_M_show_25, wp_M_show_102, wp_M_show_103, wp_M_show_146, wp_M_show_156, wp_M_show_203, wp_M_show_207, wp_M_show_208, wp_M_show_224, wp_M_list, wp_M_list_20, wp_M_ends, mput_i, mput_l, a4, a5, c4, c5, f3, f4, f5, f6, f7, f8, g1, g2, e5, e7, b0, b0m, L1, L2, L3, L4, L5, s1, b4, b2]
              exact lx_next hx (hk _ (hR.out.thrown.unk.up hn))
            · have b2 : S.1 (pO ja + 1) 0 = 1 := b2
              by_cases hz20 : 20 < z
              · have d1 : 20 < nI z := nI_lt (a := 20) hz20 (by omega)
                have d2 : ¬ nI z ≤ 20 := nI_ge (a := 20) hz20 (by omega)
                simp [gi_i, gl_i, gl_l, gi_l, lgs, wp_Out_show_33, wp_Out_show_62, wp_Out_show_103, wp_Point_mayBegin, wp_Point_mayBegin_40, wp_Point_mayBegin_41, wp_Point_runs, wp_Point_runs_18, wp_Point_runs_19, wp_Cards_isGood, wp_Cards_isGood_15, wp_Cards_areOfOneHolder, wp_Cards_areOfOneHolder_29, wp_Cards_areOfOneHolder_33, wp_Cards_areOfOneHolder_34, wp_Point_begin, wp_Point_end, fw_bz, wp_M_show_25, wp_M_show_102, wp_M_show_103, wp_M_show_146, wp_M_show_156, wp_M_show_203, wp_M_show_207, wp_M_show_208, wp_M_show_224, wp_M_list, wp_M_list_20, wp_M_ends, mput_i, mput_l, a4, a5, c4, c5, f3, f4, f5, f6, f7, f8, g1, g2, e5, e7, b0, b0m, L1, L2, L3, L4, L5, s1, b4, b2, d1, d2, f2]
                exact lx_next hx (hk _ (hR.out.thrown.unk.up hn))
              · have d1 : ¬ 20 < nI z := nI_nlt (b := 20) (a := 20) (by omega) (by omega) |> fun _ => nI_nlt (a := 20) (b := z) (by omega) (by omega)
                have d2 : nI z ≤ 20 := nI_le (b := 20) (by omega) (by omega)
                by_cases hst : S.1 4 jc = 1
                · have B1 : ∀ (a k : Nat) (x : Int32), ¬ a = pO ja → (fw_si (fw_si (fw_si S (pO ja) 8 (nI (ls + 1))) (pO ja) 6 (nI (ls + 1))) (pO ja) 7 (nI jc)).1 a k = S.1 a k := fun a k x h => by simp [gi_i, h]
                  have T := fun (kd tm idl : Int32) (post : fw_S → Prop) => tell_ex (S := fw_si (fw_si (fw_si S (pO ja) 8 (nI (ls + 1))) (pO ja) 6 (nI (ls + 1))) (pO ja) 7 (nI jc)) (o := pO ja) (kd := kd) (tm := tm) (idl := idl) (post := post) (by rw [B1 _ _ 0 (by omega)]; exact f1) (by rw [B1 _ _ 0 (by omega)]; exact f2) hq.2.1.2 hz
                  have TI : ∀ (a j : Nat) (kd tm wh idl : Int32), 209 ≤ a → (tellS (pO ja) (pO ja + rw_ h z) (fw_si (fw_si (fw_si S (pO ja) 8 (nI (ls + 1))) (pO ja) 6 (nI (ls + 1))) (pO ja) 7 (nI jc)) kd tm wh idl).1 a j = S.1 a j := fun a j kd tm wh idl h => by
                    rw [tell_i (by omega)]
                    exact B1 _ _ 0 (by omega)
                  simp [gi_i, gl_i, gl_l, gi_l, lgs, wp_Out_show_33, wp_Out_show_62, wp_Out_show_103, wp_Point_mayBegin, wp_Point_mayBegin_40, wp_Point_mayBegin_41, wp_Point_runs, wp_Point_runs_18, wp_Point_runs_19, wp_Cards_isGood, wp_Cards_isGood_15, wp_Cards_areOfOneHolder, wp_Cards_areOfOneHolder_29, wp_Cards_areOfOneHolder_33, wp_Cards_areOfOneHolder_34, wp_Point_begin, wp_Point_end, fw_bz, wp_M_show_25, wp_M_show_102, wp_M_show_103, wp_M_show_146, wp_M_show_156, wp_M_show_203, wp_M_show_207, wp_M_show_208, wp_M_show_224, wp_M_list, wp_M_list_20, wp_M_ends, mput_i, mput_l, a4, a5, c4, c5, f3, f4, f5, f6, f7, f8, g1, g2, e5, e7, b0, b0m, L1, L2, L3, L4, L5, s1, b4, b2, d1, d2, f2, hst, L4 jc (by omega), f10, f11, nI_1, T, TI, tell_l, hM, hw.1]
                  refine lx_next hx (hk _ ?_)
                  refine RR.pt2 (p := ja) hG hV hn (fun a k hg => ?_) (fun k => by simp [gi_l, gl_l, mput_l, tell_l]) (by simp [gi_i, gl_i, mput_i]) (fun q hq e => ?_) ?_
                  · unfold gcell at hg
                    have hma : ¬ a = 225 ∧ ¬ a = 221 ∧ ¬ a = 222 := by omega
                    have hta : a = pO ja ∨ a = pO ja + 1 ∨ a < pO ja ∨ pO ja + 31 ≤ a := by omega
                    simp only [gi_i, gl_i, mput_i hma, tell_i hta]
                    repeat rw [if_neg (by omega)]
                  · rw [vwo_mput hq e hz, vw_si (nf_m hq e (by unfold isM; omega)), vw_si (nf_m hq e (by unfold isM; omega)), vw_si (nf_m hq e (by unfold isM; omega)), vw_si (nofoot hq (by omega)), vw_si (nofoot hq (by omega)), vw_sl (nofoot hq (by omega)), vwo_tell hp hq e hr, vw_si (nf_x0 hp hq e), vw_si (nf_x0 hp hq e), vw_si (nf_x0 hp hq e)]
                  · rw [vw_mput hp hz, vw_mi hp (by unfold isM; omega), vw_mi hp (by unfold isM; omega), vw_mi hp (by unfold isM; omega), vw_si (nofoot hp (by omega)), vw_si (nofoot hp (by omega)), vw_sl (nofoot hp (by omega)), vw_tell hp hr, vw_xi0 hp, vw_xi0 hp, vw_xi0 hp]
                    refine RV.start (g := g) (c := jc) hm hq hs hb hkk (by omega) ?_ (by omega) ?_ ?_ ?_
                    · refine PUT.mk (A1 := fw_si (fw_si (fw_si (vw ja S) 0 8 (nI (ls + 1))) 0 6 (nI (ls + 1))) 0 7 (nI jc)) (B := fw_si (fw_si (fw_si (tellS 0 (rw_ h z) (fw_si (fw_si (fw_si (vw ja S) 0 8 (nI (ls + 1))) 0 6 (nI (ls + 1))) 0 7 (nI jc)) 0 (nI t) (nI (w / 3600)) 0) 219 0 (nI (ls + 1))) 218 0 (nI (ls + 1))) 220 0 (nI jc)) hz (fun a k hq => ?_) (fun _ => rfl) (fun a k hq => ?_) (fun k => rfl) (fun a k hq => ?_) (fun k => rfl) ?_ ?_ ?_ ?_ hq.2.2.1
                      · unfold pcell at hq
                        simp only [gi_i]
                        repeat rw [if_neg (by omega)]
                      · unfold pcell at hq
                        simp only [gi_i]
                        repeat rw [if_neg (by omega)]
                        rfl
                      · rfl
                      · simp [gi_i]
                      · simp [gi_i]
                      · simp [gi_i]
                      · simp only [gi_l, tell_l]
                        rw [hm.2.2.1.1]
                        exact hw.2
                    · simp [gi_i, gi_l, mput_i, mput_l, tell0_i, tell_l]
                    · have hc := hc
                      unfold RVc at hc ⊢
                      simp only [gi_i, gi_l, mput_i (show ¬ 227 = 225 ∧ ¬ 227 = 221 ∧ ¬ 227 = 222 by omega), mput_i (show ¬ 1 = 225 ∧ ¬ 1 = 221 ∧ ¬ 1 = 222 by omega), mput_i (show ¬ 231 = 225 ∧ ¬ 231 = 221 ∧ ¬ 231 = 222 by omega), mput_i (show ¬ 229 = 225 ∧ ¬ 229 = 221 ∧ ¬ 229 = 222 by omega), mput_i (show ¬ 228 = 225 ∧ ¬ 228 = 221 ∧ ¬ 228 = 222 by omega), mput_i (show ¬ 232 = 225 ∧ ¬ 232 = 221 ∧ ¬ 232 = 222 by omega), mput_l (show ¬ 230 = 226 by omega), mput_i (show ¬ 0 = 225 ∧ ¬ 0 = 221 ∧ ¬ 0 = 222 by omega), tell0_i (show ¬ 227 = 2 ∧ ¬ (4 ≤ 227 ∧ 227 < 28) by omega), tell0_i (show ¬ 1 = 2 ∧ ¬ (4 ≤ 1 ∧ 1 < 28) by omega), tell0_i (show ¬ 231 = 2 ∧ ¬ (4 ≤ 231 ∧ 231 < 28) by omega), tell0_i (show ¬ 229 = 2 ∧ ¬ (4 ≤ 229 ∧ 229 < 28) by omega), tell0_i (show ¬ 228 = 2 ∧ ¬ (4 ≤ 228 ∧ 228 < 28) by omega), tell0_i (show ¬ 232 = 2 ∧ ¬ (4 ≤ 232 ∧ 232 < 28) by omega), tell0_i (show ¬ 0 = 2 ∧ ¬ (4 ≤ 0 ∧ 0 < 28) by omega), tell_l, Nat.reduceEqDiff, false_and, and_false, if_false]
                      exact ⟨hc.1, hc.2.1, hc.2.2.1, hc.2.2.2.1, hc.2.2.2.2.1, hc.2.2.2.2.2.1, fun _ _ => b2⟩
                    · refine ⟨fun o k ho => ?_, fun o k ho => ?_, fun o k ho => ?_⟩
                      · simp only [gi_i, mput_i (show ¬ o = 225 ∧ ¬ o = 221 ∧ ¬ o = 222 by omega), tell0_i (show ¬ o = 2 ∧ ¬ (4 ≤ o ∧ o < 28) by omega)]
                        repeat rw [if_neg (by omega)]
                      · simp only [gi_l, mput_l (show ¬ o = 226 by omega), tell_l]
                      · have : 28 < o := by omega
                        simp only [gi_i, mput_i (show ¬ o = 225 ∧ ¬ o = 221 ∧ ¬ o = 222 by omega), tell0_i (show ¬ o = 2 ∧ ¬ (4 ≤ o ∧ o < 28) by omega)]
                        repeat rw [if_neg (by omega)]
                · simp [gi_i, gl_i, gl_l, gi_l, lgs, wp_Out_show_33, wp_Out_show_62, wp_Out_show_103, wp_Point_mayBegin, wp_Point_mayBegin_40, wp_Point_mayBegin_41, wp_Point_runs, wp_Point_runs_18, wp_Point_runs_19, wp_Cards_isGood, wp_Cards_isGood_15, wp_Cards_areOfOneHolder, wp_Cards_areOfOneHolder_29, wp_Cards_areOfOneHolder_33, wp_Cards_areOfOneHolder_34, wp_Point_begin, wp_Point_end, fw_bz, wp_M_show_25, wp_M_show_102, wp_M_show_103, wp_M_show_146, wp_M_show_156, wp_M_show_203, wp_M_show_207, wp_M_show_208, wp_M_show_224, wp_M_list, wp_M_list_20, wp_M_ends, mput_i, mput_l, a4, a5, c4, c5, f3, f4, f5, f6, f7, f8, g1, g2, e5, e7, b0, b0m, L1, L2, L3, L4, L5, s1, b4, b2, d1, d2, f2, hst, L4 jc (by omega)]
                  exact lx_next hx (hk _ (hR.out.thrown.unk.up hn))
        · have s1 : ¬ nI s = 0 := nI_ne0 (by omega) (by omega)
          have s2 : ¬ nI s ≤ 0 := nI_nle (by omega) (by omega)
          have s3 : 0 < nI s := nI_lt (a := 0) (by omega) (by omega)
          obtain ⟨k1, c, hc16, k2⟩ := hm.2.2.2.2.2 hs0
          have k2 : S.1 (pO ja) 7 = nI c := k2
          have k3 : S.1 220 ja = nI c := k1.trans k2
          have cc1 := cc c hc16
          have L6 := L2 c hc16
          have hcx : nI jc = nI c ↔ jc = c := nI_eq (by omega) (by omega)
          rcases hm.1.2 with b4 | b4
          · have b4 : S.1 (pO ja) 3 = 0 := b4
            by_cases q1 : jc = c
            · subst q1
              simp [gi_i, gl_i, gl_l, gi_l, lgs, wp_Out_show_33, wp_Out_show_62, wp_Out_show_103, wp_Point_mayBegin, wp_Point_mayBegin_40, wp_Point_mayBegin_41, wp_Point_runs, wp_Point_runs_18, wp_Point_runs_19, wp_Cards_isGood, wp_Cards_isGood_15, wp_Cards_areOfOneHolder, wp_Cards_areOfOneHolder_29, wp_Cards_areOfOneHolder_33, wp_Cards_areOfOneHolder_34, wp_Point_begin, wp_Point_end, fw_bz, wp_M_show_25, wp_M_show_102, wp_M_show_103, wp_M_show_146, wp_M_show_156, wp_M_show_203, wp_M_show_207, wp_M_show_208, wp_M_show_224, wp_M_list, wp_M_list_20, wp_M_ends, mput_i, mput_l, a4, a5, c4, c5, f3, f4, f5, f6, f7, f8, g1, g2, e5, e7, b0, b0m, L1, L2, L3, L4, L5, s1, b4, k2, k3, cc1, L6]
              exact lx_next hx (hk _ (hR.out.thrown.unk.up hn))
            · by_cases q2 : S.1 5 jc = S.1 5 c
              · by_cases q3 : S.1 5 c = 0
                all_goals simp [gi_i, gl_i, gl_l, gi_l, lgs, wp_Out_show_33, wp_Out_show_62, wp_Out_show_103, wp_Point_mayBegin, wp_Point_mayBegin_40, wp_Point_mayBegin_41, wp_Point_runs, wp_Point_runs_18, wp_Point_runs_19, wp_Cards_isGood, wp_Cards_isGood_15, wp_Cards_areOfOneHolder, wp_Cards_areOfOneHolder_29, wp_Cards_areOfOneHolder_33, wp_Cards_areOfOneHolder_34, wp_Point_begin, wp_Point_end, fw_bz, wp_M_show_25, wp_M_show_102, wp_M_show_103, wp_M_show_146, wp_M_show_156, wp_M_show_203, wp_M_show_207, wp_M_show_208, wp_M_show_224, wp_M_list, wp_M_list_20, wp_M_ends, mput_i, mput_l, a4, a5, c4, c5, f3, f4, f5, f6, f7, f8, g1, g2, e5, e7, b0, b0m, L1, L2, L3, L4, L5, s1, b4, k2, k3, cc1, L6, hcx, q1, q2, q3, L5 jc (by omega), L5 c hc16]
                all_goals exact lx_next hx (hk _ (hR.out.thrown.unk.up hn))
              · simp [gi_i, gl_i, gl_l, gi_l, lgs, wp_Out_show_33, wp_Out_show_62, wp_Out_show_103, wp_Point_mayBegin, wp_Point_mayBegin_40, wp_Point_mayBegin_41, wp_Point_runs, wp_Point_runs_18, wp_Point_runs_19, wp_Cards_isGood, wp_Cards_isGood_15, wp_Cards_areOfOneHolder, wp_Cards_areOfOneHolder_29, wp_Cards_areOfOneHolder_33, wp_Cards_areOfOneHolder_34, wp_Point_begin, wp_Point_end, fw_bz, wp_M_show_25, wp_M_show_102, wp_M_show_103, wp_M_show_146, wp_M_show_156, wp_M_show_203, wp_M_show_207, wp_M_show_208, wp_M_show_224, wp_M_list, wp_M_list_20, wp_M_ends, mput_i, mput_l, a4, a5, c4, c5, f3, f4, f5, f6, f7, f8, g1, g2, e5, e7, b0, b0m, L1, L2, L3, L4, L5, s1, b4, k2, k3, cc1, L6, hcx, q1, q2, L5 jc (by omega), L5 c hc16]
                exact lx_next hx (hk _ (hR.out.thrown.unk.up hn))
          · have b4 : S.1 (pO ja) 3 = 1 := b4
            have b2 : S.1 (pO ja + 1) 0 = 1 := hc.2.2.2.2.2.2 hs0 b4
            by_cases q1 : jc = c
            · subst q1
              have T := fun (kd tm idl : Int32) (post : fw_S → Prop) => tell_ex (S := S) (o := pO ja) (kd := kd) (tm := tm) (idl := idl) (post := post) f1 f2 hq.2.1.2 hz
              have TI : ∀ (a j : Nat) (kd tm wh idl : Int32), 209 ≤ a → (tellS (pO ja) (pO ja + rw_ h z) S kd tm wh idl).1 a j = S.1 a j := fun a j kd tm wh idl h => tell_i (by omega)
              obtain ⟨idl, hidl, I1, I2⟩ := idle_ex hc ha b2
              simp [gi_i, gl_i, gl_l, gi_l, lgs, wp_Out_show_33, wp_Out_show_62, wp_Out_show_103, wp_Point_mayBegin, wp_Point_mayBegin_40, wp_Point_mayBegin_41, wp_Point_runs, wp_Point_runs_18, wp_Point_runs_19, wp_Cards_isGood, wp_Cards_isGood_15, wp_Cards_areOfOneHolder, wp_Cards_areOfOneHolder_29, wp_Cards_areOfOneHolder_33, wp_Cards_areOfOneHolder_34, wp_Point_begin, wp_Point_end, fw_bz, wp_M_show_25, wp_M_show_102, wp_M_show_103, wp_M_show_146, wp_M_show_156, wp_M_show_203, wp_M_show_207, wp_M_show_208, wp_M_show_224, wp_M_list, wp_M_list_20, wp_M_ends, mput_i, mput_l, a4, a5, c4, c5, f3, f4, f5, f6, f7, f8, g1, g2, e5, e7, b0, b0m, L1, L2, L3, L4, L5, s1, b4, b2, k2, k3, cc1, L6, T, TI, tell_l, hM, I1, I2, hw.1]
              refine lx_next hx (hk _ ?_)
              refine RR.pt2 (p := ja) hG hV hn (fun a k hg => ?_) (fun k => by simp [gi_l, gl_l, mput_l, tell_l]) (by simp [gi_i, gl_i, mput_i]) (fun q hq e => ?_) ?_
              · unfold gcell at hg
                have hma : ¬ a = 225 ∧ ¬ a = 221 ∧ ¬ a = 222 := by omega
                have hta : a = pO ja ∨ a = pO ja + 1 ∨ a < pO ja ∨ pO ja + 31 ≤ a := by omega
                simp only [gi_i, gl_i, mput_i hma, tell_i hta]
                repeat rw [if_neg (by omega)]
              · rw [vw_si (nf_m hq e (by unfold isM; omega)), vwo_mput hq e hz, vw_si (nofoot hq (by omega)), vw_si (nofoot hq (by omega)), vw_sl (nofoot hq (by omega)), vw_si (nf_x0 hp hq e), vw_si (nf_x0 hp hq e), vwo_tell hp hq e hr]
              · rw [vw_mi hp (by unfold isM; omega), vw_mput hp hz, vw_si (nofoot hp (by omega)), vw_si (nofoot hp (by omega)), vw_sl (nofoot hp (by omega)), vw_xi0 hp, vw_xi0 hp, vw_tell hp hr]
                exact (stop_view hm hc hq hs hb hkk hs0 hidl hw.2).up
            · by_cases q2 : S.1 5 jc = S.1 5 c
              · by_cases q3 : S.1 5 c = 0
                · simp [gi_i, gl_i, gl_l, gi_l, lgs, wp_Out_show_33, wp_Out_show_62, wp_Out_show_103, wp_Point_mayBegin, wp_Point_mayBegin_40, wp_Point_mayBegin_41, wp_Point_runs, wp_Point_runs_18, wp_Point_runs_19, wp_Cards_isGood, wp_Cards_isGood_15, wp_Cards_areOfOneHolder, wp_Cards_areOfOneHolder_29, wp_Cards_areOfOneHolder_33, wp_Cards_areOfOneHolder_34, wp_Point_begin, wp_Point_end, fw_bz, wp_M_show_25, wp_M_show_102, wp_M_show_103, wp_M_show_146, wp_M_show_156, wp_M_show_203, wp_M_show_207, wp_M_show_208, wp_M_show_224, wp_M_list, wp_M_list_20, wp_M_ends, mput_i, mput_l, a4, a5, c4, c5, f3, f4, f5, f6, f7, f8, g1, g2, e5, e7, b0, b0m, L1, L2, L3, L4, L5, s1, b4, b2, k2, k3, cc1, L6, hcx, q1, q2, q3, L5 jc (by omega), L5 c hc16]
                  exact lx_next hx (hk _ (hR.out.thrown.unk.up hn))
                · have T := fun (kd tm idl : Int32) (post : fw_S → Prop) => tell_ex (S := S) (o := pO ja) (kd := kd) (tm := tm) (idl := idl) (post := post) f1 f2 hq.2.1.2 hz
                  have TI : ∀ (a j : Nat) (kd tm wh idl : Int32), 209 ≤ a → (tellS (pO ja) (pO ja + rw_ h z) S kd tm wh idl).1 a j = S.1 a j := fun a j kd tm wh idl h => tell_i (by omega)
                  obtain ⟨idl, hidl, I1, I2⟩ := idle_ex hc ha b2
                  simp [gi_i, gl_i, gl_l, gi_l, lgs, wp_Out_show_33, wp_Out_show_62, wp_Out_show_103, wp_Point_mayBegin, wp_Point_mayBegin_40, wp_Point_mayBegin_41, wp_Point_runs, wp_Point_runs_18, wp_Point_runs_19, wp_Cards_isGood, wp_Cards_isGood_15, wp_Cards_areOfOneHolder, wp_Cards_areOfOneHolder_29, wp_Cards_areOfOneHolder_33, wp_Cards_areOfOneHolder_34, wp_Point_begin, wp_Point_end, fw_bz, wp_M_show_25, wp_M_show_102, wp_M_show_103, wp_M_show_146, wp_M_show_156, wp_M_show_203, wp_M_show_207, wp_M_show_208, wp_M_show_224, wp_M_list, wp_M_list_20, wp_M_ends, mput_i, mput_l, a4, a5, c4, c5, f3, f4, f5, f6, f7, f8, g1, g2, e5, e7, b0, b0m, L1, L2, L3, L4, L5, s1, b4, b2, k2, k3, cc1, L6, hcx, q1, q2, q3, L5 jc (by omega), L5 c hc16, T, TI, tell_l, hM, I1, I2, hw.1]
                  refine lx_next hx (hk _ ?_)
                  refine RR.pt2 (p := ja) hG hV hn (fun a k hg => ?_) (fun k => by simp [gi_l, gl_l, mput_l, tell_l]) (by simp [gi_i, gl_i, mput_i]) (fun q hq e => ?_) ?_
                  · unfold gcell at hg
                    have hma : ¬ a = 225 ∧ ¬ a = 221 ∧ ¬ a = 222 := by omega
                    have hta : a = pO ja ∨ a = pO ja + 1 ∨ a < pO ja ∨ pO ja + 31 ≤ a := by omega
                    simp only [gi_i, gl_i, mput_i hma, tell_i hta]
                    repeat rw [if_neg (by omega)]
                  · rw [vw_si (nf_m hq e (by unfold isM; omega)), vwo_mput hq e hz, vw_si (nofoot hq (by omega)), vw_si (nofoot hq (by omega)), vw_sl (nofoot hq (by omega)), vw_si (nf_x0 hp hq e), vw_si (nf_x0 hp hq e), vwo_tell hp hq e hr]
                  · rw [vw_mi hp (by unfold isM; omega), vw_mput hp hz, vw_si (nofoot hp (by omega)), vw_si (nofoot hp (by omega)), vw_sl (nofoot hp (by omega)), vw_xi0 hp, vw_xi0 hp, vw_tell hp hr]
                    exact (stop_view hm hc hq hs hb hkk hs0 hidl hw.2).up
              · by_cases q3 : S.1 5 jc = 0
                · have q4 : ¬ 0 = S.1 5 c := fun q => q2 (q3.trans q)
                  simp [gi_i, gl_i, gl_l, gi_l, lgs, wp_Out_show_33, wp_Out_show_62, wp_Out_show_103, wp_Point_mayBegin, wp_Point_mayBegin_40, wp_Point_mayBegin_41, wp_Point_runs, wp_Point_runs_18, wp_Point_runs_19, wp_Cards_isGood, wp_Cards_isGood_15, wp_Cards_areOfOneHolder, wp_Cards_areOfOneHolder_29, wp_Cards_areOfOneHolder_33, wp_Cards_areOfOneHolder_34, wp_Point_begin, wp_Point_end, fw_bz, wp_M_show_25, wp_M_show_102, wp_M_show_103, wp_M_show_146, wp_M_show_156, wp_M_show_203, wp_M_show_207, wp_M_show_208, wp_M_show_224, wp_M_list, wp_M_list_20, wp_M_ends, mput_i, mput_l, a4, a5, c4, c5, f3, f4, f5, f6, f7, f8, g1, g2, e5, e7, b0, b0m, L1, L2, L3, L4, L5, s1, b4, b2, k2, k3, cc1, L6, hcx, q1, q3, q4, L5 jc (by omega), L5 c hc16]
                  exact lx_next hx (hk _ (hR.out.thrown.unk.up hn))
                · simp [gi_i, gl_i, gl_l, gi_l, lgs, wp_Out_show_33, wp_Out_show_62, wp_Out_show_103, wp_Point_mayBegin, wp_Point_mayBegin_40, wp_Point_mayBegin_41, wp_Point_runs, wp_Point_runs_18, wp_Point_runs_19, wp_Cards_isGood, wp_Cards_isGood_15, wp_Cards_areOfOneHolder, wp_Cards_areOfOneHolder_29, wp_Cards_areOfOneHolder_33, wp_Cards_areOfOneHolder_34, wp_Point_begin, wp_Point_end, fw_bz, wp_M_show_25, wp_M_show_102, wp_M_show_103, wp_M_show_146, wp_M_show_156, wp_M_show_203, wp_M_show_207, wp_M_show_208, wp_M_show_224, wp_M_list, wp_M_list_20, wp_M_ends, mput_i, mput_l, a4, a5, c4, c5, f3, f4, f5, f6, f7, f8, g1, g2, e5, e7, b0, b0m, L1, L2, L3, L4, L5, s1, b4, b2, k2, k3, cc1, L6, hcx, q1, q2, q3, L5 jc (by omega), L5 c hc16]
                  exact lx_next hx (hk _ (hR.out.thrown.unk.up hn))
    · simp [gi_i, gl_i, gl_l, gi_l, z0, z1, lgs, v0, v1, v2, wp_Law_show, wp_Out_show, wp_Out_checkIndex, wp_Out_checkIndex_9, fw_bz, wp_M_show, wp_M_show_24, wp_M_show_25, wp_M_isIn, wp_M_isIn_14, wp_M_isIn_15, wp_M_thrown, pt_yes ha, a1, a2, a3, a4, a5, c1]
      exact lx_next hx (hk _ (hR.thrown.up hn))
    · simp [gi_i, gl_i, gl_l, gi_l, z0, z1, lgs, v0, v1, v2, wp_Law_show, wp_Out_show, wp_Out_checkIndex, wp_Out_checkIndex_9, fw_bz, wp_M_show, wp_M_show_24, wp_M_show_25, wp_M_isIn, wp_M_isIn_14, wp_M_isIn_15, wp_M_thrown, pt_yes ha, a1, a2, a3, a4, a5, c1, c2, c3]
      exact lx_next hx (hk _ (hR.thrown.up hn))
  · simp [gi_i, gl_i, gl_l, gi_l, z0, z1, lgs, v0, v1, v2, wp_Law_show, wp_Out_show, wp_Out_checkIndex, wp_Out_checkIndex_9, fw_bz, wp_M_show, wp_M_show_24, wp_M_show_25, wp_M_isIn, wp_M_isIn_14, wp_M_isIn_15, wp_M_thrown, pt_lo a1, a1]
    exact lx_next hx (hk _ (hR.thrown.up hn))
  · simp [gi_i, gl_i, gl_l, gi_l, z0, z1, lgs, v0, v1, v2, wp_Law_show, wp_Out_show, wp_Out_checkIndex, wp_Out_checkIndex_9, fw_bz, wp_M_show, wp_M_show_24, wp_M_show_25, wp_M_isIn, wp_M_isIn_14, wp_M_isIn_15, wp_M_thrown, pt_hi a1 a2, a1, a2, a3]
    exact lx_next hx (hk _ (hR.thrown.up hn))
