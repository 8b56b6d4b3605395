/-! what the relation says of a point's cells -/
theorem RV.meter {S : fw_S} {t n p : Nat} (h : RV (vw p S) t n) : S.2 (pO p) 5 = S.2 217 p := by
  obtain ⟨w, s, ls, z, h0, u, g, hm, h2⟩ := h
  have e := hm.2.2.1
  exact e.2.1.trans e.1.symm
theorem RV.uw {S : fw_S} {t n p : Nat} (h : RV (vw p S) t n) : S.1 224 p = S.1 (pO p) 9 := by
  obtain ⟨w, s, ls, z, h0, u, g, hm, hc, hq, h2⟩ := h
  exact hq.2.2.2.2.1.1
theorem RV.opn {S : fw_S} {t n p : Nat} (h : RV (vw p S) t n) : S.1 234 p = S.1 (13 + p) 0 ∧ S.2 237 p = S.2 (13 + p) 3 := by
  obtain ⟨w, s, ls, z, h0, u, g, hm, hc, hq, hs, hb, h2⟩ := h
  exact ⟨hb.1.1, hb.2.2.2.1⟩
theorem RV.here {S : fw_S} {t n p : Nat} (h : RV (vw p S) t n) : S.1 227 p = S.1 (pO p + 1) 0 ∧ (S.1 (pO p + 1) 0 = 0 ∨ S.1 (pO p + 1) 0 = 1) := by
  obtain ⟨w, s, ls, z, h0, u, g, hm, hc, h2⟩ := h
  exact ⟨hc.1.1, hc.1.2⟩
theorem RV.full {S : fw_S} {t n p : Nat} (h : RV (vw p S) t n) : (S.1 (pO p + 1) 1 = 0 ∨ S.1 (pO p + 1) 1 = 1) ∧ (S.1 (pO p + 1) 0 = 1 → S.1 231 p = S.1 (pO p + 1) 1) := by
  obtain ⟨w, s, ls, z, h0, u, g, hm, hc, h2⟩ := h
  exact ⟨hc.2.1, fun e => (hc.2.2.2.1 e).1⟩
theorem RR.rg {n : Nat} {S : fw_S} (h : RR n S) : ∃ t, RG S t n := by
  obtain ⟨t, hG, _⟩ := h
  exact ⟨t, hG⟩
theorem RR.rv {n : Nat} {S : fw_S} (h : RR n S) {p : Nat} (hp : p ≤ 5) : ∃ t, RV (vw p S) t n := by
  obtain ⟨t, _, _, hV⟩ := h
  exact ⟨t, hV p (by omega)⟩
/-- the cells that RG reads -/
def gcell (a k : Nat) : Prop := a < 12 ∨ a = 19 ∨ a = 114 ∨ (a = 209 ∧ (k = 1 ∨ k = 5 ∨ k = 6 ∨ k = 35)) ∨ a = 210 ∨ a = 211 ∨ a = 212 ∨ ((a = 213 ∨ a = 214) ∧ k < 16) ∨ a = 241 ∨ a = 242
theorem RG_eq {S S' : fw_S} {t n : Nat} (hi : ∀ a k, gcell a k → S'.1 a k = S.1 a k) (hl : ∀ k, S'.2 11 k = S.2 11 k ∧ S'.2 242 k = S.2 242 k) (h : RG S t n) : RG S' t n := by
  obtain ⟨h1, h2, h3, h4, h5, h6, h7, c, h8⟩ := h
  refine ⟨?_, fun j hj => ?_, fun k hk => ?_, ?_, fun k hk => ?_, fun k hk => ?_, fun k hk => ?_, c, ?_⟩
  · rw [hi 0 2 (by unfold gcell; omega), hi 209 1 (by unfold gcell; omega)]; exact h1
  · rw [hi (19 + 95 * j) 1 (by unfold gcell; omega), hi 210 j (by unfold gcell; omega)]; exact h2 j hj
  · rw [hi 7 k (by unfold gcell; omega), hi 8 k (by unfold gcell; omega), hi 211 k (by unfold gcell; omega), hi 212 k (by unfold gcell; omega)]; exact h3 k hk
  · rw [hi 6 2 (by unfold gcell; omega), hi 6 3 (by unfold gcell; omega), hi 209 5 (by unfold gcell; omega), hi 209 6 (by unfold gcell; omega)]; exact h4
  · rw [hi 4 k (by unfold gcell; omega), hi 5 k (by unfold gcell; omega), hi 213 k (by unfold gcell; omega), hi 214 k (by unfold gcell; omega)]; exact h5 k hk
  · rw [hi 10 k (by unfold gcell; omega), hi 241 k (by unfold gcell; omega)]; exact h6 k hk
  · rw [(hl k).1, (hl k).2]; exact h7 k hk
  · rw [hi 2 5 (by unfold gcell; omega), hi 209 35 (by unfold gcell; omega)]; exact h8
theorem RR.pt {n p : Nat} {S S' : fw_S} (hR : RR n S) (hn : n < 512) (hG : ∀ a k, gcell a k → S'.1 a k = S.1 a k) (hl : ∀ k, S'.2 11 k = S.2 11 k ∧ S'.2 242 k = S.2 242 k) (hK : S'.1 209 39 = 0) (hv : ∀ q, q < 6 → q ≠ p → vw q S' = vw q S) (hvp : ∀ t, t ≤ 86400 * n → RV (vw p S) t n → RV (vw p S') t (n + 1)) : RR (n + 1) S' := by
  obtain ⟨t, g, _, hV⟩ := hR
  refine ⟨t, (RG_eq hG hl g).up hn, .inl hK, fun q hq => ?_⟩
  by_cases e : q = p
  · subst e
    exact hvp t g.1.2.2.1 (hV q hq)
  · rw [hv q hq e]
    exact (hV q hq).up
/-- another point's cells -/
theorem nf_x {p q c k : Nat} (hp : p < 6) (hq : q < 6) (e : q ≠ p) (hc : c < 31) : ¬ foot q (pO p + c) k := by
  have h1 := pO_lt hp
  have h2 := pO_lt hq
  have h3 := pO_ne hp hq (Ne.symm e)
  unfold foot
  omega
theorem nf_m {p q a : Nat} (hq : q < 6) (e : q ≠ p) (ha : isM a) : ¬ foot q a p := by
  have h2 := pO_lt hq
  unfold isM at ha
  unfold foot
  omega
theorem nf_x0 {p q k : Nat} (hp : p < 6) (hq : q < 6) (e : q ≠ p) : ¬ foot q (pO p) k := nf_x (c := 0) hp hq e (by omega)
theorem vw_xi0 {p k : Nat} {S : fw_S} {v : Int32} (hp : p < 6) : vw p (fw_si S (pO p) k v) = fw_si (vw p S) 0 k v := vw_xi (c := 0) hp (by omega)
theorem vw_xl0 {p k : Nat} {S : fw_S} {v : Int64} (hp : p < 6) : vw p (fw_sl S (pO p) k v) = fw_sl (vw p S) 0 k v := vw_xl (c := 0) hp (by omega)
theorem si_same {A : fw_S} {o k : Nat} {v : Int32} (h : A.1 o k = v) : fw_si A o k v = A := by
  refine Prod.ext (funext fun a => funext fun j => ?_) rfl
  show (if a = o ∧ j = k then v else A.1 a j) = A.1 a j
  by_cases e : a = o ∧ j = k
  · rw [if_pos e, e.1, e.2, h]
  · rw [if_neg e]
/-- nothing under way -/
theorem RV.uw0 {A : fw_S} {t n : Nat} (h : RV A t n) : RV (fw_si (fw_si A 0 9 0) 224 0 0) t n := by
  obtain ⟨w, s, ls, z, h0, u, g, hm, hc, hq, hs, hb, hkk⟩ := h
  have hr : ∀ k, rw_ h0 k < 31 ∧ 4 ≤ rw_ h0 k := fun k => by unfold rw_; omega
  refine ⟨w, s, ls, z, h0, u, g, ?_, ?_, ?_, ?_, ?_, ?_⟩
  · unfold RVm at hm ⊢
    simpa [gi_i, gi_l] using hm
  · unfold RVc at hc ⊢
    simpa [gi_i, gi_l] using hc
  · obtain ⟨q1, q2, q3, q4, q5, q6, q7⟩ := hq
    refine ⟨by simpa [gi_i] using q1, by simpa [gi_i] using q2, by simpa [gi_i] using q3, by simpa [gi_i] using q4, ⟨by simp [gi_i], .inl (by simp [gi_i])⟩, by simpa [gi_i] using q6, fun k hk => ?_⟩
    have r1 : ¬ rw_ h0 k = 224 := by have := hr k; omega
    have r2 : ¬ rw_ h0 k = 0 := by have := hr k; omega
    simpa [gi_i, gi_l, r1, r2] using q7 k hk
  · unfold RVs at hs ⊢
    have r1 : ∀ k, ¬ rw_ h0 k = 224 := fun k => by have := hr k; omega
    have r2 : ∀ k, ¬ rw_ h0 k = 0 := fun k => by have := hr k; omega
    simpa [gi_i, gi_l, r1, r2] using hs
  · unfold RVb at hb ⊢
    simpa [gi_i, gi_l] using hb
  · unfold RVk at hkk ⊢
    simpa [gi_i, gi_l] using hkk
theorem op_time {L i n : Nat} {xs : Nat → Int32} {k : fw_S → Int32 → Prop} {S : fw_S} (hx : LX L i) (hn : n < 512) (hR : RR n S) (hk : ∀ S', RR (n + 1) S' → k S' (nI (i + 5))) : wp_Law_law_1031 L xs k S (nI i) := by
  have hx1 := hx.1
  have hx2 := hx.2
  have v0 : (nI i).toNatClampNeg ≤ 2560 := by rw [nI_clamp (by omega)]; omega
  obtain ⟨t, hG⟩ := hR.rg
  have e1 := hG.1.1
  have e2 := hG.1.2.1
  simp [wp_Law_law_1031, wp_Out_time, wp_M_time, gi_i, v0, e1, e2]
  exact lx_next hx (hk _ (hR.thrown.up hn))
theorem op_bills {L i n : Nat} {xs : Nat → Int32} {k : fw_S → Int32 → Prop} {S : fw_S} (hx : LX L i) (hn : n < 512) (hR : RR n S) (hk : ∀ S', RR (n + 1) S' → k S' (nI (i + 5))) : wp_Law_law_1334 L xs k S (nI i) := by
  have hx1 := hx.1
  have hx2 := hx.2
  have v0 : (nI i).toNatClampNeg ≤ 2560 := by rw [nI_clamp (by omega)]; omega
  obtain ⟨t, hG⟩ := hR.rg
  obtain ⟨c, _, e1, e2⟩ := hG.2.2.2.2.2.2.2
  simp [wp_Law_law_1334, wp_Out_bills, wp_M_bills, gi_i, v0, e1, e2]
  exact lx_next hx (hk _ (hR.thrown.up hn))
set_option maxHeartbeats 2000000 in
theorem op_meter {L i n : Nat} {xs : Nat → Int32} {k : fw_S → Int32 → Prop} {S : fw_S} (hx : LX L i) (hn : n < 512) (hR : RR n S) (hk : ∀ S', RR (n + 1) S' → k S' (nI (i + 5))) : wp_Law_law_1156 L xs k S (nI i) := by
  have hx1 := hx.1
  have hx2 := hx.2
  have v0 : (nI i).toNatClampNeg ≤ 2560 := by rw [nI_clamp (by omega)]; omega
  have v1 : vp_in (nI i + 1) L := lx_in (c := 1) hx (by omega)
  unfold wp_Law_law_1156
  generalize xs (nI i + 1).toNatClampNeg = a
  simp only [v0, v1, true_and]
  rcases ixc a 5 (M := 6) (H := 5) (by omega) rfl rfl with ⟨ja, ha, rfl, a1, a2, a3, a4, a5⟩ | a1 | ⟨a1, a2, a3⟩
  · obtain ⟨t, hv⟩ := hR.rv ha
    have e1 := hv.meter
    simp [wp_M_thrown, gi_i, gl_i, gl_l, gi_l, z0, z1, lgs, v0, wp_Law_law_1208, wp_Law_meter, wp_Out_meter, wp_M_meter, wp_M_meter_18, pt_yes ha, np_yes ha, a4, a5, e1]
    exact lx_next hx (hk _ (hR.out.thrown.unk.up hn))
  · simp [wp_M_thrown, gi_i, gl_i, gl_l, gi_l, z0, z1, lgs, v0, wp_Law_law_1208, wp_Law_meter, wp_Out_meter, wp_M_meter, wp_M_meter_18, pt_lo a1, np_lo a1]
    exact lx_next hx (hk _ (hR.thrown.unk.up hn))
  · simp [wp_M_thrown, gi_i, gl_i, gl_l, gi_l, z0, z1, lgs, v0, wp_Law_law_1208, wp_Law_meter, wp_Out_meter, wp_M_meter, wp_M_meter_18, pt_hi a1 a2, np_hi a1 a3]
    exact lx_next hx (hk _ (hR.thrown.unk.up hn))
set_option maxHeartbeats 2000000 in
theorem op_open {L i n : Nat} {xs : Nat → Int32} {k : fw_S → Int32 → Prop} {S : fw_S} (hx : LX L i) (hn : n < 512) (hR : RR n S) (hk : ∀ S', RR (n + 1) S' → k S' (nI (i + 5))) : wp_Law_law_1279 L xs k S (nI i) := by
  have hx1 := hx.1
  have hx2 := hx.2
  have v0 : (nI i).toNatClampNeg ≤ 2560 := by rw [nI_clamp (by omega)]; omega
  have v1 : vp_in (nI i + 1) L := lx_in (c := 1) hx (by omega)
  unfold wp_Law_law_1279
  generalize xs (nI i + 1).toNatClampNeg = a
  simp only [v0, v1, true_and]
  rcases ixc a 5 (M := 6) (H := 5) (by omega) rfl rfl with ⟨ja, ha, rfl, a1, a2, a3, a4, a5⟩ | a1 | ⟨a1, a2, a3⟩
  · obtain ⟨t, hv⟩ := hR.rv ha
    obtain ⟨e1, e2⟩ := hv.opn
    have e3 : 9 + (4 + ja) = 13 + ja := by omega
    by_cases e0 : S.1 (13 + ja) 0 = 0
    all_goals simp [wp_M_thrown, gi_i, gl_i, gl_l, gi_l, z0, z1, lgs, v0, wp_Law_law_1331, wp_Law_open, wp_Out_open, wp_Out_open_33, wp_Out_checkIndex, wp_Out_checkIndex_9, wp_M_open, wp_M_open_33, pt_yes ha, np_yes ha, a4, a5, e3, e1, e2, a1, a2, e0]
    all_goals exact lx_next hx (hk _ (hR.out.thrown.unk.up hn))
  · simp [wp_M_thrown, gi_i, gl_i, gl_l, gi_l, z0, z1, lgs, v0, wp_Law_law_1331, wp_Law_open, wp_Out_open, wp_Out_open_33, wp_Out_checkIndex, wp_Out_checkIndex_9, wp_M_open, wp_M_open_33, a1, pt_lo a1, np_lo a1]
    exact lx_next hx (hk _ (hR.thrown.unk.up hn))
  · simp [wp_M_thrown, gi_i, gl_i, gl_l, gi_l, z0, z1, lgs, v0, wp_Law_law_1331, wp_Law_open, wp_Out_open, wp_Out_open_33, wp_Out_checkIndex, wp_Out_checkIndex_9, wp_M_open, wp_M_open_33, a1, a2, pt_hi a1 a2, np_hi a1 a3]
    exact lx_next hx (hk _ (hR.thrown.unk.up hn))
set_option maxHeartbeats 2000000 in
theorem op_lose {L i n : Nat} {xs : Nat → Int32} {k : fw_S → Int32 → Prop} {S : fw_S} (hx : LX L i) (hn : n < 512) (hR : RR n S) (hk : ∀ S', RR (n + 1) S' → k S' (nI (i + 5))) : wp_Law_law_912 L xs k S (nI i) := by
  have hx1 := hx.1
  have hx2 := hx.2
  have v0 : (nI i).toNatClampNeg ≤ 2560 := by rw [nI_clamp (by omega)]; omega
  have v1 : vp_in (nI i + 1) L := lx_in (c := 1) hx (by omega)
  unfold wp_Law_law_912
  generalize xs (nI i + 1).toNatClampNeg = a
  simp only [v0, v1, true_and]
  rcases ixc a 5 (M := 6) (H := 5) (by omega) rfl rfl with ⟨ja, ha, rfl, a1, a2, a3, a4, a5⟩ | a1 | ⟨a1, a2, a3⟩
  · obtain ⟨t, hv⟩ := hR.rv ha
    have e1 := hv.uw
    have hp : ja < 6 := by omega
    have hpo := pO_lt hp
    have e4 : ¬ 224 = pO ja := by omega
    by_cases e0 : S.1 (pO ja) 9 = 0
    all_goals simp [wp_M_thrown, gi_i, gl_i, gl_l, gi_l, z0, z1, lgs, v0, wp_Law_law_966, wp_Law_law_972, wp_Law_lose, wp_Law_lose_15, wp_Out_lose, wp_Out_lose_18, wp_M_lose, wp_M_lose_17, fw_bz, pt_yes ha, np_yes ha, a4, a5, e1, e0, e4]
    all_goals refine lx_next hx (hk _ (hR.pt hn (p := ja) (fun a k hg => ?_) (fun k => by simp [gi_l, gl_l]) (by simp [gi_i]) (fun q hq e => ?_) (fun t ht hv => ?_)))
    · have := pO_lt hp
      unfold gcell at hg
      simp only [gi_i, gl_i]
      repeat rw [if_neg (by omega)]
    · rw [vw_si (nofoot hq (by omega)), vw_si (nofoot hq (by omega)), vw_sl (nofoot hq (by omega)), vw_si (nf_x0 hp hq e)]
    · rw [vw_si (nofoot hp (by omega)), vw_si (nofoot hp (by omega)), vw_sl (nofoot hp (by omega)), vw_xi0 hp, si_same (A := vw ja S) (o := 0) (k := 9) e0]
      exact hv.up
    · have := pO_lt hp
      unfold gcell at hg
      simp only [gi_i, gl_i]
      repeat rw [if_neg (by omega)]
    · rw [vw_si (nf_m hq e (by unfold isM; omega)), vw_si (nofoot hq (by omega)), vw_si (nofoot hq (by omega)), vw_sl (nofoot hq (by omega)), vw_si (nf_x0 hp hq e)]
    · rw [vw_mi hp (by unfold isM; omega), vw_si (nofoot hp (by omega)), vw_si (nofoot hp (by omega)), vw_sl (nofoot hp (by omega)), vw_xi0 hp]
      exact hv.uw0.up
  · simp [wp_M_thrown, gi_i, gl_i, gl_l, gi_l, z0, z1, lgs, v0, wp_Law_law_966, wp_Law_law_972, wp_Law_lose, wp_Law_lose_15, wp_Out_lose, wp_Out_lose_18, wp_M_lose, wp_M_lose_17, fw_bz, pt_lo a1, np_lo a1]
    exact lx_next hx (hk _ (hR.thrown.unk.up hn))
  · simp [wp_M_thrown, gi_i, gl_i, gl_l, gi_l, z0, z1, lgs, v0, wp_Law_law_966, wp_Law_law_972, wp_Law_lose, wp_Law_lose_15, wp_Out_lose, wp_Out_lose_18, wp_M_lose, wp_M_lose_17, fw_bz, pt_hi a1 a2, np_hi a1 a3]
    exact lx_next hx (hk _ (hR.thrown.unk.up hn))
