/-! the reference at 209: its arrays one after another -/
def MS (b : Nat) (V0 V : fw_V) (j : Nat) : Prop := (∀ x, x < 209 → V x = V0 x) ∧ IB b V 210 (210 + j) ∧ ∀ k, k < 40 → ((TK 10 k).1 = 2 → (TK 10 k).2 ≤ j) → V 209 k = ini b 209 k
theorem MSu : ∀ k, k < 40 → ∀ k', k' < 40 → (TK 10 k).1 = 2 → TK 10 k' = TK 10 k → k' = k := by decide +kernel
theorem l209 : layU 209 = (10, 0) := by decide +kernel
theorem MS.step {b : Nat} {V0 V W V' : fw_V} {j k : Nat} (h : MS b V0 V j) (hj : j < 34) (hk : k < 40) (ht : TK 10 k = (2, j + 1)) (hW : ∀ x, x ≠ 210 + j → W x = V x) (hA : ∀ i, i < slc (layU (210 + j)) → W (210 + j) i = ini b (210 + j) i) (hV : V' = fw_up W 209 k (.ref (b + (210 + j)))) : MS b V0 V' (j + 1) := by
  obtain ⟨h1, h2, h3⟩ := h
  have a1 : ∀ x, x ≠ 209 → V' x = W x := fun x q => by rw [hV]; exact up_ne q
  have a2 : V' 209 = updV (W 209) k (.ref (b + (210 + j))) := by rw [hV]; exact up_eq
  refine ⟨fun x hx => by rw [a1 x (by omega), hW x (by omega)]; exact h1 x hx, ?_, ?_⟩
  · rw [show 210 + (j + 1) = 210 + j + 1 by omega]
    refine IB.app (c := 210 + j) (h2.kept fun x q1 q2 => by rw [a1 x (by omega), hW x (by omega)]) (IB.one fun i hi => ?_)
    rw [a1 _ (by omega)]
    exact hA i hi
  · intro k' hk' hc
    rw [a2]
    by_cases e : k' = k
    · subst e
      rw [ini_at l209, ht]
      simp [updV, fw_val]
      omega
    · simp only [updV, if_neg e]
      rw [hW 209 (by omega)]
      refine h3 k' hk' (fun q => ?_)
      have h4 := hc q
      by_cases e2 : (TK 10 k').2 = j + 1
      · exact absurd (MSu k hk k' hk' (by rw [ht]) (by rw [ht]; exact Prod.ext q e2)) e
      · omega
theorem ini_0 {b x kd len k : Nat} (h : layU x = (kd, len)) (hk : kd = 100 ∨ kd = 102) (h0 : S0i x k = 0) : ini b x k = .int 0 := by
  rcases hk with hk | hk <;> subst hk
  · exact ini_z h h0
  · rw [ini_at h, tka_102]
    simp [fw_val, S0, h0]
theorem ini_v {b x kd len k : Nat} {v : Int32} (h : layU x = (kd, len)) (hk : kd = 100 ∨ kd = 102) (h0 : S0i x k = v) : ini b x k = .int v := by
  rcases hk with hk | hk <;> subst hk
  · rw [ini_at h, tka_100]
    simp [fw_val, S0, h0]
  · rw [ini_at h, tka_102]
    simp [fw_val, S0, h0]
theorem M00 : (∀ i, i < 4 → S0i 212 i = 0) ∧ (∀ i, i < 112 → S0i 213 i = 0) ∧ (∀ i, i < 112 → S0i 214 i = 0) ∧ (∀ i, i < 6 → S0i 218 i = 0) ∧ (∀ i, i < 6 → S0i 219 i = 0) ∧ (∀ i, i < 6 → S0i 220 i = 0) ∧ (∀ i, i < 6 → S0i 221 i = 0) ∧ (∀ i, i < 6 → S0i 224 i = 0) ∧ (∀ i, i < 864 → S0i 225 i = 0) ∧ (∀ i, i < 6 → S0i 227 i = 0) ∧ (∀ i, i < 6 → S0i 228 i = 0) ∧ (∀ i, i < 6 → S0i 229 i = 0) ∧ (∀ i, i < 6 → S0i 231 i = 0) ∧ (∀ i, i < 6 → S0i 232 i = 0) ∧ (∀ i, i < 6 → S0i 233 i = 0) ∧ (∀ i, i < 6 → S0i 234 i = 0) ∧ (∀ i, i < 6 → S0i 235 i = 0) ∧ (∀ i, i < 6 → S0i 236 i = 0) ∧ (∀ i, i < 6 → S0i 240 i = 0) ∧ (∀ i, i < 640 → S0i 241 i = 0) ∧ (∀ i, i < 6 → S0i 243 i = 0) := by decide +kernel
theorem fwz1 : fw_z 1 = 1 := by decide
theorem MSz : ∀ k, k < 40 → (TK 10 k).1 = 2 → (TK 10 k).2 ≤ 0 → False := by decide +kernel
theorem MSy : ∀ k, k < 40 → (TK 10 k).1 = 2 → (TK 10 k).2 ≤ 34 := by decide +kernel
theorem vs_M {b : Nat} {V : fw_V} {post : Nat → fw_V → Prop} (h : ∀ V' : fw_V, (∀ x, x < 209 → V' x = V x) → IB b V' 209 244 → post 244 V') (h0 : ∀ k, k < 40 → (TK 10 k).1 ≠ 2 → V 209 k = ini b 209 k) : wv_M_init b 210 V 209 post := by
  have hm0 : MS b V V 0 := ⟨fun _ _ => rfl, fun x q1 q2 => by omega, fun k hk hc => h0 k hk (fun q => MSz k hk q (hc q))⟩
  unfold wv_M_init
  refine ⟨by decide +kernel, ?_⟩
  refine ⟨by omega, by decide +kernel, ?_⟩
  intro n0 en W0 eW
  have en : n0 = 211 := en
  subst en
  refine ⟨by unfold vp_in; decide, ?_⟩
  intro X0_0 eX0
  refine ⟨by unfold vp_in; decide, ?_⟩
  intro X0_1 eX1
  intro V0 eV
  have hm1 : MS b V V0 1 := by
    refine MS.step (j := 0) (k := 2) hm0 (by omega) (by omega) (by decide +kernel) (W := X0_1) (fun x hx => ?_) (fun i hi => ?_) eV
    · have hx : x ≠ 210 := hx
      rw [eX1, up_ne hx, eX0, up_ne hx, eW, nw_ne hx]
    · have hi : i < 2 := hi
      show X0_1 210 i = ini b 210 i
      rw [eX1, up_eq, eX0, up_eq, eW, nw_eq]
      match i, hi with
      | 0, _ => rw [ini_v (b := b) (x := 210) (kd := 100) (len := 2) (k := 0) (v := 480) (by decide +kernel) (by decide) (by decide +kernel)]; rfl
      | 1, _ => rw [ini_v (b := b) (x := 210) (kd := 100) (len := 2) (k := 1) (v := 480) (by decide +kernel) (by decide) (by decide +kernel)]; rfl
  clear eW eV hm0 eX1 eX0
  refine ⟨by omega, by decide +kernel, ?_⟩
  intro n1 en W1 eW
  have en : n1 = 212 := en
  subst en
  refine ⟨by unfold vp_in; decide, ?_⟩
  intro X1_0 eX0
  refine ⟨by unfold vp_in; decide, ?_⟩
  intro X1_1 eX1
  refine ⟨by unfold vp_in; decide, ?_⟩
  intro X1_2 eX2
  refine ⟨by unfold vp_in; decide, ?_⟩
  intro X1_3 eX3
  intro V1 eV
  have hm2 : MS b V V1 2 := by
    refine MS.step (j := 1) (k := 3) hm1 (by omega) (by omega) (by decide +kernel) (W := X1_3) (fun x hx => ?_) (fun i hi => ?_) eV
    · have hx : x ≠ 211 := hx
      rw [eX3, up_ne hx, eX2, up_ne hx, eX1, up_ne hx, eX0, up_ne hx, eW, nw_ne hx]
    · have hi : i < 4 := hi
      show X1_3 211 i = ini b 211 i
      rw [eX3, up_eq, eX2, up_eq, eX1, up_eq, eX0, up_eq, eW, nw_eq]
      match i, hi with
      | 0, _ => rw [ini_v (b := b) (x := 211) (kd := 100) (len := 4) (k := 0) (v := -1) (by decide +kernel) (by decide) (by decide +kernel)]; rfl
      | 1, _ => rw [ini_v (b := b) (x := 211) (kd := 100) (len := 4) (k := 1) (v := -1) (by decide +kernel) (by decide) (by decide +kernel)]; rfl
      | 2, _ => rw [ini_v (b := b) (x := 211) (kd := 100) (len := 4) (k := 2) (v := -1) (by decide +kernel) (by decide) (by decide +kernel)]; rfl
      | 3, _ => rw [ini_v (b := b) (x := 211) (kd := 100) (len := 4) (k := 3) (v := -1) (by decide +kernel) (by decide) (by decide +kernel)]; rfl
  clear eW eV hm1 eX3 eX2 eX1 eX0
  refine ⟨by omega, by decide +kernel, ?_⟩
  intro n2 en W2 eW
  have en : n2 = 213 := en
  subst en
  intro V2 eV
  have hm3 : MS b V V2 3 := MS.step (j := 2) (k := 4) hm2 (by omega) (by omega) (by decide +kernel) (W := W2) (fun x hx => by rw [eW]; exact nw_ne hx) (fun i hi => by
    have hi : i < 4 := hi
    show W2 212 i = ini b 212 i
    rw [eW, nw_eq, ini_0 (x := 212) (kd := 100) (len := 4) (by decide +kernel) (by decide) (M00.1 i hi)]
    rfl) eV
  clear eW eV hm2
  refine ⟨by omega, by decide +kernel, ?_⟩
  intro n3 en W3 eW
  have en : n3 = 214 := en
  subst en
  intro V3 eV
  have hm4 : MS b V V3 4 := MS.step (j := 3) (k := 7) hm3 (by omega) (by omega) (by decide +kernel) (W := W3) (fun x hx => by rw [eW]; exact nw_ne hx) (fun i hi => by
    have hi : i < 112 := hi
    show W3 213 i = ini b 213 i
    rw [eW, nw_eq, ini_0 (x := 213) (kd := 100) (len := 112) (by decide +kernel) (by decide) (M00.2.1 i hi)]
    rfl) eV
  clear eW eV hm3
  refine ⟨by omega, by decide +kernel, ?_⟩
  intro n4 en W4 eW
  have en : n4 = 215 := en
  subst en
  intro V4 eV
  have hm5 : MS b V V4 5 := MS.step (j := 4) (k := 8) hm4 (by omega) (by omega) (by decide +kernel) (W := W4) (fun x hx => by rw [eW]; exact nw_ne hx) (fun i hi => by
    have hi : i < 112 := hi
    show W4 214 i = ini b 214 i
    rw [eW, nw_eq, ini_0 (x := 214) (kd := 100) (len := 112) (by decide +kernel) (by decide) (M00.2.2.1 i hi)]
    rfl) eV
  clear eW eV hm4
  refine ⟨by omega, by decide +kernel, ?_⟩
  intro n5 en W5 eW
  have en : n5 = 216 := en
  subst en
  refine ⟨by unfold vp_in; decide, ?_⟩
  intro X5_0 eX0
  refine ⟨by unfold vp_in; decide, ?_⟩
  intro X5_1 eX1
  refine ⟨by unfold vp_in; decide, ?_⟩
  intro X5_2 eX2
  refine ⟨by unfold vp_in; decide, ?_⟩
  intro X5_3 eX3
  refine ⟨by unfold vp_in; decide, ?_⟩
  intro X5_4 eX4
  refine ⟨by unfold vp_in; decide, ?_⟩
  intro X5_5 eX5
  intro V5 eV
  have hm6 : MS b V V5 6 := by
    refine MS.step (j := 5) (k := 9) hm5 (by omega) (by omega) (by decide +kernel) (W := X5_5) (fun x hx => ?_) (fun i hi => ?_) eV
    · have hx : x ≠ 215 := hx
      rw [eX5, up_ne hx, eX4, up_ne hx, eX3, up_ne hx, eX2, up_ne hx, eX1, up_ne hx, eX0, up_ne hx, eW, nw_ne hx]
    · have hi : i < 6 := hi
      show X5_5 215 i = ini b 215 i
      rw [eX5, up_eq, eX4, up_eq, eX3, up_eq, eX2, up_eq, eX1, up_eq, eX0, up_eq, eW, nw_eq]
      match i, hi with
      | 0, _ => rw [ini_v (b := b) (x := 215) (kd := 102) (len := 6) (k := 0) (v := 1) (by decide +kernel) (by decide) (by decide +kernel)]; rfl
      | 1, _ => rw [ini_v (b := b) (x := 215) (kd := 102) (len := 6) (k := 1) (v := 1) (by decide +kernel) (by decide) (by decide +kernel)]; rfl
      | 2, _ => rw [ini_v (b := b) (x := 215) (kd := 102) (len := 6) (k := 2) (v := 1) (by decide +kernel) (by decide) (by decide +kernel)]; rfl
      | 3, _ => rw [ini_v (b := b) (x := 215) (kd := 102) (len := 6) (k := 3) (v := 1) (by decide +kernel) (by decide) (by decide +kernel)]; rfl
      | 4, _ => rw [ini_v (b := b) (x := 215) (kd := 102) (len := 6) (k := 4) (v := 1) (by decide +kernel) (by decide) (by decide +kernel)]; rfl
      | 5, _ => rw [ini_v (b := b) (x := 215) (kd := 102) (len := 6) (k := 5) (v := 1) (by decide +kernel) (by decide) (by decide +kernel)]; rfl
  clear eW eV hm5 eX5 eX4 eX3 eX2 eX1 eX0
  refine ⟨by omega, by decide +kernel, ?_⟩
  intro n6 en W6 eW
  have en : n6 = 217 := en
  subst en
  refine ⟨by unfold vp_in; decide, ?_⟩
  intro X6_0 eX0
  refine ⟨by unfold vp_in; decide, ?_⟩
  intro X6_1 eX1
  refine ⟨by unfold vp_in; decide, ?_⟩
  intro X6_2 eX2
  refine ⟨by unfold vp_in; decide, ?_⟩
  intro X6_3 eX3
  refine ⟨by unfold vp_in; decide, ?_⟩
  intro X6_4 eX4
  refine ⟨by unfold vp_in; decide, ?_⟩
  intro X6_5 eX5
  intro V6 eV
  have hm7 : MS b V V6 7 := by
    refine MS.step (j := 6) (k := 10) hm6 (by omega) (by omega) (by decide +kernel) (W := X6_5) (fun x hx => ?_) (fun i hi => ?_) eV
    · have hx : x ≠ 216 := hx
      rw [eX5, up_ne hx, eX4, up_ne hx, eX3, up_ne hx, eX2, up_ne hx, eX1, up_ne hx, eX0, up_ne hx, eW, nw_ne hx]
    · have hi : i < 6 := hi
      show X6_5 216 i = ini b 216 i
      rw [eX5, up_eq, eX4, up_eq, eX3, up_eq, eX2, up_eq, eX1, up_eq, eX0, up_eq, eW, nw_eq]
      match i, hi with
      | 0, _ => rw [ini_v (b := b) (x := 216) (kd := 102) (len := 6) (k := 0) (v := 1) (by decide +kernel) (by decide) (by decide +kernel)]; rfl
      | 1, _ => rw [ini_v (b := b) (x := 216) (kd := 102) (len := 6) (k := 1) (v := 1) (by decide +kernel) (by decide) (by decide +kernel)]; rfl
      | 2, _ => rw [ini_v (b := b) (x := 216) (kd := 102) (len := 6) (k := 2) (v := 1) (by decide +kernel) (by decide) (by decide +kernel)]; rfl
      | 3, _ => rw [ini_v (b := b) (x := 216) (kd := 102) (len := 6) (k := 3) (v := 1) (by decide +kernel) (by decide) (by decide +kernel)]; rfl
      | 4, _ => rw [ini_v (b := b) (x := 216) (kd := 102) (len := 6) (k := 4) (v := 1) (by decide +kernel) (by decide) (by decide +kernel)]; rfl
      | 5, _ => rw [ini_v (b := b) (x := 216) (kd := 102) (len := 6) (k := 5) (v := 1) (by decide +kernel) (by decide) (by decide +kernel)]; rfl
  clear eW eV hm6 eX5 eX4 eX3 eX2 eX1 eX0
  refine ⟨by omega, by decide +kernel, ?_⟩
  intro n7 en W7 eW
  have en : n7 = 218 := en
  subst en
  intro V7 eV
  have hm8 : MS b V V7 8 := MS.step (j := 7) (k := 11) hm7 (by omega) (by omega) (by decide +kernel) (W := W7) (fun x hx => by rw [eW]; exact nw_ne hx) (fun i hi => by
    have hi : i < 6 := hi
    show W7 217 i = ini b 217 i
    rw [eW, nw_eq, ini_l (x := 217) (len := 6) (by decide +kernel)]
    rfl) eV
  clear eW eV hm7
  refine ⟨by omega, by decide +kernel, ?_⟩
  intro n8 en W8 eW
  have en : n8 = 219 := en
  subst en
  intro V8 eV
  have hm9 : MS b V V8 9 := MS.step (j := 8) (k := 12) hm8 (by omega) (by omega) (by decide +kernel) (W := W8) (fun x hx => by rw [eW]; exact nw_ne hx) (fun i hi => by
    have hi : i < 6 := hi
    show W8 218 i = ini b 218 i
    rw [eW, nw_eq, ini_0 (x := 218) (kd := 100) (len := 6) (by decide +kernel) (by decide) (M00.2.2.2.1 i hi)]
    rfl) eV
  clear eW eV hm8
  refine ⟨by omega, by decide +kernel, ?_⟩
  intro n9 en W9 eW
  have en : n9 = 220 := en
  subst en
  intro V9 eV
  have hm10 : MS b V V9 10 := MS.step (j := 9) (k := 13) hm9 (by omega) (by omega) (by decide +kernel) (W := W9) (fun x hx => by rw [eW]; exact nw_ne hx) (fun i hi => by
    have hi : i < 6 := hi
    show W9 219 i = ini b 219 i
    rw [eW, nw_eq, ini_0 (x := 219) (kd := 100) (len := 6) (by decide +kernel) (by decide) (M00.2.2.2.2.1 i hi)]
    rfl) eV
  clear eW eV hm9
  refine ⟨by omega, by decide +kernel, ?_⟩
  intro n10 en W10 eW
  have en : n10 = 221 := en
  subst en
  intro V10 eV
  have hm11 : MS b V V10 11 := MS.step (j := 10) (k := 14) hm10 (by omega) (by omega) (by decide +kernel) (W := W10) (fun x hx => by rw [eW]; exact nw_ne hx) (fun i hi => by
    have hi : i < 6 := hi
    show W10 220 i = ini b 220 i
    rw [eW, nw_eq, ini_0 (x := 220) (kd := 100) (len := 6) (by decide +kernel) (by decide) (M00.2.2.2.2.2.1 i hi)]
    rfl) eV
  clear eW eV hm10
  refine ⟨by omega, by decide +kernel, ?_⟩
  intro n11 en W11 eW
  have en : n11 = 222 := en
  subst en
  intro V11 eV
  have hm12 : MS b V V11 12 := MS.step (j := 11) (k := 15) hm11 (by omega) (by omega) (by decide +kernel) (W := W11) (fun x hx => by rw [eW]; exact nw_ne hx) (fun i hi => by
    have hi : i < 6 := hi
    show W11 221 i = ini b 221 i
    rw [eW, nw_eq, ini_0 (x := 221) (kd := 100) (len := 6) (by decide +kernel) (by decide) (M00.2.2.2.2.2.2.1 i hi)]
    rfl) eV
  clear eW eV hm11
  refine ⟨by omega, by decide +kernel, ?_⟩
  intro n12 en W12 eW
  have en : n12 = 223 := en
  subst en
  refine ⟨by unfold vp_in; decide, ?_⟩
  intro X12_0 eX0
  refine ⟨by unfold vp_in; decide, ?_⟩
  intro X12_1 eX1
  refine ⟨by unfold vp_in; decide, ?_⟩
  intro X12_2 eX2
  refine ⟨by unfold vp_in; decide, ?_⟩
  intro X12_3 eX3
  refine ⟨by unfold vp_in; decide, ?_⟩
  intro X12_4 eX4
  refine ⟨by unfold vp_in; decide, ?_⟩
  intro X12_5 eX5
  intro V12 eV
  have hm13 : MS b V V12 13 := by
    refine MS.step (j := 12) (k := 16) hm12 (by omega) (by omega) (by decide +kernel) (W := X12_5) (fun x hx => ?_) (fun i hi => ?_) eV
    · have hx : x ≠ 222 := hx
      rw [eX5, up_ne hx, eX4, up_ne hx, eX3, up_ne hx, eX2, up_ne hx, eX1, up_ne hx, eX0, up_ne hx, eW, nw_ne hx]
    · have hi : i < 6 := hi
      show X12_5 222 i = ini b 222 i
      rw [eX5, up_eq, eX4, up_eq, eX3, up_eq, eX2, up_eq, eX1, up_eq, eX0, up_eq, eW, nw_eq]
      match i, hi with
      | 0, _ => rw [ini_v (b := b) (x := 222) (kd := 100) (len := 6) (k := 0) (v := 1) (by decide +kernel) (by decide) (by decide +kernel)]; rfl
      | 1, _ => rw [ini_v (b := b) (x := 222) (kd := 100) (len := 6) (k := 1) (v := 1) (by decide +kernel) (by decide) (by decide +kernel)]; rfl
      | 2, _ => rw [ini_v (b := b) (x := 222) (kd := 100) (len := 6) (k := 2) (v := 1) (by decide +kernel) (by decide) (by decide +kernel)]; rfl
      | 3, _ => rw [ini_v (b := b) (x := 222) (kd := 100) (len := 6) (k := 3) (v := 1) (by decide +kernel) (by decide) (by decide +kernel)]; rfl
      | 4, _ => rw [ini_v (b := b) (x := 222) (kd := 100) (len := 6) (k := 4) (v := 1) (by decide +kernel) (by decide) (by decide +kernel)]; rfl
      | 5, _ => rw [ini_v (b := b) (x := 222) (kd := 100) (len := 6) (k := 5) (v := 1) (by decide +kernel) (by decide) (by decide +kernel)]; rfl
  clear eW eV hm12 eX5 eX4 eX3 eX2 eX1 eX0
  refine ⟨by omega, by decide +kernel, ?_⟩
  intro n13 en W13 eW
  have en : n13 = 224 := en
  subst en
  refine ⟨by unfold vp_in; decide, ?_⟩
  intro X13_0 eX0
  refine ⟨by unfold vp_in; decide, ?_⟩
  intro X13_1 eX1
  refine ⟨by unfold vp_in; decide, ?_⟩
  intro X13_2 eX2
  refine ⟨by unfold vp_in; decide, ?_⟩
  intro X13_3 eX3
  refine ⟨by unfold vp_in; decide, ?_⟩
  intro X13_4 eX4
  refine ⟨by unfold vp_in; decide, ?_⟩
  intro X13_5 eX5
  intro V13 eV
  have hm14 : MS b V V13 14 := by
    refine MS.step (j := 13) (k := 17) hm13 (by omega) (by omega) (by decide +kernel) (W := X13_5) (fun x hx => ?_) (fun i hi => ?_) eV
    · have hx : x ≠ 223 := hx
      rw [eX5, up_ne hx, eX4, up_ne hx, eX3, up_ne hx, eX2, up_ne hx, eX1, up_ne hx, eX0, up_ne hx, eW, nw_ne hx]
    · have hi : i < 6 := hi
      show X13_5 223 i = ini b 223 i
      rw [eX5, up_eq, eX4, up_eq, eX3, up_eq, eX2, up_eq, eX1, up_eq, eX0, up_eq, eW, nw_eq]
      match i, hi with
      | 0, _ => rw [ini_v (b := b) (x := 223) (kd := 100) (len := 6) (k := 0) (v := -1) (by decide +kernel) (by decide) (by decide +kernel)]; rfl
      | 1, _ => rw [ini_v (b := b) (x := 223) (kd := 100) (len := 6) (k := 1) (v := -1) (by decide +kernel) (by decide) (by decide +kernel)]; rfl
      | 2, _ => rw [ini_v (b := b) (x := 223) (kd := 100) (len := 6) (k := 2) (v := -1) (by decide +kernel) (by decide) (by decide +kernel)]; rfl
      | 3, _ => rw [ini_v (b := b) (x := 223) (kd := 100) (len := 6) (k := 3) (v := -1) (by decide +kernel) (by decide) (by decide +kernel)]; rfl
      | 4, _ => rw [ini_v (b := b) (x := 223) (kd := 100) (len := 6) (k := 4) (v := -1) (by decide +kernel) (by decide) (by decide +kernel)]; rfl
      | 5, _ => rw [ini_v (b := b) (x := 223) (kd := 100) (len := 6) (k := 5) (v := -1) (by decide +kernel) (by decide) (by decide +kernel)]; rfl
  clear eW eV hm13 eX5 eX4 eX3 eX2 eX1 eX0
  refine ⟨by omega, by decide +kernel, ?_⟩
  intro n14 en W14 eW
  have en : n14 = 225 := en
  subst en
  intro V14 eV
  have hm15 : MS b V V14 15 := MS.step (j := 14) (k := 18) hm14 (by omega) (by omega) (by decide +kernel) (W := W14) (fun x hx => by rw [eW]; exact nw_ne hx) (fun i hi => by
    have hi : i < 6 := hi
    show W14 224 i = ini b 224 i
    rw [eW, nw_eq, ini_0 (x := 224) (kd := 100) (len := 6) (by decide +kernel) (by decide) (M00.2.2.2.2.2.2.2.1 i hi)]
    rfl) eV
  clear eW eV hm14
  refine ⟨by omega, by decide +kernel, ?_⟩
  intro n15 en W15 eW
  have en : n15 = 226 := en
  subst en
  intro V15 eV
  have hm16 : MS b V V15 16 := MS.step (j := 15) (k := 19) hm15 (by omega) (by omega) (by decide +kernel) (W := W15) (fun x hx => by rw [eW]; exact nw_ne hx) (fun i hi => by
    have hi : i < 864 := hi
    show W15 225 i = ini b 225 i
    rw [eW, nw_eq, ini_0 (x := 225) (kd := 100) (len := 864) (by decide +kernel) (by decide) (M00.2.2.2.2.2.2.2.2.1 i hi)]
    rfl) eV
  clear eW eV hm15
  refine ⟨by omega, by decide +kernel, ?_⟩
  intro n16 en W16 eW
  have en : n16 = 227 := en
  subst en
  intro V16 eV
  have hm17 : MS b V V16 17 := MS.step (j := 16) (k := 20) hm16 (by omega) (by omega) (by decide +kernel) (W := W16) (fun x hx => by rw [eW]; exact nw_ne hx) (fun i hi => by
    have hi : i < 144 := hi
    show W16 226 i = ini b 226 i
    rw [eW, nw_eq, ini_l (x := 226) (len := 144) (by decide +kernel)]
    rfl) eV
  clear eW eV hm16
  refine ⟨by omega, by decide +kernel, ?_⟩
  intro n17 en W17 eW
  have en : n17 = 228 := en
  subst en
  intro V17 eV
  have hm18 : MS b V V17 18 := MS.step (j := 17) (k := 21) hm17 (by omega) (by omega) (by decide +kernel) (W := W17) (fun x hx => by rw [eW]; exact nw_ne hx) (fun i hi => by
    have hi : i < 6 := hi
    show W17 227 i = ini b 227 i
    rw [eW, nw_eq, ini_0 (x := 227) (kd := 102) (len := 6) (by decide +kernel) (by decide) (M00.2.2.2.2.2.2.2.2.2.1 i hi)]
    rfl) eV
  clear eW eV hm17
  refine ⟨by omega, by decide +kernel, ?_⟩
  intro n18 en W18 eW
  have en : n18 = 229 := en
  subst en
  intro V18 eV
  have hm19 : MS b V V18 19 := MS.step (j := 18) (k := 22) hm18 (by omega) (by omega) (by decide +kernel) (W := W18) (fun x hx => by rw [eW]; exact nw_ne hx) (fun i hi => by
    have hi : i < 6 := hi
    show W18 228 i = ini b 228 i
    rw [eW, nw_eq, ini_0 (x := 228) (kd := 100) (len := 6) (by decide +kernel) (by decide) (M00.2.2.2.2.2.2.2.2.2.2.1 i hi)]
    rfl) eV
  clear eW eV hm18
  refine ⟨by omega, by decide +kernel, ?_⟩
  intro n19 en W19 eW
  have en : n19 = 230 := en
  subst en
  intro V19 eV
  have hm20 : MS b V V19 20 := MS.step (j := 19) (k := 23) hm19 (by omega) (by omega) (by decide +kernel) (W := W19) (fun x hx => by rw [eW]; exact nw_ne hx) (fun i hi => by
    have hi : i < 6 := hi
    show W19 229 i = ini b 229 i
    rw [eW, nw_eq, ini_0 (x := 229) (kd := 100) (len := 6) (by decide +kernel) (by decide) (M00.2.2.2.2.2.2.2.2.2.2.2.1 i hi)]
    rfl) eV
  clear eW eV hm19
  refine ⟨by omega, by decide +kernel, ?_⟩
  intro n20 en W20 eW
  have en : n20 = 231 := en
  subst en
  intro V20 eV
  have hm21 : MS b V V20 21 := MS.step (j := 20) (k := 24) hm20 (by omega) (by omega) (by decide +kernel) (W := W20) (fun x hx => by rw [eW]; exact nw_ne hx) (fun i hi => by
    have hi : i < 6 := hi
    show W20 230 i = ini b 230 i
    rw [eW, nw_eq, ini_l (x := 230) (len := 6) (by decide +kernel)]
    rfl) eV
  clear eW eV hm20
  refine ⟨by omega, by decide +kernel, ?_⟩
  intro n21 en W21 eW
  have en : n21 = 232 := en
  subst en
  intro V21 eV
  have hm22 : MS b V V21 22 := MS.step (j := 21) (k := 25) hm21 (by omega) (by omega) (by decide +kernel) (W := W21) (fun x hx => by rw [eW]; exact nw_ne hx) (fun i hi => by
    have hi : i < 6 := hi
    show W21 231 i = ini b 231 i
    rw [eW, nw_eq, ini_0 (x := 231) (kd := 102) (len := 6) (by decide +kernel) (by decide) (M00.2.2.2.2.2.2.2.2.2.2.2.2.1 i hi)]
    rfl) eV
  clear eW eV hm21
  refine ⟨by omega, by decide +kernel, ?_⟩
  intro n22 en W22 eW
  have en : n22 = 233 := en
  subst en
  intro V22 eV
  have hm23 : MS b V V22 23 := MS.step (j := 22) (k := 26) hm22 (by omega) (by omega) (by decide +kernel) (W := W22) (fun x hx => by rw [eW]; exact nw_ne hx) (fun i hi => by
    have hi : i < 6 := hi
    show W22 232 i = ini b 232 i
    rw [eW, nw_eq, ini_0 (x := 232) (kd := 100) (len := 6) (by decide +kernel) (by decide) (M00.2.2.2.2.2.2.2.2.2.2.2.2.2.1 i hi)]
    rfl) eV
  clear eW eV hm22
  refine ⟨by omega, by decide +kernel, ?_⟩
  intro n23 en W23 eW
  have en : n23 = 234 := en
  subst en
  intro V23 eV
  have hm24 : MS b V V23 24 := MS.step (j := 23) (k := 27) hm23 (by omega) (by omega) (by decide +kernel) (W := W23) (fun x hx => by rw [eW]; exact nw_ne hx) (fun i hi => by
    have hi : i < 6 := hi
    show W23 233 i = ini b 233 i
    rw [eW, nw_eq, ini_0 (x := 233) (kd := 100) (len := 6) (by decide +kernel) (by decide) (M00.2.2.2.2.2.2.2.2.2.2.2.2.2.2.1 i hi)]
    rfl) eV
  clear eW eV hm23
  refine ⟨by omega, by decide +kernel, ?_⟩
  intro n24 en W24 eW
  have en : n24 = 235 := en
  subst en
  intro V24 eV
  have hm25 : MS b V V24 25 := MS.step (j := 24) (k := 28) hm24 (by omega) (by omega) (by decide +kernel) (W := W24) (fun x hx => by rw [eW]; exact nw_ne hx) (fun i hi => by
    have hi : i < 6 := hi
    show W24 234 i = ini b 234 i
    rw [eW, nw_eq, ini_0 (x := 234) (kd := 102) (len := 6) (by decide +kernel) (by decide) (M00.2.2.2.2.2.2.2.2.2.2.2.2.2.2.2.1 i hi)]
    rfl) eV
  clear eW eV hm24
  refine ⟨by omega, by decide +kernel, ?_⟩
  intro n25 en W25 eW
  have en : n25 = 236 := en
  subst en
  intro V25 eV
  have hm26 : MS b V V25 26 := MS.step (j := 25) (k := 29) hm25 (by omega) (by omega) (by decide +kernel) (W := W25) (fun x hx => by rw [eW]; exact nw_ne hx) (fun i hi => by
    have hi : i < 6 := hi
    show W25 235 i = ini b 235 i
    rw [eW, nw_eq, ini_0 (x := 235) (kd := 100) (len := 6) (by decide +kernel) (by decide) (M00.2.2.2.2.2.2.2.2.2.2.2.2.2.2.2.2.1 i hi)]
    rfl) eV
  clear eW eV hm25
  refine ⟨by omega, by decide +kernel, ?_⟩
  intro n26 en W26 eW
  have en : n26 = 237 := en
  subst en
  intro V26 eV
  have hm27 : MS b V V26 27 := MS.step (j := 26) (k := 30) hm26 (by omega) (by omega) (by decide +kernel) (W := W26) (fun x hx => by rw [eW]; exact nw_ne hx) (fun i hi => by
    have hi : i < 6 := hi
    show W26 236 i = ini b 236 i
    rw [eW, nw_eq, ini_0 (x := 236) (kd := 100) (len := 6) (by decide +kernel) (by decide) (M00.2.2.2.2.2.2.2.2.2.2.2.2.2.2.2.2.2.1 i hi)]
    rfl) eV
  clear eW eV hm26
  refine ⟨by omega, by decide +kernel, ?_⟩
  intro n27 en W27 eW
  have en : n27 = 238 := en
  subst en
  intro V27 eV
  have hm28 : MS b V V27 28 := MS.step (j := 27) (k := 31) hm27 (by omega) (by omega) (by decide +kernel) (W := W27) (fun x hx => by rw [eW]; exact nw_ne hx) (fun i hi => by
    have hi : i < 6 := hi
    show W27 237 i = ini b 237 i
    rw [eW, nw_eq, ini_l (x := 237) (len := 6) (by decide +kernel)]
    rfl) eV
  clear eW eV hm27
  refine ⟨by omega, by decide +kernel, ?_⟩
  intro n28 en W28 eW
  have en : n28 = 239 := en
  subst en
  intro V28 eV
  have hm29 : MS b V V28 29 := MS.step (j := 28) (k := 32) hm28 (by omega) (by omega) (by decide +kernel) (W := W28) (fun x hx => by rw [eW]; exact nw_ne hx) (fun i hi => by
    have hi : i < 6 := hi
    show W28 238 i = ini b 238 i
    rw [eW, nw_eq, ini_l (x := 238) (len := 6) (by decide +kernel)]
    rfl) eV
  clear eW eV hm28
  refine ⟨by omega, by decide +kernel, ?_⟩
  intro n29 en W29 eW
  have en : n29 = 240 := en
  subst en
  intro V29 eV
  have hm30 : MS b V V29 30 := MS.step (j := 29) (k := 33) hm29 (by omega) (by omega) (by decide +kernel) (W := W29) (fun x hx => by rw [eW]; exact nw_ne hx) (fun i hi => by
    have hi : i < 6 := hi
    show W29 239 i = ini b 239 i
    rw [eW, nw_eq, ini_l (x := 239) (len := 6) (by decide +kernel)]
    rfl) eV
  clear eW eV hm29
  refine ⟨by omega, by decide +kernel, ?_⟩
  intro n30 en W30 eW
  have en : n30 = 241 := en
  subst en
  intro V30 eV
  have hm31 : MS b V V30 31 := MS.step (j := 30) (k := 34) hm30 (by omega) (by omega) (by decide +kernel) (W := W30) (fun x hx => by rw [eW]; exact nw_ne hx) (fun i hi => by
    have hi : i < 6 := hi
    show W30 240 i = ini b 240 i
    rw [eW, nw_eq, ini_0 (x := 240) (kd := 100) (len := 6) (by decide +kernel) (by decide) (M00.2.2.2.2.2.2.2.2.2.2.2.2.2.2.2.2.2.2.1 i hi)]
    rfl) eV
  clear eW eV hm30
  refine ⟨by omega, by decide +kernel, ?_⟩
  intro n31 en W31 eW
  have en : n31 = 242 := en
  subst en
  intro V31 eV
  have hm32 : MS b V V31 32 := MS.step (j := 31) (k := 36) hm31 (by omega) (by omega) (by decide +kernel) (W := W31) (fun x hx => by rw [eW]; exact nw_ne hx) (fun i hi => by
    have hi : i < 640 := hi
    show W31 241 i = ini b 241 i
    rw [eW, nw_eq, ini_0 (x := 241) (kd := 100) (len := 640) (by decide +kernel) (by decide) (M00.2.2.2.2.2.2.2.2.2.2.2.2.2.2.2.2.2.2.2.1 i hi)]
    rfl) eV
  clear eW eV hm31
  refine ⟨by omega, by decide +kernel, ?_⟩
  intro n32 en W32 eW
  have en : n32 = 243 := en
  subst en
  intro V32 eV
  have hm33 : MS b V V32 33 := MS.step (j := 32) (k := 37) hm32 (by omega) (by omega) (by decide +kernel) (W := W32) (fun x hx => by rw [eW]; exact nw_ne hx) (fun i hi => by
    have hi : i < 16 := hi
    show W32 242 i = ini b 242 i
    rw [eW, nw_eq, ini_l (x := 242) (len := 16) (by decide +kernel)]
    rfl) eV
  clear eW eV hm32
  refine ⟨by omega, by decide +kernel, ?_⟩
  intro n33 en W33 eW
  have en : n33 = 244 := en
  subst en
  intro V33 eV
  have hm34 : MS b V V33 34 := MS.step (j := 33) (k := 38) hm33 (by omega) (by omega) (by decide +kernel) (W := W33) (fun x hx => by rw [eW]; exact nw_ne hx) (fun i hi => by
    have hi : i < 6 := hi
    show W33 243 i = ini b 243 i
    rw [eW, nw_eq, ini_0 (x := 243) (kd := 100) (len := 6) (by decide +kernel) (by decide) (M00.2.2.2.2.2.2.2.2.2.2.2.2.2.2.2.2.2.2.2.2 i hi)]
    rfl) eV
  clear eW eV hm33
  refine ⟨by omega, h V33 hm34.1 (IB.app (c := 210) (IB.one fun k hk => hm34.2.2 k hk (fun q => ?_)) hm34.2.1)⟩
  exact MSy k hk q
theorem MSd (b : Nat) : ∀ k, k < 40 → (TK 10 k).1 ≠ 2 → (fun k => defaultValue (F_ty_10 k)) k = ini b 209 k := by
  intro k hk hq
  rw [ini_at l209]
  match k, hk with
  | 0, _ => rfl
  | 1, _ => rfl
  | 2, _ => exact absurd rfl hq
  | 3, _ => exact absurd rfl hq
  | 4, _ => exact absurd rfl hq
  | 5, _ => rfl
  | 6, _ => rfl
  | 7, _ => exact absurd rfl hq
  | 8, _ => exact absurd rfl hq
  | 9, _ => exact absurd rfl hq
  | 10, _ => exact absurd rfl hq
  | 11, _ => exact absurd rfl hq
  | 12, _ => exact absurd rfl hq
  | 13, _ => exact absurd rfl hq
  | 14, _ => exact absurd rfl hq
  | 15, _ => exact absurd rfl hq
  | 16, _ => exact absurd rfl hq
  | 17, _ => exact absurd rfl hq
  | 18, _ => exact absurd rfl hq
  | 19, _ => exact absurd rfl hq
  | 20, _ => exact absurd rfl hq
  | 21, _ => exact absurd rfl hq
  | 22, _ => exact absurd rfl hq
  | 23, _ => exact absurd rfl hq
  | 24, _ => exact absurd rfl hq
  | 25, _ => exact absurd rfl hq
  | 26, _ => exact absurd rfl hq
  | 27, _ => exact absurd rfl hq
  | 28, _ => exact absurd rfl hq
  | 29, _ => exact absurd rfl hq
  | 30, _ => exact absurd rfl hq
  | 31, _ => exact absurd rfl hq
  | 32, _ => exact absurd rfl hq
  | 33, _ => exact absurd rfl hq
  | 34, _ => exact absurd rfl hq
  | 35, _ => rfl
  | 36, _ => exact absurd rfl hq
  | 37, _ => exact absurd rfl hq
  | 38, _ => exact absurd rfl hq
  | 39, _ => rfl
  | k + 40, hk => exact absurd hk (by omega)
/-- the object and the reference as they are made -/
theorem pm {b : Nat} {post : fw_V → Prop} (h : ∀ V : fw_V, (∀ x, x < 245 → ∀ k, k < slc (layU x) → V x k = ini b x k) → post V) : ws_law b post := by
  unfold ws_law
  refine vs_Out (fun V2 b2 => ?_)
  refine vs_M (fun V4 k4 b4 => ?_) (fun k hk hq => ?_)
  · refine h _ (fun x hx k hk => ?_)
    by_cases e : x = 244
    · subst e
      rw [nw_eq, ini_l (x := 244) (len := 1) (by decide +kernel)]
      rfl
    · rw [nw_ne e]
      by_cases e2 : x < 209
      · rw [k4 x e2, nw_ne (by omega)]
        exact b2 x (by omega) e2 k hk
      · exact b4 x (by omega) (by omega) k hk
  · rw [nw_eq]
    exact MSd b k hk hq
