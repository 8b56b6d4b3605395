/-! the currents out of the relation -/
theorem mCu_eq2 {S S' : fw_S} {t p : Nat} (h : ∀ a k, isC a → a ≠ 243 → S'.1 a k = S.1 a k) : mCu S' t p = mCu S t p := by
  have h1 : ∀ k, S'.1 210 k = S.1 210 k := fun k => h _ k (by unfold isC; omega) (by omega)
  have h2 : ∀ k, S'.1 215 k = S.1 215 k := fun k => h _ k (by unfold isC; omega) (by omega)
  have h3 : ∀ k, S'.1 216 k = S.1 216 k := fun k => h _ k (by unfold isC; omega) (by omega)
  have h4 : ∀ k, S'.1 218 k = S.1 218 k := fun k => h _ k (by unfold isC; omega) (by omega)
  have h5 : ∀ k, S'.1 227 k = S.1 227 k := fun k => h _ k (by unfold isC; omega) (by omega)
  have h6 : ∀ k, S'.1 228 k = S.1 228 k := fun k => h _ k (by unfold isC; omega) (by omega)
  have h7 : ∀ k, S'.1 229 k = S.1 229 k := fun k => h _ k (by unfold isC; omega) (by omega)
  have h8 : ∀ k, S'.1 231 k = S.1 231 k := fun k => h _ k (by unfold isC; omega) (by omega)
  have e1 : mOn S' = mOn S := funext fun p => by unfold mOn; rw [h3]
  have e2 : mWn S' = mWn S := funext fun p => by unfold mWn; rw [h5, h6, h8]
  have e3 : mAc S' = mAc S := funext fun p => by unfold mAc; rw [h4, h2, e2]
  have e4 : mGw S' = mGw S := funext fun p => by unfold mGw; rw [h7]
  unfold mCu
  rw [e1, e2, e3, e4, h1]
/-- what the relation says of a point for its current -/
theorem RV.cur {S : fw_S} {t n p : Nat} (hn : n ≤ 512) (h : RV (vw p S) t n) : S.1 216 p = S.1 (pO p) 4 ∧ S.1 215 p = S.1 (pO p) 3 ∧ S.1 218 p = S.1 (pO p) 6 ∧ (∃ s, s ≤ 512 ∧ S.1 218 p = nI s) ∧ S.1 (pO p + 1) 2 = nI (mWn S p) ∧ mWn S p ≤ 320 ∧ (mAc S p = true → S.1 (pO p + 1) 3 = nI (mGw S p) ∧ S.1 229 p = nI (mGw S p) ∧ mGw S p ≤ 9) ∧ (¬ S.1 227 p = 0 → S.1 231 p = 0 → S.1 228 p = nI (mWn S p)) := by
  obtain ⟨w, s, ls, z, h0, u, g, hm, hc, -⟩ := h
  obtain ⟨⟨c1, c1'⟩, c2, c3, c4, c5, c6, c7⟩ := hc
  have c1 : S.1 227 p = S.1 (pO p + 1) 0 := c1
  have key : S.1 (pO p + 1) 2 = nI (mWn S p) ∧ mWn S p ≤ 320 ∧ (¬ S.1 227 p = 0 → S.1 231 p = 0 → S.1 228 p = nI (mWn S p)) ∧ (¬ mWn S p = 0 → S.1 (pO p + 1) 0 = 1) := by
    rcases c1' with q | q
    · have q' : S.1 (pO p + 1) 0 = 0 := q
      have e : mWn S p = 0 := by
        unfold mWn
        rw [if_neg (fun x => x.1 (c1.trans q'))]
      rw [e]
      exact ⟨(c3 q).2, by omega, fun x => absurd (c1.trans q') x, fun x => absurd rfl x⟩
    · have q' : S.1 (pO p + 1) 0 = 1 := q
      have f : S.1 231 p = S.1 (pO p + 1) 1 := (c4 q).1
      have n0 : ¬ S.1 227 p = 0 := by rw [c1, q']; decide
      rcases c2 with r | r
      · have r' : S.1 (pO p + 1) 1 = 0 := r
        obtain ⟨v, hv, v1, v2⟩ := c5 q r
        have v2 : S.1 228 p = nI v := v2
        have e : mWn S p = v := by
          unfold mWn
          rw [if_pos ⟨n0, f.trans r'⟩, v2, nI_clamp (by omega)]
        rw [e]
        exact ⟨v1, hv, fun _ _ => v2, fun _ => q'⟩
      · have r' : S.1 (pO p + 1) 1 = 1 := r
        have e : mWn S p = 0 := by
          unfold mWn
          rw [if_neg (fun x => by have := x.2; rw [f, r'] at this; exact absurd this (by decide))]
        rw [e]
        exact ⟨(c6 r).1, by omega, fun _ x => by rw [f, r'] at x; exact absurd x (by decide), fun x => absurd rfl x⟩
  have hs : s ≤ 512 := by have := hm.2.2.2.1; omega
  refine ⟨hm.2.1.1, hm.1.1, hm.2.2.2.1.1.trans hm.2.2.2.1.2.1.symm, ⟨s, hs, hm.2.2.2.1.1⟩, key.1, key.2.1, fun ha => ?_, key.2.2.1⟩
  unfold mAc at ha
  have ha := of_decide_eq_true ha
  have q := key.2.2.2 (by omega)
  obtain ⟨gw, g1, g2, g3, g4⟩ := (c4 q).2.1
  have g4 : S.1 229 p = nI gw := g4
  have e : mGw S p = gw := by
    unfold mGw
    rw [g4, nI_clamp (by omega)]
  rw [e]
  exact ⟨g3, g4, g2⟩
theorem lim_of {S : fw_S} {t n j : Nat} (hG : RG S t n) (hj : j < 2) : S.1 210 j = nI (S.1 210 j).toNatClampNeg ∧ (S.1 210 j).toNatClampNeg ≤ 2000 ∧ S.1 (19 + 95 * j) 1 = S.1 210 j := by
  obtain ⟨h1, v, hv, h2⟩ := hG.2.1 j hj
  rw [h2, nI_clamp (by omega)]
  exact ⟨rfl, hv, by rw [h1, h2]⟩
theorem RS_of {S : fw_S} {t n j : Nat} (hG : RG S t n) (hV : ∀ q, q < 6 → RV (vw q S) t n) (hj : j < 2) : RS S j (S.1 210 j).toNatClampNeg (fun c => mOn S (j + 2 * c)) (fun c => mAc S (j + 2 * c)) (fun c => mWn S (j + 2 * c)) (fun c => mGw S (j + 2 * c)) := by
  obtain ⟨l1, l2, l3⟩ := lim_of hG hj
  refine ⟨l1, l2, fun c hc => ?_⟩
  obtain ⟨h1, h2, h3, ⟨s, hs, h4⟩, h5, h6, h7, h8⟩ := (hV (j + 2 * c) (by omega)).cur hG.1.2.2.2
  refine ⟨by unfold mOn; simp, ?_, ⟨fun q => ?_, fun q1 q2 => ?_, h8⟩, h6, fun ha => (h7 ha).2⟩
  · unfold mAc
    rw [decide_eq_true_iff, h4]
    have e : ¬ nI s ≤ 0 ↔ nI s ≠ 0 := by
      rcases Nat.eq_zero_or_pos s with rfl | q
      · exact ⟨fun x => absurd (by decide) x, fun x => absurd rfl x⟩
      · exact ⟨fun _ => nI_ne0 q (by omega), fun _ => nI_nle q (by omega)⟩
    rw [e]
  · show mWn S (j + 2 * c) = 0
    unfold mWn
    rw [if_neg (fun x => x.1 q)]
  · show mWn S (j + 2 * c) = 0
    unfold mWn
    rw [if_neg (fun x => q2 x.2)]
theorem CS_of {S : fw_S} {t n j : Nat} (hG : RG S t n) (hV : ∀ q, q < 6 → RV (vw q S) t n) (hj : j < 2) : CS S j (S.1 210 j).toNatClampNeg (fun c => mOn S (j + 2 * c)) (fun c => mAc S (j + 2 * c)) (fun c => mWn S (j + 2 * c)) (fun c => mGw S (j + 2 * c)) := by
  obtain ⟨l1, l2, l3⟩ := lim_of hG hj
  refine ⟨l3.trans l1, l2, fun c hc => ?_⟩
  obtain ⟨h1, h2, h3, ⟨s, hs, h4⟩, h5, h6, h7, h8⟩ := (hV (j + 2 * c) (by omega)).cur hG.1.2.2.2
  rw [sA_pO hj hc]
  refine ⟨by show _ ↔ mOn S (j + 2 * c) = false; unfold mOn; rw [h1]; simp, ?_, h5, h6, fun ha => ⟨(h7 ha).1, (h7 ha).2.2⟩⟩
  unfold mAc
  rw [decide_eq_true_iff, h3, h2]
theorem mCu_site {S : fw_S} {t j c : Nat} (hj : j < 2) (hc : c < 3) : mCu S t (j + 2 * c) = cuOf (S.1 210 j).toNatClampNeg (fun c => mOn S (j + 2 * c)) (fun c => mAc S (j + 2 * c)) (fun c => mWn S (j + 2 * c)) (fun c => mGw S (j + 2 * c)) (t / 900 % 3) c := by
  unfold mCu
  rw [show (j + 2 * c) % 2 = j by omega, show (j + 2 * c) / 2 = c by omega]
theorem RS.eq {S X : fw_S} {j lim : Nat} {on ac : Nat → Bool} {wn gw : Nat → Nat} (h : RS S j lim on ac wn gw) (ha : ∀ a k, a ≠ 243 → X.1 a k = S.1 a k) : RS X j lim on ac wn gw := by
  obtain ⟨h1, h2, h3⟩ := h
  refine ⟨by rw [ha _ _ (by omega)]; exact h1, h2, fun c hc => ?_⟩
  rw [ha 216 _ (by omega), ha 218 _ (by omega), ha 215 _ (by omega), ha 227 _ (by omega), ha 231 _ (by omega), ha 228 _ (by omega), ha 229 _ (by omega)]
  exact h3 c hc
theorem rall_ex {S : fw_S} {t n : Nat} {post : fw_S → Prop} (hG : RG S t n) (hK : KN S t) (hV : ∀ q, q < 6 → RV (vw q S) t n) (fin : ∀ X, (∀ a k, a ≠ 243 → ¬ (a = 209 ∧ k = 39) → X.1 a k = S.1 a k) → X.2 = S.2 → X.1 209 39 = 1 → (∀ p, p < 6 → X.1 243 p = nI (mCu S t p)) → post X) : wp_M_reckonAll S 209 post := by
  have ht : t < 2 ^ 31 := by have := hG.1; omega
  unfold wp_M_reckonAll wp_M_reckonAll_22
  refine ⟨fun q => ?_, fun q => ?_⟩
  · rcases hK with hK | ⟨h1, h2⟩
    · exact absurd hK q
    · exact fin S (fun _ _ _ _ => rfl) rfl h1 h2
  · refine reckon_ex (j := 0) (RS_of hG hV (j := 0) (by decide)) (by decide) ht hG.1.2.1 (fun X hX hx => ?_)
    have e0 : ∀ a k, a ≠ 243 → X.1 a k = S.1 a k := fun a k ha => hX.1 a k (by omega)
    refine reckon_ex (j := 1) ((RS_of hG hV (j := 1) (by decide)).eq e0) (by decide) ht ((e0 209 1 (by omega)).trans hG.1.2.1) (fun Y hY hy => ?_)
    intro S4 e4
    subst e4
    refine fin _ (fun a k h1 h2 => ?_) ?_ (by simp [gi_i]) (fun p hp => ?_)
    · rw [gi_i, if_neg h2, hY.1 a k (by omega), e0 a k h1]
    · show Y.2 = S.2
      rw [hY.2, hX.2]
    · rw [gi_i, if_neg (by omega)]
      rcases (show p % 2 = 0 ∨ p % 2 = 1 by omega) with q | q
      · have e : p = 0 + 2 * (p / 2) := by omega
        rw [hY.1 243 p (by omega)]
        rw [e, mCu_site (by decide) (by omega)]
        exact hx (p / 2) (by omega)
      · have e : p = 1 + 2 * (p / 2) := by omega
        rw [e, mCu_site (by decide) (by omega)]
        exact hy (p / 2) (by omega)
theorem RV.ext {A A' : fw_S} {t n : Nat} (h : RV A t n) (T1 : ∀ o k, ¬ (o = 0 ∧ (k = 10 ∨ k = 11)) → A'.1 o k = A.1 o k) (T2 : A'.2 = A.2) : RV A' t n := by
  obtain ⟨w, s, ls, z, h, u, g, hm, hc, hq, hs, hb, hkk⟩ := h
  have hr : ∀ k, rw_ h k < 31 ∧ 4 ≤ rw_ h k := fun k => by unfold rw_; omega
  have r1 : ∀ k j, A'.1 (rw_ h k) j = A.1 (rw_ h k) j := fun k j => T1 _ _ (by have := hr k; omega)
  refine ⟨w, s, ls, z, h, u, g, ?_, ?_, ?_, ?_, hb.same (fun o k ho => T1 o k (by omega)) (fun o k ho => by rw [T2]), hkk.same (fun o k ho => T1 o k (by omega))⟩
  · unfold RVm at hm ⊢
    rw [T1 215 0 (by omega), T1 0 3 (by omega), T1 216 0 (by omega), T1 0 4 (by omega), T2, T1 218 0 (by omega), T1 0 6 (by omega), T1 219 0 (by omega), T1 0 8 (by omega), T1 0 7 (by omega), T1 220 0 (by omega)]
    exact hm
  · unfold RVc at hc ⊢
    rw [T1 227 0 (by omega), T1 1 0 (by omega), T1 1 1 (by omega), T1 1 2 (by omega), T1 231 0 (by omega), T1 1 3 (by omega), T1 229 0 (by omega), T1 1 4 (by omega), T2, T1 228 0 (by omega), T1 1 5 (by omega), T1 232 0 (by omega), T1 0 3 (by omega)]
    exact hc
  · obtain ⟨q1, q2, q3, q4, q5, q6, q7⟩ := hq
    refine ⟨by rw [T1 2 3 (by omega), T1 221 0 (by omega)]; exact q1, by rw [T1 2 1 (by omega)]; exact q2, by rw [T1 222 0 (by omega), T1 2 2 (by omega)]; exact q3, by rw [T1 223 0 (by omega), T1 2 4 (by omega)]; exact q4, by rw [T1 224 0 (by omega), T1 0 9 (by omega), T1 0 3 (by omega), T1 0 4 (by omega)]; exact q5, by rw [T1 233 0 (by omega), T1 32 0 (by omega), T1 2 2 (by omega)]; exact q6, fun k hk => ?_⟩
    rw [T1 2 2 (by omega), r1, r1, r1, r1, r1, r1, T1 225 _ (by omega), T1 225 _ (by omega), T1 225 _ (by omega), T1 225 _ (by omega), T1 225 _ (by omega), T1 225 _ (by omega), T2]
    exact q7 k hk
  · obtain ⟨kf, wf, op, a1, a2, a3, a4, a5, a6, b, b1, b2, b3⟩ := hs
    refine ⟨kf, wf, op, fun k hk => by rw [r1, r1, r1, r1, r1]; exact a1 k hk, a2, a3, by rw [T1 31 0 (by omega)]; exact a4, a5, a6, b, by rw [T1 31 5 (by omega)]; exact b1, b2, b3⟩
/-- the view after stores into slots 10 and 11 of points, and into cells of no point -/
theorem vw_ext {q : Nat} {S X : fw_S} (hq : q < 6) (h1 : ∀ a k, foot q a k → ¬ (a = pO q ∧ (k = 10 ∨ k = 11)) → X.1 a k = S.1 a k) (h2 : ∀ a k, foot q a k → X.2 a k = S.2 a k) : (∀ o k, ¬ (o = 0 ∧ (k = 10 ∨ k = 11)) → (vw q X).1 o k = (vw q S).1 o k) ∧ (vw q X).2 = (vw q S).2 := by
  have hpo := pO_lt hq
  refine ⟨fun o k hn => ?_, ?_⟩
  · show (if o < 31 then _ else _) = (if o < 31 then _ else _)
    repeat' split
    all_goals first | rfl | (apply h1 <;> (try unfold foot) <;> omega)
  · refine funext fun o => funext fun k => ?_
    show (if o < 31 then _ else _) = (if o < 31 then _ else _)
    repeat' split
    all_goals first | rfl | (apply h2; unfold foot; omega)
