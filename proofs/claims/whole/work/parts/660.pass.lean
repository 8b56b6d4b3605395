theorem RS_cells {Y Z : fw_S} {j : Nat} (h : RS Y j (Y.1 210 j).toNatClampNeg (fun c => mOn Y (j + 2 * c)) (fun c => mAc Y (j + 2 * c)) (fun c => mWn Y (j + 2 * c)) (fun c => mGw Y (j + 2 * c))) (hj : j < 2) (h210 : Z.1 210 j = Y.1 210 j) (hc : ∀ a p, p < 6 → isC a → a ≠ 210 → a ≠ 243 → Z.1 a p = Y.1 a p) : RS Z j (Z.1 210 j).toNatClampNeg (fun c => mOn Z (j + 2 * c)) (fun c => mAc Z (j + 2 * c)) (fun c => mWn Z (j + 2 * c)) (fun c => mGw Z (j + 2 * c)) := by
  refine ⟨by rw [h210]; exact h.1, by rw [h210]; exact h.2.1, fun c hc3 => ?_⟩
  have hp : j + 2 * c < 6 := by omega
  have e1 := hc 216 _ hp (by unfold isC; omega) (by omega) (by omega)
  have e2 := hc 218 _ hp (by unfold isC; omega) (by omega) (by omega)
  have e3 := hc 215 _ hp (by unfold isC; omega) (by omega) (by omega)
  have e4 := hc 227 _ hp (by unfold isC; omega) (by omega) (by omega)
  have e5 := hc 231 _ hp (by unfold isC; omega) (by omega) (by omega)
  have e6 := hc 228 _ hp (by unfold isC; omega) (by omega) (by omega)
  have e7 := hc 229 _ hp (by unfold isC; omega) (by omega) (by omega)
  have m1 : mOn Z (j + 2 * c) = mOn Y (j + 2 * c) := by unfold mOn; rw [e1]
  have m2 : mWn Z (j + 2 * c) = mWn Y (j + 2 * c) := by unfold mWn; rw [e4, e5, e6]
  have m3 : mAc Z (j + 2 * c) = mAc Y (j + 2 * c) := by unfold mAc; rw [e2, e3, m2]
  have m4 : mGw Z (j + 2 * c) = mGw Y (j + 2 * c) := by unfold mGw; rw [e7]
  have := h.2.2 c hc3
  show (Z.1 216 (j + 2 * c) = 0 ↔ mOn Z (j + 2 * c) = false) ∧ ((¬ Z.1 218 (j + 2 * c) ≤ 0 ∧ ¬ Z.1 215 (j + 2 * c) = 0 ∧ 60 ≤ mWn Z (j + 2 * c)) ↔ mAc Z (j + 2 * c) = true) ∧ ((Z.1 227 (j + 2 * c) = 0 → mWn Z (j + 2 * c) = 0) ∧ (¬ Z.1 227 (j + 2 * c) = 0 → ¬ Z.1 231 (j + 2 * c) = 0 → mWn Z (j + 2 * c) = 0) ∧ (¬ Z.1 227 (j + 2 * c) = 0 → Z.1 231 (j + 2 * c) = 0 → Z.1 228 (j + 2 * c) = nI (mWn Z (j + 2 * c)))) ∧ mWn Z (j + 2 * c) ≤ 320 ∧ (mAc Z (j + 2 * c) = true → Z.1 229 (j + 2 * c) = nI (mGw Z (j + 2 * c)) ∧ mGw Z (j + 2 * c) ≤ 9)
  rw [e1, e2, e3, e4, e5, e6, e7, m1, m2, m3, m4]
  exact this
theorem mCu_cells {Y Z : fw_S} {t p : Nat} (hp : p < 6) (h210 : ∀ j, j < 2 → Z.1 210 j = Y.1 210 j) (hc : ∀ a p, p < 6 → isC a → a ≠ 210 → a ≠ 243 → Z.1 a p = Y.1 a p) : mCu Z t p = mCu Y t p := by
  unfold mCu
  rw [h210 _ (by omega)]
  refine cuOf_congr (fun c hc3 => ?_) (by omega)
  have hp' : p % 2 + 2 * c < 6 := by omega
  have e1 := hc 216 _ hp' (by unfold isC; omega) (by omega) (by omega)
  have e2 := hc 218 _ hp' (by unfold isC; omega) (by omega) (by omega)
  have e3 := hc 215 _ hp' (by unfold isC; omega) (by omega) (by omega)
  have e4 := hc 227 _ hp' (by unfold isC; omega) (by omega) (by omega)
  have e5 := hc 231 _ hp' (by unfold isC; omega) (by omega) (by omega)
  have e6 := hc 228 _ hp' (by unfold isC; omega) (by omega) (by omega)
  have e7 := hc 229 _ hp' (by unfold isC; omega) (by omega) (by omega)
  have m1 : mOn Z (p % 2 + 2 * c) = mOn Y (p % 2 + 2 * c) := by unfold mOn; rw [e1]
  have m2 : mWn Z (p % 2 + 2 * c) = mWn Y (p % 2 + 2 * c) := by unfold mWn; rw [e4, e5, e6]
  have m3 : mAc Z (p % 2 + 2 * c) = mAc Y (p % 2 + 2 * c) := by unfold mAc; rw [e2, e3, m2]
  have m4 : mGw Z (p % 2 + 2 * c) = mGw Y (p % 2 + 2 * c) := by unfold mGw; rw [e7]
  exact ⟨m1, m3, m2, fun _ => m4⟩
def MI (S Y : fw_S) (t n : Nat) : Prop := RG (cj S Y) t n ∧ KN Y t ∧ ∀ p, p < 6 → RV (cv (vw p S) (vw p Y)) t n
theorem MI.rs {S Y : fw_S} {t n : Nat} (h : MI S Y t n) {j : Nat} (hj : j < 2) : RS Y j (Y.1 210 j).toNatClampNeg (fun c => mOn Y (j + 2 * c)) (fun c => mAc Y (j + 2 * c)) (fun c => mWn Y (j + 2 * c)) (fun c => mGw Y (j + 2 * c)) := by
  refine RS_cells (RS_of h.1 (fun q hq => by rw [vw_cj hq]; exact h.2.2 q hq) hj) hj ?_ (fun a p hp ha h1 h2 => ?_)
  · rw [cj_i, if_neg (by omega)]
  · unfold isC at ha
    rw [cj_i, if_neg (by omega)]
theorem MI.cu {S Y : fw_S} {t n : Nat} {lim : Nat → Nat} (h : MI S Y t n) (hl : ∀ j, j < 2 → S.1 (19 + 95 * j) 1 = nI (lim j) ∧ lim j ≤ 2000) {p : Nat} (hp : p < 6) : cuC S lim t p = mCu Y t p := by
  unfold cuC mCu
  have hj : p % 2 < 2 := by omega
  have elim : lim (p % 2) = (Y.1 210 (p % 2)).toNatClampNeg := by
    obtain ⟨l1, l2, l3⟩ := lim_of h.1 hj
    rw [cj_i, cj_i, if_pos (show 19 + 95 * (p % 2) < 209 by omega), if_neg (show ¬ 210 < 209 by omega), (hl _ hj).1] at l3
    rw [← l3, nI_clamp (by have := (hl _ hj).2; omega)]
  rw [elim]
  refine cuOf_congr (fun c hc3 => ?_) (by omega)
  have hp' : p % 2 + 2 * c < 6 := by omega
  obtain ⟨h1, h2, h3, h4, h5, h6, h7, h8⟩ := RV.cur (S := cj S Y) (p := p % 2 + 2 * c) h.1.1.2.2.2 (by rw [vw_cj hp']; exact h.2.2 _ hp')
  have hpo := pO_lt hp'
  have c1 : ∀ o k, o < 31 → (cj S Y).1 (pO (p % 2 + 2 * c) + o) k = S.1 (pO (p % 2 + 2 * c) + o) k := fun o k ho => by rw [cj_i, if_pos (by omega)]
  have c0 : ∀ k, (cj S Y).1 (pO (p % 2 + 2 * c)) k = S.1 (pO (p % 2 + 2 * c)) k := fun k => c1 0 k (by omega)
  have cm : ∀ a k, 209 ≤ a → (cj S Y).1 a k = Y.1 a k := fun a k ha => by rw [cj_i, if_neg (by omega)]
  have m2 : mWn (cj S Y) (p % 2 + 2 * c) = mWn Y (p % 2 + 2 * c) := by unfold mWn; rw [cm 227 _ (by omega), cm 231 _ (by omega), cm 228 _ (by omega)]
  have m3 : mAc (cj S Y) (p % 2 + 2 * c) = mAc Y (p % 2 + 2 * c) := by unfold mAc; rw [cm 218 _ (by omega), cm 215 _ (by omega), m2]
  have m4 : mGw (cj S Y) (p % 2 + 2 * c) = mGw Y (p % 2 + 2 * c) := by unfold mGw; rw [cm 229 _ (by omega)]
  rw [cm 216 _ (by omega), c0] at h1
  rw [cm 215 _ (by omega), c0] at h2
  rw [cm 218 _ (by omega), c0] at h3
  rw [c1 1 2 (by omega), m2] at h5
  rw [m2] at h6
  have ew : wC S (p % 2) c = mWn Y (p % 2 + 2 * c) := by
    unfold wC
    rw [sA_pO hj hc3, h5, nI_clamp (by omega)]
  have ea : aC S (p % 2) c = mAc Y (p % 2 + 2 * c) := by
    unfold aC mAc
    rw [ew, sA_pO hj hc3, h3, h2]
  refine ⟨?_, ea, ew, fun hac => ?_⟩
  · unfold oC mOn
    rw [sA_pO hj hc3, h1]
  · rw [ea, ← m3] at hac
    have := (h7 hac)
    rw [m4, c1 1 3 (by omega)] at this
    unfold gC
    rw [sA_pO hj hc3, this.1, nI_clamp (by have := this.2.2; omega)]
theorem RG.tm {J J' : fw_S} {t t' n : Nat} (g : RG J t n) (hi : ∀ a k, gcell a k → ¬ (a = 0 ∧ k = 2) → ¬ (a = 209 ∧ k = 1) → J'.1 a k = J.1 a k) (hl : ∀ k, J'.2 11 k = J.2 11 k ∧ J'.2 242 k = J.2 242 k) (h1 : J'.1 0 2 = nI t') (h2 : J'.1 209 1 = nI t') (ht : t' ≤ 86400 * n) : RG J' t' n := by
  obtain ⟨g1, g2, g3, g4, g5, g6, g7, c, g8⟩ := g
  refine ⟨⟨h1, h2, ht, g1.2.2.2⟩, fun j hj => ?_, fun k hk => ?_, ?_, fun k hk => ?_, fun k hk => ?_, fun k hk => ?_, c, ?_⟩
  · rw [hi (19 + 95 * j) 1 (by unfold gcell; omega) (by omega) (by omega), hi 210 j (by unfold gcell; omega) (by omega) (by omega)]; exact g2 j hj
  · rw [hi 7 k (by unfold gcell; omega) (by omega) (by omega), hi 8 k (by unfold gcell; omega) (by omega) (by omega), hi 211 k (by unfold gcell; omega) (by omega) (by omega), hi 212 k (by unfold gcell; omega) (by omega) (by omega)]; exact g3 k hk
  · rw [hi 6 2 (by unfold gcell; omega) (by omega) (by omega), hi 6 3 (by unfold gcell; omega) (by omega) (by omega), hi 209 5 (by unfold gcell; omega) (by omega) (by omega), hi 209 6 (by unfold gcell; omega) (by omega) (by omega)]; exact g4
  · rw [hi 4 k (by unfold gcell; omega) (by omega) (by omega), hi 5 k (by unfold gcell; omega) (by omega) (by omega), hi 213 k (by unfold gcell; omega) (by omega) (by omega), hi 214 k (by unfold gcell; omega) (by omega) (by omega)]; exact g5 k hk
  · rw [hi 10 k (by unfold gcell; omega) (by omega) (by omega), hi 241 k (by unfold gcell; omega) (by omega) (by omega)]; exact g6 k hk
  · rw [(hl k).1, (hl k).2]; exact g7 k hk
  · rw [hi 2 5 (by unfold gcell; omega) (by omega) (by omega), hi 209 35 (by unfold gcell; omega) (by omega) (by omega)]; exact g8
def frP (Y Y' : fw_S) : Prop := (∀ a k, a < 209 → Y'.1 a k = Y.1 a k ∧ Y'.2 a k = Y.2 a k) ∧ ∀ k, Y'.2 244 k = Y.2 244 k
theorem stretch_m {S S' Y : fw_S} {t m n T d f : Nat} {lim : Nat → Nat} {post : fw_S → Int32 → Prop} (hn : n ≤ 512) (ht : t + m ≤ 86400 * n) (hl : ∀ j, j < 2 → S.1 (19 + 95 * j) 1 = nI (lim j) ∧ lim j ≤ 2000) (h : MI S Y t n) (hH : HS S t m lim S') (h0 : Y.1 209 0 = 0) (hT : T ≤ t) (hT2 : t + m ≤ T + d) (hd : d ≤ 86400) (hf : T + d - t < f)
    (fin : ∀ Y' f', frP Y Y' → MI S' Y' (t + m) n → Y'.1 209 0 = 0 → T + d - (t + m) < f' → wp_M_pass_32 209 (nI d) post f' Y' (nI (t + m - T))) : wp_M_pass_32 209 (nI d) post f Y (nI (t - T)) := by
  have hKC : ∀ p, p < 6 → KC (cv (vw p S) (vw p Y)) t m (cuC S lim t p) := fun p hp => (hH.2.2.2 p hp).1
  have hq : ∀ p, p < 6 → ∀ i, i < m → ∀ o k, ¬ o < 33 → (mIter (cuC S lim t p) t i (vw p Y)).1 o k = (vw p Y).1 o k := fun p hp i hi o k ho => by
    have e := quiet hn ht (h.2.2 p hp) (hKC p hp) i hi
    rw [mIter_cv] at e
    have e2 := congrArg (fun A => A.1 o k) e
    have e2 : (cv (vw p S) (mIter (cuC S lim t p) t i (vw p Y))).1 o k = (aq (cuC S lim t p) i (cv (vw p S) (vw p Y))).1 o k := e2
    rw [aq_i, cv_i, cv_i, if_neg ho, if_neg ho] at e2
    exact e2
  have key : ∀ e i f Z, i + e = m → T + d - (t + i) < f → Z.1 209 1 = nI (t + i) → KN Z (t + i) → ((∀ a k, (a < 215 ∨ 240 < a) → a ≠ 243 → ¬ (a = 209 ∧ (k = 1 ∨ k = 39)) → Z.1 a k = Y.1 a k) ∧ ∀ a k, (a < 215 ∨ 240 < a) → Z.2 a k = Y.2 a k) → (∀ p, p < 6 → vw p Z = mIter (cuC S lim t p) t i (vw p Y)) → wp_M_pass_32 209 (nI d) post f Z (nI (t + i - T)) := by
    intro e
    induction e with
    | zero =>
      intro i f Z hi hf z1 z2 z3 z4
      have : i = m := by omega
      subst this
      refine fin Z f ⟨fun a k ha => ⟨z3.1 a k (by omega) (by omega) (by omega), z3.2 a k (by omega)⟩, fun k => z3.2 244 k (by omega)⟩ ⟨?_, z2, fun p hp => ?_⟩ (by rw [z3.1 209 0 (by omega) (by omega) (by omega)]; exact h0) hf
      · refine h.1.tm (fun a k hg n1 n2 => ?_) (fun k => ⟨?_, ?_⟩) ?_ ?_ ht
        · by_cases ha : a < 209
          · rw [cj_i, cj_i, if_pos ha, if_pos ha]
            refine (hH.1 a k (fun q hq => ?_) n1).1
            have := pO_lt hq
            unfold gcell at hg
            omega
          · rw [cj_i, cj_i, if_neg ha, if_neg ha]
            unfold gcell at hg
            exact z3.1 a k (by omega) (by omega) (by omega)
        · rw [cj_l, cj_l, if_pos (by omega), if_pos (by omega)]
          exact (hH.1 11 k (fun q hq => by have := pO_lt hq; omega) (by omega)).2
        · rw [cj_l, cj_l, if_neg (by omega), if_neg (by omega)]
          exact z3.2 242 k (by omega)
        · rw [cj_i, if_pos (by omega)]
          exact hH.2.1
        · rw [cj_i, if_neg (by omega)]
          exact z1
      · have hs := (h.2.2 p hp).step hn ht (hKC p hp)
        rw [cStep_cv, mIter_cv] at hs
        rw [z4 p hp]
        have hc := (hH.2.2.2 p hp).2
        refine hs.ext (fun o k hno => ?_) (funext fun o => funext fun k => ?_)
        · rw [cv_i, cv_i]
          by_cases ho : o < 33
          · rw [if_pos ho, if_pos ho, cv_i, if_pos ho]
            exact (hc.1 o k ho hno).symm
          · rw [if_neg ho, if_neg ho, cv_i, if_neg ho]
        · rw [cv_l, cv_l]
          by_cases ho : o < 33
          · rw [if_pos ho, if_pos ho, cv_l, if_pos ho]
            exact (hc.2 o k ho).symm
          · rw [if_neg ho, if_neg ho, cv_l, if_neg ho]
    | succ e ih =>
      intro i f Z hi hf z1 z2 z3 z4
      obtain ⟨f, rfl⟩ : ∃ f', f = f' + 1 := ⟨f - 1, by omega⟩
      have him : i < m := by omega
      have cells : ∀ a p, p < 6 → isM a → Z.1 a p = Y.1 a p := fun a p hp ha => by
        rw [vm_i ha, vm_i (S := Y) ha, z4 p hp]
        exact hq p hp i him a 0 (by unfold isM at ha; omega)
      have hcc : ∀ a p, p < 6 → isC a → a ≠ 210 → a ≠ 243 → Z.1 a p = Y.1 a p := fun a p hp ha h1 h2 => cells a p hp (by unfold isC at ha; unfold isM; omega)
      have h210 : ∀ j, j < 2 → Z.1 210 j = Y.1 210 j := fun j _ => z3.1 210 j (by omega) (by omega) (by omega)
      rw [wp_M_pass_32]
      refine ⟨fun q => absurd q (nI_ge (by omega) (by omega)), fun _ => ⟨fun q => absurd ((z3.1 209 0 (by omega) (by omega) (by omega)).trans h0) q, fun _ => ?_⟩⟩
      refine second_ex (τ := t + i) (by omega) z1 (fun j hj => RS_cells (h.rs hj) hj (h210 j hj) hcc) z2 (fun p hp => ?_) (fun W w1 w2 w3 w4 w5 => ?_)
      · obtain ⟨w, s, ls, z, h0', u, g, hm, hc, hq', -⟩ := h.2.2 p hp
        refine ⟨z, hq'.1.2.2.1, ?_⟩
        rw [cells 221 p hp (by unfold isM; omega), vm_i (by unfold isM; omega)]
        exact hq'.1.2.1
      · intro v4 e4
        rw [e4, nI_1, show t + i - T + 1 = t + (i + 1) - T by omega]
        refine ih (i + 1) f W (by omega) (by omega) w3 w4 ⟨fun a k h1 h2 h3 => (w1 a k h1 h2 h3).trans (z3.1 a k h1 h2 h3), fun a k h1 => (w2 a k h1).trans (z3.2 a k h1)⟩ (fun p hp => ?_)
        rw [w5 p hp, z4 p hp, mIter]
        by_cases hr : rnM (mIter (cuC S lim t p) t i (vw p Y))
        · have hrY : rnM (cv (vw p S) (vw p Y)) := by
            unfold rnM at hr
            rw [hq p hp i him 218 0 (by omega), hq p hp i him 215 0 (by omega)] at hr
            exact hr
          have hrc := ((h.2.2 p hp).rn hn).1.mp hrY
          have h900 := ((hKC p hp).2.2.2.1 hrc).2
          rw [mCu_cells hp h210 hcc, mCu_tn (t := t) (by omega), ← h.cu hl hp]
        · unfold mStep mCh
          rw [if_neg hr, if_neg hr]
  have := key m 0 f Y (by omega) (by omega) ?_ (by rw [Nat.add_zero]; exact h.2.1) ⟨fun _ _ _ _ _ => rfl, fun _ _ _ => rfl⟩ (fun p hp => rfl)
  · rw [Nat.add_zero] at this
    exact this
  · have := h.1.1.2.1
    rw [cj_i, if_neg (by omega)] at this
    rw [Nat.add_zero]
    exact this
