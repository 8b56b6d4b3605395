/-! what carry does to a point's view -/
def TKV (A A' : fw_S) : Prop :=
  (∀ o k, ¬ (o = 31 ∨ o = 32 ∨ (o = 0 ∧ k = 9) ∨ o = 233 ∨ o = 224 ∨ (234 ≤ o ∧ o ≤ 240)) → A'.1 o k = A.1 o k) ∧ (∀ o k, ¬ (o = 31 ∨ (234 ≤ o ∧ o ≤ 240)) → A'.2 o k = A.2 o k) ∧ A'.1 0 9 = 2 ∧ A'.1 224 0 = 2 ∧ A'.1 32 0 = A.1 32 0 + 1 ∧ A'.1 233 0 = A.1 32 0 + 1
theorem nI_inj {a b : Nat} (ha : a < 2 ^ 31) (hb : b < 2 ^ 31) (h : nI a = nI b) : a = b := (nI_eq ha hb).mp h
theorem RVs.first {A : fw_S} {t w s z h : Nat} (hs : RVs A t w s z h 0) (hz : 0 < z) : ∃ k0 w0 c a i b, k0 ≤ 2 ∧ A.1 (rw_ h 0) 0 = nI k0 ∧ A.1 (rw_ h 0) 4 = nI w0 ∧ 3600 * w0 ≤ w ∧ (k0 = 0 ↔ ¬ A.1 31 0 = 1) ∧ (c < 16 ∧ A.1 (rw_ h 0) 2 = nI c) ∧ (a ≤ t ∧ A.1 (rw_ h 0) 3 = nI a) ∧ (i ≤ t ∧ A.1 (rw_ h 0) 5 = nI i) ∧ A.1 31 5 = nI b ∧ b ≤ w0 := by
  obtain ⟨kf, wf, op, a1, a2, a3, a4, a5, a6, b, b1, b2, b3⟩ := hs
  obtain ⟨q1, q2, q3, ⟨c, q4, q5⟩, ⟨a, q6, q7⟩, i, q8, q9⟩ := a1 0 hz
  exact ⟨kf 0, wf 0, c, a, i, b, q1, q2, q3, a6 0 (by omega) hz, by rw [(a2 0 (by omega) hz).1, a4], ⟨q4, q5⟩, ⟨q6, q7⟩, ⟨q8, q9⟩, b1, b3 0 (by omega) hz⟩
theorem mono_wh {wf : Nat → Nat} {z : Nat} (h : ∀ k, 0 ≤ k → k + 1 < z → wf k ≤ wf (k + 1)) : ∀ k, k < z → wf 0 ≤ wf k := by
  intro k
  induction k with
  | zero => exact fun _ => Nat.le_refl _
  | succ k ih => exact fun hk => Nat.le_trans (ih (by omega)) (h k (by omega) hk)
theorem RV.take {A A' : fw_S} {t n w s ls z h k0 w0 : Nat} {g : Int} (hm : RVm A t n w s ls) (hc : RVc A t s g) (hq : RVq A t w s z h 0) (hs : RVs A t w s z h 0) (hkk : RVk A) (hz : 0 < z) (hp : A.1 0 3 = 1) (hl : A.1 0 4 = 1) (T : TKV A A') (hb' : RVb A' t w)
    (hw : w < 7730941132800) (k1 : k0 ≤ 2) (k2 : A.1 (rw_ h 0) 0 = nI k0) (k3 : A.1 (rw_ h 0) 4 = nI w0) (k4 : 3600 * w0 ≤ w) (k5 : A'.1 31 5 = nI w0) (k6 : A'.1 31 0 = 1 ↔ k0 ≠ 2) : RV A' t n := by
  obtain ⟨T1, T2, T3, T4, T5, T6⟩ := T
  have hr : ∀ k, rw_ h k < 31 ∧ 4 ≤ rw_ h k := fun k => by unfold rw_; omega
  have r1 : ∀ k j, A'.1 (rw_ h k) j = A.1 (rw_ h k) j := fun k j => T1 _ _ (by have := hr k; omega)
  refine ⟨w, s, ls, z, h, 1, g, ?_, ?_, ?_, ?_, hb', ?_⟩
  · unfold RVm at hm ⊢
    rw [T1 215 0 (by omega), T1 0 3 (by omega), T1 216 0 (by omega), T1 0 4 (by omega), T2 217 0 (by omega), T2 0 5 (by omega), T1 218 0 (by omega), T1 0 6 (by omega), T1 219 0 (by omega), T1 0 8 (by omega), T1 0 7 (by omega), T1 220 0 (by omega)]
    exact hm
  · unfold RVc at hc ⊢
    rw [T1 227 0 (by omega), T1 1 0 (by omega), T1 1 1 (by omega), T1 1 2 (by omega), T1 231 0 (by omega), T1 1 3 (by omega), T1 229 0 (by omega), T1 1 4 (by omega), T2 230 0 (by omega), T1 228 0 (by omega), T1 1 5 (by omega), T1 232 0 (by omega), T1 0 3 (by omega)]
    exact hc
  · obtain ⟨q1, q2, q3, q4, q5, q6, q7⟩ := hq
    refine ⟨by rw [T1 2 3 (by omega), T1 221 0 (by omega)]; exact q1, by rw [T1 2 1 (by omega)]; exact q2, by rw [T1 222 0 (by omega), T1 2 2 (by omega)]; exact q3, by rw [T1 223 0 (by omega), T1 2 4 (by omega)]; exact q4, ⟨by rw [T3, T4], .inr ⟨hz, by rw [T1 0 3 (by omega)]; exact hp, by rw [T1 0 4 (by omega)]; exact hl, .inr ⟨T3, rfl⟩⟩⟩, ⟨by rw [T5, T6], by omega, by omega, ?_⟩, fun k hk => ?_⟩
    · rw [T5, T1 2 2 (by omega), q6.2.2.2]
      show _ + nI 0 + 1 = _ + nI 1
      rw [Int32.add_assoc]
      rfl
    · rw [T1 2 2 (by omega), r1, r1, r1, r1, r1, r1, T1 225 _ (by omega), T1 225 _ (by omega), T1 225 _ (by omega), T1 225 _ (by omega), T1 225 _ (by omega), T1 225 _ (by omega), T2 226 _ (by omega)]
      exact q7 k hk
  · obtain ⟨kf, wf, op, a1, a2, a3, a4, a5, a6, b, b1, b2, b3⟩ := hs
    obtain ⟨x1, x2, x3, _⟩ := a1 0 hz
    have y1 : kf 0 = k0 := nI_inj (by omega) (by omega) (x2.symm.trans k2)
    have y2 : wf 0 = w0 := nI_inj (by have := a6 0 (by omega) hz; omega) (by omega) (x3.symm.trans k3)
    refine ⟨kf, wf, op, fun k hk => by rw [r1, r1, r1, r1, r1]; exact a1 k hk, fun k h1 h2 => a2 k (by omega) h2, a3, ?_, fun k h1 h2 => a5 k (by omega) h2, fun k h1 h2 => a6 k (by omega) h2, w0, k5, k4, fun k h1 h2 => ?_⟩
    · rw [k6, (a2 0 (by omega) hz).2, y1]
    · rw [← y2]
      exact mono_wh a5 k h2
  · exact hkk.same (fun o k ho => T1 o k (by omega))
/-- the message was taken before: only the answer is under way now -/
theorem RV.again {A : fw_S} {t n w s ls z h : Nat} {g : Int} (hm : RVm A t n w s ls) (hc : RVc A t s g) (hq : RVq A t w s z h 1) (hs : RVs A t w s z h 1) (hb : RVb A t w) (hkk : RVk A) (hz : 0 < z) (hp : A.1 0 3 = 1) (hl : A.1 0 4 = 1) : RV (fw_si (fw_si A 0 9 2) 224 0 2) t n := by
  have hr : ∀ k, rw_ h k < 31 ∧ 4 ≤ rw_ h k := fun k => by unfold rw_; omega
  have r0 : ∀ k a, 31 ≤ a → ¬ rw_ h k = a := fun k a _ => by have := hr k; omega
  have r2 : ∀ k, ¬ rw_ h k = 0 := fun k => by have := hr k; omega
  refine ⟨w, s, ls, z, h, 1, g, ?_, ?_, ?_, ?_, ?_, ?_⟩
  · unfold RVm at hm ⊢
    simpa [gi_i, gi_l] using hm
  · unfold RVc at hc ⊢
    simpa [gi_i, gi_l] using hc
  · obtain ⟨q1, q2, q3, q4, q5, q6, q7⟩ := hq
    refine ⟨by simpa [gi_i] using q1, by simpa [gi_i] using q2, by simpa [gi_i] using q3, by simpa [gi_i] using q4, ⟨by simp [gi_i], .inr ⟨hz, by simpa [gi_i] using hp, by simpa [gi_i] using hl, .inr ⟨by simp [gi_i], rfl⟩⟩⟩, by simpa [gi_i] using q6, by simpa [gi_i, gi_l, r0, r2] using q7⟩
  · unfold RVs at hs ⊢
    simpa [gi_i, gi_l, r0, r2] using hs
  · unfold RVb at hb ⊢
    simpa [gi_i, gi_l] using hb
  · unfold RVk at hkk ⊢
    simpa [gi_i, gi_l] using hkk
/-- the answer comes: the first message goes -/
def GO (A A' : fw_S) (z h : Nat) : Prop :=
  (∀ o k, ¬ (o = 2 ∨ (o = 0 ∧ k = 9) ∨ o = 221 ∨ o = 223 ∨ o = 224 ∨ o = 225) → A'.1 o k = A.1 o k) ∧ (∀ o k, ¬ o = 226 → A'.2 o k = A.2 o k) ∧ (A'.1 2 1 = nI ((h + 1) % 24) ∧ A'.1 2 3 = nI z ∧ A'.1 2 2 = A.1 2 2 ∧ A'.1 2 4 = -1 ∧ A'.1 0 9 = 0) ∧ (A'.1 221 0 = nI z ∧ A'.1 223 0 = -1 ∧ A'.1 224 0 = 0) ∧
  (∀ c, c < 6 * z → A'.1 225 c = A.1 225 (c + 6)) ∧ ∀ k, k < z → A'.2 226 k = A.2 226 (k + 1)
theorem RV.goes {A A' : fw_S} {t n w s ls z h : Nat} {g : Int} (hm : RVm A t n w s ls) (hc : RVc A t s g) (hq : RVq A t w s (z + 1) h 1) (hs : RVs A t w s (z + 1) h 1) (hb : RVb A t w) (hkk : RVk A) (G : GO A A' z h) : RV A' t n := by
  obtain ⟨T1, T2, ⟨G1, G2, G3, G4, G5⟩, ⟨G6, G7, G8⟩, G9, G10⟩ := G
  have hr : ∀ j k, rw_ j k < 31 ∧ 4 ≤ rw_ j k := fun j k => by unfold rw_; omega
  have rs : ∀ k, rw_ ((h + 1) % 24) k = rw_ h (k + 1) := fun k => by unfold rw_; omega
  have r1 : ∀ j k i, A'.1 (rw_ j k) i = A.1 (rw_ j k) i := fun j k i => T1 _ _ (by have := hr j k; omega)
  have hz := hq.1.2.2.1
  refine ⟨w, s, ls, z, (h + 1) % 24, 0, g, ?_, ?_, ?_, ?_, ?_, ?_⟩
  · unfold RVm at hm ⊢
    rw [T1 215 0 (by omega), T1 0 3 (by omega), T1 216 0 (by omega), T1 0 4 (by omega), T2 217 0 (by omega), T2 0 5 (by omega), T1 218 0 (by omega), T1 0 6 (by omega), T1 219 0 (by omega), T1 0 8 (by omega), T1 0 7 (by omega), T1 220 0 (by omega)]
    exact hm
  · unfold RVc at hc ⊢
    rw [T1 227 0 (by omega), T1 1 0 (by omega), T1 1 1 (by omega), T1 1 2 (by omega), T1 231 0 (by omega), T1 1 3 (by omega), T1 229 0 (by omega), T1 1 4 (by omega), T2 230 0 (by omega), T1 228 0 (by omega), T1 1 5 (by omega), T1 232 0 (by omega), T1 0 3 (by omega)]
    exact hc
  · obtain ⟨q1, q2, q3, q4, q5, q6, q7⟩ := hq
    refine ⟨⟨G2, G6, by omega, fun q => by have := q1.2.2.2 q; omega⟩, ⟨G1, by omega⟩, by rw [T1 222 0 (by omega), G3]; exact q3, ⟨by rw [G7, G4], .inl G4⟩, ⟨by rw [G8, G5], .inl G5⟩, ⟨by rw [T1 233 0 (by omega), T1 32 0 (by omega)]; exact q6.1, by omega, by omega, ?_⟩, fun k hk => ?_⟩
    · have e := q6.2.2.2
      have i : ∀ x : Int32, x - nI (z + 1) + nI 1 = x - nI z + nI 0 := fun x => by
        rw [← nI_1, show nI 1 = 1 from rfl, show nI 0 = 0 from rfl, Int32.add_zero, Int32.sub_eq_add_neg, Int32.neg_add, Int32.sub_eq_add_neg, Int32.sub_eq_add_neg, show x + (-nI z + -1) + 1 = x + -nI z + (-1 + 1) by ac_rfl]
        simp
      rw [T1 32 0 (by omega), G3, ← i]
      exact e
    · have e := q7 (k + 1) (by omega)
      have i : ∀ x : Int32, x - nI (z + 1) + nI (k + 1) = x - nI z + nI k := fun x => by
        rw [← nI_1, ← nI_1, Int32.sub_eq_add_neg, Int32.neg_add, Int32.sub_eq_add_neg, Int32.sub_eq_add_neg, show x + (-nI z + -1) + (nI k + 1) = x + -nI z + nI k + (-1 + 1) by ac_rfl]
        simp
      rw [i] at e
      rw [rs, r1, r1, r1, r1, r1, r1, G3, G9 _ (by omega), G9 _ (by omega), G9 _ (by omega), G9 _ (by omega), G9 _ (by omega), G9 _ (by omega), G10 k hk]
      rw [show 6 * (k + 1) = 6 * k + 6 by omega] at e
      rw [show 6 * k + 1 + 6 = 6 * k + 6 + 1 by omega, show 6 * k + 2 + 6 = 6 * k + 6 + 2 by omega, show 6 * k + 3 + 6 = 6 * k + 6 + 3 by omega, show 6 * k + 4 + 6 = 6 * k + 6 + 4 by omega, show 6 * k + 5 + 6 = 6 * k + 6 + 5 by omega]
      exact e
  · obtain ⟨kf, wf, op, a1, a2, a3, a4, a5, a6, b, b1, b2, b3⟩ := hs
    refine ⟨fun k => kf (k + 1), fun k => wf (k + 1), fun k => op (k + 1), fun k hk => ?_, fun k h1 h2 => a2 (k + 1) (by omega) (by omega), a3, by rw [T1 31 0 (by omega)]; exact a4, fun k h1 h2 => a5 (k + 1) (by omega) (by omega), fun k h1 h2 => a6 (k + 1) (by omega) (by omega), b, by rw [T1 31 5 (by omega)]; exact b1, b2, fun k h1 h2 => b3 (k + 1) (by omega) (by omega)⟩
    rw [rs, r1, r1, r1, r1, r1]
    exact a1 (k + 1) (by omega)
  · exact hb.same (fun o k ho => T1 o k (by omega)) (fun o k ho => T2 o k (by omega))
  · exact hkk.same (fun o k ho => T1 o k (by omega))
theorem RG.close {S S' : fw_S} {t n : Nat} (hn : n < 512) (g : RG S t n) (hi : ∀ a k, gcell a k → ¬ (a = 10 ∨ a = 241 ∨ (a = 2 ∧ k = 5) ∨ (a = 209 ∧ k = 35)) → S'.1 a k = S.1 a k) (h10 : ∀ k, k < 640 → S'.1 10 k = S'.1 241 k) (h11 : ∀ k, k < 16 → S'.2 11 k = S'.2 242 k) (hc : ∃ c, c ≤ n + 1 ∧ S'.1 2 5 = nI c ∧ S'.1 209 35 = nI c) : RG S' t (n + 1) := by
  obtain ⟨h1, h2, h3, h4, h5, h6, h7, c, h8⟩ := g
  refine ⟨?_, fun j hj => ?_, fun k hk => ?_, ?_, fun k hk => ?_, h10, h11, hc⟩
  · rw [hi 0 2 (by unfold gcell; omega) (by omega), hi 209 1 (by unfold gcell; omega) (by omega)]; exact ⟨h1.1, h1.2.1, by omega, by omega⟩
  · rw [hi (19 + 95 * j) 1 (by unfold gcell; omega) (by omega), hi 210 j (by unfold gcell; omega) (by omega)]; exact h2 j hj
  · rw [hi 7 k (by unfold gcell; omega) (by omega), hi 8 k (by unfold gcell; omega) (by omega), hi 211 k (by unfold gcell; omega) (by omega), hi 212 k (by unfold gcell; omega) (by omega)]; exact h3 k hk
  · rw [hi 6 2 (by unfold gcell; omega) (by omega), hi 6 3 (by unfold gcell; omega) (by omega), hi 209 5 (by unfold gcell; omega) (by omega), hi 209 6 (by unfold gcell; omega) (by omega)]; exact h4
  · rw [hi 4 k (by unfold gcell; omega) (by omega), hi 5 k (by unfold gcell; omega) (by omega), hi 213 k (by unfold gcell; omega) (by omega), hi 214 k (by unfold gcell; omega) (by omega)]; exact h5 k hk
theorem vw_ne {p : Nat} {S X : fw_S} (hp : p < 6) (h : ∀ a j, a ≠ 225 → X.1 a j = S.1 a j) {o k : Nat} (ho : o ≠ 225) : (vw p X).1 o k = (vw p S).1 o k := by
  have := pO_lt hp
  show (if o < 31 then _ else _) = (if o < 31 then _ else _)
  repeat' split
  all_goals first | rfl | (exact h _ _ (by omega)) | omega
theorem vw_nl {p : Nat} {S X : fw_S} (hp : p < 6) (h : ∀ a j, a ≠ 226 → X.2 a j = S.2 a j) {o k : Nat} (ho : o ≠ 226) : (vw p X).2 o k = (vw p S).2 o k := by
  have := pO_lt hp
  show (if o < 31 then _ else _) = (if o < 31 then _ else _)
  repeat' split
  all_goals first | rfl | (exact h _ _ (by omega)) | omega
theorem vw_shX {p z : Nat} {S : fw_S} (hp : p < 6) (hz : z ≤ 22) : vw p (shX S p (6 * z) z) = shX (vw p S) 0 (6 * z) z := by
  refine Prod.ext (funext fun o => funext fun k => ?_) (funext fun o => funext fun k => ?_)
  · rw [sh_i]
    by_cases ho : o = 225
    · subst ho
      by_cases hk : k < 144
      · rw [← vq_i hk, sh_i]
        by_cases h2 : k < 6 * z
        · rw [if_pos (by omega), if_pos (by omega), ← vq_i (by omega)]
          exact congrArg _ (by omega)
        · rw [if_neg (by omega), if_neg (by omega), ← vq_i hk]
      · rw [if_neg (by omega)]
        show (if k < 144 then _ else _) = (if k < 144 then _ else _)
        rw [if_neg hk, if_neg hk]
    · rw [if_neg (by omega)]
      exact vw_ne hp (fun a j ha => by rw [sh_i, if_neg (by omega)]) ho
  · rw [sh_l]
    by_cases ho : o = 226
    · subst ho
      by_cases hk : k < 24
      · rw [← vq_l hk, sh_l]
        by_cases h2 : k < z
        · rw [if_pos (by omega), if_pos (by omega), ← vq_l (by omega)]
          exact congrArg _ (by omega)
        · rw [if_neg (by omega), if_neg (by omega), ← vq_l hk]
      · rw [if_neg (by omega)]
        show (if k < 24 then _ else _) = (if k < 24 then _ else _)
        rw [if_neg hk, if_neg hk]
    · rw [if_neg (by omega)]
      exact vw_nl hp (fun a j ha => by rw [sh_l, if_neg (by omega)]) ho
theorem vwo_shX {p q z : Nat} {S : fw_S} (hp : p < 6) (hq : q < 6) (e : q ≠ p) (hz : z ≤ 22) : vw q (shX S p (6 * z) z) = vw q S := by
  have := pO_lt hq
  refine vw_eq (fun o k hf => ?_) (fun o k hf => ?_)
  · unfold foot at hf
    rw [sh_i, if_neg (by omega)]
  · unfold foot at hf
    rw [sh_l, if_neg (by omega)]
theorem price_c2 {S S' : fw_S} {t v : Nat} {post : fw_S → Int32 → Prop} (ht : t < 2 ^ 31) (hm : mnOk (S.1 7)) (h7 : ∀ k, k < 4 → S.1 7 k = S'.1 7 k) (h8 : ∀ k, k < 4 → S.1 8 k = S'.1 8 k) (hv : prAt (S.1 7) (S.1 8) t = nI v) (h : post S' (nI v)) : wp_Tariff_priceAt S' 6 (nI t) post := by
  refine price_c ht (fun k hk => by rw [← h7 k hk]; exact hm k hk) ?_
  rw [← prAt_eq hm h7 h8, hv]
  exact h
theorem price_m2 {S S' : fw_S} {t v : Nat} {post : fw_S → Int32 → Prop} (ht : t < 2 ^ 31) (hm : mnOk (S.1 7)) (h7 : ∀ k, k < 4 → S.1 7 k = S'.1 211 k) (h8 : ∀ k, k < 4 → S.1 8 k = S'.1 212 k) (hv : prAt (S.1 7) (S.1 8) t = nI v) (h : post S' (nI v)) : wp_M_priceAt S' 209 (nI t) post := by
  refine price_m ht (fun k hk => by rw [← h7 k hk]; exact hm k hk) ?_
  rw [← prAt_eq hm h7 h8, hv]
  exact h
theorem first_ex {S : fw_S} {o h : Nat} {post : fw_S → Nat → Prop} (h1 : S.1 (o + 2) 1 = nI h) (hh : h < 24) : wp_Queue_first S (o + 2) post = post S (o + rw_ h 0) := by
  have e1 : vp_in (nI h) 24 := vp_in_nI hh (by omega)
  have e2 : o + 2 + 1 + (1 + 1 * h) = o + rw_ h 0 := by unfold rw_; omega
  simp only [wp_Queue_first, h1, e1, nI_clamp (show h < 2 ^ 31 by omega), e2, true_and]
theorem firstn_ex {S : fw_S} {o z : Nat} {post : fw_S → Int32 → Prop} (h1 : S.1 (o + 2) 3 = nI z) (hz : 0 < z) (hz2 : z ≤ 23) : wp_Queue_firstNumber S (o + 2) post = post S (S.1 (o + 2) 2 - nI z) := by
  have e1 : ¬ nI z = 0 := nI_ne0 hz (by omega)
  simp [wp_Queue_firstNumber, wp_Queue_firstNumber_20, h1, e1]
