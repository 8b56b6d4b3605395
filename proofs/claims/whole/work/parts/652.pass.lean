theorem ite_iff {α : Type} {p q : Prop} [Decidable p] [Decidable q] (h : p ↔ q) (x y : α) : (if p then x else y) = (if q then x else y) := by
  by_cases hp : p
  · rw [if_pos hp, if_pos (h.mp hp)]
  · rw [if_neg hp, if_neg (fun c => hp (h.mpr c))]
theorem aq_l {cu i o k : Nat} {A : fw_S} (h : ¬ o = 217 ∧ ¬ o = 230) : (aq cu i A).2 o k = A.2 o k := by
  unfold aq
  split
  · rw [gl_l, if_neg (by omega), gl_l, if_neg (by omega)]
  · rfl
theorem RV.charge {A : fw_S} {t n m cu : Nat} (hn : n ≤ 512) (ht : t + m ≤ 86400 * n) (h : RV A t n) (hK : KC A t m cu) : RV (cv (cCh cu m (t + m) A) (mCh cu (t + (m - 1)) (aq cu (m - 1) A))) (t + m) n := by
  obtain ⟨⟨k0, k0', k1⟩, k2, k3, k4, k5⟩ := hK
  obtain ⟨rn, wt⟩ := h.rn hn
  by_cases hr : rnC A
  · obtain ⟨w, s, ls, z, hh, u, g, hm, hc, hq, hs, hb, hkk⟩ := h
    have hrm := rn.mpr hr
    have hs0 : s ≠ 0 := fun q => hr.1 (by rw [hm.2.2.2.1.2.1, q]; rfl)
    have hp1 : A.1 0 3 = 1 := by
      rcases hm.1.2 with q | q
      · exact absurd q hr.2
      · exact q
    have hh1 := hc.2.2.2.2.2.2 hs0 hp1
    obtain ⟨f1, ⟨gw, g1, g2, g3, g4⟩, f2, f3, f4, f5, f6⟩ := hc.2.2.2.1 hh1
    have he1 : 23 * cu * m ≤ 7360 * m := Nat.mul_le_mul_right _ (by omega)
    have he2 : 23 * cu * m = 23 * cu * (m - 1) + 23 * cu := by
      obtain ⟨m', rfl⟩ : ∃ m', m = m' + 1 := ⟨m - 1, by omega⟩
      exact Nat.mul_succ _ _
    have hw7 := hm.2.2.1.2.2
    have c05 : (fw_sl A 0 5 (A.2 0 5 + (nI (23 * cu * m)).toInt64)).1 = A.1 := rfl
    have w1 : A.2 0 5 + (nI (23 * cu * m)).toInt64 = lN (w + 23 * cu * m) := by rw [hm.2.2.1.2.1, nI_l (by omega), lN_add]
    have m1 : aq cu (m - 1 + 1) A = fw_sl (fw_sl A 217 0 (lN (w + 23 * cu * m))) 230 0 (Int64.ofInt (g - (23 * cu * m : Nat))) := by
      unfold aq
      rw [if_pos hrm, show m - 1 + 1 = m by omega, hm.2.2.1.1, lN_add, f3, of64_sub]
    have m2 : (aq cu (m - 1) A).2 230 0 = Int64.ofInt (g - (23 * cu * (m - 1) : Nat)) := by
      unfold aq
      rw [if_pos hrm, gl_l, if_pos ⟨rfl, rfl⟩, f3, of64_sub]
    have hC : cCh cu m (t + m) A = cEat (nI (23 * cu * m)) (nI (t + m)) (fw_sl A 0 5 (lN (w + 23 * cu * m))) := by
      unfold cCh
      rw [if_pos hr, w1]
    have c14 : A.1 1 4 - nI (23 * cu * m) = Int32.ofInt (g - (23 * cu * m : Nat)) := by rw [f2, of32_sub]
    have hM : mCh cu (t + (m - 1)) (aq cu (m - 1) A) = if (¬ g - (23 * cu * (m - 1) : Nat) ≤ 0) ∧ ¬ 0 < g - (23 * cu * m : Nat) then fw_si (fw_si (aq cu (m - 1 + 1) A) 231 0 1) 232 0 (nI (t + m)) else aq cu (m - 1 + 1) A := by
      unfold mCh
      rw [if_pos (aq_rn.mpr hrm), aq_step k1 hrm, show t + (m - 1) + 1 = t + m by omega]
      refine ite_iff ?_ _ _
      rw [lg_cmp_le, lg_cmp_gt, m2, cu64 k1, of64_sub]
      by_cases hf : A.1 1 1 = 0
      · have := k3 hr hf
        rw [f2, Int32.toInt_ofInt_of_le (by omega) (by omega)] at this
        rw [(of64 (by omega) (by omega)).1, (of64 (by omega) (by omega)).2]
        rw [show g - ((23 * cu * (m - 1) : Nat) : Int) - ((23 * cu : Nat) : Int) = g - ((23 * cu * m : Nat) : Int) by omega]
      · have c0 := k2 hr hf
        subst c0
        rw [(of64 (by omega) (by omega)).1, (of64 (by omega) (by omega)).2]
        rw [show g - ((23 * 0 * (m - 1) : Nat) : Int) - ((23 * 0 : Nat) : Int) = g - ((23 * 0 * m : Nat) : Int) by omega]
    have E : cEat (nI (23 * cu * m)) (nI (t + m)) (fw_sl A 0 5 (lN (w + 23 * cu * m))) = if A.1 1 1 = 0 ∧ ¬ (0 : Int32) < Int32.ofInt (g - (23 * cu * m : Nat)) then fw_si (fw_si (fw_si (fw_si (fw_sl A 0 5 (lN (w + 23 * cu * m))) 1 4 (Int32.ofInt (g - (23 * cu * m : Nat)))) 1 1 1) 1 5 (nI (t + m))) 1 2 0 else fw_si (fw_sl A 0 5 (lN (w + 23 * cu * m))) 1 4 (Int32.ofInt (g - (23 * cu * m : Nat))) := by
      unfold cEat
      rw [gl_i, gl_i, c14]
    rw [hC, hM, m1, E]
    have p32 : ∀ x : Int, -2000000000 ≤ x → x ≤ 2000000000 → ((0 : Int32) < Int32.ofInt x ↔ 0 < x) := fun x h1 h2 => by
      rw [Int32.lt_iff_toInt_lt, Int32.toInt_ofInt_of_le (by omega) (by omega)]
      exact Iff.rfl
    by_cases hf : A.1 1 1 = 0
    · have hg := k3 hr hf
      rw [f2, Int32.toInt_ofInt_of_le (by omega) (by omega)] at hg
      obtain ⟨v, hv, v1, v2⟩ := hc.2.2.2.2.1 hh1 hf
      by_cases hg' : 0 < g - (23 * cu * m : Nat)
      · rw [if_neg (fun q => q.2 ((p32 _ (by omega) (by omega)).mpr hg')), if_neg (fun q => q.2 hg')]
        refine RV.chg (w' := w + 23 * cu * m) (g' := g - (23 * cu * m : Nat)) hm hq hs hb hkk (by omega) (fun o k ho => ?_) (fun o k ho => ?_) (by simp [cv_l, gi_l, gl_l]) (by simp [cv_l, gi_l, gl_l]) (by omega) (by omega) ?_
        · rw [cv_i]
          split
          · rw [gi_i, if_neg (by omega), gl_i]
          · rw [gl_i, gl_i]
        · rw [cv_l]
          split
          · rw [gi_l, gl_l, if_neg (by omega)]
          · rw [gl_l, if_neg (by omega), gl_l, if_neg (by omega)]
        · refine ⟨by simpa [cv_i, gi_i, gl_i] using hc.1, by simpa [cv_i, gi_i, gl_i] using hc.2.1, by simpa [cv_i, gi_i, gl_i] using hc.2.2.1, fun _ => ⟨by simpa [cv_i, gi_i, gl_i] using f1, ⟨gw, g1, g2, by simpa [cv_i, gi_i, gl_i] using g3, by simpa [cv_i, gi_i, gl_i] using g4⟩, by simp [cv_i, gi_i, gl_i], by simp [cv_l, gl_l], by omega, by omega, ?_⟩, fun _ _ => ⟨v, hv, by simpa [cv_i, gi_i, gl_i] using v1, by simpa [cv_i, gi_i, gl_i] using v2⟩, fun q => ?_, fun _ _ => by simpa [cv_i, gi_i, gl_i] using hh1⟩
          · rw [cv_i, if_pos (by omega), gi_i, if_neg (by omega), gl_i, hf]
            exact ⟨fun q => absurd q (by decide), fun q => by omega⟩
          · simp [cv_i, gi_i, gl_i, hf] at q
      · rw [if_pos ⟨hf, fun q => hg' ((p32 _ (by omega) (by omega)).mp q)⟩, if_pos ⟨by omega, hg'⟩]
        refine RV.chg (w' := w + 23 * cu * m) (g' := g - (23 * cu * m : Nat)) hm hq hs hb hkk (by omega) (fun o k ho => ?_) (fun o k ho => ?_) (by simp [cv_l, gi_l, gl_l]) (by simp [cv_l, gi_l, gl_l]) (by omega) (by omega) ?_
        · rw [cv_i]
          split
          · rw [gi_i, if_neg (by omega), gi_i, if_neg (by omega), gi_i, if_neg (by omega), gi_i, if_neg (by omega), gl_i]
          · rw [gi_i, if_neg (by omega), gi_i, if_neg (by omega), gl_i, gl_i]
        · rw [cv_l]
          split
          · rw [gi_l, gi_l, gi_l, gi_l, gl_l, if_neg (by omega)]
          · rw [gi_l, gi_l, gl_l, if_neg (by omega), gl_l, if_neg (by omega)]
        · refine ⟨by simpa [cv_i, gi_i, gl_i] using hc.1, .inr (by simp [cv_i, gi_i, gl_i]), fun q => ?_, fun _ => ⟨by simp [cv_i, gi_i, gl_i], ⟨gw, g1, g2, by simpa [cv_i, gi_i, gl_i] using g3, by simpa [cv_i, gi_i, gl_i] using g4⟩, by simp [cv_i, gi_i, gl_i], by simp [cv_l, gi_l, gl_l], by omega, by omega, ?_⟩, fun _ q => ?_, fun _ => ⟨by simp [cv_i, gi_i, gl_i], t + m, by omega, by simp [cv_i, gi_i, gl_i], by simp [cv_i, gi_i, gl_i]⟩, fun _ _ => by simpa [cv_i, gi_i, gl_i] using hh1⟩
          · simp [cv_i, gi_i, gl_i, hh1] at q
          · exact ⟨fun _ => by omega, fun _ => by simp [cv_i, gi_i, gl_i]⟩
          · simp [cv_i, gi_i, gl_i] at q
    · have c0 := k2 hr hf
      subst c0
      have hf1 : A.1 1 1 = 1 := by
        rcases hc.2.1 with q | q
        · exact absurd q hf
        · exact q
      have g0 : g ≤ 0 := f6.mp hf1
      obtain ⟨v1, fs, hfs, v2, v3⟩ := hc.2.2.2.2.2.1 hf1
      rw [if_neg (fun q => hf q.1), if_neg (fun q => q.1 (by omega))]
      have z1 : 23 * 0 * m = 0 := by omega
      rw [z1]
      have z2 : g - ((0 : Nat) : Int) = g := by omega
      rw [z2]
      refine RV.chg (w' := w + 0) (g' := g) hm hq hs hb hkk (by omega) (fun o k ho => ?_) (fun o k ho => ?_) (by simp [cv_l, gi_l, gl_l]) (by simp [cv_l, gi_l, gl_l]) (by omega) (by omega) ?_
      · rw [cv_i]
        split
        · rw [gi_i, if_neg (by omega), gl_i]
        · rw [gl_i, gl_i]
      · rw [cv_l]
        split
        · rw [gi_l, gl_l, if_neg (by omega)]
        · rw [gl_l, if_neg (by omega), gl_l, if_neg (by omega)]
      · refine ⟨by simpa [cv_i, gi_i, gl_i] using hc.1, by simpa [cv_i, gi_i, gl_i] using hc.2.1, by simpa [cv_i, gi_i, gl_i] using hc.2.2.1, fun _ => ⟨by simpa [cv_i, gi_i, gl_i] using f1, ⟨gw, g1, g2, by simpa [cv_i, gi_i, gl_i] using g3, by simpa [cv_i, gi_i, gl_i] using g4⟩, by simp [cv_i, gi_i, gl_i], by simp [cv_l, gl_l], by omega, by omega, by simpa [cv_i, gi_i, gl_i] using f6⟩, fun _ q => ?_, fun _ => ⟨by simpa [cv_i, gi_i, gl_i] using v1, fs, by omega, by simpa [cv_i, gi_i, gl_i] using v2, by simpa [cv_i, gi_i, gl_i] using v3⟩, fun _ _ => by simpa [cv_i, gi_i, gl_i] using hh1⟩
        simp [cv_i, gi_i, gl_i, hf1] at q
  · have hrm : ¬ rnM A := fun q => hr (rn.mp q)
    have e1 : cCh cu m (t + m) A = A := by
      unfold cCh
      rw [if_neg hr]
    have e2 : mCh cu (t + (m - 1)) (aq cu (m - 1) A) = A := by
      have : aq cu (m - 1) A = A := by
        unfold aq
        rw [if_neg hrm]
      rw [this]
      unfold mCh
      rw [if_neg hrm]
    rw [e1, e2, cv_self]
    exact h.tm (by omega)
theorem RV.read {A : fw_S} {t n : Nat} (hn : n ≤ 512) (ht : t ≤ 86400 * n) (h : RV A t n) : RV (mRd t (cRd t A)) t n := by
  obtain ⟨rn, -⟩ := h.rn hn
  obtain ⟨w, s, ls, z, hh, u, g, hm, hc, hq, hs, hb, hkk⟩ := id h
  have hz := hq.1.2.2.1
  have e1 := hq.1.1
  have e2 := hq.1.2.1
  by_cases hC : t % 60 = 0 ∧ rnC A ∧ ¬ (22 : Int32) ≤ A.1 2 3
  · have cz : (nI z).toNatClampNeg = z := nI_clamp (by omega)
    have ch : (nI hh).toNatClampNeg = hh := nI_clamp (by have := hq.2.1.2; omega)
    have hw := wh_ok hm.2.2.1.2.2 ht hn
    have a1 : cRd t A = tellS 0 (rw_ hh z) A 1 (nI t) (nI (w / 3600)) 0 := by
      unfold cRd
      rw [if_pos hC, e1, hq.2.1.1, cz, ch, hm.2.2.1.2.1, hw.1]
    have t21 : (tellS 0 (rw_ hh z) A 1 (nI t) (nI (w / 3600)) 0).1 221 0 = nI z := by rw [tell0_i (by omega)]; exact e2
    have hrm : rnM (tellS 0 (rw_ hh z) A 1 (nI t) (nI (w / 3600)) 0) := by
      have := rn.mpr hC.2.1
      unfold rnM at this ⊢
      rw [tell0_i (by omega), tell0_i (by omega)]
      exact this
    have hz22 : z < 22 := by
      refine Classical.byContradiction fun q => hC.2.2 ?_
      rw [e1]
      exact nI_le (a := 22) (by omega) (by omega)
    rw [a1]
    unfold mRd
    rw [if_pos ⟨hC.1, hrm, by rw [t21]; exact nI_ge (b := 22) hz22 (by omega)⟩, t21, cz]
    have hs0 : s ≠ 0 := fun q => hC.2.1.1 (by rw [hm.2.2.2.1.2.1, q]; rfl)
    obtain ⟨k1, c, hc16, k2⟩ := hm.2.2.2.2.2 hs0
    have hP : PUT A (mputS 0 (6 * z) z (tellS 0 (rw_ hh z) A 1 (nI t) (nI (w / 3600)) 0) 2 (nI t) 0) hh z 1 t (w / 3600) 0 c := by
      refine PUT.mk (A1 := A) (B := tellS 0 (rw_ hh z) A 1 (nI t) (nI (w / 3600)) 0) hz (fun _ _ _ => rfl) (fun _ => rfl) (fun a k hq => rfl) (fun k => rfl) (fun a k hq => rfl) (fun k => rfl) ?_ ?_ k2 ?_ hq.2.2.1
      · rw [tell0_i (by omega)]
        exact hm.2.2.2.1.1.trans hm.2.2.2.1.2.1.symm
      · rw [tell0_i (by omega)]
        exact k1.trans k2
      · rw [tell_l, hm.2.2.1.1]
        exact hw.2
    have hu := hq.2.2.2.2.2.1.2.2.1
    have T1 : ∀ o k, ¬ (o = 2 ∨ (4 ≤ o ∧ o < 28) ∨ o = 221 ∨ o = 222 ∨ o = 225) → (mputS 0 (6 * z) z (tellS 0 (rw_ hh z) A 1 (nI t) (nI (w / 3600)) 0) 2 (nI t) 0).1 o k = A.1 o k := fun o k ho => by
      rw [mput_i (by omega), tell0_i (by omega)]
    have T2 : ∀ o k, ¬ o = 226 → (mputS 0 (6 * z) z (tellS 0 (rw_ hh z) A 1 (nI t) (nI (w / 3600)) 0) 2 (nI t) 0).2 o k = A.2 o k := fun o k ho => by
      rw [mput_l ho, tell_l]
    refine ⟨w, s, ls, z + 1, hh, u, g, ?_, ?_, hq.put hP (by omega) (fun _ => by omega), hs.put hu hP (by omega) hc16 (by omega) rfl (by omega) (by omega), hb.same (fun o k ho => T1 o k (by omega)) (fun o k ho => T2 o k (by omega)), hkk.same (fun o k ho => T1 o k (by omega))⟩
    · unfold RVm at hm ⊢
      rw [T1 215 0 (by omega), T1 0 3 (by omega), T1 216 0 (by omega), T1 0 4 (by omega), T2 217 0 (by omega), T2 0 5 (by omega), T1 218 0 (by omega), T1 0 6 (by omega), T1 219 0 (by omega), T1 0 8 (by omega), T1 0 7 (by omega), T1 220 0 (by omega)]
      exact hm
    · unfold RVc at hc ⊢
      rw [T1 227 0 (by omega), T1 1 0 (by omega), T1 1 1 (by omega), T1 1 2 (by omega), T1 231 0 (by omega), T1 1 3 (by omega), T1 229 0 (by omega), T1 1 4 (by omega), T2 230 0 (by omega), T1 228 0 (by omega), T1 1 5 (by omega), T1 232 0 (by omega), T1 0 3 (by omega)]
      exact hc
  · have a1 : cRd t A = A := by
      unfold cRd
      rw [if_neg hC]
    rw [a1]
    unfold mRd
    rw [if_neg]
    · exact h
    · rintro ⟨q1, q2, q3⟩
      exact hC ⟨q1, rn.mp q2, by rw [e1, ← e2]; exact q3⟩
theorem RV.send {A : fw_S} {t n : Nat} (hn : n ≤ 512) (ht : t ≤ 86400 * n) (h : RV A t n) : RV (mSd t (cSd t A)) t n := by
  obtain ⟨-, wt⟩ := h.rn hn
  obtain ⟨w, s, ls, z, hh, u, g, hm, hc, hq, hs, hb, hkk⟩ := id h
  have e3 := hq.2.2.2.1.1
  have due : (A.1 223 0 < 0 ∨ ¬ nI t - A.1 223 0 < 20) ↔ (A.1 2 4 = -1 ∨ ¬ nI t < A.1 2 4 + 20) := by
    rw [e3]
    rcases hq.2.2.2.1.2 with q | ⟨a, ha, q⟩
    · rw [q]
      exact ⟨fun _ => .inl rfl, fun _ => .inl (by decide)⟩
    · rw [q, pk_sub ha, show nI a + 20 = nI (a + 20) from nI_add a 20]
      constructor
      · rintro (r | r)
        · exact absurd r (nI_pos (by omega))
        · refine .inr (fun r2 => r (nI_lt (b := 20) ?_ (by omega)))
          have := (nI_ltI (a := t) (b := a + 20) (by omega) (by omega)).mp r2
          omega
      · rintro (r | r)
        · exact absurd r (nIm1 (by omega))
        · refine .inr (fun r2 => r (nI_lt ?_ (by omega)))
          have := (nI_ltI (a := t - a) (b := 20) (by omega) (by omega)).mp r2
          omega
  by_cases hC : wtC A ∧ (A.1 2 4 = -1 ∨ ¬ nI t < A.1 2 4 + 20)
  · have a1 : cSd t A = fw_si (fw_si A 2 4 (nI t)) 0 9 1 := by
      unfold cSd
      rw [if_pos hC]
    rw [a1]
    have hM : wtM (fw_si (fw_si A 2 4 (nI t)) 0 9 1) ∧ ((fw_si (fw_si A 2 4 (nI t)) 0 9 1).1 223 0 < 0 ∨ ¬ nI t - (fw_si (fw_si A 2 4 (nI t)) 0 9 1).1 223 0 < 20) := ⟨wt.mpr hC.1, due.mpr hC.2⟩
    unfold mSd
    rw [if_pos hM]
    have T1 : ∀ o k, ¬ ((o = 2 ∧ k = 4) ∨ (o = 0 ∧ k = 9) ∨ o = 223 ∨ o = 224) → (fw_si (fw_si (fw_si (fw_si A 2 4 (nI t)) 0 9 1) 224 0 1) 223 0 (nI t)).1 o k = A.1 o k := fun o k ho => by
      rw [gi_i, if_neg (by omega), gi_i, if_neg (by omega), gi_i, if_neg (by omega), gi_i, if_neg (by omega)]
    have hr : ∀ k, rw_ hh k < 31 ∧ 4 ≤ rw_ hh k := fun k => by unfold rw_; omega
    have r1 : ∀ k j, (fw_si (fw_si (fw_si (fw_si A 2 4 (nI t)) 0 9 1) 224 0 1) 223 0 (nI t)).1 (rw_ hh k) j = A.1 (rw_ hh k) j := fun k j => T1 _ _ (by have := hr k; omega)
    obtain ⟨h1, h2, h3, h4⟩ := hC.1
    have hp1 : A.1 0 3 = 1 := by
      rcases hm.1.2 with q | q
      · exact absurd q h1
      · exact q
    have hl1 : A.1 0 4 = 1 := by
      rcases hm.2.1.2 with q | q
      · exact absurd q h2
      · exact q
    have hz0 : 0 < z := by
      rw [hq.1.1] at h3
      rcases Nat.eq_zero_or_pos z with q | q
      · rw [q] at h3; exact absurd (by decide) h3
      · exact q
    refine ⟨w, s, ls, z, hh, u, g, ?_, ?_, ?_, ?_, hb.same (fun o k ho => T1 o k (by omega)) (fun o k ho => rfl), hkk.same (fun o k ho => T1 o k (by omega))⟩
    · unfold RVm at hm ⊢
      rw [T1 215 0 (by omega), T1 0 3 (by omega), T1 216 0 (by omega), T1 0 4 (by omega), T1 218 0 (by omega), T1 0 6 (by omega), T1 219 0 (by omega), T1 0 8 (by omega), T1 0 7 (by omega), T1 220 0 (by omega)]
      exact hm
    · unfold RVc at hc ⊢
      rw [T1 227 0 (by omega), T1 1 0 (by omega), T1 1 1 (by omega), T1 1 2 (by omega), T1 231 0 (by omega), T1 1 3 (by omega), T1 229 0 (by omega), T1 1 4 (by omega), T1 228 0 (by omega), T1 1 5 (by omega), T1 232 0 (by omega), T1 0 3 (by omega)]
      exact hc
    · obtain ⟨q1, q2, q3, q4, q5, q6, q7⟩ := hq
      refine ⟨by rw [T1 2 3 (by omega), T1 221 0 (by omega)]; exact q1, by rw [T1 2 1 (by omega)]; exact q2, by rw [T1 222 0 (by omega), T1 2 2 (by omega)]; exact q3, ⟨by simp [gi_i], .inr ⟨t, by omega, by simp [gi_i]⟩⟩, ⟨by simp [gi_i], .inr ⟨hz0, by rw [T1 0 3 (by omega)]; exact hp1, by rw [T1 0 4 (by omega)]; exact hl1, .inl (by simp [gi_i])⟩⟩, by rw [T1 233 0 (by omega), T1 32 0 (by omega), T1 2 2 (by omega)]; exact q6, fun k hk => ?_⟩
      rw [T1 2 2 (by omega), r1, r1, r1, r1, r1, r1, T1 225 _ (by omega), T1 225 _ (by omega), T1 225 _ (by omega), T1 225 _ (by omega), T1 225 _ (by omega), T1 225 _ (by omega)]
      exact q7 k hk
    · obtain ⟨kf, wf, op, a1, a2, a3, a4, a5, a6, b, b1, b2, b3⟩ := hs
      exact ⟨kf, wf, op, fun k hk => by rw [r1, r1, r1, r1, r1]; exact a1 k hk, a2, a3, by rw [T1 31 0 (by omega)]; exact a4, a5, a6, b, by rw [T1 31 5 (by omega)]; exact b1, b2, b3⟩
  · have a1 : cSd t A = A := by
      unfold cSd
      rw [if_neg hC]
    rw [a1]
    unfold mSd
    rw [if_neg]
    · exact h
    · rintro ⟨q1, q2⟩
      exact hC ⟨wt.mp q1, due.mp q2⟩
/-- a stretch of time, in a point's view -/
theorem RV.step {A : fw_S} {t n m cu : Nat} (hn : n ≤ 512) (ht : t + m ≤ 86400 * n) (h : RV A t n) (hK : KC A t m cu) : RV (cv (cStep cu m t A) (mIter cu t m A)) (t + m) n := by
  have h1 := h.charge hn ht hK
  have h2 := h1.read hn ht
  have h3 := h2.send hn ht
  obtain ⟨m', rfl⟩ : ∃ m', m = m' + 1 := ⟨m - 1, by have := hK.1.1; omega⟩
  have e : mIter cu t (m' + 1) A = mSd (t + (m' + 1)) (mRd (t + (m' + 1)) (mCh cu (t + m') (aq cu m' A))) := by
    rw [mIter, quiet hn ht h hK m' (by omega)]
    rfl
  rw [cRd_cv, mRd_cv, cSd_cv, mSd_cv] at h3
  rw [e]
  exact h3
