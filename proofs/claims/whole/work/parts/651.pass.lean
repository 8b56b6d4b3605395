theorem RVq.tm {A : fw_S} {t t' w w' s z h u : Nat} (ht : t ≤ t') (q : RVq A t w s z h u) : RVq A t' w' s z h u := by
  obtain ⟨q1, q2, q3, ⟨q4, q4'⟩, q5⟩ := q
  refine ⟨q1, q2, q3, ⟨q4, ?_⟩, q5⟩
  rcases q4' with q | ⟨a, h1, h2⟩
  · exact .inl q
  · exact .inr ⟨a, by omega, h2⟩
theorem RVs.tm {A : fw_S} {t t' w w' s z h u : Nat} (ht : t ≤ t') (hw : w ≤ w') (q : RVs A t w s z h u) : RVs A t' w' s z h u := by
  obtain ⟨kf, wf, op, a1, a2, a3, a4, a5, a6, b, b1, b2, b3⟩ := q
  refine ⟨kf, wf, op, fun k hk => ?_, a2, a3, a4, a5, fun k h1 h2 => Nat.le_trans (a6 k h1 h2) hw, b, b1, by omega, b3⟩
  obtain ⟨q1, q2, q3, q4, ⟨a, q5, q6⟩, i, q7, q8⟩ := a1 k hk
  exact ⟨q1, q2, q3, q4, ⟨a, by omega, q6⟩, i, by omega, q8⟩
theorem RVb.tm {A : fw_S} {t t' w w' : Nat} (ht : t ≤ t') (hw : w ≤ w') (q : RVb A t w) : RVb A t' w' := by
  obtain ⟨q1, q2, q3, q4, ⟨a, q5, q6⟩, b, f, r1, r2, r3, r4, r5, r6, r7⟩ := q
  exact ⟨q1, q2, q3, q4, ⟨a, by omega, q6⟩, b, f, r1, r2, r3, r4, r5, by omega, r7⟩
theorem RVc.tm {A : fw_S} {t t' s : Nat} {g : Int} (ht : t ≤ t') (q : RVc A t s g) : RVc A t' s g := by
  obtain ⟨c1, c2, c3, c4, c5, c6, c7⟩ := q
  refine ⟨c1, c2, c3, c4, c5, fun e => ?_, c7⟩
  obtain ⟨q1, fs, q2, q3⟩ := c6 e
  exact ⟨q1, fs, by omega, q3⟩
theorem RVm.tm {A : fw_S} {t t' n w s ls : Nat} (ht : t ≤ t') (q : RVm A t n w s ls) : RVm A t' n w s ls := by
  obtain ⟨m1, m2, ⟨m3, m4, m5⟩, m6⟩ := q
  exact ⟨m1, m2, ⟨m3, m4, by omega⟩, m6⟩
theorem RV.tm {A : fw_S} {t t' n : Nat} (ht : t ≤ t') (h : RV A t n) : RV A t' n := by
  obtain ⟨w, s, ls, z, h, u, g, hm, hc, hq, hs, hb, hkk⟩ := h
  exact ⟨w, s, ls, z, h, u, g, hm.tm ht, hc.tm ht, hq.tm ht, hs.tm ht (Nat.le_refl _), hb.tm ht (Nat.le_refl _), hkk⟩
/-- the meter and the car changed, all else stayed -/
theorem RV.chg {A B : fw_S} {t t' n w w' s ls z h u : Nat} {g' : Int} (hm : RVm A t n w s ls) (hq : RVq A t w s z h u) (hs : RVs A t w s z h u) (hb : RVb A t w) (hkk : RVk A) (ht : t ≤ t') (T1 : ∀ o k, ¬ (o = 1 ∨ o = 231 ∨ o = 232) → B.1 o k = A.1 o k) (T2 : ∀ o k, ¬ ((o = 0 ∧ k = 5) ∨ o = 217 ∨ o = 230) → B.2 o k = A.2 o k)
    (w1 : B.2 0 5 = lN w') (w2 : B.2 217 0 = lN w') (w3 : w ≤ w') (w4 : w' ≤ 7360 * t') (hc : RVc B t' s g') : RV B t' n := by
  have hr : ∀ k, rw_ h k < 31 ∧ 4 ≤ rw_ h k := fun k => by unfold rw_; omega
  have r1 : ∀ k j, B.1 (rw_ h k) j = A.1 (rw_ h k) j := fun k j => T1 _ _ (by have := hr k; omega)
  refine ⟨w', s, ls, z, h, u, g', ?_, hc, ?_, ?_, (hb.tm ht w3).same (fun o k ho => T1 o k (by omega)) (fun o k ho => T2 o k (by omega)), hkk.same (fun o k ho => T1 o k (by omega))⟩
  · obtain ⟨m1, m2, m3, m4⟩ := hm
    refine ⟨by rw [T1 215 0 (by omega), T1 0 3 (by omega)]; exact m1, by rw [T1 216 0 (by omega), T1 0 4 (by omega)]; exact m2, ⟨w2, w1, w4⟩, ?_⟩
    rw [T1 218 0 (by omega), T1 0 6 (by omega), T1 219 0 (by omega), T1 0 8 (by omega), T1 0 7 (by omega), T1 220 0 (by omega)]
    exact m4
  · obtain ⟨q1, q2, q3, q4, q5, q6, q7⟩ := hq.tm (w' := w') ht
    refine ⟨by rw [T1 2 3 (by omega), T1 221 0 (by omega)]; exact q1, by rw [T1 2 1 (by omega)]; exact q2, by rw [T1 222 0 (by omega), T1 2 2 (by omega)]; exact q3, by rw [T1 223 0 (by omega), T1 2 4 (by omega)]; exact q4, by rw [T1 224 0 (by omega), T1 0 9 (by omega), T1 0 3 (by omega), T1 0 4 (by omega)]; exact q5, by rw [T1 233 0 (by omega), T1 32 0 (by omega), T1 2 2 (by omega)]; exact q6, fun k hk => ?_⟩
    rw [T1 2 2 (by omega), r1, r1, r1, r1, r1, r1, T1 225 _ (by omega), T1 225 _ (by omega), T1 225 _ (by omega), T1 225 _ (by omega), T1 225 _ (by omega), T1 225 _ (by omega), T2 226 _ (by omega)]
    exact q7 k hk
  · obtain ⟨kf, wf, op, a1, a2, a3, a4, a5, a6, b, b1, b2, b3⟩ := hs.tm ht w3
    exact ⟨kf, wf, op, fun k hk => by rw [r1, r1, r1, r1, r1]; exact a1 k hk, a2, a3, by rw [T1 31 0 (by omega)]; exact a4, a5, a6, b, by rw [T1 31 5 (by omega)]; exact b1, b2, b3⟩
/-! running and waiting are the same on both sides -/
theorem RV.rn {A : fw_S} {t n : Nat} (hn : n ≤ 512) (h : RV A t n) : (rnM A ↔ rnC A) ∧ (wtM A ↔ wtC A) := by
  obtain ⟨w, s, ls, z, h, u, g, hm, hc, hq, -⟩ := h
  have e1 := hm.2.2.2.1.1
  have e2 := hm.2.2.2.1.2.1
  have hs : s ≤ 512 := by have := hm.2.2.2.1; omega
  refine ⟨?_, ?_⟩
  · unfold rnM rnC
    rw [hm.1.1, e1, e2]
    rcases Nat.eq_zero_or_pos s with rfl | q
    · exact ⟨fun x => absurd (by decide) x.1, fun x => absurd rfl x.1⟩
    · exact ⟨fun x => ⟨nI_ne0 q (by omega), x.2⟩, fun x => ⟨nI_nle q (by omega), x.2⟩⟩
  · unfold wtM wtC
    rw [hm.1.1, hm.2.1.1, hq.1.1, hq.1.2.1, hq.2.2.2.2.1.1]
/-- how long nothing happens but growth: m seconds from t on, at the current cu -/
def KC (A : fw_S) (t m cu : Nat) : Prop :=
  (1 ≤ m ∧ m ≤ 86400 ∧ cu ≤ 320) ∧ (rnC A → ¬ A.1 1 1 = 0 → cu = 0) ∧ (rnC A → A.1 1 1 = 0 → ((23 * cu * (m - 1) : Nat) : Int) < (A.1 1 4).toInt) ∧
  (rnC A → (¬ (22 : Int32) ≤ A.1 2 3 → t % 60 + m ≤ 60) ∧ t % 900 + m ≤ 900) ∧ (wtC A → (A.1 2 4 = -1 → m = 1) ∧ ∀ a, a ≤ t → A.1 2 4 = nI a → m = 1 ∨ t + m ≤ a + 20)
def aq (cu i : Nat) (A : fw_S) : fw_S := if rnM A then fw_sl (fw_sl A 217 0 (A.2 217 0 + lN (23 * cu * i))) 230 0 (A.2 230 0 - lN (23 * cu * i)) else A
theorem sl_same {A : fw_S} {o k : Nat} {v : Int64} (h : A.2 o k = v) : fw_sl A o k v = A := by
  refine Prod.ext rfl (funext fun a => funext fun j => ?_)
  rw [gl_l]
  by_cases e : a = o ∧ j = k
  · rw [if_pos e, e.1, e.2, h]
  · rw [if_neg e]
theorem sl_over {A : fw_S} {a b : Nat} {x y x' y' : Int64} (h : a ≠ b) : fw_sl (fw_sl (fw_sl (fw_sl A a 0 x) b 0 y) a 0 x') b 0 y' = fw_sl (fw_sl A a 0 x') b 0 y' := by
  refine Prod.ext rfl (funext fun o => funext fun k => ?_)
  by_cases e1 : o = b ∧ k = 0
  · obtain ⟨rfl, rfl⟩ := e1
    simp [gl_l]
  · by_cases e2 : o = a ∧ k = 0
    · obtain ⟨rfl, rfl⟩ := e2
      simp [gl_l, h]
    · simp only [gl_l, e1, e2, if_false]
theorem aq0 (cu : Nat) (A : fw_S) : aq cu 0 A = A := by
  unfold aq
  by_cases h : rnM A
  · rw [if_pos h, Nat.mul_zero]
    have e1 : A.2 217 0 + lN 0 = A.2 217 0 := by rw [show lN 0 = 0 from rfl]; simp
    have e2 : A.2 230 0 - lN 0 = A.2 230 0 := by rw [show lN 0 = 0 from rfl]; simp
    rw [e1, sl_same (A := A) rfl, e2, sl_same rfl]
  · rw [if_neg h]
theorem cu64 {cu : Nat} (h : cu ≤ 320) : 23 * (nI cu).toInt64 = lN (23 * cu) := by
  rw [nI_l (by omega)]
  exact lN_mul 23 cu
theorem i64_sbl (x : Int64) (a b : Nat) : x - lN a - lN b = x - lN (a + b) := by
  rw [← lN_add, Int64.sub_eq_add_neg, Int64.sub_eq_add_neg, Int64.sub_eq_add_neg, Int64.neg_add, Int64.sub_eq_add_neg, Int64.add_assoc]
theorem aq_step {cu i : Nat} {A : fw_S} (hc : cu ≤ 320) (hr : rnM A) : fw_sl (fw_sl (aq cu i A) 217 0 ((aq cu i A).2 217 0 + 23 * (nI cu).toInt64)) 230 0 ((aq cu i A).2 230 0 - 23 * (nI cu).toInt64) = aq cu (i + 1) A := by
  rw [cu64 hc]
  unfold aq
  rw [if_pos hr, if_pos hr]
  have e1 : (fw_sl (fw_sl A 217 0 (A.2 217 0 + lN (23 * cu * i))) 230 0 (A.2 230 0 - lN (23 * cu * i))).2 217 0 = A.2 217 0 + lN (23 * cu * i) := by simp [gl_l]
  have e2 : (fw_sl (fw_sl A 217 0 (A.2 217 0 + lN (23 * cu * i))) 230 0 (A.2 230 0 - lN (23 * cu * i))).2 230 0 = A.2 230 0 - lN (23 * cu * i) := by simp [gl_l]
  rw [e1, e2, sl_over (by omega), Int64.add_assoc, lN_add, i64_sbl, Nat.mul_succ]
theorem aq_i {cu i : Nat} {A : fw_S} : (aq cu i A).1 = A.1 := by
  unfold aq
  split <;> rfl
theorem aq_rn {cu i : Nat} {A : fw_S} : rnM (aq cu i A) ↔ rnM A := by
  unfold rnM
  rw [aq_i]
theorem of64 {x : Int} (h1 : -2000000000 ≤ x) (h2 : x ≤ 2000000000) : (Int64.ofInt x ≤ 0 ↔ x ≤ 0) ∧ ((0 : Int64) < Int64.ofInt x ↔ 0 < x) := by
  have e : (Int64.ofInt x).toInt = x := Int64.toInt_ofInt_of_le (by omega) (by omega)
  have z : (0 : Int64).toInt = 0 := by decide
  rw [Int64.le_iff_toInt_le, Int64.lt_iff_toInt_lt, e, z]
  exact ⟨Iff.rfl, Iff.rfl⟩
theorem of64_sub (g : Int) (a : Nat) : Int64.ofInt g - lN a = Int64.ofInt (g - a) := by
  rw [Int64.ofInt_sub]
  rfl
theorem of32_sub (g : Int) (a : Nat) : Int32.ofInt g - nI a = Int32.ofInt (g - a) := by
  rw [Int32.ofInt_sub]
  rfl
theorem quiet {A : fw_S} {t n m cu : Nat} (hn : n ≤ 512) (ht : t + m ≤ 86400 * n) (h : RV A t n) (hK : KC A t m cu) : ∀ i, i < m → mIter cu t i A = aq cu i A := by
  obtain ⟨⟨k0, k0', k1⟩, k2, k3, k4, k5⟩ := hK
  obtain ⟨rn, wt⟩ := h.rn hn
  obtain ⟨w, s, ls, z, hh, u, g, hm, hc, hq, -⟩ := h
  intro i
  induction i with
  | zero => exact fun _ => (aq0 cu A).symm
  | succ i ih =>
    intro hi
    rw [mIter, ih (by omega)]
    unfold mStep
    have e1 : mCh cu (t + i) (aq cu i A) = aq cu (i + 1) A := by
      unfold mCh
      by_cases hr : rnM A
      · rw [if_pos (aq_rn.mpr hr)]
        have hrc := rn.mp hr
        have hs0 : s ≠ 0 := fun q => hrc.1 (by rw [hm.2.2.2.1.2.1, q]; rfl)
        have hp1 : A.1 0 3 = 1 := by
          rcases hm.1.2 with q | q
          · exact absurd q hrc.2
          · exact q
        have hh1 := hc.2.2.2.2.2.2 hs0 hp1
        obtain ⟨f1, -, f2, f3, f4, f5, f6⟩ := hc.2.2.2.1 hh1
        rw [if_neg, aq_step k1 hr]
        rintro ⟨q1, q2⟩
        rw [lg_cmp_le] at q1
        rw [lg_cmp_gt, cu64 k1] at q2
        have a2 : (aq cu i A).2 230 0 = Int64.ofInt (g - (23 * cu * i : Nat)) := by
          unfold aq
          rw [if_pos hr]
          simp [gl_l]
          rw [f3, of64_sub]
          simp
        by_cases hf : A.1 1 1 = 0
        · have := k3 hrc hf
          rw [f2, Int32.toInt_ofInt_of_le (by omega) (by omega)] at this
          have m1 : 23 * cu * (i + 1) ≤ 23 * cu * (m - 1) := Nat.mul_le_mul_left _ (by omega)
          have m2 : 23 * cu * (i + 1) = 23 * cu * i + 23 * cu := Nat.mul_succ _ _
          rw [a2, of64_sub] at q2
          exact q2 ((of64 (by omega) (by omega)).2.mpr (by omega))
        · have c0 := k2 hrc hf
          have g0 : g ≤ 0 := f6.mp (by
            rcases hc.2.1 with q | q
            · exact absurd q hf
            · exact q)
          rw [a2, c0] at q1
          exact q1 ((of64 (by omega) (by omega)).1.mpr (by omega))
      · rw [if_neg (fun q => hr (aq_rn.mp q))]
        unfold aq
        rw [if_neg hr, if_neg hr]
    have e2 : mRd (t + i + 1) (aq cu (i + 1) A) = aq cu (i + 1) A := by
      unfold mRd
      rw [if_neg]
      rintro ⟨q1, q2, q3⟩
      rw [aq_i] at q3
      have hrc := rn.mp (aq_rn.mp q2)
      have q3 : ¬ (22 : Int32) ≤ A.1 2 3 := by rw [hq.1.1, ← hq.1.2.1]; exact q3
      have := (k4 hrc).1 q3
      omega
    have e3 : mSd (t + i + 1) (aq cu (i + 1) A) = aq cu (i + 1) A := by
      unfold mSd
      rw [if_neg]
      rintro ⟨q1, q2⟩
      have q1 : wtM A := by
        unfold wtM at q1 ⊢
        rw [aq_i] at q1
        exact q1
      rw [aq_i, hq.2.2.2.1.1] at q2
      obtain ⟨r1, r2⟩ := k5 (wt.mp q1)
      rcases hq.2.2.2.1.2 with q | ⟨a, ha, q⟩
      · have := r1 q
        omega
      · rcases r2 a ha q with r | r
        · omega
        · rw [q] at q2
          rcases q2 with q2 | q2
          · exact nI_pos (by omega) q2
          · apply q2
            rw [pk_sub (by omega)]
            exact nI_lt (b := 20) (by omega) (by omega)
    rw [e1, e2, e3]
