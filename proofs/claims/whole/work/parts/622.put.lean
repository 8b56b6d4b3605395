/-- the cells that PUT speaks of -/
def pcell (a k : Nat) : Prop := (a = 0 ∧ (k = 3 ∨ k = 4 ∨ k = 9)) ∨ a = 2 ∨ (4 ≤ a ∧ a < 28) ∨ a = 31 ∨ a = 32 ∨ (221 ≤ a ∧ a ≤ 226) ∨ a = 233
theorem tell0_i {h z a j : Nat} {S : fw_S} {kd tm wh idl : Int32} (ha : ¬ a = 2 ∧ ¬ (4 ≤ a ∧ a < 28)) : (tellS 0 (rw_ h z) S kd tm wh idl).1 a j = S.1 a j := by
  have hr : 4 ≤ rw_ h z ∧ rw_ h z < 28 := by unfold rw_; omega
  unfold tellS
  simp only [gi_i]
  repeat rw [if_neg (by omega)]
theorem PUT.mk {A A1 B A' : fw_S} {h z kd t wh idl c : Nat} (hz : z ≤ 23) (h0 : ∀ a k, pcell a k → A1.1 a k = A.1 a k) (h0l : ∀ k, A1.2 226 k = A.2 226 k)
    (h1 : ∀ a k, pcell a k → B.1 a k = (tellS 0 (rw_ h z) A1 (nI kd) (nI t) (nI wh) (nI idl)).1 a k) (h1l : ∀ k, B.2 226 k = A1.2 226 k)
    (h2 : ∀ a k, pcell a k → A'.1 a k = (mputS 0 (6 * z) z B (nI kd + 1) (nI t) (nI idl)).1 a k) (h2l : ∀ k, A'.2 226 k = (mputS 0 (6 * z) z B (nI kd + 1) (nI t) (nI idl)).2 226 k)
    (e1 : B.1 218 0 = A1.1 0 6) (e2 : B.1 220 0 = nI c) (e3 : A1.1 0 7 = nI c) (e4 : B.2 217 0 / 3600 = (nI wh).toInt64) (e5 : A.1 222 0 = A.1 2 2) : PUT A A' h z kd t wh idl c := by
  have r0 : ∀ k, 4 ≤ rw_ h k ∧ rw_ h k < 28 := fun k => by unfold rw_; omega
  have r1 : ∀ k j, pcell (rw_ h k) j := fun k j => by have := r0 k; unfold pcell; omega
  have r2 : ∀ k, k < z → ¬ rw_ h k = rw_ h z := fun k hk => by unfold rw_; omega
  have p0 : ∀ a k, pcell a k → A'.1 a k = (mputS 0 (6 * z) z B (nI kd + 1) (nI t) (nI idl)).1 a k := h2
  have c1 : ∀ a k, pcell a k → ¬ a = 225 ∧ ¬ a = 221 ∧ ¬ a = 222 → A'.1 a k = (tellS 0 (rw_ h z) A1 (nI kd) (nI t) (nI wh) (nI idl)).1 a k := fun a k h3 h4 => by rw [h2 a k h3, mput_i h4, h1 a k h3]
  have c2 : ∀ a k, pcell a k → ¬ a = 225 ∧ ¬ a = 221 ∧ ¬ a = 222 → ¬ a = 2 ∧ ¬ (4 ≤ a ∧ a < 28) → A'.1 a k = A.1 a k := fun a k h3 h4 h5 => by rw [c1 a k h3 h4, tell0_i h5, h0 a k h3]
  have n2 : ¬ (2 : Nat) = rw_ h z := by have := r0 z; omega
  refine ⟨⟨?_, ?_, ?_, ?_, ?_, ?_, ?_, ?_, ?_, ?_, ?_, ?_, ?_, ?_, ?_⟩, fun k j hk => ?_, fun c hc => ?_, fun k hk => ?_, ?_, ?_, ?_, ?_, ⟨?_, ?_⟩, ⟨?_, ?_⟩, ⟨?_, ?_⟩, ?_, ?_⟩
  · rw [c1 2 3 (by unfold pcell; omega) (by omega)]; simp [tellS, gi_i, n2, h0 2 3 (by unfold pcell; omega)]
  · rw [h2 221 0 (by unfold pcell; omega)]; simp [mputS, gi_i, gl_i]; rw [h1 221 0 (by unfold pcell; omega), tell0_i (by omega), h0 221 0 (by unfold pcell; omega)]
  · rw [c1 2 1 (by unfold pcell; omega) (by omega)]; simp [tellS, gi_i, n2, h0 2 1 (by unfold pcell; omega)]
  · rw [c1 2 2 (by unfold pcell; omega) (by omega)]; simp [tellS, gi_i, n2, h0 2 2 (by unfold pcell; omega)]
  · rw [h2 222 0 (by unfold pcell; omega)]; simp [mputS, gi_i, gl_i]; rw [h1 222 0 (by unfold pcell; omega), tell0_i (by omega), h0 222 0 (by unfold pcell; omega)]
  · rw [c1 2 4 (by unfold pcell; omega) (by omega)]; simp [tellS, gi_i, n2, h0 2 4 (by unfold pcell; omega)]
  · exact c2 _ _ (by unfold pcell; omega) (by omega) (by omega)
  · exact c2 _ _ (by unfold pcell; omega) (by omega) (by omega)
  · exact c2 _ _ (by unfold pcell; omega) (by omega) (by omega)
  · exact c2 _ _ (by unfold pcell; omega) (by omega) (by omega)
  · exact c2 _ _ (by unfold pcell; omega) (by omega) (by omega)
  · exact c2 _ _ (by unfold pcell; omega) (by omega) (by omega)
  · exact c2 _ _ (by unfold pcell; omega) (by omega) (by omega)
  · exact c2 _ _ (by unfold pcell; omega) (by omega) (by omega)
  · exact c2 _ _ (by unfold pcell; omega) (by omega) (by omega)
  · rw [c1 _ _ (r1 k j) (by have := r0 k; omega)]
    have q1 : ¬ rw_ h k = 2 := by have := r0 k; omega
    simp [tellS, gi_i, r2 k hk, q1, h0 _ j (r1 k j)]
  · rw [h2 225 c (by unfold pcell; omega)]
    have q : ∀ j, ¬ c = 6 * z + j := fun j => by omega
    simp [mputS, gi_i, gl_i, q, show ¬ c = 6 * z by omega]
    rw [h1 225 c (by unfold pcell; omega), tell0_i (by omega), h0 225 c (by unfold pcell; omega)]
  · rw [h2l]
    simp [mputS, gi_l, gl_l, show ¬ k = z by omega]
    rw [h1l, h0l]
  · rw [c1 _ _ (r1 z 0) (by have := r0 z; omega)]
    have q1 : ¬ rw_ h z = 2 := by have := r0 z; omega
    simp [tellS, gi_i, q1]
  · rw [h2 225 _ (by unfold pcell; omega)]
    simp [mputS, gi_i, gl_i]
    rw [h1 222 0 (by unfold pcell; omega), tell0_i (by omega), h0 222 0 (by unfold pcell; omega), e5]
  · rw [h2 225 _ (by unfold pcell; omega)]
    simp [mputS, gi_i, gl_i]
  · rw [h2 225 _ (by unfold pcell; omega), c1 _ _ (r1 z 1) (by have := r0 z; omega)]
    have q1 : ¬ rw_ h z = 2 := by have := r0 z; omega
    simp [mputS, gi_i, gl_i, tellS, q1, e1]
  · rw [h2 225 _ (by unfold pcell; omega)]
    simp [mputS, gi_i, gl_i, e2]
  · rw [c1 _ _ (r1 z 2) (by have := r0 z; omega)]
    have q1 : ¬ rw_ h z = 2 := by have := r0 z; omega
    simp [tellS, gi_i, q1, e3]
  · rw [h2 225 _ (by unfold pcell; omega)]
    simp [mputS, gi_i, gl_i]
  · rw [c1 _ _ (r1 z 3) (by have := r0 z; omega)]
    have q1 : ¬ rw_ h z = 2 := by have := r0 z; omega
    simp [tellS, gi_i, q1]
  · rw [c1 _ _ (r1 z 4) (by have := r0 z; omega)]
    have q1 : ¬ rw_ h z = 2 := by have := r0 z; omega
    simp [tellS, gi_i, q1]
  · rw [h2l]
    simp [mputS, gi_l, gl_l, e4]
  · rw [c1 _ _ (r1 z 5) (by have := r0 z; omega)]
    have q1 : ¬ rw_ h z = 2 := by have := r0 z; omega
    simp [tellS, gi_i, q1]
  · rw [h2 225 _ (by unfold pcell; omega)]
    simp [mputS, gi_i, gl_i]
