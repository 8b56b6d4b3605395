/-! the relation between the object's cells and the reference's: of one point, in its view A; t the time, n the calls so far -/
def bz (x : Int32) : Prop := x = 0 ∨ x = 1
/-- power, line, meter, session; w the meter, s the session, ls the latest session -/
def RVm (A : fw_S) (t n w s ls : Nat) : Prop :=
  (A.1 215 0 = A.1 0 3 ∧ bz (A.1 0 3)) ∧ (A.1 216 0 = A.1 0 4 ∧ bz (A.1 0 4)) ∧ (A.2 217 0 = lN w ∧ A.2 0 5 = lN w ∧ w ≤ 7360 * t) ∧
  (A.1 218 0 = nI s ∧ A.1 0 6 = nI s ∧ A.1 219 0 = nI ls ∧ A.1 0 8 = nI ls ∧ s ≤ ls ∧ ls ≤ n) ∧
  (s = 0 → A.1 0 7 = -1) ∧ (s ≠ 0 → A.1 220 0 = A.1 0 7 ∧ ∃ c, c < 16 ∧ A.1 0 7 = nI c)
/-- the car; g its hunger -/
def RVc (A : fw_S) (t s : Nat) (g : Int) : Prop :=
  (A.1 227 0 = A.1 1 0 ∧ bz (A.1 1 0)) ∧ bz (A.1 1 1) ∧
  (A.1 1 0 = 0 → A.1 1 1 = 0 ∧ A.1 1 2 = 0) ∧
  (A.1 1 0 = 1 → A.1 231 0 = A.1 1 1 ∧ (∃ gw, 1 ≤ gw ∧ gw ≤ 9 ∧ A.1 1 3 = nI gw ∧ A.1 229 0 = nI gw) ∧ A.1 1 4 = Int32.ofInt g ∧ A.2 230 0 = Int64.ofInt g ∧ -7360 < g ∧ g ≤ 360000000 ∧ (A.1 1 1 = 1 ↔ g ≤ 0)) ∧
  (A.1 1 0 = 1 → A.1 1 1 = 0 → ∃ v, v ≤ 320 ∧ A.1 1 2 = nI v ∧ A.1 228 0 = nI v) ∧
  (A.1 1 1 = 1 → A.1 1 2 = 0 ∧ ∃ fs, fs ≤ t ∧ A.1 1 5 = nI fs ∧ A.1 232 0 = nI fs) ∧
  (s ≠ 0 → A.1 0 3 = 1 → A.1 1 0 = 1)
/-- the k-th message that waits: its row of the ring -/
def rw_ (h k : Nat) : Nat := 4 + (h + k) % 24
/-- the queue; z its length, h its head, u how many of its first messages the office has taken (0 or 1) -/
def RVq (A : fw_S) (t w s z h u : Nat) : Prop :=
  (A.1 2 3 = nI z ∧ A.1 221 0 = nI z ∧ z ≤ 23 ∧ (s ≠ 0 → z ≤ 22)) ∧ (A.1 2 1 = nI h ∧ h < 24) ∧ A.1 222 0 = A.1 2 2 ∧
  (A.1 223 0 = A.1 2 4 ∧ (A.1 2 4 = -1 ∨ ∃ a, a ≤ t ∧ A.1 2 4 = nI a)) ∧
  (A.1 224 0 = A.1 0 9 ∧ (A.1 0 9 = 0 ∨ (0 < z ∧ A.1 0 3 = 1 ∧ A.1 0 4 = 1 ∧ (A.1 0 9 = 1 ∨ (A.1 0 9 = 2 ∧ u = 1))))) ∧
  (A.1 233 0 = A.1 32 0 ∧ u ≤ 1 ∧ u ≤ z ∧ A.1 32 0 + 1 = A.1 2 2 - nI z + nI u) ∧
  (∀ k, k < z → A.1 225 (6 * k) = A.1 2 2 - nI z + nI k ∧ A.1 225 (6 * k + 1) = A.1 (rw_ h k) 0 + 1 ∧ A.1 225 (6 * k + 2) = A.1 (rw_ h k) 1 ∧ A.1 225 (6 * k + 3) = A.1 (rw_ h k) 2 ∧ A.1 225 (6 * k + 4) = A.1 (rw_ h k) 3 ∧ A.1 225 (6 * k + 5) = A.1 (rw_ h k) 5 ∧ A.2 226 k = (A.1 (rw_ h k) 4).toInt64)
/-- what the messages that the office has not taken yet say, after what its bill says: they alternate, and the watt-hours grow -/
def RVs (A : fw_S) (t w s z h u : Nat) : Prop :=
  ∃ (kd wh : Nat → Nat) (op : Nat → Prop), (∀ k, k < z → kd k ≤ 2 ∧ A.1 (rw_ h k) 0 = nI (kd k) ∧ A.1 (rw_ h k) 4 = nI (wh k) ∧ (∃ c, c < 16 ∧ A.1 (rw_ h k) 2 = nI c) ∧ (∃ a, a ≤ t ∧ A.1 (rw_ h k) 3 = nI a) ∧ (∃ a, a ≤ t ∧ A.1 (rw_ h k) 5 = nI a)) ∧
  (∀ k, u ≤ k → k < z → (kd k = 0 ↔ ¬ op k) ∧ (op (k + 1) ↔ kd k ≠ 2)) ∧ (op z ↔ s ≠ 0) ∧ (A.1 31 0 = 1 ↔ op u) ∧
  (∀ k, u ≤ k → k + 1 < z → wh k ≤ wh (k + 1)) ∧ (∀ k, u ≤ k → k < z → 3600 * wh k ≤ w) ∧
  ∃ b, A.1 31 5 = nI b ∧ 3600 * b ≤ w ∧ ∀ k, u ≤ k → k < z → b ≤ wh k
/-- the bill -/
def RVb (A : fw_S) (t w : Nat) : Prop :=
  (A.1 234 0 = A.1 31 0 ∧ bz (A.1 31 0)) ∧ A.1 235 0 = A.1 31 1 ∧ (A.1 236 0 = A.1 31 2 ∧ ∃ c, c < 16 ∧ A.1 31 2 = nI c) ∧ A.2 237 0 = A.2 31 3 ∧
  (∃ a, a ≤ t ∧ A.1 240 0 = nI a ∧ A.1 31 6 = nI a) ∧
  ∃ b f, A.1 31 5 = nI b ∧ A.2 238 0 = lN b ∧ A.1 31 4 = nI f ∧ A.2 239 0 = lN f ∧ f ≤ b ∧ 3600 * b ≤ w ∧ (A.1 31 0 = 1 → ∃ sm, A.2 31 3 = lN sm ∧ sm ≤ 1000000 + (b - f) * 100000)
/-- the point's copy of the card list -/
def RVk (A : fw_S) : Prop := ∀ k, k < 16 → A.1 29 k = A.1 213 k ∧ A.1 30 k = A.1 214 k
def RV (A : fw_S) (t n : Nat) : Prop := ∃ (w s ls z h u : Nat) (g : Int), RVm A t n w s ls ∧ RVc A t s g ∧ RVq A t w s z h u ∧ RVs A t w s z h u ∧ RVb A t w ∧ RVk A
/-- what belongs to no point -/
def RG (S : fw_S) (t n : Nat) : Prop :=
  (S.1 0 2 = nI t ∧ S.1 209 1 = nI t ∧ t ≤ 86400 * n ∧ n ≤ 512) ∧
  (∀ j, j < 2 → S.1 (19 + 95 * j) 1 = S.1 210 j ∧ ∃ v, v ≤ 2000 ∧ S.1 210 j = nI v) ∧
  (∀ k, k < 4 → S.1 7 k = S.1 211 k ∧ S.1 8 k = S.1 212 k ∧ (S.1 7 k = -1 ∨ ∃ v, v < 1440 ∧ S.1 7 k = nI v) ∧ ∃ v, v ≤ 100000 ∧ S.1 8 k = nI v) ∧
  (S.1 6 2 = S.1 209 5 ∧ (∃ v, v ≤ 1000000 ∧ S.1 6 2 = nI v) ∧ S.1 6 3 = S.1 209 6 ∧ ∃ v, v ≤ 1000000 ∧ S.1 6 3 = nI v) ∧
  (∀ k, k < 16 → S.1 4 k = S.1 213 k ∧ S.1 5 k = S.1 214 k) ∧
  (∀ k, k < 640 → S.1 10 k = S.1 241 k) ∧ (∀ k, k < 16 → S.2 11 k = S.2 242 k) ∧
  ∃ c, c ≤ n ∧ S.1 2 5 = nI c ∧ S.1 209 35 = nI c
/-! the relation at the beginning -/
theorem RV0d : ∀ q, q < 6 → ((vw q S0).1 215 0 = 1 ∧ (vw q S0).1 0 3 = 1 ∧ (vw q S0).1 216 0 = 1 ∧ (vw q S0).1 0 4 = 1 ∧ (vw q S0).2 217 0 = 0 ∧ (vw q S0).2 0 5 = 0 ∧ (vw q S0).1 218 0 = 0 ∧ (vw q S0).1 0 6 = 0 ∧ (vw q S0).1 219 0 = 0 ∧ (vw q S0).1 0 8 = 0 ∧ (vw q S0).1 0 7 = -1) := by decide +kernel
theorem RV0e : ∀ q, q < 6 → ((vw q S0).1 227 0 = 0 ∧ (vw q S0).1 1 0 = 0 ∧ (vw q S0).1 1 1 = 0 ∧ (vw q S0).1 1 2 = 0 ∧ (vw q S0).1 2 3 = 0 ∧ (vw q S0).1 221 0 = 0 ∧ (vw q S0).1 2 1 = 0 ∧ (vw q S0).1 222 0 = 1 ∧ (vw q S0).1 2 2 = 1 ∧ (vw q S0).1 223 0 = -1 ∧ (vw q S0).1 2 4 = -1 ∧ (vw q S0).1 224 0 = 0 ∧ (vw q S0).1 0 9 = 0 ∧ (vw q S0).1 233 0 = 0 ∧ (vw q S0).1 32 0 = 0) := by decide +kernel
theorem RV0f : ∀ q, q < 6 → ((vw q S0).1 234 0 = 0 ∧ (vw q S0).1 31 0 = 0 ∧ (vw q S0).1 235 0 = 0 ∧ (vw q S0).1 31 1 = 0 ∧ (vw q S0).1 236 0 = 0 ∧ (vw q S0).1 31 2 = 0 ∧ (vw q S0).2 237 0 = 0 ∧ (vw q S0).2 31 3 = 0 ∧ (vw q S0).1 240 0 = 0 ∧ (vw q S0).1 31 6 = 0 ∧ (vw q S0).1 31 5 = 0 ∧ (vw q S0).2 238 0 = 0 ∧ (vw q S0).1 31 4 = 0 ∧ (vw q S0).2 239 0 = 0) := by decide +kernel
theorem RV0k : ∀ q, q < 6 → ∀ k, k < 16 → (vw q S0).1 29 k = (vw q S0).1 213 k ∧ (vw q S0).1 30 k = (vw q S0).1 214 k := by decide +kernel
theorem RV0 : ∀ q, q < 6 → RV (vw q S0) 0 0 := by
  intro q hq
  obtain ⟨a1, a2, a3, a4, a5, a6, a7, a8, a9, a10, a11⟩ := RV0d q hq
  obtain ⟨b1, b2, b3, b4, b5, b6, b7, b8, b9, b10, b11, b12, b13, b14, b15⟩ := RV0e q hq
  obtain ⟨c1, c2, c3, c4, c5, c6, c7, c8, c9, c10, c11, c12, c13, c14⟩ := RV0f q hq
  have i0 : nI 0 = 0 := nI_0
  have l0 : lN 0 = 0 := by decide
  refine ⟨0, 0, 0, 0, 0, 0, 1, ?_, ?_, ?_, ?_, ?_, fun k hk => RV0k q hq k hk⟩
  · unfold RVm bz
    simp [a1, a2, a3, a4, a5, a6, a7, a8, a9, a10, a11, i0, l0]
  · unfold RVc bz
    simp [b1, b2, b3, b4]
  · unfold RVq
    simp [b5, b6, b7, b8, b9, b10, b11, b12, b13, b14, b15, i0]
  · refine ⟨fun _ => 0, fun _ => 0, fun _ => False, fun k hk => absurd hk (Nat.not_lt_zero k), fun k _ hk => absurd hk (Nat.not_lt_zero k), by simp, by simp [c2], fun k _ hk => absurd hk (Nat.not_lt_zero _), fun k _ hk => absurd hk (Nat.not_lt_zero k), 0, by rw [c11, i0], by omega, fun k _ hk => absurd hk (Nat.not_lt_zero k)⟩
  · unfold RVb bz
    refine ⟨by simp [c1, c2], by rw [c3, c4], ⟨by rw [c5, c6], 0, by omega, by rw [c6, i0]⟩, by rw [c7, c8], ⟨0, by omega, by rw [c9, i0], by rw [c10, i0]⟩, 0, 0, by rw [c11, i0], by rw [c12, l0], by rw [c13, i0], by rw [c14, l0], by omega, by omega, fun e => ?_⟩
    rw [c2] at e
    exact absurd e (by decide)
theorem RG0a : (∀ j, j < 2 → S0.1 (19 + 95 * j) 1 = 480 ∧ S0.1 210 j = 480) ∧ (∀ k, k < 4 → S0.1 7 k = -1 ∧ S0.1 211 k = -1 ∧ S0.1 8 k = 0 ∧ S0.1 212 k = 0) := by decide +kernel
theorem RG0b : (∀ k, k < 16 → S0.1 4 k = S0.1 213 k ∧ S0.1 5 k = S0.1 214 k) ∧ (∀ k, k < 640 → S0.1 10 k = S0.1 241 k) := by decide +kernel
theorem RG0 : RG S0 0 0 := by
  unfold RG
  refine ⟨⟨by decide +kernel, by decide +kernel, by omega, by omega⟩, fun j hj => ?_, fun k hk => ?_, ⟨by decide +kernel, ⟨0, by omega, by decide +kernel⟩, by decide +kernel, 0, by omega, by decide +kernel⟩, RG0b.1, RG0b.2, fun _ _ => rfl, 0, by omega, by decide +kernel, by decide +kernel⟩
  · obtain ⟨h1, h2⟩ := RG0a.1 j hj
    exact ⟨by rw [h1, h2], 480, by omega, by rw [h2]; decide⟩
  · obtain ⟨h1, h2, h3, h4⟩ := RG0a.2 k hk
    exact ⟨by rw [h1, h2], by rw [h3, h4], .inl h1, 0, by omega, by rw [h3]; decide⟩
