/-! the currents: numbers -/
theorem cuSafe_le (lim : Nat) : 3 * cuSafe lim ≤ lim := by
  unfold cuSafe
  split <;> omega
/-- what is left after the first k places -/
def cuL (lim : Nat) (on : Nat → Bool) : Nat → Nat
  | 0 => lim
  | k + 1 => cuL lim on k - cuOff lim on k
theorem cuL_3 (lim : Nat) (on : Nat → Bool) : cuL lim on 3 = cuLeft lim on := rfl
theorem cuL_ge (lim : Nat) (on : Nat → Bool) : ∀ k, k ≤ 3 → (3 - k) * cuSafe lim ≤ cuL lim on k ∧ cuL lim on k ≤ lim := by
  have h := cuSafe_le lim
  have ho : ∀ c, cuOff lim on c ≤ cuSafe lim := fun c => by unfold cuOff; split <;> omega
  intro k hk
  have h0 := ho 0
  have h1 := ho 1
  have h2 := ho 2
  rcases (show k = 0 ∨ k = 1 ∨ k = 2 ∨ k = 3 by omega) with rfl | rfl | rfl | rfl
  · show 3 * cuSafe lim ≤ lim ∧ lim ≤ lim
    omega
  · show 2 * cuSafe lim ≤ lim - cuOff lim on 0 ∧ lim - cuOff lim on 0 ≤ lim
    omega
  · show 1 * cuSafe lim ≤ lim - cuOff lim on 0 - cuOff lim on 1 ∧ lim - cuOff lim on 0 - cuOff lim on 1 ≤ lim
    omega
  · show 0 * cuSafe lim ≤ lim - cuOff lim on 0 - cuOff lim on 1 - cuOff lim on 2 ∧ lim - cuOff lim on 0 - cuOff lim on 1 - cuOff lim on 2 ≤ lim
    omega
def cuBase (lim : Nat) (on ac : Nat → Bool) (wn : Nat → Nat) (c : Nat) : Nat := if !on c && ac c then min (cuSafe lim) (wn c) else 0
theorem cuUsed_le (room : Nat) (cd : Nat → Bool) (tn : Nat) : ∀ k, cuUsed room cd tn k ≤ room ∧ cuUsed room cd tn k ≤ k := by
  intro k
  induction k with
  | zero => exact ⟨Nat.zero_le _, Nat.zero_le _⟩
  | succ k ih =>
    rw [cuUsed]
    split
    · next h =>
      have h := (Bool.and_eq_true _ _ ▸ h).1
      have h := of_decide_eq_true h
      omega
    · omega
/-- the k-th in turn is chosen -/
theorem cuCh_k {room tn k : Nat} {cd : Nat → Bool} (ht : tn < 3) (hk : k < 3) : cuCh room cd tn ((tn + k) % 3) = (decide (cuUsed room cd tn k < room) && cd ((tn + k) % 3)) := by
  unfold cuCh
  rw [show ((tn + k) % 3 + 3 - tn % 3) % 3 = k by omega, Bool.and_comm]
theorem cuUsed_s {room tn k : Nat} {cd : Nat → Bool} (ht : tn < 3) (hk : k < 3) : cuUsed room cd tn (k + 1) = cuUsed room cd tn k + (if cuCh room cd tn ((tn + k) % 3) = true then 1 else 0) := by
  rw [cuUsed, cuCh_k ht hk]
def cuTk (ch : Nat → Bool) (wn gw : Nat → Nat) (v : Nat) : Nat → Nat
  | 0 => 0
  | k + 1 => cuTk ch wn gw v k + (if ch k then cuAt (wn k) (gw k) v else 0)
theorem cuTk_3 (ch : Nat → Bool) (wn gw : Nat → Nat) (v : Nat) : cuTk ch wn gw v 3 = cuT ch wn gw v := by
  show 0 + _ + _ + _ = _
  rw [Nat.zero_add]
  rfl
theorem cuAt_le (wn gw v : Nat) : cuAt wn gw v ≤ wn := Nat.min_le_left _ _
theorem cuTk_le {ch : Nat → Bool} {wn gw : Nat → Nat} {v : Nat} (hw : ∀ c, c < 3 → wn c ≤ 320) : ∀ k, k ≤ 3 → cuTk ch wn gw v k ≤ 320 * k := by
  intro k
  induction k with
  | zero => exact fun _ => Nat.zero_le _
  | succ k ih =>
    intro hk
    have h1 := ih (by omega)
    have h2 := cuAt_le (wn k) (gw k) v
    have h3 := hw k (by omega)
    rw [cuTk]
    split <;> omega
theorem cuAt_mono {wn gw v v' : Nat} (h : v ≤ v') : cuAt wn gw v ≤ cuAt wn gw v' := by
  unfold cuAt
  have : v * gw ≤ v' * gw := Nat.mul_le_mul_right _ h
  omega
theorem cuT_mono {ch : Nat → Bool} {wn gw : Nat → Nat} {v v' : Nat} (h : v ≤ v') : cuT ch wn gw v ≤ cuT ch wn gw v' := by
  have h0 := cuAt_mono (wn := wn 0) (gw := gw 0) h
  have h1 := cuAt_mono (wn := wn 1) (gw := gw 1) h
  have h2 := cuAt_mono (wn := wn 2) (gw := gw 2) h
  unfold cuT
  cases ch 0 <;> cases ch 1 <;> cases ch 2 <;> simp <;> omega
theorem cuBest_le (T : Nat → Nat) (left : Nat) : ∀ n, cuBest T left n ≤ n := by
  intro n
  induction n with
  | zero => exact Nat.le_refl _
  | succ n ih =>
    rw [cuBest]
    split <;> omega
theorem cuBest_ok (T : Nat → Nat) (left : Nat) : ∀ n, cuBest T left n = 0 ∨ T (cuBest T left n) ≤ left := by
  intro n
  induction n with
  | zero => exact .inl rfl
  | succ n ih =>
    rw [cuBest]
    split
    · next h => exact .inr h
    · exact ih
theorem cuBest_gt (T : Nat → Nat) (left : Nat) : ∀ n v, cuBest T left n < v → v ≤ n → ¬ T v ≤ left := by
  intro n
  induction n with
  | zero => exact fun v h1 h2 => by omega
  | succ n ih =>
    intro v h1 h2
    rw [cuBest] at h1
    split at h1
    · omega
    · next h =>
      by_cases e : v = n + 1
      · rw [e]; exact h
      · exact ih v h1 (by omega)
