/-! copy: the office's list into the point's -/
def mcp (S : fw_S) (p k : Nat) : fw_S := (fun a j => if (a = 213 ∨ a = 214) ∧ 16 + 16 * p ≤ j ∧ j < 16 + 16 * p + k then S.1 a (j - (16 + 16 * p)) else S.1 a j, S.2)
theorem mcp_step {S : fw_S} {p k : Nat} (hk : k < 16) : fw_si (fw_si (mcp S p k) 213 (16 + 16 * p + k) ((mcp S p k).1 213 k)) 214 (16 + 16 * p + k) ((fw_si (mcp S p k) 213 (16 + 16 * p + k) ((mcp S p k).1 213 k)).1 214 k) = mcp S p (k + 1) := by
  have e1 : (mcp S p k).1 213 k = S.1 213 k := by
    show (if _ then _ else _) = _
    rw [if_neg (by omega)]
  have e2 : (fw_si (mcp S p k) 213 (16 + 16 * p + k) ((mcp S p k).1 213 k)).1 214 k = S.1 214 k := by
    rw [gi_i, if_neg (by omega)]
    show (if _ then _ else _) = _
    rw [if_neg (by omega)]
  rw [e2, e1]
  refine Prod.ext (funext fun a => funext fun j => ?_) rfl
  show (if a = 214 ∧ j = 16 + 16 * p + k then S.1 214 k else if a = 213 ∧ j = 16 + 16 * p + k then S.1 213 k else if (a = 213 ∨ a = 214) ∧ 16 + 16 * p ≤ j ∧ j < 16 + 16 * p + k then S.1 a (j - (16 + 16 * p)) else S.1 a j) = (if (a = 213 ∨ a = 214) ∧ 16 + 16 * p ≤ j ∧ j < 16 + 16 * p + (k + 1) then S.1 a (j - (16 + 16 * p)) else S.1 a j)
  by_cases h1 : a = 214 ∧ j = 16 + 16 * p + k
  · rw [if_pos h1, if_pos (by omega), h1.1, h1.2, show 16 + 16 * p + k - (16 + 16 * p) = k by omega]
  · rw [if_neg h1]
    by_cases h2 : a = 213 ∧ j = 16 + 16 * p + k
    · rw [if_pos h2, if_pos (by omega), h2.1, h2.2, show 16 + 16 * p + k - (16 + 16 * p) = k by omega]
    · rw [if_neg h2]
      by_cases h3 : (a = 213 ∨ a = 214) ∧ 16 + 16 * p ≤ j ∧ j < 16 + 16 * p + k
      · rw [if_pos h3, if_pos (by omega)]
      · rw [if_neg h3, if_neg (by omega)]
theorem mcp_0 {S : fw_S} {p : Nat} : mcp S p 0 = S := by
  refine Prod.ext (funext fun a => funext fun j => ?_) rfl
  show (if _ then _ else _) = _
  rw [if_neg (by omega)]
theorem mcp_loop {S : fw_S} {p : Nat} (hp : p < 6) {post : fw_S → Int32 → Prop} (h : post (mcp S p 16) 1) : ∀ r k, k + r = 16 → wp_M_copy_30 209 (nI p) post (r + 1) (mcp S p k) (nI k) := by
  intro r
  induction r with
  | zero =>
    intro k hk
    have hk : k = 16 := by omega
    subst hk
    unfold wp_M_copy_30
    exact ⟨fun _ => h, fun q => absurd (by decide) q⟩
  | succ r ih =>
    intro k hk
    have i1 : 16 + 16 * nI p + nI k = nI (16 + 16 * p + k) := by
      rw [show (16 : Int32) * nI p = nI (16 * p) from (Int32.ofNat_mul 16 p).symm, show (16 : Int32) + nI (16 * p) = nI (16 + 16 * p) from nI_add 16 _, nI_add]
    unfold wp_M_copy_30
    refine ⟨fun q => absurd q (nI_ge (b := 16) (by omega) (by omega)), fun _ => ⟨vp_in_nI (by omega) (by omega), by rw [i1]; exact vp_in_nI (by omega) (by omega), ?_⟩⟩
    intro S4 e4
    refine ⟨vp_in_nI (by omega) (by omega), by rw [i1]; exact vp_in_nI (by omega) (by omega), ?_⟩
    intro S7 e7 v8 e8
    rw [i1, nI_clamp (by omega), nI_clamp (by omega)] at e4 e7
    have e8 : v8 = nI (k + 1) := by rw [e8, nI_succ]
    subst e8
    have e9 : S7 = mcp S p (k + 1) := by
      rw [e7, e4]
      exact mcp_step (by omega)
    rw [e9]
    exact ih (k + 1) (by omega)
