/-! the reference's shifting loop -/
def shX (S : fw_S) (p c d : Nat) : fw_S :=
  (fun a k => if a = 225 ∧ 144 * p ≤ k ∧ k < 144 * p + c then S.1 225 (k + 6) else S.1 a k,
   fun a k => if a = 226 ∧ 24 * p ≤ k ∧ k < 24 * p + d then S.2 226 (k + 1) else S.2 a k)
theorem sh_i (S : fw_S) (p c d a k : Nat) : (shX S p c d).1 a k = if a = 225 ∧ 144 * p ≤ k ∧ k < 144 * p + c then S.1 225 (k + 6) else S.1 a k := rfl
theorem sh_l (S : fw_S) (p c d a k : Nat) : (shX S p c d).2 a k = if a = 226 ∧ 24 * p ≤ k ∧ k < 24 * p + d then S.2 226 (k + 1) else S.2 a k := rfl
theorem shX_0 (S : fw_S) (p : Nat) : shX S p 0 0 = S := by
  unfold shX
  refine Prod.ext (funext fun a => funext fun k => ?_) (funext fun a => funext fun k => ?_)
  · exact if_neg (by omega)
  · exact if_neg (by omega)
theorem shX_i (S : fw_S) (p c d : Nat) : fw_si (shX S p c d) 225 (144 * p + c) (S.1 225 (144 * p + c + 6)) = shX S p (c + 1) d := by
  unfold shX
  refine Prod.ext (funext fun a => funext fun k => ?_) rfl
  show (if a = 225 ∧ k = 144 * p + c then _ else if _ then _ else _) = (if _ then _ else _)
  by_cases h1 : a = 225 ∧ k = 144 * p + c
  · rw [if_pos h1, if_pos (by omega), h1.2]
  · rw [if_neg h1]
    by_cases h2 : a = 225 ∧ 144 * p ≤ k ∧ k < 144 * p + c
    · rw [if_pos h2, if_pos (by omega)]
    · rw [if_neg h2, if_neg (by omega)]
theorem shX_l (S : fw_S) (p c d : Nat) : fw_sl (shX S p c d) 226 (24 * p + d) (S.2 226 (24 * p + d + 1)) = shX S p c (d + 1) := by
  unfold shX
  refine Prod.ext rfl (funext fun a => funext fun k => ?_)
  show (if a = 226 ∧ k = 24 * p + d then _ else if _ then _ else _) = (if _ then _ else _)
  by_cases h1 : a = 226 ∧ k = 24 * p + d
  · rw [if_pos h1, if_pos (by omega), h1.2]
  · rw [if_neg h1]
    by_cases h2 : a = 226 ∧ 24 * p ≤ k ∧ k < 24 * p + d
    · rw [if_pos h2, if_pos (by omega)]
    · rw [if_neg h2, if_neg (by omega)]
theorem goes_in {S : fw_S} {p x z : Nat} {post : fw_S → Prop} {k12 : fw_S → Int32 → Prop} (hp : p ≤ 5) (hx : x < z) (hz : z ≤ 22) (h : k12 (shX S p (6 * (x + 1)) (x + 1)) (nI (x + 1))) :
    ∀ d j f, j + d = 6 → d < f → wp_M_goes_24 209 (nI p) post k12 f (shX S p (6 * x + j) x) (nI x) (nI j) := by
  have b1 : (24 : Int32) * nI p = nI (24 * p) := pk_mul 24 p
  have b2 : (24 : Int32) * nI p + nI x = nI (24 * p + x) := by rw [b1, nI_add]
  have b3 : nI (24 * p + x) + 1 = nI (24 * p + x + 1) := nI_1 _
  have b4 : (24 : Int32) * nI p + (nI x + 1) = nI (24 * p + x + 1) := by rw [b1, nI_1, nI_add]; rfl
  have b5 : (6 : Int32) * nI (24 * p + x) = nI (144 * p + 6 * x) := by
    rw [show (6 : Int32) * nI (24 * p + x) = nI (6 * (24 * p + x)) from pk_mul 6 _]
    exact congrArg nI (by omega)
  have b6 : (6 : Int32) * nI (24 * p + x + 1) = nI (144 * p + 6 * x + 6) := by
    rw [show (6 : Int32) * nI (24 * p + x + 1) = nI (6 * (24 * p + x + 1)) from pk_mul 6 _]
    exact congrArg nI (by omega)
  intro d
  induction d with
  | zero =>
    intro j f hj hf
    obtain ⟨f, rfl⟩ : ∃ f', f = f' + 1 := ⟨f - 1, by omega⟩
    have : j = 6 := by omega
    subst this
    rw [wp_M_goes_24]
    refine ⟨fun _ => ⟨?_, ?_, ?_⟩, fun q => absurd (by decide) q⟩
    · rw [b2, b3]; exact vp_in_nI (by omega) (by omega)
    · rw [b2]; exact vp_in_nI (by omega) (by omega)
    · rw [b2, b3, nI_clamp (by omega), nI_clamp (by omega)]
      intro S4 e4 v5 e5
      rw [e5, nI_1]
      have e : S4 = shX S p (6 * (x + 1)) (x + 1) := by
        rw [e4, show 6 * x + 6 = 6 * (x + 1) by omega, ← shX_l]
        refine congrArg _ ?_
        show (if _ then _ else _) = _
        rw [if_neg (by omega)]
      rw [e]
      exact h
  | succ d ih =>
    intro j f hj hf
    obtain ⟨f, rfl⟩ : ∃ f', f = f' + 1 := ⟨f - 1, by omega⟩
    have e1 : ¬ (6 : Int32) ≤ nI j := nI_ge (b := 6) (by omega) (by omega)
    have ih := ih (j + 1) f (by omega) (by omega)
    rw [wp_M_goes_24]
    refine ⟨fun q => absurd q e1, fun _ => ?_⟩
    unfold wp_M_cell
    show vp_in (6 * (24 * nI p + (nI x + 1)) + nI j) 864 ∧ vp_in (6 * (24 * nI p + nI x) + nI j) 864 ∧ _
    rw [b4, b2, b6, b5, nI_add, nI_add]
    refine ⟨vp_in_nI (by omega) (by omega), vp_in_nI (by omega) (by omega), ?_⟩
    rw [nI_clamp (by omega), nI_clamp (by omega)]
    intro S12 e12 v13 e13
    rw [e13, nI_1]
    have e : S12 = shX S p (6 * x + (j + 1)) x := by
      rw [e12, show 6 * x + (j + 1) = 6 * x + j + 1 by omega, ← shX_i, Nat.add_assoc (144 * p)]
      refine congrArg _ ?_
      show (if _ then _ else _) = _
      rw [if_neg (by omega)]
      exact congrArg _ (by omega)
    rw [e]
    exact ih
theorem goes_ex {S : fw_S} {p z : Nat} {post : fw_S → Prop} (hp : p ≤ 5) (hz : z ≤ 22) (h1 : S.1 221 p = nI (z + 1)) (h : post (fw_si (shX (fw_si S 221 p (nI z)) p (6 * z) z) 223 p (-1))) : wp_M_goes S 209 (nI p) post := by
  have a4 : vp_in (nI p) 6 := vp_in_nI (by omega) (by omega)
  have a5 : (nI p).toNatClampNeg = p := nI_clamp (by omega)
  unfold wp_M_goes
  rw [a5]
  refine ⟨a4, a4, fun S3 e3 => ?_⟩
  have e3 : S3 = fw_si S 221 p (nI z) := by rw [e3, h1, nI_pred]
  subst e3
  have hz1 : (fw_si S 221 p (nI z)).1 221 p = nI z := by simp [gi_i]
  revert h hz1
  generalize fw_si S 221 p (nI z) = S'
  intro h hz1
  have key : ∀ d x f, x + d = z → d < f → wp_M_goes_12 209 (nI p) post f (shX S' p (6 * x) x) (nI x) := by
    intro d
    induction d with
    | zero =>
      intro x f hx hf
      obtain ⟨f, rfl⟩ : ∃ f', f = f' + 1 := ⟨f - 1, by omega⟩
      have : x = z := by omega
      subst this
      rw [wp_M_goes_12, a5]
      have e : (shX S' p (6 * x) x).1 221 p = nI x := by
        rw [sh_i, if_neg (by omega)]
        exact hz1
      refine ⟨a4, fun _ => ⟨a4, fun S4 e4 => by rw [e4]; exact h⟩, fun q => absurd ?_ q⟩
      show (shX S' p (6 * x) x).1 221 p ≤ nI x
      rw [e]
      exact nI_le (by omega) (by omega)
    | succ d ih =>
      intro x f hx hf
      obtain ⟨f, rfl⟩ : ∃ f', f = f' + 1 := ⟨f - 1, by omega⟩
      have ih := ih (x + 1) f (by omega) (by omega)
      rw [wp_M_goes_12, a5]
      have e : (shX S' p (6 * x) x).1 221 p = nI z := by
        rw [sh_i, if_neg (by omega)]
        exact hz1
      refine ⟨a4, fun q => absurd ?_ (nI_ge (a := x) (b := z) (by omega) (by omega)), fun _ => ⟨7, ?_⟩⟩
      · rw [← e]; exact q
      · exact goes_in hp (by omega) hz ih 6 0 7 (by omega) (by omega)
  exact ⟨z + 1, by have := key z 0 (z + 1) (by omega) (by omega); rw [show 6 * 0 = 0 by omega, shX_0] at this; exact this⟩
