theorem rall_y {S : fw_S} {t : Nat} {post : fw_S → Prop} (ht : t < 2 ^ 31) (hS : S.1 209 1 = nI t) (hRS : ∀ j, j < 2 → RS S j (S.1 210 j).toNatClampNeg (fun c => mOn S (j + 2 * c)) (fun c => mAc S (j + 2 * c)) (fun c => mWn S (j + 2 * c)) (fun c => mGw S (j + 2 * c))) (hK : KN S t) (fin : ∀ X, (∀ a k, a ≠ 243 → ¬ (a = 209 ∧ k = 39) → X.1 a k = S.1 a k) → X.2 = S.2 → X.1 209 39 = 1 → (∀ p, p < 6 → X.1 243 p = nI (mCu S t p)) → post X) : wp_M_reckonAll S 209 post := by
  unfold wp_M_reckonAll wp_M_reckonAll_22
  refine ⟨fun q => ?_, fun q => ?_⟩
  · rcases hK with hK | ⟨h1, h2⟩
    · exact absurd hK q
    · exact fin S (fun _ _ _ _ => rfl) rfl h1 h2
  · refine reckon_ex (j := 0) (hRS 0 (by omega)) (by omega) ht hS (fun X hX hx => ?_)
    have e0 : ∀ a k, a ≠ 243 → X.1 a k = S.1 a k := fun a k ha => hX.1 a k (by omega)
    refine reckon_ex (j := 1) ((hRS 1 (by omega)).eq e0) (by omega) ht ((e0 209 1 (by omega)).trans hS) (fun Y hY hy => ?_)
    intro S4 e4
    subst e4
    refine fin _ (fun a k h1 h2 => ?_) ?_ (by simp [gi_i]) (fun p hp => ?_)
    · rw [gi_i, if_neg h2, hY.1 a k (by omega), e0 a k h1]
    · show Y.2 = S.2
      rw [hY.2, hX.2]
    · rw [gi_i, if_neg (by omega)]
      rcases (show p % 2 = 0 ∨ p % 2 = 1 by omega) with q | q
      · have e : p = 0 + 2 * (p / 2) := by omega
        rw [hY.1 243 p (by omega)]
        rw [e, mCu_site (by decide) (by omega)]
        exact hx (p / 2) (by omega)
      · have e : p = 1 + 2 * (p / 2) := by omega
        rw [e, mCu_site (by decide) (by omega)]
        exact hy (p / 2) (by omega)
theorem mCh_i {cu τ o k : Nat} {A : fw_S} (h : ¬ (o = 231 ∨ o = 232)) : (mCh cu τ A).1 o k = A.1 o k := by
  unfold mCh
  split
  · split
    · rw [gi_i, if_neg (by omega), gi_i, if_neg (by omega), gl_i, gl_i]
    · rfl
  · rfl
theorem mCu_tn {S : fw_S} {t t' p : Nat} (h : t' / 900 = t / 900) : mCu S t' p = mCu S t p := by
  unfold mCu
  rw [h]
def out6 (X Z : fw_S) : Prop := (∀ a k, (a < 215 ∨ 240 < a) → ¬ (a = 209 ∧ k = 39) → Z.1 a k = X.1 a k) ∧ ∀ a k, (a < 215 ∨ 240 < a) → Z.2 a k = X.2 a k
theorem second_ex {Y : fw_S} {τ : Nat} {post : fw_S → Prop} (hτ : τ + 1 < 2 ^ 31) (h1 : Y.1 209 1 = nI τ) (hRS : ∀ j, j < 2 → RS Y j (Y.1 210 j).toNatClampNeg (fun c => mOn Y (j + 2 * c)) (fun c => mAc Y (j + 2 * c)) (fun c => mWn Y (j + 2 * c)) (fun c => mGw Y (j + 2 * c))) (hK : KN Y τ) (hz : ∀ q, q < 6 → ∃ z, z ≤ 23 ∧ Y.1 221 q = nI z)
    (fin : ∀ Z, (∀ a k, (a < 215 ∨ 240 < a) → a ≠ 243 → ¬ (a = 209 ∧ (k = 1 ∨ k = 39)) → Z.1 a k = Y.1 a k) → (∀ a k, (a < 215 ∨ 240 < a) → Z.2 a k = Y.2 a k) → Z.1 209 1 = nI (τ + 1) → KN Z (τ + 1) → (∀ q, q < 6 → vw q Z = mStep (mCu Y τ q) τ (vw q Y)) → post Z) : wp_M_second Y 209 post := by
  refine rall_y (by omega) h1 hRS hK (fun X x1 x2 x3 x4 => ?_)
  have vX : ∀ q, q < 6 → vw q X = vw q Y := fun q hq => by
    have := pO_lt hq
    refine vw_eq (fun o k hf => x1 o k ?_ ?_) (fun o k hf => by rw [x2])
    all_goals
      unfold foot at hf
      omega
  -- the sending
  have send : ∀ (B : fw_S), B.1 209 1 = nI (τ + 1) → (∀ Z, out6 B Z → (∀ k, Z.1 209 k = B.1 209 k) → (∀ a k, isC a → Z.1 a k = B.1 a k) → (∀ q, q < 6 → vw q Z = mSd (τ + 1) (vw q B)) → post Z) →
      ∀ d p f Z, p + d = 6 → d < f → out6 B Z → (∀ k, Z.1 209 k = B.1 209 k) → (∀ a k, isC a → Z.1 a k = B.1 a k) → (∀ q, q < 6 → vw q Z = if q < p then mSd (τ + 1) (vw q B) else vw q B) → wp_M_second_197 209 post f Z (nI p) := by
    intro B b1 bfin d
    induction d with
    | zero =>
      intro p f Z hp hf o1 o2 o3 o4
      obtain ⟨f, rfl⟩ : ∃ f', f = f' + 1 := ⟨f - 1, by omega⟩
      have : p = 6 := by omega
      subst this
      rw [wp_M_second_197]
      refine ⟨fun _ => bfin Z o1 o2 o3 (fun q hq => ?_), fun q => absurd (by decide) q⟩
      rw [o4 q hq, if_pos hq]
    | succ d ih =>
      intro p f Z hp hf o1 o2 o3 o4
      obtain ⟨f, rfl⟩ : ∃ f', f = f' + 1 := ⟨f - 1, by omega⟩
      have hp6 : p < 6 := by omega
      have i1 : ¬ (6 : Int32) ≤ nI p := nI_ge (b := 6) (by omega) (by omega)
      rw [wp_M_second_197]
      refine ⟨fun q => absurd q i1, fun _ => msend_ex (τ := τ + 1) hp6 ((o2 1).trans b1) (fun Z' x2 fr e => ?_)⟩
      intro v1 ev
      rw [ev, nI_1]
      refine ih (p + 1) f Z' (by omega) (by omega) ⟨fun a k ha h39 => ?_, fun a k ha => ?_⟩ (fun k => ?_) (fun a k ha => ?_) (fun q hq => ?_)
      · rw [fr.1 a k (by omega) (by omega)]
        exact o1.1 a k ha h39
      · rw [fr.2 a k (by omega)]
        exact o1.2 a k ha
      · rw [fr.1 209 k (by omega) (by omega)]
        exact o2 k
      · have hc := ha
        unfold isC at ha
        rw [fr.1 a k (by omega) (by omega)]
        exact o3 a k hc
      · by_cases e' : q = p
        · subst e'
          rw [e, o4 q hq, if_neg (by omega), if_pos (by omega)]
        · rw [fr.other hq e', o4 q hq]
          by_cases q2 : q < p
          · rw [if_pos q2, if_pos (by omega)]
          · rw [if_neg q2, if_neg (by omega)]
  -- the reading
  have read : ∀ (B : fw_S), B.1 209 1 = nI (τ + 1) → (∀ q, q < 6 → ∃ z, z ≤ 23 ∧ (vw q B).1 221 0 = nI z) → (∀ Z, out6 B Z → (∀ k, Z.1 209 k = B.1 209 k) → (∀ a k, isC a → Z.1 a k = B.1 a k) → (∀ q, q < 6 → vw q Z = mRd (τ + 1) (vw q B)) → ∃ f0, wp_M_second_197 209 post f0 Z 0) →
      ∀ d p f Z, p + d = 6 → d < f → out6 B Z → (∀ k, Z.1 209 k = B.1 209 k) → (∀ a k, isC a → Z.1 a k = B.1 a k) → (∀ q, q < 6 → vw q Z = if q < p then mRd (τ + 1) (vw q B) else vw q B) → wp_M_second_147 209 post f Z (nI p) := by
    intro B b1 bz bfin d
    induction d with
    | zero =>
      intro p f Z hp hf o1 o2 o3 o4
      obtain ⟨f, rfl⟩ : ∃ f', f = f' + 1 := ⟨f - 1, by omega⟩
      have : p = 6 := by omega
      subst this
      rw [wp_M_second_147]
      refine ⟨fun _ => bfin Z o1 o2 o3 (fun q hq => ?_), fun q => absurd (by decide) q⟩
      rw [o4 q hq, if_pos hq]
    | succ d ih =>
      intro p f Z hp hf o1 o2 o3 o4
      obtain ⟨f, rfl⟩ : ∃ f', f = f' + 1 := ⟨f - 1, by omega⟩
      have hp6 : p < 6 := by omega
      have i1 : ¬ (6 : Int32) ≤ nI p := nI_ge (b := 6) (by omega) (by omega)
      obtain ⟨z, hz23, hz1⟩ := bz p hp6
      have hz2 : Z.1 221 p = nI z := by
        rw [vm_i (by unfold isM; omega), o4 p hp6, if_neg (by omega)]
        exact hz1
      rw [wp_M_second_147]
      refine ⟨fun q => absurd q i1, fun _ => mread_ex (τ := τ + 1) hp6 hτ ((o2 1).trans b1) hz2 hz23 (fun Z' fr e => ?_)⟩
      intro v1 ev
      rw [ev, nI_1]
      refine ih (p + 1) f Z' (by omega) (by omega) ⟨fun a k ha h39 => ?_, fun a k ha => ?_⟩ (fun k => ?_) (fun a k ha => ?_) (fun q hq => ?_)
      · rw [fr.1 a k (by omega) (by omega)]
        exact o1.1 a k ha h39
      · rw [fr.2 a k (by omega)]
        exact o1.2 a k ha
      · rw [fr.1 209 k (by omega) (by omega)]
        exact o2 k
      · have hc := ha
        unfold isC at ha
        rw [fr.1 a k (by omega) (by omega)]
        exact o3 a k hc
      · by_cases e' : q = p
        · subst e'
          rw [e, o4 q hq, if_neg (by omega), if_pos (by omega)]
        · rw [fr.other hq e', o4 q hq]
          by_cases q2 : q < p
          · rw [if_pos q2, if_pos (by omega)]
          · rw [if_neg q2, if_neg (by omega)]
  -- after the charging
  have tail : ∀ Z, out6 X Z → (Z.1 209 39 = 0 ∨ (Z.1 209 39 = 1 ∧ ∀ a k, isC a → Z.1 a k = X.1 a k)) → (∀ q, q < 6 → vw q Z = mCh (mCu Y τ q) τ (vw q X)) → ∀ v, (v = 0 ∨ (v = 1 ∧ Z.1 209 39 = 1 ∧ (τ + 1) / 900 = τ / 900)) → ∀ S2, S2 = fw_si Z 209 1 (nI (τ + 1)) → wp_M_second_142 209 post S2 6 v := by
    intro Z o1 o2 o3 v hv S2 e2
    refine ⟨hv.elim (fun x => .inl x) (fun x => .inr x.1), fun B eB => ⟨7, ?_⟩⟩
    have b1 : B.1 209 1 = nI (τ + 1) := by rw [eB, gi_i, if_neg (by omega), e2, gi_i, if_pos ⟨rfl, rfl⟩]
    have bo : ∀ a k, ¬ (a = 209 ∧ (k = 1 ∨ k = 39)) → B.1 a k = Z.1 a k := fun a k hn => by
      rw [eB, gi_i, if_neg (by omega), e2, gi_i, if_neg (by omega)]
    have b2 : B.2 = Z.2 := by rw [eB, e2]; rfl
    have bv : ∀ q, q < 6 → vw q B = mCh (mCu Y τ q) τ (vw q X) := fun q hq => by
      rw [eB, vw_si (nofoot hq (by omega)), e2, vw_si (nofoot hq (by omega))]
      exact o3 q hq
    have bK : KN B (τ + 1) := by
      rcases hv with hv | ⟨hv, hk1, htn⟩
      · exact .inl (by rw [eB, gi_i, if_pos ⟨rfl, rfl⟩, hv])
      · refine .inr ⟨by rw [eB, gi_i, if_pos ⟨rfl, rfl⟩, hv], fun p hp => ?_⟩
        rcases o2 with o2 | ⟨-, o2⟩
        · rw [o2] at hk1
          exact absurd hk1 (by decide)
        · have hc : ∀ a k, isC a → B.1 a k = X.1 a k := fun a k ha => by
            rw [bo a k (by unfold isC at ha; omega)]
            exact o2 a k ha
          rw [hc 243 p (by unfold isC; omega), x4 p hp, mCu_tn htn]
          refine congrArg nI (mCu_eq2 (fun a k ha hn => ?_)).symm
          rw [hc a k ha, x1 a k hn (by unfold isC at ha; omega)]
    refine read B b1 (fun q hq => ?_) (fun C c1 c2 c3 c4 => ⟨7, ?_⟩) 6 0 7 B (by omega) (by omega) ⟨fun _ _ _ _ => rfl, fun _ _ _ => rfl⟩ (fun _ => rfl) (fun _ _ _ => rfl) (fun q hq => by rw [if_neg (by omega)])
    · obtain ⟨z, hz23, hz1⟩ := hz q hq
      refine ⟨z, hz23, ?_⟩
      rw [bv q hq, mCh_i (by omega), vX q hq, ← vm_i (by unfold isM; omega)]
      exact hz1
    · refine send C ((c2 1).trans b1) (fun D d1 d2 d3 d4 => ?_) 6 0 7 C (by omega) (by omega) ⟨fun _ _ _ _ => rfl, fun _ _ _ => rfl⟩ (fun _ => rfl) (fun _ _ _ => rfl) (fun q hq => by rw [if_neg (by omega)])
      refine fin D (fun a k ha h243 h209 => ?_) (fun a k ha => ?_) ?_ ?_ (fun q hq => ?_)
      · rw [d1.1 a k ha (by omega), c1.1 a k ha (by omega), bo a k h209, o1.1 a k ha (by omega), x1 a k h243 (by omega)]
      · rw [d1.2 a k ha, c1.2 a k ha, b2, o1.2 a k ha, x2]
      · rw [d2 1, c2 1, b1]
      · exact KN_eq (KN_eq bK (c2 39) c3) (d2 39) d3
      · rw [d4 q hq, c4 q hq, bv q hq, vX q hq]
        rfl
  -- the charging
  have charge : ∀ d p f Z, p + d = 6 → d < f → out6 X Z → (Z.1 209 39 = 0 ∨ (Z.1 209 39 = 1 ∧ ∀ a k, isC a → Z.1 a k = X.1 a k)) → (∀ q, q < 6 → vw q Z = if q < p then mCh (mCu Y τ q) τ (vw q X) else vw q X) → wp_M_second_6 209 post f Z (nI p) := by
    intro d
    induction d with
    | zero =>
      intro p f Z hp hf o1 o2 o3
      obtain ⟨f, rfl⟩ : ∃ f', f = f' + 1 := ⟨f - 1, by omega⟩
      have : p = 6 := by omega
      subst this
      rw [wp_M_second_6]
      refine ⟨fun _ => fun S2 e2 => ?_, fun q => absurd (by decide) q⟩
      have z1 : Z.1 209 1 = nI τ := by rw [o1.1 209 1 (by omega) (by omega), x1 209 1 (by omega) (by omega), h1]
      rw [z1, nI_1] at e2
      have o3' : ∀ q, q < 6 → vw q Z = mCh (mCu Y τ q) τ (vw q X) := fun q hq => by rw [o3 q hq, if_pos hq]
      have s39 : S2.1 209 39 = Z.1 209 39 := by rw [e2, gi_i, if_neg (by omega)]
      have s1 : S2.1 209 1 = nI (τ + 1) := by rw [e2, gi_i, if_pos ⟨rfl, rfl⟩]
      have e9 : nI (τ + 1) - nI (τ + 1) / 900 * 900 = nI ((τ + 1) % 900) := pk_rem (d := 900) hτ (by omega) (by omega)
      rw [s39, s1, e9]
      refine ⟨fun _ => tail Z o1 o2 o3' 0 (.inl rfl) S2 e2, fun q => ⟨fun _ => tail Z o1 o2 o3' 0 (.inl rfl) S2 e2, fun q2 => tail Z o1 o2 o3' 1 (.inr ⟨rfl, ?_, ?_⟩) S2 e2⟩⟩
      · rcases o2 with o2 | o2
        · exact absurd o2 q
        · exact o2.1
      · have : (τ + 1) % 900 ≠ 0 := fun x => q2 (by rw [x]; rfl)
        omega
    | succ d ih =>
      intro p f Z hp hf o1 o2 o3
      obtain ⟨f, rfl⟩ : ∃ f', f = f' + 1 := ⟨f - 1, by omega⟩
      have hp6 : p < 6 := by omega
      have i1 : ¬ (6 : Int32) ≤ nI p := nI_ge (b := 6) (by omega) (by omega)
      have z1 : Z.1 209 1 = nI τ := by rw [o1.1 209 1 (by omega) (by omega), x1 209 1 (by omega) (by omega), h1]
      have z2 : Z.1 243 p = nI (mCu Y τ p) := by rw [o1.1 243 p (by omega) (by omega), x4 p hp6]
      rw [wp_M_second_6]
      refine ⟨fun q => absurd q i1, fun _ => mch_ex hp6 z2 z1 (fun Z' fr e hk => ?_)⟩
      intro v1 ev
      rw [ev, nI_1]
      refine ih (p + 1) f Z' (by omega) (by omega) ⟨fun a k ha h39 => ?_, fun a k ha => ?_⟩ ?_ (fun q hq => ?_)
      · rw [fr.1 a k (by omega) h39]
        exact o1.1 a k ha h39
      · rw [fr.2 a k (by omega)]
        exact o1.2 a k ha
      · rcases hk with hk | hk
        · rw [hk]
          exact o2
        · exact .inl hk
      · by_cases e' : q = p
        · subst e'
          rw [e, o3 q hq, if_neg (by omega), if_pos (by omega)]
        · rw [fr.other hq e', o3 q hq]
          by_cases q2 : q < p
          · rw [if_pos q2, if_pos (by omega)]
          · rw [if_neg q2, if_neg (by omega)]
  exact ⟨7, charge 6 0 7 X (by omega) (by omega) ⟨fun _ _ _ _ => rfl, fun _ _ _ => rfl⟩ (.inr ⟨x3, fun _ _ _ => rfl⟩) (fun q hq => by rw [if_neg (by omega)])⟩
