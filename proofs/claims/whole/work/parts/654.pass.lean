/-- which points have gone on: the sites before j, and of site j the places before c -/
def dn (j c q : Nat) : Bool := decide (q % 2 < j ∨ (q % 2 = j ∧ q / 2 < c))
def GI (X : fw_S) (cu : Nat → Nat) (t m j c : Nat) (Z : fw_S) : Prop :=
  (∀ a k, (∀ q, q < 6 → ¬ (pO q ≤ a ∧ a < pO q + 31)) → Z.1 a k = X.1 a k ∧ Z.2 a k = X.2 a k) ∧ ∀ q, q < 6 → vw q Z = if dn j c q = true then cStep (cu q) m t (vw q X) else vw q X
theorem goOn_ex {X : fw_S} {t m : Nat} {cu : Nat → Nat} {post : fw_S → Prop} (hτ : t + m < 2 ^ 31) (h0 : X.1 0 2 = nI t) (hcu : ∀ p, p < 6 → X.1 (pO p) 11 = nI (cu p)) (hq : ∀ p, p < 6 → ∃ h z, h < 24 ∧ z ≤ 23 ∧ X.1 (pO p + 2) 1 = nI h ∧ X.1 (pO p + 2) 3 = nI z)
    (fin : ∀ Z, (∀ a k, (∀ q, q < 6 → ¬ (pO q ≤ a ∧ a < pO q + 31)) → ¬ (a = 0 ∧ k = 2) → Z.1 a k = X.1 a k ∧ Z.2 a k = X.2 a k) → Z.1 0 2 = nI (t + m) → (∀ p, p < 6 → vw p Z = cStep (cu p) m t (vw p X)) → post Z) : wp_Out_goOn X 0 (nI m) post := by
  intro S1 e1 v2 e2
  rw [h0, nI_add] at e1
  subst e2
  have hX1 : ∀ q, q < 6 → vw q S1 = vw q X := fun q hq => by rw [e1, vw_si (nofoot hq (by omega))]
  have h02 : S1.1 0 2 = nI (t + m) := by rw [e1, gi_i, if_pos ⟨rfl, rfl⟩]
  have no0 : ∀ q, q < 6 → ¬ (pO q ≤ 0 ∧ 0 < pO q + 31) := fun q hq => by have := pO_lt hq; omega
  -- the points of one site
  have inner : ∀ (k21 : fw_S → Int32 → Int32 → Prop) (j : Nat), j < 2 → (∀ Z, GI S1 cu t m (j + 1) 0 Z → k21 Z (nI 2) (nI (j + 1))) →
      ∀ d c f Z u5, c + d = 3 → d < f → GI S1 cu t m j c Z → wp_Out_goOn_48 0 (nI m) post k21 f Z (nI 2) (nI j) u5 (19 + 95 * j + 1) (nI 3) (nI c) := by
    intro k21 j hj hk d
    induction d with
    | zero =>
      intro c f Z u5 hc hf hZ
      obtain ⟨f, rfl⟩ : ∃ f', f = f' + 1 := ⟨f - 1, by omega⟩
      have : c = 3 := by omega
      subst this
      rw [wp_Out_goOn_48]
      refine ⟨fun _ => fun v2 e2 => ?_, fun q => absurd (by decide) q⟩
      rw [e2, nI_1]
      refine hk Z ⟨hZ.1, fun q hq => ?_⟩
      rw [hZ.2 q hq]
      have : dn j 3 q = dn (j + 1) 0 q := by
        unfold dn
        exact decide_eq_decide.mpr (by omega)
      rw [this]
    | succ d ih =>
      intro c f Z u5 hc hf hZ
      obtain ⟨f, rfl⟩ : ∃ f', f = f' + 1 := ⟨f - 1, by omega⟩
      have hc3 : c < 3 := by omega
      have hp : j + 2 * c < 6 := by omega
      have i1 : ¬ nI 3 ≤ nI c := nI_ge (by omega) (by omega)
      have i2 : vp_in (nI c) 3 := vp_in_nI (by omega) (by omega)
      have i3 : 19 + 95 * j + 1 + (1 + 31 * (nI c).toNatClampNeg) = pO (j + 2 * c) := by
        rw [nI_clamp (by omega), ← sA_pO hj hc3]
        rfl
      have hv : vw (j + 2 * c) Z = vw (j + 2 * c) X := by
        rw [hZ.2 _ hp, hX1 _ hp]
        have : dn j c (j + 2 * c) = false := by
          unfold dn
          exact decide_eq_false (by omega)
        rw [this]
        rfl
      obtain ⟨h, z, hh, hz, q1, q2⟩ := hq _ hp
      have cells : ∀ o k, o < 31 → Z.1 (pO (j + 2 * c) + o) k = X.1 (pO (j + 2 * c) + o) k := fun o k ho => by
        rw [vx_i ho, vx_i (S := X) ho, hv]
      have z02 : Z.1 0 2 = nI (t + m) := (hZ.1 0 2 no0).1.trans h02
      rw [wp_Out_goOn_48, i3]
      refine ⟨fun q => absurd q i1, fun _ => ⟨i2, ?_⟩⟩
      refine point_ex (cu := cu (j + 2 * c)) hp hτ z02 ((cells 0 11 (by omega)).trans (hcu _ hp)) ((cells 2 1 (by omega)).trans q1) ((cells 2 3 (by omega)).trans q2) hh hz (fun Z' f' e' => ?_)
      intro v7 e7
      rw [e7, nI_1]
      refine ih (c + 1) f Z' u5 (by omega) (by omega) ⟨fun a k hn => ?_, fun q hq => ?_⟩
      · have := f' a k (hn _ hp)
        exact ⟨this.1.trans (hZ.1 a k hn).1, this.2.trans (hZ.1 a k hn).2⟩
      · by_cases e : q = j + 2 * c
        · have hd : dn j (c + 1) q = true := by
            unfold dn
            exact decide_eq_true (by omega)
          rw [hd, if_pos rfl, e, e', hv, hX1 _ hp]
        · rw [f'.other hp hq e, hZ.2 q hq]
          have : dn j c q = dn j (c + 1) q := by
            unfold dn
            exact decide_eq_decide.mpr (by omega)
          rw [this]
  have outer : ∀ d j f Z, j + d = 2 → d < f → GI S1 cu t m j 0 Z → wp_Out_goOn_21 0 (nI m) post f Z (nI 2) (nI j) := by
    intro d
    induction d with
    | zero =>
      intro j f Z hj hf hZ
      obtain ⟨f, rfl⟩ : ∃ f', f = f' + 1 := ⟨f - 1, by omega⟩
      have : j = 2 := by omega
      subst this
      rw [wp_Out_goOn_21]
      refine ⟨fun _ => fin Z (fun a k hn h2 => ?_) ((hZ.1 0 2 no0).1.trans h02) (fun p hp => ?_), fun q => absurd (by decide) q⟩
      · have := hZ.1 a k hn
        rw [this.1, this.2, e1, gi_i, if_neg h2]
        exact ⟨rfl, rfl⟩
      · rw [hZ.2 p hp]
        have : dn 2 0 p = true := by
          unfold dn
          exact decide_eq_true (by omega)
        rw [this, if_pos rfl, hX1 p hp]
    | succ d ih =>
      intro j f Z hj hf hZ
      obtain ⟨f, rfl⟩ : ∃ f', f = f' + 1 := ⟨f - 1, by omega⟩
      have hj2 : j < 2 := by omega
      have i1 : ¬ nI 2 ≤ nI j := nI_ge (by omega) (by omega)
      have i2 : vp_in (nI j) 2 := vp_in_nI (by omega) (by omega)
      have i3 : 0 + 1 + (18 + 95 * (nI j).toNatClampNeg) = 19 + 95 * j := by
        rw [nI_clamp (by omega)]
        omega
      rw [wp_Out_goOn_21, i3]
      refine ⟨fun q => absurd q i1, fun _ => ⟨i2, fun v3 e3 => ⟨4, ?_⟩⟩⟩
      rw [e3]
      exact inner _ j hj2 (fun Z' hZ' => ih (j + 1) f Z' (by omega) (by omega) hZ') 3 0 4 Z _ (by omega) (by omega) hZ
  refine ⟨3, outer 2 0 3 S1 (by omega) (by omega) ⟨fun _ _ _ => ⟨rfl, rfl⟩, fun q hq => ?_⟩⟩
  have : dn 0 0 q = false := by
    unfold dn
    exact decide_eq_false (by omega)
  rw [this]
  rfl
