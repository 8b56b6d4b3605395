/-! the price: the two ways to find the band -/
def lb (mn : Nat → Int32) (M : Int32) : Nat → Int32 × Int32
  | 0 => (-1, -1)
  | k + 1 => if M < mn k then lb mn M k else if mn k ≤ (lb mn M k).2 then lb mn M k else (nI k, mn k)
def mnOk (mn : Nat → Int32) : Prop := ∀ k, k < 4 → mn k = -1 ∨ ∃ v, v < 1440 ∧ mn k = nI v
theorem m1lt (v : Nat) (h : v < 2 ^ 31) : ¬ nI v ≤ -1 := by
  rw [Int32.le_iff_toInt_le, nI_toInt h]
  have : (-1 : Int32).toInt = -1 := by decide
  omega
theorem lb_inv {mn : Nat → Int32} {M : Int32} (hm : mnOk mn) : ∀ k, k ≤ 4 → lb mn M k = (-1, -1) ∨ ∃ j v, j < k ∧ v < 1440 ∧ mn j = nI v ∧ lb mn M k = (nI j, nI v) := by
  intro k
  induction k with
  | zero => exact fun _ => .inl rfl
  | succ k ih =>
    intro hk
    have ih := ih (by omega)
    have up : (lb mn M (k + 1) = lb mn M k) → (lb mn M (k + 1) = (-1, -1) ∨ ∃ j v, j < k + 1 ∧ v < 1440 ∧ mn j = nI v ∧ lb mn M (k + 1) = (nI j, nI v)) := fun e => by
      rw [e]
      rcases ih with h | ⟨j, v, h1, h2⟩
      · exact .inl h
      · exact .inr ⟨j, v, by omega, h2⟩
    by_cases h1 : M < mn k
    · exact up (by rw [lb, if_pos h1])
    · by_cases h2 : mn k ≤ (lb mn M k).2
      · exact up (by rw [lb, if_neg h1, if_pos h2])
      · rcases hm k (by omega) with h3 | ⟨v, hv, h3⟩
        · exfalso
          apply h2
          rw [h3]
          rcases ih with h | ⟨j, v, h4, h5, h6, h⟩
          · rw [h]; decide
          · rw [h]
            show (-1 : Int32) ≤ nI v
            rw [Int32.le_iff_toInt_le, nI_toInt (by omega)]
            have : (-1 : Int32).toInt = -1 := by decide
            omega
        · exact .inr ⟨k, v, by omega, hv, h3, by rw [lb, if_neg h1, if_neg h2, h3]⟩
theorem latest_ex {S : fw_S} {M : Int32} {post : fw_S → Int32 → Prop} (h : post S (lb (S.1 7) M 4).1) : wp_Tariff_latestBand S 6 M post := by
  have key : ∀ d k f, k + d = 4 → d < f → wp_Tariff_latestBand_7 6 M post f S (lb (S.1 7) M k).1 (lb (S.1 7) M k).2 (nI k) := by
    intro d
    induction d with
    | zero =>
      intro k f hk hf
      obtain ⟨f, rfl⟩ : ∃ f', f = f' + 1 := ⟨f - 1, by omega⟩
      have : k = 4 := by omega
      subst this
      rw [wp_Tariff_latestBand_7]
      exact ⟨fun _ => h, fun q => absurd (by decide) q⟩
    | succ d ih =>
      intro k f hk hf
      obtain ⟨f, rfl⟩ : ∃ f', f = f' + 1 := ⟨f - 1, by omega⟩
      have e1 : ¬ (4 : Int32) ≤ nI k := nI_ge (b := 4) (by omega) (by omega)
      have e2 : vp_in (nI k) 4 := vp_in_nI (by omega) (by omega)
      have e3 : (nI k).toNatClampNeg = k := nI_clamp (by omega)
      have ih := ih (k + 1) f (by omega) (by omega)
      rw [wp_Tariff_latestBand_7]
      refine ⟨fun q => absurd q e1, fun _ => ⟨e2, fun q => ?_, fun q => ⟨e2, fun q2 => ?_, fun q2 => ⟨e2, fun v7 e7 => ?_⟩⟩⟩⟩
      · rw [e3] at q
        intro v1 e
        rw [e, nI_1]
        rw [lb, if_pos q] at ih
        exact ih
      · rw [e3] at q q2
        intro v1 e
        rw [e, nI_1]
        rw [lb, if_neg q, if_pos q2] at ih
        exact ih
      · rw [e3] at q q2 e7
        intro v1 e
        rw [e, nI_1, e7]
        rw [lb, if_neg q, if_neg q2] at ih
        exact ih
  exact ⟨5, key 4 0 5 (by omega) (by omega)⟩
/-- the price at a time -/
def prAt (mn pr : Nat → Int32) (t : Nat) : Int32 :=
  if (lb mn (nI (t / 60 % 1440)) 4).1 = -1 then (if (lb mn 1439 4).1 = -1 then 0 else pr (lb mn 1439 4).1.toNatClampNeg) else pr (lb mn (nI (t / 60 % 1440)) 4).1.toNatClampNeg
theorem minute_ex {t : Nat} (ht : t < 2 ^ 31) : nI t / 60 - nI t / 60 / 1440 * 1440 = nI (t / 60 % 1440) := by
  rw [show nI t / 60 = nI (t / 60) from pk_div (d := 60) ht (by omega) (by omega)]
  exact pk_rem (d := 1440) (by omega) (by omega) (by omega)
theorem nIm1 {j : Nat} (h : j < 2 ^ 31) : ¬ nI j = -1 := fun q => by
  have := congrArg Int32.toInt q
  rw [nI_toInt h] at this
  have e : (-1 : Int32).toInt = -1 := by decide
  omega
theorem price_c {S : fw_S} {t : Nat} {post : fw_S → Int32 → Prop} (ht : t < 2 ^ 31) (hm : mnOk (S.1 7)) (h : post S (prAt (S.1 7) (S.1 8) t)) : wp_Tariff_priceAt S 6 (nI t) post := by
  have vi : ∀ M, (lb (S.1 7) M 4).1 = -1 ∨ vp_in (lb (S.1 7) M 4).1 4 := fun M => by
    rcases lb_inv (M := M) hm 4 (by omega) with e | ⟨j, v, h1, h2, h3, e⟩
    · exact .inl (by rw [e])
    · exact .inr (by rw [e]; exact vp_in_nI h1 (by omega))
  unfold wp_Tariff_priceAt
  rw [minute_ex ht]
  apply latest_ex
  unfold prAt at h
  refine ⟨fun q => ?_, fun q => ?_⟩
  · rw [if_neg q] at h
    unfold wp_Tariff_priceAt_26 wp_Tariff_priceAt_41
    refine ⟨fun _ => ⟨?_, h⟩, fun q2 => absurd q2 q⟩
    rcases vi (nI (t / 60 % 1440)) with e | e
    · exact absurd e q
    · exact e
  · rw [if_pos q] at h
    apply latest_ex
    unfold wp_Tariff_priceAt_26 wp_Tariff_priceAt_41
    refine ⟨fun q2 => ⟨?_, by rw [if_neg q2] at h; exact h⟩, fun q2 => by rw [if_pos q2] at h; exact h⟩
    rcases vi 1439 with e | e
    · exact absurd e q2
    · exact e
theorem price_m {S : fw_S} {t : Nat} {post : fw_S → Int32 → Prop} (ht : t < 2 ^ 31) (hm : mnOk (S.1 211)) (h : post S (prAt (S.1 211) (S.1 212) t)) : wp_M_priceAt S 209 (nI t) post := by
  unfold wp_M_priceAt
  rw [minute_ex ht]
  intro v1 e1
  subst e1
  have key : ∀ d k f, k + d = 4 → d < f → wp_M_priceAt_17 209 (nI t) post f S (nI (t / 60 % 1440)) (lb (S.1 211) (nI (t / 60 % 1440)) k).1 (lb (S.1 211) 1439 k).1 (nI k) := by
    intro d
    induction d with
    | zero =>
      intro k f hk hf
      obtain ⟨f, rfl⟩ : ∃ f', f = f' + 1 := ⟨f - 1, by omega⟩
      have : k = 4 := by omega
      subst this
      rw [wp_M_priceAt_17]
      refine ⟨fun _ => ?_, fun q => absurd (by decide) q⟩
      unfold wp_M_priceAt_119 wp_M_priceAt_134
      unfold prAt at h
      rcases lb_inv (M := nI (t / 60 % 1440)) hm 4 (by omega) with e | ⟨j, v, h1, h2, h3, e⟩
      · rw [e] at h ⊢
        simp only [if_true] at h
        refine ⟨fun q => absurd q (by decide), fun _ => ?_⟩
        rcases lb_inv (M := 1439) hm 4 (by omega) with e' | ⟨j, v, h1, h2, h3, e'⟩
        · rw [e'] at h ⊢
          simp only [if_true] at h
          exact ⟨fun q => absurd q (by decide), fun _ => h⟩
        · rw [e'] at h ⊢
          simp only [if_neg (nIm1 (show j < 2 ^ 31 by omega))] at h
          exact ⟨fun _ => ⟨vp_in_nI h1 (by omega), h⟩, fun q => absurd (nI_pos' (by omega)) q⟩
      · rw [e] at h ⊢
        simp only [if_neg (nIm1 (show j < 2 ^ 31 by omega))] at h
        exact ⟨fun _ => ⟨fun _ => ⟨vp_in_nI h1 (by omega), h⟩, fun q => absurd (nI_pos' (by omega)) q⟩, fun q => absurd (nI_pos' (by omega)) q⟩
    | succ d ih =>
      intro k f hk hf
      obtain ⟨f, rfl⟩ : ∃ f', f = f' + 1 := ⟨f - 1, by omega⟩
      have e1 : ¬ (4 : Int32) ≤ nI k := nI_ge (b := 4) (by omega) (by omega)
      have e2 : vp_in (nI k) 4 := vp_in_nI (by omega) (by omega)
      have e3 : (nI k).toNatClampNeg = k := nI_clamp (by omega)
      have ih := ih (k + 1) f (by omega) (by omega)
      have i1 := lb_inv (M := nI (t / 60 % 1440)) hm k (by omega)
      have i2 := lb_inv (M := 1439) hm k (by omega)
      -- the greatest band
      have K : ∀ x3, x3 = (lb (S.1 211) (nI (t / 60 % 1440)) (k + 1)).1 → wp_M_priceAt_67 209 (nI t) post (fun S x2 x3 x4 x5 => wp_M_priceAt_17 209 (nI t) post f S x2 x3 x4 x5) S (nI (t / 60 % 1440)) x3 (lb (S.1 211) 1439 k).1 (nI k) := by
        intro x3 hx3
        subst hx3
        have fin : ∀ x4, x4 = (lb (S.1 211) 1439 (k + 1)).1 → wp_M_priceAt_103 209 (nI t) post (fun S x2 x3 x4 x5 => wp_M_priceAt_17 209 (nI t) post f S x2 x3 x4 x5) S (nI (t / 60 % 1440)) (lb (S.1 211) (nI (t / 60 % 1440)) (k + 1)).1 x4 (nI k) := by
          intro x4 h4 v1 ev
          rw [ev, nI_1, h4]
          exact ih
        rcases hm k (by omega) with h3 | ⟨v, hv, h3⟩
        · have st : lb (S.1 211) 1439 (k + 1) = lb (S.1 211) 1439 k := by
            rw [lb, h3]
            rcases i2 with e | ⟨j, v, q1, q2, q3, e⟩
            · rw [e]; simp
            · rw [e]
              rw [if_neg (by decide), if_pos (show (-1 : Int32) ≤ nI v by
                rw [Int32.le_iff_toInt_le, nI_toInt (by omega)]
                have : (-1 : Int32).toInt = -1 := by decide
                omega)]
          exact ⟨e2, fun _ => fin _ (by rw [st]), fun q => absurd (by rw [e3]; show S.1 211 k < 0; rw [h3]; decide) q⟩
        · have n1 : ¬ (S.1 211 k < 0) := by rw [h3]; exact nI_pos (by omega)
          have n2 : ¬ ((1439 : Int32) < S.1 211 k) := by rw [h3]; exact nI_nlt (a := 1439) (b := v) (by omega) (by omega)
          refine ⟨e2, fun q => absurd (by rw [e3] at q; exact q) n1, fun _ => ?_⟩
          rcases i2 with e | ⟨j, v', q1, q2, q3, e⟩
          · have st : (lb (S.1 211) 1439 (k + 1)).1 = nI k := by
              rw [lb, if_neg n2, e, if_neg (by rw [h3]; exact m1lt v (by omega))]
            rw [e]
            exact ⟨fun _ => fin _ st.symm, fun q => absurd (by decide) q⟩
          · rw [e]
            have c3 : (nI j).toNatClampNeg = j := nI_clamp (by omega)
            refine ⟨fun q => absurd q (nI_pos (by omega)), fun _ => ⟨e2, vp_in_nI (by omega) (by omega), fun q => ?_, fun q => ?_⟩⟩
            · rw [e3] at q
              have q : S.1 211 k ≤ S.1 211 j := by rw [c3] at q; exact q
              refine fin _ ?_
              rw [lb, if_neg n2, e]
              rw [if_pos (show S.1 211 k ≤ nI v' by rw [← q3]; exact q)]
            · rw [e3] at q
              have q : ¬ S.1 211 k ≤ S.1 211 j := by rw [c3] at q; exact q
              refine fin _ ?_
              rw [lb, if_neg n2, e]
              rw [if_neg (show ¬ S.1 211 k ≤ nI v' by rw [← q3]; exact q)]
      rw [wp_M_priceAt_17]
      refine ⟨fun q => absurd q e1, fun _ => ⟨e2, fun q => ?_, fun q => ⟨e2, fun q2 => ?_, fun q2 => ?_⟩⟩⟩
      · rw [e3] at q
        refine K _ ?_
        have q : S.1 211 k < 0 := q
        have h3 : S.1 211 k = -1 := by
          rcases hm k (by omega) with h3 | ⟨v, hv, h3⟩
          · exact h3
          · rw [h3] at q; exact absurd q (nI_pos (by omega))
        rw [lb, h3]
        rcases i1 with e | ⟨j, v, q1, q2, q3, e⟩
        · rw [e]; simp
        · rw [e]
          rw [if_pos (show (-1 : Int32) ≤ nI v by
            rw [Int32.le_iff_toInt_le, nI_toInt (by omega)]
            have : (-1 : Int32).toInt = -1 := by decide
            omega)]
          simp
      · rw [e3] at q2
        exact K _ (by rw [lb, if_pos (show nI (t / 60 % 1440) < S.1 211 k from q2)])
      · rw [e3] at q q2
        have q : ¬ S.1 211 k < 0 := q
        have q2 : ¬ nI (t / 60 % 1440) < S.1 211 k := q2
        obtain ⟨v, hv, h3⟩ : ∃ v, v < 1440 ∧ S.1 211 k = nI v := by
          rcases hm k (by omega) with h3 | h3
          · rw [h3] at q; exact absurd (by decide) q
          · exact h3
        rcases i1 with e | ⟨j, v', q3, q4, q5, e⟩
        · rw [e]
          refine ⟨fun _ => K _ ?_, fun q => absurd (by decide) q⟩
          rw [lb, if_neg q2, e, if_neg (by rw [h3]; exact m1lt v (by omega))]
        · have c3 : (nI j).toNatClampNeg = j := nI_clamp (by omega)
          refine ⟨fun q => absurd q (by rw [e]; exact nI_pos (by omega)), fun _ => ⟨e2, by rw [e]; exact vp_in_nI (by omega) (by omega), fun q6 => K _ ?_, fun q6 => K _ ?_⟩⟩
          · rw [e3, e] at q6
            have q6 : S.1 211 k ≤ S.1 211 j := by rw [c3] at q6; exact q6
            rw [lb, if_neg q2, e, if_pos (show S.1 211 k ≤ nI v' by rw [← q5]; exact q6)]
          · rw [e3, e] at q6
            have q6 : ¬ S.1 211 k ≤ S.1 211 j := by rw [c3] at q6; exact q6
            rw [lb, if_neg q2, e, if_neg (show ¬ S.1 211 k ≤ nI v' by rw [← q5]; exact q6)]
  exact ⟨5, key 4 0 5 (by omega) (by omega)⟩
theorem prAt_le {mn pr : Nat → Int32} {t : Nat} (hm : mnOk mn) (hp : ∀ k, k < 4 → ∃ v, v ≤ 100000 ∧ pr k = nI v) : ∃ v, v ≤ 100000 ∧ prAt mn pr t = nI v := by
  have vi : ∀ M, (lb mn M 4).1 = -1 ∨ ∃ j, j < 4 ∧ (lb mn M 4).1 = nI j := fun M => by
    rcases lb_inv (M := M) hm 4 (by omega) with e | ⟨j, v, h1, h2, h3, e⟩
    · exact .inl (by rw [e])
    · exact .inr ⟨j, h1, by rw [e]⟩
  unfold prAt
  rcases vi (nI (t / 60 % 1440)) with e | ⟨j, hj, e⟩
  · rw [if_pos e]
    rcases vi 1439 with e' | ⟨j, hj, e'⟩
    · rw [if_pos e']
      exact ⟨0, by omega, rfl⟩
    · rw [if_neg (by rw [e']; exact nIm1 (by omega)), e', nI_clamp (by omega)]
      exact hp j hj
  · rw [if_neg (by rw [e]; exact nIm1 (by omega)), e, nI_clamp (by omega)]
    exact hp j hj
theorem prAt_eq {mn mn' pr pr' : Nat → Int32} {t : Nat} (hm : mnOk mn) (h1 : ∀ k, k < 4 → mn k = mn' k) (h2 : ∀ k, k < 4 → pr k = pr' k) : prAt mn pr t = prAt mn' pr' t := by
  have e : ∀ M k, k ≤ 4 → lb mn M k = lb mn' M k := by
    intro M k
    induction k with
    | zero => exact fun _ => rfl
    | succ k ih =>
      intro hk
      rw [lb, lb, ih (by omega), h1 k (by omega)]
  have vi : ∀ M, (lb mn M 4).1 = -1 ∨ ∃ j, j < 4 ∧ (lb mn M 4).1 = nI j := fun M => by
    rcases lb_inv (M := M) hm 4 (by omega) with e | ⟨j, v, h1, h2, h3, e⟩
    · exact .inl (by rw [e])
    · exact .inr ⟨j, h1, by rw [e]⟩
  unfold prAt
  rw [← e _ 4 (by omega), ← e _ 4 (by omega)]
  rcases vi (nI (t / 60 % 1440)) with a | ⟨j, hj, a⟩
  · rw [if_pos a, if_pos a]
    rcases vi 1439 with a' | ⟨j, hj, a'⟩
    · rw [if_pos a', if_pos a']
    · rw [if_neg (by rw [a']; exact nIm1 (by omega)), if_neg (by rw [a']; exact nIm1 (by omega)), a', nI_clamp (by omega)]
      exact h2 j hj
  · rw [if_neg (by rw [a]; exact nIm1 (by omega)), if_neg (by rw [a]; exact nIm1 (by omega)), a, nI_clamp (by omega)]
    exact h2 j hj
