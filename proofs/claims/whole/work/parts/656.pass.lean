theorem cE.ext {A B C : fw_S} (h : cE A B) (h1 : ∀ o k, ¬ (o = 0 ∧ (k = 10 ∨ k = 11)) → C.1 o k = B.1 o k) (h2 : C.2 = B.2) : cE A C := ⟨fun o k ho hn => by rw [h1 o k hn]; exact h.1 o k ho hn, fun o k ho => by rw [h2]; exact h.2 o k ho⟩
theorem KC.ext {A B : fw_S} {t m cu : Nat} (h : KC A t m cu) (h1 : ∀ o k, ¬ (o = 0 ∧ (k = 10 ∨ k = 11)) → B.1 o k = A.1 o k) : KC B t m cu := by
  unfold KC rnC wtC at h ⊢
  rw [h1 0 6 (by omega), h1 0 3 (by omega), h1 1 1 (by omega), h1 1 4 (by omega), h1 2 3 (by omega), h1 0 4 (by omega), h1 0 9 (by omega), h1 2 4 (by omega)]
  exact h
/-- states that agree but for what the sharing writes -/
def agE (S X : fw_S) : Prop := (∀ a k, ¬ (∃ q, q < 6 ∧ a = pO q ∧ (k = 10 ∨ k = 11)) → X.1 a k = S.1 a k) ∧ X.2 = S.2
theorem agE.trans {X Y Z : fw_S} (h1 : agE X Y) (h2 : agE Y Z) : agE X Z := ⟨fun a k hn => (h2.1 a k hn).trans (h1.1 a k hn), h2.2.trans h1.2⟩
theorem agS.agE {j : Nat} {S X : fw_S} (hj : j < 2) (h : agS j S X) : agE S X := by
  refine ⟨fun a k hn => h.1 a k ?_, h.2⟩
  rintro ⟨h1, h2⟩
  rcases h1 with h1 | h1 | h1
  · exact hn ⟨j + 2 * 0, by omega, h1.trans (sA_pO hj (by omega)), h2⟩
  · exact hn ⟨j + 2 * 1, by omega, h1.trans (sA_pO hj (by omega)), h2⟩
  · exact hn ⟨j + 2 * 2, by omega, h1.trans (sA_pO hj (by omega)), h2⟩
theorem agE.vw {S X : fw_S} {q : Nat} (h : agE S X) (hq : q < 6) : (∀ o k, ¬ (o = 0 ∧ (k = 10 ∨ k = 11)) → (vw q X).1 o k = (vw q S).1 o k) ∧ (vw q X).2 = (vw q S).2 := by
  refine vw_ext hq (fun a k hf hn => h.1 a k ?_) (fun a k hf => by rw [h.2])
  rintro ⟨q', hq', e1, e2⟩
  by_cases e : q' = q
  · exact hn ⟨by rw [e1, e], e2⟩
  · have := pO_ne hq' hq e
    have := pO_lt hq'
    have := pO_lt hq
    unfold foot at hf
    omega
theorem CS.agE {S X : fw_S} {j lim : Nat} {on ac : Nat → Bool} {wn gw : Nat → Nat} (hj : j < 2) (h : CS S j lim on ac wn gw) (ha : agE S X) : CS X j lim on ac wn gw := by
  obtain ⟨h1, h2, h3⟩ := h
  have n1 : ∀ k, ¬ (k = 10 ∨ k = 11) → ∀ a, X.1 a k = S.1 a k := fun k hk a => ha.1 a k (fun ⟨q, _, _, h⟩ => hk h)
  refine ⟨by rw [n1 1 (by omega)]; exact h1, h2, fun c hc => ?_⟩
  rw [n1 4 (by omega), n1 6 (by omega), n1 3 (by omega), n1 2 (by omega), n1 3 (by omega)]
  exact h3 c hc
/-- what the object knows between two stretches: lim the sites' limits -/
def CI (S : fw_S) (t n : Nat) (lim : Nat → Nat) : Prop :=
  S.1 0 2 = nI t ∧ (∀ j, j < 2 → S.1 (19 + 95 * j) 1 = nI (lim j) ∧ lim j ≤ 2000) ∧ ∀ p, p < 6 → ∃ A, RV A t n ∧ cE A (vw p S)
def oC (S : fw_S) (j c : Nat) : Bool := decide (¬ S.1 (sA j c) 4 = 0)
def wC (S : fw_S) (j c : Nat) : Nat := (S.1 (sA j c + 1) 2).toNatClampNeg
def aC (S : fw_S) (j c : Nat) : Bool := decide (¬ S.1 (sA j c) 6 = 0 ∧ ¬ S.1 (sA j c) 3 = 0 ∧ 60 ≤ wC S j c)
def gC (S : fw_S) (j c : Nat) : Nat := (S.1 (sA j c + 1) 3).toNatClampNeg
theorem CI.cs {S : fw_S} {t n : Nat} {lim : Nat → Nat} (h : CI S t n lim) {j : Nat} (hj : j < 2) : CS S j (lim j) (oC S j) (aC S j) (wC S j) (gC S j) := by
  refine ⟨(h.2.1 j hj).1, (h.2.1 j hj).2, fun c hc => ?_⟩
  obtain ⟨A, hA, hE⟩ := h.2.2 (j + 2 * c) (by omega)
  obtain ⟨w, s, ls, z, h0, u, g, hm, hc', -⟩ := hA
  obtain ⟨⟨c1, c1'⟩, c2, c3, c4, c5, c6, c7⟩ := hc'
  have E1 : ∀ o k, o < 31 → ¬ (o = 0 ∧ (k = 10 ∨ k = 11)) → S.1 (sA j c + o) k = A.1 o k := fun o k ho hn => by
    rw [hE.1 o k (by omega) hn, ← vx_i ho, sA_pO hj hc]
  have w2 : ∃ v, v ≤ 320 ∧ A.1 1 2 = nI v ∧ (60 ≤ v → A.1 1 0 = 1) := by
    rcases c1' with q | q
    · exact ⟨0, by omega, (c3 q).2, fun x => by omega⟩
    · rcases c2 with r | r
      · obtain ⟨v, hv, v1, -⟩ := c5 q r
        exact ⟨v, hv, v1, fun _ => q⟩
      · exact ⟨0, by omega, (c6 r).1, fun x => by omega⟩
  obtain ⟨v, hv, v1, v2⟩ := w2
  have ew : wC S j c = v := by
    unfold wC
    rw [E1 1 2 (by omega) (by omega), v1, nI_clamp (by omega)]
  refine ⟨by unfold oC; simp, by unfold aC; rw [decide_eq_true_iff], ?_, by rw [ew]; exact hv, fun ha => ?_⟩
  · rw [ew, E1 1 2 (by omega) (by omega), v1]
  · unfold aC at ha
    have ha := of_decide_eq_true ha
    rw [ew] at ha
    obtain ⟨gw, g1, g2, g3, -⟩ := (c4 (v2 ha.2.2)).2.1
    have eg : gC S j c = gw := by
      unfold gC
      rw [E1 1 3 (by omega) (by omega), g3, nI_clamp (by omega)]
    rw [eg, E1 1 3 (by omega) (by omega), g3]
    exact ⟨rfl, g2⟩
def cuC (S : fw_S) (lim : Nat → Nat) (t p : Nat) : Nat := cuOf (lim (p % 2)) (oC S (p % 2)) (aC S (p % 2)) (wC S (p % 2)) (gC S (p % 2)) (t / 900 % 3) (p / 2)
theorem cuOf_le {lim : Nat} {on ac : Nat → Bool} {wn gw : Nat → Nat} {tn c : Nat} : cuOf lim on ac wn gw tn c ≤ wn c := by
  unfold cuOf
  simp only []
  split
  · exact cuAt_le _ _ _
  · split
    · exact Nat.min_le_right _ _
    · exact Nat.zero_le _
theorem even_ex {S : fw_S} {t n r : Nat} {lim : Nat → Nat} {post : fw_S → Int32 → Prop} (hn : n ≤ 512) (hr1 : 1 ≤ r) (hr : r ≤ 86400) (ht : t + r ≤ 86400 * n) (h : CI S t n lim)
    (fin : ∀ X m, agE S X → (∀ p, p < 6 → X.1 (pO p) 11 = nI (cuC S lim t p)) → 1 ≤ m → m ≤ r → (∀ p, p < 6 → KC (vw p X) t m (cuC S lim t p)) → post X (nI m)) : wp_Out_evenSeconds S 0 (nI r) post := by
  have cule : ∀ p, p < 6 → cuC S lim t p ≤ 320 := fun p hp => by
    have := ((h.cs (j := p % 2) (by omega)).2.2 (p / 2) (by omega)).2.2.2.1
    exact Nat.le_trans cuOf_le this
  have cuful : ∀ p, p < 6 → ∀ X, agE S X → rnC (vw p X) → ¬ (vw p X).1 1 1 = 0 → cuC S lim t p = 0 := fun p hp X hX hr hf => by
    obtain ⟨A, hA, hE⟩ := h.2.2 p hp
    obtain ⟨w, s, ls, z, h0, u, g, hm, hc', -⟩ := hA
    have e1 : (vw p X).1 1 1 = A.1 1 1 := ((hX.vw hp).1 1 1 (by omega)).trans (hE.1 1 1 (by omega) (by omega)).symm
    have f1 : A.1 1 1 = 1 := by
      rcases hc'.2.1 with q | q
      · exact absurd (e1.trans q) hf
      · exact q
    have w0 : S.1 (pO p + 1) 2 = 0 := by
      rw [vx_i (by omega), ← hE.1 1 2 (by omega) (by omega)]
      exact (hc'.2.2.2.2.2.1 f1).1
    have : wC S (p % 2) (p / 2) = 0 := by
      unfold wC
      rw [sA_pO (by omega) (by omega), show p % 2 + 2 * (p / 2) = p by omega, w0]
      rfl
    have h2 : cuC S lim t p ≤ wC S (p % 2) (p / 2) := cuOf_le
    omega
  have KCd : ∀ {B : fw_S} {m m' cu : Nat}, KC B t m cu → 1 ≤ m' → m' ≤ m → KC B t m' cu := by
    intro B m m' cu ⟨⟨k0, k0', k1⟩, k2, k3, k4, k5⟩ h1 h2
    refine ⟨⟨h1, by omega, k1⟩, k2, fun a b => ?_, fun a => ⟨fun b => ?_, ?_⟩, fun a => ⟨fun b => ?_, fun x hx b => ?_⟩⟩
    · have := k3 a b
      have : 23 * cu * (m' - 1) ≤ 23 * cu * (m - 1) := Nat.mul_le_mul_left _ (by omega)
      omega
    · have := (k4 a).1 b
      omega
    · have := (k4 a).2
      omega
    · have := (k5 a).1 b
      omega
    · have := (k5 a).2 x hx b
      omega
  -- the state between: agE, the takes of the sites that are shared, the least so far
  have inner : ∀ (k14 : fw_S → Int32 → Int32 → Int32 → Prop) (j : Nat), j < 2 → ∀ X, agE S X → (∀ c, c < 3 → X.1 (pO (j + 2 * c)) 11 = nI (cuC S lim t (j + 2 * c))) →
      ∀ (m0 : Nat), (∀ m, 1 ≤ m → m ≤ m0 → (∀ c, c < 3 → KC (vw (j + 2 * c) X) t m (cuC S lim t (j + 2 * c))) → k14 X (nI m) (nI 2) (nI (j + 1))) →
      ∀ d c f m u6, c + d = 3 → d < f → 1 ≤ m → m ≤ m0 → m0 ≤ r → (∀ c', c' < c → KC (vw (j + 2 * c') X) t m (cuC S lim t (j + 2 * c'))) → wp_Out_evenSeconds_51 0 (nI r) post k14 f X (nI m) (nI 2) (nI j) u6 (19 + 95 * j + 1) (nI 3) (nI c) := by
    intro k14 j hj X hX htk m0 hk d
    induction d with
    | zero =>
      intro c f m u6 hc hf h1 h2 h3 hK
      obtain ⟨f, rfl⟩ : ∃ f', f = f' + 1 := ⟨f - 1, by omega⟩
      have : c = 3 := by omega
      subst this
      rw [wp_Out_evenSeconds_51]
      refine ⟨fun _ => fun v2 e2 => ?_, fun q => absurd (by decide) q⟩
      rw [e2, nI_1]
      exact hk m h1 h2 hK
    | succ d ih =>
      intro c f m u6 hc hf h1 h2 h3 hK
      obtain ⟨f, rfl⟩ : ∃ f', f = f' + 1 := ⟨f - 1, by omega⟩
      have hc3 : c < 3 := by omega
      have hp : j + 2 * c < 6 := by omega
      have i1 : ¬ nI 3 ≤ nI c := nI_ge (by omega) (by omega)
      have i2 : vp_in (nI c) 3 := vp_in_nI (by omega) (by omega)
      have i3 : 19 + 95 * j + 1 + (1 + 31 * (nI c).toNatClampNeg) = pO (j + 2 * c) := by
        rw [nI_clamp (by omega), ← sA_pO hj hc3]
        rfl
      obtain ⟨A, hA, hE⟩ := h.2.2 _ hp
      have hEX := hE.ext (hX.vw hp).1 (hX.vw hp).2
      have x02 : X.1 0 2 = nI t := by
        rw [hX.1 0 2 (fun ⟨q, hq, e, _⟩ => by have := pO_lt hq; omega)]
        exact h.1
      rw [wp_Out_evenSeconds_51, i3, x02]
      refine ⟨fun q => absurd q i1, fun _ => ⟨i2, es_ex hn hr1 hr ht hA hEX (htk c hc3) (cule _ hp) (cuful _ hp X hX) (fun e e1 e2 eK => ?_)⟩⟩
      intro v6 e6 v7 e7
      rw [min32 (by omega) (by omega)] at e6
      rw [e6, e7, nI_1]
      refine ih (c + 1) f (min e m) u6 (by omega) (by omega) (by omega) (by omega) h3 (fun c' hc' => ?_)
      by_cases q : c' = c
      · subst q
        exact eK _ (by omega) (by omega)
      · exact KCd (hK c' (by omega)) (by omega) (by omega)
  have shr : ∀ X, agE S X → ∀ j, j < 2 → ∀ (P : fw_S → Prop), (∀ Y, agE S Y → (∀ a k, ¬ ((a = sA j 0 ∨ a = sA j 1 ∨ a = sA j 2) ∧ (k = 10 ∨ k = 11)) → Y.1 a k = X.1 a k) → (∀ c, c < 3 → Y.1 (pO (j + 2 * c)) 11 = nI (cuC S lim t (j + 2 * c))) → P Y) → wp_Site_share X (19 + 95 * j) (nI t) P := by
    intro X hX j hj P hP
    refine share_ex ((h.cs hj).agE hj hX) (by omega) (fun Y hY hy => hP Y (hX.trans (hY.agE hj)) hY.1 (fun c hc => ?_))
    rw [← sA_pO hj hc, hy c hc]
    unfold cuC
    rw [show (j + 2 * c) % 2 = j by omega, show (j + 2 * c) / 2 = c by omega]
  have x02 : ∀ X, agE S X → X.1 0 2 = nI t := fun X hX => by
    rw [hX.1 0 2 (fun ⟨q, hq, e, _⟩ => by have := pO_lt hq; omega)]
    exact h.1
  intro v1 e1
  subst e1
  refine ⟨3, ?_⟩
  rw [show (0 : Int32) = nI 0 from rfl, wp_Out_evenSeconds_14]
  have i30 : 0 + 1 + (18 + 95 * (nI 0).toNatClampNeg) = 19 + 95 * 0 := by rw [nI_clamp (by omega)]
  have i31 : 0 + 1 + (18 + 95 * (nI 1).toNatClampNeg) = 19 + 95 * 1 := by rw [nI_clamp (by omega)]
  have hSS : agE S S := ⟨fun _ _ _ => rfl, rfl⟩
  rw [i30, h.1]
  refine ⟨fun q => absurd q (by decide), fun _ => ⟨vp_in_nI (by omega) (by omega), shr S hSS 0 (by omega) _ (fun Y hY hyS hy => ?_)⟩⟩
  intro v4 e4
  subst e4
  refine ⟨4, inner _ 0 (by omega) Y hY hy r (fun m m1 m2 mK => ?_) 3 0 4 r _ (by omega) (by omega) hr1 (by omega) (by omega) (fun c' hc' => absurd hc' (by omega))⟩
  rw [show nI (0 + 1) = nI 1 from rfl, wp_Out_evenSeconds_14, i31, x02 Y hY]
  refine ⟨fun q => absurd q (by decide), fun _ => ⟨vp_in_nI (by omega) (by omega), shr Y hY 1 (by omega) _ (fun Z hZ hzY hz => ?_)⟩⟩
  intro v4 e4
  subst e4
  refine ⟨4, inner _ 1 (by omega) Z hZ hz m (fun m' m1' m2' mK' => ?_) 3 0 4 m _ (by omega) (by omega) m1 (by omega) m2 (fun c' hc' => absurd hc' (by omega))⟩
  rw [show nI (1 + 1) = nI 2 from rfl, wp_Out_evenSeconds_14]
  refine ⟨fun _ => ?_, fun q => absurd (by decide) q⟩
  refine fin Z m' hZ (fun p hp => ?_) m1' (by omega) (fun p hp => ?_)
  · rcases (show p % 2 = 0 ∨ p % 2 = 1 by omega) with q | q
    · have e : p = 0 + 2 * (p / 2) := by omega
      have := hy (p / 2) (by omega)
      rw [← e] at this
      rw [hzY (pO p) 11 ?_, this]
      rintro ⟨x, -⟩
      have y0 := sA_pO (j := 1) (c := 0) (by omega) (by omega)
      have y1 := sA_pO (j := 1) (c := 1) (by omega) (by omega)
      have y2 := sA_pO (j := 1) (c := 2) (by omega) (by omega)
      rw [y0, y1, y2] at x
      have n0 := pO_ne (p := p) (q := 1 + 2 * 0) hp (by omega) (by omega)
      have n1 := pO_ne (p := p) (q := 1 + 2 * 1) hp (by omega) (by omega)
      have n2 := pO_ne (p := p) (q := 1 + 2 * 2) hp (by omega) (by omega)
      omega
    · have e : p = 1 + 2 * (p / 2) := by omega
      have := hz (p / 2) (by omega)
      rw [← e] at this
      exact this
  · have hYZ : agE Y Z := ⟨fun a k hn => hzY a k (fun ⟨x, y⟩ => hn (by
      rcases x with x | x | x
      · exact ⟨1 + 2 * 0, by omega, x.trans (sA_pO (by omega) (by omega)), y⟩
      · exact ⟨1 + 2 * 1, by omega, x.trans (sA_pO (by omega) (by omega)), y⟩
      · exact ⟨1 + 2 * 2, by omega, x.trans (sA_pO (by omega) (by omega)), y⟩)), by rw [hZ.2, hY.2]⟩
    rcases (show p % 2 = 0 ∨ p % 2 = 1 by omega) with q | q
    · have e : p = 0 + 2 * (p / 2) := by omega
      have := mK (p / 2) (by omega)
      rw [← e] at this
      exact (KCd this m1' m2').ext (hYZ.vw hp).1
    · have e : p = 1 + 2 * (p / 2) := by omega
      have := mK' (p / 2) (by omega)
      rw [← e] at this
      exact this
