/-! the object's share of one site -/
def sA (j c : Nat) : Nat := 19 + 95 * j + 1 + (1 + 31 * c)
theorem sA_pO {j c : Nat} (hj : j < 2) (hc : c < 3) : sA j c = pO (j + 2 * c) := by
  unfold sA pO
  omega
def CS (S : fw_S) (j lim : Nat) (on ac : Nat → Bool) (wn gw : Nat → Nat) : Prop :=
  S.1 (19 + 95 * j) 1 = nI lim ∧ lim ≤ 2000 ∧ ∀ c, c < 3 → (S.1 (sA j c) 4 = 0 ↔ on c = false) ∧ ((¬ S.1 (sA j c) 6 = 0 ∧ ¬ S.1 (sA j c) 3 = 0 ∧ 60 ≤ wn c) ↔ ac c = true) ∧ S.1 (sA j c + 1) 2 = nI (wn c) ∧ wn c ≤ 320 ∧ (ac c = true → S.1 (sA j c + 1) 3 = nI (gw c) ∧ gw c ≤ 9)
def agS (j : Nat) (S X : fw_S) : Prop := (∀ a k, ¬ ((a = sA j 0 ∨ a = sA j 1 ∨ a = sA j 2) ∧ (k = 10 ∨ k = 11)) → X.1 a k = S.1 a k) ∧ X.2 = S.2
theorem agS.si {j c k : Nat} {S X : fw_S} {v : Int32} (h : agS j S X) (hc : c < 3) (hk : k = 10 ∨ k = 11) : agS j S (fw_si X (sA j c) k v) := by
  refine ⟨fun a i hn => ?_, h.2⟩
  have e : ¬ (a = sA j c ∧ i = k) := fun q => by
    rcases (show c = 0 ∨ c = 1 ∨ c = 2 by omega) with rfl | rfl | rfl
    · exact hn ⟨.inl q.1, by omega⟩
    · exact hn ⟨.inr (.inl q.1), by omega⟩
    · exact hn ⟨.inr (.inr q.1), by omega⟩
  rw [gi_i, if_neg e]
  exact h.1 a i hn
theorem CS.ag {S X : fw_S} {j lim : Nat} {on ac : Nat → Bool} {wn gw : Nat → Nat} (h : CS S j lim on ac wn gw) (ha : agS j S X) : CS X j lim on ac wn gw := by
  obtain ⟨h1, h2, h3⟩ := h
  refine ⟨by rw [ha.1 _ _ (by omega)]; exact h1, h2, fun c hc => ?_⟩
  rw [ha.1 _ 4 (by omega), ha.1 _ 6 (by omega), ha.1 _ 3 (by omega), ha.1 _ 2 (by omega), ha.1 (sA j c + 1) 3 (by omega)]
  exact h3 c hc
theorem act_c {X : fw_S} {j lim c : Nat} {on ac : Nat → Bool} {wn gw : Nat → Nat} {post : fw_S → Int32 → Prop} (h : CS X j lim on ac wn gw) (hc : c < 3) : wp_Point_isActive X (sA j c) post = post X (if ac c then 1 else 0) := by
  obtain ⟨-, h2, h3, h4, -⟩ := h.2.2 c hc
  by_cases q1 : X.1 (sA j c) 6 = 0
  · have e : ac c = false := by
      cases e : ac c
      · rfl
      · exact absurd q1 (h2.mpr e).1
    simp [wp_Point_isActive, wp_Point_isActive_23, wp_Point_isActive_24, wp_Point_runs, wp_Point_runs_18, wp_Point_runs_19, fw_bz, q1, e]
  · by_cases q2 : X.1 (sA j c) 3 = 0
    · have e : ac c = false := by
        cases e : ac c
        · rfl
        · exact absurd q2 (h2.mpr e).2.1
      simp [wp_Point_isActive, wp_Point_isActive_23, wp_Point_isActive_24, wp_Point_runs, wp_Point_runs_18, wp_Point_runs_19, fw_bz, q1, q2, e]
    · by_cases q3 : 60 ≤ wn c
      · have e : ac c = true := h2.mp ⟨q1, q2, q3⟩
        have e1 : ¬ nI (wn c) < 60 := nI_nlt (b := 60) q3 (by omega)
        have e2 : (60 : Int32) ≤ nI (wn c) := nI_le (a := 60) q3 (by omega)
        simp [wp_Point_isActive, wp_Point_isActive_23, wp_Point_isActive_24, wp_Point_runs, wp_Point_runs_18, wp_Point_runs_19, fw_bz, q1, q2, e, h3, e1, e2]
      · have e : ac c = false := by
          cases e : ac c
          · rfl
          · exact absurd (h2.mpr e).2.2 q3
        have e1 : nI (wn c) < 60 := nI_lt (b := 60) (by omega) (by omega)
        have e2 : ¬ (60 : Int32) ≤ nI (wn c) := nI_ge (b := 60) (by omega) (by omega)
        simp [wp_Point_isActive, wp_Point_isActive_23, wp_Point_isActive_24, wp_Point_runs, wp_Point_runs_18, wp_Point_runs_19, fw_bz, q1, q2, e, h3, e1, e2]
theorem takes_c {X : fw_S} {j lim c v : Nat} {on ac : Nat → Bool} {wn gw : Nat → Nat} {post : fw_S → Int32 → Prop} (h : CS X j lim on ac wn gw) (hc : c < 3) (ha : ac c = true) (hv : v ≤ 320) : wp_Point_takesAt X (sA j c) (nI v) post = post X (nI (cuAt (wn c) (gw c) v)) := by
  obtain ⟨-, h2, h3, h4, h5⟩ := h.2.2 c hc
  obtain ⟨h6, h7⟩ := h5 ha
  have hm : v * gw c ≤ 320 * 9 := Nat.mul_le_mul hv h7
  have e1 : nI v * nI (gw c) = nI (v * gw c) := pk_mul _ _
  have e2 : (if (60 : Int32) < nI (v * gw c) then nI (v * gw c) else 60) = nI (max 60 (v * gw c)) := by
    by_cases q : 60 < v * gw c
    · rw [if_pos (show (60 : Int32) < nI (v * gw c) from nI_lt (a := 60) q (by omega)), Nat.max_eq_right (by omega)]
    · rw [if_neg (show ¬ (60 : Int32) < nI (v * gw c) from nI_nlt (a := 60) (b := v * gw c) (by omega) (by omega)), Nat.max_eq_left (by omega)]
      rfl
  have e3 : (if nI (max 60 (v * gw c)) < nI (wn c) then nI (max 60 (v * gw c)) else nI (wn c)) = nI (cuAt (wn c) (gw c) v) := by
    unfold cuAt
    by_cases q : max 60 (v * gw c) < wn c
    · rw [if_pos (nI_lt q (by omega)), Nat.min_eq_right (by omega)]
    · rw [if_neg (nI_nlt (by omega) (by omega)), Nat.min_eq_left (by omega)]
  simp only [wp_Point_takesAt, h3, h6, e1, e2, e3]
theorem addrS (j k : Nat) (hk : k < 2 ^ 31) : 19 + 95 * j + 1 + (1 + 31 * (nI k).toNatClampNeg) = sA j k := by
  rw [nI_clamp hk]
  rfl
theorem share1 {S : fw_S} {j lim t : Nat} {on ac : Nat → Bool} {wn gw : Nat → Nat} {post : fw_S → Prop} (h : CS S j lim on ac wn gw)
    (fin : ∀ X, agS j S X → (∀ c, c < 3 → X.1 (sA j c) 11 = nI (cuBase lim on ac wn c)) → wp_Site_choose X (19 + 95 * j) (nI (cuLeft lim on) / 60) ((nI t / 900) - (nI t / 900) / 3 * 3) (fun S2 => wp_Site_greatestLevel S2 (19 + 95 * j) (nI (cuLeft lim on)) (fun S3 r4 => ∀ v5 : Int32, v5 = (nI 3) → ∃ f0, wp_Site_share_127 (19 + 95 * j) (nI t) post f0 S3 (nI (cuSafe lim)) (nI (cuLeft lim on)) r4 v5 0))) :
    ∀ d k f X, k + d = 3 → d < f → agS j S X → (∀ c, c < k → X.1 (sA j c) 11 = nI (cuBase lim on ac wn c)) → wp_Site_share_24 (19 + 95 * j) (nI t) post f X (nI (cuSafe lim)) (nI (cuL lim on k)) (nI 3) (nI k) := by
  have hs := cuSafe_le lim
  have hl := h.2.1
  intro d
  induction d with
  | zero =>
    intro k f X hk hf hX hb
    obtain ⟨f, rfl⟩ : ∃ f', f = f' + 1 := ⟨f - 1, by omega⟩
    have : k = 3 := by omega
    subst this
    rw [wp_Site_share_24]
    exact ⟨fun _ => fin X hX hb, fun q => absurd (by decide) q⟩
  | succ d ih =>
    intro k f X hk hf hX hb
    obtain ⟨f, rfl⟩ : ∃ f', f = f' + 1 := ⟨f - 1, by omega⟩
    have hk3 : k < 3 := by omega
    have e1 : ¬ nI 3 ≤ nI k := nI_ge (by omega) (by omega)
    have e2 : vp_in (nI k) 3 := vp_in_nI (by omega) (by omega)
    have hXC := h.ag hX
    obtain ⟨o1, o2, o3, o4, o5⟩ := hXC.2.2 k hk3
    have ne : ∀ c, c < k → ¬ sA j c = sA j k := fun c hc => by unfold sA; omega
    have key : ∀ (Y : fw_S), agS j S Y → Y.1 (sA j k) 11 = nI (cuBase lim on ac wn k) → (∀ c, c < k → Y.1 (sA j c) 11 = X.1 (sA j c) 11) → ∀ x3, x3 = nI (cuL lim on (k + 1)) → wp_Site_share_85 (19 + 95 * j) (nI t) post (fun S x2 x3 x5 x6 => wp_Site_share_24 (19 + 95 * j) (nI t) post f S x2 x3 x5 x6) Y (nI (cuSafe lim)) x3 (nI 3) (nI k) (sA j k) := by
      intro Y hY y1 y2 x3 ex v1 ev
      rw [ev, ex, nI_1]
      refine ih (k + 1) f Y (by omega) (by omega) hY (fun c hc => ?_)
      by_cases q : c = k
      · rw [q]; exact y1
      · rw [y2 c (by omega)]; exact hb c (by omega)
    rw [wp_Site_share_24, addrS j k (by omega)]
    refine ⟨fun q => absurd q e1, fun _ => ⟨e2, fun S7 e7 => ?_⟩⟩
    have h7 : agS j S S7 := by rw [e7]; exact hX.si hk3 (.inr rfl)
    have h7C := h.ag h7
    obtain ⟨p1, p2, p3, p4, p5⟩ := h7C.2.2 k hk3
    have b7 : ∀ c, c < k → S7.1 (sA j c) 11 = X.1 (sA j c) 11 := fun c hc => by
      rw [e7, gi_i, if_neg (fun q => ne c hc q.1)]
    refine ⟨fun q => ?_, fun q => fun v9 e9 => ?_⟩
    · have hon : on k = true := by
        cases e : on k
        · exact absurd (p1.mpr e) q
        · rfl
      refine key S7 h7 ?_ b7 _ ?_
      · rw [e7, gi_i, if_pos ⟨rfl, rfl⟩]
        unfold cuBase
        rw [hon]
        rfl
      · rw [cuL]
        unfold cuOff
        rw [hon]
        rfl
    · have hon : on k = false := p1.mp q
      have hL : v9 = nI (cuL lim on (k + 1)) := by
        have := (cuL_ge lim on k (by omega)).1
        have m : 1 * cuSafe lim ≤ (3 - k) * cuSafe lim := Nat.mul_le_mul_right _ (by omega)
        rw [e9, pk_sub (by omega), cuL]
        unfold cuOff
        rw [hon]
        rfl
      rw [act_c h7C hk3]
      have fin2 : ∀ p0, p0 = nI (cuBase lim on ac wn k) → wp_Site_share_82 (19 + 95 * j) (nI t) post (fun S x2 x3 x5 x6 => wp_Site_share_24 (19 + 95 * j) (nI t) post f S x2 x3 x5 x6) S7 (nI (cuSafe lim)) v9 (nI 3) (nI k) (sA j k) p0 (sA j k) := by
        intro p0 e0 S1 eS
        refine key S1 (by rw [eS]; exact h7.si hk3 (.inr rfl)) ?_ (fun c hc => ?_) _ hL
        · rw [eS, gi_i, if_pos ⟨rfl, rfl⟩, e0]
        · rw [eS, gi_i, if_neg (fun q => ne c hc q.1)]
          exact b7 c hc
      cases hac : ac k
      · refine ⟨fun _ => fin2 _ ?_, fun q => absurd rfl q⟩
        unfold cuBase
        rw [hac, hon]
        rfl
      · refine ⟨fun q => absurd q (by decide), fun _ => fin2 _ ?_⟩
        unfold cuBase
        rw [hac, hon, p3]
        show _ = nI (min (cuSafe lim) (wn k))
        by_cases q : wn k < cuSafe lim
        · rw [if_pos (nI_lt q (by omega)), Nat.min_eq_right (by omega)]
        · rw [if_neg (nI_nlt (by omega) (by omega)), Nat.min_eq_left (by omega)]
theorem ring3 {a b : Nat} (ha : a < 1000) (hb : b < 1000) : nI a + nI b - (nI a + nI b) / 3 * 3 = nI ((a + b) % 3) := by
  rw [nI_add]
  exact pk_rem (d := 3) (by omega) (by omega) (by omega)
theorem choose1 {S : fw_S} {j lim tn room : Nat} {on ac : Nat → Bool} {wn gw : Nat → Nat} {post : fw_S → Prop} (h : CS S j lim on ac wn gw) (htn : tn < 3) (hroom : room ≤ 2000) (a1 : Int32)
    (fin : ∀ X, agS j S X → (∀ c, c < 3 → X.1 (sA j c) 11 = S.1 (sA j c) 11) → (∀ c, c < 3 → X.1 (sA j c) 10 = if cuCh room (fun c => on c && ac c) tn c = true then 1 else 0) → post X) :
    ∀ d k f X, k + d = 3 → d < f → agS j S X → (∀ c, c < 3 → X.1 (sA j c) 11 = S.1 (sA j c) 11) → (∀ i, i < k → X.1 (sA j ((tn + i) % 3)) 10 = if cuCh room (fun c => on c && ac c) tn ((tn + i) % 3) = true then 1 else 0) → wp_Site_choose_5 (19 + 95 * j) a1 (nI tn) post f X (nI (room - cuUsed room (fun c => on c && ac c) tn k)) (nI k) := by
  intro d
  induction d with
  | zero =>
    intro k f X hk hf hX hb hc
    obtain ⟨f, rfl⟩ : ∃ f', f = f' + 1 := ⟨f - 1, by omega⟩
    have : k = 3 := by omega
    subst this
    rw [wp_Site_choose_5]
    refine ⟨fun _ => fin X hX hb (fun c hc' => ?_), fun q => absurd (by decide) q⟩
    have := hc ((c + 3 - tn) % 3) (by omega)
    rw [show (tn + (c + 3 - tn) % 3) % 3 = c by omega] at this
    exact this
  | succ d ih =>
    intro k f X hk hf hX hb hc
    obtain ⟨f, rfl⟩ : ∃ f', f = f' + 1 := ⟨f - 1, by omega⟩
    have hk3 : k < 3 := by omega
    have e1 : ¬ (3 : Int32) ≤ nI k := nI_ge (b := 3) (by omega) (by omega)
    have e2 := ring3 (a := tn) (b := k) (by omega) (by omega)
    have e3 : vp_in (nI ((tn + k) % 3)) 3 := vp_in_nI (by omega) (by omega)
    have hcc : (tn + k) % 3 < 3 := by omega
    have hXC := h.ag hX
    obtain ⟨o1, o2, o3, o4, o5⟩ := hXC.2.2 _ hcc
    have hu := cuUsed_le room (fun c => on c && ac c) tn k
    have hus := cuUsed_s (room := room) (cd := fun c => on c && ac c) htn hk3
    have hch := cuCh_k (room := room) (cd := fun c => on c && ac c) htn hk3
    have key : ∀ p0, p0 = (if cuCh room (fun c => on c && ac c) tn ((tn + k) % 3) = true then (1 : Int32) else 0) → wp_Site_choose_51 (19 + 95 * j) a1 (nI tn) post (fun S x3 x4 => wp_Site_choose_5 (19 + 95 * j) a1 (nI tn) post f S x3 x4) X (nI (room - cuUsed room (fun c => on c && ac c) tn k)) (nI k) (sA j ((tn + k) % 3)) p0 (sA j ((tn + k) % 3)) := by
      intro p0 e0
      have nx : ∀ Y, Y = fw_si X (sA j ((tn + k) % 3)) 10 p0 → ∀ x3, x3 = nI (room - cuUsed room (fun c => on c && ac c) tn (k + 1)) → wp_Site_choose_65 (19 + 95 * j) a1 (nI tn) post (fun S x3 x4 => wp_Site_choose_5 (19 + 95 * j) a1 (nI tn) post f S x3 x4) Y x3 (nI k) (sA j ((tn + k) % 3)) := by
        intro Y eY x3 ex v1 ev
        rw [ev, ex, nI_1]
        refine ih (k + 1) f Y (by omega) (by omega) (by rw [eY]; exact hX.si hcc (.inl rfl)) (fun c hc' => ?_) (fun i hi => ?_)
        · rw [eY, gi_i, if_neg (fun q => absurd q.2 (by decide))]
          exact hb c hc'
        · rw [eY, gi_i]
          by_cases q : i = k
          · rw [q, if_pos ⟨rfl, rfl⟩, e0]
          · rw [if_neg (fun q2 => by have := q2.1; unfold sA at this; omega)]
            exact hc i (by omega)
      cases hC : cuCh room (fun c => on c && ac c) tn ((tn + k) % 3)
      · rw [hC] at e0 hus
        refine ⟨.inl e0, fun S2 eS => ⟨fun _ => nx S2 eS _ (by rw [hus]; rfl), fun q => absurd ?_ q⟩⟩
        rw [eS, gi_i, if_pos ⟨rfl, rfl⟩, e0]
        rfl
      · rw [hC] at e0 hus
        refine ⟨.inr e0, fun S2 eS => ⟨fun q => absurd q ?_, fun _ => fun v4 e4 => nx S2 eS _ ?_⟩⟩
        · rw [eS, gi_i, if_pos ⟨rfl, rfl⟩, e0]
          decide
        · rw [hC] at hch
          have hlt := of_decide_eq_true (Bool.and_eq_true _ _ ▸ hch.symm).1
          rw [e4, hus, if_pos rfl]
          obtain ⟨m, hm⟩ : ∃ m, room - cuUsed room (fun c => on c && ac c) tn k = m + 1 := ⟨room - cuUsed room (fun c => on c && ac c) tn k - 1, by omega⟩
          rw [hm, pk_m1]
          exact congrArg nI (by omega)
    have key0 : cuCh room (fun c => on c && ac c) tn ((tn + k) % 3) = false → wp_Site_choose_50 (19 + 95 * j) a1 (nI tn) post (fun S x3 x4 => wp_Site_choose_5 (19 + 95 * j) a1 (nI tn) post f S x3 x4) X (nI (room - cuUsed room (fun c => on c && ac c) tn k)) (nI k) (sA j ((tn + k) % 3)) (sA j ((tn + k) % 3)) := fun hC => key 0 (by rw [hC]; rfl)
    rw [wp_Site_choose_5, e2, addrS j _ (by omega)]
    refine ⟨fun q => absurd q e1, fun _ => ⟨e3, fun q => key0 ?_, fun q => ⟨fun q2 => key0 ?_, fun q2 => ?_⟩⟩⟩
    · rw [hch]
      have : ¬ (cuUsed room (fun c => on c && ac c) tn k < room) := fun q3 => by
        exact absurd q (nI_nle (by omega) (by omega))
      rw [decide_eq_false this]
      rfl
    · rw [hch]
      show (_ && (on _ && ac _)) = false
      rw [o1.mp q2]
      simp
    · rw [act_c hXC hcc]
      have hon : on ((tn + k) % 3) = true := by
        cases e : on ((tn + k) % 3)
        · exact absurd (o1.mpr e) q2
        · rfl
      have hlt : cuUsed room (fun c => on c && ac c) tn k < room := by
        refine Classical.byContradiction fun q3 => q ?_
        rw [show room - cuUsed room (fun c => on c && ac c) tn k = 0 by omega]
        decide
      cases hac : ac ((tn + k) % 3)
      · refine ⟨fun _ => key0 ?_, fun q => absurd rfl q⟩
        rw [hch]
        show (_ && (on _ && ac _)) = false
        rw [hac]
        simp
      · refine ⟨fun q => absurd q (by decide), fun _ => key 1 ?_⟩
        rw [hch]
        show _ = if (_ && (on _ && ac _)) = true then _ else _
        rw [hac, hon, decide_eq_true hlt]
        rfl
