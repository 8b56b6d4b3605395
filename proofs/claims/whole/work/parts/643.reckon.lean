/-! the reference's reckoning of one site -/
def RS (S : fw_S) (j lim : Nat) (on ac : Nat → Bool) (wn gw : Nat → Nat) : Prop :=
  S.1 210 j = nI lim ∧ lim ≤ 2000 ∧ ∀ c, c < 3 → (S.1 216 (j + 2 * c) = 0 ↔ on c = false) ∧ ((¬ S.1 218 (j + 2 * c) ≤ 0 ∧ ¬ S.1 215 (j + 2 * c) = 0 ∧ 60 ≤ wn c) ↔ ac c = true) ∧ ((S.1 227 (j + 2 * c) = 0 → wn c = 0) ∧ (¬ S.1 227 (j + 2 * c) = 0 → ¬ S.1 231 (j + 2 * c) = 0 → wn c = 0) ∧ (¬ S.1 227 (j + 2 * c) = 0 → S.1 231 (j + 2 * c) = 0 → S.1 228 (j + 2 * c) = nI (wn c))) ∧ wn c ≤ 320 ∧ (ac c = true → S.1 229 (j + 2 * c) = nI (gw c) ∧ gw c ≤ 9)
def agM (j : Nat) (S X : fw_S) : Prop := (∀ a k, ¬ (a = 243 ∧ (k = j ∨ k = j + 2 ∨ k = j + 4)) → X.1 a k = S.1 a k) ∧ X.2 = S.2
theorem agM.si {j c : Nat} {S X : fw_S} {v : Int32} (h : agM j S X) (hc : c < 3) : agM j S (fw_si X 243 (j + 2 * c) v) := by
  refine ⟨fun a i hn => ?_, h.2⟩
  rw [gi_i, if_neg (by omega)]
  exact h.1 a i hn
theorem RS.ag {S X : fw_S} {j lim : Nat} {on ac : Nat → Bool} {wn gw : Nat → Nat} (h : RS S j lim on ac wn gw) (ha : agM j S X) : RS X j lim on ac wn gw := by
  obtain ⟨h1, h2, h3⟩ := h
  refine ⟨by rw [ha.1 _ _ (by omega)]; exact h1, h2, fun c hc => ?_⟩
  rw [ha.1 216 _ (by omega), ha.1 218 _ (by omega), ha.1 215 _ (by omega), ha.1 227 _ (by omega), ha.1 231 _ (by omega), ha.1 228 _ (by omega), ha.1 229 _ (by omega)]
  exact h3 c hc
theorem wants_m {X : fw_S} {j lim c : Nat} {on ac : Nat → Bool} {wn gw : Nat → Nat} {post : fw_S → Int32 → Prop} (h : RS X j lim on ac wn gw) (hj : j < 2) (hc : c < 3) : wp_M_wantsNow X 209 (nI (j + 2 * c)) post = post X (nI (wn c)) := by
  obtain ⟨-, -, ⟨h1, h2, h3⟩, -⟩ := h.2.2 c hc
  have a4 : vp_in (nI (j + 2 * c)) 6 := vp_in_nI (by omega) (by omega)
  have a5 : (nI (j + 2 * c)).toNatClampNeg = j + 2 * c := nI_clamp (by omega)
  by_cases q1 : X.1 227 (j + 2 * c) = 0
  · simp [wp_M_wantsNow, wp_M_wantsNow_27, wp_M_wantsNow_28, a4, a5, q1, h1 q1]
    rfl
  · by_cases q2 : X.1 231 (j + 2 * c) = 0
    · simp [wp_M_wantsNow, wp_M_wantsNow_27, wp_M_wantsNow_28, a4, a5, q1, q2, h3 q1 q2]
    · simp [wp_M_wantsNow, wp_M_wantsNow_27, wp_M_wantsNow_28, a4, a5, q1, q2, h2 q1 q2]
      rfl
theorem act_m {X : fw_S} {j lim c : Nat} {on ac : Nat → Bool} {wn gw : Nat → Nat} {post : fw_S → Int32 → Prop} (h : RS X j lim on ac wn gw) (hj : j < 2) (hc : c < 3) : wp_M_isActive X 209 (nI (j + 2 * c)) post = post X (if ac c then 1 else 0) := by
  obtain ⟨-, h2, -, h4, -⟩ := h.2.2 c hc
  have a4 : vp_in (nI (j + 2 * c)) 6 := vp_in_nI (by omega) (by omega)
  have a5 : (nI (j + 2 * c)).toNatClampNeg = j + 2 * c := nI_clamp (by omega)
  have hw := fun (post : fw_S → Int32 → Prop) => wants_m (post := post) h hj hc
  by_cases q1 : X.1 218 (j + 2 * c) ≤ 0
  · have e : ac c = false := by
      cases e : ac c
      · rfl
      · exact absurd q1 (h2.mpr e).1
    simp [wp_M_isActive, wp_M_isActive_22, wp_M_isActive_23, wp_M_runs, wp_M_runs_22, wp_M_runs_23, fw_bz, a4, a5, q1, e, Int32.not_lt.mpr q1]
  · have q1' : 0 < X.1 218 (j + 2 * c) := Int32.not_le.mp q1
    by_cases q2 : X.1 215 (j + 2 * c) = 0
    · have e : ac c = false := by
        cases e : ac c
        · rfl
        · exact absurd q2 (h2.mpr e).2.1
      simp [wp_M_isActive, wp_M_isActive_22, wp_M_isActive_23, wp_M_runs, wp_M_runs_22, wp_M_runs_23, fw_bz, a4, a5, q1, q1', q2, e]
    · by_cases q3 : 60 ≤ wn c
      · have e : ac c = true := h2.mp ⟨q1, q2, q3⟩
        have e1 : ¬ nI (wn c) < 60 := nI_nlt (b := 60) q3 (by omega)
        have e2 : (60 : Int32) ≤ nI (wn c) := nI_le (a := 60) q3 (by omega)
        simp [wp_M_isActive, wp_M_isActive_22, wp_M_isActive_23, wp_M_runs, wp_M_runs_22, wp_M_runs_23, fw_bz, a4, a5, q1, q1', q2, e, hw, e1, e2]
      · have e : ac c = false := by
          cases e : ac c
          · rfl
          · exact absurd (h2.mpr e).2.2 q3
        have e1 : nI (wn c) < 60 := nI_lt (b := 60) (by omega) (by omega)
        have e2 : ¬ (60 : Int32) ≤ nI (wn c) := nI_ge (b := 60) (by omega) (by omega)
        simp [wp_M_isActive, wp_M_isActive_22, wp_M_isActive_23, wp_M_runs, wp_M_runs_22, wp_M_runs_23, fw_bz, a4, a5, q1, q1', q2, e, hw, e1, e2]
theorem share_m {X : fw_S} {w g v : Nat} {post : fw_S → Int32 → Prop} (hw : w ≤ 320) (hg : g ≤ 9) (hv : v ≤ 320) : wp_M_share X (nI w) (nI g) (nI v) post = post X (nI (cuAt w g v)) := by
  have hm : v * g ≤ 320 * 9 := Nat.mul_le_mul hv hg
  have e1 : nI v * nI g = nI (v * g) := pk_mul _ _
  unfold wp_M_share wp_M_share_16 wp_M_share_27 cuAt
  rw [e1]
  by_cases q : v * g ≤ 60
  · have i1 : nI (v * g) ≤ 60 := nI_le (b := 60) q (by omega)
    rw [Nat.max_eq_left (by omega)]
    by_cases q2 : 60 ≤ w
    · have i2 : (60 : Int32) ≤ nI w := nI_le (a := 60) q2 (by omega)
      rw [Nat.min_eq_right (by omega)]
      simp [i1, i2]
      rfl
    · have i2 : ¬ (60 : Int32) ≤ nI w := nI_ge (b := 60) (by omega) (by omega)
      rw [Nat.min_eq_left (by omega)]
      simp [i1, i2]
  · have i1 : ¬ nI (v * g) ≤ 60 := nI_ge (a := 60) (by omega) (by omega)
    rw [Nat.max_eq_right (by omega)]
    by_cases q2 : v * g ≤ w
    · have i2 : nI (v * g) ≤ nI w := nI_le q2 (by omega)
      rw [Nat.min_eq_right (by omega)]
      simp [i1, i2]
    · have i2 : ¬ nI (v * g) ≤ nI w := nI_ge (by omega) (by omega)
      rw [Nat.min_eq_left (by omega)]
      simp [i1, i2]
theorem reckon1 {S : fw_S} {j lim : Nat} {on ac : Nat → Bool} {wn gw : Nat → Nat} {post : fw_S → Prop} (h : RS S j lim on ac wn gw) (hj : j < 2)
    (fin : ∀ X, agM j S X → (∀ c, c < 3 → X.1 243 (j + 2 * c) = nI (cuBase lim on ac wn c)) → ∀ v2 : Int32, v2 = (((X.1 209 1) / 900) - ((X.1 209 1) / 900) / 3 * 3) → ∀ v3 : Int32, v3 = (nI (cuLeft lim on) / 60) → ∃ f0, wp_M_reckon_159 209 (nI j) post f0 X (nI (cuSafe lim)) (nI (cuLeft lim on)) v2 v3 0 0 0 0) :
    ∀ d k f X, k + d = 3 → d < f → agM j S X → (∀ c, c < k → X.1 243 (j + 2 * c) = nI (cuBase lim on ac wn c)) → wp_M_reckon_36 209 (nI j) post f X (nI (cuSafe lim)) (nI (cuL lim on k)) (nI (j + 2 * k)) := by
  have hs := cuSafe_le lim
  have hl := h.2.1
  intro d
  induction d with
  | zero =>
    intro k f X hk hf hX hb
    obtain ⟨f, rfl⟩ : ∃ f', f = f' + 1 := ⟨f - 1, by omega⟩
    have : k = 3 := by omega
    subst this
    rw [wp_M_reckon_36]
    exact ⟨fun _ => fin X hX hb, fun q => absurd (nI_le (a := 6) (by omega) (by omega)) q⟩
  | succ d ih =>
    intro k f X hk hf hX hb
    obtain ⟨f, rfl⟩ : ∃ f', f = f' + 1 := ⟨f - 1, by omega⟩
    have hk3 : k < 3 := by omega
    have e1 : ¬ (6 : Int32) ≤ nI (j + 2 * k) := nI_ge (b := 6) (by omega) (by omega)
    have e2 : vp_in (nI (j + 2 * k)) 6 := vp_in_nI (by omega) (by omega)
    have e3 : (nI (j + 2 * k)).toNatClampNeg = j + 2 * k := nI_clamp (by omega)
    have hXC := h.ag hX
    obtain ⟨o1, o2, o3, o4, o5⟩ := hXC.2.2 k hk3
    have key : ∀ x5 p0, p0 = nI (cuBase lim on ac wn k) → wp_M_reckon_104 209 (nI j) post (fun S x2 x3 x4 => wp_M_reckon_36 209 (nI j) post f S x2 x3 x4) X (nI (cuSafe lim)) (nI (cuL lim on k)) (nI (j + 2 * k)) x5 p0 (nI (j + 2 * k)) := by
      intro x5 p0 e0
      unfold wp_M_reckon_104
      rw [e3]
      refine ⟨e2, fun S2 eS => ⟨e2, ?_⟩⟩
      have h2 : agM j S S2 := by rw [eS]; exact hX.si hk3
      have b2 : ∀ c, c < k + 1 → S2.1 243 (j + 2 * c) = nI (cuBase lim on ac wn c) := fun c hc => by
        rw [eS, gi_i]
        by_cases q : c = k
        · rw [q, if_pos ⟨rfl, rfl⟩, e0]
        · rw [if_neg (by omega)]
          exact hb c (by omega)
      have nx : ∀ x3, x3 = nI (cuL lim on (k + 1)) → wp_M_reckon_122 209 (nI j) post (fun S x2 x3 x4 => wp_M_reckon_36 209 (nI j) post f S x2 x3 x4) S2 (nI (cuSafe lim)) (nI (cuL lim on k)) (nI (j + 2 * k)) x5 x3 := by
        intro x3 ex v1 ev
        rw [ev, ex, show nI (j + 2 * k) + 2 = nI (j + 2 * (k + 1)) from nI_add _ 2]
        exact ih (k + 1) f S2 (by omega) (by omega) h2 b2
      have hp1 := ((h.ag h2).2.2 k hk3).1
      refine ⟨fun q => nx _ ?_, fun q => nx _ ?_⟩
      · have hon : on k = false := hp1.mp q
        have := (cuL_ge lim on k (by omega)).1
        have m : 1 * cuSafe lim ≤ (3 - k) * cuSafe lim := Nat.mul_le_mul_right _ (by omega)
        rw [pk_sub (by omega), cuL]
        unfold cuOff
        rw [hon]
        rfl
      · have hon : on k = true := by
          cases e : on k
          · exact absurd (hp1.mpr e) q
          · rfl
        rw [cuL]
        unfold cuOff
        rw [hon]
        rfl
    have key0 : cuBase lim on ac wn k = 0 → wp_M_reckon_66 209 (nI j) post (fun S x2 x3 x4 => wp_M_reckon_36 209 (nI j) post f S x2 x3 x4) X (nI (cuSafe lim)) (nI (cuL lim on k)) (nI (j + 2 * k)) := fun e => by
      refine ⟨fun q => absurd rfl q, fun _ => key _ _ (by rw [e]; rfl)⟩
    rw [wp_M_reckon_36, act_m hXC hj hk3, e3]
    refine ⟨fun q => absurd q e1, fun _ => ?_⟩
    cases hac : ac k
    · refine ⟨fun _ => key0 ?_, fun q => absurd rfl q⟩
      unfold cuBase
      rw [hac]
      simp
    · refine ⟨fun q => absurd q (by decide), fun _ => ⟨e2, fun q => key0 ?_, fun q => ?_⟩⟩
      · have hon : on k = true := by
          cases e : on k
          · exact absurd (o1.mpr e) q
          · rfl
        unfold cuBase
        rw [hon]
        rfl
      · have hon : on k = false := o1.mp q
        have hB : cuBase lim on ac wn k = min (cuSafe lim) (wn k) := by
          unfold cuBase
          rw [hac, hon]
          rfl
        refine ⟨fun _ => ?_, fun q => absurd q (by decide)⟩
        rw [wants_m hXC hj hk3]
        refine ⟨fun q2 => key _ _ ?_, fun q2 => ?_⟩
        · rw [hB, Nat.min_eq_left]
          exact Classical.byContradiction fun q3 => absurd q2 (nI_ge (by omega) (by omega))
        · rw [wants_m hXC hj hk3]
          refine key _ _ ?_
          rw [hB, Nat.min_eq_right]
          have : ¬ cuSafe lim ≤ wn k := fun q3 => q2 (nI_le q3 (by omega))
          omega
def fB (b : Bool) : Int32 := if b = true then 1 else 0
theorem flags {j : Nat} {post : fw_S → Prop} {k159 : fw_S → Int32 → Int32 → Int32 → Int32 → Int32 → Int32 → Int32 → Int32 → Prop} {S : fw_S} {x2 x3 x4 x5 x9 x11 : Int32} {a b c : Bool} {m : Nat} (hm : m < 3) (h : wp_M_reckon_262 209 (nI j) post k159 S x2 x3 x4 x5 (fB (a || decide (m = 0))) (fB (b || decide (m = 1))) (fB (c || decide (m = 2))) x9 (nI m) x11) :
    ((¬ (fB a = 0) → wp_M_reckon_219 209 (nI j) post k159 S x2 x3 x4 x5 (fB a) (fB b) (fB c) x9 (nI m) x11) ∧ ((fB a = 0) → ((¬ (nI m = 0) → wp_M_reckon_224 209 (nI j) post k159 S x2 x3 x4 x5 (fB a) (fB b) (fB c) x9 (nI m) x11 0) ∧ ((nI m = 0) → wp_M_reckon_219 209 (nI j) post k159 S x2 x3 x4 x5 (fB a) (fB b) (fB c) x9 (nI m) x11)))) := by
  have n0 : nI 0 = 0 := rfl
  have n1 : nI 1 = 1 := rfl
  have n2 : nI 2 = 2 := rfl
  rcases (show m = 0 ∨ m = 1 ∨ m = 2 by omega) with rfl | rfl | rfl
  all_goals
    cases a <;> cases b <;> cases c
    all_goals
      simp only [n0, n1, n2] at h ⊢
      simp [fB, wp_M_reckon_219, wp_M_reckon_224, wp_M_reckon_237, wp_M_reckon_242, wp_M_reckon_255, wp_M_reckon_260] at h ⊢
      exact h
