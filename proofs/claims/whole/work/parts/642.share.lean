theorem taken_c {X : fw_S} {j lim v : Nat} {on ac ch : Nat → Bool} {wn gw : Nat → Nat} {post : fw_S → Int32 → Prop} (h : CS X j lim on ac wn gw) (hch : ∀ c, c < 3 → X.1 (sA j c) 10 = if ch c = true then 1 else 0) (hca : ∀ c, c < 3 → ch c = true → ac c = true) (hv : v ≤ 320) (fin : post X (nI (cuT ch wn gw v))) : wp_Site_takenAt X (19 + 95 * j) (nI v) post := by
  intro v1 e1
  rw [e1]
  have key : ∀ d k f, k + d = 3 → d < f → wp_Site_takenAt_14 (19 + 95 * j) (nI v) post f X (nI (cuTk ch wn gw v k)) (nI 3) (nI k) := by
    intro d
    induction d with
    | zero =>
      intro k f hk hf
      obtain ⟨f, rfl⟩ : ∃ f', f = f' + 1 := ⟨f - 1, by omega⟩
      have : k = 3 := by omega
      subst this
      rw [wp_Site_takenAt_14, cuTk_3]
      exact ⟨fun _ => fin, fun q => absurd (by decide) q⟩
    | succ d ih =>
      intro k f hk hf
      obtain ⟨f, rfl⟩ : ∃ f', f = f' + 1 := ⟨f - 1, by omega⟩
      have hk3 : k < 3 := by omega
      have e1 : ¬ nI 3 ≤ nI k := nI_ge (by omega) (by omega)
      have e2 : vp_in (nI k) 3 := vp_in_nI (by omega) (by omega)
      have nx : ∀ x2, x2 = nI (cuTk ch wn gw v (k + 1)) → wp_Site_takenAt_44 (19 + 95 * j) (nI v) post (fun S x2 x4 x5 => wp_Site_takenAt_14 (19 + 95 * j) (nI v) post f S x2 x4 x5) X x2 (nI 3) (nI k) (sA j k) := by
        intro x2 ex v1 ev
        rw [ev, ex, nI_1]
        exact ih (k + 1) f (by omega) (by omega)
      rw [wp_Site_takenAt_14, addrS j k (by omega)]
      refine ⟨fun q => absurd q e1, fun _ => ⟨e2, fun q => nx _ ?_, fun q => ?_⟩⟩
      · rw [hch k hk3] at q
        have : ch k = false := by
          cases e : ch k
          · rfl
          · rw [e] at q; exact absurd q (by decide)
        rw [cuTk, this]
        rfl
      · rw [hch k hk3] at q
        have hc : ch k = true := by
          cases e : ch k
          · rw [e] at q; exact absurd rfl q
          · rfl
        rw [takes_c h hk3 (hca k hk3 hc) hv]
        intro v6 e6
        refine nx _ ?_
        rw [e6, nI_add, cuTk, hc]
        rfl
  exact ⟨4, key 3 0 4 (by omega) (by omega)⟩
theorem level_c {X : fw_S} {j lim left : Nat} {on ac ch : Nat → Bool} {wn gw : Nat → Nat} {post : fw_S → Int32 → Prop} (h : CS X j lim on ac wn gw) (hch : ∀ c, c < 3 → X.1 (sA j c) 10 = if ch c = true then 1 else 0) (hca : ∀ c, c < 3 → ch c = true → ac c = true) (hl : left ≤ 2000) (fin : post X (nI (cuBest (cuT ch wn gw) left 320))) : wp_Site_greatestLevel X (19 + 95 * j) (nI left) post := by
  have hT : ∀ v, cuT ch wn gw v ≤ 960 := fun v => by
    rw [← cuTk_3]
    have := cuTk_le (ch := ch) (wn := wn) (gw := gw) (v := v) (fun c hc => (h.2.2 c hc).2.2.2.1) 3 (by omega)
    omega
  have b1 := cuBest_le (cuT ch wn gw) left 320
  have b2 := cuBest_ok (cuT ch wn gw) left 320
  have b3 := cuBest_gt (cuT ch wn gw) left 320
  generalize hG : cuBest (cuT ch wn gw) left 320 = G at *
  have key : ∀ m f lv, m < f → m ≤ 9 → lv ≤ G → G < lv + 2 ^ m → wp_Site_greatestLevel_6 (19 + 95 * j) (nI left) post f X (nI lv) (nI (2 ^ m / 2)) := by
    intro m
    induction m with
    | zero =>
      intro f lv hf hm h1 h2
      obtain ⟨f, rfl⟩ : ∃ f', f = f' + 1 := ⟨f - 1, by omega⟩
      rw [wp_Site_greatestLevel_6]
      have : lv = G := by
        have : 2 ^ 0 = 1 := rfl
        omega
      rw [this]
      exact ⟨fun _ => fin, fun q => absurd (by decide) q⟩
    | succ m ih =>
      intro f lv hf hm h1 h2
      obtain ⟨f, rfl⟩ : ∃ f', f = f' + 1 := ⟨f - 1, by omega⟩
      have hp : 2 ^ (m + 1) = 2 * 2 ^ m := by rw [Nat.pow_succ]; omega
      have hp1 : 2 ^ (m + 1) / 2 = 2 ^ m := by omega
      have hp2 : 2 ^ m ≤ 2 ^ 9 := Nat.pow_le_pow_right (by omega) (by omega)
      have hp3 : 0 < 2 ^ m := Nat.two_pow_pos m
      have hp4 : (2 : Nat) ^ 9 = 512 := rfl
      have e1 : ¬ nI (2 ^ m) ≤ 0 := nI_nle hp3 (by omega)
      have nx : ∀ lv', lv' ≤ G → G < lv' + 2 ^ m → ∀ v2, wp_Site_greatestLevel_36 (19 + 95 * j) (nI left) post (fun S x2 x3 => wp_Site_greatestLevel_6 (19 + 95 * j) (nI left) post f S x2 x3) X (nI lv') (nI (2 ^ m)) v2 := by
        intro lv' q1 q2 v2 v1 ev
        rw [ev, show nI (2 ^ m) / 2 = nI (2 ^ m / 2) from pk_div (d := 2) (by omega) (by omega) (by omega)]
        exact ih f lv' (by omega) (by omega) q1 q2
      rw [wp_Site_greatestLevel_6, hp1]
      refine ⟨fun q => absurd q e1, fun _ => fun v2 e2 => ?_⟩
      rw [nI_add] at e2
      rw [e2]
      refine ⟨fun q => nx lv h1 ?_ _, fun q => ?_⟩
      · have : 320 < lv + 2 ^ m := by
          refine Classical.byContradiction fun q2 => ?_
          exact absurd q (nI_nlt (a := 320) (b := lv + 2 ^ m) (by omega) (by omega))
        omega
      · have h320 : lv + 2 ^ m ≤ 320 := by
          refine Classical.byContradiction fun q2 => q ?_
          exact nI_lt (a := 320) (by omega) (by omega)
        refine taken_c h hch hca h320 ?_
        have t1 := hT (lv + 2 ^ m)
        refine ⟨fun q3 => nx lv h1 ?_ _, fun q3 => nx _ ?_ (by omega) _⟩
        · have : ¬ cuT ch wn gw (lv + 2 ^ m) ≤ left := fun q4 => absurd q3 (nI_nlt q4 (by omega))
          refine Classical.byContradiction fun q5 => this ?_
          rcases b2 with b2 | b2
          · omega
          · exact Nat.le_trans (cuT_mono (by omega)) b2
        · have : cuT ch wn gw (lv + 2 ^ m) ≤ left := by
            refine Classical.byContradiction fun q4 => q3 ?_
            exact nI_lt (by omega) (by omega)
          refine Classical.byContradiction fun q5 => ?_
          exact b3 (lv + 2 ^ m) (by omega) h320 this
  exact ⟨10, key 9 10 0 (by omega) (by omega) (by omega) (by have : (2 : Nat) ^ 9 = 512 := rfl; omega)⟩
theorem share_ex {S : fw_S} {j lim t : Nat} {on ac : Nat → Bool} {wn gw : Nat → Nat} {post : fw_S → Prop} (h : CS S j lim on ac wn gw) (ht : t < 2 ^ 31) (fin : ∀ X, agS j S X → (∀ c, c < 3 → X.1 (sA j c) 11 = nI (cuOf lim on ac wn gw (t / 900 % 3) c)) → post X) : wp_Site_share S (19 + 95 * j) (nI t) post := by
  have hl := h.2.1
  have hle := (cuL_ge lim on 3 (by omega)).2
  rw [cuL_3] at hle
  have hsv : ∀ (P : Int32 → Prop), P (nI (cuSafe lim)) → ((60 ≤ nI (lim / 3) → P (nI (lim / 3))) ∧ (¬ 60 ≤ nI (lim / 3) → P 0)) := fun P hP => by
    unfold cuSafe at hP
    refine ⟨fun q => ?_, fun q => ?_⟩
    · rw [if_neg (fun q2 => absurd q (nI_ge (b := 60) q2 (by omega)))] at hP
      exact hP
    · rw [if_pos (Classical.byContradiction fun q2 => q (nI_le (a := 60) (by omega) (by omega)))] at hP
      exact hP
  have etn : nI t / 900 - nI t / 900 / 3 * 3 = nI (t / 900 % 3) := by
    rw [show nI t / 900 = nI (t / 900) from pk_div (d := 900) ht (by omega) (by omega)]
    exact pk_rem (d := 3) (by omega) (by omega) (by omega)
  have erm : nI (cuLeft lim on) / 60 = nI (cuLeft lim on / 60) := pk_div (d := 60) (by omega) (by omega) (by omega)
  unfold wp_Site_share wp_Site_safeCurrent wp_Site_safeCurrent_18
  rw [h.1]
  intro v1 e1
  have e1 : v1 = nI (lim / 3) := by rw [e1]; exact pk_div (d := 3) (by omega) (by omega) (by omega)
  subst e1
  refine hsv (fun r2 => ∀ v3 : Int32, v3 = S.1 (19 + 95 * j) 1 → ∀ v4 : Int32, v4 = nI 3 → ∃ f0, wp_Site_share_24 (19 + 95 * j) (nI t) post f0 S r2 v3 v4 0) ?_
  intro v3 e3 v4 e4
  rw [h.1] at e3
  subst e3; subst e4
  refine ⟨4, share1 h ?_ 3 0 4 S (by omega) (by omega) ⟨fun _ _ _ => rfl, rfl⟩ (fun c hc => absurd hc (by omega))⟩
  intro X hX hb
  rw [etn, erm]
  have hXC := h.ag hX
  refine ⟨4, ?_⟩
  have hc1 := choose1 (S := X) (tn := t / 900 % 3) (room := cuLeft lim on / 60) (post := fun S2 => wp_Site_greatestLevel S2 (19 + 95 * j) (nI (cuLeft lim on)) (fun S3 r4 => ∀ v5 : Int32, v5 = (nI 3) → ∃ f0, wp_Site_share_127 (19 + 95 * j) (nI t) post f0 S3 (nI (cuSafe lim)) (nI (cuLeft lim on)) r4 v5 0)) hXC (by omega) (by omega) (nI (cuLeft lim on / 60)) ?_ 3 0 4 X (by omega) (by omega) ⟨fun _ _ _ => rfl, rfl⟩ (fun c hc => rfl) (fun i hi => absurd hi (by omega))
  · exact hc1
  intro Y hY y1 y2
  have hSY : agS j S Y := ⟨fun a k hn => (hY.1 a k hn).trans (hX.1 a k hn), hY.2.trans hX.2⟩
  have hYC := h.ag hSY
  have hca : ∀ c, c < 3 → cuCh (cuLeft lim on / 60) (fun c => on c && ac c) (t / 900 % 3) c = true → ac c = true := fun c _ q => by
    unfold cuCh at q
    simp at q
    exact q.1.2
  refine level_c hYC y2 hca (by omega) ?_
  intro v5 e5
  subst e5
  have key : ∀ d k f Z, k + d = 3 → d < f → agS j S Z → (∀ c, c < 3 → Z.1 (sA j c) 10 = Y.1 (sA j c) 10) → (∀ c, c < 3 → Z.1 (sA j c) 11 = if c < k then nI (cuOf lim on ac wn gw (t / 900 % 3) c) else nI (cuBase lim on ac wn c)) → wp_Site_share_127 (19 + 95 * j) (nI t) post f Z (nI (cuSafe lim)) (nI (cuLeft lim on)) (nI (cuBest (cuT (cuCh (cuLeft lim on / 60) (fun c => on c && ac c) (t / 900 % 3)) wn gw) (cuLeft lim on) 320)) (nI 3) (nI k) := by
    intro d
    induction d with
    | zero =>
      intro k f Z hk hf hZ z1 z2
      obtain ⟨f, rfl⟩ : ∃ f', f = f' + 1 := ⟨f - 1, by omega⟩
      have : k = 3 := by omega
      subst this
      rw [wp_Site_share_127]
      refine ⟨fun _ => fin Z hZ (fun c hc => ?_), fun q => absurd (by decide) q⟩
      rw [z2 c hc, if_pos hc]
    | succ d ih =>
      intro k f Z hk hf hZ z1 z2
      obtain ⟨f, rfl⟩ : ∃ f', f = f' + 1 := ⟨f - 1, by omega⟩
      have hk3 : k < 3 := by omega
      have e1 : ¬ nI 3 ≤ nI k := nI_ge (by omega) (by omega)
      have e2 : vp_in (nI k) 3 := vp_in_nI (by omega) (by omega)
      have hZC := h.ag hZ
      have ne : ∀ c, c < 3 → c ≠ k → ¬ sA j c = sA j k := fun c hc hck => by unfold sA; omega
      have nx : ∀ W, agS j S W → (∀ c, c < 3 → W.1 (sA j c) 10 = Y.1 (sA j c) 10) → (∀ c, c < 3 → c ≠ k → W.1 (sA j c) 11 = Z.1 (sA j c) 11) → W.1 (sA j k) 11 = nI (cuOf lim on ac wn gw (t / 900 % 3) k) → wp_Site_share_161 (19 + 95 * j) (nI t) post (fun S x2 x3 x4 x6 x7 => wp_Site_share_127 (19 + 95 * j) (nI t) post f S x2 x3 x4 x6 x7) W (nI (cuSafe lim)) (nI (cuLeft lim on)) (nI (cuBest (cuT (cuCh (cuLeft lim on / 60) (fun c => on c && ac c) (t / 900 % 3)) wn gw) (cuLeft lim on) 320)) (nI 3) (nI k) (sA j k) := by
        intro W hW w1 w2 w3 v1 ev
        rw [ev, nI_1]
        refine ih (k + 1) f W (by omega) (by omega) hW w1 (fun c hc => ?_)
        by_cases q : c = k
        · rw [q, if_pos (by omega)]; exact w3
        · rw [w2 c hc q, z2 c hc]
          by_cases q2 : c < k
          · rw [if_pos q2, if_pos (by omega)]
          · rw [if_neg q2, if_neg (by omega)]
      rw [wp_Site_share_127, addrS j k (by omega)]
      refine ⟨fun q => absurd q e1, fun _ => ⟨e2, fun q => nx Z hZ z1 (fun _ _ _ => rfl) ?_, fun q => ?_⟩⟩
      · rw [z1 k hk3, y2 k hk3] at q
        have hcf : cuCh (cuLeft lim on / 60) (fun c => on c && ac c) (t / 900 % 3) k = false := by
          cases e : cuCh (cuLeft lim on / 60) (fun c => on c && ac c) (t / 900 % 3) k
          · rfl
          · rw [e] at q; exact absurd q (by decide)
        rw [z2 k hk3, if_neg (by omega)]
        show _ = nI (if _ then _ else _)
        rw [hcf]
        rfl
      · rw [z1 k hk3, y2 k hk3] at q
        have hcf : cuCh (cuLeft lim on / 60) (fun c => on c && ac c) (t / 900 % 3) k = true := by
          cases e : cuCh (cuLeft lim on / 60) (fun c => on c && ac c) (t / 900 % 3) k
          · rw [e] at q; exact absurd rfl q
          · rfl
        rw [takes_c hZC hk3 (hca k hk3 hcf) (cuBest_le _ _ _)]
        intro S6 e6
        refine nx S6 (by rw [e6]; exact hZ.si hk3 (.inr rfl)) (fun c hc => ?_) (fun c hc hck => ?_) ?_
        · rw [e6, gi_i, if_neg (fun q => absurd q.2 (by decide))]
          exact z1 c hc
        · rw [e6, gi_i, if_neg (fun q => ne c hc hck q.1)]
        · rw [e6, gi_i, if_pos ⟨rfl, rfl⟩]
          show _ = nI (if _ then _ else _)
          rw [hcf]
          rfl
  exact ⟨4, key 3 0 4 Y (by omega) (by omega) hSY (fun _ _ => rfl) (fun c hc => by rw [if_neg (by omega), y1 c hc, hb c hc])⟩
