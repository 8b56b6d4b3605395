theorem reckon2 {S : fw_S} {j lim tn room : Nat} {on ac : Nat → Bool} {wn gw : Nat → Nat} {post : fw_S → Prop} {x2 x3 : Int32} (h : RS S j lim on ac wn gw) (hj : j < 2) (htn : tn < 3) (hroom : room ≤ 2000)
    (fin : ∀ x5, ∃ f0, wp_M_reckon_274 209 (nI j) post f0 S x2 x3 (nI tn) x5 (fB (cuCh room (fun c => on c && ac c) tn 0)) (fB (cuCh room (fun c => on c && ac c) tn 1)) (fB (cuCh room (fun c => on c && ac c) tn 2)) 0 0) :
    ∀ d k f, k + d = 3 → d < f → ∀ fl : Nat → Bool, (∀ c, c < 3 → fl c = (cuCh room (fun c => on c && ac c) tn c && decide ((c + 3 - tn) % 3 < k))) → wp_M_reckon_159 209 (nI j) post f S x2 x3 (nI tn) (nI (room - cuUsed room (fun c => on c && ac c) tn k)) (fB (fl 0)) (fB (fl 1)) (fB (fl 2)) (nI k) := by
  intro d
  induction d with
  | zero =>
    intro k f hk hf fl hfl
    obtain ⟨f, rfl⟩ : ∃ f', f = f' + 1 := ⟨f - 1, by omega⟩
    have : k = 3 := by omega
    subst this
    have e : ∀ c, c < 3 → fl c = cuCh room (fun c => on c && ac c) tn c := fun c hc => by
      rw [hfl c hc, decide_eq_true (by omega), Bool.and_true]
    rw [wp_M_reckon_159, e 0 (by omega), e 1 (by omega), e 2 (by omega)]
    exact ⟨fun _ => fin _, fun q => absurd (by decide) q⟩
  | succ d ih =>
    intro k f hk hf fl hfl
    obtain ⟨f, rfl⟩ : ∃ f', f = f' + 1 := ⟨f - 1, by omega⟩
    have hk3 : k < 3 := by omega
    have e1 : ¬ (3 : Int32) ≤ nI k := nI_ge (b := 3) (by omega) (by omega)
    have e2 := ring3 (a := tn) (b := k) (by omega) (by omega)
    have hcc : (tn + k) % 3 < 3 := by omega
    have e3 : nI j + 2 * nI ((tn + k) % 3) = nI (j + 2 * ((tn + k) % 3)) := by
      rw [show (2 : Int32) * nI ((tn + k) % 3) = nI (2 * ((tn + k) % 3)) from pk_mul 2 _, nI_add]
    have e4 : vp_in (nI (j + 2 * ((tn + k) % 3))) 6 := vp_in_nI (by omega) (by omega)
    have e5 : (nI (j + 2 * ((tn + k) % 3))).toNatClampNeg = j + 2 * ((tn + k) % 3) := nI_clamp (by omega)
    obtain ⟨o1, o2, o3, o4, o5⟩ := h.2.2 _ hcc
    have hu := cuUsed_le room (fun c => on c && ac c) tn k
    have hus := cuUsed_s (room := room) (cd := fun c => on c && ac c) htn hk3
    have hch := cuCh_k (room := room) (cd := fun c => on c && ac c) htn hk3
    have key0 : cuCh room (fun c => on c && ac c) tn ((tn + k) % 3) = false → ∀ x10 x11, wp_M_reckon_262 209 (nI j) post (fun S x2 x3 x4 x5 x6 x7 x8 x9 => wp_M_reckon_159 209 (nI j) post f S x2 x3 x4 x5 x6 x7 x8 x9) S x2 x3 (nI tn) (nI (room - cuUsed room (fun c => on c && ac c) tn k)) (fB (fl 0)) (fB (fl 1)) (fB (fl 2)) (nI k) x10 x11 := by
      intro hC x10 x11 v1 ev
      rw [ev, nI_1]
      rw [hC] at hus
      have hus : cuUsed room (fun c => on c && ac c) tn (k + 1) = cuUsed room (fun c => on c && ac c) tn k := by rw [hus]; rfl
      rw [← hus]
      refine ih (k + 1) f (by omega) (by omega) fl (fun c hc => ?_)
      rw [hfl c hc]
      by_cases q : (c + 3 - tn) % 3 = k
      · have : c = (tn + k) % 3 := by omega
        rw [this, hC]
        rfl
      · rw [show decide ((c + 3 - tn) % 3 < k) = decide ((c + 3 - tn) % 3 < k + 1) from decide_eq_decide.mpr (by omega)]
    rw [wp_M_reckon_159]
    refine ⟨fun q => absurd q e1, fun _ => fun v2 ev2 v3 ev3 => ?_⟩
    rw [e2] at ev2
    subst ev2
    rw [e3] at ev3
    subst ev3
    refine ⟨fun q => key0 ?_ _ _, fun q => ?_⟩
    · rw [hch]
      have : ¬ (cuUsed room (fun c => on c && ac c) tn k < room) := fun q3 => absurd q (nI_nle (by omega) (by omega))
      rw [decide_eq_false this]
      rfl
    · have hlt : cuUsed room (fun c => on c && ac c) tn k < room := by
        refine Classical.byContradiction fun q3 => q ?_
        rw [show room - cuUsed room (fun c => on c && ac c) tn k = 0 by omega]
        decide
      rw [act_m h hj hcc, e5]
      cases hac : ac ((tn + k) % 3)
      · refine ⟨fun _ => key0 ?_ _ _, fun q => absurd rfl q⟩
        rw [hch]
        show (_ && (on _ && ac _)) = false
        rw [hac]
        simp
      · refine ⟨fun q => absurd q (by decide), fun _ => ⟨e4, fun q2 => key0 ?_ _ _, fun q2 => fun v10 e10 => ?_⟩⟩
        · rw [hch]
          show (_ && (on _ && ac _)) = false
          rw [o1.mp q2]
          simp
        · have hon : on ((tn + k) % 3) = true := by
            cases e : on ((tn + k) % 3)
            · exact absurd (o1.mpr e) q2
            · rfl
          have hC : cuCh room (fun c => on c && ac c) tn ((tn + k) % 3) = true := by
            rw [hch]
            show (_ && (on _ && ac _)) = true
            rw [hac, hon, decide_eq_true hlt]
            rfl
          refine flags hcc ?_
          intro v1 ev
          rw [hC] at hus
          have hv : v10 = nI (room - cuUsed room (fun c => on c && ac c) tn (k + 1)) := by
            rw [e10, hus, if_pos rfl]
            obtain ⟨m, hm⟩ : ∃ m, room - cuUsed room (fun c => on c && ac c) tn k = m + 1 := ⟨room - cuUsed room (fun c => on c && ac c) tn k - 1, by omega⟩
            rw [hm, pk_m1]
            exact congrArg nI (by omega)
          rw [ev, nI_1, hv]
          refine ih (k + 1) f (by omega) (by omega) (fun c => fl c || decide ((tn + k) % 3 = c)) (fun c hc => ?_)
          show (fl c || decide ((tn + k) % 3 = c)) = _
          rw [hfl c hc]
          by_cases q : (tn + k) % 3 = c
          · rw [← q, hC, decide_eq_true rfl, decide_eq_true (show ((tn + k) % 3 + 3 - tn) % 3 < k + 1 by omega)]
            simp
          · rw [decide_eq_false q, Bool.or_false, show decide ((c + 3 - tn) % 3 < k) = decide ((c + 3 - tn) % 3 < k + 1) from decide_eq_decide.mpr (by omega)]
theorem fB_0 {b : Bool} (h : fB b = 0) : b = false := by
  cases b
  · rfl
  · exact absurd h (by decide)
theorem fB_1 {b : Bool} (h : ¬ fB b = 0) : b = true := by
  cases b
  · exact absurd rfl h
  · rfl
/-- one of three by its number -/
theorem three {P : Int32 → Prop} {ch : Nat → Bool} {k : Nat} (hk : k < 3) (h : P (fB (ch k))) : ((¬ (nI k = 0) → ((¬ (nI k = 1) → P (fB (ch 2))) ∧ ((nI k = 1) → P (fB (ch 1))))) ∧ ((nI k = 0) → P (fB (ch 0)))) := by
  rcases (show k = 0 ∨ k = 1 ∨ k = 2 by omega) with rfl | rfl | rfl
  · exact ⟨fun q => absurd rfl q, fun _ => h⟩
  · exact ⟨fun _ => ⟨fun q => absurd rfl q, fun _ => h⟩, fun q => absurd q (by decide)⟩
  · exact ⟨fun _ => ⟨fun _ => h, fun q => absurd q (by decide)⟩, fun q => absurd q (by decide)⟩
theorem reckon3 {S : fw_S} {j lim left : Nat} {on ac ch : Nat → Bool} {wn gw : Nat → Nat} {post : fw_S → Prop} {x2 x4 x5 : Int32} (h : RS S j lim on ac wn gw) (hj : j < 2) (hl : left ≤ 2000) (hca : ∀ c, c < 3 → ch c = true → ac c = true)
    (fin : ∃ f0, wp_M_reckon_390 209 (nI j) post f0 S x2 (nI left) x4 x5 (fB (ch 0)) (fB (ch 1)) (fB (ch 2)) (nI (cuBest (cuT ch wn gw) left 320)) 0) :
    ∀ d v f, v + d = 321 → d < f → wp_M_reckon_274 209 (nI j) post f S x2 (nI left) x4 x5 (fB (ch 0)) (fB (ch 1)) (fB (ch 2)) (nI (cuBest (cuT ch wn gw) left (v - 1))) (nI v) := by
  intro d
  induction d with
  | zero =>
    intro v f hv hf
    obtain ⟨f, rfl⟩ : ∃ f', f = f' + 1 := ⟨f - 1, by omega⟩
    have : v = 321 := by omega
    subst this
    rw [wp_M_reckon_274]
    exact ⟨fun _ => fin, fun q => absurd (nI_lt (a := 320) (b := 321) (by omega) (by omega)) q⟩
  | succ d ih =>
    intro v f hv hf
    obtain ⟨f, rfl⟩ : ∃ f', f = f' + 1 := ⟨f - 1, by omega⟩
    rw [wp_M_reckon_274]
    refine ⟨fun q => absurd q (nI_nlt (a := 320) (b := v) (by omega) (by omega)), fun _ => ⟨4, ?_⟩⟩
    have hT : cuT ch wn gw v ≤ 960 := by
      rw [← cuTk_3]
      have := cuTk_le (ch := ch) (wn := wn) (gw := gw) (v := v) (fun c hc => (h.2.2 c hc).2.2.2.1) 3 (by omega)
      omega
    have inner : ∀ d k f', k + d = 3 → d < f' → wp_M_reckon_288 209 (nI j) post (fun S x2 x3 x4 x5 x6 x7 x8 x9 x10 => wp_M_reckon_274 209 (nI j) post f S x2 x3 x4 x5 x6 x7 x8 x9 x10) f' S x2 (nI left) x4 x5 (fB (ch 0)) (fB (ch 1)) (fB (ch 2)) (nI (cuBest (cuT ch wn gw) left (v - 1))) (nI v) (nI (cuTk ch wn gw v k)) (nI k) := by
      intro d
      induction d with
      | zero =>
        intro k f' hk hf'
        obtain ⟨f', rfl⟩ : ∃ f'', f' = f'' + 1 := ⟨f' - 1, by omega⟩
        have : k = 3 := by omega
        subst this
        rw [wp_M_reckon_288, cuTk_3]
        have nx : ∀ x9, x9 = nI (cuBest (cuT ch wn gw) left (v + 1 - 1)) → ∀ x11 x12, wp_M_reckon_379 209 (nI j) post (fun S x2 x3 x4 x5 x6 x7 x8 x9 x10 => wp_M_reckon_274 209 (nI j) post f S x2 x3 x4 x5 x6 x7 x8 x9 x10) S x2 (nI left) x4 x5 (fB (ch 0)) (fB (ch 1)) (fB (ch 2)) (nI (cuBest (cuT ch wn gw) left (v - 1))) (nI v) x11 x12 x9 := by
          intro x9 e9 x11 x12 v1 ev
          rw [ev, nI_1, e9]
          exact ih (v + 1) f (by omega) (by omega)
        refine ⟨fun _ => ⟨fun q => nx _ ?_ _ _, fun q => nx _ ?_ _ _⟩, fun q => absurd (by decide) q⟩
        · have hn : ¬ cuT ch wn gw v ≤ left := fun q2 => absurd q (nI_nlt q2 (by omega))
          rcases Nat.eq_zero_or_pos v with rfl | hv0
          · rfl
          · obtain ⟨m, rfl⟩ : ∃ m, v = m + 1 := ⟨v - 1, by omega⟩
            show nI (cuBest _ left m) = nI (cuBest _ left (m + 1))
            rw [cuBest, if_neg hn]
        · have hn : cuT ch wn gw v ≤ left := Classical.byContradiction fun q2 => q (nI_lt (by omega) (by omega))
          rcases Nat.eq_zero_or_pos v with rfl | hv0
          · rfl
          · obtain ⟨m, rfl⟩ : ∃ m, v = m + 1 := ⟨v - 1, by omega⟩
            show nI (m + 1) = nI (cuBest _ left (m + 1))
            rw [cuBest, if_pos hn]
      | succ d ihd =>
        intro k f' hk hf'
        obtain ⟨f', rfl⟩ : ∃ f'', f' = f'' + 1 := ⟨f' - 1, by omega⟩
        have hk3 : k < 3 := by omega
        have e1 : ¬ (3 : Int32) ≤ nI k := nI_ge (b := 3) (by omega) (by omega)
        have e3 : nI j + 2 * nI k = nI (j + 2 * k) := by
          rw [show (2 : Int32) * nI k = nI (2 * k) from pk_mul 2 _, nI_add]
        have e4 : vp_in (nI (j + 2 * k)) 6 := vp_in_nI (by omega) (by omega)
        have e5 : (nI (j + 2 * k)).toNatClampNeg = j + 2 * k := nI_clamp (by omega)
        rw [wp_M_reckon_288]
        refine ⟨fun q => absurd q e1, fun _ => fun v3 ev3 => ?_⟩
        rw [e3] at ev3
        subst ev3
        refine three (P := fun x => wp_M_reckon_325 209 (nI j) post (fun S x2 x3 x4 x5 x6 x7 x8 x9 x10 => wp_M_reckon_274 209 (nI j) post f S x2 x3 x4 x5 x6 x7 x8 x9 x10) (fun S x2 x3 x4 x5 x6 x7 x8 x9 x10 x11 x12 => wp_M_reckon_288 209 (nI j) post (fun S x2 x3 x4 x5 x6 x7 x8 x9 x10 => wp_M_reckon_274 209 (nI j) post f S x2 x3 x4 x5 x6 x7 x8 x9 x10) f' S x2 x3 x4 x5 x6 x7 x8 x9 x10 x11 x12) S x2 (nI left) x4 x5 (fB (ch 0)) (fB (ch 1)) (fB (ch 2)) (nI (cuBest (cuT ch wn gw) left (v - 1))) (nI v) (nI (cuTk ch wn gw v k)) (nI k) (nI (j + 2 * k)) x) hk3 ?_
        have nx : ∀ x11, x11 = nI (cuTk ch wn gw v (k + 1)) → ∀ x13 x14, wp_M_reckon_358 209 (nI j) post (fun S x2 x3 x4 x5 x6 x7 x8 x9 x10 => wp_M_reckon_274 209 (nI j) post f S x2 x3 x4 x5 x6 x7 x8 x9 x10) (fun S x2 x3 x4 x5 x6 x7 x8 x9 x10 x11 x12 => wp_M_reckon_288 209 (nI j) post (fun S x2 x3 x4 x5 x6 x7 x8 x9 x10 => wp_M_reckon_274 209 (nI j) post f S x2 x3 x4 x5 x6 x7 x8 x9 x10) f' S x2 x3 x4 x5 x6 x7 x8 x9 x10 x11 x12) S x2 (nI left) x4 x5 (fB (ch 0)) (fB (ch 1)) (fB (ch 2)) (nI (cuBest (cuT ch wn gw) left (v - 1))) (nI v) (nI (cuTk ch wn gw v k)) (nI k) x13 x14 x11 := by
          intro x11 e11 x13 x14 v1 ev
          rw [ev, nI_1, e11]
          exact ihd (k + 1) f' (by omega) (by omega)
        refine ⟨fun q => nx _ ?_ _ _, fun q => ?_⟩
        · rw [cuTk, fB_0 q]
          rfl
        · have hc := fB_1 q
          obtain ⟨-, -, -, o4, o5⟩ := h.2.2 k hk3
          obtain ⟨o6, o7⟩ := o5 (hca k hk3 hc)
          rw [wants_m h hj hk3, e5, o6]
          refine ⟨e4, ?_⟩
          rw [share_m o4 o7 (by omega)]
          refine nx _ ?_ _ _
          rw [nI_add, cuTk, hc]
          rfl
    exact inner 3 0 4 (by omega) (by omega)
theorem reckon_ex {S : fw_S} {j lim t : Nat} {on ac : Nat → Bool} {wn gw : Nat → Nat} {post : fw_S → Prop} (h : RS S j lim on ac wn gw) (hj : j < 2) (ht : t < 2 ^ 31) (hS : S.1 209 1 = nI t) (fin : ∀ X, agM j S X → (∀ c, c < 3 → X.1 243 (j + 2 * c) = nI (cuOf lim on ac wn gw (t / 900 % 3) c)) → post X) : wp_M_reckon S 209 (nI j) post := by
  have hl := h.2.1
  have hle := (cuL_ge lim on 3 (by omega)).2
  rw [cuL_3] at hle
  have a4 : vp_in (nI j) 2 := vp_in_nI (by omega) (by omega)
  have a5 : (nI j).toNatClampNeg = j := nI_clamp (by omega)
  have etn : nI t / 900 - nI t / 900 / 3 * 3 = nI (t / 900 % 3) := by
    rw [show nI t / 900 = nI (t / 900) from pk_div (d := 900) ht (by omega) (by omega)]
    exact pk_rem (d := 3) (by omega) (by omega) (by omega)
  have erm : nI (cuLeft lim on) / 60 = nI (cuLeft lim on / 60) := pk_div (d := 60) (by omega) (by omega) (by omega)
  have e3 : nI lim / 3 = nI (lim / 3) := pk_div (d := 3) (by omega) (by omega) (by omega)
  have main : wp_M_reckon_25 209 (nI j) post S (nI (cuSafe lim)) := by
    unfold wp_M_reckon_25
    rw [a5]
    refine ⟨a4, fun v2 e2 => ?_⟩
    rw [show S.1 (209 + 1) j = nI lim from h.1] at e2
    subst e2
    refine ⟨4, reckon1 h hj ?_ 3 0 4 S (by omega) (by omega) ⟨fun _ _ _ => rfl, rfl⟩ (fun c hc => absurd hc (by omega))⟩
    intro X hX hb v2 e2 v3 e3'
    rw [hX.1 209 1 (by omega), hS, etn] at e2
    rw [erm] at e3'
    subst e2; subst e3'
    have hXC := h.ag hX
    have hca : ∀ c, c < 3 → cuCh (cuLeft lim on / 60) (fun c => on c && ac c) (t / 900 % 3) c = true → ac c = true := fun c _ q => by
      unfold cuCh at q
      simp at q
      exact q.1.2
    refine ⟨4, reckon2 (room := cuLeft lim on / 60) (tn := t / 900 % 3) hXC hj (by omega) (by omega) (fun x5 => ?_) 3 0 4 (by omega) (by omega) (fun _ => false) (fun c hc => by simp)⟩
    refine ⟨322, reckon3 hXC hj (by omega) hca ?_ 321 0 322 (by omega) (by omega)⟩
    have key : ∀ d k f Z, k + d = 3 → d < f → agM j S Z → (∀ c, c < 3 → Z.1 243 (j + 2 * c) = if c < k then nI (cuOf lim on ac wn gw (t / 900 % 3) c) else nI (cuBase lim on ac wn c)) → wp_M_reckon_390 209 (nI j) post f Z (nI (cuSafe lim)) (nI (cuLeft lim on)) (nI (t / 900 % 3)) x5 (fB (cuCh (cuLeft lim on / 60) (fun c => on c && ac c) (t / 900 % 3) 0)) (fB (cuCh (cuLeft lim on / 60) (fun c => on c && ac c) (t / 900 % 3) 1)) (fB (cuCh (cuLeft lim on / 60) (fun c => on c && ac c) (t / 900 % 3) 2)) (nI (cuBest (cuT (cuCh (cuLeft lim on / 60) (fun c => on c && ac c) (t / 900 % 3)) wn gw) (cuLeft lim on) 320)) (nI k) := by
      intro d
      induction d with
      | zero =>
        intro k f Z hk hf hZ z2
        obtain ⟨f, rfl⟩ : ∃ f', f = f' + 1 := ⟨f - 1, by omega⟩
        have : k = 3 := by omega
        subst this
        rw [wp_M_reckon_390]
        refine ⟨fun _ => fin Z hZ (fun c hc => ?_), fun q => absurd (by decide) q⟩
        rw [z2 c hc, if_pos hc]
      | succ d ih =>
        intro k f Z hk hf hZ z2
        obtain ⟨f, rfl⟩ : ∃ f', f = f' + 1 := ⟨f - 1, by omega⟩
        have hk3 : k < 3 := by omega
        have e1 : ¬ (3 : Int32) ≤ nI k := nI_ge (b := 3) (by omega) (by omega)
        have e3 : nI j + 2 * nI k = nI (j + 2 * k) := by
          rw [show (2 : Int32) * nI k = nI (2 * k) from pk_mul 2 _, nI_add]
        have e4 : vp_in (nI (j + 2 * k)) 6 := vp_in_nI (by omega) (by omega)
        have e5 : (nI (j + 2 * k)).toNatClampNeg = j + 2 * k := nI_clamp (by omega)
        have hZC := h.ag hZ
        rw [wp_M_reckon_390]
        refine ⟨fun q => absurd q e1, fun _ => fun v2 ev2 => ?_⟩
        rw [e3] at ev2
        subst ev2
        have nx : ∀ x12 p0, p0 = nI (cuOf lim on ac wn gw (t / 900 % 3) k) → wp_M_reckon_468 209 (nI j) post (fun S x2 x3 x4 x5 x6 x7 x8 x9 x10 => wp_M_reckon_390 209 (nI j) post f S x2 x3 x4 x5 x6 x7 x8 x9 x10) Z (nI (cuSafe lim)) (nI (cuLeft lim on)) (nI (t / 900 % 3)) x5 (fB (cuCh (cuLeft lim on / 60) (fun c => on c && ac c) (t / 900 % 3) 0)) (fB (cuCh (cuLeft lim on / 60) (fun c => on c && ac c) (t / 900 % 3) 1)) (fB (cuCh (cuLeft lim on / 60) (fun c => on c && ac c) (t / 900 % 3) 2)) (nI (cuBest (cuT (cuCh (cuLeft lim on / 60) (fun c => on c && ac c) (t / 900 % 3)) wn gw) (cuLeft lim on) 320)) (nI k) (nI (j + 2 * k)) x12 p0 (nI (j + 2 * k)) := by
          intro x12 p0 e0
          unfold wp_M_reckon_468
          rw [e5]
          refine ⟨e4, fun S2 eS v3 ev => ?_⟩
          rw [ev, nI_1]
          refine ih (k + 1) f S2 (by omega) (by omega) (by rw [eS]; exact hZ.si hk3) (fun c hc => ?_)
          rw [eS, gi_i]
          by_cases q : c = k
          · rw [q, if_pos ⟨rfl, rfl⟩, if_pos (by omega), e0]
          · rw [if_neg (by omega), z2 c hc]
            by_cases q2 : c < k
            · rw [if_pos q2, if_pos (by omega)]
            · rw [if_neg q2, if_neg (by omega)]
        refine three (ch := cuCh (cuLeft lim on / 60) (fun c => on c && ac c) (t / 900 % 3)) (P := fun x => wp_M_reckon_427 209 (nI j) post (fun S x2 x3 x4 x5 x6 x7 x8 x9 x10 => wp_M_reckon_390 209 (nI j) post f S x2 x3 x4 x5 x6 x7 x8 x9 x10) Z (nI (cuSafe lim)) (nI (cuLeft lim on)) (nI (t / 900 % 3)) x5 (fB (cuCh (cuLeft lim on / 60) (fun c => on c && ac c) (t / 900 % 3) 0)) (fB (cuCh (cuLeft lim on / 60) (fun c => on c && ac c) (t / 900 % 3) 1)) (fB (cuCh (cuLeft lim on / 60) (fun c => on c && ac c) (t / 900 % 3) 2)) (nI (cuBest (cuT (cuCh (cuLeft lim on / 60) (fun c => on c && ac c) (t / 900 % 3)) wn gw) (cuLeft lim on) 320)) (nI k) (nI (j + 2 * k)) x) hk3 ?_
        refine ⟨fun q => ?_, fun q => ?_⟩
        · have hcf := fB_0 q
          rw [e5]
          refine ⟨e4, nx _ _ ?_⟩
          rw [show Z.1 (209 + 34) (j + 2 * k) = Z.1 243 (j + 2 * k) from rfl, z2 k hk3, if_neg (by omega)]
          show _ = nI (if _ then _ else _)
          rw [hcf]
          rfl
        · have hcf := fB_1 q
          obtain ⟨-, -, -, o4, o5⟩ := hZC.2.2 k hk3
          obtain ⟨o6, o7⟩ := o5 (hca k hk3 hcf)
          rw [wants_m hZC hj hk3, e5, show Z.1 (209 + 20) (j + 2 * k) = nI (gw k) from o6]
          refine ⟨e4, ?_⟩
          rw [share_m o4 o7 (cuBest_le _ _ _)]
          refine nx _ _ ?_
          show _ = nI (if _ then _ else _)
          rw [hcf]
          rfl
    exact ⟨4, key 3 0 4 X (by omega) (by omega) hX (fun c hc => by rw [if_neg (by omega), hb c hc])⟩
  unfold wp_M_reckon
  rw [a5, show S.1 (209 + 1) j = nI lim from h.1, e3]
  refine ⟨a4, fun q => ⟨a4, ?_⟩, fun q => ?_⟩
  · unfold cuSafe at main
    rw [if_neg (fun q2 => absurd q (nI_ge (b := 60) q2 (by omega)))] at main
    exact main
  · unfold cuSafe at main
    rw [if_pos (Classical.byContradiction fun q2 => q (nI_le (a := 60) (by omega) (by omega)))] at main
    exact main
