/-! how long nothing happens -/
def cE (A B : fw_S) : Prop := (∀ o k, o < 33 → ¬ (o = 0 ∧ (k = 10 ∨ k = 11)) → A.1 o k = B.1 o k) ∧ ∀ o k, o < 33 → A.2 o k = B.2 o k
theorem es58 {X : fw_S} {p t Y : Nat} {r : Int32} {post : fw_S → Int32 → Prop} (ht : t < 1000000000) (hY : 1 ≤ Y) (hY2 : Y ≤ 86400) (hs : X.1 (pO p + 2) 4 = -1 ∨ ∃ a, a ≤ t ∧ X.1 (pO p + 2) 4 = nI a)
    (fin : ∀ e, 1 ≤ e → e ≤ Y → (wtC (vw p X) → ((vw p X).1 2 4 = -1 → e = 1) ∧ ∀ a, a ≤ t → (vw p X).1 2 4 = nI a → e = 1 ∨ t + e ≤ a + 20) → post X (nI e)) : wp_Point_evenSeconds_58 (pO p) (nI t) r post X (nI Y) := by
  have e80 : ∀ x : Nat, x ≤ 86400 → (if (1 : Int32) < nI x then nI x else 1) = nI (max 1 x) := fun x hx => by
    by_cases q : 1 < x
    · rw [if_pos (show (1 : Int32) < nI x from nI_lt (a := 1) q (by omega)), Nat.max_eq_right (by omega)]
    · rw [if_neg (show ¬ (1 : Int32) < nI x from nI_nlt (a := 1) (b := x) (by omega) (by omega)), Nat.max_eq_left (by omega)]
      rfl
  have no : ¬ wtC (vw p X) → wp_Point_evenSeconds_80 (pO p) (nI t) r post X (nI Y) := fun hn => by
    unfold wp_Point_evenSeconds_80
    rw [e80 Y hY2, Nat.max_eq_right hY]
    exact fin Y hY (Nat.le_refl _) (fun q => absurd q hn)
  unfold wp_Point_evenSeconds_58 wp_Point_waitsToSend wp_Point_waitsToSend_28 wp_Point_waitsToSend_29 wp_Point_isReachable wp_Point_isReachable_18 wp_Point_isReachable_19
  refine ⟨fun q => ⟨.inl rfl, fun _ => ⟨.inl rfl, fun _ => no (fun x => x.1 q), fun q => absurd rfl q⟩, fun q => absurd rfl q⟩, fun q1 => ⟨fun q => ⟨.inl rfl, fun _ => ⟨.inl rfl, fun _ => no (fun x => x.2.1 q), fun q => absurd rfl q⟩, fun q => absurd rfl q⟩, fun q2 => ⟨.inr rfl, fun q => absurd q (by decide), fun _ => ?_⟩⟩⟩
  refine ⟨fun q => ⟨.inl rfl, fun _ => no (fun x => x.2.2.1 q), fun q => absurd rfl q⟩, fun q3 => ⟨fun q => ⟨.inl rfl, fun _ => no (fun x => q x.2.2.2), fun q => absurd rfl q⟩, fun q4 => ⟨.inr rfl, fun q => absurd q (by decide), fun _ => ?_⟩⟩⟩
  unfold wp_Queue_firstDue wp_Queue_firstDue_19
  have one : ∀ v6 : Int32, ¬ (1 : Int32) < v6 → wp_Point_evenSeconds_80 (pO p) (nI t) r post X v6 := fun v6 h => by
    unfold wp_Point_evenSeconds_80
    rw [if_neg h]
    exact fin 1 (by omega) hY (fun _ => ⟨fun _ => rfl, fun _ _ _ => .inl rfl⟩)
  rcases hs with hs | ⟨a, ha, hs⟩
  · refine ⟨fun q => absurd hs q, fun _ => fun v6 e6 => one v6 ?_⟩
    rw [e6, Int32.sub_self, if_pos (show (0 : Int32) < nI Y from nI_lt (a := 0) hY (by omega))]
    decide
  · refine ⟨fun _ => fun v6 e6 => ?_, fun q => absurd (hs.symm.trans q) (nIm1 (by omega))⟩
    rw [hs, show nI a + 20 = nI (a + 20) from nI_add a 20] at e6
    by_cases h : t ≤ a + 20
    · rw [pk_sub h] at e6
      have e6 : v6 = nI (min (a + 20 - t) Y) := by
        rw [e6]
        by_cases q : a + 20 - t < Y
        · rw [if_pos (nI_lt q (by omega)), Nat.min_eq_left (by omega)]
        · rw [if_neg (nI_nlt (by omega) (by omega)), Nat.min_eq_right (by omega)]
      unfold wp_Point_evenSeconds_80
      rw [e6, e80 _ (by omega)]
      refine fin _ (by omega) (by omega) (fun _ => ⟨fun q => absurd (hs.symm.trans q) (nIm1 (by omega)), fun a' ha' q => ?_⟩)
      have : a' = a := nI_inj (by omega) (by omega) (q.symm.trans hs)
      omega
    · refine one v6 ?_
      have hneg : nI (a + 20) - nI t < 0 := pk_sneg (by omega) (by omega)
      have hlt : nI (a + 20) - nI t < nI Y := by
        rw [Int32.lt_iff_toInt_lt] at hneg ⊢
        rw [nI_toInt (show Y < 2 ^ 31 by omega)]
        have : (0 : Int32).toInt = 0 := by decide
        omega
      rw [e6, if_pos hlt]
      rw [Int32.lt_iff_toInt_lt] at hneg ⊢
      have : (0 : Int32).toInt = 0 := by decide
      have : (1 : Int32).toInt = 1 := by decide
      omega
theorem min32 {a b : Nat} (ha : a < 2 ^ 31) (hb : b < 2 ^ 31) : (if nI a < nI b then nI a else nI b) = nI (min a b) := by
  by_cases q : a < b
  · rw [if_pos (nI_lt q hb), Nat.min_eq_left (by omega)]
  · rw [if_neg (nI_nlt (by omega) ha), Nat.min_eq_right (by omega)]
theorem es_ex {X A : fw_S} {p t n r cu : Nat} {post : fw_S → Int32 → Prop} (hn : n ≤ 512) (hr1 : 1 ≤ r) (hr : r ≤ 86400) (ht : t + r ≤ 86400 * n) (hA : RV A t n) (hE : cE A (vw p X)) (h11 : X.1 (pO p) 11 = nI cu) (hcu : cu ≤ 320) (hful : rnC (vw p X) → ¬ (vw p X).1 1 1 = 0 → cu = 0)
    (fin : ∀ e, 1 ≤ e → e ≤ r → (∀ m, 1 ≤ m → m ≤ e → KC (vw p X) t m cu) → post X (nI e)) : wp_Point_evenSeconds X (pO p) (nI t) (nI r) post := by
  obtain ⟨w, s, ls, z, h, u, g, hm, hc, hq, -⟩ := hA
  have E1 : ∀ o k, o < 31 → ¬ (o = 0 ∧ (k = 10 ∨ k = 11)) → X.1 (pO p + o) k = A.1 o k := fun o k ho hn => by
    rw [hE.1 o k (by omega) hn, ← vx_i ho]
  have hs : X.1 (pO p + 2) 4 = -1 ∨ ∃ a, a ≤ t ∧ X.1 (pO p + 2) 4 = nI a := by
    rw [E1 2 4 (by omega) (by omega)]
    exact hq.2.2.2.1.2
  have hz : X.1 (pO p + 2) 3 = nI z := (E1 2 3 (by omega) (by omega)).trans hq.1.1
  have hz23 := hq.1.2.2.1
  unfold wp_Point_evenSeconds wp_Point_runs wp_Point_runs_18 wp_Point_runs_19
  have nr : ¬ rnC (vw p X) → wp_Point_evenSeconds_58 (pO p) (nI t) (nI r) post X (nI r) := fun hn => by
    refine es58 (by omega) hr1 hr hs (fun e h1 h2 h3 => fin e h1 h2 (fun m m1 m2 => ⟨⟨m1, by omega, hcu⟩, fun q => absurd q hn, fun q => absurd q hn, fun q => absurd q hn, fun q => ⟨fun x => ?_, fun a ha x => ?_⟩⟩))
    · have := (h3 q).1 x
      omega
    · have := (h3 q).2 a ha x
      omega
  refine ⟨fun q => ⟨.inl rfl, fun _ => nr (fun x => x.1 q), fun q => absurd rfl q⟩, fun q1 => ⟨fun q => ⟨.inl rfl, fun _ => nr (fun x => x.2 q), fun q => absurd rfl q⟩, fun q2 => ⟨.inr rfl, fun q => absurd q (by decide), fun _ => ?_⟩⟩⟩
  have hrn : rnC (vw p X) := ⟨q1, q2⟩
  -- how long the car takes
  have hs0 : s ≠ 0 := fun q => q1 (by have := E1 0 6 (by omega) (by omega); rw [Nat.add_zero] at this; rw [this, hm.2.2.2.1.2.1, q]; rfl)
  have hp1 : A.1 0 3 = 1 := by
    rcases hm.1.2 with q | q
    · exact absurd ((E1 0 3 (by omega) (by omega)).trans q) q2
    · exact q
  have hh1 := hc.2.2.2.2.2.2 hs0 hp1
  obtain ⟨f1, -, f2, f3, f4, f5, f6⟩ := hc.2.2.2.1 hh1
  have x11 : (vw p X).1 1 1 = A.1 1 1 := (hE.1 1 1 (by omega) (by omega)).symm
  have x14 : (vw p X).1 1 4 = Int32.ofInt g := (hE.1 1 4 (by omega) (by omega)).symm.trans f2
  have full : ∀ (P : fw_S → Int32 → Prop), (∀ F, 1 ≤ F → F ≤ 400000000 → (A.1 1 1 = 0 → ∀ m, 1 ≤ m → m ≤ F → ((23 * cu * (m - 1) : Nat) : Int) < g) → P X (nI F)) → wp_Car_secondsToFull X (pO p + 1) ((X.1 (pO p) 11) * 23) (nI r) P := by
    intro P hP
    have ew : nI cu * 23 = nI (23 * cu) := by rw [Int32.mul_comm]; exact pk_mul 23 cu
    rw [h11, ew]
    unfold wp_Car_secondsToFull wp_Car_secondsToFull_11
    rw [E1 1 1 (by omega) (by omega)]
    refine ⟨fun q => hP r hr1 (by omega) (fun x => absurd x q), fun q => ⟨fun q3 => ?_, fun q3 => ?_⟩⟩
    · have hc0 : 0 < cu := by
        refine Classical.byContradiction fun y => ?_
        rw [show cu = 0 by omega] at q3
        exact absurd q3 (by decide)
      have g0 : 0 < g := by
        refine Classical.byContradiction fun y => ?_
        have := f6.mpr (by omega)
        rw [q] at this
        exact absurd this (by decide)
      obtain ⟨G, hG⟩ : ∃ G : Nat, g = G := ⟨g.toNat, by omega⟩
      rw [E1 1 4 (by omega) (by omega), f2, hG, show Int32.ofInt (G : Int) = nI G from Int32.ofInt_eq_ofNat]
      refine ⟨nI_ne0 (by omega) (by omega), ?_⟩
      rw [nI_add]
      obtain ⟨K, hK⟩ : ∃ K, G + 23 * cu = K + 1 := ⟨G + 23 * cu - 1, by omega⟩
      rw [hK, nI_pred, pk_div (by omega) (by omega) (by omega)]
      refine hP _ ?_ ?_ (fun _ m h1 h2 => ?_)
      · exact (Nat.le_div_iff_mul_le (by omega)).mpr (by omega)
      · have := Nat.div_le_self K (23 * cu)
        omega
      · have h3 : m * (23 * cu) ≤ K := (Nat.le_div_iff_mul_le (by omega)).mp h2
        obtain ⟨m', rfl⟩ : ∃ m', m = m' + 1 := ⟨m - 1, by omega⟩
        have h4 : (m' + 1) * (23 * cu) = 23 * cu * m' + 23 * cu := by rw [Nat.mul_comm, Nat.mul_succ]
        rw [show m' + 1 - 1 = m' by omega]
        omega
    · have hc0 : cu = 0 := by
        refine Classical.byContradiction fun y => q3 ?_
        exact nI_lt (a := 0) (by omega) (by omega)
      refine hP r hr1 (by omega) (fun _ m _ _ => ?_)
      rw [hc0]
      have g0 : 0 < g := by
        refine Classical.byContradiction fun y => ?_
        have := f6.mpr (by omega)
        rw [q] at this
        exact absurd this (by decide)
      have : 23 * 0 * (m - 1) = 0 := by omega
      rw [this]
      exact g0
  have beat : ∀ b : Nat, b = 60 ∨ b = 900 → ((¬ (22 : Int32) ≤ X.1 (pO p + 2) 3) → b = 60) → wp_Point_evenSeconds_24 (pO p) (nI t) (nI r) post X (nI b) := by
    intro b hb hb2
    unfold wp_Point_evenSeconds_24
    have e1 : nI t - nI t / nI b * nI b = nI (t % b) := pk_rem (by omega) (by omega) (by omega)
    have hmod : t % b < b := Nat.mod_lt _ (by omega)
    refine ⟨nI_ne0 (by omega) (by omega), fun v2 e2 => ?_⟩
    rw [e1, pk_sub (by omega), min32 (by omega) (by omega)] at e2
    subst e2
    refine full _ (fun F hF1 hF2 hF => ?_)
    intro v5 e5
    rw [min32 (by omega) (by omega)] at e5
    subst e5
    refine es58 (by omega) (by omega) (by omega) hs (fun e h1 h2 h3 => fin e h1 (by omega) (fun m m1 m2 => ⟨⟨m1, by omega, hcu⟩, hful, fun _ x => ?_, fun _ => ?_, fun q => ⟨fun x => ?_, fun a ha x => ?_⟩⟩))
    · rw [x14, Int32.toInt_ofInt_of_le (by omega) (by omega)]
      exact hF (by rw [← x11]; exact x) m m1 (by omega)
    · rcases hb with hb | hb
      · subst hb
        exact ⟨fun _ => by omega, by omega⟩
      · subst hb
        exact ⟨fun x => absurd (hb2 x) (by omega), by omega⟩
    · have := (h3 q).1 x
      omega
    · have := (h3 q).2 a ha x
      omega
  unfold wp_Point_hasRoomForReading wp_Point_hasRoomForReading_17
  refine ⟨fun q3 => ⟨.inl rfl, fun _ => beat 900 (.inr rfl) (fun x => absurd q3 x), fun q => absurd rfl q⟩, fun q3 => ⟨.inr rfl, fun q => absurd q (by decide), fun _ => beat 60 (.inl rfl) (fun _ => rfl)⟩⟩
