/-! the object goes on: one point, then all -/
def fr (p : Nat) (Z Z' : fw_S) : Prop := ∀ a k, ¬ (pO p ≤ a ∧ a < pO p + 31) → Z'.1 a k = Z.1 a k ∧ Z'.2 a k = Z.2 a k
theorem fr.refl (p : Nat) (Z : fw_S) : fr p Z Z := fun _ _ _ => ⟨rfl, rfl⟩
theorem fr.trans {p : Nat} {X Y Z : fw_S} (h1 : fr p X Y) (h2 : fr p Y Z) : fr p X Z := fun a k hn => ⟨(h2 a k hn).1.trans (h1 a k hn).1, (h2 a k hn).2.trans (h1 a k hn).2⟩
theorem fr.si {p c k : Nat} {Z : fw_S} {v : Int32} (hc : c < 31) : fr p Z (fw_si Z (pO p + c) k v) := fun a j hn => ⟨by rw [gi_i, if_neg (by omega)], rfl⟩
theorem fr.sl {p c k : Nat} {Z : fw_S} {v : Int64} (hc : c < 31) : fr p Z (fw_sl Z (pO p + c) k v) := fun a j hn => ⟨rfl, by rw [gl_l, if_neg (by omega)]⟩
theorem fr.other {p q : Nat} {Z Z' : fw_S} (h : fr p Z Z') (hp : p < 6) (hq : q < 6) (e : q ≠ p) : vw q Z' = vw q Z := by
  have h1 := pO_lt hp
  have h2 := pO_lt hq
  have h3 := pO_ne hp hq (Ne.symm e)
  refine vw_eq (fun o k hf => (h o k ?_).1) (fun o k hf => (h o k ?_).2)
  · unfold foot at hf
    omega
  · unfold foot at hf
    omega
theorem charge_ex {Z : fw_S} {p cu m τ : Nat} {post : fw_S → Prop} (hp : p < 6) (h11 : Z.1 (pO p) 11 = nI cu) (fin : ∀ Z', fr p Z Z' → vw p Z' = cCh cu m τ (vw p Z) → post Z') : wp_Point_charge Z (pO p) (nI m) (nI τ) post := by
  have e4 : (23 : Int32) * nI cu * nI m = nI (23 * cu * m) := by
    rw [show (23 : Int32) * nI cu = nI (23 * cu) from pk_mul 23 cu, pk_mul]
  unfold wp_Point_charge wp_Point_charge_37 wp_Point_runs wp_Point_runs_18 wp_Point_runs_19
  by_cases hr : rnC (vw p Z)
  · have q1 : ¬ Z.1 (pO p) 6 = 0 := hr.1
    have q2 : ¬ Z.1 (pO p) 3 = 0 := hr.2
    refine ⟨fun q => absurd q q1, fun _ => ⟨fun q => absurd q q2, fun _ => ⟨.inr rfl, fun q => absurd q (by decide), fun _ => ?_⟩⟩⟩
    intro v4 ev S5 e5
    rw [h11, e4] at ev
    subst ev; subst e5
    unfold wp_Car_eat wp_Car_eat_39
    intro S1 e1
    subst e1
    have f0 : fr p Z (fw_si (fw_sl Z (pO p) 5 (Z.2 (pO p) 5 + (nI (23 * cu * m)).toInt64)) (pO p + 1) 4 (Z.1 (pO p + 1) 4 - nI (23 * cu * m))) := (fr.sl (c := 0) (by omega)).trans (fr.si (by omega))
    have e14 : ∀ v, (fw_si (fw_sl Z (pO p) 5 (Z.2 (pO p) 5 + (nI (23 * cu * m)).toInt64)) (pO p + 1) 4 v).1 (pO p + 1) 4 = v := fun v => by rw [gi_i, if_pos ⟨rfl, rfl⟩]
    have e11 : ∀ v, (fw_si (fw_sl Z (pO p) 5 (Z.2 (pO p) 5 + (nI (23 * cu * m)).toInt64)) (pO p + 1) 4 v).1 (pO p + 1) 1 = Z.1 (pO p + 1) 1 := fun v => by rw [gi_i, if_neg (by omega), gl_i]
    have no : ¬ (Z.1 (pO p + 1) 1 = 0 ∧ ¬ (0 : Int32) < Z.1 (pO p + 1) 4 - nI (23 * cu * m)) → vw p (fw_si (fw_sl Z (pO p) 5 (Z.2 (pO p) 5 + (nI (23 * cu * m)).toInt64)) (pO p + 1) 4 (Z.1 (pO p + 1) 4 - nI (23 * cu * m))) = cCh cu m τ (vw p Z) := fun hn => by
      rw [vw_xi hp (by omega), vw_xl0 hp]
      unfold cCh
      rw [if_pos hr]
      unfold cEat
      exact (if_neg hn).symm
    refine ⟨fun q => fin _ f0 (no (fun x => q ?_)), fun q => ⟨fun q3 => fin _ f0 (no (fun x => x.2 ?_)), fun q3 => ?_⟩⟩
    · show (fw_si (fw_sl Z (pO p) 5 _) (pO p + 1) 4 _).1 (pO p + 1) 1 = 0
      rw [e11]
      exact x.1
    · have q3 : (0 : Int32) < (fw_si (fw_sl Z (pO p) 5 (Z.2 (pO p) 5 + (nI (23 * cu * m)).toInt64)) (pO p + 1) 4 (Z.1 (pO p + 1) 4 - nI (23 * cu * m))).1 (pO p + 1) 4 := q3
      rw [e14] at q3
      exact q3
    · intro S4 e4 S5 e5 S6 e6
      subst e4; subst e5; subst e6
      have q : (fw_si (fw_sl Z (pO p) 5 (Z.2 (pO p) 5 + (nI (23 * cu * m)).toInt64)) (pO p + 1) 4 (Z.1 (pO p + 1) 4 - nI (23 * cu * m))).1 (pO p + 1) 1 = 0 := q
      have q3 : ¬ (0 : Int32) < (fw_si (fw_sl Z (pO p) 5 (Z.2 (pO p) 5 + (nI (23 * cu * m)).toInt64)) (pO p + 1) 4 (Z.1 (pO p + 1) 4 - nI (23 * cu * m))).1 (pO p + 1) 4 := q3
      rw [e11] at q
      rw [e14] at q3
      refine fin _ (((f0.trans (fr.si (by omega))).trans (fr.si (by omega))).trans (fr.si (by omega))) ?_
      show vw p (fw_si (fw_si (fw_si (fw_si (fw_sl Z (pO p) 5 (Z.2 (pO p) 5 + (nI (23 * cu * m)).toInt64)) (pO p + 1) 4 (Z.1 (pO p + 1) 4 - nI (23 * cu * m))) (pO p + 1) 1 1) (pO p + 1) 5 (nI τ)) (pO p + 1) 2 0) = _
      rw [vw_xi hp (by omega), vw_xi hp (by omega), vw_xi hp (by omega), vw_xi hp (by omega), vw_xl0 hp]
      unfold cCh
      rw [if_pos hr]
      unfold cEat
      exact (if_pos ⟨q, q3⟩).symm
  · have e : cCh cu m τ (vw p Z) = vw p Z := by
      unfold cCh
      rw [if_neg hr]
    have F := fin Z (fr.refl p Z) e.symm
    refine ⟨fun q => ⟨.inl rfl, fun _ => F, fun q => absurd rfl q⟩, fun q1 => ⟨fun q => ⟨.inl rfl, fun _ => F, fun q => absurd rfl q⟩, fun q2 => absurd ⟨q1, q2⟩ hr⟩⟩
theorem read_ex {Z : fw_S} {p τ h z : Nat} {post : fw_S → Prop} (hp : p < 6) (hτ : τ < 2 ^ 31) (h1 : Z.1 (pO p + 2) 1 = nI h) (h2 : Z.1 (pO p + 2) 3 = nI z) (hh : h < 24) (hz : z ≤ 23) (fin : ∀ Z', fr p Z Z' → vw p Z' = cRd τ (vw p Z) → post Z') : wp_Point_read Z (pO p) (nI τ) post := by
  have e0 : nI τ - nI τ / 60 * 60 = nI (τ % 60) := pk_rem (d := 60) hτ (by omega) (by omega)
  have hrw : rw_ h z < 31 := by unfold rw_; omega
  have no : ¬ (τ % 60 = 0 ∧ rnC (vw p Z) ∧ ¬ (22 : Int32) ≤ (vw p Z).1 2 3) → post Z := fun hn => fin Z (fr.refl p Z) (by unfold cRd; rw [if_neg hn])
  unfold wp_Point_read wp_Point_read_28 wp_Point_runs wp_Point_runs_18 wp_Point_runs_19
  rw [e0]
  refine ⟨fun q => no (fun x => q (by rw [x.1]; rfl)), fun q => ?_⟩
  have q0 : τ % 60 = 0 := by
    refine Classical.byContradiction fun q2 => ?_
    exact nI_ne0 (by omega) (by omega) q
  refine ⟨fun q1 => ⟨.inl rfl, fun _ => no (fun x => x.2.1.1 q1), fun q => absurd rfl q⟩, fun q1 => ⟨fun q2 => ⟨.inl rfl, fun _ => no (fun x => x.2.1.2 q2), fun q => absurd rfl q⟩, fun q2 => ⟨.inr rfl, fun q => absurd q (by decide), fun _ => ?_⟩⟩⟩
  unfold wp_Point_hasRoomForReading wp_Point_hasRoomForReading_17
  refine ⟨fun q3 => ⟨.inl rfl, fun _ => no (fun x => x.2.2 q3), fun q => absurd rfl q⟩, fun q3 => ⟨.inr rfl, fun q => absurd q (by decide), fun _ => ?_⟩⟩
  rw [tell_ex h1 h2 hh hz]
  have hC : τ % 60 = 0 ∧ rnC (vw p Z) ∧ ¬ (22 : Int32) ≤ (vw p Z).1 2 3 := ⟨q0, ⟨q1, q2⟩, q3⟩
  refine fin _ ?_ ?_
  · unfold tellS
    exact (((((((fr.si hrw).trans (fr.si hrw)).trans (fr.si hrw)).trans (fr.si hrw)).trans (fr.si hrw)).trans (fr.si hrw)).trans (fr.si (by omega))).trans (fr.si (by omega))
  · rw [vw_tell hp hrw]
    unfold cRd
    rw [if_pos hC, show (vw p Z).1 2 1 = nI h from h1, show (vw p Z).1 2 3 = nI z from h2, nI_clamp (by omega), nI_clamp (by omega)]
    rfl
theorem send_ex {Z : fw_S} {p τ : Nat} {post : fw_S → Prop} (hp : p < 6) (fin : ∀ Z', fr p Z Z' → vw p Z' = cSd τ (vw p Z) → post Z') : wp_Point_send Z (pO p) (nI τ) post := by
  have no : ¬ (wtC (vw p Z) ∧ ((vw p Z).1 2 4 = -1 ∨ ¬ nI τ < (vw p Z).1 2 4 + 20)) → post Z := fun hn => fin Z (fr.refl p Z) (by unfold cSd; rw [if_neg hn])
  have yes : wtC (vw p Z) ∧ ((vw p Z).1 2 4 = -1 ∨ ¬ nI τ < (vw p Z).1 2 4 + 20) → post (fw_si (fw_si Z (pO p + 2) 4 (nI τ)) (pO p) 9 1) := fun hy => by
    refine fin _ ((fr.si (by omega)).trans (fr.si (c := 0) (by omega))) ?_
    rw [vw_xi0 hp, vw_xi hp (by omega)]
    unfold cSd
    rw [if_pos hy]
  unfold wp_Point_send wp_Point_send_32 wp_Point_waitsToSend wp_Point_waitsToSend_28 wp_Point_waitsToSend_29 wp_Point_isReachable wp_Point_isReachable_18 wp_Point_isReachable_19
  refine ⟨fun q => ⟨.inl rfl, fun _ => ⟨.inl rfl, fun _ => no (fun x => x.1.1 q), fun q => absurd rfl q⟩, fun q => absurd rfl q⟩, fun q1 => ⟨fun q => ⟨.inl rfl, fun _ => ⟨.inl rfl, fun _ => no (fun x => x.1.2.1 q), fun q => absurd rfl q⟩, fun q => absurd rfl q⟩, fun q2 => ⟨.inr rfl, fun q => absurd q (by decide), fun _ => ?_⟩⟩⟩
  refine ⟨fun q => ⟨.inl rfl, fun _ => no (fun x => x.1.2.2.1 q), fun q => absurd rfl q⟩, fun q3 => ⟨fun q => ⟨.inl rfl, fun _ => no (fun x => q x.1.2.2.2), fun q => absurd rfl q⟩, fun q4 => ⟨.inr rfl, fun q => absurd q (by decide), fun _ => ?_⟩⟩⟩
  have hw : wtC (vw p Z) := ⟨q1, q2, q3, q4⟩
  unfold wp_Queue_firstDue wp_Queue_firstDue_19
  refine ⟨fun q5 => ⟨fun q6 => no (fun x => x.2.elim (fun y => q5 y) (fun y => y q6)), fun q6 => fun S7 e7 S8 e8 => ?_⟩, fun q5 => ⟨fun q6 => absurd q6 (by rw [Int32.lt_iff_toInt_lt]; omega), fun q6 => fun S7 e7 S8 e8 => ?_⟩⟩
  · subst e7; subst e8
    exact yes ⟨hw, .inr q6⟩
  · subst e7; subst e8
    exact yes ⟨hw, .inl q5⟩
theorem point_ex {Z : fw_S} {p cu m t h z : Nat} {post : fw_S → Prop} (hp : p < 6) (hτ : t + m < 2 ^ 31) (h0 : Z.1 0 2 = nI (t + m)) (h11 : Z.1 (pO p) 11 = nI cu) (h1 : Z.1 (pO p + 2) 1 = nI h) (h2 : Z.1 (pO p + 2) 3 = nI z) (hh : h < 24) (hz : z ≤ 23) (fin : ∀ Z', fr p Z Z' → vw p Z' = cStep cu m t (vw p Z) → post Z') :
    wp_Point_charge Z (pO p) (nI m) (Z.1 0 2) (fun S4 => wp_Point_read S4 (pO p) (S4.1 0 2) (fun S5 => wp_Point_send S5 (pO p) (S5.1 0 2) post)) := by
  have hpo := pO_lt hp
  rw [h0]
  refine charge_ex hp h11 (fun Z1 f1 e1 => ?_)
  have c1 : ∀ k, (vw p Z1).1 2 k = (vw p Z).1 2 k := fun k => by
    rw [e1]
    unfold cCh
    split
    · unfold cEat
      split
      · rw [gi_i, if_neg (by omega), gi_i, if_neg (by omega), gi_i, if_neg (by omega), gi_i, if_neg (by omega), gl_i]
      · rw [gi_i, if_neg (by omega), gl_i]
    · rfl
  rw [(f1 0 2 (by omega)).1, h0]
  refine read_ex hp hτ ((c1 1).trans h1) ((c1 3).trans h2) hh hz (fun Z2 f2 e2 => ?_)
  rw [(f2 0 2 (by omega)).1, (f1 0 2 (by omega)).1, h0]
  refine send_ex hp (fun Z3 f3 e3 => ?_)
  refine fin Z3 ((f1.trans f2).trans f3) ?_
  rw [e3, e2, e1]
  rfl
