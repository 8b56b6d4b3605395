/-! the reference's second: point by point -/
def frC (p : Nat) (Z Z' : fw_S) : Prop := (∀ a k, ¬ ((a = 231 ∨ a = 232) ∧ k = p) → ¬ (a = 209 ∧ k = 39) → Z'.1 a k = Z.1 a k) ∧ ∀ a k, ¬ ((a = 217 ∨ a = 230) ∧ k = p) → Z'.2 a k = Z.2 a k
def frR (p : Nat) (Z Z' : fw_S) : Prop := (∀ a k, ¬ (221 ≤ a ∧ a ≤ 224 ∧ k = p) → ¬ (a = 225 ∧ 144 * p ≤ k ∧ k < 144 * p + 144) → Z'.1 a k = Z.1 a k) ∧ ∀ a k, ¬ (a = 226 ∧ 24 * p ≤ k ∧ k < 24 * p + 24) → Z'.2 a k = Z.2 a k
theorem frC.other {p q : Nat} {Z Z' : fw_S} (h : frC p Z Z') (hq : q < 6) (e : q ≠ p) : vw q Z' = vw q Z := by
  have h2 := pO_lt hq
  refine vw_eq (fun o k hf => h.1 o k ?_ ?_) (fun o k hf => h.2 o k ?_)
  all_goals
    unfold foot at hf
    omega
theorem frR.other {p q : Nat} {Z Z' : fw_S} (h : frR p Z Z') (hq : q < 6) (e : q ≠ p) : vw q Z' = vw q Z := by
  have h2 := pO_lt hq
  refine vw_eq (fun o k hf => h.1 o k ?_ ?_) (fun o k hf => h.2 o k ?_)
  all_goals
    unfold foot at hf
    omega
theorem mruns {Z : fw_S} {p : Nat} {post : fw_S → Int32 → Prop} (hp : p < 6) : (rnM (vw p Z) → wp_M_runs Z 209 (nI p) post = post Z 1) ∧ (¬ rnM (vw p Z) → wp_M_runs Z 209 (nI p) post = post Z 0) := by
  have a4 : vp_in (nI p) 6 := vp_in_nI (by omega) (by omega)
  have a5 : (nI p).toNatClampNeg = p := nI_clamp (by omega)
  refine ⟨fun hr => ?_, fun hr => ?_⟩
  · have q1 : ¬ Z.1 218 p ≤ 0 := hr.1
    have q2 : ¬ Z.1 215 p = 0 := hr.2
    have q1' : 0 < Z.1 218 p := Int32.not_le.mp q1
    simp [wp_M_runs, wp_M_runs_22, wp_M_runs_23, fw_bz, a4, a5, q1, q1', q2]
  · by_cases q1 : Z.1 218 p ≤ 0
    · simp [wp_M_runs, wp_M_runs_22, wp_M_runs_23, fw_bz, a4, a5, q1, Int32.not_lt.mpr q1]
    · have q2 : Z.1 215 p = 0 := Classical.byContradiction fun q2 => hr ⟨q1, q2⟩
      simp [wp_M_runs, wp_M_runs_22, wp_M_runs_23, fw_bz, a4, a5, q1, q2]
theorem fz1' : fw_z 1 = 1 := fz1
/-- one point is charged for a second -/
theorem mch_ex {Z : fw_S} {p cu τ : Nat} {post : fw_S → Prop} {k6 : fw_S → Int32 → Prop} (hp : p < 6) (hcu : Z.1 243 p = nI cu) (hτ : Z.1 209 1 = nI τ)
    (fin : ∀ Z', frC p Z Z' → vw p Z' = mCh cu τ (vw p Z) → ((Z'.1 = Z.1) ∨ Z'.1 209 39 = 0) → wp_M_second_102 209 post k6 Z' (nI p)) :
    wp_M_runs Z 209 (nI p) (fun S5 r6 => (((r6 = 0) → wp_M_second_102 209 post k6 S5 (nI p)) ∧ (¬ (r6 = 0) → vp_in (nI p) 6 ∧ (∀ v9 : Int64, v9 = (23 * ((S5.1 (209 + 34) (nI p).toNatClampNeg : Int32).toInt64)) → vp_in (nI p) 6 ∧ (∀ v11 : Int64, v11 = (S5.2 (209 + 21) (nI p).toNatClampNeg) → vp_in (nI p) 6 ∧ (vp_in (nI p) 6 ∧ (∀ S14 : fw_S, S14 = fw_sl S5 (209 + 8) (nI p).toNatClampNeg ((S5.2 (209 + 8) (nI p).toNatClampNeg) + v9) → vp_in (nI p) 6 ∧ (vp_in (nI p) 6 ∧ (∀ S17 : fw_S, S17 = fw_sl S14 (209 + 21) (nI p).toNatClampNeg ((S14.2 (209 + 21) (nI p).toNatClampNeg) - v9) → ((((lg_cmp v11 0) ≤ 0) → wp_M_second_102 209 post k6 S17 (nI p)) ∧ (¬ ((lg_cmp v11 0) ≤ 0) → vp_in (nI p) 6 ∧ (((((0 : Int32) < (lg_cmp (S17.2 (209 + 21) (nI p).toNatClampNeg) 0)) → wp_M_second_102 209 post k6 S17 (nI p)) ∧ (¬ ((0 : Int32) < (lg_cmp (S17.2 (209 + 21) (nI p).toNatClampNeg) 0)) → vp_in (nI p) 6 ∧ (∀ S22 : fw_S, S22 = fw_si S17 (209 + 22) (nI p).toNatClampNeg (fw_z 1) → vp_in (nI p) 6 ∧ (∀ S24 : fw_S, S24 = fw_si S22 (209 + 23) (nI p).toNatClampNeg ((S22.1 209 1) + 1) → ∀ S25 : fw_S, S25 = fw_si S24 209 39 0 → wp_M_second_102 209 post k6 S25 (nI p))))))))))))))))) := by
  have a4 : vp_in (nI p) 6 := vp_in_nI (by omega) (by omega)
  have a5 : (nI p).toNatClampNeg = p := nI_clamp (by omega)
  by_cases hr : rnM (vw p Z)
  · rw [(mruns hp).1 hr, a5]
    refine ⟨fun q => absurd q (by decide), fun _ => ⟨a4, fun v9 e9 => ⟨a4, fun v11 e11 => ⟨a4, a4, fun S14 e14 => ⟨a4, a4, fun S17 e17 => ?_⟩⟩⟩⟩⟩
    have e9 : v9 = 23 * (nI cu).toInt64 := by rw [e9, show Z.1 (209 + 34) p = nI cu from hcu]
    have e14' : S14.2 230 p = Z.2 230 p := by rw [e14, gl_l, if_neg (by omega)]
    have e17 : S17 = fw_sl (fw_sl Z 217 p (Z.2 217 p + v9)) 230 p (Z.2 230 p - v9) := by
      rw [e17, show S14.2 (209 + 21) p = Z.2 230 p from e14', e14]
    subst e17
    have f0 : frC p Z (fw_sl (fw_sl Z 217 p (Z.2 217 p + v9)) 230 p (Z.2 230 p - v9)) := by
      refine ⟨fun _ _ _ _ => rfl, fun a k hn => ?_⟩
      rw [gl_l, if_neg (by omega), gl_l, if_neg (by omega)]
    have hvw : vw p (fw_sl (fw_sl Z 217 p (Z.2 217 p + v9)) 230 p (Z.2 230 p - v9)) = fw_sl (fw_sl (vw p Z) 217 0 ((vw p Z).2 217 0 + 23 * (nI cu).toInt64)) 230 0 ((vw p Z).2 230 0 - 23 * (nI cu).toInt64) := by
      rw [vw_ml hp (by unfold isM; omega), vw_ml hp (by unfold isM; omega), e9]
      rfl
    have no : ¬ (¬ lg_cmp ((vw p Z).2 230 0) 0 ≤ 0 ∧ ¬ (0 : Int32) < lg_cmp ((vw p Z).2 230 0 - 23 * (nI cu).toInt64) 0) → wp_M_second_102 209 post k6 (fw_sl (fw_sl Z 217 p (Z.2 217 p + v9)) 230 p (Z.2 230 p - v9)) (nI p) := fun hn => by
      refine fin _ f0 ?_ (.inl rfl)
      rw [hvw]
      unfold mCh
      rw [if_pos hr, if_neg hn]
    have e30 : (fw_sl (fw_sl Z 217 p (Z.2 217 p + v9)) 230 p (Z.2 230 p - v9)).2 (209 + 21) p = (vw p Z).2 230 0 - 23 * (nI cu).toInt64 := by
      rw [gl_l, if_pos ⟨rfl, rfl⟩, e9]
      rfl
    rw [e30]
    refine ⟨fun q => no (fun x => x.1 ?_), fun q => ⟨a4, fun q2 => no (fun x => x.2 q2), fun q2 => ⟨a4, fun S22 e22 => ⟨a4, fun S24 e24 S25 e25 => ?_⟩⟩⟩⟩
    · rw [e11] at q
      exact q
    · have e24' : S22.1 209 1 = nI τ := by
        rw [e22, gi_i, if_neg (by omega), gl_i, gl_i]
        exact hτ
      rw [e24', nI_1, e22, fz1'] at e24
      rw [e24] at e25
      subst e25
      refine fin _ ?_ ?_ (.inr (by rw [gi_i, if_pos ⟨rfl, rfl⟩]))
      · refine ⟨fun a k h1 h2 => ?_, fun a k hn => ?_⟩
        · rw [gi_i, if_neg h2, gi_i, if_neg (by omega), gi_i, if_neg (by omega), gl_i, gl_i]
        · rw [gi_l, gi_l, gi_l, gl_l, if_neg (by omega), gl_l, if_neg (by omega)]
      · rw [vw_si (nofoot hp (by omega)), vw_mi hp (by unfold isM; omega), vw_mi hp (by unfold isM; omega), hvw]
        unfold mCh
        rw [if_pos hr, if_pos ⟨fun x => q (by rw [e11]; exact x), q2⟩]
  · rw [(mruns hp).2 hr]
    refine ⟨fun _ => fin Z ⟨fun _ _ _ _ => rfl, fun _ _ _ => rfl⟩ ?_ (.inl rfl), fun q => absurd rfl q⟩
    unfold mCh
    rw [if_neg hr]
theorem mread_ex {Z : fw_S} {p τ z : Nat} {post : fw_S → Prop} {k147 : fw_S → Int32 → Prop} (hp : p < 6) (hτ : τ < 2 ^ 31) (h1 : Z.1 209 1 = nI τ) (hz1 : Z.1 221 p = nI z) (hz : z ≤ 23)
    (fin : ∀ Z', frR p Z Z' → vw p Z' = mRd τ (vw p Z) → wp_M_second_189 209 post k147 Z' (nI p)) :
    ((¬ (Z.1 209 1 - Z.1 209 1 / 60 * 60 = 0) → wp_M_second_189 209 post k147 Z (nI p)) ∧ ((Z.1 209 1 - Z.1 209 1 / 60 * 60 = 0) → wp_M_runs Z 209 (nI p) (fun S3 r4 => ((r4 = 0 → wp_M_second_189 209 post k147 S3 (nI p)) ∧ (¬ r4 = 0 → vp_in (nI p) 6 ∧ ((22 ≤ S3.1 (209 + 12) (nI p).toNatClampNeg → wp_M_second_189 209 post k147 S3 (nI p)) ∧ (¬ 22 ≤ S3.1 (209 + 12) (nI p).toNatClampNeg → wp_M_put S3 209 (nI p) 2 0 (fun S8 => wp_M_second_189 209 post k147 S8 (nI p))))))))) := by
  have a4 : vp_in (nI p) 6 := vp_in_nI (by omega) (by omega)
  have a5 : (nI p).toNatClampNeg = p := nI_clamp (by omega)
  have e0 : nI τ - nI τ / 60 * 60 = nI (τ % 60) := pk_rem (d := 60) hτ (by omega) (by omega)
  have no : ¬ (τ % 60 = 0 ∧ rnM (vw p Z) ∧ ¬ (22 : Int32) ≤ (vw p Z).1 221 0) → wp_M_second_189 209 post k147 Z (nI p) := fun hn => fin Z ⟨fun _ _ _ _ => rfl, fun _ _ _ => rfl⟩ (by unfold mRd; rw [if_neg hn])
  rw [h1, e0, a5]
  refine ⟨fun q => no (fun x => q (by rw [x.1]; rfl)), fun q => ?_⟩
  have q0 : τ % 60 = 0 := Classical.byContradiction fun q2 => nI_ne0 (by omega) (by omega) q
  by_cases hr : rnM (vw p Z)
  · rw [(mruns hp).1 hr]
    refine ⟨fun q => absurd q (by decide), fun _ => ⟨a4, fun q3 => no (fun x => x.2.2 q3), fun q3 => ?_⟩⟩
    rw [mput_ex (by omega) hz1 hz, h1]
    refine fin _ ?_ ?_
    · unfold mputS
      refine ⟨fun a k n1 n2 => ?_, fun a k n1 => ?_⟩
      · simp only [gi_i, gl_i]
        repeat rw [if_neg (by omega)]
      · simp only [gi_l, gl_l]
        rw [if_neg (by omega)]
    · rw [vw_mput hp hz]
      unfold mRd
      rw [if_pos ⟨q0, hr, q3⟩, show (vw p Z).1 221 0 = nI z from hz1, nI_clamp (by omega)]
  · rw [(mruns hp).2 hr]
    exact ⟨fun _ => no (fun x => hr x.2.1), fun q => absurd rfl q⟩
theorem msend_ex {Z : fw_S} {p τ : Nat} {post : fw_S → Prop} {k197 : fw_S → Int32 → Prop} (hp : p < 6) (h1 : Z.1 209 1 = nI τ)
    (fin : ∀ Z' x2, frR p Z Z' → vw p Z' = mSd τ (vw p Z) → wp_M_second_291 209 post k197 Z' (nI p) x2) :
    vp_in (nI p) 6 ∧ ((Z.1 (209 + 6) (nI p).toNatClampNeg = 0 → wp_M_second_243 209 post k197 Z (nI p)) ∧ (¬ Z.1 (209 + 6) (nI p).toNatClampNeg = 0 → vp_in (nI p) 6 ∧ ((Z.1 (209 + 7) (nI p).toNatClampNeg = 0 → wp_M_second_243 209 post k197 Z (nI p)) ∧ (¬ Z.1 (209 + 7) (nI p).toNatClampNeg = 0 → vp_in (nI p) 6 ∧ ((Z.1 (209 + 12) (nI p).toNatClampNeg ≤ 0 → wp_M_second_243 209 post k197 Z (nI p)) ∧ (¬ Z.1 (209 + 12) (nI p).toNatClampNeg ≤ 0 → vp_in (nI p) 6 ∧ ((¬ Z.1 (209 + 15) (nI p).toNatClampNeg = 0 → wp_M_second_243 209 post k197 Z (nI p)) ∧ (Z.1 (209 + 15) (nI p).toNatClampNeg = 0 → wp_M_second_244 209 post k197 Z (nI p) 1)))))))) := by
  have a4 : vp_in (nI p) 6 := vp_in_nI (by omega) (by omega)
  have a5 : (nI p).toNatClampNeg = p := nI_clamp (by omega)
  have no : ¬ (wtM (vw p Z) ∧ ((vw p Z).1 223 0 < 0 ∨ ¬ nI τ - (vw p Z).1 223 0 < 20)) → ∀ x2, wp_M_second_291 209 post k197 Z (nI p) x2 := fun hn x2 => fin Z x2 ⟨fun _ _ _ _ => rfl, fun _ _ _ => rfl⟩ (by unfold mSd; rw [if_neg hn])
  have no0 : ¬ wtM (vw p Z) → wp_M_second_243 209 post k197 Z (nI p) := fun hn => ⟨fun _ => no (fun x => hn x.1) _, fun q => absurd rfl q⟩
  have yes : wtM (vw p Z) → ((vw p Z).1 223 0 < 0 ∨ ¬ nI τ - (vw p Z).1 223 0 < 20) → ∀ x2, wp_M_second_274 209 post k197 Z (nI p) x2 := fun hw hd x2 => by
    unfold wp_M_second_274
    rw [a5]
    refine ⟨a4, fun S2 e2 => ⟨a4, fun S4 e4 => ?_⟩⟩
    have e21 : S2.1 209 1 = nI τ := by
      rw [e2, gi_i, if_neg (by omega)]
      exact h1
    rw [e21, e2] at e4
    subst e4
    refine fin _ _ ⟨fun a k n1 n2 => ?_, fun _ _ _ => rfl⟩ ?_
    · rw [gi_i, if_neg (by omega), gi_i, if_neg (by omega)]
    · rw [vw_mi hp (by unfold isM; omega), vw_mi hp (by unfold isM; omega)]
      unfold mSd
      rw [if_pos ⟨hw, hd⟩]
  rw [a5]
  refine ⟨a4, fun q => no0 (fun x => x.1 q), fun q1 => ⟨a4, fun q => no0 (fun x => x.2.1 q), fun q2 => ⟨a4, fun q => no0 (fun x => x.2.2.1 q), fun q3 => ⟨a4, fun q => no0 (fun x => q x.2.2.2), fun q4 => ?_⟩⟩⟩⟩
  have hw : wtM (vw p Z) := ⟨q1, q2, q3, q4⟩
  unfold wp_M_second_244
  rw [a5, h1]
  refine ⟨fun q => absurd q (by decide), fun _ => ⟨a4, fun q => yes hw (.inl q) _, fun q => ⟨a4, fun q5 => no (fun x => x.2.elim (fun y => q y) (fun y => y q5)) _, fun q5 => yes hw (.inr q5) _⟩⟩⟩
