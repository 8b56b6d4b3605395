/-- cells that the relation doesn't read -/
def exc (a k : Nat) : Prop := (∃ q, q < 6 ∧ a = pO q ∧ (k = 10 ∨ k = 11)) ∨ (a = 209 ∧ (k = 0 ∨ k = 39)) ∨ a = 243
theorem ext_ok {S Y : fw_S} {t n : Nat} (hG : RG S t n) (hV : ∀ q, q < 6 → RV (vw q S) t n) (e1 : ∀ a k, ¬ exc a k → Y.1 a k = S.1 a k) (e2 : ∀ a k, a ≠ 244 → Y.2 a k = S.2 a k) : RG Y t n ∧ ∀ q, q < 6 → RV (vw q Y) t n := by
  refine ⟨RG_eq (fun a k hg => e1 a k ?_) (fun k => ⟨e2 11 k (by omega), e2 242 k (by omega)⟩) hG, fun q hq => ?_⟩
  · unfold gcell at hg
    rintro (⟨q, hq, h1, -⟩ | h1 | h1)
    · have := pO_lt hq
      omega
    all_goals omega
  · have hpo := pO_lt hq
    have y1 : ∀ a k, foot q a k → ¬ (a = pO q ∧ (k = 10 ∨ k = 11)) → Y.1 a k = S.1 a k := by
      intro a k hf hn
      refine e1 a k ?_
      rintro (⟨q', hq', h1, h2⟩ | h1 | h1)
      · by_cases e : q' = q
        · exact hn ⟨by rw [h1, e], h2⟩
        · have := pO_ne hq' hq e
          have := pO_lt hq'
          unfold foot at hf
          omega
      · unfold foot at hf
        omega
      · unfold foot at hf
        omega
    have y2 : ∀ a k, foot q a k → Y.2 a k = S.2 a k := by
      intro a k hf
      refine e2 a k ?_
      unfold foot at hf
      omega
    obtain ⟨x1, x2⟩ := vw_ext hq y1 y2
    exact (hV q hq).ext x1 x2
theorem exc_sA {j c k : Nat} (hj : j < 2) (hc : c < 3) (hk : k = 10 ∨ k = 11) : exc (sA j c) k := .inl ⟨j + 2 * c, by omega, sA_pO hj hc, hk⟩
theorem exc_ag {j : Nat} {S X : fw_S} (hj : j < 2) (h : agS j S X) {a k : Nat} (hn : ¬ exc a k) : X.1 a k = S.1 a k := by
  refine h.1 a k ?_
  rintro ⟨h1 | h1 | h1, h2⟩
  · exact hn (h1 ▸ exc_sA hj (by omega) h2)
  · exact hn (h1 ▸ exc_sA hj (by omega) h2)
  · exact hn (h1 ▸ exc_sA hj (by omega) h2)
theorem isC_exc {a k : Nat} (h : isC a) (h2 : a ≠ 243) : ¬ exc a k := by
  unfold isC at h
  rintro (⟨q, hq, h1, -⟩ | h1 | h1)
  · have := pO_lt hq
    omega
  · omega
  · omega
set_option maxHeartbeats 4000000 in
theorem op_current {L i n : Nat} {xs : Nat → Int32} {k : fw_S → Int32 → Prop} {S : fw_S} (hx : LX L i) (hn : n < 512) (hR : RR n S) (hk : ∀ S', RR (n + 1) S' → k S' (nI (i + 5))) : wp_Law_law_1044 L xs k S (nI i) := by
  have hx1 := hx.1
  have hx2 := hx.2
  have v0 : (nI i).toNatClampNeg ≤ 2560 := by rw [nI_clamp (by omega)]; omega
  have v1 : vp_in (nI i + 1) L := lx_in (c := 1) hx (by omega)
  unfold wp_Law_law_1044 wp_Law_law_1097
  generalize xs (nI i + 1).toNatClampNeg = a
  simp only [v0, v1, true_and]
  rcases ixc a 5 (M := 6) (H := 5) (by omega) rfl rfl with ⟨ja, ha, rfl, a1, a2, a3, a4, a5⟩ | a1 | ⟨a1, a2, a3⟩
  · obtain ⟨t, hG, hK, hV⟩ := id hR
    have hp : ja < 6 := by omega
    have ht : t < 2 ^ 31 := by have := hG.1; omega
    have hj : ja % 2 < 2 := by omega
    obtain ⟨o1, o2, o3, o4⟩ := pt_off ja hp
    have e0 : 0 + 1 + (18 + 95 * (ja % 2)) = 19 + 95 * (ja % 2) := by omega
    unfold wp_Law_current wp_Out_current
    rw [pt_yes ha]
    rw [o3, e0, hG.1.1]
    have hxx := hx
    refine ⟨o1, share_ex (CS_of hG hV hj) ht (fun X hX hx => ?_)⟩
    have ecu : X.1 (pO ja) 11 = nI (mCu S t ja) := by
      have := hx (ja / 2) (by omega)
      rw [sA_pO hj (by omega), ← mCu_site hj (by omega), show ja % 2 + 2 * (ja / 2) = ja by omega] at this
      exact this
    refine ⟨z1, fun S4 e4 => ?_⟩
    rw [ecu, z0] at e4
    subst e4
    unfold wp_M_current
    rw [np_yes ha]
    have hY1 : ∀ a k, ¬ exc a k → (fw_si (fw_si (fw_sl X 244 0 (nI (mCu S t ja)).toInt64) 209 0 0) 209 39 0).1 a k = S.1 a k := fun a k hn => by
      have hn2 : ¬ (a = 209 ∧ k = 39) := fun q => hn (.inr (.inl ⟨q.1, .inr q.2⟩))
      have hn3 : ¬ (a = 209 ∧ k = 0) := fun q => hn (.inr (.inl ⟨q.1, .inl q.2⟩))
      rw [gi_i, if_neg hn2, gi_i, if_neg hn3, gl_i]
      exact exc_ag hj hX hn
    have hY2 : ∀ a k, a ≠ 244 → (fw_si (fw_si (fw_sl X 244 0 (nI (mCu S t ja)).toInt64) 209 0 0) 209 39 0).2 a k = S.2 a k := fun a k hn => by
      rw [gi_l, gi_l, gl_l, if_neg (by omega), hX.2]
    obtain ⟨gY, vY⟩ := ext_ok hG hV hY1 hY2
    refine ⟨fun _ => rall_ex gY (.inl (by simp [gi_i])) vY (fun Z z1' z2' z3' z4' => ⟨a4, ?_⟩), fun q => absurd rfl q⟩
    have ecZ : mCu (fw_si (fw_si (fw_sl X 244 0 (nI (mCu S t ja)).toInt64) 209 0 0) 209 39 0) t ja = mCu S t ja := mCu_eq2 (fun a k h1 h2 => hY1 a k (isC_exc h1 h2))
    have eZ : Z.1 (209 + 34) ja = nI (mCu S t ja) := by rw [← ecZ]; exact z4' ja hp
    have e0' : Z.1 209 0 = 0 := by rw [z1' 209 0 (by omega) (by omega)]; simp [gi_i]
    have e1' : Z.2 244 0 = (nI (mCu S t ja)).toInt64 := by rw [z2']; simp [gi_l, gl_l]
    rw [a5, eZ]
    unfold wp_M_thrown
    dsimp only
    rw [e0', z0, e1']
    refine ⟨fun _ => ⟨fun q => absurd rfl q, fun _ => ⟨z1, fun _ => ?_, fun q => absurd (lgs _) q⟩⟩, fun q => absurd rfl q⟩
    refine lx_next hxx (hk _ ?_)
    obtain ⟨gZ, vZ⟩ := ext_ok gY vY (fun a k hn => z1' a k (fun q => hn (.inr (.inr q))) (fun q => hn (.inr (.inl ⟨q.1, .inr q.2⟩)))) (fun a k _ => by rw [z2'])
    refine RR.up hn ⟨t, gZ, .inr ⟨z3', fun p hp => ?_⟩, vZ⟩
    rw [z4' p hp]
    exact congrArg nI (mCu_eq2 (fun a k h1 h2 => (z1' a k h2 (by unfold isC at h1; omega)))).symm
  · simp [gi_i, gl_i, gl_l, gi_l, z0, z1, lgs, v0, v1, wp_Law_current, wp_Out_current, wp_M_current, wp_M_thrown, pt_lo a1, np_lo a1]
    exact lx_next hx (hk _ (hR.thrown.unk.up hn))
  · simp [gi_i, gl_i, gl_l, gi_l, z0, z1, lgs, v0, v1, wp_Law_current, wp_Out_current, wp_M_current, wp_M_thrown, pt_hi a1 a2, np_hi a1 a3]
    exact lx_next hx (hk _ (hR.thrown.unk.up hn))
theorem sum_ex {X : fw_S} {j c0 c1 c2 : Nat} {a1 : Int32} {post : fw_S → Int32 → Prop} {px : Nat → fw_S → Prop} (h0 : X.1 (sA j 0) 11 = nI c0) (h1 : X.1 (sA j 1) 11 = nI c1) (h2 : X.1 (sA j 2) 11 = nI c2) (h : post X (nI (c0 + c1 + c2))) : wp_Out_sum_37 0 a1 post px 4 X 0 (19 + 95 * j + 1) (nI 3) 0 := by
  have e0 : 19 + 95 * j + 1 + (1 + 31 * (0 : Int32).toNatClampNeg) = sA j 0 := by rw [z0]; rfl
  have e1 : 19 + 95 * j + 1 + (1 + 31 * (1 : Int32).toNatClampNeg) = sA j 1 := by rw [show (1 : Int32).toNatClampNeg = 1 by decide]; rfl
  have e2 : 19 + 95 * j + 1 + (1 + 31 * (2 : Int32).toNatClampNeg) = sA j 2 := by rw [show (2 : Int32).toNatClampNeg = 2 by decide]; rfl
  have i0 : vp_in 0 3 := by unfold vp_in; decide
  have i1 : vp_in 1 3 := by unfold vp_in; decide
  have i2 : vp_in 2 3 := by unfold vp_in; decide
  rw [wp_Out_sum_37]
  refine ⟨fun q => absurd q (by decide), fun _ => ⟨i0, fun v3 e3 v4 e4 => ?_⟩⟩
  have e4 : v4 = 1 := by rw [e4]; rfl
  rw [e0, h0, Int32.zero_add] at e3
  subst e3; subst e4
  rw [wp_Out_sum_37]
  refine ⟨fun q => absurd q (by decide), fun _ => ⟨i1, fun v3 e3 v4 e4 => ?_⟩⟩
  have e4 : v4 = 2 := by rw [e4]; rfl
  rw [e1, h1, nI_add] at e3
  subst e3; subst e4
  rw [wp_Out_sum_37]
  refine ⟨fun q => absurd q (by decide), fun _ => ⟨i2, fun v3 e3 v4 e4 => ?_⟩⟩
  have e4 : v4 = 3 := by rw [e4]; rfl
  rw [e2, h2, nI_add] at e3
  subst e3; subst e4
  rw [wp_Out_sum_37]
  exact ⟨fun _ => h, fun q => absurd (by decide) q⟩
set_option maxHeartbeats 4000000 in
theorem op_sum {L i n : Nat} {xs : Nat → Int32} {k : fw_S → Int32 → Prop} {S : fw_S} (hx : LX L i) (hn : n < 512) (hR : RR n S) (hk : ∀ S', RR (n + 1) S' → k S' (nI (i + 5))) : wp_Law_law_1100 L xs k S (nI i) := by
  have hx1 := hx.1
  have hx2 := hx.2
  have v0 : (nI i).toNatClampNeg ≤ 2560 := by rw [nI_clamp (by omega)]; omega
  have v1 : vp_in (nI i + 1) L := lx_in (c := 1) hx (by omega)
  unfold wp_Law_law_1100 wp_Law_law_1153
  generalize xs (nI i + 1).toNatClampNeg = a
  simp only [v0, v1, true_and]
  rcases ixc a 1 (M := 2) (H := 1) (by omega) rfl rfl with ⟨j, ha, rfl, a1, a2, a3, a4, a5⟩ | a1 | ⟨a1, a2, a3⟩
  · obtain ⟨t, hG, hK, hV⟩ := id hR
    have ht : t < 2 ^ 31 := by have := hG.1; omega
    have hj : j < 2 := by omega
    have e0 : 0 + 1 + (18 + 95 * j) = 19 + 95 * j := by omega
    unfold wp_Law_sum wp_Out_sum
    refine sp_ci (fun _ _ => ?_) (fun q => ?_)
    rotate_left
    · rcases q with q | q
      · exact absurd q a1
      · exact absurd a2 q
    rw [a5, e0, hG.1.1]
    refine ⟨a4, share_ex (CS_of hG hV hj) ht (fun X hX hx' => ⟨a4, fun v5 e5 => ⟨4, ?_⟩⟩)⟩
    rw [e5]
    have ecu : ∀ c, c < 3 → X.1 (sA j c) 11 = nI (mCu S t (j + 2 * c)) := fun c hc => by
      rw [mCu_site hj hc]
      exact hx' c hc
    refine sum_ex (ecu 0 (by omega)) (ecu 1 (by omega)) (ecu 2 (by omega)) ?_
    refine ⟨z1, fun S4 e4 => ?_⟩
    rw [z0] at e4
    subst e4
    unfold wp_M_sum
    generalize hVv : (nI (mCu S t (j + 2 * 0) + mCu S t (j + 2 * 1) + mCu S t (j + 2 * 2))) = V
    have hY1 : ∀ a k, ¬ exc a k → (fw_si (fw_si (fw_sl X 244 0 V.toInt64) 209 0 0) 209 39 0).1 a k = S.1 a k := fun a k hn => by
      have hn2 : ¬ (a = 209 ∧ k = 39) := fun q => hn (.inr (.inl ⟨q.1, .inr q.2⟩))
      have hn3 : ¬ (a = 209 ∧ k = 0) := fun q => hn (.inr (.inl ⟨q.1, .inl q.2⟩))
      rw [gi_i, if_neg hn2, gi_i, if_neg hn3, gl_i]
      exact exc_ag hj hX hn
    have hY2 : ∀ a k, a ≠ 244 → (fw_si (fw_si (fw_sl X 244 0 V.toInt64) 209 0 0) 209 39 0).2 a k = S.2 a k := fun a k hn => by
      rw [gi_l, gi_l, gl_l, if_neg (by omega), hX.2]
    obtain ⟨gY, vY⟩ := ext_ok hG hV hY1 hY2
    refine in_yes (lo := 0) (hi := 1) (by omega) ha (by omega) ⟨fun q => absurd q (by decide), fun _ => ?_⟩
    intro S1 e1
    subst e1
    refine ⟨fun _ => ?_, fun q => absurd (by simp [gi_i]) q⟩
    intro S3 e3
    subst e3
    refine rall_ex gY (.inl (by simp [gi_i])) vY (fun Z z1' z2' z3' z4' => ?_)
    have g2 : nI j + 2 = nI (j + 2) := nI_add j 2
    have g4 : nI j + 4 = nI (j + 4) := nI_add j 4
    rw [g2, g4, a5, nI_clamp (by omega), nI_clamp (by omega)]
    refine ⟨vp_in_nI (by omega) (by omega), vp_in_nI (by omega) (by omega), vp_in_nI (by omega) (by omega), ?_⟩
    have ecZ : ∀ p, mCu (fw_si (fw_si (fw_sl X 244 0 V.toInt64) 209 0 0) 209 39 0) t p = mCu S t p := fun p => mCu_eq2 (fun a k h1 h2 => hY1 a k (isC_exc h1 h2))
    have eZ : ∀ p, p < 6 → Z.1 (209 + 34) p = nI (mCu S t p) := fun p hp => by rw [← ecZ]; exact z4' p hp
    have e0' : Z.1 209 0 = 0 := by rw [z1' 209 0 (by omega) (by omega)]; simp [gi_i]
    have e1' : Z.2 244 0 = V.toInt64 := by rw [z2']; simp [gi_l, gl_l]
    dsimp only
    rw [eZ j (by omega), eZ (j + 2) (by omega), eZ (j + 4) (by omega), nI_add, nI_add, show nI (mCu S t j + mCu S t (j + 2) + mCu S t (j + 4)) = V from hVv]
    unfold wp_M_thrown
    dsimp only
    rw [e0', z0, e1']
    refine ⟨fun _ => ⟨fun q => absurd rfl q, fun _ => ⟨z1, fun _ => ?_, fun q => absurd (lgs _) q⟩⟩, fun q => absurd rfl q⟩
    refine lx_next hx (hk _ ?_)
    obtain ⟨gZ, vZ⟩ := ext_ok gY vY (fun a k hn => z1' a k (fun q => hn (.inr (.inr q))) (fun q => hn (.inr (.inl ⟨q.1, .inr q.2⟩)))) (fun a k _ => by rw [z2'])
    refine RR.up hn ⟨t, gZ, .inr ⟨z3', fun p hp => ?_⟩, vZ⟩
    rw [z4' p hp]
    exact congrArg nI (mCu_eq2 (fun a k h1 h2 => (z1' a k h2 (by unfold isC at h1; omega)))).symm
  · simp [gi_i, gl_i, gl_l, gi_l, z0, z1, lgs, v0, v1, wp_Law_sum, wp_Out_sum, wp_Out_checkIndex, wp_Out_checkIndex_9, wp_M_sum, wp_M_sum_15, wp_M_isIn, wp_M_isIn_14, wp_M_isIn_15, fw_bz, wp_M_thrown, a1]
    exact lx_next hx (hk _ (hR.thrown.up hn))
  · simp [gi_i, gl_i, gl_l, gi_l, z0, z1, lgs, v0, v1, wp_Law_sum, wp_Out_sum, wp_Out_checkIndex, wp_Out_checkIndex_9, wp_M_sum, wp_M_sum_15, wp_M_isIn, wp_M_isIn_14, wp_M_isIn_15, fw_bz, wp_M_thrown, a1, a2, a3]
    exact lx_next hx (hk _ (hR.thrown.up hn))
