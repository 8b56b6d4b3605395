/-! a message put into the queue: what the cells say before and after -/
def PUT (A A' : fw_S) (h z kd t wh idl c : Nat) : Prop :=
  (A'.1 2 3 = A.1 2 3 + 1 ∧ A'.1 221 0 = A.1 221 0 + 1 ∧ A'.1 2 1 = A.1 2 1 ∧ A'.1 2 2 = A.1 2 2 + 1 ∧ A'.1 222 0 = A.1 222 0 + 1 ∧ A'.1 2 4 = A.1 2 4 ∧ A'.1 223 0 = A.1 223 0 ∧ A'.1 0 9 = A.1 0 9 ∧ A'.1 224 0 = A.1 224 0 ∧ A'.1 0 3 = A.1 0 3 ∧ A'.1 0 4 = A.1 0 4 ∧ A'.1 32 0 = A.1 32 0 ∧ A'.1 233 0 = A.1 233 0 ∧ A'.1 31 0 = A.1 31 0 ∧ A'.1 31 5 = A.1 31 5) ∧
  (∀ k j, k < z → A'.1 (rw_ h k) j = A.1 (rw_ h k) j) ∧ (∀ c, c < 6 * z → A'.1 225 c = A.1 225 c) ∧ (∀ k, k < z → A'.2 226 k = A.2 226 k) ∧
  (A'.1 (rw_ h z) 0 = nI kd ∧ A'.1 225 (6 * z) = A.1 2 2 ∧ A'.1 225 (6 * z + 1) = nI kd + 1 ∧ A'.1 225 (6 * z + 2) = A'.1 (rw_ h z) 1 ∧ (A'.1 225 (6 * z + 3) = nI c ∧ A'.1 (rw_ h z) 2 = nI c) ∧ (A'.1 225 (6 * z + 4) = nI t ∧ A'.1 (rw_ h z) 3 = nI t) ∧ (A'.1 (rw_ h z) 4 = nI wh ∧ A'.2 226 z = (nI wh).toInt64) ∧ (A'.1 (rw_ h z) 5 = nI idl ∧ A'.1 225 (6 * z + 5) = nI idl))
theorem i32_a (x a : Int32) : x + 1 - (a + 1) = x - a := by
  rw [Int32.sub_eq_add_neg, Int32.sub_eq_add_neg, Int32.neg_add, Int32.sub_eq_add_neg]
  rw [show x + 1 + (-a + -1) = x + -a + (1 + -1) by ac_rfl]
  simp
theorem RVq.put {A A' : fw_S} {t w s z h u s' kd wh idl c : Nat} (hq : RVq A t w s z h u) (hp : PUT A A' h z kd t wh idl c) (hz : z ≤ 22) (hs : s' ≠ 0 → z + 1 ≤ 22) : RVq A' t w s' (z + 1) h u := by
  obtain ⟨⟨a1, a2, a3, a4⟩, ⟨b1, b2⟩, d, ⟨e1, e2⟩, ⟨f1, f2⟩, ⟨g1, g2, g3, g4⟩, m⟩ := hq
  obtain ⟨⟨p1, p2, p3, p4, p5, p6, p7, p8, p9, p10, p11, p12, p13, p14, p15⟩, r1, r2, r3, n1, n2, n3, n4, ⟨n5, n5'⟩, ⟨n6, n6'⟩, ⟨n7, n7'⟩, n8, n8'⟩ := hp
  refine ⟨⟨by rw [p1, a1, nI_1], by rw [p2, a2, nI_1], by omega, hs⟩, ⟨by rw [p3, b1], b2⟩, by rw [p5, p4, d], ⟨by rw [p7, p6, e1], by rw [p6]; exact e2⟩, ⟨by rw [p9, p8, f1], ?_⟩, ⟨by rw [p13, p12, g1], g2, by omega, ?_⟩, fun k hk => ?_⟩
  · rw [p8, p10, p11]
    rcases f2 with f2 | ⟨x1, x2⟩
    · exact .inl f2
    · exact .inr ⟨by omega, x2⟩
  · rw [p12, p4, g4, ← nI_1, i32_a]
  · rw [p4, ← nI_1, i32_a]
    by_cases e : k = z
    · subst e
      rw [n2, n3, n1, n4, n5, n5', n6, n6', n8, n8', n7', n7]
      exact ⟨by rw [Int32.sub_eq_add_neg, Int32.add_assoc, Int32.add_left_neg, Int32.add_zero], rfl, rfl, rfl, rfl, rfl, rfl⟩
    · have hk' : k < z := by omega
      rw [r1 k 0 hk', r1 k 1 hk', r1 k 2 hk', r1 k 3 hk', r1 k 4 hk', r1 k 5 hk', r3 k hk', r2 (6 * k) (by omega), r2 (6 * k + 1) (by omega), r2 (6 * k + 2) (by omega), r2 (6 * k + 3) (by omega), r2 (6 * k + 4) (by omega), r2 (6 * k + 5) (by omega)]
      exact m k hk'
theorem RVs.put {A A' : fw_S} {t w s z h u s' kd wh idl c : Nat} (hq : RVs A t w s z h u) (hu : u ≤ z) (hp : PUT A A' h z kd t wh idl c) (hkd : kd ≤ 2) (hc : c < 16) (hi : idl ≤ t) (hw : wh = w / 3600) (h1 : kd = 0 ↔ ¬ s ≠ 0) (h2 : s' ≠ 0 ↔ kd ≠ 2) : RVs A' t w s' (z + 1) h u := by
  obtain ⟨⟨p1, p2, p3, p4, p5, p6, p7, p8, p9, p10, p11, p12, p13, p14, p15⟩, r1, r2, r3, n1, n2, n3, n4, ⟨n5, n5'⟩, ⟨n6, n6'⟩, ⟨n7, n7'⟩, n8, n8'⟩ := hp
  obtain ⟨kf, wf, op, a1, a2, a3, a4, a5, a6, b, b1, b2, b3⟩ := hq
  refine ⟨fun k => if k = z then kd else kf k, fun k => if k = z then wh else wf k, fun k => if k = z + 1 then s' ≠ 0 else op k, fun k hk => ?_, fun k hk hkz => ?_, by simp, ?_, fun k hk hkz => ?_, fun k hk hkz => ?_, b, by rw [p15, b1], b2, fun k hk hkz => ?_⟩
  · by_cases e : k = z
    · subst e
      simp only [if_true]
      exact ⟨hkd, n1, n7, ⟨c, hc, n5'⟩, ⟨t, by omega, n6'⟩, idl, hi, n8⟩
    · have hk' : k < z := by omega
      simp only [if_neg e]
      rw [r1 k 0 hk', r1 k 2 hk', r1 k 3 hk', r1 k 4 hk', r1 k 5 hk']
      exact a1 k hk'
  · by_cases e : k = z
    · subst e
      simp only [if_true, if_neg (show ¬ k = k + 1 by omega)]
      exact ⟨by rw [h1, a3], h2⟩
    · simp only [if_neg e, if_neg (show ¬ k = z + 1 by omega), if_neg (show ¬ k + 1 = z + 1 by omega)]
      exact a2 k hk (by omega)
  · rw [p14]
    simp only [if_neg (show ¬ u = z + 1 by omega)]
    exact a4
  · simp only [if_neg (show ¬ k = z by omega)]
    by_cases e : k + 1 = z
    · rw [if_pos e, hw]
      have := a6 k hk (by omega)
      omega
    · rw [if_neg e]
      exact a5 k hk (by omega)
  · by_cases e : k = z
    · simp only [if_pos e]
      omega
    · simp only [if_neg e]
      exact a6 k hk (by omega)
  · by_cases e : k = z
    · simp only [if_pos e]
      omega
    · simp only [if_neg e]
      exact b3 k hk (by omega)
theorem RVb.same {A A' : fw_S} {t w : Nat} (h : RVb A t w) (hi : ∀ o k, o = 31 ∨ (234 ≤ o ∧ o ≤ 240) → A'.1 o k = A.1 o k) (hl : ∀ o k, o = 31 ∨ (234 ≤ o ∧ o ≤ 240) → A'.2 o k = A.2 o k) : RVb A' t w := by
  unfold RVb at h ⊢
  rw [hi 234 0 (by omega), hi 31 0 (by omega), hi 235 0 (by omega), hi 31 1 (by omega), hi 236 0 (by omega), hi 31 2 (by omega), hl 237 0 (by omega), hl 31 3 (by omega), hi 240 0 (by omega), hi 31 6 (by omega), hi 31 5 (by omega), hl 238 0 (by omega), hi 31 4 (by omega), hl 239 0 (by omega)]
  exact h
theorem RVk.same {A A' : fw_S} (h : RVk A) (hi : ∀ o k, o = 29 ∨ o = 30 ∨ o = 213 ∨ o = 214 → A'.1 o k = A.1 o k) : RVk A' := by
  intro k hk
  rw [hi 29 k (by omega), hi 30 k (by omega), hi 213 k (by omega), hi 214 k (by omega)]
  exact h k hk
/-! the two ways to put it: what the object does, and what the reference does -/
def tellS (o r : Nat) (S : fw_S) (kd tm wh idl : Int32) : fw_S :=
  fw_si (fw_si (fw_si (fw_si (fw_si (fw_si (fw_si (fw_si S r 0 kd) r 1 (S.1 o 6)) r 2 (S.1 o 7)) r 3 tm) r 4 wh) r 5 idl) (o + 2) 3 (S.1 (o + 2) 3 + 1)) (o + 2) 2 (S.1 (o + 2) 2 + 1)
def mputS (p c d : Nat) (S : fw_S) (kd tm idl : Int32) : fw_S :=
  fw_si (fw_si (fw_sl (fw_si (fw_si (fw_si (fw_si (fw_si (fw_si S 225 c (S.1 222 p)) 225 (c + 1) kd) 225 (c + 2) (S.1 218 p)) 225 (c + 3) (S.1 220 p)) 225 (c + 4) tm) 225 (c + 5) idl) 226 d (S.2 217 p / 3600)) 221 p (S.1 221 p + 1)) 222 p (S.1 222 p + 1)
theorem ring24 {h z : Nat} (hh : h < 24) (hz : z ≤ 23) : nI h + nI z - (nI h + nI z) / 24 * 24 = nI ((h + z) % 24) := by
  rw [nI_add]
  exact pk_rem (d := 24) (by omega) (by omega) (by omega)
theorem tell_ex {S : fw_S} {o h z : Nat} {kd tm idl : Int32} {post : fw_S → Prop} (h1 : S.1 (o + 2) 1 = nI h) (h2 : S.1 (o + 2) 3 = nI z) (hh : h < 24) (hz : z ≤ 23) : wp_Point_tell S o kd tm idl post = post (tellS o (o + rw_ h z) S kd tm ((S.2 o 5 / 3600 : Int64).toInt32) idl) := by
  have e1 : ¬ (24 : Int32) ≤ nI z := nI_ge (b := 24) (by omega) (by omega)
  have e2 := ring24 hh hz
  have e3 : vp_in (nI ((h + z) % 24)) 24 := vp_in_nI (by omega) (by omega)
  have e4 : (nI ((h + z) % 24)).toNatClampNeg = (h + z) % 24 := nI_clamp (by omega)
  have e5 : o + 2 + 1 + (1 + 1 * ((h + z) % 24)) = o + rw_ h z := by unfold rw_; omega
  have e6 : ∀ j, ¬ (o + 2 = o + rw_ h z ∧ j) := fun j q => by unfold rw_ at q; omega
  simp only [wp_Point_tell, wp_Queue_put, wp_Queue_put_58, wp_Msg_fill, h1, h2, e1, e2, e3, e4, e5, forall_eq, false_implies, true_implies, true_and, not_false_eq_true, tellS, gi_i, e6, if_false, Nat.reduceEqDiff, and_false]
theorem mput_ex {S : fw_S} {p z : Nat} {kd idl : Int32} {post : fw_S → Prop} (hp : p ≤ 5) (h2 : S.1 221 p = nI z) (hz : z ≤ 23) : wp_M_put S 209 (nI p) kd idl post = post (mputS p (144 * p + 6 * z) (24 * p + z) S kd (S.1 209 1) idl) := by
  have a1 : vp_in (nI p) 6 := vp_in_nI (by omega) (by omega)
  have a2 : (nI p).toNatClampNeg = p := nI_clamp (by omega)
  have e0 : (24 : Int32) * nI p + nI z = nI (24 * p + z) := by
    rw [show (24 : Int32) * nI p = nI (24 * p) from pk_mul 24 p, nI_add]
  have e1 : (6 : Int32) * nI (24 * p + z) = nI (144 * p + 6 * z) := by
    rw [show (6 : Int32) * nI (24 * p + z) = nI (6 * (24 * p + z)) from pk_mul 6 _]
    exact congrArg nI (by omega)
  have f : ∀ j : Nat, j ≤ 5 → vp_in (nI (144 * p + 6 * z + j)) 864 ∧ (nI (144 * p + 6 * z + j)).toNatClampNeg = 144 * p + 6 * z + j := fun j hj => ⟨vp_in_nI (by omega) (by omega), nI_clamp (by omega)⟩
  have g1 : nI (144 * p + 6 * z) + 1 = nI (144 * p + 6 * z + 1) := nI_add _ 1
  have g2 : nI (144 * p + 6 * z) + 2 = nI (144 * p + 6 * z + 2) := nI_add _ 2
  have g3 : nI (144 * p + 6 * z) + 3 = nI (144 * p + 6 * z + 3) := nI_add _ 3
  have g4 : nI (144 * p + 6 * z) + 4 = nI (144 * p + 6 * z + 4) := nI_add _ 4
  have g5 : nI (144 * p + 6 * z) + 5 = nI (144 * p + 6 * z + 5) := nI_add _ 5
  have f0 := f 0 (by omega)
  rw [Nat.add_zero] at f0
  have i1 : vp_in (nI (24 * p + z)) 144 := vp_in_nI (by omega) (by omega)
  have i2 : (nI (24 * p + z)).toNatClampNeg = 24 * p + z := nI_clamp (by omega)
  simp only [wp_M_put, wp_M_cell, a1, a2, h2, e0, e1, g1, g2, g3, g4, g5, f0, f 1 (by omega), f 2 (by omega), f 3 (by omega), f 4 (by omega), f 5 (by omega), i1, i2, forall_eq, true_and, gi_i, gl_i, gi_l, gl_l, Nat.reduceAdd, Nat.reduceEqDiff, false_and, if_false, mputS]
