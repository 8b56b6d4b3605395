/-! the put in a point's view -/
theorem vw_tell {p r : Nat} {S : fw_S} {kd tm wh idl : Int32} (hp : p < 6) (hr : r < 31) : vw p (tellS (pO p) (pO p + r) S kd tm wh idl) = tellS 0 r (vw p S) kd tm wh idl := by
  unfold tellS
  rw [vw_xi hp (by omega), vw_xi hp (by omega), vw_xi hp hr, vw_xi hp hr, vw_xi hp hr, vw_xi hp hr, vw_xi hp hr, vw_xi hp hr]
  rfl
theorem vw_mput {p z : Nat} {S : fw_S} {kd tm idl : Int32} (hp : p < 6) (hz : z ≤ 23) : vw p (mputS p (144 * p + 6 * z) (24 * p + z) S kd tm idl) = mputS 0 (6 * z) z (vw p S) kd tm idl := by
  unfold mputS
  rw [vw_mi hp (by unfold isM; omega), vw_mi hp (by unfold isM; omega), vw_ql hp (by omega), Nat.add_assoc _ _ 5, Nat.add_assoc _ _ 4, Nat.add_assoc _ _ 3, Nat.add_assoc _ _ 2, Nat.add_assoc _ _ 1, vw_qi hp (by omega), vw_qi hp (by omega), vw_qi hp (by omega), vw_qi hp (by omega), vw_qi hp (by omega), vw_qi hp (by omega)]
  rfl
theorem vwo_tell {p q r : Nat} {S : fw_S} {kd tm wh idl : Int32} (hp : p < 6) (hq : q < 6) (e : q ≠ p) (hr : r < 31) : vw q (tellS (pO p) (pO p + r) S kd tm wh idl) = vw q S := by
  unfold tellS
  rw [vw_si (nf_x hp hq e (by omega)), vw_si (nf_x hp hq e (by omega)), vw_si (nf_x hp hq e hr), vw_si (nf_x hp hq e hr), vw_si (nf_x hp hq e hr), vw_si (nf_x hp hq e hr), vw_si (nf_x hp hq e hr), vw_si (nf_x hp hq e hr)]
theorem nf_q {p q c k : Nat} (hq : q < 6) (e : q ≠ p) (h : (c = 225 ∧ 144 * p ≤ k ∧ k < 144 * p + 144) ∨ (c = 226 ∧ 24 * p ≤ k ∧ k < 24 * p + 24)) : ¬ foot q c k := by
  have h2 := pO_lt hq
  unfold foot
  omega
theorem vwo_mput {p q z : Nat} {S : fw_S} {kd tm idl : Int32} (hq : q < 6) (e : q ≠ p) (hz : z ≤ 23) : vw q (mputS p (144 * p + 6 * z) (24 * p + z) S kd tm idl) = vw q S := by
  unfold mputS
  rw [vw_si (nf_m hq e (by unfold isM; omega)), vw_si (nf_m hq e (by unfold isM; omega)), vw_sl (nf_q hq e (by omega)), vw_si (nf_q hq e (by omega)), vw_si (nf_q hq e (by omega)), vw_si (nf_q hq e (by omega)), vw_si (nf_q hq e (by omega)), vw_si (nf_q hq e (by omega)), vw_si (nf_q hq e (by omega))]
theorem tell_i {o h z a j : Nat} {S : fw_S} {kd tm wh idl : Int32} (ha : a = o ∨ a = o + 1 ∨ a < o ∨ o + 31 ≤ a) : (tellS o (o + rw_ h z) S kd tm wh idl).1 a j = S.1 a j := by
  have hr : 4 ≤ rw_ h z ∧ rw_ h z < 31 := by unfold rw_; omega
  unfold tellS
  simp only [gi_i]
  repeat rw [if_neg (by omega)]
theorem tell_l {o r : Nat} {S : fw_S} {kd tm wh idl : Int32} : (tellS o r S kd tm wh idl).2 = S.2 := rfl
theorem mput_i {p c d a j : Nat} {S : fw_S} {kd tm idl : Int32} (ha : ¬ a = 225 ∧ ¬ a = 221 ∧ ¬ a = 222) : (mputS p c d S kd tm idl).1 a j = S.1 a j := by
  unfold mputS
  simp only [gi_i, gl_i]
  repeat rw [if_neg (by omega)]
theorem mput_l {p c d a j : Nat} {S : fw_S} {kd tm idl : Int32} (ha : ¬ a = 226) : (mputS p c d S kd tm idl).2 a j = S.2 a j := by
  unfold mputS
  simp only [gi_l, gl_l]
  rw [if_neg (by omega)]
/-! a session ends; a session begins -/
def BK (A A' : fw_S) : Prop := (∀ o k, o = 31 ∨ (234 ≤ o ∧ o ≤ 240) → A'.1 o k = A.1 o k) ∧ (∀ o k, o = 31 ∨ (234 ≤ o ∧ o ≤ 240) → A'.2 o k = A.2 o k) ∧ (∀ o k, o = 29 ∨ o = 30 ∨ o = 213 ∨ o = 214 → A'.1 o k = A.1 o k)
theorem RV.stop {A A' : fw_S} {t n w s ls z h u idl c : Nat} {g' : Int} (hm : RVm A t n w s ls) (hq : RVq A t w s z h u) (hs : RVs A t w s z h u) (hb : RVb A t w) (hk : RVk A) (hs0 : s ≠ 0) (hP : PUT A A' h z 2 t (w / 3600) idl c) (hc16 : c < 16) (hi : idl ≤ t)
    (e : A'.1 0 6 = 0 ∧ A'.1 218 0 = 0 ∧ A'.1 0 7 = -1 ∧ A'.1 215 0 = A.1 215 0 ∧ A'.1 216 0 = A.1 216 0 ∧ A'.2 217 0 = A.2 217 0 ∧ A'.2 0 5 = A.2 0 5 ∧ A'.1 219 0 = A.1 219 0 ∧ A'.1 0 8 = A.1 0 8) (hc' : RVc A' t 0 g') (hBK : BK A A') : RV A' t n := by
  obtain ⟨e1, e2, e3, e4, e5, e6, e7, e8, e9⟩ := e
  have hu := hq.2.2.2.2.2.1.2.2.1
  have hz := hq.1.2.2.2 hs0
  refine ⟨w, 0, ls, z + 1, h, u, g', ?_, hc', hq.put hP hz (fun q => absurd rfl q), hs.put hu hP (by omega) hc16 hi rfl (by omega) (by omega), hb.same hBK.1 hBK.2.1, hk.same hBK.2.2⟩
  obtain ⟨m1, m2, m3, ⟨m4, m5, m6, m7, m8, m9⟩, m10, m11⟩ := hm
  have p3 := hP.1.2.2.2.2.2.2.2.2.2.1
  have p4 := hP.1.2.2.2.2.2.2.2.2.2.2.1
  exact ⟨by rw [e4, p3]; exact m1, by rw [e5, p4]; exact m2, by rw [e6, e7]; exact m3, ⟨by rw [e2]; rfl, by rw [e1]; rfl, by rw [e8, m6], by rw [e9, m7], by omega, m9⟩, fun _ => e3, fun q => absurd rfl q⟩
theorem RV.start {A A' : fw_S} {t n w ls z h u c : Nat} {g : Int} (hm : RVm A t n w 0 ls) (hq : RVq A t w 0 z h u) (hs : RVs A t w 0 z h u) (hb : RVb A t w) (hk : RVk A) (hz : z ≤ 20) (hP : PUT A A' h z 0 t (w / 3600) 0 c) (hc16 : c < 16)
    (e : A'.1 0 6 = nI (ls + 1) ∧ A'.1 218 0 = nI (ls + 1) ∧ A'.1 0 7 = nI c ∧ A'.1 215 0 = A.1 215 0 ∧ A'.1 216 0 = A.1 216 0 ∧ A'.2 217 0 = A.2 217 0 ∧ A'.2 0 5 = A.2 0 5 ∧ A'.1 219 0 = nI (ls + 1) ∧ A'.1 0 8 = nI (ls + 1) ∧ A'.1 220 0 = nI c) (hc' : RVc A' t (ls + 1) g) (hBK : BK A A') : RV A' t (n + 1) := by
  obtain ⟨e1, e2, e3, e4, e5, e6, e7, e8, e9, e10⟩ := e
  have hu := hq.2.2.2.2.2.1.2.2.1
  refine ⟨w, ls + 1, ls + 1, z + 1, h, u, g, ?_, hc', hq.put hP (by omega) (fun q => by omega), hs.put hu hP (by omega) hc16 (by omega) rfl (by omega) (by omega), hb.same hBK.1 hBK.2.1, hk.same hBK.2.2⟩
  obtain ⟨m1, m2, m3, ⟨m4, m5, m6, m7, m8, m9⟩, m10, m11⟩ := hm
  have p3 := hP.1.2.2.2.2.2.2.2.2.2.1
  have p4 := hP.1.2.2.2.2.2.2.2.2.2.2.1
  exact ⟨by rw [e4, p3]; exact m1, by rw [e5, p4]; exact m2, by rw [e6, e7]; exact m3, ⟨e2, e1, e8, e9, by omega, by omega⟩, fun q => absurd q (by omega), fun _ => ⟨by rw [e10, e3], c, hc16, e3⟩⟩
theorem wh_ok {w t n : Nat} (hw : w ≤ 7360 * t) (ht : t ≤ 86400 * n) (hn : n ≤ 512) : ((lN w / 3600 : Int64).toInt32) = nI (w / 3600) ∧ lN w / 3600 = (nI (w / 3600)).toInt64 := by
  have e : lN w / 3600 = lN (w / 3600) := pk_lDiv (b := 3600) (by omega) (by omega) (by omega)
  rw [e, lN_i, nI_l (by omega)]
  exact ⟨rfl, rfl⟩
