/-! what each point takes: the reference's words, as functions of numbers. on: line; ac: active; wn: what it wants now; gw: its weight; tn: the turn -/
def cuSafe (lim : Nat) : Nat := if lim / 3 < 60 then 0 else lim / 3
def cuOff (lim : Nat) (on : Nat → Bool) (c : Nat) : Nat := if on c then 0 else cuSafe lim
def cuLeft (lim : Nat) (on : Nat → Bool) : Nat := lim - cuOff lim on 0 - cuOff lim on 1 - cuOff lim on 2
/-- how many places are taken before the k-th in turn -/
def cuUsed (room : Nat) (cd : Nat → Bool) (tn : Nat) : Nat → Nat
  | 0 => 0
  | k + 1 => cuUsed room cd tn k + (if cuUsed room cd tn k < room && cd ((tn + k) % 3) then 1 else 0)
def cuCh (room : Nat) (cd : Nat → Bool) (tn c : Nat) : Bool := cd c && decide (cuUsed room cd tn ((c + 3 - tn % 3) % 3) < room)
def cuAt (wn gw v : Nat) : Nat := min wn (max 60 (v * gw))
def cuT (ch : Nat → Bool) (wn gw : Nat → Nat) (v : Nat) : Nat := (if ch 0 then cuAt (wn 0) (gw 0) v else 0) + (if ch 1 then cuAt (wn 1) (gw 1) v else 0) + (if ch 2 then cuAt (wn 2) (gw 2) v else 0)
def cuBest (T : Nat → Nat) (left : Nat) : Nat → Nat
  | 0 => 0
  | v + 1 => if T (v + 1) ≤ left then v + 1 else cuBest T left v
def cuOf (lim : Nat) (on ac : Nat → Bool) (wn gw : Nat → Nat) (tn c : Nat) : Nat :=
  let left := cuLeft lim on
  let ch := cuCh (left / 60) (fun c => on c && ac c) tn
  if ch c then cuAt (wn c) (gw c) (cuBest (cuT ch wn gw) left 320) else if !on c && ac c then min (cuSafe lim) (wn c) else 0
/-- the same out of the reference's cells -/
def mOn (S : fw_S) (p : Nat) : Bool := decide (S.1 216 p ≠ 0)
def mWn (S : fw_S) (p : Nat) : Nat := if S.1 227 p ≠ 0 ∧ S.1 231 p = 0 then (S.1 228 p).toNatClampNeg else 0
def mAc (S : fw_S) (p : Nat) : Bool := decide (S.1 218 p ≠ 0 ∧ S.1 215 p ≠ 0 ∧ 60 ≤ mWn S p)
def mGw (S : fw_S) (p : Nat) : Nat := (S.1 229 p).toNatClampNeg
def mCu (S : fw_S) (t p : Nat) : Nat := cuOf (S.1 210 (p % 2)).toNatClampNeg (fun c => mOn S (p % 2 + 2 * c)) (fun c => mAc S (p % 2 + 2 * c)) (fun c => mWn S (p % 2 + 2 * c)) (fun c => mGw S (p % 2 + 2 * c)) (t / 900 % 3) (p / 2)
def KN (S : fw_S) (t : Nat) : Prop := S.1 209 39 = 0 ∨ (S.1 209 39 = 1 ∧ ∀ p, p < 6 → S.1 243 p = nI (mCu S t p))
/-- the cells that the currents depend on -/
def isC (a : Nat) : Prop := a = 210 ∨ a = 215 ∨ a = 216 ∨ a = 218 ∨ a = 227 ∨ a = 228 ∨ a = 229 ∨ a = 231 ∨ a = 243
theorem mCu_eq {S S' : fw_S} {t p : Nat} (h : ∀ a k, isC a → S'.1 a k = S.1 a k) : mCu S' t p = mCu S t p := by
  have h1 : ∀ k, S'.1 210 k = S.1 210 k := fun k => h _ k (by unfold isC; omega)
  have h2 : ∀ k, S'.1 215 k = S.1 215 k := fun k => h _ k (by unfold isC; omega)
  have h3 : ∀ k, S'.1 216 k = S.1 216 k := fun k => h _ k (by unfold isC; omega)
  have h4 : ∀ k, S'.1 218 k = S.1 218 k := fun k => h _ k (by unfold isC; omega)
  have h5 : ∀ k, S'.1 227 k = S.1 227 k := fun k => h _ k (by unfold isC; omega)
  have h6 : ∀ k, S'.1 228 k = S.1 228 k := fun k => h _ k (by unfold isC; omega)
  have h7 : ∀ k, S'.1 229 k = S.1 229 k := fun k => h _ k (by unfold isC; omega)
  have h8 : ∀ k, S'.1 231 k = S.1 231 k := fun k => h _ k (by unfold isC; omega)
  have e1 : mOn S' = mOn S := funext fun p => by unfold mOn; rw [h3]
  have e2 : mWn S' = mWn S := funext fun p => by unfold mWn; rw [h5, h6, h8]
  have e3 : mAc S' = mAc S := funext fun p => by unfold mAc; rw [h4, h2, e2]
  have e4 : mGw S' = mGw S := funext fun p => by unfold mGw; rw [h7]
  unfold mCu
  rw [e1, e2, e3, e4, h1]
theorem KN_eq {S S' : fw_S} {t : Nat} (h : KN S t) (h9 : S'.1 209 39 = S.1 209 39) (hc : ∀ a k, isC a → S'.1 a k = S.1 a k) : KN S' t := by
  rcases h with h | ⟨h, h2⟩
  · exact .inl (h9.trans h)
  · exact .inr ⟨h9.trans h, fun p hp => by rw [hc 243 p (by unfold isC; omega), mCu_eq hc]; exact h2 p hp⟩
def RR (n : Nat) (S : fw_S) : Prop := ∃ t, RG S t n ∧ KN S t ∧ ∀ q, q < 6 → RV (vw q S) t n
theorem RR0 : RR 0 S0 := ⟨0, RG0, .inl (by decide +kernel), RV0⟩
theorem RVm.up {A : fw_S} {t n w s ls : Nat} (h : RVm A t n w s ls) : RVm A t (n + 1) w s ls := by
  obtain ⟨h1, h2, h3, ⟨a, b, c, d, e, f⟩, h5, h6⟩ := h
  exact ⟨h1, h2, h3, ⟨a, b, c, d, e, by omega⟩, h5, h6⟩
theorem RV.up {A : fw_S} {t n : Nat} (h : RV A t n) : RV A t (n + 1) := by
  obtain ⟨w, s, ls, z, h0, u, g, h1, h2⟩ := h
  exact ⟨w, s, ls, z, h0, u, g, h1.up, h2⟩
/-! the checks -/
theorem sp_ci {S : fw_S} {a k : Int32} {post : fw_S → Prop} {px : Nat → fw_S → Prop} (h1 : ¬ a < 0 → a < k → post S) (h2 : a < 0 ∨ ¬ a < k → px 1 S) : wp_Out_checkIndex S a k post px := by
  unfold wp_Out_checkIndex wp_Out_checkIndex_9
  exact ⟨fun h => h2 (.inl h), fun h => ⟨fun h' => h1 h h', fun h' => h2 (.inr h')⟩⟩
theorem sp_cn {S : fw_S} {a lo hi : Int32} {post : fw_S → Prop} {px : Nat → fw_S → Prop} (h1 : ¬ a < lo → a ≤ hi → post S) (h2 : a < lo ∨ ¬ a ≤ hi → px 2 S) : wp_Out_checkNumber S a lo hi post px := by
  unfold wp_Out_checkNumber wp_Out_checkNumber_10
  exact ⟨fun h => h2 (.inl h), fun h => ⟨fun h' => h1 h h', fun h' => h2 (.inr h')⟩⟩
/-- a number in its range, or out of it -/
theorem rg_cases (a : Int32) (lo hi : Nat) (hlo : lo < 2 ^ 31) (hhi : hi < 2 ^ 31) : (∃ j, lo ≤ j ∧ j ≤ hi ∧ a = nI j) ∨ (a < nI lo ∨ nI hi < a) := by
  by_cases h1 : a < nI lo
  · exact .inr (.inl h1)
  · by_cases h2 : nI hi < a
    · exact .inr (.inr h2)
    · left
      have h3 : ¬ a < 0 := fun h => h1 (by
        rw [Int32.lt_iff_toInt_lt] at h ⊢
        rw [nI_toInt hlo]
        have : (0 : Int32).toInt = 0 := by decide
        omega)
      obtain ⟨j, hj, rfl⟩ := nI_of h3
      refine ⟨j, ?_, ?_, rfl⟩
      · exact Nat.not_lt.mp (fun h => h1 (nI_lt h hlo))
      · exact Nat.not_lt.mp (fun h => h2 (nI_lt h hj))
theorem in_yes {S : fw_S} {j lo hi : Nat} {post : fw_S → Int32 → Prop} (h1 : lo ≤ j) (h2 : j ≤ hi) (hh : hi < 2 ^ 31) (h : post S 1) : wp_M_isIn S (nI j) (nI lo) (nI hi) post := by
  unfold wp_M_isIn wp_M_isIn_14 wp_M_isIn_15
  exact ⟨fun q => absurd q (nI_nlt h1 (by omega)), fun _ => ⟨fun q => absurd q (nI_nlt h2 (by omega)), fun _ => ⟨.inr rfl, h⟩⟩⟩
theorem in_no {S : fw_S} {a lo hi : Int32} {post : fw_S → Int32 → Prop} (h1 : a < lo ∨ hi < a) (h : post S 0) : wp_M_isIn S a lo hi post := by
  unfold wp_M_isIn wp_M_isIn_14 wp_M_isIn_15
  refine ⟨fun _ => ⟨.inl rfl, h⟩, fun q => ⟨fun _ => ⟨.inl rfl, h⟩, fun q2 => ?_⟩⟩
  rcases h1 with h1 | h1
  · exact absurd h1 q
  · exact absurd h1 q2
theorem ci_yes {S : fw_S} {j k : Nat} {post : fw_S → Prop} {px : Nat → fw_S → Prop} (h1 : j < k) (hk : k < 2 ^ 31) (h : post S) : wp_Out_checkIndex S (nI j) (nI k) post px :=
  sp_ci (fun _ _ => h) (fun q => by
    rcases q with q | q
    · exact absurd q (nI_pos (by omega))
    · exact absurd (nI_lt h1 hk) q)
theorem ci_no {S : fw_S} {a : Int32} {k : Nat} {post : fw_S → Prop} {px : Nat → fw_S → Prop} (hk : k + 1 < 2 ^ 31) (h1 : a < nI 0 ∨ nI k < a) (h : px 1 S) : wp_Out_checkIndex S a (nI (k + 1)) post px :=
  sp_ci (fun q q2 => by
    rcases h1 with h1 | h1
    · exact absurd h1 q
    · rw [Int32.lt_iff_toInt_lt, nI_toInt (by omega)] at h1 q2
      omega) (fun _ => h)
theorem cn_yes {S : fw_S} {j lo hi : Nat} {post : fw_S → Prop} {px : Nat → fw_S → Prop} (h1 : lo ≤ j) (h2 : j ≤ hi) (hh : hi < 2 ^ 31) (h : post S) : wp_Out_checkNumber S (nI j) (nI lo) (nI hi) post px :=
  sp_cn (fun _ _ => h) (fun q => by
    rcases q with q | q
    · exact absurd q (nI_nlt h1 (by omega))
    · exact absurd (nI_le h2 hh) q)
theorem cn_no {S : fw_S} {a lo hi : Int32} {post : fw_S → Prop} {px : Nat → fw_S → Prop} (h1 : a < lo ∨ hi < a) (h : px 2 S) : wp_Out_checkNumber S a lo hi post px :=
  sp_cn (fun q q2 => by
    rcases h1 with h1 | h1
    · exact absurd h1 q
    · rw [Int32.lt_iff_toInt_lt] at h1
      rw [Int32.le_iff_toInt_le] at q2
      omega) (fun _ => h)
/-! the law's own steps -/
def LX (L i : Nat) : Prop := L ≤ 2560 ∧ i + 5 ≤ L
theorem lx_in {L i c : Nat} (h : LX L i) (hc : c < 5) : vp_in (nI i + nI c) L := by
  rw [nI_add]
  exact vp_in_nI (by have := h.2; omega) (by have := h.1; omega)
theorem lx_next {L i : Nat} {xs : Nat → Int32} {k : fw_S → Int32 → Prop} {S : fw_S} (h : LX L i) (hk : k S (nI (i + 5))) : wp_Law_law_1470 L xs k S (nI i) := by
  have h1 := h.1
  have h2 := h.2
  unfold wp_Law_law_1470
  refine ⟨by rw [nI_clamp (by omega)]; omega, ?_⟩
  intro v1 e1
  have e1 : v1 = nI (i + 5) := by rw [e1]; exact nI_add i 5
  subst e1
  exact ⟨by rw [nI_clamp (by omega), nI_clamp (by omega)], hk⟩
