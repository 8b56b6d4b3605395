/-! pure: no machine from here on. Where point p of the class lies; reading after a store; the view of a point -/
def pO (p : Nat) : Nat := 21 + 95 * (p % 2) + 31 * (p / 2)
theorem pO_ltB : ∀ p, p < 6 → 21 ≤ pO p ∧ pO p + 31 ≤ 209 ∧ (pO p + 31 ≤ 114 ∨ 116 ≤ pO p) := by decide
theorem pO_lt {p : Nat} (h : p < 6) : 21 ≤ pO p ∧ pO p + 31 ≤ 209 ∧ (pO p + 31 ≤ 114 ∨ 116 ≤ pO p) := pO_ltB p h
theorem pO_neB : ∀ p, p < 6 → ∀ q, q < 6 → p ≠ q → pO p + 31 ≤ pO q ∨ pO q + 31 ≤ pO p := by decide
theorem pO_ne {p q : Nat} (hp : p < 6) (hq : q < 6) (h : p ≠ q) : pO p + 31 ≤ pO q ∨ pO q + 31 ≤ pO p := pO_neB p hp q hq h
theorem gi_i (S : fw_S) (o k : Nat) (v : Int32) (a j : Nat) : (fw_si S o k v).1 a j = if a = o ∧ j = k then v else S.1 a j := rfl
theorem gi_l (S : fw_S) (o k : Nat) (v : Int32) (a j : Nat) : (fw_si S o k v).2 a j = S.2 a j := rfl
theorem gl_i (S : fw_S) (o k : Nat) (v : Int64) (a j : Nat) : (fw_sl S o k v).1 a j = S.1 a j := rfl
theorem gl_l (S : fw_S) (o k : Nat) (v : Int64) (a j : Nat) : (fw_sl S o k v).2 a j = if a = o ∧ j = k then v else S.2 a j := rfl
/-- an array of the reference with a place for each point -/
def isM (a : Nat) : Prop := 215 ≤ a ∧ a ≤ 240 ∧ a ≠ 225 ∧ a ≠ 226
def vw (p : Nat) (S : fw_S) : fw_S :=
  (fun o k => if o < 31 then S.1 (pO p + o) k else if o = 31 then S.1 (13 + p) k else if o = 32 then (if k = 0 then S.1 12 p else 0) else if o = 213 ∨ o = 214 then (if k < 16 then S.1 o (16 + 16 * p + k) else 0) else if o = 225 then (if k < 144 then S.1 225 (144 * p + k) else 0) else if 215 ≤ o ∧ o ≤ 240 ∧ o ≠ 226 then (if k = 0 then S.1 o p else 0) else 0,
   fun o k => if o < 31 then S.2 (pO p + o) k else if o = 31 then S.2 (13 + p) k else if o = 226 then (if k < 24 then S.2 226 (24 * p + k) else 0) else if 215 ≤ o ∧ o ≤ 240 ∧ o ≠ 225 then (if k = 0 then S.2 o p else 0) else 0)
/-- two states that agree where the view of q looks have the same view -/
def foot (q o k : Nat) : Prop := (pO q ≤ o ∧ o < pO q + 31) ∨ o = 13 + q ∨ (o = 12 ∧ k = q) ∨ ((o = 213 ∨ o = 214) ∧ 16 + 16 * q ≤ k ∧ k < 32 + 16 * q) ∨ (o = 225 ∧ 144 * q ≤ k ∧ k < 144 * q + 144) ∨ (o = 226 ∧ 24 * q ≤ k ∧ k < 24 * q + 24) ∨ (215 ≤ o ∧ o ≤ 240 ∧ o ≠ 225 ∧ o ≠ 226 ∧ k = q)
theorem vw_eq {q : Nat} {S S' : fw_S} (hi : ∀ o k, foot q o k → S'.1 o k = S.1 o k) (hl : ∀ o k, foot q o k → S'.2 o k = S.2 o k) : vw q S' = vw q S := by
  unfold vw
  refine Prod.ext (funext fun o => funext fun k => ?_) (funext fun o => funext fun k => ?_)
  · show (if o < 31 then _ else _) = (if o < 31 then _ else _)
    repeat' split
    all_goals first | rfl | (apply hi; unfold foot; omega)
  · show (if o < 31 then _ else _) = (if o < 31 then _ else _)
    repeat' split
    all_goals first | rfl | (apply hl; unfold foot; omega)
theorem vw_si {q a k : Nat} {S : fw_S} {v : Int32} (h : ¬ foot q a k) : vw q (fw_si S a k v) = vw q S :=
  vw_eq (fun o j hf => by rw [gi_i, if_neg (fun e => h (by rw [← e.1, ← e.2]; exact hf))]) (fun _ _ _ => rfl)
theorem vw_sl {q a k : Nat} {S : fw_S} {v : Int64} (h : ¬ foot q a k) : vw q (fw_sl S a k v) = vw q S :=
  vw_eq (fun _ _ _ => rfl) (fun o j hf => by rw [gl_l, if_neg (fun e => h (by rw [← e.1, ← e.2]; exact hf))])
/-- stores at the point's own cells -/
theorem vw_xi {p c k : Nat} {S : fw_S} {v : Int32} (hp : p < 6) (hc : c < 31) : vw p (fw_si S (pO p + c) k v) = fw_si (vw p S) c k v := by
  have := pO_lt hp
  unfold vw
  refine Prod.ext (funext fun o => funext fun j => ?_) rfl
  show (if o < 31 then _ else _) = fw_u2 _ c k v o j
  simp only [gi_i, fw_u2, true_and, and_true, if_true]
  repeat' split
  all_goals first | rfl | omega
theorem vw_xl {p c k : Nat} {S : fw_S} {v : Int64} (hp : p < 6) (hc : c < 31) : vw p (fw_sl S (pO p + c) k v) = fw_sl (vw p S) c k v := by
  have := pO_lt hp
  unfold vw
  refine Prod.ext rfl (funext fun o => funext fun j => ?_)
  show (if o < 31 then _ else _) = fw_u2 _ c k v o j
  simp only [gl_l, fw_u2, true_and, and_true, if_true]
  repeat' split
  all_goals first | rfl | omega
theorem vw_bi {p k : Nat} {S : fw_S} {v : Int32} (hp : p < 6) : vw p (fw_si S (13 + p) k v) = fw_si (vw p S) 31 k v := by
  have := pO_lt hp
  unfold vw
  refine Prod.ext (funext fun o => funext fun j => ?_) rfl
  show (if o < 31 then _ else _) = fw_u2 _ 31 k v o j
  simp only [gi_i, fw_u2, true_and, and_true, if_true]
  repeat' split
  all_goals first | rfl | omega
theorem vw_bl {p k : Nat} {S : fw_S} {v : Int64} (hp : p < 6) : vw p (fw_sl S (13 + p) k v) = fw_sl (vw p S) 31 k v := by
  have := pO_lt hp
  unfold vw
  refine Prod.ext rfl (funext fun o => funext fun j => ?_)
  show (if o < 31 then _ else _) = fw_u2 _ 31 k v o j
  simp only [gl_l, fw_u2, true_and, and_true, if_true]
  repeat' split
  all_goals first | rfl | omega
theorem vw_ti {p : Nat} {S : fw_S} {v : Int32} (hp : p < 6) : vw p (fw_si S 12 p v) = fw_si (vw p S) 32 0 v := by
  have := pO_lt hp
  unfold vw
  refine Prod.ext (funext fun o => funext fun j => ?_) rfl
  show (if o < 31 then _ else _) = fw_u2 _ 32 0 v o j
  simp only [gi_i, fw_u2, true_and, and_true, if_true]
  repeat' split
  all_goals first | rfl | omega
theorem vw_mi {p a : Nat} {S : fw_S} {v : Int32} (hp : p < 6) (ha : isM a) : vw p (fw_si S a p v) = fw_si (vw p S) a 0 v := by
  have := pO_lt hp
  unfold isM at ha
  unfold vw
  refine Prod.ext (funext fun o => funext fun j => ?_) rfl
  show (if o < 31 then _ else _) = fw_u2 _ a 0 v o j
  simp only [gi_i, fw_u2, true_and, and_true, if_true]
  repeat' split
  all_goals first | rfl | omega
theorem vw_ml {p a : Nat} {S : fw_S} {v : Int64} (hp : p < 6) (ha : isM a) : vw p (fw_sl S a p v) = fw_sl (vw p S) a 0 v := by
  have := pO_lt hp
  unfold isM at ha
  unfold vw
  refine Prod.ext rfl (funext fun o => funext fun j => ?_)
  show (if o < 31 then _ else _) = fw_u2 _ a 0 v o j
  simp only [gl_l, fw_u2, true_and, and_true, if_true]
  repeat' split
  all_goals first | rfl | omega
theorem vw_qi {p k : Nat} {S : fw_S} {v : Int32} (hp : p < 6) (hk : k < 144) : vw p (fw_si S 225 (144 * p + k) v) = fw_si (vw p S) 225 k v := by
  have := pO_lt hp
  unfold vw
  refine Prod.ext (funext fun o => funext fun j => ?_) rfl
  show (if o < 31 then _ else _) = fw_u2 _ 225 k v o j
  simp only [gi_i, fw_u2, true_and, and_true, if_true]
  repeat' split
  all_goals first | rfl | omega
theorem vw_ql {p k : Nat} {S : fw_S} {v : Int64} (hp : p < 6) (hk : k < 24) : vw p (fw_sl S 226 (24 * p + k) v) = fw_sl (vw p S) 226 k v := by
  have := pO_lt hp
  unfold vw
  refine Prod.ext rfl (funext fun o => funext fun j => ?_)
  show (if o < 31 then _ else _) = fw_u2 _ 226 k v o j
  simp only [gl_l, fw_u2, true_and, and_true, if_true]
  repeat' split
  all_goals first | rfl | omega
/-! reading a point's cells by its view -/
theorem vx_i {p c k : Nat} {S : fw_S} (hc : c < 31) : S.1 (pO p + c) k = (vw p S).1 c k := by simp only [vw, if_pos hc]
theorem vx_l {p c k : Nat} {S : fw_S} (hc : c < 31) : S.2 (pO p + c) k = (vw p S).2 c k := by simp only [vw, if_pos hc]
theorem vm_i {p a : Nat} {S : fw_S} (ha : isM a) : S.1 a p = (vw p S).1 a 0 := by
  unfold isM at ha
  simp only [vw, if_true]
  repeat' split
  all_goals first | rfl | omega
theorem vm_l {p a : Nat} {S : fw_S} (ha : isM a) : S.2 a p = (vw p S).2 a 0 := by
  unfold isM at ha
  simp only [vw, if_true]
  repeat' split
  all_goals first | rfl | omega
theorem vb_i {p k : Nat} {S : fw_S} : S.1 (13 + p) k = (vw p S).1 31 k := rfl
theorem vb_l {p k : Nat} {S : fw_S} : S.2 (13 + p) k = (vw p S).2 31 k := rfl
theorem vt_i {p : Nat} {S : fw_S} : S.1 12 p = (vw p S).1 32 0 := rfl
theorem vq_i {p k : Nat} {S : fw_S} (hk : k < 144) : S.1 225 (144 * p + k) = (vw p S).1 225 k := by
  show _ = if k < 144 then _ else _
  rw [if_pos hk]
theorem vq_l {p k : Nat} {S : fw_S} (hk : k < 24) : S.2 226 (24 * p + k) = (vw p S).2 226 k := by
  show _ = if k < 24 then _ else _
  rw [if_pos hk]
theorem vk_i {p k a : Nat} {S : fw_S} (ha : a = 213 ∨ a = 214) (hk : k < 16) : S.1 a (16 + 16 * p + k) = (vw p S).1 a k := by
  simp only [vw, if_true]
  repeat' split
  all_goals first | rfl | omega
