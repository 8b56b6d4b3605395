/-! time passes: what happens at one point, in its view. The object's part touches offsets below 33, the reference's the others -/
def cv (C M : fw_S) : fw_S := (fun o k => if o < 33 then C.1 o k else M.1 o k, fun o k => if o < 33 then C.2 o k else M.2 o k)
theorem cv_self (A : fw_S) : cv A A = A := by
  unfold cv
  refine Prod.ext (funext fun o => funext fun k => ?_) (funext fun o => funext fun k => ?_)
  · exact ite_self _
  · exact ite_self _
theorem cv_i (C M : fw_S) (o k : Nat) : (cv C M).1 o k = if o < 33 then C.1 o k else M.1 o k := rfl
theorem cv_l (C M : fw_S) (o k : Nat) : (cv C M).2 o k = if o < 33 then C.2 o k else M.2 o k := rfl
theorem cvc_i {C M : fw_S} {o k : Nat} {v : Int32} (h : o < 33) : fw_si (cv C M) o k v = cv (fw_si C o k v) M := by
  refine Prod.ext (funext fun a => funext fun j => ?_) rfl
  rw [gi_i, cv_i, cv_i, gi_i]
  by_cases e : a = o ∧ j = k
  · rw [if_pos e, if_pos (by omega), if_pos e]
  · rw [if_neg e, if_neg e]
theorem cvc_l {C M : fw_S} {o k : Nat} {v : Int64} (h : o < 33) : fw_sl (cv C M) o k v = cv (fw_sl C o k v) M := by
  refine Prod.ext rfl (funext fun a => funext fun j => ?_)
  rw [gl_l, cv_l, cv_l, gl_l]
  by_cases e : a = o ∧ j = k
  · rw [if_pos e, if_pos (by omega), if_pos e]
  · rw [if_neg e, if_neg e]
theorem cvm_i {C M : fw_S} {o k : Nat} {v : Int32} (h : ¬ o < 33) : fw_si (cv C M) o k v = cv C (fw_si M o k v) := by
  refine Prod.ext (funext fun a => funext fun j => ?_) rfl
  rw [gi_i, cv_i, cv_i, gi_i]
  by_cases e : a = o ∧ j = k
  · rw [if_pos e, if_neg (by omega), if_pos e]
  · rw [if_neg e, if_neg e]
theorem cvm_l {C M : fw_S} {o k : Nat} {v : Int64} (h : ¬ o < 33) : fw_sl (cv C M) o k v = cv C (fw_sl M o k v) := by
  refine Prod.ext rfl (funext fun a => funext fun j => ?_)
  rw [gl_l, cv_l, cv_l, gl_l]
  by_cases e : a = o ∧ j = k
  · rw [if_pos e, if_neg (by omega), if_pos e]
  · rw [if_neg e, if_neg e]
/-! the object -/
abbrev rnC (A : fw_S) : Prop := ¬ A.1 0 6 = 0 ∧ ¬ A.1 0 3 = 0
def cEat (e τ : Int32) (A : fw_S) : fw_S := if A.1 1 1 = 0 ∧ ¬ (0 : Int32) < A.1 1 4 - e then fw_si (fw_si (fw_si (fw_si A 1 4 (A.1 1 4 - e)) 1 1 1) 1 5 τ) 1 2 0 else fw_si A 1 4 (A.1 1 4 - e)
def cCh (cu m τ : Nat) (A : fw_S) : fw_S := if rnC A then cEat (nI (23 * cu * m)) (nI τ) (fw_sl A 0 5 (A.2 0 5 + (nI (23 * cu * m)).toInt64)) else A
def cRd (τ : Nat) (A : fw_S) : fw_S := if τ % 60 = 0 ∧ rnC A ∧ ¬ (22 : Int32) ≤ A.1 2 3 then tellS 0 (rw_ (A.1 2 1).toNatClampNeg (A.1 2 3).toNatClampNeg) A 1 (nI τ) ((A.2 0 5 / 3600 : Int64).toInt32) 0 else A
abbrev wtC (A : fw_S) : Prop := ¬ A.1 0 3 = 0 ∧ ¬ A.1 0 4 = 0 ∧ ¬ A.1 2 3 ≤ 0 ∧ A.1 0 9 = 0
def cSd (τ : Nat) (A : fw_S) : fw_S := if wtC A ∧ (A.1 2 4 = -1 ∨ ¬ nI τ < A.1 2 4 + 20) then fw_si (fw_si A 2 4 (nI τ)) 0 9 1 else A
/-! the reference -/
abbrev rnM (A : fw_S) : Prop := ¬ A.1 218 0 ≤ 0 ∧ ¬ A.1 215 0 = 0
def mCh (cu τ : Nat) (A : fw_S) : fw_S :=
  if rnM A then
    (if ¬ lg_cmp (A.2 230 0) 0 ≤ 0 ∧ ¬ (0 : Int32) < lg_cmp (A.2 230 0 - 23 * (nI cu).toInt64) 0 then fw_si (fw_si (fw_sl (fw_sl A 217 0 (A.2 217 0 + 23 * (nI cu).toInt64)) 230 0 (A.2 230 0 - 23 * (nI cu).toInt64)) 231 0 1) 232 0 (nI (τ + 1))
    else fw_sl (fw_sl A 217 0 (A.2 217 0 + 23 * (nI cu).toInt64)) 230 0 (A.2 230 0 - 23 * (nI cu).toInt64))
  else A
def mRd (τ : Nat) (A : fw_S) : fw_S := if τ % 60 = 0 ∧ rnM A ∧ ¬ (22 : Int32) ≤ A.1 221 0 then mputS 0 (6 * (A.1 221 0).toNatClampNeg) (A.1 221 0).toNatClampNeg A 2 (nI τ) 0 else A
abbrev wtM (A : fw_S) : Prop := ¬ A.1 215 0 = 0 ∧ ¬ A.1 216 0 = 0 ∧ ¬ A.1 221 0 ≤ 0 ∧ A.1 224 0 = 0
def mSd (τ : Nat) (A : fw_S) : fw_S := if wtM A ∧ (A.1 223 0 < 0 ∨ ¬ nI τ - A.1 223 0 < 20) then fw_si (fw_si A 224 0 1) 223 0 (nI τ) else A
def mStep (cu τ : Nat) (A : fw_S) : fw_S := mSd (τ + 1) (mRd (τ + 1) (mCh cu τ A))
def mIter (cu t : Nat) : Nat → fw_S → fw_S
  | 0, A => A
  | i + 1, A => mStep cu (t + i) (mIter cu t i A)
def cStep (cu m t : Nat) (A : fw_S) : fw_S := cSd (t + m) (cRd (t + m) (cCh cu m (t + m) A))
/-! they don't disturb each other -/
theorem cCh_cv {cu m τ : Nat} {C M : fw_S} : cCh cu m τ (cv C M) = cv (cCh cu m τ C) M := by
  have e : rnC (cv C M) ↔ rnC C := Iff.rfl
  unfold cCh
  by_cases h : rnC C
  · rw [if_pos (e.mpr h), if_pos h, cvc_l (by omega)]
    show cEat _ _ (cv (fw_sl C 0 5 (C.2 0 5 + _)) M) = _
    generalize fw_sl C 0 5 (C.2 0 5 + (nI (23 * cu * m)).toInt64) = D
    unfold cEat
    by_cases h2 : D.1 1 1 = 0 ∧ ¬ (0 : Int32) < D.1 1 4 - nI (23 * cu * m)
    · rw [if_pos h2, if_pos (show (cv D M).1 1 1 = 0 ∧ ¬ (0 : Int32) < (cv D M).1 1 4 - nI (23 * cu * m) from h2), cvc_i (by omega), cvc_i (by omega), cvc_i (by omega), cvc_i (by omega)]
      rfl
    · rw [if_neg h2, if_neg (show ¬ ((cv D M).1 1 1 = 0 ∧ ¬ (0 : Int32) < (cv D M).1 1 4 - nI (23 * cu * m)) from h2), cvc_i (by omega)]
      rfl
  · rw [if_neg (fun q => h (e.mp q)), if_neg h]
theorem tell_cv {r : Nat} {C M : fw_S} {kd tm wh idl : Int32} (hr : r < 33) : tellS 0 r (cv C M) kd tm wh idl = cv (tellS 0 r C kd tm wh idl) M := by
  unfold tellS
  rw [cvc_i hr, cvc_i hr, cvc_i hr, cvc_i hr, cvc_i hr, cvc_i hr, cvc_i (by omega), cvc_i (by omega)]
  rfl
theorem rw_lt (h k : Nat) : rw_ h k < 33 := by unfold rw_; omega
theorem cRd_cv {τ : Nat} {C M : fw_S} : cRd τ (cv C M) = cv (cRd τ C) M := by
  unfold cRd
  by_cases h : τ % 60 = 0 ∧ rnC C ∧ ¬ (22 : Int32) ≤ C.1 2 3
  · rw [if_pos h, if_pos (show τ % 60 = 0 ∧ rnC (cv C M) ∧ ¬ (22 : Int32) ≤ (cv C M).1 2 3 from h)]
    exact tell_cv (rw_lt _ _)
  · rw [if_neg h, if_neg (show ¬ (τ % 60 = 0 ∧ rnC (cv C M) ∧ ¬ (22 : Int32) ≤ (cv C M).1 2 3) from h)]
theorem cSd_cv {τ : Nat} {C M : fw_S} : cSd τ (cv C M) = cv (cSd τ C) M := by
  unfold cSd
  by_cases h : wtC C ∧ (C.1 2 4 = -1 ∨ ¬ nI τ < C.1 2 4 + 20)
  · rw [if_pos h, if_pos (show wtC (cv C M) ∧ ((cv C M).1 2 4 = -1 ∨ ¬ nI τ < (cv C M).1 2 4 + 20) from h), cvc_i (by omega), cvc_i (by omega)]
  · rw [if_neg h, if_neg (show ¬ (wtC (cv C M) ∧ ((cv C M).1 2 4 = -1 ∨ ¬ nI τ < (cv C M).1 2 4 + 20)) from h)]
theorem mCh_cv {cu τ : Nat} {C M : fw_S} : mCh cu τ (cv C M) = cv C (mCh cu τ M) := by
  unfold mCh
  by_cases h : rnM M
  · rw [if_pos h, if_pos (show rnM (cv C M) from h)]
    by_cases h2 : ¬ lg_cmp (M.2 230 0) 0 ≤ 0 ∧ ¬ (0 : Int32) < lg_cmp (M.2 230 0 - 23 * (nI cu).toInt64) 0
    · rw [if_pos h2, if_pos (show ¬ lg_cmp ((cv C M).2 230 0) 0 ≤ 0 ∧ ¬ (0 : Int32) < lg_cmp ((cv C M).2 230 0 - 23 * (nI cu).toInt64) 0 from h2), cvm_l (by omega), cvm_l (by omega), cvm_i (by omega), cvm_i (by omega)]
      rfl
    · rw [if_neg h2, if_neg (show ¬ (¬ lg_cmp ((cv C M).2 230 0) 0 ≤ 0 ∧ ¬ (0 : Int32) < lg_cmp ((cv C M).2 230 0 - 23 * (nI cu).toInt64) 0) from h2), cvm_l (by omega), cvm_l (by omega)]
      rfl
  · rw [if_neg h, if_neg (show ¬ rnM (cv C M) from h)]
theorem mput_cv {c d : Nat} {C M : fw_S} {kd tm idl : Int32} : mputS 0 c d (cv C M) kd tm idl = cv C (mputS 0 c d M kd tm idl) := by
  unfold mputS
  rw [cvm_i (by omega), cvm_i (by omega), cvm_i (by omega), cvm_i (by omega), cvm_i (by omega), cvm_i (by omega), cvm_l (by omega), cvm_i (by omega), cvm_i (by omega)]
  rfl
theorem mRd_cv {τ : Nat} {C M : fw_S} : mRd τ (cv C M) = cv C (mRd τ M) := by
  unfold mRd
  by_cases h : τ % 60 = 0 ∧ rnM M ∧ ¬ (22 : Int32) ≤ M.1 221 0
  · rw [if_pos h, if_pos (show τ % 60 = 0 ∧ rnM (cv C M) ∧ ¬ (22 : Int32) ≤ (cv C M).1 221 0 from h)]
    exact mput_cv
  · rw [if_neg h, if_neg (show ¬ (τ % 60 = 0 ∧ rnM (cv C M) ∧ ¬ (22 : Int32) ≤ (cv C M).1 221 0) from h)]
theorem mSd_cv {τ : Nat} {C M : fw_S} : mSd τ (cv C M) = cv C (mSd τ M) := by
  unfold mSd
  by_cases h : wtM M ∧ (M.1 223 0 < 0 ∨ ¬ nI τ - M.1 223 0 < 20)
  · rw [if_pos h, if_pos (show wtM (cv C M) ∧ ((cv C M).1 223 0 < 0 ∨ ¬ nI τ - (cv C M).1 223 0 < 20) from h), cvm_i (by omega), cvm_i (by omega)]
  · rw [if_neg h, if_neg (show ¬ (wtM (cv C M) ∧ ((cv C M).1 223 0 < 0 ∨ ¬ nI τ - (cv C M).1 223 0 < 20)) from h)]
theorem mStep_cv {cu τ : Nat} {C M : fw_S} : mStep cu τ (cv C M) = cv C (mStep cu τ M) := by
  unfold mStep
  rw [mCh_cv, mRd_cv, mSd_cv]
theorem mIter_cv {cu t : Nat} {C M : fw_S} : ∀ i, mIter cu t i (cv C M) = cv C (mIter cu t i M) := by
  intro i
  induction i with
  | zero => rfl
  | succ i ih => rw [mIter, ih, mStep_cv, mIter]
theorem cStep_cv {cu m t : Nat} {C M : fw_S} : cStep cu m t (cv C M) = cv (cStep cu m t C) M := by
  unfold cStep
  rw [cCh_cv, cRd_cv, cSd_cv]
