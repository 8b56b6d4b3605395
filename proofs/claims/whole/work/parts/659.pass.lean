/-! the currents depend only on what the three places say -/
theorem cuOf_congr {lim : Nat} {on on' ac ac' : Nat → Bool} {wn wn' gw gw' : Nat → Nat} {tn c : Nat} (h : ∀ c, c < 3 → on c = on' c ∧ ac c = ac' c ∧ wn c = wn' c ∧ (ac c = true → gw c = gw' c)) (hc : c < 3) : cuOf lim on ac wn gw tn c = cuOf lim on' ac' wn' gw' tn c := by
  have eL : cuLeft lim on = cuLeft lim on' := by
    unfold cuLeft cuOff
    rw [(h 0 (by omega)).1, (h 1 (by omega)).1, (h 2 (by omega)).1]
  have cd : ∀ c, c < 3 → (on c && ac c) = (on' c && ac' c) := fun c hc => by rw [(h c hc).1, (h c hc).2.1]
  have eU : ∀ k, cuUsed (cuLeft lim on' / 60) (fun c => on c && ac c) tn k = cuUsed (cuLeft lim on' / 60) (fun c => on' c && ac' c) tn k := by
    intro k
    induction k with
    | zero => rfl
    | succ k ih => rw [cuUsed, cuUsed, ih, cd _ (Nat.mod_lt _ (by omega))]
  have eC : ∀ c, c < 3 → cuCh (cuLeft lim on' / 60) (fun c => on c && ac c) tn c = cuCh (cuLeft lim on' / 60) (fun c => on' c && ac' c) tn c := fun c hc => by
    unfold cuCh
    rw [eU]
    show ((on c && ac c) && _) = ((on' c && ac' c) && _)
    rw [cd c hc]
  have ea : ∀ c, c < 3 → cuCh (cuLeft lim on' / 60) (fun c => on' c && ac' c) tn c = true → gw c = gw' c := fun c hc q => by
    unfold cuCh at q
    simp at q
    exact (h c hc).2.2.2 (by rw [(h c hc).2.1]; exact q.1.2)
  have eA : ∀ c, c < 3 → ∀ v, (if cuCh (cuLeft lim on' / 60) (fun c => on' c && ac' c) tn c then cuAt (wn c) (gw c) v else 0) = (if cuCh (cuLeft lim on' / 60) (fun c => on' c && ac' c) tn c then cuAt (wn' c) (gw' c) v else 0) := fun c hc v => by
    cases q : cuCh (cuLeft lim on' / 60) (fun c => on' c && ac' c) tn c
    · rfl
    · rw [if_pos rfl, if_pos rfl, (h c hc).2.2.1, ea c hc q]
  have eT : cuT (cuCh (cuLeft lim on' / 60) (fun c => on c && ac c) tn) wn gw = cuT (cuCh (cuLeft lim on' / 60) (fun c => on' c && ac' c) tn) wn' gw' := funext fun v => by
    unfold cuT
    rw [eC 0 (by omega), eC 1 (by omega), eC 2 (by omega), eA 0 (by omega), eA 1 (by omega), eA 2 (by omega)]
  unfold cuOf
  simp only [eL, eT]
  rw [eC c hc, (h c hc).1, (h c hc).2.1, (h c hc).2.2.1]
  cases q : cuCh (cuLeft lim on' / 60) (fun c => on' c && ac' c) tn c
  · rfl
  · rw [ea c hc q]
/-! the object's part respects cE -/
theorem cE.si {A B : fw_S} {o k : Nat} {v : Int32} (h : cE A B) : cE (fw_si A o k v) (fw_si B o k v) := by
  refine ⟨fun a j ha hn => ?_, h.2⟩
  rw [gi_i, gi_i]
  split
  · rfl
  · exact h.1 a j ha hn
theorem cE.sl {A B : fw_S} {o k : Nat} {v : Int64} (h : cE A B) : cE (fw_sl A o k v) (fw_sl B o k v) := by
  refine ⟨h.1, fun a j ha => ?_⟩
  rw [gl_l, gl_l]
  split
  · rfl
  · exact h.2 a j ha
theorem cE.ch {A B : fw_S} {cu m τ : Nat} (h : cE A B) : cE (cCh cu m τ A) (cCh cu m τ B) := by
  have e : rnC A ↔ rnC B := by
    unfold rnC
    rw [h.1 0 6 (by omega) (by omega), h.1 0 3 (by omega) (by omega)]
  unfold cCh
  by_cases hr : rnC A
  · rw [if_pos hr, if_pos (e.mp hr), h.2 0 5 (by omega)]
    have h' : cE (fw_sl A 0 5 (B.2 0 5 + (nI (23 * cu * m)).toInt64)) (fw_sl B 0 5 (B.2 0 5 + (nI (23 * cu * m)).toInt64)) := h.sl
    revert h'
    generalize fw_sl A 0 5 (B.2 0 5 + (nI (23 * cu * m)).toInt64) = A1
    generalize fw_sl B 0 5 (B.2 0 5 + (nI (23 * cu * m)).toInt64) = B1
    intro h'
    unfold cEat
    rw [h'.1 1 4 (by omega) (by omega)]
    by_cases q : B1.1 1 1 = 0 ∧ ¬ (0 : Int32) < B1.1 1 4 - nI (23 * cu * m)
    · rw [if_pos q, if_pos (by rw [h'.1 1 1 (by omega) (by omega)]; exact q)]
      exact h'.si.si.si.si
    · rw [if_neg q, if_neg (by rw [h'.1 1 1 (by omega) (by omega)]; exact q)]
      exact h'.si
  · rw [if_neg hr, if_neg (fun q => hr (e.mpr q))]
    exact h
theorem cE.rd {A B : fw_S} {τ : Nat} (h : cE A B) : cE (cRd τ A) (cRd τ B) := by
  have e : rnC A ↔ rnC B := by
    unfold rnC
    rw [h.1 0 6 (by omega) (by omega), h.1 0 3 (by omega) (by omega)]
  have e2 := h.1 2 3 (by omega) (by omega)
  unfold cRd
  by_cases q : τ % 60 = 0 ∧ rnC B ∧ ¬ (22 : Int32) ≤ B.1 2 3
  · rw [if_pos q, if_pos ⟨q.1, e.mpr q.2.1, by rw [e2]; exact q.2.2⟩, e2, h.1 2 1 (by omega) (by omega), h.2 0 5 (by omega)]
    unfold tellS
    rw [h.1 0 6 (by omega) (by omega), h.1 0 7 (by omega) (by omega), h.1 (0 + 2) 3 (by omega) (by omega), h.1 (0 + 2) 2 (by omega) (by omega)]
    exact h.si.si.si.si.si.si.si.si
  · rw [if_neg q, if_neg (fun x => q ⟨x.1, e.mp x.2.1, by rw [← e2]; exact x.2.2⟩)]
    exact h
theorem cE.sd {A B : fw_S} {τ : Nat} (h : cE A B) : cE (cSd τ A) (cSd τ B) := by
  have e : wtC A ↔ wtC B := by
    unfold wtC
    rw [h.1 0 3 (by omega) (by omega), h.1 0 4 (by omega) (by omega), h.1 2 3 (by omega) (by omega), h.1 0 9 (by omega) (by omega)]
  have e2 := h.1 2 4 (by omega) (by omega)
  unfold cSd
  by_cases q : wtC B ∧ (B.1 2 4 = -1 ∨ ¬ nI τ < B.1 2 4 + 20)
  · rw [if_pos q, if_pos ⟨e.mpr q.1, by rw [e2]; exact q.2⟩]
    exact h.si.si
  · rw [if_neg q, if_neg (fun x => q ⟨e.mp x.1, by rw [← e2]; exact x.2⟩)]
    exact h
theorem cE.step {A B : fw_S} {cu m t : Nat} (h : cE A B) : cE (cStep cu m t A) (cStep cu m t B) := h.ch.rd.sd
theorem cE.kc {A B : fw_S} {t m cu : Nat} (h : cE A B) (hK : KC B t m cu) : KC A t m cu := by
  unfold KC rnC wtC at hK ⊢
  rw [h.1 0 6 (by omega) (by omega), h.1 0 3 (by omega) (by omega), h.1 1 1 (by omega) (by omega), h.1 1 4 (by omega) (by omega), h.1 2 3 (by omega) (by omega), h.1 0 4 (by omega) (by omega), h.1 0 9 (by omega) (by omega), h.1 2 4 (by omega) (by omega)]
  exact hK
/-! two states as one: the object's cells of the first, the reference's of the second -/
def cj (C M : fw_S) : fw_S := (fun a k => if a < 209 then C.1 a k else M.1 a k, fun a k => if a < 209 then C.2 a k else M.2 a k)
theorem cj_i (C M : fw_S) (a k : Nat) : (cj C M).1 a k = if a < 209 then C.1 a k else M.1 a k := rfl
theorem cj_l (C M : fw_S) (a k : Nat) : (cj C M).2 a k = if a < 209 then C.2 a k else M.2 a k := rfl
theorem vw_cj {p : Nat} {C M : fw_S} (hp : p < 6) : vw p (cj C M) = cv (vw p C) (vw p M) := by
  have := pO_lt hp
  refine Prod.ext (funext fun o => funext fun k => ?_) (funext fun o => funext fun k => ?_)
  · rw [cv_i]
    by_cases ho : o < 33
    · rw [if_pos ho]
      by_cases h1 : o < 31
      · rw [← vx_i h1, ← vx_i h1, cj_i, if_pos (by omega)]
      · rcases (show o = 31 ∨ o = 32 by omega) with rfl | rfl
        · rw [← vb_i, ← vb_i, cj_i, if_pos (by omega)]
        · show (if k = 0 then (cj C M).1 12 p else 0) = (if k = 0 then C.1 12 p else 0)
          rw [cj_i, if_pos (show 12 < 209 by omega)]
    · rw [if_neg ho]
      show (if o < 31 then _ else if o = 31 then _ else if o = 32 then _ else if o = 213 ∨ o = 214 then _ else if o = 225 then _ else if _ then _ else _) = (if o < 31 then _ else if o = 31 then _ else if o = 32 then _ else if o = 213 ∨ o = 214 then _ else if o = 225 then _ else if _ then _ else _)
      rw [if_neg (by omega), if_neg (by omega), if_neg (by omega), if_neg (show ¬ o < 31 by omega), if_neg (show ¬ o = 31 by omega), if_neg (show ¬ o = 32 by omega)]
      by_cases h3 : o = 213 ∨ o = 214
      · rw [if_pos h3, if_pos h3, cj_i, if_neg (show ¬ o < 209 by omega)]
      · rw [if_neg h3, if_neg h3]
        by_cases h4 : o = 225
        · rw [if_pos h4, if_pos h4, cj_i, if_neg (show ¬ 225 < 209 by omega)]
        · rw [if_neg h4, if_neg h4]
          by_cases h5 : 215 ≤ o ∧ o ≤ 240 ∧ o ≠ 226
          · rw [if_pos h5, if_pos h5, cj_i, if_neg (show ¬ o < 209 by omega)]
          · rw [if_neg h5, if_neg h5]
  · rw [cv_l]
    by_cases ho : o < 33
    · rw [if_pos ho]
      by_cases h1 : o < 31
      · rw [← vx_l h1, ← vx_l h1, cj_l, if_pos (by omega)]
      · rcases (show o = 31 ∨ o = 32 by omega) with rfl | rfl
        · rw [← vb_l, ← vb_l, cj_l, if_pos (by omega)]
        · rfl
    · rw [if_neg ho]
      show (if o < 31 then _ else if o = 31 then _ else if o = 226 then _ else if _ then _ else _) = (if o < 31 then _ else if o = 31 then _ else if o = 226 then _ else if _ then _ else _)
      rw [if_neg (by omega), if_neg (by omega), if_neg (show ¬ o < 31 by omega), if_neg (show ¬ o = 31 by omega)]
      by_cases h4 : o = 226
      · rw [if_pos h4, if_pos h4, cj_l, if_neg (show ¬ 226 < 209 by omega)]
      · rw [if_neg h4, if_neg h4]
        by_cases h5 : 215 ≤ o ∧ o ≤ 240 ∧ o ≠ 225
        · rw [if_pos h5, if_pos h5, cj_l, if_neg (show ¬ o < 209 by omega)]
        · rw [if_neg h5, if_neg h5]
/-! the object's stretch -/
def HS (S : fw_S) (t m : Nat) (lim : Nat → Nat) (S' : fw_S) : Prop :=
  (∀ a k, (∀ q, q < 6 → ¬ (pO q ≤ a ∧ a < pO q + 31)) → ¬ (a = 0 ∧ k = 2) → S'.1 a k = S.1 a k ∧ S'.2 a k = S.2 a k) ∧ S'.1 0 2 = nI (t + m) ∧ 1 ≤ m ∧
  ∀ p, p < 6 → KC (vw p S) t m (cuC S lim t p) ∧ cE (cStep (cuC S lim t p) m t (vw p S)) (vw p S')
theorem stretch_c {S : fw_S} {t n r : Nat} {lim : Nat → Nat} {post : fw_S → Prop} (hn : n ≤ 512) (hr1 : 1 ≤ r) (hr : r ≤ 86400) (ht : t + r ≤ 86400 * n) (h : CI S t n lim)
    (fin : ∀ S' m, m ≤ r → HS S t m lim S' → CI S' (t + m) n lim → post S') : wp_Out_evenSeconds S 0 (nI r) (fun S3 r4 => wp_Out_goOn S3 0 r4 post) := by
  refine even_ex hn hr1 hr ht h (fun X m hX htk m1 m2 hK => ?_)
  have n0 : ∀ k, ¬ (k = 10 ∨ k = 11) → ∀ a, X.1 a k = S.1 a k := fun k hk a => hX.1 a k (fun ⟨q, _, _, x⟩ => hk x)
  refine goOn_ex (cu := cuC S lim t) (by omega) ((n0 2 (by omega) 0).trans h.1) htk (fun p hp => ?_) (fun Z z1 z2 z3 => ?_)
  · obtain ⟨A, hA, hE⟩ := h.2.2 p hp
    obtain ⟨w, s, ls, z, h0, u, g, hm, hc, hq, -⟩ := hA
    refine ⟨h0, z, hq.2.1.2, hq.1.2.2.1, ?_, ?_⟩
    · rw [n0 1 (by omega), vx_i (by omega), ← hE.1 2 1 (by omega) (by omega)]
      exact hq.2.1.1
    · rw [n0 3 (by omega), vx_i (by omega), ← hE.1 2 3 (by omega) (by omega)]
      exact hq.1.1
  · have eX : ∀ p, p < 6 → cE (vw p S) (vw p X) := fun p hp => ⟨fun o k _ hn => ((hX.vw hp).1 o k hn).symm, fun o k _ => by rw [(hX.vw hp).2]⟩
    have hKS : ∀ p, p < 6 → KC (vw p S) t m (cuC S lim t p) := fun p hp => (eX p hp).kc (hK p hp)
    have hcs : ∀ p, p < 6 → cE (cStep (cuC S lim t p) m t (vw p S)) (vw p Z) := fun p hp => by
      rw [z3 p hp]
      exact (eX p hp).step
    have out : ∀ a k, (∀ q, q < 6 → ¬ (pO q ≤ a ∧ a < pO q + 31)) → ¬ (a = 0 ∧ k = 2) → Z.1 a k = S.1 a k ∧ Z.2 a k = S.2 a k := fun a k hn h2 => by
      have := z1 a k hn h2
      rw [this.1, this.2, hX.2, hX.1 a k (fun ⟨q, hq, e, _⟩ => hn q hq (by omega))]
      exact ⟨rfl, rfl⟩
    refine fin Z m m2 ⟨out, z2, m1, fun p hp => ⟨hKS p hp, hcs p hp⟩⟩ ⟨z2, fun j hj => ?_, fun p hp => ?_⟩
    · rw [(out (19 + 95 * j) 1 (fun q hq => by have := pO_lt hq; omega) (by omega)).1]
      exact h.2.1 j hj
    · obtain ⟨A, hA, hE⟩ := h.2.2 p hp
      refine ⟨_, hA.step hn (by omega) (hE.kc (hKS p hp)), ?_⟩
      have h1 : cE (cStep (cuC S lim t p) m t A) (vw p Z) := by
        have h2 := hE.step (cu := cuC S lim t p) (m := m) (t := t)
        have h3 := hcs p hp
        exact ⟨fun o k ho hn => (h2.1 o k ho hn).trans (h3.1 o k ho hn), fun o k ho => (h2.2 o k ho).trans (h3.2 o k ho)⟩
      exact ⟨fun o k ho hn => by rw [cv_i, if_pos ho]; exact h1.1 o k ho hn, fun o k ho => by rw [cv_l, if_pos ho]; exact h1.2 o k ho⟩
