/-! the block as it is made: S0, the first state -/
def S0i (o k : Nat) : Int32 :=
  if (layU o).1 = 2 then (if k = 3 ∨ k = 4 then 1 else if k = 7 then -1 else 0)
  else if (layU o).1 = 3 then (if k = 3 then 1 else 0)
  else if (layU o).1 = 4 then (if k = 2 then 1 else if k = 4 then -1 else 0)
  else if (layU o).1 = 1 then (if k = 1 then 480 else 0)
  else if (layU o).1 < 100 then 0
  else if o = 7 ∨ o = 211 then (if k < 4 then -1 else 0)
  else if o = 210 then (if k < 2 then 480 else 0)
  else if o = 215 ∨ o = 216 ∨ o = 222 then (if k < 6 then 1 else 0)
  else if o = 223 then (if k < 6 then -1 else 0)
  else 0
def S0 : fw_S := (S0i, fun _ _ => 0)
def ini (b : Nat) : fw_V := fw_v TK layU b S0
/-- the cells from lo up to hi hold the first values -/
def IB (b : Nat) (V : fw_V) (lo hi : Nat) : Prop := ∀ x, lo ≤ x → x < hi → ∀ k, k < slc (layU x) → V x k = ini b x k
theorem IB.app {b : Nat} {V : fw_V} {a c d : Nat} (h1 : IB b V a c) (h2 : IB b V c d) : IB b V a d := by
  intro x hx hd k hk
  by_cases e : x < c
  · exact h1 x hx e k hk
  · exact h2 x (by omega) hd k hk
theorem IB.kept {b : Nat} {V V' : fw_V} {a c : Nat} (h : IB b V a c) (hV : ∀ x, a ≤ x → x < c → V' x = V x) : IB b V' a c := by
  intro x hx hc k hk
  rw [hV x hx hc]
  exact h x hx hc k hk
theorem IB.one {b : Nat} {V : fw_V} {a : Nat} (h : ∀ k, k < slc (layU a) → V a k = ini b a k) : IB b V a (a + 1) := by
  intro x hx hc k hk
  have : x = a := by omega
  subst this
  exact h k hk
theorem up_ne {V : fw_V} {o k x : Nat} {v : Value} (h : x ≠ o) : fw_up V o k v x = V x := by unfold fw_up; rw [if_neg h]
theorem up_eq {V : fw_V} {o k : Nat} {v : Value} : fw_up V o k v o = updV (V o) k v := by unfold fw_up; rw [if_pos rfl]
theorem nw_ne {V : fw_V} {n x : Nat} {f : Nat → Value} (h : x ≠ n) : fw_nw V n f x = V x := by unfold fw_nw; rw [if_neg h]
theorem nw_eq {V : fw_V} {n : Nat} {f : Nat → Value} : fw_nw V n f n = f := by unfold fw_nw; rw [if_pos rfl]
theorem ini_at {b o kd len k : Nat} (h : layU o = (kd, len)) : ini b o k = fw_val (TK kd k) b o k S0 := by unfold ini fw_v; rw [h]
/-! the constructors without arrays -/
theorem vs_Msg {b n : Nat} {V : fw_V} {o : Nat} {post : Nat → fw_V → Prop} (hl : layU o = (5, 0)) (h : ∀ V' : fw_V, (∀ x, x ≠ o → V' x = V x) → IB b V' o (o + 1) → post n V') : wv_Msg_init b n V o post := by
  unfold wv_Msg_init
  refine ⟨rfl, ?_⟩
  intro V1 e1 V2 e2 V3 e3 V4 e4 V5 e5 V6 e6
  refine ⟨rfl, h V6 (fun x hx => ?_) (IB.one fun k hk => ?_)⟩
  · rw [e6, up_ne hx, e5, up_ne hx, e4, up_ne hx, e3, up_ne hx, e2, up_ne hx, e1, up_ne hx]
  · rw [hl] at hk
    have hk : k < 6 := hk
    rw [ini_at hl, e6, up_eq, e5, up_eq, e4, up_eq, e3, up_eq, e2, up_eq, e1, up_eq]
    have hs : ∀ j, S0i o j = 0 := fun j => by simp [S0i, hl]
    match k, hk with
    | 0, _ => simp [updV, TK, TKl, fw_val, S0, hs]
    | 1, _ => simp [updV, TK, TKl, fw_val, S0, hs]
    | 2, _ => simp [updV, TK, TKl, fw_val, S0, hs]
    | 3, _ => simp [updV, TK, TKl, fw_val, S0, hs]
    | 4, _ => simp [updV, TK, TKl, fw_val, S0, hs]
    | 5, _ => simp [updV, TK, TKl, fw_val, S0, hs]
theorem vs_Car {b n : Nat} {V : fw_V} {o : Nat} {post : Nat → fw_V → Prop} (hl : layU o = (3, 0)) (h : ∀ V' : fw_V, (∀ x, x ≠ o → V' x = V x) → IB b V' o (o + 1) → post n V') : wv_Car_init b n V o post := by
  unfold wv_Car_init
  refine ⟨rfl, ?_⟩
  intro V1 e1 V2 e2 V3 e3 V4 e4 V5 e5 V6 e6
  refine ⟨rfl, h V6 (fun x hx => ?_) (IB.one fun k hk => ?_)⟩
  · rw [e6, up_ne hx, e5, up_ne hx, e4, up_ne hx, e3, up_ne hx, e2, up_ne hx, e1, up_ne hx]
  · rw [hl] at hk
    have hk : k < 6 := hk
    rw [ini_at hl, e6, up_eq, e5, up_eq, e4, up_eq, e3, up_eq, e2, up_eq, e1, up_eq]
    match k, hk with
    | 0, _ => simp [updV, TK, TKl, fw_val, S0, S0i, hl]
    | 1, _ => simp [updV, TK, TKl, fw_val, S0, S0i, hl]
    | 2, _ => simp [updV, TK, TKl, fw_val, S0, S0i, hl]
    | 3, _ => simp [updV, TK, TKl, fw_val, S0, S0i, hl]
    | 4, _ => simp [updV, TK, TKl, fw_val, S0, S0i, hl]
    | 5, _ => simp [updV, TK, TKl, fw_val, S0, S0i, hl]
theorem vs_Bill {b n : Nat} {V : fw_V} {o : Nat} {post : Nat → fw_V → Prop} (hl : layU o = (8, 0)) (h : ∀ V' : fw_V, (∀ x, x ≠ o → V' x = V x) → IB b V' o (o + 1) → post n V') : wv_Bill_init b n V o post := by
  unfold wv_Bill_init
  refine ⟨rfl, ?_⟩
  intro V1 e1 V2 e2 V3 e3 V4 e4 V5 e5 V6 e6 V7 e7
  refine ⟨rfl, h V7 (fun x hx => ?_) (IB.one fun k hk => ?_)⟩
  · rw [e7, up_ne hx, e6, up_ne hx, e5, up_ne hx, e4, up_ne hx, e3, up_ne hx, e2, up_ne hx, e1, up_ne hx]
  · rw [hl] at hk
    have hk : k < 7 := hk
    rw [ini_at hl, e7, up_eq, e6, up_eq, e5, up_eq, e4, up_eq, e3, up_eq, e2, up_eq, e1, up_eq]
    match k, hk with
    | 0, _ => simp [updV, TK, TKl, fw_val, S0, S0i, hl]
    | 1, _ => simp [updV, TK, TKl, fw_val, S0, S0i, hl]
    | 2, _ => simp [updV, TK, TKl, fw_val, S0, S0i, hl]
    | 3, _ => simp [updV, TK, TKl, fw_val, S0, S0i, hl]
    | 4, _ => simp [updV, TK, TKl, fw_val, S0, S0i, hl]
    | 5, _ => simp [updV, TK, TKl, fw_val, S0, S0i, hl]
    | 6, _ => simp [updV, TK, TKl, fw_val, S0, S0i, hl]
theorem ini_z {b x len k : Nat} (h : layU x = (100, len)) (h0 : S0i x k = 0) : ini b x k = .int 0 := by
  rw [ini_at h, tka_100]
  simp [fw_val, S0, h0]
theorem ini_l {b x len k : Nat} (h : layU x = (101, len)) : ini b x k = .long 0 := by
  rw [ini_at h, tka_101]
  simp [fw_val, S0]
theorem ini_i {b x len k : Nat} (h : layU x = (100, len)) : ini b x k = .int (S0i x k) := by
  rw [ini_at h, tka_100]
  simp [fw_val, S0]
theorem Cards0 : ∀ o, o < 245 → layU o = (6, 0) → ∀ k, k < 16 → (S0i (o + 1) k = 0 ∧ S0i (o + 2) k = 0) := by decide +kernel
theorem vs_Cards {b o : Nat} (ho : o < 245 ∧ layU o = (6, 0)) {V : fw_V} {post : Nat → fw_V → Prop} (h : ∀ V' : fw_V, (∀ x, x < o → V' x = V x) → IB b V' o (o + 3) → post (o + 3) V') : wv_Cards_init b (o + 1) V o post := by
  have h1 := lf_6_0 ho
  have h2 := lf_6_1 ho
  have z := Cards0 o ho.1 ho.2
  unfold wv_Cards_init
  refine ⟨?_, by omega, h1.2, ?_⟩
  · rw [show o + 1 + 2 = o + 2 + 1 by omega, SL_succ, show o + 2 = o + 1 + 1 by omega, SL_succ, h1.2, show o + 1 + 1 = o + 2 by omega, h2.2]
    rfl
  intro n3 e3 V4 e4 V5 e5
  have e3 : n3 = o + 2 := e3
  subst e3
  refine ⟨by omega, h2.2, ?_⟩
  intro n8 e8 V9 e9 V10 e10
  have e8 : n8 = o + 3 := e8
  subst e8
  refine ⟨by omega, h V10 (fun x hx => ?_) ?_⟩
  · rw [e10, up_ne (by omega), e9, nw_ne (by omega), e5, up_ne (by omega), e4, nw_ne (by omega)]
  · refine IB.app (c := o + 1) (IB.one fun k hk => ?_) (IB.app (c := o + 2) (IB.one fun k hk => ?_) (IB.one fun k hk => ?_))
    · rw [ho.2] at hk
      have hk : k < 2 := hk
      rw [ini_at ho.2, e10, up_eq, e9, nw_ne (by omega), e5, up_eq]
      match k, hk with
      | 0, _ => simp [updV, TK, TKl, fw_val]
      | 1, _ => simp [updV, TK, TKl, fw_val]
    · rw [h1.2] at hk
      rw [ini_z h1.2 (z k hk).1, e10, up_ne (by omega), e9, nw_ne (by omega), e5, up_ne (by omega), e4, nw_eq]
      rfl
    · rw [h2.2] at hk
      rw [ini_z h2.2 (z k hk).2, e10, up_ne (by omega), e9, nw_eq]
      rfl
/-! the queue: a loop over its rows -/
theorem vq_loop {b o : Nat} (ho : o < 245 ∧ layU o = (4, 0)) {V0 : fw_V} {post : Nat → fw_V → Prop} (h : ∀ V' : fw_V, (∀ x, x < o → V' x = V0 x) → IB b V' o (o + 26) → post (o + 26) V') :
    ∀ r i : Nat, i + r = 24 → ∀ V : fw_V, (∀ x, x < o → V x = V0 x) → IB b V o (o + 1) → (∀ j, j < i → V (o + 1) j = ini b (o + 1) j) → IB b V (o + 2) (o + 2 + i) → wv_Queue_init_35 b (o + 1) o post (r + 1) (o + 2 + i) V (nI i) := by
  have h1 := lf_4_0 ho
  intro r
  induction r with
  | zero =>
    intro i hi V hV hO hA hB
    have hi : i = 24 := by omega
    subst hi
    unfold wv_Queue_init_35
    refine ⟨fun _ => ⟨by omega, h V hV (IB.app (c := o + 1) hO (IB.app (c := o + 2) (IB.one fun k hk => ?_) hB))⟩, fun hn => absurd (by decide) hn⟩
    rw [h1.2] at hk
    exact hA k hk
  | succ r ih =>
    intro i hi V hV hO hA hB
    have hm := le_105 h1 (j := i) (by omega)
    have hm2 : layU (o + 2 + i) = (5, 0) := by
      have := hm.2
      rw [show o + 1 + (1 + 1 * i) = o + 2 + i by omega] at this
      exact this
    unfold wv_Queue_init_35
    refine ⟨fun hn => absurd hn (nI_ge (b := 24) (by omega) (by omega)), fun _ => ?_⟩
    refine ⟨?_, by omega, h1.2, by omega, hm2, ?_⟩
    · have := hO o (by omega) (by omega) 0 (by rw [ho.2]; decide)
      rw [this, ini_at ho.2]
      simp [TK, TKl, fw_val]
    intro n10 e10 V11 e11
    refine ⟨by omega, rfl, vs_Msg hm2 (fun V17 k17 b17 => ?_)⟩
    intro _
    refine ⟨vp_in_nI (by omega) (by omega), ?_⟩
    intro V19 e19 v20 e20
    have e20 : v20 = nI (i + 1) := by rw [e20, nI_succ]
    subst e20
    have en : n10 = o + 2 + (i + 1) := by omega
    subst en
    have ht : (nI i).toNatClampNeg = i := nI_clamp (by omega)
    rw [ht] at e19
    have a1 : ∀ x, x ≠ o + 1 → x ≠ o + 2 + i → V19 x = V x := fun x q1 q2 => by rw [e19, up_ne q1, k17 x q2, e11, nw_ne q2]
    have a2 : V19 (o + 1) = updV (V (o + 1)) i (.ref (b + (o + 2 + i))) := by rw [e19, up_eq, k17 (o + 1) (by omega), e11, nw_ne (by omega)]
    have a3 : V19 (o + 2 + i) = V17 (o + 2 + i) := by rw [e19, up_ne (by omega)]
    refine ih (i + 1) (by omega) V19 (fun x hx => by rw [a1 x (by omega) (by omega)]; exact hV x hx) (hO.kept (fun x q1 q2 => a1 x (by omega) (by omega))) (fun j hj => ?_) (IB.app (c := o + 2 + i) (hB.kept (fun x q1 q2 => a1 x (by omega) (by omega))) (b17.kept (fun x q1 q2 => ?_)))
    · rw [a2]
      by_cases e : j = i
      · subst e
        rw [ini_at h1.2, tka_105]
        simp [updV, fw_val]
        omega
      · simp only [updV, if_neg e]
        exact hA j (by omega)
    · have : x = o + 2 + i := by omega
      subst this
      exact a3
theorem QueueSL : ∀ o, o < 245 → layU o = (4, 0) → SL (o + 1 + 25) = SL (o + 1) + 168 := by decide +kernel
theorem vs_Queue {b o : Nat} (ho : o < 245 ∧ layU o = (4, 0)) {V : fw_V} {post : Nat → fw_V → Prop} (h : ∀ V' : fw_V, (∀ x, x < o → V' x = V x) → IB b V' o (o + 26) → post (o + 26) V') : wv_Queue_init b (o + 1) V o post := by
  have h1 := lf_4_0 ho
  unfold wv_Queue_init
  refine ⟨QueueSL o ho.1 ho.2, by omega, h1.2, ?_⟩
  intro n3 e3 V4 e4 V5 e5 V6 e6 V7 e7 V8 e8 V9 e9
  have e3 : n3 = o + 2 + 0 := e3
  subst e3
  refine ⟨25, vq_loop ho h 24 0 (by omega) V9 (fun x hx => ?_) (IB.one fun k hk => ?_) (fun j hj => absurd hj (Nat.not_lt_zero j)) (fun x q1 q2 => by omega)⟩
  · rw [e9, up_ne (by omega), e8, up_ne (by omega), e7, up_ne (by omega), e6, up_ne (by omega), e5, up_ne (by omega), e4, nw_ne (by omega)]
  · rw [ho.2] at hk
    have hk : k < 5 := hk
    rw [ini_at ho.2, e9, up_eq, e8, up_eq, e7, up_eq, e6, up_eq, e5, up_eq]
    match k, hk with
    | 0, _ => simp [updV, TK, TKl, fw_val]
    | 1, _ => simp [updV, TK, TKl, fw_val, S0, S0i, ho.2]
    | 2, _ => simp [updV, TK, TKl, fw_val, S0, S0i, ho.2]
    | 3, _ => simp [updV, TK, TKl, fw_val, S0, S0i, ho.2]
    | 4, _ => simp [updV, TK, TKl, fw_val, S0, S0i, ho.2]
theorem PointSL : ∀ o, o < 245 → layU o = (2, 0) → (SL (o + 1 + 30) = SL (o + 1) + 213 ∧ SL (o + 3 + 25) = SL (o + 3) + 168 ∧ SL (o + 29 + 2) = SL (o + 29) + 32) := by decide +kernel
theorem vs_Point {b o : Nat} (ho : o < 245 ∧ layU o = (2, 0)) {V : fw_V} {post : Nat → fw_V → Prop} (h : ∀ V' : fw_V, (∀ x, x < o → V' x = V x) → IB b V' o (o + 31) → post (o + 31) V') : wv_Point_init b (o + 1) V o post := by
  have h1 := lf_2_0 ho
  have h2 := lf_2_1 ho
  have h3 := lf_2_2 ho
  have hs := PointSL o ho.1 ho.2
  unfold wv_Point_init
  refine ⟨hs.1, by omega, h1.2, ?_⟩
  intro n3 e3 V4 e4
  have e3 : n3 = o + 2 := e3
  subst e3
  refine ⟨by omega, rfl, vs_Car h1.2 (fun V10 k10 b10 => ?_)⟩
  intro _ V11 e11
  refine ⟨by omega, h2.2, ?_⟩
  intro n14 e14 V15 e15
  have e14 : n14 = o + 3 := e14
  subst e14
  refine ⟨by omega, hs.2.1, vs_Queue h2 (fun V21 k21 b21 => ?_)⟩
  intro _ V22 e22
  have h3' : layU (o + 2 + 26) = (6, 0) := h3.2
  refine ⟨by omega, h3', ?_⟩
  intro n25 e25 V26 e26
  have e25 : n25 = o + 29 := by omega
  subst e25
  refine ⟨by omega, hs.2.2, ?_⟩
  rw [show o + 2 + 26 = o + 28 by omega] at e26 ⊢
  refine vs_Cards (b := b) h3 (V := V26) (fun V32 k32 b32 => ?_)
  intro _ V33 e33 V34 e34 V35 e35 V36 e36 V37 e37 V38 e38 V39 e39 V40 e40 V41 e41 V42 e42
  have up : ∀ x, x ≠ o → V42 x = V32 x := fun x q => by rw [e42, up_ne q, e41, up_ne q, e40, up_ne q, e39, up_ne q, e38, up_ne q, e37, up_ne q, e36, up_ne q, e35, up_ne q, e34, up_ne q, e33, up_ne q]
  have c1 : ∀ x, x < o + 28 → x ≠ o → V32 x = V21 x := fun x q1 q2 => by rw [k32 x q1, e26, nw_ne (by omega), e22, up_ne q2]
  have c2 : ∀ x, x < o + 2 → x ≠ o → V21 x = V10 x := fun x q1 q2 => by rw [k21 x q1, e15, nw_ne (by omega), e11, up_ne q2]
  refine ⟨by omega, h V42 (fun x hx => ?_) ?_⟩
  · rw [up x (by omega), c1 x (by omega) (by omega), c2 x (by omega) (by omega), k10 x (by omega), e4, nw_ne (by omega)]
  · refine IB.app (c := o + 1) (IB.one fun k hk => ?_) (IB.app (c := o + 2) (b10.kept fun x q1 q2 => ?_) (IB.app (c := o + 28) (b21.kept fun x q1 q2 => ?_) (b32.kept fun x q1 q2 => up x (by omega))))
    · rw [ho.2] at hk
      have hk : k < 12 := hk
      have d1 : V32 o = updV (V21 o) 1 (.ref (b + (o + 2))) := by rw [k32 o (by omega), e26, nw_ne (by omega), e22, up_eq]
      have d2 : V21 o = updV (V10 o) 0 (.ref (b + (o + 1))) := by rw [k21 o (by omega), e15, nw_ne (by omega), e11, up_eq]
      rw [ini_at ho.2, e42, up_eq, e41, up_eq, e40, up_eq, e39, up_eq, e38, up_eq, e37, up_eq, e36, up_eq, e35, up_eq, e34, up_eq, e33, up_eq, d1, d2]
      match k, hk with
      | 0, _ => simp [updV, TK, TKl, fw_val]
      | 1, _ => simp [updV, TK, TKl, fw_val]
      | 2, _ => simp [updV, TK, TKl, fw_val]
      | 3, _ => simp [updV, TK, TKl, fw_val, S0, S0i, ho.2]
      | 4, _ => simp [updV, TK, TKl, fw_val, S0, S0i, ho.2]
      | 5, _ => simp [updV, TK, TKl, fw_val, S0]
      | 6, _ => simp [updV, TK, TKl, fw_val, S0, S0i, ho.2]
      | 7, _ => simp [updV, TK, TKl, fw_val, S0, S0i, ho.2]
      | 8, _ => simp [updV, TK, TKl, fw_val, S0, S0i, ho.2]
      | 9, _ => simp [updV, TK, TKl, fw_val, S0, S0i, ho.2]
      | 10, _ => simp [updV, TK, TKl, fw_val, S0, S0i, ho.2]
      | 11, _ => simp [updV, TK, TKl, fw_val, S0, S0i, ho.2]
    · rw [up x (by omega), c1 x (by omega) (by omega), c2 x (by omega) (by omega)]
    · rw [up x (by omega), c1 x (by omega) (by omega)]
