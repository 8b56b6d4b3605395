/-! the tariff at 6, the sites at 19 and 114, the office at 2, the object at 0 -/
theorem ini_mn : ∀ j, j < 4 → S0i 7 j = -1 ∧ S0i 8 j = 0 := by decide
theorem vt_loop {b : Nat} {V0 : fw_V} {post : Nat → fw_V → Prop} (h : ∀ V' : fw_V, (∀ x, x < 6 → V' x = V0 x) → IB b V' 6 9 → post 9 V') :
    ∀ r i : Nat, i + r = 4 → ∀ V : fw_V, (∀ x, x < 6 → V x = V0 x) → (∀ k, k < 4 → V 6 k = ini b 6 k) → (∀ j, j < i → V 7 j = .int (-1)) → (∀ j, j < 4 → V 8 j = .int 0) → wv_Tariff_init_30 b 7 6 post (r + 1) 9 V (nI i) := by
  intro r
  induction r with
  | zero =>
    intro i hi V hV h6 h7 h8
    have hi : i = 4 := by omega
    subst hi
    unfold wv_Tariff_init_30
    refine ⟨fun _ => ⟨rfl, h V hV ?_⟩, fun hn => absurd (by decide) hn⟩
    refine IB.app (c := 7) (IB.one fun k hk => h6 k hk) (IB.app (c := 8) (IB.one fun k hk => ?_) (IB.one fun k hk => ?_))
    · have hk : k < 4 := hk
      rw [h7 k hk, ini_i (x := 7) (len := 4) (by decide +kernel), (ini_mn k hk).1]
    · have hk : k < 4 := hk
      rw [h8 k hk, ini_i (x := 8) (len := 4) (by decide +kernel), (ini_mn k hk).2]
  | succ r ih =>
    intro i hi V hV h6 h7 h8
    unfold wv_Tariff_init_30
    refine ⟨fun hn => absurd hn (nI_ge (b := 4) (by omega) (by omega)), fun _ => ?_⟩
    refine ⟨?_, by omega, by decide +kernel, vp_in_nI (by omega) (by omega), ?_⟩
    · rw [h6 0 (by omega), ini_at (o := 6) (kd := 7) (len := 0) (by decide +kernel)]
      simp [TK, TKl, fw_val]
    intro V9 e9 v10 e10
    have e10 : v10 = nI (i + 1) := by rw [e10, nI_succ]
    subst e10
    have ht : (nI i).toNatClampNeg = i := nI_clamp (by omega)
    rw [ht] at e9
    have a1 : ∀ x, x ≠ 7 → V9 x = V x := fun x q => by rw [e9]; exact up_ne q
    have a2 : V9 7 = updV (V 7) i (.int (-1)) := by rw [e9]; exact up_eq
    refine ih (i + 1) (by omega) V9 (fun x hx => by rw [a1 x (by omega)]; exact hV x hx) (fun k hk => by rw [a1 6 (by omega)]; exact h6 k hk) (fun j hj => ?_) (fun j hj => by rw [a1 8 (by omega)]; exact h8 j hj)
    rw [a2]
    by_cases e : j = i
    · subst e; simp [updV]
    · simp only [updV, if_neg e]; exact h7 j (by omega)
theorem vs_Tariff {b : Nat} {V : fw_V} {post : Nat → fw_V → Prop} (h : ∀ V' : fw_V, (∀ x, x < 6 → V' x = V x) → IB b V' 6 9 → post 9 V') : wv_Tariff_init b 7 V 6 post := by
  unfold wv_Tariff_init
  refine ⟨by decide +kernel, by omega, by decide +kernel, ?_⟩
  intro n3 e3 V4 e4 V5 e5
  subst e3
  refine ⟨by omega, by decide +kernel, ?_⟩
  intro n8 e8 V9 e9 V10 e10 V11 e11 V12 e12
  subst e8
  refine ⟨5, vt_loop h 4 0 rfl V12 (fun x hx => ?_) (fun k hk => ?_) (fun j hj => absurd hj (Nat.not_lt_zero j)) (fun j hj => ?_)⟩
  · rw [e12, up_ne (by omega), e11, up_ne (by omega), e10, up_ne (by omega), e9, nw_ne (by omega), e5, up_ne (by omega), e4, nw_ne (by omega)]
  · rw [ini_at (o := 6) (kd := 7) (len := 0) (by decide +kernel), e12, up_eq, e11, up_eq, e10, up_eq, e9, nw_ne (by omega), e5, up_eq]
    match k, hk with
    | 0, _ => simp [updV, TK, TKl, fw_val]
    | 1, _ => simp [updV, TK, TKl, fw_val]
    | 2, _ => rfl
    | 3, _ => rfl
  · rw [e12, up_ne (by omega), e11, up_ne (by omega), e10, up_ne (by omega), e9, nw_eq]
    rfl
theorem SiteSL : ∀ o, o < 245 → layU o = (1, 0) → (SL (o + 1 + 94) = SL (o + 1) + 678) ∧ ∀ i, i < 3 → SL (o + 2 + 31 * i + 1 + 30) = SL (o + 2 + 31 * i + 1) + 213 := by decide +kernel
theorem vi_loop {b o : Nat} (ho : o < 245 ∧ layU o = (1, 0)) {V0 : fw_V} {post : Nat → fw_V → Prop} (h : ∀ V' : fw_V, (∀ x, x < o → V' x = V0 x) → IB b V' o (o + 95) → post (o + 95) V') :
    ∀ r i : Nat, i + r = 3 → ∀ V : fw_V, (∀ x, x < o → V x = V0 x) → IB b V o (o + 1) → (∀ j, j < i → V (o + 1) j = ini b (o + 1) j) → IB b V (o + 2) (o + 2 + 31 * i) → wv_Site_init_21 b (o + 1) o post (r + 1) (o + 2 + 31 * i) V (nI i) := by
  have h1 := lf_1_0 ho
  have hs := SiteSL o ho.1 ho.2
  intro r
  induction r with
  | zero =>
    intro i hi V hV hO hA hB
    have hi : i = 3 := by omega
    subst hi
    unfold wv_Site_init_21
    refine ⟨fun _ => ⟨by omega, h V hV (IB.app (c := o + 1) hO (IB.app (c := o + 2) (IB.one fun k hk => ?_) hB))⟩, fun hn => absurd (by decide) hn⟩
    rw [h1.2] at hk
    exact hA k hk
  | succ r ih =>
    intro i hi V hV hO hA hB
    have hm := le_104 h1 (j := i) (by omega)
    rw [show o + 1 + (1 + 31 * i) = o + 2 + 31 * i by omega] at hm
    unfold wv_Site_init_21
    refine ⟨fun hn => absurd hn (nI_ge (b := 3) (by omega) (by omega)), fun _ => ?_⟩
    refine ⟨?_, by omega, h1.2, by omega, hm.2, ?_⟩
    · have := hO o (by omega) (by omega) 0 (by rw [ho.2]; decide)
      rw [this, ini_at ho.2]
      simp [TK, TKl, fw_val]
    intro n10 e10 V11 e11
    subst e10
    refine ⟨by omega, hs.2 i (by omega), vs_Point hm (fun V17 k17 b17 => ?_)⟩
    intro _
    refine ⟨vp_in_nI (by omega) (by omega), ?_⟩
    intro V19 e19 v20 e20
    have e20 : v20 = nI (i + 1) := by rw [e20, nI_succ]
    subst e20
    have ht : (nI i).toNatClampNeg = i := nI_clamp (by omega)
    rw [ht] at e19
    rw [show o + 2 + 31 * i + 31 = o + 2 + 31 * (i + 1) by omega] at *
    have a1 : ∀ x, x ≠ o + 1 → x < o + 2 + 31 * i → V19 x = V x := fun x q1 q2 => by rw [e19, up_ne q1, k17 x q2, e11, nw_ne (by omega)]
    have a2 : V19 (o + 1) = updV (V (o + 1)) i (.ref (b + (o + 2 + 31 * i))) := by rw [e19, up_eq, k17 (o + 1) (by omega), e11, nw_ne (by omega)]
    refine ih (i + 1) (by omega) V19 (fun x hx => by rw [a1 x (by omega) (by omega)]; exact hV x hx) (hO.kept (fun x q1 q2 => a1 x (by omega) (by omega))) (fun j hj => ?_) (IB.app (c := o + 2 + 31 * i) (hB.kept (fun x q1 q2 => a1 x (by omega) (by omega))) (b17.kept (fun x q1 q2 => by rw [e19, up_ne (by omega)])))
    rw [a2]
    by_cases e : j = i
    · subst e
      rw [ini_at h1.2, tka_104]
      simp [updV, fw_val]
      omega
    · simp only [updV, if_neg e]
      exact hA j (by omega)
theorem vs_Site {b o : Nat} (ho : o < 245 ∧ layU o = (1, 0)) {V : fw_V} {post : Nat → fw_V → Prop} (h : ∀ V' : fw_V, (∀ x, x < o → V' x = V x) → IB b V' o (o + 95) → post (o + 95) V') : wv_Site_init b (o + 1) V o post := by
  have h1 := lf_1_0 ho
  unfold wv_Site_init
  refine ⟨(SiteSL o ho.1 ho.2).1, by omega, h1.2, ?_⟩
  intro n3 e3 V4 e4 V5 e5 V6 e6
  have e3 : n3 = o + 2 + 31 * 0 := e3
  subst e3
  refine ⟨4, vi_loop ho h 3 0 (by omega) V6 (fun x hx => ?_) (IB.one fun k hk => ?_) (fun j hj => absurd hj (Nat.not_lt_zero j)) (fun x q1 q2 => by omega)⟩
  · rw [e6, up_ne (by omega), e5, up_ne (by omega), e4, nw_ne (by omega)]
  · rw [ho.2] at hk
    have hk : k < 2 := hk
    rw [ini_at ho.2, e6, up_eq, e5, up_eq]
    match k, hk with
    | 0, _ => simp [updV, TK, TKl, fw_val]
    | 1, _ => simp [updV, TK, TKl, fw_val, S0, S0i, ho.2]
theorem vo_loop {b : Nat} {V0 : fw_V} {post : Nat → fw_V → Prop} (h : ∀ V' : fw_V, (∀ x, x < 2 → V' x = V0 x) → IB b V' 2 19 → post 19 V') :
    ∀ r i : Nat, i + r = 6 → ∀ V : fw_V, (∀ x, x < 2 → V x = V0 x) → IB b V 2 9 → (∀ j, j < i → V 9 j = ini b 9 j) → IB b V 10 (13 + i) → wv_Office_init_67 b 3 2 post (r + 1) (13 + i) V (nI i) := by
  intro r
  induction r with
  | zero =>
    intro i hi V hV hO hA hB
    have hi : i = 6 := by omega
    subst hi
    unfold wv_Office_init_67
    refine ⟨fun _ => ⟨by omega, h V hV (IB.app (c := 9) hO (IB.app (c := 10) (IB.one fun k hk => hA k hk) hB))⟩, fun hn => absurd (by decide) hn⟩
  | succ r ih =>
    intro i hi V hV hO hA hB
    have hm := le_106 (o := 9) (by decide +kernel) (j := i) (by omega)
    rw [show 9 + (4 + 1 * i) = 13 + i by omega] at hm
    unfold wv_Office_init_67
    refine ⟨fun hn => absurd hn (nI_ge (b := 6) (by omega) (by omega)), fun _ => ?_⟩
    refine ⟨?_, by omega, by decide +kernel, by omega, hm.2, ?_⟩
    · rw [hO 2 (by omega) (by omega) 2 (by decide), ini_at (o := 2) (kd := 9) (len := 0) (by decide +kernel)]
      simp [TK, TKl, fw_val]
    intro n10 e10 V11 e11
    subst e10
    refine ⟨by omega, rfl, vs_Bill hm.2 (fun V17 k17 b17 => ?_)⟩
    intro _
    refine ⟨vp_in_nI (by omega) (by omega), ?_⟩
    intro V19 e19 v20 e20
    have e20 : v20 = nI (i + 1) := by rw [e20, nI_succ]
    subst e20
    have ht : (nI i).toNatClampNeg = i := nI_clamp (by omega)
    rw [ht] at e19
    have e19 : V19 = fw_up V17 9 i (.ref (b + (13 + i))) := e19
    have a1 : ∀ x, x ≠ 9 → x ≠ 13 + i → V19 x = V x := fun x q1 q2 => by rw [e19, up_ne q1, k17 x q2, e11, nw_ne q2]
    have a2 : V19 9 = updV (V 9) i (.ref (b + (13 + i))) := by rw [e19, up_eq, k17 9 (by omega), e11, nw_ne (by omega)]
    refine ih (i + 1) (by omega) V19 (fun x hx => by rw [a1 x (by omega) (by omega)]; exact hV x hx) (hO.kept (fun x q1 q2 => a1 x (by omega) (by omega))) (fun j hj => ?_) (IB.app (c := 13 + i) (hB.kept (fun x q1 q2 => a1 x (by omega) (by omega))) (b17.kept (fun x q1 q2 => by rw [e19, up_ne (by omega)])))
    rw [a2]
    by_cases e : j = i
    · subst e
      rw [ini_at (o := 9) (kd := 106) (len := 6) (by decide +kernel), tka_106]
      simp [updV, fw_val]
      omega
    · simp only [updV, if_neg e]
      exact hA j (by omega)
theorem Off0 : (∀ j, j < 640 → S0i 10 j = 0) ∧ ∀ j, j < 6 → S0i 12 j = 0 := by decide +kernel
theorem vs_Office {b : Nat} {V : fw_V} {post : Nat → fw_V → Prop} (h : ∀ V' : fw_V, (∀ x, x < 2 → V' x = V x) → IB b V' 2 19 → post 19 V') : wv_Office_init b 3 V 2 post := by
  unfold wv_Office_init
  refine ⟨by decide +kernel, by omega, by decide +kernel, ?_⟩
  intro n3 e3 V4 e4
  subst e3
  refine ⟨by omega, by decide +kernel, vs_Cards (o := 3) (by decide +kernel) (fun V10 k10 b10 => ?_)⟩
  intro _ V11 e11
  refine ⟨by omega, by decide +kernel, ?_⟩
  intro n14 e14 V15 e15
  subst e14
  refine ⟨by omega, by decide +kernel, vs_Tariff (V := V15) (fun V21 k21 b21 => ?_)⟩
  intro _ V22 e22
  refine ⟨by omega, by decide +kernel, ?_⟩
  intro n25 e25 V26 e26 V27 e27
  subst e25
  refine ⟨by omega, by decide +kernel, ?_⟩
  intro n30 e30 V31 e31 V32 e32
  subst e30
  refine ⟨by omega, by decide +kernel, ?_⟩
  intro n35 e35 V36 e36 V37 e37 V38 e38
  subst e35
  refine ⟨by omega, by decide +kernel, ?_⟩
  intro n41 e41 V42 e42 V43 e43
  subst e41
  have c1 : ∀ x, x ≠ 2 → x < 9 → V43 x = V21 x := fun x q1 q2 => by rw [e43, up_ne q1, e42, nw_ne (by omega), e38, up_ne q1, e37, up_ne q1, e36, nw_ne (by omega), e32, up_ne q1, e31, nw_ne (by omega), e27, up_ne q1, e26, nw_ne (by omega), e22, up_ne q1]
  have c2 : ∀ x, x ≠ 2 → x < 6 → V21 x = V10 x := fun x q1 q2 => by rw [k21 x q2, e15, nw_ne (by omega), e11, up_ne q1]
  have d1 : V21 2 = updV (V10 2) 0 (.ref (b + 3)) := by rw [k21 2 (by omega), e15, nw_ne (by omega), e11, up_eq]
  refine ⟨7, vo_loop h 6 0 rfl V43 (fun x hx => ?_) ?_ (fun j hj => absurd hj (Nat.not_lt_zero j)) ?_⟩
  · rw [c1 x (by omega) (by omega), c2 x (by omega) (by omega), k10 x (by omega), e4, nw_ne (by omega)]
  · refine IB.app (c := 3) (IB.one fun k hk => ?_) (IB.app (c := 6) (b10.kept fun x q1 q2 => ?_) (b21.kept fun x q1 q2 => ?_))
    · have hk : k < 7 := hk
      rw [ini_at (o := 2) (kd := 9) (len := 0) (by decide +kernel), e43, up_eq, e42, nw_ne (by omega), e38, up_eq, e37, up_eq, e36, nw_ne (by omega), e32, up_eq, e31, nw_ne (by omega), e27, up_eq, e26, nw_ne (by omega), e22, up_eq, d1]
      match k, hk with
      | 0, _ => simp [updV, TK, TKl, fw_val]
      | 1, _ => simp [updV, TK, TKl, fw_val]
      | 2, _ => simp [updV, TK, TKl, fw_val]
      | 3, _ => simp [updV, TK, TKl, fw_val]
      | 4, _ => simp [updV, TK, TKl, fw_val]
      | 5, _ => rfl
      | 6, _ => simp [updV, TK, TKl, fw_val]
    · rw [c1 x (by omega) (by omega), c2 x (by omega) (by omega)]
    · rw [c1 x (by omega) (by omega)]
  · refine IB.app (c := 11) (IB.one fun k hk => ?_) (IB.app (c := 12) (IB.one fun k hk => ?_) (IB.one fun k hk => ?_))
    · have hk : k < 640 := hk
      rw [ini_z (x := 10) (len := 640) (by decide +kernel) (Off0.1 k hk), e43, up_ne (by omega), e42, nw_ne (by omega), e38, up_ne (by omega), e37, up_ne (by omega), e36, nw_ne (by omega), e32, up_ne (by omega), e31, nw_eq]
      rfl
    · rw [ini_l (x := 11) (len := 16) (by decide +kernel), e43, up_ne (by omega), e42, nw_ne (by omega), e38, up_ne (by omega), e37, up_ne (by omega), e36, nw_eq]
      rfl
    · have hk : k < 6 := hk
      rw [ini_z (x := 12) (len := 6) (by decide +kernel) (Off0.2 k hk), e43, up_ne (by omega), e42, nw_eq]
      rfl
theorem vx_loop {b : Nat} {V0 : fw_V} {post : Nat → fw_V → Prop} (h : ∀ V' : fw_V, IB b V' 0 209 → post 209 V') :
    ∀ r i : Nat, i + r = 2 → ∀ V : fw_V, IB b V 0 1 → (∀ j, j < i → V 1 j = ini b 1 j) → IB b V 2 (19 + 95 * i) → wv_Out_init_30 b 1 0 post (r + 1) (19 + 95 * i) V (nI i) := by
  intro r
  induction r with
  | zero =>
    intro i hi V hO hA hB
    have hi : i = 2 := by omega
    subst hi
    unfold wv_Out_init_30
    refine ⟨fun _ => ⟨by omega, h V (IB.app (c := 1) hO (IB.app (c := 2) (IB.one fun k hk => hA k hk) hB))⟩, fun hn => absurd (by decide) hn⟩
  | succ r ih =>
    intro i hi V hO hA hB
    have hm := le_103 (o := 1) (by decide +kernel) (j := i) (by omega)
    rw [show 1 + (18 + 95 * i) = 19 + 95 * i by omega] at hm
    unfold wv_Out_init_30
    refine ⟨fun hn => absurd hn (nI_ge (b := 2) (by omega) (by omega)), fun _ => ?_⟩
    refine ⟨?_, by omega, by decide +kernel, by omega, hm.2, ?_⟩
    · rw [hO 0 (by omega) (by omega) 0 (by decide), ini_at (o := 0) (kd := 0) (len := 0) (by decide +kernel)]
      simp [TK, TKl, fw_val]
    intro n10 e10 V11 e11
    subst e10
    refine ⟨by omega, (SiteSL _ hm.1 hm.2).1, vs_Site hm (fun V17 k17 b17 => ?_)⟩
    intro _
    refine ⟨vp_in_nI (by omega) (by omega), ?_⟩
    intro V19 e19 v20 e20
    have e20 : v20 = nI (i + 1) := by rw [e20, nI_succ]
    subst e20
    have ht : (nI i).toNatClampNeg = i := nI_clamp (by omega)
    rw [ht] at e19
    have e19 : V19 = fw_up V17 1 i (.ref (b + (19 + 95 * i))) := e19
    rw [show 19 + 95 * i + 95 = 19 + 95 * (i + 1) by omega] at *
    have a1 : ∀ x, x ≠ 1 → x < 19 + 95 * i → V19 x = V x := fun x q1 q2 => by rw [e19, up_ne q1, k17 x q2, e11, nw_ne (by omega)]
    have a2 : V19 1 = updV (V 1) i (.ref (b + (19 + 95 * i))) := by rw [e19, up_eq, k17 1 (by omega), e11, nw_ne (by omega)]
    refine ih (i + 1) (by omega) V19 (hO.kept (fun x q1 q2 => a1 x (by omega) (by omega))) (fun j hj => ?_) (IB.app (c := 19 + 95 * i) (hB.kept (fun x q1 q2 => a1 x (by omega) (by omega))) (b17.kept (fun x q1 q2 => by rw [e19, up_ne (by omega)])))
    rw [a2]
    by_cases e : j = i
    · subst e
      rw [ini_at (o := 1) (kd := 103) (len := 2) (by decide +kernel), tka_103]
      simp [updV, fw_val]
      omega
    · simp only [updV, if_neg e]
      exact hA j (by omega)
theorem vs_Out {b : Nat} {V : fw_V} {post : Nat → fw_V → Prop} (h : ∀ V' : fw_V, IB b V' 0 209 → post 209 V') : wv_Out_init b 1 V 0 post := by
  unfold wv_Out_init
  refine ⟨by decide +kernel, by omega, by decide +kernel, ?_⟩
  intro n3 e3 V4 e4 V5 e5
  subst e3
  refine ⟨by omega, by decide +kernel, ?_⟩
  intro n8 e8 V9 e9
  subst e8
  refine ⟨by omega, by decide +kernel, vs_Office (V := V9) (fun V15 k15 b15 => ?_)⟩
  intro _ V16 e16 V17 e17
  refine ⟨3, vx_loop (V0 := V) h 2 0 rfl V17 (IB.one fun k hk => ?_) (fun j hj => absurd hj (Nat.not_lt_zero j)) (b15.kept fun x q1 q2 => by rw [e17, up_ne (by omega), e16, up_ne (by omega)])⟩
  have hk : k < 3 := hk
  rw [ini_at (o := 0) (kd := 0) (len := 0) (by decide +kernel), e17, up_eq, e16, up_eq, k15 0 (by omega), e9, nw_ne (by omega), e5, up_eq]
  match k, hk with
  | 0, _ => simp [updV, TK, TKl, fw_val]
  | 1, _ => simp [updV, TK, TKl, fw_val]
  | 2, _ => rfl
