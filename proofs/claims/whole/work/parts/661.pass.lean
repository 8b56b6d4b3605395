theorem pass_c {S : fw_S} {T d n : Nat} {lim : Nat → Nat} {post : fw_S → Int32 → Prop} {px : Nat → fw_S → Prop} (hn : n ≤ 512) (hd : d ≤ 86400) (ht : T + d ≤ 86400 * n)
    (MP : fw_S → Nat → Prop) (hMP : ∀ Sk tk m S', MP Sk tk → CI Sk tk n lim → T ≤ tk → tk + m ≤ T + d → HS Sk tk m lim S' → MP S' (tk + m))
    (fin : ∀ Sf, CI Sf (T + d) n lim → (∀ a k, 209 ≤ a → Sf.1 a k = S.1 a k ∧ Sf.2 a k = S.2 a k) → MP Sf (T + d) → post Sf (nI (T + d))) :
    ∀ E e f Sk tk c, e ≤ E → tk + e = T + d → T ≤ tk → e < f → c ≤ tk - T → CI Sk tk n lim → (∀ a k, 209 ≤ a → Sk.1 a k = S.1 a k ∧ Sk.2 a k = S.2 a k) → MP Sk tk → wp_Out_pass_28 0 (nI d) post px f Sk (nI (T + d)) (nI c) := by
  intro E
  induction E with
  | zero =>
    intro e f Sk tk c he h1 h2 hf hc hC hM hP
    obtain ⟨f, rfl⟩ : ∃ f', f = f' + 1 := ⟨f - 1, by omega⟩
    have : tk = T + d := by omega
    subst this
    have F : wp_Out_pass_61 0 (nI d) post px Sk (nI (T + d)) (nI c) := by
      unfold wp_Out_pass_61
      rw [hC.1]
      exact fin Sk hC hM hP
    rw [wp_Out_pass_28]
    refine ⟨fun _ => F, fun _ => ⟨fun _ => F, fun q => absurd ?_ q⟩⟩
    rw [hC.1]
    exact nI_le (Nat.le_refl _) (by omega)
  | succ E ih =>
    intro e f Sk tk c he h1 h2 hf hc hC hM hP
    obtain ⟨f, rfl⟩ : ∃ f', f = f' + 1 := ⟨f - 1, by omega⟩
    have F : tk = T + d → wp_Out_pass_61 0 (nI d) post px Sk (nI (T + d)) (nI c) := fun e => by
      subst e
      unfold wp_Out_pass_61
      rw [hC.1]
      exact fin Sk hC hM hP
    rw [wp_Out_pass_28, hC.1]
    refine ⟨fun q => F ?_, fun q => ⟨fun q2 => F ?_, fun q2 => ?_⟩⟩
    · have : d ≤ c := (nI_leI (by omega) (by omega)).mp q
      omega
    · have : T + d ≤ tk := (nI_leI (by omega) (by omega)).mp q2
      omega
    · have hlt : tk < T + d := Classical.byContradiction fun x => q2 (nI_le (by omega) (by omega))
      rw [pk_sub (by omega), show T + d - tk = e by omega]
      refine stretch_c hn (by omega) (by omega) (by omega) hC (fun S' m hm hH hC' => ?_)
      have hm1 := hH.2.2.1
      intro v6 e6
      rw [e6, nI_1]
      refine ih (e - m) f S' (tk + m) (c + 1) (by omega) (by omega) (by omega) (by omega) (by omega) hC' (fun a k ha => ?_) (hMP Sk tk m S' hP hC h2 (by omega) hH)
      have := hH.1 a k (fun q hq => by have := pO_lt hq; omega) (by omega)
      rw [this.1, this.2]
      exact hM a k ha
set_option maxHeartbeats 4000000 in
theorem op_pass {L i n : Nat} {xs : Nat → Int32} {k : fw_S → Int32 → Prop} {S : fw_S} (hx : LX L i) (hn : n < 512) (hR : RR n S) (hk : ∀ S', RR (n + 1) S' → k S' (nI (i + 5))) : wp_Law_law_975 L xs k S (nI i) := by
  have hx1 := hx.1
  have hx2 := hx.2
  have v0 : (nI i).toNatClampNeg ≤ 2560 := by rw [nI_clamp (by omega)]; omega
  have v1 : vp_in (nI i + 1) L := lx_in (c := 1) hx (by omega)
  unfold wp_Law_law_975 wp_Law_law_1028
  generalize xs (nI i + 1).toNatClampNeg = a
  simp only [v0, v1, true_and]
  rcases rg_cases a 0 86400 (by omega) (by omega) with ⟨d, -, hd, rfl⟩ | hbad
  · obtain ⟨T, hG0, hK, hV0⟩ := id hR
    have hTb := hG0.1.2.2.1
    have hG : RG S T (n + 1) := hG0.up hn
    have hV : ∀ q, q < 6 → RV (vw q S) T (n + 1) := fun q hq => (hV0 q hq).up
    have hN : n + 1 ≤ 512 := by omega
    have hTd : T + d ≤ 86400 * (n + 1) := by omega
    obtain ⟨lim, hlim⟩ : ∃ lim : Nat → Nat, ∀ j, lim j = (S.1 210 j).toNatClampNeg := ⟨_, fun _ => rfl⟩
    have hl : ∀ j, j < 2 → S.1 (19 + 95 * j) 1 = nI (lim j) ∧ lim j ≤ 2000 := fun j hj => by
      obtain ⟨l1, l2, l3⟩ := lim_of hG hj
      rw [hlim]
      exact ⟨l3.trans l1, l2⟩
    have hC : CI S T (n + 1) lim := ⟨hG.1.1, hl, fun p hp => ⟨vw p S, hV p hp, fun _ _ _ _ => rfl, fun _ _ _ => rfl⟩⟩
    unfold wp_Law_pass wp_Out_pass
    refine cn_yes (lo := 0) (hi := 86400) (by omega) hd (by omega) ?_
    rw [hG.1.1, nI_add]
    refine cn_yes (lo := 0) (hi := 1000000000) (by omega) (by omega) (by omega) ?_
    intro v3 e3
    have e3 : v3 = nI (T + d) := by rw [e3, hG.1.1, nI_add]
    subst e3
    refine ⟨d + 1, ?_⟩
    refine pass_c (S := S) (T := T) (lim := lim) hN hd hTd (fun Sk tk => ∀ (pM : fw_S → Int32 → Prop) Y f, MI S Y T (n + 1) → Y.1 209 0 = 0 → d < f → (∀ Y' f', frP Y Y' → MI Sk Y' tk (n + 1) → Y'.1 209 0 = 0 → T + d - tk < f' → wp_M_pass_32 209 (nI d) pM f' Y' (nI (tk - T))) → wp_M_pass_32 209 (nI d) pM f Y (nI (T - T))) ?_ ?_ d d (d + 1) S T 0 (by omega) (by omega) (by omega) (by omega) (by omega) hC (fun _ _ _ => ⟨rfl, rfl⟩) ?_
    · intro Sk tk m S' hP hCk h1 h2 hH pM Y f hM h0 hf hfin
      refine hP pM Y f hM h0 hf (fun Y' f' fr hM' h0' hf' => ?_)
      refine stretch_m hN (by omega) hCk.2.1 hM' hH h0' h1 h2 hd hf' (fun Y'' f'' fr' hM'' h0'' hf'' => ?_)
      exact hfin Y'' f'' ⟨fun a k ha => ⟨(fr'.1 a k ha).1.trans (fr.1 a k ha).1, (fr'.1 a k ha).2.trans (fr.1 a k ha).2⟩, fun k => (fr'.2 k).trans (fr.2 k)⟩ hM'' h0'' hf''
    · intro Sf hCf hMf hP
      refine ⟨z1, fun S4 e4 => ?_⟩
      rw [z0] at e4
      unfold wp_M_pass
      have s41 : S4.1 209 1 = nI T := by
        rw [e4, gl_i, (hMf 209 1 (by omega)).1]
        exact hG.1.2.1
      refine in_yes (lo := 0) (hi := 86400) (by omega) hd (by omega) ⟨fun q => absurd q (by decide), fun _ => ?_⟩
      rw [show S4.1 209 1 = nI T from s41]
      have e9 : (1000000000 : Int32) - nI T = nI (1000000000 - T) := pk_sub (a := 1000000000) (by omega)
      rw [e9]
      refine ⟨fun _ => ?_, fun q => absurd (nI_le (by omega) (by omega)) q⟩
      intro Y0 eY0
      refine ⟨d + 1, ?_⟩
      have y0c : ∀ a k, ¬ (a = 209 ∧ k = 0) → Y0.1 a k = Sf.1 a k := fun a k hn => by rw [eY0, gi_i, if_neg hn, e4, gl_i]
      have y0l : ∀ a k, ¬ a = 244 → Y0.2 a k = Sf.2 a k := fun a k hn => by rw [eY0, gi_l, e4, gl_l, if_neg (by omega)]
      have y00 : Y0.1 209 0 = 0 := by rw [eY0, gi_i, if_pos ⟨rfl, rfl⟩]
      have jS : ∀ a k, ¬ (a = 209 ∧ k = 0) → (cj S Y0).1 a k = S.1 a k := fun a k hn => by
        rw [cj_i]
        split
        · rfl
        · rw [y0c a k hn, (hMf a k (by omega)).1]
      have jSl : ∀ a k, ¬ a = 244 → (cj S Y0).2 a k = S.2 a k := fun a k hn => by
        rw [cj_l]
        split
        · rfl
        · rw [y0l a k hn, (hMf a k (by omega)).2]
      have hMI : MI S Y0 T (n + 1) := by
        refine ⟨RG_eq (fun a k hg => jS a k (by unfold gcell at hg; omega)) (fun k => ⟨jSl 11 k (by omega), jSl 242 k (by omega)⟩) hG, ?_, fun p hp => ?_⟩
        · refine KN_eq hK ?_ (fun a k ha => ?_)
          · rw [y0c 209 39 (by omega), (hMf 209 39 (by omega)).1]
          · unfold isC at ha
            rw [y0c a k (by omega), (hMf a k (by omega)).1]
        · rw [← vw_cj hp]
          have hpo := pO_lt hp
          rw [vw_eq (S := S) (fun o k hf => jS o k (by unfold foot at hf; omega)) (fun o k hf => jSl o k (by unfold foot at hf; omega))]
          exact hV p hp
      have := hP (fun S5 r6 => wp_M_thrown S5 209 (fun S7 r8 => (((r8 = 0) → ((¬ ((0 : Int32) = 0) → wp_Law_law_1470 L xs k S7 (nI i)) ∧ (((0 : Int32) = 0) → vp_in 0 1 ∧ (((((lg_cmp (S7.2 244 ((0 : Int32).toNatClampNeg)) r6.toInt64) = 0) → wp_Law_law_1470 L xs k S7 (nI i)) ∧ (¬ ((lg_cmp (S7.2 244 ((0 : Int32).toNatClampNeg)) r6.toInt64) = 0) → False)))))) ∧ (¬ (r8 = 0) → False)))) Y0 (d + 1) hMI y00 (by omega) (fun Y' f' fr hM' h0' hf' => ?_)
      · rw [Nat.sub_self] at this
        exact this
      obtain ⟨f', rfl⟩ : ∃ f'', f' = f'' + 1 := ⟨f' - 1, by omega⟩
      have y1 : Y'.1 209 1 = nI (T + d) := by
        have := hM'.1.1.2.1
        rw [cj_i, if_neg (by omega)] at this
        exact this
      have y2 : Y'.2 244 0 = (nI (T + d)).toInt64 := by
        rw [fr.2 0, eY0, gi_l, e4, gl_l, if_pos ⟨rfl, rfl⟩]
      rw [wp_M_pass_32, show T + d - T = d by omega]
      refine ⟨fun _ => ?_, fun q => absurd (nI_le (Nat.le_refl _) (by omega)) q⟩
      unfold wp_M_pass_54 wp_M_pass_69
      rw [h0', y1]
      refine ⟨fun _ => ?_, fun q => absurd (by decide) q⟩
      unfold wp_M_thrown
      dsimp only
      rw [h0', z0, y2]
      refine ⟨fun _ => ⟨fun q => absurd rfl q, fun _ => ⟨z1, fun _ => ?_, fun q => absurd (lgs _) q⟩⟩, fun q => absurd rfl q⟩
      refine lx_next hx (hk _ ?_)
      have ecj : cj Sf Y' = Y' := by
        refine Prod.ext (funext fun a => funext fun k => ?_) (funext fun a => funext fun k => ?_)
        · rw [cj_i]
          split
          · rw [(fr.1 a k (by omega)).1, y0c a k (by omega)]
          · rfl
        · rw [cj_l]
          split
          · rw [(fr.1 a k (by omega)).2, y0l a k (by omega)]
          · rfl
      refine ⟨T + d, by rw [← ecj]; exact hM'.1, hM'.2.1, fun p hp => ?_⟩
      have := hM'.2.2 p hp
      rw [← vw_cj hp, ecj] at this
      exact this
    · intro pM Y f hM h0 hf hfin
      exact hfin Y f ⟨fun _ _ _ => ⟨rfl, rfl⟩, fun _ => rfl⟩ hM h0 (by omega)
  · unfold wp_Law_pass wp_Out_pass
    refine cn_no hbad ⟨rfl, ?_⟩
    unfold wp_M_pass
    refine in_no hbad ⟨fun _ => ?_, fun q => absurd rfl q⟩
    intro S1 e1
    refine ⟨1, ?_⟩
    have t1 : S1.1 209 0 = 1 := by rw [e1, gi_i, if_pos ⟨rfl, rfl⟩]
    have F : wp_M_pass_54 209 a (fun S5 r6 => wp_M_thrown S5 209 (fun S7 r8 => (((r8 = 1) → ((¬ ((1 : Int32) = 0) → wp_Law_law_1470 L xs k S7 (nI i)) ∧ (((1 : Int32) = 0) → vp_in 0 1 ∧ (((((lg_cmp (S7.2 244 ((0 : Int32).toNatClampNeg)) r6.toInt64) = 0) → wp_Law_law_1470 L xs k S7 (nI i)) ∧ (¬ ((lg_cmp (S7.2 244 ((0 : Int32).toNatClampNeg)) r6.toInt64) = 0) → False)))))) ∧ (¬ (r8 = 1) → False)))) S1 0 := by
      unfold wp_M_pass_54 wp_M_pass_69
      rw [t1]
      refine ⟨fun q => absurd q (by decide), fun _ => ?_⟩
      unfold wp_M_thrown
      dsimp only
      rw [t1]
      refine ⟨fun _ => ⟨fun _ => ?_, fun q => absurd q (by decide)⟩, fun q => absurd rfl q⟩
      rw [e1]
      exact lx_next hx (hk _ (hR.thrown.up hn))
    rw [wp_M_pass_32]
    refine ⟨fun _ => F, fun _ => ⟨fun _ => F, fun q => absurd q ?_⟩⟩
    rw [t1]
    decide
