/-! the script: every call keeps the relation -/
theorem pl_in {L i : Nat} (hL : L ≤ 2560) (hi : i ≤ 2560) (h : ¬ ((Int32.ofNat L) - 5) < nI i) : i + 5 ≤ L := by
  refine Classical.byContradiction fun q => h ?_
  have e : (Int32.ofNat L - 5 : Int32) = nI L - nI 5 := rfl
  rw [e]
  by_cases h5 : 5 ≤ L
  · rw [pk_sub h5]
    exact nI_lt (by omega) (by omega)
  · have hneg : nI L - nI 5 < 0 := pk_sneg (by omega) (by omega)
    rw [Int32.lt_iff_toInt_lt] at hneg ⊢
    rw [nI_toInt (show i < 2 ^ 31 by omega)]
    have : (0 : Int32).toInt = 0 := by decide
    omega
theorem pl (L : Nat) (xs : Nat → Int32) (hL : L ≤ 2560) : ∃ f0, wp_Law_law_23 L xs f0 S0 0 := by
  have key : ∀ d n f S, n + d = 512 → d < f → RR n S → wp_Law_law_23 L xs f S (nI (5 * n)) := by
    intro d
    induction d with
    | zero =>
      intro n f S hn hf hR
      obtain ⟨f, rfl⟩ : ∃ f', f = f' + 1 := ⟨f - 1, by omega⟩
      rw [wp_Law_law_23]
      refine ⟨by rw [nI_clamp (by omega)]; omega, fun _ => trivial, fun q => ?_⟩
      have := pl_in hL (by omega) q
      omega
    | succ d ih =>
      intro n f S hn hf hR
      obtain ⟨f, rfl⟩ : ∃ f', f = f' + 1 := ⟨f - 1, by omega⟩
      rw [wp_Law_law_23]
      refine ⟨by rw [nI_clamp (by omega)]; omega, fun _ => trivial, fun q => ?_⟩
      have h5 := pl_in hL (by omega) q
      have hx : LX L (5 * n) := ⟨hL, h5⟩
      have hn' : n < 512 := by omega
      have hk : ∀ S', RR (n + 1) S' → (fun S x4 => wp_Law_law_23 L xs f S x4) S' (nI (5 * n + 5)) := fun S' hS' => ih (n + 1) f S' (by omega) (by omega) hS'
      refine ⟨vp_in_nI (by omega) (by omega), fun _ => lx_next hx (hk S (hR.up hn')), fun _ => op_limit hx hn' hR hk, fun _ => op_band hx hn' hR hk, fun _ => op_fees hx hn' hR hk, fun _ => op_card hx hn' hR hk, fun _ => op_copy hx hn' hR hk, fun _ => op_car hx hn' hR hk, fun _ => op_want hx hn' hR hk, fun _ => op_leave hx hn' hR hk, fun _ => op_show hx hn' hR hk, fun _ => op_line hx hn' hR hk, fun _ => op_power hx hn' hR hk, fun _ => op_carry hx hn' hR hk, fun _ => op_lose hx hn' hR hk, fun _ => op_pass hx hn' hR hk, fun _ => op_time hx hn' hR hk, fun _ => op_current hx hn' hR hk, fun _ => op_sum hx hn' hR hk, fun _ => op_meter hx hn' hR hk, fun _ => op_about hx hn' hR hk, fun _ => op_open hx hn' hR hk, fun _ => op_bills hx hn' hR hk, fun _ => op_bill hx hn' hR hk, fun _ => op_total hx hn' hR hk⟩
  exact ⟨513, key 512 0 513 S0 (by omega) (by omega) RR0⟩
