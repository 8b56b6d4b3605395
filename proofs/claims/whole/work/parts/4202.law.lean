def wp_Law_law_775 (L : Nat) (xs : Nat → Int32) (k23 : fw_S → Int32 → Prop) (S : fw_S) (x4 : Int32) (x5 : Int32) (p0 : Int32) (p1 : Int32) : Prop := x4.toNatClampNeg ≤ 2560 ∧ (wp_M_line S 209 p1 p0 (fun S1 => wp_M_thrown S1 209 (fun S2 r3 => (((r3 = x5) → wp_Law_law_1470 L xs  k23 S2 x4) ∧ (¬ (r3 = x5) → False)))))
set_option maxHeartbeats 4000000 in
set_option maxRecDepth 100000 in
theorem lb_775 {p : Program} {l : Launch} {e : Env} {s : State} {m : MethodId} {below : List Frame} {meth : Method} {c : Code} {bs L b : Nat} {xs : Nat → Int32} {D : va_G} {cA : Nat → ClassId} (X9 : lx_C p l s m meth c bs L b xs D cA) (k23 : fw_S → Int32 → Prop) (K23 : ∀ (S : fw_S) (x4 : Int32) (H : Heap) (locs : List Loc) (ls : Array Slot), k23 S x4 → fw_P D CL cA layU b 245 (fw_v TK layU b S) H → va_S (fw_A b 245) s.heap H locs → lv_has ls 8 [(0, .ref bs), (1, .ref (b + 0)), (2, .ref (b + 209)), (3, .ref (b + 244)), (4, .int x4)] → W p l e room_1 s m #[Value.ref bs] below meth c H locs (245 + x4.toNatClampNeg + 0) (4217 + 6 * x4.toNatClampNeg + 0) (lw_Z below #[Value.ref bs] s) (F0 m 23 ls [])) : ∀ (S : fw_S) (x4 : Int32) (x5 : Int32) (p0 : Int32) (p1 : Int32) (H : Heap) (locs : List Loc) (ls : Array Slot), wp_Law_law_775 L xs k23 S x4 x5 p0 p1 → fw_P D CL cA layU b 245 (fw_v TK layU b S) H → va_S (fw_A b 245) s.heap H locs → lv_has ls 8 [(0, .ref bs), (1, .ref (b + 0)), (2, .ref (b + 209)), (3, .ref (b + 244)), (4, .int x4), (5, .int x5)] → W p l e room_1 s m #[Value.ref bs] below meth c H locs (245 + x4.toNatClampNeg + 1) (4217 + 6 * x4.toNatClampNeg + 6) (lw_Z below #[Value.ref bs] s) (F0 m 775 ls [.int p0, .int p1, .ref (b + 209)]) := by
  obtain ⟨hx, hb, hr, hml, hown, hts, hX, hbl, hbA, hb0, hlocks, hl9, hK, hZ⟩ := X9
  intro S x4 x5 p0 p1 H locs ls hw hP hS hl
  unfold wp_Law_law_775 at hw
  obtain ⟨hx4, hw⟩ := hw
  refine fw_callv (va_runV (As := [.int p1, .int p0]) (rest := []) ⟨hx, hb, hml, hown, hts⟩ (mt_M_line l D cA b S 209 p1 p0 lx_m _ hw) (cwV 2 hts (fw_gV tw_979 tw_976 tw_977 tw_978 tw_11) rfl rfl rfl (by decide +kernel) ⟨Nat.le_of_ble_eq_true rfl, Nat.le_of_ble_eq_true rfl⟩) (fw_preV hP hK lx_m (by decide) rfl) rfl rfl hl.1 rfl (lv_room (Nat.le_of_ble_eq_true rfl)) dd_Law_law_775 ⟨(show _ ≤ 601024 by omega), (show _ ≤ 7293034 by omega)⟩) hS (fun S1 H locs hw hP hS => ?_)
  try dsimp only at hw
  refine lv_aload_n hx hb dd_Law_law_778 rfl (lv_at hl 2 rfl) ?_
  refine fw_calli (va_runV (As := []) (rest := []) ⟨hx, hb, hml, hown, hts⟩ (mt_M_thrown l D cA b S1 209 lx_m _ hw) (cwV 0 hts (fw_gV tw_906 tw_903 tw_904 tw_905 tw_11) rfl rfl rfl (by decide +kernel) ⟨Nat.le_of_ble_eq_true rfl, Nat.le_of_ble_eq_true rfl⟩) (fw_preV hP hK lx_m (by decide) rfl) rfl rfl hl.1 rfl (lv_room (Nat.le_of_ble_eq_true rfl)) dd_Law_law_779 ⟨(show _ ≤ 601024 by omega), (show _ ≤ 7293034 by omega)⟩) hS (fun S2 r3 H locs hw hP hS => ?_)
  try dsimp only at hw
  refine lv_iload hx hb dd_Law_law_782 (lv_at hl 5 rfl) ?_
  refine lv_icmp_eq (tgt := 789) hx hb dd_Law_law_784 (by decide) (fun h4 => ?_) (fun h4 => ?_)
  · have hw := hw.1 h4
    refine lv_goto (tgt := 1470) hx hb dd_Law_law_789 (by decide) ?_
    refine W.widen (k := 245 + x4.toNatClampNeg + 4) (n := 4217 + 6 * x4.toNatClampNeg + 24) (by omega) (by omega) ?_
    exact lb_1470 ⟨hx, hb, hr, hml, hown, hts, hX, hbl, hbA, hb0, hlocks, hl9, hK, hZ⟩ _ K23 S2 x4 _ _ ls hw hP hS (lv_sub hl [0, 1, 2, 3, 4] rfl)
  · have hw := hw.2 h4
    refine lv_iconst (v := 0) hx hb dd_Law_law_787 kc_ic_0 ?_
    exact False.elim hw
def wp_Law_law_749 (L : Nat) (xs : Nat → Int32) (k23 : fw_S → Int32 → Prop) (S : fw_S) (x4 : Int32) (p0 : Int32) (p1 : Int32) : Prop := x4.toNatClampNeg ≤ 2560 ∧ (wp_Law_line S 0 p1 p0 (fun S1 r2 => vp_in (x4 + 1) L ∧ (vp_in (x4 + 2) L ∧ (((((xs (x4 + 2 : Int32).toNatClampNeg) = 0) → wp_Law_law_775 L xs  k23 S1 x4 r2 0 (xs (x4 + 1 : Int32).toNatClampNeg)) ∧ (¬ ((xs (x4 + 2 : Int32).toNatClampNeg) = 0) → wp_Law_law_775 L xs  k23 S1 x4 r2 1 (xs (x4 + 1 : Int32).toNatClampNeg)))))))
set_option maxHeartbeats 4000000 in
set_option maxRecDepth 100000 in
theorem lb_749 {p : Program} {l : Launch} {e : Env} {s : State} {m : MethodId} {below : List Frame} {meth : Method} {c : Code} {bs L b : Nat} {xs : Nat → Int32} {D : va_G} {cA : Nat → ClassId} (X9 : lx_C p l s m meth c bs L b xs D cA) (k23 : fw_S → Int32 → Prop) (K23 : ∀ (S : fw_S) (x4 : Int32) (H : Heap) (locs : List Loc) (ls : Array Slot), k23 S x4 → fw_P D CL cA layU b 245 (fw_v TK layU b S) H → va_S (fw_A b 245) s.heap H locs → lv_has ls 8 [(0, .ref bs), (1, .ref (b + 0)), (2, .ref (b + 209)), (3, .ref (b + 244)), (4, .int x4)] → W p l e room_1 s m #[Value.ref bs] below meth c H locs (245 + x4.toNatClampNeg + 0) (4217 + 6 * x4.toNatClampNeg + 0) (lw_Z below #[Value.ref bs] s) (F0 m 23 ls [])) : ∀ (S : fw_S) (x4 : Int32) (p0 : Int32) (p1 : Int32) (H : Heap) (locs : List Loc) (ls : Array Slot), wp_Law_law_749 L xs k23 S x4 p0 p1 → fw_P D CL cA layU b 245 (fw_v TK layU b S) H → va_S (fw_A b 245) s.heap H locs → lv_has ls 8 [(0, .ref bs), (1, .ref (b + 0)), (2, .ref (b + 209)), (3, .ref (b + 244)), (4, .int x4)] → W p l e room_1 s m #[Value.ref bs] below meth c H locs (245 + x4.toNatClampNeg + 0) (4217 + 6 * x4.toNatClampNeg + 0) (lw_Z below #[Value.ref bs] s) (F0 m 749 ls [.int p0, .int p1, .ref (b + 0)]) := by
  obtain ⟨hx, hb, hr, hml, hown, hts, hX, hbl, hbA, hb0, hlocks, hl9, hK, hZ⟩ := X9
  intro S x4 p0 p1 H locs ls hw hP hS hl
  unfold wp_Law_law_749 at hw
  obtain ⟨hx4, hw⟩ := hw
  refine fw_calli (fw_runSW (As := [.ref (b + 0), .int p1, .int p0]) (rest := []) ⟨hx, hb, hml, hown, hts⟩ (mt_Law_line l hl9 D cA b S 0 p1 p0 lx_x _ hw) 3 (fw_g tw_549) rfl rfl rfl (hts _ (tb_in tw_0)) (hts _ (tb_in tw_547)) (hts _ (tb_in tw_548)) (by decide +kernel) ⟨Nat.le_of_ble_eq_true rfl, Nat.le_of_ble_eq_true rfl⟩ (fw_preSX hP hK hZ hS) rfl rfl hl.1 rfl (lv_room (Nat.le_of_ble_eq_true rfl)) dd_Law_law_749 ⟨(show _ ≤ 601024 by omega), (show _ ≤ 7293034 by omega)⟩) hS (fun S1 r2 H locs hw hP hS => ?_)
  try dsimp only at hw
  refine lv_istore hx hb dd_Law_law_752 hl (Nat.le_of_ble_eq_true rfl) rfl (fun ls hl => ?_)
  have hl : lv_has ls 8 [(5, .int r2), (0, .ref bs), (1, .ref (b + 0)), (2, .ref (b + 209)), (3, .ref (b + 244)), (4, .int x4)] := hl
  refine lv_aload_n hx hb dd_Law_law_754 rfl (lv_at hl 3 rfl) ?_
  refine lv_aload_n hx hb dd_Law_law_755 rfl (lv_at hl 1 rfl) ?_
  refine lv_iload hx hb dd_Law_law_756 (lv_at hl 5 rfl) ?_
  refine lv_iconst (v := 1) hx hb dd_Law_law_758 kc_ic_1 ?_
  refine lv_iadd hx hb dd_Law_law_759 ?_
  obtain ⟨h3, hw⟩ := hw
  refine va_sld hx hb hX hbl hbA hS h3 dd_Law_law_760 ?_
  refine lv_aload_n hx hb dd_Law_law_761 rfl (lv_at hl 1 rfl) ?_
  refine lv_iload hx hb dd_Law_law_762 (lv_at hl 5 rfl) ?_
  refine lv_iconst (v := 2) hx hb dd_Law_law_764 kc_ic_2 ?_
  refine lv_iadd hx hb dd_Law_law_765 ?_
  obtain ⟨h4, hw⟩ := hw
  refine va_sld hx hb hX hbl hbA hS h4 dd_Law_law_766 ?_
  refine lv_if_eq (tgt := 774) hx hb dd_Law_law_767 (by decide) (fun h5 => ?_) (fun h5 => ?_)
  · have hw := hw.1 h5
    refine lv_iconst (v := 0) hx hb dd_Law_law_774 kc_ic_0 ?_
    refine W.widen (k := 245 + x4.toNatClampNeg + 1) (n := 4217 + 6 * x4.toNatClampNeg + 6) (by omega) (by omega) ?_
    exact lb_775 ⟨hx, hb, hr, hml, hown, hts, hX, hbl, hbA, hb0, hlocks, hl9, hK, hZ⟩ _ K23 S1 x4 r2 0 (xs (x4 + 1 : Int32).toNatClampNeg) _ _ ls hw hP hS (lv_sub hl [1, 2, 3, 4, 5, 0] rfl)
  · have hw := hw.2 h5
    refine lv_iconst (v := 1) hx hb dd_Law_law_770 kc_ic_1 ?_
    refine lv_goto (tgt := 775) hx hb dd_Law_law_771 (by decide) ?_
    refine W.widen (k := 245 + x4.toNatClampNeg + 1) (n := 4217 + 6 * x4.toNatClampNeg + 6) (by omega) (by omega) ?_
    exact lb_775 ⟨hx, hb, hr, hml, hown, hts, hX, hbl, hbA, hb0, hlocks, hl9, hK, hZ⟩ _ K23 S1 x4 r2 1 (xs (x4 + 1 : Int32).toNatClampNeg) _ _ ls hw hP hS (lv_sub hl [1, 2, 3, 4, 5, 0] rfl)
def wp_Law_law_728 (L : Nat) (xs : Nat → Int32) (k23 : fw_S → Int32 → Prop) (S : fw_S) (x4 : Int32) : Prop := x4.toNatClampNeg ≤ 2560 ∧ (vp_in (x4 + 1) L ∧ (vp_in (x4 + 2) L ∧ (((((xs (x4 + 2 : Int32).toNatClampNeg) = 0) → wp_Law_law_749 L xs  k23 S x4 0 (xs (x4 + 1 : Int32).toNatClampNeg)) ∧ (¬ ((xs (x4 + 2 : Int32).toNatClampNeg) = 0) → wp_Law_law_749 L xs  k23 S x4 1 (xs (x4 + 1 : Int32).toNatClampNeg))))))
set_option maxHeartbeats 4000000 in
set_option maxRecDepth 100000 in
theorem lb_728 {p : Program} {l : Launch} {e : Env} {s : State} {m : MethodId} {below : List Frame} {meth : Method} {c : Code} {bs L b : Nat} {xs : Nat → Int32} {D : va_G} {cA : Nat → ClassId} (X9 : lx_C p l s m meth c bs L b xs D cA) (k23 : fw_S → Int32 → Prop) (K23 : ∀ (S : fw_S) (x4 : Int32) (H : Heap) (locs : List Loc) (ls : Array Slot), k23 S x4 → fw_P D CL cA layU b 245 (fw_v TK layU b S) H → va_S (fw_A b 245) s.heap H locs → lv_has ls 8 [(0, .ref bs), (1, .ref (b + 0)), (2, .ref (b + 209)), (3, .ref (b + 244)), (4, .int x4)] → W p l e room_1 s m #[Value.ref bs] below meth c H locs (245 + x4.toNatClampNeg + 0) (4217 + 6 * x4.toNatClampNeg + 0) (lw_Z below #[Value.ref bs] s) (F0 m 23 ls [])) : ∀ (S : fw_S) (x4 : Int32) (H : Heap) (locs : List Loc) (ls : Array Slot), wp_Law_law_728 L xs k23 S x4 → fw_P D CL cA layU b 245 (fw_v TK layU b S) H → va_S (fw_A b 245) s.heap H locs → lv_has ls 8 [(0, .ref bs), (1, .ref (b + 0)), (2, .ref (b + 209)), (3, .ref (b + 244)), (4, .int x4)] → W p l e room_1 s m #[Value.ref bs] below meth c H locs (245 + x4.toNatClampNeg + 0) (4217 + 6 * x4.toNatClampNeg + 0) (lw_Z below #[Value.ref bs] s) (F0 m 728 ls []) := by
  obtain ⟨hx, hb, hr, hml, hown, hts, hX, hbl, hbA, hb0, hlocks, hl9, hK, hZ⟩ := X9
  intro S x4 H locs ls hw hP hS hl
  unfold wp_Law_law_728 at hw
  obtain ⟨hx4, hw⟩ := hw
  refine lv_aload_n hx hb dd_Law_law_728 rfl (lv_at hl 1 rfl) ?_
  refine lv_aload_n hx hb dd_Law_law_729 rfl (lv_at hl 0 rfl) ?_
  refine lv_iload hx hb dd_Law_law_730 (lv_at hl 4 rfl) ?_
  refine lv_iconst (v := 1) hx hb dd_Law_law_732 kc_ic_1 ?_
  refine lv_iadd hx hb dd_Law_law_733 ?_
  obtain ⟨h1, hw⟩ := hw
  refine va_sld hx hb hX hbl hbA hS h1 dd_Law_law_734 ?_
  refine lv_aload_n hx hb dd_Law_law_735 rfl (lv_at hl 0 rfl) ?_
  refine lv_iload hx hb dd_Law_law_736 (lv_at hl 4 rfl) ?_
  refine lv_iconst (v := 2) hx hb dd_Law_law_738 kc_ic_2 ?_
  refine lv_iadd hx hb dd_Law_law_739 ?_
  obtain ⟨h2, hw⟩ := hw
  refine va_sld hx hb hX hbl hbA hS h2 dd_Law_law_740 ?_
  refine lv_if_eq (tgt := 748) hx hb dd_Law_law_741 (by decide) (fun h3 => ?_) (fun h3 => ?_)
  · have hw := hw.1 h3
    refine lv_iconst (v := 0) hx hb dd_Law_law_748 kc_ic_0 ?_
    refine W.widen (k := 245 + x4.toNatClampNeg + 0) (n := 4217 + 6 * x4.toNatClampNeg + 0) (by omega) (by omega) ?_
    exact lb_749 ⟨hx, hb, hr, hml, hown, hts, hX, hbl, hbA, hb0, hlocks, hl9, hK, hZ⟩ _ K23 S x4 0 (xs (x4 + 1 : Int32).toNatClampNeg) _ _ ls hw hP hS (lv_sub hl [0, 1, 2, 3, 4] rfl)
  · have hw := hw.2 h3
    refine lv_iconst (v := 1) hx hb dd_Law_law_744 kc_ic_1 ?_
    refine lv_goto (tgt := 749) hx hb dd_Law_law_745 (by decide) ?_
    refine W.widen (k := 245 + x4.toNatClampNeg + 0) (n := 4217 + 6 * x4.toNatClampNeg + 0) (by omega) (by omega) ?_
    exact lb_749 ⟨hx, hb, hr, hml, hown, hts, hX, hbl, hbA, hb0, hlocks, hl9, hK, hZ⟩ _ K23 S x4 1 (xs (x4 + 1 : Int32).toNatClampNeg) _ _ ls hw hP hS (lv_sub hl [0, 1, 2, 3, 4] rfl)
def wp_Law_law_839 (L : Nat) (xs : Nat → Int32) (k23 : fw_S → Int32 → Prop) (S : fw_S) (x4 : Int32) (x5 : Int32) (p0 : Int32) (p1 : Int32) : Prop := x4.toNatClampNeg ≤ 2560 ∧ (wp_M_power S 209 p1 p0 (fun S1 => wp_M_thrown S1 209 (fun S2 r3 => (((r3 = x5) → wp_Law_law_1470 L xs  k23 S2 x4) ∧ (¬ (r3 = x5) → False)))))
set_option maxHeartbeats 4000000 in
set_option maxRecDepth 100000 in
theorem lb_839 {p : Program} {l : Launch} {e : Env} {s : State} {m : MethodId} {below : List Frame} {meth : Method} {c : Code} {bs L b : Nat} {xs : Nat → Int32} {D : va_G} {cA : Nat → ClassId} (X9 : lx_C p l s m meth c bs L b xs D cA) (k23 : fw_S → Int32 → Prop) (K23 : ∀ (S : fw_S) (x4 : Int32) (H : Heap) (locs : List Loc) (ls : Array Slot), k23 S x4 → fw_P D CL cA layU b 245 (fw_v TK layU b S) H → va_S (fw_A b 245) s.heap H locs → lv_has ls 8 [(0, .ref bs), (1, .ref (b + 0)), (2, .ref (b + 209)), (3, .ref (b + 244)), (4, .int x4)] → W p l e room_1 s m #[Value.ref bs] below meth c H locs (245 + x4.toNatClampNeg + 0) (4217 + 6 * x4.toNatClampNeg + 0) (lw_Z below #[Value.ref bs] s) (F0 m 23 ls [])) : ∀ (S : fw_S) (x4 : Int32) (x5 : Int32) (p0 : Int32) (p1 : Int32) (H : Heap) (locs : List Loc) (ls : Array Slot), wp_Law_law_839 L xs k23 S x4 x5 p0 p1 → fw_P D CL cA layU b 245 (fw_v TK layU b S) H → va_S (fw_A b 245) s.heap H locs → lv_has ls 8 [(0, .ref bs), (1, .ref (b + 0)), (2, .ref (b + 209)), (3, .ref (b + 244)), (4, .int x4), (5, .int x5)] → W p l e room_1 s m #[Value.ref bs] below meth c H locs (245 + x4.toNatClampNeg + 1) (4217 + 6 * x4.toNatClampNeg + 6) (lw_Z below #[Value.ref bs] s) (F0 m 839 ls [.int p0, .int p1, .ref (b + 209)]) := by
  obtain ⟨hx, hb, hr, hml, hown, hts, hX, hbl, hbA, hb0, hlocks, hl9, hK, hZ⟩ := X9
  intro S x4 x5 p0 p1 H locs ls hw hP hS hl
  unfold wp_Law_law_839 at hw
  obtain ⟨hx4, hw⟩ := hw
  refine fw_callv (va_runV (As := [.int p1, .int p0]) (rest := []) ⟨hx, hb, hml, hown, hts⟩ (mt_M_power l D cA b S 209 p1 p0 lx_m _ hw) (cwV 2 hts (fw_gV tw_983 tw_980 tw_981 tw_982 tw_11) rfl rfl rfl (by decide +kernel) ⟨Nat.le_of_ble_eq_true rfl, Nat.le_of_ble_eq_true rfl⟩) (fw_preV hP hK lx_m (by decide) rfl) rfl rfl hl.1 rfl (lv_room (Nat.le_of_ble_eq_true rfl)) dd_Law_law_839 ⟨(show _ ≤ 601024 by omega), (show _ ≤ 7293034 by omega)⟩) hS (fun S1 H locs hw hP hS => ?_)
  try dsimp only at hw
  refine lv_aload_n hx hb dd_Law_law_842 rfl (lv_at hl 2 rfl) ?_
  refine fw_calli (va_runV (As := []) (rest := []) ⟨hx, hb, hml, hown, hts⟩ (mt_M_thrown l D cA b S1 209 lx_m _ hw) (cwV 0 hts (fw_gV tw_906 tw_903 tw_904 tw_905 tw_11) rfl rfl rfl (by decide +kernel) ⟨Nat.le_of_ble_eq_true rfl, Nat.le_of_ble_eq_true rfl⟩) (fw_preV hP hK lx_m (by decide) rfl) rfl rfl hl.1 rfl (lv_room (Nat.le_of_ble_eq_true rfl)) dd_Law_law_843 ⟨(show _ ≤ 601024 by omega), (show _ ≤ 7293034 by omega)⟩) hS (fun S2 r3 H locs hw hP hS => ?_)
  try dsimp only at hw
  refine lv_iload hx hb dd_Law_law_846 (lv_at hl 5 rfl) ?_
  refine lv_icmp_eq (tgt := 853) hx hb dd_Law_law_848 (by decide) (fun h4 => ?_) (fun h4 => ?_)
  · have hw := hw.1 h4
    refine lv_goto (tgt := 1470) hx hb dd_Law_law_853 (by decide) ?_
    refine W.widen (k := 245 + x4.toNatClampNeg + 4) (n := 4217 + 6 * x4.toNatClampNeg + 24) (by omega) (by omega) ?_
    exact lb_1470 ⟨hx, hb, hr, hml, hown, hts, hX, hbl, hbA, hb0, hlocks, hl9, hK, hZ⟩ _ K23 S2 x4 _ _ ls hw hP hS (lv_sub hl [0, 1, 2, 3, 4] rfl)
  · have hw := hw.2 h4
    refine lv_iconst (v := 0) hx hb dd_Law_law_851 kc_ic_0 ?_
    exact False.elim hw
def wp_Law_law_813 (L : Nat) (xs : Nat → Int32) (k23 : fw_S → Int32 → Prop) (S : fw_S) (x4 : Int32) (p0 : Int32) (p1 : Int32) : Prop := x4.toNatClampNeg ≤ 2560 ∧ (wp_Law_power S 0 p1 p0 (fun S1 r2 => vp_in (x4 + 1) L ∧ (vp_in (x4 + 2) L ∧ (((((xs (x4 + 2 : Int32).toNatClampNeg) = 0) → wp_Law_law_839 L xs  k23 S1 x4 r2 0 (xs (x4 + 1 : Int32).toNatClampNeg)) ∧ (¬ ((xs (x4 + 2 : Int32).toNatClampNeg) = 0) → wp_Law_law_839 L xs  k23 S1 x4 r2 1 (xs (x4 + 1 : Int32).toNatClampNeg)))))))
set_option maxHeartbeats 4000000 in
set_option maxRecDepth 100000 in
theorem lb_813 {p : Program} {l : Launch} {e : Env} {s : State} {m : MethodId} {below : List Frame} {meth : Method} {c : Code} {bs L b : Nat} {xs : Nat → Int32} {D : va_G} {cA : Nat → ClassId} (X9 : lx_C p l s m meth c bs L b xs D cA) (k23 : fw_S → Int32 → Prop) (K23 : ∀ (S : fw_S) (x4 : Int32) (H : Heap) (locs : List Loc) (ls : Array Slot), k23 S x4 → fw_P D CL cA layU b 245 (fw_v TK layU b S) H → va_S (fw_A b 245) s.heap H locs → lv_has ls 8 [(0, .ref bs), (1, .ref (b + 0)), (2, .ref (b + 209)), (3, .ref (b + 244)), (4, .int x4)] → W p l e room_1 s m #[Value.ref bs] below meth c H locs (245 + x4.toNatClampNeg + 0) (4217 + 6 * x4.toNatClampNeg + 0) (lw_Z below #[Value.ref bs] s) (F0 m 23 ls [])) : ∀ (S : fw_S) (x4 : Int32) (p0 : Int32) (p1 : Int32) (H : Heap) (locs : List Loc) (ls : Array Slot), wp_Law_law_813 L xs k23 S x4 p0 p1 → fw_P D CL cA layU b 245 (fw_v TK layU b S) H → va_S (fw_A b 245) s.heap H locs → lv_has ls 8 [(0, .ref bs), (1, .ref (b + 0)), (2, .ref (b + 209)), (3, .ref (b + 244)), (4, .int x4)] → W p l e room_1 s m #[Value.ref bs] below meth c H locs (245 + x4.toNatClampNeg + 0) (4217 + 6 * x4.toNatClampNeg + 0) (lw_Z below #[Value.ref bs] s) (F0 m 813 ls [.int p0, .int p1, .ref (b + 0)]) := by
  obtain ⟨hx, hb, hr, hml, hown, hts, hX, hbl, hbA, hb0, hlocks, hl9, hK, hZ⟩ := X9
  intro S x4 p0 p1 H locs ls hw hP hS hl
  unfold wp_Law_law_813 at hw
  obtain ⟨hx4, hw⟩ := hw
  refine fw_calli (fw_runSW (As := [.ref (b + 0), .int p1, .int p0]) (rest := []) ⟨hx, hb, hml, hown, hts⟩ (mt_Law_power l hl9 D cA b S 0 p1 p0 lx_x _ hw) 3 (fw_g tw_565) rfl rfl rfl (hts _ (tb_in tw_0)) (hts _ (tb_in tw_563)) (hts _ (tb_in tw_564)) (by decide +kernel) ⟨Nat.le_of_ble_eq_true rfl, Nat.le_of_ble_eq_true rfl⟩ (fw_preSX hP hK hZ hS) rfl rfl hl.1 rfl (lv_room (Nat.le_of_ble_eq_true rfl)) dd_Law_law_813 ⟨(show _ ≤ 601024 by omega), (show _ ≤ 7293034 by omega)⟩) hS (fun S1 r2 H locs hw hP hS => ?_)
  try dsimp only at hw
  refine lv_istore hx hb dd_Law_law_816 hl (Nat.le_of_ble_eq_true rfl) rfl (fun ls hl => ?_)
  have hl : lv_has ls 8 [(5, .int r2), (0, .ref bs), (1, .ref (b + 0)), (2, .ref (b + 209)), (3, .ref (b + 244)), (4, .int x4)] := hl
  refine lv_aload_n hx hb dd_Law_law_818 rfl (lv_at hl 3 rfl) ?_
  refine lv_aload_n hx hb dd_Law_law_819 rfl (lv_at hl 1 rfl) ?_
  refine lv_iload hx hb dd_Law_law_820 (lv_at hl 5 rfl) ?_
  refine lv_iconst (v := 1) hx hb dd_Law_law_822 kc_ic_1 ?_
  refine lv_iadd hx hb dd_Law_law_823 ?_
  obtain ⟨h3, hw⟩ := hw
  refine va_sld hx hb hX hbl hbA hS h3 dd_Law_law_824 ?_
  refine lv_aload_n hx hb dd_Law_law_825 rfl (lv_at hl 1 rfl) ?_
  refine lv_iload hx hb dd_Law_law_826 (lv_at hl 5 rfl) ?_
  refine lv_iconst (v := 2) hx hb dd_Law_law_828 kc_ic_2 ?_
  refine lv_iadd hx hb dd_Law_law_829 ?_
  obtain ⟨h4, hw⟩ := hw
  refine va_sld hx hb hX hbl hbA hS h4 dd_Law_law_830 ?_
  refine lv_if_eq (tgt := 838) hx hb dd_Law_law_831 (by decide) (fun h5 => ?_) (fun h5 => ?_)
  · have hw := hw.1 h5
    refine lv_iconst (v := 0) hx hb dd_Law_law_838 kc_ic_0 ?_
    refine W.widen (k := 245 + x4.toNatClampNeg + 1) (n := 4217 + 6 * x4.toNatClampNeg + 6) (by omega) (by omega) ?_
    exact lb_839 ⟨hx, hb, hr, hml, hown, hts, hX, hbl, hbA, hb0, hlocks, hl9, hK, hZ⟩ _ K23 S1 x4 r2 0 (xs (x4 + 1 : Int32).toNatClampNeg) _ _ ls hw hP hS (lv_sub hl [1, 2, 3, 4, 5, 0] rfl)
  · have hw := hw.2 h5
    refine lv_iconst (v := 1) hx hb dd_Law_law_834 kc_ic_1 ?_
    refine lv_goto (tgt := 839) hx hb dd_Law_law_835 (by decide) ?_
    refine W.widen (k := 245 + x4.toNatClampNeg + 1) (n := 4217 + 6 * x4.toNatClampNeg + 6) (by omega) (by omega) ?_
    exact lb_839 ⟨hx, hb, hr, hml, hown, hts, hX, hbl, hbA, hb0, hlocks, hl9, hK, hZ⟩ _ K23 S1 x4 r2 1 (xs (x4 + 1 : Int32).toNatClampNeg) _ _ ls hw hP hS (lv_sub hl [1, 2, 3, 4, 5, 0] rfl)
def wp_Law_law_792 (L : Nat) (xs : Nat → Int32) (k23 : fw_S → Int32 → Prop) (S : fw_S) (x4 : Int32) : Prop := x4.toNatClampNeg ≤ 2560 ∧ (vp_in (x4 + 1) L ∧ (vp_in (x4 + 2) L ∧ (((((xs (x4 + 2 : Int32).toNatClampNeg) = 0) → wp_Law_law_813 L xs  k23 S x4 0 (xs (x4 + 1 : Int32).toNatClampNeg)) ∧ (¬ ((xs (x4 + 2 : Int32).toNatClampNeg) = 0) → wp_Law_law_813 L xs  k23 S x4 1 (xs (x4 + 1 : Int32).toNatClampNeg))))))
set_option maxHeartbeats 4000000 in
set_option maxRecDepth 100000 in
theorem lb_792 {p : Program} {l : Launch} {e : Env} {s : State} {m : MethodId} {below : List Frame} {meth : Method} {c : Code} {bs L b : Nat} {xs : Nat → Int32} {D : va_G} {cA : Nat → ClassId} (X9 : lx_C p l s m meth c bs L b xs D cA) (k23 : fw_S → Int32 → Prop) (K23 : ∀ (S : fw_S) (x4 : Int32) (H : Heap) (locs : List Loc) (ls : Array Slot), k23 S x4 → fw_P D CL cA layU b 245 (fw_v TK layU b S) H → va_S (fw_A b 245) s.heap H locs → lv_has ls 8 [(0, .ref bs), (1, .ref (b + 0)), (2, .ref (b + 209)), (3, .ref (b + 244)), (4, .int x4)] → W p l e room_1 s m #[Value.ref bs] below meth c H locs (245 + x4.toNatClampNeg + 0) (4217 + 6 * x4.toNatClampNeg + 0) (lw_Z below #[Value.ref bs] s) (F0 m 23 ls [])) : ∀ (S : fw_S) (x4 : Int32) (H : Heap) (locs : List Loc) (ls : Array Slot), wp_Law_law_792 L xs k23 S x4 → fw_P D CL cA layU b 245 (fw_v TK layU b S) H → va_S (fw_A b 245) s.heap H locs → lv_has ls 8 [(0, .ref bs), (1, .ref (b + 0)), (2, .ref (b + 209)), (3, .ref (b + 244)), (4, .int x4)] → W p l e room_1 s m #[Value.ref bs] below meth c H locs (245 + x4.toNatClampNeg + 0) (4217 + 6 * x4.toNatClampNeg + 0) (lw_Z below #[Value.ref bs] s) (F0 m 792 ls []) := by
  obtain ⟨hx, hb, hr, hml, hown, hts, hX, hbl, hbA, hb0, hlocks, hl9, hK, hZ⟩ := X9
  intro S x4 H locs ls hw hP hS hl
  unfold wp_Law_law_792 at hw
  obtain ⟨hx4, hw⟩ := hw
  refine lv_aload_n hx hb dd_Law_law_792 rfl (lv_at hl 1 rfl) ?_
  refine lv_aload_n hx hb dd_Law_law_793 rfl (lv_at hl 0 rfl) ?_
  refine lv_iload hx hb dd_Law_law_794 (lv_at hl 4 rfl) ?_
  refine lv_iconst (v := 1) hx hb dd_Law_law_796 kc_ic_1 ?_
  refine lv_iadd hx hb dd_Law_law_797 ?_
  obtain ⟨h1, hw⟩ := hw
  refine va_sld hx hb hX hbl hbA hS h1 dd_Law_law_798 ?_
  refine lv_aload_n hx hb dd_Law_law_799 rfl (lv_at hl 0 rfl) ?_
  refine lv_iload hx hb dd_Law_law_800 (lv_at hl 4 rfl) ?_
  refine lv_iconst (v := 2) hx hb dd_Law_law_802 kc_ic_2 ?_
  refine lv_iadd hx hb dd_Law_law_803 ?_
  obtain ⟨h2, hw⟩ := hw
  refine va_sld hx hb hX hbl hbA hS h2 dd_Law_law_804 ?_
  refine lv_if_eq (tgt := 812) hx hb dd_Law_law_805 (by decide) (fun h3 => ?_) (fun h3 => ?_)
  · have hw := hw.1 h3
    refine lv_iconst (v := 0) hx hb dd_Law_law_812 kc_ic_0 ?_
    refine W.widen (k := 245 + x4.toNatClampNeg + 0) (n := 4217 + 6 * x4.toNatClampNeg + 0) (by omega) (by omega) ?_
    exact lb_813 ⟨hx, hb, hr, hml, hown, hts, hX, hbl, hbA, hb0, hlocks, hl9, hK, hZ⟩ _ K23 S x4 0 (xs (x4 + 1 : Int32).toNatClampNeg) _ _ ls hw hP hS (lv_sub hl [0, 1, 2, 3, 4] rfl)
  · have hw := hw.2 h3
    refine lv_iconst (v := 1) hx hb dd_Law_law_808 kc_ic_1 ?_
    refine lv_goto (tgt := 813) hx hb dd_Law_law_809 (by decide) ?_
    refine W.widen (k := 245 + x4.toNatClampNeg + 0) (n := 4217 + 6 * x4.toNatClampNeg + 0) (by omega) (by omega) ?_
    exact lb_813 ⟨hx, hb, hr, hml, hown, hts, hX, hbl, hbA, hb0, hlocks, hl9, hK, hZ⟩ _ K23 S x4 1 (xs (x4 + 1 : Int32).toNatClampNeg) _ _ ls hw hP hS (lv_sub hl [0, 1, 2, 3, 4] rfl)
def wp_Law_law_909 (L : Nat) (xs : Nat → Int32) (k23 : fw_S → Int32 → Prop) (S : fw_S) (x4 : Int32) (x5 : Int32) (x6 : Int32) : Prop := x4.toNatClampNeg ≤ 2560 ∧ (wp_Law_law_1470 L xs  k23 S x4)
set_option maxHeartbeats 4000000 in
set_option maxRecDepth 100000 in
theorem lb_909 {p : Program} {l : Launch} {e : Env} {s : State} {m : MethodId} {below : List Frame} {meth : Method} {c : Code} {bs L b : Nat} {xs : Nat → Int32} {D : va_G} {cA : Nat → ClassId} (X9 : lx_C p l s m meth c bs L b xs D cA) (k23 : fw_S → Int32 → Prop) (K23 : ∀ (S : fw_S) (x4 : Int32) (H : Heap) (locs : List Loc) (ls : Array Slot), k23 S x4 → fw_P D CL cA layU b 245 (fw_v TK layU b S) H → va_S (fw_A b 245) s.heap H locs → lv_has ls 8 [(0, .ref bs), (1, .ref (b + 0)), (2, .ref (b + 209)), (3, .ref (b + 244)), (4, .int x4)] → W p l e room_1 s m #[Value.ref bs] below meth c H locs (245 + x4.toNatClampNeg + 0) (4217 + 6 * x4.toNatClampNeg + 0) (lw_Z below #[Value.ref bs] s) (F0 m 23 ls [])) : ∀ (S : fw_S) (x4 : Int32) (x5 : Int32) (x6 : Int32) (H : Heap) (locs : List Loc) (ls : Array Slot), wp_Law_law_909 L xs k23 S x4 x5 x6 → fw_P D CL cA layU b 245 (fw_v TK layU b S) H → va_S (fw_A b 245) s.heap H locs → lv_has ls 8 [(0, .ref bs), (1, .ref (b + 0)), (2, .ref (b + 209)), (3, .ref (b + 244)), (4, .int x4), (5, .int x5), (6, .int x6)] → W p l e room_1 s m #[Value.ref bs] below meth c H locs (245 + x4.toNatClampNeg + 1) (4217 + 6 * x4.toNatClampNeg + 6) (lw_Z below #[Value.ref bs] s) (F0 m 909 ls []) := by
  obtain ⟨hx, hb, hr, hml, hown, hts, hX, hbl, hbA, hb0, hlocks, hl9, hK, hZ⟩ := X9
  intro S x4 x5 x6 H locs ls hw hP hS hl
  unfold wp_Law_law_909 at hw
  obtain ⟨hx4, hw⟩ := hw
  refine lv_goto (tgt := 1470) hx hb dd_Law_law_909 (by decide) ?_
  refine W.widen (k := 245 + x4.toNatClampNeg + 4) (n := 4217 + 6 * x4.toNatClampNeg + 24) (by omega) (by omega) ?_
  exact lb_1470 ⟨hx, hb, hr, hml, hown, hts, hX, hbl, hbA, hb0, hlocks, hl9, hK, hZ⟩ _ K23 S x4 _ _ ls hw hP hS (lv_sub hl [0, 1, 2, 3, 4] rfl)
def wp_Law_law_856 (L : Nat) (xs : Nat → Int32) (k23 : fw_S → Int32 → Prop) (S : fw_S) (x4 : Int32) : Prop := x4.toNatClampNeg ≤ 2560 ∧ (vp_in (x4 + 1) L ∧ (wp_Law_carry S 0 (xs (x4 + 1 : Int32).toNatClampNeg) 244 (fun S2 r3 => vp_in (x4 + 1) L ∧ (wp_M_carry S2 209 (xs (x4 + 1 : Int32).toNatClampNeg) (fun S5 r6 => wp_M_thrown S5 209 (fun S7 r8 => (((r8 = r3) → ((¬ (r3 = 0) → wp_Law_law_909 L xs  k23 S7 x4 r3 r6) ∧ ((r3 = 0) → vp_in 0 1 ∧ (((((lg_cmp (S7.2 244 ((0 : Int32).toNatClampNeg)) r6.toInt64) = 0) → wp_Law_law_909 L xs  k23 S7 x4 r3 r6) ∧ (¬ ((lg_cmp (S7.2 244 ((0 : Int32).toNatClampNeg)) r6.toInt64) = 0) → False)))))) ∧ (¬ (r8 = r3) → False))))))))
set_option maxHeartbeats 4000000 in
set_option maxRecDepth 100000 in
theorem lb_856 {p : Program} {l : Launch} {e : Env} {s : State} {m : MethodId} {below : List Frame} {meth : Method} {c : Code} {bs L b : Nat} {xs : Nat → Int32} {D : va_G} {cA : Nat → ClassId} (X9 : lx_C p l s m meth c bs L b xs D cA) (k23 : fw_S → Int32 → Prop) (K23 : ∀ (S : fw_S) (x4 : Int32) (H : Heap) (locs : List Loc) (ls : Array Slot), k23 S x4 → fw_P D CL cA layU b 245 (fw_v TK layU b S) H → va_S (fw_A b 245) s.heap H locs → lv_has ls 8 [(0, .ref bs), (1, .ref (b + 0)), (2, .ref (b + 209)), (3, .ref (b + 244)), (4, .int x4)] → W p l e room_1 s m #[Value.ref bs] below meth c H locs (245 + x4.toNatClampNeg + 0) (4217 + 6 * x4.toNatClampNeg + 0) (lw_Z below #[Value.ref bs] s) (F0 m 23 ls [])) : ∀ (S : fw_S) (x4 : Int32) (H : Heap) (locs : List Loc) (ls : Array Slot), wp_Law_law_856 L xs k23 S x4 → fw_P D CL cA layU b 245 (fw_v TK layU b S) H → va_S (fw_A b 245) s.heap H locs → lv_has ls 8 [(0, .ref bs), (1, .ref (b + 0)), (2, .ref (b + 209)), (3, .ref (b + 244)), (4, .int x4)] → W p l e room_1 s m #[Value.ref bs] below meth c H locs (245 + x4.toNatClampNeg + 0) (4217 + 6 * x4.toNatClampNeg + 0) (lw_Z below #[Value.ref bs] s) (F0 m 856 ls []) := by
  obtain ⟨hx, hb, hr, hml, hown, hts, hX, hbl, hbA, hb0, hlocks, hl9, hK, hZ⟩ := X9
  intro S x4 H locs ls hw hP hS hl
  unfold wp_Law_law_856 at hw
  obtain ⟨hx4, hw⟩ := hw
  refine lv_aload_n hx hb dd_Law_law_856 rfl (lv_at hl 1 rfl) ?_
  refine lv_aload_n hx hb dd_Law_law_857 rfl (lv_at hl 0 rfl) ?_
  refine lv_iload hx hb dd_Law_law_858 (lv_at hl 4 rfl) ?_
  refine lv_iconst (v := 1) hx hb dd_Law_law_860 kc_ic_1 ?_
  refine lv_iadd hx hb dd_Law_law_861 ?_
  obtain ⟨h1, hw⟩ := hw
  refine va_sld hx hb hX hbl hbA hS h1 dd_Law_law_862 ?_
  refine lv_aload_n hx hb dd_Law_law_863 rfl (lv_at hl 3 rfl) ?_
  refine fw_calli (fw_runSW (As := [.ref (b + 0), .int (xs (x4 + 1 : Int32).toNatClampNeg), .ref (b + 244)]) (rest := []) ⟨hx, hb, hml, hown, hts⟩ (mt_Law_carry l hl9 D cA b S 0 (xs (x4 + 1 : Int32).toNatClampNeg) 244 lx_x lx_o _ hw) 3 (fw_g tw_577) rfl rfl rfl (hts _ (tb_in tw_0)) (hts _ (tb_in tw_575)) (hts _ (tb_in tw_576)) (by decide +kernel) ⟨Nat.le_of_ble_eq_true rfl, Nat.le_of_ble_eq_true rfl⟩ (fw_preSX hP hK hZ hS) rfl rfl hl.1 rfl (lv_room (Nat.le_of_ble_eq_true rfl)) dd_Law_law_864 ⟨(show _ ≤ 601024 by omega), (show _ ≤ 7293034 by omega)⟩) hS (fun S2 r3 H locs hw hP hS => ?_)
  try dsimp only at hw
  refine lv_istore hx hb dd_Law_law_867 hl (Nat.le_of_ble_eq_true rfl) rfl (fun ls hl => ?_)
  have hl : lv_has ls 8 [(5, .int r3), (0, .ref bs), (1, .ref (b + 0)), (2, .ref (b + 209)), (3, .ref (b + 244)), (4, .int x4)] := hl
  refine lv_aload_n hx hb dd_Law_law_869 rfl (lv_at hl 3 rfl) ?_
  refine lv_aload_n hx hb dd_Law_law_870 rfl (lv_at hl 1 rfl) ?_
  refine lv_iload hx hb dd_Law_law_871 (lv_at hl 5 rfl) ?_
  refine lv_iconst (v := 1) hx hb dd_Law_law_873 kc_ic_1 ?_
  refine lv_iadd hx hb dd_Law_law_874 ?_
  obtain ⟨h4, hw⟩ := hw
  refine va_sld hx hb hX hbl hbA hS h4 dd_Law_law_875 ?_
  refine fw_calli (va_runV (As := [.int (xs (x4 + 1 : Int32).toNatClampNeg)]) (rest := []) ⟨hx, hb, hml, hown, hts⟩ (mt_M_carry l D cA b S2 209 (xs (x4 + 1 : Int32).toNatClampNeg) lx_m _ hw) (cwV 1 hts (fw_gV tw_987 tw_984 tw_985 tw_986 tw_11) rfl rfl rfl (by decide +kernel) ⟨Nat.le_of_ble_eq_true rfl, Nat.le_of_ble_eq_true rfl⟩) (fw_preV hP hK lx_m (by decide) rfl) rfl rfl hl.1 rfl (lv_room (Nat.le_of_ble_eq_true rfl)) dd_Law_law_876 ⟨(show _ ≤ 601024 by omega), (show _ ≤ 7293034 by omega)⟩) hS (fun S5 r6 H locs hw hP hS => ?_)
  try dsimp only at hw
  refine lv_istore hx hb dd_Law_law_879 hl (Nat.le_of_ble_eq_true rfl) rfl (fun ls hl => ?_)
  have hl : lv_has ls 8 [(6, .int r6), (5, .int r3), (0, .ref bs), (1, .ref (b + 0)), (2, .ref (b + 209)), (3, .ref (b + 244)), (4, .int x4)] := hl
  refine lv_aload_n hx hb dd_Law_law_881 rfl (lv_at hl 4 rfl) ?_
  refine fw_calli (va_runV (As := []) (rest := []) ⟨hx, hb, hml, hown, hts⟩ (mt_M_thrown l D cA b S5 209 lx_m _ hw) (cwV 0 hts (fw_gV tw_906 tw_903 tw_904 tw_905 tw_11) rfl rfl rfl (by decide +kernel) ⟨Nat.le_of_ble_eq_true rfl, Nat.le_of_ble_eq_true rfl⟩) (fw_preV hP hK lx_m (by decide) rfl) rfl rfl hl.1 rfl (lv_room (Nat.le_of_ble_eq_true rfl)) dd_Law_law_882 ⟨(show _ ≤ 601024 by omega), (show _ ≤ 7293034 by omega)⟩) hS (fun S7 r8 H locs hw hP hS => ?_)
  try dsimp only at hw
  refine lv_iload hx hb dd_Law_law_885 (lv_at hl 1 rfl) ?_
  refine lv_icmp_eq (tgt := 892) hx hb dd_Law_law_887 (by decide) (fun h9 => ?_) (fun h9 => ?_)
  · have hw := hw.1 h9
    refine lv_iload hx hb dd_Law_law_892 (lv_at hl 1 rfl) ?_
    refine lv_if_ne (tgt := 909) hx hb dd_Law_law_894 (by decide) (fun h10 => ?_) (fun h10 => ?_)
    · have hw := hw.1 h10
      refine W.widen (k := 245 + x4.toNatClampNeg + 1) (n := 4217 + 6 * x4.toNatClampNeg + 6) (by omega) (by omega) ?_
      exact lb_909 ⟨hx, hb, hr, hml, hown, hts, hX, hbl, hbA, hb0, hlocks, hl9, hK, hZ⟩ _ K23 S7 x4 r3 r6 _ _ ls hw hP hS (lv_sub hl [2, 3, 4, 5, 6, 1, 0] rfl)
    · have hw := hw.2 h10
      refine lv_aload_n hx hb dd_Law_law_897 rfl (lv_at hl 5 rfl) ?_
      refine lv_iconst (v := 0) hx hb dd_Law_law_898 kc_ic_0 ?_
      obtain ⟨h11, hw⟩ := hw
      refine fw_lald hx hb hK hP lx_o (by decide) 1 rfl tka_101 h11 dd_Law_law_899 ?_
      refine lv_iload hx hb dd_Law_law_900 (lv_at hl 0 rfl) ?_
      refine lv_i2l hx hb dd_Law_law_902 rfl ?_
      refine W.lcmp hx hb dd_Law_law_903 ?_
      refine lv_if_eq (tgt := 909) hx hb dd_Law_law_904 (by decide) (fun h12 => ?_) (fun h12 => ?_)
      · have hw := hw.1 h12
        refine W.widen (k := 245 + x4.toNatClampNeg + 1) (n := 4217 + 6 * x4.toNatClampNeg + 6) (by omega) (by omega) ?_
        exact lb_909 ⟨hx, hb, hr, hml, hown, hts, hX, hbl, hbA, hb0, hlocks, hl9, hK, hZ⟩ _ K23 S7 x4 r3 r6 _ _ ls hw hP hS (lv_sub hl [2, 3, 4, 5, 6, 1, 0] rfl)
      · have hw := hw.2 h12
        refine lv_iconst (v := 0) hx hb dd_Law_law_907 kc_ic_0 ?_
        exact False.elim hw
  · have hw := hw.2 h9
    refine lv_iconst (v := 0) hx hb dd_Law_law_890 kc_ic_0 ?_
    exact False.elim hw
def wp_Law_law_972 (L : Nat) (xs : Nat → Int32) (k23 : fw_S → Int32 → Prop) (S : fw_S) (x4 : Int32) (x5 : Int32) (x6 : Int32) : Prop := x4.toNatClampNeg ≤ 2560 ∧ (wp_Law_law_1470 L xs  k23 S x4)
set_option maxHeartbeats 4000000 in
set_option maxRecDepth 100000 in
theorem lb_972 {p : Program} {l : Launch} {e : Env} {s : State} {m : MethodId} {below : List Frame} {meth : Method} {c : Code} {bs L b : Nat} {xs : Nat → Int32} {D : va_G} {cA : Nat → ClassId} (X9 : lx_C p l s m meth c bs L b xs D cA) (k23 : fw_S → Int32 → Prop) (K23 : ∀ (S : fw_S) (x4 : Int32) (H : Heap) (locs : List Loc) (ls : Array Slot), k23 S x4 → fw_P D CL cA layU b 245 (fw_v TK layU b S) H → va_S (fw_A b 245) s.heap H locs → lv_has ls 8 [(0, .ref bs), (1, .ref (b + 0)), (2, .ref (b + 209)), (3, .ref (b + 244)), (4, .int x4)] → W p l e room_1 s m #[Value.ref bs] below meth c H locs (245 + x4.toNatClampNeg + 0) (4217 + 6 * x4.toNatClampNeg + 0) (lw_Z below #[Value.ref bs] s) (F0 m 23 ls [])) : ∀ (S : fw_S) (x4 : Int32) (x5 : Int32) (x6 : Int32) (H : Heap) (locs : List Loc) (ls : Array Slot), wp_Law_law_972 L xs k23 S x4 x5 x6 → fw_P D CL cA layU b 245 (fw_v TK layU b S) H → va_S (fw_A b 245) s.heap H locs → lv_has ls 8 [(0, .ref bs), (1, .ref (b + 0)), (2, .ref (b + 209)), (3, .ref (b + 244)), (4, .int x4), (5, .int x5), (6, .int x6)] → W p l e room_1 s m #[Value.ref bs] below meth c H locs (245 + x4.toNatClampNeg + 1) (4217 + 6 * x4.toNatClampNeg + 6) (lw_Z below #[Value.ref bs] s) (F0 m 972 ls []) := by
  obtain ⟨hx, hb, hr, hml, hown, hts, hX, hbl, hbA, hb0, hlocks, hl9, hK, hZ⟩ := X9
  intro S x4 x5 x6 H locs ls hw hP hS hl
  unfold wp_Law_law_972 at hw
  obtain ⟨hx4, hw⟩ := hw
  refine lv_goto (tgt := 1470) hx hb dd_Law_law_972 (by decide) ?_
  refine W.widen (k := 245 + x4.toNatClampNeg + 4) (n := 4217 + 6 * x4.toNatClampNeg + 24) (by omega) (by omega) ?_
  exact lb_1470 ⟨hx, hb, hr, hml, hown, hts, hX, hbl, hbA, hb0, hlocks, hl9, hK, hZ⟩ _ K23 S x4 _ _ ls hw hP hS (lv_sub hl [0, 1, 2, 3, 4] rfl)
def wp_Law_law_966 (L : Nat) (xs : Nat → Int32) (k23 : fw_S → Int32 → Prop) (S : fw_S) (x4 : Int32) (x5 : Int32) (x6 : Int32) (pl0 : Int64) (pl1 : Int64) : Prop := x4.toNatClampNeg ≤ 2560 ∧ (((((lg_cmp pl1 pl0) = 0) → wp_Law_law_972 L xs  k23 S x4 x5 x6) ∧ (¬ ((lg_cmp pl1 pl0) = 0) → False)))
set_option maxHeartbeats 4000000 in
set_option maxRecDepth 100000 in
theorem lb_966 {p : Program} {l : Launch} {e : Env} {s : State} {m : MethodId} {below : List Frame} {meth : Method} {c : Code} {bs L b : Nat} {xs : Nat → Int32} {D : va_G} {cA : Nat → ClassId} (X9 : lx_C p l s m meth c bs L b xs D cA) (k23 : fw_S → Int32 → Prop) (K23 : ∀ (S : fw_S) (x4 : Int32) (H : Heap) (locs : List Loc) (ls : Array Slot), k23 S x4 → fw_P D CL cA layU b 245 (fw_v TK layU b S) H → va_S (fw_A b 245) s.heap H locs → lv_has ls 8 [(0, .ref bs), (1, .ref (b + 0)), (2, .ref (b + 209)), (3, .ref (b + 244)), (4, .int x4)] → W p l e room_1 s m #[Value.ref bs] below meth c H locs (245 + x4.toNatClampNeg + 0) (4217 + 6 * x4.toNatClampNeg + 0) (lw_Z below #[Value.ref bs] s) (F0 m 23 ls [])) : ∀ (S : fw_S) (x4 : Int32) (x5 : Int32) (x6 : Int32) (pl0 : Int64) (pl1 : Int64) (H : Heap) (locs : List Loc) (ls : Array Slot), wp_Law_law_966 L xs k23 S x4 x5 x6 pl0 pl1 → fw_P D CL cA layU b 245 (fw_v TK layU b S) H → va_S (fw_A b 245) s.heap H locs → lv_has ls 8 [(0, .ref bs), (1, .ref (b + 0)), (2, .ref (b + 209)), (3, .ref (b + 244)), (4, .int x4), (5, .int x5), (6, .int x6)] → W p l e room_1 s m #[Value.ref bs] below meth c H locs (245 + x4.toNatClampNeg + 1) (4217 + 6 * x4.toNatClampNeg + 6) (lw_Z below #[Value.ref bs] s) (F0 m 966 ls [.long pl0, .long pl1]) := by
  obtain ⟨hx, hb, hr, hml, hown, hts, hX, hbl, hbA, hb0, hlocks, hl9, hK, hZ⟩ := X9
  intro S x4 x5 x6 pl0 pl1 H locs ls hw hP hS hl
  unfold wp_Law_law_966 at hw
  obtain ⟨hx4, hw⟩ := hw
  refine W.lcmp hx hb dd_Law_law_966 ?_
  refine lv_if_eq (tgt := 972) hx hb dd_Law_law_967 (by decide) (fun h1 => ?_) (fun h1 => ?_)
  · have hw := hw.1 h1
    refine W.widen (k := 245 + x4.toNatClampNeg + 1) (n := 4217 + 6 * x4.toNatClampNeg + 6) (by omega) (by omega) ?_
    exact lb_972 ⟨hx, hb, hr, hml, hown, hts, hX, hbl, hbA, hb0, hlocks, hl9, hK, hZ⟩ _ K23 S x4 x5 x6 _ _ ls hw hP hS (lv_sub hl [0, 1, 2, 3, 4, 5, 6] rfl)
  · have hw := hw.2 h1
    refine lv_iconst (v := 0) hx hb dd_Law_law_970 kc_ic_0 ?_
    exact False.elim hw
def wp_Law_law_912 (L : Nat) (xs : Nat → Int32) (k23 : fw_S → Int32 → Prop) (S : fw_S) (x4 : Int32) : Prop := x4.toNatClampNeg ≤ 2560 ∧ (vp_in (x4 + 1) L ∧ (wp_Law_lose S 0 (xs (x4 + 1 : Int32).toNatClampNeg) 244 (fun S2 r3 => vp_in (x4 + 1) L ∧ (wp_M_lose S2 209 (xs (x4 + 1 : Int32).toNatClampNeg) (fun S5 r6 => wp_M_thrown S5 209 (fun S7 r8 => (((r8 = r3) → ((¬ (r3 = 0) → wp_Law_law_972 L xs  k23 S7 x4 r3 r6) ∧ ((r3 = 0) → vp_in 0 1 ∧ ((((r6 = 0) → wp_Law_law_966 L xs  k23 S7 x4 r3 r6 0 (S7.2 244 ((0 : Int32).toNatClampNeg))) ∧ (¬ (r6 = 0) → wp_Law_law_966 L xs  k23 S7 x4 r3 r6 1 (S7.2 244 ((0 : Int32).toNatClampNeg)))))))) ∧ (¬ (r8 = r3) → False))))))))
set_option maxHeartbeats 4000000 in
set_option maxRecDepth 100000 in
theorem lb_912 {p : Program} {l : Launch} {e : Env} {s : State} {m : MethodId} {below : List Frame} {meth : Method} {c : Code} {bs L b : Nat} {xs : Nat → Int32} {D : va_G} {cA : Nat → ClassId} (X9 : lx_C p l s m meth c bs L b xs D cA) (k23 : fw_S → Int32 → Prop) (K23 : ∀ (S : fw_S) (x4 : Int32) (H : Heap) (locs : List Loc) (ls : Array Slot), k23 S x4 → fw_P D CL cA layU b 245 (fw_v TK layU b S) H → va_S (fw_A b 245) s.heap H locs → lv_has ls 8 [(0, .ref bs), (1, .ref (b + 0)), (2, .ref (b + 209)), (3, .ref (b + 244)), (4, .int x4)] → W p l e room_1 s m #[Value.ref bs] below meth c H locs (245 + x4.toNatClampNeg + 0) (4217 + 6 * x4.toNatClampNeg + 0) (lw_Z below #[Value.ref bs] s) (F0 m 23 ls [])) : ∀ (S : fw_S) (x4 : Int32) (H : Heap) (locs : List Loc) (ls : Array Slot), wp_Law_law_912 L xs k23 S x4 → fw_P D CL cA layU b 245 (fw_v TK layU b S) H → va_S (fw_A b 245) s.heap H locs → lv_has ls 8 [(0, .ref bs), (1, .ref (b + 0)), (2, .ref (b + 209)), (3, .ref (b + 244)), (4, .int x4)] → W p l e room_1 s m #[Value.ref bs] below meth c H locs (245 + x4.toNatClampNeg + 0) (4217 + 6 * x4.toNatClampNeg + 0) (lw_Z below #[Value.ref bs] s) (F0 m 912 ls []) := by
  obtain ⟨hx, hb, hr, hml, hown, hts, hX, hbl, hbA, hb0, hlocks, hl9, hK, hZ⟩ := X9
  intro S x4 H locs ls hw hP hS hl
  unfold wp_Law_law_912 at hw
  obtain ⟨hx4, hw⟩ := hw
  refine lv_aload_n hx hb dd_Law_law_912 rfl (lv_at hl 1 rfl) ?_
  refine lv_aload_n hx hb dd_Law_law_913 rfl (lv_at hl 0 rfl) ?_
  refine lv_iload hx hb dd_Law_law_914 (lv_at hl 4 rfl) ?_
  refine lv_iconst (v := 1) hx hb dd_Law_law_916 kc_ic_1 ?_
  refine lv_iadd hx hb dd_Law_law_917 ?_
  obtain ⟨h1, hw⟩ := hw
  refine va_sld hx hb hX hbl hbA hS h1 dd_Law_law_918 ?_
  refine lv_aload_n hx hb dd_Law_law_919 rfl (lv_at hl 3 rfl) ?_
  refine fw_calli (fw_runSW (As := [.ref (b + 0), .int (xs (x4 + 1 : Int32).toNatClampNeg), .ref (b + 244)]) (rest := []) ⟨hx, hb, hml, hown, hts⟩ (mt_Law_lose l hl9 D cA b S 0 (xs (x4 + 1 : Int32).toNatClampNeg) 244 lx_x lx_o _ hw) 3 (fw_g tw_626) rfl rfl rfl (hts _ (tb_in tw_0)) (hts _ (tb_in tw_624)) (hts _ (tb_in tw_625)) (by decide +kernel) ⟨Nat.le_of_ble_eq_true rfl, Nat.le_of_ble_eq_true rfl⟩ (fw_preSX hP hK hZ hS) rfl rfl hl.1 rfl (lv_room (Nat.le_of_ble_eq_true rfl)) dd_Law_law_920 ⟨(show _ ≤ 601024 by omega), (show _ ≤ 7293034 by omega)⟩) hS (fun S2 r3 H locs hw hP hS => ?_)
  try dsimp only at hw
  refine lv_istore hx hb dd_Law_law_923 hl (Nat.le_of_ble_eq_true rfl) rfl (fun ls hl => ?_)
  have hl : lv_has ls 8 [(5, .int r3), (0, .ref bs), (1, .ref (b + 0)), (2, .ref (b + 209)), (3, .ref (b + 244)), (4, .int x4)] := hl
  refine lv_aload_n hx hb dd_Law_law_925 rfl (lv_at hl 3 rfl) ?_
  refine lv_aload_n hx hb dd_Law_law_926 rfl (lv_at hl 1 rfl) ?_
  refine lv_iload hx hb dd_Law_law_927 (lv_at hl 5 rfl) ?_
  refine lv_iconst (v := 1) hx hb dd_Law_law_929 kc_ic_1 ?_
  refine lv_iadd hx hb dd_Law_law_930 ?_
  obtain ⟨h4, hw⟩ := hw
  refine va_sld hx hb hX hbl hbA hS h4 dd_Law_law_931 ?_
  refine fw_calli (va_runV (As := [.int (xs (x4 + 1 : Int32).toNatClampNeg)]) (rest := []) ⟨hx, hb, hml, hown, hts⟩ (mt_M_lose l D cA b S2 209 (xs (x4 + 1 : Int32).toNatClampNeg) lx_m _ hw) (cwV 1 hts (fw_gV tw_1013 tw_1010 tw_1011 tw_1012 tw_11) rfl rfl rfl (by decide +kernel) ⟨Nat.le_of_ble_eq_true rfl, Nat.le_of_ble_eq_true rfl⟩) (fw_preV hP hK lx_m (by decide) rfl) rfl rfl hl.1 rfl (lv_room (Nat.le_of_ble_eq_true rfl)) dd_Law_law_932 ⟨(show _ ≤ 601024 by omega), (show _ ≤ 7293034 by omega)⟩) hS (fun S5 r6 H locs hw hP hS => ?_)
  try dsimp only at hw
  refine lv_istore hx hb dd_Law_law_935 hl (Nat.le_of_ble_eq_true rfl) rfl (fun ls hl => ?_)
  have hl : lv_has ls 8 [(6, .int r6), (5, .int r3), (0, .ref bs), (1, .ref (b + 0)), (2, .ref (b + 209)), (3, .ref (b + 244)), (4, .int x4)] := hl
  refine lv_aload_n hx hb dd_Law_law_937 rfl (lv_at hl 4 rfl) ?_
  refine fw_calli (va_runV (As := []) (rest := []) ⟨hx, hb, hml, hown, hts⟩ (mt_M_thrown l D cA b S5 209 lx_m _ hw) (cwV 0 hts (fw_gV tw_906 tw_903 tw_904 tw_905 tw_11) rfl rfl rfl (by decide +kernel) ⟨Nat.le_of_ble_eq_true rfl, Nat.le_of_ble_eq_true rfl⟩) (fw_preV hP hK lx_m (by decide) rfl) rfl rfl hl.1 rfl (lv_room (Nat.le_of_ble_eq_true rfl)) dd_Law_law_938 ⟨(show _ ≤ 601024 by omega), (show _ ≤ 7293034 by omega)⟩) hS (fun S7 r8 H locs hw hP hS => ?_)
  try dsimp only at hw
  refine lv_iload hx hb dd_Law_law_941 (lv_at hl 1 rfl) ?_
  refine lv_icmp_eq (tgt := 948) hx hb dd_Law_law_943 (by decide) (fun h9 => ?_) (fun h9 => ?_)
  · have hw := hw.1 h9
    refine lv_iload hx hb dd_Law_law_948 (lv_at hl 1 rfl) ?_
    refine lv_if_ne (tgt := 972) hx hb dd_Law_law_950 (by decide) (fun h10 => ?_) (fun h10 => ?_)
    · have hw := hw.1 h10
      refine W.widen (k := 245 + x4.toNatClampNeg + 1) (n := 4217 + 6 * x4.toNatClampNeg + 6) (by omega) (by omega) ?_
      exact lb_972 ⟨hx, hb, hr, hml, hown, hts, hX, hbl, hbA, hb0, hlocks, hl9, hK, hZ⟩ _ K23 S7 x4 r3 r6 _ _ ls hw hP hS (lv_sub hl [2, 3, 4, 5, 6, 1, 0] rfl)
    · have hw := hw.2 h10
      refine lv_aload_n hx hb dd_Law_law_953 rfl (lv_at hl 5 rfl) ?_
      refine lv_iconst (v := 0) hx hb dd_Law_law_954 kc_ic_0 ?_
      obtain ⟨h11, hw⟩ := hw
      refine fw_lald hx hb hK hP lx_o (by decide) 1 rfl tka_101 h11 dd_Law_law_955 ?_
      refine lv_iload hx hb dd_Law_law_956 (lv_at hl 0 rfl) ?_
      refine lv_if_eq (tgt := 965) hx hb dd_Law_law_958 (by decide) (fun h12 => ?_) (fun h12 => ?_)
      · have hw := hw.1 h12
        refine lv_lconst (v := 0) hx hb dd_Law_law_965 kc_lc_0 ?_
        refine W.widen (k := 245 + x4.toNatClampNeg + 1) (n := 4217 + 6 * x4.toNatClampNeg + 6) (by omega) (by omega) ?_
        exact lb_966 ⟨hx, hb, hr, hml, hown, hts, hX, hbl, hbA, hb0, hlocks, hl9, hK, hZ⟩ _ K23 S7 x4 r3 r6 0 (S7.2 244 ((0 : Int32).toNatClampNeg)) _ _ ls hw hP hS (lv_sub hl [2, 3, 4, 5, 6, 1, 0] rfl)
      · have hw := hw.2 h12
        refine lv_lconst (v := 1) hx hb dd_Law_law_961 kc_lc_1 ?_
        refine lv_goto (tgt := 966) hx hb dd_Law_law_962 (by decide) ?_
        refine W.widen (k := 245 + x4.toNatClampNeg + 1) (n := 4217 + 6 * x4.toNatClampNeg + 6) (by omega) (by omega) ?_
        exact lb_966 ⟨hx, hb, hr, hml, hown, hts, hX, hbl, hbA, hb0, hlocks, hl9, hK, hZ⟩ _ K23 S7 x4 r3 r6 1 (S7.2 244 ((0 : Int32).toNatClampNeg)) _ _ ls hw hP hS (lv_sub hl [2, 3, 4, 5, 6, 1, 0] rfl)
  · have hw := hw.2 h9
    refine lv_iconst (v := 0) hx hb dd_Law_law_946 kc_ic_0 ?_
    exact False.elim hw
