def wp_Law_law_1028 (L : Nat) (xs : Nat → Int32) (k23 : fw_S → Int32 → Prop) (S : fw_S) (x4 : Int32) (x5 : Int32) (x6 : Int32) : Prop := x4.toNatClampNeg ≤ 2560 ∧ (wp_Law_law_1470 L xs  k23 S x4)
set_option maxHeartbeats 4000000 in
set_option maxRecDepth 100000 in
theorem lb_1028 {p : Program} {l : Launch} {e : Env} {s : State} {m : MethodId} {below : List Frame} {meth : Method} {c : Code} {bs L b : Nat} {xs : Nat → Int32} {D : va_G} {cA : Nat → ClassId} (X9 : lx_C p l s m meth c bs L b xs D cA) (k23 : fw_S → Int32 → Prop) (K23 : ∀ (S : fw_S) (x4 : Int32) (H : Heap) (locs : List Loc) (ls : Array Slot), k23 S x4 → fw_P D CL cA layU b 245 (fw_v TK layU b S) H → va_S (fw_A b 245) s.heap H locs → lv_has ls 8 [(0, .ref bs), (1, .ref (b + 0)), (2, .ref (b + 209)), (3, .ref (b + 244)), (4, .int x4)] → W p l e room_1 s m #[Value.ref bs] below meth c H locs (245 + x4.toNatClampNeg + 0) (4217 + 6 * x4.toNatClampNeg + 0) (lw_Z below #[Value.ref bs] s) (F0 m 23 ls [])) : ∀ (S : fw_S) (x4 : Int32) (x5 : Int32) (x6 : Int32) (H : Heap) (locs : List Loc) (ls : Array Slot), wp_Law_law_1028 L xs k23 S x4 x5 x6 → fw_P D CL cA layU b 245 (fw_v TK layU b S) H → va_S (fw_A b 245) s.heap H locs → lv_has ls 8 [(0, .ref bs), (1, .ref (b + 0)), (2, .ref (b + 209)), (3, .ref (b + 244)), (4, .int x4), (5, .int x5), (6, .int x6)] → W p l e room_1 s m #[Value.ref bs] below meth c H locs (245 + x4.toNatClampNeg + 2) (4217 + 6 * x4.toNatClampNeg + 12) (lw_Z below #[Value.ref bs] s) (F0 m 1028 ls []) := by
  obtain ⟨hx, hb, hr, hml, hown, hts, hX, hbl, hbA, hb0, hlocks, hl9, hK, hZ⟩ := X9
  intro S x4 x5 x6 H locs ls hw hP hS hl
  unfold wp_Law_law_1028 at hw
  obtain ⟨hx4, hw⟩ := hw
  refine lv_goto (tgt := 1470) hx hb dd_Law_law_1028 (by decide) ?_
  refine W.widen (k := 245 + x4.toNatClampNeg + 4) (n := 4217 + 6 * x4.toNatClampNeg + 24) (by omega) (by omega) ?_
  exact lb_1470 ⟨hx, hb, hr, hml, hown, hts, hX, hbl, hbA, hb0, hlocks, hl9, hK, hZ⟩ _ K23 S x4 _ _ ls hw hP hS (lv_sub hl [0, 1, 2, 3, 4] rfl)
def wp_Law_law_975 (L : Nat) (xs : Nat → Int32) (k23 : fw_S → Int32 → Prop) (S : fw_S) (x4 : Int32) : Prop := x4.toNatClampNeg ≤ 2560 ∧ (vp_in (x4 + 1) L ∧ (wp_Law_pass S 0 (xs (x4 + 1 : Int32).toNatClampNeg) 244 (fun S2 r3 => vp_in (x4 + 1) L ∧ (wp_M_pass S2 209 (xs (x4 + 1 : Int32).toNatClampNeg) (fun S5 r6 => wp_M_thrown S5 209 (fun S7 r8 => (((r8 = r3) → ((¬ (r3 = 0) → wp_Law_law_1028 L xs  k23 S7 x4 r3 r6) ∧ ((r3 = 0) → vp_in 0 1 ∧ (((((lg_cmp (S7.2 244 ((0 : Int32).toNatClampNeg)) r6.toInt64) = 0) → wp_Law_law_1028 L xs  k23 S7 x4 r3 r6) ∧ (¬ ((lg_cmp (S7.2 244 ((0 : Int32).toNatClampNeg)) r6.toInt64) = 0) → False)))))) ∧ (¬ (r8 = r3) → False))))))))
set_option maxHeartbeats 4000000 in
set_option maxRecDepth 100000 in
theorem lb_975 {p : Program} {l : Launch} {e : Env} {s : State} {m : MethodId} {below : List Frame} {meth : Method} {c : Code} {bs L b : Nat} {xs : Nat → Int32} {D : va_G} {cA : Nat → ClassId} (X9 : lx_C p l s m meth c bs L b xs D cA) (k23 : fw_S → Int32 → Prop) (K23 : ∀ (S : fw_S) (x4 : Int32) (H : Heap) (locs : List Loc) (ls : Array Slot), k23 S x4 → fw_P D CL cA layU b 245 (fw_v TK layU b S) H → va_S (fw_A b 245) s.heap H locs → lv_has ls 8 [(0, .ref bs), (1, .ref (b + 0)), (2, .ref (b + 209)), (3, .ref (b + 244)), (4, .int x4)] → W p l e room_1 s m #[Value.ref bs] below meth c H locs (245 + x4.toNatClampNeg + 0) (4217 + 6 * x4.toNatClampNeg + 0) (lw_Z below #[Value.ref bs] s) (F0 m 23 ls [])) : ∀ (S : fw_S) (x4 : Int32) (H : Heap) (locs : List Loc) (ls : Array Slot), wp_Law_law_975 L xs k23 S x4 → fw_P D CL cA layU b 245 (fw_v TK layU b S) H → va_S (fw_A b 245) s.heap H locs → lv_has ls 8 [(0, .ref bs), (1, .ref (b + 0)), (2, .ref (b + 209)), (3, .ref (b + 244)), (4, .int x4)] → W p l e room_1 s m #[Value.ref bs] below meth c H locs (245 + x4.toNatClampNeg + 0) (4217 + 6 * x4.toNatClampNeg + 0) (lw_Z below #[Value.ref bs] s) (F0 m 975 ls []) := by
  obtain ⟨hx, hb, hr, hml, hown, hts, hX, hbl, hbA, hb0, hlocks, hl9, hK, hZ⟩ := X9
  intro S x4 H locs ls hw hP hS hl
  unfold wp_Law_law_975 at hw
  obtain ⟨hx4, hw⟩ := hw
  refine lv_aload_n hx hb dd_Law_law_975 rfl (lv_at hl 1 rfl) ?_
  refine lv_aload_n hx hb dd_Law_law_976 rfl (lv_at hl 0 rfl) ?_
  refine lv_iload hx hb dd_Law_law_977 (lv_at hl 4 rfl) ?_
  refine lv_iconst (v := 1) hx hb dd_Law_law_979 kc_ic_1 ?_
  refine lv_iadd hx hb dd_Law_law_980 ?_
  obtain ⟨h1, hw⟩ := hw
  refine va_sld hx hb hX hbl hbA hS h1 dd_Law_law_981 ?_
  refine lv_aload_n hx hb dd_Law_law_982 rfl (lv_at hl 3 rfl) ?_
  refine fw_calli (fw_runSW (As := [.ref (b + 0), .int (xs (x4 + 1 : Int32).toNatClampNeg), .ref (b + 244)]) (rest := []) ⟨hx, hb, hml, hown, hts⟩ (mt_Law_pass l hl9 D cA b S 0 (xs (x4 + 1 : Int32).toNatClampNeg) 244 lx_x lx_o _ hw) 3 (fw_g tw_633) rfl rfl rfl (hts _ (tb_in tw_0)) (hts _ (tb_in tw_631)) (hts _ (tb_in tw_632)) (by decide +kernel) ⟨Nat.le_of_ble_eq_true rfl, Nat.le_of_ble_eq_true rfl⟩ (fw_preSX hP hK hZ hS) rfl rfl hl.1 rfl (lv_room (Nat.le_of_ble_eq_true rfl)) dd_Law_law_983 ⟨(show _ ≤ 601024 by omega), (show _ ≤ 7293034 by omega)⟩) hS (fun S2 r3 H locs hw hP hS => ?_)
  try dsimp only at hw
  refine lv_istore hx hb dd_Law_law_986 hl (Nat.le_of_ble_eq_true rfl) rfl (fun ls hl => ?_)
  have hl : lv_has ls 8 [(5, .int r3), (0, .ref bs), (1, .ref (b + 0)), (2, .ref (b + 209)), (3, .ref (b + 244)), (4, .int x4)] := hl
  refine lv_aload_n hx hb dd_Law_law_988 rfl (lv_at hl 3 rfl) ?_
  refine lv_aload_n hx hb dd_Law_law_989 rfl (lv_at hl 1 rfl) ?_
  refine lv_iload hx hb dd_Law_law_990 (lv_at hl 5 rfl) ?_
  refine lv_iconst (v := 1) hx hb dd_Law_law_992 kc_ic_1 ?_
  refine lv_iadd hx hb dd_Law_law_993 ?_
  obtain ⟨h4, hw⟩ := hw
  refine va_sld hx hb hX hbl hbA hS h4 dd_Law_law_994 ?_
  refine fw_calli (va_runV (As := [.int (xs (x4 + 1 : Int32).toNatClampNeg)]) (rest := []) ⟨hx, hb, hml, hown, hts⟩ (mt_M_pass l D cA b S2 209 (xs (x4 + 1 : Int32).toNatClampNeg) lx_m _ hw) (cwV 1 hts (fw_gV tw_1017 tw_1014 tw_1015 tw_1016 tw_11) rfl rfl rfl (by decide +kernel) ⟨Nat.le_of_ble_eq_true rfl, Nat.le_of_ble_eq_true rfl⟩) (fw_preV hP hK lx_m (by decide) rfl) rfl rfl hl.1 rfl (lv_room (Nat.le_of_ble_eq_true rfl)) dd_Law_law_995 ⟨(show _ ≤ 601024 by omega), (show _ ≤ 7293034 by omega)⟩) hS (fun S5 r6 H locs hw hP hS => ?_)
  try dsimp only at hw
  refine lv_istore hx hb dd_Law_law_998 hl (Nat.le_of_ble_eq_true rfl) rfl (fun ls hl => ?_)
  have hl : lv_has ls 8 [(6, .int r6), (5, .int r3), (0, .ref bs), (1, .ref (b + 0)), (2, .ref (b + 209)), (3, .ref (b + 244)), (4, .int x4)] := hl
  refine lv_aload_n hx hb dd_Law_law_1000 rfl (lv_at hl 4 rfl) ?_
  refine fw_calli (va_runV (As := []) (rest := []) ⟨hx, hb, hml, hown, hts⟩ (mt_M_thrown l D cA b S5 209 lx_m _ hw) (cwV 0 hts (fw_gV tw_906 tw_903 tw_904 tw_905 tw_11) rfl rfl rfl (by decide +kernel) ⟨Nat.le_of_ble_eq_true rfl, Nat.le_of_ble_eq_true rfl⟩) (fw_preV hP hK lx_m (by decide) rfl) rfl rfl hl.1 rfl (lv_room (Nat.le_of_ble_eq_true rfl)) dd_Law_law_1001 ⟨(show _ ≤ 601024 by omega), (show _ ≤ 7293034 by omega)⟩) hS (fun S7 r8 H locs hw hP hS => ?_)
  try dsimp only at hw
  refine lv_iload hx hb dd_Law_law_1004 (lv_at hl 1 rfl) ?_
  refine lv_icmp_eq (tgt := 1011) hx hb dd_Law_law_1006 (by decide) (fun h9 => ?_) (fun h9 => ?_)
  · have hw := hw.1 h9
    refine lv_iload hx hb dd_Law_law_1011 (lv_at hl 1 rfl) ?_
    refine lv_if_ne (tgt := 1028) hx hb dd_Law_law_1013 (by decide) (fun h10 => ?_) (fun h10 => ?_)
    · have hw := hw.1 h10
      refine W.widen (k := 245 + x4.toNatClampNeg + 2) (n := 4217 + 6 * x4.toNatClampNeg + 12) (by omega) (by omega) ?_
      exact lb_1028 ⟨hx, hb, hr, hml, hown, hts, hX, hbl, hbA, hb0, hlocks, hl9, hK, hZ⟩ _ K23 S7 x4 r3 r6 _ _ ls hw hP hS (lv_sub hl [2, 3, 4, 5, 6, 1, 0] rfl)
    · have hw := hw.2 h10
      refine lv_aload_n hx hb dd_Law_law_1016 rfl (lv_at hl 5 rfl) ?_
      refine lv_iconst (v := 0) hx hb dd_Law_law_1017 kc_ic_0 ?_
      obtain ⟨h11, hw⟩ := hw
      refine fw_lald hx hb hK hP lx_o (by decide) 1 rfl tka_101 h11 dd_Law_law_1018 ?_
      refine lv_iload hx hb dd_Law_law_1019 (lv_at hl 0 rfl) ?_
      refine lv_i2l hx hb dd_Law_law_1021 rfl ?_
      refine W.lcmp hx hb dd_Law_law_1022 ?_
      refine lv_if_eq (tgt := 1028) hx hb dd_Law_law_1023 (by decide) (fun h12 => ?_) (fun h12 => ?_)
      · have hw := hw.1 h12
        refine W.widen (k := 245 + x4.toNatClampNeg + 2) (n := 4217 + 6 * x4.toNatClampNeg + 12) (by omega) (by omega) ?_
        exact lb_1028 ⟨hx, hb, hr, hml, hown, hts, hX, hbl, hbA, hb0, hlocks, hl9, hK, hZ⟩ _ K23 S7 x4 r3 r6 _ _ ls hw hP hS (lv_sub hl [2, 3, 4, 5, 6, 1, 0] rfl)
      · have hw := hw.2 h12
        refine lv_iconst (v := 0) hx hb dd_Law_law_1026 kc_ic_0 ?_
        exact False.elim hw
  · have hw := hw.2 h9
    refine lv_iconst (v := 0) hx hb dd_Law_law_1009 kc_ic_0 ?_
    exact False.elim hw
def wp_Law_law_1031 (L : Nat) (xs : Nat → Int32) (k23 : fw_S → Int32 → Prop) (S : fw_S) (x4 : Int32) : Prop := x4.toNatClampNeg ≤ 2560 ∧ (wp_Out_time S 0 (fun S1 r2 => wp_M_time S1 209 (fun S3 r4 => (((r2 = r4) → wp_Law_law_1470 L xs  k23 S3 x4) ∧ (¬ (r2 = r4) → False)))))
set_option maxHeartbeats 4000000 in
set_option maxRecDepth 100000 in
theorem lb_1031 {p : Program} {l : Launch} {e : Env} {s : State} {m : MethodId} {below : List Frame} {meth : Method} {c : Code} {bs L b : Nat} {xs : Nat → Int32} {D : va_G} {cA : Nat → ClassId} (X9 : lx_C p l s m meth c bs L b xs D cA) (k23 : fw_S → Int32 → Prop) (K23 : ∀ (S : fw_S) (x4 : Int32) (H : Heap) (locs : List Loc) (ls : Array Slot), k23 S x4 → fw_P D CL cA layU b 245 (fw_v TK layU b S) H → va_S (fw_A b 245) s.heap H locs → lv_has ls 8 [(0, .ref bs), (1, .ref (b + 0)), (2, .ref (b + 209)), (3, .ref (b + 244)), (4, .int x4)] → W p l e room_1 s m #[Value.ref bs] below meth c H locs (245 + x4.toNatClampNeg + 0) (4217 + 6 * x4.toNatClampNeg + 0) (lw_Z below #[Value.ref bs] s) (F0 m 23 ls [])) : ∀ (S : fw_S) (x4 : Int32) (H : Heap) (locs : List Loc) (ls : Array Slot), wp_Law_law_1031 L xs k23 S x4 → fw_P D CL cA layU b 245 (fw_v TK layU b S) H → va_S (fw_A b 245) s.heap H locs → lv_has ls 8 [(0, .ref bs), (1, .ref (b + 0)), (2, .ref (b + 209)), (3, .ref (b + 244)), (4, .int x4)] → W p l e room_1 s m #[Value.ref bs] below meth c H locs (245 + x4.toNatClampNeg + 0) (4217 + 6 * x4.toNatClampNeg + 0) (lw_Z below #[Value.ref bs] s) (F0 m 1031 ls []) := by
  obtain ⟨hx, hb, hr, hml, hown, hts, hX, hbl, hbA, hb0, hlocks, hl9, hK, hZ⟩ := X9
  intro S x4 H locs ls hw hP hS hl
  unfold wp_Law_law_1031 at hw
  obtain ⟨hx4, hw⟩ := hw
  refine lv_aload_n hx hb dd_Law_law_1031 rfl (lv_at hl 1 rfl) ?_
  refine fw_calli (va_runV (As := []) (rest := []) ⟨hx, hb, hml, hown, hts⟩ (mt_Out_time l D cA b S 0 lx_x _ hw) (cwV 0 hts (fw_gV tw_314 tw_311 tw_312 tw_313 tw_1) rfl rfl rfl (by decide +kernel) ⟨Nat.le_of_ble_eq_true rfl, Nat.le_of_ble_eq_true rfl⟩) (fw_preV hP hK lx_x (by decide) rfl) rfl rfl hl.1 rfl (lv_room (Nat.le_of_ble_eq_true rfl)) dd_Law_law_1032 ⟨(show _ ≤ 601024 by omega), (show _ ≤ 7293034 by omega)⟩) hS (fun S1 r2 H locs hw hP hS => ?_)
  try dsimp only at hw
  refine lv_aload_n hx hb dd_Law_law_1035 rfl (lv_at hl 2 rfl) ?_
  refine fw_calli (va_runV (As := []) (rest := [.int r2]) ⟨hx, hb, hml, hown, hts⟩ (mt_M_time l D cA b S1 209 lx_m _ hw) (cwV 0 hts (fw_gV tw_1047 tw_1044 tw_1045 tw_1046 tw_11) rfl rfl rfl (by decide +kernel) ⟨Nat.le_of_ble_eq_true rfl, Nat.le_of_ble_eq_true rfl⟩) (fw_preV hP hK lx_m (by decide) rfl) rfl rfl hl.1 rfl (lv_room (Nat.le_of_ble_eq_true rfl)) dd_Law_law_1036 ⟨(show _ ≤ 601024 by omega), (show _ ≤ 7293034 by omega)⟩) hS (fun S3 r4 H locs hw hP hS => ?_)
  try dsimp only at hw
  refine lv_icmp_eq (tgt := 1470) hx hb dd_Law_law_1039 (by decide) (fun h5 => ?_) (fun h5 => ?_)
  · have hw := hw.1 h5
    refine W.widen (k := 245 + x4.toNatClampNeg + 4) (n := 4217 + 6 * x4.toNatClampNeg + 24) (by omega) (by omega) ?_
    exact lb_1470 ⟨hx, hb, hr, hml, hown, hts, hX, hbl, hbA, hb0, hlocks, hl9, hK, hZ⟩ _ K23 S3 x4 _ _ ls hw hP hS (lv_sub hl [0, 1, 2, 3, 4] rfl)
  · have hw := hw.2 h5
    refine lv_iconst (v := 0) hx hb dd_Law_law_1042 kc_ic_0 ?_
    exact False.elim hw
def wp_Law_law_1097 (L : Nat) (xs : Nat → Int32) (k23 : fw_S → Int32 → Prop) (S : fw_S) (x4 : Int32) (x5 : Int32) (x6 : Int32) : Prop := x4.toNatClampNeg ≤ 2560 ∧ (wp_Law_law_1470 L xs  k23 S x4)
set_option maxHeartbeats 4000000 in
set_option maxRecDepth 100000 in
theorem lb_1097 {p : Program} {l : Launch} {e : Env} {s : State} {m : MethodId} {below : List Frame} {meth : Method} {c : Code} {bs L b : Nat} {xs : Nat → Int32} {D : va_G} {cA : Nat → ClassId} (X9 : lx_C p l s m meth c bs L b xs D cA) (k23 : fw_S → Int32 → Prop) (K23 : ∀ (S : fw_S) (x4 : Int32) (H : Heap) (locs : List Loc) (ls : Array Slot), k23 S x4 → fw_P D CL cA layU b 245 (fw_v TK layU b S) H → va_S (fw_A b 245) s.heap H locs → lv_has ls 8 [(0, .ref bs), (1, .ref (b + 0)), (2, .ref (b + 209)), (3, .ref (b + 244)), (4, .int x4)] → W p l e room_1 s m #[Value.ref bs] below meth c H locs (245 + x4.toNatClampNeg + 0) (4217 + 6 * x4.toNatClampNeg + 0) (lw_Z below #[Value.ref bs] s) (F0 m 23 ls [])) : ∀ (S : fw_S) (x4 : Int32) (x5 : Int32) (x6 : Int32) (H : Heap) (locs : List Loc) (ls : Array Slot), wp_Law_law_1097 L xs k23 S x4 x5 x6 → fw_P D CL cA layU b 245 (fw_v TK layU b S) H → va_S (fw_A b 245) s.heap H locs → lv_has ls 8 [(0, .ref bs), (1, .ref (b + 0)), (2, .ref (b + 209)), (3, .ref (b + 244)), (4, .int x4), (5, .int x5), (6, .int x6)] → W p l e room_1 s m #[Value.ref bs] below meth c H locs (245 + x4.toNatClampNeg + 1) (4217 + 6 * x4.toNatClampNeg + 6) (lw_Z below #[Value.ref bs] s) (F0 m 1097 ls []) := by
  obtain ⟨hx, hb, hr, hml, hown, hts, hX, hbl, hbA, hb0, hlocks, hl9, hK, hZ⟩ := X9
  intro S x4 x5 x6 H locs ls hw hP hS hl
  unfold wp_Law_law_1097 at hw
  obtain ⟨hx4, hw⟩ := hw
  refine lv_goto (tgt := 1470) hx hb dd_Law_law_1097 (by decide) ?_
  refine W.widen (k := 245 + x4.toNatClampNeg + 4) (n := 4217 + 6 * x4.toNatClampNeg + 24) (by omega) (by omega) ?_
  exact lb_1470 ⟨hx, hb, hr, hml, hown, hts, hX, hbl, hbA, hb0, hlocks, hl9, hK, hZ⟩ _ K23 S x4 _ _ ls hw hP hS (lv_sub hl [0, 1, 2, 3, 4] rfl)
def wp_Law_law_1044 (L : Nat) (xs : Nat → Int32) (k23 : fw_S → Int32 → Prop) (S : fw_S) (x4 : Int32) : Prop := x4.toNatClampNeg ≤ 2560 ∧ (vp_in (x4 + 1) L ∧ (wp_Law_current S 0 (xs (x4 + 1 : Int32).toNatClampNeg) 244 (fun S2 r3 => vp_in (x4 + 1) L ∧ (wp_M_current S2 209 (xs (x4 + 1 : Int32).toNatClampNeg) (fun S5 r6 => wp_M_thrown S5 209 (fun S7 r8 => (((r8 = r3) → ((¬ (r3 = 0) → wp_Law_law_1097 L xs  k23 S7 x4 r3 r6) ∧ ((r3 = 0) → vp_in 0 1 ∧ (((((lg_cmp (S7.2 244 ((0 : Int32).toNatClampNeg)) r6.toInt64) = 0) → wp_Law_law_1097 L xs  k23 S7 x4 r3 r6) ∧ (¬ ((lg_cmp (S7.2 244 ((0 : Int32).toNatClampNeg)) r6.toInt64) = 0) → False)))))) ∧ (¬ (r8 = r3) → False))))))))
set_option maxHeartbeats 4000000 in
set_option maxRecDepth 100000 in
theorem lb_1044 {p : Program} {l : Launch} {e : Env} {s : State} {m : MethodId} {below : List Frame} {meth : Method} {c : Code} {bs L b : Nat} {xs : Nat → Int32} {D : va_G} {cA : Nat → ClassId} (X9 : lx_C p l s m meth c bs L b xs D cA) (k23 : fw_S → Int32 → Prop) (K23 : ∀ (S : fw_S) (x4 : Int32) (H : Heap) (locs : List Loc) (ls : Array Slot), k23 S x4 → fw_P D CL cA layU b 245 (fw_v TK layU b S) H → va_S (fw_A b 245) s.heap H locs → lv_has ls 8 [(0, .ref bs), (1, .ref (b + 0)), (2, .ref (b + 209)), (3, .ref (b + 244)), (4, .int x4)] → W p l e room_1 s m #[Value.ref bs] below meth c H locs (245 + x4.toNatClampNeg + 0) (4217 + 6 * x4.toNatClampNeg + 0) (lw_Z below #[Value.ref bs] s) (F0 m 23 ls [])) : ∀ (S : fw_S) (x4 : Int32) (H : Heap) (locs : List Loc) (ls : Array Slot), wp_Law_law_1044 L xs k23 S x4 → fw_P D CL cA layU b 245 (fw_v TK layU b S) H → va_S (fw_A b 245) s.heap H locs → lv_has ls 8 [(0, .ref bs), (1, .ref (b + 0)), (2, .ref (b + 209)), (3, .ref (b + 244)), (4, .int x4)] → W p l e room_1 s m #[Value.ref bs] below meth c H locs (245 + x4.toNatClampNeg + 0) (4217 + 6 * x4.toNatClampNeg + 0) (lw_Z below #[Value.ref bs] s) (F0 m 1044 ls []) := by
  obtain ⟨hx, hb, hr, hml, hown, hts, hX, hbl, hbA, hb0, hlocks, hl9, hK, hZ⟩ := X9
  intro S x4 H locs ls hw hP hS hl
  unfold wp_Law_law_1044 at hw
  obtain ⟨hx4, hw⟩ := hw
  refine lv_aload_n hx hb dd_Law_law_1044 rfl (lv_at hl 1 rfl) ?_
  refine lv_aload_n hx hb dd_Law_law_1045 rfl (lv_at hl 0 rfl) ?_
  refine lv_iload hx hb dd_Law_law_1046 (lv_at hl 4 rfl) ?_
  refine lv_iconst (v := 1) hx hb dd_Law_law_1048 kc_ic_1 ?_
  refine lv_iadd hx hb dd_Law_law_1049 ?_
  obtain ⟨h1, hw⟩ := hw
  refine va_sld hx hb hX hbl hbA hS h1 dd_Law_law_1050 ?_
  refine lv_aload_n hx hb dd_Law_law_1051 rfl (lv_at hl 3 rfl) ?_
  refine fw_calli (fw_runSW (As := [.ref (b + 0), .int (xs (x4 + 1 : Int32).toNatClampNeg), .ref (b + 244)]) (rest := []) ⟨hx, hb, hml, hown, hts⟩ (mt_Law_current l hl9 D cA b S 0 (xs (x4 + 1 : Int32).toNatClampNeg) 244 lx_x lx_o _ hw) 3 (fw_g tw_723) rfl rfl rfl (hts _ (tb_in tw_0)) (hts _ (tb_in tw_721)) (hts _ (tb_in tw_722)) (by decide +kernel) ⟨Nat.le_of_ble_eq_true rfl, Nat.le_of_ble_eq_true rfl⟩ (fw_preSX hP hK hZ hS) rfl rfl hl.1 rfl (lv_room (Nat.le_of_ble_eq_true rfl)) dd_Law_law_1052 ⟨(show _ ≤ 601024 by omega), (show _ ≤ 7293034 by omega)⟩) hS (fun S2 r3 H locs hw hP hS => ?_)
  try dsimp only at hw
  refine lv_istore hx hb dd_Law_law_1055 hl (Nat.le_of_ble_eq_true rfl) rfl (fun ls hl => ?_)
  have hl : lv_has ls 8 [(5, .int r3), (0, .ref bs), (1, .ref (b + 0)), (2, .ref (b + 209)), (3, .ref (b + 244)), (4, .int x4)] := hl
  refine lv_aload_n hx hb dd_Law_law_1057 rfl (lv_at hl 3 rfl) ?_
  refine lv_aload_n hx hb dd_Law_law_1058 rfl (lv_at hl 1 rfl) ?_
  refine lv_iload hx hb dd_Law_law_1059 (lv_at hl 5 rfl) ?_
  refine lv_iconst (v := 1) hx hb dd_Law_law_1061 kc_ic_1 ?_
  refine lv_iadd hx hb dd_Law_law_1062 ?_
  obtain ⟨h4, hw⟩ := hw
  refine va_sld hx hb hX hbl hbA hS h4 dd_Law_law_1063 ?_
  refine fw_calli (va_runV (As := [.int (xs (x4 + 1 : Int32).toNatClampNeg)]) (rest := []) ⟨hx, hb, hml, hown, hts⟩ (mt_M_current l D cA b S2 209 (xs (x4 + 1 : Int32).toNatClampNeg) lx_m _ hw) (cwV 1 hts (fw_gV tw_1051 tw_1048 tw_1049 tw_1050 tw_11) rfl rfl rfl (by decide +kernel) ⟨Nat.le_of_ble_eq_true rfl, Nat.le_of_ble_eq_true rfl⟩) (fw_preV hP hK lx_m (by decide) rfl) rfl rfl hl.1 rfl (lv_room (Nat.le_of_ble_eq_true rfl)) dd_Law_law_1064 ⟨(show _ ≤ 601024 by omega), (show _ ≤ 7293034 by omega)⟩) hS (fun S5 r6 H locs hw hP hS => ?_)
  try dsimp only at hw
  refine lv_istore hx hb dd_Law_law_1067 hl (Nat.le_of_ble_eq_true rfl) rfl (fun ls hl => ?_)
  have hl : lv_has ls 8 [(6, .int r6), (5, .int r3), (0, .ref bs), (1, .ref (b + 0)), (2, .ref (b + 209)), (3, .ref (b + 244)), (4, .int x4)] := hl
  refine lv_aload_n hx hb dd_Law_law_1069 rfl (lv_at hl 4 rfl) ?_
  refine fw_calli (va_runV (As := []) (rest := []) ⟨hx, hb, hml, hown, hts⟩ (mt_M_thrown l D cA b S5 209 lx_m _ hw) (cwV 0 hts (fw_gV tw_906 tw_903 tw_904 tw_905 tw_11) rfl rfl rfl (by decide +kernel) ⟨Nat.le_of_ble_eq_true rfl, Nat.le_of_ble_eq_true rfl⟩) (fw_preV hP hK lx_m (by decide) rfl) rfl rfl hl.1 rfl (lv_room (Nat.le_of_ble_eq_true rfl)) dd_Law_law_1070 ⟨(show _ ≤ 601024 by omega), (show _ ≤ 7293034 by omega)⟩) hS (fun S7 r8 H locs hw hP hS => ?_)
  try dsimp only at hw
  refine lv_iload hx hb dd_Law_law_1073 (lv_at hl 1 rfl) ?_
  refine lv_icmp_eq (tgt := 1080) hx hb dd_Law_law_1075 (by decide) (fun h9 => ?_) (fun h9 => ?_)
  · have hw := hw.1 h9
    refine lv_iload hx hb dd_Law_law_1080 (lv_at hl 1 rfl) ?_
    refine lv_if_ne (tgt := 1097) hx hb dd_Law_law_1082 (by decide) (fun h10 => ?_) (fun h10 => ?_)
    · have hw := hw.1 h10
      refine W.widen (k := 245 + x4.toNatClampNeg + 1) (n := 4217 + 6 * x4.toNatClampNeg + 6) (by omega) (by omega) ?_
      exact lb_1097 ⟨hx, hb, hr, hml, hown, hts, hX, hbl, hbA, hb0, hlocks, hl9, hK, hZ⟩ _ K23 S7 x4 r3 r6 _ _ ls hw hP hS (lv_sub hl [2, 3, 4, 5, 6, 1, 0] rfl)
    · have hw := hw.2 h10
      refine lv_aload_n hx hb dd_Law_law_1085 rfl (lv_at hl 5 rfl) ?_
      refine lv_iconst (v := 0) hx hb dd_Law_law_1086 kc_ic_0 ?_
      obtain ⟨h11, hw⟩ := hw
      refine fw_lald hx hb hK hP lx_o (by decide) 1 rfl tka_101 h11 dd_Law_law_1087 ?_
      refine lv_iload hx hb dd_Law_law_1088 (lv_at hl 0 rfl) ?_
      refine lv_i2l hx hb dd_Law_law_1090 rfl ?_
      refine W.lcmp hx hb dd_Law_law_1091 ?_
      refine lv_if_eq (tgt := 1097) hx hb dd_Law_law_1092 (by decide) (fun h12 => ?_) (fun h12 => ?_)
      · have hw := hw.1 h12
        refine W.widen (k := 245 + x4.toNatClampNeg + 1) (n := 4217 + 6 * x4.toNatClampNeg + 6) (by omega) (by omega) ?_
        exact lb_1097 ⟨hx, hb, hr, hml, hown, hts, hX, hbl, hbA, hb0, hlocks, hl9, hK, hZ⟩ _ K23 S7 x4 r3 r6 _ _ ls hw hP hS (lv_sub hl [2, 3, 4, 5, 6, 1, 0] rfl)
      · have hw := hw.2 h12
        refine lv_iconst (v := 0) hx hb dd_Law_law_1095 kc_ic_0 ?_
        exact False.elim hw
  · have hw := hw.2 h9
    refine lv_iconst (v := 0) hx hb dd_Law_law_1078 kc_ic_0 ?_
    exact False.elim hw
def wp_Law_law_1153 (L : Nat) (xs : Nat → Int32) (k23 : fw_S → Int32 → Prop) (S : fw_S) (x4 : Int32) (x5 : Int32) (x6 : Int32) : Prop := x4.toNatClampNeg ≤ 2560 ∧ (wp_Law_law_1470 L xs  k23 S x4)
set_option maxHeartbeats 4000000 in
set_option maxRecDepth 100000 in
theorem lb_1153 {p : Program} {l : Launch} {e : Env} {s : State} {m : MethodId} {below : List Frame} {meth : Method} {c : Code} {bs L b : Nat} {xs : Nat → Int32} {D : va_G} {cA : Nat → ClassId} (X9 : lx_C p l s m meth c bs L b xs D cA) (k23 : fw_S → Int32 → Prop) (K23 : ∀ (S : fw_S) (x4 : Int32) (H : Heap) (locs : List Loc) (ls : Array Slot), k23 S x4 → fw_P D CL cA layU b 245 (fw_v TK layU b S) H → va_S (fw_A b 245) s.heap H locs → lv_has ls 8 [(0, .ref bs), (1, .ref (b + 0)), (2, .ref (b + 209)), (3, .ref (b + 244)), (4, .int x4)] → W p l e room_1 s m #[Value.ref bs] below meth c H locs (245 + x4.toNatClampNeg + 0) (4217 + 6 * x4.toNatClampNeg + 0) (lw_Z below #[Value.ref bs] s) (F0 m 23 ls [])) : ∀ (S : fw_S) (x4 : Int32) (x5 : Int32) (x6 : Int32) (H : Heap) (locs : List Loc) (ls : Array Slot), wp_Law_law_1153 L xs k23 S x4 x5 x6 → fw_P D CL cA layU b 245 (fw_v TK layU b S) H → va_S (fw_A b 245) s.heap H locs → lv_has ls 8 [(0, .ref bs), (1, .ref (b + 0)), (2, .ref (b + 209)), (3, .ref (b + 244)), (4, .int x4), (5, .int x5), (6, .int x6)] → W p l e room_1 s m #[Value.ref bs] below meth c H locs (245 + x4.toNatClampNeg + 1) (4217 + 6 * x4.toNatClampNeg + 6) (lw_Z below #[Value.ref bs] s) (F0 m 1153 ls []) := by
  obtain ⟨hx, hb, hr, hml, hown, hts, hX, hbl, hbA, hb0, hlocks, hl9, hK, hZ⟩ := X9
  intro S x4 x5 x6 H locs ls hw hP hS hl
  unfold wp_Law_law_1153 at hw
  obtain ⟨hx4, hw⟩ := hw
  refine lv_goto (tgt := 1470) hx hb dd_Law_law_1153 (by decide) ?_
  refine W.widen (k := 245 + x4.toNatClampNeg + 4) (n := 4217 + 6 * x4.toNatClampNeg + 24) (by omega) (by omega) ?_
  exact lb_1470 ⟨hx, hb, hr, hml, hown, hts, hX, hbl, hbA, hb0, hlocks, hl9, hK, hZ⟩ _ K23 S x4 _ _ ls hw hP hS (lv_sub hl [0, 1, 2, 3, 4] rfl)
def wp_Law_law_1100 (L : Nat) (xs : Nat → Int32) (k23 : fw_S → Int32 → Prop) (S : fw_S) (x4 : Int32) : Prop := x4.toNatClampNeg ≤ 2560 ∧ (vp_in (x4 + 1) L ∧ (wp_Law_sum S 0 (xs (x4 + 1 : Int32).toNatClampNeg) 244 (fun S2 r3 => vp_in (x4 + 1) L ∧ (wp_M_sum S2 209 (xs (x4 + 1 : Int32).toNatClampNeg) (fun S5 r6 => wp_M_thrown S5 209 (fun S7 r8 => (((r8 = r3) → ((¬ (r3 = 0) → wp_Law_law_1153 L xs  k23 S7 x4 r3 r6) ∧ ((r3 = 0) → vp_in 0 1 ∧ (((((lg_cmp (S7.2 244 ((0 : Int32).toNatClampNeg)) r6.toInt64) = 0) → wp_Law_law_1153 L xs  k23 S7 x4 r3 r6) ∧ (¬ ((lg_cmp (S7.2 244 ((0 : Int32).toNatClampNeg)) r6.toInt64) = 0) → False)))))) ∧ (¬ (r8 = r3) → False))))))))
set_option maxHeartbeats 4000000 in
set_option maxRecDepth 100000 in
theorem lb_1100 {p : Program} {l : Launch} {e : Env} {s : State} {m : MethodId} {below : List Frame} {meth : Method} {c : Code} {bs L b : Nat} {xs : Nat → Int32} {D : va_G} {cA : Nat → ClassId} (X9 : lx_C p l s m meth c bs L b xs D cA) (k23 : fw_S → Int32 → Prop) (K23 : ∀ (S : fw_S) (x4 : Int32) (H : Heap) (locs : List Loc) (ls : Array Slot), k23 S x4 → fw_P D CL cA layU b 245 (fw_v TK layU b S) H → va_S (fw_A b 245) s.heap H locs → lv_has ls 8 [(0, .ref bs), (1, .ref (b + 0)), (2, .ref (b + 209)), (3, .ref (b + 244)), (4, .int x4)] → W p l e room_1 s m #[Value.ref bs] below meth c H locs (245 + x4.toNatClampNeg + 0) (4217 + 6 * x4.toNatClampNeg + 0) (lw_Z below #[Value.ref bs] s) (F0 m 23 ls [])) : ∀ (S : fw_S) (x4 : Int32) (H : Heap) (locs : List Loc) (ls : Array Slot), wp_Law_law_1100 L xs k23 S x4 → fw_P D CL cA layU b 245 (fw_v TK layU b S) H → va_S (fw_A b 245) s.heap H locs → lv_has ls 8 [(0, .ref bs), (1, .ref (b + 0)), (2, .ref (b + 209)), (3, .ref (b + 244)), (4, .int x4)] → W p l e room_1 s m #[Value.ref bs] below meth c H locs (245 + x4.toNatClampNeg + 0) (4217 + 6 * x4.toNatClampNeg + 0) (lw_Z below #[Value.ref bs] s) (F0 m 1100 ls []) := by
  obtain ⟨hx, hb, hr, hml, hown, hts, hX, hbl, hbA, hb0, hlocks, hl9, hK, hZ⟩ := X9
  intro S x4 H locs ls hw hP hS hl
  unfold wp_Law_law_1100 at hw
  obtain ⟨hx4, hw⟩ := hw
  refine lv_aload_n hx hb dd_Law_law_1100 rfl (lv_at hl 1 rfl) ?_
  refine lv_aload_n hx hb dd_Law_law_1101 rfl (lv_at hl 0 rfl) ?_
  refine lv_iload hx hb dd_Law_law_1102 (lv_at hl 4 rfl) ?_
  refine lv_iconst (v := 1) hx hb dd_Law_law_1104 kc_ic_1 ?_
  refine lv_iadd hx hb dd_Law_law_1105 ?_
  obtain ⟨h1, hw⟩ := hw
  refine va_sld hx hb hX hbl hbA hS h1 dd_Law_law_1106 ?_
  refine lv_aload_n hx hb dd_Law_law_1107 rfl (lv_at hl 3 rfl) ?_
  refine fw_calli (fw_runSW (As := [.ref (b + 0), .int (xs (x4 + 1 : Int32).toNatClampNeg), .ref (b + 244)]) (rest := []) ⟨hx, hb, hml, hown, hts⟩ (mt_Law_sum l hl9 D cA b S 0 (xs (x4 + 1 : Int32).toNatClampNeg) 244 lx_x lx_o _ hw) 3 (fw_g tw_730) rfl rfl rfl (hts _ (tb_in tw_0)) (hts _ (tb_in tw_728)) (hts _ (tb_in tw_729)) (by decide +kernel) ⟨Nat.le_of_ble_eq_true rfl, Nat.le_of_ble_eq_true rfl⟩ (fw_preSX hP hK hZ hS) rfl rfl hl.1 rfl (lv_room (Nat.le_of_ble_eq_true rfl)) dd_Law_law_1108 ⟨(show _ ≤ 601024 by omega), (show _ ≤ 7293034 by omega)⟩) hS (fun S2 r3 H locs hw hP hS => ?_)
  try dsimp only at hw
  refine lv_istore hx hb dd_Law_law_1111 hl (Nat.le_of_ble_eq_true rfl) rfl (fun ls hl => ?_)
  have hl : lv_has ls 8 [(5, .int r3), (0, .ref bs), (1, .ref (b + 0)), (2, .ref (b + 209)), (3, .ref (b + 244)), (4, .int x4)] := hl
  refine lv_aload_n hx hb dd_Law_law_1113 rfl (lv_at hl 3 rfl) ?_
  refine lv_aload_n hx hb dd_Law_law_1114 rfl (lv_at hl 1 rfl) ?_
  refine lv_iload hx hb dd_Law_law_1115 (lv_at hl 5 rfl) ?_
  refine lv_iconst (v := 1) hx hb dd_Law_law_1117 kc_ic_1 ?_
  refine lv_iadd hx hb dd_Law_law_1118 ?_
  obtain ⟨h4, hw⟩ := hw
  refine va_sld hx hb hX hbl hbA hS h4 dd_Law_law_1119 ?_
  refine fw_calli (va_runV (As := [.int (xs (x4 + 1 : Int32).toNatClampNeg)]) (rest := []) ⟨hx, hb, hml, hown, hts⟩ (mt_M_sum l D cA b S2 209 (xs (x4 + 1 : Int32).toNatClampNeg) lx_m _ hw) (cwV 1 hts (fw_gV tw_1055 tw_1052 tw_1053 tw_1054 tw_11) rfl rfl rfl (by decide +kernel) ⟨Nat.le_of_ble_eq_true rfl, Nat.le_of_ble_eq_true rfl⟩) (fw_preV hP hK lx_m (by decide) rfl) rfl rfl hl.1 rfl (lv_room (Nat.le_of_ble_eq_true rfl)) dd_Law_law_1120 ⟨(show _ ≤ 601024 by omega), (show _ ≤ 7293034 by omega)⟩) hS (fun S5 r6 H locs hw hP hS => ?_)
  try dsimp only at hw
  refine lv_istore hx hb dd_Law_law_1123 hl (Nat.le_of_ble_eq_true rfl) rfl (fun ls hl => ?_)
  have hl : lv_has ls 8 [(6, .int r6), (5, .int r3), (0, .ref bs), (1, .ref (b + 0)), (2, .ref (b + 209)), (3, .ref (b + 244)), (4, .int x4)] := hl
  refine lv_aload_n hx hb dd_Law_law_1125 rfl (lv_at hl 4 rfl) ?_
  refine fw_calli (va_runV (As := []) (rest := []) ⟨hx, hb, hml, hown, hts⟩ (mt_M_thrown l D cA b S5 209 lx_m _ hw) (cwV 0 hts (fw_gV tw_906 tw_903 tw_904 tw_905 tw_11) rfl rfl rfl (by decide +kernel) ⟨Nat.le_of_ble_eq_true rfl, Nat.le_of_ble_eq_true rfl⟩) (fw_preV hP hK lx_m (by decide) rfl) rfl rfl hl.1 rfl (lv_room (Nat.le_of_ble_eq_true rfl)) dd_Law_law_1126 ⟨(show _ ≤ 601024 by omega), (show _ ≤ 7293034 by omega)⟩) hS (fun S7 r8 H locs hw hP hS => ?_)
  try dsimp only at hw
  refine lv_iload hx hb dd_Law_law_1129 (lv_at hl 1 rfl) ?_
  refine lv_icmp_eq (tgt := 1136) hx hb dd_Law_law_1131 (by decide) (fun h9 => ?_) (fun h9 => ?_)
  · have hw := hw.1 h9
    refine lv_iload hx hb dd_Law_law_1136 (lv_at hl 1 rfl) ?_
    refine lv_if_ne (tgt := 1153) hx hb dd_Law_law_1138 (by decide) (fun h10 => ?_) (fun h10 => ?_)
    · have hw := hw.1 h10
      refine W.widen (k := 245 + x4.toNatClampNeg + 1) (n := 4217 + 6 * x4.toNatClampNeg + 6) (by omega) (by omega) ?_
      exact lb_1153 ⟨hx, hb, hr, hml, hown, hts, hX, hbl, hbA, hb0, hlocks, hl9, hK, hZ⟩ _ K23 S7 x4 r3 r6 _ _ ls hw hP hS (lv_sub hl [2, 3, 4, 5, 6, 1, 0] rfl)
    · have hw := hw.2 h10
      refine lv_aload_n hx hb dd_Law_law_1141 rfl (lv_at hl 5 rfl) ?_
      refine lv_iconst (v := 0) hx hb dd_Law_law_1142 kc_ic_0 ?_
      obtain ⟨h11, hw⟩ := hw
      refine fw_lald hx hb hK hP lx_o (by decide) 1 rfl tka_101 h11 dd_Law_law_1143 ?_
      refine lv_iload hx hb dd_Law_law_1144 (lv_at hl 0 rfl) ?_
      refine lv_i2l hx hb dd_Law_law_1146 rfl ?_
      refine W.lcmp hx hb dd_Law_law_1147 ?_
      refine lv_if_eq (tgt := 1153) hx hb dd_Law_law_1148 (by decide) (fun h12 => ?_) (fun h12 => ?_)
      · have hw := hw.1 h12
        refine W.widen (k := 245 + x4.toNatClampNeg + 1) (n := 4217 + 6 * x4.toNatClampNeg + 6) (by omega) (by omega) ?_
        exact lb_1153 ⟨hx, hb, hr, hml, hown, hts, hX, hbl, hbA, hb0, hlocks, hl9, hK, hZ⟩ _ K23 S7 x4 r3 r6 _ _ ls hw hP hS (lv_sub hl [2, 3, 4, 5, 6, 1, 0] rfl)
      · have hw := hw.2 h12
        refine lv_iconst (v := 0) hx hb dd_Law_law_1151 kc_ic_0 ?_
        exact False.elim hw
  · have hw := hw.2 h9
    refine lv_iconst (v := 0) hx hb dd_Law_law_1134 kc_ic_0 ?_
    exact False.elim hw
def wp_Law_law_1208 (L : Nat) (xs : Nat → Int32) (k23 : fw_S → Int32 → Prop) (S : fw_S) (x4 : Int32) (x5 : Int32) (y6 : Int64) : Prop := x4.toNatClampNeg ≤ 2560 ∧ (wp_Law_law_1470 L xs  k23 S x4)
set_option maxHeartbeats 4000000 in
set_option maxRecDepth 100000 in
theorem lb_1208 {p : Program} {l : Launch} {e : Env} {s : State} {m : MethodId} {below : List Frame} {meth : Method} {c : Code} {bs L b : Nat} {xs : Nat → Int32} {D : va_G} {cA : Nat → ClassId} (X9 : lx_C p l s m meth c bs L b xs D cA) (k23 : fw_S → Int32 → Prop) (K23 : ∀ (S : fw_S) (x4 : Int32) (H : Heap) (locs : List Loc) (ls : Array Slot), k23 S x4 → fw_P D CL cA layU b 245 (fw_v TK layU b S) H → va_S (fw_A b 245) s.heap H locs → lv_has ls 8 [(0, .ref bs), (1, .ref (b + 0)), (2, .ref (b + 209)), (3, .ref (b + 244)), (4, .int x4)] → W p l e room_1 s m #[Value.ref bs] below meth c H locs (245 + x4.toNatClampNeg + 0) (4217 + 6 * x4.toNatClampNeg + 0) (lw_Z below #[Value.ref bs] s) (F0 m 23 ls [])) : ∀ (S : fw_S) (x4 : Int32) (x5 : Int32) (y6 : Int64) (H : Heap) (locs : List Loc) (ls : Array Slot), wp_Law_law_1208 L xs k23 S x4 x5 y6 → fw_P D CL cA layU b 245 (fw_v TK layU b S) H → va_S (fw_A b 245) s.heap H locs → lv_has ls 8 [(0, .ref bs), (1, .ref (b + 0)), (2, .ref (b + 209)), (3, .ref (b + 244)), (4, .int x4), (5, .int x5), (6, .long y6)] → W p l e room_1 s m #[Value.ref bs] below meth c H locs (245 + x4.toNatClampNeg + 1) (4217 + 6 * x4.toNatClampNeg + 6) (lw_Z below #[Value.ref bs] s) (F0 m 1208 ls []) := by
  obtain ⟨hx, hb, hr, hml, hown, hts, hX, hbl, hbA, hb0, hlocks, hl9, hK, hZ⟩ := X9
  intro S x4 x5 y6 H locs ls hw hP hS hl
  unfold wp_Law_law_1208 at hw
  obtain ⟨hx4, hw⟩ := hw
  refine lv_goto (tgt := 1470) hx hb dd_Law_law_1208 (by decide) ?_
  refine W.widen (k := 245 + x4.toNatClampNeg + 4) (n := 4217 + 6 * x4.toNatClampNeg + 24) (by omega) (by omega) ?_
  exact lb_1470 ⟨hx, hb, hr, hml, hown, hts, hX, hbl, hbA, hb0, hlocks, hl9, hK, hZ⟩ _ K23 S x4 _ _ ls hw hP hS (lv_sub hl [0, 1, 2, 3, 4] rfl)
def wp_Law_law_1156 (L : Nat) (xs : Nat → Int32) (k23 : fw_S → Int32 → Prop) (S : fw_S) (x4 : Int32) : Prop := x4.toNatClampNeg ≤ 2560 ∧ (vp_in (x4 + 1) L ∧ (wp_Law_meter S 0 (xs (x4 + 1 : Int32).toNatClampNeg) 244 (fun S2 r3 => vp_in (x4 + 1) L ∧ (wp_M_meter S2 209 (xs (x4 + 1 : Int32).toNatClampNeg) (fun S5 r6 => wp_M_thrown S5 209 (fun S7 r8 => (((r8 = r3) → ((¬ (r3 = 0) → wp_Law_law_1208 L xs  k23 S7 x4 r3 r6) ∧ ((r3 = 0) → vp_in 0 1 ∧ (((((lg_cmp (S7.2 244 ((0 : Int32).toNatClampNeg)) r6) = 0) → wp_Law_law_1208 L xs  k23 S7 x4 r3 r6) ∧ (¬ ((lg_cmp (S7.2 244 ((0 : Int32).toNatClampNeg)) r6) = 0) → False)))))) ∧ (¬ (r8 = r3) → False))))))))
set_option maxHeartbeats 4000000 in
set_option maxRecDepth 100000 in
theorem lb_1156 {p : Program} {l : Launch} {e : Env} {s : State} {m : MethodId} {below : List Frame} {meth : Method} {c : Code} {bs L b : Nat} {xs : Nat → Int32} {D : va_G} {cA : Nat → ClassId} (X9 : lx_C p l s m meth c bs L b xs D cA) (k23 : fw_S → Int32 → Prop) (K23 : ∀ (S : fw_S) (x4 : Int32) (H : Heap) (locs : List Loc) (ls : Array Slot), k23 S x4 → fw_P D CL cA layU b 245 (fw_v TK layU b S) H → va_S (fw_A b 245) s.heap H locs → lv_has ls 8 [(0, .ref bs), (1, .ref (b + 0)), (2, .ref (b + 209)), (3, .ref (b + 244)), (4, .int x4)] → W p l e room_1 s m #[Value.ref bs] below meth c H locs (245 + x4.toNatClampNeg + 0) (4217 + 6 * x4.toNatClampNeg + 0) (lw_Z below #[Value.ref bs] s) (F0 m 23 ls [])) : ∀ (S : fw_S) (x4 : Int32) (H : Heap) (locs : List Loc) (ls : Array Slot), wp_Law_law_1156 L xs k23 S x4 → fw_P D CL cA layU b 245 (fw_v TK layU b S) H → va_S (fw_A b 245) s.heap H locs → lv_has ls 8 [(0, .ref bs), (1, .ref (b + 0)), (2, .ref (b + 209)), (3, .ref (b + 244)), (4, .int x4)] → W p l e room_1 s m #[Value.ref bs] below meth c H locs (245 + x4.toNatClampNeg + 0) (4217 + 6 * x4.toNatClampNeg + 0) (lw_Z below #[Value.ref bs] s) (F0 m 1156 ls []) := by
  obtain ⟨hx, hb, hr, hml, hown, hts, hX, hbl, hbA, hb0, hlocks, hl9, hK, hZ⟩ := X9
  intro S x4 H locs ls hw hP hS hl
  unfold wp_Law_law_1156 at hw
  obtain ⟨hx4, hw⟩ := hw
  refine lv_aload_n hx hb dd_Law_law_1156 rfl (lv_at hl 1 rfl) ?_
  refine lv_aload_n hx hb dd_Law_law_1157 rfl (lv_at hl 0 rfl) ?_
  refine lv_iload hx hb dd_Law_law_1158 (lv_at hl 4 rfl) ?_
  refine lv_iconst (v := 1) hx hb dd_Law_law_1160 kc_ic_1 ?_
  refine lv_iadd hx hb dd_Law_law_1161 ?_
  obtain ⟨h1, hw⟩ := hw
  refine va_sld hx hb hX hbl hbA hS h1 dd_Law_law_1162 ?_
  refine lv_aload_n hx hb dd_Law_law_1163 rfl (lv_at hl 3 rfl) ?_
  refine fw_calli (fw_runSW (As := [.ref (b + 0), .int (xs (x4 + 1 : Int32).toNatClampNeg), .ref (b + 244)]) (rest := []) ⟨hx, hb, hml, hown, hts⟩ (mt_Law_meter l hl9 D cA b S 0 (xs (x4 + 1 : Int32).toNatClampNeg) 244 lx_x lx_o _ hw) 3 (fw_g tw_737) rfl rfl rfl (hts _ (tb_in tw_0)) (hts _ (tb_in tw_735)) (hts _ (tb_in tw_736)) (by decide +kernel) ⟨Nat.le_of_ble_eq_true rfl, Nat.le_of_ble_eq_true rfl⟩ (fw_preSX hP hK hZ hS) rfl rfl hl.1 rfl (lv_room (Nat.le_of_ble_eq_true rfl)) dd_Law_law_1164 ⟨(show _ ≤ 601024 by omega), (show _ ≤ 7293034 by omega)⟩) hS (fun S2 r3 H locs hw hP hS => ?_)
  try dsimp only at hw
  refine lv_istore hx hb dd_Law_law_1167 hl (Nat.le_of_ble_eq_true rfl) rfl (fun ls hl => ?_)
  have hl : lv_has ls 8 [(5, .int r3), (0, .ref bs), (1, .ref (b + 0)), (2, .ref (b + 209)), (3, .ref (b + 244)), (4, .int x4)] := hl
  refine lv_aload_n hx hb dd_Law_law_1169 rfl (lv_at hl 3 rfl) ?_
  refine lv_aload_n hx hb dd_Law_law_1170 rfl (lv_at hl 1 rfl) ?_
  refine lv_iload hx hb dd_Law_law_1171 (lv_at hl 5 rfl) ?_
  refine lv_iconst (v := 1) hx hb dd_Law_law_1173 kc_ic_1 ?_
  refine lv_iadd hx hb dd_Law_law_1174 ?_
  obtain ⟨h4, hw⟩ := hw
  refine va_sld hx hb hX hbl hbA hS h4 dd_Law_law_1175 ?_
  refine fw_calll (va_runV (As := [.int (xs (x4 + 1 : Int32).toNatClampNeg)]) (rest := []) ⟨hx, hb, hml, hown, hts⟩ (mt_M_meter l D cA b S2 209 (xs (x4 + 1 : Int32).toNatClampNeg) lx_m _ hw) (cwV 1 hts (fw_gV tw_1059 tw_1056 tw_1057 tw_1058 tw_11) rfl rfl rfl (by decide +kernel) ⟨Nat.le_of_ble_eq_true rfl, Nat.le_of_ble_eq_true rfl⟩) (fw_preV hP hK lx_m (by decide) rfl) rfl rfl hl.1 rfl (lv_room (Nat.le_of_ble_eq_true rfl)) dd_Law_law_1176 ⟨(show _ ≤ 601024 by omega), (show _ ≤ 7293034 by omega)⟩) hS (fun S5 r6 H locs hw hP hS => ?_)
  try dsimp only at hw
  refine lv_lstore hx hb dd_Law_law_1179 hl (Nat.le_of_ble_eq_true rfl) rfl (fun ls hl => ?_)
  have hl : lv_has ls 8 [(6, .long r6), (5, .int r3), (0, .ref bs), (1, .ref (b + 0)), (2, .ref (b + 209)), (3, .ref (b + 244)), (4, .int x4)] := hl
  refine lv_aload_n hx hb dd_Law_law_1181 rfl (lv_at hl 4 rfl) ?_
  refine fw_calli (va_runV (As := []) (rest := []) ⟨hx, hb, hml, hown, hts⟩ (mt_M_thrown l D cA b S5 209 lx_m _ hw) (cwV 0 hts (fw_gV tw_906 tw_903 tw_904 tw_905 tw_11) rfl rfl rfl (by decide +kernel) ⟨Nat.le_of_ble_eq_true rfl, Nat.le_of_ble_eq_true rfl⟩) (fw_preV hP hK lx_m (by decide) rfl) rfl rfl hl.1 rfl (lv_room (Nat.le_of_ble_eq_true rfl)) dd_Law_law_1182 ⟨(show _ ≤ 601024 by omega), (show _ ≤ 7293034 by omega)⟩) hS (fun S7 r8 H locs hw hP hS => ?_)
  try dsimp only at hw
  refine lv_iload hx hb dd_Law_law_1185 (lv_at hl 1 rfl) ?_
  refine lv_icmp_eq (tgt := 1192) hx hb dd_Law_law_1187 (by decide) (fun h9 => ?_) (fun h9 => ?_)
  · have hw := hw.1 h9
    refine lv_iload hx hb dd_Law_law_1192 (lv_at hl 1 rfl) ?_
    refine lv_if_ne (tgt := 1208) hx hb dd_Law_law_1194 (by decide) (fun h10 => ?_) (fun h10 => ?_)
    · have hw := hw.1 h10
      refine W.widen (k := 245 + x4.toNatClampNeg + 1) (n := 4217 + 6 * x4.toNatClampNeg + 6) (by omega) (by omega) ?_
      exact lb_1208 ⟨hx, hb, hr, hml, hown, hts, hX, hbl, hbA, hb0, hlocks, hl9, hK, hZ⟩ _ K23 S7 x4 r3 r6 _ _ ls hw hP hS (lv_sub hl [2, 3, 4, 5, 6, 1, 0] rfl)
    · have hw := hw.2 h10
      refine lv_aload_n hx hb dd_Law_law_1197 rfl (lv_at hl 5 rfl) ?_
      refine lv_iconst (v := 0) hx hb dd_Law_law_1198 kc_ic_0 ?_
      obtain ⟨h11, hw⟩ := hw
      refine fw_lald hx hb hK hP lx_o (by decide) 1 rfl tka_101 h11 dd_Law_law_1199 ?_
      refine lv_lload hx hb dd_Law_law_1200 (lv_at hl 0 rfl) ?_
      refine W.lcmp hx hb dd_Law_law_1202 ?_
      refine lv_if_eq (tgt := 1208) hx hb dd_Law_law_1203 (by decide) (fun h12 => ?_) (fun h12 => ?_)
      · have hw := hw.1 h12
        refine W.widen (k := 245 + x4.toNatClampNeg + 1) (n := 4217 + 6 * x4.toNatClampNeg + 6) (by omega) (by omega) ?_
        exact lb_1208 ⟨hx, hb, hr, hml, hown, hts, hX, hbl, hbA, hb0, hlocks, hl9, hK, hZ⟩ _ K23 S7 x4 r3 r6 _ _ ls hw hP hS (lv_sub hl [2, 3, 4, 5, 6, 1, 0] rfl)
      · have hw := hw.2 h12
        refine lv_iconst (v := 0) hx hb dd_Law_law_1206 kc_ic_0 ?_
        exact False.elim hw
  · have hw := hw.2 h9
    refine lv_iconst (v := 0) hx hb dd_Law_law_1190 kc_ic_0 ?_
    exact False.elim hw
def wp_Law_law_1276 (L : Nat) (xs : Nat → Int32) (k23 : fw_S → Int32 → Prop) (S : fw_S) (x4 : Int32) (x5 : Int32) (x6 : Int32) : Prop := x4.toNatClampNeg ≤ 2560 ∧ (wp_Law_law_1470 L xs  k23 S x4)
set_option maxHeartbeats 4000000 in
set_option maxRecDepth 100000 in
theorem lb_1276 {p : Program} {l : Launch} {e : Env} {s : State} {m : MethodId} {below : List Frame} {meth : Method} {c : Code} {bs L b : Nat} {xs : Nat → Int32} {D : va_G} {cA : Nat → ClassId} (X9 : lx_C p l s m meth c bs L b xs D cA) (k23 : fw_S → Int32 → Prop) (K23 : ∀ (S : fw_S) (x4 : Int32) (H : Heap) (locs : List Loc) (ls : Array Slot), k23 S x4 → fw_P D CL cA layU b 245 (fw_v TK layU b S) H → va_S (fw_A b 245) s.heap H locs → lv_has ls 8 [(0, .ref bs), (1, .ref (b + 0)), (2, .ref (b + 209)), (3, .ref (b + 244)), (4, .int x4)] → W p l e room_1 s m #[Value.ref bs] below meth c H locs (245 + x4.toNatClampNeg + 0) (4217 + 6 * x4.toNatClampNeg + 0) (lw_Z below #[Value.ref bs] s) (F0 m 23 ls [])) : ∀ (S : fw_S) (x4 : Int32) (x5 : Int32) (x6 : Int32) (H : Heap) (locs : List Loc) (ls : Array Slot), wp_Law_law_1276 L xs k23 S x4 x5 x6 → fw_P D CL cA layU b 245 (fw_v TK layU b S) H → va_S (fw_A b 245) s.heap H locs → lv_has ls 8 [(0, .ref bs), (1, .ref (b + 0)), (2, .ref (b + 209)), (3, .ref (b + 244)), (4, .int x4), (5, .int x5), (6, .int x6)] → W p l e room_1 s m #[Value.ref bs] below meth c H locs (245 + x4.toNatClampNeg + 2) (4217 + 6 * x4.toNatClampNeg + 12) (lw_Z below #[Value.ref bs] s) (F0 m 1276 ls []) := by
  obtain ⟨hx, hb, hr, hml, hown, hts, hX, hbl, hbA, hb0, hlocks, hl9, hK, hZ⟩ := X9
  intro S x4 x5 x6 H locs ls hw hP hS hl
  unfold wp_Law_law_1276 at hw
  obtain ⟨hx4, hw⟩ := hw
  refine lv_goto (tgt := 1470) hx hb dd_Law_law_1276 (by decide) ?_
  refine W.widen (k := 245 + x4.toNatClampNeg + 4) (n := 4217 + 6 * x4.toNatClampNeg + 24) (by omega) (by omega) ?_
  exact lb_1470 ⟨hx, hb, hr, hml, hown, hts, hX, hbl, hbA, hb0, hlocks, hl9, hK, hZ⟩ _ K23 S x4 _ _ ls hw hP hS (lv_sub hl [0, 1, 2, 3, 4] rfl)
