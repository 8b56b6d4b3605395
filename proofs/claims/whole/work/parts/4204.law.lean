def wp_Law_law_1211 (L : Nat) (xs : Nat → Int32) (k23 : fw_S → Int32 → Prop) (S : fw_S) (x4 : Int32) : Prop := x4.toNatClampNeg ≤ 2560 ∧ (vp_in (x4 + 1) L ∧ (vp_in (x4 + 2) L ∧ (wp_Law_about S 0 (xs (x4 + 1 : Int32).toNatClampNeg) (xs (x4 + 2 : Int32).toNatClampNeg) 244 (fun S3 r4 => vp_in (x4 + 1) L ∧ (vp_in (x4 + 2) L ∧ (wp_M_about S3 209 (xs (x4 + 1 : Int32).toNatClampNeg) (xs (x4 + 2 : Int32).toNatClampNeg) (fun S7 r8 => wp_M_thrown S7 209 (fun S9 r10 => (((r10 = r4) → ((¬ (r4 = 0) → wp_Law_law_1276 L xs  k23 S9 x4 r4 r8) ∧ ((r4 = 0) → vp_in 0 1 ∧ (((((lg_cmp (S9.2 244 ((0 : Int32).toNatClampNeg)) r8.toInt64) = 0) → wp_Law_law_1276 L xs  k23 S9 x4 r4 r8) ∧ (¬ ((lg_cmp (S9.2 244 ((0 : Int32).toNatClampNeg)) r8.toInt64) = 0) → False)))))) ∧ (¬ (r10 = r4) → False))))))))))
set_option maxHeartbeats 4000000 in
set_option maxRecDepth 100000 in
theorem lb_1211 {p : Program} {l : Launch} {e : Env} {s : State} {m : MethodId} {below : List Frame} {meth : Method} {c : Code} {bs L b : Nat} {xs : Nat → Int32} {D : va_G} {cA : Nat → ClassId} (X9 : lx_C p l s m meth c bs L b xs D cA) (k23 : fw_S → Int32 → Prop) (K23 : ∀ (S : fw_S) (x4 : Int32) (H : Heap) (locs : List Loc) (ls : Array Slot), k23 S x4 → fw_P D CL cA layU b 245 (fw_v TK layU b S) H → va_S (fw_A b 245) s.heap H locs → lv_has ls 8 [(0, .ref bs), (1, .ref (b + 0)), (2, .ref (b + 209)), (3, .ref (b + 244)), (4, .int x4)] → W p l e room_1 s m #[Value.ref bs] below meth c H locs (245 + x4.toNatClampNeg + 0) (4217 + 6 * x4.toNatClampNeg + 0) (lw_Z below #[Value.ref bs] s) (F0 m 23 ls [])) : ∀ (S : fw_S) (x4 : Int32) (H : Heap) (locs : List Loc) (ls : Array Slot), wp_Law_law_1211 L xs k23 S x4 → fw_P D CL cA layU b 245 (fw_v TK layU b S) H → va_S (fw_A b 245) s.heap H locs → lv_has ls 8 [(0, .ref bs), (1, .ref (b + 0)), (2, .ref (b + 209)), (3, .ref (b + 244)), (4, .int x4)] → W p l e room_1 s m #[Value.ref bs] below meth c H locs (245 + x4.toNatClampNeg + 0) (4217 + 6 * x4.toNatClampNeg + 0) (lw_Z below #[Value.ref bs] s) (F0 m 1211 ls []) := by
  obtain ⟨hx, hb, hr, hml, hown, hts, hX, hbl, hbA, hb0, hlocks, hl9, hK, hZ⟩ := X9
  intro S x4 H locs ls hw hP hS hl
  unfold wp_Law_law_1211 at hw
  obtain ⟨hx4, hw⟩ := hw
  refine lv_aload_n hx hb dd_Law_law_1211 rfl (lv_at hl 1 rfl) ?_
  refine lv_aload_n hx hb dd_Law_law_1212 rfl (lv_at hl 0 rfl) ?_
  refine lv_iload hx hb dd_Law_law_1213 (lv_at hl 4 rfl) ?_
  refine lv_iconst (v := 1) hx hb dd_Law_law_1215 kc_ic_1 ?_
  refine lv_iadd hx hb dd_Law_law_1216 ?_
  obtain ⟨h1, hw⟩ := hw
  refine va_sld hx hb hX hbl hbA hS h1 dd_Law_law_1217 ?_
  refine lv_aload_n hx hb dd_Law_law_1218 rfl (lv_at hl 0 rfl) ?_
  refine lv_iload hx hb dd_Law_law_1219 (lv_at hl 4 rfl) ?_
  refine lv_iconst (v := 2) hx hb dd_Law_law_1221 kc_ic_2 ?_
  refine lv_iadd hx hb dd_Law_law_1222 ?_
  obtain ⟨h2, hw⟩ := hw
  refine va_sld hx hb hX hbl hbA hS h2 dd_Law_law_1223 ?_
  refine lv_aload_n hx hb dd_Law_law_1224 rfl (lv_at hl 3 rfl) ?_
  refine fw_calli (fw_runSW (As := [.ref (b + 0), .int (xs (x4 + 1 : Int32).toNatClampNeg), .int (xs (x4 + 2 : Int32).toNatClampNeg), .ref (b + 244)]) (rest := []) ⟨hx, hb, hml, hown, hts⟩ (mt_Law_about l hl9 D cA b S 0 (xs (x4 + 1 : Int32).toNatClampNeg) (xs (x4 + 2 : Int32).toNatClampNeg) 244 lx_x lx_o _ hw) 4 (fw_g tw_744) rfl rfl rfl (hts _ (tb_in tw_0)) (hts _ (tb_in tw_742)) (hts _ (tb_in tw_743)) (by decide +kernel) ⟨Nat.le_of_ble_eq_true rfl, Nat.le_of_ble_eq_true rfl⟩ (fw_preSX hP hK hZ hS) rfl rfl hl.1 rfl (lv_room (Nat.le_of_ble_eq_true rfl)) dd_Law_law_1225 ⟨(show _ ≤ 601024 by omega), (show _ ≤ 7293034 by omega)⟩) hS (fun S3 r4 H locs hw hP hS => ?_)
  try dsimp only at hw
  refine lv_istore hx hb dd_Law_law_1228 hl (Nat.le_of_ble_eq_true rfl) rfl (fun ls hl => ?_)
  have hl : lv_has ls 8 [(5, .int r4), (0, .ref bs), (1, .ref (b + 0)), (2, .ref (b + 209)), (3, .ref (b + 244)), (4, .int x4)] := hl
  refine lv_aload_n hx hb dd_Law_law_1230 rfl (lv_at hl 3 rfl) ?_
  refine lv_aload_n hx hb dd_Law_law_1231 rfl (lv_at hl 1 rfl) ?_
  refine lv_iload hx hb dd_Law_law_1232 (lv_at hl 5 rfl) ?_
  refine lv_iconst (v := 1) hx hb dd_Law_law_1234 kc_ic_1 ?_
  refine lv_iadd hx hb dd_Law_law_1235 ?_
  obtain ⟨h5, hw⟩ := hw
  refine va_sld hx hb hX hbl hbA hS h5 dd_Law_law_1236 ?_
  refine lv_aload_n hx hb dd_Law_law_1237 rfl (lv_at hl 1 rfl) ?_
  refine lv_iload hx hb dd_Law_law_1238 (lv_at hl 5 rfl) ?_
  refine lv_iconst (v := 2) hx hb dd_Law_law_1240 kc_ic_2 ?_
  refine lv_iadd hx hb dd_Law_law_1241 ?_
  obtain ⟨h6, hw⟩ := hw
  refine va_sld hx hb hX hbl hbA hS h6 dd_Law_law_1242 ?_
  refine fw_calli (va_runV (As := [.int (xs (x4 + 1 : Int32).toNatClampNeg), .int (xs (x4 + 2 : Int32).toNatClampNeg)]) (rest := []) ⟨hx, hb, hml, hown, hts⟩ (mt_M_about l D cA b S3 209 (xs (x4 + 1 : Int32).toNatClampNeg) (xs (x4 + 2 : Int32).toNatClampNeg) lx_m _ hw) (cwV 2 hts (fw_gV tw_1063 tw_1060 tw_1061 tw_1062 tw_11) rfl rfl rfl (by decide +kernel) ⟨Nat.le_of_ble_eq_true rfl, Nat.le_of_ble_eq_true rfl⟩) (fw_preV hP hK lx_m (by decide) rfl) rfl rfl hl.1 rfl (lv_room (Nat.le_of_ble_eq_true rfl)) dd_Law_law_1243 ⟨(show _ ≤ 601024 by omega), (show _ ≤ 7293034 by omega)⟩) hS (fun S7 r8 H locs hw hP hS => ?_)
  try dsimp only at hw
  refine lv_istore hx hb dd_Law_law_1246 hl (Nat.le_of_ble_eq_true rfl) rfl (fun ls hl => ?_)
  have hl : lv_has ls 8 [(6, .int r8), (5, .int r4), (0, .ref bs), (1, .ref (b + 0)), (2, .ref (b + 209)), (3, .ref (b + 244)), (4, .int x4)] := hl
  refine lv_aload_n hx hb dd_Law_law_1248 rfl (lv_at hl 4 rfl) ?_
  refine fw_calli (va_runV (As := []) (rest := []) ⟨hx, hb, hml, hown, hts⟩ (mt_M_thrown l D cA b S7 209 lx_m _ hw) (cwV 0 hts (fw_gV tw_906 tw_903 tw_904 tw_905 tw_11) rfl rfl rfl (by decide +kernel) ⟨Nat.le_of_ble_eq_true rfl, Nat.le_of_ble_eq_true rfl⟩) (fw_preV hP hK lx_m (by decide) rfl) rfl rfl hl.1 rfl (lv_room (Nat.le_of_ble_eq_true rfl)) dd_Law_law_1249 ⟨(show _ ≤ 601024 by omega), (show _ ≤ 7293034 by omega)⟩) hS (fun S9 r10 H locs hw hP hS => ?_)
  try dsimp only at hw
  refine lv_iload hx hb dd_Law_law_1252 (lv_at hl 1 rfl) ?_
  refine lv_icmp_eq (tgt := 1259) hx hb dd_Law_law_1254 (by decide) (fun h11 => ?_) (fun h11 => ?_)
  · have hw := hw.1 h11
    refine lv_iload hx hb dd_Law_law_1259 (lv_at hl 1 rfl) ?_
    refine lv_if_ne (tgt := 1276) hx hb dd_Law_law_1261 (by decide) (fun h12 => ?_) (fun h12 => ?_)
    · have hw := hw.1 h12
      refine W.widen (k := 245 + x4.toNatClampNeg + 2) (n := 4217 + 6 * x4.toNatClampNeg + 12) (by omega) (by omega) ?_
      exact lb_1276 ⟨hx, hb, hr, hml, hown, hts, hX, hbl, hbA, hb0, hlocks, hl9, hK, hZ⟩ _ K23 S9 x4 r4 r8 _ _ ls hw hP hS (lv_sub hl [2, 3, 4, 5, 6, 1, 0] rfl)
    · have hw := hw.2 h12
      refine lv_aload_n hx hb dd_Law_law_1264 rfl (lv_at hl 5 rfl) ?_
      refine lv_iconst (v := 0) hx hb dd_Law_law_1265 kc_ic_0 ?_
      obtain ⟨h13, hw⟩ := hw
      refine fw_lald hx hb hK hP lx_o (by decide) 1 rfl tka_101 h13 dd_Law_law_1266 ?_
      refine lv_iload hx hb dd_Law_law_1267 (lv_at hl 0 rfl) ?_
      refine lv_i2l hx hb dd_Law_law_1269 rfl ?_
      refine W.lcmp hx hb dd_Law_law_1270 ?_
      refine lv_if_eq (tgt := 1276) hx hb dd_Law_law_1271 (by decide) (fun h14 => ?_) (fun h14 => ?_)
      · have hw := hw.1 h14
        refine W.widen (k := 245 + x4.toNatClampNeg + 2) (n := 4217 + 6 * x4.toNatClampNeg + 12) (by omega) (by omega) ?_
        exact lb_1276 ⟨hx, hb, hr, hml, hown, hts, hX, hbl, hbA, hb0, hlocks, hl9, hK, hZ⟩ _ K23 S9 x4 r4 r8 _ _ ls hw hP hS (lv_sub hl [2, 3, 4, 5, 6, 1, 0] rfl)
      · have hw := hw.2 h14
        refine lv_iconst (v := 0) hx hb dd_Law_law_1274 kc_ic_0 ?_
        exact False.elim hw
  · have hw := hw.2 h11
    refine lv_iconst (v := 0) hx hb dd_Law_law_1257 kc_ic_0 ?_
    exact False.elim hw
def wp_Law_law_1331 (L : Nat) (xs : Nat → Int32) (k23 : fw_S → Int32 → Prop) (S : fw_S) (x4 : Int32) (x5 : Int32) (y6 : Int64) : Prop := x4.toNatClampNeg ≤ 2560 ∧ (wp_Law_law_1470 L xs  k23 S x4)
set_option maxHeartbeats 4000000 in
set_option maxRecDepth 100000 in
theorem lb_1331 {p : Program} {l : Launch} {e : Env} {s : State} {m : MethodId} {below : List Frame} {meth : Method} {c : Code} {bs L b : Nat} {xs : Nat → Int32} {D : va_G} {cA : Nat → ClassId} (X9 : lx_C p l s m meth c bs L b xs D cA) (k23 : fw_S → Int32 → Prop) (K23 : ∀ (S : fw_S) (x4 : Int32) (H : Heap) (locs : List Loc) (ls : Array Slot), k23 S x4 → fw_P D CL cA layU b 245 (fw_v TK layU b S) H → va_S (fw_A b 245) s.heap H locs → lv_has ls 8 [(0, .ref bs), (1, .ref (b + 0)), (2, .ref (b + 209)), (3, .ref (b + 244)), (4, .int x4)] → W p l e room_1 s m #[Value.ref bs] below meth c H locs (245 + x4.toNatClampNeg + 0) (4217 + 6 * x4.toNatClampNeg + 0) (lw_Z below #[Value.ref bs] s) (F0 m 23 ls [])) : ∀ (S : fw_S) (x4 : Int32) (x5 : Int32) (y6 : Int64) (H : Heap) (locs : List Loc) (ls : Array Slot), wp_Law_law_1331 L xs k23 S x4 x5 y6 → fw_P D CL cA layU b 245 (fw_v TK layU b S) H → va_S (fw_A b 245) s.heap H locs → lv_has ls 8 [(0, .ref bs), (1, .ref (b + 0)), (2, .ref (b + 209)), (3, .ref (b + 244)), (4, .int x4), (5, .int x5), (6, .long y6)] → W p l e room_1 s m #[Value.ref bs] below meth c H locs (245 + x4.toNatClampNeg + 1) (4217 + 6 * x4.toNatClampNeg + 6) (lw_Z below #[Value.ref bs] s) (F0 m 1331 ls []) := by
  obtain ⟨hx, hb, hr, hml, hown, hts, hX, hbl, hbA, hb0, hlocks, hl9, hK, hZ⟩ := X9
  intro S x4 x5 y6 H locs ls hw hP hS hl
  unfold wp_Law_law_1331 at hw
  obtain ⟨hx4, hw⟩ := hw
  refine lv_goto (tgt := 1470) hx hb dd_Law_law_1331 (by decide) ?_
  refine W.widen (k := 245 + x4.toNatClampNeg + 4) (n := 4217 + 6 * x4.toNatClampNeg + 24) (by omega) (by omega) ?_
  exact lb_1470 ⟨hx, hb, hr, hml, hown, hts, hX, hbl, hbA, hb0, hlocks, hl9, hK, hZ⟩ _ K23 S x4 _ _ ls hw hP hS (lv_sub hl [0, 1, 2, 3, 4] rfl)
def wp_Law_law_1279 (L : Nat) (xs : Nat → Int32) (k23 : fw_S → Int32 → Prop) (S : fw_S) (x4 : Int32) : Prop := x4.toNatClampNeg ≤ 2560 ∧ (vp_in (x4 + 1) L ∧ (wp_Law_open S 0 (xs (x4 + 1 : Int32).toNatClampNeg) 244 (fun S2 r3 => vp_in (x4 + 1) L ∧ (wp_M_open S2 209 (xs (x4 + 1 : Int32).toNatClampNeg) (fun S5 r6 => wp_M_thrown S5 209 (fun S7 r8 => (((r8 = r3) → ((¬ (r3 = 0) → wp_Law_law_1331 L xs  k23 S7 x4 r3 r6) ∧ ((r3 = 0) → vp_in 0 1 ∧ (((((lg_cmp (S7.2 244 ((0 : Int32).toNatClampNeg)) r6) = 0) → wp_Law_law_1331 L xs  k23 S7 x4 r3 r6) ∧ (¬ ((lg_cmp (S7.2 244 ((0 : Int32).toNatClampNeg)) r6) = 0) → False)))))) ∧ (¬ (r8 = r3) → False))))))))
set_option maxHeartbeats 4000000 in
set_option maxRecDepth 100000 in
theorem lb_1279 {p : Program} {l : Launch} {e : Env} {s : State} {m : MethodId} {below : List Frame} {meth : Method} {c : Code} {bs L b : Nat} {xs : Nat → Int32} {D : va_G} {cA : Nat → ClassId} (X9 : lx_C p l s m meth c bs L b xs D cA) (k23 : fw_S → Int32 → Prop) (K23 : ∀ (S : fw_S) (x4 : Int32) (H : Heap) (locs : List Loc) (ls : Array Slot), k23 S x4 → fw_P D CL cA layU b 245 (fw_v TK layU b S) H → va_S (fw_A b 245) s.heap H locs → lv_has ls 8 [(0, .ref bs), (1, .ref (b + 0)), (2, .ref (b + 209)), (3, .ref (b + 244)), (4, .int x4)] → W p l e room_1 s m #[Value.ref bs] below meth c H locs (245 + x4.toNatClampNeg + 0) (4217 + 6 * x4.toNatClampNeg + 0) (lw_Z below #[Value.ref bs] s) (F0 m 23 ls [])) : ∀ (S : fw_S) (x4 : Int32) (H : Heap) (locs : List Loc) (ls : Array Slot), wp_Law_law_1279 L xs k23 S x4 → fw_P D CL cA layU b 245 (fw_v TK layU b S) H → va_S (fw_A b 245) s.heap H locs → lv_has ls 8 [(0, .ref bs), (1, .ref (b + 0)), (2, .ref (b + 209)), (3, .ref (b + 244)), (4, .int x4)] → W p l e room_1 s m #[Value.ref bs] below meth c H locs (245 + x4.toNatClampNeg + 0) (4217 + 6 * x4.toNatClampNeg + 0) (lw_Z below #[Value.ref bs] s) (F0 m 1279 ls []) := by
  obtain ⟨hx, hb, hr, hml, hown, hts, hX, hbl, hbA, hb0, hlocks, hl9, hK, hZ⟩ := X9
  intro S x4 H locs ls hw hP hS hl
  unfold wp_Law_law_1279 at hw
  obtain ⟨hx4, hw⟩ := hw
  refine lv_aload_n hx hb dd_Law_law_1279 rfl (lv_at hl 1 rfl) ?_
  refine lv_aload_n hx hb dd_Law_law_1280 rfl (lv_at hl 0 rfl) ?_
  refine lv_iload hx hb dd_Law_law_1281 (lv_at hl 4 rfl) ?_
  refine lv_iconst (v := 1) hx hb dd_Law_law_1283 kc_ic_1 ?_
  refine lv_iadd hx hb dd_Law_law_1284 ?_
  obtain ⟨h1, hw⟩ := hw
  refine va_sld hx hb hX hbl hbA hS h1 dd_Law_law_1285 ?_
  refine lv_aload_n hx hb dd_Law_law_1286 rfl (lv_at hl 3 rfl) ?_
  refine fw_calli (fw_runSW (As := [.ref (b + 0), .int (xs (x4 + 1 : Int32).toNatClampNeg), .ref (b + 244)]) (rest := []) ⟨hx, hb, hml, hown, hts⟩ (mt_Law_open l hl9 D cA b S 0 (xs (x4 + 1 : Int32).toNatClampNeg) 244 lx_x lx_o _ hw) 3 (fw_g tw_755) rfl rfl rfl (hts _ (tb_in tw_0)) (hts _ (tb_in tw_753)) (hts _ (tb_in tw_754)) (by decide +kernel) ⟨Nat.le_of_ble_eq_true rfl, Nat.le_of_ble_eq_true rfl⟩ (fw_preSX hP hK hZ hS) rfl rfl hl.1 rfl (lv_room (Nat.le_of_ble_eq_true rfl)) dd_Law_law_1287 ⟨(show _ ≤ 601024 by omega), (show _ ≤ 7293034 by omega)⟩) hS (fun S2 r3 H locs hw hP hS => ?_)
  try dsimp only at hw
  refine lv_istore hx hb dd_Law_law_1290 hl (Nat.le_of_ble_eq_true rfl) rfl (fun ls hl => ?_)
  have hl : lv_has ls 8 [(5, .int r3), (0, .ref bs), (1, .ref (b + 0)), (2, .ref (b + 209)), (3, .ref (b + 244)), (4, .int x4)] := hl
  refine lv_aload_n hx hb dd_Law_law_1292 rfl (lv_at hl 3 rfl) ?_
  refine lv_aload_n hx hb dd_Law_law_1293 rfl (lv_at hl 1 rfl) ?_
  refine lv_iload hx hb dd_Law_law_1294 (lv_at hl 5 rfl) ?_
  refine lv_iconst (v := 1) hx hb dd_Law_law_1296 kc_ic_1 ?_
  refine lv_iadd hx hb dd_Law_law_1297 ?_
  obtain ⟨h4, hw⟩ := hw
  refine va_sld hx hb hX hbl hbA hS h4 dd_Law_law_1298 ?_
  refine fw_calll (va_runV (As := [.int (xs (x4 + 1 : Int32).toNatClampNeg)]) (rest := []) ⟨hx, hb, hml, hown, hts⟩ (mt_M_open l D cA b S2 209 (xs (x4 + 1 : Int32).toNatClampNeg) lx_m _ hw) (cwV 1 hts (fw_gV tw_1067 tw_1064 tw_1065 tw_1066 tw_11) rfl rfl rfl (by decide +kernel) ⟨Nat.le_of_ble_eq_true rfl, Nat.le_of_ble_eq_true rfl⟩) (fw_preV hP hK lx_m (by decide) rfl) rfl rfl hl.1 rfl (lv_room (Nat.le_of_ble_eq_true rfl)) dd_Law_law_1299 ⟨(show _ ≤ 601024 by omega), (show _ ≤ 7293034 by omega)⟩) hS (fun S5 r6 H locs hw hP hS => ?_)
  try dsimp only at hw
  refine lv_lstore hx hb dd_Law_law_1302 hl (Nat.le_of_ble_eq_true rfl) rfl (fun ls hl => ?_)
  have hl : lv_has ls 8 [(6, .long r6), (5, .int r3), (0, .ref bs), (1, .ref (b + 0)), (2, .ref (b + 209)), (3, .ref (b + 244)), (4, .int x4)] := hl
  refine lv_aload_n hx hb dd_Law_law_1304 rfl (lv_at hl 4 rfl) ?_
  refine fw_calli (va_runV (As := []) (rest := []) ⟨hx, hb, hml, hown, hts⟩ (mt_M_thrown l D cA b S5 209 lx_m _ hw) (cwV 0 hts (fw_gV tw_906 tw_903 tw_904 tw_905 tw_11) rfl rfl rfl (by decide +kernel) ⟨Nat.le_of_ble_eq_true rfl, Nat.le_of_ble_eq_true rfl⟩) (fw_preV hP hK lx_m (by decide) rfl) rfl rfl hl.1 rfl (lv_room (Nat.le_of_ble_eq_true rfl)) dd_Law_law_1305 ⟨(show _ ≤ 601024 by omega), (show _ ≤ 7293034 by omega)⟩) hS (fun S7 r8 H locs hw hP hS => ?_)
  try dsimp only at hw
  refine lv_iload hx hb dd_Law_law_1308 (lv_at hl 1 rfl) ?_
  refine lv_icmp_eq (tgt := 1315) hx hb dd_Law_law_1310 (by decide) (fun h9 => ?_) (fun h9 => ?_)
  · have hw := hw.1 h9
    refine lv_iload hx hb dd_Law_law_1315 (lv_at hl 1 rfl) ?_
    refine lv_if_ne (tgt := 1331) hx hb dd_Law_law_1317 (by decide) (fun h10 => ?_) (fun h10 => ?_)
    · have hw := hw.1 h10
      refine W.widen (k := 245 + x4.toNatClampNeg + 1) (n := 4217 + 6 * x4.toNatClampNeg + 6) (by omega) (by omega) ?_
      exact lb_1331 ⟨hx, hb, hr, hml, hown, hts, hX, hbl, hbA, hb0, hlocks, hl9, hK, hZ⟩ _ K23 S7 x4 r3 r6 _ _ ls hw hP hS (lv_sub hl [2, 3, 4, 5, 6, 1, 0] rfl)
    · have hw := hw.2 h10
      refine lv_aload_n hx hb dd_Law_law_1320 rfl (lv_at hl 5 rfl) ?_
      refine lv_iconst (v := 0) hx hb dd_Law_law_1321 kc_ic_0 ?_
      obtain ⟨h11, hw⟩ := hw
      refine fw_lald hx hb hK hP lx_o (by decide) 1 rfl tka_101 h11 dd_Law_law_1322 ?_
      refine lv_lload hx hb dd_Law_law_1323 (lv_at hl 0 rfl) ?_
      refine W.lcmp hx hb dd_Law_law_1325 ?_
      refine lv_if_eq (tgt := 1331) hx hb dd_Law_law_1326 (by decide) (fun h12 => ?_) (fun h12 => ?_)
      · have hw := hw.1 h12
        refine W.widen (k := 245 + x4.toNatClampNeg + 1) (n := 4217 + 6 * x4.toNatClampNeg + 6) (by omega) (by omega) ?_
        exact lb_1331 ⟨hx, hb, hr, hml, hown, hts, hX, hbl, hbA, hb0, hlocks, hl9, hK, hZ⟩ _ K23 S7 x4 r3 r6 _ _ ls hw hP hS (lv_sub hl [2, 3, 4, 5, 6, 1, 0] rfl)
      · have hw := hw.2 h12
        refine lv_iconst (v := 0) hx hb dd_Law_law_1329 kc_ic_0 ?_
        exact False.elim hw
  · have hw := hw.2 h9
    refine lv_iconst (v := 0) hx hb dd_Law_law_1313 kc_ic_0 ?_
    exact False.elim hw
def wp_Law_law_1334 (L : Nat) (xs : Nat → Int32) (k23 : fw_S → Int32 → Prop) (S : fw_S) (x4 : Int32) : Prop := x4.toNatClampNeg ≤ 2560 ∧ (wp_Out_bills S 0 (fun S1 r2 => wp_M_bills S1 209 (fun S3 r4 => (((r2 = r4) → wp_Law_law_1470 L xs  k23 S3 x4) ∧ (¬ (r2 = r4) → False)))))
set_option maxHeartbeats 4000000 in
set_option maxRecDepth 100000 in
theorem lb_1334 {p : Program} {l : Launch} {e : Env} {s : State} {m : MethodId} {below : List Frame} {meth : Method} {c : Code} {bs L b : Nat} {xs : Nat → Int32} {D : va_G} {cA : Nat → ClassId} (X9 : lx_C p l s m meth c bs L b xs D cA) (k23 : fw_S → Int32 → Prop) (K23 : ∀ (S : fw_S) (x4 : Int32) (H : Heap) (locs : List Loc) (ls : Array Slot), k23 S x4 → fw_P D CL cA layU b 245 (fw_v TK layU b S) H → va_S (fw_A b 245) s.heap H locs → lv_has ls 8 [(0, .ref bs), (1, .ref (b + 0)), (2, .ref (b + 209)), (3, .ref (b + 244)), (4, .int x4)] → W p l e room_1 s m #[Value.ref bs] below meth c H locs (245 + x4.toNatClampNeg + 0) (4217 + 6 * x4.toNatClampNeg + 0) (lw_Z below #[Value.ref bs] s) (F0 m 23 ls [])) : ∀ (S : fw_S) (x4 : Int32) (H : Heap) (locs : List Loc) (ls : Array Slot), wp_Law_law_1334 L xs k23 S x4 → fw_P D CL cA layU b 245 (fw_v TK layU b S) H → va_S (fw_A b 245) s.heap H locs → lv_has ls 8 [(0, .ref bs), (1, .ref (b + 0)), (2, .ref (b + 209)), (3, .ref (b + 244)), (4, .int x4)] → W p l e room_1 s m #[Value.ref bs] below meth c H locs (245 + x4.toNatClampNeg + 0) (4217 + 6 * x4.toNatClampNeg + 0) (lw_Z below #[Value.ref bs] s) (F0 m 1334 ls []) := by
  obtain ⟨hx, hb, hr, hml, hown, hts, hX, hbl, hbA, hb0, hlocks, hl9, hK, hZ⟩ := X9
  intro S x4 H locs ls hw hP hS hl
  unfold wp_Law_law_1334 at hw
  obtain ⟨hx4, hw⟩ := hw
  refine lv_aload_n hx hb dd_Law_law_1334 rfl (lv_at hl 1 rfl) ?_
  refine fw_calli (va_runV (As := []) (rest := []) ⟨hx, hb, hml, hown, hts⟩ (mt_Out_bills l D cA b S 0 lx_x _ hw) (cwV 0 hts (fw_gV tw_318 tw_315 tw_316 tw_317 tw_1) rfl rfl rfl (by decide +kernel) ⟨Nat.le_of_ble_eq_true rfl, Nat.le_of_ble_eq_true rfl⟩) (fw_preV hP hK lx_x (by decide) rfl) rfl rfl hl.1 rfl (lv_room (Nat.le_of_ble_eq_true rfl)) dd_Law_law_1335 ⟨(show _ ≤ 601024 by omega), (show _ ≤ 7293034 by omega)⟩) hS (fun S1 r2 H locs hw hP hS => ?_)
  try dsimp only at hw
  refine lv_aload_n hx hb dd_Law_law_1338 rfl (lv_at hl 2 rfl) ?_
  refine fw_calli (va_runV (As := []) (rest := [.int r2]) ⟨hx, hb, hml, hown, hts⟩ (mt_M_bills l D cA b S1 209 lx_m _ hw) (cwV 0 hts (fw_gV tw_1072 tw_1069 tw_1070 tw_1071 tw_11) rfl rfl rfl (by decide +kernel) ⟨Nat.le_of_ble_eq_true rfl, Nat.le_of_ble_eq_true rfl⟩) (fw_preV hP hK lx_m (by decide) rfl) rfl rfl hl.1 rfl (lv_room (Nat.le_of_ble_eq_true rfl)) dd_Law_law_1339 ⟨(show _ ≤ 601024 by omega), (show _ ≤ 7293034 by omega)⟩) hS (fun S3 r4 H locs hw hP hS => ?_)
  try dsimp only at hw
  refine lv_icmp_eq (tgt := 1470) hx hb dd_Law_law_1342 (by decide) (fun h5 => ?_) (fun h5 => ?_)
  · have hw := hw.1 h5
    refine W.widen (k := 245 + x4.toNatClampNeg + 4) (n := 4217 + 6 * x4.toNatClampNeg + 24) (by omega) (by omega) ?_
    exact lb_1470 ⟨hx, hb, hr, hml, hown, hts, hX, hbl, hbA, hb0, hlocks, hl9, hK, hZ⟩ _ K23 S3 x4 _ _ ls hw hP hS (lv_sub hl [0, 1, 2, 3, 4] rfl)
  · have hw := hw.2 h5
    refine lv_iconst (v := 0) hx hb dd_Law_law_1345 kc_ic_0 ?_
    exact False.elim hw
def wp_Law_law_1412 (L : Nat) (xs : Nat → Int32) (k23 : fw_S → Int32 → Prop) (S : fw_S) (x4 : Int32) (x5 : Int32) (x6 : Int32) : Prop := x4.toNatClampNeg ≤ 2560 ∧ (wp_Law_law_1470 L xs  k23 S x4)
set_option maxHeartbeats 4000000 in
set_option maxRecDepth 100000 in
theorem lb_1412 {p : Program} {l : Launch} {e : Env} {s : State} {m : MethodId} {below : List Frame} {meth : Method} {c : Code} {bs L b : Nat} {xs : Nat → Int32} {D : va_G} {cA : Nat → ClassId} (X9 : lx_C p l s m meth c bs L b xs D cA) (k23 : fw_S → Int32 → Prop) (K23 : ∀ (S : fw_S) (x4 : Int32) (H : Heap) (locs : List Loc) (ls : Array Slot), k23 S x4 → fw_P D CL cA layU b 245 (fw_v TK layU b S) H → va_S (fw_A b 245) s.heap H locs → lv_has ls 8 [(0, .ref bs), (1, .ref (b + 0)), (2, .ref (b + 209)), (3, .ref (b + 244)), (4, .int x4)] → W p l e room_1 s m #[Value.ref bs] below meth c H locs (245 + x4.toNatClampNeg + 0) (4217 + 6 * x4.toNatClampNeg + 0) (lw_Z below #[Value.ref bs] s) (F0 m 23 ls [])) : ∀ (S : fw_S) (x4 : Int32) (x5 : Int32) (x6 : Int32) (H : Heap) (locs : List Loc) (ls : Array Slot), wp_Law_law_1412 L xs k23 S x4 x5 x6 → fw_P D CL cA layU b 245 (fw_v TK layU b S) H → va_S (fw_A b 245) s.heap H locs → lv_has ls 8 [(0, .ref bs), (1, .ref (b + 0)), (2, .ref (b + 209)), (3, .ref (b + 244)), (4, .int x4), (5, .int x5), (6, .int x6)] → W p l e room_1 s m #[Value.ref bs] below meth c H locs (245 + x4.toNatClampNeg + 2) (4217 + 6 * x4.toNatClampNeg + 12) (lw_Z below #[Value.ref bs] s) (F0 m 1412 ls []) := by
  obtain ⟨hx, hb, hr, hml, hown, hts, hX, hbl, hbA, hb0, hlocks, hl9, hK, hZ⟩ := X9
  intro S x4 x5 x6 H locs ls hw hP hS hl
  unfold wp_Law_law_1412 at hw
  obtain ⟨hx4, hw⟩ := hw
  refine lv_goto (tgt := 1470) hx hb dd_Law_law_1412 (by decide) ?_
  refine W.widen (k := 245 + x4.toNatClampNeg + 4) (n := 4217 + 6 * x4.toNatClampNeg + 24) (by omega) (by omega) ?_
  exact lb_1470 ⟨hx, hb, hr, hml, hown, hts, hX, hbl, hbA, hb0, hlocks, hl9, hK, hZ⟩ _ K23 S x4 _ _ ls hw hP hS (lv_sub hl [0, 1, 2, 3, 4] rfl)
def wp_Law_law_1347 (L : Nat) (xs : Nat → Int32) (k23 : fw_S → Int32 → Prop) (S : fw_S) (x4 : Int32) : Prop := x4.toNatClampNeg ≤ 2560 ∧ (vp_in (x4 + 1) L ∧ (vp_in (x4 + 2) L ∧ (wp_Law_bill S 0 (xs (x4 + 1 : Int32).toNatClampNeg) (xs (x4 + 2 : Int32).toNatClampNeg) 244 (fun S3 r4 => vp_in (x4 + 1) L ∧ (vp_in (x4 + 2) L ∧ (wp_M_bill S3 209 (xs (x4 + 1 : Int32).toNatClampNeg) (xs (x4 + 2 : Int32).toNatClampNeg) (fun S7 r8 => wp_M_thrown S7 209 (fun S9 r10 => (((r10 = r4) → ((¬ (r4 = 0) → wp_Law_law_1412 L xs  k23 S9 x4 r4 r8) ∧ ((r4 = 0) → vp_in 0 1 ∧ (((((lg_cmp (S9.2 244 ((0 : Int32).toNatClampNeg)) r8.toInt64) = 0) → wp_Law_law_1412 L xs  k23 S9 x4 r4 r8) ∧ (¬ ((lg_cmp (S9.2 244 ((0 : Int32).toNatClampNeg)) r8.toInt64) = 0) → False)))))) ∧ (¬ (r10 = r4) → False))))))))))
set_option maxHeartbeats 4000000 in
set_option maxRecDepth 100000 in
theorem lb_1347 {p : Program} {l : Launch} {e : Env} {s : State} {m : MethodId} {below : List Frame} {meth : Method} {c : Code} {bs L b : Nat} {xs : Nat → Int32} {D : va_G} {cA : Nat → ClassId} (X9 : lx_C p l s m meth c bs L b xs D cA) (k23 : fw_S → Int32 → Prop) (K23 : ∀ (S : fw_S) (x4 : Int32) (H : Heap) (locs : List Loc) (ls : Array Slot), k23 S x4 → fw_P D CL cA layU b 245 (fw_v TK layU b S) H → va_S (fw_A b 245) s.heap H locs → lv_has ls 8 [(0, .ref bs), (1, .ref (b + 0)), (2, .ref (b + 209)), (3, .ref (b + 244)), (4, .int x4)] → W p l e room_1 s m #[Value.ref bs] below meth c H locs (245 + x4.toNatClampNeg + 0) (4217 + 6 * x4.toNatClampNeg + 0) (lw_Z below #[Value.ref bs] s) (F0 m 23 ls [])) : ∀ (S : fw_S) (x4 : Int32) (H : Heap) (locs : List Loc) (ls : Array Slot), wp_Law_law_1347 L xs k23 S x4 → fw_P D CL cA layU b 245 (fw_v TK layU b S) H → va_S (fw_A b 245) s.heap H locs → lv_has ls 8 [(0, .ref bs), (1, .ref (b + 0)), (2, .ref (b + 209)), (3, .ref (b + 244)), (4, .int x4)] → W p l e room_1 s m #[Value.ref bs] below meth c H locs (245 + x4.toNatClampNeg + 0) (4217 + 6 * x4.toNatClampNeg + 0) (lw_Z below #[Value.ref bs] s) (F0 m 1347 ls []) := by
  obtain ⟨hx, hb, hr, hml, hown, hts, hX, hbl, hbA, hb0, hlocks, hl9, hK, hZ⟩ := X9
  intro S x4 H locs ls hw hP hS hl
  unfold wp_Law_law_1347 at hw
  obtain ⟨hx4, hw⟩ := hw
  refine lv_aload_n hx hb dd_Law_law_1347 rfl (lv_at hl 1 rfl) ?_
  refine lv_aload_n hx hb dd_Law_law_1348 rfl (lv_at hl 0 rfl) ?_
  refine lv_iload hx hb dd_Law_law_1349 (lv_at hl 4 rfl) ?_
  refine lv_iconst (v := 1) hx hb dd_Law_law_1351 kc_ic_1 ?_
  refine lv_iadd hx hb dd_Law_law_1352 ?_
  obtain ⟨h1, hw⟩ := hw
  refine va_sld hx hb hX hbl hbA hS h1 dd_Law_law_1353 ?_
  refine lv_aload_n hx hb dd_Law_law_1354 rfl (lv_at hl 0 rfl) ?_
  refine lv_iload hx hb dd_Law_law_1355 (lv_at hl 4 rfl) ?_
  refine lv_iconst (v := 2) hx hb dd_Law_law_1357 kc_ic_2 ?_
  refine lv_iadd hx hb dd_Law_law_1358 ?_
  obtain ⟨h2, hw⟩ := hw
  refine va_sld hx hb hX hbl hbA hS h2 dd_Law_law_1359 ?_
  refine lv_aload_n hx hb dd_Law_law_1360 rfl (lv_at hl 3 rfl) ?_
  refine fw_calli (fw_runSW (As := [.ref (b + 0), .int (xs (x4 + 1 : Int32).toNatClampNeg), .int (xs (x4 + 2 : Int32).toNatClampNeg), .ref (b + 244)]) (rest := []) ⟨hx, hb, hml, hown, hts⟩ (mt_Law_bill l hl9 D cA b S 0 (xs (x4 + 1 : Int32).toNatClampNeg) (xs (x4 + 2 : Int32).toNatClampNeg) 244 lx_x lx_o _ hw) 4 (fw_g tw_763) rfl rfl rfl (hts _ (tb_in tw_0)) (hts _ (tb_in tw_761)) (hts _ (tb_in tw_762)) (by decide +kernel) ⟨Nat.le_of_ble_eq_true rfl, Nat.le_of_ble_eq_true rfl⟩ (fw_preSX hP hK hZ hS) rfl rfl hl.1 rfl (lv_room (Nat.le_of_ble_eq_true rfl)) dd_Law_law_1361 ⟨(show _ ≤ 601024 by omega), (show _ ≤ 7293034 by omega)⟩) hS (fun S3 r4 H locs hw hP hS => ?_)
  try dsimp only at hw
  refine lv_istore hx hb dd_Law_law_1364 hl (Nat.le_of_ble_eq_true rfl) rfl (fun ls hl => ?_)
  have hl : lv_has ls 8 [(5, .int r4), (0, .ref bs), (1, .ref (b + 0)), (2, .ref (b + 209)), (3, .ref (b + 244)), (4, .int x4)] := hl
  refine lv_aload_n hx hb dd_Law_law_1366 rfl (lv_at hl 3 rfl) ?_
  refine lv_aload_n hx hb dd_Law_law_1367 rfl (lv_at hl 1 rfl) ?_
  refine lv_iload hx hb dd_Law_law_1368 (lv_at hl 5 rfl) ?_
  refine lv_iconst (v := 1) hx hb dd_Law_law_1370 kc_ic_1 ?_
  refine lv_iadd hx hb dd_Law_law_1371 ?_
  obtain ⟨h5, hw⟩ := hw
  refine va_sld hx hb hX hbl hbA hS h5 dd_Law_law_1372 ?_
  refine lv_aload_n hx hb dd_Law_law_1373 rfl (lv_at hl 1 rfl) ?_
  refine lv_iload hx hb dd_Law_law_1374 (lv_at hl 5 rfl) ?_
  refine lv_iconst (v := 2) hx hb dd_Law_law_1376 kc_ic_2 ?_
  refine lv_iadd hx hb dd_Law_law_1377 ?_
  obtain ⟨h6, hw⟩ := hw
  refine va_sld hx hb hX hbl hbA hS h6 dd_Law_law_1378 ?_
  refine fw_calli (va_runV (As := [.int (xs (x4 + 1 : Int32).toNatClampNeg), .int (xs (x4 + 2 : Int32).toNatClampNeg)]) (rest := []) ⟨hx, hb, hml, hown, hts⟩ (mt_M_bill l D cA b S3 209 (xs (x4 + 1 : Int32).toNatClampNeg) (xs (x4 + 2 : Int32).toNatClampNeg) lx_m _ hw) (cwV 2 hts (fw_gV tw_1076 tw_1073 tw_1074 tw_1075 tw_11) rfl rfl rfl (by decide +kernel) ⟨Nat.le_of_ble_eq_true rfl, Nat.le_of_ble_eq_true rfl⟩) (fw_preV hP hK lx_m (by decide) rfl) rfl rfl hl.1 rfl (lv_room (Nat.le_of_ble_eq_true rfl)) dd_Law_law_1379 ⟨(show _ ≤ 601024 by omega), (show _ ≤ 7293034 by omega)⟩) hS (fun S7 r8 H locs hw hP hS => ?_)
  try dsimp only at hw
  refine lv_istore hx hb dd_Law_law_1382 hl (Nat.le_of_ble_eq_true rfl) rfl (fun ls hl => ?_)
  have hl : lv_has ls 8 [(6, .int r8), (5, .int r4), (0, .ref bs), (1, .ref (b + 0)), (2, .ref (b + 209)), (3, .ref (b + 244)), (4, .int x4)] := hl
  refine lv_aload_n hx hb dd_Law_law_1384 rfl (lv_at hl 4 rfl) ?_
  refine fw_calli (va_runV (As := []) (rest := []) ⟨hx, hb, hml, hown, hts⟩ (mt_M_thrown l D cA b S7 209 lx_m _ hw) (cwV 0 hts (fw_gV tw_906 tw_903 tw_904 tw_905 tw_11) rfl rfl rfl (by decide +kernel) ⟨Nat.le_of_ble_eq_true rfl, Nat.le_of_ble_eq_true rfl⟩) (fw_preV hP hK lx_m (by decide) rfl) rfl rfl hl.1 rfl (lv_room (Nat.le_of_ble_eq_true rfl)) dd_Law_law_1385 ⟨(show _ ≤ 601024 by omega), (show _ ≤ 7293034 by omega)⟩) hS (fun S9 r10 H locs hw hP hS => ?_)
  try dsimp only at hw
  refine lv_iload hx hb dd_Law_law_1388 (lv_at hl 1 rfl) ?_
  refine lv_icmp_eq (tgt := 1395) hx hb dd_Law_law_1390 (by decide) (fun h11 => ?_) (fun h11 => ?_)
  · have hw := hw.1 h11
    refine lv_iload hx hb dd_Law_law_1395 (lv_at hl 1 rfl) ?_
    refine lv_if_ne (tgt := 1412) hx hb dd_Law_law_1397 (by decide) (fun h12 => ?_) (fun h12 => ?_)
    · have hw := hw.1 h12
      refine W.widen (k := 245 + x4.toNatClampNeg + 2) (n := 4217 + 6 * x4.toNatClampNeg + 12) (by omega) (by omega) ?_
      exact lb_1412 ⟨hx, hb, hr, hml, hown, hts, hX, hbl, hbA, hb0, hlocks, hl9, hK, hZ⟩ _ K23 S9 x4 r4 r8 _ _ ls hw hP hS (lv_sub hl [2, 3, 4, 5, 6, 1, 0] rfl)
    · have hw := hw.2 h12
      refine lv_aload_n hx hb dd_Law_law_1400 rfl (lv_at hl 5 rfl) ?_
      refine lv_iconst (v := 0) hx hb dd_Law_law_1401 kc_ic_0 ?_
      obtain ⟨h13, hw⟩ := hw
      refine fw_lald hx hb hK hP lx_o (by decide) 1 rfl tka_101 h13 dd_Law_law_1402 ?_
      refine lv_iload hx hb dd_Law_law_1403 (lv_at hl 0 rfl) ?_
      refine lv_i2l hx hb dd_Law_law_1405 rfl ?_
      refine W.lcmp hx hb dd_Law_law_1406 ?_
      refine lv_if_eq (tgt := 1412) hx hb dd_Law_law_1407 (by decide) (fun h14 => ?_) (fun h14 => ?_)
      · have hw := hw.1 h14
        refine W.widen (k := 245 + x4.toNatClampNeg + 2) (n := 4217 + 6 * x4.toNatClampNeg + 12) (by omega) (by omega) ?_
        exact lb_1412 ⟨hx, hb, hr, hml, hown, hts, hX, hbl, hbA, hb0, hlocks, hl9, hK, hZ⟩ _ K23 S9 x4 r4 r8 _ _ ls hw hP hS (lv_sub hl [2, 3, 4, 5, 6, 1, 0] rfl)
      · have hw := hw.2 h14
        refine lv_iconst (v := 0) hx hb dd_Law_law_1410 kc_ic_0 ?_
        exact False.elim hw
  · have hw := hw.2 h11
    refine lv_iconst (v := 0) hx hb dd_Law_law_1393 kc_ic_0 ?_
    exact False.elim hw
def wp_Law_law_1467 (L : Nat) (xs : Nat → Int32) (k23 : fw_S → Int32 → Prop) (S : fw_S) (x4 : Int32) (x5 : Int32) (y6 : Int64) : Prop := x4.toNatClampNeg ≤ 2560 ∧ (wp_Law_law_1470 L xs  k23 S x4)
set_option maxHeartbeats 4000000 in
set_option maxRecDepth 100000 in
theorem lb_1467 {p : Program} {l : Launch} {e : Env} {s : State} {m : MethodId} {below : List Frame} {meth : Method} {c : Code} {bs L b : Nat} {xs : Nat → Int32} {D : va_G} {cA : Nat → ClassId} (X9 : lx_C p l s m meth c bs L b xs D cA) (k23 : fw_S → Int32 → Prop) (K23 : ∀ (S : fw_S) (x4 : Int32) (H : Heap) (locs : List Loc) (ls : Array Slot), k23 S x4 → fw_P D CL cA layU b 245 (fw_v TK layU b S) H → va_S (fw_A b 245) s.heap H locs → lv_has ls 8 [(0, .ref bs), (1, .ref (b + 0)), (2, .ref (b + 209)), (3, .ref (b + 244)), (4, .int x4)] → W p l e room_1 s m #[Value.ref bs] below meth c H locs (245 + x4.toNatClampNeg + 0) (4217 + 6 * x4.toNatClampNeg + 0) (lw_Z below #[Value.ref bs] s) (F0 m 23 ls [])) : ∀ (S : fw_S) (x4 : Int32) (x5 : Int32) (y6 : Int64) (H : Heap) (locs : List Loc) (ls : Array Slot), wp_Law_law_1467 L xs k23 S x4 x5 y6 → fw_P D CL cA layU b 245 (fw_v TK layU b S) H → va_S (fw_A b 245) s.heap H locs → lv_has ls 8 [(0, .ref bs), (1, .ref (b + 0)), (2, .ref (b + 209)), (3, .ref (b + 244)), (4, .int x4), (5, .int x5), (6, .long y6)] → W p l e room_1 s m #[Value.ref bs] below meth c H locs (245 + x4.toNatClampNeg + 1) (4217 + 6 * x4.toNatClampNeg + 6) (lw_Z below #[Value.ref bs] s) (F0 m 1467 ls []) := by
  obtain ⟨hx, hb, hr, hml, hown, hts, hX, hbl, hbA, hb0, hlocks, hl9, hK, hZ⟩ := X9
  intro S x4 x5 y6 H locs ls hw hP hS hl
  unfold wp_Law_law_1467 at hw
  obtain ⟨hx4, hw⟩ := hw
  refine lv_goto (tgt := 1470) hx hb dd_Law_law_1467 (by decide) ?_
  refine W.widen (k := 245 + x4.toNatClampNeg + 4) (n := 4217 + 6 * x4.toNatClampNeg + 24) (by omega) (by omega) ?_
  exact lb_1470 ⟨hx, hb, hr, hml, hown, hts, hX, hbl, hbA, hb0, hlocks, hl9, hK, hZ⟩ _ K23 S x4 _ _ ls hw hP hS (lv_sub hl [0, 1, 2, 3, 4] rfl)
def wp_Law_law_1415 (L : Nat) (xs : Nat → Int32) (k23 : fw_S → Int32 → Prop) (S : fw_S) (x4 : Int32) : Prop := x4.toNatClampNeg ≤ 2560 ∧ (vp_in (x4 + 1) L ∧ (wp_Law_total S 0 (xs (x4 + 1 : Int32).toNatClampNeg) 244 (fun S2 r3 => vp_in (x4 + 1) L ∧ (wp_M_total S2 209 (xs (x4 + 1 : Int32).toNatClampNeg) (fun S5 r6 => wp_M_thrown S5 209 (fun S7 r8 => (((r8 = r3) → ((¬ (r3 = 0) → wp_Law_law_1467 L xs  k23 S7 x4 r3 r6) ∧ ((r3 = 0) → vp_in 0 1 ∧ (((((lg_cmp (S7.2 244 ((0 : Int32).toNatClampNeg)) r6) = 0) → wp_Law_law_1467 L xs  k23 S7 x4 r3 r6) ∧ (¬ ((lg_cmp (S7.2 244 ((0 : Int32).toNatClampNeg)) r6) = 0) → False)))))) ∧ (¬ (r8 = r3) → False))))))))
set_option maxHeartbeats 4000000 in
set_option maxRecDepth 100000 in
theorem lb_1415 {p : Program} {l : Launch} {e : Env} {s : State} {m : MethodId} {below : List Frame} {meth : Method} {c : Code} {bs L b : Nat} {xs : Nat → Int32} {D : va_G} {cA : Nat → ClassId} (X9 : lx_C p l s m meth c bs L b xs D cA) (k23 : fw_S → Int32 → Prop) (K23 : ∀ (S : fw_S) (x4 : Int32) (H : Heap) (locs : List Loc) (ls : Array Slot), k23 S x4 → fw_P D CL cA layU b 245 (fw_v TK layU b S) H → va_S (fw_A b 245) s.heap H locs → lv_has ls 8 [(0, .ref bs), (1, .ref (b + 0)), (2, .ref (b + 209)), (3, .ref (b + 244)), (4, .int x4)] → W p l e room_1 s m #[Value.ref bs] below meth c H locs (245 + x4.toNatClampNeg + 0) (4217 + 6 * x4.toNatClampNeg + 0) (lw_Z below #[Value.ref bs] s) (F0 m 23 ls [])) : ∀ (S : fw_S) (x4 : Int32) (H : Heap) (locs : List Loc) (ls : Array Slot), wp_Law_law_1415 L xs k23 S x4 → fw_P D CL cA layU b 245 (fw_v TK layU b S) H → va_S (fw_A b 245) s.heap H locs → lv_has ls 8 [(0, .ref bs), (1, .ref (b + 0)), (2, .ref (b + 209)), (3, .ref (b + 244)), (4, .int x4)] → W p l e room_1 s m #[Value.ref bs] below meth c H locs (245 + x4.toNatClampNeg + 0) (4217 + 6 * x4.toNatClampNeg + 0) (lw_Z below #[Value.ref bs] s) (F0 m 1415 ls []) := by
  obtain ⟨hx, hb, hr, hml, hown, hts, hX, hbl, hbA, hb0, hlocks, hl9, hK, hZ⟩ := X9
  intro S x4 H locs ls hw hP hS hl
  unfold wp_Law_law_1415 at hw
  obtain ⟨hx4, hw⟩ := hw
  refine lv_aload_n hx hb dd_Law_law_1415 rfl (lv_at hl 1 rfl) ?_
  refine lv_aload_n hx hb dd_Law_law_1416 rfl (lv_at hl 0 rfl) ?_
  refine lv_iload hx hb dd_Law_law_1417 (lv_at hl 4 rfl) ?_
  refine lv_iconst (v := 1) hx hb dd_Law_law_1419 kc_ic_1 ?_
  refine lv_iadd hx hb dd_Law_law_1420 ?_
  obtain ⟨h1, hw⟩ := hw
  refine va_sld hx hb hX hbl hbA hS h1 dd_Law_law_1421 ?_
  refine lv_aload_n hx hb dd_Law_law_1422 rfl (lv_at hl 3 rfl) ?_
  refine fw_calli (fw_runSW (As := [.ref (b + 0), .int (xs (x4 + 1 : Int32).toNatClampNeg), .ref (b + 244)]) (rest := []) ⟨hx, hb, hml, hown, hts⟩ (mt_Law_total l hl9 D cA b S 0 (xs (x4 + 1 : Int32).toNatClampNeg) 244 lx_x lx_o _ hw) 3 (fw_g tw_770) rfl rfl rfl (hts _ (tb_in tw_0)) (hts _ (tb_in tw_768)) (hts _ (tb_in tw_769)) (by decide +kernel) ⟨Nat.le_of_ble_eq_true rfl, Nat.le_of_ble_eq_true rfl⟩ (fw_preSX hP hK hZ hS) rfl rfl hl.1 rfl (lv_room (Nat.le_of_ble_eq_true rfl)) dd_Law_law_1423 ⟨(show _ ≤ 601024 by omega), (show _ ≤ 7293034 by omega)⟩) hS (fun S2 r3 H locs hw hP hS => ?_)
  try dsimp only at hw
  refine lv_istore hx hb dd_Law_law_1426 hl (Nat.le_of_ble_eq_true rfl) rfl (fun ls hl => ?_)
  have hl : lv_has ls 8 [(5, .int r3), (0, .ref bs), (1, .ref (b + 0)), (2, .ref (b + 209)), (3, .ref (b + 244)), (4, .int x4)] := hl
  refine lv_aload_n hx hb dd_Law_law_1428 rfl (lv_at hl 3 rfl) ?_
  refine lv_aload_n hx hb dd_Law_law_1429 rfl (lv_at hl 1 rfl) ?_
  refine lv_iload hx hb dd_Law_law_1430 (lv_at hl 5 rfl) ?_
  refine lv_iconst (v := 1) hx hb dd_Law_law_1432 kc_ic_1 ?_
  refine lv_iadd hx hb dd_Law_law_1433 ?_
  obtain ⟨h4, hw⟩ := hw
  refine va_sld hx hb hX hbl hbA hS h4 dd_Law_law_1434 ?_
  refine fw_calll (va_runV (As := [.int (xs (x4 + 1 : Int32).toNatClampNeg)]) (rest := []) ⟨hx, hb, hml, hown, hts⟩ (mt_M_total l D cA b S2 209 (xs (x4 + 1 : Int32).toNatClampNeg) lx_m _ hw) (cwV 1 hts (fw_gV tw_1080 tw_1077 tw_1078 tw_1079 tw_11) rfl rfl rfl (by decide +kernel) ⟨Nat.le_of_ble_eq_true rfl, Nat.le_of_ble_eq_true rfl⟩) (fw_preV hP hK lx_m (by decide) rfl) rfl rfl hl.1 rfl (lv_room (Nat.le_of_ble_eq_true rfl)) dd_Law_law_1435 ⟨(show _ ≤ 601024 by omega), (show _ ≤ 7293034 by omega)⟩) hS (fun S5 r6 H locs hw hP hS => ?_)
  try dsimp only at hw
  refine lv_lstore hx hb dd_Law_law_1438 hl (Nat.le_of_ble_eq_true rfl) rfl (fun ls hl => ?_)
  have hl : lv_has ls 8 [(6, .long r6), (5, .int r3), (0, .ref bs), (1, .ref (b + 0)), (2, .ref (b + 209)), (3, .ref (b + 244)), (4, .int x4)] := hl
  refine lv_aload_n hx hb dd_Law_law_1440 rfl (lv_at hl 4 rfl) ?_
  refine fw_calli (va_runV (As := []) (rest := []) ⟨hx, hb, hml, hown, hts⟩ (mt_M_thrown l D cA b S5 209 lx_m _ hw) (cwV 0 hts (fw_gV tw_906 tw_903 tw_904 tw_905 tw_11) rfl rfl rfl (by decide +kernel) ⟨Nat.le_of_ble_eq_true rfl, Nat.le_of_ble_eq_true rfl⟩) (fw_preV hP hK lx_m (by decide) rfl) rfl rfl hl.1 rfl (lv_room (Nat.le_of_ble_eq_true rfl)) dd_Law_law_1441 ⟨(show _ ≤ 601024 by omega), (show _ ≤ 7293034 by omega)⟩) hS (fun S7 r8 H locs hw hP hS => ?_)
  try dsimp only at hw
  refine lv_iload hx hb dd_Law_law_1444 (lv_at hl 1 rfl) ?_
  refine lv_icmp_eq (tgt := 1451) hx hb dd_Law_law_1446 (by decide) (fun h9 => ?_) (fun h9 => ?_)
  · have hw := hw.1 h9
    refine lv_iload hx hb dd_Law_law_1451 (lv_at hl 1 rfl) ?_
    refine lv_if_ne (tgt := 1467) hx hb dd_Law_law_1453 (by decide) (fun h10 => ?_) (fun h10 => ?_)
    · have hw := hw.1 h10
      refine W.widen (k := 245 + x4.toNatClampNeg + 1) (n := 4217 + 6 * x4.toNatClampNeg + 6) (by omega) (by omega) ?_
      exact lb_1467 ⟨hx, hb, hr, hml, hown, hts, hX, hbl, hbA, hb0, hlocks, hl9, hK, hZ⟩ _ K23 S7 x4 r3 r6 _ _ ls hw hP hS (lv_sub hl [2, 3, 4, 5, 6, 1, 0] rfl)
    · have hw := hw.2 h10
      refine lv_aload_n hx hb dd_Law_law_1456 rfl (lv_at hl 5 rfl) ?_
      refine lv_iconst (v := 0) hx hb dd_Law_law_1457 kc_ic_0 ?_
      obtain ⟨h11, hw⟩ := hw
      refine fw_lald hx hb hK hP lx_o (by decide) 1 rfl tka_101 h11 dd_Law_law_1458 ?_
      refine lv_lload hx hb dd_Law_law_1459 (lv_at hl 0 rfl) ?_
      refine W.lcmp hx hb dd_Law_law_1461 ?_
      refine lv_if_eq (tgt := 1467) hx hb dd_Law_law_1462 (by decide) (fun h12 => ?_) (fun h12 => ?_)
      · have hw := hw.1 h12
        refine W.widen (k := 245 + x4.toNatClampNeg + 1) (n := 4217 + 6 * x4.toNatClampNeg + 6) (by omega) (by omega) ?_
        exact lb_1467 ⟨hx, hb, hr, hml, hown, hts, hX, hbl, hbA, hb0, hlocks, hl9, hK, hZ⟩ _ K23 S7 x4 r3 r6 _ _ ls hw hP hS (lv_sub hl [2, 3, 4, 5, 6, 1, 0] rfl)
      · have hw := hw.2 h12
        refine lv_iconst (v := 0) hx hb dd_Law_law_1465 kc_ic_0 ?_
        exact False.elim hw
  · have hw := hw.2 h9
    refine lv_iconst (v := 0) hx hb dd_Law_law_1449 kc_ic_0 ?_
    exact False.elim hw
def wp_Law_law_23 (L : Nat) (xs : Nat → Int32) : Nat → fw_S → Int32 → Prop
  | 0, _, _ => False
  | f + 1, S, x4 => x4.toNatClampNeg ≤ 2560 ∧ ((((((Int32.ofNat L) - 5) < x4) → True) ∧ (¬ (((Int32.ofNat L) - 5) < x4) → vp_in x4 L ∧ (((((xs (x4 : Int32).toNatClampNeg) &&& 31 : Int32).toInt < 0 ∨ 22 < ((xs (x4 : Int32).toNatClampNeg) &&& 31 : Int32).toInt → wp_Law_law_1470 L xs  (fun S x4 => wp_Law_law_23 L xs  f S x4) S x4) ∧ (((xs (x4 : Int32).toNatClampNeg) &&& 31 : Int32).toInt = 0 → wp_Law_law_144 L xs  (fun S x4 => wp_Law_law_23 L xs  f S x4) S x4) ∧ (((xs (x4 : Int32).toNatClampNeg) &&& 31 : Int32).toInt = 1 → wp_Law_law_192 L xs  (fun S x4 => wp_Law_law_23 L xs  f S x4) S x4) ∧ (((xs (x4 : Int32).toNatClampNeg) &&& 31 : Int32).toInt = 2 → wp_Law_law_252 L xs  (fun S x4 => wp_Law_law_23 L xs  f S x4) S x4) ∧ (((xs (x4 : Int32).toNatClampNeg) &&& 31 : Int32).toInt = 3 → wp_Law_law_300 L xs  (fun S x4 => wp_Law_law_23 L xs  f S x4) S x4) ∧ (((xs (x4 : Int32).toNatClampNeg) &&& 31 : Int32).toInt = 4 → wp_Law_law_360 L xs  (fun S x4 => wp_Law_law_23 L xs  f S x4) S x4) ∧ (((xs (x4 : Int32).toNatClampNeg) &&& 31 : Int32).toInt = 5 → wp_Law_law_423 L xs  (fun S x4 => wp_Law_law_23 L xs  f S x4) S x4) ∧ (((xs (x4 : Int32).toNatClampNeg) &&& 31 : Int32).toInt = 6 → wp_Law_law_522 L xs  (fun S x4 => wp_Law_law_23 L xs  f S x4) S x4) ∧ (((xs (x4 : Int32).toNatClampNeg) &&& 31 : Int32).toInt = 7 → wp_Law_law_597 L xs  (fun S x4 => wp_Law_law_23 L xs  f S x4) S x4) ∧ (((xs (x4 : Int32).toNatClampNeg) &&& 31 : Int32).toInt = 8 → wp_Law_law_660 L xs  (fun S x4 => wp_Law_law_23 L xs  f S x4) S x4) ∧ (((xs (x4 : Int32).toNatClampNeg) &&& 31 : Int32).toInt = 9 → wp_Law_law_728 L xs  (fun S x4 => wp_Law_law_23 L xs  f S x4) S x4) ∧ (((xs (x4 : Int32).toNatClampNeg) &&& 31 : Int32).toInt = 10 → wp_Law_law_792 L xs  (fun S x4 => wp_Law_law_23 L xs  f S x4) S x4) ∧ (((xs (x4 : Int32).toNatClampNeg) &&& 31 : Int32).toInt = 11 → wp_Law_law_856 L xs  (fun S x4 => wp_Law_law_23 L xs  f S x4) S x4) ∧ (((xs (x4 : Int32).toNatClampNeg) &&& 31 : Int32).toInt = 12 → wp_Law_law_912 L xs  (fun S x4 => wp_Law_law_23 L xs  f S x4) S x4) ∧ (((xs (x4 : Int32).toNatClampNeg) &&& 31 : Int32).toInt = 13 → wp_Law_law_975 L xs  (fun S x4 => wp_Law_law_23 L xs  f S x4) S x4) ∧ (((xs (x4 : Int32).toNatClampNeg) &&& 31 : Int32).toInt = 14 → wp_Law_law_1031 L xs  (fun S x4 => wp_Law_law_23 L xs  f S x4) S x4) ∧ (((xs (x4 : Int32).toNatClampNeg) &&& 31 : Int32).toInt = 15 → wp_Law_law_1044 L xs  (fun S x4 => wp_Law_law_23 L xs  f S x4) S x4) ∧ (((xs (x4 : Int32).toNatClampNeg) &&& 31 : Int32).toInt = 16 → wp_Law_law_1100 L xs  (fun S x4 => wp_Law_law_23 L xs  f S x4) S x4) ∧ (((xs (x4 : Int32).toNatClampNeg) &&& 31 : Int32).toInt = 17 → wp_Law_law_1156 L xs  (fun S x4 => wp_Law_law_23 L xs  f S x4) S x4) ∧ (((xs (x4 : Int32).toNatClampNeg) &&& 31 : Int32).toInt = 18 → wp_Law_law_1211 L xs  (fun S x4 => wp_Law_law_23 L xs  f S x4) S x4) ∧ (((xs (x4 : Int32).toNatClampNeg) &&& 31 : Int32).toInt = 19 → wp_Law_law_1279 L xs  (fun S x4 => wp_Law_law_23 L xs  f S x4) S x4) ∧ (((xs (x4 : Int32).toNatClampNeg) &&& 31 : Int32).toInt = 20 → wp_Law_law_1334 L xs  (fun S x4 => wp_Law_law_23 L xs  f S x4) S x4) ∧ (((xs (x4 : Int32).toNatClampNeg) &&& 31 : Int32).toInt = 21 → wp_Law_law_1347 L xs  (fun S x4 => wp_Law_law_23 L xs  f S x4) S x4) ∧ (((xs (x4 : Int32).toNatClampNeg) &&& 31 : Int32).toInt = 22 → wp_Law_law_1415 L xs  (fun S x4 => wp_Law_law_23 L xs  f S x4) S x4))))))
set_option maxHeartbeats 4000000 in
set_option maxRecDepth 100000 in
theorem lb_23 {p : Program} {l : Launch} {e : Env} {s : State} {m : MethodId} {below : List Frame} {meth : Method} {c : Code} {bs L b : Nat} {xs : Nat → Int32} {D : va_G} {cA : Nat → ClassId} (X9 : lx_C p l s m meth c bs L b xs D cA) : ∀ f : Nat, ∀ (S : fw_S) (x4 : Int32) (H : Heap) (locs : List Loc) (ls : Array Slot), wp_Law_law_23 L xs f S x4 → fw_P D CL cA layU b 245 (fw_v TK layU b S) H → va_S (fw_A b 245) s.heap H locs → lv_has ls 8 [(0, .ref bs), (1, .ref (b + 0)), (2, .ref (b + 209)), (3, .ref (b + 244)), (4, .int x4)] → W p l e room_1 s m #[Value.ref bs] below meth c H locs (245 + x4.toNatClampNeg + 0) (4217 + 6 * x4.toNatClampNeg + 0) (lw_Z below #[Value.ref bs] s) (F0 m 23 ls []) := by
  obtain ⟨hx, hb, hr, hml, hown, hts, hX, hbl, hbA, hb0, hlocks, hl9, hK, hZ⟩ := X9
  intro f
  induction f with
  | zero => intro S x4 H locs ls hw; exact False.elim hw
  | succ f ih =>
    intro S x4 H locs ls hw hP hS hl
    unfold wp_Law_law_23 at hw
    obtain ⟨hx4, hw⟩ := hw
    refine lv_iload hx hb dd_Law_law_23 (lv_at hl 4 rfl) ?_
    refine lv_aload_n hx hb dd_Law_law_25 rfl (lv_at hl 0 rfl) ?_
    refine va_slen hx hb hX hbl hbA hS dd_Law_law_26 ?_
    refine lv_iconst (v := 5) hx hb dd_Law_law_27 kc_ic_5 ?_
    refine lv_isub hx hb dd_Law_law_28 ?_
    refine lv_icmp_gt (tgt := 1476) hx hb dd_Law_law_29 (by decide) (fun h1 => ?_) (fun h1 => ?_)
    · have hw := hw.1 h1
      refine lv_iconst (v := 1) hx hb dd_Law_law_1476 kc_ic_1 ?_
      refine W.widen (k := 601024) (n := 7293034) (by omega) (by omega) ?_
      refine va_forget (fun q hq => by have := (hS.2.2 q hq).1; omega) ?_
      exact lw_ret hx hb hr hlocks dd_Law_law_1477
    · have hw := hw.2 h1
      refine lv_aload_n hx hb dd_Law_law_32 rfl (lv_at hl 0 rfl) ?_
      refine lv_iload hx hb dd_Law_law_33 (lv_at hl 4 rfl) ?_
      obtain ⟨h2, hw⟩ := hw
      refine va_sld hx hb hX hbl hbA hS h2 dd_Law_law_35 ?_
      refine lv_bipush (v := 31) hx hb dd_Law_law_36 kc_bp_31 ?_
      refine lv_iand hx hb dd_Law_law_38 ?_
      by_cases h3 : ((xs (x4 : Int32).toNatClampNeg) &&& 31 : Int32).toInt < 0 ∨ 22 < ((xs (x4 : Int32).toNatClampNeg) &&& 31 : Int32).toInt
      · have hw := hw.1 h3
        refine lv_tableOut (tgt := 1470) hx hb dd_Law_law_39 h3 (by decide) ?_
        refine W.widen (k := 245 + x4.toNatClampNeg + 4) (n := 4217 + 6 * x4.toNatClampNeg + 24) (by omega) (by omega) ?_
        exact lb_1470 ⟨hx, hb, hr, hml, hown, hts, hX, hbl, hbA, hb0, hlocks, hl9, hK, hZ⟩ _ ih S x4 _ _ ls hw hP hS (lv_sub hl [0, 1, 2, 3, 4] rfl)
      have hw := hw.2
      have h3_r : ((xs (x4 : Int32).toNatClampNeg) &&& 31 : Int32).toInt = 0 ∨ ((xs (x4 : Int32).toNatClampNeg) &&& 31 : Int32).toInt = 1 ∨ ((xs (x4 : Int32).toNatClampNeg) &&& 31 : Int32).toInt = 2 ∨ ((xs (x4 : Int32).toNatClampNeg) &&& 31 : Int32).toInt = 3 ∨ ((xs (x4 : Int32).toNatClampNeg) &&& 31 : Int32).toInt = 4 ∨ ((xs (x4 : Int32).toNatClampNeg) &&& 31 : Int32).toInt = 5 ∨ ((xs (x4 : Int32).toNatClampNeg) &&& 31 : Int32).toInt = 6 ∨ ((xs (x4 : Int32).toNatClampNeg) &&& 31 : Int32).toInt = 7 ∨ ((xs (x4 : Int32).toNatClampNeg) &&& 31 : Int32).toInt = 8 ∨ ((xs (x4 : Int32).toNatClampNeg) &&& 31 : Int32).toInt = 9 ∨ ((xs (x4 : Int32).toNatClampNeg) &&& 31 : Int32).toInt = 10 ∨ ((xs (x4 : Int32).toNatClampNeg) &&& 31 : Int32).toInt = 11 ∨ ((xs (x4 : Int32).toNatClampNeg) &&& 31 : Int32).toInt = 12 ∨ ((xs (x4 : Int32).toNatClampNeg) &&& 31 : Int32).toInt = 13 ∨ ((xs (x4 : Int32).toNatClampNeg) &&& 31 : Int32).toInt = 14 ∨ ((xs (x4 : Int32).toNatClampNeg) &&& 31 : Int32).toInt = 15 ∨ ((xs (x4 : Int32).toNatClampNeg) &&& 31 : Int32).toInt = 16 ∨ ((xs (x4 : Int32).toNatClampNeg) &&& 31 : Int32).toInt = 17 ∨ ((xs (x4 : Int32).toNatClampNeg) &&& 31 : Int32).toInt = 18 ∨ ((xs (x4 : Int32).toNatClampNeg) &&& 31 : Int32).toInt = 19 ∨ ((xs (x4 : Int32).toNatClampNeg) &&& 31 : Int32).toInt = 20 ∨ ((xs (x4 : Int32).toNatClampNeg) &&& 31 : Int32).toInt = 21 ∨ ((xs (x4 : Int32).toNatClampNeg) &&& 31 : Int32).toInt = 22 := by omega
      rcases h3_r with h3_e | h3_r
      · have hw := hw.1 h3_e
        refine lv_tableIn (tgt := 144) hx hb dd_Law_law_39 (by omega) (by omega) (by rw [h3_e]; rfl) (by decide) ?_
        refine W.widen (k := 245 + x4.toNatClampNeg + 0) (n := 4217 + 6 * x4.toNatClampNeg + 0) (by omega) (by omega) ?_
        exact lb_144 ⟨hx, hb, hr, hml, hown, hts, hX, hbl, hbA, hb0, hlocks, hl9, hK, hZ⟩ _ ih S x4 _ _ ls hw hP hS (lv_sub hl [0, 1, 2, 3, 4] rfl)
      have hw := hw.2
      rcases h3_r with h3_e | h3_r
      · have hw := hw.1 h3_e
        refine lv_tableIn (tgt := 192) hx hb dd_Law_law_39 (by omega) (by omega) (by rw [h3_e]; rfl) (by decide) ?_
        refine W.widen (k := 245 + x4.toNatClampNeg + 0) (n := 4217 + 6 * x4.toNatClampNeg + 0) (by omega) (by omega) ?_
        exact lb_192 ⟨hx, hb, hr, hml, hown, hts, hX, hbl, hbA, hb0, hlocks, hl9, hK, hZ⟩ _ ih S x4 _ _ ls hw hP hS (lv_sub hl [0, 1, 2, 3, 4] rfl)
      have hw := hw.2
      rcases h3_r with h3_e | h3_r
      · have hw := hw.1 h3_e
        refine lv_tableIn (tgt := 252) hx hb dd_Law_law_39 (by omega) (by omega) (by rw [h3_e]; rfl) (by decide) ?_
        refine W.widen (k := 245 + x4.toNatClampNeg + 0) (n := 4217 + 6 * x4.toNatClampNeg + 0) (by omega) (by omega) ?_
        exact lb_252 ⟨hx, hb, hr, hml, hown, hts, hX, hbl, hbA, hb0, hlocks, hl9, hK, hZ⟩ _ ih S x4 _ _ ls hw hP hS (lv_sub hl [0, 1, 2, 3, 4] rfl)
      have hw := hw.2
      rcases h3_r with h3_e | h3_r
      · have hw := hw.1 h3_e
        refine lv_tableIn (tgt := 300) hx hb dd_Law_law_39 (by omega) (by omega) (by rw [h3_e]; rfl) (by decide) ?_
        refine W.widen (k := 245 + x4.toNatClampNeg + 0) (n := 4217 + 6 * x4.toNatClampNeg + 0) (by omega) (by omega) ?_
        exact lb_300 ⟨hx, hb, hr, hml, hown, hts, hX, hbl, hbA, hb0, hlocks, hl9, hK, hZ⟩ _ ih S x4 _ _ ls hw hP hS (lv_sub hl [0, 1, 2, 3, 4] rfl)
      have hw := hw.2
      rcases h3_r with h3_e | h3_r
      · have hw := hw.1 h3_e
        refine lv_tableIn (tgt := 360) hx hb dd_Law_law_39 (by omega) (by omega) (by rw [h3_e]; rfl) (by decide) ?_
        refine W.widen (k := 245 + x4.toNatClampNeg + 0) (n := 4217 + 6 * x4.toNatClampNeg + 0) (by omega) (by omega) ?_
        exact lb_360 ⟨hx, hb, hr, hml, hown, hts, hX, hbl, hbA, hb0, hlocks, hl9, hK, hZ⟩ _ ih S x4 _ _ ls hw hP hS (lv_sub hl [0, 1, 2, 3, 4] rfl)
      have hw := hw.2
      rcases h3_r with h3_e | h3_r
      · have hw := hw.1 h3_e
        refine lv_tableIn (tgt := 423) hx hb dd_Law_law_39 (by omega) (by omega) (by rw [h3_e]; rfl) (by decide) ?_
        refine W.widen (k := 245 + x4.toNatClampNeg + 0) (n := 4217 + 6 * x4.toNatClampNeg + 0) (by omega) (by omega) ?_
        exact lb_423 ⟨hx, hb, hr, hml, hown, hts, hX, hbl, hbA, hb0, hlocks, hl9, hK, hZ⟩ _ ih S x4 _ _ ls hw hP hS (lv_sub hl [0, 1, 2, 3, 4] rfl)
      have hw := hw.2
      rcases h3_r with h3_e | h3_r
      · have hw := hw.1 h3_e
        refine lv_tableIn (tgt := 522) hx hb dd_Law_law_39 (by omega) (by omega) (by rw [h3_e]; rfl) (by decide) ?_
        refine W.widen (k := 245 + x4.toNatClampNeg + 0) (n := 4217 + 6 * x4.toNatClampNeg + 0) (by omega) (by omega) ?_
        exact lb_522 ⟨hx, hb, hr, hml, hown, hts, hX, hbl, hbA, hb0, hlocks, hl9, hK, hZ⟩ _ ih S x4 _ _ ls hw hP hS (lv_sub hl [0, 1, 2, 3, 4] rfl)
      have hw := hw.2
      rcases h3_r with h3_e | h3_r
      · have hw := hw.1 h3_e
        refine lv_tableIn (tgt := 597) hx hb dd_Law_law_39 (by omega) (by omega) (by rw [h3_e]; rfl) (by decide) ?_
        refine W.widen (k := 245 + x4.toNatClampNeg + 0) (n := 4217 + 6 * x4.toNatClampNeg + 0) (by omega) (by omega) ?_
        exact lb_597 ⟨hx, hb, hr, hml, hown, hts, hX, hbl, hbA, hb0, hlocks, hl9, hK, hZ⟩ _ ih S x4 _ _ ls hw hP hS (lv_sub hl [0, 1, 2, 3, 4] rfl)
      have hw := hw.2
      rcases h3_r with h3_e | h3_r
      · have hw := hw.1 h3_e
        refine lv_tableIn (tgt := 660) hx hb dd_Law_law_39 (by omega) (by omega) (by rw [h3_e]; rfl) (by decide) ?_
        refine W.widen (k := 245 + x4.toNatClampNeg + 0) (n := 4217 + 6 * x4.toNatClampNeg + 0) (by omega) (by omega) ?_
        exact lb_660 ⟨hx, hb, hr, hml, hown, hts, hX, hbl, hbA, hb0, hlocks, hl9, hK, hZ⟩ _ ih S x4 _ _ ls hw hP hS (lv_sub hl [0, 1, 2, 3, 4] rfl)
      have hw := hw.2
      rcases h3_r with h3_e | h3_r
      · have hw := hw.1 h3_e
        refine lv_tableIn (tgt := 728) hx hb dd_Law_law_39 (by omega) (by omega) (by rw [h3_e]; rfl) (by decide) ?_
        refine W.widen (k := 245 + x4.toNatClampNeg + 0) (n := 4217 + 6 * x4.toNatClampNeg + 0) (by omega) (by omega) ?_
        exact lb_728 ⟨hx, hb, hr, hml, hown, hts, hX, hbl, hbA, hb0, hlocks, hl9, hK, hZ⟩ _ ih S x4 _ _ ls hw hP hS (lv_sub hl [0, 1, 2, 3, 4] rfl)
      have hw := hw.2
      rcases h3_r with h3_e | h3_r
      · have hw := hw.1 h3_e
        refine lv_tableIn (tgt := 792) hx hb dd_Law_law_39 (by omega) (by omega) (by rw [h3_e]; rfl) (by decide) ?_
        refine W.widen (k := 245 + x4.toNatClampNeg + 0) (n := 4217 + 6 * x4.toNatClampNeg + 0) (by omega) (by omega) ?_
        exact lb_792 ⟨hx, hb, hr, hml, hown, hts, hX, hbl, hbA, hb0, hlocks, hl9, hK, hZ⟩ _ ih S x4 _ _ ls hw hP hS (lv_sub hl [0, 1, 2, 3, 4] rfl)
      have hw := hw.2
      rcases h3_r with h3_e | h3_r
      · have hw := hw.1 h3_e
        refine lv_tableIn (tgt := 856) hx hb dd_Law_law_39 (by omega) (by omega) (by rw [h3_e]; rfl) (by decide) ?_
        refine W.widen (k := 245 + x4.toNatClampNeg + 0) (n := 4217 + 6 * x4.toNatClampNeg + 0) (by omega) (by omega) ?_
        exact lb_856 ⟨hx, hb, hr, hml, hown, hts, hX, hbl, hbA, hb0, hlocks, hl9, hK, hZ⟩ _ ih S x4 _ _ ls hw hP hS (lv_sub hl [0, 1, 2, 3, 4] rfl)
      have hw := hw.2
      rcases h3_r with h3_e | h3_r
      · have hw := hw.1 h3_e
        refine lv_tableIn (tgt := 912) hx hb dd_Law_law_39 (by omega) (by omega) (by rw [h3_e]; rfl) (by decide) ?_
        refine W.widen (k := 245 + x4.toNatClampNeg + 0) (n := 4217 + 6 * x4.toNatClampNeg + 0) (by omega) (by omega) ?_
        exact lb_912 ⟨hx, hb, hr, hml, hown, hts, hX, hbl, hbA, hb0, hlocks, hl9, hK, hZ⟩ _ ih S x4 _ _ ls hw hP hS (lv_sub hl [0, 1, 2, 3, 4] rfl)
      have hw := hw.2
      rcases h3_r with h3_e | h3_r
      · have hw := hw.1 h3_e
        refine lv_tableIn (tgt := 975) hx hb dd_Law_law_39 (by omega) (by omega) (by rw [h3_e]; rfl) (by decide) ?_
        refine W.widen (k := 245 + x4.toNatClampNeg + 0) (n := 4217 + 6 * x4.toNatClampNeg + 0) (by omega) (by omega) ?_
        exact lb_975 ⟨hx, hb, hr, hml, hown, hts, hX, hbl, hbA, hb0, hlocks, hl9, hK, hZ⟩ _ ih S x4 _ _ ls hw hP hS (lv_sub hl [0, 1, 2, 3, 4] rfl)
      have hw := hw.2
      rcases h3_r with h3_e | h3_r
      · have hw := hw.1 h3_e
        refine lv_tableIn (tgt := 1031) hx hb dd_Law_law_39 (by omega) (by omega) (by rw [h3_e]; rfl) (by decide) ?_
        refine W.widen (k := 245 + x4.toNatClampNeg + 0) (n := 4217 + 6 * x4.toNatClampNeg + 0) (by omega) (by omega) ?_
        exact lb_1031 ⟨hx, hb, hr, hml, hown, hts, hX, hbl, hbA, hb0, hlocks, hl9, hK, hZ⟩ _ ih S x4 _ _ ls hw hP hS (lv_sub hl [0, 1, 2, 3, 4] rfl)
      have hw := hw.2
      rcases h3_r with h3_e | h3_r
      · have hw := hw.1 h3_e
        refine lv_tableIn (tgt := 1044) hx hb dd_Law_law_39 (by omega) (by omega) (by rw [h3_e]; rfl) (by decide) ?_
        refine W.widen (k := 245 + x4.toNatClampNeg + 0) (n := 4217 + 6 * x4.toNatClampNeg + 0) (by omega) (by omega) ?_
        exact lb_1044 ⟨hx, hb, hr, hml, hown, hts, hX, hbl, hbA, hb0, hlocks, hl9, hK, hZ⟩ _ ih S x4 _ _ ls hw hP hS (lv_sub hl [0, 1, 2, 3, 4] rfl)
      have hw := hw.2
      rcases h3_r with h3_e | h3_r
      · have hw := hw.1 h3_e
        refine lv_tableIn (tgt := 1100) hx hb dd_Law_law_39 (by omega) (by omega) (by rw [h3_e]; rfl) (by decide) ?_
        refine W.widen (k := 245 + x4.toNatClampNeg + 0) (n := 4217 + 6 * x4.toNatClampNeg + 0) (by omega) (by omega) ?_
        exact lb_1100 ⟨hx, hb, hr, hml, hown, hts, hX, hbl, hbA, hb0, hlocks, hl9, hK, hZ⟩ _ ih S x4 _ _ ls hw hP hS (lv_sub hl [0, 1, 2, 3, 4] rfl)
      have hw := hw.2
      rcases h3_r with h3_e | h3_r
      · have hw := hw.1 h3_e
        refine lv_tableIn (tgt := 1156) hx hb dd_Law_law_39 (by omega) (by omega) (by rw [h3_e]; rfl) (by decide) ?_
        refine W.widen (k := 245 + x4.toNatClampNeg + 0) (n := 4217 + 6 * x4.toNatClampNeg + 0) (by omega) (by omega) ?_
        exact lb_1156 ⟨hx, hb, hr, hml, hown, hts, hX, hbl, hbA, hb0, hlocks, hl9, hK, hZ⟩ _ ih S x4 _ _ ls hw hP hS (lv_sub hl [0, 1, 2, 3, 4] rfl)
      have hw := hw.2
      rcases h3_r with h3_e | h3_r
      · have hw := hw.1 h3_e
        refine lv_tableIn (tgt := 1211) hx hb dd_Law_law_39 (by omega) (by omega) (by rw [h3_e]; rfl) (by decide) ?_
        refine W.widen (k := 245 + x4.toNatClampNeg + 0) (n := 4217 + 6 * x4.toNatClampNeg + 0) (by omega) (by omega) ?_
        exact lb_1211 ⟨hx, hb, hr, hml, hown, hts, hX, hbl, hbA, hb0, hlocks, hl9, hK, hZ⟩ _ ih S x4 _ _ ls hw hP hS (lv_sub hl [0, 1, 2, 3, 4] rfl)
      have hw := hw.2
      rcases h3_r with h3_e | h3_r
      · have hw := hw.1 h3_e
        refine lv_tableIn (tgt := 1279) hx hb dd_Law_law_39 (by omega) (by omega) (by rw [h3_e]; rfl) (by decide) ?_
        refine W.widen (k := 245 + x4.toNatClampNeg + 0) (n := 4217 + 6 * x4.toNatClampNeg + 0) (by omega) (by omega) ?_
        exact lb_1279 ⟨hx, hb, hr, hml, hown, hts, hX, hbl, hbA, hb0, hlocks, hl9, hK, hZ⟩ _ ih S x4 _ _ ls hw hP hS (lv_sub hl [0, 1, 2, 3, 4] rfl)
      have hw := hw.2
      rcases h3_r with h3_e | h3_r
      · have hw := hw.1 h3_e
        refine lv_tableIn (tgt := 1334) hx hb dd_Law_law_39 (by omega) (by omega) (by rw [h3_e]; rfl) (by decide) ?_
        refine W.widen (k := 245 + x4.toNatClampNeg + 0) (n := 4217 + 6 * x4.toNatClampNeg + 0) (by omega) (by omega) ?_
        exact lb_1334 ⟨hx, hb, hr, hml, hown, hts, hX, hbl, hbA, hb0, hlocks, hl9, hK, hZ⟩ _ ih S x4 _ _ ls hw hP hS (lv_sub hl [0, 1, 2, 3, 4] rfl)
      have hw := hw.2
      rcases h3_r with h3_e | h3_r
      · have hw := hw.1 h3_e
        refine lv_tableIn (tgt := 1347) hx hb dd_Law_law_39 (by omega) (by omega) (by rw [h3_e]; rfl) (by decide) ?_
        refine W.widen (k := 245 + x4.toNatClampNeg + 0) (n := 4217 + 6 * x4.toNatClampNeg + 0) (by omega) (by omega) ?_
        exact lb_1347 ⟨hx, hb, hr, hml, hown, hts, hX, hbl, hbA, hb0, hlocks, hl9, hK, hZ⟩ _ ih S x4 _ _ ls hw hP hS (lv_sub hl [0, 1, 2, 3, 4] rfl)
      have hw := hw.2
      have h3_e := h3_r
      have hw := hw h3_e
      refine lv_tableIn (tgt := 1415) hx hb dd_Law_law_39 (by omega) (by omega) (by rw [h3_e]; rfl) (by decide) ?_
      refine W.widen (k := 245 + x4.toNatClampNeg + 0) (n := 4217 + 6 * x4.toNatClampNeg + 0) (by omega) (by omega) ?_
      exact lb_1415 ⟨hx, hb, hr, hml, hown, hts, hX, hbl, hbA, hb0, hlocks, hl9, hK, hZ⟩ _ ih S x4 _ _ ls hw hP hS (lv_sub hl [0, 1, 2, 3, 4] rfl)
