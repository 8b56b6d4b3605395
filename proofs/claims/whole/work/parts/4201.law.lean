def wp_Law_law_513 (L : Nat) (xs : Nat → Int32) (k23 : fw_S → Int32 → Prop) (S : fw_S) (x4 : Int32) (x5 : Int32) (x6 : Int32) (pl0 : Int64) (pl1 : Int64) : Prop := x4.toNatClampNeg ≤ 2560 ∧ (((((lg_cmp pl1 pl0) = 0) → wp_Law_law_519 L xs  k23 S x4 x5 x6) ∧ (¬ ((lg_cmp pl1 pl0) = 0) → False)))
set_option maxHeartbeats 4000000 in
set_option maxRecDepth 100000 in
theorem lb_513 {p : Program} {l : Launch} {e : Env} {s : State} {m : MethodId} {below : List Frame} {meth : Method} {c : Code} {bs L b : Nat} {xs : Nat → Int32} {D : va_G} {cA : Nat → ClassId} (X9 : lx_C p l s m meth c bs L b xs D cA) (k23 : fw_S → Int32 → Prop) (K23 : ∀ (S : fw_S) (x4 : Int32) (H : Heap) (locs : List Loc) (ls : Array Slot), k23 S x4 → fw_P D CL cA layU b 245 (fw_v TK layU b S) H → va_S (fw_A b 245) s.heap H locs → lv_has ls 8 [(0, .ref bs), (1, .ref (b + 0)), (2, .ref (b + 209)), (3, .ref (b + 244)), (4, .int x4)] → W p l e room_1 s m #[Value.ref bs] below meth c H locs (245 + x4.toNatClampNeg + 0) (4217 + 6 * x4.toNatClampNeg + 0) (lw_Z below #[Value.ref bs] s) (F0 m 23 ls [])) : ∀ (S : fw_S) (x4 : Int32) (x5 : Int32) (x6 : Int32) (pl0 : Int64) (pl1 : Int64) (H : Heap) (locs : List Loc) (ls : Array Slot), wp_Law_law_513 L xs k23 S x4 x5 x6 pl0 pl1 → fw_P D CL cA layU b 245 (fw_v TK layU b S) H → va_S (fw_A b 245) s.heap H locs → lv_has ls 8 [(0, .ref bs), (1, .ref (b + 0)), (2, .ref (b + 209)), (3, .ref (b + 244)), (4, .int x4), (5, .int x5), (6, .int x6)] → W p l e room_1 s m #[Value.ref bs] below meth c H locs (245 + x4.toNatClampNeg + 4) (4217 + 6 * x4.toNatClampNeg + 24) (lw_Z below #[Value.ref bs] s) (F0 m 513 ls [.long pl0, .long pl1]) := by
  obtain ⟨hx, hb, hr, hml, hown, hts, hX, hbl, hbA, hb0, hlocks, hl9, hK, hZ⟩ := X9
  intro S x4 x5 x6 pl0 pl1 H locs ls hw hP hS hl
  unfold wp_Law_law_513 at hw
  obtain ⟨hx4, hw⟩ := hw
  refine W.lcmp hx hb dd_Law_law_513 ?_
  refine lv_if_eq (tgt := 519) hx hb dd_Law_law_514 (by decide) (fun h1 => ?_) (fun h1 => ?_)
  · have hw := hw.1 h1
    refine W.widen (k := 245 + x4.toNatClampNeg + 4) (n := 4217 + 6 * x4.toNatClampNeg + 24) (by omega) (by omega) ?_
    exact lb_519 ⟨hx, hb, hr, hml, hown, hts, hX, hbl, hbA, hb0, hlocks, hl9, hK, hZ⟩ _ K23 S x4 x5 x6 _ _ ls hw hP hS (lv_sub hl [0, 1, 2, 3, 4, 5, 6] rfl)
  · have hw := hw.2 h1
    refine lv_iconst (v := 0) hx hb dd_Law_law_517 kc_ic_0 ?_
    exact False.elim hw
def wp_Law_law_423 (L : Nat) (xs : Nat → Int32) (k23 : fw_S → Int32 → Prop) (S : fw_S) (x4 : Int32) : Prop := x4.toNatClampNeg ≤ 2560 ∧ (vp_in (x4 + 1) L ∧ (vp_in (x4 + 2) L ∧ (vp_in (x4 + 3) L ∧ (vp_in (x4 + 4) L ∧ (wp_Law_car S 0 (xs (x4 + 1 : Int32).toNatClampNeg) (xs (x4 + 2 : Int32).toNatClampNeg) (xs (x4 + 3 : Int32).toNatClampNeg) (xs (x4 + 4 : Int32).toNatClampNeg) 244 (fun S5 r6 => vp_in (x4 + 1) L ∧ (vp_in (x4 + 2) L ∧ (vp_in (x4 + 3) L ∧ (vp_in (x4 + 4) L ∧ (wp_M_car S5 209 (xs (x4 + 1 : Int32).toNatClampNeg) (xs (x4 + 2 : Int32).toNatClampNeg) (xs (x4 + 3 : Int32).toNatClampNeg) (xs (x4 + 4 : Int32).toNatClampNeg) (fun S11 r12 => wp_M_thrown S11 209 (fun S13 r14 => (((r14 = r6) → ((¬ (r6 = 0) → wp_Law_law_519 L xs  k23 S13 x4 r6 r12) ∧ ((r6 = 0) → vp_in 0 1 ∧ ((((r12 = 0) → wp_Law_law_513 L xs  k23 S13 x4 r6 r12 0 (S13.2 244 ((0 : Int32).toNatClampNeg))) ∧ (¬ (r12 = 0) → wp_Law_law_513 L xs  k23 S13 x4 r6 r12 1 (S13.2 244 ((0 : Int32).toNatClampNeg)))))))) ∧ (¬ (r14 = r6) → False))))))))))))))
set_option maxHeartbeats 4000000 in
set_option maxRecDepth 100000 in
theorem lb_423 {p : Program} {l : Launch} {e : Env} {s : State} {m : MethodId} {below : List Frame} {meth : Method} {c : Code} {bs L b : Nat} {xs : Nat → Int32} {D : va_G} {cA : Nat → ClassId} (X9 : lx_C p l s m meth c bs L b xs D cA) (k23 : fw_S → Int32 → Prop) (K23 : ∀ (S : fw_S) (x4 : Int32) (H : Heap) (locs : List Loc) (ls : Array Slot), k23 S x4 → fw_P D CL cA layU b 245 (fw_v TK layU b S) H → va_S (fw_A b 245) s.heap H locs → lv_has ls 8 [(0, .ref bs), (1, .ref (b + 0)), (2, .ref (b + 209)), (3, .ref (b + 244)), (4, .int x4)] → W p l e room_1 s m #[Value.ref bs] below meth c H locs (245 + x4.toNatClampNeg + 0) (4217 + 6 * x4.toNatClampNeg + 0) (lw_Z below #[Value.ref bs] s) (F0 m 23 ls [])) : ∀ (S : fw_S) (x4 : Int32) (H : Heap) (locs : List Loc) (ls : Array Slot), wp_Law_law_423 L xs k23 S x4 → fw_P D CL cA layU b 245 (fw_v TK layU b S) H → va_S (fw_A b 245) s.heap H locs → lv_has ls 8 [(0, .ref bs), (1, .ref (b + 0)), (2, .ref (b + 209)), (3, .ref (b + 244)), (4, .int x4)] → W p l e room_1 s m #[Value.ref bs] below meth c H locs (245 + x4.toNatClampNeg + 0) (4217 + 6 * x4.toNatClampNeg + 0) (lw_Z below #[Value.ref bs] s) (F0 m 423 ls []) := by
  obtain ⟨hx, hb, hr, hml, hown, hts, hX, hbl, hbA, hb0, hlocks, hl9, hK, hZ⟩ := X9
  intro S x4 H locs ls hw hP hS hl
  unfold wp_Law_law_423 at hw
  obtain ⟨hx4, hw⟩ := hw
  refine lv_aload_n hx hb dd_Law_law_423 rfl (lv_at hl 1 rfl) ?_
  refine lv_aload_n hx hb dd_Law_law_424 rfl (lv_at hl 0 rfl) ?_
  refine lv_iload hx hb dd_Law_law_425 (lv_at hl 4 rfl) ?_
  refine lv_iconst (v := 1) hx hb dd_Law_law_427 kc_ic_1 ?_
  refine lv_iadd hx hb dd_Law_law_428 ?_
  obtain ⟨h1, hw⟩ := hw
  refine va_sld hx hb hX hbl hbA hS h1 dd_Law_law_429 ?_
  refine lv_aload_n hx hb dd_Law_law_430 rfl (lv_at hl 0 rfl) ?_
  refine lv_iload hx hb dd_Law_law_431 (lv_at hl 4 rfl) ?_
  refine lv_iconst (v := 2) hx hb dd_Law_law_433 kc_ic_2 ?_
  refine lv_iadd hx hb dd_Law_law_434 ?_
  obtain ⟨h2, hw⟩ := hw
  refine va_sld hx hb hX hbl hbA hS h2 dd_Law_law_435 ?_
  refine lv_aload_n hx hb dd_Law_law_436 rfl (lv_at hl 0 rfl) ?_
  refine lv_iload hx hb dd_Law_law_437 (lv_at hl 4 rfl) ?_
  refine lv_iconst (v := 3) hx hb dd_Law_law_439 kc_ic_3 ?_
  refine lv_iadd hx hb dd_Law_law_440 ?_
  obtain ⟨h3, hw⟩ := hw
  refine va_sld hx hb hX hbl hbA hS h3 dd_Law_law_441 ?_
  refine lv_aload_n hx hb dd_Law_law_442 rfl (lv_at hl 0 rfl) ?_
  refine lv_iload hx hb dd_Law_law_443 (lv_at hl 4 rfl) ?_
  refine lv_iconst (v := 4) hx hb dd_Law_law_445 kc_ic_4 ?_
  refine lv_iadd hx hb dd_Law_law_446 ?_
  obtain ⟨h4, hw⟩ := hw
  refine va_sld hx hb hX hbl hbA hS h4 dd_Law_law_447 ?_
  refine lv_aload_n hx hb dd_Law_law_448 rfl (lv_at hl 3 rfl) ?_
  refine fw_calli (fw_runSW (As := [.ref (b + 0), .int (xs (x4 + 1 : Int32).toNatClampNeg), .int (xs (x4 + 2 : Int32).toNatClampNeg), .int (xs (x4 + 3 : Int32).toNatClampNeg), .int (xs (x4 + 4 : Int32).toNatClampNeg), .ref (b + 244)]) (rest := []) ⟨hx, hb, hml, hown, hts⟩ (mt_Law_car l hl9 D cA b S 0 (xs (x4 + 1 : Int32).toNatClampNeg) (xs (x4 + 2 : Int32).toNatClampNeg) (xs (x4 + 3 : Int32).toNatClampNeg) (xs (x4 + 4 : Int32).toNatClampNeg) 244 lx_x lx_o _ hw) 6 (fw_g tw_472) rfl rfl rfl (hts _ (tb_in tw_0)) (hts _ (tb_in tw_470)) (hts _ (tb_in tw_471)) (by decide +kernel) ⟨Nat.le_of_ble_eq_true rfl, Nat.le_of_ble_eq_true rfl⟩ (fw_preSX hP hK hZ hS) rfl rfl hl.1 rfl (lv_room (Nat.le_of_ble_eq_true rfl)) dd_Law_law_449 ⟨(show _ ≤ 601024 by omega), (show _ ≤ 7293034 by omega)⟩) hS (fun S5 r6 H locs hw hP hS => ?_)
  try dsimp only at hw
  refine lv_istore hx hb dd_Law_law_452 hl (Nat.le_of_ble_eq_true rfl) rfl (fun ls hl => ?_)
  have hl : lv_has ls 8 [(5, .int r6), (0, .ref bs), (1, .ref (b + 0)), (2, .ref (b + 209)), (3, .ref (b + 244)), (4, .int x4)] := hl
  refine lv_aload_n hx hb dd_Law_law_454 rfl (lv_at hl 3 rfl) ?_
  refine lv_aload_n hx hb dd_Law_law_455 rfl (lv_at hl 1 rfl) ?_
  refine lv_iload hx hb dd_Law_law_456 (lv_at hl 5 rfl) ?_
  refine lv_iconst (v := 1) hx hb dd_Law_law_458 kc_ic_1 ?_
  refine lv_iadd hx hb dd_Law_law_459 ?_
  obtain ⟨h7, hw⟩ := hw
  refine va_sld hx hb hX hbl hbA hS h7 dd_Law_law_460 ?_
  refine lv_aload_n hx hb dd_Law_law_461 rfl (lv_at hl 1 rfl) ?_
  refine lv_iload hx hb dd_Law_law_462 (lv_at hl 5 rfl) ?_
  refine lv_iconst (v := 2) hx hb dd_Law_law_464 kc_ic_2 ?_
  refine lv_iadd hx hb dd_Law_law_465 ?_
  obtain ⟨h8, hw⟩ := hw
  refine va_sld hx hb hX hbl hbA hS h8 dd_Law_law_466 ?_
  refine lv_aload_n hx hb dd_Law_law_467 rfl (lv_at hl 1 rfl) ?_
  refine lv_iload hx hb dd_Law_law_468 (lv_at hl 5 rfl) ?_
  refine lv_iconst (v := 3) hx hb dd_Law_law_470 kc_ic_3 ?_
  refine lv_iadd hx hb dd_Law_law_471 ?_
  obtain ⟨h9, hw⟩ := hw
  refine va_sld hx hb hX hbl hbA hS h9 dd_Law_law_472 ?_
  refine lv_aload_n hx hb dd_Law_law_473 rfl (lv_at hl 1 rfl) ?_
  refine lv_iload hx hb dd_Law_law_474 (lv_at hl 5 rfl) ?_
  refine lv_iconst (v := 4) hx hb dd_Law_law_476 kc_ic_4 ?_
  refine lv_iadd hx hb dd_Law_law_477 ?_
  obtain ⟨h10, hw⟩ := hw
  refine va_sld hx hb hX hbl hbA hS h10 dd_Law_law_478 ?_
  refine fw_calli (va_runV (As := [.int (xs (x4 + 1 : Int32).toNatClampNeg), .int (xs (x4 + 2 : Int32).toNatClampNeg), .int (xs (x4 + 3 : Int32).toNatClampNeg), .int (xs (x4 + 4 : Int32).toNatClampNeg)]) (rest := []) ⟨hx, hb, hml, hown, hts⟩ (mt_M_car l D cA b S5 209 (xs (x4 + 1 : Int32).toNatClampNeg) (xs (x4 + 2 : Int32).toNatClampNeg) (xs (x4 + 3 : Int32).toNatClampNeg) (xs (x4 + 4 : Int32).toNatClampNeg) lx_m _ hw) (cwV 4 hts (fw_gV tw_939 tw_936 tw_937 tw_938 tw_11) rfl rfl rfl (by decide +kernel) ⟨Nat.le_of_ble_eq_true rfl, Nat.le_of_ble_eq_true rfl⟩) (fw_preV hP hK lx_m (by decide) rfl) rfl rfl hl.1 rfl (lv_room (Nat.le_of_ble_eq_true rfl)) dd_Law_law_479 ⟨(show _ ≤ 601024 by omega), (show _ ≤ 7293034 by omega)⟩) hS (fun S11 r12 H locs hw hP hS => ?_)
  try dsimp only at hw
  refine lv_istore hx hb dd_Law_law_482 hl (Nat.le_of_ble_eq_true rfl) rfl (fun ls hl => ?_)
  have hl : lv_has ls 8 [(6, .int r12), (5, .int r6), (0, .ref bs), (1, .ref (b + 0)), (2, .ref (b + 209)), (3, .ref (b + 244)), (4, .int x4)] := hl
  refine lv_aload_n hx hb dd_Law_law_484 rfl (lv_at hl 4 rfl) ?_
  refine fw_calli (va_runV (As := []) (rest := []) ⟨hx, hb, hml, hown, hts⟩ (mt_M_thrown l D cA b S11 209 lx_m _ hw) (cwV 0 hts (fw_gV tw_906 tw_903 tw_904 tw_905 tw_11) rfl rfl rfl (by decide +kernel) ⟨Nat.le_of_ble_eq_true rfl, Nat.le_of_ble_eq_true rfl⟩) (fw_preV hP hK lx_m (by decide) rfl) rfl rfl hl.1 rfl (lv_room (Nat.le_of_ble_eq_true rfl)) dd_Law_law_485 ⟨(show _ ≤ 601024 by omega), (show _ ≤ 7293034 by omega)⟩) hS (fun S13 r14 H locs hw hP hS => ?_)
  try dsimp only at hw
  refine lv_iload hx hb dd_Law_law_488 (lv_at hl 1 rfl) ?_
  refine lv_icmp_eq (tgt := 495) hx hb dd_Law_law_490 (by decide) (fun h15 => ?_) (fun h15 => ?_)
  · have hw := hw.1 h15
    refine lv_iload hx hb dd_Law_law_495 (lv_at hl 1 rfl) ?_
    refine lv_if_ne (tgt := 519) hx hb dd_Law_law_497 (by decide) (fun h16 => ?_) (fun h16 => ?_)
    · have hw := hw.1 h16
      refine W.widen (k := 245 + x4.toNatClampNeg + 4) (n := 4217 + 6 * x4.toNatClampNeg + 24) (by omega) (by omega) ?_
      exact lb_519 ⟨hx, hb, hr, hml, hown, hts, hX, hbl, hbA, hb0, hlocks, hl9, hK, hZ⟩ _ K23 S13 x4 r6 r12 _ _ ls hw hP hS (lv_sub hl [2, 3, 4, 5, 6, 1, 0] rfl)
    · have hw := hw.2 h16
      refine lv_aload_n hx hb dd_Law_law_500 rfl (lv_at hl 5 rfl) ?_
      refine lv_iconst (v := 0) hx hb dd_Law_law_501 kc_ic_0 ?_
      obtain ⟨h17, hw⟩ := hw
      refine fw_lald hx hb hK hP lx_o (by decide) 1 rfl tka_101 h17 dd_Law_law_502 ?_
      refine lv_iload hx hb dd_Law_law_503 (lv_at hl 0 rfl) ?_
      refine lv_if_eq (tgt := 512) hx hb dd_Law_law_505 (by decide) (fun h18 => ?_) (fun h18 => ?_)
      · have hw := hw.1 h18
        refine lv_lconst (v := 0) hx hb dd_Law_law_512 kc_lc_0 ?_
        refine W.widen (k := 245 + x4.toNatClampNeg + 4) (n := 4217 + 6 * x4.toNatClampNeg + 24) (by omega) (by omega) ?_
        exact lb_513 ⟨hx, hb, hr, hml, hown, hts, hX, hbl, hbA, hb0, hlocks, hl9, hK, hZ⟩ _ K23 S13 x4 r6 r12 0 (S13.2 244 ((0 : Int32).toNatClampNeg)) _ _ ls hw hP hS (lv_sub hl [2, 3, 4, 5, 6, 1, 0] rfl)
      · have hw := hw.2 h18
        refine lv_lconst (v := 1) hx hb dd_Law_law_508 kc_lc_1 ?_
        refine lv_goto (tgt := 513) hx hb dd_Law_law_509 (by decide) ?_
        refine W.widen (k := 245 + x4.toNatClampNeg + 4) (n := 4217 + 6 * x4.toNatClampNeg + 24) (by omega) (by omega) ?_
        exact lb_513 ⟨hx, hb, hr, hml, hown, hts, hX, hbl, hbA, hb0, hlocks, hl9, hK, hZ⟩ _ K23 S13 x4 r6 r12 1 (S13.2 244 ((0 : Int32).toNatClampNeg)) _ _ ls hw hP hS (lv_sub hl [2, 3, 4, 5, 6, 1, 0] rfl)
  · have hw := hw.2 h15
    refine lv_iconst (v := 0) hx hb dd_Law_law_493 kc_ic_0 ?_
    exact False.elim hw
def wp_Law_law_594 (L : Nat) (xs : Nat → Int32) (k23 : fw_S → Int32 → Prop) (S : fw_S) (x4 : Int32) (x5 : Int32) (x6 : Int32) : Prop := x4.toNatClampNeg ≤ 2560 ∧ (wp_Law_law_1470 L xs  k23 S x4)
set_option maxHeartbeats 4000000 in
set_option maxRecDepth 100000 in
theorem lb_594 {p : Program} {l : Launch} {e : Env} {s : State} {m : MethodId} {below : List Frame} {meth : Method} {c : Code} {bs L b : Nat} {xs : Nat → Int32} {D : va_G} {cA : Nat → ClassId} (X9 : lx_C p l s m meth c bs L b xs D cA) (k23 : fw_S → Int32 → Prop) (K23 : ∀ (S : fw_S) (x4 : Int32) (H : Heap) (locs : List Loc) (ls : Array Slot), k23 S x4 → fw_P D CL cA layU b 245 (fw_v TK layU b S) H → va_S (fw_A b 245) s.heap H locs → lv_has ls 8 [(0, .ref bs), (1, .ref (b + 0)), (2, .ref (b + 209)), (3, .ref (b + 244)), (4, .int x4)] → W p l e room_1 s m #[Value.ref bs] below meth c H locs (245 + x4.toNatClampNeg + 0) (4217 + 6 * x4.toNatClampNeg + 0) (lw_Z below #[Value.ref bs] s) (F0 m 23 ls [])) : ∀ (S : fw_S) (x4 : Int32) (x5 : Int32) (x6 : Int32) (H : Heap) (locs : List Loc) (ls : Array Slot), wp_Law_law_594 L xs k23 S x4 x5 x6 → fw_P D CL cA layU b 245 (fw_v TK layU b S) H → va_S (fw_A b 245) s.heap H locs → lv_has ls 8 [(0, .ref bs), (1, .ref (b + 0)), (2, .ref (b + 209)), (3, .ref (b + 244)), (4, .int x4), (5, .int x5), (6, .int x6)] → W p l e room_1 s m #[Value.ref bs] below meth c H locs (245 + x4.toNatClampNeg + 2) (4217 + 6 * x4.toNatClampNeg + 12) (lw_Z below #[Value.ref bs] s) (F0 m 594 ls []) := by
  obtain ⟨hx, hb, hr, hml, hown, hts, hX, hbl, hbA, hb0, hlocks, hl9, hK, hZ⟩ := X9
  intro S x4 x5 x6 H locs ls hw hP hS hl
  unfold wp_Law_law_594 at hw
  obtain ⟨hx4, hw⟩ := hw
  refine lv_goto (tgt := 1470) hx hb dd_Law_law_594 (by decide) ?_
  refine W.widen (k := 245 + x4.toNatClampNeg + 4) (n := 4217 + 6 * x4.toNatClampNeg + 24) (by omega) (by omega) ?_
  exact lb_1470 ⟨hx, hb, hr, hml, hown, hts, hX, hbl, hbA, hb0, hlocks, hl9, hK, hZ⟩ _ K23 S x4 _ _ ls hw hP hS (lv_sub hl [0, 1, 2, 3, 4] rfl)
def wp_Law_law_588 (L : Nat) (xs : Nat → Int32) (k23 : fw_S → Int32 → Prop) (S : fw_S) (x4 : Int32) (x5 : Int32) (x6 : Int32) (pl0 : Int64) (pl1 : Int64) : Prop := x4.toNatClampNeg ≤ 2560 ∧ (((((lg_cmp pl1 pl0) = 0) → wp_Law_law_594 L xs  k23 S x4 x5 x6) ∧ (¬ ((lg_cmp pl1 pl0) = 0) → False)))
set_option maxHeartbeats 4000000 in
set_option maxRecDepth 100000 in
theorem lb_588 {p : Program} {l : Launch} {e : Env} {s : State} {m : MethodId} {below : List Frame} {meth : Method} {c : Code} {bs L b : Nat} {xs : Nat → Int32} {D : va_G} {cA : Nat → ClassId} (X9 : lx_C p l s m meth c bs L b xs D cA) (k23 : fw_S → Int32 → Prop) (K23 : ∀ (S : fw_S) (x4 : Int32) (H : Heap) (locs : List Loc) (ls : Array Slot), k23 S x4 → fw_P D CL cA layU b 245 (fw_v TK layU b S) H → va_S (fw_A b 245) s.heap H locs → lv_has ls 8 [(0, .ref bs), (1, .ref (b + 0)), (2, .ref (b + 209)), (3, .ref (b + 244)), (4, .int x4)] → W p l e room_1 s m #[Value.ref bs] below meth c H locs (245 + x4.toNatClampNeg + 0) (4217 + 6 * x4.toNatClampNeg + 0) (lw_Z below #[Value.ref bs] s) (F0 m 23 ls [])) : ∀ (S : fw_S) (x4 : Int32) (x5 : Int32) (x6 : Int32) (pl0 : Int64) (pl1 : Int64) (H : Heap) (locs : List Loc) (ls : Array Slot), wp_Law_law_588 L xs k23 S x4 x5 x6 pl0 pl1 → fw_P D CL cA layU b 245 (fw_v TK layU b S) H → va_S (fw_A b 245) s.heap H locs → lv_has ls 8 [(0, .ref bs), (1, .ref (b + 0)), (2, .ref (b + 209)), (3, .ref (b + 244)), (4, .int x4), (5, .int x5), (6, .int x6)] → W p l e room_1 s m #[Value.ref bs] below meth c H locs (245 + x4.toNatClampNeg + 2) (4217 + 6 * x4.toNatClampNeg + 12) (lw_Z below #[Value.ref bs] s) (F0 m 588 ls [.long pl0, .long pl1]) := by
  obtain ⟨hx, hb, hr, hml, hown, hts, hX, hbl, hbA, hb0, hlocks, hl9, hK, hZ⟩ := X9
  intro S x4 x5 x6 pl0 pl1 H locs ls hw hP hS hl
  unfold wp_Law_law_588 at hw
  obtain ⟨hx4, hw⟩ := hw
  refine W.lcmp hx hb dd_Law_law_588 ?_
  refine lv_if_eq (tgt := 594) hx hb dd_Law_law_589 (by decide) (fun h1 => ?_) (fun h1 => ?_)
  · have hw := hw.1 h1
    refine W.widen (k := 245 + x4.toNatClampNeg + 2) (n := 4217 + 6 * x4.toNatClampNeg + 12) (by omega) (by omega) ?_
    exact lb_594 ⟨hx, hb, hr, hml, hown, hts, hX, hbl, hbA, hb0, hlocks, hl9, hK, hZ⟩ _ K23 S x4 x5 x6 _ _ ls hw hP hS (lv_sub hl [0, 1, 2, 3, 4, 5, 6] rfl)
  · have hw := hw.2 h1
    refine lv_iconst (v := 0) hx hb dd_Law_law_592 kc_ic_0 ?_
    exact False.elim hw
def wp_Law_law_522 (L : Nat) (xs : Nat → Int32) (k23 : fw_S → Int32 → Prop) (S : fw_S) (x4 : Int32) : Prop := x4.toNatClampNeg ≤ 2560 ∧ (vp_in (x4 + 1) L ∧ (vp_in (x4 + 2) L ∧ (wp_Law_want S 0 (xs (x4 + 1 : Int32).toNatClampNeg) (xs (x4 + 2 : Int32).toNatClampNeg) 244 (fun S3 r4 => vp_in (x4 + 1) L ∧ (vp_in (x4 + 2) L ∧ (wp_M_want S3 209 (xs (x4 + 1 : Int32).toNatClampNeg) (xs (x4 + 2 : Int32).toNatClampNeg) (fun S7 r8 => wp_M_thrown S7 209 (fun S9 r10 => (((r10 = r4) → ((¬ (r4 = 0) → wp_Law_law_594 L xs  k23 S9 x4 r4 r8) ∧ ((r4 = 0) → vp_in 0 1 ∧ ((((r8 = 0) → wp_Law_law_588 L xs  k23 S9 x4 r4 r8 0 (S9.2 244 ((0 : Int32).toNatClampNeg))) ∧ (¬ (r8 = 0) → wp_Law_law_588 L xs  k23 S9 x4 r4 r8 1 (S9.2 244 ((0 : Int32).toNatClampNeg)))))))) ∧ (¬ (r10 = r4) → False))))))))))
set_option maxHeartbeats 4000000 in
set_option maxRecDepth 100000 in
theorem lb_522 {p : Program} {l : Launch} {e : Env} {s : State} {m : MethodId} {below : List Frame} {meth : Method} {c : Code} {bs L b : Nat} {xs : Nat → Int32} {D : va_G} {cA : Nat → ClassId} (X9 : lx_C p l s m meth c bs L b xs D cA) (k23 : fw_S → Int32 → Prop) (K23 : ∀ (S : fw_S) (x4 : Int32) (H : Heap) (locs : List Loc) (ls : Array Slot), k23 S x4 → fw_P D CL cA layU b 245 (fw_v TK layU b S) H → va_S (fw_A b 245) s.heap H locs → lv_has ls 8 [(0, .ref bs), (1, .ref (b + 0)), (2, .ref (b + 209)), (3, .ref (b + 244)), (4, .int x4)] → W p l e room_1 s m #[Value.ref bs] below meth c H locs (245 + x4.toNatClampNeg + 0) (4217 + 6 * x4.toNatClampNeg + 0) (lw_Z below #[Value.ref bs] s) (F0 m 23 ls [])) : ∀ (S : fw_S) (x4 : Int32) (H : Heap) (locs : List Loc) (ls : Array Slot), wp_Law_law_522 L xs k23 S x4 → fw_P D CL cA layU b 245 (fw_v TK layU b S) H → va_S (fw_A b 245) s.heap H locs → lv_has ls 8 [(0, .ref bs), (1, .ref (b + 0)), (2, .ref (b + 209)), (3, .ref (b + 244)), (4, .int x4)] → W p l e room_1 s m #[Value.ref bs] below meth c H locs (245 + x4.toNatClampNeg + 0) (4217 + 6 * x4.toNatClampNeg + 0) (lw_Z below #[Value.ref bs] s) (F0 m 522 ls []) := by
  obtain ⟨hx, hb, hr, hml, hown, hts, hX, hbl, hbA, hb0, hlocks, hl9, hK, hZ⟩ := X9
  intro S x4 H locs ls hw hP hS hl
  unfold wp_Law_law_522 at hw
  obtain ⟨hx4, hw⟩ := hw
  refine lv_aload_n hx hb dd_Law_law_522 rfl (lv_at hl 1 rfl) ?_
  refine lv_aload_n hx hb dd_Law_law_523 rfl (lv_at hl 0 rfl) ?_
  refine lv_iload hx hb dd_Law_law_524 (lv_at hl 4 rfl) ?_
  refine lv_iconst (v := 1) hx hb dd_Law_law_526 kc_ic_1 ?_
  refine lv_iadd hx hb dd_Law_law_527 ?_
  obtain ⟨h1, hw⟩ := hw
  refine va_sld hx hb hX hbl hbA hS h1 dd_Law_law_528 ?_
  refine lv_aload_n hx hb dd_Law_law_529 rfl (lv_at hl 0 rfl) ?_
  refine lv_iload hx hb dd_Law_law_530 (lv_at hl 4 rfl) ?_
  refine lv_iconst (v := 2) hx hb dd_Law_law_532 kc_ic_2 ?_
  refine lv_iadd hx hb dd_Law_law_533 ?_
  obtain ⟨h2, hw⟩ := hw
  refine va_sld hx hb hX hbl hbA hS h2 dd_Law_law_534 ?_
  refine lv_aload_n hx hb dd_Law_law_535 rfl (lv_at hl 3 rfl) ?_
  refine fw_calli (fw_runSW (As := [.ref (b + 0), .int (xs (x4 + 1 : Int32).toNatClampNeg), .int (xs (x4 + 2 : Int32).toNatClampNeg), .ref (b + 244)]) (rest := []) ⟨hx, hb, hml, hown, hts⟩ (mt_Law_want l hl9 D cA b S 0 (xs (x4 + 1 : Int32).toNatClampNeg) (xs (x4 + 2 : Int32).toNatClampNeg) 244 lx_x lx_o _ hw) 4 (fw_g tw_483) rfl rfl rfl (hts _ (tb_in tw_0)) (hts _ (tb_in tw_481)) (hts _ (tb_in tw_482)) (by decide +kernel) ⟨Nat.le_of_ble_eq_true rfl, Nat.le_of_ble_eq_true rfl⟩ (fw_preSX hP hK hZ hS) rfl rfl hl.1 rfl (lv_room (Nat.le_of_ble_eq_true rfl)) dd_Law_law_536 ⟨(show _ ≤ 601024 by omega), (show _ ≤ 7293034 by omega)⟩) hS (fun S3 r4 H locs hw hP hS => ?_)
  try dsimp only at hw
  refine lv_istore hx hb dd_Law_law_539 hl (Nat.le_of_ble_eq_true rfl) rfl (fun ls hl => ?_)
  have hl : lv_has ls 8 [(5, .int r4), (0, .ref bs), (1, .ref (b + 0)), (2, .ref (b + 209)), (3, .ref (b + 244)), (4, .int x4)] := hl
  refine lv_aload_n hx hb dd_Law_law_541 rfl (lv_at hl 3 rfl) ?_
  refine lv_aload_n hx hb dd_Law_law_542 rfl (lv_at hl 1 rfl) ?_
  refine lv_iload hx hb dd_Law_law_543 (lv_at hl 5 rfl) ?_
  refine lv_iconst (v := 1) hx hb dd_Law_law_545 kc_ic_1 ?_
  refine lv_iadd hx hb dd_Law_law_546 ?_
  obtain ⟨h5, hw⟩ := hw
  refine va_sld hx hb hX hbl hbA hS h5 dd_Law_law_547 ?_
  refine lv_aload_n hx hb dd_Law_law_548 rfl (lv_at hl 1 rfl) ?_
  refine lv_iload hx hb dd_Law_law_549 (lv_at hl 5 rfl) ?_
  refine lv_iconst (v := 2) hx hb dd_Law_law_551 kc_ic_2 ?_
  refine lv_iadd hx hb dd_Law_law_552 ?_
  obtain ⟨h6, hw⟩ := hw
  refine va_sld hx hb hX hbl hbA hS h6 dd_Law_law_553 ?_
  refine fw_calli (va_runV (As := [.int (xs (x4 + 1 : Int32).toNatClampNeg), .int (xs (x4 + 2 : Int32).toNatClampNeg)]) (rest := []) ⟨hx, hb, hml, hown, hts⟩ (mt_M_want l D cA b S3 209 (xs (x4 + 1 : Int32).toNatClampNeg) (xs (x4 + 2 : Int32).toNatClampNeg) lx_m _ hw) (cwV 2 hts (fw_gV tw_944 tw_941 tw_942 tw_943 tw_11) rfl rfl rfl (by decide +kernel) ⟨Nat.le_of_ble_eq_true rfl, Nat.le_of_ble_eq_true rfl⟩) (fw_preV hP hK lx_m (by decide) rfl) rfl rfl hl.1 rfl (lv_room (Nat.le_of_ble_eq_true rfl)) dd_Law_law_554 ⟨(show _ ≤ 601024 by omega), (show _ ≤ 7293034 by omega)⟩) hS (fun S7 r8 H locs hw hP hS => ?_)
  try dsimp only at hw
  refine lv_istore hx hb dd_Law_law_557 hl (Nat.le_of_ble_eq_true rfl) rfl (fun ls hl => ?_)
  have hl : lv_has ls 8 [(6, .int r8), (5, .int r4), (0, .ref bs), (1, .ref (b + 0)), (2, .ref (b + 209)), (3, .ref (b + 244)), (4, .int x4)] := hl
  refine lv_aload_n hx hb dd_Law_law_559 rfl (lv_at hl 4 rfl) ?_
  refine fw_calli (va_runV (As := []) (rest := []) ⟨hx, hb, hml, hown, hts⟩ (mt_M_thrown l D cA b S7 209 lx_m _ hw) (cwV 0 hts (fw_gV tw_906 tw_903 tw_904 tw_905 tw_11) rfl rfl rfl (by decide +kernel) ⟨Nat.le_of_ble_eq_true rfl, Nat.le_of_ble_eq_true rfl⟩) (fw_preV hP hK lx_m (by decide) rfl) rfl rfl hl.1 rfl (lv_room (Nat.le_of_ble_eq_true rfl)) dd_Law_law_560 ⟨(show _ ≤ 601024 by omega), (show _ ≤ 7293034 by omega)⟩) hS (fun S9 r10 H locs hw hP hS => ?_)
  try dsimp only at hw
  refine lv_iload hx hb dd_Law_law_563 (lv_at hl 1 rfl) ?_
  refine lv_icmp_eq (tgt := 570) hx hb dd_Law_law_565 (by decide) (fun h11 => ?_) (fun h11 => ?_)
  · have hw := hw.1 h11
    refine lv_iload hx hb dd_Law_law_570 (lv_at hl 1 rfl) ?_
    refine lv_if_ne (tgt := 594) hx hb dd_Law_law_572 (by decide) (fun h12 => ?_) (fun h12 => ?_)
    · have hw := hw.1 h12
      refine W.widen (k := 245 + x4.toNatClampNeg + 2) (n := 4217 + 6 * x4.toNatClampNeg + 12) (by omega) (by omega) ?_
      exact lb_594 ⟨hx, hb, hr, hml, hown, hts, hX, hbl, hbA, hb0, hlocks, hl9, hK, hZ⟩ _ K23 S9 x4 r4 r8 _ _ ls hw hP hS (lv_sub hl [2, 3, 4, 5, 6, 1, 0] rfl)
    · have hw := hw.2 h12
      refine lv_aload_n hx hb dd_Law_law_575 rfl (lv_at hl 5 rfl) ?_
      refine lv_iconst (v := 0) hx hb dd_Law_law_576 kc_ic_0 ?_
      obtain ⟨h13, hw⟩ := hw
      refine fw_lald hx hb hK hP lx_o (by decide) 1 rfl tka_101 h13 dd_Law_law_577 ?_
      refine lv_iload hx hb dd_Law_law_578 (lv_at hl 0 rfl) ?_
      refine lv_if_eq (tgt := 587) hx hb dd_Law_law_580 (by decide) (fun h14 => ?_) (fun h14 => ?_)
      · have hw := hw.1 h14
        refine lv_lconst (v := 0) hx hb dd_Law_law_587 kc_lc_0 ?_
        refine W.widen (k := 245 + x4.toNatClampNeg + 2) (n := 4217 + 6 * x4.toNatClampNeg + 12) (by omega) (by omega) ?_
        exact lb_588 ⟨hx, hb, hr, hml, hown, hts, hX, hbl, hbA, hb0, hlocks, hl9, hK, hZ⟩ _ K23 S9 x4 r4 r8 0 (S9.2 244 ((0 : Int32).toNatClampNeg)) _ _ ls hw hP hS (lv_sub hl [2, 3, 4, 5, 6, 1, 0] rfl)
      · have hw := hw.2 h14
        refine lv_lconst (v := 1) hx hb dd_Law_law_583 kc_lc_1 ?_
        refine lv_goto (tgt := 588) hx hb dd_Law_law_584 (by decide) ?_
        refine W.widen (k := 245 + x4.toNatClampNeg + 2) (n := 4217 + 6 * x4.toNatClampNeg + 12) (by omega) (by omega) ?_
        exact lb_588 ⟨hx, hb, hr, hml, hown, hts, hX, hbl, hbA, hb0, hlocks, hl9, hK, hZ⟩ _ K23 S9 x4 r4 r8 1 (S9.2 244 ((0 : Int32).toNatClampNeg)) _ _ ls hw hP hS (lv_sub hl [2, 3, 4, 5, 6, 1, 0] rfl)
  · have hw := hw.2 h11
    refine lv_iconst (v := 0) hx hb dd_Law_law_568 kc_ic_0 ?_
    exact False.elim hw
def wp_Law_law_657 (L : Nat) (xs : Nat → Int32) (k23 : fw_S → Int32 → Prop) (S : fw_S) (x4 : Int32) (x5 : Int32) (x6 : Int32) : Prop := x4.toNatClampNeg ≤ 2560 ∧ (wp_Law_law_1470 L xs  k23 S x4)
set_option maxHeartbeats 4000000 in
set_option maxRecDepth 100000 in
theorem lb_657 {p : Program} {l : Launch} {e : Env} {s : State} {m : MethodId} {below : List Frame} {meth : Method} {c : Code} {bs L b : Nat} {xs : Nat → Int32} {D : va_G} {cA : Nat → ClassId} (X9 : lx_C p l s m meth c bs L b xs D cA) (k23 : fw_S → Int32 → Prop) (K23 : ∀ (S : fw_S) (x4 : Int32) (H : Heap) (locs : List Loc) (ls : Array Slot), k23 S x4 → fw_P D CL cA layU b 245 (fw_v TK layU b S) H → va_S (fw_A b 245) s.heap H locs → lv_has ls 8 [(0, .ref bs), (1, .ref (b + 0)), (2, .ref (b + 209)), (3, .ref (b + 244)), (4, .int x4)] → W p l e room_1 s m #[Value.ref bs] below meth c H locs (245 + x4.toNatClampNeg + 0) (4217 + 6 * x4.toNatClampNeg + 0) (lw_Z below #[Value.ref bs] s) (F0 m 23 ls [])) : ∀ (S : fw_S) (x4 : Int32) (x5 : Int32) (x6 : Int32) (H : Heap) (locs : List Loc) (ls : Array Slot), wp_Law_law_657 L xs k23 S x4 x5 x6 → fw_P D CL cA layU b 245 (fw_v TK layU b S) H → va_S (fw_A b 245) s.heap H locs → lv_has ls 8 [(0, .ref bs), (1, .ref (b + 0)), (2, .ref (b + 209)), (3, .ref (b + 244)), (4, .int x4), (5, .int x5), (6, .int x6)] → W p l e room_1 s m #[Value.ref bs] below meth c H locs (245 + x4.toNatClampNeg + 1) (4217 + 6 * x4.toNatClampNeg + 6) (lw_Z below #[Value.ref bs] s) (F0 m 657 ls []) := by
  obtain ⟨hx, hb, hr, hml, hown, hts, hX, hbl, hbA, hb0, hlocks, hl9, hK, hZ⟩ := X9
  intro S x4 x5 x6 H locs ls hw hP hS hl
  unfold wp_Law_law_657 at hw
  obtain ⟨hx4, hw⟩ := hw
  refine lv_goto (tgt := 1470) hx hb dd_Law_law_657 (by decide) ?_
  refine W.widen (k := 245 + x4.toNatClampNeg + 4) (n := 4217 + 6 * x4.toNatClampNeg + 24) (by omega) (by omega) ?_
  exact lb_1470 ⟨hx, hb, hr, hml, hown, hts, hX, hbl, hbA, hb0, hlocks, hl9, hK, hZ⟩ _ K23 S x4 _ _ ls hw hP hS (lv_sub hl [0, 1, 2, 3, 4] rfl)
def wp_Law_law_651 (L : Nat) (xs : Nat → Int32) (k23 : fw_S → Int32 → Prop) (S : fw_S) (x4 : Int32) (x5 : Int32) (x6 : Int32) (pl0 : Int64) (pl1 : Int64) : Prop := x4.toNatClampNeg ≤ 2560 ∧ (((((lg_cmp pl1 pl0) = 0) → wp_Law_law_657 L xs  k23 S x4 x5 x6) ∧ (¬ ((lg_cmp pl1 pl0) = 0) → False)))
set_option maxHeartbeats 4000000 in
set_option maxRecDepth 100000 in
theorem lb_651 {p : Program} {l : Launch} {e : Env} {s : State} {m : MethodId} {below : List Frame} {meth : Method} {c : Code} {bs L b : Nat} {xs : Nat → Int32} {D : va_G} {cA : Nat → ClassId} (X9 : lx_C p l s m meth c bs L b xs D cA) (k23 : fw_S → Int32 → Prop) (K23 : ∀ (S : fw_S) (x4 : Int32) (H : Heap) (locs : List Loc) (ls : Array Slot), k23 S x4 → fw_P D CL cA layU b 245 (fw_v TK layU b S) H → va_S (fw_A b 245) s.heap H locs → lv_has ls 8 [(0, .ref bs), (1, .ref (b + 0)), (2, .ref (b + 209)), (3, .ref (b + 244)), (4, .int x4)] → W p l e room_1 s m #[Value.ref bs] below meth c H locs (245 + x4.toNatClampNeg + 0) (4217 + 6 * x4.toNatClampNeg + 0) (lw_Z below #[Value.ref bs] s) (F0 m 23 ls [])) : ∀ (S : fw_S) (x4 : Int32) (x5 : Int32) (x6 : Int32) (pl0 : Int64) (pl1 : Int64) (H : Heap) (locs : List Loc) (ls : Array Slot), wp_Law_law_651 L xs k23 S x4 x5 x6 pl0 pl1 → fw_P D CL cA layU b 245 (fw_v TK layU b S) H → va_S (fw_A b 245) s.heap H locs → lv_has ls 8 [(0, .ref bs), (1, .ref (b + 0)), (2, .ref (b + 209)), (3, .ref (b + 244)), (4, .int x4), (5, .int x5), (6, .int x6)] → W p l e room_1 s m #[Value.ref bs] below meth c H locs (245 + x4.toNatClampNeg + 1) (4217 + 6 * x4.toNatClampNeg + 6) (lw_Z below #[Value.ref bs] s) (F0 m 651 ls [.long pl0, .long pl1]) := by
  obtain ⟨hx, hb, hr, hml, hown, hts, hX, hbl, hbA, hb0, hlocks, hl9, hK, hZ⟩ := X9
  intro S x4 x5 x6 pl0 pl1 H locs ls hw hP hS hl
  unfold wp_Law_law_651 at hw
  obtain ⟨hx4, hw⟩ := hw
  refine W.lcmp hx hb dd_Law_law_651 ?_
  refine lv_if_eq (tgt := 657) hx hb dd_Law_law_652 (by decide) (fun h1 => ?_) (fun h1 => ?_)
  · have hw := hw.1 h1
    refine W.widen (k := 245 + x4.toNatClampNeg + 1) (n := 4217 + 6 * x4.toNatClampNeg + 6) (by omega) (by omega) ?_
    exact lb_657 ⟨hx, hb, hr, hml, hown, hts, hX, hbl, hbA, hb0, hlocks, hl9, hK, hZ⟩ _ K23 S x4 x5 x6 _ _ ls hw hP hS (lv_sub hl [0, 1, 2, 3, 4, 5, 6] rfl)
  · have hw := hw.2 h1
    refine lv_iconst (v := 0) hx hb dd_Law_law_655 kc_ic_0 ?_
    exact False.elim hw
def wp_Law_law_597 (L : Nat) (xs : Nat → Int32) (k23 : fw_S → Int32 → Prop) (S : fw_S) (x4 : Int32) : Prop := x4.toNatClampNeg ≤ 2560 ∧ (vp_in (x4 + 1) L ∧ (wp_Law_leave S 0 (xs (x4 + 1 : Int32).toNatClampNeg) 244 (fun S2 r3 => vp_in (x4 + 1) L ∧ (wp_M_leave S2 209 (xs (x4 + 1 : Int32).toNatClampNeg) (fun S5 r6 => wp_M_thrown S5 209 (fun S7 r8 => (((r8 = r3) → ((¬ (r3 = 0) → wp_Law_law_657 L xs  k23 S7 x4 r3 r6) ∧ ((r3 = 0) → vp_in 0 1 ∧ ((((r6 = 0) → wp_Law_law_651 L xs  k23 S7 x4 r3 r6 0 (S7.2 244 ((0 : Int32).toNatClampNeg))) ∧ (¬ (r6 = 0) → wp_Law_law_651 L xs  k23 S7 x4 r3 r6 1 (S7.2 244 ((0 : Int32).toNatClampNeg)))))))) ∧ (¬ (r8 = r3) → False))))))))
set_option maxHeartbeats 4000000 in
set_option maxRecDepth 100000 in
theorem lb_597 {p : Program} {l : Launch} {e : Env} {s : State} {m : MethodId} {below : List Frame} {meth : Method} {c : Code} {bs L b : Nat} {xs : Nat → Int32} {D : va_G} {cA : Nat → ClassId} (X9 : lx_C p l s m meth c bs L b xs D cA) (k23 : fw_S → Int32 → Prop) (K23 : ∀ (S : fw_S) (x4 : Int32) (H : Heap) (locs : List Loc) (ls : Array Slot), k23 S x4 → fw_P D CL cA layU b 245 (fw_v TK layU b S) H → va_S (fw_A b 245) s.heap H locs → lv_has ls 8 [(0, .ref bs), (1, .ref (b + 0)), (2, .ref (b + 209)), (3, .ref (b + 244)), (4, .int x4)] → W p l e room_1 s m #[Value.ref bs] below meth c H locs (245 + x4.toNatClampNeg + 0) (4217 + 6 * x4.toNatClampNeg + 0) (lw_Z below #[Value.ref bs] s) (F0 m 23 ls [])) : ∀ (S : fw_S) (x4 : Int32) (H : Heap) (locs : List Loc) (ls : Array Slot), wp_Law_law_597 L xs k23 S x4 → fw_P D CL cA layU b 245 (fw_v TK layU b S) H → va_S (fw_A b 245) s.heap H locs → lv_has ls 8 [(0, .ref bs), (1, .ref (b + 0)), (2, .ref (b + 209)), (3, .ref (b + 244)), (4, .int x4)] → W p l e room_1 s m #[Value.ref bs] below meth c H locs (245 + x4.toNatClampNeg + 0) (4217 + 6 * x4.toNatClampNeg + 0) (lw_Z below #[Value.ref bs] s) (F0 m 597 ls []) := by
  obtain ⟨hx, hb, hr, hml, hown, hts, hX, hbl, hbA, hb0, hlocks, hl9, hK, hZ⟩ := X9
  intro S x4 H locs ls hw hP hS hl
  unfold wp_Law_law_597 at hw
  obtain ⟨hx4, hw⟩ := hw
  refine lv_aload_n hx hb dd_Law_law_597 rfl (lv_at hl 1 rfl) ?_
  refine lv_aload_n hx hb dd_Law_law_598 rfl (lv_at hl 0 rfl) ?_
  refine lv_iload hx hb dd_Law_law_599 (lv_at hl 4 rfl) ?_
  refine lv_iconst (v := 1) hx hb dd_Law_law_601 kc_ic_1 ?_
  refine lv_iadd hx hb dd_Law_law_602 ?_
  obtain ⟨h1, hw⟩ := hw
  refine va_sld hx hb hX hbl hbA hS h1 dd_Law_law_603 ?_
  refine lv_aload_n hx hb dd_Law_law_604 rfl (lv_at hl 3 rfl) ?_
  refine fw_calli (fw_runSW (As := [.ref (b + 0), .int (xs (x4 + 1 : Int32).toNatClampNeg), .ref (b + 244)]) (rest := []) ⟨hx, hb, hml, hown, hts⟩ (mt_Law_leave l hl9 D cA b S 0 (xs (x4 + 1 : Int32).toNatClampNeg) 244 lx_x lx_o _ hw) 3 (fw_g tw_490) rfl rfl rfl (hts _ (tb_in tw_0)) (hts _ (tb_in tw_488)) (hts _ (tb_in tw_489)) (by decide +kernel) ⟨Nat.le_of_ble_eq_true rfl, Nat.le_of_ble_eq_true rfl⟩ (fw_preSX hP hK hZ hS) rfl rfl hl.1 rfl (lv_room (Nat.le_of_ble_eq_true rfl)) dd_Law_law_605 ⟨(show _ ≤ 601024 by omega), (show _ ≤ 7293034 by omega)⟩) hS (fun S2 r3 H locs hw hP hS => ?_)
  try dsimp only at hw
  refine lv_istore hx hb dd_Law_law_608 hl (Nat.le_of_ble_eq_true rfl) rfl (fun ls hl => ?_)
  have hl : lv_has ls 8 [(5, .int r3), (0, .ref bs), (1, .ref (b + 0)), (2, .ref (b + 209)), (3, .ref (b + 244)), (4, .int x4)] := hl
  refine lv_aload_n hx hb dd_Law_law_610 rfl (lv_at hl 3 rfl) ?_
  refine lv_aload_n hx hb dd_Law_law_611 rfl (lv_at hl 1 rfl) ?_
  refine lv_iload hx hb dd_Law_law_612 (lv_at hl 5 rfl) ?_
  refine lv_iconst (v := 1) hx hb dd_Law_law_614 kc_ic_1 ?_
  refine lv_iadd hx hb dd_Law_law_615 ?_
  obtain ⟨h4, hw⟩ := hw
  refine va_sld hx hb hX hbl hbA hS h4 dd_Law_law_616 ?_
  refine fw_calli (va_runV (As := [.int (xs (x4 + 1 : Int32).toNatClampNeg)]) (rest := []) ⟨hx, hb, hml, hown, hts⟩ (mt_M_leave l D cA b S2 209 (xs (x4 + 1 : Int32).toNatClampNeg) lx_m _ hw) (cwV 1 hts (fw_gV tw_948 tw_945 tw_946 tw_947 tw_11) rfl rfl rfl (by decide +kernel) ⟨Nat.le_of_ble_eq_true rfl, Nat.le_of_ble_eq_true rfl⟩) (fw_preV hP hK lx_m (by decide) rfl) rfl rfl hl.1 rfl (lv_room (Nat.le_of_ble_eq_true rfl)) dd_Law_law_617 ⟨(show _ ≤ 601024 by omega), (show _ ≤ 7293034 by omega)⟩) hS (fun S5 r6 H locs hw hP hS => ?_)
  try dsimp only at hw
  refine lv_istore hx hb dd_Law_law_620 hl (Nat.le_of_ble_eq_true rfl) rfl (fun ls hl => ?_)
  have hl : lv_has ls 8 [(6, .int r6), (5, .int r3), (0, .ref bs), (1, .ref (b + 0)), (2, .ref (b + 209)), (3, .ref (b + 244)), (4, .int x4)] := hl
  refine lv_aload_n hx hb dd_Law_law_622 rfl (lv_at hl 4 rfl) ?_
  refine fw_calli (va_runV (As := []) (rest := []) ⟨hx, hb, hml, hown, hts⟩ (mt_M_thrown l D cA b S5 209 lx_m _ hw) (cwV 0 hts (fw_gV tw_906 tw_903 tw_904 tw_905 tw_11) rfl rfl rfl (by decide +kernel) ⟨Nat.le_of_ble_eq_true rfl, Nat.le_of_ble_eq_true rfl⟩) (fw_preV hP hK lx_m (by decide) rfl) rfl rfl hl.1 rfl (lv_room (Nat.le_of_ble_eq_true rfl)) dd_Law_law_623 ⟨(show _ ≤ 601024 by omega), (show _ ≤ 7293034 by omega)⟩) hS (fun S7 r8 H locs hw hP hS => ?_)
  try dsimp only at hw
  refine lv_iload hx hb dd_Law_law_626 (lv_at hl 1 rfl) ?_
  refine lv_icmp_eq (tgt := 633) hx hb dd_Law_law_628 (by decide) (fun h9 => ?_) (fun h9 => ?_)
  · have hw := hw.1 h9
    refine lv_iload hx hb dd_Law_law_633 (lv_at hl 1 rfl) ?_
    refine lv_if_ne (tgt := 657) hx hb dd_Law_law_635 (by decide) (fun h10 => ?_) (fun h10 => ?_)
    · have hw := hw.1 h10
      refine W.widen (k := 245 + x4.toNatClampNeg + 1) (n := 4217 + 6 * x4.toNatClampNeg + 6) (by omega) (by omega) ?_
      exact lb_657 ⟨hx, hb, hr, hml, hown, hts, hX, hbl, hbA, hb0, hlocks, hl9, hK, hZ⟩ _ K23 S7 x4 r3 r6 _ _ ls hw hP hS (lv_sub hl [2, 3, 4, 5, 6, 1, 0] rfl)
    · have hw := hw.2 h10
      refine lv_aload_n hx hb dd_Law_law_638 rfl (lv_at hl 5 rfl) ?_
      refine lv_iconst (v := 0) hx hb dd_Law_law_639 kc_ic_0 ?_
      obtain ⟨h11, hw⟩ := hw
      refine fw_lald hx hb hK hP lx_o (by decide) 1 rfl tka_101 h11 dd_Law_law_640 ?_
      refine lv_iload hx hb dd_Law_law_641 (lv_at hl 0 rfl) ?_
      refine lv_if_eq (tgt := 650) hx hb dd_Law_law_643 (by decide) (fun h12 => ?_) (fun h12 => ?_)
      · have hw := hw.1 h12
        refine lv_lconst (v := 0) hx hb dd_Law_law_650 kc_lc_0 ?_
        refine W.widen (k := 245 + x4.toNatClampNeg + 1) (n := 4217 + 6 * x4.toNatClampNeg + 6) (by omega) (by omega) ?_
        exact lb_651 ⟨hx, hb, hr, hml, hown, hts, hX, hbl, hbA, hb0, hlocks, hl9, hK, hZ⟩ _ K23 S7 x4 r3 r6 0 (S7.2 244 ((0 : Int32).toNatClampNeg)) _ _ ls hw hP hS (lv_sub hl [2, 3, 4, 5, 6, 1, 0] rfl)
      · have hw := hw.2 h12
        refine lv_lconst (v := 1) hx hb dd_Law_law_646 kc_lc_1 ?_
        refine lv_goto (tgt := 651) hx hb dd_Law_law_647 (by decide) ?_
        refine W.widen (k := 245 + x4.toNatClampNeg + 1) (n := 4217 + 6 * x4.toNatClampNeg + 6) (by omega) (by omega) ?_
        exact lb_651 ⟨hx, hb, hr, hml, hown, hts, hX, hbl, hbA, hb0, hlocks, hl9, hK, hZ⟩ _ K23 S7 x4 r3 r6 1 (S7.2 244 ((0 : Int32).toNatClampNeg)) _ _ ls hw hP hS (lv_sub hl [2, 3, 4, 5, 6, 1, 0] rfl)
  · have hw := hw.2 h9
    refine lv_iconst (v := 0) hx hb dd_Law_law_631 kc_ic_0 ?_
    exact False.elim hw
def wp_Law_law_725 (L : Nat) (xs : Nat → Int32) (k23 : fw_S → Int32 → Prop) (S : fw_S) (x4 : Int32) (x5 : Int32) (x6 : Int32) : Prop := x4.toNatClampNeg ≤ 2560 ∧ (wp_Law_law_1470 L xs  k23 S x4)
set_option maxHeartbeats 4000000 in
set_option maxRecDepth 100000 in
theorem lb_725 {p : Program} {l : Launch} {e : Env} {s : State} {m : MethodId} {below : List Frame} {meth : Method} {c : Code} {bs L b : Nat} {xs : Nat → Int32} {D : va_G} {cA : Nat → ClassId} (X9 : lx_C p l s m meth c bs L b xs D cA) (k23 : fw_S → Int32 → Prop) (K23 : ∀ (S : fw_S) (x4 : Int32) (H : Heap) (locs : List Loc) (ls : Array Slot), k23 S x4 → fw_P D CL cA layU b 245 (fw_v TK layU b S) H → va_S (fw_A b 245) s.heap H locs → lv_has ls 8 [(0, .ref bs), (1, .ref (b + 0)), (2, .ref (b + 209)), (3, .ref (b + 244)), (4, .int x4)] → W p l e room_1 s m #[Value.ref bs] below meth c H locs (245 + x4.toNatClampNeg + 0) (4217 + 6 * x4.toNatClampNeg + 0) (lw_Z below #[Value.ref bs] s) (F0 m 23 ls [])) : ∀ (S : fw_S) (x4 : Int32) (x5 : Int32) (x6 : Int32) (H : Heap) (locs : List Loc) (ls : Array Slot), wp_Law_law_725 L xs k23 S x4 x5 x6 → fw_P D CL cA layU b 245 (fw_v TK layU b S) H → va_S (fw_A b 245) s.heap H locs → lv_has ls 8 [(0, .ref bs), (1, .ref (b + 0)), (2, .ref (b + 209)), (3, .ref (b + 244)), (4, .int x4), (5, .int x5), (6, .int x6)] → W p l e room_1 s m #[Value.ref bs] below meth c H locs (245 + x4.toNatClampNeg + 2) (4217 + 6 * x4.toNatClampNeg + 12) (lw_Z below #[Value.ref bs] s) (F0 m 725 ls []) := by
  obtain ⟨hx, hb, hr, hml, hown, hts, hX, hbl, hbA, hb0, hlocks, hl9, hK, hZ⟩ := X9
  intro S x4 x5 x6 H locs ls hw hP hS hl
  unfold wp_Law_law_725 at hw
  obtain ⟨hx4, hw⟩ := hw
  refine lv_goto (tgt := 1470) hx hb dd_Law_law_725 (by decide) ?_
  refine W.widen (k := 245 + x4.toNatClampNeg + 4) (n := 4217 + 6 * x4.toNatClampNeg + 24) (by omega) (by omega) ?_
  exact lb_1470 ⟨hx, hb, hr, hml, hown, hts, hX, hbl, hbA, hb0, hlocks, hl9, hK, hZ⟩ _ K23 S x4 _ _ ls hw hP hS (lv_sub hl [0, 1, 2, 3, 4] rfl)
def wp_Law_law_660 (L : Nat) (xs : Nat → Int32) (k23 : fw_S → Int32 → Prop) (S : fw_S) (x4 : Int32) : Prop := x4.toNatClampNeg ≤ 2560 ∧ (vp_in (x4 + 1) L ∧ (vp_in (x4 + 2) L ∧ (wp_Law_show S 0 (xs (x4 + 1 : Int32).toNatClampNeg) (xs (x4 + 2 : Int32).toNatClampNeg) 244 (fun S3 r4 => vp_in (x4 + 1) L ∧ (vp_in (x4 + 2) L ∧ (wp_M_show S3 209 (xs (x4 + 1 : Int32).toNatClampNeg) (xs (x4 + 2 : Int32).toNatClampNeg) (fun S7 r8 => wp_M_thrown S7 209 (fun S9 r10 => (((r10 = r4) → ((¬ (r4 = 0) → wp_Law_law_725 L xs  k23 S9 x4 r4 r8) ∧ ((r4 = 0) → vp_in 0 1 ∧ (((((lg_cmp (S9.2 244 ((0 : Int32).toNatClampNeg)) r8.toInt64) = 0) → wp_Law_law_725 L xs  k23 S9 x4 r4 r8) ∧ (¬ ((lg_cmp (S9.2 244 ((0 : Int32).toNatClampNeg)) r8.toInt64) = 0) → False)))))) ∧ (¬ (r10 = r4) → False))))))))))
set_option maxHeartbeats 4000000 in
set_option maxRecDepth 100000 in
theorem lb_660 {p : Program} {l : Launch} {e : Env} {s : State} {m : MethodId} {below : List Frame} {meth : Method} {c : Code} {bs L b : Nat} {xs : Nat → Int32} {D : va_G} {cA : Nat → ClassId} (X9 : lx_C p l s m meth c bs L b xs D cA) (k23 : fw_S → Int32 → Prop) (K23 : ∀ (S : fw_S) (x4 : Int32) (H : Heap) (locs : List Loc) (ls : Array Slot), k23 S x4 → fw_P D CL cA layU b 245 (fw_v TK layU b S) H → va_S (fw_A b 245) s.heap H locs → lv_has ls 8 [(0, .ref bs), (1, .ref (b + 0)), (2, .ref (b + 209)), (3, .ref (b + 244)), (4, .int x4)] → W p l e room_1 s m #[Value.ref bs] below meth c H locs (245 + x4.toNatClampNeg + 0) (4217 + 6 * x4.toNatClampNeg + 0) (lw_Z below #[Value.ref bs] s) (F0 m 23 ls [])) : ∀ (S : fw_S) (x4 : Int32) (H : Heap) (locs : List Loc) (ls : Array Slot), wp_Law_law_660 L xs k23 S x4 → fw_P D CL cA layU b 245 (fw_v TK layU b S) H → va_S (fw_A b 245) s.heap H locs → lv_has ls 8 [(0, .ref bs), (1, .ref (b + 0)), (2, .ref (b + 209)), (3, .ref (b + 244)), (4, .int x4)] → W p l e room_1 s m #[Value.ref bs] below meth c H locs (245 + x4.toNatClampNeg + 0) (4217 + 6 * x4.toNatClampNeg + 0) (lw_Z below #[Value.ref bs] s) (F0 m 660 ls []) := by
  obtain ⟨hx, hb, hr, hml, hown, hts, hX, hbl, hbA, hb0, hlocks, hl9, hK, hZ⟩ := X9
  intro S x4 H locs ls hw hP hS hl
  unfold wp_Law_law_660 at hw
  obtain ⟨hx4, hw⟩ := hw
  refine lv_aload_n hx hb dd_Law_law_660 rfl (lv_at hl 1 rfl) ?_
  refine lv_aload_n hx hb dd_Law_law_661 rfl (lv_at hl 0 rfl) ?_
  refine lv_iload hx hb dd_Law_law_662 (lv_at hl 4 rfl) ?_
  refine lv_iconst (v := 1) hx hb dd_Law_law_664 kc_ic_1 ?_
  refine lv_iadd hx hb dd_Law_law_665 ?_
  obtain ⟨h1, hw⟩ := hw
  refine va_sld hx hb hX hbl hbA hS h1 dd_Law_law_666 ?_
  refine lv_aload_n hx hb dd_Law_law_667 rfl (lv_at hl 0 rfl) ?_
  refine lv_iload hx hb dd_Law_law_668 (lv_at hl 4 rfl) ?_
  refine lv_iconst (v := 2) hx hb dd_Law_law_670 kc_ic_2 ?_
  refine lv_iadd hx hb dd_Law_law_671 ?_
  obtain ⟨h2, hw⟩ := hw
  refine va_sld hx hb hX hbl hbA hS h2 dd_Law_law_672 ?_
  refine lv_aload_n hx hb dd_Law_law_673 rfl (lv_at hl 3 rfl) ?_
  refine fw_calli (fw_runSW (As := [.ref (b + 0), .int (xs (x4 + 1 : Int32).toNatClampNeg), .int (xs (x4 + 2 : Int32).toNatClampNeg), .ref (b + 244)]) (rest := []) ⟨hx, hb, hml, hown, hts⟩ (mt_Law_show l hl9 D cA b S 0 (xs (x4 + 1 : Int32).toNatClampNeg) (xs (x4 + 2 : Int32).toNatClampNeg) 244 lx_x lx_o _ hw) 4 (fw_g tw_526) rfl rfl rfl (hts _ (tb_in tw_0)) (hts _ (tb_in tw_524)) (hts _ (tb_in tw_525)) (by decide +kernel) ⟨Nat.le_of_ble_eq_true rfl, Nat.le_of_ble_eq_true rfl⟩ (fw_preSX hP hK hZ hS) rfl rfl hl.1 rfl (lv_room (Nat.le_of_ble_eq_true rfl)) dd_Law_law_674 ⟨(show _ ≤ 601024 by omega), (show _ ≤ 7293034 by omega)⟩) hS (fun S3 r4 H locs hw hP hS => ?_)
  try dsimp only at hw
  refine lv_istore hx hb dd_Law_law_677 hl (Nat.le_of_ble_eq_true rfl) rfl (fun ls hl => ?_)
  have hl : lv_has ls 8 [(5, .int r4), (0, .ref bs), (1, .ref (b + 0)), (2, .ref (b + 209)), (3, .ref (b + 244)), (4, .int x4)] := hl
  refine lv_aload_n hx hb dd_Law_law_679 rfl (lv_at hl 3 rfl) ?_
  refine lv_aload_n hx hb dd_Law_law_680 rfl (lv_at hl 1 rfl) ?_
  refine lv_iload hx hb dd_Law_law_681 (lv_at hl 5 rfl) ?_
  refine lv_iconst (v := 1) hx hb dd_Law_law_683 kc_ic_1 ?_
  refine lv_iadd hx hb dd_Law_law_684 ?_
  obtain ⟨h5, hw⟩ := hw
  refine va_sld hx hb hX hbl hbA hS h5 dd_Law_law_685 ?_
  refine lv_aload_n hx hb dd_Law_law_686 rfl (lv_at hl 1 rfl) ?_
  refine lv_iload hx hb dd_Law_law_687 (lv_at hl 5 rfl) ?_
  refine lv_iconst (v := 2) hx hb dd_Law_law_689 kc_ic_2 ?_
  refine lv_iadd hx hb dd_Law_law_690 ?_
  obtain ⟨h6, hw⟩ := hw
  refine va_sld hx hb hX hbl hbA hS h6 dd_Law_law_691 ?_
  refine fw_calli (va_runV (As := [.int (xs (x4 + 1 : Int32).toNatClampNeg), .int (xs (x4 + 2 : Int32).toNatClampNeg)]) (rest := []) ⟨hx, hb, hml, hown, hts⟩ (mt_M_show l D cA b S3 209 (xs (x4 + 1 : Int32).toNatClampNeg) (xs (x4 + 2 : Int32).toNatClampNeg) lx_m _ hw) (cwV 2 hts (fw_gV tw_971 tw_968 tw_969 tw_970 tw_11) rfl rfl rfl (by decide +kernel) ⟨Nat.le_of_ble_eq_true rfl, Nat.le_of_ble_eq_true rfl⟩) (fw_preV hP hK lx_m (by decide) rfl) rfl rfl hl.1 rfl (lv_room (Nat.le_of_ble_eq_true rfl)) dd_Law_law_692 ⟨(show _ ≤ 601024 by omega), (show _ ≤ 7293034 by omega)⟩) hS (fun S7 r8 H locs hw hP hS => ?_)
  try dsimp only at hw
  refine lv_istore hx hb dd_Law_law_695 hl (Nat.le_of_ble_eq_true rfl) rfl (fun ls hl => ?_)
  have hl : lv_has ls 8 [(6, .int r8), (5, .int r4), (0, .ref bs), (1, .ref (b + 0)), (2, .ref (b + 209)), (3, .ref (b + 244)), (4, .int x4)] := hl
  refine lv_aload_n hx hb dd_Law_law_697 rfl (lv_at hl 4 rfl) ?_
  refine fw_calli (va_runV (As := []) (rest := []) ⟨hx, hb, hml, hown, hts⟩ (mt_M_thrown l D cA b S7 209 lx_m _ hw) (cwV 0 hts (fw_gV tw_906 tw_903 tw_904 tw_905 tw_11) rfl rfl rfl (by decide +kernel) ⟨Nat.le_of_ble_eq_true rfl, Nat.le_of_ble_eq_true rfl⟩) (fw_preV hP hK lx_m (by decide) rfl) rfl rfl hl.1 rfl (lv_room (Nat.le_of_ble_eq_true rfl)) dd_Law_law_698 ⟨(show _ ≤ 601024 by omega), (show _ ≤ 7293034 by omega)⟩) hS (fun S9 r10 H locs hw hP hS => ?_)
  try dsimp only at hw
  refine lv_iload hx hb dd_Law_law_701 (lv_at hl 1 rfl) ?_
  refine lv_icmp_eq (tgt := 708) hx hb dd_Law_law_703 (by decide) (fun h11 => ?_) (fun h11 => ?_)
  · have hw := hw.1 h11
    refine lv_iload hx hb dd_Law_law_708 (lv_at hl 1 rfl) ?_
    refine lv_if_ne (tgt := 725) hx hb dd_Law_law_710 (by decide) (fun h12 => ?_) (fun h12 => ?_)
    · have hw := hw.1 h12
      refine W.widen (k := 245 + x4.toNatClampNeg + 2) (n := 4217 + 6 * x4.toNatClampNeg + 12) (by omega) (by omega) ?_
      exact lb_725 ⟨hx, hb, hr, hml, hown, hts, hX, hbl, hbA, hb0, hlocks, hl9, hK, hZ⟩ _ K23 S9 x4 r4 r8 _ _ ls hw hP hS (lv_sub hl [2, 3, 4, 5, 6, 1, 0] rfl)
    · have hw := hw.2 h12
      refine lv_aload_n hx hb dd_Law_law_713 rfl (lv_at hl 5 rfl) ?_
      refine lv_iconst (v := 0) hx hb dd_Law_law_714 kc_ic_0 ?_
      obtain ⟨h13, hw⟩ := hw
      refine fw_lald hx hb hK hP lx_o (by decide) 1 rfl tka_101 h13 dd_Law_law_715 ?_
      refine lv_iload hx hb dd_Law_law_716 (lv_at hl 0 rfl) ?_
      refine lv_i2l hx hb dd_Law_law_718 rfl ?_
      refine W.lcmp hx hb dd_Law_law_719 ?_
      refine lv_if_eq (tgt := 725) hx hb dd_Law_law_720 (by decide) (fun h14 => ?_) (fun h14 => ?_)
      · have hw := hw.1 h14
        refine W.widen (k := 245 + x4.toNatClampNeg + 2) (n := 4217 + 6 * x4.toNatClampNeg + 12) (by omega) (by omega) ?_
        exact lb_725 ⟨hx, hb, hr, hml, hown, hts, hX, hbl, hbA, hb0, hlocks, hl9, hK, hZ⟩ _ K23 S9 x4 r4 r8 _ _ ls hw hP hS (lv_sub hl [2, 3, 4, 5, 6, 1, 0] rfl)
      · have hw := hw.2 h14
        refine lv_iconst (v := 0) hx hb dd_Law_law_723 kc_ic_0 ?_
        exact False.elim hw
  · have hw := hw.2 h11
    refine lv_iconst (v := 0) hx hb dd_Law_law_706 kc_ic_0 ?_
    exact False.elim hw
