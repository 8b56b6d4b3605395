theorem dd_Point_read_28 : decode bb_Point_read 28 = .ok (.return_, 1) := by decide +kernel
theorem dd_Point_read_0 : decode bb_Point_read 0 = .ok (.iload_n 1, 1) := by decide +kernel
theorem dd_Point_read_1 : decode bb_Point_read 1 = .ok (.bipush 60, 2) := by decide +kernel
theorem dd_Point_read_3 : decode bb_Point_read 3 = .ok (.irem, 1) := by decide +kernel
theorem dd_Point_read_4 : decode bb_Point_read 4 = .ok (.ifCond .ne 24, 3) := by decide +kernel
theorem dd_Point_read_7 : decode bb_Point_read 7 = .ok (.aload_n 0, 1) := by decide +kernel
theorem dd_Point_read_8 : decode bb_Point_read 8 = .ok (.invokevirtual 62, 3) := by decide +kernel
theorem dd_Point_read_11 : decode bb_Point_read 11 = .ok (.ifCond .eq 17, 3) := by decide +kernel
theorem dd_Point_read_14 : decode bb_Point_read 14 = .ok (.aload_n 0, 1) := by decide +kernel
theorem dd_Point_read_15 : decode bb_Point_read 15 = .ok (.invokevirtual 107, 3) := by decide +kernel
theorem dd_Point_read_18 : decode bb_Point_read 18 = .ok (.ifCond .eq 10, 3) := by decide +kernel
theorem dd_Point_read_21 : decode bb_Point_read 21 = .ok (.aload_n 0, 1) := by decide +kernel
theorem dd_Point_read_22 : decode bb_Point_read 22 = .ok (.iconst 1, 1) := by decide +kernel
theorem dd_Point_read_23 : decode bb_Point_read 23 = .ok (.iload_n 1, 1) := by decide +kernel
theorem dd_Point_read_24 : decode bb_Point_read 24 = .ok (.iconst 0, 1) := by decide +kernel
theorem dd_Point_read_25 : decode bb_Point_read 25 = .ok (.invokevirtual 87, 3) := by decide +kernel
def ww_Point_read : List Cond := .code yy_Point_read bb_Point_read 2 none :: TB
def rm_Point_read : Room := { frames := 3, cells := 0, slots := 0, locals := 76 }
def wp_Point_read_28 (o : Nat) (a1 : Int32) (post : fw_S → Prop) (S : fw_S) : Prop := post S
def wp_Point_read (S : fw_S) (o : Nat) (a1 : Int32) (post : fw_S → Prop) : Prop := ((¬ ((a1 - a1 / 60 * 60) = 0) → wp_Point_read_28 o a1 post S) ∧ (((a1 - a1 / 60 * 60) = 0) → wp_Point_runs S o (fun S2 r3 => (((r3 = 0) → wp_Point_read_28 o a1 post S2) ∧ (¬ (r3 = 0) → wp_Point_hasRoomForReading S2 o (fun S5 r6 => (((r6 = 0) → wp_Point_read_28 o a1 post S5) ∧ (¬ (r6 = 0) → wp_Point_tell S5 o 1 a1 0 (fun S8 => wp_Point_read_28 o a1 post S8)))))))))
set_option maxHeartbeats 4000000 in
set_option maxRecDepth 100000 in
theorem mt_Point_read (l : Launch) (D : va_G) (cA : Nat → ClassId) (b : Nat) (S : fw_S) (o : Nat) (a1 : Int32) (ho : o < 245 ∧ layU o = (2, 0)) (post : fw_S → Prop) (hw : wp_Point_read S o a1 post) : Met l yy_Point_read ww_Point_read rm_Point_read (fw_Pc D CL cA (TYS cA) TK layU b 245 S [.ref (b + o), .int a1]) (va_Qv post (fw_B D CL cA TK layU b 245) (fw_A b 245)) 0 0 (fw_A b 245) := by
  refine Met.ofW (cc := bb_Point_read) (maxL := 2) (ret := none) (by decide) rfl ?_
  intro p e s m args below meth c s₁ B hml hv
  obtain ⟨rfl, hP, hK⟩ := hv
  have hx := B.exec
  have hb := B.bytes
  have hr := B.returns
  have hts := atoms_spec (ws := ww_Point_read) B.pre
  have hown : s.vm.findClass "OutletOffice$Point" = some m.cls := findClass_of_methodNamed B.named
  have hlocks := B.notSynchronized
  have hS : va_S (fw_A b 245) s.heap s.heap [] := va_S.rf
  have hl := lv_entry ([.ref (b + o), .int a1]) (n := 2) (Nat.le_of_ble_eq_true rfl)
  rw [lg_entry_eq]
  generalize (lg_sl ([.ref (b + o), .int a1]) ++ List.replicate (2 - (lg_sl ([.ref (b + o), .int a1])).length) Slot.unset).toArray = ls at hl ⊢
  have hl : lv_has ls 2 [(0, .ref (b + o)), (1, .int a1)] := hl
  have B28 : ∀ (S : fw_S) (H : Heap) (locs : List Loc) (ls : Array Slot), wp_Point_read_28 o a1 post S → fw_P D CL cA layU b 245 (fw_v TK layU b S) H → va_S (fw_A b 245) s.heap H locs → lv_has ls 2 [(0, .ref (b + o)), (1, .int a1)] → W p l e (headSpec ww_Point_read rm_Point_read).room s m ([.ref (b + o), .int a1] : List Value).toArray below meth c H locs 0 0 (MQ below (va_Qv post (fw_B D CL cA TK layU b 245) (fw_A b 245)) ([.ref (b + o), .int a1] : List Value).toArray s 0 0 (fw_A b 245)) (F0 m 28 ls []) := by
      intro S H locs ls hw hP hS hl
      unfold wp_Point_read_28 at hw
      exact W.vret hx hb hr (fun t ht hW => ⟨⟨_, rfl, hw, fw_Bof ht hP⟩, hS.F ht⟩) hS.2.2 dd_Point_read_28
  unfold wp_Point_read at hw
  refine lv_iload_n hx hb dd_Point_read_0 rfl (lv_at hl 1 rfl) ?_
  refine lv_bipush (v := 60) hx hb dd_Point_read_1 kc_bp_60 ?_
  refine lv_irem hx hb dd_Point_read_3 (by decide) ?_
  refine lv_if_ne (tgt := 28) hx hb dd_Point_read_4 (by decide) (fun h1 => ?_) (fun h1 => ?_)
  · have hw := hw.1 h1
    exact B28 S _ _ ls hw hP hS (lv_sub hl [0, 1] rfl)
  · have hw := hw.2 h1
    refine lv_aload_n hx hb dd_Point_read_7 rfl (lv_at hl 0 rfl) ?_
    refine fw_calli (va_runV (As := []) (rest := []) ⟨hx, hb, hml, hown, hts⟩ (mt_Point_runs l D cA b S o ho _ hw) (cwV 0 hts (fw_gV tw_498 tw_656 tw_496 tw_497 tw_7) rfl rfl rfl (by decide +kernel) ⟨Nat.le_of_ble_eq_true rfl, Nat.le_of_ble_eq_true rfl⟩) (fw_preV hP hK ho (by decide) rfl) rfl rfl hl.1 rfl (lv_room (Nat.le_of_ble_eq_true rfl)) dd_Point_read_8 ⟨Nat.le_of_ble_eq_true rfl, Nat.le_of_ble_eq_true rfl⟩) hS (fun S2 r3 H locs hw hP hS => ?_)
    try dsimp only at hw
    refine lv_if_eq (tgt := 28) hx hb dd_Point_read_11 (by decide) (fun h4 => ?_) (fun h4 => ?_)
    · have hw := hw.1 h4
      exact B28 S2 _ _ ls hw hP hS (lv_sub hl [0, 1] rfl)
    · have hw := hw.2 h4
      refine lv_aload_n hx hb dd_Point_read_14 rfl (lv_at hl 0 rfl) ?_
      refine fw_calli (va_runV (As := []) (rest := []) ⟨hx, hb, hml, hown, hts⟩ (mt_Point_hasRoomForReading l D cA b S2 o ho _ hw) (cwV 0 hts (fw_gV tw_687 tw_684 tw_686 ts_11 tw_7) rfl rfl rfl (by decide +kernel) ⟨Nat.le_of_ble_eq_true rfl, Nat.le_of_ble_eq_true rfl⟩) (fw_preV hP hK ho (by decide) rfl) rfl rfl hl.1 rfl (lv_room (Nat.le_of_ble_eq_true rfl)) dd_Point_read_15 ⟨Nat.le_of_ble_eq_true rfl, Nat.le_of_ble_eq_true rfl⟩) hS (fun S5 r6 H locs hw hP hS => ?_)
      try dsimp only at hw
      refine lv_if_eq (tgt := 28) hx hb dd_Point_read_18 (by decide) (fun h7 => ?_) (fun h7 => ?_)
      · have hw := hw.1 h7
        exact B28 S5 _ _ ls hw hP hS (lv_sub hl [0, 1] rfl)
      · have hw := hw.2 h7
        refine lv_aload_n hx hb dd_Point_read_21 rfl (lv_at hl 0 rfl) ?_
        refine lv_iconst (v := 1) hx hb dd_Point_read_22 kc_ic_1 ?_
        refine lv_iload_n hx hb dd_Point_read_23 rfl (lv_at hl 1 rfl) ?_
        refine lv_iconst (v := 0) hx hb dd_Point_read_24 kc_ic_0 ?_
        refine fw_callv (va_runV (As := [.int 1, .int a1, .int 0]) (rest := []) ⟨hx, hb, hml, hown, hts⟩ (mt_Point_tell l D cA b S5 o 1 a1 0 ho _ hw) (cwV 3 hts (fw_gV tw_510 tw_507 tw_509 ts_2 tw_7) rfl rfl rfl (by decide +kernel) ⟨Nat.le_of_ble_eq_true rfl, Nat.le_of_ble_eq_true rfl⟩) (fw_preV hP hK ho (by decide) rfl) rfl rfl hl.1 rfl (lv_room (Nat.le_of_ble_eq_true rfl)) dd_Point_read_25 ⟨Nat.le_of_ble_eq_true rfl, Nat.le_of_ble_eq_true rfl⟩) hS (fun S8 H locs hw hP hS => ?_)
        try dsimp only at hw
        exact B28 S8 _ _ ls hw hP hS (lv_sub hl [0, 1] rfl)
theorem dd_Point_send_32 : decode bb_Point_send 32 = .ok (.return_, 1) := by decide +kernel
theorem dd_Point_send_0 : decode bb_Point_send 0 = .ok (.aload_n 0, 1) := by decide +kernel
theorem dd_Point_send_1 : decode bb_Point_send 1 = .ok (.invokevirtual 113, 3) := by decide +kernel
theorem dd_Point_send_4 : decode bb_Point_send 4 = .ok (.ifCond .eq 28, 3) := by decide +kernel
theorem dd_Point_send_7 : decode bb_Point_send 7 = .ok (.aload_n 0, 1) := by decide +kernel
theorem dd_Point_send_8 : decode bb_Point_send 8 = .ok (.getfield 21, 3) := by decide +kernel
theorem dd_Point_send_11 : decode bb_Point_send 11 = .ok (.iload_n 1, 1) := by decide +kernel
theorem dd_Point_send_12 : decode bb_Point_send 12 = .ok (.invokevirtual 116, 3) := by decide +kernel
theorem dd_Point_send_15 : decode bb_Point_send 15 = .ok (.iload_n 1, 1) := by decide +kernel
theorem dd_Point_send_16 : decode bb_Point_send 16 = .ok (.if_icmp .gt 16, 3) := by decide +kernel
theorem dd_Point_send_19 : decode bb_Point_send 19 = .ok (.aload_n 0, 1) := by decide +kernel
theorem dd_Point_send_20 : decode bb_Point_send 20 = .ok (.getfield 21, 3) := by decide +kernel
theorem dd_Point_send_23 : decode bb_Point_send 23 = .ok (.iload_n 1, 1) := by decide +kernel
theorem dd_Point_send_24 : decode bb_Point_send 24 = .ok (.putfield 123, 3) := by decide +kernel
theorem dd_Point_send_27 : decode bb_Point_send 27 = .ok (.aload_n 0, 1) := by decide +kernel
theorem dd_Point_send_28 : decode bb_Point_send 28 = .ok (.iconst 1, 1) := by decide +kernel
theorem dd_Point_send_29 : decode bb_Point_send 29 = .ok (.putfield 53, 3) := by decide +kernel
def ww_Point_send : List Cond := .code yy_Point_send bb_Point_send 2 none :: TB
def rm_Point_send : Room := { frames := 2, cells := 0, slots := 0, locals := 40 }
def wp_Point_send_32 (o : Nat) (a1 : Int32) (post : fw_S → Prop) (S : fw_S) : Prop := post S
def wp_Point_send (S : fw_S) (o : Nat) (a1 : Int32) (post : fw_S → Prop) : Prop := wp_Point_waitsToSend S o (fun S1 r2 => (((r2 = 0) → wp_Point_send_32 o a1 post S1) ∧ (¬ (r2 = 0) → wp_Queue_firstDue S1 (o + 2) a1 (fun S4 r5 => (((a1 < r5) → wp_Point_send_32 o a1 post S4) ∧ (¬ (a1 < r5) → ∀ S7 : fw_S, S7 = fw_si S4 (o + 2) 4 a1 → ∀ S8 : fw_S, S8 = fw_si S7 o 9 1 → wp_Point_send_32 o a1 post S8))))))
set_option maxHeartbeats 4000000 in
set_option maxRecDepth 100000 in
theorem mt_Point_send (l : Launch) (D : va_G) (cA : Nat → ClassId) (b : Nat) (S : fw_S) (o : Nat) (a1 : Int32) (ho : o < 245 ∧ layU o = (2, 0)) (post : fw_S → Prop) (hw : wp_Point_send S o a1 post) : Met l yy_Point_send ww_Point_send rm_Point_send (fw_Pc D CL cA (TYS cA) TK layU b 245 S [.ref (b + o), .int a1]) (va_Qv post (fw_B D CL cA TK layU b 245) (fw_A b 245)) 0 0 (fw_A b 245) := by
  refine Met.ofW (cc := bb_Point_send) (maxL := 2) (ret := none) (by decide) rfl ?_
  intro p e s m args below meth c s₁ B hml hv
  obtain ⟨rfl, hP, hK⟩ := hv
  have hx := B.exec
  have hb := B.bytes
  have hr := B.returns
  have hts := atoms_spec (ws := ww_Point_send) B.pre
  have hown : s.vm.findClass "OutletOffice$Point" = some m.cls := findClass_of_methodNamed B.named
  have hlocks := B.notSynchronized
  have hS : va_S (fw_A b 245) s.heap s.heap [] := va_S.rf
  have hl := lv_entry ([.ref (b + o), .int a1]) (n := 2) (Nat.le_of_ble_eq_true rfl)
  rw [lg_entry_eq]
  generalize (lg_sl ([.ref (b + o), .int a1]) ++ List.replicate (2 - (lg_sl ([.ref (b + o), .int a1])).length) Slot.unset).toArray = ls at hl ⊢
  have hl : lv_has ls 2 [(0, .ref (b + o)), (1, .int a1)] := hl
  have B32 : ∀ (S : fw_S) (H : Heap) (locs : List Loc) (ls : Array Slot), wp_Point_send_32 o a1 post S → fw_P D CL cA layU b 245 (fw_v TK layU b S) H → va_S (fw_A b 245) s.heap H locs → lv_has ls 2 [(0, .ref (b + o)), (1, .int a1)] → W p l e (headSpec ww_Point_send rm_Point_send).room s m ([.ref (b + o), .int a1] : List Value).toArray below meth c H locs 0 0 (MQ below (va_Qv post (fw_B D CL cA TK layU b 245) (fw_A b 245)) ([.ref (b + o), .int a1] : List Value).toArray s 0 0 (fw_A b 245)) (F0 m 32 ls []) := by
      intro S H locs ls hw hP hS hl
      unfold wp_Point_send_32 at hw
      exact W.vret hx hb hr (fun t ht hW => ⟨⟨_, rfl, hw, fw_Bof ht hP⟩, hS.F ht⟩) hS.2.2 dd_Point_send_32
  unfold wp_Point_send at hw
  refine lv_aload_n hx hb dd_Point_send_0 rfl (lv_at hl 0 rfl) ?_
  refine fw_calli (va_runV (As := []) (rest := []) ⟨hx, hb, hml, hown, hts⟩ (mt_Point_waitsToSend l D cA b S o ho _ hw) (cwV 0 hts (fw_gV tw_695 tw_692 tw_694 ts_12 tw_7) rfl rfl rfl (by decide +kernel) ⟨Nat.le_of_ble_eq_true rfl, Nat.le_of_ble_eq_true rfl⟩) (fw_preV hP hK ho (by decide) rfl) rfl rfl hl.1 rfl (lv_room (Nat.le_of_ble_eq_true rfl)) dd_Point_send_1 ⟨Nat.le_of_ble_eq_true rfl, Nat.le_of_ble_eq_true rfl⟩) hS (fun S1 r2 H locs hw hP hS => ?_)
  try dsimp only at hw
  refine lv_if_eq (tgt := 32) hx hb dd_Point_send_4 (by decide) (fun h3 => ?_) (fun h3 => ?_)
  · have hw := hw.1 h3
    exact B32 S1 _ _ ls hw hP hS (lv_sub hl [0, 1] rfl)
  · have hw := hw.2 h3
    refine lv_aload_n hx hb dd_Point_send_7 rfl (lv_at hl 0 rfl) ?_
    refine fw_getr hx hb hts in_2 hown hK hP ho (by decide) rfl 1 (by decide) (hts _ (tb_in tw_245)) tk_2_1 dd_Point_send_8 ?_
    refine lv_iload_n hx hb dd_Point_send_11 rfl (lv_at hl 1 rfl) ?_
    refine fw_calli (va_runV (As := [.int a1]) (rest := []) ⟨hx, hb, hml, hown, hts⟩ (mt_Queue_firstDue l D cA b S1 (o + 2) a1 (lf_2_1 ho) _ hw) (cwV 1 hts (fw_gV tw_699 tw_696 tw_697 tw_698 tw_9) rfl rfl rfl (by decide +kernel) ⟨Nat.le_of_ble_eq_true rfl, Nat.le_of_ble_eq_true rfl⟩) (fw_preV hP hK (lf_2_1 ho) (by decide) rfl) rfl rfl hl.1 rfl (lv_room (Nat.le_of_ble_eq_true rfl)) dd_Point_send_12 ⟨Nat.le_of_ble_eq_true rfl, Nat.le_of_ble_eq_true rfl⟩) hS (fun S4 r5 H locs hw hP hS => ?_)
    try dsimp only at hw
    refine lv_iload_n hx hb dd_Point_send_15 rfl (lv_at hl 1 rfl) ?_
    refine lv_icmp_gt (tgt := 32) hx hb dd_Point_send_16 (by decide) (fun h6 => ?_) (fun h6 => ?_)
    · have hw := hw.1 h6
      exact B32 S4 _ _ ls hw hP hS (lv_sub hl [0, 1] rfl)
    · have hw := hw.2 h6
      refine lv_aload_n hx hb dd_Point_send_19 rfl (lv_at hl 0 rfl) ?_
      refine fw_getr hx hb hts in_2 hown hK hP ho (by decide) rfl 1 (by decide) (hts _ (tb_in tw_245)) tk_2_1 dd_Point_send_20 ?_
      refine lv_iload_n hx hb dd_Point_send_23 rfl (lv_at hl 1 rfl) ?_
      refine fw_puti hx hb hts in_4 F_ty_4 F_tyok_4 F_nm_4 hown hK hP hS (fw_A.in (lf_2_1 ho).1) (lf_2_1 ho) (by decide) rfl 4 (by decide) (hts _ (tb_in tw_228)) rfl tk_4_4 (ty := .int) (by decide +kernel) rfl rfl dd_Point_send_24 (fun H locs hP hS => ?_)
      obtain ⟨S7, e_S7⟩ : ∃ z, z = fw_si S4 (o + 2) 4 a1 := ⟨_, rfl⟩
      rw [← e_S7] at hP
      have hw := hw S7 e_S7
      refine lv_aload_n hx hb dd_Point_send_27 rfl (lv_at hl 0 rfl) ?_
      refine lv_iconst (v := 1) hx hb dd_Point_send_28 kc_ic_1 ?_
      refine fw_puti hx hb hts in_2 F_ty_2 F_tyok_2 F_nm_2 hown hK hP hS (fw_A.in ho.1) ho (by decide) rfl 9 (by decide) (hts _ (tb_in tw_260)) rfl tk_2_9 (ty := .int) (by decide +kernel) rfl rfl dd_Point_send_29 (fun H locs hP hS => ?_)
      obtain ⟨S8, e_S8⟩ : ∃ z, z = fw_si S7 o 9 1 := ⟨_, rfl⟩
      rw [← e_S8] at hP
      have hw := hw S8 e_S8
      exact B32 S8 _ _ ls hw hP hS (lv_sub hl [0, 1] rfl)
theorem dd_Out_goOn_21 : decode bb_Out_goOn 21 = .ok (.iload 4, 2) := by decide +kernel
theorem dd_Out_goOn_23 : decode bb_Out_goOn 23 = .ok (.iload_n 3, 1) := by decide +kernel
theorem dd_Out_goOn_24 : decode bb_Out_goOn 24 = .ok (.if_icmp .ge 78, 3) := by decide +kernel
theorem dd_Out_goOn_102 : decode bb_Out_goOn 102 = .ok (.return_, 1) := by decide +kernel
theorem dd_Out_goOn_27 : decode bb_Out_goOn 27 = .ok (.aload_n 2, 1) := by decide +kernel
theorem dd_Out_goOn_28 : decode bb_Out_goOn 28 = .ok (.iload 4, 2) := by decide +kernel
theorem dd_Out_goOn_30 : decode bb_Out_goOn 30 = .ok (.aaload, 1) := by decide +kernel
theorem dd_Out_goOn_31 : decode bb_Out_goOn 31 = .ok (.astore 5, 2) := by decide +kernel
theorem dd_Out_goOn_33 : decode bb_Out_goOn 33 = .ok (.aload 5, 2) := by decide +kernel
theorem dd_Out_goOn_35 : decode bb_Out_goOn 35 = .ok (.getfield 178, 3) := by decide +kernel
theorem dd_Out_goOn_38 : decode bb_Out_goOn 38 = .ok (.astore 6, 2) := by decide +kernel
theorem dd_Out_goOn_40 : decode bb_Out_goOn 40 = .ok (.aload 6, 2) := by decide +kernel
theorem dd_Out_goOn_42 : decode bb_Out_goOn 42 = .ok (.arraylength, 1) := by decide +kernel
theorem dd_Out_goOn_43 : decode bb_Out_goOn 43 = .ok (.istore 7, 2) := by decide +kernel
theorem dd_Out_goOn_45 : decode bb_Out_goOn 45 = .ok (.iconst 0, 1) := by decide +kernel
theorem dd_Out_goOn_46 : decode bb_Out_goOn 46 = .ok (.istore 8, 2) := by decide +kernel
theorem dd_Out_goOn_48 : decode bb_Out_goOn 48 = .ok (.iload 8, 2) := by decide +kernel
theorem dd_Out_goOn_50 : decode bb_Out_goOn 50 = .ok (.iload 7, 2) := by decide +kernel
theorem dd_Out_goOn_52 : decode bb_Out_goOn 52 = .ok (.if_icmp .ge 44, 3) := by decide +kernel
theorem dd_Out_goOn_96 : decode bb_Out_goOn 96 = .ok (.iinc 4 1, 3) := by decide +kernel
theorem dd_Out_goOn_99 : decode bb_Out_goOn 99 = .ok (.goto (-78), 3) := by decide +kernel
theorem dd_Out_goOn_55 : decode bb_Out_goOn 55 = .ok (.aload 6, 2) := by decide +kernel
theorem dd_Out_goOn_57 : decode bb_Out_goOn 57 = .ok (.iload 8, 2) := by decide +kernel
theorem dd_Out_goOn_59 : decode bb_Out_goOn 59 = .ok (.aaload, 1) := by decide +kernel
theorem dd_Out_goOn_60 : decode bb_Out_goOn 60 = .ok (.astore 9, 2) := by decide +kernel
theorem dd_Out_goOn_62 : decode bb_Out_goOn 62 = .ok (.aload 9, 2) := by decide +kernel
theorem dd_Out_goOn_64 : decode bb_Out_goOn 64 = .ok (.iload_n 1, 1) := by decide +kernel
theorem dd_Out_goOn_65 : decode bb_Out_goOn 65 = .ok (.aload_n 0, 1) := by decide +kernel
theorem dd_Out_goOn_66 : decode bb_Out_goOn 66 = .ok (.getfield 22, 3) := by decide +kernel
theorem dd_Out_goOn_69 : decode bb_Out_goOn 69 = .ok (.invokevirtual 240, 3) := by decide +kernel
theorem dd_Out_goOn_72 : decode bb_Out_goOn 72 = .ok (.aload 9, 2) := by decide +kernel
theorem dd_Out_goOn_74 : decode bb_Out_goOn 74 = .ok (.aload_n 0, 1) := by decide +kernel
theorem dd_Out_goOn_75 : decode bb_Out_goOn 75 = .ok (.getfield 22, 3) := by decide +kernel
theorem dd_Out_goOn_78 : decode bb_Out_goOn 78 = .ok (.invokevirtual 243, 3) := by decide +kernel
theorem dd_Out_goOn_81 : decode bb_Out_goOn 81 = .ok (.aload 9, 2) := by decide +kernel
theorem dd_Out_goOn_83 : decode bb_Out_goOn 83 = .ok (.aload_n 0, 1) := by decide +kernel
theorem dd_Out_goOn_84 : decode bb_Out_goOn 84 = .ok (.getfield 22, 3) := by decide +kernel
theorem dd_Out_goOn_87 : decode bb_Out_goOn 87 = .ok (.invokevirtual 246, 3) := by decide +kernel
theorem dd_Out_goOn_90 : decode bb_Out_goOn 90 = .ok (.iinc 8 1, 3) := by decide +kernel
theorem dd_Out_goOn_93 : decode bb_Out_goOn 93 = .ok (.goto (-45), 3) := by decide +kernel
theorem dd_Out_goOn_0 : decode bb_Out_goOn 0 = .ok (.aload_n 0, 1) := by decide +kernel
theorem dd_Out_goOn_1 : decode bb_Out_goOn 1 = .ok (.dup, 1) := by decide +kernel
theorem dd_Out_goOn_2 : decode bb_Out_goOn 2 = .ok (.getfield 22, 3) := by decide +kernel
theorem dd_Out_goOn_5 : decode bb_Out_goOn 5 = .ok (.iload_n 1, 1) := by decide +kernel
theorem dd_Out_goOn_6 : decode bb_Out_goOn 6 = .ok (.iadd, 1) := by decide +kernel
theorem dd_Out_goOn_7 : decode bb_Out_goOn 7 = .ok (.putfield 22, 3) := by decide +kernel
theorem dd_Out_goOn_10 : decode bb_Out_goOn 10 = .ok (.aload_n 0, 1) := by decide +kernel
theorem dd_Out_goOn_11 : decode bb_Out_goOn 11 = .ok (.getfield 11, 3) := by decide +kernel
theorem dd_Out_goOn_14 : decode bb_Out_goOn 14 = .ok (.astore_n 2, 1) := by decide +kernel
theorem dd_Out_goOn_15 : decode bb_Out_goOn 15 = .ok (.aload_n 2, 1) := by decide +kernel
theorem dd_Out_goOn_16 : decode bb_Out_goOn 16 = .ok (.arraylength, 1) := by decide +kernel
theorem dd_Out_goOn_17 : decode bb_Out_goOn 17 = .ok (.istore_n 3, 1) := by decide +kernel
theorem dd_Out_goOn_18 : decode bb_Out_goOn 18 = .ok (.iconst 0, 1) := by decide +kernel
theorem dd_Out_goOn_19 : decode bb_Out_goOn 19 = .ok (.istore 4, 2) := by decide +kernel
def ww_Out_goOn : List Cond := .code yy_Out_goOn bb_Out_goOn 10 none :: TB
def rm_Out_goOn : Room := { frames := 4, cells := 0, slots := 0, locals := 97 }
def wp_Out_goOn_48 (o : Nat) (a1 : Int32) (post : fw_S → Prop) (k21 : fw_S → Int32 → Int32 → Prop) : Nat → fw_S → Int32 → Int32 → Nat → Nat → Int32 → Int32 → Prop
  | 0, _, _, _, _, _, _, _ => False
  | f + 1, S, x3, x4, u5, u6, x7, x8 => (((x7 ≤ x8) → ∀ v2 : Int32, v2 = x4 + 1 → k21 S x3 v2) ∧ (¬ (x7 ≤ x8) → vp_in x8 3 ∧ (wp_Point_charge S (u6 + (1 + 31 * x8.toNatClampNeg)) a1 (S.1 o 2) (fun S4 => wp_Point_read S4 (u6 + (1 + 31 * x8.toNatClampNeg)) (S4.1 o 2) (fun S5 => wp_Point_send S5 (u6 + (1 + 31 * x8.toNatClampNeg)) (S5.1 o 2) (fun S6 => ∀ v7 : Int32, v7 = x8 + 1 → wp_Out_goOn_48 o a1 post k21 f S6 x3 x4 u5 u6 x7 v7))))))
def wp_Out_goOn_21 (o : Nat) (a1 : Int32) (post : fw_S → Prop) : Nat → fw_S → Int32 → Int32 → Prop
  | 0, _, _, _ => False
  | f + 1, S, x3, x4 => (((x3 ≤ x4) → post S) ∧ (¬ (x3 ≤ x4) → vp_in x4 2 ∧ (∀ v3 : Int32, v3 = (nI 3) → ∃ f0, wp_Out_goOn_48 o a1 post (fun S x3 x4 => wp_Out_goOn_21 o a1 post f S x3 x4) f0 S x3 x4 ((o + 1) + (18 + 95 * x4.toNatClampNeg)) (((o + 1) + (18 + 95 * x4.toNatClampNeg)) + 1) v3 0)))
def wp_Out_goOn (S : fw_S) (o : Nat) (a1 : Int32) (post : fw_S → Prop) : Prop := ∀ S1 : fw_S, S1 = fw_si S o 2 ((S.1 o 2) + a1) → ∀ v2 : Int32, v2 = (nI 2) → ∃ f0, wp_Out_goOn_21 o a1 post f0 S1 v2 0
set_option maxHeartbeats 4000000 in
set_option maxRecDepth 100000 in
theorem mt_Out_goOn (l : Launch) (D : va_G) (cA : Nat → ClassId) (b : Nat) (S : fw_S) (o : Nat) (a1 : Int32) (ho : o < 245 ∧ layU o = (0, 0)) (post : fw_S → Prop) (hw : wp_Out_goOn S o a1 post) : Met l yy_Out_goOn ww_Out_goOn rm_Out_goOn (fw_Pc D CL cA (TYS cA) TK layU b 245 S [.ref (b + o), .int a1]) (va_Qv post (fw_B D CL cA TK layU b 245) (fw_A b 245)) 0 0 (fw_A b 245) := by
  refine Met.ofW (cc := bb_Out_goOn) (maxL := 10) (ret := none) (by decide) rfl ?_
  intro p e s m args below meth c s₁ B hml hv
  obtain ⟨rfl, hP, hK⟩ := hv
  have hx := B.exec
  have hb := B.bytes
  have hr := B.returns
  have hts := atoms_spec (ws := ww_Out_goOn) B.pre
  have hown : s.vm.findClass "OutletOffice" = some m.cls := findClass_of_methodNamed B.named
  have hlocks := B.notSynchronized
  have hS : va_S (fw_A b 245) s.heap s.heap [] := va_S.rf
  have hl := lv_entry ([.ref (b + o), .int a1]) (n := 10) (Nat.le_of_ble_eq_true rfl)
  rw [lg_entry_eq]
  generalize (lg_sl ([.ref (b + o), .int a1]) ++ List.replicate (10 - (lg_sl ([.ref (b + o), .int a1])).length) Slot.unset).toArray = ls at hl ⊢
  have hl : lv_has ls 10 [(0, .ref (b + o)), (1, .int a1)] := hl
  have B48 : ∀ (k21 : fw_S → Int32 → Int32 → Prop), (∀ (S : fw_S) (x3 : Int32) (x4 : Int32) (H : Heap) (locs : List Loc) (ls : Array Slot), k21 S x3 x4 → fw_P D CL cA layU b 245 (fw_v TK layU b S) H → va_S (fw_A b 245) s.heap H locs → lv_has ls 10 [(0, .ref (b + o)), (1, .int a1), (2, .ref (b + (o + 1))), (3, .int x3), (4, .int x4)] → W p l e (headSpec ww_Out_goOn rm_Out_goOn).room s m ([.ref (b + o), .int a1] : List Value).toArray below meth c H locs 0 0 (MQ below (va_Qv post (fw_B D CL cA TK layU b 245) (fw_A b 245)) ([.ref (b + o), .int a1] : List Value).toArray s 0 0 (fw_A b 245)) (F0 m 21 ls [])) → ∀ f : Nat, ∀ (S : fw_S) (x3 : Int32) (x4 : Int32) (u5 : Nat) (u6 : Nat) (x7 : Int32) (x8 : Int32) (hu5 : u5 < 245 ∧ layU u5 = (1, 0)) (hu6 : u6 < 245 ∧ layU u6 = (104, 3)) (H : Heap) (locs : List Loc) (ls : Array Slot), wp_Out_goOn_48 o a1 post k21 f S x3 x4 u5 u6 x7 x8 → fw_P D CL cA layU b 245 (fw_v TK layU b S) H → va_S (fw_A b 245) s.heap H locs → lv_has ls 10 [(0, .ref (b + o)), (1, .int a1), (2, .ref (b + (o + 1))), (3, .int x3), (4, .int x4), (5, .ref (b + u5)), (6, .ref (b + u6)), (7, .int x7), (8, .int x8)] → W p l e (headSpec ww_Out_goOn rm_Out_goOn).room s m ([.ref (b + o), .int a1] : List Value).toArray below meth c H locs 0 0 (MQ below (va_Qv post (fw_B D CL cA TK layU b 245) (fw_A b 245)) ([.ref (b + o), .int a1] : List Value).toArray s 0 0 (fw_A b 245)) (F0 m 48 ls []) := by
    intro k21 K21 f
    induction f with
    | zero => intro S x3 x4 u5 u6 x7 x8 hu5 hu6 H locs ls hw; exact False.elim hw
    | succ f ih =>
        intro S x3 x4 u5 u6 x7 x8 hu5 hu6 H locs ls hw hP hS hl
        unfold wp_Out_goOn_48 at hw
        refine lv_iload hx hb dd_Out_goOn_48 (lv_at hl 8 rfl) ?_
        refine lv_iload hx hb dd_Out_goOn_50 (lv_at hl 7 rfl) ?_
        refine lv_icmp_ge (tgt := 96) hx hb dd_Out_goOn_52 (by decide) (fun h1 => ?_) (fun h1 => ?_)
        · have hw := hw.1 h1
          obtain ⟨v2, e_v2⟩ : ∃ z : Int32, z = x4 + 1 := ⟨_, rfl⟩
          have hw := hw v2 e_v2
          refine lv_iinc hx hb dd_Out_goOn_96 hl (k := 4) rfl (show x4 + Int32.ofInt 1 = v2 by rw [kc_ii_1, e_v2]) (Nat.le_of_ble_eq_true rfl) rfl (fun ls hl => ?_)
          have hl : lv_has ls 10 [(4, .int v2), (0, .ref (b + o)), (1, .int a1), (2, .ref (b + (o + 1))), (3, .int x3), (5, .ref (b + u5)), (6, .ref (b + u6)), (7, .int x7), (8, .int x8)] := hl
          refine lv_goto (tgt := 21) hx hb dd_Out_goOn_99 (by decide) ?_
          exact K21 S x3 v2 _ _ ls hw hP hS (lv_sub hl [1, 2, 3, 4, 0] rfl)
        · have hw := hw.2 h1
          refine lv_aload hx hb dd_Out_goOn_55 (lv_at hl 6 rfl) ?_
          refine lv_iload hx hb dd_Out_goOn_57 (lv_at hl 8 rfl) ?_
          obtain ⟨h3, hw⟩ := hw
          refine fw_aald hx hb hK hP hu6 (by decide) 4 rfl (tka_104 _) h3 dd_Out_goOn_59 ?_
          refine lv_astore hx hb dd_Out_goOn_60 hl (Nat.le_of_ble_eq_true rfl) rfl (fun ls hl => ?_)
          have hl : lv_has ls 10 [(9, .ref (b + (u6 + (1 + 31 * x8.toNatClampNeg)))), (0, .ref (b + o)), (1, .int a1), (2, .ref (b + (o + 1))), (3, .int x3), (4, .int x4), (5, .ref (b + u5)), (6, .ref (b + u6)), (7, .int x7), (8, .int x8)] := hl
          refine lv_aload hx hb dd_Out_goOn_62 (lv_at hl 0 rfl) ?_
          refine lv_iload_n hx hb dd_Out_goOn_64 rfl (lv_at hl 2 rfl) ?_
          refine lv_aload_n hx hb dd_Out_goOn_65 rfl (lv_at hl 1 rfl) ?_
          refine fw_geti hx hb hts in_0 hown hK hP ho (by decide) rfl 2 (by decide) (hts _ (tb_in tw_303)) tk_0_2 dd_Out_goOn_66 ?_
          refine fw_callv (va_runV (As := [.int a1, .int (S.1 o 2)]) (rest := []) ⟨hx, hb, hml, hown, hts⟩ (mt_Point_charge l D cA b S (u6 + (1 + 31 * x8.toNatClampNeg)) a1 (S.1 o 2) (le_104 hu6 (fw_lt h3)) _ hw) (cwV 2 hts (fw_gV tw_708 tw_705 tw_706 tw_707 tw_7) rfl rfl rfl (by decide +kernel) ⟨Nat.le_of_ble_eq_true rfl, Nat.le_of_ble_eq_true rfl⟩) (fw_preV hP hK (le_104 hu6 (fw_lt h3)) (by decide) rfl) rfl rfl hl.1 rfl (lv_room (Nat.le_of_ble_eq_true rfl)) dd_Out_goOn_69 ⟨Nat.le_of_ble_eq_true rfl, Nat.le_of_ble_eq_true rfl⟩) hS (fun S4 H locs hw hP hS => ?_)
          try dsimp only at hw
          refine lv_aload hx hb dd_Out_goOn_72 (lv_at hl 0 rfl) ?_
          refine lv_aload_n hx hb dd_Out_goOn_74 rfl (lv_at hl 1 rfl) ?_
          refine fw_geti hx hb hts in_0 hown hK hP ho (by decide) rfl 2 (by decide) (hts _ (tb_in tw_303)) tk_0_2 dd_Out_goOn_75 ?_
          refine fw_callv (va_runV (As := [.int (S4.1 o 2)]) (rest := []) ⟨hx, hb, hml, hown, hts⟩ (mt_Point_read l D cA b S4 (u6 + (1 + 31 * x8.toNatClampNeg)) (S4.1 o 2) (le_104 hu6 (fw_lt h3)) _ hw) (cwV 1 hts (fw_gV tw_716 tw_713 tw_714 tw_715 tw_7) rfl rfl rfl (by decide +kernel) ⟨Nat.le_of_ble_eq_true rfl, Nat.le_of_ble_eq_true rfl⟩) (fw_preV hP hK (le_104 hu6 (fw_lt h3)) (by decide) rfl) rfl rfl hl.1 rfl (lv_room (Nat.le_of_ble_eq_true rfl)) dd_Out_goOn_78 ⟨Nat.le_of_ble_eq_true rfl, Nat.le_of_ble_eq_true rfl⟩) hS (fun S5 H locs hw hP hS => ?_)
          try dsimp only at hw
          refine lv_aload hx hb dd_Out_goOn_81 (lv_at hl 0 rfl) ?_
          refine lv_aload_n hx hb dd_Out_goOn_83 rfl (lv_at hl 1 rfl) ?_
          refine fw_geti hx hb hts in_0 hown hK hP ho (by decide) rfl 2 (by decide) (hts _ (tb_in tw_303)) tk_0_2 dd_Out_goOn_84 ?_
          refine fw_callv (va_runV (As := [.int (S5.1 o 2)]) (rest := []) ⟨hx, hb, hml, hown, hts⟩ (mt_Point_send l D cA b S5 (u6 + (1 + 31 * x8.toNatClampNeg)) (S5.1 o 2) (le_104 hu6 (fw_lt h3)) _ hw) (cwV 1 hts (fw_gV tw_720 tw_717 tw_718 tw_719 tw_7) rfl rfl rfl (by decide +kernel) ⟨Nat.le_of_ble_eq_true rfl, Nat.le_of_ble_eq_true rfl⟩) (fw_preV hP hK (le_104 hu6 (fw_lt h3)) (by decide) rfl) rfl rfl hl.1 rfl (lv_room (Nat.le_of_ble_eq_true rfl)) dd_Out_goOn_87 ⟨Nat.le_of_ble_eq_true rfl, Nat.le_of_ble_eq_true rfl⟩) hS (fun S6 H locs hw hP hS => ?_)
          try dsimp only at hw
          obtain ⟨v7, e_v7⟩ : ∃ z : Int32, z = x8 + 1 := ⟨_, rfl⟩
          have hw := hw v7 e_v7
          refine lv_iinc hx hb dd_Out_goOn_90 hl (k := 9) rfl (show x8 + Int32.ofInt 1 = v7 by rw [kc_ii_1, e_v7]) (Nat.le_of_ble_eq_true rfl) rfl (fun ls hl => ?_)
          have hl : lv_has ls 10 [(8, .int v7), (9, .ref (b + (u6 + (1 + 31 * x8.toNatClampNeg)))), (0, .ref (b + o)), (1, .int a1), (2, .ref (b + (o + 1))), (3, .int x3), (4, .int x4), (5, .ref (b + u5)), (6, .ref (b + u6)), (7, .int x7)] := hl
          refine lv_goto (tgt := 48) hx hb dd_Out_goOn_93 (by decide) ?_
          exact ih S6 x3 x4 u5 u6 x7 v7 hu5 hu6 _ _ ls hw hP hS (lv_sub hl [2, 3, 4, 5, 6, 7, 8, 9, 0] rfl)
  have B21 : ∀ f : Nat, ∀ (S : fw_S) (x3 : Int32) (x4 : Int32) (H : Heap) (locs : List Loc) (ls : Array Slot), wp_Out_goOn_21 o a1 post f S x3 x4 → fw_P D CL cA layU b 245 (fw_v TK layU b S) H → va_S (fw_A b 245) s.heap H locs → lv_has ls 10 [(0, .ref (b + o)), (1, .int a1), (2, .ref (b + (o + 1))), (3, .int x3), (4, .int x4)] → W p l e (headSpec ww_Out_goOn rm_Out_goOn).room s m ([.ref (b + o), .int a1] : List Value).toArray below meth c H locs 0 0 (MQ below (va_Qv post (fw_B D CL cA TK layU b 245) (fw_A b 245)) ([.ref (b + o), .int a1] : List Value).toArray s 0 0 (fw_A b 245)) (F0 m 21 ls []) := by
    intro f
    induction f with
    | zero => intro S x3 x4 H locs ls hw; exact False.elim hw
    | succ f ih =>
        intro S x3 x4 H locs ls hw hP hS hl
        unfold wp_Out_goOn_21 at hw
        refine lv_iload hx hb dd_Out_goOn_21 (lv_at hl 4 rfl) ?_
        refine lv_iload_n hx hb dd_Out_goOn_23 rfl (lv_at hl 3 rfl) ?_
        refine lv_icmp_ge (tgt := 102) hx hb dd_Out_goOn_24 (by decide) (fun h1 => ?_) (fun h1 => ?_)
        · have hw := hw.1 h1
          exact W.vret hx hb hr (fun t ht hW => ⟨⟨_, rfl, hw, fw_Bof ht hP⟩, hS.F ht⟩) hS.2.2 dd_Out_goOn_102
        · have hw := hw.2 h1
          refine lv_aload_n hx hb dd_Out_goOn_27 rfl (lv_at hl 2 rfl) ?_
          refine lv_iload hx hb dd_Out_goOn_28 (lv_at hl 4 rfl) ?_
          obtain ⟨h2, hw⟩ := hw
          refine fw_aald hx hb hK hP (lf_0_0 ho) (by decide) 3 rfl (tka_103 _) h2 dd_Out_goOn_30 ?_
          refine lv_astore hx hb dd_Out_goOn_31 hl (Nat.le_of_ble_eq_true rfl) rfl (fun ls hl => ?_)
          have hl : lv_has ls 10 [(5, .ref (b + ((o + 1) + (18 + 95 * x4.toNatClampNeg)))), (0, .ref (b + o)), (1, .int a1), (2, .ref (b + (o + 1))), (3, .int x3), (4, .int x4)] := hl
          refine lv_aload hx hb dd_Out_goOn_33 (lv_at hl 0 rfl) ?_
          refine fw_getr hx hb hts in_1 hown hK hP (le_103 (lf_0_0 ho) (fw_lt h2)) (by decide) rfl 0 (by decide) (hts _ (tb_in tw_293)) tk_1_0 dd_Out_goOn_35 ?_
          refine lv_astore hx hb dd_Out_goOn_38 hl (Nat.le_of_ble_eq_true rfl) rfl (fun ls hl => ?_)
          have hl : lv_has ls 10 [(6, .ref (b + (((o + 1) + (18 + 95 * x4.toNatClampNeg)) + 1))), (5, .ref (b + ((o + 1) + (18 + 95 * x4.toNatClampNeg)))), (0, .ref (b + o)), (1, .int a1), (2, .ref (b + (o + 1))), (3, .int x3), (4, .int x4)] := hl
          refine lv_aload hx hb dd_Out_goOn_40 (lv_at hl 0 rfl) ?_
          refine fw_alen hx hb hK hP (lf_1_0 (le_103 (lf_0_0 ho) (fw_lt h2))) (by decide) 4 rfl dd_Out_goOn_42 ?_
          refine lv_topi (fun v3 e_v3 => ?_)
          have hw := hw v3 e_v3
          refine lv_istore hx hb dd_Out_goOn_43 hl (Nat.le_of_ble_eq_true rfl) rfl (fun ls hl => ?_)
          have hl : lv_has ls 10 [(7, .int v3), (6, .ref (b + (((o + 1) + (18 + 95 * x4.toNatClampNeg)) + 1))), (5, .ref (b + ((o + 1) + (18 + 95 * x4.toNatClampNeg)))), (0, .ref (b + o)), (1, .int a1), (2, .ref (b + (o + 1))), (3, .int x3), (4, .int x4)] := hl
          refine lv_iconst (v := 0) hx hb dd_Out_goOn_45 kc_ic_0 ?_
          refine lv_istore hx hb dd_Out_goOn_46 hl (Nat.le_of_ble_eq_true rfl) rfl (fun ls hl => ?_)
          have hl : lv_has ls 10 [(8, .int 0), (7, .int v3), (6, .ref (b + (((o + 1) + (18 + 95 * x4.toNatClampNeg)) + 1))), (5, .ref (b + ((o + 1) + (18 + 95 * x4.toNatClampNeg)))), (0, .ref (b + o)), (1, .int a1), (2, .ref (b + (o + 1))), (3, .int x3), (4, .int x4)] := hl
          obtain ⟨f0, hw⟩ := hw
          exact B48 _ ih f0 S x3 x4 ((o + 1) + (18 + 95 * x4.toNatClampNeg)) (((o + 1) + (18 + 95 * x4.toNatClampNeg)) + 1) v3 0 (le_103 (lf_0_0 ho) (fw_lt h2)) (lf_1_0 (le_103 (lf_0_0 ho) (fw_lt h2))) _ _ ls hw hP hS (lv_sub hl [4, 5, 6, 7, 8, 3, 2, 1, 0] rfl)
  unfold wp_Out_goOn at hw
  refine lv_aload_n hx hb dd_Out_goOn_0 rfl (lv_at hl 0 rfl) ?_
  refine lv_dup hx hb dd_Out_goOn_1 rfl ?_
  refine fw_geti hx hb hts in_0 hown hK hP ho (by decide) rfl 2 (by decide) (hts _ (tb_in tw_303)) tk_0_2 dd_Out_goOn_2 ?_
  refine lv_iload_n hx hb dd_Out_goOn_5 rfl (lv_at hl 1 rfl) ?_
  refine lv_iadd hx hb dd_Out_goOn_6 ?_
  refine fw_puti hx hb hts in_0 F_ty_0 F_tyok_0 F_nm_0 hown hK hP hS (fw_A.in ho.1) ho (by decide) rfl 2 (by decide) (hts _ (tb_in tw_303)) rfl tk_0_2 (ty := .int) (by decide +kernel) rfl rfl dd_Out_goOn_7 (fun H locs hP hS => ?_)
  obtain ⟨S1, e_S1⟩ : ∃ z, z = fw_si S o 2 ((S.1 o 2) + a1) := ⟨_, rfl⟩
  rw [← e_S1] at hP
  have hw := hw S1 e_S1
  refine lv_aload_n hx hb dd_Out_goOn_10 rfl (lv_at hl 0 rfl) ?_
  refine fw_getr hx hb hts in_0 hown hK hP ho (by decide) rfl 0 (by decide) (hts _ (tb_in tw_301)) tk_0_0 dd_Out_goOn_11 ?_
  refine lv_astore_n hx hb dd_Out_goOn_14 rfl hl (Nat.le_of_ble_eq_true rfl) rfl (fun ls hl => ?_)
  have hl : lv_has ls 10 [(2, .ref (b + (o + 1))), (0, .ref (b + o)), (1, .int a1)] := hl
  refine lv_aload_n hx hb dd_Out_goOn_15 rfl (lv_at hl 0 rfl) ?_
  refine fw_alen hx hb hK hP (lf_0_0 ho) (by decide) 3 rfl dd_Out_goOn_16 ?_
  refine lv_topi (fun v2 e_v2 => ?_)
  have hw := hw v2 e_v2
  refine lv_istore_n hx hb dd_Out_goOn_17 rfl hl (Nat.le_of_ble_eq_true rfl) rfl (fun ls hl => ?_)
  have hl : lv_has ls 10 [(3, .int v2), (2, .ref (b + (o + 1))), (0, .ref (b + o)), (1, .int a1)] := hl
  refine lv_iconst (v := 0) hx hb dd_Out_goOn_18 kc_ic_0 ?_
  refine lv_istore hx hb dd_Out_goOn_19 hl (Nat.le_of_ble_eq_true rfl) rfl (fun ls hl => ?_)
  have hl : lv_has ls 10 [(4, .int 0), (3, .int v2), (2, .ref (b + (o + 1))), (0, .ref (b + o)), (1, .int a1)] := hl
  obtain ⟨f0, hw⟩ := hw
  exact B21 f0 S1 v2 0 _ _ ls hw hP hS (lv_sub hl [3, 4, 2, 1, 0] rfl)
theorem dd_M_thrown_0 : decode bb_M_thrown 0 = .ok (.aload_n 0, 1) := by decide +kernel
theorem dd_M_thrown_1 : decode bb_M_thrown 1 = .ok (.getfield 114, 3) := by decide +kernel
theorem dd_M_thrown_4 : decode bb_M_thrown 4 = .ok (.ireturn, 1) := by decide +kernel
def ww_M_thrown : List Cond := .code yy_M_thrown bb_M_thrown 1 (some .int) :: TB
def rm_M_thrown : Room := { frames := 0, cells := 0, slots := 0, locals := 0 }
def wp_M_thrown (S : fw_S) (o : Nat) (post : fw_S → Int32 → Prop) : Prop := post S (S.1 o 0)
set_option maxHeartbeats 4000000 in
set_option maxRecDepth 100000 in
theorem mt_M_thrown (l : Launch) (D : va_G) (cA : Nat → ClassId) (b : Nat) (S : fw_S) (o : Nat) (ho : o < 245 ∧ layU o = (10, 0)) (post : fw_S → Int32 → Prop) (hw : wp_M_thrown S o post) : Met l yy_M_thrown ww_M_thrown rm_M_thrown (fw_Pc D CL cA (TYS cA) TK layU b 245 S [.ref (b + o)]) (va_Qi (fun r S' => post S' r) (fw_B D CL cA TK layU b 245) (fw_A b 245)) 0 0 (fw_A b 245) := by
  refine Met.ofW (cc := bb_M_thrown) (maxL := 1) (ret := (some .int)) (by decide) rfl ?_
  intro p e s m args below meth c s₁ B hml hv
  obtain ⟨rfl, hP, hK⟩ := hv
  have hx := B.exec
  have hb := B.bytes
  have hr := B.returns
  have hts := atoms_spec (ws := ww_M_thrown) B.pre
  have hown : s.vm.findClass "OutletOfficeModel" = some m.cls := findClass_of_methodNamed B.named
  have hlocks := B.notSynchronized
  have hS : va_S (fw_A b 245) s.heap s.heap [] := va_S.rf
  have hl := lv_entry ([.ref (b + o)]) (n := 1) (Nat.le_of_ble_eq_true rfl)
  rw [lg_entry_eq]
  generalize (lg_sl ([.ref (b + o)]) ++ List.replicate (1 - (lg_sl ([.ref (b + o)])).length) Slot.unset).toArray = ls at hl ⊢
  have hl : lv_has ls 1 [(0, .ref (b + o))] := hl
  unfold wp_M_thrown at hw
  refine lv_aload_n hx hb dd_M_thrown_0 rfl (lv_at hl 0 rfl) ?_
  refine fw_geti hx hb hts in_10 hown hK hP ho (by decide) rfl 0 (by decide) (hts _ (tb_in tw_781)) tk_10_0 dd_M_thrown_1 ?_
  exact W.iret (v := S.1 o 0) hx hb hr (fun t ht hW => ⟨⟨_, _, rfl, hw, fw_Bof ht hP⟩, hS.F ht⟩) hS.2.2 dd_M_thrown_4
theorem dd_M_isIn_14 : decode bb_M_isIn 14 = .ok (.iconst 0, 1) := by decide +kernel
theorem dd_M_isIn_15 : decode bb_M_isIn 15 = .ok (.ireturn, 1) := by decide +kernel
theorem dd_M_isIn_0 : decode bb_M_isIn 0 = .ok (.iload_n 0, 1) := by decide +kernel
theorem dd_M_isIn_1 : decode bb_M_isIn 1 = .ok (.iload_n 1, 1) := by decide +kernel
theorem dd_M_isIn_2 : decode bb_M_isIn 2 = .ok (.if_icmp .lt 12, 3) := by decide +kernel
theorem dd_M_isIn_5 : decode bb_M_isIn 5 = .ok (.iload_n 0, 1) := by decide +kernel
theorem dd_M_isIn_6 : decode bb_M_isIn 6 = .ok (.iload_n 2, 1) := by decide +kernel
theorem dd_M_isIn_7 : decode bb_M_isIn 7 = .ok (.if_icmp .gt 7, 3) := by decide +kernel
theorem dd_M_isIn_10 : decode bb_M_isIn 10 = .ok (.iconst 1, 1) := by decide +kernel
theorem dd_M_isIn_11 : decode bb_M_isIn 11 = .ok (.goto 4, 3) := by decide +kernel
def ww_M_isIn : List Cond := .code yy_M_isIn bb_M_isIn 3 (some .boolean) :: TB
def rm_M_isIn : Room := { frames := 0, cells := 0, slots := 0, locals := 0 }
def wp_M_isIn_15 (a1 : Int32) (a2 : Int32) (a3 : Int32) (post : fw_S → Int32 → Prop) (S : fw_S) (p0 : Int32) : Prop := fw_bz p0 ∧ (post S p0)
def wp_M_isIn_14 (a1 : Int32) (a2 : Int32) (a3 : Int32) (post : fw_S → Int32 → Prop) (S : fw_S) : Prop := wp_M_isIn_15 a1 a2 a3 post S 0
def wp_M_isIn (S : fw_S) (a1 : Int32) (a2 : Int32) (a3 : Int32) (post : fw_S → Int32 → Prop) : Prop := (((a1 < a2) → wp_M_isIn_14 a1 a2 a3 post S) ∧ (¬ (a1 < a2) → (((a3 < a1) → wp_M_isIn_14 a1 a2 a3 post S) ∧ (¬ (a3 < a1) → wp_M_isIn_15 a1 a2 a3 post S 1))))
set_option maxHeartbeats 4000000 in
set_option maxRecDepth 100000 in
theorem mt_M_isIn (l : Launch) (D : va_G) (cA : Nat → ClassId) (b : Nat) (S : fw_S) (a1 : Int32) (a2 : Int32) (a3 : Int32) (post : fw_S → Int32 → Prop) (hw : wp_M_isIn S a1 a2 a3 post) : Met l yy_M_isIn ww_M_isIn rm_M_isIn (fw_Pc D CL cA (TYS cA) TK layU b 245 S [.int a1, .int a2, .int a3]) (va_Qi (fun r S' => post S' r) (fw_B D CL cA TK layU b 245) (fw_A b 245)) 0 0 (fw_A b 245) := by
  refine Met.ofW (cc := bb_M_isIn) (maxL := 3) (ret := (some .boolean)) (by decide) rfl ?_
  intro p e s m args below meth c s₁ B hml hv
  obtain ⟨rfl, hP, hK⟩ := hv
  have hx := B.exec
  have hb := B.bytes
  have hr := B.returns
  have hts := atoms_spec (ws := ww_M_isIn) B.pre
  have hown : s.vm.findClass "OutletOfficeModel" = some m.cls := findClass_of_methodNamed B.named
  have hlocks := B.notSynchronized
  have hS : va_S (fw_A b 245) s.heap s.heap [] := va_S.rf
  have hl := lv_entry ([.int a1, .int a2, .int a3]) (n := 3) (Nat.le_of_ble_eq_true rfl)
  rw [lg_entry_eq]
  generalize (lg_sl ([.int a1, .int a2, .int a3]) ++ List.replicate (3 - (lg_sl ([.int a1, .int a2, .int a3])).length) Slot.unset).toArray = ls at hl ⊢
  have hl : lv_has ls 3 [(0, .int a1), (1, .int a2), (2, .int a3)] := hl
  have B15 : ∀ (S : fw_S) (p0 : Int32) (ls : Array Slot), wp_M_isIn_15 a1 a2 a3 post S p0 → fw_P D CL cA layU b 245 (fw_v TK layU b S) s.heap → va_S (fw_A b 245) s.heap s.heap [] → lv_has ls 3 [(0, .int a1), (1, .int a2), (2, .int a3)] → W p l e (headSpec ww_M_isIn rm_M_isIn).room s m ([.int a1, .int a2, .int a3] : List Value).toArray below meth c s.heap [] 0 0 (MQ below (va_Qi (fun r S' => post S' r) (fw_B D CL cA TK layU b 245) (fw_A b 245)) ([.int a1, .int a2, .int a3] : List Value).toArray s 0 0 (fw_A b 245)) (F0 m 15 ls [.int p0]) := by
      intro S p0 ls hw hP hS hl
      unfold wp_M_isIn_15 at hw
      obtain ⟨h1, hw⟩ := hw
      exact W.zret (v := p0) hx hb hr (fw_bz.n h1) (fun t ht hW => ⟨⟨_, _, rfl, hw, fw_Bof ht hP⟩, hS.F ht⟩) hS.2.2 dd_M_isIn_15
  have B14 : ∀ (S : fw_S) (ls : Array Slot), wp_M_isIn_14 a1 a2 a3 post S → fw_P D CL cA layU b 245 (fw_v TK layU b S) s.heap → va_S (fw_A b 245) s.heap s.heap [] → lv_has ls 3 [(0, .int a1), (1, .int a2), (2, .int a3)] → W p l e (headSpec ww_M_isIn rm_M_isIn).room s m ([.int a1, .int a2, .int a3] : List Value).toArray below meth c s.heap [] 0 0 (MQ below (va_Qi (fun r S' => post S' r) (fw_B D CL cA TK layU b 245) (fw_A b 245)) ([.int a1, .int a2, .int a3] : List Value).toArray s 0 0 (fw_A b 245)) (F0 m 14 ls []) := by
      intro S ls hw hP hS hl
      unfold wp_M_isIn_14 at hw
      refine lv_iconst (v := 0) hx hb dd_M_isIn_14 kc_ic_0 ?_
      exact B15 S 0 ls hw hP hS (lv_sub hl [0, 1, 2] rfl)
  unfold wp_M_isIn at hw
  refine lv_iload_n hx hb dd_M_isIn_0 rfl (lv_at hl 0 rfl) ?_
  refine lv_iload_n hx hb dd_M_isIn_1 rfl (lv_at hl 1 rfl) ?_
  refine lv_icmp_lt (tgt := 14) hx hb dd_M_isIn_2 (by decide) (fun h1 => ?_) (fun h1 => ?_)
  · have hw := hw.1 h1
    exact B14 S ls hw hP hS (lv_sub hl [0, 1, 2] rfl)
  · have hw := hw.2 h1
    refine lv_iload_n hx hb dd_M_isIn_5 rfl (lv_at hl 0 rfl) ?_
    refine lv_iload_n hx hb dd_M_isIn_6 rfl (lv_at hl 2 rfl) ?_
    refine lv_icmp_gt (tgt := 14) hx hb dd_M_isIn_7 (by decide) (fun h2 => ?_) (fun h2 => ?_)
    · have hw := hw.1 h2
      exact B14 S ls hw hP hS (lv_sub hl [0, 1, 2] rfl)
    · have hw := hw.2 h2
      refine lv_iconst (v := 1) hx hb dd_M_isIn_10 kc_ic_1 ?_
      refine lv_goto (tgt := 15) hx hb dd_M_isIn_11 (by decide) ?_
      exact B15 S 1 ls hw hP hS (lv_sub hl [0, 1, 2] rfl)
theorem dd_M_noPoint_15 : decode bb_M_noPoint 15 = .ok (.putfield 114, 3) := by decide +kernel
theorem dd_M_noPoint_18 : decode bb_M_noPoint 18 = .ok (.aload_n 0, 1) := by decide +kernel
theorem dd_M_noPoint_19 : decode bb_M_noPoint 19 = .ok (.iconst 0, 1) := by decide +kernel
theorem dd_M_noPoint_20 : decode bb_M_noPoint 20 = .ok (.putfield 122, 3) := by decide +kernel
theorem dd_M_noPoint_23 : decode bb_M_noPoint 23 = .ok (.aload_n 0, 1) := by decide +kernel
theorem dd_M_noPoint_24 : decode bb_M_noPoint 24 = .ok (.getfield 114, 3) := by decide +kernel
theorem dd_M_noPoint_27 : decode bb_M_noPoint 27 = .ok (.ifCond .le 7, 3) := by decide +kernel
theorem dd_M_noPoint_34 : decode bb_M_noPoint 34 = .ok (.iconst 0, 1) := by decide +kernel
theorem dd_M_noPoint_30 : decode bb_M_noPoint 30 = .ok (.iconst 1, 1) := by decide +kernel
theorem dd_M_noPoint_31 : decode bb_M_noPoint 31 = .ok (.goto 4, 3) := by decide +kernel
theorem dd_M_noPoint_35 : decode bb_M_noPoint 35 = .ok (.ireturn, 1) := by decide +kernel
theorem dd_M_noPoint_0 : decode bb_M_noPoint 0 = .ok (.aload_n 0, 1) := by decide +kernel
theorem dd_M_noPoint_1 : decode bb_M_noPoint 1 = .ok (.iload_n 1, 1) := by decide +kernel
theorem dd_M_noPoint_2 : decode bb_M_noPoint 2 = .ok (.iconst 0, 1) := by decide +kernel
theorem dd_M_noPoint_3 : decode bb_M_noPoint 3 = .ok (.iconst 5, 1) := by decide +kernel
theorem dd_M_noPoint_4 : decode bb_M_noPoint 4 = .ok (.invokestatic 118, 3) := by decide +kernel
theorem dd_M_noPoint_7 : decode bb_M_noPoint 7 = .ok (.ifCond .eq 7, 3) := by decide +kernel
theorem dd_M_noPoint_14 : decode bb_M_noPoint 14 = .ok (.iconst 1, 1) := by decide +kernel
theorem dd_M_noPoint_10 : decode bb_M_noPoint 10 = .ok (.iconst 0, 1) := by decide +kernel
theorem dd_M_noPoint_11 : decode bb_M_noPoint 11 = .ok (.goto 4, 3) := by decide +kernel
def ww_M_noPoint : List Cond := .code yy_M_noPoint bb_M_noPoint 2 (some .boolean) :: TB
def rm_M_noPoint : Room := { frames := 1, cells := 0, slots := 0, locals := 22 }
def wp_M_noPoint_35 (o : Nat) (a1 : Int32) (post : fw_S → Int32 → Prop) (S : fw_S) (p0 : Int32) : Prop := fw_bz p0 ∧ (post S p0)
def wp_M_noPoint_15 (o : Nat) (a1 : Int32) (post : fw_S → Int32 → Prop) (S : fw_S) (p0 : Int32) : Prop := ∀ S1 : fw_S, S1 = fw_si S o 0 p0 → ∀ S2 : fw_S, S2 = fw_si S1 o 39 0 → ((((S2.1 o 0) ≤ 0) → wp_M_noPoint_35 o a1 post S2 0) ∧ (¬ ((S2.1 o 0) ≤ 0) → wp_M_noPoint_35 o a1 post S2 1))
def wp_M_noPoint (S : fw_S) (o : Nat) (a1 : Int32) (post : fw_S → Int32 → Prop) : Prop := wp_M_isIn S a1 0 5 (fun S1 r2 => (((r2 = 0) → wp_M_noPoint_15 o a1 post S1 1) ∧ (¬ (r2 = 0) → wp_M_noPoint_15 o a1 post S1 0)))
set_option maxHeartbeats 4000000 in
set_option maxRecDepth 100000 in
theorem mt_M_noPoint (l : Launch) (D : va_G) (cA : Nat → ClassId) (b : Nat) (S : fw_S) (o : Nat) (a1 : Int32) (ho : o < 245 ∧ layU o = (10, 0)) (post : fw_S → Int32 → Prop) (hw : wp_M_noPoint S o a1 post) : Met l yy_M_noPoint ww_M_noPoint rm_M_noPoint (fw_Pc D CL cA (TYS cA) TK layU b 245 S [.ref (b + o), .int a1]) (va_Qi (fun r S' => post S' r) (fw_B D CL cA TK layU b 245) (fw_A b 245)) 0 0 (fw_A b 245) := by
  refine Met.ofW (cc := bb_M_noPoint) (maxL := 2) (ret := (some .boolean)) (by decide) rfl ?_
  intro p e s m args below meth c s₁ B hml hv
  obtain ⟨rfl, hP, hK⟩ := hv
  have hx := B.exec
  have hb := B.bytes
  have hr := B.returns
  have hts := atoms_spec (ws := ww_M_noPoint) B.pre
  have hown : s.vm.findClass "OutletOfficeModel" = some m.cls := findClass_of_methodNamed B.named
  have hlocks := B.notSynchronized
  have hS : va_S (fw_A b 245) s.heap s.heap [] := va_S.rf
  have hl := lv_entry ([.ref (b + o), .int a1]) (n := 2) (Nat.le_of_ble_eq_true rfl)
  rw [lg_entry_eq]
  generalize (lg_sl ([.ref (b + o), .int a1]) ++ List.replicate (2 - (lg_sl ([.ref (b + o), .int a1])).length) Slot.unset).toArray = ls at hl ⊢
  have hl : lv_has ls 2 [(0, .ref (b + o)), (1, .int a1)] := hl
  have B35 : ∀ (S : fw_S) (p0 : Int32) (H : Heap) (locs : List Loc) (ls : Array Slot), wp_M_noPoint_35 o a1 post S p0 → fw_P D CL cA layU b 245 (fw_v TK layU b S) H → va_S (fw_A b 245) s.heap H locs → lv_has ls 2 [(0, .ref (b + o)), (1, .int a1)] → W p l e (headSpec ww_M_noPoint rm_M_noPoint).room s m ([.ref (b + o), .int a1] : List Value).toArray below meth c H locs 0 0 (MQ below (va_Qi (fun r S' => post S' r) (fw_B D CL cA TK layU b 245) (fw_A b 245)) ([.ref (b + o), .int a1] : List Value).toArray s 0 0 (fw_A b 245)) (F0 m 35 ls [.int p0]) := by
      intro S p0 H locs ls hw hP hS hl
      unfold wp_M_noPoint_35 at hw
      obtain ⟨h1, hw⟩ := hw
      exact W.zret (v := p0) hx hb hr (fw_bz.n h1) (fun t ht hW => ⟨⟨_, _, rfl, hw, fw_Bof ht hP⟩, hS.F ht⟩) hS.2.2 dd_M_noPoint_35
  have B15 : ∀ (S : fw_S) (p0 : Int32) (H : Heap) (locs : List Loc) (ls : Array Slot), wp_M_noPoint_15 o a1 post S p0 → fw_P D CL cA layU b 245 (fw_v TK layU b S) H → va_S (fw_A b 245) s.heap H locs → lv_has ls 2 [(0, .ref (b + o)), (1, .int a1)] → W p l e (headSpec ww_M_noPoint rm_M_noPoint).room s m ([.ref (b + o), .int a1] : List Value).toArray below meth c H locs 0 0 (MQ below (va_Qi (fun r S' => post S' r) (fw_B D CL cA TK layU b 245) (fw_A b 245)) ([.ref (b + o), .int a1] : List Value).toArray s 0 0 (fw_A b 245)) (F0 m 15 ls [.int p0, .ref (b + o)]) := by
      intro S p0 H locs ls hw hP hS hl
      unfold wp_M_noPoint_15 at hw
      refine fw_puti hx hb hts in_10 F_ty_10 F_tyok_10 F_nm_10 hown hK hP hS (fw_A.in ho.1) ho (by decide) rfl 0 (by decide) (hts _ (tb_in tw_781)) rfl tk_10_0 (ty := .int) (by decide +kernel) rfl rfl dd_M_noPoint_15 (fun H locs hP hS => ?_)
      obtain ⟨S1, e_S1⟩ : ∃ z, z = fw_si S o 0 p0 := ⟨_, rfl⟩
      rw [← e_S1] at hP
      have hw := hw S1 e_S1
      refine lv_aload_n hx hb dd_M_noPoint_18 rfl (lv_at hl 0 rfl) ?_
      refine lv_iconst (v := 0) hx hb dd_M_noPoint_19 kc_ic_0 ?_
      refine fw_puti hx hb hts in_10 F_ty_10 F_tyok_10 F_nm_10 hown hK hP hS (fw_A.in ho.1) ho (by decide) rfl 39 (by decide) (hts _ (tb_in tw_820)) rfl tk_10_39 (ty := .boolean) (by decide +kernel) rfl rfl dd_M_noPoint_20 (fun H locs hP hS => ?_)
      obtain ⟨S2, e_S2⟩ : ∃ z, z = fw_si S1 o 39 0 := ⟨_, rfl⟩
      rw [← e_S2] at hP
      have hw := hw S2 e_S2
      refine lv_aload_n hx hb dd_M_noPoint_23 rfl (lv_at hl 0 rfl) ?_
      refine fw_geti hx hb hts in_10 hown hK hP ho (by decide) rfl 0 (by decide) (hts _ (tb_in tw_781)) tk_10_0 dd_M_noPoint_24 ?_
      refine lv_if_le (tgt := 34) hx hb dd_M_noPoint_27 (by decide) (fun h3 => ?_) (fun h3 => ?_)
      · have hw := hw.1 h3
        refine lv_iconst (v := 0) hx hb dd_M_noPoint_34 kc_ic_0 ?_
        exact B35 S2 0 _ _ ls hw hP hS (lv_sub hl [0, 1] rfl)
      · have hw := hw.2 h3
        refine lv_iconst (v := 1) hx hb dd_M_noPoint_30 kc_ic_1 ?_
        refine lv_goto (tgt := 35) hx hb dd_M_noPoint_31 (by decide) ?_
        exact B35 S2 1 _ _ ls hw hP hS (lv_sub hl [0, 1] rfl)
  unfold wp_M_noPoint at hw
  refine lv_aload_n hx hb dd_M_noPoint_0 rfl (lv_at hl 0 rfl) ?_
  refine lv_iload_n hx hb dd_M_noPoint_1 rfl (lv_at hl 1 rfl) ?_
  refine lv_iconst (v := 0) hx hb dd_M_noPoint_2 kc_ic_0 ?_
  refine lv_iconst (v := 5) hx hb dd_M_noPoint_3 kc_ic_5 ?_
  refine fw_calli (va_runS (As := [.int a1, .int 0, .int 5]) (rest := [.ref (b + o)]) ⟨hx, hb, hml, hown, hts⟩ (mt_M_isIn l D cA b S a1 0 5 _ hw) (cwS 3 hts (fw_gS tw_913 tw_911 tw_912 tw_11) rfl rfl rfl (by decide +kernel) ⟨Nat.le_of_ble_eq_true rfl, Nat.le_of_ble_eq_true rfl⟩) (fw_preS hP hK) rfl rfl hl.1 rfl (lv_room (Nat.le_of_ble_eq_true rfl)) dd_M_noPoint_4 ⟨Nat.le_of_ble_eq_true rfl, Nat.le_of_ble_eq_true rfl⟩) hS (fun S1 r2 H locs hw hP hS => ?_)
  try dsimp only at hw
  refine lv_if_eq (tgt := 14) hx hb dd_M_noPoint_7 (by decide) (fun h3 => ?_) (fun h3 => ?_)
  · have hw := hw.1 h3
    refine lv_iconst (v := 1) hx hb dd_M_noPoint_14 kc_ic_1 ?_
    exact B15 S1 1 _ _ ls hw hP hS (lv_sub hl [0, 1] rfl)
  · have hw := hw.2 h3
    refine lv_iconst (v := 0) hx hb dd_M_noPoint_10 kc_ic_0 ?_
    refine lv_goto (tgt := 15) hx hb dd_M_noPoint_11 (by decide) ?_
    exact B15 S1 0 _ _ ls hw hP hS (lv_sub hl [0, 1] rfl)
theorem dd_M_limit_30 : decode bb_M_limit 30 = .ok (.putfield 114, 3) := by decide +kernel
theorem dd_M_limit_33 : decode bb_M_limit 33 = .ok (.aload_n 0, 1) := by decide +kernel
theorem dd_M_limit_34 : decode bb_M_limit 34 = .ok (.getfield 114, 3) := by decide +kernel
theorem dd_M_limit_37 : decode bb_M_limit 37 = .ok (.ifCond .ne 15, 3) := by decide +kernel
theorem dd_M_limit_40 : decode bb_M_limit 40 = .ok (.aload_n 0, 1) := by decide +kernel
theorem dd_M_limit_41 : decode bb_M_limit 41 = .ok (.getfield 7, 3) := by decide +kernel
theorem dd_M_limit_44 : decode bb_M_limit 44 = .ok (.iload_n 1, 1) := by decide +kernel
theorem dd_M_limit_45 : decode bb_M_limit 45 = .ok (.iload_n 2, 1) := by decide +kernel
theorem dd_M_limit_46 : decode bb_M_limit 46 = .ok (.iastore, 1) := by decide +kernel
theorem dd_M_limit_47 : decode bb_M_limit 47 = .ok (.aload_n 0, 1) := by decide +kernel
theorem dd_M_limit_48 : decode bb_M_limit 48 = .ok (.iconst 0, 1) := by decide +kernel
theorem dd_M_limit_49 : decode bb_M_limit 49 = .ok (.putfield 122, 3) := by decide +kernel
theorem dd_M_limit_52 : decode bb_M_limit 52 = .ok (.return_, 1) := by decide +kernel
theorem dd_M_limit_0 : decode bb_M_limit 0 = .ok (.aload_n 0, 1) := by decide +kernel
theorem dd_M_limit_1 : decode bb_M_limit 1 = .ok (.iload_n 1, 1) := by decide +kernel
theorem dd_M_limit_2 : decode bb_M_limit 2 = .ok (.iconst 0, 1) := by decide +kernel
theorem dd_M_limit_3 : decode bb_M_limit 3 = .ok (.iconst 1, 1) := by decide +kernel
theorem dd_M_limit_4 : decode bb_M_limit 4 = .ok (.invokestatic 118, 3) := by decide +kernel
theorem dd_M_limit_7 : decode bb_M_limit 7 = .ok (.ifCond .ne 7, 3) := by decide +kernel
theorem dd_M_limit_14 : decode bb_M_limit 14 = .ok (.iload_n 2, 1) := by decide +kernel
theorem dd_M_limit_15 : decode bb_M_limit 15 = .ok (.iconst 0, 1) := by decide +kernel
theorem dd_M_limit_16 : decode bb_M_limit 16 = .ok (.sipush 2000, 3) := by decide +kernel
theorem dd_M_limit_19 : decode bb_M_limit 19 = .ok (.invokestatic 118, 3) := by decide +kernel
theorem dd_M_limit_22 : decode bb_M_limit 22 = .ok (.ifCond .eq 7, 3) := by decide +kernel
theorem dd_M_limit_29 : decode bb_M_limit 29 = .ok (.iconst 2, 1) := by decide +kernel
theorem dd_M_limit_25 : decode bb_M_limit 25 = .ok (.iconst 0, 1) := by decide +kernel
theorem dd_M_limit_26 : decode bb_M_limit 26 = .ok (.goto 4, 3) := by decide +kernel
theorem dd_M_limit_10 : decode bb_M_limit 10 = .ok (.iconst 1, 1) := by decide +kernel
theorem dd_M_limit_11 : decode bb_M_limit 11 = .ok (.goto 19, 3) := by decide +kernel
def ww_M_limit : List Cond := .code yy_M_limit bb_M_limit 3 none :: TB
def rm_M_limit : Room := { frames := 1, cells := 0, slots := 0, locals := 22 }
def wp_M_limit_52 (o : Nat) (a1 : Int32) (a2 : Int32) (post : fw_S → Prop) (S : fw_S) : Prop := post S
def wp_M_limit_30 (o : Nat) (a1 : Int32) (a2 : Int32) (post : fw_S → Prop) (S : fw_S) (p0 : Int32) : Prop := ∀ S1 : fw_S, S1 = fw_si S o 0 p0 → ((¬ ((S1.1 o 0) = 0) → wp_M_limit_52 o a1 a2 post S1) ∧ (((S1.1 o 0) = 0) → vp_in a1 2 ∧ (∀ S4 : fw_S, S4 = fw_si S1 (o + 1) a1.toNatClampNeg a2 → ∀ S5 : fw_S, S5 = fw_si S4 o 39 0 → wp_M_limit_52 o a1 a2 post S5)))
def wp_M_limit (S : fw_S) (o : Nat) (a1 : Int32) (a2 : Int32) (post : fw_S → Prop) : Prop := wp_M_isIn S a1 0 1 (fun S1 r2 => ((¬ (r2 = 0) → wp_M_isIn S1 a2 0 2000 (fun S4 r5 => (((r5 = 0) → wp_M_limit_30 o a1 a2 post S4 2) ∧ (¬ (r5 = 0) → wp_M_limit_30 o a1 a2 post S4 0)))) ∧ ((r2 = 0) → wp_M_limit_30 o a1 a2 post S1 1)))
set_option maxHeartbeats 4000000 in
set_option maxRecDepth 100000 in
theorem mt_M_limit (l : Launch) (D : va_G) (cA : Nat → ClassId) (b : Nat) (S : fw_S) (o : Nat) (a1 : Int32) (a2 : Int32) (ho : o < 245 ∧ layU o = (10, 0)) (post : fw_S → Prop) (hw : wp_M_limit S o a1 a2 post) : Met l yy_M_limit ww_M_limit rm_M_limit (fw_Pc D CL cA (TYS cA) TK layU b 245 S [.ref (b + o), .int a1, .int a2]) (va_Qv post (fw_B D CL cA TK layU b 245) (fw_A b 245)) 0 0 (fw_A b 245) := by
  refine Met.ofW (cc := bb_M_limit) (maxL := 3) (ret := none) (by decide) rfl ?_
  intro p e s m args below meth c s₁ B hml hv
  obtain ⟨rfl, hP, hK⟩ := hv
  have hx := B.exec
  have hb := B.bytes
  have hr := B.returns
  have hts := atoms_spec (ws := ww_M_limit) B.pre
  have hown : s.vm.findClass "OutletOfficeModel" = some m.cls := findClass_of_methodNamed B.named
  have hlocks := B.notSynchronized
  have hS : va_S (fw_A b 245) s.heap s.heap [] := va_S.rf
  have hl := lv_entry ([.ref (b + o), .int a1, .int a2]) (n := 3) (Nat.le_of_ble_eq_true rfl)
  rw [lg_entry_eq]
  generalize (lg_sl ([.ref (b + o), .int a1, .int a2]) ++ List.replicate (3 - (lg_sl ([.ref (b + o), .int a1, .int a2])).length) Slot.unset).toArray = ls at hl ⊢
  have hl : lv_has ls 3 [(0, .ref (b + o)), (1, .int a1), (2, .int a2)] := hl
  have B52 : ∀ (S : fw_S) (H : Heap) (locs : List Loc) (ls : Array Slot), wp_M_limit_52 o a1 a2 post S → fw_P D CL cA layU b 245 (fw_v TK layU b S) H → va_S (fw_A b 245) s.heap H locs → lv_has ls 3 [(0, .ref (b + o)), (1, .int a1), (2, .int a2)] → W p l e (headSpec ww_M_limit rm_M_limit).room s m ([.ref (b + o), .int a1, .int a2] : List Value).toArray below meth c H locs 0 0 (MQ below (va_Qv post (fw_B D CL cA TK layU b 245) (fw_A b 245)) ([.ref (b + o), .int a1, .int a2] : List Value).toArray s 0 0 (fw_A b 245)) (F0 m 52 ls []) := by
      intro S H locs ls hw hP hS hl
      unfold wp_M_limit_52 at hw
      exact W.vret hx hb hr (fun t ht hW => ⟨⟨_, rfl, hw, fw_Bof ht hP⟩, hS.F ht⟩) hS.2.2 dd_M_limit_52
  have B30 : ∀ (S : fw_S) (p0 : Int32) (H : Heap) (locs : List Loc) (ls : Array Slot), wp_M_limit_30 o a1 a2 post S p0 → fw_P D CL cA layU b 245 (fw_v TK layU b S) H → va_S (fw_A b 245) s.heap H locs → lv_has ls 3 [(0, .ref (b + o)), (1, .int a1), (2, .int a2)] → W p l e (headSpec ww_M_limit rm_M_limit).room s m ([.ref (b + o), .int a1, .int a2] : List Value).toArray below meth c H locs 0 0 (MQ below (va_Qv post (fw_B D CL cA TK layU b 245) (fw_A b 245)) ([.ref (b + o), .int a1, .int a2] : List Value).toArray s 0 0 (fw_A b 245)) (F0 m 30 ls [.int p0, .ref (b + o)]) := by
      intro S p0 H locs ls hw hP hS hl
      unfold wp_M_limit_30 at hw
      refine fw_puti hx hb hts in_10 F_ty_10 F_tyok_10 F_nm_10 hown hK hP hS (fw_A.in ho.1) ho (by decide) rfl 0 (by decide) (hts _ (tb_in tw_781)) rfl tk_10_0 (ty := .int) (by decide +kernel) rfl rfl dd_M_limit_30 (fun H locs hP hS => ?_)
      obtain ⟨S1, e_S1⟩ : ∃ z, z = fw_si S o 0 p0 := ⟨_, rfl⟩
      rw [← e_S1] at hP
      have hw := hw S1 e_S1
      refine lv_aload_n hx hb dd_M_limit_33 rfl (lv_at hl 0 rfl) ?_
      refine fw_geti hx hb hts in_10 hown hK hP ho (by decide) rfl 0 (by decide) (hts _ (tb_in tw_781)) tk_10_0 dd_M_limit_34 ?_
      refine lv_if_ne (tgt := 52) hx hb dd_M_limit_37 (by decide) (fun h2 => ?_) (fun h2 => ?_)
      · have hw := hw.1 h2
        exact B52 S1 _ _ ls hw hP hS (lv_sub hl [0, 1, 2] rfl)
      · have hw := hw.2 h2
        refine lv_aload_n hx hb dd_M_limit_40 rfl (lv_at hl 0 rfl) ?_
        refine fw_getr hx hb hts in_10 hown hK hP ho (by decide) rfl 2 (by decide) (hts _ (tb_in tw_783)) tk_10_2 dd_M_limit_41 ?_
        refine lv_iload_n hx hb dd_M_limit_44 rfl (lv_at hl 1 rfl) ?_
        refine lv_iload_n hx hb dd_M_limit_45 rfl (lv_at hl 2 rfl) ?_
        obtain ⟨h3, hw⟩ := hw
        refine fw_iast hx hb hK hP hS (fw_A.in (lf_10_2 ho).1) (lf_10_2 ho) (by decide) 0 rfl tka_100 h3 dd_M_limit_46 (fun H locs hP hS => ?_)
        obtain ⟨S4, e_S4⟩ : ∃ z, z = fw_si S1 (o + 1) a1.toNatClampNeg a2 := ⟨_, rfl⟩
        rw [← e_S4] at hP
        have hw := hw S4 e_S4
        refine lv_aload_n hx hb dd_M_limit_47 rfl (lv_at hl 0 rfl) ?_
        refine lv_iconst (v := 0) hx hb dd_M_limit_48 kc_ic_0 ?_
        refine fw_puti hx hb hts in_10 F_ty_10 F_tyok_10 F_nm_10 hown hK hP hS (fw_A.in ho.1) ho (by decide) rfl 39 (by decide) (hts _ (tb_in tw_820)) rfl tk_10_39 (ty := .boolean) (by decide +kernel) rfl rfl dd_M_limit_49 (fun H locs hP hS => ?_)
        obtain ⟨S5, e_S5⟩ : ∃ z, z = fw_si S4 o 39 0 := ⟨_, rfl⟩
        rw [← e_S5] at hP
        have hw := hw S5 e_S5
        exact B52 S5 _ _ ls hw hP hS (lv_sub hl [0, 1, 2] rfl)
  unfold wp_M_limit at hw
  refine lv_aload_n hx hb dd_M_limit_0 rfl (lv_at hl 0 rfl) ?_
  refine lv_iload_n hx hb dd_M_limit_1 rfl (lv_at hl 1 rfl) ?_
  refine lv_iconst (v := 0) hx hb dd_M_limit_2 kc_ic_0 ?_
  refine lv_iconst (v := 1) hx hb dd_M_limit_3 kc_ic_1 ?_
  refine fw_calli (va_runS (As := [.int a1, .int 0, .int 1]) (rest := [.ref (b + o)]) ⟨hx, hb, hml, hown, hts⟩ (mt_M_isIn l D cA b S a1 0 1 _ hw) (cwS 3 hts (fw_gS tw_913 tw_911 tw_912 tw_11) rfl rfl rfl (by decide +kernel) ⟨Nat.le_of_ble_eq_true rfl, Nat.le_of_ble_eq_true rfl⟩) (fw_preS hP hK) rfl rfl hl.1 rfl (lv_room (Nat.le_of_ble_eq_true rfl)) dd_M_limit_4 ⟨Nat.le_of_ble_eq_true rfl, Nat.le_of_ble_eq_true rfl⟩) hS (fun S1 r2 H locs hw hP hS => ?_)
  try dsimp only at hw
  refine lv_if_ne (tgt := 14) hx hb dd_M_limit_7 (by decide) (fun h3 => ?_) (fun h3 => ?_)
  · have hw := hw.1 h3
    refine lv_iload_n hx hb dd_M_limit_14 rfl (lv_at hl 2 rfl) ?_
    refine lv_iconst (v := 0) hx hb dd_M_limit_15 kc_ic_0 ?_
    refine lv_sipush (v := 2000) hx hb dd_M_limit_16 kc_sp_2000 ?_
    refine fw_calli (va_runS (As := [.int a2, .int 0, .int 2000]) (rest := [.ref (b + o)]) ⟨hx, hb, hml, hown, hts⟩ (mt_M_isIn l D cA b S1 a2 0 2000 _ hw) (cwS 3 hts (fw_gS tw_913 tw_911 tw_912 tw_11) rfl rfl rfl (by decide +kernel) ⟨Nat.le_of_ble_eq_true rfl, Nat.le_of_ble_eq_true rfl⟩) (fw_preS hP hK) rfl rfl hl.1 rfl (lv_room (Nat.le_of_ble_eq_true rfl)) dd_M_limit_19 ⟨Nat.le_of_ble_eq_true rfl, Nat.le_of_ble_eq_true rfl⟩) hS (fun S4 r5 H locs hw hP hS => ?_)
    try dsimp only at hw
    refine lv_if_eq (tgt := 29) hx hb dd_M_limit_22 (by decide) (fun h6 => ?_) (fun h6 => ?_)
    · have hw := hw.1 h6
      refine lv_iconst (v := 2) hx hb dd_M_limit_29 kc_ic_2 ?_
      exact B30 S4 2 _ _ ls hw hP hS (lv_sub hl [0, 1, 2] rfl)
    · have hw := hw.2 h6
      refine lv_iconst (v := 0) hx hb dd_M_limit_25 kc_ic_0 ?_
      refine lv_goto (tgt := 30) hx hb dd_M_limit_26 (by decide) ?_
      exact B30 S4 0 _ _ ls hw hP hS (lv_sub hl [0, 1, 2] rfl)
  · have hw := hw.2 h3
    refine lv_iconst (v := 1) hx hb dd_M_limit_10 kc_ic_1 ?_
    refine lv_goto (tgt := 30) hx hb dd_M_limit_11 (by decide) ?_
    exact B30 S1 1 _ _ ls hw hP hS (lv_sub hl [0, 1, 2] rfl)
theorem dd_M_band_39 : decode bb_M_band 39 = .ok (.iconst 2, 1) := by decide +kernel
theorem dd_M_band_40 : decode bb_M_band 40 = .ok (.putfield 114, 3) := by decide +kernel
theorem dd_M_band_43 : decode bb_M_band 43 = .ok (.aload_n 0, 1) := by decide +kernel
theorem dd_M_band_44 : decode bb_M_band 44 = .ok (.getfield 114, 3) := by decide +kernel
theorem dd_M_band_47 : decode bb_M_band 47 = .ok (.ifCond .ne 17, 3) := by decide +kernel
theorem dd_M_band_50 : decode bb_M_band 50 = .ok (.aload_n 0, 1) := by decide +kernel
theorem dd_M_band_51 : decode bb_M_band 51 = .ok (.getfield 13, 3) := by decide +kernel
theorem dd_M_band_54 : decode bb_M_band 54 = .ok (.iload_n 1, 1) := by decide +kernel
theorem dd_M_band_55 : decode bb_M_band 55 = .ok (.iload_n 2, 1) := by decide +kernel
theorem dd_M_band_56 : decode bb_M_band 56 = .ok (.iastore, 1) := by decide +kernel
theorem dd_M_band_57 : decode bb_M_band 57 = .ok (.aload_n 0, 1) := by decide +kernel
theorem dd_M_band_58 : decode bb_M_band 58 = .ok (.getfield 16, 3) := by decide +kernel
theorem dd_M_band_61 : decode bb_M_band 61 = .ok (.iload_n 1, 1) := by decide +kernel
theorem dd_M_band_62 : decode bb_M_band 62 = .ok (.iload_n 3, 1) := by decide +kernel
theorem dd_M_band_63 : decode bb_M_band 63 = .ok (.iastore, 1) := by decide +kernel
theorem dd_M_band_64 : decode bb_M_band 64 = .ok (.return_, 1) := by decide +kernel
theorem dd_M_band_0 : decode bb_M_band 0 = .ok (.aload_n 0, 1) := by decide +kernel
theorem dd_M_band_1 : decode bb_M_band 1 = .ok (.iload_n 1, 1) := by decide +kernel
theorem dd_M_band_2 : decode bb_M_band 2 = .ok (.iconst 0, 1) := by decide +kernel
theorem dd_M_band_3 : decode bb_M_band 3 = .ok (.iconst 3, 1) := by decide +kernel
theorem dd_M_band_4 : decode bb_M_band 4 = .ok (.invokestatic 118, 3) := by decide +kernel
theorem dd_M_band_7 : decode bb_M_band 7 = .ok (.ifCond .ne 7, 3) := by decide +kernel
theorem dd_M_band_14 : decode bb_M_band 14 = .ok (.iload_n 2, 1) := by decide +kernel
theorem dd_M_band_15 : decode bb_M_band 15 = .ok (.iconst 0, 1) := by decide +kernel
theorem dd_M_band_16 : decode bb_M_band 16 = .ok (.sipush 1439, 3) := by decide +kernel
theorem dd_M_band_19 : decode bb_M_band 19 = .ok (.invokestatic 118, 3) := by decide +kernel
theorem dd_M_band_22 : decode bb_M_band 22 = .ok (.ifCond .eq 17, 3) := by decide +kernel
theorem dd_M_band_25 : decode bb_M_band 25 = .ok (.iload_n 3, 1) := by decide +kernel
theorem dd_M_band_26 : decode bb_M_band 26 = .ok (.iconst 0, 1) := by decide +kernel
theorem dd_M_band_27 : decode bb_M_band 27 = .ok (.ldc 126, 2) := by decide +kernel
theorem dd_M_band_29 : decode bb_M_band 29 = .ok (.invokestatic 118, 3) := by decide +kernel
theorem dd_M_band_32 : decode bb_M_band 32 = .ok (.ifCond .eq 7, 3) := by decide +kernel
theorem dd_M_band_35 : decode bb_M_band 35 = .ok (.iconst 0, 1) := by decide +kernel
theorem dd_M_band_36 : decode bb_M_band 36 = .ok (.goto 4, 3) := by decide +kernel
theorem dd_M_band_10 : decode bb_M_band 10 = .ok (.iconst 1, 1) := by decide +kernel
theorem dd_M_band_11 : decode bb_M_band 11 = .ok (.goto 29, 3) := by decide +kernel
def ww_M_band : List Cond := .code yy_M_band bb_M_band 4 none :: TB
def rm_M_band : Room := { frames := 1, cells := 0, slots := 0, locals := 22 }
def wp_M_band_64 (o : Nat) (a1 : Int32) (a2 : Int32) (a3 : Int32) (post : fw_S → Prop) (S : fw_S) : Prop := post S
def wp_M_band_40 (o : Nat) (a1 : Int32) (a2 : Int32) (a3 : Int32) (post : fw_S → Prop) (S : fw_S) (p0 : Int32) : Prop := ∀ S1 : fw_S, S1 = fw_si S o 0 p0 → ((¬ ((S1.1 o 0) = 0) → wp_M_band_64 o a1 a2 a3 post S1) ∧ (((S1.1 o 0) = 0) → vp_in a1 4 ∧ (∀ S4 : fw_S, S4 = fw_si S1 (o + 2) a1.toNatClampNeg a2 → vp_in a1 4 ∧ (∀ S6 : fw_S, S6 = fw_si S4 (o + 3) a1.toNatClampNeg a3 → wp_M_band_64 o a1 a2 a3 post S6))))
def wp_M_band_39 (o : Nat) (a1 : Int32) (a2 : Int32) (a3 : Int32) (post : fw_S → Prop) (S : fw_S) : Prop := wp_M_band_40 o a1 a2 a3 post S 2
def wp_M_band (S : fw_S) (o : Nat) (a1 : Int32) (a2 : Int32) (a3 : Int32) (post : fw_S → Prop) : Prop := wp_M_isIn S a1 0 3 (fun S1 r2 => ((¬ (r2 = 0) → wp_M_isIn S1 a2 0 1439 (fun S4 r5 => (((r5 = 0) → wp_M_band_39 o a1 a2 a3 post S4) ∧ (¬ (r5 = 0) → wp_M_isIn S4 a3 0 100000 (fun S7 r8 => (((r8 = 0) → wp_M_band_39 o a1 a2 a3 post S7) ∧ (¬ (r8 = 0) → wp_M_band_40 o a1 a2 a3 post S7 0))))))) ∧ ((r2 = 0) → wp_M_band_40 o a1 a2 a3 post S1 1)))
set_option maxHeartbeats 4000000 in
set_option maxRecDepth 100000 in
theorem mt_M_band (l : Launch) (D : va_G) (cA : Nat → ClassId) (b : Nat) (S : fw_S) (o : Nat) (a1 : Int32) (a2 : Int32) (a3 : Int32) (ho : o < 245 ∧ layU o = (10, 0)) (post : fw_S → Prop) (hw : wp_M_band S o a1 a2 a3 post) : Met l yy_M_band ww_M_band rm_M_band (fw_Pc D CL cA (TYS cA) TK layU b 245 S [.ref (b + o), .int a1, .int a2, .int a3]) (va_Qv post (fw_B D CL cA TK layU b 245) (fw_A b 245)) 0 0 (fw_A b 245) := by
  refine Met.ofW (cc := bb_M_band) (maxL := 4) (ret := none) (by decide) rfl ?_
  intro p e s m args below meth c s₁ B hml hv
  obtain ⟨rfl, hP, hK⟩ := hv
  have hx := B.exec
  have hb := B.bytes
  have hr := B.returns
  have hts := atoms_spec (ws := ww_M_band) B.pre
  have hown : s.vm.findClass "OutletOfficeModel" = some m.cls := findClass_of_methodNamed B.named
  have hlocks := B.notSynchronized
  have hS : va_S (fw_A b 245) s.heap s.heap [] := va_S.rf
  have hl := lv_entry ([.ref (b + o), .int a1, .int a2, .int a3]) (n := 4) (Nat.le_of_ble_eq_true rfl)
  rw [lg_entry_eq]
  generalize (lg_sl ([.ref (b + o), .int a1, .int a2, .int a3]) ++ List.replicate (4 - (lg_sl ([.ref (b + o), .int a1, .int a2, .int a3])).length) Slot.unset).toArray = ls at hl ⊢
  have hl : lv_has ls 4 [(0, .ref (b + o)), (1, .int a1), (2, .int a2), (3, .int a3)] := hl
  have B64 : ∀ (S : fw_S) (H : Heap) (locs : List Loc) (ls : Array Slot), wp_M_band_64 o a1 a2 a3 post S → fw_P D CL cA layU b 245 (fw_v TK layU b S) H → va_S (fw_A b 245) s.heap H locs → lv_has ls 4 [(0, .ref (b + o)), (1, .int a1), (2, .int a2), (3, .int a3)] → W p l e (headSpec ww_M_band rm_M_band).room s m ([.ref (b + o), .int a1, .int a2, .int a3] : List Value).toArray below meth c H locs 0 0 (MQ below (va_Qv post (fw_B D CL cA TK layU b 245) (fw_A b 245)) ([.ref (b + o), .int a1, .int a2, .int a3] : List Value).toArray s 0 0 (fw_A b 245)) (F0 m 64 ls []) := by
      intro S H locs ls hw hP hS hl
      unfold wp_M_band_64 at hw
      exact W.vret hx hb hr (fun t ht hW => ⟨⟨_, rfl, hw, fw_Bof ht hP⟩, hS.F ht⟩) hS.2.2 dd_M_band_64
  have B40 : ∀ (S : fw_S) (p0 : Int32) (H : Heap) (locs : List Loc) (ls : Array Slot), wp_M_band_40 o a1 a2 a3 post S p0 → fw_P D CL cA layU b 245 (fw_v TK layU b S) H → va_S (fw_A b 245) s.heap H locs → lv_has ls 4 [(0, .ref (b + o)), (1, .int a1), (2, .int a2), (3, .int a3)] → W p l e (headSpec ww_M_band rm_M_band).room s m ([.ref (b + o), .int a1, .int a2, .int a3] : List Value).toArray below meth c H locs 0 0 (MQ below (va_Qv post (fw_B D CL cA TK layU b 245) (fw_A b 245)) ([.ref (b + o), .int a1, .int a2, .int a3] : List Value).toArray s 0 0 (fw_A b 245)) (F0 m 40 ls [.int p0, .ref (b + o)]) := by
      intro S p0 H locs ls hw hP hS hl
      unfold wp_M_band_40 at hw
      refine fw_puti hx hb hts in_10 F_ty_10 F_tyok_10 F_nm_10 hown hK hP hS (fw_A.in ho.1) ho (by decide) rfl 0 (by decide) (hts _ (tb_in tw_781)) rfl tk_10_0 (ty := .int) (by decide +kernel) rfl rfl dd_M_band_40 (fun H locs hP hS => ?_)
      obtain ⟨S1, e_S1⟩ : ∃ z, z = fw_si S o 0 p0 := ⟨_, rfl⟩
      rw [← e_S1] at hP
      have hw := hw S1 e_S1
      refine lv_aload_n hx hb dd_M_band_43 rfl (lv_at hl 0 rfl) ?_
      refine fw_geti hx hb hts in_10 hown hK hP ho (by decide) rfl 0 (by decide) (hts _ (tb_in tw_781)) tk_10_0 dd_M_band_44 ?_
      refine lv_if_ne (tgt := 64) hx hb dd_M_band_47 (by decide) (fun h2 => ?_) (fun h2 => ?_)
      · have hw := hw.1 h2
        exact B64 S1 _ _ ls hw hP hS (lv_sub hl [0, 1, 2, 3] rfl)
      · have hw := hw.2 h2
        refine lv_aload_n hx hb dd_M_band_50 rfl (lv_at hl 0 rfl) ?_
        refine fw_getr hx hb hts in_10 hown hK hP ho (by decide) rfl 3 (by decide) (hts _ (tb_in tw_784)) tk_10_3 dd_M_band_51 ?_
        refine lv_iload_n hx hb dd_M_band_54 rfl (lv_at hl 1 rfl) ?_
        refine lv_iload_n hx hb dd_M_band_55 rfl (lv_at hl 2 rfl) ?_
        obtain ⟨h3, hw⟩ := hw
        refine fw_iast hx hb hK hP hS (fw_A.in (lf_10_3 ho).1) (lf_10_3 ho) (by decide) 0 rfl tka_100 h3 dd_M_band_56 (fun H locs hP hS => ?_)
        obtain ⟨S4, e_S4⟩ : ∃ z, z = fw_si S1 (o + 2) a1.toNatClampNeg a2 := ⟨_, rfl⟩
        rw [← e_S4] at hP
        have hw := hw S4 e_S4
        refine lv_aload_n hx hb dd_M_band_57 rfl (lv_at hl 0 rfl) ?_
        refine fw_getr hx hb hts in_10 hown hK hP ho (by decide) rfl 4 (by decide) (hts _ (tb_in tw_785)) tk_10_4 dd_M_band_58 ?_
        refine lv_iload_n hx hb dd_M_band_61 rfl (lv_at hl 1 rfl) ?_
        refine lv_iload_n hx hb dd_M_band_62 rfl (lv_at hl 3 rfl) ?_
        obtain ⟨h5, hw⟩ := hw
        refine fw_iast hx hb hK hP hS (fw_A.in (lf_10_4 ho).1) (lf_10_4 ho) (by decide) 0 rfl tka_100 h5 dd_M_band_63 (fun H locs hP hS => ?_)
        obtain ⟨S6, e_S6⟩ : ∃ z, z = fw_si S4 (o + 3) a1.toNatClampNeg a3 := ⟨_, rfl⟩
        rw [← e_S6] at hP
        have hw := hw S6 e_S6
        exact B64 S6 _ _ ls hw hP hS (lv_sub hl [0, 1, 2, 3] rfl)
  have B39 : ∀ (S : fw_S) (H : Heap) (locs : List Loc) (ls : Array Slot), wp_M_band_39 o a1 a2 a3 post S → fw_P D CL cA layU b 245 (fw_v TK layU b S) H → va_S (fw_A b 245) s.heap H locs → lv_has ls 4 [(0, .ref (b + o)), (1, .int a1), (2, .int a2), (3, .int a3)] → W p l e (headSpec ww_M_band rm_M_band).room s m ([.ref (b + o), .int a1, .int a2, .int a3] : List Value).toArray below meth c H locs 0 0 (MQ below (va_Qv post (fw_B D CL cA TK layU b 245) (fw_A b 245)) ([.ref (b + o), .int a1, .int a2, .int a3] : List Value).toArray s 0 0 (fw_A b 245)) (F0 m 39 ls [.ref (b + o)]) := by
      intro S H locs ls hw hP hS hl
      unfold wp_M_band_39 at hw
      refine lv_iconst (v := 2) hx hb dd_M_band_39 kc_ic_2 ?_
      exact B40 S 2 _ _ ls hw hP hS (lv_sub hl [0, 1, 2, 3] rfl)
  unfold wp_M_band at hw
  refine lv_aload_n hx hb dd_M_band_0 rfl (lv_at hl 0 rfl) ?_
  refine lv_iload_n hx hb dd_M_band_1 rfl (lv_at hl 1 rfl) ?_
  refine lv_iconst (v := 0) hx hb dd_M_band_2 kc_ic_0 ?_
  refine lv_iconst (v := 3) hx hb dd_M_band_3 kc_ic_3 ?_
  refine fw_calli (va_runS (As := [.int a1, .int 0, .int 3]) (rest := [.ref (b + o)]) ⟨hx, hb, hml, hown, hts⟩ (mt_M_isIn l D cA b S a1 0 3 _ hw) (cwS 3 hts (fw_gS tw_913 tw_911 tw_912 tw_11) rfl rfl rfl (by decide +kernel) ⟨Nat.le_of_ble_eq_true rfl, Nat.le_of_ble_eq_true rfl⟩) (fw_preS hP hK) rfl rfl hl.1 rfl (lv_room (Nat.le_of_ble_eq_true rfl)) dd_M_band_4 ⟨Nat.le_of_ble_eq_true rfl, Nat.le_of_ble_eq_true rfl⟩) hS (fun S1 r2 H locs hw hP hS => ?_)
  try dsimp only at hw
  refine lv_if_ne (tgt := 14) hx hb dd_M_band_7 (by decide) (fun h3 => ?_) (fun h3 => ?_)
  · have hw := hw.1 h3
    refine lv_iload_n hx hb dd_M_band_14 rfl (lv_at hl 2 rfl) ?_
    refine lv_iconst (v := 0) hx hb dd_M_band_15 kc_ic_0 ?_
    refine lv_sipush (v := 1439) hx hb dd_M_band_16 kc_sp_1439 ?_
    refine fw_calli (va_runS (As := [.int a2, .int 0, .int 1439]) (rest := [.ref (b + o)]) ⟨hx, hb, hml, hown, hts⟩ (mt_M_isIn l D cA b S1 a2 0 1439 _ hw) (cwS 3 hts (fw_gS tw_913 tw_911 tw_912 tw_11) rfl rfl rfl (by decide +kernel) ⟨Nat.le_of_ble_eq_true rfl, Nat.le_of_ble_eq_true rfl⟩) (fw_preS hP hK) rfl rfl hl.1 rfl (lv_room (Nat.le_of_ble_eq_true rfl)) dd_M_band_19 ⟨Nat.le_of_ble_eq_true rfl, Nat.le_of_ble_eq_true rfl⟩) hS (fun S4 r5 H locs hw hP hS => ?_)
    try dsimp only at hw
    refine lv_if_eq (tgt := 39) hx hb dd_M_band_22 (by decide) (fun h6 => ?_) (fun h6 => ?_)
    · have hw := hw.1 h6
      exact B39 S4 _ _ ls hw hP hS (lv_sub hl [0, 1, 2, 3] rfl)
    · have hw := hw.2 h6
      refine lv_iload_n hx hb dd_M_band_25 rfl (lv_at hl 3 rfl) ?_
      refine lv_iconst (v := 0) hx hb dd_M_band_26 kc_ic_0 ?_
      refine lv_ldc (v := 100000) hx hb hown (hts _ (tb_in tw_918)) dd_M_band_27 ?_
      refine fw_calli (va_runS (As := [.int a3, .int 0, .int 100000]) (rest := [.ref (b + o)]) ⟨hx, hb, hml, hown, hts⟩ (mt_M_isIn l D cA b S4 a3 0 100000 _ hw) (cwS 3 hts (fw_gS tw_913 tw_911 tw_912 tw_11) rfl rfl rfl (by decide +kernel) ⟨Nat.le_of_ble_eq_true rfl, Nat.le_of_ble_eq_true rfl⟩) (fw_preS hP hK) rfl rfl hl.1 rfl (lv_room (Nat.le_of_ble_eq_true rfl)) dd_M_band_29 ⟨Nat.le_of_ble_eq_true rfl, Nat.le_of_ble_eq_true rfl⟩) hS (fun S7 r8 H locs hw hP hS => ?_)
      try dsimp only at hw
      refine lv_if_eq (tgt := 39) hx hb dd_M_band_32 (by decide) (fun h9 => ?_) (fun h9 => ?_)
      · have hw := hw.1 h9
        exact B39 S7 _ _ ls hw hP hS (lv_sub hl [0, 1, 2, 3] rfl)
      · have hw := hw.2 h9
        refine lv_iconst (v := 0) hx hb dd_M_band_35 kc_ic_0 ?_
        refine lv_goto (tgt := 40) hx hb dd_M_band_36 (by decide) ?_
        exact B40 S7 0 _ _ ls hw hP hS (lv_sub hl [0, 1, 2, 3] rfl)
  · have hw := hw.2 h3
    refine lv_iconst (v := 1) hx hb dd_M_band_10 kc_ic_1 ?_
    refine lv_goto (tgt := 40) hx hb dd_M_band_11 (by decide) ?_
    exact B40 S1 1 _ _ ls hw hP hS (lv_sub hl [0, 1, 2, 3] rfl)
theorem dd_M_fees_25 : decode bb_M_fees 25 = .ok (.iconst 1, 1) := by decide +kernel
theorem dd_M_fees_26 : decode bb_M_fees 26 = .ok (.putfield 114, 3) := by decide +kernel
theorem dd_M_fees_29 : decode bb_M_fees 29 = .ok (.aload_n 0, 1) := by decide +kernel
theorem dd_M_fees_30 : decode bb_M_fees 30 = .ok (.getfield 114, 3) := by decide +kernel
theorem dd_M_fees_33 : decode bb_M_fees 33 = .ok (.ifCond .ne 13, 3) := by decide +kernel
theorem dd_M_fees_36 : decode bb_M_fees 36 = .ok (.aload_n 0, 1) := by decide +kernel
theorem dd_M_fees_37 : decode bb_M_fees 37 = .ok (.iload_n 1, 1) := by decide +kernel
theorem dd_M_fees_38 : decode bb_M_fees 38 = .ok (.putfield 128, 3) := by decide +kernel
theorem dd_M_fees_41 : decode bb_M_fees 41 = .ok (.aload_n 0, 1) := by decide +kernel
theorem dd_M_fees_42 : decode bb_M_fees 42 = .ok (.iload_n 2, 1) := by decide +kernel
theorem dd_M_fees_43 : decode bb_M_fees 43 = .ok (.putfield 131, 3) := by decide +kernel
theorem dd_M_fees_46 : decode bb_M_fees 46 = .ok (.return_, 1) := by decide +kernel
theorem dd_M_fees_0 : decode bb_M_fees 0 = .ok (.aload_n 0, 1) := by decide +kernel
theorem dd_M_fees_1 : decode bb_M_fees 1 = .ok (.iload_n 1, 1) := by decide +kernel
theorem dd_M_fees_2 : decode bb_M_fees 2 = .ok (.iconst 0, 1) := by decide +kernel
theorem dd_M_fees_3 : decode bb_M_fees 3 = .ok (.ldc 127, 2) := by decide +kernel
theorem dd_M_fees_5 : decode bb_M_fees 5 = .ok (.invokestatic 118, 3) := by decide +kernel
theorem dd_M_fees_8 : decode bb_M_fees 8 = .ok (.ifCond .eq 17, 3) := by decide +kernel
theorem dd_M_fees_11 : decode bb_M_fees 11 = .ok (.iload_n 2, 1) := by decide +kernel
theorem dd_M_fees_12 : decode bb_M_fees 12 = .ok (.iconst 0, 1) := by decide +kernel
theorem dd_M_fees_13 : decode bb_M_fees 13 = .ok (.ldc 127, 2) := by decide +kernel
theorem dd_M_fees_15 : decode bb_M_fees 15 = .ok (.invokestatic 118, 3) := by decide +kernel
theorem dd_M_fees_18 : decode bb_M_fees 18 = .ok (.ifCond .eq 7, 3) := by decide +kernel
theorem dd_M_fees_21 : decode bb_M_fees 21 = .ok (.iconst 0, 1) := by decide +kernel
theorem dd_M_fees_22 : decode bb_M_fees 22 = .ok (.goto 4, 3) := by decide +kernel
def ww_M_fees : List Cond := .code yy_M_fees bb_M_fees 3 none :: TB
def rm_M_fees : Room := { frames := 1, cells := 0, slots := 0, locals := 22 }
def wp_M_fees_46 (o : Nat) (a1 : Int32) (a2 : Int32) (post : fw_S → Prop) (S : fw_S) : Prop := post S
def wp_M_fees_26 (o : Nat) (a1 : Int32) (a2 : Int32) (post : fw_S → Prop) (S : fw_S) (p0 : Int32) : Prop := ∀ S1 : fw_S, S1 = fw_si S o 0 p0 → ((¬ ((S1.1 o 0) = 0) → wp_M_fees_46 o a1 a2 post S1) ∧ (((S1.1 o 0) = 0) → ∀ S3 : fw_S, S3 = fw_si S1 o 5 a1 → ∀ S4 : fw_S, S4 = fw_si S3 o 6 a2 → wp_M_fees_46 o a1 a2 post S4))
def wp_M_fees_25 (o : Nat) (a1 : Int32) (a2 : Int32) (post : fw_S → Prop) (S : fw_S) : Prop := wp_M_fees_26 o a1 a2 post S 1
def wp_M_fees (S : fw_S) (o : Nat) (a1 : Int32) (a2 : Int32) (post : fw_S → Prop) : Prop := wp_M_isIn S a1 0 1000000 (fun S1 r2 => (((r2 = 0) → wp_M_fees_25 o a1 a2 post S1) ∧ (¬ (r2 = 0) → wp_M_isIn S1 a2 0 1000000 (fun S4 r5 => (((r5 = 0) → wp_M_fees_25 o a1 a2 post S4) ∧ (¬ (r5 = 0) → wp_M_fees_26 o a1 a2 post S4 0))))))
set_option maxHeartbeats 4000000 in
set_option maxRecDepth 100000 in
theorem mt_M_fees (l : Launch) (D : va_G) (cA : Nat → ClassId) (b : Nat) (S : fw_S) (o : Nat) (a1 : Int32) (a2 : Int32) (ho : o < 245 ∧ layU o = (10, 0)) (post : fw_S → Prop) (hw : wp_M_fees S o a1 a2 post) : Met l yy_M_fees ww_M_fees rm_M_fees (fw_Pc D CL cA (TYS cA) TK layU b 245 S [.ref (b + o), .int a1, .int a2]) (va_Qv post (fw_B D CL cA TK layU b 245) (fw_A b 245)) 0 0 (fw_A b 245) := by
  refine Met.ofW (cc := bb_M_fees) (maxL := 3) (ret := none) (by decide) rfl ?_
  intro p e s m args below meth c s₁ B hml hv
  obtain ⟨rfl, hP, hK⟩ := hv
  have hx := B.exec
  have hb := B.bytes
  have hr := B.returns
  have hts := atoms_spec (ws := ww_M_fees) B.pre
  have hown : s.vm.findClass "OutletOfficeModel" = some m.cls := findClass_of_methodNamed B.named
  have hlocks := B.notSynchronized
  have hS : va_S (fw_A b 245) s.heap s.heap [] := va_S.rf
  have hl := lv_entry ([.ref (b + o), .int a1, .int a2]) (n := 3) (Nat.le_of_ble_eq_true rfl)
  rw [lg_entry_eq]
  generalize (lg_sl ([.ref (b + o), .int a1, .int a2]) ++ List.replicate (3 - (lg_sl ([.ref (b + o), .int a1, .int a2])).length) Slot.unset).toArray = ls at hl ⊢
  have hl : lv_has ls 3 [(0, .ref (b + o)), (1, .int a1), (2, .int a2)] := hl
  have B46 : ∀ (S : fw_S) (H : Heap) (locs : List Loc) (ls : Array Slot), wp_M_fees_46 o a1 a2 post S → fw_P D CL cA layU b 245 (fw_v TK layU b S) H → va_S (fw_A b 245) s.heap H locs → lv_has ls 3 [(0, .ref (b + o)), (1, .int a1), (2, .int a2)] → W p l e (headSpec ww_M_fees rm_M_fees).room s m ([.ref (b + o), .int a1, .int a2] : List Value).toArray below meth c H locs 0 0 (MQ below (va_Qv post (fw_B D CL cA TK layU b 245) (fw_A b 245)) ([.ref (b + o), .int a1, .int a2] : List Value).toArray s 0 0 (fw_A b 245)) (F0 m 46 ls []) := by
      intro S H locs ls hw hP hS hl
      unfold wp_M_fees_46 at hw
      exact W.vret hx hb hr (fun t ht hW => ⟨⟨_, rfl, hw, fw_Bof ht hP⟩, hS.F ht⟩) hS.2.2 dd_M_fees_46
  have B26 : ∀ (S : fw_S) (p0 : Int32) (H : Heap) (locs : List Loc) (ls : Array Slot), wp_M_fees_26 o a1 a2 post S p0 → fw_P D CL cA layU b 245 (fw_v TK layU b S) H → va_S (fw_A b 245) s.heap H locs → lv_has ls 3 [(0, .ref (b + o)), (1, .int a1), (2, .int a2)] → W p l e (headSpec ww_M_fees rm_M_fees).room s m ([.ref (b + o), .int a1, .int a2] : List Value).toArray below meth c H locs 0 0 (MQ below (va_Qv post (fw_B D CL cA TK layU b 245) (fw_A b 245)) ([.ref (b + o), .int a1, .int a2] : List Value).toArray s 0 0 (fw_A b 245)) (F0 m 26 ls [.int p0, .ref (b + o)]) := by
      intro S p0 H locs ls hw hP hS hl
      unfold wp_M_fees_26 at hw
      refine fw_puti hx hb hts in_10 F_ty_10 F_tyok_10 F_nm_10 hown hK hP hS (fw_A.in ho.1) ho (by decide) rfl 0 (by decide) (hts _ (tb_in tw_781)) rfl tk_10_0 (ty := .int) (by decide +kernel) rfl rfl dd_M_fees_26 (fun H locs hP hS => ?_)
      obtain ⟨S1, e_S1⟩ : ∃ z, z = fw_si S o 0 p0 := ⟨_, rfl⟩
      rw [← e_S1] at hP
      have hw := hw S1 e_S1
      refine lv_aload_n hx hb dd_M_fees_29 rfl (lv_at hl 0 rfl) ?_
      refine fw_geti hx hb hts in_10 hown hK hP ho (by decide) rfl 0 (by decide) (hts _ (tb_in tw_781)) tk_10_0 dd_M_fees_30 ?_
      refine lv_if_ne (tgt := 46) hx hb dd_M_fees_33 (by decide) (fun h2 => ?_) (fun h2 => ?_)
      · have hw := hw.1 h2
        exact B46 S1 _ _ ls hw hP hS (lv_sub hl [0, 1, 2] rfl)
      · have hw := hw.2 h2
        refine lv_aload_n hx hb dd_M_fees_36 rfl (lv_at hl 0 rfl) ?_
        refine lv_iload_n hx hb dd_M_fees_37 rfl (lv_at hl 1 rfl) ?_
        refine fw_puti hx hb hts in_10 F_ty_10 F_tyok_10 F_nm_10 hown hK hP hS (fw_A.in ho.1) ho (by decide) rfl 5 (by decide) (hts _ (tb_in tw_786)) rfl tk_10_5 (ty := .int) (by decide +kernel) rfl rfl dd_M_fees_38 (fun H locs hP hS => ?_)
        obtain ⟨S3, e_S3⟩ : ∃ z, z = fw_si S1 o 5 a1 := ⟨_, rfl⟩
        rw [← e_S3] at hP
        have hw := hw S3 e_S3
        refine lv_aload_n hx hb dd_M_fees_41 rfl (lv_at hl 0 rfl) ?_
        refine lv_iload_n hx hb dd_M_fees_42 rfl (lv_at hl 2 rfl) ?_
        refine fw_puti hx hb hts in_10 F_ty_10 F_tyok_10 F_nm_10 hown hK hP hS (fw_A.in ho.1) ho (by decide) rfl 6 (by decide) (hts _ (tb_in tw_787)) rfl tk_10_6 (ty := .int) (by decide +kernel) rfl rfl dd_M_fees_43 (fun H locs hP hS => ?_)
        obtain ⟨S4, e_S4⟩ : ∃ z, z = fw_si S3 o 6 a2 := ⟨_, rfl⟩
        rw [← e_S4] at hP
        have hw := hw S4 e_S4
        exact B46 S4 _ _ ls hw hP hS (lv_sub hl [0, 1, 2] rfl)
  have B25 : ∀ (S : fw_S) (H : Heap) (locs : List Loc) (ls : Array Slot), wp_M_fees_25 o a1 a2 post S → fw_P D CL cA layU b 245 (fw_v TK layU b S) H → va_S (fw_A b 245) s.heap H locs → lv_has ls 3 [(0, .ref (b + o)), (1, .int a1), (2, .int a2)] → W p l e (headSpec ww_M_fees rm_M_fees).room s m ([.ref (b + o), .int a1, .int a2] : List Value).toArray below meth c H locs 0 0 (MQ below (va_Qv post (fw_B D CL cA TK layU b 245) (fw_A b 245)) ([.ref (b + o), .int a1, .int a2] : List Value).toArray s 0 0 (fw_A b 245)) (F0 m 25 ls [.ref (b + o)]) := by
      intro S H locs ls hw hP hS hl
      unfold wp_M_fees_25 at hw
      refine lv_iconst (v := 1) hx hb dd_M_fees_25 kc_ic_1 ?_
      exact B26 S 1 _ _ ls hw hP hS (lv_sub hl [0, 1, 2] rfl)
  unfold wp_M_fees at hw
  refine lv_aload_n hx hb dd_M_fees_0 rfl (lv_at hl 0 rfl) ?_
  refine lv_iload_n hx hb dd_M_fees_1 rfl (lv_at hl 1 rfl) ?_
  refine lv_iconst (v := 0) hx hb dd_M_fees_2 kc_ic_0 ?_
  refine lv_ldc (v := 1000000) hx hb hown (hts _ (tb_in tw_923)) dd_M_fees_3 ?_
  refine fw_calli (va_runS (As := [.int a1, .int 0, .int 1000000]) (rest := [.ref (b + o)]) ⟨hx, hb, hml, hown, hts⟩ (mt_M_isIn l D cA b S a1 0 1000000 _ hw) (cwS 3 hts (fw_gS tw_913 tw_911 tw_912 tw_11) rfl rfl rfl (by decide +kernel) ⟨Nat.le_of_ble_eq_true rfl, Nat.le_of_ble_eq_true rfl⟩) (fw_preS hP hK) rfl rfl hl.1 rfl (lv_room (Nat.le_of_ble_eq_true rfl)) dd_M_fees_5 ⟨Nat.le_of_ble_eq_true rfl, Nat.le_of_ble_eq_true rfl⟩) hS (fun S1 r2 H locs hw hP hS => ?_)
  try dsimp only at hw
  refine lv_if_eq (tgt := 25) hx hb dd_M_fees_8 (by decide) (fun h3 => ?_) (fun h3 => ?_)
  · have hw := hw.1 h3
    exact B25 S1 _ _ ls hw hP hS (lv_sub hl [0, 1, 2] rfl)
  · have hw := hw.2 h3
    refine lv_iload_n hx hb dd_M_fees_11 rfl (lv_at hl 2 rfl) ?_
    refine lv_iconst (v := 0) hx hb dd_M_fees_12 kc_ic_0 ?_
    refine lv_ldc (v := 1000000) hx hb hown (hts _ (tb_in tw_923)) dd_M_fees_13 ?_
    refine fw_calli (va_runS (As := [.int a2, .int 0, .int 1000000]) (rest := [.ref (b + o)]) ⟨hx, hb, hml, hown, hts⟩ (mt_M_isIn l D cA b S1 a2 0 1000000 _ hw) (cwS 3 hts (fw_gS tw_913 tw_911 tw_912 tw_11) rfl rfl rfl (by decide +kernel) ⟨Nat.le_of_ble_eq_true rfl, Nat.le_of_ble_eq_true rfl⟩) (fw_preS hP hK) rfl rfl hl.1 rfl (lv_room (Nat.le_of_ble_eq_true rfl)) dd_M_fees_15 ⟨Nat.le_of_ble_eq_true rfl, Nat.le_of_ble_eq_true rfl⟩) hS (fun S4 r5 H locs hw hP hS => ?_)
    try dsimp only at hw
    refine lv_if_eq (tgt := 25) hx hb dd_M_fees_18 (by decide) (fun h6 => ?_) (fun h6 => ?_)
    · have hw := hw.1 h6
      exact B25 S4 _ _ ls hw hP hS (lv_sub hl [0, 1, 2] rfl)
    · have hw := hw.2 h6
      refine lv_iconst (v := 0) hx hb dd_M_fees_21 kc_ic_0 ?_
      refine lv_goto (tgt := 26) hx hb dd_M_fees_22 (by decide) ?_
      exact B26 S4 0 _ _ ls hw hP hS (lv_sub hl [0, 1, 2] rfl)
theorem dd_M_card_38 : decode bb_M_card 38 = .ok (.iconst 2, 1) := by decide +kernel
theorem dd_M_card_39 : decode bb_M_card 39 = .ok (.putfield 114, 3) := by decide +kernel
theorem dd_M_card_42 : decode bb_M_card 42 = .ok (.aload_n 0, 1) := by decide +kernel
theorem dd_M_card_43 : decode bb_M_card 43 = .ok (.getfield 114, 3) := by decide +kernel
theorem dd_M_card_46 : decode bb_M_card 46 = .ok (.ifCond .ne 17, 3) := by decide +kernel
theorem dd_M_card_49 : decode bb_M_card 49 = .ok (.aload_n 0, 1) := by decide +kernel
theorem dd_M_card_50 : decode bb_M_card 50 = .ok (.getfield 19, 3) := by decide +kernel
theorem dd_M_card_53 : decode bb_M_card 53 = .ok (.iload_n 1, 1) := by decide +kernel
theorem dd_M_card_54 : decode bb_M_card 54 = .ok (.iload_n 2, 1) := by decide +kernel
theorem dd_M_card_55 : decode bb_M_card 55 = .ok (.iastore, 1) := by decide +kernel
theorem dd_M_card_56 : decode bb_M_card 56 = .ok (.aload_n 0, 1) := by decide +kernel
theorem dd_M_card_57 : decode bb_M_card 57 = .ok (.getfield 22, 3) := by decide +kernel
theorem dd_M_card_60 : decode bb_M_card 60 = .ok (.iload_n 1, 1) := by decide +kernel
theorem dd_M_card_61 : decode bb_M_card 61 = .ok (.iload_n 3, 1) := by decide +kernel
theorem dd_M_card_62 : decode bb_M_card 62 = .ok (.iastore, 1) := by decide +kernel
theorem dd_M_card_63 : decode bb_M_card 63 = .ok (.return_, 1) := by decide +kernel
theorem dd_M_card_0 : decode bb_M_card 0 = .ok (.aload_n 0, 1) := by decide +kernel
theorem dd_M_card_1 : decode bb_M_card 1 = .ok (.iload_n 1, 1) := by decide +kernel
theorem dd_M_card_2 : decode bb_M_card 2 = .ok (.iconst 0, 1) := by decide +kernel
theorem dd_M_card_3 : decode bb_M_card 3 = .ok (.bipush 15, 2) := by decide +kernel
theorem dd_M_card_5 : decode bb_M_card 5 = .ok (.invokestatic 118, 3) := by decide +kernel
theorem dd_M_card_8 : decode bb_M_card 8 = .ok (.ifCond .ne 7, 3) := by decide +kernel
theorem dd_M_card_15 : decode bb_M_card 15 = .ok (.iload_n 2, 1) := by decide +kernel
theorem dd_M_card_16 : decode bb_M_card 16 = .ok (.iconst 0, 1) := by decide +kernel
theorem dd_M_card_17 : decode bb_M_card 17 = .ok (.iconst 1, 1) := by decide +kernel
theorem dd_M_card_18 : decode bb_M_card 18 = .ok (.invokestatic 118, 3) := by decide +kernel
theorem dd_M_card_21 : decode bb_M_card 21 = .ok (.ifCond .eq 17, 3) := by decide +kernel
theorem dd_M_card_24 : decode bb_M_card 24 = .ok (.iload_n 3, 1) := by decide +kernel
theorem dd_M_card_25 : decode bb_M_card 25 = .ok (.iconst 0, 1) := by decide +kernel
theorem dd_M_card_26 : decode bb_M_card 26 = .ok (.bipush 15, 2) := by decide +kernel
theorem dd_M_card_28 : decode bb_M_card 28 = .ok (.invokestatic 118, 3) := by decide +kernel
theorem dd_M_card_31 : decode bb_M_card 31 = .ok (.ifCond .eq 7, 3) := by decide +kernel
theorem dd_M_card_34 : decode bb_M_card 34 = .ok (.iconst 0, 1) := by decide +kernel
theorem dd_M_card_35 : decode bb_M_card 35 = .ok (.goto 4, 3) := by decide +kernel
theorem dd_M_card_11 : decode bb_M_card 11 = .ok (.iconst 1, 1) := by decide +kernel
theorem dd_M_card_12 : decode bb_M_card 12 = .ok (.goto 27, 3) := by decide +kernel
def ww_M_card : List Cond := .code yy_M_card bb_M_card 4 none :: TB
def rm_M_card : Room := { frames := 1, cells := 0, slots := 0, locals := 22 }
def wp_M_card_63 (o : Nat) (a1 : Int32) (a2 : Int32) (a3 : Int32) (post : fw_S → Prop) (S : fw_S) : Prop := post S
def wp_M_card_39 (o : Nat) (a1 : Int32) (a2 : Int32) (a3 : Int32) (post : fw_S → Prop) (S : fw_S) (p0 : Int32) : Prop := ∀ S1 : fw_S, S1 = fw_si S o 0 p0 → ((¬ ((S1.1 o 0) = 0) → wp_M_card_63 o a1 a2 a3 post S1) ∧ (((S1.1 o 0) = 0) → vp_in a1 112 ∧ (∀ S4 : fw_S, S4 = fw_si S1 (o + 4) a1.toNatClampNeg a2 → vp_in a1 112 ∧ (∀ S6 : fw_S, S6 = fw_si S4 (o + 5) a1.toNatClampNeg a3 → wp_M_card_63 o a1 a2 a3 post S6))))
def wp_M_card_38 (o : Nat) (a1 : Int32) (a2 : Int32) (a3 : Int32) (post : fw_S → Prop) (S : fw_S) : Prop := wp_M_card_39 o a1 a2 a3 post S 2
def wp_M_card (S : fw_S) (o : Nat) (a1 : Int32) (a2 : Int32) (a3 : Int32) (post : fw_S → Prop) : Prop := wp_M_isIn S a1 0 15 (fun S1 r2 => ((¬ (r2 = 0) → wp_M_isIn S1 a2 0 1 (fun S4 r5 => (((r5 = 0) → wp_M_card_38 o a1 a2 a3 post S4) ∧ (¬ (r5 = 0) → wp_M_isIn S4 a3 0 15 (fun S7 r8 => (((r8 = 0) → wp_M_card_38 o a1 a2 a3 post S7) ∧ (¬ (r8 = 0) → wp_M_card_39 o a1 a2 a3 post S7 0))))))) ∧ ((r2 = 0) → wp_M_card_39 o a1 a2 a3 post S1 1)))
set_option maxHeartbeats 4000000 in
set_option maxRecDepth 100000 in
theorem mt_M_card (l : Launch) (D : va_G) (cA : Nat → ClassId) (b : Nat) (S : fw_S) (o : Nat) (a1 : Int32) (a2 : Int32) (a3 : Int32) (ho : o < 245 ∧ layU o = (10, 0)) (post : fw_S → Prop) (hw : wp_M_card S o a1 a2 a3 post) : Met l yy_M_card ww_M_card rm_M_card (fw_Pc D CL cA (TYS cA) TK layU b 245 S [.ref (b + o), .int a1, .int a2, .int a3]) (va_Qv post (fw_B D CL cA TK layU b 245) (fw_A b 245)) 0 0 (fw_A b 245) := by
  refine Met.ofW (cc := bb_M_card) (maxL := 4) (ret := none) (by decide) rfl ?_
  intro p e s m args below meth c s₁ B hml hv
  obtain ⟨rfl, hP, hK⟩ := hv
  have hx := B.exec
  have hb := B.bytes
  have hr := B.returns
  have hts := atoms_spec (ws := ww_M_card) B.pre
  have hown : s.vm.findClass "OutletOfficeModel" = some m.cls := findClass_of_methodNamed B.named
  have hlocks := B.notSynchronized
  have hS : va_S (fw_A b 245) s.heap s.heap [] := va_S.rf
  have hl := lv_entry ([.ref (b + o), .int a1, .int a2, .int a3]) (n := 4) (Nat.le_of_ble_eq_true rfl)
  rw [lg_entry_eq]
  generalize (lg_sl ([.ref (b + o), .int a1, .int a2, .int a3]) ++ List.replicate (4 - (lg_sl ([.ref (b + o), .int a1, .int a2, .int a3])).length) Slot.unset).toArray = ls at hl ⊢
  have hl : lv_has ls 4 [(0, .ref (b + o)), (1, .int a1), (2, .int a2), (3, .int a3)] := hl
  have B63 : ∀ (S : fw_S) (H : Heap) (locs : List Loc) (ls : Array Slot), wp_M_card_63 o a1 a2 a3 post S → fw_P D CL cA layU b 245 (fw_v TK layU b S) H → va_S (fw_A b 245) s.heap H locs → lv_has ls 4 [(0, .ref (b + o)), (1, .int a1), (2, .int a2), (3, .int a3)] → W p l e (headSpec ww_M_card rm_M_card).room s m ([.ref (b + o), .int a1, .int a2, .int a3] : List Value).toArray below meth c H locs 0 0 (MQ below (va_Qv post (fw_B D CL cA TK layU b 245) (fw_A b 245)) ([.ref (b + o), .int a1, .int a2, .int a3] : List Value).toArray s 0 0 (fw_A b 245)) (F0 m 63 ls []) := by
      intro S H locs ls hw hP hS hl
      unfold wp_M_card_63 at hw
      exact W.vret hx hb hr (fun t ht hW => ⟨⟨_, rfl, hw, fw_Bof ht hP⟩, hS.F ht⟩) hS.2.2 dd_M_card_63
  have B39 : ∀ (S : fw_S) (p0 : Int32) (H : Heap) (locs : List Loc) (ls : Array Slot), wp_M_card_39 o a1 a2 a3 post S p0 → fw_P D CL cA layU b 245 (fw_v TK layU b S) H → va_S (fw_A b 245) s.heap H locs → lv_has ls 4 [(0, .ref (b + o)), (1, .int a1), (2, .int a2), (3, .int a3)] → W p l e (headSpec ww_M_card rm_M_card).room s m ([.ref (b + o), .int a1, .int a2, .int a3] : List Value).toArray below meth c H locs 0 0 (MQ below (va_Qv post (fw_B D CL cA TK layU b 245) (fw_A b 245)) ([.ref (b + o), .int a1, .int a2, .int a3] : List Value).toArray s 0 0 (fw_A b 245)) (F0 m 39 ls [.int p0, .ref (b + o)]) := by
      intro S p0 H locs ls hw hP hS hl
      unfold wp_M_card_39 at hw
      refine fw_puti hx hb hts in_10 F_ty_10 F_tyok_10 F_nm_10 hown hK hP hS (fw_A.in ho.1) ho (by decide) rfl 0 (by decide) (hts _ (tb_in tw_781)) rfl tk_10_0 (ty := .int) (by decide +kernel) rfl rfl dd_M_card_39 (fun H locs hP hS => ?_)
      obtain ⟨S1, e_S1⟩ : ∃ z, z = fw_si S o 0 p0 := ⟨_, rfl⟩
      rw [← e_S1] at hP
      have hw := hw S1 e_S1
      refine lv_aload_n hx hb dd_M_card_42 rfl (lv_at hl 0 rfl) ?_
      refine fw_geti hx hb hts in_10 hown hK hP ho (by decide) rfl 0 (by decide) (hts _ (tb_in tw_781)) tk_10_0 dd_M_card_43 ?_
      refine lv_if_ne (tgt := 63) hx hb dd_M_card_46 (by decide) (fun h2 => ?_) (fun h2 => ?_)
      · have hw := hw.1 h2
        exact B63 S1 _ _ ls hw hP hS (lv_sub hl [0, 1, 2, 3] rfl)
      · have hw := hw.2 h2
        refine lv_aload_n hx hb dd_M_card_49 rfl (lv_at hl 0 rfl) ?_
        refine fw_getr hx hb hts in_10 hown hK hP ho (by decide) rfl 7 (by decide) (hts _ (tb_in tw_788)) tk_10_7 dd_M_card_50 ?_
        refine lv_iload_n hx hb dd_M_card_53 rfl (lv_at hl 1 rfl) ?_
        refine lv_iload_n hx hb dd_M_card_54 rfl (lv_at hl 2 rfl) ?_
        obtain ⟨h3, hw⟩ := hw
        refine fw_iast hx hb hK hP hS (fw_A.in (lf_10_7 ho).1) (lf_10_7 ho) (by decide) 0 rfl tka_100 h3 dd_M_card_55 (fun H locs hP hS => ?_)
        obtain ⟨S4, e_S4⟩ : ∃ z, z = fw_si S1 (o + 4) a1.toNatClampNeg a2 := ⟨_, rfl⟩
        rw [← e_S4] at hP
        have hw := hw S4 e_S4
        refine lv_aload_n hx hb dd_M_card_56 rfl (lv_at hl 0 rfl) ?_
        refine fw_getr hx hb hts in_10 hown hK hP ho (by decide) rfl 8 (by decide) (hts _ (tb_in tw_789)) tk_10_8 dd_M_card_57 ?_
        refine lv_iload_n hx hb dd_M_card_60 rfl (lv_at hl 1 rfl) ?_
        refine lv_iload_n hx hb dd_M_card_61 rfl (lv_at hl 3 rfl) ?_
        obtain ⟨h5, hw⟩ := hw
        refine fw_iast hx hb hK hP hS (fw_A.in (lf_10_8 ho).1) (lf_10_8 ho) (by decide) 0 rfl tka_100 h5 dd_M_card_62 (fun H locs hP hS => ?_)
        obtain ⟨S6, e_S6⟩ : ∃ z, z = fw_si S4 (o + 5) a1.toNatClampNeg a3 := ⟨_, rfl⟩
        rw [← e_S6] at hP
        have hw := hw S6 e_S6
        exact B63 S6 _ _ ls hw hP hS (lv_sub hl [0, 1, 2, 3] rfl)
  have B38 : ∀ (S : fw_S) (H : Heap) (locs : List Loc) (ls : Array Slot), wp_M_card_38 o a1 a2 a3 post S → fw_P D CL cA layU b 245 (fw_v TK layU b S) H → va_S (fw_A b 245) s.heap H locs → lv_has ls 4 [(0, .ref (b + o)), (1, .int a1), (2, .int a2), (3, .int a3)] → W p l e (headSpec ww_M_card rm_M_card).room s m ([.ref (b + o), .int a1, .int a2, .int a3] : List Value).toArray below meth c H locs 0 0 (MQ below (va_Qv post (fw_B D CL cA TK layU b 245) (fw_A b 245)) ([.ref (b + o), .int a1, .int a2, .int a3] : List Value).toArray s 0 0 (fw_A b 245)) (F0 m 38 ls [.ref (b + o)]) := by
      intro S H locs ls hw hP hS hl
      unfold wp_M_card_38 at hw
      refine lv_iconst (v := 2) hx hb dd_M_card_38 kc_ic_2 ?_
      exact B39 S 2 _ _ ls hw hP hS (lv_sub hl [0, 1, 2, 3] rfl)
  unfold wp_M_card at hw
  refine lv_aload_n hx hb dd_M_card_0 rfl (lv_at hl 0 rfl) ?_
  refine lv_iload_n hx hb dd_M_card_1 rfl (lv_at hl 1 rfl) ?_
  refine lv_iconst (v := 0) hx hb dd_M_card_2 kc_ic_0 ?_
  refine lv_bipush (v := 15) hx hb dd_M_card_3 kc_bp_15 ?_
  refine fw_calli (va_runS (As := [.int a1, .int 0, .int 15]) (rest := [.ref (b + o)]) ⟨hx, hb, hml, hown, hts⟩ (mt_M_isIn l D cA b S a1 0 15 _ hw) (cwS 3 hts (fw_gS tw_913 tw_911 tw_912 tw_11) rfl rfl rfl (by decide +kernel) ⟨Nat.le_of_ble_eq_true rfl, Nat.le_of_ble_eq_true rfl⟩) (fw_preS hP hK) rfl rfl hl.1 rfl (lv_room (Nat.le_of_ble_eq_true rfl)) dd_M_card_5 ⟨Nat.le_of_ble_eq_true rfl, Nat.le_of_ble_eq_true rfl⟩) hS (fun S1 r2 H locs hw hP hS => ?_)
  try dsimp only at hw
  refine lv_if_ne (tgt := 15) hx hb dd_M_card_8 (by decide) (fun h3 => ?_) (fun h3 => ?_)
  · have hw := hw.1 h3
    refine lv_iload_n hx hb dd_M_card_15 rfl (lv_at hl 2 rfl) ?_
    refine lv_iconst (v := 0) hx hb dd_M_card_16 kc_ic_0 ?_
    refine lv_iconst (v := 1) hx hb dd_M_card_17 kc_ic_1 ?_
    refine fw_calli (va_runS (As := [.int a2, .int 0, .int 1]) (rest := [.ref (b + o)]) ⟨hx, hb, hml, hown, hts⟩ (mt_M_isIn l D cA b S1 a2 0 1 _ hw) (cwS 3 hts (fw_gS tw_913 tw_911 tw_912 tw_11) rfl rfl rfl (by decide +kernel) ⟨Nat.le_of_ble_eq_true rfl, Nat.le_of_ble_eq_true rfl⟩) (fw_preS hP hK) rfl rfl hl.1 rfl (lv_room (Nat.le_of_ble_eq_true rfl)) dd_M_card_18 ⟨Nat.le_of_ble_eq_true rfl, Nat.le_of_ble_eq_true rfl⟩) hS (fun S4 r5 H locs hw hP hS => ?_)
    try dsimp only at hw
    refine lv_if_eq (tgt := 38) hx hb dd_M_card_21 (by decide) (fun h6 => ?_) (fun h6 => ?_)
    · have hw := hw.1 h6
      exact B38 S4 _ _ ls hw hP hS (lv_sub hl [0, 1, 2, 3] rfl)
    · have hw := hw.2 h6
      refine lv_iload_n hx hb dd_M_card_24 rfl (lv_at hl 3 rfl) ?_
      refine lv_iconst (v := 0) hx hb dd_M_card_25 kc_ic_0 ?_
      refine lv_bipush (v := 15) hx hb dd_M_card_26 kc_bp_15 ?_
      refine fw_calli (va_runS (As := [.int a3, .int 0, .int 15]) (rest := [.ref (b + o)]) ⟨hx, hb, hml, hown, hts⟩ (mt_M_isIn l D cA b S4 a3 0 15 _ hw) (cwS 3 hts (fw_gS tw_913 tw_911 tw_912 tw_11) rfl rfl rfl (by decide +kernel) ⟨Nat.le_of_ble_eq_true rfl, Nat.le_of_ble_eq_true rfl⟩) (fw_preS hP hK) rfl rfl hl.1 rfl (lv_room (Nat.le_of_ble_eq_true rfl)) dd_M_card_28 ⟨Nat.le_of_ble_eq_true rfl, Nat.le_of_ble_eq_true rfl⟩) hS (fun S7 r8 H locs hw hP hS => ?_)
      try dsimp only at hw
      refine lv_if_eq (tgt := 38) hx hb dd_M_card_31 (by decide) (fun h9 => ?_) (fun h9 => ?_)
      · have hw := hw.1 h9
        exact B38 S7 _ _ ls hw hP hS (lv_sub hl [0, 1, 2, 3] rfl)
      · have hw := hw.2 h9
        refine lv_iconst (v := 0) hx hb dd_M_card_34 kc_ic_0 ?_
        refine lv_goto (tgt := 39) hx hb dd_M_card_35 (by decide) ?_
        exact B39 S7 0 _ _ ls hw hP hS (lv_sub hl [0, 1, 2, 3] rfl)
  · have hw := hw.2 h3
    refine lv_iconst (v := 1) hx hb dd_M_card_11 kc_ic_1 ?_
    refine lv_goto (tgt := 39) hx hb dd_M_card_12 (by decide) ?_
    exact B39 S1 1 _ _ ls hw hP hS (lv_sub hl [0, 1, 2, 3] rfl)
