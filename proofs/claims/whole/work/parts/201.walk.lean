theorem dd_Out_show_33 : decode bb_Out_show 33 = .ok (.astore 4, 2) := by decide +kernel
theorem dd_Out_show_35 : decode bb_Out_show 35 = .ok (.aload_n 3, 1) := by decide +kernel
theorem dd_Out_show_36 : decode bb_Out_show 36 = .ok (.invokevirtual 114, 3) := by decide +kernel
theorem dd_Out_show_39 : decode bb_Out_show 39 = .ok (.ifCond .eq 23, 3) := by decide +kernel
theorem dd_Out_show_42 : decode bb_Out_show 42 = .ok (.aload 4, 2) := by decide +kernel
theorem dd_Out_show_44 : decode bb_Out_show 44 = .ok (.iload_n 2, 1) := by decide +kernel
theorem dd_Out_show_45 : decode bb_Out_show 45 = .ok (.invokevirtual 117, 3) := by decide +kernel
theorem dd_Out_show_48 : decode bb_Out_show 48 = .ok (.ifCond .eq 14, 3) := by decide +kernel
theorem dd_Out_show_51 : decode bb_Out_show 51 = .ok (.aload_n 3, 1) := by decide +kernel
theorem dd_Out_show_52 : decode bb_Out_show 52 = .ok (.iload_n 2, 1) := by decide +kernel
theorem dd_Out_show_53 : decode bb_Out_show 53 = .ok (.aload_n 0, 1) := by decide +kernel
theorem dd_Out_show_54 : decode bb_Out_show 54 = .ok (.getfield 22, 3) := by decide +kernel
theorem dd_Out_show_57 : decode bb_Out_show 57 = .ok (.invokevirtual 121, 3) := by decide +kernel
theorem dd_Out_show_60 : decode bb_Out_show 60 = .ok (.iconst 1, 1) := by decide +kernel
theorem dd_Out_show_61 : decode bb_Out_show 61 = .ok (.ireturn, 1) := by decide +kernel
theorem dd_Out_show_62 : decode bb_Out_show 62 = .ok (.aload_n 3, 1) := by decide +kernel
theorem dd_Out_show_63 : decode bb_Out_show 63 = .ok (.invokevirtual 98, 3) := by decide +kernel
theorem dd_Out_show_66 : decode bb_Out_show 66 = .ok (.ifCond .eq 37, 3) := by decide +kernel
theorem dd_Out_show_69 : decode bb_Out_show 69 = .ok (.aload 4, 2) := by decide +kernel
theorem dd_Out_show_71 : decode bb_Out_show 71 = .ok (.iload_n 2, 1) := by decide +kernel
theorem dd_Out_show_72 : decode bb_Out_show 72 = .ok (.aload_n 3, 1) := by decide +kernel
theorem dd_Out_show_73 : decode bb_Out_show 73 = .ok (.getfield 124, 3) := by decide +kernel
theorem dd_Out_show_76 : decode bb_Out_show 76 = .ok (.invokevirtual 127, 3) := by decide +kernel
theorem dd_Out_show_79 : decode bb_Out_show 79 = .ok (.ifCond .eq 24, 3) := by decide +kernel
theorem dd_Out_show_82 : decode bb_Out_show 82 = .ok (.aload_n 3, 1) := by decide +kernel
theorem dd_Out_show_83 : decode bb_Out_show 83 = .ok (.aload_n 0, 1) := by decide +kernel
theorem dd_Out_show_84 : decode bb_Out_show 84 = .ok (.getfield 22, 3) := by decide +kernel
theorem dd_Out_show_87 : decode bb_Out_show 87 = .ok (.aload_n 3, 1) := by decide +kernel
theorem dd_Out_show_88 : decode bb_Out_show 88 = .ok (.getfield 79, 3) := by decide +kernel
theorem dd_Out_show_91 : decode bb_Out_show 91 = .ok (.aload_n 0, 1) := by decide +kernel
theorem dd_Out_show_92 : decode bb_Out_show 92 = .ok (.getfield 22, 3) := by decide +kernel
theorem dd_Out_show_95 : decode bb_Out_show 95 = .ok (.invokevirtual 101, 3) := by decide +kernel
theorem dd_Out_show_98 : decode bb_Out_show 98 = .ok (.invokevirtual 105, 3) := by decide +kernel
theorem dd_Out_show_101 : decode bb_Out_show 101 = .ok (.iconst 2, 1) := by decide +kernel
theorem dd_Out_show_102 : decode bb_Out_show 102 = .ok (.ireturn, 1) := by decide +kernel
theorem dd_Out_show_103 : decode bb_Out_show 103 = .ok (.iconst 0, 1) := by decide +kernel
theorem dd_Out_show_104 : decode bb_Out_show 104 = .ok (.ireturn, 1) := by decide +kernel
theorem dd_Out_show_0 : decode bb_Out_show 0 = .ok (.aload_n 0, 1) := by decide +kernel
theorem dd_Out_show_1 : decode bb_Out_show 1 = .ok (.iload_n 1, 1) := by decide +kernel
theorem dd_Out_show_2 : decode bb_Out_show 2 = .ok (.invokevirtual 64, 3) := by decide +kernel
theorem dd_Out_show_5 : decode bb_Out_show 5 = .ok (.astore_n 3, 1) := by decide +kernel
theorem dd_Out_show_6 : decode bb_Out_show 6 = .ok (.iload_n 2, 1) := by decide +kernel
theorem dd_Out_show_7 : decode bb_Out_show 7 = .ok (.bipush 16, 2) := by decide +kernel
theorem dd_Out_show_9 : decode bb_Out_show 9 = .ok (.invokestatic 27, 3) := by decide +kernel
theorem dd_Out_show_12 : decode bb_Out_show 12 = .ok (.aload_n 3, 1) := by decide +kernel
theorem dd_Out_show_13 : decode bb_Out_show 13 = .ok (.getfield 111, 3) := by decide +kernel
theorem dd_Out_show_16 : decode bb_Out_show 16 = .ok (.ifCond .eq 13, 3) := by decide +kernel
theorem dd_Out_show_29 : decode bb_Out_show 29 = .ok (.aload_n 3, 1) := by decide +kernel
theorem dd_Out_show_30 : decode bb_Out_show 30 = .ok (.getfield 74, 3) := by decide +kernel
theorem dd_Out_show_19 : decode bb_Out_show 19 = .ok (.aload_n 0, 1) := by decide +kernel
theorem dd_Out_show_20 : decode bb_Out_show 20 = .ok (.getfield 18, 3) := by decide +kernel
theorem dd_Out_show_23 : decode bb_Out_show 23 = .ok (.getfield 55, 3) := by decide +kernel
theorem dd_Out_show_26 : decode bb_Out_show 26 = .ok (.goto 7, 3) := by decide +kernel
def ww_Out_show : List Cond := .code yy_Out_show bb_Out_show 5 (some .int) :: TB
def rm_Out_show : Room := { frames := 8, cells := 2, slots := 12, locals := 142 }
def wp_Out_show_103 (o : Nat) (a1 : Int32) (a2 : Int32) (post : fw_S → Int32 → Prop) (px : Nat → fw_S → Prop) (S : fw_S) (u3 : Nat) (u4 : Nat) : Prop := post S 0
def wp_Out_show_62 (o : Nat) (a1 : Int32) (a2 : Int32) (post : fw_S → Int32 → Prop) (px : Nat → fw_S → Prop) (S : fw_S) (u3 : Nat) (u4 : Nat) : Prop := wp_Point_runs S u3 (fun S1 r2 => (((r2 = 0) → wp_Out_show_103 o a1 a2 post px S1 u3 u4) ∧ (¬ (r2 = 0) → wp_Cards_areOfOneHolder S1 u4 a2 (S1.1 u3 7) (fun S4 r5 => (((r5 = 0) → wp_Out_show_103 o a1 a2 post px S4 u3 u4) ∧ (¬ (r5 = 0) → wp_Car_idleSeconds S4 (u3 + 1) (S4.1 o 2) (fun S7 r8 => wp_Point_end S7 u3 (S4.1 o 2) r8 (fun S9 => post S9 2))))))))
def wp_Out_show_33 (o : Nat) (a1 : Int32) (a2 : Int32) (post : fw_S → Int32 → Prop) (px : Nat → fw_S → Prop) (S : fw_S) (u3 : Nat) (pr0 : Nat) : Prop := wp_Point_mayBegin S u3 (fun S1 r2 => (((r2 = 0) → wp_Out_show_62 o a1 a2 post px S1 u3 pr0) ∧ (¬ (r2 = 0) → wp_Cards_isGood S1 pr0 a2 (fun S4 r5 => (((r5 = 0) → wp_Out_show_62 o a1 a2 post px S4 u3 pr0) ∧ (¬ (r5 = 0) → wp_Point_begin S4 u3 a2 (S4.1 o 2) (fun S7 => post S7 1)))))))
def wp_Out_show (S : fw_S) (o : Nat) (a1 : Int32) (a2 : Int32) (post : fw_S → Int32 → Prop) (px : Nat → fw_S → Prop) : Prop := wp_Out_pointAt S o a1 (fun S1 r2 => wp_Out_checkIndex S1 a2 16 (fun S3 => ((((S3.1 r2 4) = 0) → wp_Out_show_33 o a1 a2 post px S3 r2 (r2 + 28)) ∧ (¬ ((S3.1 r2 4) = 0) → wp_Out_show_33 o a1 a2 post px S3 r2 ((o + 2) + 1)))) px) px
set_option maxHeartbeats 4000000 in
set_option maxRecDepth 100000 in
theorem mt_Out_show (l : Launch) (hl9 : l.stackTraces = false) (D : va_G) (cA : Nat → ClassId) (b : Nat) (S : fw_S) (o : Nat) (a1 : Int32) (a2 : Int32) (ho : o < 245 ∧ layU o = (0, 0)) (post : fw_S → Int32 → Prop) (px : Nat → fw_S → Prop) (hw : wp_Out_show S o a1 a2 post px) : tx_Met l yy_Out_show ww_Out_show rm_Out_show (fw_PcX D CL cA (TYS cA) TK layU b 245 S [.ref (b + o), .int a1, .int a2]) (va_Qi (fun r S' => post S' r) (fw_B D CL cA TK layU b 245) (fw_A b 245)) (fw_X D CL cA TK layU b 245 px) 2 12 (fw_A b 245) := by
  refine tx_ofW (cc := bb_Out_show) (maxL := 5) (ret := (some .int)) (by decide) rfl ?_
  intro p e s m args below meth c s₁ B hml hTab hv
  obtain ⟨rfl, hP, hK, hZ⟩ := hv
  have hx := B.exec
  have hb := B.bytes
  have hr := B.returns
  have hts := atoms_spec (ws := ww_Out_show) B.pre
  have hown : s.vm.findClass "OutletOffice" = some m.cls := findClass_of_methodNamed B.named
  have hlocks := B.notSynchronized
  have hS : va_S (fw_A b 245) s.heap s.heap [] := va_S.rf
  have hl := lv_entry ([.ref (b + o), .int a1, .int a2]) (n := 5) (Nat.le_of_ble_eq_true rfl)
  rw [lg_entry_eq]
  generalize (lg_sl ([.ref (b + o), .int a1, .int a2]) ++ List.replicate (5 - (lg_sl ([.ref (b + o), .int a1, .int a2])).length) Slot.unset).toArray = ls at hl ⊢
  have hl : lv_has ls 5 [(0, .ref (b + o)), (1, .int a1), (2, .int a2)] := hl
  have B103 : ∀ (S : fw_S) (u3 : Nat) (u4 : Nat) (hu3 : u3 < 245 ∧ layU u3 = (2, 0)) (hu4 : u4 < 245 ∧ layU u4 = (6, 0)) (H : Heap) (locs : List Loc) (ls : Array Slot), wp_Out_show_103 o a1 a2 post px S u3 u4 → fw_P D CL cA layU b 245 (fw_v TK layU b S) H → va_S (fw_A b 245) s.heap H locs → lv_has ls 5 [(0, .ref (b + o)), (1, .int a1), (2, .int a2), (3, .ref (b + u3)), (4, .ref (b + u4))] → W p l e (headSpec ww_Out_show rm_Out_show).room s m ([.ref (b + o), .int a1, .int a2] : List Value).toArray below meth c H locs 2 12 (tx_MQ below (va_Qi (fun r S' => post S' r) (fw_B D CL cA TK layU b 245) (fw_A b 245)) (fw_X D CL cA TK layU b 245 px) ([.ref (b + o), .int a1, .int a2] : List Value).toArray s 2 12 (fw_A b 245)) (F0 m 103 ls []) := by
      intro S u3 u4 hu3 hu4 H locs ls hw hP hS hl
      unfold wp_Out_show_103 at hw
      refine lv_iconst (v := 0) hx hb dd_Out_show_103 kc_ic_0 ?_
      refine tx_ret ?_
      exact W.iret (v := 0) hx hb hr (fun t ht hW => ⟨⟨_, _, rfl, hw, fw_Bof ht hP⟩, hS.F ht⟩) hS.2.2 dd_Out_show_104
  have B62 : ∀ (S : fw_S) (u3 : Nat) (u4 : Nat) (hu3 : u3 < 245 ∧ layU u3 = (2, 0)) (hu4 : u4 < 245 ∧ layU u4 = (6, 0)) (H : Heap) (locs : List Loc) (ls : Array Slot), wp_Out_show_62 o a1 a2 post px S u3 u4 → fw_P D CL cA layU b 245 (fw_v TK layU b S) H → va_S (fw_A b 245) s.heap H locs → lv_has ls 5 [(0, .ref (b + o)), (1, .int a1), (2, .int a2), (3, .ref (b + u3)), (4, .ref (b + u4))] → W p l e (headSpec ww_Out_show rm_Out_show).room s m ([.ref (b + o), .int a1, .int a2] : List Value).toArray below meth c H locs 2 12 (tx_MQ below (va_Qi (fun r S' => post S' r) (fw_B D CL cA TK layU b 245) (fw_A b 245)) (fw_X D CL cA TK layU b 245 px) ([.ref (b + o), .int a1, .int a2] : List Value).toArray s 2 12 (fw_A b 245)) (F0 m 62 ls []) := by
      intro S u3 u4 hu3 hu4 H locs ls hw hP hS hl
      unfold wp_Out_show_62 at hw
      refine lv_aload_n hx hb dd_Out_show_62 rfl (lv_at hl 3 rfl) ?_
      refine fw_calli (va_runV (As := []) (rest := []) ⟨hx, hb, hml, hown, hts⟩ (mt_Point_runs l D cA b S u3 hu3 _ hw) (cwV 0 hts (fw_gV tw_498 tw_495 tw_496 tw_497 tw_7) rfl rfl rfl (by decide +kernel) ⟨Nat.le_of_ble_eq_true rfl, Nat.le_of_ble_eq_true rfl⟩) (fw_preV hP hK hu3 (by decide) rfl) rfl rfl hl.1 rfl (lv_room (Nat.le_of_ble_eq_true rfl)) dd_Out_show_63 ⟨Nat.le_of_ble_eq_true rfl, Nat.le_of_ble_eq_true rfl⟩) hS (fun S1 r2 H locs hw hP hS => ?_)
      try dsimp only at hw
      refine lv_if_eq (tgt := 103) hx hb dd_Out_show_66 (by decide) (fun h3 => ?_) (fun h3 => ?_)
      · have hw := hw.1 h3
        exact B103 S1 u3 u4 hu3 hu4 _ _ ls hw hP hS (lv_sub hl [0, 1, 2, 3, 4] rfl)
      · have hw := hw.2 h3
        refine lv_aload hx hb dd_Out_show_69 (lv_at hl 4 rfl) ?_
        refine lv_iload_n hx hb dd_Out_show_71 rfl (lv_at hl 2 rfl) ?_
        refine lv_aload_n hx hb dd_Out_show_72 rfl (lv_at hl 3 rfl) ?_
        refine fw_geti hx hb hts in_2 hown hK hP hu3 (by decide) rfl 7 (by decide) (hts _ (tb_in tw_258)) tk_2_7 dd_Out_show_73 ?_
        refine fw_calli (va_runV (As := [.int a2, .int (S1.1 u3 7)]) (rest := []) ⟨hx, hb, hml, hown, hts⟩ (mt_Cards_areOfOneHolder l D cA b S1 u4 a2 (S1.1 u3 7) hu4 _ hw) (cwV 2 hts (fw_gV tw_546 tw_543 tw_544 tw_545 tw_3) rfl rfl rfl (by decide +kernel) ⟨Nat.le_of_ble_eq_true rfl, Nat.le_of_ble_eq_true rfl⟩) (fw_preV hP hK hu4 (by decide) rfl) rfl rfl hl.1 rfl (lv_room (Nat.le_of_ble_eq_true rfl)) dd_Out_show_76 ⟨Nat.le_of_ble_eq_true rfl, Nat.le_of_ble_eq_true rfl⟩) hS (fun S4 r5 H locs hw hP hS => ?_)
        try dsimp only at hw
        refine lv_if_eq (tgt := 103) hx hb dd_Out_show_79 (by decide) (fun h6 => ?_) (fun h6 => ?_)
        · have hw := hw.1 h6
          exact B103 S4 u3 u4 hu3 hu4 _ _ ls hw hP hS (lv_sub hl [0, 1, 2, 3, 4] rfl)
        · have hw := hw.2 h6
          refine lv_aload_n hx hb dd_Out_show_82 rfl (lv_at hl 3 rfl) ?_
          refine lv_aload_n hx hb dd_Out_show_83 rfl (lv_at hl 0 rfl) ?_
          refine fw_geti hx hb hts in_0 hown hK hP ho (by decide) rfl 2 (by decide) (hts _ (tb_in tw_303)) tk_0_2 dd_Out_show_84 ?_
          refine lv_aload_n hx hb dd_Out_show_87 rfl (lv_at hl 3 rfl) ?_
          refine fw_getr hx hb hts in_2 hown hK hP hu3 (by decide) rfl 0 (by decide) (hts _ (tb_in tw_244)) tk_2_0 dd_Out_show_88 ?_
          refine lv_aload_n hx hb dd_Out_show_91 rfl (lv_at hl 0 rfl) ?_
          refine fw_geti hx hb hts in_0 hown hK hP ho (by decide) rfl 2 (by decide) (hts _ (tb_in tw_303)) tk_0_2 dd_Out_show_92 ?_
          refine fw_calli (va_runV (As := [.int (S4.1 o 2)]) (rest := [.int (S4.1 o 2), .ref (b + u3)]) ⟨hx, hb, hml, hown, hts⟩ (mt_Car_idleSeconds l D cA b S4 (u3 + 1) (S4.1 o 2) (lf_2_0 hu3) _ hw) (cwV 1 hts (fw_gV tw_502 tw_499 tw_500 tw_501 tw_8) rfl rfl rfl (by decide +kernel) ⟨Nat.le_of_ble_eq_true rfl, Nat.le_of_ble_eq_true rfl⟩) (fw_preV hP hK (lf_2_0 hu3) (by decide) rfl) rfl rfl hl.1 rfl (lv_room (Nat.le_of_ble_eq_true rfl)) dd_Out_show_95 ⟨Nat.le_of_ble_eq_true rfl, Nat.le_of_ble_eq_true rfl⟩) hS (fun S7 r8 H locs hw hP hS => ?_)
          try dsimp only at hw
          refine fw_callv (va_runV (As := [.int (S4.1 o 2), .int r8]) (rest := []) ⟨hx, hb, hml, hown, hts⟩ (mt_Point_end l D cA b S7 u3 (S4.1 o 2) r8 hu3 _ hw) (cwV 2 hts (fw_gV tw_506 tw_503 tw_504 tw_505 tw_7) rfl rfl rfl (by decide +kernel) ⟨Nat.le_of_ble_eq_true rfl, Nat.le_of_ble_eq_true rfl⟩) (fw_preV hP hK hu3 (by decide) rfl) rfl rfl hl.1 rfl (lv_room (Nat.le_of_ble_eq_true rfl)) dd_Out_show_98 ⟨Nat.le_of_ble_eq_true rfl, Nat.le_of_ble_eq_true rfl⟩) hS (fun S9 H locs hw hP hS => ?_)
          try dsimp only at hw
          refine lv_iconst (v := 2) hx hb dd_Out_show_101 kc_ic_2 ?_
          refine tx_ret ?_
          exact W.iret (v := 2) hx hb hr (fun t ht hW => ⟨⟨_, _, rfl, hw, fw_Bof ht hP⟩, hS.F ht⟩) hS.2.2 dd_Out_show_102
  have B33 : ∀ (S : fw_S) (u3 : Nat) (pr0 : Nat) (hu3 : u3 < 245 ∧ layU u3 = (2, 0)) (hpr0 : pr0 < 245 ∧ layU pr0 = (6, 0)) (H : Heap) (locs : List Loc) (ls : Array Slot), wp_Out_show_33 o a1 a2 post px S u3 pr0 → fw_P D CL cA layU b 245 (fw_v TK layU b S) H → va_S (fw_A b 245) s.heap H locs → lv_has ls 5 [(0, .ref (b + o)), (1, .int a1), (2, .int a2), (3, .ref (b + u3))] → W p l e (headSpec ww_Out_show rm_Out_show).room s m ([.ref (b + o), .int a1, .int a2] : List Value).toArray below meth c H locs 2 12 (tx_MQ below (va_Qi (fun r S' => post S' r) (fw_B D CL cA TK layU b 245) (fw_A b 245)) (fw_X D CL cA TK layU b 245 px) ([.ref (b + o), .int a1, .int a2] : List Value).toArray s 2 12 (fw_A b 245)) (F0 m 33 ls [.ref (b + pr0)]) := by
      intro S u3 pr0 hu3 hpr0 H locs ls hw hP hS hl
      unfold wp_Out_show_33 at hw
      refine lv_astore hx hb dd_Out_show_33 hl (Nat.le_of_ble_eq_true rfl) rfl (fun ls hl => ?_)
      have hl : lv_has ls 5 [(4, .ref (b + pr0)), (0, .ref (b + o)), (1, .int a1), (2, .int a2), (3, .ref (b + u3))] := hl
      refine lv_aload_n hx hb dd_Out_show_35 rfl (lv_at hl 4 rfl) ?_
      refine fw_calli (va_runV (As := []) (rest := []) ⟨hx, hb, hml, hown, hts⟩ (mt_Point_mayBegin l D cA b S u3 hu3 _ hw) (cwV 0 hts (fw_gV tw_534 tw_531 tw_532 tw_533 tw_7) rfl rfl rfl (by decide +kernel) ⟨Nat.le_of_ble_eq_true rfl, Nat.le_of_ble_eq_true rfl⟩) (fw_preV hP hK hu3 (by decide) rfl) rfl rfl hl.1 rfl (lv_room (Nat.le_of_ble_eq_true rfl)) dd_Out_show_36 ⟨Nat.le_of_ble_eq_true rfl, Nat.le_of_ble_eq_true rfl⟩) hS (fun S1 r2 H locs hw hP hS => ?_)
      try dsimp only at hw
      refine lv_if_eq (tgt := 62) hx hb dd_Out_show_39 (by decide) (fun h3 => ?_) (fun h3 => ?_)
      · have hw := hw.1 h3
        exact B62 S1 u3 pr0 hu3 hpr0 _ _ ls hw hP hS (lv_sub hl [1, 2, 3, 4, 0] rfl)
      · have hw := hw.2 h3
        refine lv_aload hx hb dd_Out_show_42 (lv_at hl 0 rfl) ?_
        refine lv_iload_n hx hb dd_Out_show_44 rfl (lv_at hl 3 rfl) ?_
        refine fw_calli (va_runV (As := [.int a2]) (rest := []) ⟨hx, hb, hml, hown, hts⟩ (mt_Cards_isGood l D cA b S1 pr0 a2 hpr0 _ hw) (cwV 1 hts (fw_gV tw_538 tw_535 tw_536 tw_537 tw_3) rfl rfl rfl (by decide +kernel) ⟨Nat.le_of_ble_eq_true rfl, Nat.le_of_ble_eq_true rfl⟩) (fw_preV hP hK hpr0 (by decide) rfl) rfl rfl hl.1 rfl (lv_room (Nat.le_of_ble_eq_true rfl)) dd_Out_show_45 ⟨Nat.le_of_ble_eq_true rfl, Nat.le_of_ble_eq_true rfl⟩) hS (fun S4 r5 H locs hw hP hS => ?_)
        try dsimp only at hw
        refine lv_if_eq (tgt := 62) hx hb dd_Out_show_48 (by decide) (fun h6 => ?_) (fun h6 => ?_)
        · have hw := hw.1 h6
          exact B62 S4 u3 pr0 hu3 hpr0 _ _ ls hw hP hS (lv_sub hl [1, 2, 3, 4, 0] rfl)
        · have hw := hw.2 h6
          refine lv_aload_n hx hb dd_Out_show_51 rfl (lv_at hl 4 rfl) ?_
          refine lv_iload_n hx hb dd_Out_show_52 rfl (lv_at hl 3 rfl) ?_
          refine lv_aload_n hx hb dd_Out_show_53 rfl (lv_at hl 1 rfl) ?_
          refine fw_geti hx hb hts in_0 hown hK hP ho (by decide) rfl 2 (by decide) (hts _ (tb_in tw_303)) tk_0_2 dd_Out_show_54 ?_
          refine fw_callv (va_runV (As := [.int a2, .int (S4.1 o 2)]) (rest := []) ⟨hx, hb, hml, hown, hts⟩ (mt_Point_begin l D cA b S4 u3 a2 (S4.1 o 2) hu3 _ hw) (cwV 2 hts (fw_gV tw_542 tw_539 tw_540 tw_541 tw_7) rfl rfl rfl (by decide +kernel) ⟨Nat.le_of_ble_eq_true rfl, Nat.le_of_ble_eq_true rfl⟩) (fw_preV hP hK hu3 (by decide) rfl) rfl rfl hl.1 rfl (lv_room (Nat.le_of_ble_eq_true rfl)) dd_Out_show_57 ⟨Nat.le_of_ble_eq_true rfl, Nat.le_of_ble_eq_true rfl⟩) hS (fun S7 H locs hw hP hS => ?_)
          try dsimp only at hw
          refine lv_iconst (v := 1) hx hb dd_Out_show_60 kc_ic_1 ?_
          refine tx_ret ?_
          exact W.iret (v := 1) hx hb hr (fun t ht hW => ⟨⟨_, _, rfl, hw, fw_Bof ht hP⟩, hS.F ht⟩) hS.2.2 dd_Out_show_61
  unfold wp_Out_show at hw
  refine lv_aload_n hx hb dd_Out_show_0 rfl (lv_at hl 0 rfl) ?_
  refine lv_iload_n hx hb dd_Out_show_1 rfl (lv_at hl 1 rfl) ?_
  refine tx_callr (tx_runV (As := [.int a1]) (rest := []) ⟨hx, hb, hml, hown, hts⟩ (mt_Out_pointAt l hl9 D cA b S o a1 ho _ _ hw) (cwV 1 hts (fw_gV tw_458 tw_455 tw_457 ts_1 tw_1) rfl rfl rfl (by decide +kernel) ⟨Nat.le_of_ble_eq_true rfl, Nat.le_of_ble_eq_true rfl⟩) (fw_preVX hP hK hZ hS ho (by decide) rfl) rfl rfl hl.1 rfl (lv_room (Nat.le_of_ble_eq_true rfl)) dd_Out_show_2 ⟨Nat.le_of_ble_eq_true rfl, Nat.le_of_ble_eq_true rfl⟩) hS (fun k9 S9 q9 ce9 H locs hw hP hS hce => tx_outF hTab hlocks hw hP hS hce (Nat.le_of_ble_eq_true rfl) (Nat.le_of_ble_eq_true rfl)) (fun S1 r2 H locs hw h_r2 hP hS => ?_)
  try dsimp only at hw
  refine lv_astore_n hx hb dd_Out_show_5 rfl hl (Nat.le_of_ble_eq_true rfl) rfl (fun ls hl => ?_)
  have hl : lv_has ls 5 [(3, .ref (b + r2)), (0, .ref (b + o)), (1, .int a1), (2, .int a2)] := hl
  refine lv_iload_n hx hb dd_Out_show_6 rfl (lv_at hl 3 rfl) ?_
  refine lv_bipush (v := 16) hx hb dd_Out_show_7 kc_bp_16 ?_
  refine tx_callv (tx_runS (As := [.int a2, .int 16]) (rest := []) ⟨hx, hb, hml, hown, hts⟩ (mt_Out_checkIndex l hl9 D cA b S1 a2 16 _ _ hw) (cwS 2 hts (fw_gS tw_330 tw_328 tw_329 tw_1) rfl rfl rfl (by decide +kernel) ⟨Nat.le_of_ble_eq_true rfl, Nat.le_of_ble_eq_true rfl⟩) (fw_preSX hP hK hZ hS) rfl rfl hl.1 rfl (lv_room (Nat.le_of_ble_eq_true rfl)) dd_Out_show_9 ⟨Nat.le_of_ble_eq_true rfl, Nat.le_of_ble_eq_true rfl⟩) hS (fun k9 S9 q9 ce9 H locs hw hP hS hce => tx_outF hTab hlocks hw hP hS hce (Nat.le_of_ble_eq_true rfl) (Nat.le_of_ble_eq_true rfl)) (fun S3 H locs hw hP hS => ?_)
  try dsimp only at hw
  refine lv_aload_n hx hb dd_Out_show_12 rfl (lv_at hl 0 rfl) ?_
  refine fw_geti hx hb hts in_2 hown hK hP h_r2 (by decide) rfl 4 (by decide) (hts _ (tb_in tw_252)) tk_2_4 dd_Out_show_13 ?_
  refine lv_if_eq (tgt := 29) hx hb dd_Out_show_16 (by decide) (fun h4 => ?_) (fun h4 => ?_)
  · have hw := hw.1 h4
    refine lv_aload_n hx hb dd_Out_show_29 rfl (lv_at hl 0 rfl) ?_
    refine fw_getr hx hb hts in_2 hown hK hP h_r2 (by decide) rfl 2 (by decide) (hts _ (tb_in tw_248)) tk_2_2 dd_Out_show_30 ?_
    exact B33 S3 r2 (r2 + 28) h_r2 (lf_2_2 h_r2) _ _ ls hw hP hS (lv_sub hl [1, 2, 3, 0] rfl)
  · have hw := hw.2 h4
    refine lv_aload_n hx hb dd_Out_show_19 rfl (lv_at hl 1 rfl) ?_
    refine fw_getr hx hb hts in_0 hown hK hP ho (by decide) rfl 1 (by decide) (hts _ (tb_in tw_302)) tk_0_1 dd_Out_show_20 ?_
    refine fw_getr hx hb hts in_9 hown hK hP (lf_0_1 ho) (by decide) rfl 0 (by decide) (hts _ (tb_in tw_112)) tk_9_0 dd_Out_show_23 ?_
    refine lv_goto (tgt := 33) hx hb dd_Out_show_26 (by decide) ?_
    exact B33 S3 r2 ((o + 2) + 1) h_r2 (lf_9_0 (lf_0_1 ho)) _ _ ls hw hP hS (lv_sub hl [1, 2, 3, 0] rfl)
theorem dd_Out_line_0 : decode bb_Out_line 0 = .ok (.aload_n 0, 1) := by decide +kernel
theorem dd_Out_line_1 : decode bb_Out_line 1 = .ok (.iload_n 1, 1) := by decide +kernel
theorem dd_Out_line_2 : decode bb_Out_line 2 = .ok (.invokevirtual 64, 3) := by decide +kernel
theorem dd_Out_line_5 : decode bb_Out_line 5 = .ok (.iload_n 2, 1) := by decide +kernel
theorem dd_Out_line_6 : decode bb_Out_line 6 = .ok (.invokevirtual 131, 3) := by decide +kernel
theorem dd_Out_line_9 : decode bb_Out_line 9 = .ok (.return_, 1) := by decide +kernel
def ww_Out_line : List Cond := .code yy_Out_line bb_Out_line 3 none :: TB
def rm_Out_line : Room := { frames := 8, cells := 1, slots := 6, locals := 142 }
def wp_Out_line (S : fw_S) (o : Nat) (a1 : Int32) (a2 : Int32) (post : fw_S → Prop) (px : Nat → fw_S → Prop) : Prop := wp_Out_pointAt S o a1 (fun S1 r2 => wp_Point_setLine S1 r2 a2 (fun S3 => post S3)) px
set_option maxHeartbeats 4000000 in
set_option maxRecDepth 100000 in
theorem mt_Out_line (l : Launch) (hl9 : l.stackTraces = false) (D : va_G) (cA : Nat → ClassId) (b : Nat) (S : fw_S) (o : Nat) (a1 : Int32) (a2 : Int32) (ho : o < 245 ∧ layU o = (0, 0)) (post : fw_S → Prop) (px : Nat → fw_S → Prop) (hw : wp_Out_line S o a1 a2 post px) : tx_Met l yy_Out_line ww_Out_line rm_Out_line (fw_PcX D CL cA (TYS cA) TK layU b 245 S [.ref (b + o), .int a1, .int a2]) (va_Qv post (fw_B D CL cA TK layU b 245) (fw_A b 245)) (fw_X D CL cA TK layU b 245 px) 1 6 (fw_A b 245) := by
  refine tx_ofW (cc := bb_Out_line) (maxL := 3) (ret := none) (by decide) rfl ?_
  intro p e s m args below meth c s₁ B hml hTab hv
  obtain ⟨rfl, hP, hK, hZ⟩ := hv
  have hx := B.exec
  have hb := B.bytes
  have hr := B.returns
  have hts := atoms_spec (ws := ww_Out_line) B.pre
  have hown : s.vm.findClass "OutletOffice" = some m.cls := findClass_of_methodNamed B.named
  have hlocks := B.notSynchronized
  have hS : va_S (fw_A b 245) s.heap s.heap [] := va_S.rf
  have hl := lv_entry ([.ref (b + o), .int a1, .int a2]) (n := 3) (Nat.le_of_ble_eq_true rfl)
  rw [lg_entry_eq]
  generalize (lg_sl ([.ref (b + o), .int a1, .int a2]) ++ List.replicate (3 - (lg_sl ([.ref (b + o), .int a1, .int a2])).length) Slot.unset).toArray = ls at hl ⊢
  have hl : lv_has ls 3 [(0, .ref (b + o)), (1, .int a1), (2, .int a2)] := hl
  unfold wp_Out_line at hw
  refine lv_aload_n hx hb dd_Out_line_0 rfl (lv_at hl 0 rfl) ?_
  refine lv_iload_n hx hb dd_Out_line_1 rfl (lv_at hl 1 rfl) ?_
  refine tx_callr (tx_runV (As := [.int a1]) (rest := []) ⟨hx, hb, hml, hown, hts⟩ (mt_Out_pointAt l hl9 D cA b S o a1 ho _ _ hw) (cwV 1 hts (fw_gV tw_458 tw_455 tw_457 ts_1 tw_1) rfl rfl rfl (by decide +kernel) ⟨Nat.le_of_ble_eq_true rfl, Nat.le_of_ble_eq_true rfl⟩) (fw_preVX hP hK hZ hS ho (by decide) rfl) rfl rfl hl.1 rfl (lv_room (Nat.le_of_ble_eq_true rfl)) dd_Out_line_2 ⟨Nat.le_of_ble_eq_true rfl, Nat.le_of_ble_eq_true rfl⟩) hS (fun k9 S9 q9 ce9 H locs hw hP hS hce => tx_outF hTab hlocks hw hP hS hce (Nat.le_of_ble_eq_true rfl) (Nat.le_of_ble_eq_true rfl)) (fun S1 r2 H locs hw h_r2 hP hS => ?_)
  try dsimp only at hw
  refine lv_iload_n hx hb dd_Out_line_5 rfl (lv_at hl 2 rfl) ?_
  refine fw_callv (va_runV (As := [.int a2]) (rest := []) ⟨hx, hb, hml, hown, hts⟩ (mt_Point_setLine l D cA b S1 r2 a2 h_r2 _ hw) (cwV 1 hts (fw_gV tw_557 tw_554 tw_555 tw_556 tw_7) rfl rfl rfl (by decide +kernel) ⟨Nat.le_of_ble_eq_true rfl, Nat.le_of_ble_eq_true rfl⟩) (fw_preV hP hK h_r2 (by decide) rfl) rfl rfl hl.1 rfl (lv_room (Nat.le_of_ble_eq_true rfl)) dd_Out_line_6 ⟨Nat.le_of_ble_eq_true rfl, Nat.le_of_ble_eq_true rfl⟩) hS (fun S3 H locs hw hP hS => ?_)
  try dsimp only at hw
  refine tx_ret ?_
  exact W.vret hx hb hr (fun t ht hW => ⟨⟨_, rfl, hw, fw_Bof ht hP⟩, hS.F ht⟩) hS.2.2 dd_Out_line_9
theorem dd_Out_power_0 : decode bb_Out_power 0 = .ok (.aload_n 0, 1) := by decide +kernel
theorem dd_Out_power_1 : decode bb_Out_power 1 = .ok (.iload_n 1, 1) := by decide +kernel
theorem dd_Out_power_2 : decode bb_Out_power 2 = .ok (.invokevirtual 64, 3) := by decide +kernel
theorem dd_Out_power_5 : decode bb_Out_power 5 = .ok (.iload_n 2, 1) := by decide +kernel
theorem dd_Out_power_6 : decode bb_Out_power 6 = .ok (.aload_n 0, 1) := by decide +kernel
theorem dd_Out_power_7 : decode bb_Out_power 7 = .ok (.getfield 22, 3) := by decide +kernel
theorem dd_Out_power_10 : decode bb_Out_power 10 = .ok (.invokevirtual 135, 3) := by decide +kernel
theorem dd_Out_power_13 : decode bb_Out_power 13 = .ok (.return_, 1) := by decide +kernel
def ww_Out_power : List Cond := .code yy_Out_power bb_Out_power 3 none :: TB
def rm_Out_power : Room := { frames := 8, cells := 1, slots := 6, locals := 142 }
def wp_Out_power (S : fw_S) (o : Nat) (a1 : Int32) (a2 : Int32) (post : fw_S → Prop) (px : Nat → fw_S → Prop) : Prop := wp_Out_pointAt S o a1 (fun S1 r2 => wp_Point_setPower S1 r2 a2 (S1.1 o 2) (fun S3 => post S3)) px
set_option maxHeartbeats 4000000 in
set_option maxRecDepth 100000 in
theorem mt_Out_power (l : Launch) (hl9 : l.stackTraces = false) (D : va_G) (cA : Nat → ClassId) (b : Nat) (S : fw_S) (o : Nat) (a1 : Int32) (a2 : Int32) (ho : o < 245 ∧ layU o = (0, 0)) (post : fw_S → Prop) (px : Nat → fw_S → Prop) (hw : wp_Out_power S o a1 a2 post px) : tx_Met l yy_Out_power ww_Out_power rm_Out_power (fw_PcX D CL cA (TYS cA) TK layU b 245 S [.ref (b + o), .int a1, .int a2]) (va_Qv post (fw_B D CL cA TK layU b 245) (fw_A b 245)) (fw_X D CL cA TK layU b 245 px) 1 6 (fw_A b 245) := by
  refine tx_ofW (cc := bb_Out_power) (maxL := 3) (ret := none) (by decide) rfl ?_
  intro p e s m args below meth c s₁ B hml hTab hv
  obtain ⟨rfl, hP, hK, hZ⟩ := hv
  have hx := B.exec
  have hb := B.bytes
  have hr := B.returns
  have hts := atoms_spec (ws := ww_Out_power) B.pre
  have hown : s.vm.findClass "OutletOffice" = some m.cls := findClass_of_methodNamed B.named
  have hlocks := B.notSynchronized
  have hS : va_S (fw_A b 245) s.heap s.heap [] := va_S.rf
  have hl := lv_entry ([.ref (b + o), .int a1, .int a2]) (n := 3) (Nat.le_of_ble_eq_true rfl)
  rw [lg_entry_eq]
  generalize (lg_sl ([.ref (b + o), .int a1, .int a2]) ++ List.replicate (3 - (lg_sl ([.ref (b + o), .int a1, .int a2])).length) Slot.unset).toArray = ls at hl ⊢
  have hl : lv_has ls 3 [(0, .ref (b + o)), (1, .int a1), (2, .int a2)] := hl
  unfold wp_Out_power at hw
  refine lv_aload_n hx hb dd_Out_power_0 rfl (lv_at hl 0 rfl) ?_
  refine lv_iload_n hx hb dd_Out_power_1 rfl (lv_at hl 1 rfl) ?_
  refine tx_callr (tx_runV (As := [.int a1]) (rest := []) ⟨hx, hb, hml, hown, hts⟩ (mt_Out_pointAt l hl9 D cA b S o a1 ho _ _ hw) (cwV 1 hts (fw_gV tw_458 tw_455 tw_457 ts_1 tw_1) rfl rfl rfl (by decide +kernel) ⟨Nat.le_of_ble_eq_true rfl, Nat.le_of_ble_eq_true rfl⟩) (fw_preVX hP hK hZ hS ho (by decide) rfl) rfl rfl hl.1 rfl (lv_room (Nat.le_of_ble_eq_true rfl)) dd_Out_power_2 ⟨Nat.le_of_ble_eq_true rfl, Nat.le_of_ble_eq_true rfl⟩) hS (fun k9 S9 q9 ce9 H locs hw hP hS hce => tx_outF hTab hlocks hw hP hS hce (Nat.le_of_ble_eq_true rfl) (Nat.le_of_ble_eq_true rfl)) (fun S1 r2 H locs hw h_r2 hP hS => ?_)
  try dsimp only at hw
  refine lv_iload_n hx hb dd_Out_power_5 rfl (lv_at hl 2 rfl) ?_
  refine lv_aload_n hx hb dd_Out_power_6 rfl (lv_at hl 0 rfl) ?_
  refine fw_geti hx hb hts in_0 hown hK hP ho (by decide) rfl 2 (by decide) (hts _ (tb_in tw_303)) tk_0_2 dd_Out_power_7 ?_
  refine fw_callv (va_runV (As := [.int a2, .int (S1.1 o 2)]) (rest := []) ⟨hx, hb, hml, hown, hts⟩ (mt_Point_setPower l D cA b S1 r2 a2 (S1.1 o 2) h_r2 _ hw) (cwV 2 hts (fw_gV tw_573 tw_570 tw_571 tw_572 tw_7) rfl rfl rfl (by decide +kernel) ⟨Nat.le_of_ble_eq_true rfl, Nat.le_of_ble_eq_true rfl⟩) (fw_preV hP hK h_r2 (by decide) rfl) rfl rfl hl.1 rfl (lv_room (Nat.le_of_ble_eq_true rfl)) dd_Out_power_10 ⟨Nat.le_of_ble_eq_true rfl, Nat.le_of_ble_eq_true rfl⟩) hS (fun S3 H locs hw hP hS => ?_)
  try dsimp only at hw
  refine tx_ret ?_
  exact W.vret hx hb hr (fun t ht hW => ⟨⟨_, rfl, hw, fw_Bof ht hP⟩, hS.F ht⟩) hS.2.2 dd_Out_power_13
theorem dd_Out_carry_63 : decode bb_Out_carry 63 = .ok (.iload_n 3, 1) := by decide +kernel
theorem dd_Out_carry_64 : decode bb_Out_carry 64 = .ok (.ireturn, 1) := by decide +kernel
theorem dd_Out_carry_0 : decode bb_Out_carry 0 = .ok (.aload_n 0, 1) := by decide +kernel
theorem dd_Out_carry_1 : decode bb_Out_carry 1 = .ok (.iload_n 1, 1) := by decide +kernel
theorem dd_Out_carry_2 : decode bb_Out_carry 2 = .ok (.invokevirtual 64, 3) := by decide +kernel
theorem dd_Out_carry_5 : decode bb_Out_carry 5 = .ok (.astore_n 2, 1) := by decide +kernel
theorem dd_Out_carry_6 : decode bb_Out_carry 6 = .ok (.aload_n 2, 1) := by decide +kernel
theorem dd_Out_carry_7 : decode bb_Out_carry 7 = .ok (.getfield 139, 3) := by decide +kernel
theorem dd_Out_carry_10 : decode bb_Out_carry 10 = .ok (.istore_n 3, 1) := by decide +kernel
theorem dd_Out_carry_11 : decode bb_Out_carry 11 = .ok (.iload_n 3, 1) := by decide +kernel
theorem dd_Out_carry_12 : decode bb_Out_carry 12 = .ok (.iconst 1, 1) := by decide +kernel
theorem dd_Out_carry_13 : decode bb_Out_carry 13 = .ok (.if_icmp .ne 33, 3) := by decide +kernel
theorem dd_Out_carry_46 : decode bb_Out_carry 46 = .ok (.iload_n 3, 1) := by decide +kernel
theorem dd_Out_carry_47 : decode bb_Out_carry 47 = .ok (.iconst 2, 1) := by decide +kernel
theorem dd_Out_carry_48 : decode bb_Out_carry 48 = .ok (.if_icmp .ne 15, 3) := by decide +kernel
theorem dd_Out_carry_51 : decode bb_Out_carry 51 = .ok (.aload_n 2, 1) := by decide +kernel
theorem dd_Out_carry_52 : decode bb_Out_carry 52 = .ok (.getfield 142, 3) := by decide +kernel
theorem dd_Out_carry_55 : decode bb_Out_carry 55 = .ok (.invokevirtual 160, 3) := by decide +kernel
theorem dd_Out_carry_58 : decode bb_Out_carry 58 = .ok (.aload_n 2, 1) := by decide +kernel
theorem dd_Out_carry_59 : decode bb_Out_carry 59 = .ok (.iconst 0, 1) := by decide +kernel
theorem dd_Out_carry_60 : decode bb_Out_carry 60 = .ok (.putfield 139, 3) := by decide +kernel
theorem dd_Out_carry_16 : decode bb_Out_carry 16 = .ok (.aload_n 0, 1) := by decide +kernel
theorem dd_Out_carry_17 : decode bb_Out_carry 17 = .ok (.getfield 18, 3) := by decide +kernel
theorem dd_Out_carry_20 : decode bb_Out_carry 20 = .ok (.iload_n 1, 1) := by decide +kernel
theorem dd_Out_carry_21 : decode bb_Out_carry 21 = .ok (.aload_n 2, 1) := by decide +kernel
theorem dd_Out_carry_22 : decode bb_Out_carry 22 = .ok (.getfield 142, 3) := by decide +kernel
theorem dd_Out_carry_25 : decode bb_Out_carry 25 = .ok (.invokevirtual 146, 3) := by decide +kernel
theorem dd_Out_carry_28 : decode bb_Out_carry 28 = .ok (.aload_n 2, 1) := by decide +kernel
theorem dd_Out_carry_29 : decode bb_Out_carry 29 = .ok (.getfield 142, 3) := by decide +kernel
theorem dd_Out_carry_32 : decode bb_Out_carry 32 = .ok (.invokevirtual 152, 3) := by decide +kernel
theorem dd_Out_carry_35 : decode bb_Out_carry 35 = .ok (.invokevirtual 156, 3) := by decide +kernel
theorem dd_Out_carry_38 : decode bb_Out_carry 38 = .ok (.aload_n 2, 1) := by decide +kernel
theorem dd_Out_carry_39 : decode bb_Out_carry 39 = .ok (.iconst 2, 1) := by decide +kernel
theorem dd_Out_carry_40 : decode bb_Out_carry 40 = .ok (.putfield 139, 3) := by decide +kernel
theorem dd_Out_carry_43 : decode bb_Out_carry 43 = .ok (.goto 20, 3) := by decide +kernel
def ww_Out_carry : List Cond := .code yy_Out_carry bb_Out_carry 4 (some .int) :: TB
def rm_Out_carry : Room := { frames := 8, cells := 1, slots := 6, locals := 142 }
def wp_Out_carry_63 (o : Nat) (a1 : Int32) (post : fw_S → Int32 → Prop) (px : Nat → fw_S → Prop) (S : fw_S) (u2 : Nat) (x3 : Int32) : Prop := post S x3
def wp_Out_carry (S : fw_S) (o : Nat) (a1 : Int32) (post : fw_S → Int32 → Prop) (px : Nat → fw_S → Prop) : Prop := wp_Out_pointAt S o a1 (fun S1 r2 => ∀ v3 : Int32, v3 = (S1.1 r2 9) → ((¬ (v3 = 1) → ((¬ (v3 = 2) → wp_Out_carry_63 o a1 post px S1 r2 v3) ∧ ((v3 = 2) → wp_Queue_removeFirst S1 (r2 + 2) (fun S6 => ∀ S7 : fw_S, S7 = fw_si S6 r2 9 0 → wp_Out_carry_63 o a1 post px S7 r2 v3)))) ∧ ((v3 = 1) → wp_Queue_firstNumber S1 (r2 + 2) (fun S8 r9 => wp_Queue_first S8 (r2 + 2) (fun S10 r11 => wp_Office_takeIn S10 (o + 2) a1 r9 r11 (fun S12 => ∀ S13 : fw_S, S13 = fw_si S12 r2 9 2 → wp_Out_carry_63 o a1 post px S13 r2 v3)))))) px
set_option maxHeartbeats 4000000 in
set_option maxRecDepth 100000 in
theorem mt_Out_carry (l : Launch) (hl9 : l.stackTraces = false) (D : va_G) (cA : Nat → ClassId) (b : Nat) (S : fw_S) (o : Nat) (a1 : Int32) (ho : o < 245 ∧ layU o = (0, 0)) (post : fw_S → Int32 → Prop) (px : Nat → fw_S → Prop) (hw : wp_Out_carry S o a1 post px) : tx_Met l yy_Out_carry ww_Out_carry rm_Out_carry (fw_PcX D CL cA (TYS cA) TK layU b 245 S [.ref (b + o), .int a1]) (va_Qi (fun r S' => post S' r) (fw_B D CL cA TK layU b 245) (fw_A b 245)) (fw_X D CL cA TK layU b 245 px) 1 6 (fw_A b 245) := by
  refine tx_ofW (cc := bb_Out_carry) (maxL := 4) (ret := (some .int)) (by decide) rfl ?_
  intro p e s m args below meth c s₁ B hml hTab hv
  obtain ⟨rfl, hP, hK, hZ⟩ := hv
  have hx := B.exec
  have hb := B.bytes
  have hr := B.returns
  have hts := atoms_spec (ws := ww_Out_carry) B.pre
  have hown : s.vm.findClass "OutletOffice" = some m.cls := findClass_of_methodNamed B.named
  have hlocks := B.notSynchronized
  have hS : va_S (fw_A b 245) s.heap s.heap [] := va_S.rf
  have hl := lv_entry ([.ref (b + o), .int a1]) (n := 4) (Nat.le_of_ble_eq_true rfl)
  rw [lg_entry_eq]
  generalize (lg_sl ([.ref (b + o), .int a1]) ++ List.replicate (4 - (lg_sl ([.ref (b + o), .int a1])).length) Slot.unset).toArray = ls at hl ⊢
  have hl : lv_has ls 4 [(0, .ref (b + o)), (1, .int a1)] := hl
  have B63 : ∀ (S : fw_S) (u2 : Nat) (x3 : Int32) (hu2 : u2 < 245 ∧ layU u2 = (2, 0)) (H : Heap) (locs : List Loc) (ls : Array Slot), wp_Out_carry_63 o a1 post px S u2 x3 → fw_P D CL cA layU b 245 (fw_v TK layU b S) H → va_S (fw_A b 245) s.heap H locs → lv_has ls 4 [(0, .ref (b + o)), (1, .int a1), (2, .ref (b + u2)), (3, .int x3)] → W p l e (headSpec ww_Out_carry rm_Out_carry).room s m ([.ref (b + o), .int a1] : List Value).toArray below meth c H locs 1 6 (tx_MQ below (va_Qi (fun r S' => post S' r) (fw_B D CL cA TK layU b 245) (fw_A b 245)) (fw_X D CL cA TK layU b 245 px) ([.ref (b + o), .int a1] : List Value).toArray s 1 6 (fw_A b 245)) (F0 m 63 ls []) := by
      intro S u2 x3 hu2 H locs ls hw hP hS hl
      unfold wp_Out_carry_63 at hw
      refine lv_iload_n hx hb dd_Out_carry_63 rfl (lv_at hl 3 rfl) ?_
      refine tx_ret ?_
      exact W.iret (v := x3) hx hb hr (fun t ht hW => ⟨⟨_, _, rfl, hw, fw_Bof ht hP⟩, hS.F ht⟩) hS.2.2 dd_Out_carry_64
  unfold wp_Out_carry at hw
  refine lv_aload_n hx hb dd_Out_carry_0 rfl (lv_at hl 0 rfl) ?_
  refine lv_iload_n hx hb dd_Out_carry_1 rfl (lv_at hl 1 rfl) ?_
  refine tx_callr (tx_runV (As := [.int a1]) (rest := []) ⟨hx, hb, hml, hown, hts⟩ (mt_Out_pointAt l hl9 D cA b S o a1 ho _ _ hw) (cwV 1 hts (fw_gV tw_458 tw_455 tw_457 ts_1 tw_1) rfl rfl rfl (by decide +kernel) ⟨Nat.le_of_ble_eq_true rfl, Nat.le_of_ble_eq_true rfl⟩) (fw_preVX hP hK hZ hS ho (by decide) rfl) rfl rfl hl.1 rfl (lv_room (Nat.le_of_ble_eq_true rfl)) dd_Out_carry_2 ⟨Nat.le_of_ble_eq_true rfl, Nat.le_of_ble_eq_true rfl⟩) hS (fun k9 S9 q9 ce9 H locs hw hP hS hce => tx_outF hTab hlocks hw hP hS hce (Nat.le_of_ble_eq_true rfl) (Nat.le_of_ble_eq_true rfl)) (fun S1 r2 H locs hw h_r2 hP hS => ?_)
  try dsimp only at hw
  refine lv_astore_n hx hb dd_Out_carry_5 rfl hl (Nat.le_of_ble_eq_true rfl) rfl (fun ls hl => ?_)
  have hl : lv_has ls 4 [(2, .ref (b + r2)), (0, .ref (b + o)), (1, .int a1)] := hl
  refine lv_aload_n hx hb dd_Out_carry_6 rfl (lv_at hl 0 rfl) ?_
  refine fw_geti hx hb hts in_2 hown hK hP h_r2 (by decide) rfl 9 (by decide) (hts _ (tb_in tw_261)) tk_2_9 dd_Out_carry_7 ?_
  refine lv_topi (fun v3 e_v3 => ?_)
  have hw := hw v3 e_v3
  refine lv_istore_n hx hb dd_Out_carry_10 rfl hl (Nat.le_of_ble_eq_true rfl) rfl (fun ls hl => ?_)
  have hl : lv_has ls 4 [(3, .int v3), (2, .ref (b + r2)), (0, .ref (b + o)), (1, .int a1)] := hl
  refine lv_iload_n hx hb dd_Out_carry_11 rfl (lv_at hl 0 rfl) ?_
  refine lv_iconst (v := 1) hx hb dd_Out_carry_12 kc_ic_1 ?_
  refine lv_icmp_ne (tgt := 46) hx hb dd_Out_carry_13 (by decide) (fun h4 => ?_) (fun h4 => ?_)
  · have hw := hw.1 h4
    refine lv_iload_n hx hb dd_Out_carry_46 rfl (lv_at hl 0 rfl) ?_
    refine lv_iconst (v := 2) hx hb dd_Out_carry_47 kc_ic_2 ?_
    refine lv_icmp_ne (tgt := 63) hx hb dd_Out_carry_48 (by decide) (fun h5 => ?_) (fun h5 => ?_)
    · have hw := hw.1 h5
      exact B63 S1 r2 v3 h_r2 _ _ ls hw hP hS (lv_sub hl [2, 3, 1, 0] rfl)
    · have hw := hw.2 h5
      refine lv_aload_n hx hb dd_Out_carry_51 rfl (lv_at hl 1 rfl) ?_
      refine fw_getr hx hb hts in_2 hown hK hP h_r2 (by decide) rfl 1 (by decide) (hts _ (tb_in tw_246)) tk_2_1 dd_Out_carry_52 ?_
      refine fw_callv (va_runV (As := []) (rest := []) ⟨hx, hb, hml, hown, hts⟩ (mt_Queue_removeFirst l D cA b S1 (r2 + 2) (lf_2_1 h_r2) _ hw) (cwV 0 hts (fw_gV tw_623 tw_620 tw_621 tw_622 tw_9) rfl rfl rfl (by decide +kernel) ⟨Nat.le_of_ble_eq_true rfl, Nat.le_of_ble_eq_true rfl⟩) (fw_preV hP hK (lf_2_1 h_r2) (by decide) rfl) rfl rfl hl.1 rfl (lv_room (Nat.le_of_ble_eq_true rfl)) dd_Out_carry_55 ⟨Nat.le_of_ble_eq_true rfl, Nat.le_of_ble_eq_true rfl⟩) hS (fun S6 H locs hw hP hS => ?_)
      try dsimp only at hw
      refine lv_aload_n hx hb dd_Out_carry_58 rfl (lv_at hl 1 rfl) ?_
      refine lv_iconst (v := 0) hx hb dd_Out_carry_59 kc_ic_0 ?_
      refine fw_puti hx hb hts in_2 F_ty_2 F_tyok_2 F_nm_2 hown hK hP hS (fw_A.in h_r2.1) h_r2 (by decide) rfl 9 (by decide) (hts _ (tb_in tw_261)) rfl tk_2_9 (ty := .int) (by decide +kernel) rfl rfl dd_Out_carry_60 (fun H locs hP hS => ?_)
      obtain ⟨S7, e_S7⟩ : ∃ z, z = fw_si S6 r2 9 0 := ⟨_, rfl⟩
      rw [← e_S7] at hP
      have hw := hw S7 e_S7
      exact B63 S7 r2 v3 h_r2 _ _ ls hw hP hS (lv_sub hl [2, 3, 1, 0] rfl)
  · have hw := hw.2 h4
    refine lv_aload_n hx hb dd_Out_carry_16 rfl (lv_at hl 2 rfl) ?_
    refine fw_getr hx hb hts in_0 hown hK hP ho (by decide) rfl 1 (by decide) (hts _ (tb_in tw_302)) tk_0_1 dd_Out_carry_17 ?_
    refine lv_iload_n hx hb dd_Out_carry_20 rfl (lv_at hl 3 rfl) ?_
    refine lv_aload_n hx hb dd_Out_carry_21 rfl (lv_at hl 1 rfl) ?_
    refine fw_getr hx hb hts in_2 hown hK hP h_r2 (by decide) rfl 1 (by decide) (hts _ (tb_in tw_246)) tk_2_1 dd_Out_carry_22 ?_
    refine fw_calli (va_runV (As := []) (rest := [.int a1, .ref (b + (o + 2))]) ⟨hx, hb, hml, hown, hts⟩ (mt_Queue_firstNumber l D cA b S1 (r2 + 2) (lf_2_1 h_r2) _ hw) (cwV 0 hts (fw_gV tw_585 tw_582 tw_583 tw_584 tw_9) rfl rfl rfl (by decide +kernel) ⟨Nat.le_of_ble_eq_true rfl, Nat.le_of_ble_eq_true rfl⟩) (fw_preV hP hK (lf_2_1 h_r2) (by decide) rfl) rfl rfl hl.1 rfl (lv_room (Nat.le_of_ble_eq_true rfl)) dd_Out_carry_25 ⟨Nat.le_of_ble_eq_true rfl, Nat.le_of_ble_eq_true rfl⟩) hS (fun S8 r9 H locs hw hP hS => ?_)
    try dsimp only at hw
    refine lv_aload_n hx hb dd_Out_carry_28 rfl (lv_at hl 1 rfl) ?_
    refine fw_getr hx hb hts in_2 hown hK hP h_r2 (by decide) rfl 1 (by decide) (hts _ (tb_in tw_246)) tk_2_1 dd_Out_carry_29 ?_
    refine fw_callr (va_runV (As := []) (rest := [.int r9, .int a1, .ref (b + (o + 2))]) ⟨hx, hb, hml, hown, hts⟩ (mt_Queue_first l D cA b S8 (r2 + 2) (lf_2_1 h_r2) _ hw) (cwV 0 hts (fw_gV tw_589 tw_586 tw_587 tw_588 tw_9) rfl rfl rfl (by decide +kernel) ⟨Nat.le_of_ble_eq_true rfl, Nat.le_of_ble_eq_true rfl⟩) (fw_preV hP hK (lf_2_1 h_r2) (by decide) rfl) rfl rfl hl.1 rfl (lv_room (Nat.le_of_ble_eq_true rfl)) dd_Out_carry_32 ⟨Nat.le_of_ble_eq_true rfl, Nat.le_of_ble_eq_true rfl⟩) hS (fun S10 r11 H locs hw h_r11 hP hS => ?_)
    try dsimp only at hw
    refine fw_callv (va_runV (As := [.int a1, .int r9, .ref (b + r11)]) (rest := []) ⟨hx, hb, hml, hown, hts⟩ (mt_Office_takeIn l D cA b S10 (o + 2) a1 r9 r11 (lf_0_1 ho) h_r11 _ hw) (cwV 3 hts (fw_gV tw_593 tw_590 tw_591 tw_592 tw_2) rfl rfl rfl (by decide +kernel) ⟨Nat.le_of_ble_eq_true rfl, Nat.le_of_ble_eq_true rfl⟩) (fw_preV hP hK (lf_0_1 ho) (by decide) rfl) rfl rfl hl.1 rfl (lv_room (Nat.le_of_ble_eq_true rfl)) dd_Out_carry_35 ⟨Nat.le_of_ble_eq_true rfl, Nat.le_of_ble_eq_true rfl⟩) hS (fun S12 H locs hw hP hS => ?_)
    try dsimp only at hw
    refine lv_aload_n hx hb dd_Out_carry_38 rfl (lv_at hl 1 rfl) ?_
    refine lv_iconst (v := 2) hx hb dd_Out_carry_39 kc_ic_2 ?_
    refine fw_puti hx hb hts in_2 F_ty_2 F_tyok_2 F_nm_2 hown hK hP hS (fw_A.in h_r2.1) h_r2 (by decide) rfl 9 (by decide) (hts _ (tb_in tw_261)) rfl tk_2_9 (ty := .int) (by decide +kernel) rfl rfl dd_Out_carry_40 (fun H locs hP hS => ?_)
    obtain ⟨S13, e_S13⟩ : ∃ z, z = fw_si S12 r2 9 2 := ⟨_, rfl⟩
    rw [← e_S13] at hP
    have hw := hw S13 e_S13
    refine lv_goto (tgt := 63) hx hb dd_Out_carry_43 (by decide) ?_
    exact B63 S13 r2 v3 h_r2 _ _ ls hw hP hS (lv_sub hl [2, 3, 1, 0] rfl)
theorem dd_Out_lose_18 : decode bb_Out_lose 18 = .ok (.istore_n 3, 1) := by decide +kernel
theorem dd_Out_lose_19 : decode bb_Out_lose 19 = .ok (.aload_n 2, 1) := by decide +kernel
theorem dd_Out_lose_20 : decode bb_Out_lose 20 = .ok (.iconst 0, 1) := by decide +kernel
theorem dd_Out_lose_21 : decode bb_Out_lose 21 = .ok (.putfield 139, 3) := by decide +kernel
theorem dd_Out_lose_24 : decode bb_Out_lose 24 = .ok (.iload_n 3, 1) := by decide +kernel
theorem dd_Out_lose_25 : decode bb_Out_lose 25 = .ok (.ireturn, 1) := by decide +kernel
theorem dd_Out_lose_0 : decode bb_Out_lose 0 = .ok (.aload_n 0, 1) := by decide +kernel
theorem dd_Out_lose_1 : decode bb_Out_lose 1 = .ok (.iload_n 1, 1) := by decide +kernel
theorem dd_Out_lose_2 : decode bb_Out_lose 2 = .ok (.invokevirtual 64, 3) := by decide +kernel
theorem dd_Out_lose_5 : decode bb_Out_lose 5 = .ok (.astore_n 2, 1) := by decide +kernel
theorem dd_Out_lose_6 : decode bb_Out_lose 6 = .ok (.aload_n 2, 1) := by decide +kernel
theorem dd_Out_lose_7 : decode bb_Out_lose 7 = .ok (.getfield 139, 3) := by decide +kernel
theorem dd_Out_lose_10 : decode bb_Out_lose 10 = .ok (.ifCond .eq 7, 3) := by decide +kernel
theorem dd_Out_lose_17 : decode bb_Out_lose 17 = .ok (.iconst 0, 1) := by decide +kernel
theorem dd_Out_lose_13 : decode bb_Out_lose 13 = .ok (.iconst 1, 1) := by decide +kernel
theorem dd_Out_lose_14 : decode bb_Out_lose 14 = .ok (.goto 4, 3) := by decide +kernel
def ww_Out_lose : List Cond := .code yy_Out_lose bb_Out_lose 4 (some .boolean) :: TB
def rm_Out_lose : Room := { frames := 8, cells := 1, slots := 6, locals := 142 }
def wp_Out_lose_18 (o : Nat) (a1 : Int32) (post : fw_S → Int32 → Prop) (px : Nat → fw_S → Prop) (S : fw_S) (u2 : Nat) (p0 : Int32) : Prop := ∀ S1 : fw_S, S1 = fw_si S u2 9 0 → fw_bz p0 ∧ (post S1 p0)
def wp_Out_lose (S : fw_S) (o : Nat) (a1 : Int32) (post : fw_S → Int32 → Prop) (px : Nat → fw_S → Prop) : Prop := wp_Out_pointAt S o a1 (fun S1 r2 => ((((S1.1 r2 9) = 0) → wp_Out_lose_18 o a1 post px S1 r2 0) ∧ (¬ ((S1.1 r2 9) = 0) → wp_Out_lose_18 o a1 post px S1 r2 1))) px
set_option maxHeartbeats 4000000 in
set_option maxRecDepth 100000 in
theorem mt_Out_lose (l : Launch) (hl9 : l.stackTraces = false) (D : va_G) (cA : Nat → ClassId) (b : Nat) (S : fw_S) (o : Nat) (a1 : Int32) (ho : o < 245 ∧ layU o = (0, 0)) (post : fw_S → Int32 → Prop) (px : Nat → fw_S → Prop) (hw : wp_Out_lose S o a1 post px) : tx_Met l yy_Out_lose ww_Out_lose rm_Out_lose (fw_PcX D CL cA (TYS cA) TK layU b 245 S [.ref (b + o), .int a1]) (va_Qi (fun r S' => post S' r) (fw_B D CL cA TK layU b 245) (fw_A b 245)) (fw_X D CL cA TK layU b 245 px) 1 6 (fw_A b 245) := by
  refine tx_ofW (cc := bb_Out_lose) (maxL := 4) (ret := (some .boolean)) (by decide) rfl ?_
  intro p e s m args below meth c s₁ B hml hTab hv
  obtain ⟨rfl, hP, hK, hZ⟩ := hv
  have hx := B.exec
  have hb := B.bytes
  have hr := B.returns
  have hts := atoms_spec (ws := ww_Out_lose) B.pre
  have hown : s.vm.findClass "OutletOffice" = some m.cls := findClass_of_methodNamed B.named
  have hlocks := B.notSynchronized
  have hS : va_S (fw_A b 245) s.heap s.heap [] := va_S.rf
  have hl := lv_entry ([.ref (b + o), .int a1]) (n := 4) (Nat.le_of_ble_eq_true rfl)
  rw [lg_entry_eq]
  generalize (lg_sl ([.ref (b + o), .int a1]) ++ List.replicate (4 - (lg_sl ([.ref (b + o), .int a1])).length) Slot.unset).toArray = ls at hl ⊢
  have hl : lv_has ls 4 [(0, .ref (b + o)), (1, .int a1)] := hl
  have B18 : ∀ (S : fw_S) (u2 : Nat) (p0 : Int32) (hu2 : u2 < 245 ∧ layU u2 = (2, 0)) (H : Heap) (locs : List Loc) (ls : Array Slot), wp_Out_lose_18 o a1 post px S u2 p0 → fw_P D CL cA layU b 245 (fw_v TK layU b S) H → va_S (fw_A b 245) s.heap H locs → lv_has ls 4 [(0, .ref (b + o)), (1, .int a1), (2, .ref (b + u2))] → W p l e (headSpec ww_Out_lose rm_Out_lose).room s m ([.ref (b + o), .int a1] : List Value).toArray below meth c H locs 1 6 (tx_MQ below (va_Qi (fun r S' => post S' r) (fw_B D CL cA TK layU b 245) (fw_A b 245)) (fw_X D CL cA TK layU b 245 px) ([.ref (b + o), .int a1] : List Value).toArray s 1 6 (fw_A b 245)) (F0 m 18 ls [.int p0]) := by
      intro S u2 p0 hu2 H locs ls hw hP hS hl
      unfold wp_Out_lose_18 at hw
      refine lv_istore_n hx hb dd_Out_lose_18 rfl hl (Nat.le_of_ble_eq_true rfl) rfl (fun ls hl => ?_)
      have hl : lv_has ls 4 [(3, .int p0), (0, .ref (b + o)), (1, .int a1), (2, .ref (b + u2))] := hl
      refine lv_aload_n hx hb dd_Out_lose_19 rfl (lv_at hl 3 rfl) ?_
      refine lv_iconst (v := 0) hx hb dd_Out_lose_20 kc_ic_0 ?_
      refine fw_puti hx hb hts in_2 F_ty_2 F_tyok_2 F_nm_2 hown hK hP hS (fw_A.in hu2.1) hu2 (by decide) rfl 9 (by decide) (hts _ (tb_in tw_261)) rfl tk_2_9 (ty := .int) (by decide +kernel) rfl rfl dd_Out_lose_21 (fun H locs hP hS => ?_)
      obtain ⟨S1, e_S1⟩ : ∃ z, z = fw_si S u2 9 0 := ⟨_, rfl⟩
      rw [← e_S1] at hP
      have hw := hw S1 e_S1
      refine lv_iload_n hx hb dd_Out_lose_24 rfl (lv_at hl 0 rfl) ?_
      refine tx_ret ?_
      obtain ⟨h2, hw⟩ := hw
      exact W.zret (v := p0) hx hb hr (fw_bz.n h2) (fun t ht hW => ⟨⟨_, _, rfl, hw, fw_Bof ht hP⟩, hS.F ht⟩) hS.2.2 dd_Out_lose_25
  unfold wp_Out_lose at hw
  refine lv_aload_n hx hb dd_Out_lose_0 rfl (lv_at hl 0 rfl) ?_
  refine lv_iload_n hx hb dd_Out_lose_1 rfl (lv_at hl 1 rfl) ?_
  refine tx_callr (tx_runV (As := [.int a1]) (rest := []) ⟨hx, hb, hml, hown, hts⟩ (mt_Out_pointAt l hl9 D cA b S o a1 ho _ _ hw) (cwV 1 hts (fw_gV tw_458 tw_455 tw_457 ts_1 tw_1) rfl rfl rfl (by decide +kernel) ⟨Nat.le_of_ble_eq_true rfl, Nat.le_of_ble_eq_true rfl⟩) (fw_preVX hP hK hZ hS ho (by decide) rfl) rfl rfl hl.1 rfl (lv_room (Nat.le_of_ble_eq_true rfl)) dd_Out_lose_2 ⟨Nat.le_of_ble_eq_true rfl, Nat.le_of_ble_eq_true rfl⟩) hS (fun k9 S9 q9 ce9 H locs hw hP hS hce => tx_outF hTab hlocks hw hP hS hce (Nat.le_of_ble_eq_true rfl) (Nat.le_of_ble_eq_true rfl)) (fun S1 r2 H locs hw h_r2 hP hS => ?_)
  try dsimp only at hw
  refine lv_astore_n hx hb dd_Out_lose_5 rfl hl (Nat.le_of_ble_eq_true rfl) rfl (fun ls hl => ?_)
  have hl : lv_has ls 4 [(2, .ref (b + r2)), (0, .ref (b + o)), (1, .int a1)] := hl
  refine lv_aload_n hx hb dd_Out_lose_6 rfl (lv_at hl 0 rfl) ?_
  refine fw_geti hx hb hts in_2 hown hK hP h_r2 (by decide) rfl 9 (by decide) (hts _ (tb_in tw_261)) tk_2_9 dd_Out_lose_7 ?_
  refine lv_if_eq (tgt := 17) hx hb dd_Out_lose_10 (by decide) (fun h3 => ?_) (fun h3 => ?_)
  · have hw := hw.1 h3
    refine lv_iconst (v := 0) hx hb dd_Out_lose_17 kc_ic_0 ?_
    exact B18 S1 r2 0 h_r2 _ _ ls hw hP hS (lv_sub hl [1, 2, 0] rfl)
  · have hw := hw.2 h3
    refine lv_iconst (v := 1) hx hb dd_Out_lose_13 kc_ic_1 ?_
    refine lv_goto (tgt := 18) hx hb dd_Out_lose_14 (by decide) ?_
    exact B18 S1 r2 1 h_r2 _ _ ls hw hP hS (lv_sub hl [1, 2, 0] rfl)
theorem dd_Out_pass_28 : decode bb_Out_pass 28 = .ok (.iload_n 3, 1) := by decide +kernel
theorem dd_Out_pass_29 : decode bb_Out_pass 29 = .ok (.iload_n 1, 1) := by decide +kernel
theorem dd_Out_pass_30 : decode bb_Out_pass 30 = .ok (.if_icmp .ge 31, 3) := by decide +kernel
theorem dd_Out_pass_33 : decode bb_Out_pass 33 = .ok (.aload_n 0, 1) := by decide +kernel
theorem dd_Out_pass_34 : decode bb_Out_pass 34 = .ok (.getfield 22, 3) := by decide +kernel
theorem dd_Out_pass_37 : decode bb_Out_pass 37 = .ok (.iload_n 2, 1) := by decide +kernel
theorem dd_Out_pass_38 : decode bb_Out_pass 38 = .ok (.if_icmp .ge 23, 3) := by decide +kernel
theorem dd_Out_pass_41 : decode bb_Out_pass 41 = .ok (.aload_n 0, 1) := by decide +kernel
theorem dd_Out_pass_42 : decode bb_Out_pass 42 = .ok (.aload_n 0, 1) := by decide +kernel
theorem dd_Out_pass_43 : decode bb_Out_pass 43 = .ok (.iload_n 2, 1) := by decide +kernel
theorem dd_Out_pass_44 : decode bb_Out_pass 44 = .ok (.aload_n 0, 1) := by decide +kernel
theorem dd_Out_pass_45 : decode bb_Out_pass 45 = .ok (.getfield 22, 3) := by decide +kernel
theorem dd_Out_pass_48 : decode bb_Out_pass 48 = .ok (.isub, 1) := by decide +kernel
theorem dd_Out_pass_49 : decode bb_Out_pass 49 = .ok (.invokevirtual 165, 3) := by decide +kernel
theorem dd_Out_pass_52 : decode bb_Out_pass 52 = .ok (.invokevirtual 168, 3) := by decide +kernel
theorem dd_Out_pass_55 : decode bb_Out_pass 55 = .ok (.iinc 3 1, 3) := by decide +kernel
theorem dd_Out_pass_58 : decode bb_Out_pass 58 = .ok (.goto (-30), 3) := by decide +kernel
theorem dd_Out_pass_61 : decode bb_Out_pass 61 = .ok (.aload_n 0, 1) := by decide +kernel
theorem dd_Out_pass_62 : decode bb_Out_pass 62 = .ok (.getfield 22, 3) := by decide +kernel
theorem dd_Out_pass_65 : decode bb_Out_pass 65 = .ok (.ireturn, 1) := by decide +kernel
theorem dd_Out_pass_0 : decode bb_Out_pass 0 = .ok (.iload_n 1, 1) := by decide +kernel
theorem dd_Out_pass_1 : decode bb_Out_pass 1 = .ok (.iconst 0, 1) := by decide +kernel
theorem dd_Out_pass_2 : decode bb_Out_pass 2 = .ok (.ldc 163, 2) := by decide +kernel
theorem dd_Out_pass_4 : decode bb_Out_pass 4 = .ok (.invokestatic 31, 3) := by decide +kernel
theorem dd_Out_pass_7 : decode bb_Out_pass 7 = .ok (.aload_n 0, 1) := by decide +kernel
theorem dd_Out_pass_8 : decode bb_Out_pass 8 = .ok (.getfield 22, 3) := by decide +kernel
theorem dd_Out_pass_11 : decode bb_Out_pass 11 = .ok (.iload_n 1, 1) := by decide +kernel
theorem dd_Out_pass_12 : decode bb_Out_pass 12 = .ok (.iadd, 1) := by decide +kernel
theorem dd_Out_pass_13 : decode bb_Out_pass 13 = .ok (.iconst 0, 1) := by decide +kernel
theorem dd_Out_pass_14 : decode bb_Out_pass 14 = .ok (.ldc 164, 2) := by decide +kernel
theorem dd_Out_pass_16 : decode bb_Out_pass 16 = .ok (.invokestatic 31, 3) := by decide +kernel
theorem dd_Out_pass_19 : decode bb_Out_pass 19 = .ok (.aload_n 0, 1) := by decide +kernel
theorem dd_Out_pass_20 : decode bb_Out_pass 20 = .ok (.getfield 22, 3) := by decide +kernel
theorem dd_Out_pass_23 : decode bb_Out_pass 23 = .ok (.iload_n 1, 1) := by decide +kernel
theorem dd_Out_pass_24 : decode bb_Out_pass 24 = .ok (.iadd, 1) := by decide +kernel
theorem dd_Out_pass_25 : decode bb_Out_pass 25 = .ok (.istore_n 2, 1) := by decide +kernel
theorem dd_Out_pass_26 : decode bb_Out_pass 26 = .ok (.iconst 0, 1) := by decide +kernel
theorem dd_Out_pass_27 : decode bb_Out_pass 27 = .ok (.istore_n 3, 1) := by decide +kernel
def ww_Out_pass : List Cond := .code yy_Out_pass bb_Out_pass 4 (some .int) :: TB
def rm_Out_pass : Room := { frames := 7, cells := 2, slots := 12, locals := 150 }
def wp_Out_pass_61 (o : Nat) (a1 : Int32) (post : fw_S → Int32 → Prop) (px : Nat → fw_S → Prop) (S : fw_S) (x2 : Int32) (x3 : Int32) : Prop := post S (S.1 o 2)
def wp_Out_pass_28 (o : Nat) (a1 : Int32) (post : fw_S → Int32 → Prop) (px : Nat → fw_S → Prop) : Nat → fw_S → Int32 → Int32 → Prop
  | 0, _, _, _ => False
  | f + 1, S, x2, x3 => (((a1 ≤ x3) → wp_Out_pass_61 o a1 post px S x2 x3) ∧ (¬ (a1 ≤ x3) → (((x2 ≤ (S.1 o 2)) → wp_Out_pass_61 o a1 post px S x2 x3) ∧ (¬ (x2 ≤ (S.1 o 2)) → wp_Out_evenSeconds S o (x2 - (S.1 o 2)) (fun S3 r4 => wp_Out_goOn S3 o r4 (fun S5 => ∀ v6 : Int32, v6 = x3 + 1 → wp_Out_pass_28 o a1 post px f S5 x2 v6))))))
def wp_Out_pass (S : fw_S) (o : Nat) (a1 : Int32) (post : fw_S → Int32 → Prop) (px : Nat → fw_S → Prop) : Prop := wp_Out_checkNumber S a1 0 86400 (fun S1 => wp_Out_checkNumber S1 ((S1.1 o 2) + a1) 0 1000000000 (fun S2 => ∀ v3 : Int32, v3 = ((S2.1 o 2) + a1) → ∃ f0, wp_Out_pass_28 o a1 post px f0 S2 v3 0) px) px
set_option maxHeartbeats 4000000 in
set_option maxRecDepth 100000 in
theorem mt_Out_pass (l : Launch) (hl9 : l.stackTraces = false) (D : va_G) (cA : Nat → ClassId) (b : Nat) (S : fw_S) (o : Nat) (a1 : Int32) (ho : o < 245 ∧ layU o = (0, 0)) (post : fw_S → Int32 → Prop) (px : Nat → fw_S → Prop) (hw : wp_Out_pass S o a1 post px) : tx_Met l yy_Out_pass ww_Out_pass rm_Out_pass (fw_PcX D CL cA (TYS cA) TK layU b 245 S [.ref (b + o), .int a1]) (va_Qi (fun r S' => post S' r) (fw_B D CL cA TK layU b 245) (fw_A b 245)) (fw_X D CL cA TK layU b 245 px) 2 12 (fw_A b 245) := by
  refine tx_ofW (cc := bb_Out_pass) (maxL := 4) (ret := (some .int)) (by decide) rfl ?_
  intro p e s m args below meth c s₁ B hml hTab hv
  obtain ⟨rfl, hP, hK, hZ⟩ := hv
  have hx := B.exec
  have hb := B.bytes
  have hr := B.returns
  have hts := atoms_spec (ws := ww_Out_pass) B.pre
  have hown : s.vm.findClass "OutletOffice" = some m.cls := findClass_of_methodNamed B.named
  have hlocks := B.notSynchronized
  have hS : va_S (fw_A b 245) s.heap s.heap [] := va_S.rf
  have hl := lv_entry ([.ref (b + o), .int a1]) (n := 4) (Nat.le_of_ble_eq_true rfl)
  rw [lg_entry_eq]
  generalize (lg_sl ([.ref (b + o), .int a1]) ++ List.replicate (4 - (lg_sl ([.ref (b + o), .int a1])).length) Slot.unset).toArray = ls at hl ⊢
  have hl : lv_has ls 4 [(0, .ref (b + o)), (1, .int a1)] := hl
  have B61 : ∀ (S : fw_S) (x2 : Int32) (x3 : Int32) (H : Heap) (locs : List Loc) (ls : Array Slot), wp_Out_pass_61 o a1 post px S x2 x3 → fw_P D CL cA layU b 245 (fw_v TK layU b S) H → va_S (fw_A b 245) s.heap H locs → lv_has ls 4 [(0, .ref (b + o)), (1, .int a1), (2, .int x2), (3, .int x3)] → W p l e (headSpec ww_Out_pass rm_Out_pass).room s m ([.ref (b + o), .int a1] : List Value).toArray below meth c H locs 2 12 (tx_MQ below (va_Qi (fun r S' => post S' r) (fw_B D CL cA TK layU b 245) (fw_A b 245)) (fw_X D CL cA TK layU b 245 px) ([.ref (b + o), .int a1] : List Value).toArray s 2 12 (fw_A b 245)) (F0 m 61 ls []) := by
      intro S x2 x3 H locs ls hw hP hS hl
      unfold wp_Out_pass_61 at hw
      refine lv_aload_n hx hb dd_Out_pass_61 rfl (lv_at hl 0 rfl) ?_
      refine fw_geti hx hb hts in_0 hown hK hP ho (by decide) rfl 2 (by decide) (hts _ (tb_in tw_303)) tk_0_2 dd_Out_pass_62 ?_
      refine tx_ret ?_
      exact W.iret (v := S.1 o 2) hx hb hr (fun t ht hW => ⟨⟨_, _, rfl, hw, fw_Bof ht hP⟩, hS.F ht⟩) hS.2.2 dd_Out_pass_65
  have B28 : ∀ f : Nat, ∀ (S : fw_S) (x2 : Int32) (x3 : Int32) (H : Heap) (locs : List Loc) (ls : Array Slot), wp_Out_pass_28 o a1 post px f S x2 x3 → fw_P D CL cA layU b 245 (fw_v TK layU b S) H → va_S (fw_A b 245) s.heap H locs → lv_has ls 4 [(0, .ref (b + o)), (1, .int a1), (2, .int x2), (3, .int x3)] → W p l e (headSpec ww_Out_pass rm_Out_pass).room s m ([.ref (b + o), .int a1] : List Value).toArray below meth c H locs 2 12 (tx_MQ below (va_Qi (fun r S' => post S' r) (fw_B D CL cA TK layU b 245) (fw_A b 245)) (fw_X D CL cA TK layU b 245 px) ([.ref (b + o), .int a1] : List Value).toArray s 2 12 (fw_A b 245)) (F0 m 28 ls []) := by
    intro f
    induction f with
    | zero => intro S x2 x3 H locs ls hw; exact False.elim hw
    | succ f ih =>
        intro S x2 x3 H locs ls hw hP hS hl
        unfold wp_Out_pass_28 at hw
        refine lv_iload_n hx hb dd_Out_pass_28 rfl (lv_at hl 3 rfl) ?_
        refine lv_iload_n hx hb dd_Out_pass_29 rfl (lv_at hl 1 rfl) ?_
        refine lv_icmp_ge (tgt := 61) hx hb dd_Out_pass_30 (by decide) (fun h1 => ?_) (fun h1 => ?_)
        · have hw := hw.1 h1
          exact B61 S x2 x3 _ _ ls hw hP hS (lv_sub hl [0, 1, 2, 3] rfl)
        · have hw := hw.2 h1
          refine lv_aload_n hx hb dd_Out_pass_33 rfl (lv_at hl 0 rfl) ?_
          refine fw_geti hx hb hts in_0 hown hK hP ho (by decide) rfl 2 (by decide) (hts _ (tb_in tw_303)) tk_0_2 dd_Out_pass_34 ?_
          refine lv_iload_n hx hb dd_Out_pass_37 rfl (lv_at hl 2 rfl) ?_
          refine lv_icmp_ge (tgt := 61) hx hb dd_Out_pass_38 (by decide) (fun h2 => ?_) (fun h2 => ?_)
          · have hw := hw.1 h2
            exact B61 S x2 x3 _ _ ls hw hP hS (lv_sub hl [0, 1, 2, 3] rfl)
          · have hw := hw.2 h2
            refine lv_aload_n hx hb dd_Out_pass_41 rfl (lv_at hl 0 rfl) ?_
            refine lv_aload_n hx hb dd_Out_pass_42 rfl (lv_at hl 0 rfl) ?_
            refine lv_iload_n hx hb dd_Out_pass_43 rfl (lv_at hl 2 rfl) ?_
            refine lv_aload_n hx hb dd_Out_pass_44 rfl (lv_at hl 0 rfl) ?_
            refine fw_geti hx hb hts in_0 hown hK hP ho (by decide) rfl 2 (by decide) (hts _ (tb_in tw_303)) tk_0_2 dd_Out_pass_45 ?_
            refine lv_isub hx hb dd_Out_pass_48 ?_
            refine fw_calli (va_runV (As := [.int (x2 - (S.1 o 2))]) (rest := [.ref (b + o)]) ⟨hx, hb, hml, hown, hts⟩ (mt_Out_evenSeconds l D cA b S o (x2 - (S.1 o 2)) ho _ hw) (cwV 1 hts (fw_gV tw_643 tw_640 tw_642 ts_6 tw_1) rfl rfl rfl (by decide +kernel) ⟨Nat.le_of_ble_eq_true rfl, Nat.le_of_ble_eq_true rfl⟩) (fw_preV hP hK ho (by decide) rfl) rfl rfl hl.1 rfl (lv_room (Nat.le_of_ble_eq_true rfl)) dd_Out_pass_49 ⟨Nat.le_of_ble_eq_true rfl, Nat.le_of_ble_eq_true rfl⟩) hS (fun S3 r4 H locs hw hP hS => ?_)
            try dsimp only at hw
            refine fw_callv (va_runV (As := [.int r4]) (rest := []) ⟨hx, hb, hml, hown, hts⟩ (mt_Out_goOn l D cA b S3 o r4 ho _ hw) (cwV 1 hts (fw_gV tw_704 tw_701 tw_703 ts_13 tw_1) rfl rfl rfl (by decide +kernel) ⟨Nat.le_of_ble_eq_true rfl, Nat.le_of_ble_eq_true rfl⟩) (fw_preV hP hK ho (by decide) rfl) rfl rfl hl.1 rfl (lv_room (Nat.le_of_ble_eq_true rfl)) dd_Out_pass_52 ⟨Nat.le_of_ble_eq_true rfl, Nat.le_of_ble_eq_true rfl⟩) hS (fun S5 H locs hw hP hS => ?_)
            try dsimp only at hw
            obtain ⟨v6, e_v6⟩ : ∃ z : Int32, z = x3 + 1 := ⟨_, rfl⟩
            have hw := hw v6 e_v6
            refine lv_iinc hx hb dd_Out_pass_55 hl (k := 3) rfl (show x3 + Int32.ofInt 1 = v6 by rw [kc_ii_1, e_v6]) (Nat.le_of_ble_eq_true rfl) rfl (fun ls hl => ?_)
            have hl : lv_has ls 4 [(3, .int v6), (0, .ref (b + o)), (1, .int a1), (2, .int x2)] := hl
            refine lv_goto (tgt := 28) hx hb dd_Out_pass_58 (by decide) ?_
            exact ih S5 x2 v6 _ _ ls hw hP hS (lv_sub hl [1, 2, 3, 0] rfl)
  unfold wp_Out_pass at hw
  refine lv_iload_n hx hb dd_Out_pass_0 rfl (lv_at hl 1 rfl) ?_
  refine lv_iconst (v := 0) hx hb dd_Out_pass_1 kc_ic_0 ?_
  refine lv_ldc (v := 86400) hx hb hown (hts _ (tb_in tw_638)) dd_Out_pass_2 ?_
  refine tx_callv (tx_runS (As := [.int a1, .int 0, .int 86400]) (rest := []) ⟨hx, hb, hml, hown, hts⟩ (mt_Out_checkNumber l hl9 D cA b S a1 0 86400 _ _ hw) (cwS 3 hts (fw_gS tw_400 tw_398 tw_399 tw_1) rfl rfl rfl (by decide +kernel) ⟨Nat.le_of_ble_eq_true rfl, Nat.le_of_ble_eq_true rfl⟩) (fw_preSX hP hK hZ hS) rfl rfl hl.1 rfl (lv_room (Nat.le_of_ble_eq_true rfl)) dd_Out_pass_4 ⟨Nat.le_of_ble_eq_true rfl, Nat.le_of_ble_eq_true rfl⟩) hS (fun k9 S9 q9 ce9 H locs hw hP hS hce => tx_outF hTab hlocks hw hP hS hce (Nat.le_of_ble_eq_true rfl) (Nat.le_of_ble_eq_true rfl)) (fun S1 H locs hw hP hS => ?_)
  try dsimp only at hw
  refine lv_aload_n hx hb dd_Out_pass_7 rfl (lv_at hl 0 rfl) ?_
  refine fw_geti hx hb hts in_0 hown hK hP ho (by decide) rfl 2 (by decide) (hts _ (tb_in tw_303)) tk_0_2 dd_Out_pass_8 ?_
  refine lv_iload_n hx hb dd_Out_pass_11 rfl (lv_at hl 1 rfl) ?_
  refine lv_iadd hx hb dd_Out_pass_12 ?_
  refine lv_iconst (v := 0) hx hb dd_Out_pass_13 kc_ic_0 ?_
  refine lv_ldc (v := 1000000000) hx hb hown (hts _ (tb_in tw_639)) dd_Out_pass_14 ?_
  refine tx_callv (tx_runS (As := [.int ((S1.1 o 2) + a1), .int 0, .int 1000000000]) (rest := []) ⟨hx, hb, hml, hown, hts⟩ (mt_Out_checkNumber l hl9 D cA b S1 ((S1.1 o 2) + a1) 0 1000000000 _ _ hw) (cwS 3 hts (fw_gS tw_400 tw_398 tw_399 tw_1) rfl rfl rfl (by decide +kernel) ⟨Nat.le_of_ble_eq_true rfl, Nat.le_of_ble_eq_true rfl⟩) (fw_preSX hP hK hZ hS) rfl rfl hl.1 rfl (lv_room (Nat.le_of_ble_eq_true rfl)) dd_Out_pass_16 ⟨Nat.le_of_ble_eq_true rfl, Nat.le_of_ble_eq_true rfl⟩) hS (fun k9 S9 q9 ce9 H locs hw hP hS hce => tx_outF hTab hlocks hw hP hS hce (Nat.le_of_ble_eq_true rfl) (Nat.le_of_ble_eq_true rfl)) (fun S2 H locs hw hP hS => ?_)
  try dsimp only at hw
  refine lv_aload_n hx hb dd_Out_pass_19 rfl (lv_at hl 0 rfl) ?_
  refine fw_geti hx hb hts in_0 hown hK hP ho (by decide) rfl 2 (by decide) (hts _ (tb_in tw_303)) tk_0_2 dd_Out_pass_20 ?_
  refine lv_iload_n hx hb dd_Out_pass_23 rfl (lv_at hl 1 rfl) ?_
  refine lv_iadd hx hb dd_Out_pass_24 ?_
  refine lv_topi (fun v3 e_v3 => ?_)
  have hw := hw v3 e_v3
  refine lv_istore_n hx hb dd_Out_pass_25 rfl hl (Nat.le_of_ble_eq_true rfl) rfl (fun ls hl => ?_)
  have hl : lv_has ls 4 [(2, .int v3), (0, .ref (b + o)), (1, .int a1)] := hl
  refine lv_iconst (v := 0) hx hb dd_Out_pass_26 kc_ic_0 ?_
  refine lv_istore_n hx hb dd_Out_pass_27 rfl hl (Nat.le_of_ble_eq_true rfl) rfl (fun ls hl => ?_)
  have hl : lv_has ls 4 [(3, .int 0), (2, .int v3), (0, .ref (b + o)), (1, .int a1)] := hl
  obtain ⟨f0, hw⟩ := hw
  exact B28 f0 S2 v3 0 _ _ ls hw hP hS (lv_sub hl [2, 3, 1, 0] rfl)
theorem dd_Out_current_0 : decode bb_Out_current 0 = .ok (.aload_n 0, 1) := by decide +kernel
theorem dd_Out_current_1 : decode bb_Out_current 1 = .ok (.iload_n 1, 1) := by decide +kernel
theorem dd_Out_current_2 : decode bb_Out_current 2 = .ok (.invokevirtual 64, 3) := by decide +kernel
theorem dd_Out_current_5 : decode bb_Out_current 5 = .ok (.astore_n 2, 1) := by decide +kernel
theorem dd_Out_current_6 : decode bb_Out_current 6 = .ok (.aload_n 0, 1) := by decide +kernel
theorem dd_Out_current_7 : decode bb_Out_current 7 = .ok (.getfield 11, 3) := by decide +kernel
theorem dd_Out_current_10 : decode bb_Out_current 10 = .ok (.iload_n 1, 1) := by decide +kernel
theorem dd_Out_current_11 : decode bb_Out_current 11 = .ok (.iconst 2, 1) := by decide +kernel
theorem dd_Out_current_12 : decode bb_Out_current 12 = .ok (.irem, 1) := by decide +kernel
theorem dd_Out_current_13 : decode bb_Out_current 13 = .ok (.aaload, 1) := by decide +kernel
theorem dd_Out_current_14 : decode bb_Out_current 14 = .ok (.aload_n 0, 1) := by decide +kernel
theorem dd_Out_current_15 : decode bb_Out_current 15 = .ok (.getfield 22, 3) := by decide +kernel
theorem dd_Out_current_18 : decode bb_Out_current 18 = .ok (.invokevirtual 172, 3) := by decide +kernel
theorem dd_Out_current_21 : decode bb_Out_current 21 = .ok (.aload_n 2, 1) := by decide +kernel
theorem dd_Out_current_22 : decode bb_Out_current 22 = .ok (.getfield 175, 3) := by decide +kernel
theorem dd_Out_current_25 : decode bb_Out_current 25 = .ok (.ireturn, 1) := by decide +kernel
def ww_Out_current : List Cond := .code yy_Out_current bb_Out_current 3 (some .int) :: TB
def rm_Out_current : Room := { frames := 8, cells := 1, slots := 6, locals := 142 }
def wp_Out_current (S : fw_S) (o : Nat) (a1 : Int32) (post : fw_S → Int32 → Prop) (px : Nat → fw_S → Prop) : Prop := wp_Out_pointAt S o a1 (fun S1 r2 => vp_in (a1 - a1 / 2 * 2) 2 ∧ (wp_Site_share S1 ((o + 1) + (18 + 95 * ((a1 - a1 / 2 * 2 : Int32).toNatClampNeg))) (S1.1 o 2) (fun S4 => post S4 (S4.1 r2 11)))) px
set_option maxHeartbeats 4000000 in
set_option maxRecDepth 100000 in
theorem mt_Out_current (l : Launch) (hl9 : l.stackTraces = false) (D : va_G) (cA : Nat → ClassId) (b : Nat) (S : fw_S) (o : Nat) (a1 : Int32) (ho : o < 245 ∧ layU o = (0, 0)) (post : fw_S → Int32 → Prop) (px : Nat → fw_S → Prop) (hw : wp_Out_current S o a1 post px) : tx_Met l yy_Out_current ww_Out_current rm_Out_current (fw_PcX D CL cA (TYS cA) TK layU b 245 S [.ref (b + o), .int a1]) (va_Qi (fun r S' => post S' r) (fw_B D CL cA TK layU b 245) (fw_A b 245)) (fw_X D CL cA TK layU b 245 px) 1 6 (fw_A b 245) := by
  refine tx_ofW (cc := bb_Out_current) (maxL := 3) (ret := (some .int)) (by decide) rfl ?_
  intro p e s m args below meth c s₁ B hml hTab hv
  obtain ⟨rfl, hP, hK, hZ⟩ := hv
  have hx := B.exec
  have hb := B.bytes
  have hr := B.returns
  have hts := atoms_spec (ws := ww_Out_current) B.pre
  have hown : s.vm.findClass "OutletOffice" = some m.cls := findClass_of_methodNamed B.named
  have hlocks := B.notSynchronized
  have hS : va_S (fw_A b 245) s.heap s.heap [] := va_S.rf
  have hl := lv_entry ([.ref (b + o), .int a1]) (n := 3) (Nat.le_of_ble_eq_true rfl)
  rw [lg_entry_eq]
  generalize (lg_sl ([.ref (b + o), .int a1]) ++ List.replicate (3 - (lg_sl ([.ref (b + o), .int a1])).length) Slot.unset).toArray = ls at hl ⊢
  have hl : lv_has ls 3 [(0, .ref (b + o)), (1, .int a1)] := hl
  unfold wp_Out_current at hw
  refine lv_aload_n hx hb dd_Out_current_0 rfl (lv_at hl 0 rfl) ?_
  refine lv_iload_n hx hb dd_Out_current_1 rfl (lv_at hl 1 rfl) ?_
  refine tx_callr (tx_runV (As := [.int a1]) (rest := []) ⟨hx, hb, hml, hown, hts⟩ (mt_Out_pointAt l hl9 D cA b S o a1 ho _ _ hw) (cwV 1 hts (fw_gV tw_458 tw_455 tw_457 ts_1 tw_1) rfl rfl rfl (by decide +kernel) ⟨Nat.le_of_ble_eq_true rfl, Nat.le_of_ble_eq_true rfl⟩) (fw_preVX hP hK hZ hS ho (by decide) rfl) rfl rfl hl.1 rfl (lv_room (Nat.le_of_ble_eq_true rfl)) dd_Out_current_2 ⟨Nat.le_of_ble_eq_true rfl, Nat.le_of_ble_eq_true rfl⟩) hS (fun k9 S9 q9 ce9 H locs hw hP hS hce => tx_outF hTab hlocks hw hP hS hce (Nat.le_of_ble_eq_true rfl) (Nat.le_of_ble_eq_true rfl)) (fun S1 r2 H locs hw h_r2 hP hS => ?_)
  try dsimp only at hw
  refine lv_astore_n hx hb dd_Out_current_5 rfl hl (Nat.le_of_ble_eq_true rfl) rfl (fun ls hl => ?_)
  have hl : lv_has ls 3 [(2, .ref (b + r2)), (0, .ref (b + o)), (1, .int a1)] := hl
  refine lv_aload_n hx hb dd_Out_current_6 rfl (lv_at hl 1 rfl) ?_
  refine fw_getr hx hb hts in_0 hown hK hP ho (by decide) rfl 0 (by decide) (hts _ (tb_in tw_301)) tk_0_0 dd_Out_current_7 ?_
  refine lv_iload_n hx hb dd_Out_current_10 rfl (lv_at hl 2 rfl) ?_
  refine lv_iconst (v := 2) hx hb dd_Out_current_11 kc_ic_2 ?_
  refine lv_irem hx hb dd_Out_current_12 (by decide) ?_
  obtain ⟨h3, hw⟩ := hw
  refine fw_aald hx hb hK hP (lf_0_0 ho) (by decide) 3 rfl (tka_103 _) h3 dd_Out_current_13 ?_
  refine lv_aload_n hx hb dd_Out_current_14 rfl (lv_at hl 1 rfl) ?_
  refine fw_geti hx hb hts in_0 hown hK hP ho (by decide) rfl 2 (by decide) (hts _ (tb_in tw_303)) tk_0_2 dd_Out_current_15 ?_
  refine fw_callv (va_runV (As := [.int (S1.1 o 2)]) (rest := []) ⟨hx, hb, hml, hown, hts⟩ (mt_Site_share l D cA b S1 ((o + 1) + (18 + 95 * ((a1 - a1 / 2 * 2 : Int32).toNatClampNeg))) (S1.1 o 2) (le_103 (lf_0_0 ho) (fw_lt h3)) _ hw) (cwV 1 hts (fw_gV tw_647 tw_644 tw_645 tw_646 tw_6) rfl rfl rfl (by decide +kernel) ⟨Nat.le_of_ble_eq_true rfl, Nat.le_of_ble_eq_true rfl⟩) (fw_preV hP hK (le_103 (lf_0_0 ho) (fw_lt h3)) (by decide) rfl) rfl rfl hl.1 rfl (lv_room (Nat.le_of_ble_eq_true rfl)) dd_Out_current_18 ⟨Nat.le_of_ble_eq_true rfl, Nat.le_of_ble_eq_true rfl⟩) hS (fun S4 H locs hw hP hS => ?_)
  try dsimp only at hw
  refine lv_aload_n hx hb dd_Out_current_21 rfl (lv_at hl 0 rfl) ?_
  refine fw_geti hx hb hts in_2 hown hK hP h_r2 (by decide) rfl 11 (by decide) (hts _ (tb_in tw_266)) tk_2_11 dd_Out_current_22 ?_
  refine tx_ret ?_
  exact W.iret (v := S4.1 r2 11) hx hb hr (fun t ht hW => ⟨⟨_, _, rfl, hw, fw_Bof ht hP⟩, hS.F ht⟩) hS.2.2 dd_Out_current_25
theorem dd_Out_sum_37 : decode bb_Out_sum 37 = .ok (.iload 5, 2) := by decide +kernel
theorem dd_Out_sum_39 : decode bb_Out_sum 39 = .ok (.iload 4, 2) := by decide +kernel
theorem dd_Out_sum_41 : decode bb_Out_sum 41 = .ok (.if_icmp .ge 23, 3) := by decide +kernel
theorem dd_Out_sum_64 : decode bb_Out_sum 64 = .ok (.iload_n 2, 1) := by decide +kernel
theorem dd_Out_sum_65 : decode bb_Out_sum 65 = .ok (.ireturn, 1) := by decide +kernel
theorem dd_Out_sum_44 : decode bb_Out_sum 44 = .ok (.aload_n 3, 1) := by decide +kernel
theorem dd_Out_sum_45 : decode bb_Out_sum 45 = .ok (.iload 5, 2) := by decide +kernel
theorem dd_Out_sum_47 : decode bb_Out_sum 47 = .ok (.aaload, 1) := by decide +kernel
theorem dd_Out_sum_48 : decode bb_Out_sum 48 = .ok (.astore 6, 2) := by decide +kernel
theorem dd_Out_sum_50 : decode bb_Out_sum 50 = .ok (.iload_n 2, 1) := by decide +kernel
theorem dd_Out_sum_51 : decode bb_Out_sum 51 = .ok (.aload 6, 2) := by decide +kernel
theorem dd_Out_sum_53 : decode bb_Out_sum 53 = .ok (.getfield 175, 3) := by decide +kernel
theorem dd_Out_sum_56 : decode bb_Out_sum 56 = .ok (.iadd, 1) := by decide +kernel
theorem dd_Out_sum_57 : decode bb_Out_sum 57 = .ok (.istore_n 2, 1) := by decide +kernel
theorem dd_Out_sum_58 : decode bb_Out_sum 58 = .ok (.iinc 5 1, 3) := by decide +kernel
theorem dd_Out_sum_61 : decode bb_Out_sum 61 = .ok (.goto (-24), 3) := by decide +kernel
theorem dd_Out_sum_0 : decode bb_Out_sum 0 = .ok (.iload_n 1, 1) := by decide +kernel
theorem dd_Out_sum_1 : decode bb_Out_sum 1 = .ok (.iconst 2, 1) := by decide +kernel
theorem dd_Out_sum_2 : decode bb_Out_sum 2 = .ok (.invokestatic 27, 3) := by decide +kernel
theorem dd_Out_sum_5 : decode bb_Out_sum 5 = .ok (.aload_n 0, 1) := by decide +kernel
theorem dd_Out_sum_6 : decode bb_Out_sum 6 = .ok (.getfield 11, 3) := by decide +kernel
theorem dd_Out_sum_9 : decode bb_Out_sum 9 = .ok (.iload_n 1, 1) := by decide +kernel
theorem dd_Out_sum_10 : decode bb_Out_sum 10 = .ok (.aaload, 1) := by decide +kernel
theorem dd_Out_sum_11 : decode bb_Out_sum 11 = .ok (.aload_n 0, 1) := by decide +kernel
theorem dd_Out_sum_12 : decode bb_Out_sum 12 = .ok (.getfield 22, 3) := by decide +kernel
theorem dd_Out_sum_15 : decode bb_Out_sum 15 = .ok (.invokevirtual 172, 3) := by decide +kernel
theorem dd_Out_sum_18 : decode bb_Out_sum 18 = .ok (.iconst 0, 1) := by decide +kernel
theorem dd_Out_sum_19 : decode bb_Out_sum 19 = .ok (.istore_n 2, 1) := by decide +kernel
theorem dd_Out_sum_20 : decode bb_Out_sum 20 = .ok (.aload_n 0, 1) := by decide +kernel
theorem dd_Out_sum_21 : decode bb_Out_sum 21 = .ok (.getfield 11, 3) := by decide +kernel
theorem dd_Out_sum_24 : decode bb_Out_sum 24 = .ok (.iload_n 1, 1) := by decide +kernel
theorem dd_Out_sum_25 : decode bb_Out_sum 25 = .ok (.aaload, 1) := by decide +kernel
theorem dd_Out_sum_26 : decode bb_Out_sum 26 = .ok (.getfield 178, 3) := by decide +kernel
theorem dd_Out_sum_29 : decode bb_Out_sum 29 = .ok (.astore_n 3, 1) := by decide +kernel
theorem dd_Out_sum_30 : decode bb_Out_sum 30 = .ok (.aload_n 3, 1) := by decide +kernel
theorem dd_Out_sum_31 : decode bb_Out_sum 31 = .ok (.arraylength, 1) := by decide +kernel
theorem dd_Out_sum_32 : decode bb_Out_sum 32 = .ok (.istore 4, 2) := by decide +kernel
theorem dd_Out_sum_34 : decode bb_Out_sum 34 = .ok (.iconst 0, 1) := by decide +kernel
theorem dd_Out_sum_35 : decode bb_Out_sum 35 = .ok (.istore 5, 2) := by decide +kernel
def ww_Out_sum : List Cond := .code yy_Out_sum bb_Out_sum 7 (some .int) :: TB
def rm_Out_sum : Room := { frames := 7, cells := 1, slots := 6, locals := 121 }
def wp_Out_sum_37 (o : Nat) (a1 : Int32) (post : fw_S → Int32 → Prop) (px : Nat → fw_S → Prop) : Nat → fw_S → Int32 → Nat → Int32 → Int32 → Prop
  | 0, _, _, _, _, _ => False
  | f + 1, S, x2, u3, x4, x5 => (((x4 ≤ x5) → post S x2) ∧ (¬ (x4 ≤ x5) → vp_in x5 3 ∧ (∀ v3 : Int32, v3 = (x2 + (S.1 (u3 + (1 + 31 * x5.toNatClampNeg)) 11)) → ∀ v4 : Int32, v4 = x5 + 1 → wp_Out_sum_37 o a1 post px f S v3 u3 x4 v4)))
def wp_Out_sum (S : fw_S) (o : Nat) (a1 : Int32) (post : fw_S → Int32 → Prop) (px : Nat → fw_S → Prop) : Prop := wp_Out_checkIndex S a1 2 (fun S1 => vp_in a1 2 ∧ (wp_Site_share S1 ((o + 1) + (18 + 95 * a1.toNatClampNeg)) (S1.1 o 2) (fun S3 => vp_in a1 2 ∧ (∀ v5 : Int32, v5 = (nI 3) → ∃ f0, wp_Out_sum_37 o a1 post px f0 S3 0 (((o + 1) + (18 + 95 * a1.toNatClampNeg)) + 1) v5 0)))) px
set_option maxHeartbeats 4000000 in
set_option maxRecDepth 100000 in
theorem mt_Out_sum (l : Launch) (hl9 : l.stackTraces = false) (D : va_G) (cA : Nat → ClassId) (b : Nat) (S : fw_S) (o : Nat) (a1 : Int32) (ho : o < 245 ∧ layU o = (0, 0)) (post : fw_S → Int32 → Prop) (px : Nat → fw_S → Prop) (hw : wp_Out_sum S o a1 post px) : tx_Met l yy_Out_sum ww_Out_sum rm_Out_sum (fw_PcX D CL cA (TYS cA) TK layU b 245 S [.ref (b + o), .int a1]) (va_Qi (fun r S' => post S' r) (fw_B D CL cA TK layU b 245) (fw_A b 245)) (fw_X D CL cA TK layU b 245 px) 1 6 (fw_A b 245) := by
  refine tx_ofW (cc := bb_Out_sum) (maxL := 7) (ret := (some .int)) (by decide) rfl ?_
  intro p e s m args below meth c s₁ B hml hTab hv
  obtain ⟨rfl, hP, hK, hZ⟩ := hv
  have hx := B.exec
  have hb := B.bytes
  have hr := B.returns
  have hts := atoms_spec (ws := ww_Out_sum) B.pre
  have hown : s.vm.findClass "OutletOffice" = some m.cls := findClass_of_methodNamed B.named
  have hlocks := B.notSynchronized
  have hS : va_S (fw_A b 245) s.heap s.heap [] := va_S.rf
  have hl := lv_entry ([.ref (b + o), .int a1]) (n := 7) (Nat.le_of_ble_eq_true rfl)
  rw [lg_entry_eq]
  generalize (lg_sl ([.ref (b + o), .int a1]) ++ List.replicate (7 - (lg_sl ([.ref (b + o), .int a1])).length) Slot.unset).toArray = ls at hl ⊢
  have hl : lv_has ls 7 [(0, .ref (b + o)), (1, .int a1)] := hl
  have B37 : ∀ f : Nat, ∀ (S : fw_S) (x2 : Int32) (u3 : Nat) (x4 : Int32) (x5 : Int32) (hu3 : u3 < 245 ∧ layU u3 = (104, 3)) (H : Heap) (locs : List Loc) (ls : Array Slot), wp_Out_sum_37 o a1 post px f S x2 u3 x4 x5 → fw_P D CL cA layU b 245 (fw_v TK layU b S) H → va_S (fw_A b 245) s.heap H locs → lv_has ls 7 [(0, .ref (b + o)), (1, .int a1), (2, .int x2), (3, .ref (b + u3)), (4, .int x4), (5, .int x5)] → W p l e (headSpec ww_Out_sum rm_Out_sum).room s m ([.ref (b + o), .int a1] : List Value).toArray below meth c H locs 1 6 (tx_MQ below (va_Qi (fun r S' => post S' r) (fw_B D CL cA TK layU b 245) (fw_A b 245)) (fw_X D CL cA TK layU b 245 px) ([.ref (b + o), .int a1] : List Value).toArray s 1 6 (fw_A b 245)) (F0 m 37 ls []) := by
    intro f
    induction f with
    | zero => intro S x2 u3 x4 x5 hu3 H locs ls hw; exact False.elim hw
    | succ f ih =>
        intro S x2 u3 x4 x5 hu3 H locs ls hw hP hS hl
        unfold wp_Out_sum_37 at hw
        refine lv_iload hx hb dd_Out_sum_37 (lv_at hl 5 rfl) ?_
        refine lv_iload hx hb dd_Out_sum_39 (lv_at hl 4 rfl) ?_
        refine lv_icmp_ge (tgt := 64) hx hb dd_Out_sum_41 (by decide) (fun h1 => ?_) (fun h1 => ?_)
        · have hw := hw.1 h1
          refine lv_iload_n hx hb dd_Out_sum_64 rfl (lv_at hl 2 rfl) ?_
          refine tx_ret ?_
          exact W.iret (v := x2) hx hb hr (fun t ht hW => ⟨⟨_, _, rfl, hw, fw_Bof ht hP⟩, hS.F ht⟩) hS.2.2 dd_Out_sum_65
        · have hw := hw.2 h1
          refine lv_aload_n hx hb dd_Out_sum_44 rfl (lv_at hl 3 rfl) ?_
          refine lv_iload hx hb dd_Out_sum_45 (lv_at hl 5 rfl) ?_
          obtain ⟨h2, hw⟩ := hw
          refine fw_aald hx hb hK hP hu3 (by decide) 4 rfl (tka_104 _) h2 dd_Out_sum_47 ?_
          refine lv_astore hx hb dd_Out_sum_48 hl (Nat.le_of_ble_eq_true rfl) rfl (fun ls hl => ?_)
          have hl : lv_has ls 7 [(6, .ref (b + (u3 + (1 + 31 * x5.toNatClampNeg)))), (0, .ref (b + o)), (1, .int a1), (2, .int x2), (3, .ref (b + u3)), (4, .int x4), (5, .int x5)] := hl
          refine lv_iload_n hx hb dd_Out_sum_50 rfl (lv_at hl 3 rfl) ?_
          refine lv_aload hx hb dd_Out_sum_51 (lv_at hl 0 rfl) ?_
          refine fw_geti hx hb hts in_2 hown hK hP (le_104 hu3 (fw_lt h2)) (by decide) rfl 11 (by decide) (hts _ (tb_in tw_266)) tk_2_11 dd_Out_sum_53 ?_
          refine lv_iadd hx hb dd_Out_sum_56 ?_
          refine lv_topi (fun v3 e_v3 => ?_)
          have hw := hw v3 e_v3
          refine lv_istore_n hx hb dd_Out_sum_57 rfl hl (Nat.le_of_ble_eq_true rfl) rfl (fun ls hl => ?_)
          have hl : lv_has ls 7 [(2, .int v3), (6, .ref (b + (u3 + (1 + 31 * x5.toNatClampNeg)))), (0, .ref (b + o)), (1, .int a1), (3, .ref (b + u3)), (4, .int x4), (5, .int x5)] := hl
          obtain ⟨v4, e_v4⟩ : ∃ z : Int32, z = x5 + 1 := ⟨_, rfl⟩
          have hw := hw v4 e_v4
          refine lv_iinc hx hb dd_Out_sum_58 hl (k := 6) rfl (show x5 + Int32.ofInt 1 = v4 by rw [kc_ii_1, e_v4]) (Nat.le_of_ble_eq_true rfl) rfl (fun ls hl => ?_)
          have hl : lv_has ls 7 [(5, .int v4), (2, .int v3), (6, .ref (b + (u3 + (1 + 31 * x5.toNatClampNeg)))), (0, .ref (b + o)), (1, .int a1), (3, .ref (b + u3)), (4, .int x4)] := hl
          refine lv_goto (tgt := 37) hx hb dd_Out_sum_61 (by decide) ?_
          exact ih S v3 u3 x4 v4 hu3 _ _ ls hw hP hS (lv_sub hl [3, 4, 1, 5, 6, 0] rfl)
  unfold wp_Out_sum at hw
  refine lv_iload_n hx hb dd_Out_sum_0 rfl (lv_at hl 1 rfl) ?_
  refine lv_iconst (v := 2) hx hb dd_Out_sum_1 kc_ic_2 ?_
  refine tx_callv (tx_runS (As := [.int a1, .int 2]) (rest := []) ⟨hx, hb, hml, hown, hts⟩ (mt_Out_checkIndex l hl9 D cA b S a1 2 _ _ hw) (cwS 2 hts (fw_gS tw_330 tw_328 tw_329 tw_1) rfl rfl rfl (by decide +kernel) ⟨Nat.le_of_ble_eq_true rfl, Nat.le_of_ble_eq_true rfl⟩) (fw_preSX hP hK hZ hS) rfl rfl hl.1 rfl (lv_room (Nat.le_of_ble_eq_true rfl)) dd_Out_sum_2 ⟨Nat.le_of_ble_eq_true rfl, Nat.le_of_ble_eq_true rfl⟩) hS (fun k9 S9 q9 ce9 H locs hw hP hS hce => tx_outF hTab hlocks hw hP hS hce (Nat.le_of_ble_eq_true rfl) (Nat.le_of_ble_eq_true rfl)) (fun S1 H locs hw hP hS => ?_)
  try dsimp only at hw
  refine lv_aload_n hx hb dd_Out_sum_5 rfl (lv_at hl 0 rfl) ?_
  refine fw_getr hx hb hts in_0 hown hK hP ho (by decide) rfl 0 (by decide) (hts _ (tb_in tw_301)) tk_0_0 dd_Out_sum_6 ?_
  refine lv_iload_n hx hb dd_Out_sum_9 rfl (lv_at hl 1 rfl) ?_
  obtain ⟨h2, hw⟩ := hw
  refine fw_aald hx hb hK hP (lf_0_0 ho) (by decide) 3 rfl (tka_103 _) h2 dd_Out_sum_10 ?_
  refine lv_aload_n hx hb dd_Out_sum_11 rfl (lv_at hl 0 rfl) ?_
  refine fw_geti hx hb hts in_0 hown hK hP ho (by decide) rfl 2 (by decide) (hts _ (tb_in tw_303)) tk_0_2 dd_Out_sum_12 ?_
  refine fw_callv (va_runV (As := [.int (S1.1 o 2)]) (rest := []) ⟨hx, hb, hml, hown, hts⟩ (mt_Site_share l D cA b S1 ((o + 1) + (18 + 95 * a1.toNatClampNeg)) (S1.1 o 2) (le_103 (lf_0_0 ho) (fw_lt h2)) _ hw) (cwV 1 hts (fw_gV tw_647 tw_644 tw_645 tw_646 tw_6) rfl rfl rfl (by decide +kernel) ⟨Nat.le_of_ble_eq_true rfl, Nat.le_of_ble_eq_true rfl⟩) (fw_preV hP hK (le_103 (lf_0_0 ho) (fw_lt h2)) (by decide) rfl) rfl rfl hl.1 rfl (lv_room (Nat.le_of_ble_eq_true rfl)) dd_Out_sum_15 ⟨Nat.le_of_ble_eq_true rfl, Nat.le_of_ble_eq_true rfl⟩) hS (fun S3 H locs hw hP hS => ?_)
  try dsimp only at hw
  refine lv_iconst (v := 0) hx hb dd_Out_sum_18 kc_ic_0 ?_
  refine lv_istore_n hx hb dd_Out_sum_19 rfl hl (Nat.le_of_ble_eq_true rfl) rfl (fun ls hl => ?_)
  have hl : lv_has ls 7 [(2, .int 0), (0, .ref (b + o)), (1, .int a1)] := hl
  refine lv_aload_n hx hb dd_Out_sum_20 rfl (lv_at hl 1 rfl) ?_
  refine fw_getr hx hb hts in_0 hown hK hP ho (by decide) rfl 0 (by decide) (hts _ (tb_in tw_301)) tk_0_0 dd_Out_sum_21 ?_
  refine lv_iload_n hx hb dd_Out_sum_24 rfl (lv_at hl 2 rfl) ?_
  obtain ⟨h4, hw⟩ := hw
  refine fw_aald hx hb hK hP (lf_0_0 ho) (by decide) 3 rfl (tka_103 _) h4 dd_Out_sum_25 ?_
  refine fw_getr hx hb hts in_1 hown hK hP (le_103 (lf_0_0 ho) (fw_lt h4)) (by decide) rfl 0 (by decide) (hts _ (tb_in tw_293)) tk_1_0 dd_Out_sum_26 ?_
  refine lv_astore_n hx hb dd_Out_sum_29 rfl hl (Nat.le_of_ble_eq_true rfl) rfl (fun ls hl => ?_)
  have hl : lv_has ls 7 [(3, .ref (b + (((o + 1) + (18 + 95 * a1.toNatClampNeg)) + 1))), (2, .int 0), (0, .ref (b + o)), (1, .int a1)] := hl
  refine lv_aload_n hx hb dd_Out_sum_30 rfl (lv_at hl 0 rfl) ?_
  refine fw_alen hx hb hK hP (lf_1_0 (le_103 (lf_0_0 ho) (fw_lt h4))) (by decide) 4 rfl dd_Out_sum_31 ?_
  refine lv_topi (fun v5 e_v5 => ?_)
  have hw := hw v5 e_v5
  refine lv_istore hx hb dd_Out_sum_32 hl (Nat.le_of_ble_eq_true rfl) rfl (fun ls hl => ?_)
  have hl : lv_has ls 7 [(4, .int v5), (3, .ref (b + (((o + 1) + (18 + 95 * a1.toNatClampNeg)) + 1))), (2, .int 0), (0, .ref (b + o)), (1, .int a1)] := hl
  refine lv_iconst (v := 0) hx hb dd_Out_sum_34 kc_ic_0 ?_
  refine lv_istore hx hb dd_Out_sum_35 hl (Nat.le_of_ble_eq_true rfl) rfl (fun ls hl => ?_)
  have hl : lv_has ls 7 [(5, .int 0), (4, .int v5), (3, .ref (b + (((o + 1) + (18 + 95 * a1.toNatClampNeg)) + 1))), (2, .int 0), (0, .ref (b + o)), (1, .int a1)] := hl
  obtain ⟨f0, hw⟩ := hw
  exact B37 f0 S3 0 (((o + 1) + (18 + 95 * a1.toNatClampNeg)) + 1) v5 0 (lf_1_0 (le_103 (lf_0_0 ho) (fw_lt h4))) _ _ ls hw hP hS (lv_sub hl [4, 5, 3, 2, 1, 0] rfl)
theorem dd_Out_meter_0 : decode bb_Out_meter 0 = .ok (.aload_n 0, 1) := by decide +kernel
theorem dd_Out_meter_1 : decode bb_Out_meter 1 = .ok (.iload_n 1, 1) := by decide +kernel
theorem dd_Out_meter_2 : decode bb_Out_meter 2 = .ok (.invokevirtual 64, 3) := by decide +kernel
theorem dd_Out_meter_5 : decode bb_Out_meter 5 = .ok (.getfield 182, 3) := by decide +kernel
theorem dd_Out_meter_8 : decode bb_Out_meter 8 = .ok (.lreturn, 1) := by decide +kernel
def ww_Out_meter : List Cond := .code yy_Out_meter bb_Out_meter 2 (some .long) :: TB
def rm_Out_meter : Room := { frames := 8, cells := 1, slots := 6, locals := 142 }
def wp_Out_meter (S : fw_S) (o : Nat) (a1 : Int32) (post : fw_S → Int64 → Prop) (px : Nat → fw_S → Prop) : Prop := wp_Out_pointAt S o a1 (fun S1 r2 => post S1 (S1.2 r2 5)) px
set_option maxHeartbeats 4000000 in
set_option maxRecDepth 100000 in
theorem mt_Out_meter (l : Launch) (hl9 : l.stackTraces = false) (D : va_G) (cA : Nat → ClassId) (b : Nat) (S : fw_S) (o : Nat) (a1 : Int32) (ho : o < 245 ∧ layU o = (0, 0)) (post : fw_S → Int64 → Prop) (px : Nat → fw_S → Prop) (hw : wp_Out_meter S o a1 post px) : tx_Met l yy_Out_meter ww_Out_meter rm_Out_meter (fw_PcX D CL cA (TYS cA) TK layU b 245 S [.ref (b + o), .int a1]) (va_Ql (fun r S' => post S' r) (fw_B D CL cA TK layU b 245) (fw_A b 245)) (fw_X D CL cA TK layU b 245 px) 1 6 (fw_A b 245) := by
  refine tx_ofW (cc := bb_Out_meter) (maxL := 2) (ret := (some .long)) (by decide) rfl ?_
  intro p e s m args below meth c s₁ B hml hTab hv
  obtain ⟨rfl, hP, hK, hZ⟩ := hv
  have hx := B.exec
  have hb := B.bytes
  have hr := B.returns
  have hts := atoms_spec (ws := ww_Out_meter) B.pre
  have hown : s.vm.findClass "OutletOffice" = some m.cls := findClass_of_methodNamed B.named
  have hlocks := B.notSynchronized
  have hS : va_S (fw_A b 245) s.heap s.heap [] := va_S.rf
  have hl := lv_entry ([.ref (b + o), .int a1]) (n := 2) (Nat.le_of_ble_eq_true rfl)
  rw [lg_entry_eq]
  generalize (lg_sl ([.ref (b + o), .int a1]) ++ List.replicate (2 - (lg_sl ([.ref (b + o), .int a1])).length) Slot.unset).toArray = ls at hl ⊢
  have hl : lv_has ls 2 [(0, .ref (b + o)), (1, .int a1)] := hl
  unfold wp_Out_meter at hw
  refine lv_aload_n hx hb dd_Out_meter_0 rfl (lv_at hl 0 rfl) ?_
  refine lv_iload_n hx hb dd_Out_meter_1 rfl (lv_at hl 1 rfl) ?_
  refine tx_callr (tx_runV (As := [.int a1]) (rest := []) ⟨hx, hb, hml, hown, hts⟩ (mt_Out_pointAt l hl9 D cA b S o a1 ho _ _ hw) (cwV 1 hts (fw_gV tw_458 tw_455 tw_457 ts_1 tw_1) rfl rfl rfl (by decide +kernel) ⟨Nat.le_of_ble_eq_true rfl, Nat.le_of_ble_eq_true rfl⟩) (fw_preVX hP hK hZ hS ho (by decide) rfl) rfl rfl hl.1 rfl (lv_room (Nat.le_of_ble_eq_true rfl)) dd_Out_meter_2 ⟨Nat.le_of_ble_eq_true rfl, Nat.le_of_ble_eq_true rfl⟩) hS (fun k9 S9 q9 ce9 H locs hw hP hS hce => tx_outF hTab hlocks hw hP hS hce (Nat.le_of_ble_eq_true rfl) (Nat.le_of_ble_eq_true rfl)) (fun S1 r2 H locs hw h_r2 hP hS => ?_)
  try dsimp only at hw
  refine fw_getl hx hb hts in_2 hown hK hP h_r2 (by decide) rfl 5 (by decide) (hts _ (tb_in tw_254)) tk_2_5 dd_Out_meter_5 ?_
  refine tx_ret ?_
  exact W.lret (v := S1.2 r2 5) hx hb hr (fun t ht hW => ⟨⟨_, _, rfl, hw, fw_Bof ht hP⟩, hS.F ht⟩) hS.2.2 dd_Out_meter_8
theorem dd_Out_about_0 : decode bb_Out_about 0 = .ok (.aload_n 0, 1) := by decide +kernel
theorem dd_Out_about_1 : decode bb_Out_about 1 = .ok (.iload_n 1, 1) := by decide +kernel
theorem dd_Out_about_2 : decode bb_Out_about 2 = .ok (.invokevirtual 64, 3) := by decide +kernel
theorem dd_Out_about_5 : decode bb_Out_about 5 = .ok (.astore_n 3, 1) := by decide +kernel
theorem dd_Out_about_6 : decode bb_Out_about 6 = .ok (.iload_n 2, 1) := by decide +kernel
theorem dd_Out_about_7 : decode bb_Out_about 7 = .ok (.iconst 0, 1) := by decide +kernel
theorem dd_Out_about_8 : decode bb_Out_about 8 = .ok (.iconst 5, 1) := by decide +kernel
theorem dd_Out_about_9 : decode bb_Out_about 9 = .ok (.invokestatic 31, 3) := by decide +kernel
theorem dd_Out_about_12 : decode bb_Out_about 12 = .ok (.iload_n 2, 1) := by decide +kernel
theorem dd_Out_about_13 : decode bb_Out_about 13 = .ok (.tableswitch 66 0 4 #[35, 43, 48, 53, 58], 35) := by decide +kernel
theorem dd_Out_about_79 : decode bb_Out_about 79 = .ok (.aload_n 3, 1) := by decide +kernel
theorem dd_Out_about_80 : decode bb_Out_about 80 = .ok (.getfield 142, 3) := by decide +kernel
theorem dd_Out_about_83 : decode bb_Out_about 83 = .ok (.invokevirtual 146, 3) := by decide +kernel
theorem dd_Out_about_86 : decode bb_Out_about 86 = .ok (.ireturn, 1) := by decide +kernel
theorem dd_Out_about_48 : decode bb_Out_about 48 = .ok (.aload_n 3, 1) := by decide +kernel
theorem dd_Out_about_49 : decode bb_Out_about 49 = .ok (.getfield 142, 3) := by decide +kernel
theorem dd_Out_about_52 : decode bb_Out_about 52 = .ok (.getfield 186, 3) := by decide +kernel
theorem dd_Out_about_55 : decode bb_Out_about 55 = .ok (.ireturn, 1) := by decide +kernel
theorem dd_Out_about_56 : decode bb_Out_about 56 = .ok (.aload_n 3, 1) := by decide +kernel
theorem dd_Out_about_57 : decode bb_Out_about 57 = .ok (.getfield 139, 3) := by decide +kernel
theorem dd_Out_about_60 : decode bb_Out_about 60 = .ok (.ireturn, 1) := by decide +kernel
theorem dd_Out_about_61 : decode bb_Out_about 61 = .ok (.aload_n 3, 1) := by decide +kernel
theorem dd_Out_about_62 : decode bb_Out_about 62 = .ok (.getfield 189, 3) := by decide +kernel
theorem dd_Out_about_65 : decode bb_Out_about 65 = .ok (.ireturn, 1) := by decide +kernel
theorem dd_Out_about_66 : decode bb_Out_about 66 = .ok (.aload_n 3, 1) := by decide +kernel
theorem dd_Out_about_67 : decode bb_Out_about 67 = .ok (.getfield 124, 3) := by decide +kernel
theorem dd_Out_about_70 : decode bb_Out_about 70 = .ok (.ireturn, 1) := by decide +kernel
theorem dd_Out_about_71 : decode bb_Out_about 71 = .ok (.aload_n 3, 1) := by decide +kernel
theorem dd_Out_about_72 : decode bb_Out_about 72 = .ok (.getfield 79, 3) := by decide +kernel
theorem dd_Out_about_75 : decode bb_Out_about 75 = .ok (.invokevirtual 192, 3) := by decide +kernel
theorem dd_Out_about_78 : decode bb_Out_about 78 = .ok (.ireturn, 1) := by decide +kernel
def ww_Out_about : List Cond := .code yy_Out_about bb_Out_about 4 (some .int) :: TB
def rm_Out_about : Room := { frames := 8, cells := 2, slots := 12, locals := 142 }
def wp_Out_about (S : fw_S) (o : Nat) (a1 : Int32) (a2 : Int32) (post : fw_S → Int32 → Prop) (px : Nat → fw_S → Prop) : Prop := wp_Out_pointAt S o a1 (fun S1 r2 => wp_Out_checkNumber S1 a2 0 5 (fun S3 => (((a2 : Int32).toInt < 0 ∨ 4 < (a2 : Int32).toInt → wp_Queue_firstNumber S3 (r2 + 2) (fun S5 r6 => post S5 r6)) ∧ ((a2 : Int32).toInt = 0 → post S3 (S3.1 (r2 + 2) 3)) ∧ ((a2 : Int32).toInt = 1 → post S3 (S3.1 r2 9)) ∧ ((a2 : Int32).toInt = 2 → post S3 (S3.1 r2 6)) ∧ ((a2 : Int32).toInt = 3 → post S3 (S3.1 r2 7)) ∧ ((a2 : Int32).toInt = 4 → wp_Car_presence S3 (r2 + 1) (fun S7 r8 => post S7 r8)))) px) px
set_option maxHeartbeats 4000000 in
set_option maxRecDepth 100000 in
theorem mt_Out_about (l : Launch) (hl9 : l.stackTraces = false) (D : va_G) (cA : Nat → ClassId) (b : Nat) (S : fw_S) (o : Nat) (a1 : Int32) (a2 : Int32) (ho : o < 245 ∧ layU o = (0, 0)) (post : fw_S → Int32 → Prop) (px : Nat → fw_S → Prop) (hw : wp_Out_about S o a1 a2 post px) : tx_Met l yy_Out_about ww_Out_about rm_Out_about (fw_PcX D CL cA (TYS cA) TK layU b 245 S [.ref (b + o), .int a1, .int a2]) (va_Qi (fun r S' => post S' r) (fw_B D CL cA TK layU b 245) (fw_A b 245)) (fw_X D CL cA TK layU b 245 px) 2 12 (fw_A b 245) := by
  refine tx_ofW (cc := bb_Out_about) (maxL := 4) (ret := (some .int)) (by decide) rfl ?_
  intro p e s m args below meth c s₁ B hml hTab hv
  obtain ⟨rfl, hP, hK, hZ⟩ := hv
  have hx := B.exec
  have hb := B.bytes
  have hr := B.returns
  have hts := atoms_spec (ws := ww_Out_about) B.pre
  have hown : s.vm.findClass "OutletOffice" = some m.cls := findClass_of_methodNamed B.named
  have hlocks := B.notSynchronized
  have hS : va_S (fw_A b 245) s.heap s.heap [] := va_S.rf
  have hl := lv_entry ([.ref (b + o), .int a1, .int a2]) (n := 4) (Nat.le_of_ble_eq_true rfl)
  rw [lg_entry_eq]
  generalize (lg_sl ([.ref (b + o), .int a1, .int a2]) ++ List.replicate (4 - (lg_sl ([.ref (b + o), .int a1, .int a2])).length) Slot.unset).toArray = ls at hl ⊢
  have hl : lv_has ls 4 [(0, .ref (b + o)), (1, .int a1), (2, .int a2)] := hl
  unfold wp_Out_about at hw
  refine lv_aload_n hx hb dd_Out_about_0 rfl (lv_at hl 0 rfl) ?_
  refine lv_iload_n hx hb dd_Out_about_1 rfl (lv_at hl 1 rfl) ?_
  refine tx_callr (tx_runV (As := [.int a1]) (rest := []) ⟨hx, hb, hml, hown, hts⟩ (mt_Out_pointAt l hl9 D cA b S o a1 ho _ _ hw) (cwV 1 hts (fw_gV tw_458 tw_455 tw_457 ts_1 tw_1) rfl rfl rfl (by decide +kernel) ⟨Nat.le_of_ble_eq_true rfl, Nat.le_of_ble_eq_true rfl⟩) (fw_preVX hP hK hZ hS ho (by decide) rfl) rfl rfl hl.1 rfl (lv_room (Nat.le_of_ble_eq_true rfl)) dd_Out_about_2 ⟨Nat.le_of_ble_eq_true rfl, Nat.le_of_ble_eq_true rfl⟩) hS (fun k9 S9 q9 ce9 H locs hw hP hS hce => tx_outF hTab hlocks hw hP hS hce (Nat.le_of_ble_eq_true rfl) (Nat.le_of_ble_eq_true rfl)) (fun S1 r2 H locs hw h_r2 hP hS => ?_)
  try dsimp only at hw
  refine lv_astore_n hx hb dd_Out_about_5 rfl hl (Nat.le_of_ble_eq_true rfl) rfl (fun ls hl => ?_)
  have hl : lv_has ls 4 [(3, .ref (b + r2)), (0, .ref (b + o)), (1, .int a1), (2, .int a2)] := hl
  refine lv_iload_n hx hb dd_Out_about_6 rfl (lv_at hl 3 rfl) ?_
  refine lv_iconst (v := 0) hx hb dd_Out_about_7 kc_ic_0 ?_
  refine lv_iconst (v := 5) hx hb dd_Out_about_8 kc_ic_5 ?_
  refine tx_callv (tx_runS (As := [.int a2, .int 0, .int 5]) (rest := []) ⟨hx, hb, hml, hown, hts⟩ (mt_Out_checkNumber l hl9 D cA b S1 a2 0 5 _ _ hw) (cwS 3 hts (fw_gS tw_400 tw_398 tw_399 tw_1) rfl rfl rfl (by decide +kernel) ⟨Nat.le_of_ble_eq_true rfl, Nat.le_of_ble_eq_true rfl⟩) (fw_preSX hP hK hZ hS) rfl rfl hl.1 rfl (lv_room (Nat.le_of_ble_eq_true rfl)) dd_Out_about_9 ⟨Nat.le_of_ble_eq_true rfl, Nat.le_of_ble_eq_true rfl⟩) hS (fun k9 S9 q9 ce9 H locs hw hP hS hce => tx_outF hTab hlocks hw hP hS hce (Nat.le_of_ble_eq_true rfl) (Nat.le_of_ble_eq_true rfl)) (fun S3 H locs hw hP hS => ?_)
  try dsimp only at hw
  refine lv_iload_n hx hb dd_Out_about_12 rfl (lv_at hl 3 rfl) ?_
  by_cases h4 : (a2 : Int32).toInt < 0 ∨ 4 < (a2 : Int32).toInt
  · have hw := hw.1 h4
    refine lv_tableOut (tgt := 79) hx hb dd_Out_about_13 h4 (by decide) ?_
    refine lv_aload_n hx hb dd_Out_about_79 rfl (lv_at hl 0 rfl) ?_
    refine fw_getr hx hb hts in_2 hown hK hP h_r2 (by decide) rfl 1 (by decide) (hts _ (tb_in tw_246)) tk_2_1 dd_Out_about_80 ?_
    refine fw_calli (va_runV (As := []) (rest := []) ⟨hx, hb, hml, hown, hts⟩ (mt_Queue_firstNumber l D cA b S3 (r2 + 2) (lf_2_1 h_r2) _ hw) (cwV 0 hts (fw_gV tw_585 tw_582 tw_583 tw_584 tw_9) rfl rfl rfl (by decide +kernel) ⟨Nat.le_of_ble_eq_true rfl, Nat.le_of_ble_eq_true rfl⟩) (fw_preV hP hK (lf_2_1 h_r2) (by decide) rfl) rfl rfl hl.1 rfl (lv_room (Nat.le_of_ble_eq_true rfl)) dd_Out_about_83 ⟨Nat.le_of_ble_eq_true rfl, Nat.le_of_ble_eq_true rfl⟩) hS (fun S5 r6 H locs hw hP hS => ?_)
    try dsimp only at hw
    refine tx_ret ?_
    exact W.iret (v := r6) hx hb hr (fun t ht hW => ⟨⟨_, _, rfl, hw, fw_Bof ht hP⟩, hS.F ht⟩) hS.2.2 dd_Out_about_86
  have hw := hw.2
  have h4_r : (a2 : Int32).toInt = 0 ∨ (a2 : Int32).toInt = 1 ∨ (a2 : Int32).toInt = 2 ∨ (a2 : Int32).toInt = 3 ∨ (a2 : Int32).toInt = 4 := by omega
  rcases h4_r with h4_e | h4_r
  · have hw := hw.1 h4_e
    refine lv_tableIn (tgt := 48) hx hb dd_Out_about_13 (by omega) (by omega) (by rw [h4_e]; rfl) (by decide) ?_
    refine lv_aload_n hx hb dd_Out_about_48 rfl (lv_at hl 0 rfl) ?_
    refine fw_getr hx hb hts in_2 hown hK hP h_r2 (by decide) rfl 1 (by decide) (hts _ (tb_in tw_246)) tk_2_1 dd_Out_about_49 ?_
    refine fw_geti hx hb hts in_4 hown hK hP (lf_2_1 h_r2) (by decide) rfl 3 (by decide) (hts _ (tb_in tw_226)) tk_4_3 dd_Out_about_52 ?_
    refine tx_ret ?_
    exact W.iret (v := S3.1 (r2 + 2) 3) hx hb hr (fun t ht hW => ⟨⟨_, _, rfl, hw, fw_Bof ht hP⟩, hS.F ht⟩) hS.2.2 dd_Out_about_55
  have hw := hw.2
  rcases h4_r with h4_e | h4_r
  · have hw := hw.1 h4_e
    refine lv_tableIn (tgt := 56) hx hb dd_Out_about_13 (by omega) (by omega) (by rw [h4_e]; rfl) (by decide) ?_
    refine lv_aload_n hx hb dd_Out_about_56 rfl (lv_at hl 0 rfl) ?_
    refine fw_geti hx hb hts in_2 hown hK hP h_r2 (by decide) rfl 9 (by decide) (hts _ (tb_in tw_261)) tk_2_9 dd_Out_about_57 ?_
    refine tx_ret ?_
    exact W.iret (v := S3.1 r2 9) hx hb hr (fun t ht hW => ⟨⟨_, _, rfl, hw, fw_Bof ht hP⟩, hS.F ht⟩) hS.2.2 dd_Out_about_60
  have hw := hw.2
  rcases h4_r with h4_e | h4_r
  · have hw := hw.1 h4_e
    refine lv_tableIn (tgt := 61) hx hb dd_Out_about_13 (by omega) (by omega) (by rw [h4_e]; rfl) (by decide) ?_
    refine lv_aload_n hx hb dd_Out_about_61 rfl (lv_at hl 0 rfl) ?_
    refine fw_geti hx hb hts in_2 hown hK hP h_r2 (by decide) rfl 6 (by decide) (hts _ (tb_in tw_256)) tk_2_6 dd_Out_about_62 ?_
    refine tx_ret ?_
    exact W.iret (v := S3.1 r2 6) hx hb hr (fun t ht hW => ⟨⟨_, _, rfl, hw, fw_Bof ht hP⟩, hS.F ht⟩) hS.2.2 dd_Out_about_65
  have hw := hw.2
  rcases h4_r with h4_e | h4_r
  · have hw := hw.1 h4_e
    refine lv_tableIn (tgt := 66) hx hb dd_Out_about_13 (by omega) (by omega) (by rw [h4_e]; rfl) (by decide) ?_
    refine lv_aload_n hx hb dd_Out_about_66 rfl (lv_at hl 0 rfl) ?_
    refine fw_geti hx hb hts in_2 hown hK hP h_r2 (by decide) rfl 7 (by decide) (hts _ (tb_in tw_258)) tk_2_7 dd_Out_about_67 ?_
    refine tx_ret ?_
    exact W.iret (v := S3.1 r2 7) hx hb hr (fun t ht hW => ⟨⟨_, _, rfl, hw, fw_Bof ht hP⟩, hS.F ht⟩) hS.2.2 dd_Out_about_70
  have hw := hw.2
  have h4_e := h4_r
  have hw := hw h4_e
  refine lv_tableIn (tgt := 71) hx hb dd_Out_about_13 (by omega) (by omega) (by rw [h4_e]; rfl) (by decide) ?_
  refine lv_aload_n hx hb dd_Out_about_71 rfl (lv_at hl 0 rfl) ?_
  refine fw_getr hx hb hts in_2 hown hK hP h_r2 (by decide) rfl 0 (by decide) (hts _ (tb_in tw_244)) tk_2_0 dd_Out_about_72 ?_
  refine fw_calli (va_runV (As := []) (rest := []) ⟨hx, hb, hml, hown, hts⟩ (mt_Car_presence l D cA b S3 (r2 + 1) (lf_2_0 h_r2) _ hw) (cwV 0 hts (fw_gV tw_752 tw_749 tw_750 tw_751 tw_8) rfl rfl rfl (by decide +kernel) ⟨Nat.le_of_ble_eq_true rfl, Nat.le_of_ble_eq_true rfl⟩) (fw_preV hP hK (lf_2_0 h_r2) (by decide) rfl) rfl rfl hl.1 rfl (lv_room (Nat.le_of_ble_eq_true rfl)) dd_Out_about_75 ⟨Nat.le_of_ble_eq_true rfl, Nat.le_of_ble_eq_true rfl⟩) hS (fun S7 r8 H locs hw hP hS => ?_)
  try dsimp only at hw
  refine tx_ret ?_
  exact W.iret (v := r8) hx hb hr (fun t ht hW => ⟨⟨_, _, rfl, hw, fw_Bof ht hP⟩, hS.F ht⟩) hS.2.2 dd_Out_about_78
