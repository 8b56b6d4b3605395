theorem dd_M_sum_15 : decode bb_M_sum 15 = .ok (.putfield 114, 3) := by decide +kernel
theorem dd_M_sum_18 : decode bb_M_sum 18 = .ok (.aload_n 0, 1) := by decide +kernel
theorem dd_M_sum_19 : decode bb_M_sum 19 = .ok (.getfield 114, 3) := by decide +kernel
theorem dd_M_sum_22 : decode bb_M_sum 22 = .ok (.ifCond .le 5, 3) := by decide +kernel
theorem dd_M_sum_27 : decode bb_M_sum 27 = .ok (.aload_n 0, 1) := by decide +kernel
theorem dd_M_sum_28 : decode bb_M_sum 28 = .ok (.iconst 0, 1) := by decide +kernel
theorem dd_M_sum_29 : decode bb_M_sum 29 = .ok (.putfield 122, 3) := by decide +kernel
theorem dd_M_sum_32 : decode bb_M_sum 32 = .ok (.aload_n 0, 1) := by decide +kernel
theorem dd_M_sum_33 : decode bb_M_sum 33 = .ok (.invokevirtual 202, 3) := by decide +kernel
theorem dd_M_sum_36 : decode bb_M_sum 36 = .ok (.aload_n 0, 1) := by decide +kernel
theorem dd_M_sum_37 : decode bb_M_sum 37 = .ok (.getfield 111, 3) := by decide +kernel
theorem dd_M_sum_40 : decode bb_M_sum 40 = .ok (.iload_n 1, 1) := by decide +kernel
theorem dd_M_sum_41 : decode bb_M_sum 41 = .ok (.iaload, 1) := by decide +kernel
theorem dd_M_sum_42 : decode bb_M_sum 42 = .ok (.aload_n 0, 1) := by decide +kernel
theorem dd_M_sum_43 : decode bb_M_sum 43 = .ok (.getfield 111, 3) := by decide +kernel
theorem dd_M_sum_46 : decode bb_M_sum 46 = .ok (.iload_n 1, 1) := by decide +kernel
theorem dd_M_sum_47 : decode bb_M_sum 47 = .ok (.iconst 2, 1) := by decide +kernel
theorem dd_M_sum_48 : decode bb_M_sum 48 = .ok (.iadd, 1) := by decide +kernel
theorem dd_M_sum_49 : decode bb_M_sum 49 = .ok (.iaload, 1) := by decide +kernel
theorem dd_M_sum_50 : decode bb_M_sum 50 = .ok (.iadd, 1) := by decide +kernel
theorem dd_M_sum_51 : decode bb_M_sum 51 = .ok (.aload_n 0, 1) := by decide +kernel
theorem dd_M_sum_52 : decode bb_M_sum 52 = .ok (.getfield 111, 3) := by decide +kernel
theorem dd_M_sum_55 : decode bb_M_sum 55 = .ok (.iload_n 1, 1) := by decide +kernel
theorem dd_M_sum_56 : decode bb_M_sum 56 = .ok (.iconst 4, 1) := by decide +kernel
theorem dd_M_sum_57 : decode bb_M_sum 57 = .ok (.iadd, 1) := by decide +kernel
theorem dd_M_sum_58 : decode bb_M_sum 58 = .ok (.iaload, 1) := by decide +kernel
theorem dd_M_sum_59 : decode bb_M_sum 59 = .ok (.iadd, 1) := by decide +kernel
theorem dd_M_sum_60 : decode bb_M_sum 60 = .ok (.ireturn, 1) := by decide +kernel
theorem dd_M_sum_25 : decode bb_M_sum 25 = .ok (.iconst 0, 1) := by decide +kernel
theorem dd_M_sum_26 : decode bb_M_sum 26 = .ok (.ireturn, 1) := by decide +kernel
theorem dd_M_sum_0 : decode bb_M_sum 0 = .ok (.aload_n 0, 1) := by decide +kernel
theorem dd_M_sum_1 : decode bb_M_sum 1 = .ok (.iload_n 1, 1) := by decide +kernel
theorem dd_M_sum_2 : decode bb_M_sum 2 = .ok (.iconst 0, 1) := by decide +kernel
theorem dd_M_sum_3 : decode bb_M_sum 3 = .ok (.iconst 1, 1) := by decide +kernel
theorem dd_M_sum_4 : decode bb_M_sum 4 = .ok (.invokestatic 118, 3) := by decide +kernel
theorem dd_M_sum_7 : decode bb_M_sum 7 = .ok (.ifCond .eq 7, 3) := by decide +kernel
theorem dd_M_sum_14 : decode bb_M_sum 14 = .ok (.iconst 1, 1) := by decide +kernel
theorem dd_M_sum_10 : decode bb_M_sum 10 = .ok (.iconst 0, 1) := by decide +kernel
theorem dd_M_sum_11 : decode bb_M_sum 11 = .ok (.goto 4, 3) := by decide +kernel
def ww_M_sum : List Cond := .code yy_M_sum bb_M_sum 2 (some .int) :: TB
def rm_M_sum : Room := { frames := 4, cells := 0, slots := 0, locals := 96 }
def wp_M_sum_15 (o : Nat) (a1 : Int32) (post : fw_S → Int32 → Prop) (S : fw_S) (p0 : Int32) : Prop := ∀ S1 : fw_S, S1 = fw_si S o 0 p0 → ((((S1.1 o 0) ≤ 0) → ∀ S3 : fw_S, S3 = fw_si S1 o 39 0 → wp_M_reckonAll S3 o (fun S4 => vp_in a1 6 ∧ (vp_in (a1 + 2) 6 ∧ (vp_in (a1 + 4) 6 ∧ (post S4 (((S4.1 (o + 34) a1.toNatClampNeg) + (S4.1 (o + 34) ((a1 + 2 : Int32).toNatClampNeg))) + (S4.1 (o + 34) ((a1 + 4 : Int32).toNatClampNeg)))))))) ∧ (¬ ((S1.1 o 0) ≤ 0) → post S1 0))
def wp_M_sum (S : fw_S) (o : Nat) (a1 : Int32) (post : fw_S → Int32 → Prop) : Prop := wp_M_isIn S a1 0 1 (fun S1 r2 => (((r2 = 0) → wp_M_sum_15 o a1 post S1 1) ∧ (¬ (r2 = 0) → wp_M_sum_15 o a1 post S1 0)))
set_option maxHeartbeats 4000000 in
set_option maxRecDepth 100000 in
theorem mt_M_sum (l : Launch) (D : va_G) (cA : Nat → ClassId) (b : Nat) (S : fw_S) (o : Nat) (a1 : Int32) (ho : o < 245 ∧ layU o = (10, 0)) (post : fw_S → Int32 → Prop) (hw : wp_M_sum S o a1 post) : Met l yy_M_sum ww_M_sum rm_M_sum (fw_Pc D CL cA (TYS cA) TK layU b 245 S [.ref (b + o), .int a1]) (va_Qi (fun r S' => post S' r) (fw_B D CL cA TK layU b 245) (fw_A b 245)) 0 0 (fw_A b 245) := by
  refine Met.ofW (cc := bb_M_sum) (maxL := 2) (ret := (some .int)) (by decide) rfl ?_
  intro p e s m args below meth c s₁ B hml hv
  obtain ⟨rfl, hP, hK⟩ := hv
  have hx := B.exec
  have hb := B.bytes
  have hr := B.returns
  have hts := atoms_spec (ws := ww_M_sum) B.pre
  have hown : s.vm.findClass "OutletOfficeModel" = some m.cls := findClass_of_methodNamed B.named
  have hlocks := B.notSynchronized
  have hS : va_S (fw_A b 245) s.heap s.heap [] := va_S.rf
  have hl := lv_entry ([.ref (b + o), .int a1]) (n := 2) (Nat.le_of_ble_eq_true rfl)
  rw [lg_entry_eq]
  generalize (lg_sl ([.ref (b + o), .int a1]) ++ List.replicate (2 - (lg_sl ([.ref (b + o), .int a1])).length) Slot.unset).toArray = ls at hl ⊢
  have hl : lv_has ls 2 [(0, .ref (b + o)), (1, .int a1)] := hl
  have B15 : ∀ (S : fw_S) (p0 : Int32) (H : Heap) (locs : List Loc) (ls : Array Slot), wp_M_sum_15 o a1 post S p0 → fw_P D CL cA layU b 245 (fw_v TK layU b S) H → va_S (fw_A b 245) s.heap H locs → lv_has ls 2 [(0, .ref (b + o)), (1, .int a1)] → W p l e (headSpec ww_M_sum rm_M_sum).room s m ([.ref (b + o), .int a1] : List Value).toArray below meth c H locs 0 0 (MQ below (va_Qi (fun r S' => post S' r) (fw_B D CL cA TK layU b 245) (fw_A b 245)) ([.ref (b + o), .int a1] : List Value).toArray s 0 0 (fw_A b 245)) (F0 m 15 ls [.int p0, .ref (b + o)]) := by
      intro S p0 H locs ls hw hP hS hl
      unfold wp_M_sum_15 at hw
      refine fw_puti hx hb hts in_10 F_ty_10 F_tyok_10 F_nm_10 hown hK hP hS (fw_A.in ho.1) ho (by decide) rfl 0 (by decide) (hts _ (tb_in tw_781)) rfl tk_10_0 (ty := .int) (by decide +kernel) rfl rfl dd_M_sum_15 (fun H locs hP hS => ?_)
      obtain ⟨S1, e_S1⟩ : ∃ z, z = fw_si S o 0 p0 := ⟨_, rfl⟩
      rw [← e_S1] at hP
      have hw := hw S1 e_S1
      refine lv_aload_n hx hb dd_M_sum_18 rfl (lv_at hl 0 rfl) ?_
      refine fw_geti hx hb hts in_10 hown hK hP ho (by decide) rfl 0 (by decide) (hts _ (tb_in tw_781)) tk_10_0 dd_M_sum_19 ?_
      refine lv_if_le (tgt := 27) hx hb dd_M_sum_22 (by decide) (fun h2 => ?_) (fun h2 => ?_)
      · have hw := hw.1 h2
        refine lv_aload_n hx hb dd_M_sum_27 rfl (lv_at hl 0 rfl) ?_
        refine lv_iconst (v := 0) hx hb dd_M_sum_28 kc_ic_0 ?_
        refine fw_puti hx hb hts in_10 F_ty_10 F_tyok_10 F_nm_10 hown hK hP hS (fw_A.in ho.1) ho (by decide) rfl 39 (by decide) (hts _ (tb_in tw_820)) rfl tk_10_39 (ty := .boolean) (by decide +kernel) rfl rfl dd_M_sum_29 (fun H locs hP hS => ?_)
        obtain ⟨S3, e_S3⟩ : ∃ z, z = fw_si S1 o 39 0 := ⟨_, rfl⟩
        rw [← e_S3] at hP
        have hw := hw S3 e_S3
        refine lv_aload_n hx hb dd_M_sum_32 rfl (lv_at hl 0 rfl) ?_
        refine fw_callv (va_runV (As := []) (rest := []) ⟨hx, hb, hml, hown, hts⟩ (mt_M_reckonAll l D cA b S3 o ho _ hw) (cwV 0 hts (fw_gV tw_1027 tw_1024 tw_1026 ts_26 tw_11) rfl rfl rfl (by decide +kernel) ⟨Nat.le_of_ble_eq_true rfl, Nat.le_of_ble_eq_true rfl⟩) (fw_preV hP hK ho (by decide) rfl) rfl rfl hl.1 rfl (lv_room (Nat.le_of_ble_eq_true rfl)) dd_M_sum_33 ⟨Nat.le_of_ble_eq_true rfl, Nat.le_of_ble_eq_true rfl⟩) hS (fun S4 H locs hw hP hS => ?_)
        try dsimp only at hw
        refine lv_aload_n hx hb dd_M_sum_36 rfl (lv_at hl 0 rfl) ?_
        refine fw_getr hx hb hts in_10 hown hK hP ho (by decide) rfl 38 (by decide) (hts _ (tb_in tw_819)) tk_10_38 dd_M_sum_37 ?_
        refine lv_iload_n hx hb dd_M_sum_40 rfl (lv_at hl 1 rfl) ?_
        obtain ⟨h5, hw⟩ := hw
        refine fw_iald hx hb hK hP (lf_10_38 ho) (by decide) 0 rfl tka_100 h5 dd_M_sum_41 ?_
        refine lv_aload_n hx hb dd_M_sum_42 rfl (lv_at hl 0 rfl) ?_
        refine fw_getr hx hb hts in_10 hown hK hP ho (by decide) rfl 38 (by decide) (hts _ (tb_in tw_819)) tk_10_38 dd_M_sum_43 ?_
        refine lv_iload_n hx hb dd_M_sum_46 rfl (lv_at hl 1 rfl) ?_
        refine lv_iconst (v := 2) hx hb dd_M_sum_47 kc_ic_2 ?_
        refine lv_iadd hx hb dd_M_sum_48 ?_
        obtain ⟨h6, hw⟩ := hw
        refine fw_iald hx hb hK hP (lf_10_38 ho) (by decide) 0 rfl tka_100 h6 dd_M_sum_49 ?_
        refine lv_iadd hx hb dd_M_sum_50 ?_
        refine lv_aload_n hx hb dd_M_sum_51 rfl (lv_at hl 0 rfl) ?_
        refine fw_getr hx hb hts in_10 hown hK hP ho (by decide) rfl 38 (by decide) (hts _ (tb_in tw_819)) tk_10_38 dd_M_sum_52 ?_
        refine lv_iload_n hx hb dd_M_sum_55 rfl (lv_at hl 1 rfl) ?_
        refine lv_iconst (v := 4) hx hb dd_M_sum_56 kc_ic_4 ?_
        refine lv_iadd hx hb dd_M_sum_57 ?_
        obtain ⟨h7, hw⟩ := hw
        refine fw_iald hx hb hK hP (lf_10_38 ho) (by decide) 0 rfl tka_100 h7 dd_M_sum_58 ?_
        refine lv_iadd hx hb dd_M_sum_59 ?_
        exact W.iret (v := ((S4.1 (o + 34) a1.toNatClampNeg) + (S4.1 (o + 34) ((a1 + 2 : Int32).toNatClampNeg))) + (S4.1 (o + 34) ((a1 + 4 : Int32).toNatClampNeg))) hx hb hr (fun t ht hW => ⟨⟨_, _, rfl, hw, fw_Bof ht hP⟩, hS.F ht⟩) hS.2.2 dd_M_sum_60
      · have hw := hw.2 h2
        refine lv_iconst (v := 0) hx hb dd_M_sum_25 kc_ic_0 ?_
        exact W.iret (v := 0) hx hb hr (fun t ht hW => ⟨⟨_, _, rfl, hw, fw_Bof ht hP⟩, hS.F ht⟩) hS.2.2 dd_M_sum_26
  unfold wp_M_sum at hw
  refine lv_aload_n hx hb dd_M_sum_0 rfl (lv_at hl 0 rfl) ?_
  refine lv_iload_n hx hb dd_M_sum_1 rfl (lv_at hl 1 rfl) ?_
  refine lv_iconst (v := 0) hx hb dd_M_sum_2 kc_ic_0 ?_
  refine lv_iconst (v := 1) hx hb dd_M_sum_3 kc_ic_1 ?_
  refine fw_calli (va_runS (As := [.int a1, .int 0, .int 1]) (rest := [.ref (b + o)]) ⟨hx, hb, hml, hown, hts⟩ (mt_M_isIn l D cA b S a1 0 1 _ hw) (cwS 3 hts (fw_gS tw_913 tw_911 tw_912 tw_11) rfl rfl rfl (by decide +kernel) ⟨Nat.le_of_ble_eq_true rfl, Nat.le_of_ble_eq_true rfl⟩) (fw_preS hP hK) rfl rfl hl.1 rfl (lv_room (Nat.le_of_ble_eq_true rfl)) dd_M_sum_4 ⟨Nat.le_of_ble_eq_true rfl, Nat.le_of_ble_eq_true rfl⟩) hS (fun S1 r2 H locs hw hP hS => ?_)
  try dsimp only at hw
  refine lv_if_eq (tgt := 14) hx hb dd_M_sum_7 (by decide) (fun h3 => ?_) (fun h3 => ?_)
  · have hw := hw.1 h3
    refine lv_iconst (v := 1) hx hb dd_M_sum_14 kc_ic_1 ?_
    exact B15 S1 1 _ _ ls hw hP hS (lv_sub hl [0, 1] rfl)
  · have hw := hw.2 h3
    refine lv_iconst (v := 0) hx hb dd_M_sum_10 kc_ic_0 ?_
    refine lv_goto (tgt := 15) hx hb dd_M_sum_11 (by decide) ?_
    exact B15 S1 0 _ _ ls hw hP hS (lv_sub hl [0, 1] rfl)
theorem dd_M_meter_18 : decode bb_M_meter 18 = .ok (.lreturn, 1) := by decide +kernel
theorem dd_M_meter_0 : decode bb_M_meter 0 = .ok (.aload_n 0, 1) := by decide +kernel
theorem dd_M_meter_1 : decode bb_M_meter 1 = .ok (.iload_n 1, 1) := by decide +kernel
theorem dd_M_meter_2 : decode bb_M_meter 2 = .ok (.invokevirtual 134, 3) := by decide +kernel
theorem dd_M_meter_5 : decode bb_M_meter 5 = .ok (.ifCond .eq 7, 3) := by decide +kernel
theorem dd_M_meter_12 : decode bb_M_meter 12 = .ok (.aload_n 0, 1) := by decide +kernel
theorem dd_M_meter_13 : decode bb_M_meter 13 = .ok (.getfield 32, 3) := by decide +kernel
theorem dd_M_meter_16 : decode bb_M_meter 16 = .ok (.iload_n 1, 1) := by decide +kernel
theorem dd_M_meter_17 : decode bb_M_meter 17 = .ok (.laload, 1) := by decide +kernel
theorem dd_M_meter_8 : decode bb_M_meter 8 = .ok (.lconst 0, 1) := by decide +kernel
theorem dd_M_meter_9 : decode bb_M_meter 9 = .ok (.goto 9, 3) := by decide +kernel
def ww_M_meter : List Cond := .code yy_M_meter bb_M_meter 2 (some .long) :: TB
def rm_M_meter : Room := { frames := 2, cells := 0, slots := 0, locals := 43 }
def wp_M_meter_18 (o : Nat) (a1 : Int32) (post : fw_S → Int64 → Prop) (S : fw_S) (pl0 : Int64) : Prop := post S pl0
def wp_M_meter (S : fw_S) (o : Nat) (a1 : Int32) (post : fw_S → Int64 → Prop) : Prop := wp_M_noPoint S o a1 (fun S1 r2 => (((r2 = 0) → vp_in a1 6 ∧ (wp_M_meter_18 o a1 post S1 (S1.2 (o + 8) a1.toNatClampNeg))) ∧ (¬ (r2 = 0) → wp_M_meter_18 o a1 post S1 0)))
set_option maxHeartbeats 4000000 in
set_option maxRecDepth 100000 in
theorem mt_M_meter (l : Launch) (D : va_G) (cA : Nat → ClassId) (b : Nat) (S : fw_S) (o : Nat) (a1 : Int32) (ho : o < 245 ∧ layU o = (10, 0)) (post : fw_S → Int64 → Prop) (hw : wp_M_meter S o a1 post) : Met l yy_M_meter ww_M_meter rm_M_meter (fw_Pc D CL cA (TYS cA) TK layU b 245 S [.ref (b + o), .int a1]) (va_Ql (fun r S' => post S' r) (fw_B D CL cA TK layU b 245) (fw_A b 245)) 0 0 (fw_A b 245) := by
  refine Met.ofW (cc := bb_M_meter) (maxL := 2) (ret := (some .long)) (by decide) rfl ?_
  intro p e s m args below meth c s₁ B hml hv
  obtain ⟨rfl, hP, hK⟩ := hv
  have hx := B.exec
  have hb := B.bytes
  have hr := B.returns
  have hts := atoms_spec (ws := ww_M_meter) B.pre
  have hown : s.vm.findClass "OutletOfficeModel" = some m.cls := findClass_of_methodNamed B.named
  have hlocks := B.notSynchronized
  have hS : va_S (fw_A b 245) s.heap s.heap [] := va_S.rf
  have hl := lv_entry ([.ref (b + o), .int a1]) (n := 2) (Nat.le_of_ble_eq_true rfl)
  rw [lg_entry_eq]
  generalize (lg_sl ([.ref (b + o), .int a1]) ++ List.replicate (2 - (lg_sl ([.ref (b + o), .int a1])).length) Slot.unset).toArray = ls at hl ⊢
  have hl : lv_has ls 2 [(0, .ref (b + o)), (1, .int a1)] := hl
  have B18 : ∀ (S : fw_S) (pl0 : Int64) (H : Heap) (locs : List Loc) (ls : Array Slot), wp_M_meter_18 o a1 post S pl0 → fw_P D CL cA layU b 245 (fw_v TK layU b S) H → va_S (fw_A b 245) s.heap H locs → lv_has ls 2 [(0, .ref (b + o)), (1, .int a1)] → W p l e (headSpec ww_M_meter rm_M_meter).room s m ([.ref (b + o), .int a1] : List Value).toArray below meth c H locs 0 0 (MQ below (va_Ql (fun r S' => post S' r) (fw_B D CL cA TK layU b 245) (fw_A b 245)) ([.ref (b + o), .int a1] : List Value).toArray s 0 0 (fw_A b 245)) (F0 m 18 ls [.long pl0]) := by
      intro S pl0 H locs ls hw hP hS hl
      unfold wp_M_meter_18 at hw
      exact W.lret (v := pl0) hx hb hr (fun t ht hW => ⟨⟨_, _, rfl, hw, fw_Bof ht hP⟩, hS.F ht⟩) hS.2.2 dd_M_meter_18
  unfold wp_M_meter at hw
  refine lv_aload_n hx hb dd_M_meter_0 rfl (lv_at hl 0 rfl) ?_
  refine lv_iload_n hx hb dd_M_meter_1 rfl (lv_at hl 1 rfl) ?_
  refine fw_calli (va_runV (As := [.int a1]) (rest := []) ⟨hx, hb, hml, hown, hts⟩ (mt_M_noPoint l D cA b S o a1 ho _ hw) (cwV 1 hts (fw_gV tw_935 tw_932 tw_934 ts_14 tw_11) rfl rfl rfl (by decide +kernel) ⟨Nat.le_of_ble_eq_true rfl, Nat.le_of_ble_eq_true rfl⟩) (fw_preV hP hK ho (by decide) rfl) rfl rfl hl.1 rfl (lv_room (Nat.le_of_ble_eq_true rfl)) dd_M_meter_2 ⟨Nat.le_of_ble_eq_true rfl, Nat.le_of_ble_eq_true rfl⟩) hS (fun S1 r2 H locs hw hP hS => ?_)
  try dsimp only at hw
  refine lv_if_eq (tgt := 12) hx hb dd_M_meter_5 (by decide) (fun h3 => ?_) (fun h3 => ?_)
  · have hw := hw.1 h3
    refine lv_aload_n hx hb dd_M_meter_12 rfl (lv_at hl 0 rfl) ?_
    refine fw_getr hx hb hts in_10 hown hK hP ho (by decide) rfl 11 (by decide) (hts _ (tb_in tw_792)) tk_10_11 dd_M_meter_13 ?_
    refine lv_iload_n hx hb dd_M_meter_16 rfl (lv_at hl 1 rfl) ?_
    obtain ⟨h4, hw⟩ := hw
    refine fw_lald hx hb hK hP (lf_10_11 ho) (by decide) 1 rfl tka_101 h4 dd_M_meter_17 ?_
    exact B18 S1 (S1.2 (o + 8) a1.toNatClampNeg) _ _ ls hw hP hS (lv_sub hl [0, 1] rfl)
  · have hw := hw.2 h3
    refine lv_lconst (v := 0) hx hb dd_M_meter_8 kc_lc_0 ?_
    refine lv_goto (tgt := 18) hx hb dd_M_meter_9 (by decide) ?_
    exact B18 S1 0 _ _ ls hw hP hS (lv_sub hl [0, 1] rfl)
theorem dd_M_about_28 : decode bb_M_about 28 = .ok (.putfield 114, 3) := by decide +kernel
theorem dd_M_about_31 : decode bb_M_about 31 = .ok (.aload_n 0, 1) := by decide +kernel
theorem dd_M_about_32 : decode bb_M_about 32 = .ok (.getfield 114, 3) := by decide +kernel
theorem dd_M_about_35 : decode bb_M_about 35 = .ok (.ifCond .le 5, 3) := by decide +kernel
theorem dd_M_about_40 : decode bb_M_about 40 = .ok (.iload_n 2, 1) := by decide +kernel
theorem dd_M_about_41 : decode bb_M_about 41 = .ok (.iconst 2, 1) := by decide +kernel
theorem dd_M_about_42 : decode bb_M_about 42 = .ok (.if_icmp .ge 23, 3) := by decide +kernel
theorem dd_M_about_65 : decode bb_M_about 65 = .ok (.iload_n 2, 1) := by decide +kernel
theorem dd_M_about_66 : decode bb_M_about 66 = .ok (.iconst 4, 1) := by decide +kernel
theorem dd_M_about_67 : decode bb_M_about 67 = .ok (.if_icmp .ge 37, 3) := by decide +kernel
theorem dd_M_about_104 : decode bb_M_about 104 = .ok (.iload_n 2, 1) := by decide +kernel
theorem dd_M_about_105 : decode bb_M_about 105 = .ok (.iconst 4, 1) := by decide +kernel
theorem dd_M_about_106 : decode bb_M_about 106 = .ok (.if_icmp .ne 33, 3) := by decide +kernel
theorem dd_M_about_139 : decode bb_M_about 139 = .ok (.aload_n 0, 1) := by decide +kernel
theorem dd_M_about_140 : decode bb_M_about 140 = .ok (.getfield 45, 3) := by decide +kernel
theorem dd_M_about_143 : decode bb_M_about 143 = .ok (.iload_n 1, 1) := by decide +kernel
theorem dd_M_about_144 : decode bb_M_about 144 = .ok (.iaload, 1) := by decide +kernel
theorem dd_M_about_145 : decode bb_M_about 145 = .ok (.ifCond .le 16, 3) := by decide +kernel
theorem dd_M_about_161 : decode bb_M_about 161 = .ok (.iconst 0, 1) := by decide +kernel
theorem dd_M_about_148 : decode bb_M_about 148 = .ok (.aload_n 0, 1) := by decide +kernel
theorem dd_M_about_149 : decode bb_M_about 149 = .ok (.getfield 57, 3) := by decide +kernel
theorem dd_M_about_152 : decode bb_M_about 152 = .ok (.iload_n 1, 1) := by decide +kernel
theorem dd_M_about_153 : decode bb_M_about 153 = .ok (.iconst 0, 1) := by decide +kernel
theorem dd_M_about_154 : decode bb_M_about 154 = .ok (.invokestatic 140, 3) := by decide +kernel
theorem dd_M_about_157 : decode bb_M_about 157 = .ok (.iaload, 1) := by decide +kernel
theorem dd_M_about_158 : decode bb_M_about 158 = .ok (.goto 4, 3) := by decide +kernel
theorem dd_M_about_109 : decode bb_M_about 109 = .ok (.aload_n 0, 1) := by decide +kernel
theorem dd_M_about_110 : decode bb_M_about 110 = .ok (.getfield 63, 3) := by decide +kernel
theorem dd_M_about_113 : decode bb_M_about 113 = .ok (.iload_n 1, 1) := by decide +kernel
theorem dd_M_about_114 : decode bb_M_about 114 = .ok (.baload, 1) := by decide +kernel
theorem dd_M_about_115 : decode bb_M_about 115 = .ok (.ifCond .ne 7, 3) := by decide +kernel
theorem dd_M_about_122 : decode bb_M_about 122 = .ok (.aload_n 0, 1) := by decide +kernel
theorem dd_M_about_123 : decode bb_M_about 123 = .ok (.getfield 75, 3) := by decide +kernel
theorem dd_M_about_126 : decode bb_M_about 126 = .ok (.iload_n 1, 1) := by decide +kernel
theorem dd_M_about_127 : decode bb_M_about 127 = .ok (.baload, 1) := by decide +kernel
theorem dd_M_about_128 : decode bb_M_about 128 = .ok (.ifCond .eq 7, 3) := by decide +kernel
theorem dd_M_about_135 : decode bb_M_about 135 = .ok (.iconst 1, 1) := by decide +kernel
theorem dd_M_about_136 : decode bb_M_about 136 = .ok (.goto 26, 3) := by decide +kernel
theorem dd_M_about_131 : decode bb_M_about 131 = .ok (.iconst 2, 1) := by decide +kernel
theorem dd_M_about_132 : decode bb_M_about 132 = .ok (.goto 30, 3) := by decide +kernel
theorem dd_M_about_118 : decode bb_M_about 118 = .ok (.iconst 0, 1) := by decide +kernel
theorem dd_M_about_119 : decode bb_M_about 119 = .ok (.goto 43, 3) := by decide +kernel
theorem dd_M_about_70 : decode bb_M_about 70 = .ok (.iload_n 2, 1) := by decide +kernel
theorem dd_M_about_71 : decode bb_M_about 71 = .ok (.iconst 2, 1) := by decide +kernel
theorem dd_M_about_72 : decode bb_M_about 72 = .ok (.if_icmp .ne 12, 3) := by decide +kernel
theorem dd_M_about_84 : decode bb_M_about 84 = .ok (.aload_n 0, 1) := by decide +kernel
theorem dd_M_about_85 : decode bb_M_about 85 = .ok (.getfield 36, 3) := by decide +kernel
theorem dd_M_about_88 : decode bb_M_about 88 = .ok (.iload_n 1, 1) := by decide +kernel
theorem dd_M_about_89 : decode bb_M_about 89 = .ok (.iaload, 1) := by decide +kernel
theorem dd_M_about_90 : decode bb_M_about 90 = .ok (.ifCond .le 12, 3) := by decide +kernel
theorem dd_M_about_102 : decode bb_M_about 102 = .ok (.iconst (-1), 1) := by decide +kernel
theorem dd_M_about_93 : decode bb_M_about 93 = .ok (.aload_n 0, 1) := by decide +kernel
theorem dd_M_about_94 : decode bb_M_about 94 = .ok (.getfield 42, 3) := by decide +kernel
theorem dd_M_about_97 : decode bb_M_about 97 = .ok (.iload_n 1, 1) := by decide +kernel
theorem dd_M_about_98 : decode bb_M_about 98 = .ok (.iaload, 1) := by decide +kernel
theorem dd_M_about_99 : decode bb_M_about 99 = .ok (.goto 4, 3) := by decide +kernel
theorem dd_M_about_75 : decode bb_M_about 75 = .ok (.aload_n 0, 1) := by decide +kernel
theorem dd_M_about_76 : decode bb_M_about 76 = .ok (.getfield 36, 3) := by decide +kernel
theorem dd_M_about_79 : decode bb_M_about 79 = .ok (.iload_n 1, 1) := by decide +kernel
theorem dd_M_about_80 : decode bb_M_about 80 = .ok (.iaload, 1) := by decide +kernel
theorem dd_M_about_81 : decode bb_M_about 81 = .ok (.goto 22, 3) := by decide +kernel
theorem dd_M_about_45 : decode bb_M_about 45 = .ok (.iload_n 2, 1) := by decide +kernel
theorem dd_M_about_46 : decode bb_M_about 46 = .ok (.ifCond .ne 12, 3) := by decide +kernel
theorem dd_M_about_58 : decode bb_M_about 58 = .ok (.aload_n 0, 1) := by decide +kernel
theorem dd_M_about_59 : decode bb_M_about 59 = .ok (.getfield 54, 3) := by decide +kernel
theorem dd_M_about_62 : decode bb_M_about 62 = .ok (.iload_n 1, 1) := by decide +kernel
theorem dd_M_about_63 : decode bb_M_about 63 = .ok (.iaload, 1) := by decide +kernel
theorem dd_M_about_49 : decode bb_M_about 49 = .ok (.aload_n 0, 1) := by decide +kernel
theorem dd_M_about_50 : decode bb_M_about 50 = .ok (.getfield 45, 3) := by decide +kernel
theorem dd_M_about_53 : decode bb_M_about 53 = .ok (.iload_n 1, 1) := by decide +kernel
theorem dd_M_about_54 : decode bb_M_about 54 = .ok (.iaload, 1) := by decide +kernel
theorem dd_M_about_55 : decode bb_M_about 55 = .ok (.goto 9, 3) := by decide +kernel
theorem dd_M_about_38 : decode bb_M_about 38 = .ok (.iconst 0, 1) := by decide +kernel
theorem dd_M_about_39 : decode bb_M_about 39 = .ok (.ireturn, 1) := by decide +kernel
theorem dd_M_about_64 : decode bb_M_about 64 = .ok (.ireturn, 1) := by decide +kernel
theorem dd_M_about_103 : decode bb_M_about 103 = .ok (.ireturn, 1) := by decide +kernel
theorem dd_M_about_162 : decode bb_M_about 162 = .ok (.ireturn, 1) := by decide +kernel
theorem dd_M_about_0 : decode bb_M_about 0 = .ok (.aload_n 0, 1) := by decide +kernel
theorem dd_M_about_1 : decode bb_M_about 1 = .ok (.iload_n 1, 1) := by decide +kernel
theorem dd_M_about_2 : decode bb_M_about 2 = .ok (.iconst 0, 1) := by decide +kernel
theorem dd_M_about_3 : decode bb_M_about 3 = .ok (.iconst 5, 1) := by decide +kernel
theorem dd_M_about_4 : decode bb_M_about 4 = .ok (.invokestatic 118, 3) := by decide +kernel
theorem dd_M_about_7 : decode bb_M_about 7 = .ok (.ifCond .ne 7, 3) := by decide +kernel
theorem dd_M_about_14 : decode bb_M_about 14 = .ok (.iload_n 2, 1) := by decide +kernel
theorem dd_M_about_15 : decode bb_M_about 15 = .ok (.iconst 0, 1) := by decide +kernel
theorem dd_M_about_16 : decode bb_M_about 16 = .ok (.iconst 5, 1) := by decide +kernel
theorem dd_M_about_17 : decode bb_M_about 17 = .ok (.invokestatic 118, 3) := by decide +kernel
theorem dd_M_about_20 : decode bb_M_about 20 = .ok (.ifCond .eq 7, 3) := by decide +kernel
theorem dd_M_about_27 : decode bb_M_about 27 = .ok (.iconst 2, 1) := by decide +kernel
theorem dd_M_about_23 : decode bb_M_about 23 = .ok (.iconst 0, 1) := by decide +kernel
theorem dd_M_about_24 : decode bb_M_about 24 = .ok (.goto 4, 3) := by decide +kernel
theorem dd_M_about_10 : decode bb_M_about 10 = .ok (.iconst 1, 1) := by decide +kernel
theorem dd_M_about_11 : decode bb_M_about 11 = .ok (.goto 17, 3) := by decide +kernel
def ww_M_about : List Cond := .code yy_M_about bb_M_about 3 (some .int) :: TB
def rm_M_about : Room := { frames := 1, cells := 0, slots := 0, locals := 22 }
def wp_M_about_64 (o : Nat) (a1 : Int32) (a2 : Int32) (post : fw_S → Int32 → Prop) (S : fw_S) (p0 : Int32) : Prop := post S p0
def wp_M_about_103 (o : Nat) (a1 : Int32) (a2 : Int32) (post : fw_S → Int32 → Prop) (S : fw_S) (p0 : Int32) : Prop := post S p0
def wp_M_about_162 (o : Nat) (a1 : Int32) (a2 : Int32) (post : fw_S → Int32 → Prop) (S : fw_S) (p0 : Int32) : Prop := post S p0
def wp_M_about_28 (o : Nat) (a1 : Int32) (a2 : Int32) (post : fw_S → Int32 → Prop) (S : fw_S) (p0 : Int32) : Prop := ∀ S1 : fw_S, S1 = fw_si S o 0 p0 → ((((S1.1 o 0) ≤ 0) → (((2 ≤ a2) → (((4 ≤ a2) → ((¬ (a2 = 4) → vp_in a1 6 ∧ (((((S1.1 (o + 12) a1.toNatClampNeg) ≤ 0) → wp_M_about_162 o a1 a2 post S1 0) ∧ (¬ ((S1.1 (o + 12) a1.toNatClampNeg) ≤ 0) → wp_M_cell S1 a1 0 (fun S8 r9 => vp_in r9 864 ∧ (wp_M_about_162 o a1 a2 post S8 (S8.1 (o + 16) r9.toNatClampNeg))))))) ∧ ((a2 = 4) → vp_in a1 6 ∧ (((¬ ((S1.1 (o + 18) a1.toNatClampNeg) = 0) → vp_in a1 6 ∧ (((((S1.1 (o + 22) a1.toNatClampNeg) = 0) → wp_M_about_162 o a1 a2 post S1 1) ∧ (¬ ((S1.1 (o + 22) a1.toNatClampNeg) = 0) → wp_M_about_162 o a1 a2 post S1 2)))) ∧ (((S1.1 (o + 18) a1.toNatClampNeg) = 0) → wp_M_about_162 o a1 a2 post S1 0)))))) ∧ (¬ (4 ≤ a2) → ((¬ (a2 = 2) → vp_in a1 6 ∧ (((((S1.1 (o + 9) a1.toNatClampNeg) ≤ 0) → wp_M_about_103 o a1 a2 post S1 (-1)) ∧ (¬ ((S1.1 (o + 9) a1.toNatClampNeg) ≤ 0) → vp_in a1 6 ∧ (wp_M_about_103 o a1 a2 post S1 (S1.1 (o + 11) a1.toNatClampNeg)))))) ∧ ((a2 = 2) → vp_in a1 6 ∧ (wp_M_about_103 o a1 a2 post S1 (S1.1 (o + 9) a1.toNatClampNeg))))))) ∧ (¬ (2 ≤ a2) → ((¬ (a2 = 0) → vp_in a1 6 ∧ (wp_M_about_64 o a1 a2 post S1 (S1.1 (o + 15) a1.toNatClampNeg))) ∧ ((a2 = 0) → vp_in a1 6 ∧ (wp_M_about_64 o a1 a2 post S1 (S1.1 (o + 12) a1.toNatClampNeg))))))) ∧ (¬ ((S1.1 o 0) ≤ 0) → post S1 0))
def wp_M_about (S : fw_S) (o : Nat) (a1 : Int32) (a2 : Int32) (post : fw_S → Int32 → Prop) : Prop := wp_M_isIn S a1 0 5 (fun S1 r2 => ((¬ (r2 = 0) → wp_M_isIn S1 a2 0 5 (fun S4 r5 => (((r5 = 0) → wp_M_about_28 o a1 a2 post S4 2) ∧ (¬ (r5 = 0) → wp_M_about_28 o a1 a2 post S4 0)))) ∧ ((r2 = 0) → wp_M_about_28 o a1 a2 post S1 1)))
set_option maxHeartbeats 4000000 in
set_option maxRecDepth 100000 in
theorem mt_M_about (l : Launch) (D : va_G) (cA : Nat → ClassId) (b : Nat) (S : fw_S) (o : Nat) (a1 : Int32) (a2 : Int32) (ho : o < 245 ∧ layU o = (10, 0)) (post : fw_S → Int32 → Prop) (hw : wp_M_about S o a1 a2 post) : Met l yy_M_about ww_M_about rm_M_about (fw_Pc D CL cA (TYS cA) TK layU b 245 S [.ref (b + o), .int a1, .int a2]) (va_Qi (fun r S' => post S' r) (fw_B D CL cA TK layU b 245) (fw_A b 245)) 0 0 (fw_A b 245) := by
  refine Met.ofW (cc := bb_M_about) (maxL := 3) (ret := (some .int)) (by decide) rfl ?_
  intro p e s m args below meth c s₁ B hml hv
  obtain ⟨rfl, hP, hK⟩ := hv
  have hx := B.exec
  have hb := B.bytes
  have hr := B.returns
  have hts := atoms_spec (ws := ww_M_about) B.pre
  have hown : s.vm.findClass "OutletOfficeModel" = some m.cls := findClass_of_methodNamed B.named
  have hlocks := B.notSynchronized
  have hS : va_S (fw_A b 245) s.heap s.heap [] := va_S.rf
  have hl := lv_entry ([.ref (b + o), .int a1, .int a2]) (n := 3) (Nat.le_of_ble_eq_true rfl)
  rw [lg_entry_eq]
  generalize (lg_sl ([.ref (b + o), .int a1, .int a2]) ++ List.replicate (3 - (lg_sl ([.ref (b + o), .int a1, .int a2])).length) Slot.unset).toArray = ls at hl ⊢
  have hl : lv_has ls 3 [(0, .ref (b + o)), (1, .int a1), (2, .int a2)] := hl
  have B64 : ∀ (S : fw_S) (p0 : Int32) (H : Heap) (locs : List Loc) (ls : Array Slot), wp_M_about_64 o a1 a2 post S p0 → fw_P D CL cA layU b 245 (fw_v TK layU b S) H → va_S (fw_A b 245) s.heap H locs → lv_has ls 3 [(0, .ref (b + o)), (1, .int a1), (2, .int a2)] → W p l e (headSpec ww_M_about rm_M_about).room s m ([.ref (b + o), .int a1, .int a2] : List Value).toArray below meth c H locs 0 0 (MQ below (va_Qi (fun r S' => post S' r) (fw_B D CL cA TK layU b 245) (fw_A b 245)) ([.ref (b + o), .int a1, .int a2] : List Value).toArray s 0 0 (fw_A b 245)) (F0 m 64 ls [.int p0]) := by
      intro S p0 H locs ls hw hP hS hl
      unfold wp_M_about_64 at hw
      exact W.iret (v := p0) hx hb hr (fun t ht hW => ⟨⟨_, _, rfl, hw, fw_Bof ht hP⟩, hS.F ht⟩) hS.2.2 dd_M_about_64
  have B103 : ∀ (S : fw_S) (p0 : Int32) (H : Heap) (locs : List Loc) (ls : Array Slot), wp_M_about_103 o a1 a2 post S p0 → fw_P D CL cA layU b 245 (fw_v TK layU b S) H → va_S (fw_A b 245) s.heap H locs → lv_has ls 3 [(0, .ref (b + o)), (1, .int a1), (2, .int a2)] → W p l e (headSpec ww_M_about rm_M_about).room s m ([.ref (b + o), .int a1, .int a2] : List Value).toArray below meth c H locs 0 0 (MQ below (va_Qi (fun r S' => post S' r) (fw_B D CL cA TK layU b 245) (fw_A b 245)) ([.ref (b + o), .int a1, .int a2] : List Value).toArray s 0 0 (fw_A b 245)) (F0 m 103 ls [.int p0]) := by
      intro S p0 H locs ls hw hP hS hl
      unfold wp_M_about_103 at hw
      exact W.iret (v := p0) hx hb hr (fun t ht hW => ⟨⟨_, _, rfl, hw, fw_Bof ht hP⟩, hS.F ht⟩) hS.2.2 dd_M_about_103
  have B162 : ∀ (S : fw_S) (p0 : Int32) (H : Heap) (locs : List Loc) (ls : Array Slot), wp_M_about_162 o a1 a2 post S p0 → fw_P D CL cA layU b 245 (fw_v TK layU b S) H → va_S (fw_A b 245) s.heap H locs → lv_has ls 3 [(0, .ref (b + o)), (1, .int a1), (2, .int a2)] → W p l e (headSpec ww_M_about rm_M_about).room s m ([.ref (b + o), .int a1, .int a2] : List Value).toArray below meth c H locs 0 0 (MQ below (va_Qi (fun r S' => post S' r) (fw_B D CL cA TK layU b 245) (fw_A b 245)) ([.ref (b + o), .int a1, .int a2] : List Value).toArray s 0 0 (fw_A b 245)) (F0 m 162 ls [.int p0]) := by
      intro S p0 H locs ls hw hP hS hl
      unfold wp_M_about_162 at hw
      exact W.iret (v := p0) hx hb hr (fun t ht hW => ⟨⟨_, _, rfl, hw, fw_Bof ht hP⟩, hS.F ht⟩) hS.2.2 dd_M_about_162
  have B28 : ∀ (S : fw_S) (p0 : Int32) (H : Heap) (locs : List Loc) (ls : Array Slot), wp_M_about_28 o a1 a2 post S p0 → fw_P D CL cA layU b 245 (fw_v TK layU b S) H → va_S (fw_A b 245) s.heap H locs → lv_has ls 3 [(0, .ref (b + o)), (1, .int a1), (2, .int a2)] → W p l e (headSpec ww_M_about rm_M_about).room s m ([.ref (b + o), .int a1, .int a2] : List Value).toArray below meth c H locs 0 0 (MQ below (va_Qi (fun r S' => post S' r) (fw_B D CL cA TK layU b 245) (fw_A b 245)) ([.ref (b + o), .int a1, .int a2] : List Value).toArray s 0 0 (fw_A b 245)) (F0 m 28 ls [.int p0, .ref (b + o)]) := by
      intro S p0 H locs ls hw hP hS hl
      unfold wp_M_about_28 at hw
      refine fw_puti hx hb hts in_10 F_ty_10 F_tyok_10 F_nm_10 hown hK hP hS (fw_A.in ho.1) ho (by decide) rfl 0 (by decide) (hts _ (tb_in tw_781)) rfl tk_10_0 (ty := .int) (by decide +kernel) rfl rfl dd_M_about_28 (fun H locs hP hS => ?_)
      obtain ⟨S1, e_S1⟩ : ∃ z, z = fw_si S o 0 p0 := ⟨_, rfl⟩
      rw [← e_S1] at hP
      have hw := hw S1 e_S1
      refine lv_aload_n hx hb dd_M_about_31 rfl (lv_at hl 0 rfl) ?_
      refine fw_geti hx hb hts in_10 hown hK hP ho (by decide) rfl 0 (by decide) (hts _ (tb_in tw_781)) tk_10_0 dd_M_about_32 ?_
      refine lv_if_le (tgt := 40) hx hb dd_M_about_35 (by decide) (fun h2 => ?_) (fun h2 => ?_)
      · have hw := hw.1 h2
        refine lv_iload_n hx hb dd_M_about_40 rfl (lv_at hl 2 rfl) ?_
        refine lv_iconst (v := 2) hx hb dd_M_about_41 kc_ic_2 ?_
        refine lv_icmp_ge (tgt := 65) hx hb dd_M_about_42 (by decide) (fun h3 => ?_) (fun h3 => ?_)
        · have hw := hw.1 h3
          refine lv_iload_n hx hb dd_M_about_65 rfl (lv_at hl 2 rfl) ?_
          refine lv_iconst (v := 4) hx hb dd_M_about_66 kc_ic_4 ?_
          refine lv_icmp_ge (tgt := 104) hx hb dd_M_about_67 (by decide) (fun h4 => ?_) (fun h4 => ?_)
          · have hw := hw.1 h4
            refine lv_iload_n hx hb dd_M_about_104 rfl (lv_at hl 2 rfl) ?_
            refine lv_iconst (v := 4) hx hb dd_M_about_105 kc_ic_4 ?_
            refine lv_icmp_ne (tgt := 139) hx hb dd_M_about_106 (by decide) (fun h5 => ?_) (fun h5 => ?_)
            · have hw := hw.1 h5
              refine lv_aload_n hx hb dd_M_about_139 rfl (lv_at hl 0 rfl) ?_
              refine fw_getr hx hb hts in_10 hown hK hP ho (by decide) rfl 15 (by decide) (hts _ (tb_in tw_796)) tk_10_15 dd_M_about_140 ?_
              refine lv_iload_n hx hb dd_M_about_143 rfl (lv_at hl 1 rfl) ?_
              obtain ⟨h6, hw⟩ := hw
              refine fw_iald hx hb hK hP (lf_10_15 ho) (by decide) 0 rfl tka_100 h6 dd_M_about_144 ?_
              refine lv_if_le (tgt := 161) hx hb dd_M_about_145 (by decide) (fun h7 => ?_) (fun h7 => ?_)
              · have hw := hw.1 h7
                refine lv_iconst (v := 0) hx hb dd_M_about_161 kc_ic_0 ?_
                exact B162 S1 0 _ _ ls hw hP hS (lv_sub hl [0, 1, 2] rfl)
              · have hw := hw.2 h7
                refine lv_aload_n hx hb dd_M_about_148 rfl (lv_at hl 0 rfl) ?_
                refine fw_getr hx hb hts in_10 hown hK hP ho (by decide) rfl 19 (by decide) (hts _ (tb_in tw_800)) tk_10_19 dd_M_about_149 ?_
                refine lv_iload_n hx hb dd_M_about_152 rfl (lv_at hl 1 rfl) ?_
                refine lv_iconst (v := 0) hx hb dd_M_about_153 kc_ic_0 ?_
                refine fw_calli (va_runS (As := [.int a1, .int 0]) (rest := [.ref (b + (o + 16))]) ⟨hx, hb, hml, hown, hts⟩ (mt_M_cell l D cA b S1 a1 0 _ hw) (cwS 2 hts (fw_gS tw_967 tw_965 tw_966 tw_11) rfl rfl rfl (by decide +kernel) ⟨Nat.le_of_ble_eq_true rfl, Nat.le_of_ble_eq_true rfl⟩) (fw_preS hP hK) rfl rfl hl.1 rfl (lv_room (Nat.le_of_ble_eq_true rfl)) dd_M_about_154 ⟨Nat.le_of_ble_eq_true rfl, Nat.le_of_ble_eq_true rfl⟩) hS (fun S8 r9 H locs hw hP hS => ?_)
                try dsimp only at hw
                obtain ⟨h10, hw⟩ := hw
                refine fw_iald hx hb hK hP (lf_10_19 ho) (by decide) 0 rfl tka_100 h10 dd_M_about_157 ?_
                refine lv_goto (tgt := 162) hx hb dd_M_about_158 (by decide) ?_
                exact B162 S8 (S8.1 (o + 16) r9.toNatClampNeg) _ _ ls hw hP hS (lv_sub hl [0, 1, 2] rfl)
            · have hw := hw.2 h5
              refine lv_aload_n hx hb dd_M_about_109 rfl (lv_at hl 0 rfl) ?_
              refine fw_getr hx hb hts in_10 hown hK hP ho (by decide) rfl 21 (by decide) (hts _ (tb_in tw_802)) tk_10_21 dd_M_about_110 ?_
              refine lv_iload_n hx hb dd_M_about_113 rfl (lv_at hl 1 rfl) ?_
              obtain ⟨h11, hw⟩ := hw
              refine fw_zald hx hb hK hP (lf_10_21 ho) (by decide) 2 rfl tka_102 h11 dd_M_about_114 ?_
              refine lv_if_ne (tgt := 122) hx hb dd_M_about_115 (by decide) (fun h12 => ?_) (fun h12 => ?_)
              · have hw := hw.1 h12
                refine lv_aload_n hx hb dd_M_about_122 rfl (lv_at hl 0 rfl) ?_
                refine fw_getr hx hb hts in_10 hown hK hP ho (by decide) rfl 25 (by decide) (hts _ (tb_in tw_806)) tk_10_25 dd_M_about_123 ?_
                refine lv_iload_n hx hb dd_M_about_126 rfl (lv_at hl 1 rfl) ?_
                obtain ⟨h13, hw⟩ := hw
                refine fw_zald hx hb hK hP (lf_10_25 ho) (by decide) 2 rfl tka_102 h13 dd_M_about_127 ?_
                refine lv_if_eq (tgt := 135) hx hb dd_M_about_128 (by decide) (fun h14 => ?_) (fun h14 => ?_)
                · have hw := hw.1 h14
                  refine lv_iconst (v := 1) hx hb dd_M_about_135 kc_ic_1 ?_
                  refine lv_goto (tgt := 162) hx hb dd_M_about_136 (by decide) ?_
                  exact B162 S1 1 _ _ ls hw hP hS (lv_sub hl [0, 1, 2] rfl)
                · have hw := hw.2 h14
                  refine lv_iconst (v := 2) hx hb dd_M_about_131 kc_ic_2 ?_
                  refine lv_goto (tgt := 162) hx hb dd_M_about_132 (by decide) ?_
                  exact B162 S1 2 _ _ ls hw hP hS (lv_sub hl [0, 1, 2] rfl)
              · have hw := hw.2 h12
                refine lv_iconst (v := 0) hx hb dd_M_about_118 kc_ic_0 ?_
                refine lv_goto (tgt := 162) hx hb dd_M_about_119 (by decide) ?_
                exact B162 S1 0 _ _ ls hw hP hS (lv_sub hl [0, 1, 2] rfl)
          · have hw := hw.2 h4
            refine lv_iload_n hx hb dd_M_about_70 rfl (lv_at hl 2 rfl) ?_
            refine lv_iconst (v := 2) hx hb dd_M_about_71 kc_ic_2 ?_
            refine lv_icmp_ne (tgt := 84) hx hb dd_M_about_72 (by decide) (fun h15 => ?_) (fun h15 => ?_)
            · have hw := hw.1 h15
              refine lv_aload_n hx hb dd_M_about_84 rfl (lv_at hl 0 rfl) ?_
              refine fw_getr hx hb hts in_10 hown hK hP ho (by decide) rfl 12 (by decide) (hts _ (tb_in tw_793)) tk_10_12 dd_M_about_85 ?_
              refine lv_iload_n hx hb dd_M_about_88 rfl (lv_at hl 1 rfl) ?_
              obtain ⟨h16, hw⟩ := hw
              refine fw_iald hx hb hK hP (lf_10_12 ho) (by decide) 0 rfl tka_100 h16 dd_M_about_89 ?_
              refine lv_if_le (tgt := 102) hx hb dd_M_about_90 (by decide) (fun h17 => ?_) (fun h17 => ?_)
              · have hw := hw.1 h17
                refine lv_iconst (v := (-1)) hx hb dd_M_about_102 kc_ic_m1 ?_
                exact B103 S1 (-1) _ _ ls hw hP hS (lv_sub hl [0, 1, 2] rfl)
              · have hw := hw.2 h17
                refine lv_aload_n hx hb dd_M_about_93 rfl (lv_at hl 0 rfl) ?_
                refine fw_getr hx hb hts in_10 hown hK hP ho (by decide) rfl 14 (by decide) (hts _ (tb_in tw_795)) tk_10_14 dd_M_about_94 ?_
                refine lv_iload_n hx hb dd_M_about_97 rfl (lv_at hl 1 rfl) ?_
                obtain ⟨h18, hw⟩ := hw
                refine fw_iald hx hb hK hP (lf_10_14 ho) (by decide) 0 rfl tka_100 h18 dd_M_about_98 ?_
                refine lv_goto (tgt := 103) hx hb dd_M_about_99 (by decide) ?_
                exact B103 S1 (S1.1 (o + 11) a1.toNatClampNeg) _ _ ls hw hP hS (lv_sub hl [0, 1, 2] rfl)
            · have hw := hw.2 h15
              refine lv_aload_n hx hb dd_M_about_75 rfl (lv_at hl 0 rfl) ?_
              refine fw_getr hx hb hts in_10 hown hK hP ho (by decide) rfl 12 (by decide) (hts _ (tb_in tw_793)) tk_10_12 dd_M_about_76 ?_
              refine lv_iload_n hx hb dd_M_about_79 rfl (lv_at hl 1 rfl) ?_
              obtain ⟨h19, hw⟩ := hw
              refine fw_iald hx hb hK hP (lf_10_12 ho) (by decide) 0 rfl tka_100 h19 dd_M_about_80 ?_
              refine lv_goto (tgt := 103) hx hb dd_M_about_81 (by decide) ?_
              exact B103 S1 (S1.1 (o + 9) a1.toNatClampNeg) _ _ ls hw hP hS (lv_sub hl [0, 1, 2] rfl)
        · have hw := hw.2 h3
          refine lv_iload_n hx hb dd_M_about_45 rfl (lv_at hl 2 rfl) ?_
          refine lv_if_ne (tgt := 58) hx hb dd_M_about_46 (by decide) (fun h20 => ?_) (fun h20 => ?_)
          · have hw := hw.1 h20
            refine lv_aload_n hx hb dd_M_about_58 rfl (lv_at hl 0 rfl) ?_
            refine fw_getr hx hb hts in_10 hown hK hP ho (by decide) rfl 18 (by decide) (hts _ (tb_in tw_799)) tk_10_18 dd_M_about_59 ?_
            refine lv_iload_n hx hb dd_M_about_62 rfl (lv_at hl 1 rfl) ?_
            obtain ⟨h21, hw⟩ := hw
            refine fw_iald hx hb hK hP (lf_10_18 ho) (by decide) 0 rfl tka_100 h21 dd_M_about_63 ?_
            exact B64 S1 (S1.1 (o + 15) a1.toNatClampNeg) _ _ ls hw hP hS (lv_sub hl [0, 1, 2] rfl)
          · have hw := hw.2 h20
            refine lv_aload_n hx hb dd_M_about_49 rfl (lv_at hl 0 rfl) ?_
            refine fw_getr hx hb hts in_10 hown hK hP ho (by decide) rfl 15 (by decide) (hts _ (tb_in tw_796)) tk_10_15 dd_M_about_50 ?_
            refine lv_iload_n hx hb dd_M_about_53 rfl (lv_at hl 1 rfl) ?_
            obtain ⟨h22, hw⟩ := hw
            refine fw_iald hx hb hK hP (lf_10_15 ho) (by decide) 0 rfl tka_100 h22 dd_M_about_54 ?_
            refine lv_goto (tgt := 64) hx hb dd_M_about_55 (by decide) ?_
            exact B64 S1 (S1.1 (o + 12) a1.toNatClampNeg) _ _ ls hw hP hS (lv_sub hl [0, 1, 2] rfl)
      · have hw := hw.2 h2
        refine lv_iconst (v := 0) hx hb dd_M_about_38 kc_ic_0 ?_
        exact W.iret (v := 0) hx hb hr (fun t ht hW => ⟨⟨_, _, rfl, hw, fw_Bof ht hP⟩, hS.F ht⟩) hS.2.2 dd_M_about_39
  unfold wp_M_about at hw
  refine lv_aload_n hx hb dd_M_about_0 rfl (lv_at hl 0 rfl) ?_
  refine lv_iload_n hx hb dd_M_about_1 rfl (lv_at hl 1 rfl) ?_
  refine lv_iconst (v := 0) hx hb dd_M_about_2 kc_ic_0 ?_
  refine lv_iconst (v := 5) hx hb dd_M_about_3 kc_ic_5 ?_
  refine fw_calli (va_runS (As := [.int a1, .int 0, .int 5]) (rest := [.ref (b + o)]) ⟨hx, hb, hml, hown, hts⟩ (mt_M_isIn l D cA b S a1 0 5 _ hw) (cwS 3 hts (fw_gS tw_913 tw_911 tw_912 tw_11) rfl rfl rfl (by decide +kernel) ⟨Nat.le_of_ble_eq_true rfl, Nat.le_of_ble_eq_true rfl⟩) (fw_preS hP hK) rfl rfl hl.1 rfl (lv_room (Nat.le_of_ble_eq_true rfl)) dd_M_about_4 ⟨Nat.le_of_ble_eq_true rfl, Nat.le_of_ble_eq_true rfl⟩) hS (fun S1 r2 H locs hw hP hS => ?_)
  try dsimp only at hw
  refine lv_if_ne (tgt := 14) hx hb dd_M_about_7 (by decide) (fun h3 => ?_) (fun h3 => ?_)
  · have hw := hw.1 h3
    refine lv_iload_n hx hb dd_M_about_14 rfl (lv_at hl 2 rfl) ?_
    refine lv_iconst (v := 0) hx hb dd_M_about_15 kc_ic_0 ?_
    refine lv_iconst (v := 5) hx hb dd_M_about_16 kc_ic_5 ?_
    refine fw_calli (va_runS (As := [.int a2, .int 0, .int 5]) (rest := [.ref (b + o)]) ⟨hx, hb, hml, hown, hts⟩ (mt_M_isIn l D cA b S1 a2 0 5 _ hw) (cwS 3 hts (fw_gS tw_913 tw_911 tw_912 tw_11) rfl rfl rfl (by decide +kernel) ⟨Nat.le_of_ble_eq_true rfl, Nat.le_of_ble_eq_true rfl⟩) (fw_preS hP hK) rfl rfl hl.1 rfl (lv_room (Nat.le_of_ble_eq_true rfl)) dd_M_about_17 ⟨Nat.le_of_ble_eq_true rfl, Nat.le_of_ble_eq_true rfl⟩) hS (fun S4 r5 H locs hw hP hS => ?_)
    try dsimp only at hw
    refine lv_if_eq (tgt := 27) hx hb dd_M_about_20 (by decide) (fun h6 => ?_) (fun h6 => ?_)
    · have hw := hw.1 h6
      refine lv_iconst (v := 2) hx hb dd_M_about_27 kc_ic_2 ?_
      exact B28 S4 2 _ _ ls hw hP hS (lv_sub hl [0, 1, 2] rfl)
    · have hw := hw.2 h6
      refine lv_iconst (v := 0) hx hb dd_M_about_23 kc_ic_0 ?_
      refine lv_goto (tgt := 28) hx hb dd_M_about_24 (by decide) ?_
      exact B28 S4 0 _ _ ls hw hP hS (lv_sub hl [0, 1, 2] rfl)
  · have hw := hw.2 h3
    refine lv_iconst (v := 1) hx hb dd_M_about_10 kc_ic_1 ?_
    refine lv_goto (tgt := 28) hx hb dd_M_about_11 (by decide) ?_
    exact B28 S1 1 _ _ ls hw hP hS (lv_sub hl [0, 1, 2] rfl)
theorem dd_M_open_33 : decode bb_M_open 33 = .ok (.lreturn, 1) := by decide +kernel
theorem dd_M_open_0 : decode bb_M_open 0 = .ok (.aload_n 0, 1) := by decide +kernel
theorem dd_M_open_1 : decode bb_M_open 1 = .ok (.iload_n 1, 1) := by decide +kernel
theorem dd_M_open_2 : decode bb_M_open 2 = .ok (.invokevirtual 134, 3) := by decide +kernel
theorem dd_M_open_5 : decode bb_M_open 5 = .ok (.ifCond .eq 7, 3) := by decide +kernel
theorem dd_M_open_12 : decode bb_M_open 12 = .ok (.aload_n 0, 1) := by decide +kernel
theorem dd_M_open_13 : decode bb_M_open 13 = .ok (.getfield 84, 3) := by decide +kernel
theorem dd_M_open_16 : decode bb_M_open 16 = .ok (.iload_n 1, 1) := by decide +kernel
theorem dd_M_open_17 : decode bb_M_open 17 = .ok (.baload, 1) := by decide +kernel
theorem dd_M_open_18 : decode bb_M_open 18 = .ok (.ifCond .eq 12, 3) := by decide +kernel
theorem dd_M_open_30 : decode bb_M_open 30 = .ok (.ldc2_w 212, 3) := by decide +kernel
theorem dd_M_open_21 : decode bb_M_open 21 = .ok (.aload_n 0, 1) := by decide +kernel
theorem dd_M_open_22 : decode bb_M_open 22 = .ok (.getfield 93, 3) := by decide +kernel
theorem dd_M_open_25 : decode bb_M_open 25 = .ok (.iload_n 1, 1) := by decide +kernel
theorem dd_M_open_26 : decode bb_M_open 26 = .ok (.laload, 1) := by decide +kernel
theorem dd_M_open_27 : decode bb_M_open 27 = .ok (.goto 6, 3) := by decide +kernel
theorem dd_M_open_8 : decode bb_M_open 8 = .ok (.lconst 0, 1) := by decide +kernel
theorem dd_M_open_9 : decode bb_M_open 9 = .ok (.goto 24, 3) := by decide +kernel
def ww_M_open : List Cond := .code yy_M_open bb_M_open 2 (some .long) :: TB
def rm_M_open : Room := { frames := 2, cells := 0, slots := 0, locals := 43 }
def wp_M_open_33 (o : Nat) (a1 : Int32) (post : fw_S → Int64 → Prop) (S : fw_S) (pl0 : Int64) : Prop := post S pl0
def wp_M_open (S : fw_S) (o : Nat) (a1 : Int32) (post : fw_S → Int64 → Prop) : Prop := wp_M_noPoint S o a1 (fun S1 r2 => (((r2 = 0) → vp_in a1 6 ∧ (((((S1.1 (o + 25) a1.toNatClampNeg) = 0) → wp_M_open_33 o a1 post S1 (-1)) ∧ (¬ ((S1.1 (o + 25) a1.toNatClampNeg) = 0) → vp_in a1 6 ∧ (wp_M_open_33 o a1 post S1 (S1.2 (o + 28) a1.toNatClampNeg)))))) ∧ (¬ (r2 = 0) → wp_M_open_33 o a1 post S1 0)))
set_option maxHeartbeats 4000000 in
set_option maxRecDepth 100000 in
theorem mt_M_open (l : Launch) (D : va_G) (cA : Nat → ClassId) (b : Nat) (S : fw_S) (o : Nat) (a1 : Int32) (ho : o < 245 ∧ layU o = (10, 0)) (post : fw_S → Int64 → Prop) (hw : wp_M_open S o a1 post) : Met l yy_M_open ww_M_open rm_M_open (fw_Pc D CL cA (TYS cA) TK layU b 245 S [.ref (b + o), .int a1]) (va_Ql (fun r S' => post S' r) (fw_B D CL cA TK layU b 245) (fw_A b 245)) 0 0 (fw_A b 245) := by
  refine Met.ofW (cc := bb_M_open) (maxL := 2) (ret := (some .long)) (by decide) rfl ?_
  intro p e s m args below meth c s₁ B hml hv
  obtain ⟨rfl, hP, hK⟩ := hv
  have hx := B.exec
  have hb := B.bytes
  have hr := B.returns
  have hts := atoms_spec (ws := ww_M_open) B.pre
  have hown : s.vm.findClass "OutletOfficeModel" = some m.cls := findClass_of_methodNamed B.named
  have hlocks := B.notSynchronized
  have hS : va_S (fw_A b 245) s.heap s.heap [] := va_S.rf
  have hl := lv_entry ([.ref (b + o), .int a1]) (n := 2) (Nat.le_of_ble_eq_true rfl)
  rw [lg_entry_eq]
  generalize (lg_sl ([.ref (b + o), .int a1]) ++ List.replicate (2 - (lg_sl ([.ref (b + o), .int a1])).length) Slot.unset).toArray = ls at hl ⊢
  have hl : lv_has ls 2 [(0, .ref (b + o)), (1, .int a1)] := hl
  have B33 : ∀ (S : fw_S) (pl0 : Int64) (H : Heap) (locs : List Loc) (ls : Array Slot), wp_M_open_33 o a1 post S pl0 → fw_P D CL cA layU b 245 (fw_v TK layU b S) H → va_S (fw_A b 245) s.heap H locs → lv_has ls 2 [(0, .ref (b + o)), (1, .int a1)] → W p l e (headSpec ww_M_open rm_M_open).room s m ([.ref (b + o), .int a1] : List Value).toArray below meth c H locs 0 0 (MQ below (va_Ql (fun r S' => post S' r) (fw_B D CL cA TK layU b 245) (fw_A b 245)) ([.ref (b + o), .int a1] : List Value).toArray s 0 0 (fw_A b 245)) (F0 m 33 ls [.long pl0]) := by
      intro S pl0 H locs ls hw hP hS hl
      unfold wp_M_open_33 at hw
      exact W.lret (v := pl0) hx hb hr (fun t ht hW => ⟨⟨_, _, rfl, hw, fw_Bof ht hP⟩, hS.F ht⟩) hS.2.2 dd_M_open_33
  unfold wp_M_open at hw
  refine lv_aload_n hx hb dd_M_open_0 rfl (lv_at hl 0 rfl) ?_
  refine lv_iload_n hx hb dd_M_open_1 rfl (lv_at hl 1 rfl) ?_
  refine fw_calli (va_runV (As := [.int a1]) (rest := []) ⟨hx, hb, hml, hown, hts⟩ (mt_M_noPoint l D cA b S o a1 ho _ hw) (cwV 1 hts (fw_gV tw_935 tw_932 tw_934 ts_14 tw_11) rfl rfl rfl (by decide +kernel) ⟨Nat.le_of_ble_eq_true rfl, Nat.le_of_ble_eq_true rfl⟩) (fw_preV hP hK ho (by decide) rfl) rfl rfl hl.1 rfl (lv_room (Nat.le_of_ble_eq_true rfl)) dd_M_open_2 ⟨Nat.le_of_ble_eq_true rfl, Nat.le_of_ble_eq_true rfl⟩) hS (fun S1 r2 H locs hw hP hS => ?_)
  try dsimp only at hw
  refine lv_if_eq (tgt := 12) hx hb dd_M_open_5 (by decide) (fun h3 => ?_) (fun h3 => ?_)
  · have hw := hw.1 h3
    refine lv_aload_n hx hb dd_M_open_12 rfl (lv_at hl 0 rfl) ?_
    refine fw_getr hx hb hts in_10 hown hK hP ho (by decide) rfl 28 (by decide) (hts _ (tb_in tw_809)) tk_10_28 dd_M_open_13 ?_
    refine lv_iload_n hx hb dd_M_open_16 rfl (lv_at hl 1 rfl) ?_
    obtain ⟨h4, hw⟩ := hw
    refine fw_zald hx hb hK hP (lf_10_28 ho) (by decide) 2 rfl tka_102 h4 dd_M_open_17 ?_
    refine lv_if_eq (tgt := 30) hx hb dd_M_open_18 (by decide) (fun h5 => ?_) (fun h5 => ?_)
    · have hw := hw.1 h5
      refine lv_ldc2 (v := (-1)) hx hb hown (hts _ (tb_in tw_1068)) dd_M_open_30 ?_
      exact B33 S1 (-1) _ _ ls hw hP hS (lv_sub hl [0, 1] rfl)
    · have hw := hw.2 h5
      refine lv_aload_n hx hb dd_M_open_21 rfl (lv_at hl 0 rfl) ?_
      refine fw_getr hx hb hts in_10 hown hK hP ho (by decide) rfl 31 (by decide) (hts _ (tb_in tw_812)) tk_10_31 dd_M_open_22 ?_
      refine lv_iload_n hx hb dd_M_open_25 rfl (lv_at hl 1 rfl) ?_
      obtain ⟨h6, hw⟩ := hw
      refine fw_lald hx hb hK hP (lf_10_31 ho) (by decide) 1 rfl tka_101 h6 dd_M_open_26 ?_
      refine lv_goto (tgt := 33) hx hb dd_M_open_27 (by decide) ?_
      exact B33 S1 (S1.2 (o + 28) a1.toNatClampNeg) _ _ ls hw hP hS (lv_sub hl [0, 1] rfl)
  · have hw := hw.2 h3
    refine lv_lconst (v := 0) hx hb dd_M_open_8 kc_lc_0 ?_
    refine lv_goto (tgt := 33) hx hb dd_M_open_9 (by decide) ?_
    exact B33 S1 0 _ _ ls hw hP hS (lv_sub hl [0, 1] rfl)
theorem dd_M_bills_0 : decode bb_M_bills 0 = .ok (.aload_n 0, 1) := by decide +kernel
theorem dd_M_bills_1 : decode bb_M_bills 1 = .ok (.iconst 0, 1) := by decide +kernel
theorem dd_M_bills_2 : decode bb_M_bills 2 = .ok (.putfield 114, 3) := by decide +kernel
theorem dd_M_bills_5 : decode bb_M_bills 5 = .ok (.aload_n 0, 1) := by decide +kernel
theorem dd_M_bills_6 : decode bb_M_bills 6 = .ok (.getfield 172, 3) := by decide +kernel
theorem dd_M_bills_9 : decode bb_M_bills 9 = .ok (.ireturn, 1) := by decide +kernel
def ww_M_bills : List Cond := .code yy_M_bills bb_M_bills 1 (some .int) :: TB
def rm_M_bills : Room := { frames := 0, cells := 0, slots := 0, locals := 0 }
def wp_M_bills (S : fw_S) (o : Nat) (post : fw_S → Int32 → Prop) : Prop := ∀ S1 : fw_S, S1 = fw_si S o 0 0 → post S1 (S1.1 o 35)
set_option maxHeartbeats 4000000 in
set_option maxRecDepth 100000 in
theorem mt_M_bills (l : Launch) (D : va_G) (cA : Nat → ClassId) (b : Nat) (S : fw_S) (o : Nat) (ho : o < 245 ∧ layU o = (10, 0)) (post : fw_S → Int32 → Prop) (hw : wp_M_bills S o post) : Met l yy_M_bills ww_M_bills rm_M_bills (fw_Pc D CL cA (TYS cA) TK layU b 245 S [.ref (b + o)]) (va_Qi (fun r S' => post S' r) (fw_B D CL cA TK layU b 245) (fw_A b 245)) 0 0 (fw_A b 245) := by
  refine Met.ofW (cc := bb_M_bills) (maxL := 1) (ret := (some .int)) (by decide) rfl ?_
  intro p e s m args below meth c s₁ B hml hv
  obtain ⟨rfl, hP, hK⟩ := hv
  have hx := B.exec
  have hb := B.bytes
  have hr := B.returns
  have hts := atoms_spec (ws := ww_M_bills) B.pre
  have hown : s.vm.findClass "OutletOfficeModel" = some m.cls := findClass_of_methodNamed B.named
  have hlocks := B.notSynchronized
  have hS : va_S (fw_A b 245) s.heap s.heap [] := va_S.rf
  have hl := lv_entry ([.ref (b + o)]) (n := 1) (Nat.le_of_ble_eq_true rfl)
  rw [lg_entry_eq]
  generalize (lg_sl ([.ref (b + o)]) ++ List.replicate (1 - (lg_sl ([.ref (b + o)])).length) Slot.unset).toArray = ls at hl ⊢
  have hl : lv_has ls 1 [(0, .ref (b + o))] := hl
  unfold wp_M_bills at hw
  refine lv_aload_n hx hb dd_M_bills_0 rfl (lv_at hl 0 rfl) ?_
  refine lv_iconst (v := 0) hx hb dd_M_bills_1 kc_ic_0 ?_
  refine fw_puti hx hb hts in_10 F_ty_10 F_tyok_10 F_nm_10 hown hK hP hS (fw_A.in ho.1) ho (by decide) rfl 0 (by decide) (hts _ (tb_in tw_781)) rfl tk_10_0 (ty := .int) (by decide +kernel) rfl rfl dd_M_bills_2 (fun H locs hP hS => ?_)
  obtain ⟨S1, e_S1⟩ : ∃ z, z = fw_si S o 0 0 := ⟨_, rfl⟩
  rw [← e_S1] at hP
  have hw := hw S1 e_S1
  refine lv_aload_n hx hb dd_M_bills_5 rfl (lv_at hl 0 rfl) ?_
  refine fw_geti hx hb hts in_10 hown hK hP ho (by decide) rfl 35 (by decide) (hts _ (tb_in tw_816)) tk_10_35 dd_M_bills_6 ?_
  exact W.iret (v := S1.1 o 35) hx hb hr (fun t ht hW => ⟨⟨_, _, rfl, hw, fw_Bof ht hP⟩, hS.F ht⟩) hS.2.2 dd_M_bills_9
theorem dd_M_bill_20 : decode bb_M_bill 20 = .ok (.iconst 1, 1) := by decide +kernel
theorem dd_M_bill_21 : decode bb_M_bill 21 = .ok (.goto 17, 3) := by decide +kernel
theorem dd_M_bill_38 : decode bb_M_bill 38 = .ok (.putfield 114, 3) := by decide +kernel
theorem dd_M_bill_41 : decode bb_M_bill 41 = .ok (.aload_n 0, 1) := by decide +kernel
theorem dd_M_bill_42 : decode bb_M_bill 42 = .ok (.getfield 114, 3) := by decide +kernel
theorem dd_M_bill_45 : decode bb_M_bill 45 = .ok (.ifCond .le 7, 3) := by decide +kernel
theorem dd_M_bill_52 : decode bb_M_bill 52 = .ok (.aload_n 0, 1) := by decide +kernel
theorem dd_M_bill_53 : decode bb_M_bill 53 = .ok (.getfield 105, 3) := by decide +kernel
theorem dd_M_bill_56 : decode bb_M_bill 56 = .ok (.iconst 5, 1) := by decide +kernel
theorem dd_M_bill_57 : decode bb_M_bill 57 = .ok (.iload_n 1, 1) := by decide +kernel
theorem dd_M_bill_58 : decode bb_M_bill 58 = .ok (.imul, 1) := by decide +kernel
theorem dd_M_bill_59 : decode bb_M_bill 59 = .ok (.iload_n 2, 1) := by decide +kernel
theorem dd_M_bill_60 : decode bb_M_bill 60 = .ok (.iadd, 1) := by decide +kernel
theorem dd_M_bill_61 : decode bb_M_bill 61 = .ok (.iaload, 1) := by decide +kernel
theorem dd_M_bill_48 : decode bb_M_bill 48 = .ok (.iconst 0, 1) := by decide +kernel
theorem dd_M_bill_49 : decode bb_M_bill 49 = .ok (.goto 13, 3) := by decide +kernel
theorem dd_M_bill_62 : decode bb_M_bill 62 = .ok (.ireturn, 1) := by decide +kernel
theorem dd_M_bill_0 : decode bb_M_bill 0 = .ok (.aload_n 0, 1) := by decide +kernel
theorem dd_M_bill_1 : decode bb_M_bill 1 = .ok (.iload_n 1, 1) := by decide +kernel
theorem dd_M_bill_2 : decode bb_M_bill 2 = .ok (.ifCond .lt 18, 3) := by decide +kernel
theorem dd_M_bill_5 : decode bb_M_bill 5 = .ok (.iload_n 1, 1) := by decide +kernel
theorem dd_M_bill_6 : decode bb_M_bill 6 = .ok (.aload_n 0, 1) := by decide +kernel
theorem dd_M_bill_7 : decode bb_M_bill 7 = .ok (.getfield 172, 3) := by decide +kernel
theorem dd_M_bill_10 : decode bb_M_bill 10 = .ok (.if_icmp .ge 10, 3) := by decide +kernel
theorem dd_M_bill_13 : decode bb_M_bill 13 = .ok (.iload_n 1, 1) := by decide +kernel
theorem dd_M_bill_14 : decode bb_M_bill 14 = .ok (.sipush 128, 3) := by decide +kernel
theorem dd_M_bill_17 : decode bb_M_bill 17 = .ok (.if_icmp .lt 7, 3) := by decide +kernel
theorem dd_M_bill_24 : decode bb_M_bill 24 = .ok (.iload_n 2, 1) := by decide +kernel
theorem dd_M_bill_25 : decode bb_M_bill 25 = .ok (.iconst 0, 1) := by decide +kernel
theorem dd_M_bill_26 : decode bb_M_bill 26 = .ok (.iconst 4, 1) := by decide +kernel
theorem dd_M_bill_27 : decode bb_M_bill 27 = .ok (.invokestatic 118, 3) := by decide +kernel
theorem dd_M_bill_30 : decode bb_M_bill 30 = .ok (.ifCond .eq 7, 3) := by decide +kernel
theorem dd_M_bill_37 : decode bb_M_bill 37 = .ok (.iconst 2, 1) := by decide +kernel
theorem dd_M_bill_33 : decode bb_M_bill 33 = .ok (.iconst 0, 1) := by decide +kernel
theorem dd_M_bill_34 : decode bb_M_bill 34 = .ok (.goto 4, 3) := by decide +kernel
def ww_M_bill : List Cond := .code yy_M_bill bb_M_bill 3 (some .int) :: TB
def rm_M_bill : Room := { frames := 1, cells := 0, slots := 0, locals := 22 }
def wp_M_bill_62 (o : Nat) (a1 : Int32) (a2 : Int32) (post : fw_S → Int32 → Prop) (S : fw_S) (p0 : Int32) : Prop := post S p0
def wp_M_bill_38 (o : Nat) (a1 : Int32) (a2 : Int32) (post : fw_S → Int32 → Prop) (S : fw_S) (p0 : Int32) : Prop := ∀ S1 : fw_S, S1 = fw_si S o 0 p0 → ((((S1.1 o 0) ≤ 0) → vp_in ((5 * a1) + a2) 640 ∧ (wp_M_bill_62 o a1 a2 post S1 (S1.1 (o + 32) (((5 * a1) + a2 : Int32).toNatClampNeg)))) ∧ (¬ ((S1.1 o 0) ≤ 0) → wp_M_bill_62 o a1 a2 post S1 0))
def wp_M_bill_20 (o : Nat) (a1 : Int32) (a2 : Int32) (post : fw_S → Int32 → Prop) (S : fw_S) : Prop := wp_M_bill_38 o a1 a2 post S 1
def wp_M_bill (S : fw_S) (o : Nat) (a1 : Int32) (a2 : Int32) (post : fw_S → Int32 → Prop) : Prop := (((a1 < 0) → wp_M_bill_20 o a1 a2 post S) ∧ (¬ (a1 < 0) → ((((S.1 o 35) ≤ a1) → wp_M_bill_20 o a1 a2 post S) ∧ (¬ ((S.1 o 35) ≤ a1) → (((a1 < 128) → wp_M_isIn S a2 0 4 (fun S4 r5 => (((r5 = 0) → wp_M_bill_38 o a1 a2 post S4 2) ∧ (¬ (r5 = 0) → wp_M_bill_38 o a1 a2 post S4 0)))) ∧ (¬ (a1 < 128) → wp_M_bill_20 o a1 a2 post S))))))
set_option maxHeartbeats 4000000 in
set_option maxRecDepth 100000 in
theorem mt_M_bill (l : Launch) (D : va_G) (cA : Nat → ClassId) (b : Nat) (S : fw_S) (o : Nat) (a1 : Int32) (a2 : Int32) (ho : o < 245 ∧ layU o = (10, 0)) (post : fw_S → Int32 → Prop) (hw : wp_M_bill S o a1 a2 post) : Met l yy_M_bill ww_M_bill rm_M_bill (fw_Pc D CL cA (TYS cA) TK layU b 245 S [.ref (b + o), .int a1, .int a2]) (va_Qi (fun r S' => post S' r) (fw_B D CL cA TK layU b 245) (fw_A b 245)) 0 0 (fw_A b 245) := by
  refine Met.ofW (cc := bb_M_bill) (maxL := 3) (ret := (some .int)) (by decide) rfl ?_
  intro p e s m args below meth c s₁ B hml hv
  obtain ⟨rfl, hP, hK⟩ := hv
  have hx := B.exec
  have hb := B.bytes
  have hr := B.returns
  have hts := atoms_spec (ws := ww_M_bill) B.pre
  have hown : s.vm.findClass "OutletOfficeModel" = some m.cls := findClass_of_methodNamed B.named
  have hlocks := B.notSynchronized
  have hS : va_S (fw_A b 245) s.heap s.heap [] := va_S.rf
  have hl := lv_entry ([.ref (b + o), .int a1, .int a2]) (n := 3) (Nat.le_of_ble_eq_true rfl)
  rw [lg_entry_eq]
  generalize (lg_sl ([.ref (b + o), .int a1, .int a2]) ++ List.replicate (3 - (lg_sl ([.ref (b + o), .int a1, .int a2])).length) Slot.unset).toArray = ls at hl ⊢
  have hl : lv_has ls 3 [(0, .ref (b + o)), (1, .int a1), (2, .int a2)] := hl
  have B62 : ∀ (S : fw_S) (p0 : Int32) (H : Heap) (locs : List Loc) (ls : Array Slot), wp_M_bill_62 o a1 a2 post S p0 → fw_P D CL cA layU b 245 (fw_v TK layU b S) H → va_S (fw_A b 245) s.heap H locs → lv_has ls 3 [(0, .ref (b + o)), (1, .int a1), (2, .int a2)] → W p l e (headSpec ww_M_bill rm_M_bill).room s m ([.ref (b + o), .int a1, .int a2] : List Value).toArray below meth c H locs 0 0 (MQ below (va_Qi (fun r S' => post S' r) (fw_B D CL cA TK layU b 245) (fw_A b 245)) ([.ref (b + o), .int a1, .int a2] : List Value).toArray s 0 0 (fw_A b 245)) (F0 m 62 ls [.int p0]) := by
      intro S p0 H locs ls hw hP hS hl
      unfold wp_M_bill_62 at hw
      exact W.iret (v := p0) hx hb hr (fun t ht hW => ⟨⟨_, _, rfl, hw, fw_Bof ht hP⟩, hS.F ht⟩) hS.2.2 dd_M_bill_62
  have B38 : ∀ (S : fw_S) (p0 : Int32) (H : Heap) (locs : List Loc) (ls : Array Slot), wp_M_bill_38 o a1 a2 post S p0 → fw_P D CL cA layU b 245 (fw_v TK layU b S) H → va_S (fw_A b 245) s.heap H locs → lv_has ls 3 [(0, .ref (b + o)), (1, .int a1), (2, .int a2)] → W p l e (headSpec ww_M_bill rm_M_bill).room s m ([.ref (b + o), .int a1, .int a2] : List Value).toArray below meth c H locs 0 0 (MQ below (va_Qi (fun r S' => post S' r) (fw_B D CL cA TK layU b 245) (fw_A b 245)) ([.ref (b + o), .int a1, .int a2] : List Value).toArray s 0 0 (fw_A b 245)) (F0 m 38 ls [.int p0, .ref (b + o)]) := by
      intro S p0 H locs ls hw hP hS hl
      unfold wp_M_bill_38 at hw
      refine fw_puti hx hb hts in_10 F_ty_10 F_tyok_10 F_nm_10 hown hK hP hS (fw_A.in ho.1) ho (by decide) rfl 0 (by decide) (hts _ (tb_in tw_781)) rfl tk_10_0 (ty := .int) (by decide +kernel) rfl rfl dd_M_bill_38 (fun H locs hP hS => ?_)
      obtain ⟨S1, e_S1⟩ : ∃ z, z = fw_si S o 0 p0 := ⟨_, rfl⟩
      rw [← e_S1] at hP
      have hw := hw S1 e_S1
      refine lv_aload_n hx hb dd_M_bill_41 rfl (lv_at hl 0 rfl) ?_
      refine fw_geti hx hb hts in_10 hown hK hP ho (by decide) rfl 0 (by decide) (hts _ (tb_in tw_781)) tk_10_0 dd_M_bill_42 ?_
      refine lv_if_le (tgt := 52) hx hb dd_M_bill_45 (by decide) (fun h2 => ?_) (fun h2 => ?_)
      · have hw := hw.1 h2
        refine lv_aload_n hx hb dd_M_bill_52 rfl (lv_at hl 0 rfl) ?_
        refine fw_getr hx hb hts in_10 hown hK hP ho (by decide) rfl 36 (by decide) (hts _ (tb_in tw_817)) tk_10_36 dd_M_bill_53 ?_
        refine lv_iconst (v := 5) hx hb dd_M_bill_56 kc_ic_5 ?_
        refine lv_iload_n hx hb dd_M_bill_57 rfl (lv_at hl 1 rfl) ?_
        refine lv_imul hx hb dd_M_bill_58 ?_
        refine lv_iload_n hx hb dd_M_bill_59 rfl (lv_at hl 2 rfl) ?_
        refine lv_iadd hx hb dd_M_bill_60 ?_
        obtain ⟨h3, hw⟩ := hw
        refine fw_iald hx hb hK hP (lf_10_36 ho) (by decide) 0 rfl tka_100 h3 dd_M_bill_61 ?_
        exact B62 S1 (S1.1 (o + 32) (((5 * a1) + a2 : Int32).toNatClampNeg)) _ _ ls hw hP hS (lv_sub hl [0, 1, 2] rfl)
      · have hw := hw.2 h2
        refine lv_iconst (v := 0) hx hb dd_M_bill_48 kc_ic_0 ?_
        refine lv_goto (tgt := 62) hx hb dd_M_bill_49 (by decide) ?_
        exact B62 S1 0 _ _ ls hw hP hS (lv_sub hl [0, 1, 2] rfl)
  have B20 : ∀ (S : fw_S) (H : Heap) (locs : List Loc) (ls : Array Slot), wp_M_bill_20 o a1 a2 post S → fw_P D CL cA layU b 245 (fw_v TK layU b S) H → va_S (fw_A b 245) s.heap H locs → lv_has ls 3 [(0, .ref (b + o)), (1, .int a1), (2, .int a2)] → W p l e (headSpec ww_M_bill rm_M_bill).room s m ([.ref (b + o), .int a1, .int a2] : List Value).toArray below meth c H locs 0 0 (MQ below (va_Qi (fun r S' => post S' r) (fw_B D CL cA TK layU b 245) (fw_A b 245)) ([.ref (b + o), .int a1, .int a2] : List Value).toArray s 0 0 (fw_A b 245)) (F0 m 20 ls [.ref (b + o)]) := by
      intro S H locs ls hw hP hS hl
      unfold wp_M_bill_20 at hw
      refine lv_iconst (v := 1) hx hb dd_M_bill_20 kc_ic_1 ?_
      refine lv_goto (tgt := 38) hx hb dd_M_bill_21 (by decide) ?_
      exact B38 S 1 _ _ ls hw hP hS (lv_sub hl [0, 1, 2] rfl)
  unfold wp_M_bill at hw
  refine lv_aload_n hx hb dd_M_bill_0 rfl (lv_at hl 0 rfl) ?_
  refine lv_iload_n hx hb dd_M_bill_1 rfl (lv_at hl 1 rfl) ?_
  refine lv_if_lt (tgt := 20) hx hb dd_M_bill_2 (by decide) (fun h1 => ?_) (fun h1 => ?_)
  · have hw := hw.1 h1
    exact B20 S _ _ ls hw hP hS (lv_sub hl [0, 1, 2] rfl)
  · have hw := hw.2 h1
    refine lv_iload_n hx hb dd_M_bill_5 rfl (lv_at hl 1 rfl) ?_
    refine lv_aload_n hx hb dd_M_bill_6 rfl (lv_at hl 0 rfl) ?_
    refine fw_geti hx hb hts in_10 hown hK hP ho (by decide) rfl 35 (by decide) (hts _ (tb_in tw_816)) tk_10_35 dd_M_bill_7 ?_
    refine lv_icmp_ge (tgt := 20) hx hb dd_M_bill_10 (by decide) (fun h2 => ?_) (fun h2 => ?_)
    · have hw := hw.1 h2
      exact B20 S _ _ ls hw hP hS (lv_sub hl [0, 1, 2] rfl)
    · have hw := hw.2 h2
      refine lv_iload_n hx hb dd_M_bill_13 rfl (lv_at hl 1 rfl) ?_
      refine lv_sipush (v := 128) hx hb dd_M_bill_14 kc_sp_128 ?_
      refine lv_icmp_lt (tgt := 24) hx hb dd_M_bill_17 (by decide) (fun h3 => ?_) (fun h3 => ?_)
      · have hw := hw.1 h3
        refine lv_iload_n hx hb dd_M_bill_24 rfl (lv_at hl 2 rfl) ?_
        refine lv_iconst (v := 0) hx hb dd_M_bill_25 kc_ic_0 ?_
        refine lv_iconst (v := 4) hx hb dd_M_bill_26 kc_ic_4 ?_
        refine fw_calli (va_runS (As := [.int a2, .int 0, .int 4]) (rest := [.ref (b + o)]) ⟨hx, hb, hml, hown, hts⟩ (mt_M_isIn l D cA b S a2 0 4 _ hw) (cwS 3 hts (fw_gS tw_913 tw_911 tw_912 tw_11) rfl rfl rfl (by decide +kernel) ⟨Nat.le_of_ble_eq_true rfl, Nat.le_of_ble_eq_true rfl⟩) (fw_preS hP hK) rfl rfl hl.1 rfl (lv_room (Nat.le_of_ble_eq_true rfl)) dd_M_bill_27 ⟨Nat.le_of_ble_eq_true rfl, Nat.le_of_ble_eq_true rfl⟩) hS (fun S4 r5 H locs hw hP hS => ?_)
        try dsimp only at hw
        refine lv_if_eq (tgt := 37) hx hb dd_M_bill_30 (by decide) (fun h6 => ?_) (fun h6 => ?_)
        · have hw := hw.1 h6
          refine lv_iconst (v := 2) hx hb dd_M_bill_37 kc_ic_2 ?_
          exact B38 S4 2 _ _ ls hw hP hS (lv_sub hl [0, 1, 2] rfl)
        · have hw := hw.2 h6
          refine lv_iconst (v := 0) hx hb dd_M_bill_33 kc_ic_0 ?_
          refine lv_goto (tgt := 38) hx hb dd_M_bill_34 (by decide) ?_
          exact B38 S4 0 _ _ ls hw hP hS (lv_sub hl [0, 1, 2] rfl)
      · have hw := hw.2 h3
        exact B20 S _ _ ls hw hP hS (lv_sub hl [0, 1, 2] rfl)
theorem dd_M_total_16 : decode bb_M_total 16 = .ok (.putfield 114, 3) := by decide +kernel
theorem dd_M_total_19 : decode bb_M_total 19 = .ok (.aload_n 0, 1) := by decide +kernel
theorem dd_M_total_20 : decode bb_M_total 20 = .ok (.getfield 114, 3) := by decide +kernel
theorem dd_M_total_23 : decode bb_M_total 23 = .ok (.ifCond .le 7, 3) := by decide +kernel
theorem dd_M_total_30 : decode bb_M_total 30 = .ok (.aload_n 0, 1) := by decide +kernel
theorem dd_M_total_31 : decode bb_M_total 31 = .ok (.getfield 108, 3) := by decide +kernel
theorem dd_M_total_34 : decode bb_M_total 34 = .ok (.iload_n 1, 1) := by decide +kernel
theorem dd_M_total_35 : decode bb_M_total 35 = .ok (.laload, 1) := by decide +kernel
theorem dd_M_total_26 : decode bb_M_total 26 = .ok (.lconst 0, 1) := by decide +kernel
theorem dd_M_total_27 : decode bb_M_total 27 = .ok (.goto 9, 3) := by decide +kernel
theorem dd_M_total_36 : decode bb_M_total 36 = .ok (.lreturn, 1) := by decide +kernel
theorem dd_M_total_0 : decode bb_M_total 0 = .ok (.aload_n 0, 1) := by decide +kernel
theorem dd_M_total_1 : decode bb_M_total 1 = .ok (.iload_n 1, 1) := by decide +kernel
theorem dd_M_total_2 : decode bb_M_total 2 = .ok (.iconst 0, 1) := by decide +kernel
theorem dd_M_total_3 : decode bb_M_total 3 = .ok (.bipush 15, 2) := by decide +kernel
theorem dd_M_total_5 : decode bb_M_total 5 = .ok (.invokestatic 118, 3) := by decide +kernel
theorem dd_M_total_8 : decode bb_M_total 8 = .ok (.ifCond .eq 7, 3) := by decide +kernel
theorem dd_M_total_15 : decode bb_M_total 15 = .ok (.iconst 1, 1) := by decide +kernel
theorem dd_M_total_11 : decode bb_M_total 11 = .ok (.iconst 0, 1) := by decide +kernel
theorem dd_M_total_12 : decode bb_M_total 12 = .ok (.goto 4, 3) := by decide +kernel
def ww_M_total : List Cond := .code yy_M_total bb_M_total 2 (some .long) :: TB
def rm_M_total : Room := { frames := 1, cells := 0, slots := 0, locals := 22 }
def wp_M_total_36 (o : Nat) (a1 : Int32) (post : fw_S → Int64 → Prop) (S : fw_S) (pl0 : Int64) : Prop := post S pl0
def wp_M_total_16 (o : Nat) (a1 : Int32) (post : fw_S → Int64 → Prop) (S : fw_S) (p0 : Int32) : Prop := ∀ S1 : fw_S, S1 = fw_si S o 0 p0 → ((((S1.1 o 0) ≤ 0) → vp_in a1 16 ∧ (wp_M_total_36 o a1 post S1 (S1.2 (o + 33) a1.toNatClampNeg))) ∧ (¬ ((S1.1 o 0) ≤ 0) → wp_M_total_36 o a1 post S1 0))
def wp_M_total (S : fw_S) (o : Nat) (a1 : Int32) (post : fw_S → Int64 → Prop) : Prop := wp_M_isIn S a1 0 15 (fun S1 r2 => (((r2 = 0) → wp_M_total_16 o a1 post S1 1) ∧ (¬ (r2 = 0) → wp_M_total_16 o a1 post S1 0)))
set_option maxHeartbeats 4000000 in
set_option maxRecDepth 100000 in
theorem mt_M_total (l : Launch) (D : va_G) (cA : Nat → ClassId) (b : Nat) (S : fw_S) (o : Nat) (a1 : Int32) (ho : o < 245 ∧ layU o = (10, 0)) (post : fw_S → Int64 → Prop) (hw : wp_M_total S o a1 post) : Met l yy_M_total ww_M_total rm_M_total (fw_Pc D CL cA (TYS cA) TK layU b 245 S [.ref (b + o), .int a1]) (va_Ql (fun r S' => post S' r) (fw_B D CL cA TK layU b 245) (fw_A b 245)) 0 0 (fw_A b 245) := by
  refine Met.ofW (cc := bb_M_total) (maxL := 2) (ret := (some .long)) (by decide) rfl ?_
  intro p e s m args below meth c s₁ B hml hv
  obtain ⟨rfl, hP, hK⟩ := hv
  have hx := B.exec
  have hb := B.bytes
  have hr := B.returns
  have hts := atoms_spec (ws := ww_M_total) B.pre
  have hown : s.vm.findClass "OutletOfficeModel" = some m.cls := findClass_of_methodNamed B.named
  have hlocks := B.notSynchronized
  have hS : va_S (fw_A b 245) s.heap s.heap [] := va_S.rf
  have hl := lv_entry ([.ref (b + o), .int a1]) (n := 2) (Nat.le_of_ble_eq_true rfl)
  rw [lg_entry_eq]
  generalize (lg_sl ([.ref (b + o), .int a1]) ++ List.replicate (2 - (lg_sl ([.ref (b + o), .int a1])).length) Slot.unset).toArray = ls at hl ⊢
  have hl : lv_has ls 2 [(0, .ref (b + o)), (1, .int a1)] := hl
  have B36 : ∀ (S : fw_S) (pl0 : Int64) (H : Heap) (locs : List Loc) (ls : Array Slot), wp_M_total_36 o a1 post S pl0 → fw_P D CL cA layU b 245 (fw_v TK layU b S) H → va_S (fw_A b 245) s.heap H locs → lv_has ls 2 [(0, .ref (b + o)), (1, .int a1)] → W p l e (headSpec ww_M_total rm_M_total).room s m ([.ref (b + o), .int a1] : List Value).toArray below meth c H locs 0 0 (MQ below (va_Ql (fun r S' => post S' r) (fw_B D CL cA TK layU b 245) (fw_A b 245)) ([.ref (b + o), .int a1] : List Value).toArray s 0 0 (fw_A b 245)) (F0 m 36 ls [.long pl0]) := by
      intro S pl0 H locs ls hw hP hS hl
      unfold wp_M_total_36 at hw
      exact W.lret (v := pl0) hx hb hr (fun t ht hW => ⟨⟨_, _, rfl, hw, fw_Bof ht hP⟩, hS.F ht⟩) hS.2.2 dd_M_total_36
  have B16 : ∀ (S : fw_S) (p0 : Int32) (H : Heap) (locs : List Loc) (ls : Array Slot), wp_M_total_16 o a1 post S p0 → fw_P D CL cA layU b 245 (fw_v TK layU b S) H → va_S (fw_A b 245) s.heap H locs → lv_has ls 2 [(0, .ref (b + o)), (1, .int a1)] → W p l e (headSpec ww_M_total rm_M_total).room s m ([.ref (b + o), .int a1] : List Value).toArray below meth c H locs 0 0 (MQ below (va_Ql (fun r S' => post S' r) (fw_B D CL cA TK layU b 245) (fw_A b 245)) ([.ref (b + o), .int a1] : List Value).toArray s 0 0 (fw_A b 245)) (F0 m 16 ls [.int p0, .ref (b + o)]) := by
      intro S p0 H locs ls hw hP hS hl
      unfold wp_M_total_16 at hw
      refine fw_puti hx hb hts in_10 F_ty_10 F_tyok_10 F_nm_10 hown hK hP hS (fw_A.in ho.1) ho (by decide) rfl 0 (by decide) (hts _ (tb_in tw_781)) rfl tk_10_0 (ty := .int) (by decide +kernel) rfl rfl dd_M_total_16 (fun H locs hP hS => ?_)
      obtain ⟨S1, e_S1⟩ : ∃ z, z = fw_si S o 0 p0 := ⟨_, rfl⟩
      rw [← e_S1] at hP
      have hw := hw S1 e_S1
      refine lv_aload_n hx hb dd_M_total_19 rfl (lv_at hl 0 rfl) ?_
      refine fw_geti hx hb hts in_10 hown hK hP ho (by decide) rfl 0 (by decide) (hts _ (tb_in tw_781)) tk_10_0 dd_M_total_20 ?_
      refine lv_if_le (tgt := 30) hx hb dd_M_total_23 (by decide) (fun h2 => ?_) (fun h2 => ?_)
      · have hw := hw.1 h2
        refine lv_aload_n hx hb dd_M_total_30 rfl (lv_at hl 0 rfl) ?_
        refine fw_getr hx hb hts in_10 hown hK hP ho (by decide) rfl 37 (by decide) (hts _ (tb_in tw_818)) tk_10_37 dd_M_total_31 ?_
        refine lv_iload_n hx hb dd_M_total_34 rfl (lv_at hl 1 rfl) ?_
        obtain ⟨h3, hw⟩ := hw
        refine fw_lald hx hb hK hP (lf_10_37 ho) (by decide) 1 rfl tka_101 h3 dd_M_total_35 ?_
        exact B36 S1 (S1.2 (o + 33) a1.toNatClampNeg) _ _ ls hw hP hS (lv_sub hl [0, 1] rfl)
      · have hw := hw.2 h2
        refine lv_lconst (v := 0) hx hb dd_M_total_26 kc_lc_0 ?_
        refine lv_goto (tgt := 36) hx hb dd_M_total_27 (by decide) ?_
        exact B36 S1 0 _ _ ls hw hP hS (lv_sub hl [0, 1] rfl)
  unfold wp_M_total at hw
  refine lv_aload_n hx hb dd_M_total_0 rfl (lv_at hl 0 rfl) ?_
  refine lv_iload_n hx hb dd_M_total_1 rfl (lv_at hl 1 rfl) ?_
  refine lv_iconst (v := 0) hx hb dd_M_total_2 kc_ic_0 ?_
  refine lv_bipush (v := 15) hx hb dd_M_total_3 kc_bp_15 ?_
  refine fw_calli (va_runS (As := [.int a1, .int 0, .int 15]) (rest := [.ref (b + o)]) ⟨hx, hb, hml, hown, hts⟩ (mt_M_isIn l D cA b S a1 0 15 _ hw) (cwS 3 hts (fw_gS tw_913 tw_911 tw_912 tw_11) rfl rfl rfl (by decide +kernel) ⟨Nat.le_of_ble_eq_true rfl, Nat.le_of_ble_eq_true rfl⟩) (fw_preS hP hK) rfl rfl hl.1 rfl (lv_room (Nat.le_of_ble_eq_true rfl)) dd_M_total_5 ⟨Nat.le_of_ble_eq_true rfl, Nat.le_of_ble_eq_true rfl⟩) hS (fun S1 r2 H locs hw hP hS => ?_)
  try dsimp only at hw
  refine lv_if_eq (tgt := 15) hx hb dd_M_total_8 (by decide) (fun h3 => ?_) (fun h3 => ?_)
  · have hw := hw.1 h3
    refine lv_iconst (v := 1) hx hb dd_M_total_15 kc_ic_1 ?_
    exact B16 S1 1 _ _ ls hw hP hS (lv_sub hl [0, 1] rfl)
  · have hw := hw.2 h3
    refine lv_iconst (v := 0) hx hb dd_M_total_11 kc_ic_0 ?_
    refine lv_goto (tgt := 16) hx hb dd_M_total_12 (by decide) ?_
    exact B16 S1 0 _ _ ls hw hP hS (lv_sub hl [0, 1] rfl)
theorem dd_Bill_begin_0 : decode bb_Bill_begin 0 = .ok (.aload_n 0, 1) := by decide +kernel
theorem dd_Bill_begin_1 : decode bb_Bill_begin 1 = .ok (.iconst 1, 1) := by decide +kernel
theorem dd_Bill_begin_2 : decode bb_Bill_begin 2 = .ok (.putfield 9, 3) := by decide +kernel
theorem dd_Bill_begin_5 : decode bb_Bill_begin 5 = .ok (.aload_n 0, 1) := by decide +kernel
theorem dd_Bill_begin_6 : decode bb_Bill_begin 6 = .ok (.aload_n 1, 1) := by decide +kernel
theorem dd_Bill_begin_7 : decode bb_Bill_begin 7 = .ok (.getfield 35, 3) := by decide +kernel
theorem dd_Bill_begin_10 : decode bb_Bill_begin 10 = .ok (.putfield 15, 3) := by decide +kernel
theorem dd_Bill_begin_13 : decode bb_Bill_begin 13 = .ok (.aload_n 0, 1) := by decide +kernel
theorem dd_Bill_begin_14 : decode bb_Bill_begin 14 = .ok (.aload_n 1, 1) := by decide +kernel
theorem dd_Bill_begin_15 : decode bb_Bill_begin 15 = .ok (.getfield 38, 3) := by decide +kernel
theorem dd_Bill_begin_18 : decode bb_Bill_begin 18 = .ok (.putfield 19, 3) := by decide +kernel
theorem dd_Bill_begin_21 : decode bb_Bill_begin 21 = .ok (.aload_n 0, 1) := by decide +kernel
theorem dd_Bill_begin_22 : decode bb_Bill_begin 22 = .ok (.iload_n 2, 1) := by decide +kernel
theorem dd_Bill_begin_23 : decode bb_Bill_begin 23 = .ok (.i2l, 1) := by decide +kernel
theorem dd_Bill_begin_24 : decode bb_Bill_begin 24 = .ok (.putfield 22, 3) := by decide +kernel
theorem dd_Bill_begin_27 : decode bb_Bill_begin 27 = .ok (.aload_n 0, 1) := by decide +kernel
theorem dd_Bill_begin_28 : decode bb_Bill_begin 28 = .ok (.aload_n 1, 1) := by decide +kernel
theorem dd_Bill_begin_29 : decode bb_Bill_begin 29 = .ok (.getfield 39, 3) := by decide +kernel
theorem dd_Bill_begin_32 : decode bb_Bill_begin 32 = .ok (.putfield 26, 3) := by decide +kernel
theorem dd_Bill_begin_35 : decode bb_Bill_begin 35 = .ok (.aload_n 0, 1) := by decide +kernel
theorem dd_Bill_begin_36 : decode bb_Bill_begin 36 = .ok (.aload_n 1, 1) := by decide +kernel
theorem dd_Bill_begin_37 : decode bb_Bill_begin 37 = .ok (.getfield 39, 3) := by decide +kernel
theorem dd_Bill_begin_40 : decode bb_Bill_begin 40 = .ok (.putfield 29, 3) := by decide +kernel
theorem dd_Bill_begin_43 : decode bb_Bill_begin 43 = .ok (.aload_n 0, 1) := by decide +kernel
theorem dd_Bill_begin_44 : decode bb_Bill_begin 44 = .ok (.aload_n 1, 1) := by decide +kernel
theorem dd_Bill_begin_45 : decode bb_Bill_begin 45 = .ok (.getfield 40, 3) := by decide +kernel
theorem dd_Bill_begin_48 : decode bb_Bill_begin 48 = .ok (.putfield 32, 3) := by decide +kernel
theorem dd_Bill_begin_51 : decode bb_Bill_begin 51 = .ok (.return_, 1) := by decide +kernel
def ww_Bill_begin : List Cond := .code yy_Bill_begin bb_Bill_begin 3 none :: TB
def rm_Bill_begin : Room := { frames := 0, cells := 0, slots := 0, locals := 0 }
def wp_Bill_begin (S : fw_S) (o : Nat) (o1 : Nat) (a2 : Int32) (post : fw_S → Prop) : Prop := ∀ S1 : fw_S, S1 = fw_si S o 0 1 → ∀ S2 : fw_S, S2 = fw_si S1 o 1 (S1.1 o1 1) → ∀ S3 : fw_S, S3 = fw_si S2 o 2 (S2.1 o1 2) → ∀ S4 : fw_S, S4 = fw_sl S3 o 3 a2.toInt64 → ∀ S5 : fw_S, S5 = fw_si S4 o 4 (S4.1 o1 4) → ∀ S6 : fw_S, S6 = fw_si S5 o 5 (S5.1 o1 4) → ∀ S7 : fw_S, S7 = fw_si S6 o 6 (S6.1 o1 3) → post S7
set_option maxHeartbeats 4000000 in
set_option maxRecDepth 100000 in
theorem mt_Bill_begin (l : Launch) (D : va_G) (cA : Nat → ClassId) (b : Nat) (S : fw_S) (o : Nat) (o1 : Nat) (a2 : Int32) (ho : o < 245 ∧ layU o = (8, 0)) (hq1 : o1 < 245 ∧ layU o1 = (5, 0)) (post : fw_S → Prop) (hw : wp_Bill_begin S o o1 a2 post) : Met l yy_Bill_begin ww_Bill_begin rm_Bill_begin (fw_Pc D CL cA (TYS cA) TK layU b 245 S [.ref (b + o), .ref (b + o1), .int a2]) (va_Qv post (fw_B D CL cA TK layU b 245) (fw_A b 245)) 0 0 (fw_A b 245) := by
  refine Met.ofW (cc := bb_Bill_begin) (maxL := 3) (ret := none) (by decide) rfl ?_
  intro p e s m args below meth c s₁ B hml hv
  obtain ⟨rfl, hP, hK⟩ := hv
  have hx := B.exec
  have hb := B.bytes
  have hr := B.returns
  have hts := atoms_spec (ws := ww_Bill_begin) B.pre
  have hown : s.vm.findClass "OutletOffice$Bill" = some m.cls := findClass_of_methodNamed B.named
  have hlocks := B.notSynchronized
  have hS : va_S (fw_A b 245) s.heap s.heap [] := va_S.rf
  have hl := lv_entry ([.ref (b + o), .ref (b + o1), .int a2]) (n := 3) (Nat.le_of_ble_eq_true rfl)
  rw [lg_entry_eq]
  generalize (lg_sl ([.ref (b + o), .ref (b + o1), .int a2]) ++ List.replicate (3 - (lg_sl ([.ref (b + o), .ref (b + o1), .int a2])).length) Slot.unset).toArray = ls at hl ⊢
  have hl : lv_has ls 3 [(0, .ref (b + o)), (1, .ref (b + o1)), (2, .int a2)] := hl
  unfold wp_Bill_begin at hw
  refine lv_aload_n hx hb dd_Bill_begin_0 rfl (lv_at hl 0 rfl) ?_
  refine lv_iconst (v := 1) hx hb dd_Bill_begin_1 kc_ic_1 ?_
  refine fw_puti hx hb hts in_8 F_ty_8 F_tyok_8 F_nm_8 hown hK hP hS (fw_A.in ho.1) ho (by decide) rfl 0 (by decide) (hts _ (tb_in tw_79)) rfl tk_8_0 (ty := .boolean) (by decide +kernel) rfl rfl dd_Bill_begin_2 (fun H locs hP hS => ?_)
  obtain ⟨S1, e_S1⟩ : ∃ z, z = fw_si S o 0 1 := ⟨_, rfl⟩
  rw [← e_S1] at hP
  have hw := hw S1 e_S1
  refine lv_aload_n hx hb dd_Bill_begin_5 rfl (lv_at hl 0 rfl) ?_
  refine lv_aload_n hx hb dd_Bill_begin_6 rfl (lv_at hl 1 rfl) ?_
  refine fw_geti hx hb hts in_5 hown hK hP hq1 (by decide) rfl 1 (by decide) (hts _ (tb_in tw_199)) tk_5_1 dd_Bill_begin_7 ?_
  refine fw_puti hx hb hts in_8 F_ty_8 F_tyok_8 F_nm_8 hown hK hP hS (fw_A.in ho.1) ho (by decide) rfl 1 (by decide) (hts _ (tb_in tw_82)) rfl tk_8_1 (ty := .int) (by decide +kernel) rfl rfl dd_Bill_begin_10 (fun H locs hP hS => ?_)
  obtain ⟨S2, e_S2⟩ : ∃ z, z = fw_si S1 o 1 (S1.1 o1 1) := ⟨_, rfl⟩
  rw [← e_S2] at hP
  have hw := hw S2 e_S2
  refine lv_aload_n hx hb dd_Bill_begin_13 rfl (lv_at hl 0 rfl) ?_
  refine lv_aload_n hx hb dd_Bill_begin_14 rfl (lv_at hl 1 rfl) ?_
  refine fw_geti hx hb hts in_5 hown hK hP hq1 (by decide) rfl 2 (by decide) (hts _ (tb_in tw_201)) tk_5_2 dd_Bill_begin_15 ?_
  refine fw_puti hx hb hts in_8 F_ty_8 F_tyok_8 F_nm_8 hown hK hP hS (fw_A.in ho.1) ho (by decide) rfl 2 (by decide) (hts _ (tb_in tw_84)) rfl tk_8_2 (ty := .int) (by decide +kernel) rfl rfl dd_Bill_begin_18 (fun H locs hP hS => ?_)
  obtain ⟨S3, e_S3⟩ : ∃ z, z = fw_si S2 o 2 (S2.1 o1 2) := ⟨_, rfl⟩
  rw [← e_S3] at hP
  have hw := hw S3 e_S3
  refine lv_aload_n hx hb dd_Bill_begin_21 rfl (lv_at hl 0 rfl) ?_
  refine lv_iload_n hx hb dd_Bill_begin_22 rfl (lv_at hl 2 rfl) ?_
  refine lv_i2l hx hb dd_Bill_begin_23 rfl ?_
  refine fw_putl hx hb hts in_8 F_ty_8 F_tyok_8 F_nm_8 hown hK hP hS (fw_A.in ho.1) ho (by decide) rfl 3 (by decide) (hts _ (tb_in tw_86)) rfl tk_8_3 (ty := .long) (by decide +kernel) rfl rfl dd_Bill_begin_24 (fun H locs hP hS => ?_)
  obtain ⟨S4, e_S4⟩ : ∃ z, z = fw_sl S3 o 3 a2.toInt64 := ⟨_, rfl⟩
  rw [← e_S4] at hP
  have hw := hw S4 e_S4
  refine lv_aload_n hx hb dd_Bill_begin_27 rfl (lv_at hl 0 rfl) ?_
  refine lv_aload_n hx hb dd_Bill_begin_28 rfl (lv_at hl 1 rfl) ?_
  refine fw_geti hx hb hts in_5 hown hK hP hq1 (by decide) rfl 4 (by decide) (hts _ (tb_in tw_205)) tk_5_4 dd_Bill_begin_29 ?_
  refine fw_puti hx hb hts in_8 F_ty_8 F_tyok_8 F_nm_8 hown hK hP hS (fw_A.in ho.1) ho (by decide) rfl 4 (by decide) (hts _ (tb_in tw_89)) rfl tk_8_4 (ty := .int) (by decide +kernel) rfl rfl dd_Bill_begin_32 (fun H locs hP hS => ?_)
  obtain ⟨S5, e_S5⟩ : ∃ z, z = fw_si S4 o 4 (S4.1 o1 4) := ⟨_, rfl⟩
  rw [← e_S5] at hP
  have hw := hw S5 e_S5
  refine lv_aload_n hx hb dd_Bill_begin_35 rfl (lv_at hl 0 rfl) ?_
  refine lv_aload_n hx hb dd_Bill_begin_36 rfl (lv_at hl 1 rfl) ?_
  refine fw_geti hx hb hts in_5 hown hK hP hq1 (by decide) rfl 4 (by decide) (hts _ (tb_in tw_205)) tk_5_4 dd_Bill_begin_37 ?_
  refine fw_puti hx hb hts in_8 F_ty_8 F_tyok_8 F_nm_8 hown hK hP hS (fw_A.in ho.1) ho (by decide) rfl 5 (by decide) (hts _ (tb_in tw_91)) rfl tk_8_5 (ty := .int) (by decide +kernel) rfl rfl dd_Bill_begin_40 (fun H locs hP hS => ?_)
  obtain ⟨S6, e_S6⟩ : ∃ z, z = fw_si S5 o 5 (S5.1 o1 4) := ⟨_, rfl⟩
  rw [← e_S6] at hP
  have hw := hw S6 e_S6
  refine lv_aload_n hx hb dd_Bill_begin_43 rfl (lv_at hl 0 rfl) ?_
  refine lv_aload_n hx hb dd_Bill_begin_44 rfl (lv_at hl 1 rfl) ?_
  refine fw_geti hx hb hts in_5 hown hK hP hq1 (by decide) rfl 3 (by decide) (hts _ (tb_in tw_203)) tk_5_3 dd_Bill_begin_45 ?_
  refine fw_puti hx hb hts in_8 F_ty_8 F_tyok_8 F_nm_8 hown hK hP hS (fw_A.in ho.1) ho (by decide) rfl 6 (by decide) (hts _ (tb_in tw_93)) rfl tk_8_6 (ty := .int) (by decide +kernel) rfl rfl dd_Bill_begin_48 (fun H locs hP hS => ?_)
  obtain ⟨S7, e_S7⟩ : ∃ z, z = fw_si S6 o 6 (S6.1 o1 3) := ⟨_, rfl⟩
  rw [← e_S7] at hP
  have hw := hw S7 e_S7
  exact W.vret hx hb hr (fun t ht hW => ⟨⟨_, rfl, hw, fw_Bof ht hP⟩, hS.F ht⟩) hS.2.2 dd_Bill_begin_51
