theorem dd_Law_current_0 : decode bb_Law_current 0 = .ok (.aload_n 2, 1) := by decide +kernel
theorem dd_Law_current_1 : decode bb_Law_current 1 = .ok (.iconst 0, 1) := by decide +kernel
theorem dd_Law_current_2 : decode bb_Law_current 2 = .ok (.aload_n 0, 1) := by decide +kernel
theorem dd_Law_current_3 : decode bb_Law_current 3 = .ok (.iload_n 1, 1) := by decide +kernel
theorem dd_Law_current_4 : decode bb_Law_current 4 = .ok (.invokevirtual 63, 3) := by decide +kernel
theorem dd_Law_current_12 : decode bb_Law_current 12 = .ok (.astore_n 3, 1) := by decide +kernel
theorem dd_Law_current_13 : decode bb_Law_current 13 = .ok (.iconst 1, 1) := by decide +kernel
theorem dd_Law_current_14 : decode bb_Law_current 14 = .ok (.ireturn, 1) := by decide +kernel
theorem dd_Law_current_7 : decode bb_Law_current 7 = .ok (.i2l, 1) := by decide +kernel
theorem dd_Law_current_8 : decode bb_Law_current 8 = .ok (.lastore, 1) := by decide +kernel
theorem dd_Law_current_9 : decode bb_Law_current 9 = .ok (.goto 6, 3) := by decide +kernel
theorem dd_Law_current_15 : decode bb_Law_current 15 = .ok (.iconst 0, 1) := by decide +kernel
theorem dd_Law_current_16 : decode bb_Law_current 16 = .ok (.ireturn, 1) := by decide +kernel
def ww_Law_current : List Cond := .codeWith yy_Law_current bb_Law_current 4 (some .int) [(0, 9, 12, 13)] :: TB
def rm_Law_current : Room := { frames := 9, cells := 1, slots := 6, locals := 164 }
def wp_Law_current (S : fw_S) (o1 : Nat) (a2 : Int32) (o3 : Nat) (post : fw_S → Int32 → Prop) : Prop := wp_Out_current S o1 a2 (fun S1 r2 => vp_in 0 1 ∧ (∀ S4 : fw_S, S4 = fw_sl S1 o3 ((0 : Int32).toNatClampNeg) r2.toInt64 → post S4 0)) (fun k9 S9 => (k9 = 1 ∧ (post S9 1)))
set_option maxHeartbeats 4000000 in
set_option maxRecDepth 100000 in
theorem mt_Law_current (l : Launch) (hl9 : l.stackTraces = false) (D : va_G) (cA : Nat → ClassId) (b : Nat) (S : fw_S) (o1 : Nat) (a2 : Int32) (o3 : Nat) (hq1 : o1 < 245 ∧ layU o1 = (0, 0)) (hq3 : o3 < 245 ∧ layU o3 = (101, 1)) (post : fw_S → Int32 → Prop) (hw : wp_Law_current S o1 a2 o3 post) : Met l yy_Law_current ww_Law_current rm_Law_current (fw_PcX D CL cA (TYS cA) TK layU b 245 S [.ref (b + o1), .int a2, .ref (b + o3)]) (va_Qi (fun r S' => post S' r) (fw_B D CL cA TK layU b 245) (fw_A b 245)) 1 6 (fw_A b 245) := by
  refine va_MetW (cc := bb_Law_current) (maxL := 4) (ret := (some .int)) (hh := [(0, 9, 12, 13)]) (by decide) rfl ?_
  intro p e s m args below meth c s₁ B hml hv
  obtain ⟨rfl, hP, hK, hZ⟩ := hv
  have hx := B.exec
  have hb := B.bytes
  have hr := B.returns
  have hts := atoms_spec (ws := ww_Law_current) B.pre
  have hown : s.vm.findClass "OutletOfficeLaw" = some m.cls := findClass_of_methodNamed B.named
  have hlocks := B.notSynchronized
  have hTb := tx_table B (hts _ List.mem_cons_self)
  have hS : va_S (fw_A b 245) s.heap s.heap [] := va_S.rf
  have hl := lv_entry ([.ref (b + o1), .int a2, .ref (b + o3)]) (n := 4) (Nat.le_of_ble_eq_true rfl)
  rw [lg_entry_eq]
  generalize (lg_sl ([.ref (b + o1), .int a2, .ref (b + o3)]) ++ List.replicate (4 - (lg_sl ([.ref (b + o1), .int a2, .ref (b + o3)])).length) Slot.unset).toArray = ls at hl ⊢
  have hl : lv_has ls 4 [(0, .ref (b + o1)), (1, .int a2), (2, .ref (b + o3))] := hl
  unfold wp_Law_current at hw
  refine lv_aload_n hx hb dd_Law_current_0 rfl (lv_at hl 2 rfl) ?_
  refine lv_iconst (v := 0) hx hb dd_Law_current_1 kc_ic_0 ?_
  refine lv_aload_n hx hb dd_Law_current_2 rfl (lv_at hl 0 rfl) ?_
  refine lv_iload_n hx hb dd_Law_current_3 rfl (lv_at hl 1 rfl) ?_
  refine tx_calli (tx_runV (As := [.int a2]) (rest := [.int 0, .ref (b + o3)]) ⟨hx, hb, hml, hown, hts⟩ (mt_Out_current l hl9 D cA b S o1 a2 hq1 _ _ hw) (cwV 1 hts (fw_gV tw_727 tw_724 tw_725 tw_726 tw_1) rfl rfl rfl (by decide +kernel) ⟨Nat.le_of_ble_eq_true rfl, Nat.le_of_ble_eq_true rfl⟩) (fw_preVX hP hK hZ hS hq1 (by decide) rfl) rfl rfl hl.1 rfl (lv_room (Nat.le_of_ble_eq_true rfl)) dd_Law_current_4 ⟨Nat.le_of_ble_eq_true rfl, Nat.le_of_ble_eq_true rfl⟩) hS (fun k9 S9 q9 ce9 H locs hw hP hS hce => ?_) (fun S1 r2 H locs hw hP hS => ?_)
  · try dsimp only at hw
    obtain ⟨h9, hw⟩ := hw
    subst h9
    refine tx_catch (k := 1) hown [] ⟨0, 9, 12, 13⟩ [] (by rw [hTb]; rfl) (fun z hz => by cases hz) (by decide) (by decide) (hts _ (tb_in tw_322)) (va_Nw.use rfl hZ.2.2.1.1.1) hce ?_
    refine lv_astore_n hx hb dd_Law_current_12 rfl hl (Nat.le_of_ble_eq_true rfl) rfl (fun ls hl => ?_)
    have hl : lv_has ls 4 [(3, .ref q9), (0, .ref (b + o1)), (1, .int a2), (2, .ref (b + o3))] := hl
    refine lv_iconst (v := 1) hx hb dd_Law_current_13 kc_ic_1 ?_
    exact W.iret (v := 1) hx hb hr (fun t ht hW => ⟨⟨_, _, rfl, hw, fw_Bof ht hP⟩, hS.F ht⟩) hS.2.2 dd_Law_current_14
  try dsimp only at hw
  refine lv_i2l hx hb dd_Law_current_7 rfl ?_
  obtain ⟨h3, hw⟩ := hw
  refine fw_last hx hb hK hP hS (fw_A.in hq3.1) hq3 (by decide) 1 rfl tka_101 h3 dd_Law_current_8 (fun H locs hP hS => ?_)
  obtain ⟨S4, e_S4⟩ : ∃ z, z = fw_sl S1 o3 ((0 : Int32).toNatClampNeg) r2.toInt64 := ⟨_, rfl⟩
  rw [← e_S4] at hP
  have hw := hw S4 e_S4
  refine lv_goto (tgt := 15) hx hb dd_Law_current_9 (by decide) ?_
  refine lv_iconst (v := 0) hx hb dd_Law_current_15 kc_ic_0 ?_
  exact W.iret (v := 0) hx hb hr (fun t ht hW => ⟨⟨_, _, rfl, hw, fw_Bof ht hP⟩, hS.F ht⟩) hS.2.2 dd_Law_current_16
theorem dd_Law_sum_0 : decode bb_Law_sum 0 = .ok (.aload_n 2, 1) := by decide +kernel
theorem dd_Law_sum_1 : decode bb_Law_sum 1 = .ok (.iconst 0, 1) := by decide +kernel
theorem dd_Law_sum_2 : decode bb_Law_sum 2 = .ok (.aload_n 0, 1) := by decide +kernel
theorem dd_Law_sum_3 : decode bb_Law_sum 3 = .ok (.iload_n 1, 1) := by decide +kernel
theorem dd_Law_sum_4 : decode bb_Law_sum 4 = .ok (.invokevirtual 66, 3) := by decide +kernel
theorem dd_Law_sum_12 : decode bb_Law_sum 12 = .ok (.astore_n 3, 1) := by decide +kernel
theorem dd_Law_sum_13 : decode bb_Law_sum 13 = .ok (.iconst 1, 1) := by decide +kernel
theorem dd_Law_sum_14 : decode bb_Law_sum 14 = .ok (.ireturn, 1) := by decide +kernel
theorem dd_Law_sum_7 : decode bb_Law_sum 7 = .ok (.i2l, 1) := by decide +kernel
theorem dd_Law_sum_8 : decode bb_Law_sum 8 = .ok (.lastore, 1) := by decide +kernel
theorem dd_Law_sum_9 : decode bb_Law_sum 9 = .ok (.goto 6, 3) := by decide +kernel
theorem dd_Law_sum_15 : decode bb_Law_sum 15 = .ok (.iconst 0, 1) := by decide +kernel
theorem dd_Law_sum_16 : decode bb_Law_sum 16 = .ok (.ireturn, 1) := by decide +kernel
def ww_Law_sum : List Cond := .codeWith yy_Law_sum bb_Law_sum 4 (some .int) [(0, 9, 12, 13)] :: TB
def rm_Law_sum : Room := { frames := 8, cells := 1, slots := 6, locals := 147 }
def wp_Law_sum (S : fw_S) (o1 : Nat) (a2 : Int32) (o3 : Nat) (post : fw_S → Int32 → Prop) : Prop := wp_Out_sum S o1 a2 (fun S1 r2 => vp_in 0 1 ∧ (∀ S4 : fw_S, S4 = fw_sl S1 o3 ((0 : Int32).toNatClampNeg) r2.toInt64 → post S4 0)) (fun k9 S9 => (k9 = 1 ∧ (post S9 1)))
set_option maxHeartbeats 4000000 in
set_option maxRecDepth 100000 in
theorem mt_Law_sum (l : Launch) (hl9 : l.stackTraces = false) (D : va_G) (cA : Nat → ClassId) (b : Nat) (S : fw_S) (o1 : Nat) (a2 : Int32) (o3 : Nat) (hq1 : o1 < 245 ∧ layU o1 = (0, 0)) (hq3 : o3 < 245 ∧ layU o3 = (101, 1)) (post : fw_S → Int32 → Prop) (hw : wp_Law_sum S o1 a2 o3 post) : Met l yy_Law_sum ww_Law_sum rm_Law_sum (fw_PcX D CL cA (TYS cA) TK layU b 245 S [.ref (b + o1), .int a2, .ref (b + o3)]) (va_Qi (fun r S' => post S' r) (fw_B D CL cA TK layU b 245) (fw_A b 245)) 1 6 (fw_A b 245) := by
  refine va_MetW (cc := bb_Law_sum) (maxL := 4) (ret := (some .int)) (hh := [(0, 9, 12, 13)]) (by decide) rfl ?_
  intro p e s m args below meth c s₁ B hml hv
  obtain ⟨rfl, hP, hK, hZ⟩ := hv
  have hx := B.exec
  have hb := B.bytes
  have hr := B.returns
  have hts := atoms_spec (ws := ww_Law_sum) B.pre
  have hown : s.vm.findClass "OutletOfficeLaw" = some m.cls := findClass_of_methodNamed B.named
  have hlocks := B.notSynchronized
  have hTb := tx_table B (hts _ List.mem_cons_self)
  have hS : va_S (fw_A b 245) s.heap s.heap [] := va_S.rf
  have hl := lv_entry ([.ref (b + o1), .int a2, .ref (b + o3)]) (n := 4) (Nat.le_of_ble_eq_true rfl)
  rw [lg_entry_eq]
  generalize (lg_sl ([.ref (b + o1), .int a2, .ref (b + o3)]) ++ List.replicate (4 - (lg_sl ([.ref (b + o1), .int a2, .ref (b + o3)])).length) Slot.unset).toArray = ls at hl ⊢
  have hl : lv_has ls 4 [(0, .ref (b + o1)), (1, .int a2), (2, .ref (b + o3))] := hl
  unfold wp_Law_sum at hw
  refine lv_aload_n hx hb dd_Law_sum_0 rfl (lv_at hl 2 rfl) ?_
  refine lv_iconst (v := 0) hx hb dd_Law_sum_1 kc_ic_0 ?_
  refine lv_aload_n hx hb dd_Law_sum_2 rfl (lv_at hl 0 rfl) ?_
  refine lv_iload_n hx hb dd_Law_sum_3 rfl (lv_at hl 1 rfl) ?_
  refine tx_calli (tx_runV (As := [.int a2]) (rest := [.int 0, .ref (b + o3)]) ⟨hx, hb, hml, hown, hts⟩ (mt_Out_sum l hl9 D cA b S o1 a2 hq1 _ _ hw) (cwV 1 hts (fw_gV tw_734 tw_731 tw_732 tw_733 tw_1) rfl rfl rfl (by decide +kernel) ⟨Nat.le_of_ble_eq_true rfl, Nat.le_of_ble_eq_true rfl⟩) (fw_preVX hP hK hZ hS hq1 (by decide) rfl) rfl rfl hl.1 rfl (lv_room (Nat.le_of_ble_eq_true rfl)) dd_Law_sum_4 ⟨Nat.le_of_ble_eq_true rfl, Nat.le_of_ble_eq_true rfl⟩) hS (fun k9 S9 q9 ce9 H locs hw hP hS hce => ?_) (fun S1 r2 H locs hw hP hS => ?_)
  · try dsimp only at hw
    obtain ⟨h9, hw⟩ := hw
    subst h9
    refine tx_catch (k := 1) hown [] ⟨0, 9, 12, 13⟩ [] (by rw [hTb]; rfl) (fun z hz => by cases hz) (by decide) (by decide) (hts _ (tb_in tw_322)) (va_Nw.use rfl hZ.2.2.1.1.1) hce ?_
    refine lv_astore_n hx hb dd_Law_sum_12 rfl hl (Nat.le_of_ble_eq_true rfl) rfl (fun ls hl => ?_)
    have hl : lv_has ls 4 [(3, .ref q9), (0, .ref (b + o1)), (1, .int a2), (2, .ref (b + o3))] := hl
    refine lv_iconst (v := 1) hx hb dd_Law_sum_13 kc_ic_1 ?_
    exact W.iret (v := 1) hx hb hr (fun t ht hW => ⟨⟨_, _, rfl, hw, fw_Bof ht hP⟩, hS.F ht⟩) hS.2.2 dd_Law_sum_14
  try dsimp only at hw
  refine lv_i2l hx hb dd_Law_sum_7 rfl ?_
  obtain ⟨h3, hw⟩ := hw
  refine fw_last hx hb hK hP hS (fw_A.in hq3.1) hq3 (by decide) 1 rfl tka_101 h3 dd_Law_sum_8 (fun H locs hP hS => ?_)
  obtain ⟨S4, e_S4⟩ : ∃ z, z = fw_sl S1 o3 ((0 : Int32).toNatClampNeg) r2.toInt64 := ⟨_, rfl⟩
  rw [← e_S4] at hP
  have hw := hw S4 e_S4
  refine lv_goto (tgt := 15) hx hb dd_Law_sum_9 (by decide) ?_
  refine lv_iconst (v := 0) hx hb dd_Law_sum_15 kc_ic_0 ?_
  exact W.iret (v := 0) hx hb hr (fun t ht hW => ⟨⟨_, _, rfl, hw, fw_Bof ht hP⟩, hS.F ht⟩) hS.2.2 dd_Law_sum_16
theorem dd_Law_meter_0 : decode bb_Law_meter 0 = .ok (.aload_n 2, 1) := by decide +kernel
theorem dd_Law_meter_1 : decode bb_Law_meter 1 = .ok (.iconst 0, 1) := by decide +kernel
theorem dd_Law_meter_2 : decode bb_Law_meter 2 = .ok (.aload_n 0, 1) := by decide +kernel
theorem dd_Law_meter_3 : decode bb_Law_meter 3 = .ok (.iload_n 1, 1) := by decide +kernel
theorem dd_Law_meter_4 : decode bb_Law_meter 4 = .ok (.invokevirtual 69, 3) := by decide +kernel
theorem dd_Law_meter_11 : decode bb_Law_meter 11 = .ok (.astore_n 3, 1) := by decide +kernel
theorem dd_Law_meter_12 : decode bb_Law_meter 12 = .ok (.iconst 1, 1) := by decide +kernel
theorem dd_Law_meter_13 : decode bb_Law_meter 13 = .ok (.ireturn, 1) := by decide +kernel
theorem dd_Law_meter_7 : decode bb_Law_meter 7 = .ok (.lastore, 1) := by decide +kernel
theorem dd_Law_meter_8 : decode bb_Law_meter 8 = .ok (.goto 6, 3) := by decide +kernel
theorem dd_Law_meter_14 : decode bb_Law_meter 14 = .ok (.iconst 0, 1) := by decide +kernel
theorem dd_Law_meter_15 : decode bb_Law_meter 15 = .ok (.ireturn, 1) := by decide +kernel
def ww_Law_meter : List Cond := .codeWith yy_Law_meter bb_Law_meter 4 (some .int) [(0, 8, 11, 13)] :: TB
def rm_Law_meter : Room := { frames := 9, cells := 1, slots := 6, locals := 163 }
def wp_Law_meter (S : fw_S) (o1 : Nat) (a2 : Int32) (o3 : Nat) (post : fw_S → Int32 → Prop) : Prop := wp_Out_meter S o1 a2 (fun S1 r2 => vp_in 0 1 ∧ (∀ S4 : fw_S, S4 = fw_sl S1 o3 ((0 : Int32).toNatClampNeg) r2 → post S4 0)) (fun k9 S9 => (k9 = 1 ∧ (post S9 1)))
set_option maxHeartbeats 4000000 in
set_option maxRecDepth 100000 in
theorem mt_Law_meter (l : Launch) (hl9 : l.stackTraces = false) (D : va_G) (cA : Nat → ClassId) (b : Nat) (S : fw_S) (o1 : Nat) (a2 : Int32) (o3 : Nat) (hq1 : o1 < 245 ∧ layU o1 = (0, 0)) (hq3 : o3 < 245 ∧ layU o3 = (101, 1)) (post : fw_S → Int32 → Prop) (hw : wp_Law_meter S o1 a2 o3 post) : Met l yy_Law_meter ww_Law_meter rm_Law_meter (fw_PcX D CL cA (TYS cA) TK layU b 245 S [.ref (b + o1), .int a2, .ref (b + o3)]) (va_Qi (fun r S' => post S' r) (fw_B D CL cA TK layU b 245) (fw_A b 245)) 1 6 (fw_A b 245) := by
  refine va_MetW (cc := bb_Law_meter) (maxL := 4) (ret := (some .int)) (hh := [(0, 8, 11, 13)]) (by decide) rfl ?_
  intro p e s m args below meth c s₁ B hml hv
  obtain ⟨rfl, hP, hK, hZ⟩ := hv
  have hx := B.exec
  have hb := B.bytes
  have hr := B.returns
  have hts := atoms_spec (ws := ww_Law_meter) B.pre
  have hown : s.vm.findClass "OutletOfficeLaw" = some m.cls := findClass_of_methodNamed B.named
  have hlocks := B.notSynchronized
  have hTb := tx_table B (hts _ List.mem_cons_self)
  have hS : va_S (fw_A b 245) s.heap s.heap [] := va_S.rf
  have hl := lv_entry ([.ref (b + o1), .int a2, .ref (b + o3)]) (n := 4) (Nat.le_of_ble_eq_true rfl)
  rw [lg_entry_eq]
  generalize (lg_sl ([.ref (b + o1), .int a2, .ref (b + o3)]) ++ List.replicate (4 - (lg_sl ([.ref (b + o1), .int a2, .ref (b + o3)])).length) Slot.unset).toArray = ls at hl ⊢
  have hl : lv_has ls 4 [(0, .ref (b + o1)), (1, .int a2), (2, .ref (b + o3))] := hl
  unfold wp_Law_meter at hw
  refine lv_aload_n hx hb dd_Law_meter_0 rfl (lv_at hl 2 rfl) ?_
  refine lv_iconst (v := 0) hx hb dd_Law_meter_1 kc_ic_0 ?_
  refine lv_aload_n hx hb dd_Law_meter_2 rfl (lv_at hl 0 rfl) ?_
  refine lv_iload_n hx hb dd_Law_meter_3 rfl (lv_at hl 1 rfl) ?_
  refine tx_calll (tx_runV (As := [.int a2]) (rest := [.int 0, .ref (b + o3)]) ⟨hx, hb, hml, hown, hts⟩ (mt_Out_meter l hl9 D cA b S o1 a2 hq1 _ _ hw) (cwV 1 hts (fw_gV tw_741 tw_738 tw_739 tw_740 tw_1) rfl rfl rfl (by decide +kernel) ⟨Nat.le_of_ble_eq_true rfl, Nat.le_of_ble_eq_true rfl⟩) (fw_preVX hP hK hZ hS hq1 (by decide) rfl) rfl rfl hl.1 rfl (lv_room (Nat.le_of_ble_eq_true rfl)) dd_Law_meter_4 ⟨Nat.le_of_ble_eq_true rfl, Nat.le_of_ble_eq_true rfl⟩) hS (fun k9 S9 q9 ce9 H locs hw hP hS hce => ?_) (fun S1 r2 H locs hw hP hS => ?_)
  · try dsimp only at hw
    obtain ⟨h9, hw⟩ := hw
    subst h9
    refine tx_catch (k := 1) hown [] ⟨0, 8, 11, 13⟩ [] (by rw [hTb]; rfl) (fun z hz => by cases hz) (by decide) (by decide) (hts _ (tb_in tw_322)) (va_Nw.use rfl hZ.2.2.1.1.1) hce ?_
    refine lv_astore_n hx hb dd_Law_meter_11 rfl hl (Nat.le_of_ble_eq_true rfl) rfl (fun ls hl => ?_)
    have hl : lv_has ls 4 [(3, .ref q9), (0, .ref (b + o1)), (1, .int a2), (2, .ref (b + o3))] := hl
    refine lv_iconst (v := 1) hx hb dd_Law_meter_12 kc_ic_1 ?_
    exact W.iret (v := 1) hx hb hr (fun t ht hW => ⟨⟨_, _, rfl, hw, fw_Bof ht hP⟩, hS.F ht⟩) hS.2.2 dd_Law_meter_13
  try dsimp only at hw
  obtain ⟨h3, hw⟩ := hw
  refine fw_last hx hb hK hP hS (fw_A.in hq3.1) hq3 (by decide) 1 rfl tka_101 h3 dd_Law_meter_7 (fun H locs hP hS => ?_)
  obtain ⟨S4, e_S4⟩ : ∃ z, z = fw_sl S1 o3 ((0 : Int32).toNatClampNeg) r2 := ⟨_, rfl⟩
  rw [← e_S4] at hP
  have hw := hw S4 e_S4
  refine lv_goto (tgt := 14) hx hb dd_Law_meter_8 (by decide) ?_
  refine lv_iconst (v := 0) hx hb dd_Law_meter_14 kc_ic_0 ?_
  exact W.iret (v := 0) hx hb hr (fun t ht hW => ⟨⟨_, _, rfl, hw, fw_Bof ht hP⟩, hS.F ht⟩) hS.2.2 dd_Law_meter_15
theorem dd_Law_about_0 : decode bb_Law_about 0 = .ok (.aload_n 3, 1) := by decide +kernel
theorem dd_Law_about_1 : decode bb_Law_about 1 = .ok (.iconst 0, 1) := by decide +kernel
theorem dd_Law_about_2 : decode bb_Law_about 2 = .ok (.aload_n 0, 1) := by decide +kernel
theorem dd_Law_about_3 : decode bb_Law_about 3 = .ok (.iload_n 1, 1) := by decide +kernel
theorem dd_Law_about_4 : decode bb_Law_about 4 = .ok (.iload_n 2, 1) := by decide +kernel
theorem dd_Law_about_5 : decode bb_Law_about 5 = .ok (.invokevirtual 73, 3) := by decide +kernel
theorem dd_Law_about_13 : decode bb_Law_about 13 = .ok (.astore 4, 2) := by decide +kernel
theorem dd_Law_about_15 : decode bb_Law_about 15 = .ok (.iconst 1, 1) := by decide +kernel
theorem dd_Law_about_16 : decode bb_Law_about 16 = .ok (.ireturn, 1) := by decide +kernel
theorem dd_Law_about_17 : decode bb_Law_about 17 = .ok (.astore 4, 2) := by decide +kernel
theorem dd_Law_about_19 : decode bb_Law_about 19 = .ok (.iconst 2, 1) := by decide +kernel
theorem dd_Law_about_20 : decode bb_Law_about 20 = .ok (.ireturn, 1) := by decide +kernel
theorem dd_Law_about_8 : decode bb_Law_about 8 = .ok (.i2l, 1) := by decide +kernel
theorem dd_Law_about_9 : decode bb_Law_about 9 = .ok (.lastore, 1) := by decide +kernel
theorem dd_Law_about_10 : decode bb_Law_about 10 = .ok (.goto 11, 3) := by decide +kernel
theorem dd_Law_about_21 : decode bb_Law_about 21 = .ok (.iconst 0, 1) := by decide +kernel
theorem dd_Law_about_22 : decode bb_Law_about 22 = .ok (.ireturn, 1) := by decide +kernel
def ww_Law_about : List Cond := .codeWith yy_Law_about bb_Law_about 5 (some .int) [(0, 10, 13, 13), (0, 10, 17, 15)] :: TB
def rm_Law_about : Room := { frames := 9, cells := 2, slots := 12, locals := 165 }
def wp_Law_about (S : fw_S) (o1 : Nat) (a2 : Int32) (a3 : Int32) (o4 : Nat) (post : fw_S → Int32 → Prop) : Prop := wp_Out_about S o1 a2 a3 (fun S1 r2 => vp_in 0 1 ∧ (∀ S4 : fw_S, S4 = fw_sl S1 o4 ((0 : Int32).toNatClampNeg) r2.toInt64 → post S4 0)) (fun k9 S9 => ((k9 = 1 ∧ (post S9 1)) ∨ (k9 = 2 ∧ (post S9 2))))
set_option maxHeartbeats 4000000 in
set_option maxRecDepth 100000 in
theorem mt_Law_about (l : Launch) (hl9 : l.stackTraces = false) (D : va_G) (cA : Nat → ClassId) (b : Nat) (S : fw_S) (o1 : Nat) (a2 : Int32) (a3 : Int32) (o4 : Nat) (hq1 : o1 < 245 ∧ layU o1 = (0, 0)) (hq4 : o4 < 245 ∧ layU o4 = (101, 1)) (post : fw_S → Int32 → Prop) (hw : wp_Law_about S o1 a2 a3 o4 post) : Met l yy_Law_about ww_Law_about rm_Law_about (fw_PcX D CL cA (TYS cA) TK layU b 245 S [.ref (b + o1), .int a2, .int a3, .ref (b + o4)]) (va_Qi (fun r S' => post S' r) (fw_B D CL cA TK layU b 245) (fw_A b 245)) 2 12 (fw_A b 245) := by
  refine va_MetW (cc := bb_Law_about) (maxL := 5) (ret := (some .int)) (hh := [(0, 10, 13, 13), (0, 10, 17, 15)]) (by decide) rfl ?_
  intro p e s m args below meth c s₁ B hml hv
  obtain ⟨rfl, hP, hK, hZ⟩ := hv
  have hx := B.exec
  have hb := B.bytes
  have hr := B.returns
  have hts := atoms_spec (ws := ww_Law_about) B.pre
  have hown : s.vm.findClass "OutletOfficeLaw" = some m.cls := findClass_of_methodNamed B.named
  have hlocks := B.notSynchronized
  have hTb := tx_table B (hts _ List.mem_cons_self)
  have hS : va_S (fw_A b 245) s.heap s.heap [] := va_S.rf
  have hl := lv_entry ([.ref (b + o1), .int a2, .int a3, .ref (b + o4)]) (n := 5) (Nat.le_of_ble_eq_true rfl)
  rw [lg_entry_eq]
  generalize (lg_sl ([.ref (b + o1), .int a2, .int a3, .ref (b + o4)]) ++ List.replicate (5 - (lg_sl ([.ref (b + o1), .int a2, .int a3, .ref (b + o4)])).length) Slot.unset).toArray = ls at hl ⊢
  have hl : lv_has ls 5 [(0, .ref (b + o1)), (1, .int a2), (2, .int a3), (3, .ref (b + o4))] := hl
  unfold wp_Law_about at hw
  refine lv_aload_n hx hb dd_Law_about_0 rfl (lv_at hl 3 rfl) ?_
  refine lv_iconst (v := 0) hx hb dd_Law_about_1 kc_ic_0 ?_
  refine lv_aload_n hx hb dd_Law_about_2 rfl (lv_at hl 0 rfl) ?_
  refine lv_iload_n hx hb dd_Law_about_3 rfl (lv_at hl 1 rfl) ?_
  refine lv_iload_n hx hb dd_Law_about_4 rfl (lv_at hl 2 rfl) ?_
  refine tx_calli (tx_runV (As := [.int a2, .int a3]) (rest := [.int 0, .ref (b + o4)]) ⟨hx, hb, hml, hown, hts⟩ (mt_Out_about l hl9 D cA b S o1 a2 a3 hq1 _ _ hw) (cwV 2 hts (fw_gV tw_748 tw_745 tw_746 tw_747 tw_1) rfl rfl rfl (by decide +kernel) ⟨Nat.le_of_ble_eq_true rfl, Nat.le_of_ble_eq_true rfl⟩) (fw_preVX hP hK hZ hS hq1 (by decide) rfl) rfl rfl hl.1 rfl (lv_room (Nat.le_of_ble_eq_true rfl)) dd_Law_about_5 ⟨Nat.le_of_ble_eq_true rfl, Nat.le_of_ble_eq_true rfl⟩) hS (fun k9 S9 q9 ce9 H locs hw hP hS hce => ?_) (fun S1 r2 H locs hw hP hS => ?_)
  · try dsimp only at hw
    rcases hw with ⟨h9, hw⟩ | ⟨h9, hw⟩
    · subst h9
      refine tx_catch (k := 1) hown [] ⟨0, 10, 13, 13⟩ [⟨0, 10, 17, 15⟩] (by rw [hTb]; rfl) (fun z hz => by cases hz) (by decide) (by decide) (hts _ (tb_in tw_322)) (va_Nw.use rfl hZ.2.2.1.1.1) hce ?_
      refine lv_astore hx hb dd_Law_about_13 hl (Nat.le_of_ble_eq_true rfl) rfl (fun ls hl => ?_)
      have hl : lv_has ls 5 [(4, .ref q9), (0, .ref (b + o1)), (1, .int a2), (2, .int a3), (3, .ref (b + o4))] := hl
      refine lv_iconst (v := 1) hx hb dd_Law_about_15 kc_ic_1 ?_
      exact W.iret (v := 1) hx hb hr (fun t ht hW => ⟨⟨_, _, rfl, hw, fw_Bof ht hP⟩, hS.F ht⟩) hS.2.2 dd_Law_about_16
    · subst h9
      refine tx_catch (k := 2) hown [⟨0, 10, 13, 13⟩] ⟨0, 10, 17, 15⟩ [] (by rw [hTb]; rfl) (fun z hz => by
        rcases List.mem_cons.mp hz with rfl | hz
        · exact ⟨by decide, "java/lang/IndexOutOfBoundsException", hts _ (tb_in tw_322), hZ.2.2.2⟩
        · cases hz) (by decide) (by decide) (hts _ (tb_in tw_323)) (va_Nw.use rfl hZ.2.2.1.1.2) hce ?_
      refine lv_astore hx hb dd_Law_about_17 hl (Nat.le_of_ble_eq_true rfl) rfl (fun ls hl => ?_)
      have hl : lv_has ls 5 [(4, .ref q9), (0, .ref (b + o1)), (1, .int a2), (2, .int a3), (3, .ref (b + o4))] := hl
      refine lv_iconst (v := 2) hx hb dd_Law_about_19 kc_ic_2 ?_
      exact W.iret (v := 2) hx hb hr (fun t ht hW => ⟨⟨_, _, rfl, hw, fw_Bof ht hP⟩, hS.F ht⟩) hS.2.2 dd_Law_about_20
  try dsimp only at hw
  refine lv_i2l hx hb dd_Law_about_8 rfl ?_
  obtain ⟨h3, hw⟩ := hw
  refine fw_last hx hb hK hP hS (fw_A.in hq4.1) hq4 (by decide) 1 rfl tka_101 h3 dd_Law_about_9 (fun H locs hP hS => ?_)
  obtain ⟨S4, e_S4⟩ : ∃ z, z = fw_sl S1 o4 ((0 : Int32).toNatClampNeg) r2.toInt64 := ⟨_, rfl⟩
  rw [← e_S4] at hP
  have hw := hw S4 e_S4
  refine lv_goto (tgt := 21) hx hb dd_Law_about_10 (by decide) ?_
  refine lv_iconst (v := 0) hx hb dd_Law_about_21 kc_ic_0 ?_
  exact W.iret (v := 0) hx hb hr (fun t ht hW => ⟨⟨_, _, rfl, hw, fw_Bof ht hP⟩, hS.F ht⟩) hS.2.2 dd_Law_about_22
theorem dd_Law_open_0 : decode bb_Law_open 0 = .ok (.aload_n 2, 1) := by decide +kernel
theorem dd_Law_open_1 : decode bb_Law_open 1 = .ok (.iconst 0, 1) := by decide +kernel
theorem dd_Law_open_2 : decode bb_Law_open 2 = .ok (.aload_n 0, 1) := by decide +kernel
theorem dd_Law_open_3 : decode bb_Law_open 3 = .ok (.iload_n 1, 1) := by decide +kernel
theorem dd_Law_open_4 : decode bb_Law_open 4 = .ok (.invokevirtual 76, 3) := by decide +kernel
theorem dd_Law_open_11 : decode bb_Law_open 11 = .ok (.astore_n 3, 1) := by decide +kernel
theorem dd_Law_open_12 : decode bb_Law_open 12 = .ok (.iconst 1, 1) := by decide +kernel
theorem dd_Law_open_13 : decode bb_Law_open 13 = .ok (.ireturn, 1) := by decide +kernel
theorem dd_Law_open_7 : decode bb_Law_open 7 = .ok (.lastore, 1) := by decide +kernel
theorem dd_Law_open_8 : decode bb_Law_open 8 = .ok (.goto 6, 3) := by decide +kernel
theorem dd_Law_open_14 : decode bb_Law_open 14 = .ok (.iconst 0, 1) := by decide +kernel
theorem dd_Law_open_15 : decode bb_Law_open 15 = .ok (.ireturn, 1) := by decide +kernel
def ww_Law_open : List Cond := .codeWith yy_Law_open bb_Law_open 4 (some .int) [(0, 8, 11, 13)] :: TB
def rm_Law_open : Room := { frames := 8, cells := 1, slots := 6, locals := 143 }
def wp_Law_open (S : fw_S) (o1 : Nat) (a2 : Int32) (o3 : Nat) (post : fw_S → Int32 → Prop) : Prop := wp_Out_open S o1 a2 (fun S1 r2 => vp_in 0 1 ∧ (∀ S4 : fw_S, S4 = fw_sl S1 o3 ((0 : Int32).toNatClampNeg) r2 → post S4 0)) (fun k9 S9 => (k9 = 1 ∧ (post S9 1)))
set_option maxHeartbeats 4000000 in
set_option maxRecDepth 100000 in
theorem mt_Law_open (l : Launch) (hl9 : l.stackTraces = false) (D : va_G) (cA : Nat → ClassId) (b : Nat) (S : fw_S) (o1 : Nat) (a2 : Int32) (o3 : Nat) (hq1 : o1 < 245 ∧ layU o1 = (0, 0)) (hq3 : o3 < 245 ∧ layU o3 = (101, 1)) (post : fw_S → Int32 → Prop) (hw : wp_Law_open S o1 a2 o3 post) : Met l yy_Law_open ww_Law_open rm_Law_open (fw_PcX D CL cA (TYS cA) TK layU b 245 S [.ref (b + o1), .int a2, .ref (b + o3)]) (va_Qi (fun r S' => post S' r) (fw_B D CL cA TK layU b 245) (fw_A b 245)) 1 6 (fw_A b 245) := by
  refine va_MetW (cc := bb_Law_open) (maxL := 4) (ret := (some .int)) (hh := [(0, 8, 11, 13)]) (by decide) rfl ?_
  intro p e s m args below meth c s₁ B hml hv
  obtain ⟨rfl, hP, hK, hZ⟩ := hv
  have hx := B.exec
  have hb := B.bytes
  have hr := B.returns
  have hts := atoms_spec (ws := ww_Law_open) B.pre
  have hown : s.vm.findClass "OutletOfficeLaw" = some m.cls := findClass_of_methodNamed B.named
  have hlocks := B.notSynchronized
  have hTb := tx_table B (hts _ List.mem_cons_self)
  have hS : va_S (fw_A b 245) s.heap s.heap [] := va_S.rf
  have hl := lv_entry ([.ref (b + o1), .int a2, .ref (b + o3)]) (n := 4) (Nat.le_of_ble_eq_true rfl)
  rw [lg_entry_eq]
  generalize (lg_sl ([.ref (b + o1), .int a2, .ref (b + o3)]) ++ List.replicate (4 - (lg_sl ([.ref (b + o1), .int a2, .ref (b + o3)])).length) Slot.unset).toArray = ls at hl ⊢
  have hl : lv_has ls 4 [(0, .ref (b + o1)), (1, .int a2), (2, .ref (b + o3))] := hl
  unfold wp_Law_open at hw
  refine lv_aload_n hx hb dd_Law_open_0 rfl (lv_at hl 2 rfl) ?_
  refine lv_iconst (v := 0) hx hb dd_Law_open_1 kc_ic_0 ?_
  refine lv_aload_n hx hb dd_Law_open_2 rfl (lv_at hl 0 rfl) ?_
  refine lv_iload_n hx hb dd_Law_open_3 rfl (lv_at hl 1 rfl) ?_
  refine tx_calll (tx_runV (As := [.int a2]) (rest := [.int 0, .ref (b + o3)]) ⟨hx, hb, hml, hown, hts⟩ (mt_Out_open l hl9 D cA b S o1 a2 hq1 _ _ hw) (cwV 1 hts (fw_gV tw_759 tw_756 tw_757 tw_758 tw_1) rfl rfl rfl (by decide +kernel) ⟨Nat.le_of_ble_eq_true rfl, Nat.le_of_ble_eq_true rfl⟩) (fw_preVX hP hK hZ hS hq1 (by decide) rfl) rfl rfl hl.1 rfl (lv_room (Nat.le_of_ble_eq_true rfl)) dd_Law_open_4 ⟨Nat.le_of_ble_eq_true rfl, Nat.le_of_ble_eq_true rfl⟩) hS (fun k9 S9 q9 ce9 H locs hw hP hS hce => ?_) (fun S1 r2 H locs hw hP hS => ?_)
  · try dsimp only at hw
    obtain ⟨h9, hw⟩ := hw
    subst h9
    refine tx_catch (k := 1) hown [] ⟨0, 8, 11, 13⟩ [] (by rw [hTb]; rfl) (fun z hz => by cases hz) (by decide) (by decide) (hts _ (tb_in tw_322)) (va_Nw.use rfl hZ.2.2.1.1.1) hce ?_
    refine lv_astore_n hx hb dd_Law_open_11 rfl hl (Nat.le_of_ble_eq_true rfl) rfl (fun ls hl => ?_)
    have hl : lv_has ls 4 [(3, .ref q9), (0, .ref (b + o1)), (1, .int a2), (2, .ref (b + o3))] := hl
    refine lv_iconst (v := 1) hx hb dd_Law_open_12 kc_ic_1 ?_
    exact W.iret (v := 1) hx hb hr (fun t ht hW => ⟨⟨_, _, rfl, hw, fw_Bof ht hP⟩, hS.F ht⟩) hS.2.2 dd_Law_open_13
  try dsimp only at hw
  obtain ⟨h3, hw⟩ := hw
  refine fw_last hx hb hK hP hS (fw_A.in hq3.1) hq3 (by decide) 1 rfl tka_101 h3 dd_Law_open_7 (fun H locs hP hS => ?_)
  obtain ⟨S4, e_S4⟩ : ∃ z, z = fw_sl S1 o3 ((0 : Int32).toNatClampNeg) r2 := ⟨_, rfl⟩
  rw [← e_S4] at hP
  have hw := hw S4 e_S4
  refine lv_goto (tgt := 14) hx hb dd_Law_open_8 (by decide) ?_
  refine lv_iconst (v := 0) hx hb dd_Law_open_14 kc_ic_0 ?_
  exact W.iret (v := 0) hx hb hr (fun t ht hW => ⟨⟨_, _, rfl, hw, fw_Bof ht hP⟩, hS.F ht⟩) hS.2.2 dd_Law_open_15
theorem dd_Law_bill_0 : decode bb_Law_bill 0 = .ok (.aload_n 3, 1) := by decide +kernel
theorem dd_Law_bill_1 : decode bb_Law_bill 1 = .ok (.iconst 0, 1) := by decide +kernel
theorem dd_Law_bill_2 : decode bb_Law_bill 2 = .ok (.aload_n 0, 1) := by decide +kernel
theorem dd_Law_bill_3 : decode bb_Law_bill 3 = .ok (.iload_n 1, 1) := by decide +kernel
theorem dd_Law_bill_4 : decode bb_Law_bill 4 = .ok (.iload_n 2, 1) := by decide +kernel
theorem dd_Law_bill_5 : decode bb_Law_bill 5 = .ok (.invokevirtual 79, 3) := by decide +kernel
theorem dd_Law_bill_13 : decode bb_Law_bill 13 = .ok (.astore 4, 2) := by decide +kernel
theorem dd_Law_bill_15 : decode bb_Law_bill 15 = .ok (.iconst 1, 1) := by decide +kernel
theorem dd_Law_bill_16 : decode bb_Law_bill 16 = .ok (.ireturn, 1) := by decide +kernel
theorem dd_Law_bill_17 : decode bb_Law_bill 17 = .ok (.astore 4, 2) := by decide +kernel
theorem dd_Law_bill_19 : decode bb_Law_bill 19 = .ok (.iconst 2, 1) := by decide +kernel
theorem dd_Law_bill_20 : decode bb_Law_bill 20 = .ok (.ireturn, 1) := by decide +kernel
theorem dd_Law_bill_8 : decode bb_Law_bill 8 = .ok (.i2l, 1) := by decide +kernel
theorem dd_Law_bill_9 : decode bb_Law_bill 9 = .ok (.lastore, 1) := by decide +kernel
theorem dd_Law_bill_10 : decode bb_Law_bill 10 = .ok (.goto 11, 3) := by decide +kernel
theorem dd_Law_bill_21 : decode bb_Law_bill 21 = .ok (.iconst 0, 1) := by decide +kernel
theorem dd_Law_bill_22 : decode bb_Law_bill 22 = .ok (.ireturn, 1) := by decide +kernel
def ww_Law_bill : List Cond := .codeWith yy_Law_bill bb_Law_bill 5 (some .int) [(0, 10, 13, 13), (0, 10, 17, 15)] :: TB
def rm_Law_bill : Room := { frames := 8, cells := 2, slots := 12, locals := 144 }
def wp_Law_bill (S : fw_S) (o1 : Nat) (a2 : Int32) (a3 : Int32) (o4 : Nat) (post : fw_S → Int32 → Prop) : Prop := wp_Out_bill S o1 a2 a3 (fun S1 r2 => vp_in 0 1 ∧ (∀ S4 : fw_S, S4 = fw_sl S1 o4 ((0 : Int32).toNatClampNeg) r2.toInt64 → post S4 0)) (fun k9 S9 => ((k9 = 1 ∧ (post S9 1)) ∨ (k9 = 2 ∧ (post S9 2))))
set_option maxHeartbeats 4000000 in
set_option maxRecDepth 100000 in
theorem mt_Law_bill (l : Launch) (hl9 : l.stackTraces = false) (D : va_G) (cA : Nat → ClassId) (b : Nat) (S : fw_S) (o1 : Nat) (a2 : Int32) (a3 : Int32) (o4 : Nat) (hq1 : o1 < 245 ∧ layU o1 = (0, 0)) (hq4 : o4 < 245 ∧ layU o4 = (101, 1)) (post : fw_S → Int32 → Prop) (hw : wp_Law_bill S o1 a2 a3 o4 post) : Met l yy_Law_bill ww_Law_bill rm_Law_bill (fw_PcX D CL cA (TYS cA) TK layU b 245 S [.ref (b + o1), .int a2, .int a3, .ref (b + o4)]) (va_Qi (fun r S' => post S' r) (fw_B D CL cA TK layU b 245) (fw_A b 245)) 2 12 (fw_A b 245) := by
  refine va_MetW (cc := bb_Law_bill) (maxL := 5) (ret := (some .int)) (hh := [(0, 10, 13, 13), (0, 10, 17, 15)]) (by decide) rfl ?_
  intro p e s m args below meth c s₁ B hml hv
  obtain ⟨rfl, hP, hK, hZ⟩ := hv
  have hx := B.exec
  have hb := B.bytes
  have hr := B.returns
  have hts := atoms_spec (ws := ww_Law_bill) B.pre
  have hown : s.vm.findClass "OutletOfficeLaw" = some m.cls := findClass_of_methodNamed B.named
  have hlocks := B.notSynchronized
  have hTb := tx_table B (hts _ List.mem_cons_self)
  have hS : va_S (fw_A b 245) s.heap s.heap [] := va_S.rf
  have hl := lv_entry ([.ref (b + o1), .int a2, .int a3, .ref (b + o4)]) (n := 5) (Nat.le_of_ble_eq_true rfl)
  rw [lg_entry_eq]
  generalize (lg_sl ([.ref (b + o1), .int a2, .int a3, .ref (b + o4)]) ++ List.replicate (5 - (lg_sl ([.ref (b + o1), .int a2, .int a3, .ref (b + o4)])).length) Slot.unset).toArray = ls at hl ⊢
  have hl : lv_has ls 5 [(0, .ref (b + o1)), (1, .int a2), (2, .int a3), (3, .ref (b + o4))] := hl
  unfold wp_Law_bill at hw
  refine lv_aload_n hx hb dd_Law_bill_0 rfl (lv_at hl 3 rfl) ?_
  refine lv_iconst (v := 0) hx hb dd_Law_bill_1 kc_ic_0 ?_
  refine lv_aload_n hx hb dd_Law_bill_2 rfl (lv_at hl 0 rfl) ?_
  refine lv_iload_n hx hb dd_Law_bill_3 rfl (lv_at hl 1 rfl) ?_
  refine lv_iload_n hx hb dd_Law_bill_4 rfl (lv_at hl 2 rfl) ?_
  refine tx_calli (tx_runV (As := [.int a2, .int a3]) (rest := [.int 0, .ref (b + o4)]) ⟨hx, hb, hml, hown, hts⟩ (mt_Out_bill l hl9 D cA b S o1 a2 a3 hq1 _ _ hw) (cwV 2 hts (fw_gV tw_767 tw_764 tw_765 tw_766 tw_1) rfl rfl rfl (by decide +kernel) ⟨Nat.le_of_ble_eq_true rfl, Nat.le_of_ble_eq_true rfl⟩) (fw_preVX hP hK hZ hS hq1 (by decide) rfl) rfl rfl hl.1 rfl (lv_room (Nat.le_of_ble_eq_true rfl)) dd_Law_bill_5 ⟨Nat.le_of_ble_eq_true rfl, Nat.le_of_ble_eq_true rfl⟩) hS (fun k9 S9 q9 ce9 H locs hw hP hS hce => ?_) (fun S1 r2 H locs hw hP hS => ?_)
  · try dsimp only at hw
    rcases hw with ⟨h9, hw⟩ | ⟨h9, hw⟩
    · subst h9
      refine tx_catch (k := 1) hown [] ⟨0, 10, 13, 13⟩ [⟨0, 10, 17, 15⟩] (by rw [hTb]; rfl) (fun z hz => by cases hz) (by decide) (by decide) (hts _ (tb_in tw_322)) (va_Nw.use rfl hZ.2.2.1.1.1) hce ?_
      refine lv_astore hx hb dd_Law_bill_13 hl (Nat.le_of_ble_eq_true rfl) rfl (fun ls hl => ?_)
      have hl : lv_has ls 5 [(4, .ref q9), (0, .ref (b + o1)), (1, .int a2), (2, .int a3), (3, .ref (b + o4))] := hl
      refine lv_iconst (v := 1) hx hb dd_Law_bill_15 kc_ic_1 ?_
      exact W.iret (v := 1) hx hb hr (fun t ht hW => ⟨⟨_, _, rfl, hw, fw_Bof ht hP⟩, hS.F ht⟩) hS.2.2 dd_Law_bill_16
    · subst h9
      refine tx_catch (k := 2) hown [⟨0, 10, 13, 13⟩] ⟨0, 10, 17, 15⟩ [] (by rw [hTb]; rfl) (fun z hz => by
        rcases List.mem_cons.mp hz with rfl | hz
        · exact ⟨by decide, "java/lang/IndexOutOfBoundsException", hts _ (tb_in tw_322), hZ.2.2.2⟩
        · cases hz) (by decide) (by decide) (hts _ (tb_in tw_323)) (va_Nw.use rfl hZ.2.2.1.1.2) hce ?_
      refine lv_astore hx hb dd_Law_bill_17 hl (Nat.le_of_ble_eq_true rfl) rfl (fun ls hl => ?_)
      have hl : lv_has ls 5 [(4, .ref q9), (0, .ref (b + o1)), (1, .int a2), (2, .int a3), (3, .ref (b + o4))] := hl
      refine lv_iconst (v := 2) hx hb dd_Law_bill_19 kc_ic_2 ?_
      exact W.iret (v := 2) hx hb hr (fun t ht hW => ⟨⟨_, _, rfl, hw, fw_Bof ht hP⟩, hS.F ht⟩) hS.2.2 dd_Law_bill_20
  try dsimp only at hw
  refine lv_i2l hx hb dd_Law_bill_8 rfl ?_
  obtain ⟨h3, hw⟩ := hw
  refine fw_last hx hb hK hP hS (fw_A.in hq4.1) hq4 (by decide) 1 rfl tka_101 h3 dd_Law_bill_9 (fun H locs hP hS => ?_)
  obtain ⟨S4, e_S4⟩ : ∃ z, z = fw_sl S1 o4 ((0 : Int32).toNatClampNeg) r2.toInt64 := ⟨_, rfl⟩
  rw [← e_S4] at hP
  have hw := hw S4 e_S4
  refine lv_goto (tgt := 21) hx hb dd_Law_bill_10 (by decide) ?_
  refine lv_iconst (v := 0) hx hb dd_Law_bill_21 kc_ic_0 ?_
  exact W.iret (v := 0) hx hb hr (fun t ht hW => ⟨⟨_, _, rfl, hw, fw_Bof ht hP⟩, hS.F ht⟩) hS.2.2 dd_Law_bill_22
theorem dd_Law_total_0 : decode bb_Law_total 0 = .ok (.aload_n 2, 1) := by decide +kernel
theorem dd_Law_total_1 : decode bb_Law_total 1 = .ok (.iconst 0, 1) := by decide +kernel
theorem dd_Law_total_2 : decode bb_Law_total 2 = .ok (.aload_n 0, 1) := by decide +kernel
theorem dd_Law_total_3 : decode bb_Law_total 3 = .ok (.iload_n 1, 1) := by decide +kernel
theorem dd_Law_total_4 : decode bb_Law_total 4 = .ok (.invokevirtual 82, 3) := by decide +kernel
theorem dd_Law_total_11 : decode bb_Law_total 11 = .ok (.astore_n 3, 1) := by decide +kernel
theorem dd_Law_total_12 : decode bb_Law_total 12 = .ok (.iconst 1, 1) := by decide +kernel
theorem dd_Law_total_13 : decode bb_Law_total 13 = .ok (.ireturn, 1) := by decide +kernel
theorem dd_Law_total_7 : decode bb_Law_total 7 = .ok (.lastore, 1) := by decide +kernel
theorem dd_Law_total_8 : decode bb_Law_total 8 = .ok (.goto 6, 3) := by decide +kernel
theorem dd_Law_total_14 : decode bb_Law_total 14 = .ok (.iconst 0, 1) := by decide +kernel
theorem dd_Law_total_15 : decode bb_Law_total 15 = .ok (.ireturn, 1) := by decide +kernel
def ww_Law_total : List Cond := .codeWith yy_Law_total bb_Law_total 4 (some .int) [(0, 8, 11, 13)] :: TB
def rm_Law_total : Room := { frames := 8, cells := 1, slots := 6, locals := 142 }
def wp_Law_total (S : fw_S) (o1 : Nat) (a2 : Int32) (o3 : Nat) (post : fw_S → Int32 → Prop) : Prop := wp_Out_total S o1 a2 (fun S1 r2 => vp_in 0 1 ∧ (∀ S4 : fw_S, S4 = fw_sl S1 o3 ((0 : Int32).toNatClampNeg) r2 → post S4 0)) (fun k9 S9 => (k9 = 1 ∧ (post S9 1)))
set_option maxHeartbeats 4000000 in
set_option maxRecDepth 100000 in
theorem mt_Law_total (l : Launch) (hl9 : l.stackTraces = false) (D : va_G) (cA : Nat → ClassId) (b : Nat) (S : fw_S) (o1 : Nat) (a2 : Int32) (o3 : Nat) (hq1 : o1 < 245 ∧ layU o1 = (0, 0)) (hq3 : o3 < 245 ∧ layU o3 = (101, 1)) (post : fw_S → Int32 → Prop) (hw : wp_Law_total S o1 a2 o3 post) : Met l yy_Law_total ww_Law_total rm_Law_total (fw_PcX D CL cA (TYS cA) TK layU b 245 S [.ref (b + o1), .int a2, .ref (b + o3)]) (va_Qi (fun r S' => post S' r) (fw_B D CL cA TK layU b 245) (fw_A b 245)) 1 6 (fw_A b 245) := by
  refine va_MetW (cc := bb_Law_total) (maxL := 4) (ret := (some .int)) (hh := [(0, 8, 11, 13)]) (by decide) rfl ?_
  intro p e s m args below meth c s₁ B hml hv
  obtain ⟨rfl, hP, hK, hZ⟩ := hv
  have hx := B.exec
  have hb := B.bytes
  have hr := B.returns
  have hts := atoms_spec (ws := ww_Law_total) B.pre
  have hown : s.vm.findClass "OutletOfficeLaw" = some m.cls := findClass_of_methodNamed B.named
  have hlocks := B.notSynchronized
  have hTb := tx_table B (hts _ List.mem_cons_self)
  have hS : va_S (fw_A b 245) s.heap s.heap [] := va_S.rf
  have hl := lv_entry ([.ref (b + o1), .int a2, .ref (b + o3)]) (n := 4) (Nat.le_of_ble_eq_true rfl)
  rw [lg_entry_eq]
  generalize (lg_sl ([.ref (b + o1), .int a2, .ref (b + o3)]) ++ List.replicate (4 - (lg_sl ([.ref (b + o1), .int a2, .ref (b + o3)])).length) Slot.unset).toArray = ls at hl ⊢
  have hl : lv_has ls 4 [(0, .ref (b + o1)), (1, .int a2), (2, .ref (b + o3))] := hl
  unfold wp_Law_total at hw
  refine lv_aload_n hx hb dd_Law_total_0 rfl (lv_at hl 2 rfl) ?_
  refine lv_iconst (v := 0) hx hb dd_Law_total_1 kc_ic_0 ?_
  refine lv_aload_n hx hb dd_Law_total_2 rfl (lv_at hl 0 rfl) ?_
  refine lv_iload_n hx hb dd_Law_total_3 rfl (lv_at hl 1 rfl) ?_
  refine tx_calll (tx_runV (As := [.int a2]) (rest := [.int 0, .ref (b + o3)]) ⟨hx, hb, hml, hown, hts⟩ (mt_Out_total l hl9 D cA b S o1 a2 hq1 _ _ hw) (cwV 1 hts (fw_gV tw_774 tw_771 tw_772 tw_773 tw_1) rfl rfl rfl (by decide +kernel) ⟨Nat.le_of_ble_eq_true rfl, Nat.le_of_ble_eq_true rfl⟩) (fw_preVX hP hK hZ hS hq1 (by decide) rfl) rfl rfl hl.1 rfl (lv_room (Nat.le_of_ble_eq_true rfl)) dd_Law_total_4 ⟨Nat.le_of_ble_eq_true rfl, Nat.le_of_ble_eq_true rfl⟩) hS (fun k9 S9 q9 ce9 H locs hw hP hS hce => ?_) (fun S1 r2 H locs hw hP hS => ?_)
  · try dsimp only at hw
    obtain ⟨h9, hw⟩ := hw
    subst h9
    refine tx_catch (k := 1) hown [] ⟨0, 8, 11, 13⟩ [] (by rw [hTb]; rfl) (fun z hz => by cases hz) (by decide) (by decide) (hts _ (tb_in tw_322)) (va_Nw.use rfl hZ.2.2.1.1.1) hce ?_
    refine lv_astore_n hx hb dd_Law_total_11 rfl hl (Nat.le_of_ble_eq_true rfl) rfl (fun ls hl => ?_)
    have hl : lv_has ls 4 [(3, .ref q9), (0, .ref (b + o1)), (1, .int a2), (2, .ref (b + o3))] := hl
    refine lv_iconst (v := 1) hx hb dd_Law_total_12 kc_ic_1 ?_
    exact W.iret (v := 1) hx hb hr (fun t ht hW => ⟨⟨_, _, rfl, hw, fw_Bof ht hP⟩, hS.F ht⟩) hS.2.2 dd_Law_total_13
  try dsimp only at hw
  obtain ⟨h3, hw⟩ := hw
  refine fw_last hx hb hK hP hS (fw_A.in hq3.1) hq3 (by decide) 1 rfl tka_101 h3 dd_Law_total_7 (fun H locs hP hS => ?_)
  obtain ⟨S4, e_S4⟩ : ∃ z, z = fw_sl S1 o3 ((0 : Int32).toNatClampNeg) r2 := ⟨_, rfl⟩
  rw [← e_S4] at hP
  have hw := hw S4 e_S4
  refine lv_goto (tgt := 14) hx hb dd_Law_total_8 (by decide) ?_
  refine lv_iconst (v := 0) hx hb dd_Law_total_14 kc_ic_0 ?_
  exact W.iret (v := 0) hx hb hr (fun t ht hW => ⟨⟨_, _, rfl, hw, fw_Bof ht hP⟩, hS.F ht⟩) hS.2.2 dd_Law_total_15
