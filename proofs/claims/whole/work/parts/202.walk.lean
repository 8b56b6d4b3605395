theorem dd_Out_open_33 : decode bb_Out_open 33 = .ok (.lreturn, 1) := by decide +kernel
theorem dd_Out_open_0 : decode bb_Out_open 0 = .ok (.iload_n 1, 1) := by decide +kernel
theorem dd_Out_open_1 : decode bb_Out_open 1 = .ok (.bipush 6, 2) := by decide +kernel
theorem dd_Out_open_3 : decode bb_Out_open 3 = .ok (.invokestatic 27, 3) := by decide +kernel
theorem dd_Out_open_6 : decode bb_Out_open 6 = .ok (.aload_n 0, 1) := by decide +kernel
theorem dd_Out_open_7 : decode bb_Out_open 7 = .ok (.getfield 18, 3) := by decide +kernel
theorem dd_Out_open_10 : decode bb_Out_open 10 = .ok (.getfield 195, 3) := by decide +kernel
theorem dd_Out_open_13 : decode bb_Out_open 13 = .ok (.iload_n 1, 1) := by decide +kernel
theorem dd_Out_open_14 : decode bb_Out_open 14 = .ok (.aaload, 1) := by decide +kernel
theorem dd_Out_open_15 : decode bb_Out_open 15 = .ok (.astore_n 2, 1) := by decide +kernel
theorem dd_Out_open_16 : decode bb_Out_open 16 = .ok (.aload_n 2, 1) := by decide +kernel
theorem dd_Out_open_17 : decode bb_Out_open 17 = .ok (.getfield 199, 3) := by decide +kernel
theorem dd_Out_open_20 : decode bb_Out_open 20 = .ok (.ifCond .eq 10, 3) := by decide +kernel
theorem dd_Out_open_30 : decode bb_Out_open 30 = .ok (.ldc2_w 207, 3) := by decide +kernel
theorem dd_Out_open_23 : decode bb_Out_open 23 = .ok (.aload_n 2, 1) := by decide +kernel
theorem dd_Out_open_24 : decode bb_Out_open 24 = .ok (.getfield 204, 3) := by decide +kernel
theorem dd_Out_open_27 : decode bb_Out_open 27 = .ok (.goto 6, 3) := by decide +kernel
def ww_Out_open : List Cond := .code yy_Out_open bb_Out_open 3 (some .long) :: TB
def rm_Out_open : Room := { frames := 7, cells := 1, slots := 6, locals := 121 }
def wp_Out_open_33 (o : Nat) (a1 : Int32) (post : fw_S → Int64 → Prop) (px : Nat → fw_S → Prop) (S : fw_S) (u2 : Nat) (pl0 : Int64) : Prop := post S pl0
def wp_Out_open (S : fw_S) (o : Nat) (a1 : Int32) (post : fw_S → Int64 → Prop) (px : Nat → fw_S → Prop) : Prop := wp_Out_checkIndex S a1 6 (fun S1 => vp_in a1 6 ∧ (((((S1.1 (((o + 2) + 7) + (4 + 1 * a1.toNatClampNeg)) 0) = 0) → wp_Out_open_33 o a1 post px S1 (((o + 2) + 7) + (4 + 1 * a1.toNatClampNeg)) (-1)) ∧ (¬ ((S1.1 (((o + 2) + 7) + (4 + 1 * a1.toNatClampNeg)) 0) = 0) → wp_Out_open_33 o a1 post px S1 (((o + 2) + 7) + (4 + 1 * a1.toNatClampNeg)) (S1.2 (((o + 2) + 7) + (4 + 1 * a1.toNatClampNeg)) 3))))) px
set_option maxHeartbeats 4000000 in
set_option maxRecDepth 100000 in
theorem mt_Out_open (l : Launch) (hl9 : l.stackTraces = false) (D : va_G) (cA : Nat → ClassId) (b : Nat) (S : fw_S) (o : Nat) (a1 : Int32) (ho : o < 245 ∧ layU o = (0, 0)) (post : fw_S → Int64 → Prop) (px : Nat → fw_S → Prop) (hw : wp_Out_open S o a1 post px) : tx_Met l yy_Out_open ww_Out_open rm_Out_open (fw_PcX D CL cA (TYS cA) TK layU b 245 S [.ref (b + o), .int a1]) (va_Ql (fun r S' => post S' r) (fw_B D CL cA TK layU b 245) (fw_A b 245)) (fw_X D CL cA TK layU b 245 px) 1 6 (fw_A b 245) := by
  refine tx_ofW (cc := bb_Out_open) (maxL := 3) (ret := (some .long)) (by decide) rfl ?_
  intro p e s m args below meth c s₁ B hml hTab hv
  obtain ⟨rfl, hP, hK, hZ⟩ := hv
  have hx := B.exec
  have hb := B.bytes
  have hr := B.returns
  have hts := atoms_spec (ws := ww_Out_open) B.pre
  have hown : s.vm.findClass "OutletOffice" = some m.cls := findClass_of_methodNamed B.named
  have hlocks := B.notSynchronized
  have hS : va_S (fw_A b 245) s.heap s.heap [] := va_S.rf
  have hl := lv_entry ([.ref (b + o), .int a1]) (n := 3) (Nat.le_of_ble_eq_true rfl)
  rw [lg_entry_eq]
  generalize (lg_sl ([.ref (b + o), .int a1]) ++ List.replicate (3 - (lg_sl ([.ref (b + o), .int a1])).length) Slot.unset).toArray = ls at hl ⊢
  have hl : lv_has ls 3 [(0, .ref (b + o)), (1, .int a1)] := hl
  have B33 : ∀ (S : fw_S) (u2 : Nat) (pl0 : Int64) (hu2 : u2 < 245 ∧ layU u2 = (8, 0)) (H : Heap) (locs : List Loc) (ls : Array Slot), wp_Out_open_33 o a1 post px S u2 pl0 → fw_P D CL cA layU b 245 (fw_v TK layU b S) H → va_S (fw_A b 245) s.heap H locs → lv_has ls 3 [(0, .ref (b + o)), (1, .int a1), (2, .ref (b + u2))] → W p l e (headSpec ww_Out_open rm_Out_open).room s m ([.ref (b + o), .int a1] : List Value).toArray below meth c H locs 1 6 (tx_MQ below (va_Ql (fun r S' => post S' r) (fw_B D CL cA TK layU b 245) (fw_A b 245)) (fw_X D CL cA TK layU b 245 px) ([.ref (b + o), .int a1] : List Value).toArray s 1 6 (fw_A b 245)) (F0 m 33 ls [.long pl0]) := by
      intro S u2 pl0 hu2 H locs ls hw hP hS hl
      unfold wp_Out_open_33 at hw
      refine tx_ret ?_
      exact W.lret (v := pl0) hx hb hr (fun t ht hW => ⟨⟨_, _, rfl, hw, fw_Bof ht hP⟩, hS.F ht⟩) hS.2.2 dd_Out_open_33
  unfold wp_Out_open at hw
  refine lv_iload_n hx hb dd_Out_open_0 rfl (lv_at hl 1 rfl) ?_
  refine lv_bipush (v := 6) hx hb dd_Out_open_1 kc_bp_6 ?_
  refine tx_callv (tx_runS (As := [.int a1, .int 6]) (rest := []) ⟨hx, hb, hml, hown, hts⟩ (mt_Out_checkIndex l hl9 D cA b S a1 6 _ _ hw) (cwS 2 hts (fw_gS tw_330 tw_328 tw_329 tw_1) rfl rfl rfl (by decide +kernel) ⟨Nat.le_of_ble_eq_true rfl, Nat.le_of_ble_eq_true rfl⟩) (fw_preSX hP hK hZ hS) rfl rfl hl.1 rfl (lv_room (Nat.le_of_ble_eq_true rfl)) dd_Out_open_3 ⟨Nat.le_of_ble_eq_true rfl, Nat.le_of_ble_eq_true rfl⟩) hS (fun k9 S9 q9 ce9 H locs hw hP hS hce => tx_outF hTab hlocks hw hP hS hce (Nat.le_of_ble_eq_true rfl) (Nat.le_of_ble_eq_true rfl)) (fun S1 H locs hw hP hS => ?_)
  try dsimp only at hw
  refine lv_aload_n hx hb dd_Out_open_6 rfl (lv_at hl 0 rfl) ?_
  refine fw_getr hx hb hts in_0 hown hK hP ho (by decide) rfl 1 (by decide) (hts _ (tb_in tw_302)) tk_0_1 dd_Out_open_7 ?_
  refine fw_getr hx hb hts in_9 hown hK hP (lf_0_1 ho) (by decide) rfl 2 (by decide) (hts _ (tb_in tw_116)) tk_9_2 dd_Out_open_10 ?_
  refine lv_iload_n hx hb dd_Out_open_13 rfl (lv_at hl 1 rfl) ?_
  obtain ⟨h2, hw⟩ := hw
  refine fw_aald hx hb hK hP (lf_9_2 (lf_0_1 ho)) (by decide) 6 rfl (tka_106 _) h2 dd_Out_open_14 ?_
  refine lv_astore_n hx hb dd_Out_open_15 rfl hl (Nat.le_of_ble_eq_true rfl) rfl (fun ls hl => ?_)
  have hl : lv_has ls 3 [(2, .ref (b + (((o + 2) + 7) + (4 + 1 * a1.toNatClampNeg)))), (0, .ref (b + o)), (1, .int a1)] := hl
  refine lv_aload_n hx hb dd_Out_open_16 rfl (lv_at hl 0 rfl) ?_
  refine fw_geti hx hb hts in_8 hown hK hP (le_106 (lf_9_2 (lf_0_1 ho)) (fw_lt h2)) (by decide) rfl 0 (by decide) (hts _ (tb_in tw_81)) tk_8_0 dd_Out_open_17 ?_
  refine lv_if_eq (tgt := 30) hx hb dd_Out_open_20 (by decide) (fun h3 => ?_) (fun h3 => ?_)
  · have hw := hw.1 h3
    refine lv_ldc2 (v := (-1)) hx hb hown (hts _ (tb_in tw_760)) dd_Out_open_30 ?_
    exact B33 S1 (((o + 2) + 7) + (4 + 1 * a1.toNatClampNeg)) (-1) (le_106 (lf_9_2 (lf_0_1 ho)) (fw_lt h2)) _ _ ls hw hP hS (lv_sub hl [1, 2, 0] rfl)
  · have hw := hw.2 h3
    refine lv_aload_n hx hb dd_Out_open_23 rfl (lv_at hl 0 rfl) ?_
    refine fw_getl hx hb hts in_8 hown hK hP (le_106 (lf_9_2 (lf_0_1 ho)) (fw_lt h2)) (by decide) rfl 3 (by decide) (hts _ (tb_in tw_88)) tk_8_3 dd_Out_open_24 ?_
    refine lv_goto (tgt := 33) hx hb dd_Out_open_27 (by decide) ?_
    exact B33 S1 (((o + 2) + 7) + (4 + 1 * a1.toNatClampNeg)) (S1.2 (((o + 2) + 7) + (4 + 1 * a1.toNatClampNeg)) 3) (le_106 (lf_9_2 (lf_0_1 ho)) (fw_lt h2)) _ _ ls hw hP hS (lv_sub hl [1, 2, 0] rfl)
theorem dd_Out_bill_0 : decode bb_Out_bill 0 = .ok (.iload_n 1, 1) := by decide +kernel
theorem dd_Out_bill_1 : decode bb_Out_bill 1 = .ok (.aload_n 0, 1) := by decide +kernel
theorem dd_Out_bill_2 : decode bb_Out_bill 2 = .ok (.getfield 18, 3) := by decide +kernel
theorem dd_Out_bill_5 : decode bb_Out_bill 5 = .ok (.getfield 209, 3) := by decide +kernel
theorem dd_Out_bill_8 : decode bb_Out_bill 8 = .ok (.sipush 128, 3) := by decide +kernel
theorem dd_Out_bill_11 : decode bb_Out_bill 11 = .ok (.invokestatic 212, 3) := by decide +kernel
theorem dd_Out_bill_14 : decode bb_Out_bill 14 = .ok (.invokestatic 27, 3) := by decide +kernel
theorem dd_Out_bill_17 : decode bb_Out_bill 17 = .ok (.iload_n 2, 1) := by decide +kernel
theorem dd_Out_bill_18 : decode bb_Out_bill 18 = .ok (.iconst 0, 1) := by decide +kernel
theorem dd_Out_bill_19 : decode bb_Out_bill 19 = .ok (.iconst 4, 1) := by decide +kernel
theorem dd_Out_bill_20 : decode bb_Out_bill 20 = .ok (.invokestatic 31, 3) := by decide +kernel
theorem dd_Out_bill_23 : decode bb_Out_bill 23 = .ok (.aload_n 0, 1) := by decide +kernel
theorem dd_Out_bill_24 : decode bb_Out_bill 24 = .ok (.getfield 18, 3) := by decide +kernel
theorem dd_Out_bill_27 : decode bb_Out_bill 27 = .ok (.getfield 218, 3) := by decide +kernel
theorem dd_Out_bill_30 : decode bb_Out_bill 30 = .ok (.iload_n 1, 1) := by decide +kernel
theorem dd_Out_bill_31 : decode bb_Out_bill 31 = .ok (.iconst 5, 1) := by decide +kernel
theorem dd_Out_bill_32 : decode bb_Out_bill 32 = .ok (.imul, 1) := by decide +kernel
theorem dd_Out_bill_33 : decode bb_Out_bill 33 = .ok (.iload_n 2, 1) := by decide +kernel
theorem dd_Out_bill_34 : decode bb_Out_bill 34 = .ok (.iadd, 1) := by decide +kernel
theorem dd_Out_bill_35 : decode bb_Out_bill 35 = .ok (.iaload, 1) := by decide +kernel
theorem dd_Out_bill_36 : decode bb_Out_bill 36 = .ok (.ireturn, 1) := by decide +kernel
def ww_Out_bill : List Cond := .code yy_Out_bill bb_Out_bill 3 (some .int) :: TB
def rm_Out_bill : Room := { frames := 7, cells := 2, slots := 12, locals := 122 }
def wp_Out_bill (S : fw_S) (o : Nat) (a1 : Int32) (a2 : Int32) (post : fw_S → Int32 → Prop) (px : Nat → fw_S → Prop) : Prop := wp_Out_checkIndex S a1 (if 128 < (S.1 (o + 2) 5) then 128 else S.1 (o + 2) 5) (fun S1 => wp_Out_checkNumber S1 a2 0 4 (fun S2 => vp_in ((a1 * 5) + a2) 640 ∧ (post S2 (S2.1 ((o + 2) + 8) (((a1 * 5) + a2 : Int32).toNatClampNeg)))) px) px
set_option maxHeartbeats 4000000 in
set_option maxRecDepth 100000 in
theorem mt_Out_bill (l : Launch) (hl9 : l.stackTraces = false) (D : va_G) (cA : Nat → ClassId) (b : Nat) (S : fw_S) (o : Nat) (a1 : Int32) (a2 : Int32) (ho : o < 245 ∧ layU o = (0, 0)) (post : fw_S → Int32 → Prop) (px : Nat → fw_S → Prop) (hw : wp_Out_bill S o a1 a2 post px) : tx_Met l yy_Out_bill ww_Out_bill rm_Out_bill (fw_PcX D CL cA (TYS cA) TK layU b 245 S [.ref (b + o), .int a1, .int a2]) (va_Qi (fun r S' => post S' r) (fw_B D CL cA TK layU b 245) (fw_A b 245)) (fw_X D CL cA TK layU b 245 px) 2 12 (fw_A b 245) := by
  refine tx_ofW (cc := bb_Out_bill) (maxL := 3) (ret := (some .int)) (by decide) rfl ?_
  intro p e s m args below meth c s₁ B hml hTab hv
  obtain ⟨rfl, hP, hK, hZ⟩ := hv
  have hx := B.exec
  have hb := B.bytes
  have hr := B.returns
  have hts := atoms_spec (ws := ww_Out_bill) B.pre
  have hown : s.vm.findClass "OutletOffice" = some m.cls := findClass_of_methodNamed B.named
  have hlocks := B.notSynchronized
  have hS : va_S (fw_A b 245) s.heap s.heap [] := va_S.rf
  have hl := lv_entry ([.ref (b + o), .int a1, .int a2]) (n := 3) (Nat.le_of_ble_eq_true rfl)
  rw [lg_entry_eq]
  generalize (lg_sl ([.ref (b + o), .int a1, .int a2]) ++ List.replicate (3 - (lg_sl ([.ref (b + o), .int a1, .int a2])).length) Slot.unset).toArray = ls at hl ⊢
  have hl : lv_has ls 3 [(0, .ref (b + o)), (1, .int a1), (2, .int a2)] := hl
  unfold wp_Out_bill at hw
  refine lv_iload_n hx hb dd_Out_bill_0 rfl (lv_at hl 1 rfl) ?_
  refine lv_aload_n hx hb dd_Out_bill_1 rfl (lv_at hl 0 rfl) ?_
  refine fw_getr hx hb hts in_0 hown hK hP ho (by decide) rfl 1 (by decide) (hts _ (tb_in tw_302)) tk_0_1 dd_Out_bill_2 ?_
  refine fw_geti hx hb hts in_9 hown hK hP (lf_0_1 ho) (by decide) rfl 5 (by decide) (hts _ (tb_in tw_122)) tk_9_5 dd_Out_bill_5 ?_
  refine lv_sipush (v := 128) hx hb dd_Out_bill_8 kc_sp_128 ?_
  refine va_mmin hx hb (hml.trans hl.1.symm) hown (hts _ (tb_in tw_700)) (hts _ (tb_in tw_658)) (hts _ (tb_in tw_18)) (hts _ (tb_in tw_659)) (Nat.le_of_ble_eq_true rfl) (Nat.le_of_ble_eq_true rfl) (Nat.le_of_ble_eq_true rfl) (Nat.le_of_ble_eq_true rfl) dd_Out_bill_11 ?_
  refine tx_callv (tx_runS (As := [.int a1, .int (if 128 < (S.1 (o + 2) 5) then 128 else S.1 (o + 2) 5)]) (rest := []) ⟨hx, hb, hml, hown, hts⟩ (mt_Out_checkIndex l hl9 D cA b S a1 (if 128 < (S.1 (o + 2) 5) then 128 else S.1 (o + 2) 5) _ _ hw) (cwS 2 hts (fw_gS tw_330 tw_328 tw_329 tw_1) rfl rfl rfl (by decide +kernel) ⟨Nat.le_of_ble_eq_true rfl, Nat.le_of_ble_eq_true rfl⟩) (fw_preSX hP hK hZ hS) rfl rfl hl.1 rfl (lv_room (Nat.le_of_ble_eq_true rfl)) dd_Out_bill_14 ⟨Nat.le_of_ble_eq_true rfl, Nat.le_of_ble_eq_true rfl⟩) hS (fun k9 S9 q9 ce9 H locs hw hP hS hce => tx_outF hTab hlocks hw hP hS hce (Nat.le_of_ble_eq_true rfl) (Nat.le_of_ble_eq_true rfl)) (fun S1 H locs hw hP hS => ?_)
  try dsimp only at hw
  refine lv_iload_n hx hb dd_Out_bill_17 rfl (lv_at hl 2 rfl) ?_
  refine lv_iconst (v := 0) hx hb dd_Out_bill_18 kc_ic_0 ?_
  refine lv_iconst (v := 4) hx hb dd_Out_bill_19 kc_ic_4 ?_
  refine tx_callv (tx_runS (As := [.int a2, .int 0, .int 4]) (rest := []) ⟨hx, hb, hml, hown, hts⟩ (mt_Out_checkNumber l hl9 D cA b S1 a2 0 4 _ _ hw) (cwS 3 hts (fw_gS tw_400 tw_398 tw_399 tw_1) rfl rfl rfl (by decide +kernel) ⟨Nat.le_of_ble_eq_true rfl, Nat.le_of_ble_eq_true rfl⟩) (fw_preSX hP hK hZ hS) rfl rfl hl.1 rfl (lv_room (Nat.le_of_ble_eq_true rfl)) dd_Out_bill_20 ⟨Nat.le_of_ble_eq_true rfl, Nat.le_of_ble_eq_true rfl⟩) hS (fun k9 S9 q9 ce9 H locs hw hP hS hce => tx_outF hTab hlocks hw hP hS hce (Nat.le_of_ble_eq_true rfl) (Nat.le_of_ble_eq_true rfl)) (fun S2 H locs hw hP hS => ?_)
  try dsimp only at hw
  refine lv_aload_n hx hb dd_Out_bill_23 rfl (lv_at hl 0 rfl) ?_
  refine fw_getr hx hb hts in_0 hown hK hP ho (by decide) rfl 1 (by decide) (hts _ (tb_in tw_302)) tk_0_1 dd_Out_bill_24 ?_
  refine fw_getr hx hb hts in_9 hown hK hP (lf_0_1 ho) (by decide) rfl 3 (by decide) (hts _ (tb_in tw_118)) tk_9_3 dd_Out_bill_27 ?_
  refine lv_iload_n hx hb dd_Out_bill_30 rfl (lv_at hl 1 rfl) ?_
  refine lv_iconst (v := 5) hx hb dd_Out_bill_31 kc_ic_5 ?_
  refine lv_imul hx hb dd_Out_bill_32 ?_
  refine lv_iload_n hx hb dd_Out_bill_33 rfl (lv_at hl 2 rfl) ?_
  refine lv_iadd hx hb dd_Out_bill_34 ?_
  obtain ⟨h3, hw⟩ := hw
  refine fw_iald hx hb hK hP (lf_9_3 (lf_0_1 ho)) (by decide) 0 rfl tka_100 h3 dd_Out_bill_35 ?_
  refine tx_ret ?_
  exact W.iret (v := S2.1 ((o + 2) + 8) (((a1 * 5) + a2 : Int32).toNatClampNeg)) hx hb hr (fun t ht hW => ⟨⟨_, _, rfl, hw, fw_Bof ht hP⟩, hS.F ht⟩) hS.2.2 dd_Out_bill_36
theorem dd_Out_total_0 : decode bb_Out_total 0 = .ok (.iload_n 1, 1) := by decide +kernel
theorem dd_Out_total_1 : decode bb_Out_total 1 = .ok (.bipush 16, 2) := by decide +kernel
theorem dd_Out_total_3 : decode bb_Out_total 3 = .ok (.invokestatic 27, 3) := by decide +kernel
theorem dd_Out_total_6 : decode bb_Out_total 6 = .ok (.aload_n 0, 1) := by decide +kernel
theorem dd_Out_total_7 : decode bb_Out_total 7 = .ok (.getfield 18, 3) := by decide +kernel
theorem dd_Out_total_10 : decode bb_Out_total 10 = .ok (.getfield 222, 3) := by decide +kernel
theorem dd_Out_total_13 : decode bb_Out_total 13 = .ok (.iload_n 1, 1) := by decide +kernel
theorem dd_Out_total_14 : decode bb_Out_total 14 = .ok (.laload, 1) := by decide +kernel
theorem dd_Out_total_15 : decode bb_Out_total 15 = .ok (.lreturn, 1) := by decide +kernel
def ww_Out_total : List Cond := .code yy_Out_total bb_Out_total 2 (some .long) :: TB
def rm_Out_total : Room := { frames := 7, cells := 1, slots := 6, locals := 121 }
def wp_Out_total (S : fw_S) (o : Nat) (a1 : Int32) (post : fw_S → Int64 → Prop) (px : Nat → fw_S → Prop) : Prop := wp_Out_checkIndex S a1 16 (fun S1 => vp_in a1 16 ∧ (post S1 (S1.2 ((o + 2) + 9) a1.toNatClampNeg))) px
set_option maxHeartbeats 4000000 in
set_option maxRecDepth 100000 in
theorem mt_Out_total (l : Launch) (hl9 : l.stackTraces = false) (D : va_G) (cA : Nat → ClassId) (b : Nat) (S : fw_S) (o : Nat) (a1 : Int32) (ho : o < 245 ∧ layU o = (0, 0)) (post : fw_S → Int64 → Prop) (px : Nat → fw_S → Prop) (hw : wp_Out_total S o a1 post px) : tx_Met l yy_Out_total ww_Out_total rm_Out_total (fw_PcX D CL cA (TYS cA) TK layU b 245 S [.ref (b + o), .int a1]) (va_Ql (fun r S' => post S' r) (fw_B D CL cA TK layU b 245) (fw_A b 245)) (fw_X D CL cA TK layU b 245 px) 1 6 (fw_A b 245) := by
  refine tx_ofW (cc := bb_Out_total) (maxL := 2) (ret := (some .long)) (by decide) rfl ?_
  intro p e s m args below meth c s₁ B hml hTab hv
  obtain ⟨rfl, hP, hK, hZ⟩ := hv
  have hx := B.exec
  have hb := B.bytes
  have hr := B.returns
  have hts := atoms_spec (ws := ww_Out_total) B.pre
  have hown : s.vm.findClass "OutletOffice" = some m.cls := findClass_of_methodNamed B.named
  have hlocks := B.notSynchronized
  have hS : va_S (fw_A b 245) s.heap s.heap [] := va_S.rf
  have hl := lv_entry ([.ref (b + o), .int a1]) (n := 2) (Nat.le_of_ble_eq_true rfl)
  rw [lg_entry_eq]
  generalize (lg_sl ([.ref (b + o), .int a1]) ++ List.replicate (2 - (lg_sl ([.ref (b + o), .int a1])).length) Slot.unset).toArray = ls at hl ⊢
  have hl : lv_has ls 2 [(0, .ref (b + o)), (1, .int a1)] := hl
  unfold wp_Out_total at hw
  refine lv_iload_n hx hb dd_Out_total_0 rfl (lv_at hl 1 rfl) ?_
  refine lv_bipush (v := 16) hx hb dd_Out_total_1 kc_bp_16 ?_
  refine tx_callv (tx_runS (As := [.int a1, .int 16]) (rest := []) ⟨hx, hb, hml, hown, hts⟩ (mt_Out_checkIndex l hl9 D cA b S a1 16 _ _ hw) (cwS 2 hts (fw_gS tw_330 tw_328 tw_329 tw_1) rfl rfl rfl (by decide +kernel) ⟨Nat.le_of_ble_eq_true rfl, Nat.le_of_ble_eq_true rfl⟩) (fw_preSX hP hK hZ hS) rfl rfl hl.1 rfl (lv_room (Nat.le_of_ble_eq_true rfl)) dd_Out_total_3 ⟨Nat.le_of_ble_eq_true rfl, Nat.le_of_ble_eq_true rfl⟩) hS (fun k9 S9 q9 ce9 H locs hw hP hS hce => tx_outF hTab hlocks hw hP hS hce (Nat.le_of_ble_eq_true rfl) (Nat.le_of_ble_eq_true rfl)) (fun S1 H locs hw hP hS => ?_)
  try dsimp only at hw
  refine lv_aload_n hx hb dd_Out_total_6 rfl (lv_at hl 0 rfl) ?_
  refine fw_getr hx hb hts in_0 hown hK hP ho (by decide) rfl 1 (by decide) (hts _ (tb_in tw_302)) tk_0_1 dd_Out_total_7 ?_
  refine fw_getr hx hb hts in_9 hown hK hP (lf_0_1 ho) (by decide) rfl 4 (by decide) (hts _ (tb_in tw_120)) tk_9_4 dd_Out_total_10 ?_
  refine lv_iload_n hx hb dd_Out_total_13 rfl (lv_at hl 1 rfl) ?_
  obtain ⟨h2, hw⟩ := hw
  refine fw_lald hx hb hK hP (lf_9_4 (lf_0_1 ho)) (by decide) 1 rfl tka_101 h2 dd_Out_total_14 ?_
  refine tx_ret ?_
  exact W.lret (v := S1.2 ((o + 2) + 9) a1.toNatClampNeg) hx hb hr (fun t ht hW => ⟨⟨_, _, rfl, hw, fw_Bof ht hP⟩, hS.F ht⟩) hS.2.2 dd_Out_total_15
theorem dd_Law_limit_0 : decode bb_Law_limit 0 = .ok (.aload_n 0, 1) := by decide +kernel
theorem dd_Law_limit_1 : decode bb_Law_limit 1 = .ok (.iload_n 1, 1) := by decide +kernel
theorem dd_Law_limit_2 : decode bb_Law_limit 2 = .ok (.iload_n 2, 1) := by decide +kernel
theorem dd_Law_limit_3 : decode bb_Law_limit 3 = .ok (.invokevirtual 7, 3) := by decide +kernel
theorem dd_Law_limit_9 : decode bb_Law_limit 9 = .ok (.astore_n 3, 1) := by decide +kernel
theorem dd_Law_limit_10 : decode bb_Law_limit 10 = .ok (.iconst 1, 1) := by decide +kernel
theorem dd_Law_limit_11 : decode bb_Law_limit 11 = .ok (.ireturn, 1) := by decide +kernel
theorem dd_Law_limit_12 : decode bb_Law_limit 12 = .ok (.astore_n 3, 1) := by decide +kernel
theorem dd_Law_limit_13 : decode bb_Law_limit 13 = .ok (.iconst 2, 1) := by decide +kernel
theorem dd_Law_limit_14 : decode bb_Law_limit 14 = .ok (.ireturn, 1) := by decide +kernel
theorem dd_Law_limit_6 : decode bb_Law_limit 6 = .ok (.goto 9, 3) := by decide +kernel
theorem dd_Law_limit_15 : decode bb_Law_limit 15 = .ok (.iconst 0, 1) := by decide +kernel
theorem dd_Law_limit_16 : decode bb_Law_limit 16 = .ok (.ireturn, 1) := by decide +kernel
def ww_Law_limit : List Cond := .codeWith yy_Law_limit bb_Law_limit 4 (some .int) [(0, 6, 9, 13), (0, 6, 12, 15)] :: TB
def rm_Law_limit : Room := { frames := 8, cells := 2, slots := 12, locals := 144 }
def wp_Law_limit (S : fw_S) (o1 : Nat) (a2 : Int32) (a3 : Int32) (post : fw_S → Int32 → Prop) : Prop := wp_Out_limit S o1 a2 a3 (fun S1 => post S1 0) (fun k9 S9 => ((k9 = 1 ∧ (post S9 1)) ∨ (k9 = 2 ∧ (post S9 2))))
set_option maxHeartbeats 4000000 in
set_option maxRecDepth 100000 in
theorem mt_Law_limit (l : Launch) (hl9 : l.stackTraces = false) (D : va_G) (cA : Nat → ClassId) (b : Nat) (S : fw_S) (o1 : Nat) (a2 : Int32) (a3 : Int32) (hq1 : o1 < 245 ∧ layU o1 = (0, 0)) (post : fw_S → Int32 → Prop) (hw : wp_Law_limit S o1 a2 a3 post) : Met l yy_Law_limit ww_Law_limit rm_Law_limit (fw_PcX D CL cA (TYS cA) TK layU b 245 S [.ref (b + o1), .int a2, .int a3]) (va_Qi (fun r S' => post S' r) (fw_B D CL cA TK layU b 245) (fw_A b 245)) 2 12 (fw_A b 245) := by
  refine va_MetW (cc := bb_Law_limit) (maxL := 4) (ret := (some .int)) (hh := [(0, 6, 9, 13), (0, 6, 12, 15)]) (by decide) rfl ?_
  intro p e s m args below meth c s₁ B hml hv
  obtain ⟨rfl, hP, hK, hZ⟩ := hv
  have hx := B.exec
  have hb := B.bytes
  have hr := B.returns
  have hts := atoms_spec (ws := ww_Law_limit) B.pre
  have hown : s.vm.findClass "OutletOfficeLaw" = some m.cls := findClass_of_methodNamed B.named
  have hlocks := B.notSynchronized
  have hTb := tx_table B (hts _ List.mem_cons_self)
  have hS : va_S (fw_A b 245) s.heap s.heap [] := va_S.rf
  have hl := lv_entry ([.ref (b + o1), .int a2, .int a3]) (n := 4) (Nat.le_of_ble_eq_true rfl)
  rw [lg_entry_eq]
  generalize (lg_sl ([.ref (b + o1), .int a2, .int a3]) ++ List.replicate (4 - (lg_sl ([.ref (b + o1), .int a2, .int a3])).length) Slot.unset).toArray = ls at hl ⊢
  have hl : lv_has ls 4 [(0, .ref (b + o1)), (1, .int a2), (2, .int a3)] := hl
  unfold wp_Law_limit at hw
  refine lv_aload_n hx hb dd_Law_limit_0 rfl (lv_at hl 0 rfl) ?_
  refine lv_iload_n hx hb dd_Law_limit_1 rfl (lv_at hl 1 rfl) ?_
  refine lv_iload_n hx hb dd_Law_limit_2 rfl (lv_at hl 2 rfl) ?_
  refine tx_callv (tx_runV (As := [.int a2, .int a3]) (rest := []) ⟨hx, hb, hml, hown, hts⟩ (mt_Out_limit l hl9 D cA b S o1 a2 a3 hq1 _ _ hw) (cwV 2 hts (fw_gV tw_327 tw_324 tw_325 tw_326 tw_1) rfl rfl rfl (by decide +kernel) ⟨Nat.le_of_ble_eq_true rfl, Nat.le_of_ble_eq_true rfl⟩) (fw_preVX hP hK hZ hS hq1 (by decide) rfl) rfl rfl hl.1 rfl (lv_room (Nat.le_of_ble_eq_true rfl)) dd_Law_limit_3 ⟨Nat.le_of_ble_eq_true rfl, Nat.le_of_ble_eq_true rfl⟩) hS (fun k9 S9 q9 ce9 H locs hw hP hS hce => ?_) (fun S1 H locs hw hP hS => ?_)
  · try dsimp only at hw
    rcases hw with ⟨h9, hw⟩ | ⟨h9, hw⟩
    · subst h9
      refine tx_catch (k := 1) hown [] ⟨0, 6, 9, 13⟩ [⟨0, 6, 12, 15⟩] (by rw [hTb]; rfl) (fun z hz => by cases hz) (by decide) (by decide) (hts _ (tb_in tw_322)) (va_Nw.use rfl hZ.2.2.1.1.1) hce ?_
      refine lv_astore_n hx hb dd_Law_limit_9 rfl hl (Nat.le_of_ble_eq_true rfl) rfl (fun ls hl => ?_)
      have hl : lv_has ls 4 [(3, .ref q9), (0, .ref (b + o1)), (1, .int a2), (2, .int a3)] := hl
      refine lv_iconst (v := 1) hx hb dd_Law_limit_10 kc_ic_1 ?_
      exact W.iret (v := 1) hx hb hr (fun t ht hW => ⟨⟨_, _, rfl, hw, fw_Bof ht hP⟩, hS.F ht⟩) hS.2.2 dd_Law_limit_11
    · subst h9
      refine tx_catch (k := 2) hown [⟨0, 6, 9, 13⟩] ⟨0, 6, 12, 15⟩ [] (by rw [hTb]; rfl) (fun z hz => by
        rcases List.mem_cons.mp hz with rfl | hz
        · exact ⟨by decide, "java/lang/IndexOutOfBoundsException", hts _ (tb_in tw_322), hZ.2.2.2⟩
        · cases hz) (by decide) (by decide) (hts _ (tb_in tw_323)) (va_Nw.use rfl hZ.2.2.1.1.2) hce ?_
      refine lv_astore_n hx hb dd_Law_limit_12 rfl hl (Nat.le_of_ble_eq_true rfl) rfl (fun ls hl => ?_)
      have hl : lv_has ls 4 [(3, .ref q9), (0, .ref (b + o1)), (1, .int a2), (2, .int a3)] := hl
      refine lv_iconst (v := 2) hx hb dd_Law_limit_13 kc_ic_2 ?_
      exact W.iret (v := 2) hx hb hr (fun t ht hW => ⟨⟨_, _, rfl, hw, fw_Bof ht hP⟩, hS.F ht⟩) hS.2.2 dd_Law_limit_14
  try dsimp only at hw
  refine lv_goto (tgt := 15) hx hb dd_Law_limit_6 (by decide) ?_
  refine lv_iconst (v := 0) hx hb dd_Law_limit_15 kc_ic_0 ?_
  exact W.iret (v := 0) hx hb hr (fun t ht hW => ⟨⟨_, _, rfl, hw, fw_Bof ht hP⟩, hS.F ht⟩) hS.2.2 dd_Law_limit_16
theorem dd_Law_band_0 : decode bb_Law_band 0 = .ok (.aload_n 0, 1) := by decide +kernel
theorem dd_Law_band_1 : decode bb_Law_band 1 = .ok (.iload_n 1, 1) := by decide +kernel
theorem dd_Law_band_2 : decode bb_Law_band 2 = .ok (.iload_n 2, 1) := by decide +kernel
theorem dd_Law_band_3 : decode bb_Law_band 3 = .ok (.iload_n 3, 1) := by decide +kernel
theorem dd_Law_band_4 : decode bb_Law_band 4 = .ok (.invokevirtual 17, 3) := by decide +kernel
theorem dd_Law_band_10 : decode bb_Law_band 10 = .ok (.astore 4, 2) := by decide +kernel
theorem dd_Law_band_12 : decode bb_Law_band 12 = .ok (.iconst 1, 1) := by decide +kernel
theorem dd_Law_band_13 : decode bb_Law_band 13 = .ok (.ireturn, 1) := by decide +kernel
theorem dd_Law_band_14 : decode bb_Law_band 14 = .ok (.astore 4, 2) := by decide +kernel
theorem dd_Law_band_16 : decode bb_Law_band 16 = .ok (.iconst 2, 1) := by decide +kernel
theorem dd_Law_band_17 : decode bb_Law_band 17 = .ok (.ireturn, 1) := by decide +kernel
theorem dd_Law_band_7 : decode bb_Law_band 7 = .ok (.goto 11, 3) := by decide +kernel
theorem dd_Law_band_18 : decode bb_Law_band 18 = .ok (.iconst 0, 1) := by decide +kernel
theorem dd_Law_band_19 : decode bb_Law_band 19 = .ok (.ireturn, 1) := by decide +kernel
def ww_Law_band : List Cond := .codeWith yy_Law_band bb_Law_band 5 (some .int) [(0, 7, 10, 13), (0, 7, 14, 15)] :: TB
def rm_Law_band : Room := { frames := 8, cells := 3, slots := 18, locals := 145 }
def wp_Law_band (S : fw_S) (o1 : Nat) (a2 : Int32) (a3 : Int32) (a4 : Int32) (post : fw_S → Int32 → Prop) : Prop := wp_Out_band S o1 a2 a3 a4 (fun S1 => post S1 0) (fun k9 S9 => ((k9 = 1 ∧ (post S9 1)) ∨ (k9 = 2 ∧ (post S9 2))))
set_option maxHeartbeats 4000000 in
set_option maxRecDepth 100000 in
theorem mt_Law_band (l : Launch) (hl9 : l.stackTraces = false) (D : va_G) (cA : Nat → ClassId) (b : Nat) (S : fw_S) (o1 : Nat) (a2 : Int32) (a3 : Int32) (a4 : Int32) (hq1 : o1 < 245 ∧ layU o1 = (0, 0)) (post : fw_S → Int32 → Prop) (hw : wp_Law_band S o1 a2 a3 a4 post) : Met l yy_Law_band ww_Law_band rm_Law_band (fw_PcX D CL cA (TYS cA) TK layU b 245 S [.ref (b + o1), .int a2, .int a3, .int a4]) (va_Qi (fun r S' => post S' r) (fw_B D CL cA TK layU b 245) (fw_A b 245)) 3 18 (fw_A b 245) := by
  refine va_MetW (cc := bb_Law_band) (maxL := 5) (ret := (some .int)) (hh := [(0, 7, 10, 13), (0, 7, 14, 15)]) (by decide) rfl ?_
  intro p e s m args below meth c s₁ B hml hv
  obtain ⟨rfl, hP, hK, hZ⟩ := hv
  have hx := B.exec
  have hb := B.bytes
  have hr := B.returns
  have hts := atoms_spec (ws := ww_Law_band) B.pre
  have hown : s.vm.findClass "OutletOfficeLaw" = some m.cls := findClass_of_methodNamed B.named
  have hlocks := B.notSynchronized
  have hTb := tx_table B (hts _ List.mem_cons_self)
  have hS : va_S (fw_A b 245) s.heap s.heap [] := va_S.rf
  have hl := lv_entry ([.ref (b + o1), .int a2, .int a3, .int a4]) (n := 5) (Nat.le_of_ble_eq_true rfl)
  rw [lg_entry_eq]
  generalize (lg_sl ([.ref (b + o1), .int a2, .int a3, .int a4]) ++ List.replicate (5 - (lg_sl ([.ref (b + o1), .int a2, .int a3, .int a4])).length) Slot.unset).toArray = ls at hl ⊢
  have hl : lv_has ls 5 [(0, .ref (b + o1)), (1, .int a2), (2, .int a3), (3, .int a4)] := hl
  unfold wp_Law_band at hw
  refine lv_aload_n hx hb dd_Law_band_0 rfl (lv_at hl 0 rfl) ?_
  refine lv_iload_n hx hb dd_Law_band_1 rfl (lv_at hl 1 rfl) ?_
  refine lv_iload_n hx hb dd_Law_band_2 rfl (lv_at hl 2 rfl) ?_
  refine lv_iload_n hx hb dd_Law_band_3 rfl (lv_at hl 3 rfl) ?_
  refine tx_callv (tx_runV (As := [.int a2, .int a3, .int a4]) (rest := []) ⟨hx, hb, hml, hown, hts⟩ (mt_Out_band l hl9 D cA b S o1 a2 a3 a4 hq1 _ _ hw) (cwV 3 hts (fw_gV tw_423 tw_420 tw_421 tw_422 tw_1) rfl rfl rfl (by decide +kernel) ⟨Nat.le_of_ble_eq_true rfl, Nat.le_of_ble_eq_true rfl⟩) (fw_preVX hP hK hZ hS hq1 (by decide) rfl) rfl rfl hl.1 rfl (lv_room (Nat.le_of_ble_eq_true rfl)) dd_Law_band_4 ⟨Nat.le_of_ble_eq_true rfl, Nat.le_of_ble_eq_true rfl⟩) hS (fun k9 S9 q9 ce9 H locs hw hP hS hce => ?_) (fun S1 H locs hw hP hS => ?_)
  · try dsimp only at hw
    rcases hw with ⟨h9, hw⟩ | ⟨h9, hw⟩
    · subst h9
      refine tx_catch (k := 1) hown [] ⟨0, 7, 10, 13⟩ [⟨0, 7, 14, 15⟩] (by rw [hTb]; rfl) (fun z hz => by cases hz) (by decide) (by decide) (hts _ (tb_in tw_322)) (va_Nw.use rfl hZ.2.2.1.1.1) hce ?_
      refine lv_astore hx hb dd_Law_band_10 hl (Nat.le_of_ble_eq_true rfl) rfl (fun ls hl => ?_)
      have hl : lv_has ls 5 [(4, .ref q9), (0, .ref (b + o1)), (1, .int a2), (2, .int a3), (3, .int a4)] := hl
      refine lv_iconst (v := 1) hx hb dd_Law_band_12 kc_ic_1 ?_
      exact W.iret (v := 1) hx hb hr (fun t ht hW => ⟨⟨_, _, rfl, hw, fw_Bof ht hP⟩, hS.F ht⟩) hS.2.2 dd_Law_band_13
    · subst h9
      refine tx_catch (k := 2) hown [⟨0, 7, 10, 13⟩] ⟨0, 7, 14, 15⟩ [] (by rw [hTb]; rfl) (fun z hz => by
        rcases List.mem_cons.mp hz with rfl | hz
        · exact ⟨by decide, "java/lang/IndexOutOfBoundsException", hts _ (tb_in tw_322), hZ.2.2.2⟩
        · cases hz) (by decide) (by decide) (hts _ (tb_in tw_323)) (va_Nw.use rfl hZ.2.2.1.1.2) hce ?_
      refine lv_astore hx hb dd_Law_band_14 hl (Nat.le_of_ble_eq_true rfl) rfl (fun ls hl => ?_)
      have hl : lv_has ls 5 [(4, .ref q9), (0, .ref (b + o1)), (1, .int a2), (2, .int a3), (3, .int a4)] := hl
      refine lv_iconst (v := 2) hx hb dd_Law_band_16 kc_ic_2 ?_
      exact W.iret (v := 2) hx hb hr (fun t ht hW => ⟨⟨_, _, rfl, hw, fw_Bof ht hP⟩, hS.F ht⟩) hS.2.2 dd_Law_band_17
  try dsimp only at hw
  refine lv_goto (tgt := 18) hx hb dd_Law_band_7 (by decide) ?_
  refine lv_iconst (v := 0) hx hb dd_Law_band_18 kc_ic_0 ?_
  exact W.iret (v := 0) hx hb hr (fun t ht hW => ⟨⟨_, _, rfl, hw, fw_Bof ht hP⟩, hS.F ht⟩) hS.2.2 dd_Law_band_19
theorem dd_Law_fees_0 : decode bb_Law_fees 0 = .ok (.aload_n 0, 1) := by decide +kernel
theorem dd_Law_fees_1 : decode bb_Law_fees 1 = .ok (.iload_n 1, 1) := by decide +kernel
theorem dd_Law_fees_2 : decode bb_Law_fees 2 = .ok (.iload_n 2, 1) := by decide +kernel
theorem dd_Law_fees_3 : decode bb_Law_fees 3 = .ok (.invokevirtual 21, 3) := by decide +kernel
theorem dd_Law_fees_9 : decode bb_Law_fees 9 = .ok (.astore_n 3, 1) := by decide +kernel
theorem dd_Law_fees_10 : decode bb_Law_fees 10 = .ok (.iconst 1, 1) := by decide +kernel
theorem dd_Law_fees_11 : decode bb_Law_fees 11 = .ok (.ireturn, 1) := by decide +kernel
theorem dd_Law_fees_6 : decode bb_Law_fees 6 = .ok (.goto 6, 3) := by decide +kernel
theorem dd_Law_fees_12 : decode bb_Law_fees 12 = .ok (.iconst 0, 1) := by decide +kernel
theorem dd_Law_fees_13 : decode bb_Law_fees 13 = .ok (.ireturn, 1) := by decide +kernel
def ww_Law_fees : List Cond := .codeWith yy_Law_fees bb_Law_fees 4 (some .int) [(0, 6, 9, 15)] :: TB
def rm_Law_fees : Room := { frames := 8, cells := 2, slots := 12, locals := 144 }
def wp_Law_fees (S : fw_S) (o1 : Nat) (a2 : Int32) (a3 : Int32) (post : fw_S → Int32 → Prop) : Prop := wp_Out_fees S o1 a2 a3 (fun S1 => post S1 0) (fun k9 S9 => (k9 = 2 ∧ (post S9 1)))
set_option maxHeartbeats 4000000 in
set_option maxRecDepth 100000 in
theorem mt_Law_fees (l : Launch) (hl9 : l.stackTraces = false) (D : va_G) (cA : Nat → ClassId) (b : Nat) (S : fw_S) (o1 : Nat) (a2 : Int32) (a3 : Int32) (hq1 : o1 < 245 ∧ layU o1 = (0, 0)) (post : fw_S → Int32 → Prop) (hw : wp_Law_fees S o1 a2 a3 post) : Met l yy_Law_fees ww_Law_fees rm_Law_fees (fw_PcX D CL cA (TYS cA) TK layU b 245 S [.ref (b + o1), .int a2, .int a3]) (va_Qi (fun r S' => post S' r) (fw_B D CL cA TK layU b 245) (fw_A b 245)) 2 12 (fw_A b 245) := by
  refine va_MetW (cc := bb_Law_fees) (maxL := 4) (ret := (some .int)) (hh := [(0, 6, 9, 15)]) (by decide) rfl ?_
  intro p e s m args below meth c s₁ B hml hv
  obtain ⟨rfl, hP, hK, hZ⟩ := hv
  have hx := B.exec
  have hb := B.bytes
  have hr := B.returns
  have hts := atoms_spec (ws := ww_Law_fees) B.pre
  have hown : s.vm.findClass "OutletOfficeLaw" = some m.cls := findClass_of_methodNamed B.named
  have hlocks := B.notSynchronized
  have hTb := tx_table B (hts _ List.mem_cons_self)
  have hS : va_S (fw_A b 245) s.heap s.heap [] := va_S.rf
  have hl := lv_entry ([.ref (b + o1), .int a2, .int a3]) (n := 4) (Nat.le_of_ble_eq_true rfl)
  rw [lg_entry_eq]
  generalize (lg_sl ([.ref (b + o1), .int a2, .int a3]) ++ List.replicate (4 - (lg_sl ([.ref (b + o1), .int a2, .int a3])).length) Slot.unset).toArray = ls at hl ⊢
  have hl : lv_has ls 4 [(0, .ref (b + o1)), (1, .int a2), (2, .int a3)] := hl
  unfold wp_Law_fees at hw
  refine lv_aload_n hx hb dd_Law_fees_0 rfl (lv_at hl 0 rfl) ?_
  refine lv_iload_n hx hb dd_Law_fees_1 rfl (lv_at hl 1 rfl) ?_
  refine lv_iload_n hx hb dd_Law_fees_2 rfl (lv_at hl 2 rfl) ?_
  refine tx_callv (tx_runV (As := [.int a2, .int a3]) (rest := []) ⟨hx, hb, hml, hown, hts⟩ (mt_Out_fees l hl9 D cA b S o1 a2 a3 hq1 _ _ hw) (cwV 2 hts (fw_gV tw_435 tw_432 tw_433 tw_434 tw_1) rfl rfl rfl (by decide +kernel) ⟨Nat.le_of_ble_eq_true rfl, Nat.le_of_ble_eq_true rfl⟩) (fw_preVX hP hK hZ hS hq1 (by decide) rfl) rfl rfl hl.1 rfl (lv_room (Nat.le_of_ble_eq_true rfl)) dd_Law_fees_3 ⟨Nat.le_of_ble_eq_true rfl, Nat.le_of_ble_eq_true rfl⟩) hS (fun k9 S9 q9 ce9 H locs hw hP hS hce => ?_) (fun S1 H locs hw hP hS => ?_)
  · try dsimp only at hw
    obtain ⟨h9, hw⟩ := hw
    subst h9
    refine tx_catch (k := 2) hown [] ⟨0, 6, 9, 15⟩ [] (by rw [hTb]; rfl) (fun z hz => by cases hz) (by decide) (by decide) (hts _ (tb_in tw_323)) (va_Nw.use rfl hZ.2.2.1.1.2) hce ?_
    refine lv_astore_n hx hb dd_Law_fees_9 rfl hl (Nat.le_of_ble_eq_true rfl) rfl (fun ls hl => ?_)
    have hl : lv_has ls 4 [(3, .ref q9), (0, .ref (b + o1)), (1, .int a2), (2, .int a3)] := hl
    refine lv_iconst (v := 1) hx hb dd_Law_fees_10 kc_ic_1 ?_
    exact W.iret (v := 1) hx hb hr (fun t ht hW => ⟨⟨_, _, rfl, hw, fw_Bof ht hP⟩, hS.F ht⟩) hS.2.2 dd_Law_fees_11
  try dsimp only at hw
  refine lv_goto (tgt := 12) hx hb dd_Law_fees_6 (by decide) ?_
  refine lv_iconst (v := 0) hx hb dd_Law_fees_12 kc_ic_0 ?_
  exact W.iret (v := 0) hx hb hr (fun t ht hW => ⟨⟨_, _, rfl, hw, fw_Bof ht hP⟩, hS.F ht⟩) hS.2.2 dd_Law_fees_13
theorem dd_Law_card_0 : decode bb_Law_card 0 = .ok (.aload_n 0, 1) := by decide +kernel
theorem dd_Law_card_1 : decode bb_Law_card 1 = .ok (.iload_n 1, 1) := by decide +kernel
theorem dd_Law_card_2 : decode bb_Law_card 2 = .ok (.iload_n 2, 1) := by decide +kernel
theorem dd_Law_card_3 : decode bb_Law_card 3 = .ok (.iload_n 3, 1) := by decide +kernel
theorem dd_Law_card_4 : decode bb_Law_card 4 = .ok (.invokevirtual 24, 3) := by decide +kernel
theorem dd_Law_card_10 : decode bb_Law_card 10 = .ok (.astore 4, 2) := by decide +kernel
theorem dd_Law_card_12 : decode bb_Law_card 12 = .ok (.iconst 1, 1) := by decide +kernel
theorem dd_Law_card_13 : decode bb_Law_card 13 = .ok (.ireturn, 1) := by decide +kernel
theorem dd_Law_card_14 : decode bb_Law_card 14 = .ok (.astore 4, 2) := by decide +kernel
theorem dd_Law_card_16 : decode bb_Law_card 16 = .ok (.iconst 2, 1) := by decide +kernel
theorem dd_Law_card_17 : decode bb_Law_card 17 = .ok (.ireturn, 1) := by decide +kernel
theorem dd_Law_card_7 : decode bb_Law_card 7 = .ok (.goto 11, 3) := by decide +kernel
theorem dd_Law_card_18 : decode bb_Law_card 18 = .ok (.iconst 0, 1) := by decide +kernel
theorem dd_Law_card_19 : decode bb_Law_card 19 = .ok (.ireturn, 1) := by decide +kernel
def ww_Law_card : List Cond := .codeWith yy_Law_card bb_Law_card 5 (some .int) [(0, 7, 10, 13), (0, 7, 14, 15)] :: TB
def rm_Law_card : Room := { frames := 8, cells := 3, slots := 18, locals := 145 }
def wp_Law_card (S : fw_S) (o1 : Nat) (a2 : Int32) (a3 : Int32) (a4 : Int32) (post : fw_S → Int32 → Prop) : Prop := wp_Out_card S o1 a2 a3 a4 (fun S1 => post S1 0) (fun k9 S9 => ((k9 = 1 ∧ (post S9 1)) ∨ (k9 = 2 ∧ (post S9 2))))
set_option maxHeartbeats 4000000 in
set_option maxRecDepth 100000 in
theorem mt_Law_card (l : Launch) (hl9 : l.stackTraces = false) (D : va_G) (cA : Nat → ClassId) (b : Nat) (S : fw_S) (o1 : Nat) (a2 : Int32) (a3 : Int32) (a4 : Int32) (hq1 : o1 < 245 ∧ layU o1 = (0, 0)) (post : fw_S → Int32 → Prop) (hw : wp_Law_card S o1 a2 a3 a4 post) : Met l yy_Law_card ww_Law_card rm_Law_card (fw_PcX D CL cA (TYS cA) TK layU b 245 S [.ref (b + o1), .int a2, .int a3, .int a4]) (va_Qi (fun r S' => post S' r) (fw_B D CL cA TK layU b 245) (fw_A b 245)) 3 18 (fw_A b 245) := by
  refine va_MetW (cc := bb_Law_card) (maxL := 5) (ret := (some .int)) (hh := [(0, 7, 10, 13), (0, 7, 14, 15)]) (by decide) rfl ?_
  intro p e s m args below meth c s₁ B hml hv
  obtain ⟨rfl, hP, hK, hZ⟩ := hv
  have hx := B.exec
  have hb := B.bytes
  have hr := B.returns
  have hts := atoms_spec (ws := ww_Law_card) B.pre
  have hown : s.vm.findClass "OutletOfficeLaw" = some m.cls := findClass_of_methodNamed B.named
  have hlocks := B.notSynchronized
  have hTb := tx_table B (hts _ List.mem_cons_self)
  have hS : va_S (fw_A b 245) s.heap s.heap [] := va_S.rf
  have hl := lv_entry ([.ref (b + o1), .int a2, .int a3, .int a4]) (n := 5) (Nat.le_of_ble_eq_true rfl)
  rw [lg_entry_eq]
  generalize (lg_sl ([.ref (b + o1), .int a2, .int a3, .int a4]) ++ List.replicate (5 - (lg_sl ([.ref (b + o1), .int a2, .int a3, .int a4])).length) Slot.unset).toArray = ls at hl ⊢
  have hl : lv_has ls 5 [(0, .ref (b + o1)), (1, .int a2), (2, .int a3), (3, .int a4)] := hl
  unfold wp_Law_card at hw
  refine lv_aload_n hx hb dd_Law_card_0 rfl (lv_at hl 0 rfl) ?_
  refine lv_iload_n hx hb dd_Law_card_1 rfl (lv_at hl 1 rfl) ?_
  refine lv_iload_n hx hb dd_Law_card_2 rfl (lv_at hl 2 rfl) ?_
  refine lv_iload_n hx hb dd_Law_card_3 rfl (lv_at hl 3 rfl) ?_
  refine tx_callv (tx_runV (As := [.int a2, .int a3, .int a4]) (rest := []) ⟨hx, hb, hml, hown, hts⟩ (mt_Out_card l hl9 D cA b S o1 a2 a3 a4 hq1 _ _ hw) (cwV 3 hts (fw_gV tw_443 tw_440 tw_441 tw_442 tw_1) rfl rfl rfl (by decide +kernel) ⟨Nat.le_of_ble_eq_true rfl, Nat.le_of_ble_eq_true rfl⟩) (fw_preVX hP hK hZ hS hq1 (by decide) rfl) rfl rfl hl.1 rfl (lv_room (Nat.le_of_ble_eq_true rfl)) dd_Law_card_4 ⟨Nat.le_of_ble_eq_true rfl, Nat.le_of_ble_eq_true rfl⟩) hS (fun k9 S9 q9 ce9 H locs hw hP hS hce => ?_) (fun S1 H locs hw hP hS => ?_)
  · try dsimp only at hw
    rcases hw with ⟨h9, hw⟩ | ⟨h9, hw⟩
    · subst h9
      refine tx_catch (k := 1) hown [] ⟨0, 7, 10, 13⟩ [⟨0, 7, 14, 15⟩] (by rw [hTb]; rfl) (fun z hz => by cases hz) (by decide) (by decide) (hts _ (tb_in tw_322)) (va_Nw.use rfl hZ.2.2.1.1.1) hce ?_
      refine lv_astore hx hb dd_Law_card_10 hl (Nat.le_of_ble_eq_true rfl) rfl (fun ls hl => ?_)
      have hl : lv_has ls 5 [(4, .ref q9), (0, .ref (b + o1)), (1, .int a2), (2, .int a3), (3, .int a4)] := hl
      refine lv_iconst (v := 1) hx hb dd_Law_card_12 kc_ic_1 ?_
      exact W.iret (v := 1) hx hb hr (fun t ht hW => ⟨⟨_, _, rfl, hw, fw_Bof ht hP⟩, hS.F ht⟩) hS.2.2 dd_Law_card_13
    · subst h9
      refine tx_catch (k := 2) hown [⟨0, 7, 10, 13⟩] ⟨0, 7, 14, 15⟩ [] (by rw [hTb]; rfl) (fun z hz => by
        rcases List.mem_cons.mp hz with rfl | hz
        · exact ⟨by decide, "java/lang/IndexOutOfBoundsException", hts _ (tb_in tw_322), hZ.2.2.2⟩
        · cases hz) (by decide) (by decide) (hts _ (tb_in tw_323)) (va_Nw.use rfl hZ.2.2.1.1.2) hce ?_
      refine lv_astore hx hb dd_Law_card_14 hl (Nat.le_of_ble_eq_true rfl) rfl (fun ls hl => ?_)
      have hl : lv_has ls 5 [(4, .ref q9), (0, .ref (b + o1)), (1, .int a2), (2, .int a3), (3, .int a4)] := hl
      refine lv_iconst (v := 2) hx hb dd_Law_card_16 kc_ic_2 ?_
      exact W.iret (v := 2) hx hb hr (fun t ht hW => ⟨⟨_, _, rfl, hw, fw_Bof ht hP⟩, hS.F ht⟩) hS.2.2 dd_Law_card_17
  try dsimp only at hw
  refine lv_goto (tgt := 18) hx hb dd_Law_card_7 (by decide) ?_
  refine lv_iconst (v := 0) hx hb dd_Law_card_18 kc_ic_0 ?_
  exact W.iret (v := 0) hx hb hr (fun t ht hW => ⟨⟨_, _, rfl, hw, fw_Bof ht hP⟩, hS.F ht⟩) hS.2.2 dd_Law_card_19
theorem dd_Law_copy_15 : decode bb_Law_copy 15 = .ok (.lastore, 1) := by decide +kernel
theorem dd_Law_copy_16 : decode bb_Law_copy 16 = .ok (.goto 6, 3) := by decide +kernel
theorem dd_Law_copy_22 : decode bb_Law_copy 22 = .ok (.iconst 0, 1) := by decide +kernel
theorem dd_Law_copy_23 : decode bb_Law_copy 23 = .ok (.ireturn, 1) := by decide +kernel
theorem dd_Law_copy_0 : decode bb_Law_copy 0 = .ok (.aload_n 2, 1) := by decide +kernel
theorem dd_Law_copy_1 : decode bb_Law_copy 1 = .ok (.iconst 0, 1) := by decide +kernel
theorem dd_Law_copy_2 : decode bb_Law_copy 2 = .ok (.aload_n 0, 1) := by decide +kernel
theorem dd_Law_copy_3 : decode bb_Law_copy 3 = .ok (.iload_n 1, 1) := by decide +kernel
theorem dd_Law_copy_4 : decode bb_Law_copy 4 = .ok (.invokevirtual 27, 3) := by decide +kernel
theorem dd_Law_copy_19 : decode bb_Law_copy 19 = .ok (.astore_n 3, 1) := by decide +kernel
theorem dd_Law_copy_20 : decode bb_Law_copy 20 = .ok (.iconst 1, 1) := by decide +kernel
theorem dd_Law_copy_21 : decode bb_Law_copy 21 = .ok (.ireturn, 1) := by decide +kernel
theorem dd_Law_copy_7 : decode bb_Law_copy 7 = .ok (.ifCond .eq 7, 3) := by decide +kernel
theorem dd_Law_copy_14 : decode bb_Law_copy 14 = .ok (.lconst 0, 1) := by decide +kernel
theorem dd_Law_copy_10 : decode bb_Law_copy 10 = .ok (.lconst 1, 1) := by decide +kernel
theorem dd_Law_copy_11 : decode bb_Law_copy 11 = .ok (.goto 4, 3) := by decide +kernel
def ww_Law_copy : List Cond := .codeWith yy_Law_copy bb_Law_copy 4 (some .int) [(0, 16, 19, 13)] :: TB
def rm_Law_copy : Room := { frames := 9, cells := 1, slots := 6, locals := 251 }
def wp_Law_copy_15 (o1 : Nat) (a2 : Int32) (o3 : Nat) (post : fw_S → Int32 → Prop) (S : fw_S) (pl0 : Int64) (p1 : Int32) : Prop := vp_in p1 1 ∧ (∀ S2 : fw_S, S2 = fw_sl S o3 p1.toNatClampNeg pl0 → post S2 0)
def wp_Law_copy (S : fw_S) (o1 : Nat) (a2 : Int32) (o3 : Nat) (post : fw_S → Int32 → Prop) : Prop := wp_Out_copy S o1 a2 (fun S1 r2 => (((r2 = 0) → wp_Law_copy_15 o1 a2 o3 post S1 0 0) ∧ (¬ (r2 = 0) → wp_Law_copy_15 o1 a2 o3 post S1 1 0))) (fun k9 S9 => (k9 = 1 ∧ (post S9 1)))
set_option maxHeartbeats 4000000 in
set_option maxRecDepth 100000 in
theorem mt_Law_copy (l : Launch) (hl9 : l.stackTraces = false) (D : va_G) (cA : Nat → ClassId) (b : Nat) (S : fw_S) (o1 : Nat) (a2 : Int32) (o3 : Nat) (hq1 : o1 < 245 ∧ layU o1 = (0, 0)) (hq3 : o3 < 245 ∧ layU o3 = (101, 1)) (post : fw_S → Int32 → Prop) (hw : wp_Law_copy S o1 a2 o3 post) : Met l yy_Law_copy ww_Law_copy rm_Law_copy (fw_PcX D CL cA (TYS cA) TK layU b 245 S [.ref (b + o1), .int a2, .ref (b + o3)]) (va_Qi (fun r S' => post S' r) (fw_B D CL cA TK layU b 245) (fw_A b 245)) 1 6 (fw_A b 245) := by
  refine va_MetW (cc := bb_Law_copy) (maxL := 4) (ret := (some .int)) (hh := [(0, 16, 19, 13)]) (by decide) rfl ?_
  intro p e s m args below meth c s₁ B hml hv
  obtain ⟨rfl, hP, hK, hZ⟩ := hv
  have hx := B.exec
  have hb := B.bytes
  have hr := B.returns
  have hts := atoms_spec (ws := ww_Law_copy) B.pre
  have hown : s.vm.findClass "OutletOfficeLaw" = some m.cls := findClass_of_methodNamed B.named
  have hlocks := B.notSynchronized
  have hTb := tx_table B (hts _ List.mem_cons_self)
  have hS : va_S (fw_A b 245) s.heap s.heap [] := va_S.rf
  have hl := lv_entry ([.ref (b + o1), .int a2, .ref (b + o3)]) (n := 4) (Nat.le_of_ble_eq_true rfl)
  rw [lg_entry_eq]
  generalize (lg_sl ([.ref (b + o1), .int a2, .ref (b + o3)]) ++ List.replicate (4 - (lg_sl ([.ref (b + o1), .int a2, .ref (b + o3)])).length) Slot.unset).toArray = ls at hl ⊢
  have hl : lv_has ls 4 [(0, .ref (b + o1)), (1, .int a2), (2, .ref (b + o3))] := hl
  have B15 : ∀ (S : fw_S) (pl0 : Int64) (p1 : Int32) (H : Heap) (locs : List Loc) (ls : Array Slot), wp_Law_copy_15 o1 a2 o3 post S pl0 p1 → fw_P D CL cA layU b 245 (fw_v TK layU b S) H → va_S (fw_A b 245) s.heap H locs → lv_has ls 4 [(0, .ref (b + o1)), (1, .int a2), (2, .ref (b + o3))] → W p l e (headSpec ww_Law_copy rm_Law_copy).room s m ([.ref (b + o1), .int a2, .ref (b + o3)] : List Value).toArray below meth c H locs 1 6 (MQ below (va_Qi (fun r S' => post S' r) (fw_B D CL cA TK layU b 245) (fw_A b 245)) ([.ref (b + o1), .int a2, .ref (b + o3)] : List Value).toArray s 1 6 (fw_A b 245)) (F0 m 15 ls [.long pl0, .int p1, .ref (b + o3)]) := by
      intro S pl0 p1 H locs ls hw hP hS hl
      unfold wp_Law_copy_15 at hw
      obtain ⟨h1, hw⟩ := hw
      refine fw_last hx hb hK hP hS (fw_A.in hq3.1) hq3 (by decide) 1 rfl tka_101 h1 dd_Law_copy_15 (fun H locs hP hS => ?_)
      obtain ⟨S2, e_S2⟩ : ∃ z, z = fw_sl S o3 p1.toNatClampNeg pl0 := ⟨_, rfl⟩
      rw [← e_S2] at hP
      have hw := hw S2 e_S2
      refine lv_goto (tgt := 22) hx hb dd_Law_copy_16 (by decide) ?_
      refine lv_iconst (v := 0) hx hb dd_Law_copy_22 kc_ic_0 ?_
      exact W.iret (v := 0) hx hb hr (fun t ht hW => ⟨⟨_, _, rfl, hw, fw_Bof ht hP⟩, hS.F ht⟩) hS.2.2 dd_Law_copy_23
  unfold wp_Law_copy at hw
  refine lv_aload_n hx hb dd_Law_copy_0 rfl (lv_at hl 2 rfl) ?_
  refine lv_iconst (v := 0) hx hb dd_Law_copy_1 kc_ic_0 ?_
  refine lv_aload_n hx hb dd_Law_copy_2 rfl (lv_at hl 0 rfl) ?_
  refine lv_iload_n hx hb dd_Law_copy_3 rfl (lv_at hl 1 rfl) ?_
  refine tx_calli (tx_runV (As := [.int a2]) (rest := [.int 0, .ref (b + o3)]) ⟨hx, hb, hml, hown, hts⟩ (mt_Out_copy l hl9 D cA b S o1 a2 hq1 _ _ hw) (cwV 1 hts (fw_gV tw_454 tw_451 tw_452 tw_453 tw_1) rfl rfl rfl (by decide +kernel) ⟨Nat.le_of_ble_eq_true rfl, Nat.le_of_ble_eq_true rfl⟩) (fw_preVX hP hK hZ hS hq1 (by decide) rfl) rfl rfl hl.1 rfl (lv_room (Nat.le_of_ble_eq_true rfl)) dd_Law_copy_4 ⟨Nat.le_of_ble_eq_true rfl, Nat.le_of_ble_eq_true rfl⟩) hS (fun k9 S9 q9 ce9 H locs hw hP hS hce => ?_) (fun S1 r2 H locs hw hP hS => ?_)
  · try dsimp only at hw
    obtain ⟨h9, hw⟩ := hw
    subst h9
    refine tx_catch (k := 1) hown [] ⟨0, 16, 19, 13⟩ [] (by rw [hTb]; rfl) (fun z hz => by cases hz) (by decide) (by decide) (hts _ (tb_in tw_322)) (va_Nw.use rfl hZ.2.2.1.1.1) hce ?_
    refine lv_astore_n hx hb dd_Law_copy_19 rfl hl (Nat.le_of_ble_eq_true rfl) rfl (fun ls hl => ?_)
    have hl : lv_has ls 4 [(3, .ref q9), (0, .ref (b + o1)), (1, .int a2), (2, .ref (b + o3))] := hl
    refine lv_iconst (v := 1) hx hb dd_Law_copy_20 kc_ic_1 ?_
    exact W.iret (v := 1) hx hb hr (fun t ht hW => ⟨⟨_, _, rfl, hw, fw_Bof ht hP⟩, hS.F ht⟩) hS.2.2 dd_Law_copy_21
  try dsimp only at hw
  refine lv_if_eq (tgt := 14) hx hb dd_Law_copy_7 (by decide) (fun h3 => ?_) (fun h3 => ?_)
  · have hw := hw.1 h3
    refine lv_lconst (v := 0) hx hb dd_Law_copy_14 kc_lc_0 ?_
    exact B15 S1 0 0 _ _ ls hw hP hS (lv_sub hl [0, 1, 2] rfl)
  · have hw := hw.2 h3
    refine lv_lconst (v := 1) hx hb dd_Law_copy_10 kc_lc_1 ?_
    refine lv_goto (tgt := 15) hx hb dd_Law_copy_11 (by decide) ?_
    exact B15 S1 1 0 _ _ ls hw hP hS (lv_sub hl [0, 1, 2] rfl)
theorem dd_Law_car_20 : decode bb_Law_car 20 = .ok (.lastore, 1) := by decide +kernel
theorem dd_Law_car_21 : decode bb_Law_car 21 = .ok (.goto 11, 3) := by decide +kernel
theorem dd_Law_car_32 : decode bb_Law_car 32 = .ok (.iconst 0, 1) := by decide +kernel
theorem dd_Law_car_33 : decode bb_Law_car 33 = .ok (.ireturn, 1) := by decide +kernel
theorem dd_Law_car_0 : decode bb_Law_car 0 = .ok (.aload 5, 2) := by decide +kernel
theorem dd_Law_car_2 : decode bb_Law_car 2 = .ok (.iconst 0, 1) := by decide +kernel
theorem dd_Law_car_3 : decode bb_Law_car 3 = .ok (.aload_n 0, 1) := by decide +kernel
theorem dd_Law_car_4 : decode bb_Law_car 4 = .ok (.iload_n 1, 1) := by decide +kernel
theorem dd_Law_car_5 : decode bb_Law_car 5 = .ok (.iload_n 2, 1) := by decide +kernel
theorem dd_Law_car_6 : decode bb_Law_car 6 = .ok (.iload_n 3, 1) := by decide +kernel
theorem dd_Law_car_7 : decode bb_Law_car 7 = .ok (.iload 4, 2) := by decide +kernel
theorem dd_Law_car_9 : decode bb_Law_car 9 = .ok (.invokevirtual 31, 3) := by decide +kernel
theorem dd_Law_car_24 : decode bb_Law_car 24 = .ok (.astore 6, 2) := by decide +kernel
theorem dd_Law_car_26 : decode bb_Law_car 26 = .ok (.iconst 1, 1) := by decide +kernel
theorem dd_Law_car_27 : decode bb_Law_car 27 = .ok (.ireturn, 1) := by decide +kernel
theorem dd_Law_car_28 : decode bb_Law_car 28 = .ok (.astore 6, 2) := by decide +kernel
theorem dd_Law_car_30 : decode bb_Law_car 30 = .ok (.iconst 2, 1) := by decide +kernel
theorem dd_Law_car_31 : decode bb_Law_car 31 = .ok (.ireturn, 1) := by decide +kernel
theorem dd_Law_car_12 : decode bb_Law_car 12 = .ok (.ifCond .eq 7, 3) := by decide +kernel
theorem dd_Law_car_19 : decode bb_Law_car 19 = .ok (.lconst 0, 1) := by decide +kernel
theorem dd_Law_car_15 : decode bb_Law_car 15 = .ok (.lconst 1, 1) := by decide +kernel
theorem dd_Law_car_16 : decode bb_Law_car 16 = .ok (.goto 4, 3) := by decide +kernel
def ww_Law_car : List Cond := .codeWith yy_Law_car bb_Law_car 7 (some .int) [(0, 21, 24, 13), (0, 21, 28, 15)] :: TB
def rm_Law_car : Room := { frames := 9, cells := 4, slots := 24, locals := 167 }
def wp_Law_car_20 (o1 : Nat) (a2 : Int32) (a3 : Int32) (a4 : Int32) (a5 : Int32) (o6 : Nat) (post : fw_S → Int32 → Prop) (S : fw_S) (pl0 : Int64) (p1 : Int32) : Prop := vp_in p1 1 ∧ (∀ S2 : fw_S, S2 = fw_sl S o6 p1.toNatClampNeg pl0 → post S2 0)
def wp_Law_car (S : fw_S) (o1 : Nat) (a2 : Int32) (a3 : Int32) (a4 : Int32) (a5 : Int32) (o6 : Nat) (post : fw_S → Int32 → Prop) : Prop := wp_Out_car S o1 a2 a3 a4 a5 (fun S1 r2 => (((r2 = 0) → wp_Law_car_20 o1 a2 a3 a4 a5 o6 post S1 0 0) ∧ (¬ (r2 = 0) → wp_Law_car_20 o1 a2 a3 a4 a5 o6 post S1 1 0))) (fun k9 S9 => ((k9 = 1 ∧ (post S9 1)) ∨ (k9 = 2 ∧ (post S9 2))))
set_option maxHeartbeats 4000000 in
set_option maxRecDepth 100000 in
theorem mt_Law_car (l : Launch) (hl9 : l.stackTraces = false) (D : va_G) (cA : Nat → ClassId) (b : Nat) (S : fw_S) (o1 : Nat) (a2 : Int32) (a3 : Int32) (a4 : Int32) (a5 : Int32) (o6 : Nat) (hq1 : o1 < 245 ∧ layU o1 = (0, 0)) (hq6 : o6 < 245 ∧ layU o6 = (101, 1)) (post : fw_S → Int32 → Prop) (hw : wp_Law_car S o1 a2 a3 a4 a5 o6 post) : Met l yy_Law_car ww_Law_car rm_Law_car (fw_PcX D CL cA (TYS cA) TK layU b 245 S [.ref (b + o1), .int a2, .int a3, .int a4, .int a5, .ref (b + o6)]) (va_Qi (fun r S' => post S' r) (fw_B D CL cA TK layU b 245) (fw_A b 245)) 4 24 (fw_A b 245) := by
  refine va_MetW (cc := bb_Law_car) (maxL := 7) (ret := (some .int)) (hh := [(0, 21, 24, 13), (0, 21, 28, 15)]) (by decide) rfl ?_
  intro p e s m args below meth c s₁ B hml hv
  obtain ⟨rfl, hP, hK, hZ⟩ := hv
  have hx := B.exec
  have hb := B.bytes
  have hr := B.returns
  have hts := atoms_spec (ws := ww_Law_car) B.pre
  have hown : s.vm.findClass "OutletOfficeLaw" = some m.cls := findClass_of_methodNamed B.named
  have hlocks := B.notSynchronized
  have hTb := tx_table B (hts _ List.mem_cons_self)
  have hS : va_S (fw_A b 245) s.heap s.heap [] := va_S.rf
  have hl := lv_entry ([.ref (b + o1), .int a2, .int a3, .int a4, .int a5, .ref (b + o6)]) (n := 7) (Nat.le_of_ble_eq_true rfl)
  rw [lg_entry_eq]
  generalize (lg_sl ([.ref (b + o1), .int a2, .int a3, .int a4, .int a5, .ref (b + o6)]) ++ List.replicate (7 - (lg_sl ([.ref (b + o1), .int a2, .int a3, .int a4, .int a5, .ref (b + o6)])).length) Slot.unset).toArray = ls at hl ⊢
  have hl : lv_has ls 7 [(0, .ref (b + o1)), (1, .int a2), (2, .int a3), (3, .int a4), (4, .int a5), (5, .ref (b + o6))] := hl
  have B20 : ∀ (S : fw_S) (pl0 : Int64) (p1 : Int32) (H : Heap) (locs : List Loc) (ls : Array Slot), wp_Law_car_20 o1 a2 a3 a4 a5 o6 post S pl0 p1 → fw_P D CL cA layU b 245 (fw_v TK layU b S) H → va_S (fw_A b 245) s.heap H locs → lv_has ls 7 [(0, .ref (b + o1)), (1, .int a2), (2, .int a3), (3, .int a4), (4, .int a5), (5, .ref (b + o6))] → W p l e (headSpec ww_Law_car rm_Law_car).room s m ([.ref (b + o1), .int a2, .int a3, .int a4, .int a5, .ref (b + o6)] : List Value).toArray below meth c H locs 4 24 (MQ below (va_Qi (fun r S' => post S' r) (fw_B D CL cA TK layU b 245) (fw_A b 245)) ([.ref (b + o1), .int a2, .int a3, .int a4, .int a5, .ref (b + o6)] : List Value).toArray s 4 24 (fw_A b 245)) (F0 m 20 ls [.long pl0, .int p1, .ref (b + o6)]) := by
      intro S pl0 p1 H locs ls hw hP hS hl
      unfold wp_Law_car_20 at hw
      obtain ⟨h1, hw⟩ := hw
      refine fw_last hx hb hK hP hS (fw_A.in hq6.1) hq6 (by decide) 1 rfl tka_101 h1 dd_Law_car_20 (fun H locs hP hS => ?_)
      obtain ⟨S2, e_S2⟩ : ∃ z, z = fw_sl S o6 p1.toNatClampNeg pl0 := ⟨_, rfl⟩
      rw [← e_S2] at hP
      have hw := hw S2 e_S2
      refine lv_goto (tgt := 32) hx hb dd_Law_car_21 (by decide) ?_
      refine lv_iconst (v := 0) hx hb dd_Law_car_32 kc_ic_0 ?_
      exact W.iret (v := 0) hx hb hr (fun t ht hW => ⟨⟨_, _, rfl, hw, fw_Bof ht hP⟩, hS.F ht⟩) hS.2.2 dd_Law_car_33
  unfold wp_Law_car at hw
  refine lv_aload hx hb dd_Law_car_0 (lv_at hl 5 rfl) ?_
  refine lv_iconst (v := 0) hx hb dd_Law_car_2 kc_ic_0 ?_
  refine lv_aload_n hx hb dd_Law_car_3 rfl (lv_at hl 0 rfl) ?_
  refine lv_iload_n hx hb dd_Law_car_4 rfl (lv_at hl 1 rfl) ?_
  refine lv_iload_n hx hb dd_Law_car_5 rfl (lv_at hl 2 rfl) ?_
  refine lv_iload_n hx hb dd_Law_car_6 rfl (lv_at hl 3 rfl) ?_
  refine lv_iload hx hb dd_Law_car_7 (lv_at hl 4 rfl) ?_
  refine tx_calli (tx_runV (As := [.int a2, .int a3, .int a4, .int a5]) (rest := [.int 0, .ref (b + o6)]) ⟨hx, hb, hml, hown, hts⟩ (mt_Out_car l hl9 D cA b S o1 a2 a3 a4 a5 hq1 _ _ hw) (cwV 4 hts (fw_gV tw_476 tw_473 tw_474 tw_475 tw_1) rfl rfl rfl (by decide +kernel) ⟨Nat.le_of_ble_eq_true rfl, Nat.le_of_ble_eq_true rfl⟩) (fw_preVX hP hK hZ hS hq1 (by decide) rfl) rfl rfl hl.1 rfl (lv_room (Nat.le_of_ble_eq_true rfl)) dd_Law_car_9 ⟨Nat.le_of_ble_eq_true rfl, Nat.le_of_ble_eq_true rfl⟩) hS (fun k9 S9 q9 ce9 H locs hw hP hS hce => ?_) (fun S1 r2 H locs hw hP hS => ?_)
  · try dsimp only at hw
    rcases hw with ⟨h9, hw⟩ | ⟨h9, hw⟩
    · subst h9
      refine tx_catch (k := 1) hown [] ⟨0, 21, 24, 13⟩ [⟨0, 21, 28, 15⟩] (by rw [hTb]; rfl) (fun z hz => by cases hz) (by decide) (by decide) (hts _ (tb_in tw_322)) (va_Nw.use rfl hZ.2.2.1.1.1) hce ?_
      refine lv_astore hx hb dd_Law_car_24 hl (Nat.le_of_ble_eq_true rfl) rfl (fun ls hl => ?_)
      have hl : lv_has ls 7 [(6, .ref q9), (0, .ref (b + o1)), (1, .int a2), (2, .int a3), (3, .int a4), (4, .int a5), (5, .ref (b + o6))] := hl
      refine lv_iconst (v := 1) hx hb dd_Law_car_26 kc_ic_1 ?_
      exact W.iret (v := 1) hx hb hr (fun t ht hW => ⟨⟨_, _, rfl, hw, fw_Bof ht hP⟩, hS.F ht⟩) hS.2.2 dd_Law_car_27
    · subst h9
      refine tx_catch (k := 2) hown [⟨0, 21, 24, 13⟩] ⟨0, 21, 28, 15⟩ [] (by rw [hTb]; rfl) (fun z hz => by
        rcases List.mem_cons.mp hz with rfl | hz
        · exact ⟨by decide, "java/lang/IndexOutOfBoundsException", hts _ (tb_in tw_322), hZ.2.2.2⟩
        · cases hz) (by decide) (by decide) (hts _ (tb_in tw_323)) (va_Nw.use rfl hZ.2.2.1.1.2) hce ?_
      refine lv_astore hx hb dd_Law_car_28 hl (Nat.le_of_ble_eq_true rfl) rfl (fun ls hl => ?_)
      have hl : lv_has ls 7 [(6, .ref q9), (0, .ref (b + o1)), (1, .int a2), (2, .int a3), (3, .int a4), (4, .int a5), (5, .ref (b + o6))] := hl
      refine lv_iconst (v := 2) hx hb dd_Law_car_30 kc_ic_2 ?_
      exact W.iret (v := 2) hx hb hr (fun t ht hW => ⟨⟨_, _, rfl, hw, fw_Bof ht hP⟩, hS.F ht⟩) hS.2.2 dd_Law_car_31
  try dsimp only at hw
  refine lv_if_eq (tgt := 19) hx hb dd_Law_car_12 (by decide) (fun h3 => ?_) (fun h3 => ?_)
  · have hw := hw.1 h3
    refine lv_lconst (v := 0) hx hb dd_Law_car_19 kc_lc_0 ?_
    exact B20 S1 0 0 _ _ ls hw hP hS (lv_sub hl [0, 1, 2, 3, 4, 5] rfl)
  · have hw := hw.2 h3
    refine lv_lconst (v := 1) hx hb dd_Law_car_15 kc_lc_1 ?_
    refine lv_goto (tgt := 20) hx hb dd_Law_car_16 (by decide) ?_
    exact B20 S1 1 0 _ _ ls hw hP hS (lv_sub hl [0, 1, 2, 3, 4, 5] rfl)
theorem dd_Law_want_16 : decode bb_Law_want 16 = .ok (.lastore, 1) := by decide +kernel
theorem dd_Law_want_17 : decode bb_Law_want 17 = .ok (.goto 11, 3) := by decide +kernel
theorem dd_Law_want_28 : decode bb_Law_want 28 = .ok (.iconst 0, 1) := by decide +kernel
theorem dd_Law_want_29 : decode bb_Law_want 29 = .ok (.ireturn, 1) := by decide +kernel
theorem dd_Law_want_0 : decode bb_Law_want 0 = .ok (.aload_n 3, 1) := by decide +kernel
theorem dd_Law_want_1 : decode bb_Law_want 1 = .ok (.iconst 0, 1) := by decide +kernel
theorem dd_Law_want_2 : decode bb_Law_want 2 = .ok (.aload_n 0, 1) := by decide +kernel
theorem dd_Law_want_3 : decode bb_Law_want 3 = .ok (.iload_n 1, 1) := by decide +kernel
theorem dd_Law_want_4 : decode bb_Law_want 4 = .ok (.iload_n 2, 1) := by decide +kernel
theorem dd_Law_want_5 : decode bb_Law_want 5 = .ok (.invokevirtual 35, 3) := by decide +kernel
theorem dd_Law_want_20 : decode bb_Law_want 20 = .ok (.astore 4, 2) := by decide +kernel
theorem dd_Law_want_22 : decode bb_Law_want 22 = .ok (.iconst 1, 1) := by decide +kernel
theorem dd_Law_want_23 : decode bb_Law_want 23 = .ok (.ireturn, 1) := by decide +kernel
theorem dd_Law_want_24 : decode bb_Law_want 24 = .ok (.astore 4, 2) := by decide +kernel
theorem dd_Law_want_26 : decode bb_Law_want 26 = .ok (.iconst 2, 1) := by decide +kernel
theorem dd_Law_want_27 : decode bb_Law_want 27 = .ok (.ireturn, 1) := by decide +kernel
theorem dd_Law_want_8 : decode bb_Law_want 8 = .ok (.ifCond .eq 7, 3) := by decide +kernel
theorem dd_Law_want_15 : decode bb_Law_want 15 = .ok (.lconst 0, 1) := by decide +kernel
theorem dd_Law_want_11 : decode bb_Law_want 11 = .ok (.lconst 1, 1) := by decide +kernel
theorem dd_Law_want_12 : decode bb_Law_want 12 = .ok (.goto 4, 3) := by decide +kernel
def ww_Law_want : List Cond := .codeWith yy_Law_want bb_Law_want 5 (some .int) [(0, 17, 20, 13), (0, 17, 24, 15)] :: TB
def rm_Law_want : Room := { frames := 9, cells := 2, slots := 12, locals := 165 }
def wp_Law_want_16 (o1 : Nat) (a2 : Int32) (a3 : Int32) (o4 : Nat) (post : fw_S → Int32 → Prop) (S : fw_S) (pl0 : Int64) (p1 : Int32) : Prop := vp_in p1 1 ∧ (∀ S2 : fw_S, S2 = fw_sl S o4 p1.toNatClampNeg pl0 → post S2 0)
def wp_Law_want (S : fw_S) (o1 : Nat) (a2 : Int32) (a3 : Int32) (o4 : Nat) (post : fw_S → Int32 → Prop) : Prop := wp_Out_want S o1 a2 a3 (fun S1 r2 => (((r2 = 0) → wp_Law_want_16 o1 a2 a3 o4 post S1 0 0) ∧ (¬ (r2 = 0) → wp_Law_want_16 o1 a2 a3 o4 post S1 1 0))) (fun k9 S9 => ((k9 = 1 ∧ (post S9 1)) ∨ (k9 = 2 ∧ (post S9 2))))
set_option maxHeartbeats 4000000 in
set_option maxRecDepth 100000 in
theorem mt_Law_want (l : Launch) (hl9 : l.stackTraces = false) (D : va_G) (cA : Nat → ClassId) (b : Nat) (S : fw_S) (o1 : Nat) (a2 : Int32) (a3 : Int32) (o4 : Nat) (hq1 : o1 < 245 ∧ layU o1 = (0, 0)) (hq4 : o4 < 245 ∧ layU o4 = (101, 1)) (post : fw_S → Int32 → Prop) (hw : wp_Law_want S o1 a2 a3 o4 post) : Met l yy_Law_want ww_Law_want rm_Law_want (fw_PcX D CL cA (TYS cA) TK layU b 245 S [.ref (b + o1), .int a2, .int a3, .ref (b + o4)]) (va_Qi (fun r S' => post S' r) (fw_B D CL cA TK layU b 245) (fw_A b 245)) 2 12 (fw_A b 245) := by
  refine va_MetW (cc := bb_Law_want) (maxL := 5) (ret := (some .int)) (hh := [(0, 17, 20, 13), (0, 17, 24, 15)]) (by decide) rfl ?_
  intro p e s m args below meth c s₁ B hml hv
  obtain ⟨rfl, hP, hK, hZ⟩ := hv
  have hx := B.exec
  have hb := B.bytes
  have hr := B.returns
  have hts := atoms_spec (ws := ww_Law_want) B.pre
  have hown : s.vm.findClass "OutletOfficeLaw" = some m.cls := findClass_of_methodNamed B.named
  have hlocks := B.notSynchronized
  have hTb := tx_table B (hts _ List.mem_cons_self)
  have hS : va_S (fw_A b 245) s.heap s.heap [] := va_S.rf
  have hl := lv_entry ([.ref (b + o1), .int a2, .int a3, .ref (b + o4)]) (n := 5) (Nat.le_of_ble_eq_true rfl)
  rw [lg_entry_eq]
  generalize (lg_sl ([.ref (b + o1), .int a2, .int a3, .ref (b + o4)]) ++ List.replicate (5 - (lg_sl ([.ref (b + o1), .int a2, .int a3, .ref (b + o4)])).length) Slot.unset).toArray = ls at hl ⊢
  have hl : lv_has ls 5 [(0, .ref (b + o1)), (1, .int a2), (2, .int a3), (3, .ref (b + o4))] := hl
  have B16 : ∀ (S : fw_S) (pl0 : Int64) (p1 : Int32) (H : Heap) (locs : List Loc) (ls : Array Slot), wp_Law_want_16 o1 a2 a3 o4 post S pl0 p1 → fw_P D CL cA layU b 245 (fw_v TK layU b S) H → va_S (fw_A b 245) s.heap H locs → lv_has ls 5 [(0, .ref (b + o1)), (1, .int a2), (2, .int a3), (3, .ref (b + o4))] → W p l e (headSpec ww_Law_want rm_Law_want).room s m ([.ref (b + o1), .int a2, .int a3, .ref (b + o4)] : List Value).toArray below meth c H locs 2 12 (MQ below (va_Qi (fun r S' => post S' r) (fw_B D CL cA TK layU b 245) (fw_A b 245)) ([.ref (b + o1), .int a2, .int a3, .ref (b + o4)] : List Value).toArray s 2 12 (fw_A b 245)) (F0 m 16 ls [.long pl0, .int p1, .ref (b + o4)]) := by
      intro S pl0 p1 H locs ls hw hP hS hl
      unfold wp_Law_want_16 at hw
      obtain ⟨h1, hw⟩ := hw
      refine fw_last hx hb hK hP hS (fw_A.in hq4.1) hq4 (by decide) 1 rfl tka_101 h1 dd_Law_want_16 (fun H locs hP hS => ?_)
      obtain ⟨S2, e_S2⟩ : ∃ z, z = fw_sl S o4 p1.toNatClampNeg pl0 := ⟨_, rfl⟩
      rw [← e_S2] at hP
      have hw := hw S2 e_S2
      refine lv_goto (tgt := 28) hx hb dd_Law_want_17 (by decide) ?_
      refine lv_iconst (v := 0) hx hb dd_Law_want_28 kc_ic_0 ?_
      exact W.iret (v := 0) hx hb hr (fun t ht hW => ⟨⟨_, _, rfl, hw, fw_Bof ht hP⟩, hS.F ht⟩) hS.2.2 dd_Law_want_29
  unfold wp_Law_want at hw
  refine lv_aload_n hx hb dd_Law_want_0 rfl (lv_at hl 3 rfl) ?_
  refine lv_iconst (v := 0) hx hb dd_Law_want_1 kc_ic_0 ?_
  refine lv_aload_n hx hb dd_Law_want_2 rfl (lv_at hl 0 rfl) ?_
  refine lv_iload_n hx hb dd_Law_want_3 rfl (lv_at hl 1 rfl) ?_
  refine lv_iload_n hx hb dd_Law_want_4 rfl (lv_at hl 2 rfl) ?_
  refine tx_calli (tx_runV (As := [.int a2, .int a3]) (rest := [.int 0, .ref (b + o4)]) ⟨hx, hb, hml, hown, hts⟩ (mt_Out_want l hl9 D cA b S o1 a2 a3 hq1 _ _ hw) (cwV 2 hts (fw_gV tw_487 tw_484 tw_485 tw_486 tw_1) rfl rfl rfl (by decide +kernel) ⟨Nat.le_of_ble_eq_true rfl, Nat.le_of_ble_eq_true rfl⟩) (fw_preVX hP hK hZ hS hq1 (by decide) rfl) rfl rfl hl.1 rfl (lv_room (Nat.le_of_ble_eq_true rfl)) dd_Law_want_5 ⟨Nat.le_of_ble_eq_true rfl, Nat.le_of_ble_eq_true rfl⟩) hS (fun k9 S9 q9 ce9 H locs hw hP hS hce => ?_) (fun S1 r2 H locs hw hP hS => ?_)
  · try dsimp only at hw
    rcases hw with ⟨h9, hw⟩ | ⟨h9, hw⟩
    · subst h9
      refine tx_catch (k := 1) hown [] ⟨0, 17, 20, 13⟩ [⟨0, 17, 24, 15⟩] (by rw [hTb]; rfl) (fun z hz => by cases hz) (by decide) (by decide) (hts _ (tb_in tw_322)) (va_Nw.use rfl hZ.2.2.1.1.1) hce ?_
      refine lv_astore hx hb dd_Law_want_20 hl (Nat.le_of_ble_eq_true rfl) rfl (fun ls hl => ?_)
      have hl : lv_has ls 5 [(4, .ref q9), (0, .ref (b + o1)), (1, .int a2), (2, .int a3), (3, .ref (b + o4))] := hl
      refine lv_iconst (v := 1) hx hb dd_Law_want_22 kc_ic_1 ?_
      exact W.iret (v := 1) hx hb hr (fun t ht hW => ⟨⟨_, _, rfl, hw, fw_Bof ht hP⟩, hS.F ht⟩) hS.2.2 dd_Law_want_23
    · subst h9
      refine tx_catch (k := 2) hown [⟨0, 17, 20, 13⟩] ⟨0, 17, 24, 15⟩ [] (by rw [hTb]; rfl) (fun z hz => by
        rcases List.mem_cons.mp hz with rfl | hz
        · exact ⟨by decide, "java/lang/IndexOutOfBoundsException", hts _ (tb_in tw_322), hZ.2.2.2⟩
        · cases hz) (by decide) (by decide) (hts _ (tb_in tw_323)) (va_Nw.use rfl hZ.2.2.1.1.2) hce ?_
      refine lv_astore hx hb dd_Law_want_24 hl (Nat.le_of_ble_eq_true rfl) rfl (fun ls hl => ?_)
      have hl : lv_has ls 5 [(4, .ref q9), (0, .ref (b + o1)), (1, .int a2), (2, .int a3), (3, .ref (b + o4))] := hl
      refine lv_iconst (v := 2) hx hb dd_Law_want_26 kc_ic_2 ?_
      exact W.iret (v := 2) hx hb hr (fun t ht hW => ⟨⟨_, _, rfl, hw, fw_Bof ht hP⟩, hS.F ht⟩) hS.2.2 dd_Law_want_27
  try dsimp only at hw
  refine lv_if_eq (tgt := 15) hx hb dd_Law_want_8 (by decide) (fun h3 => ?_) (fun h3 => ?_)
  · have hw := hw.1 h3
    refine lv_lconst (v := 0) hx hb dd_Law_want_15 kc_lc_0 ?_
    exact B16 S1 0 0 _ _ ls hw hP hS (lv_sub hl [0, 1, 2, 3] rfl)
  · have hw := hw.2 h3
    refine lv_lconst (v := 1) hx hb dd_Law_want_11 kc_lc_1 ?_
    refine lv_goto (tgt := 16) hx hb dd_Law_want_12 (by decide) ?_
    exact B16 S1 1 0 _ _ ls hw hP hS (lv_sub hl [0, 1, 2, 3] rfl)
theorem dd_Law_leave_15 : decode bb_Law_leave 15 = .ok (.lastore, 1) := by decide +kernel
theorem dd_Law_leave_16 : decode bb_Law_leave 16 = .ok (.goto 6, 3) := by decide +kernel
theorem dd_Law_leave_22 : decode bb_Law_leave 22 = .ok (.iconst 0, 1) := by decide +kernel
theorem dd_Law_leave_23 : decode bb_Law_leave 23 = .ok (.ireturn, 1) := by decide +kernel
theorem dd_Law_leave_0 : decode bb_Law_leave 0 = .ok (.aload_n 2, 1) := by decide +kernel
theorem dd_Law_leave_1 : decode bb_Law_leave 1 = .ok (.iconst 0, 1) := by decide +kernel
theorem dd_Law_leave_2 : decode bb_Law_leave 2 = .ok (.aload_n 0, 1) := by decide +kernel
theorem dd_Law_leave_3 : decode bb_Law_leave 3 = .ok (.iload_n 1, 1) := by decide +kernel
theorem dd_Law_leave_4 : decode bb_Law_leave 4 = .ok (.invokevirtual 39, 3) := by decide +kernel
theorem dd_Law_leave_19 : decode bb_Law_leave 19 = .ok (.astore_n 3, 1) := by decide +kernel
theorem dd_Law_leave_20 : decode bb_Law_leave 20 = .ok (.iconst 1, 1) := by decide +kernel
theorem dd_Law_leave_21 : decode bb_Law_leave 21 = .ok (.ireturn, 1) := by decide +kernel
theorem dd_Law_leave_7 : decode bb_Law_leave 7 = .ok (.ifCond .eq 7, 3) := by decide +kernel
theorem dd_Law_leave_14 : decode bb_Law_leave 14 = .ok (.lconst 0, 1) := by decide +kernel
theorem dd_Law_leave_10 : decode bb_Law_leave 10 = .ok (.lconst 1, 1) := by decide +kernel
theorem dd_Law_leave_11 : decode bb_Law_leave 11 = .ok (.goto 4, 3) := by decide +kernel
def ww_Law_leave : List Cond := .codeWith yy_Law_leave bb_Law_leave 4 (some .int) [(0, 16, 19, 13)] :: TB
def rm_Law_leave : Room := { frames := 9, cells := 1, slots := 6, locals := 164 }
def wp_Law_leave_15 (o1 : Nat) (a2 : Int32) (o3 : Nat) (post : fw_S → Int32 → Prop) (S : fw_S) (pl0 : Int64) (p1 : Int32) : Prop := vp_in p1 1 ∧ (∀ S2 : fw_S, S2 = fw_sl S o3 p1.toNatClampNeg pl0 → post S2 0)
def wp_Law_leave (S : fw_S) (o1 : Nat) (a2 : Int32) (o3 : Nat) (post : fw_S → Int32 → Prop) : Prop := wp_Out_leave S o1 a2 (fun S1 r2 => (((r2 = 0) → wp_Law_leave_15 o1 a2 o3 post S1 0 0) ∧ (¬ (r2 = 0) → wp_Law_leave_15 o1 a2 o3 post S1 1 0))) (fun k9 S9 => (k9 = 1 ∧ (post S9 1)))
set_option maxHeartbeats 4000000 in
set_option maxRecDepth 100000 in
theorem mt_Law_leave (l : Launch) (hl9 : l.stackTraces = false) (D : va_G) (cA : Nat → ClassId) (b : Nat) (S : fw_S) (o1 : Nat) (a2 : Int32) (o3 : Nat) (hq1 : o1 < 245 ∧ layU o1 = (0, 0)) (hq3 : o3 < 245 ∧ layU o3 = (101, 1)) (post : fw_S → Int32 → Prop) (hw : wp_Law_leave S o1 a2 o3 post) : Met l yy_Law_leave ww_Law_leave rm_Law_leave (fw_PcX D CL cA (TYS cA) TK layU b 245 S [.ref (b + o1), .int a2, .ref (b + o3)]) (va_Qi (fun r S' => post S' r) (fw_B D CL cA TK layU b 245) (fw_A b 245)) 1 6 (fw_A b 245) := by
  refine va_MetW (cc := bb_Law_leave) (maxL := 4) (ret := (some .int)) (hh := [(0, 16, 19, 13)]) (by decide) rfl ?_
  intro p e s m args below meth c s₁ B hml hv
  obtain ⟨rfl, hP, hK, hZ⟩ := hv
  have hx := B.exec
  have hb := B.bytes
  have hr := B.returns
  have hts := atoms_spec (ws := ww_Law_leave) B.pre
  have hown : s.vm.findClass "OutletOfficeLaw" = some m.cls := findClass_of_methodNamed B.named
  have hlocks := B.notSynchronized
  have hTb := tx_table B (hts _ List.mem_cons_self)
  have hS : va_S (fw_A b 245) s.heap s.heap [] := va_S.rf
  have hl := lv_entry ([.ref (b + o1), .int a2, .ref (b + o3)]) (n := 4) (Nat.le_of_ble_eq_true rfl)
  rw [lg_entry_eq]
  generalize (lg_sl ([.ref (b + o1), .int a2, .ref (b + o3)]) ++ List.replicate (4 - (lg_sl ([.ref (b + o1), .int a2, .ref (b + o3)])).length) Slot.unset).toArray = ls at hl ⊢
  have hl : lv_has ls 4 [(0, .ref (b + o1)), (1, .int a2), (2, .ref (b + o3))] := hl
  have B15 : ∀ (S : fw_S) (pl0 : Int64) (p1 : Int32) (H : Heap) (locs : List Loc) (ls : Array Slot), wp_Law_leave_15 o1 a2 o3 post S pl0 p1 → fw_P D CL cA layU b 245 (fw_v TK layU b S) H → va_S (fw_A b 245) s.heap H locs → lv_has ls 4 [(0, .ref (b + o1)), (1, .int a2), (2, .ref (b + o3))] → W p l e (headSpec ww_Law_leave rm_Law_leave).room s m ([.ref (b + o1), .int a2, .ref (b + o3)] : List Value).toArray below meth c H locs 1 6 (MQ below (va_Qi (fun r S' => post S' r) (fw_B D CL cA TK layU b 245) (fw_A b 245)) ([.ref (b + o1), .int a2, .ref (b + o3)] : List Value).toArray s 1 6 (fw_A b 245)) (F0 m 15 ls [.long pl0, .int p1, .ref (b + o3)]) := by
      intro S pl0 p1 H locs ls hw hP hS hl
      unfold wp_Law_leave_15 at hw
      obtain ⟨h1, hw⟩ := hw
      refine fw_last hx hb hK hP hS (fw_A.in hq3.1) hq3 (by decide) 1 rfl tka_101 h1 dd_Law_leave_15 (fun H locs hP hS => ?_)
      obtain ⟨S2, e_S2⟩ : ∃ z, z = fw_sl S o3 p1.toNatClampNeg pl0 := ⟨_, rfl⟩
      rw [← e_S2] at hP
      have hw := hw S2 e_S2
      refine lv_goto (tgt := 22) hx hb dd_Law_leave_16 (by decide) ?_
      refine lv_iconst (v := 0) hx hb dd_Law_leave_22 kc_ic_0 ?_
      exact W.iret (v := 0) hx hb hr (fun t ht hW => ⟨⟨_, _, rfl, hw, fw_Bof ht hP⟩, hS.F ht⟩) hS.2.2 dd_Law_leave_23
  unfold wp_Law_leave at hw
  refine lv_aload_n hx hb dd_Law_leave_0 rfl (lv_at hl 2 rfl) ?_
  refine lv_iconst (v := 0) hx hb dd_Law_leave_1 kc_ic_0 ?_
  refine lv_aload_n hx hb dd_Law_leave_2 rfl (lv_at hl 0 rfl) ?_
  refine lv_iload_n hx hb dd_Law_leave_3 rfl (lv_at hl 1 rfl) ?_
  refine tx_calli (tx_runV (As := [.int a2]) (rest := [.int 0, .ref (b + o3)]) ⟨hx, hb, hml, hown, hts⟩ (mt_Out_leave l hl9 D cA b S o1 a2 hq1 _ _ hw) (cwV 1 hts (fw_gV tw_494 tw_491 tw_492 tw_493 tw_1) rfl rfl rfl (by decide +kernel) ⟨Nat.le_of_ble_eq_true rfl, Nat.le_of_ble_eq_true rfl⟩) (fw_preVX hP hK hZ hS hq1 (by decide) rfl) rfl rfl hl.1 rfl (lv_room (Nat.le_of_ble_eq_true rfl)) dd_Law_leave_4 ⟨Nat.le_of_ble_eq_true rfl, Nat.le_of_ble_eq_true rfl⟩) hS (fun k9 S9 q9 ce9 H locs hw hP hS hce => ?_) (fun S1 r2 H locs hw hP hS => ?_)
  · try dsimp only at hw
    obtain ⟨h9, hw⟩ := hw
    subst h9
    refine tx_catch (k := 1) hown [] ⟨0, 16, 19, 13⟩ [] (by rw [hTb]; rfl) (fun z hz => by cases hz) (by decide) (by decide) (hts _ (tb_in tw_322)) (va_Nw.use rfl hZ.2.2.1.1.1) hce ?_
    refine lv_astore_n hx hb dd_Law_leave_19 rfl hl (Nat.le_of_ble_eq_true rfl) rfl (fun ls hl => ?_)
    have hl : lv_has ls 4 [(3, .ref q9), (0, .ref (b + o1)), (1, .int a2), (2, .ref (b + o3))] := hl
    refine lv_iconst (v := 1) hx hb dd_Law_leave_20 kc_ic_1 ?_
    exact W.iret (v := 1) hx hb hr (fun t ht hW => ⟨⟨_, _, rfl, hw, fw_Bof ht hP⟩, hS.F ht⟩) hS.2.2 dd_Law_leave_21
  try dsimp only at hw
  refine lv_if_eq (tgt := 14) hx hb dd_Law_leave_7 (by decide) (fun h3 => ?_) (fun h3 => ?_)
  · have hw := hw.1 h3
    refine lv_lconst (v := 0) hx hb dd_Law_leave_14 kc_lc_0 ?_
    exact B15 S1 0 0 _ _ ls hw hP hS (lv_sub hl [0, 1, 2] rfl)
  · have hw := hw.2 h3
    refine lv_lconst (v := 1) hx hb dd_Law_leave_10 kc_lc_1 ?_
    refine lv_goto (tgt := 15) hx hb dd_Law_leave_11 (by decide) ?_
    exact B15 S1 1 0 _ _ ls hw hP hS (lv_sub hl [0, 1, 2] rfl)
theorem dd_Law_show_0 : decode bb_Law_show 0 = .ok (.aload_n 3, 1) := by decide +kernel
theorem dd_Law_show_1 : decode bb_Law_show 1 = .ok (.iconst 0, 1) := by decide +kernel
theorem dd_Law_show_2 : decode bb_Law_show 2 = .ok (.aload_n 0, 1) := by decide +kernel
theorem dd_Law_show_3 : decode bb_Law_show 3 = .ok (.iload_n 1, 1) := by decide +kernel
theorem dd_Law_show_4 : decode bb_Law_show 4 = .ok (.iload_n 2, 1) := by decide +kernel
theorem dd_Law_show_5 : decode bb_Law_show 5 = .ok (.invokevirtual 42, 3) := by decide +kernel
theorem dd_Law_show_13 : decode bb_Law_show 13 = .ok (.astore 4, 2) := by decide +kernel
theorem dd_Law_show_15 : decode bb_Law_show 15 = .ok (.iconst 1, 1) := by decide +kernel
theorem dd_Law_show_16 : decode bb_Law_show 16 = .ok (.ireturn, 1) := by decide +kernel
theorem dd_Law_show_8 : decode bb_Law_show 8 = .ok (.i2l, 1) := by decide +kernel
theorem dd_Law_show_9 : decode bb_Law_show 9 = .ok (.lastore, 1) := by decide +kernel
theorem dd_Law_show_10 : decode bb_Law_show 10 = .ok (.goto 7, 3) := by decide +kernel
theorem dd_Law_show_17 : decode bb_Law_show 17 = .ok (.iconst 0, 1) := by decide +kernel
theorem dd_Law_show_18 : decode bb_Law_show 18 = .ok (.ireturn, 1) := by decide +kernel
def ww_Law_show : List Cond := .codeWith yy_Law_show bb_Law_show 5 (some .int) [(0, 10, 13, 13)] :: TB
def rm_Law_show : Room := { frames := 9, cells := 2, slots := 12, locals := 166 }
def wp_Law_show (S : fw_S) (o1 : Nat) (a2 : Int32) (a3 : Int32) (o4 : Nat) (post : fw_S → Int32 → Prop) : Prop := wp_Out_show S o1 a2 a3 (fun S1 r2 => vp_in 0 1 ∧ (∀ S4 : fw_S, S4 = fw_sl S1 o4 ((0 : Int32).toNatClampNeg) r2.toInt64 → post S4 0)) (fun k9 S9 => (k9 = 1 ∧ (post S9 1)))
set_option maxHeartbeats 4000000 in
set_option maxRecDepth 100000 in
theorem mt_Law_show (l : Launch) (hl9 : l.stackTraces = false) (D : va_G) (cA : Nat → ClassId) (b : Nat) (S : fw_S) (o1 : Nat) (a2 : Int32) (a3 : Int32) (o4 : Nat) (hq1 : o1 < 245 ∧ layU o1 = (0, 0)) (hq4 : o4 < 245 ∧ layU o4 = (101, 1)) (post : fw_S → Int32 → Prop) (hw : wp_Law_show S o1 a2 a3 o4 post) : Met l yy_Law_show ww_Law_show rm_Law_show (fw_PcX D CL cA (TYS cA) TK layU b 245 S [.ref (b + o1), .int a2, .int a3, .ref (b + o4)]) (va_Qi (fun r S' => post S' r) (fw_B D CL cA TK layU b 245) (fw_A b 245)) 2 12 (fw_A b 245) := by
  refine va_MetW (cc := bb_Law_show) (maxL := 5) (ret := (some .int)) (hh := [(0, 10, 13, 13)]) (by decide) rfl ?_
  intro p e s m args below meth c s₁ B hml hv
  obtain ⟨rfl, hP, hK, hZ⟩ := hv
  have hx := B.exec
  have hb := B.bytes
  have hr := B.returns
  have hts := atoms_spec (ws := ww_Law_show) B.pre
  have hown : s.vm.findClass "OutletOfficeLaw" = some m.cls := findClass_of_methodNamed B.named
  have hlocks := B.notSynchronized
  have hTb := tx_table B (hts _ List.mem_cons_self)
  have hS : va_S (fw_A b 245) s.heap s.heap [] := va_S.rf
  have hl := lv_entry ([.ref (b + o1), .int a2, .int a3, .ref (b + o4)]) (n := 5) (Nat.le_of_ble_eq_true rfl)
  rw [lg_entry_eq]
  generalize (lg_sl ([.ref (b + o1), .int a2, .int a3, .ref (b + o4)]) ++ List.replicate (5 - (lg_sl ([.ref (b + o1), .int a2, .int a3, .ref (b + o4)])).length) Slot.unset).toArray = ls at hl ⊢
  have hl : lv_has ls 5 [(0, .ref (b + o1)), (1, .int a2), (2, .int a3), (3, .ref (b + o4))] := hl
  unfold wp_Law_show at hw
  refine lv_aload_n hx hb dd_Law_show_0 rfl (lv_at hl 3 rfl) ?_
  refine lv_iconst (v := 0) hx hb dd_Law_show_1 kc_ic_0 ?_
  refine lv_aload_n hx hb dd_Law_show_2 rfl (lv_at hl 0 rfl) ?_
  refine lv_iload_n hx hb dd_Law_show_3 rfl (lv_at hl 1 rfl) ?_
  refine lv_iload_n hx hb dd_Law_show_4 rfl (lv_at hl 2 rfl) ?_
  refine tx_calli (tx_runV (As := [.int a2, .int a3]) (rest := [.int 0, .ref (b + o4)]) ⟨hx, hb, hml, hown, hts⟩ (mt_Out_show l hl9 D cA b S o1 a2 a3 hq1 _ _ hw) (cwV 2 hts (fw_gV tw_530 tw_527 tw_528 tw_529 tw_1) rfl rfl rfl (by decide +kernel) ⟨Nat.le_of_ble_eq_true rfl, Nat.le_of_ble_eq_true rfl⟩) (fw_preVX hP hK hZ hS hq1 (by decide) rfl) rfl rfl hl.1 rfl (lv_room (Nat.le_of_ble_eq_true rfl)) dd_Law_show_5 ⟨Nat.le_of_ble_eq_true rfl, Nat.le_of_ble_eq_true rfl⟩) hS (fun k9 S9 q9 ce9 H locs hw hP hS hce => ?_) (fun S1 r2 H locs hw hP hS => ?_)
  · try dsimp only at hw
    obtain ⟨h9, hw⟩ := hw
    subst h9
    refine tx_catch (k := 1) hown [] ⟨0, 10, 13, 13⟩ [] (by rw [hTb]; rfl) (fun z hz => by cases hz) (by decide) (by decide) (hts _ (tb_in tw_322)) (va_Nw.use rfl hZ.2.2.1.1.1) hce ?_
    refine lv_astore hx hb dd_Law_show_13 hl (Nat.le_of_ble_eq_true rfl) rfl (fun ls hl => ?_)
    have hl : lv_has ls 5 [(4, .ref q9), (0, .ref (b + o1)), (1, .int a2), (2, .int a3), (3, .ref (b + o4))] := hl
    refine lv_iconst (v := 1) hx hb dd_Law_show_15 kc_ic_1 ?_
    exact W.iret (v := 1) hx hb hr (fun t ht hW => ⟨⟨_, _, rfl, hw, fw_Bof ht hP⟩, hS.F ht⟩) hS.2.2 dd_Law_show_16
  try dsimp only at hw
  refine lv_i2l hx hb dd_Law_show_8 rfl ?_
  obtain ⟨h3, hw⟩ := hw
  refine fw_last hx hb hK hP hS (fw_A.in hq4.1) hq4 (by decide) 1 rfl tka_101 h3 dd_Law_show_9 (fun H locs hP hS => ?_)
  obtain ⟨S4, e_S4⟩ : ∃ z, z = fw_sl S1 o4 ((0 : Int32).toNatClampNeg) r2.toInt64 := ⟨_, rfl⟩
  rw [← e_S4] at hP
  have hw := hw S4 e_S4
  refine lv_goto (tgt := 17) hx hb dd_Law_show_10 (by decide) ?_
  refine lv_iconst (v := 0) hx hb dd_Law_show_17 kc_ic_0 ?_
  exact W.iret (v := 0) hx hb hr (fun t ht hW => ⟨⟨_, _, rfl, hw, fw_Bof ht hP⟩, hS.F ht⟩) hS.2.2 dd_Law_show_18
theorem dd_Law_line_0 : decode bb_Law_line 0 = .ok (.aload_n 0, 1) := by decide +kernel
theorem dd_Law_line_1 : decode bb_Law_line 1 = .ok (.iload_n 1, 1) := by decide +kernel
theorem dd_Law_line_2 : decode bb_Law_line 2 = .ok (.iload_n 2, 1) := by decide +kernel
theorem dd_Law_line_3 : decode bb_Law_line 3 = .ok (.invokevirtual 46, 3) := by decide +kernel
theorem dd_Law_line_9 : decode bb_Law_line 9 = .ok (.astore_n 3, 1) := by decide +kernel
theorem dd_Law_line_10 : decode bb_Law_line 10 = .ok (.iconst 1, 1) := by decide +kernel
theorem dd_Law_line_11 : decode bb_Law_line 11 = .ok (.ireturn, 1) := by decide +kernel
theorem dd_Law_line_6 : decode bb_Law_line 6 = .ok (.goto 6, 3) := by decide +kernel
theorem dd_Law_line_12 : decode bb_Law_line 12 = .ok (.iconst 0, 1) := by decide +kernel
theorem dd_Law_line_13 : decode bb_Law_line 13 = .ok (.ireturn, 1) := by decide +kernel
def ww_Law_line : List Cond := .codeWith yy_Law_line bb_Law_line 4 (some .int) [(0, 6, 9, 13)] :: TB
def rm_Law_line : Room := { frames := 9, cells := 1, slots := 6, locals := 164 }
def wp_Law_line (S : fw_S) (o1 : Nat) (a2 : Int32) (a3 : Int32) (post : fw_S → Int32 → Prop) : Prop := wp_Out_line S o1 a2 a3 (fun S1 => post S1 0) (fun k9 S9 => (k9 = 1 ∧ (post S9 1)))
set_option maxHeartbeats 4000000 in
set_option maxRecDepth 100000 in
theorem mt_Law_line (l : Launch) (hl9 : l.stackTraces = false) (D : va_G) (cA : Nat → ClassId) (b : Nat) (S : fw_S) (o1 : Nat) (a2 : Int32) (a3 : Int32) (hq1 : o1 < 245 ∧ layU o1 = (0, 0)) (post : fw_S → Int32 → Prop) (hw : wp_Law_line S o1 a2 a3 post) : Met l yy_Law_line ww_Law_line rm_Law_line (fw_PcX D CL cA (TYS cA) TK layU b 245 S [.ref (b + o1), .int a2, .int a3]) (va_Qi (fun r S' => post S' r) (fw_B D CL cA TK layU b 245) (fw_A b 245)) 1 6 (fw_A b 245) := by
  refine va_MetW (cc := bb_Law_line) (maxL := 4) (ret := (some .int)) (hh := [(0, 6, 9, 13)]) (by decide) rfl ?_
  intro p e s m args below meth c s₁ B hml hv
  obtain ⟨rfl, hP, hK, hZ⟩ := hv
  have hx := B.exec
  have hb := B.bytes
  have hr := B.returns
  have hts := atoms_spec (ws := ww_Law_line) B.pre
  have hown : s.vm.findClass "OutletOfficeLaw" = some m.cls := findClass_of_methodNamed B.named
  have hlocks := B.notSynchronized
  have hTb := tx_table B (hts _ List.mem_cons_self)
  have hS : va_S (fw_A b 245) s.heap s.heap [] := va_S.rf
  have hl := lv_entry ([.ref (b + o1), .int a2, .int a3]) (n := 4) (Nat.le_of_ble_eq_true rfl)
  rw [lg_entry_eq]
  generalize (lg_sl ([.ref (b + o1), .int a2, .int a3]) ++ List.replicate (4 - (lg_sl ([.ref (b + o1), .int a2, .int a3])).length) Slot.unset).toArray = ls at hl ⊢
  have hl : lv_has ls 4 [(0, .ref (b + o1)), (1, .int a2), (2, .int a3)] := hl
  unfold wp_Law_line at hw
  refine lv_aload_n hx hb dd_Law_line_0 rfl (lv_at hl 0 rfl) ?_
  refine lv_iload_n hx hb dd_Law_line_1 rfl (lv_at hl 1 rfl) ?_
  refine lv_iload_n hx hb dd_Law_line_2 rfl (lv_at hl 2 rfl) ?_
  refine tx_callv (tx_runV (As := [.int a2, .int a3]) (rest := []) ⟨hx, hb, hml, hown, hts⟩ (mt_Out_line l hl9 D cA b S o1 a2 a3 hq1 _ _ hw) (cwV 2 hts (fw_gV tw_553 tw_550 tw_551 tw_552 tw_1) rfl rfl rfl (by decide +kernel) ⟨Nat.le_of_ble_eq_true rfl, Nat.le_of_ble_eq_true rfl⟩) (fw_preVX hP hK hZ hS hq1 (by decide) rfl) rfl rfl hl.1 rfl (lv_room (Nat.le_of_ble_eq_true rfl)) dd_Law_line_3 ⟨Nat.le_of_ble_eq_true rfl, Nat.le_of_ble_eq_true rfl⟩) hS (fun k9 S9 q9 ce9 H locs hw hP hS hce => ?_) (fun S1 H locs hw hP hS => ?_)
  · try dsimp only at hw
    obtain ⟨h9, hw⟩ := hw
    subst h9
    refine tx_catch (k := 1) hown [] ⟨0, 6, 9, 13⟩ [] (by rw [hTb]; rfl) (fun z hz => by cases hz) (by decide) (by decide) (hts _ (tb_in tw_322)) (va_Nw.use rfl hZ.2.2.1.1.1) hce ?_
    refine lv_astore_n hx hb dd_Law_line_9 rfl hl (Nat.le_of_ble_eq_true rfl) rfl (fun ls hl => ?_)
    have hl : lv_has ls 4 [(3, .ref q9), (0, .ref (b + o1)), (1, .int a2), (2, .int a3)] := hl
    refine lv_iconst (v := 1) hx hb dd_Law_line_10 kc_ic_1 ?_
    exact W.iret (v := 1) hx hb hr (fun t ht hW => ⟨⟨_, _, rfl, hw, fw_Bof ht hP⟩, hS.F ht⟩) hS.2.2 dd_Law_line_11
  try dsimp only at hw
  refine lv_goto (tgt := 12) hx hb dd_Law_line_6 (by decide) ?_
  refine lv_iconst (v := 0) hx hb dd_Law_line_12 kc_ic_0 ?_
  exact W.iret (v := 0) hx hb hr (fun t ht hW => ⟨⟨_, _, rfl, hw, fw_Bof ht hP⟩, hS.F ht⟩) hS.2.2 dd_Law_line_13
theorem dd_Law_power_0 : decode bb_Law_power 0 = .ok (.aload_n 0, 1) := by decide +kernel
theorem dd_Law_power_1 : decode bb_Law_power 1 = .ok (.iload_n 1, 1) := by decide +kernel
theorem dd_Law_power_2 : decode bb_Law_power 2 = .ok (.iload_n 2, 1) := by decide +kernel
theorem dd_Law_power_3 : decode bb_Law_power 3 = .ok (.invokevirtual 50, 3) := by decide +kernel
theorem dd_Law_power_9 : decode bb_Law_power 9 = .ok (.astore_n 3, 1) := by decide +kernel
theorem dd_Law_power_10 : decode bb_Law_power 10 = .ok (.iconst 1, 1) := by decide +kernel
theorem dd_Law_power_11 : decode bb_Law_power 11 = .ok (.ireturn, 1) := by decide +kernel
theorem dd_Law_power_6 : decode bb_Law_power 6 = .ok (.goto 6, 3) := by decide +kernel
theorem dd_Law_power_12 : decode bb_Law_power 12 = .ok (.iconst 0, 1) := by decide +kernel
theorem dd_Law_power_13 : decode bb_Law_power 13 = .ok (.ireturn, 1) := by decide +kernel
def ww_Law_power : List Cond := .codeWith yy_Law_power bb_Law_power 4 (some .int) [(0, 6, 9, 13)] :: TB
def rm_Law_power : Room := { frames := 9, cells := 1, slots := 6, locals := 164 }
def wp_Law_power (S : fw_S) (o1 : Nat) (a2 : Int32) (a3 : Int32) (post : fw_S → Int32 → Prop) : Prop := wp_Out_power S o1 a2 a3 (fun S1 => post S1 0) (fun k9 S9 => (k9 = 1 ∧ (post S9 1)))
set_option maxHeartbeats 4000000 in
set_option maxRecDepth 100000 in
theorem mt_Law_power (l : Launch) (hl9 : l.stackTraces = false) (D : va_G) (cA : Nat → ClassId) (b : Nat) (S : fw_S) (o1 : Nat) (a2 : Int32) (a3 : Int32) (hq1 : o1 < 245 ∧ layU o1 = (0, 0)) (post : fw_S → Int32 → Prop) (hw : wp_Law_power S o1 a2 a3 post) : Met l yy_Law_power ww_Law_power rm_Law_power (fw_PcX D CL cA (TYS cA) TK layU b 245 S [.ref (b + o1), .int a2, .int a3]) (va_Qi (fun r S' => post S' r) (fw_B D CL cA TK layU b 245) (fw_A b 245)) 1 6 (fw_A b 245) := by
  refine va_MetW (cc := bb_Law_power) (maxL := 4) (ret := (some .int)) (hh := [(0, 6, 9, 13)]) (by decide) rfl ?_
  intro p e s m args below meth c s₁ B hml hv
  obtain ⟨rfl, hP, hK, hZ⟩ := hv
  have hx := B.exec
  have hb := B.bytes
  have hr := B.returns
  have hts := atoms_spec (ws := ww_Law_power) B.pre
  have hown : s.vm.findClass "OutletOfficeLaw" = some m.cls := findClass_of_methodNamed B.named
  have hlocks := B.notSynchronized
  have hTb := tx_table B (hts _ List.mem_cons_self)
  have hS : va_S (fw_A b 245) s.heap s.heap [] := va_S.rf
  have hl := lv_entry ([.ref (b + o1), .int a2, .int a3]) (n := 4) (Nat.le_of_ble_eq_true rfl)
  rw [lg_entry_eq]
  generalize (lg_sl ([.ref (b + o1), .int a2, .int a3]) ++ List.replicate (4 - (lg_sl ([.ref (b + o1), .int a2, .int a3])).length) Slot.unset).toArray = ls at hl ⊢
  have hl : lv_has ls 4 [(0, .ref (b + o1)), (1, .int a2), (2, .int a3)] := hl
  unfold wp_Law_power at hw
  refine lv_aload_n hx hb dd_Law_power_0 rfl (lv_at hl 0 rfl) ?_
  refine lv_iload_n hx hb dd_Law_power_1 rfl (lv_at hl 1 rfl) ?_
  refine lv_iload_n hx hb dd_Law_power_2 rfl (lv_at hl 2 rfl) ?_
  refine tx_callv (tx_runV (As := [.int a2, .int a3]) (rest := []) ⟨hx, hb, hml, hown, hts⟩ (mt_Out_power l hl9 D cA b S o1 a2 a3 hq1 _ _ hw) (cwV 2 hts (fw_gV tw_569 tw_566 tw_567 tw_568 tw_1) rfl rfl rfl (by decide +kernel) ⟨Nat.le_of_ble_eq_true rfl, Nat.le_of_ble_eq_true rfl⟩) (fw_preVX hP hK hZ hS hq1 (by decide) rfl) rfl rfl hl.1 rfl (lv_room (Nat.le_of_ble_eq_true rfl)) dd_Law_power_3 ⟨Nat.le_of_ble_eq_true rfl, Nat.le_of_ble_eq_true rfl⟩) hS (fun k9 S9 q9 ce9 H locs hw hP hS hce => ?_) (fun S1 H locs hw hP hS => ?_)
  · try dsimp only at hw
    obtain ⟨h9, hw⟩ := hw
    subst h9
    refine tx_catch (k := 1) hown [] ⟨0, 6, 9, 13⟩ [] (by rw [hTb]; rfl) (fun z hz => by cases hz) (by decide) (by decide) (hts _ (tb_in tw_322)) (va_Nw.use rfl hZ.2.2.1.1.1) hce ?_
    refine lv_astore_n hx hb dd_Law_power_9 rfl hl (Nat.le_of_ble_eq_true rfl) rfl (fun ls hl => ?_)
    have hl : lv_has ls 4 [(3, .ref q9), (0, .ref (b + o1)), (1, .int a2), (2, .int a3)] := hl
    refine lv_iconst (v := 1) hx hb dd_Law_power_10 kc_ic_1 ?_
    exact W.iret (v := 1) hx hb hr (fun t ht hW => ⟨⟨_, _, rfl, hw, fw_Bof ht hP⟩, hS.F ht⟩) hS.2.2 dd_Law_power_11
  try dsimp only at hw
  refine lv_goto (tgt := 12) hx hb dd_Law_power_6 (by decide) ?_
  refine lv_iconst (v := 0) hx hb dd_Law_power_12 kc_ic_0 ?_
  exact W.iret (v := 0) hx hb hr (fun t ht hW => ⟨⟨_, _, rfl, hw, fw_Bof ht hP⟩, hS.F ht⟩) hS.2.2 dd_Law_power_13
theorem dd_Law_carry_0 : decode bb_Law_carry 0 = .ok (.aload_n 2, 1) := by decide +kernel
theorem dd_Law_carry_1 : decode bb_Law_carry 1 = .ok (.iconst 0, 1) := by decide +kernel
theorem dd_Law_carry_2 : decode bb_Law_carry 2 = .ok (.aload_n 0, 1) := by decide +kernel
theorem dd_Law_carry_3 : decode bb_Law_carry 3 = .ok (.iload_n 1, 1) := by decide +kernel
theorem dd_Law_carry_4 : decode bb_Law_carry 4 = .ok (.invokevirtual 53, 3) := by decide +kernel
theorem dd_Law_carry_12 : decode bb_Law_carry 12 = .ok (.astore_n 3, 1) := by decide +kernel
theorem dd_Law_carry_13 : decode bb_Law_carry 13 = .ok (.iconst 1, 1) := by decide +kernel
theorem dd_Law_carry_14 : decode bb_Law_carry 14 = .ok (.ireturn, 1) := by decide +kernel
theorem dd_Law_carry_7 : decode bb_Law_carry 7 = .ok (.i2l, 1) := by decide +kernel
theorem dd_Law_carry_8 : decode bb_Law_carry 8 = .ok (.lastore, 1) := by decide +kernel
theorem dd_Law_carry_9 : decode bb_Law_carry 9 = .ok (.goto 6, 3) := by decide +kernel
theorem dd_Law_carry_15 : decode bb_Law_carry 15 = .ok (.iconst 0, 1) := by decide +kernel
theorem dd_Law_carry_16 : decode bb_Law_carry 16 = .ok (.ireturn, 1) := by decide +kernel
def ww_Law_carry : List Cond := .codeWith yy_Law_carry bb_Law_carry 4 (some .int) [(0, 9, 12, 13)] :: TB
def rm_Law_carry : Room := { frames := 9, cells := 1, slots := 6, locals := 165 }
def wp_Law_carry (S : fw_S) (o1 : Nat) (a2 : Int32) (o3 : Nat) (post : fw_S → Int32 → Prop) : Prop := wp_Out_carry S o1 a2 (fun S1 r2 => vp_in 0 1 ∧ (∀ S4 : fw_S, S4 = fw_sl S1 o3 ((0 : Int32).toNatClampNeg) r2.toInt64 → post S4 0)) (fun k9 S9 => (k9 = 1 ∧ (post S9 1)))
set_option maxHeartbeats 4000000 in
set_option maxRecDepth 100000 in
theorem mt_Law_carry (l : Launch) (hl9 : l.stackTraces = false) (D : va_G) (cA : Nat → ClassId) (b : Nat) (S : fw_S) (o1 : Nat) (a2 : Int32) (o3 : Nat) (hq1 : o1 < 245 ∧ layU o1 = (0, 0)) (hq3 : o3 < 245 ∧ layU o3 = (101, 1)) (post : fw_S → Int32 → Prop) (hw : wp_Law_carry S o1 a2 o3 post) : Met l yy_Law_carry ww_Law_carry rm_Law_carry (fw_PcX D CL cA (TYS cA) TK layU b 245 S [.ref (b + o1), .int a2, .ref (b + o3)]) (va_Qi (fun r S' => post S' r) (fw_B D CL cA TK layU b 245) (fw_A b 245)) 1 6 (fw_A b 245) := by
  refine va_MetW (cc := bb_Law_carry) (maxL := 4) (ret := (some .int)) (hh := [(0, 9, 12, 13)]) (by decide) rfl ?_
  intro p e s m args below meth c s₁ B hml hv
  obtain ⟨rfl, hP, hK, hZ⟩ := hv
  have hx := B.exec
  have hb := B.bytes
  have hr := B.returns
  have hts := atoms_spec (ws := ww_Law_carry) B.pre
  have hown : s.vm.findClass "OutletOfficeLaw" = some m.cls := findClass_of_methodNamed B.named
  have hlocks := B.notSynchronized
  have hTb := tx_table B (hts _ List.mem_cons_self)
  have hS : va_S (fw_A b 245) s.heap s.heap [] := va_S.rf
  have hl := lv_entry ([.ref (b + o1), .int a2, .ref (b + o3)]) (n := 4) (Nat.le_of_ble_eq_true rfl)
  rw [lg_entry_eq]
  generalize (lg_sl ([.ref (b + o1), .int a2, .ref (b + o3)]) ++ List.replicate (4 - (lg_sl ([.ref (b + o1), .int a2, .ref (b + o3)])).length) Slot.unset).toArray = ls at hl ⊢
  have hl : lv_has ls 4 [(0, .ref (b + o1)), (1, .int a2), (2, .ref (b + o3))] := hl
  unfold wp_Law_carry at hw
  refine lv_aload_n hx hb dd_Law_carry_0 rfl (lv_at hl 2 rfl) ?_
  refine lv_iconst (v := 0) hx hb dd_Law_carry_1 kc_ic_0 ?_
  refine lv_aload_n hx hb dd_Law_carry_2 rfl (lv_at hl 0 rfl) ?_
  refine lv_iload_n hx hb dd_Law_carry_3 rfl (lv_at hl 1 rfl) ?_
  refine tx_calli (tx_runV (As := [.int a2]) (rest := [.int 0, .ref (b + o3)]) ⟨hx, hb, hml, hown, hts⟩ (mt_Out_carry l hl9 D cA b S o1 a2 hq1 _ _ hw) (cwV 1 hts (fw_gV tw_581 tw_578 tw_579 tw_580 tw_1) rfl rfl rfl (by decide +kernel) ⟨Nat.le_of_ble_eq_true rfl, Nat.le_of_ble_eq_true rfl⟩) (fw_preVX hP hK hZ hS hq1 (by decide) rfl) rfl rfl hl.1 rfl (lv_room (Nat.le_of_ble_eq_true rfl)) dd_Law_carry_4 ⟨Nat.le_of_ble_eq_true rfl, Nat.le_of_ble_eq_true rfl⟩) hS (fun k9 S9 q9 ce9 H locs hw hP hS hce => ?_) (fun S1 r2 H locs hw hP hS => ?_)
  · try dsimp only at hw
    obtain ⟨h9, hw⟩ := hw
    subst h9
    refine tx_catch (k := 1) hown [] ⟨0, 9, 12, 13⟩ [] (by rw [hTb]; rfl) (fun z hz => by cases hz) (by decide) (by decide) (hts _ (tb_in tw_322)) (va_Nw.use rfl hZ.2.2.1.1.1) hce ?_
    refine lv_astore_n hx hb dd_Law_carry_12 rfl hl (Nat.le_of_ble_eq_true rfl) rfl (fun ls hl => ?_)
    have hl : lv_has ls 4 [(3, .ref q9), (0, .ref (b + o1)), (1, .int a2), (2, .ref (b + o3))] := hl
    refine lv_iconst (v := 1) hx hb dd_Law_carry_13 kc_ic_1 ?_
    exact W.iret (v := 1) hx hb hr (fun t ht hW => ⟨⟨_, _, rfl, hw, fw_Bof ht hP⟩, hS.F ht⟩) hS.2.2 dd_Law_carry_14
  try dsimp only at hw
  refine lv_i2l hx hb dd_Law_carry_7 rfl ?_
  obtain ⟨h3, hw⟩ := hw
  refine fw_last hx hb hK hP hS (fw_A.in hq3.1) hq3 (by decide) 1 rfl tka_101 h3 dd_Law_carry_8 (fun H locs hP hS => ?_)
  obtain ⟨S4, e_S4⟩ : ∃ z, z = fw_sl S1 o3 ((0 : Int32).toNatClampNeg) r2.toInt64 := ⟨_, rfl⟩
  rw [← e_S4] at hP
  have hw := hw S4 e_S4
  refine lv_goto (tgt := 15) hx hb dd_Law_carry_9 (by decide) ?_
  refine lv_iconst (v := 0) hx hb dd_Law_carry_15 kc_ic_0 ?_
  exact W.iret (v := 0) hx hb hr (fun t ht hW => ⟨⟨_, _, rfl, hw, fw_Bof ht hP⟩, hS.F ht⟩) hS.2.2 dd_Law_carry_16
theorem dd_Law_lose_15 : decode bb_Law_lose 15 = .ok (.lastore, 1) := by decide +kernel
theorem dd_Law_lose_16 : decode bb_Law_lose 16 = .ok (.goto 6, 3) := by decide +kernel
theorem dd_Law_lose_22 : decode bb_Law_lose 22 = .ok (.iconst 0, 1) := by decide +kernel
theorem dd_Law_lose_23 : decode bb_Law_lose 23 = .ok (.ireturn, 1) := by decide +kernel
theorem dd_Law_lose_0 : decode bb_Law_lose 0 = .ok (.aload_n 2, 1) := by decide +kernel
theorem dd_Law_lose_1 : decode bb_Law_lose 1 = .ok (.iconst 0, 1) := by decide +kernel
theorem dd_Law_lose_2 : decode bb_Law_lose 2 = .ok (.aload_n 0, 1) := by decide +kernel
theorem dd_Law_lose_3 : decode bb_Law_lose 3 = .ok (.iload_n 1, 1) := by decide +kernel
theorem dd_Law_lose_4 : decode bb_Law_lose 4 = .ok (.invokevirtual 57, 3) := by decide +kernel
theorem dd_Law_lose_19 : decode bb_Law_lose 19 = .ok (.astore_n 3, 1) := by decide +kernel
theorem dd_Law_lose_20 : decode bb_Law_lose 20 = .ok (.iconst 1, 1) := by decide +kernel
theorem dd_Law_lose_21 : decode bb_Law_lose 21 = .ok (.ireturn, 1) := by decide +kernel
theorem dd_Law_lose_7 : decode bb_Law_lose 7 = .ok (.ifCond .eq 7, 3) := by decide +kernel
theorem dd_Law_lose_14 : decode bb_Law_lose 14 = .ok (.lconst 0, 1) := by decide +kernel
theorem dd_Law_lose_10 : decode bb_Law_lose 10 = .ok (.lconst 1, 1) := by decide +kernel
theorem dd_Law_lose_11 : decode bb_Law_lose 11 = .ok (.goto 4, 3) := by decide +kernel
def ww_Law_lose : List Cond := .codeWith yy_Law_lose bb_Law_lose 4 (some .int) [(0, 16, 19, 13)] :: TB
def rm_Law_lose : Room := { frames := 9, cells := 1, slots := 6, locals := 165 }
def wp_Law_lose_15 (o1 : Nat) (a2 : Int32) (o3 : Nat) (post : fw_S → Int32 → Prop) (S : fw_S) (pl0 : Int64) (p1 : Int32) : Prop := vp_in p1 1 ∧ (∀ S2 : fw_S, S2 = fw_sl S o3 p1.toNatClampNeg pl0 → post S2 0)
def wp_Law_lose (S : fw_S) (o1 : Nat) (a2 : Int32) (o3 : Nat) (post : fw_S → Int32 → Prop) : Prop := wp_Out_lose S o1 a2 (fun S1 r2 => (((r2 = 0) → wp_Law_lose_15 o1 a2 o3 post S1 0 0) ∧ (¬ (r2 = 0) → wp_Law_lose_15 o1 a2 o3 post S1 1 0))) (fun k9 S9 => (k9 = 1 ∧ (post S9 1)))
set_option maxHeartbeats 4000000 in
set_option maxRecDepth 100000 in
theorem mt_Law_lose (l : Launch) (hl9 : l.stackTraces = false) (D : va_G) (cA : Nat → ClassId) (b : Nat) (S : fw_S) (o1 : Nat) (a2 : Int32) (o3 : Nat) (hq1 : o1 < 245 ∧ layU o1 = (0, 0)) (hq3 : o3 < 245 ∧ layU o3 = (101, 1)) (post : fw_S → Int32 → Prop) (hw : wp_Law_lose S o1 a2 o3 post) : Met l yy_Law_lose ww_Law_lose rm_Law_lose (fw_PcX D CL cA (TYS cA) TK layU b 245 S [.ref (b + o1), .int a2, .ref (b + o3)]) (va_Qi (fun r S' => post S' r) (fw_B D CL cA TK layU b 245) (fw_A b 245)) 1 6 (fw_A b 245) := by
  refine va_MetW (cc := bb_Law_lose) (maxL := 4) (ret := (some .int)) (hh := [(0, 16, 19, 13)]) (by decide) rfl ?_
  intro p e s m args below meth c s₁ B hml hv
  obtain ⟨rfl, hP, hK, hZ⟩ := hv
  have hx := B.exec
  have hb := B.bytes
  have hr := B.returns
  have hts := atoms_spec (ws := ww_Law_lose) B.pre
  have hown : s.vm.findClass "OutletOfficeLaw" = some m.cls := findClass_of_methodNamed B.named
  have hlocks := B.notSynchronized
  have hTb := tx_table B (hts _ List.mem_cons_self)
  have hS : va_S (fw_A b 245) s.heap s.heap [] := va_S.rf
  have hl := lv_entry ([.ref (b + o1), .int a2, .ref (b + o3)]) (n := 4) (Nat.le_of_ble_eq_true rfl)
  rw [lg_entry_eq]
  generalize (lg_sl ([.ref (b + o1), .int a2, .ref (b + o3)]) ++ List.replicate (4 - (lg_sl ([.ref (b + o1), .int a2, .ref (b + o3)])).length) Slot.unset).toArray = ls at hl ⊢
  have hl : lv_has ls 4 [(0, .ref (b + o1)), (1, .int a2), (2, .ref (b + o3))] := hl
  have B15 : ∀ (S : fw_S) (pl0 : Int64) (p1 : Int32) (H : Heap) (locs : List Loc) (ls : Array Slot), wp_Law_lose_15 o1 a2 o3 post S pl0 p1 → fw_P D CL cA layU b 245 (fw_v TK layU b S) H → va_S (fw_A b 245) s.heap H locs → lv_has ls 4 [(0, .ref (b + o1)), (1, .int a2), (2, .ref (b + o3))] → W p l e (headSpec ww_Law_lose rm_Law_lose).room s m ([.ref (b + o1), .int a2, .ref (b + o3)] : List Value).toArray below meth c H locs 1 6 (MQ below (va_Qi (fun r S' => post S' r) (fw_B D CL cA TK layU b 245) (fw_A b 245)) ([.ref (b + o1), .int a2, .ref (b + o3)] : List Value).toArray s 1 6 (fw_A b 245)) (F0 m 15 ls [.long pl0, .int p1, .ref (b + o3)]) := by
      intro S pl0 p1 H locs ls hw hP hS hl
      unfold wp_Law_lose_15 at hw
      obtain ⟨h1, hw⟩ := hw
      refine fw_last hx hb hK hP hS (fw_A.in hq3.1) hq3 (by decide) 1 rfl tka_101 h1 dd_Law_lose_15 (fun H locs hP hS => ?_)
      obtain ⟨S2, e_S2⟩ : ∃ z, z = fw_sl S o3 p1.toNatClampNeg pl0 := ⟨_, rfl⟩
      rw [← e_S2] at hP
      have hw := hw S2 e_S2
      refine lv_goto (tgt := 22) hx hb dd_Law_lose_16 (by decide) ?_
      refine lv_iconst (v := 0) hx hb dd_Law_lose_22 kc_ic_0 ?_
      exact W.iret (v := 0) hx hb hr (fun t ht hW => ⟨⟨_, _, rfl, hw, fw_Bof ht hP⟩, hS.F ht⟩) hS.2.2 dd_Law_lose_23
  unfold wp_Law_lose at hw
  refine lv_aload_n hx hb dd_Law_lose_0 rfl (lv_at hl 2 rfl) ?_
  refine lv_iconst (v := 0) hx hb dd_Law_lose_1 kc_ic_0 ?_
  refine lv_aload_n hx hb dd_Law_lose_2 rfl (lv_at hl 0 rfl) ?_
  refine lv_iload_n hx hb dd_Law_lose_3 rfl (lv_at hl 1 rfl) ?_
  refine tx_calli (tx_runV (As := [.int a2]) (rest := [.int 0, .ref (b + o3)]) ⟨hx, hb, hml, hown, hts⟩ (mt_Out_lose l hl9 D cA b S o1 a2 hq1 _ _ hw) (cwV 1 hts (fw_gV tw_630 tw_627 tw_628 tw_629 tw_1) rfl rfl rfl (by decide +kernel) ⟨Nat.le_of_ble_eq_true rfl, Nat.le_of_ble_eq_true rfl⟩) (fw_preVX hP hK hZ hS hq1 (by decide) rfl) rfl rfl hl.1 rfl (lv_room (Nat.le_of_ble_eq_true rfl)) dd_Law_lose_4 ⟨Nat.le_of_ble_eq_true rfl, Nat.le_of_ble_eq_true rfl⟩) hS (fun k9 S9 q9 ce9 H locs hw hP hS hce => ?_) (fun S1 r2 H locs hw hP hS => ?_)
  · try dsimp only at hw
    obtain ⟨h9, hw⟩ := hw
    subst h9
    refine tx_catch (k := 1) hown [] ⟨0, 16, 19, 13⟩ [] (by rw [hTb]; rfl) (fun z hz => by cases hz) (by decide) (by decide) (hts _ (tb_in tw_322)) (va_Nw.use rfl hZ.2.2.1.1.1) hce ?_
    refine lv_astore_n hx hb dd_Law_lose_19 rfl hl (Nat.le_of_ble_eq_true rfl) rfl (fun ls hl => ?_)
    have hl : lv_has ls 4 [(3, .ref q9), (0, .ref (b + o1)), (1, .int a2), (2, .ref (b + o3))] := hl
    refine lv_iconst (v := 1) hx hb dd_Law_lose_20 kc_ic_1 ?_
    exact W.iret (v := 1) hx hb hr (fun t ht hW => ⟨⟨_, _, rfl, hw, fw_Bof ht hP⟩, hS.F ht⟩) hS.2.2 dd_Law_lose_21
  try dsimp only at hw
  refine lv_if_eq (tgt := 14) hx hb dd_Law_lose_7 (by decide) (fun h3 => ?_) (fun h3 => ?_)
  · have hw := hw.1 h3
    refine lv_lconst (v := 0) hx hb dd_Law_lose_14 kc_lc_0 ?_
    exact B15 S1 0 0 _ _ ls hw hP hS (lv_sub hl [0, 1, 2] rfl)
  · have hw := hw.2 h3
    refine lv_lconst (v := 1) hx hb dd_Law_lose_10 kc_lc_1 ?_
    refine lv_goto (tgt := 15) hx hb dd_Law_lose_11 (by decide) ?_
    exact B15 S1 1 0 _ _ ls hw hP hS (lv_sub hl [0, 1, 2] rfl)
theorem dd_Law_pass_0 : decode bb_Law_pass 0 = .ok (.aload_n 2, 1) := by decide +kernel
theorem dd_Law_pass_1 : decode bb_Law_pass 1 = .ok (.iconst 0, 1) := by decide +kernel
theorem dd_Law_pass_2 : decode bb_Law_pass 2 = .ok (.aload_n 0, 1) := by decide +kernel
theorem dd_Law_pass_3 : decode bb_Law_pass 3 = .ok (.iload_n 1, 1) := by decide +kernel
theorem dd_Law_pass_4 : decode bb_Law_pass 4 = .ok (.invokevirtual 60, 3) := by decide +kernel
theorem dd_Law_pass_12 : decode bb_Law_pass 12 = .ok (.astore_n 3, 1) := by decide +kernel
theorem dd_Law_pass_13 : decode bb_Law_pass 13 = .ok (.iconst 1, 1) := by decide +kernel
theorem dd_Law_pass_14 : decode bb_Law_pass 14 = .ok (.ireturn, 1) := by decide +kernel
theorem dd_Law_pass_7 : decode bb_Law_pass 7 = .ok (.i2l, 1) := by decide +kernel
theorem dd_Law_pass_8 : decode bb_Law_pass 8 = .ok (.lastore, 1) := by decide +kernel
theorem dd_Law_pass_9 : decode bb_Law_pass 9 = .ok (.goto 6, 3) := by decide +kernel
theorem dd_Law_pass_15 : decode bb_Law_pass 15 = .ok (.iconst 0, 1) := by decide +kernel
theorem dd_Law_pass_16 : decode bb_Law_pass 16 = .ok (.ireturn, 1) := by decide +kernel
def ww_Law_pass : List Cond := .codeWith yy_Law_pass bb_Law_pass 4 (some .int) [(0, 9, 12, 15)] :: TB
def rm_Law_pass : Room := { frames := 8, cells := 2, slots := 12, locals := 173 }
def wp_Law_pass (S : fw_S) (o1 : Nat) (a2 : Int32) (o3 : Nat) (post : fw_S → Int32 → Prop) : Prop := wp_Out_pass S o1 a2 (fun S1 r2 => vp_in 0 1 ∧ (∀ S4 : fw_S, S4 = fw_sl S1 o3 ((0 : Int32).toNatClampNeg) r2.toInt64 → post S4 0)) (fun k9 S9 => (k9 = 2 ∧ (post S9 1)))
set_option maxHeartbeats 4000000 in
set_option maxRecDepth 100000 in
theorem mt_Law_pass (l : Launch) (hl9 : l.stackTraces = false) (D : va_G) (cA : Nat → ClassId) (b : Nat) (S : fw_S) (o1 : Nat) (a2 : Int32) (o3 : Nat) (hq1 : o1 < 245 ∧ layU o1 = (0, 0)) (hq3 : o3 < 245 ∧ layU o3 = (101, 1)) (post : fw_S → Int32 → Prop) (hw : wp_Law_pass S o1 a2 o3 post) : Met l yy_Law_pass ww_Law_pass rm_Law_pass (fw_PcX D CL cA (TYS cA) TK layU b 245 S [.ref (b + o1), .int a2, .ref (b + o3)]) (va_Qi (fun r S' => post S' r) (fw_B D CL cA TK layU b 245) (fw_A b 245)) 2 12 (fw_A b 245) := by
  refine va_MetW (cc := bb_Law_pass) (maxL := 4) (ret := (some .int)) (hh := [(0, 9, 12, 15)]) (by decide) rfl ?_
  intro p e s m args below meth c s₁ B hml hv
  obtain ⟨rfl, hP, hK, hZ⟩ := hv
  have hx := B.exec
  have hb := B.bytes
  have hr := B.returns
  have hts := atoms_spec (ws := ww_Law_pass) B.pre
  have hown : s.vm.findClass "OutletOfficeLaw" = some m.cls := findClass_of_methodNamed B.named
  have hlocks := B.notSynchronized
  have hTb := tx_table B (hts _ List.mem_cons_self)
  have hS : va_S (fw_A b 245) s.heap s.heap [] := va_S.rf
  have hl := lv_entry ([.ref (b + o1), .int a2, .ref (b + o3)]) (n := 4) (Nat.le_of_ble_eq_true rfl)
  rw [lg_entry_eq]
  generalize (lg_sl ([.ref (b + o1), .int a2, .ref (b + o3)]) ++ List.replicate (4 - (lg_sl ([.ref (b + o1), .int a2, .ref (b + o3)])).length) Slot.unset).toArray = ls at hl ⊢
  have hl : lv_has ls 4 [(0, .ref (b + o1)), (1, .int a2), (2, .ref (b + o3))] := hl
  unfold wp_Law_pass at hw
  refine lv_aload_n hx hb dd_Law_pass_0 rfl (lv_at hl 2 rfl) ?_
  refine lv_iconst (v := 0) hx hb dd_Law_pass_1 kc_ic_0 ?_
  refine lv_aload_n hx hb dd_Law_pass_2 rfl (lv_at hl 0 rfl) ?_
  refine lv_iload_n hx hb dd_Law_pass_3 rfl (lv_at hl 1 rfl) ?_
  refine tx_calli (tx_runV (As := [.int a2]) (rest := [.int 0, .ref (b + o3)]) ⟨hx, hb, hml, hown, hts⟩ (mt_Out_pass l hl9 D cA b S o1 a2 hq1 _ _ hw) (cwV 1 hts (fw_gV tw_637 tw_634 tw_635 tw_636 tw_1) rfl rfl rfl (by decide +kernel) ⟨Nat.le_of_ble_eq_true rfl, Nat.le_of_ble_eq_true rfl⟩) (fw_preVX hP hK hZ hS hq1 (by decide) rfl) rfl rfl hl.1 rfl (lv_room (Nat.le_of_ble_eq_true rfl)) dd_Law_pass_4 ⟨Nat.le_of_ble_eq_true rfl, Nat.le_of_ble_eq_true rfl⟩) hS (fun k9 S9 q9 ce9 H locs hw hP hS hce => ?_) (fun S1 r2 H locs hw hP hS => ?_)
  · try dsimp only at hw
    obtain ⟨h9, hw⟩ := hw
    subst h9
    refine tx_catch (k := 2) hown [] ⟨0, 9, 12, 15⟩ [] (by rw [hTb]; rfl) (fun z hz => by cases hz) (by decide) (by decide) (hts _ (tb_in tw_323)) (va_Nw.use rfl hZ.2.2.1.1.2) hce ?_
    refine lv_astore_n hx hb dd_Law_pass_12 rfl hl (Nat.le_of_ble_eq_true rfl) rfl (fun ls hl => ?_)
    have hl : lv_has ls 4 [(3, .ref q9), (0, .ref (b + o1)), (1, .int a2), (2, .ref (b + o3))] := hl
    refine lv_iconst (v := 1) hx hb dd_Law_pass_13 kc_ic_1 ?_
    exact W.iret (v := 1) hx hb hr (fun t ht hW => ⟨⟨_, _, rfl, hw, fw_Bof ht hP⟩, hS.F ht⟩) hS.2.2 dd_Law_pass_14
  try dsimp only at hw
  refine lv_i2l hx hb dd_Law_pass_7 rfl ?_
  obtain ⟨h3, hw⟩ := hw
  refine fw_last hx hb hK hP hS (fw_A.in hq3.1) hq3 (by decide) 1 rfl tka_101 h3 dd_Law_pass_8 (fun H locs hP hS => ?_)
  obtain ⟨S4, e_S4⟩ : ∃ z, z = fw_sl S1 o3 ((0 : Int32).toNatClampNeg) r2.toInt64 := ⟨_, rfl⟩
  rw [← e_S4] at hP
  have hw := hw S4 e_S4
  refine lv_goto (tgt := 15) hx hb dd_Law_pass_9 (by decide) ?_
  refine lv_iconst (v := 0) hx hb dd_Law_pass_15 kc_ic_0 ?_
  exact W.iret (v := 0) hx hb hr (fun t ht hW => ⟨⟨_, _, rfl, hw, fw_Bof ht hP⟩, hS.F ht⟩) hS.2.2 dd_Law_pass_16
