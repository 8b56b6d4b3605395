theorem dd_Out_checkIndex_9 : decode bb_Out_checkIndex 9 = .ok (.new 226, 3) := by decide +kernel
theorem dd_Out_checkIndex_12 : decode bb_Out_checkIndex 12 = .ok (.dup, 1) := by decide +kernel
theorem dd_Out_checkIndex_13 : decode bb_Out_checkIndex 13 = .ok (.ldc 228, 2) := by decide +kernel
theorem dd_Out_checkIndex_15 : decode bb_Out_checkIndex 15 = .ok (.invokespecial 230, 3) := by decide +kernel
theorem dd_Out_checkIndex_18 : decode bb_Out_checkIndex 18 = .ok (.athrow, 1) := by decide +kernel
theorem dd_Out_checkIndex_0 : decode bb_Out_checkIndex 0 = .ok (.iload_n 0, 1) := by decide +kernel
theorem dd_Out_checkIndex_1 : decode bb_Out_checkIndex 1 = .ok (.ifCond .lt 8, 3) := by decide +kernel
theorem dd_Out_checkIndex_4 : decode bb_Out_checkIndex 4 = .ok (.iload_n 0, 1) := by decide +kernel
theorem dd_Out_checkIndex_5 : decode bb_Out_checkIndex 5 = .ok (.iload_n 1, 1) := by decide +kernel
theorem dd_Out_checkIndex_6 : decode bb_Out_checkIndex 6 = .ok (.if_icmp .lt 13, 3) := by decide +kernel
theorem dd_Out_checkIndex_19 : decode bb_Out_checkIndex 19 = .ok (.return_, 1) := by decide +kernel
def ww_Out_checkIndex : List Cond := .code yy_Out_checkIndex bb_Out_checkIndex 2 none :: TB
def rm_Out_checkIndex : Room := { frames := 6, cells := 1, slots := 6, locals := 100 }
def wp_Out_checkIndex_9 (a1 : Int32) (a2 : Int32) (post : fw_S → Prop) (px : Nat → fw_S → Prop) (S : fw_S) : Prop := px 1 S
def wp_Out_checkIndex (S : fw_S) (a1 : Int32) (a2 : Int32) (post : fw_S → Prop) (px : Nat → fw_S → Prop) : Prop := (((a1 < 0) → wp_Out_checkIndex_9 a1 a2 post px S) ∧ (¬ (a1 < 0) → (((a1 < a2) → post S) ∧ (¬ (a1 < a2) → wp_Out_checkIndex_9 a1 a2 post px S))))
set_option maxHeartbeats 4000000 in
set_option maxRecDepth 100000 in
theorem mt_Out_checkIndex (l : Launch) (hl9 : l.stackTraces = false) (D : va_G) (cA : Nat → ClassId) (b : Nat) (S : fw_S) (a1 : Int32) (a2 : Int32) (post : fw_S → Prop) (px : Nat → fw_S → Prop) (hw : wp_Out_checkIndex S a1 a2 post px) : tx_Met l yy_Out_checkIndex ww_Out_checkIndex rm_Out_checkIndex (fw_PcX D CL cA (TYS cA) TK layU b 245 S [.int a1, .int a2]) (va_Qv post (fw_B D CL cA TK layU b 245) (fw_A b 245)) (fw_X D CL cA TK layU b 245 px) 1 6 (fw_A b 245) := by
  refine tx_ofW (cc := bb_Out_checkIndex) (maxL := 2) (ret := none) (by decide) rfl ?_
  intro p e s m args below meth c s₁ B hml hTab hv
  obtain ⟨rfl, hP, hK, hZ⟩ := hv
  have hx := B.exec
  have hb := B.bytes
  have hr := B.returns
  have hts := atoms_spec (ws := ww_Out_checkIndex) B.pre
  have hown : s.vm.findClass "OutletOffice" = some m.cls := findClass_of_methodNamed B.named
  have hlocks := B.notSynchronized
  have hS : va_S (fw_A b 245) s.heap s.heap [] := va_S.rf
  have hl := lv_entry ([.int a1, .int a2]) (n := 2) (Nat.le_of_ble_eq_true rfl)
  rw [lg_entry_eq]
  generalize (lg_sl ([.int a1, .int a2]) ++ List.replicate (2 - (lg_sl ([.int a1, .int a2])).length) Slot.unset).toArray = ls at hl ⊢
  have hl : lv_has ls 2 [(0, .int a1), (1, .int a2)] := hl
  have B9 : ∀ (S : fw_S) (ls : Array Slot), wp_Out_checkIndex_9 a1 a2 post px S → fw_P D CL cA layU b 245 (fw_v TK layU b S) s.heap → va_S (fw_A b 245) s.heap s.heap [] → lv_has ls 2 [(0, .int a1), (1, .int a2)] → W p l e (headSpec ww_Out_checkIndex rm_Out_checkIndex).room s m ([.int a1, .int a2] : List Value).toArray below meth c s.heap [] 0 0 (tx_MQ below (va_Qv post (fw_B D CL cA TK layU b 245) (fw_A b 245)) (fw_X D CL cA TK layU b 245 px) ([.int a1, .int a2] : List Value).toArray s 1 6 (fw_A b 245)) (F0 m 9 ls []) := by
      intro S ls hw hP hS hl
      unfold wp_Out_checkIndex_9 at hw
      exact tx_throw (k := 1) hx hb hl9 hown (by decide +kernel) (by decide +kernel) (hts _ (tb_in tw_331)) (hts _ (tb_in tw_15)) hZ.2.1.1 (tz_at hts hZ tz_own1) (hl.1.trans hml.symm) dd_Out_checkIndex_9 dd_Out_checkIndex_12 dd_Out_checkIndex_13 dd_Out_checkIndex_15 dd_Out_checkIndex_18 hTab (Nat.le_of_ble_eq_true rfl) (Nat.le_of_ble_eq_true rfl) (Nat.le_of_ble_eq_true rfl) (Nat.le_of_ble_eq_true rfl) hlocks rfl (fun t h1 h2 => ⟨⟨_, hw, hP.ext h2⟩, h1, fun q h3 _ => h2 q h3⟩) (Nat.le_of_ble_eq_true rfl) (Nat.le_of_ble_eq_true rfl)
  unfold wp_Out_checkIndex at hw
  refine lv_iload_n hx hb dd_Out_checkIndex_0 rfl (lv_at hl 0 rfl) ?_
  refine lv_if_lt (tgt := 9) hx hb dd_Out_checkIndex_1 (by decide) (fun h1 => ?_) (fun h1 => ?_)
  · have hw := hw.1 h1
    exact B9 S ls hw hP hS (lv_sub hl [0, 1] rfl)
  · have hw := hw.2 h1
    refine lv_iload_n hx hb dd_Out_checkIndex_4 rfl (lv_at hl 0 rfl) ?_
    refine lv_iload_n hx hb dd_Out_checkIndex_5 rfl (lv_at hl 1 rfl) ?_
    refine lv_icmp_lt (tgt := 19) hx hb dd_Out_checkIndex_6 (by decide) (fun h2 => ?_) (fun h2 => ?_)
    · have hw := hw.1 h2
      refine W.widen (k := 1) (n := 6) (Nat.le_of_ble_eq_true rfl) (Nat.le_of_ble_eq_true rfl) ?_
      refine tx_ret ?_
      exact W.vret hx hb hr (fun t ht hW => ⟨⟨_, rfl, hw, fw_Bof ht hP⟩, hS.F ht⟩) hS.2.2 dd_Out_checkIndex_19
    · have hw := hw.2 h2
      exact B9 S ls hw hP hS (lv_sub hl [0, 1] rfl)
theorem dd_Out_checkNumber_10 : decode bb_Out_checkNumber 10 = .ok (.new 233, 3) := by decide +kernel
theorem dd_Out_checkNumber_13 : decode bb_Out_checkNumber 13 = .ok (.dup, 1) := by decide +kernel
theorem dd_Out_checkNumber_14 : decode bb_Out_checkNumber 14 = .ok (.ldc 235, 2) := by decide +kernel
theorem dd_Out_checkNumber_16 : decode bb_Out_checkNumber 16 = .ok (.invokespecial 237, 3) := by decide +kernel
theorem dd_Out_checkNumber_19 : decode bb_Out_checkNumber 19 = .ok (.athrow, 1) := by decide +kernel
theorem dd_Out_checkNumber_0 : decode bb_Out_checkNumber 0 = .ok (.iload_n 0, 1) := by decide +kernel
theorem dd_Out_checkNumber_1 : decode bb_Out_checkNumber 1 = .ok (.iload_n 1, 1) := by decide +kernel
theorem dd_Out_checkNumber_2 : decode bb_Out_checkNumber 2 = .ok (.if_icmp .lt 8, 3) := by decide +kernel
theorem dd_Out_checkNumber_5 : decode bb_Out_checkNumber 5 = .ok (.iload_n 0, 1) := by decide +kernel
theorem dd_Out_checkNumber_6 : decode bb_Out_checkNumber 6 = .ok (.iload_n 2, 1) := by decide +kernel
theorem dd_Out_checkNumber_7 : decode bb_Out_checkNumber 7 = .ok (.if_icmp .le 13, 3) := by decide +kernel
theorem dd_Out_checkNumber_20 : decode bb_Out_checkNumber 20 = .ok (.return_, 1) := by decide +kernel
def ww_Out_checkNumber : List Cond := .code yy_Out_checkNumber bb_Out_checkNumber 3 none :: TB
def rm_Out_checkNumber : Room := { frames := 6, cells := 1, slots := 6, locals := 100 }
def wp_Out_checkNumber_10 (a1 : Int32) (a2 : Int32) (a3 : Int32) (post : fw_S → Prop) (px : Nat → fw_S → Prop) (S : fw_S) : Prop := px 2 S
def wp_Out_checkNumber (S : fw_S) (a1 : Int32) (a2 : Int32) (a3 : Int32) (post : fw_S → Prop) (px : Nat → fw_S → Prop) : Prop := (((a1 < a2) → wp_Out_checkNumber_10 a1 a2 a3 post px S) ∧ (¬ (a1 < a2) → (((a1 ≤ a3) → post S) ∧ (¬ (a1 ≤ a3) → wp_Out_checkNumber_10 a1 a2 a3 post px S))))
set_option maxHeartbeats 4000000 in
set_option maxRecDepth 100000 in
theorem mt_Out_checkNumber (l : Launch) (hl9 : l.stackTraces = false) (D : va_G) (cA : Nat → ClassId) (b : Nat) (S : fw_S) (a1 : Int32) (a2 : Int32) (a3 : Int32) (post : fw_S → Prop) (px : Nat → fw_S → Prop) (hw : wp_Out_checkNumber S a1 a2 a3 post px) : tx_Met l yy_Out_checkNumber ww_Out_checkNumber rm_Out_checkNumber (fw_PcX D CL cA (TYS cA) TK layU b 245 S [.int a1, .int a2, .int a3]) (va_Qv post (fw_B D CL cA TK layU b 245) (fw_A b 245)) (fw_X D CL cA TK layU b 245 px) 1 6 (fw_A b 245) := by
  refine tx_ofW (cc := bb_Out_checkNumber) (maxL := 3) (ret := none) (by decide) rfl ?_
  intro p e s m args below meth c s₁ B hml hTab hv
  obtain ⟨rfl, hP, hK, hZ⟩ := hv
  have hx := B.exec
  have hb := B.bytes
  have hr := B.returns
  have hts := atoms_spec (ws := ww_Out_checkNumber) B.pre
  have hown : s.vm.findClass "OutletOffice" = some m.cls := findClass_of_methodNamed B.named
  have hlocks := B.notSynchronized
  have hS : va_S (fw_A b 245) s.heap s.heap [] := va_S.rf
  have hl := lv_entry ([.int a1, .int a2, .int a3]) (n := 3) (Nat.le_of_ble_eq_true rfl)
  rw [lg_entry_eq]
  generalize (lg_sl ([.int a1, .int a2, .int a3]) ++ List.replicate (3 - (lg_sl ([.int a1, .int a2, .int a3])).length) Slot.unset).toArray = ls at hl ⊢
  have hl : lv_has ls 3 [(0, .int a1), (1, .int a2), (2, .int a3)] := hl
  have B10 : ∀ (S : fw_S) (ls : Array Slot), wp_Out_checkNumber_10 a1 a2 a3 post px S → fw_P D CL cA layU b 245 (fw_v TK layU b S) s.heap → va_S (fw_A b 245) s.heap s.heap [] → lv_has ls 3 [(0, .int a1), (1, .int a2), (2, .int a3)] → W p l e (headSpec ww_Out_checkNumber rm_Out_checkNumber).room s m ([.int a1, .int a2, .int a3] : List Value).toArray below meth c s.heap [] 0 0 (tx_MQ below (va_Qv post (fw_B D CL cA TK layU b 245) (fw_A b 245)) (fw_X D CL cA TK layU b 245 px) ([.int a1, .int a2, .int a3] : List Value).toArray s 1 6 (fw_A b 245)) (F0 m 10 ls []) := by
      intro S ls hw hP hS hl
      unfold wp_Out_checkNumber_10 at hw
      exact tx_throw (k := 2) hx hb hl9 hown (by decide +kernel) (by decide +kernel) (hts _ (tb_in tw_401)) (hts _ (tb_in tw_16)) hZ.2.1.2 (tz_at hts hZ tz_own2) (hl.1.trans hml.symm) dd_Out_checkNumber_10 dd_Out_checkNumber_13 dd_Out_checkNumber_14 dd_Out_checkNumber_16 dd_Out_checkNumber_19 hTab (Nat.le_of_ble_eq_true rfl) (Nat.le_of_ble_eq_true rfl) (Nat.le_of_ble_eq_true rfl) (Nat.le_of_ble_eq_true rfl) hlocks rfl (fun t h1 h2 => ⟨⟨_, hw, hP.ext h2⟩, h1, fun q h3 _ => h2 q h3⟩) (Nat.le_of_ble_eq_true rfl) (Nat.le_of_ble_eq_true rfl)
  unfold wp_Out_checkNumber at hw
  refine lv_iload_n hx hb dd_Out_checkNumber_0 rfl (lv_at hl 0 rfl) ?_
  refine lv_iload_n hx hb dd_Out_checkNumber_1 rfl (lv_at hl 1 rfl) ?_
  refine lv_icmp_lt (tgt := 10) hx hb dd_Out_checkNumber_2 (by decide) (fun h1 => ?_) (fun h1 => ?_)
  · have hw := hw.1 h1
    exact B10 S ls hw hP hS (lv_sub hl [0, 1, 2] rfl)
  · have hw := hw.2 h1
    refine lv_iload_n hx hb dd_Out_checkNumber_5 rfl (lv_at hl 0 rfl) ?_
    refine lv_iload_n hx hb dd_Out_checkNumber_6 rfl (lv_at hl 2 rfl) ?_
    refine lv_icmp_le (tgt := 20) hx hb dd_Out_checkNumber_7 (by decide) (fun h2 => ?_) (fun h2 => ?_)
    · have hw := hw.1 h2
      refine W.widen (k := 1) (n := 6) (Nat.le_of_ble_eq_true rfl) (Nat.le_of_ble_eq_true rfl) ?_
      refine tx_ret ?_
      exact W.vret hx hb hr (fun t ht hW => ⟨⟨_, rfl, hw, fw_Bof ht hP⟩, hS.F ht⟩) hS.2.2 dd_Out_checkNumber_20
    · have hw := hw.2 h2
      exact B10 S ls hw hP hS (lv_sub hl [0, 1, 2] rfl)
theorem dd_Out_limit_0 : decode bb_Out_limit 0 = .ok (.iload_n 1, 1) := by decide +kernel
theorem dd_Out_limit_1 : decode bb_Out_limit 1 = .ok (.iconst 2, 1) := by decide +kernel
theorem dd_Out_limit_2 : decode bb_Out_limit 2 = .ok (.invokestatic 27, 3) := by decide +kernel
theorem dd_Out_limit_5 : decode bb_Out_limit 5 = .ok (.iload_n 2, 1) := by decide +kernel
theorem dd_Out_limit_6 : decode bb_Out_limit 6 = .ok (.iconst 0, 1) := by decide +kernel
theorem dd_Out_limit_7 : decode bb_Out_limit 7 = .ok (.sipush 2000, 3) := by decide +kernel
theorem dd_Out_limit_10 : decode bb_Out_limit 10 = .ok (.invokestatic 31, 3) := by decide +kernel
theorem dd_Out_limit_13 : decode bb_Out_limit 13 = .ok (.aload_n 0, 1) := by decide +kernel
theorem dd_Out_limit_14 : decode bb_Out_limit 14 = .ok (.getfield 11, 3) := by decide +kernel
theorem dd_Out_limit_17 : decode bb_Out_limit 17 = .ok (.iload_n 1, 1) := by decide +kernel
theorem dd_Out_limit_18 : decode bb_Out_limit 18 = .ok (.aaload, 1) := by decide +kernel
theorem dd_Out_limit_19 : decode bb_Out_limit 19 = .ok (.iload_n 2, 1) := by decide +kernel
theorem dd_Out_limit_20 : decode bb_Out_limit 20 = .ok (.putfield 35, 3) := by decide +kernel
theorem dd_Out_limit_23 : decode bb_Out_limit 23 = .ok (.return_, 1) := by decide +kernel
def ww_Out_limit : List Cond := .code yy_Out_limit bb_Out_limit 3 none :: TB
def rm_Out_limit : Room := { frames := 7, cells := 2, slots := 12, locals := 122 }
def wp_Out_limit (S : fw_S) (o : Nat) (a1 : Int32) (a2 : Int32) (post : fw_S → Prop) (px : Nat → fw_S → Prop) : Prop := wp_Out_checkIndex S a1 2 (fun S1 => wp_Out_checkNumber S1 a2 0 2000 (fun S2 => vp_in a1 2 ∧ (∀ S4 : fw_S, S4 = fw_si S2 ((o + 1) + (18 + 95 * a1.toNatClampNeg)) 1 a2 → post S4)) px) px
set_option maxHeartbeats 4000000 in
set_option maxRecDepth 100000 in
theorem mt_Out_limit (l : Launch) (hl9 : l.stackTraces = false) (D : va_G) (cA : Nat → ClassId) (b : Nat) (S : fw_S) (o : Nat) (a1 : Int32) (a2 : Int32) (ho : o < 245 ∧ layU o = (0, 0)) (post : fw_S → Prop) (px : Nat → fw_S → Prop) (hw : wp_Out_limit S o a1 a2 post px) : tx_Met l yy_Out_limit ww_Out_limit rm_Out_limit (fw_PcX D CL cA (TYS cA) TK layU b 245 S [.ref (b + o), .int a1, .int a2]) (va_Qv post (fw_B D CL cA TK layU b 245) (fw_A b 245)) (fw_X D CL cA TK layU b 245 px) 2 12 (fw_A b 245) := by
  refine tx_ofW (cc := bb_Out_limit) (maxL := 3) (ret := none) (by decide) rfl ?_
  intro p e s m args below meth c s₁ B hml hTab hv
  obtain ⟨rfl, hP, hK, hZ⟩ := hv
  have hx := B.exec
  have hb := B.bytes
  have hr := B.returns
  have hts := atoms_spec (ws := ww_Out_limit) B.pre
  have hown : s.vm.findClass "OutletOffice" = some m.cls := findClass_of_methodNamed B.named
  have hlocks := B.notSynchronized
  have hS : va_S (fw_A b 245) s.heap s.heap [] := va_S.rf
  have hl := lv_entry ([.ref (b + o), .int a1, .int a2]) (n := 3) (Nat.le_of_ble_eq_true rfl)
  rw [lg_entry_eq]
  generalize (lg_sl ([.ref (b + o), .int a1, .int a2]) ++ List.replicate (3 - (lg_sl ([.ref (b + o), .int a1, .int a2])).length) Slot.unset).toArray = ls at hl ⊢
  have hl : lv_has ls 3 [(0, .ref (b + o)), (1, .int a1), (2, .int a2)] := hl
  unfold wp_Out_limit at hw
  refine lv_iload_n hx hb dd_Out_limit_0 rfl (lv_at hl 1 rfl) ?_
  refine lv_iconst (v := 2) hx hb dd_Out_limit_1 kc_ic_2 ?_
  refine tx_callv (tx_runS (As := [.int a1, .int 2]) (rest := []) ⟨hx, hb, hml, hown, hts⟩ (mt_Out_checkIndex l hl9 D cA b S a1 2 _ _ hw) (cwS 2 hts (fw_gS tw_330 tw_328 tw_329 tw_1) rfl rfl rfl (by decide +kernel) ⟨Nat.le_of_ble_eq_true rfl, Nat.le_of_ble_eq_true rfl⟩) (fw_preSX hP hK hZ hS) rfl rfl hl.1 rfl (lv_room (Nat.le_of_ble_eq_true rfl)) dd_Out_limit_2 ⟨Nat.le_of_ble_eq_true rfl, Nat.le_of_ble_eq_true rfl⟩) hS (fun k9 S9 q9 ce9 H locs hw hP hS hce => tx_outF hTab hlocks hw hP hS hce (Nat.le_of_ble_eq_true rfl) (Nat.le_of_ble_eq_true rfl)) (fun S1 H locs hw hP hS => ?_)
  try dsimp only at hw
  refine lv_iload_n hx hb dd_Out_limit_5 rfl (lv_at hl 2 rfl) ?_
  refine lv_iconst (v := 0) hx hb dd_Out_limit_6 kc_ic_0 ?_
  refine lv_sipush (v := 2000) hx hb dd_Out_limit_7 kc_sp_2000 ?_
  refine tx_callv (tx_runS (As := [.int a2, .int 0, .int 2000]) (rest := []) ⟨hx, hb, hml, hown, hts⟩ (mt_Out_checkNumber l hl9 D cA b S1 a2 0 2000 _ _ hw) (cwS 3 hts (fw_gS tw_400 tw_398 tw_399 tw_1) rfl rfl rfl (by decide +kernel) ⟨Nat.le_of_ble_eq_true rfl, Nat.le_of_ble_eq_true rfl⟩) (fw_preSX hP hK hZ hS) rfl rfl hl.1 rfl (lv_room (Nat.le_of_ble_eq_true rfl)) dd_Out_limit_10 ⟨Nat.le_of_ble_eq_true rfl, Nat.le_of_ble_eq_true rfl⟩) hS (fun k9 S9 q9 ce9 H locs hw hP hS hce => tx_outF hTab hlocks hw hP hS hce (Nat.le_of_ble_eq_true rfl) (Nat.le_of_ble_eq_true rfl)) (fun S2 H locs hw hP hS => ?_)
  try dsimp only at hw
  refine lv_aload_n hx hb dd_Out_limit_13 rfl (lv_at hl 0 rfl) ?_
  refine fw_getr hx hb hts in_0 hown hK hP ho (by decide) rfl 0 (by decide) (hts _ (tb_in tw_301)) tk_0_0 dd_Out_limit_14 ?_
  refine lv_iload_n hx hb dd_Out_limit_17 rfl (lv_at hl 1 rfl) ?_
  obtain ⟨h3, hw⟩ := hw
  refine fw_aald hx hb hK hP (lf_0_0 ho) (by decide) 3 rfl (tka_103 _) h3 dd_Out_limit_18 ?_
  refine lv_iload_n hx hb dd_Out_limit_19 rfl (lv_at hl 2 rfl) ?_
  refine fw_puti hx hb hts in_1 F_ty_1 F_tyok_1 F_nm_1 hown hK hP hS (fw_A.in (le_103 (lf_0_0 ho) (fw_lt h3)).1) (le_103 (lf_0_0 ho) (fw_lt h3)) (by decide) rfl 1 (by decide) (hts _ (tb_in tw_295)) rfl tk_1_1 (ty := .int) (by decide +kernel) rfl rfl dd_Out_limit_20 (fun H locs hP hS => ?_)
  obtain ⟨S4, e_S4⟩ : ∃ z, z = fw_si S2 ((o + 1) + (18 + 95 * a1.toNatClampNeg)) 1 a2 := ⟨_, rfl⟩
  rw [← e_S4] at hP
  have hw := hw S4 e_S4
  refine tx_ret ?_
  exact W.vret hx hb hr (fun t ht hW => ⟨⟨_, rfl, hw, fw_Bof ht hP⟩, hS.F ht⟩) hS.2.2 dd_Out_limit_23
theorem dd_Out_band_0 : decode bb_Out_band 0 = .ok (.iload_n 1, 1) := by decide +kernel
theorem dd_Out_band_1 : decode bb_Out_band 1 = .ok (.iconst 4, 1) := by decide +kernel
theorem dd_Out_band_2 : decode bb_Out_band 2 = .ok (.invokestatic 27, 3) := by decide +kernel
theorem dd_Out_band_5 : decode bb_Out_band 5 = .ok (.iload_n 2, 1) := by decide +kernel
theorem dd_Out_band_6 : decode bb_Out_band 6 = .ok (.iconst 0, 1) := by decide +kernel
theorem dd_Out_band_7 : decode bb_Out_band 7 = .ok (.sipush 1439, 3) := by decide +kernel
theorem dd_Out_band_10 : decode bb_Out_band 10 = .ok (.invokestatic 31, 3) := by decide +kernel
theorem dd_Out_band_13 : decode bb_Out_band 13 = .ok (.iload_n 3, 1) := by decide +kernel
theorem dd_Out_band_14 : decode bb_Out_band 14 = .ok (.iconst 0, 1) := by decide +kernel
theorem dd_Out_band_15 : decode bb_Out_band 15 = .ok (.ldc 38, 2) := by decide +kernel
theorem dd_Out_band_17 : decode bb_Out_band 17 = .ok (.invokestatic 31, 3) := by decide +kernel
theorem dd_Out_band_20 : decode bb_Out_band 20 = .ok (.aload_n 0, 1) := by decide +kernel
theorem dd_Out_band_21 : decode bb_Out_band 21 = .ok (.getfield 18, 3) := by decide +kernel
theorem dd_Out_band_24 : decode bb_Out_band 24 = .ok (.getfield 39, 3) := by decide +kernel
theorem dd_Out_band_27 : decode bb_Out_band 27 = .ok (.iload_n 1, 1) := by decide +kernel
theorem dd_Out_band_28 : decode bb_Out_band 28 = .ok (.iload_n 2, 1) := by decide +kernel
theorem dd_Out_band_29 : decode bb_Out_band 29 = .ok (.iload_n 3, 1) := by decide +kernel
theorem dd_Out_band_30 : decode bb_Out_band 30 = .ok (.invokevirtual 43, 3) := by decide +kernel
theorem dd_Out_band_33 : decode bb_Out_band 33 = .ok (.return_, 1) := by decide +kernel
def ww_Out_band : List Cond := .code yy_Out_band bb_Out_band 4 none :: TB
def rm_Out_band : Room := { frames := 7, cells := 3, slots := 18, locals := 122 }
def wp_Out_band (S : fw_S) (o : Nat) (a1 : Int32) (a2 : Int32) (a3 : Int32) (post : fw_S → Prop) (px : Nat → fw_S → Prop) : Prop := wp_Out_checkIndex S a1 4 (fun S1 => wp_Out_checkNumber S1 a2 0 1439 (fun S2 => wp_Out_checkNumber S2 a3 0 100000 (fun S3 => wp_Tariff_setBand S3 ((o + 2) + 4) a1 a2 a3 (fun S4 => post S4)) px) px) px
set_option maxHeartbeats 4000000 in
set_option maxRecDepth 100000 in
theorem mt_Out_band (l : Launch) (hl9 : l.stackTraces = false) (D : va_G) (cA : Nat → ClassId) (b : Nat) (S : fw_S) (o : Nat) (a1 : Int32) (a2 : Int32) (a3 : Int32) (ho : o < 245 ∧ layU o = (0, 0)) (post : fw_S → Prop) (px : Nat → fw_S → Prop) (hw : wp_Out_band S o a1 a2 a3 post px) : tx_Met l yy_Out_band ww_Out_band rm_Out_band (fw_PcX D CL cA (TYS cA) TK layU b 245 S [.ref (b + o), .int a1, .int a2, .int a3]) (va_Qv post (fw_B D CL cA TK layU b 245) (fw_A b 245)) (fw_X D CL cA TK layU b 245 px) 3 18 (fw_A b 245) := by
  refine tx_ofW (cc := bb_Out_band) (maxL := 4) (ret := none) (by decide) rfl ?_
  intro p e s m args below meth c s₁ B hml hTab hv
  obtain ⟨rfl, hP, hK, hZ⟩ := hv
  have hx := B.exec
  have hb := B.bytes
  have hr := B.returns
  have hts := atoms_spec (ws := ww_Out_band) B.pre
  have hown : s.vm.findClass "OutletOffice" = some m.cls := findClass_of_methodNamed B.named
  have hlocks := B.notSynchronized
  have hS : va_S (fw_A b 245) s.heap s.heap [] := va_S.rf
  have hl := lv_entry ([.ref (b + o), .int a1, .int a2, .int a3]) (n := 4) (Nat.le_of_ble_eq_true rfl)
  rw [lg_entry_eq]
  generalize (lg_sl ([.ref (b + o), .int a1, .int a2, .int a3]) ++ List.replicate (4 - (lg_sl ([.ref (b + o), .int a1, .int a2, .int a3])).length) Slot.unset).toArray = ls at hl ⊢
  have hl : lv_has ls 4 [(0, .ref (b + o)), (1, .int a1), (2, .int a2), (3, .int a3)] := hl
  unfold wp_Out_band at hw
  refine lv_iload_n hx hb dd_Out_band_0 rfl (lv_at hl 1 rfl) ?_
  refine lv_iconst (v := 4) hx hb dd_Out_band_1 kc_ic_4 ?_
  refine tx_callv (tx_runS (As := [.int a1, .int 4]) (rest := []) ⟨hx, hb, hml, hown, hts⟩ (mt_Out_checkIndex l hl9 D cA b S a1 4 _ _ hw) (cwS 2 hts (fw_gS tw_330 tw_328 tw_329 tw_1) rfl rfl rfl (by decide +kernel) ⟨Nat.le_of_ble_eq_true rfl, Nat.le_of_ble_eq_true rfl⟩) (fw_preSX hP hK hZ hS) rfl rfl hl.1 rfl (lv_room (Nat.le_of_ble_eq_true rfl)) dd_Out_band_2 ⟨Nat.le_of_ble_eq_true rfl, Nat.le_of_ble_eq_true rfl⟩) hS (fun k9 S9 q9 ce9 H locs hw hP hS hce => tx_outF hTab hlocks hw hP hS hce (Nat.le_of_ble_eq_true rfl) (Nat.le_of_ble_eq_true rfl)) (fun S1 H locs hw hP hS => ?_)
  try dsimp only at hw
  refine lv_iload_n hx hb dd_Out_band_5 rfl (lv_at hl 2 rfl) ?_
  refine lv_iconst (v := 0) hx hb dd_Out_band_6 kc_ic_0 ?_
  refine lv_sipush (v := 1439) hx hb dd_Out_band_7 kc_sp_1439 ?_
  refine tx_callv (tx_runS (As := [.int a2, .int 0, .int 1439]) (rest := []) ⟨hx, hb, hml, hown, hts⟩ (mt_Out_checkNumber l hl9 D cA b S1 a2 0 1439 _ _ hw) (cwS 3 hts (fw_gS tw_400 tw_398 tw_399 tw_1) rfl rfl rfl (by decide +kernel) ⟨Nat.le_of_ble_eq_true rfl, Nat.le_of_ble_eq_true rfl⟩) (fw_preSX hP hK hZ hS) rfl rfl hl.1 rfl (lv_room (Nat.le_of_ble_eq_true rfl)) dd_Out_band_10 ⟨Nat.le_of_ble_eq_true rfl, Nat.le_of_ble_eq_true rfl⟩) hS (fun k9 S9 q9 ce9 H locs hw hP hS hce => tx_outF hTab hlocks hw hP hS hce (Nat.le_of_ble_eq_true rfl) (Nat.le_of_ble_eq_true rfl)) (fun S2 H locs hw hP hS => ?_)
  try dsimp only at hw
  refine lv_iload_n hx hb dd_Out_band_13 rfl (lv_at hl 3 rfl) ?_
  refine lv_iconst (v := 0) hx hb dd_Out_band_14 kc_ic_0 ?_
  refine lv_ldc (v := 100000) hx hb hown (hts _ (tb_in tw_424)) dd_Out_band_15 ?_
  refine tx_callv (tx_runS (As := [.int a3, .int 0, .int 100000]) (rest := []) ⟨hx, hb, hml, hown, hts⟩ (mt_Out_checkNumber l hl9 D cA b S2 a3 0 100000 _ _ hw) (cwS 3 hts (fw_gS tw_400 tw_398 tw_399 tw_1) rfl rfl rfl (by decide +kernel) ⟨Nat.le_of_ble_eq_true rfl, Nat.le_of_ble_eq_true rfl⟩) (fw_preSX hP hK hZ hS) rfl rfl hl.1 rfl (lv_room (Nat.le_of_ble_eq_true rfl)) dd_Out_band_17 ⟨Nat.le_of_ble_eq_true rfl, Nat.le_of_ble_eq_true rfl⟩) hS (fun k9 S9 q9 ce9 H locs hw hP hS hce => tx_outF hTab hlocks hw hP hS hce (Nat.le_of_ble_eq_true rfl) (Nat.le_of_ble_eq_true rfl)) (fun S3 H locs hw hP hS => ?_)
  try dsimp only at hw
  refine lv_aload_n hx hb dd_Out_band_20 rfl (lv_at hl 0 rfl) ?_
  refine fw_getr hx hb hts in_0 hown hK hP ho (by decide) rfl 1 (by decide) (hts _ (tb_in tw_302)) tk_0_1 dd_Out_band_21 ?_
  refine fw_getr hx hb hts in_9 hown hK hP (lf_0_1 ho) (by decide) rfl 1 (by decide) (hts _ (tb_in tw_114)) tk_9_1 dd_Out_band_24 ?_
  refine lv_iload_n hx hb dd_Out_band_27 rfl (lv_at hl 1 rfl) ?_
  refine lv_iload_n hx hb dd_Out_band_28 rfl (lv_at hl 2 rfl) ?_
  refine lv_iload_n hx hb dd_Out_band_29 rfl (lv_at hl 3 rfl) ?_
  refine fw_callv (va_runV (As := [.int a1, .int a2, .int a3]) (rest := []) ⟨hx, hb, hml, hown, hts⟩ (mt_Tariff_setBand l D cA b S3 ((o + 2) + 4) a1 a2 a3 (lf_9_1 (lf_0_1 ho)) _ hw) (cwV 3 hts (fw_gV tw_428 tw_425 tw_426 tw_427 tw_4) rfl rfl rfl (by decide +kernel) ⟨Nat.le_of_ble_eq_true rfl, Nat.le_of_ble_eq_true rfl⟩) (fw_preV hP hK (lf_9_1 (lf_0_1 ho)) (by decide) rfl) rfl rfl hl.1 rfl (lv_room (Nat.le_of_ble_eq_true rfl)) dd_Out_band_30 ⟨Nat.le_of_ble_eq_true rfl, Nat.le_of_ble_eq_true rfl⟩) hS (fun S4 H locs hw hP hS => ?_)
  try dsimp only at hw
  refine tx_ret ?_
  exact W.vret hx hb hr (fun t ht hW => ⟨⟨_, rfl, hw, fw_Bof ht hP⟩, hS.F ht⟩) hS.2.2 dd_Out_band_33
theorem dd_Out_fees_0 : decode bb_Out_fees 0 = .ok (.iload_n 1, 1) := by decide +kernel
theorem dd_Out_fees_1 : decode bb_Out_fees 1 = .ok (.iconst 0, 1) := by decide +kernel
theorem dd_Out_fees_2 : decode bb_Out_fees 2 = .ok (.ldc 48, 2) := by decide +kernel
theorem dd_Out_fees_4 : decode bb_Out_fees 4 = .ok (.invokestatic 31, 3) := by decide +kernel
theorem dd_Out_fees_7 : decode bb_Out_fees 7 = .ok (.iload_n 2, 1) := by decide +kernel
theorem dd_Out_fees_8 : decode bb_Out_fees 8 = .ok (.iconst 0, 1) := by decide +kernel
theorem dd_Out_fees_9 : decode bb_Out_fees 9 = .ok (.ldc 48, 2) := by decide +kernel
theorem dd_Out_fees_11 : decode bb_Out_fees 11 = .ok (.invokestatic 31, 3) := by decide +kernel
theorem dd_Out_fees_14 : decode bb_Out_fees 14 = .ok (.aload_n 0, 1) := by decide +kernel
theorem dd_Out_fees_15 : decode bb_Out_fees 15 = .ok (.getfield 18, 3) := by decide +kernel
theorem dd_Out_fees_18 : decode bb_Out_fees 18 = .ok (.getfield 39, 3) := by decide +kernel
theorem dd_Out_fees_21 : decode bb_Out_fees 21 = .ok (.iload_n 1, 1) := by decide +kernel
theorem dd_Out_fees_22 : decode bb_Out_fees 22 = .ok (.putfield 49, 3) := by decide +kernel
theorem dd_Out_fees_25 : decode bb_Out_fees 25 = .ok (.aload_n 0, 1) := by decide +kernel
theorem dd_Out_fees_26 : decode bb_Out_fees 26 = .ok (.getfield 18, 3) := by decide +kernel
theorem dd_Out_fees_29 : decode bb_Out_fees 29 = .ok (.getfield 39, 3) := by decide +kernel
theorem dd_Out_fees_32 : decode bb_Out_fees 32 = .ok (.iload_n 2, 1) := by decide +kernel
theorem dd_Out_fees_33 : decode bb_Out_fees 33 = .ok (.putfield 52, 3) := by decide +kernel
theorem dd_Out_fees_36 : decode bb_Out_fees 36 = .ok (.return_, 1) := by decide +kernel
def ww_Out_fees : List Cond := .code yy_Out_fees bb_Out_fees 3 none :: TB
def rm_Out_fees : Room := { frames := 7, cells := 2, slots := 12, locals := 122 }
def wp_Out_fees (S : fw_S) (o : Nat) (a1 : Int32) (a2 : Int32) (post : fw_S → Prop) (px : Nat → fw_S → Prop) : Prop := wp_Out_checkNumber S a1 0 1000000 (fun S1 => wp_Out_checkNumber S1 a2 0 1000000 (fun S2 => ∀ S3 : fw_S, S3 = fw_si S2 ((o + 2) + 4) 2 a1 → ∀ S4 : fw_S, S4 = fw_si S3 ((o + 2) + 4) 3 a2 → post S4) px) px
set_option maxHeartbeats 4000000 in
set_option maxRecDepth 100000 in
theorem mt_Out_fees (l : Launch) (hl9 : l.stackTraces = false) (D : va_G) (cA : Nat → ClassId) (b : Nat) (S : fw_S) (o : Nat) (a1 : Int32) (a2 : Int32) (ho : o < 245 ∧ layU o = (0, 0)) (post : fw_S → Prop) (px : Nat → fw_S → Prop) (hw : wp_Out_fees S o a1 a2 post px) : tx_Met l yy_Out_fees ww_Out_fees rm_Out_fees (fw_PcX D CL cA (TYS cA) TK layU b 245 S [.ref (b + o), .int a1, .int a2]) (va_Qv post (fw_B D CL cA TK layU b 245) (fw_A b 245)) (fw_X D CL cA TK layU b 245 px) 2 12 (fw_A b 245) := by
  refine tx_ofW (cc := bb_Out_fees) (maxL := 3) (ret := none) (by decide) rfl ?_
  intro p e s m args below meth c s₁ B hml hTab hv
  obtain ⟨rfl, hP, hK, hZ⟩ := hv
  have hx := B.exec
  have hb := B.bytes
  have hr := B.returns
  have hts := atoms_spec (ws := ww_Out_fees) B.pre
  have hown : s.vm.findClass "OutletOffice" = some m.cls := findClass_of_methodNamed B.named
  have hlocks := B.notSynchronized
  have hS : va_S (fw_A b 245) s.heap s.heap [] := va_S.rf
  have hl := lv_entry ([.ref (b + o), .int a1, .int a2]) (n := 3) (Nat.le_of_ble_eq_true rfl)
  rw [lg_entry_eq]
  generalize (lg_sl ([.ref (b + o), .int a1, .int a2]) ++ List.replicate (3 - (lg_sl ([.ref (b + o), .int a1, .int a2])).length) Slot.unset).toArray = ls at hl ⊢
  have hl : lv_has ls 3 [(0, .ref (b + o)), (1, .int a1), (2, .int a2)] := hl
  unfold wp_Out_fees at hw
  refine lv_iload_n hx hb dd_Out_fees_0 rfl (lv_at hl 1 rfl) ?_
  refine lv_iconst (v := 0) hx hb dd_Out_fees_1 kc_ic_0 ?_
  refine lv_ldc (v := 1000000) hx hb hown (hts _ (tb_in tw_436)) dd_Out_fees_2 ?_
  refine tx_callv (tx_runS (As := [.int a1, .int 0, .int 1000000]) (rest := []) ⟨hx, hb, hml, hown, hts⟩ (mt_Out_checkNumber l hl9 D cA b S a1 0 1000000 _ _ hw) (cwS 3 hts (fw_gS tw_400 tw_398 tw_399 tw_1) rfl rfl rfl (by decide +kernel) ⟨Nat.le_of_ble_eq_true rfl, Nat.le_of_ble_eq_true rfl⟩) (fw_preSX hP hK hZ hS) rfl rfl hl.1 rfl (lv_room (Nat.le_of_ble_eq_true rfl)) dd_Out_fees_4 ⟨Nat.le_of_ble_eq_true rfl, Nat.le_of_ble_eq_true rfl⟩) hS (fun k9 S9 q9 ce9 H locs hw hP hS hce => tx_outF hTab hlocks hw hP hS hce (Nat.le_of_ble_eq_true rfl) (Nat.le_of_ble_eq_true rfl)) (fun S1 H locs hw hP hS => ?_)
  try dsimp only at hw
  refine lv_iload_n hx hb dd_Out_fees_7 rfl (lv_at hl 2 rfl) ?_
  refine lv_iconst (v := 0) hx hb dd_Out_fees_8 kc_ic_0 ?_
  refine lv_ldc (v := 1000000) hx hb hown (hts _ (tb_in tw_436)) dd_Out_fees_9 ?_
  refine tx_callv (tx_runS (As := [.int a2, .int 0, .int 1000000]) (rest := []) ⟨hx, hb, hml, hown, hts⟩ (mt_Out_checkNumber l hl9 D cA b S1 a2 0 1000000 _ _ hw) (cwS 3 hts (fw_gS tw_400 tw_398 tw_399 tw_1) rfl rfl rfl (by decide +kernel) ⟨Nat.le_of_ble_eq_true rfl, Nat.le_of_ble_eq_true rfl⟩) (fw_preSX hP hK hZ hS) rfl rfl hl.1 rfl (lv_room (Nat.le_of_ble_eq_true rfl)) dd_Out_fees_11 ⟨Nat.le_of_ble_eq_true rfl, Nat.le_of_ble_eq_true rfl⟩) hS (fun k9 S9 q9 ce9 H locs hw hP hS hce => tx_outF hTab hlocks hw hP hS hce (Nat.le_of_ble_eq_true rfl) (Nat.le_of_ble_eq_true rfl)) (fun S2 H locs hw hP hS => ?_)
  try dsimp only at hw
  refine lv_aload_n hx hb dd_Out_fees_14 rfl (lv_at hl 0 rfl) ?_
  refine fw_getr hx hb hts in_0 hown hK hP ho (by decide) rfl 1 (by decide) (hts _ (tb_in tw_302)) tk_0_1 dd_Out_fees_15 ?_
  refine fw_getr hx hb hts in_9 hown hK hP (lf_0_1 ho) (by decide) rfl 1 (by decide) (hts _ (tb_in tw_114)) tk_9_1 dd_Out_fees_18 ?_
  refine lv_iload_n hx hb dd_Out_fees_21 rfl (lv_at hl 1 rfl) ?_
  refine fw_puti hx hb hts in_7 F_ty_7 F_tyok_7 F_nm_7 hown hK hP hS (fw_A.in (lf_9_1 (lf_0_1 ho)).1) (lf_9_1 (lf_0_1 ho)) (by decide) rfl 2 (by decide) (hts _ (tb_in tw_59)) rfl tk_7_2 (ty := .int) (by decide +kernel) rfl rfl dd_Out_fees_22 (fun H locs hP hS => ?_)
  obtain ⟨S3, e_S3⟩ : ∃ z, z = fw_si S2 ((o + 2) + 4) 2 a1 := ⟨_, rfl⟩
  rw [← e_S3] at hP
  have hw := hw S3 e_S3
  refine lv_aload_n hx hb dd_Out_fees_25 rfl (lv_at hl 0 rfl) ?_
  refine fw_getr hx hb hts in_0 hown hK hP ho (by decide) rfl 1 (by decide) (hts _ (tb_in tw_302)) tk_0_1 dd_Out_fees_26 ?_
  refine fw_getr hx hb hts in_9 hown hK hP (lf_0_1 ho) (by decide) rfl 1 (by decide) (hts _ (tb_in tw_114)) tk_9_1 dd_Out_fees_29 ?_
  refine lv_iload_n hx hb dd_Out_fees_32 rfl (lv_at hl 2 rfl) ?_
  refine fw_puti hx hb hts in_7 F_ty_7 F_tyok_7 F_nm_7 hown hK hP hS (fw_A.in (lf_9_1 (lf_0_1 ho)).1) (lf_9_1 (lf_0_1 ho)) (by decide) rfl 3 (by decide) (hts _ (tb_in tw_62)) rfl tk_7_3 (ty := .int) (by decide +kernel) rfl rfl dd_Out_fees_33 (fun H locs hP hS => ?_)
  obtain ⟨S4, e_S4⟩ : ∃ z, z = fw_si S3 ((o + 2) + 4) 3 a2 := ⟨_, rfl⟩
  rw [← e_S4] at hP
  have hw := hw S4 e_S4
  refine tx_ret ?_
  exact W.vret hx hb hr (fun t ht hW => ⟨⟨_, rfl, hw, fw_Bof ht hP⟩, hS.F ht⟩) hS.2.2 dd_Out_fees_36
theorem dd_Out_card_0 : decode bb_Out_card 0 = .ok (.iload_n 1, 1) := by decide +kernel
theorem dd_Out_card_1 : decode bb_Out_card 1 = .ok (.bipush 16, 2) := by decide +kernel
theorem dd_Out_card_3 : decode bb_Out_card 3 = .ok (.invokestatic 27, 3) := by decide +kernel
theorem dd_Out_card_6 : decode bb_Out_card 6 = .ok (.iload_n 2, 1) := by decide +kernel
theorem dd_Out_card_7 : decode bb_Out_card 7 = .ok (.iconst 0, 1) := by decide +kernel
theorem dd_Out_card_8 : decode bb_Out_card 8 = .ok (.iconst 1, 1) := by decide +kernel
theorem dd_Out_card_9 : decode bb_Out_card 9 = .ok (.invokestatic 31, 3) := by decide +kernel
theorem dd_Out_card_12 : decode bb_Out_card 12 = .ok (.iload_n 3, 1) := by decide +kernel
theorem dd_Out_card_13 : decode bb_Out_card 13 = .ok (.iconst 0, 1) := by decide +kernel
theorem dd_Out_card_14 : decode bb_Out_card 14 = .ok (.bipush 15, 2) := by decide +kernel
theorem dd_Out_card_16 : decode bb_Out_card 16 = .ok (.invokestatic 31, 3) := by decide +kernel
theorem dd_Out_card_19 : decode bb_Out_card 19 = .ok (.aload_n 0, 1) := by decide +kernel
theorem dd_Out_card_20 : decode bb_Out_card 20 = .ok (.getfield 18, 3) := by decide +kernel
theorem dd_Out_card_23 : decode bb_Out_card 23 = .ok (.getfield 55, 3) := by decide +kernel
theorem dd_Out_card_26 : decode bb_Out_card 26 = .ok (.iload_n 1, 1) := by decide +kernel
theorem dd_Out_card_27 : decode bb_Out_card 27 = .ok (.iload_n 2, 1) := by decide +kernel
theorem dd_Out_card_28 : decode bb_Out_card 28 = .ok (.iload_n 3, 1) := by decide +kernel
theorem dd_Out_card_29 : decode bb_Out_card 29 = .ok (.invokevirtual 59, 3) := by decide +kernel
theorem dd_Out_card_32 : decode bb_Out_card 32 = .ok (.return_, 1) := by decide +kernel
def ww_Out_card : List Cond := .code yy_Out_card bb_Out_card 4 none :: TB
def rm_Out_card : Room := { frames := 7, cells := 3, slots := 18, locals := 122 }
def wp_Out_card (S : fw_S) (o : Nat) (a1 : Int32) (a2 : Int32) (a3 : Int32) (post : fw_S → Prop) (px : Nat → fw_S → Prop) : Prop := wp_Out_checkIndex S a1 16 (fun S1 => wp_Out_checkNumber S1 a2 0 1 (fun S2 => wp_Out_checkNumber S2 a3 0 15 (fun S3 => wp_Cards_setCard S3 ((o + 2) + 1) a1 a2 a3 (fun S4 => post S4)) px) px) px
set_option maxHeartbeats 4000000 in
set_option maxRecDepth 100000 in
theorem mt_Out_card (l : Launch) (hl9 : l.stackTraces = false) (D : va_G) (cA : Nat → ClassId) (b : Nat) (S : fw_S) (o : Nat) (a1 : Int32) (a2 : Int32) (a3 : Int32) (ho : o < 245 ∧ layU o = (0, 0)) (post : fw_S → Prop) (px : Nat → fw_S → Prop) (hw : wp_Out_card S o a1 a2 a3 post px) : tx_Met l yy_Out_card ww_Out_card rm_Out_card (fw_PcX D CL cA (TYS cA) TK layU b 245 S [.ref (b + o), .int a1, .int a2, .int a3]) (va_Qv post (fw_B D CL cA TK layU b 245) (fw_A b 245)) (fw_X D CL cA TK layU b 245 px) 3 18 (fw_A b 245) := by
  refine tx_ofW (cc := bb_Out_card) (maxL := 4) (ret := none) (by decide) rfl ?_
  intro p e s m args below meth c s₁ B hml hTab hv
  obtain ⟨rfl, hP, hK, hZ⟩ := hv
  have hx := B.exec
  have hb := B.bytes
  have hr := B.returns
  have hts := atoms_spec (ws := ww_Out_card) B.pre
  have hown : s.vm.findClass "OutletOffice" = some m.cls := findClass_of_methodNamed B.named
  have hlocks := B.notSynchronized
  have hS : va_S (fw_A b 245) s.heap s.heap [] := va_S.rf
  have hl := lv_entry ([.ref (b + o), .int a1, .int a2, .int a3]) (n := 4) (Nat.le_of_ble_eq_true rfl)
  rw [lg_entry_eq]
  generalize (lg_sl ([.ref (b + o), .int a1, .int a2, .int a3]) ++ List.replicate (4 - (lg_sl ([.ref (b + o), .int a1, .int a2, .int a3])).length) Slot.unset).toArray = ls at hl ⊢
  have hl : lv_has ls 4 [(0, .ref (b + o)), (1, .int a1), (2, .int a2), (3, .int a3)] := hl
  unfold wp_Out_card at hw
  refine lv_iload_n hx hb dd_Out_card_0 rfl (lv_at hl 1 rfl) ?_
  refine lv_bipush (v := 16) hx hb dd_Out_card_1 kc_bp_16 ?_
  refine tx_callv (tx_runS (As := [.int a1, .int 16]) (rest := []) ⟨hx, hb, hml, hown, hts⟩ (mt_Out_checkIndex l hl9 D cA b S a1 16 _ _ hw) (cwS 2 hts (fw_gS tw_330 tw_328 tw_329 tw_1) rfl rfl rfl (by decide +kernel) ⟨Nat.le_of_ble_eq_true rfl, Nat.le_of_ble_eq_true rfl⟩) (fw_preSX hP hK hZ hS) rfl rfl hl.1 rfl (lv_room (Nat.le_of_ble_eq_true rfl)) dd_Out_card_3 ⟨Nat.le_of_ble_eq_true rfl, Nat.le_of_ble_eq_true rfl⟩) hS (fun k9 S9 q9 ce9 H locs hw hP hS hce => tx_outF hTab hlocks hw hP hS hce (Nat.le_of_ble_eq_true rfl) (Nat.le_of_ble_eq_true rfl)) (fun S1 H locs hw hP hS => ?_)
  try dsimp only at hw
  refine lv_iload_n hx hb dd_Out_card_6 rfl (lv_at hl 2 rfl) ?_
  refine lv_iconst (v := 0) hx hb dd_Out_card_7 kc_ic_0 ?_
  refine lv_iconst (v := 1) hx hb dd_Out_card_8 kc_ic_1 ?_
  refine tx_callv (tx_runS (As := [.int a2, .int 0, .int 1]) (rest := []) ⟨hx, hb, hml, hown, hts⟩ (mt_Out_checkNumber l hl9 D cA b S1 a2 0 1 _ _ hw) (cwS 3 hts (fw_gS tw_400 tw_398 tw_399 tw_1) rfl rfl rfl (by decide +kernel) ⟨Nat.le_of_ble_eq_true rfl, Nat.le_of_ble_eq_true rfl⟩) (fw_preSX hP hK hZ hS) rfl rfl hl.1 rfl (lv_room (Nat.le_of_ble_eq_true rfl)) dd_Out_card_9 ⟨Nat.le_of_ble_eq_true rfl, Nat.le_of_ble_eq_true rfl⟩) hS (fun k9 S9 q9 ce9 H locs hw hP hS hce => tx_outF hTab hlocks hw hP hS hce (Nat.le_of_ble_eq_true rfl) (Nat.le_of_ble_eq_true rfl)) (fun S2 H locs hw hP hS => ?_)
  try dsimp only at hw
  refine lv_iload_n hx hb dd_Out_card_12 rfl (lv_at hl 3 rfl) ?_
  refine lv_iconst (v := 0) hx hb dd_Out_card_13 kc_ic_0 ?_
  refine lv_bipush (v := 15) hx hb dd_Out_card_14 kc_bp_15 ?_
  refine tx_callv (tx_runS (As := [.int a3, .int 0, .int 15]) (rest := []) ⟨hx, hb, hml, hown, hts⟩ (mt_Out_checkNumber l hl9 D cA b S2 a3 0 15 _ _ hw) (cwS 3 hts (fw_gS tw_400 tw_398 tw_399 tw_1) rfl rfl rfl (by decide +kernel) ⟨Nat.le_of_ble_eq_true rfl, Nat.le_of_ble_eq_true rfl⟩) (fw_preSX hP hK hZ hS) rfl rfl hl.1 rfl (lv_room (Nat.le_of_ble_eq_true rfl)) dd_Out_card_16 ⟨Nat.le_of_ble_eq_true rfl, Nat.le_of_ble_eq_true rfl⟩) hS (fun k9 S9 q9 ce9 H locs hw hP hS hce => tx_outF hTab hlocks hw hP hS hce (Nat.le_of_ble_eq_true rfl) (Nat.le_of_ble_eq_true rfl)) (fun S3 H locs hw hP hS => ?_)
  try dsimp only at hw
  refine lv_aload_n hx hb dd_Out_card_19 rfl (lv_at hl 0 rfl) ?_
  refine fw_getr hx hb hts in_0 hown hK hP ho (by decide) rfl 1 (by decide) (hts _ (tb_in tw_302)) tk_0_1 dd_Out_card_20 ?_
  refine fw_getr hx hb hts in_9 hown hK hP (lf_0_1 ho) (by decide) rfl 0 (by decide) (hts _ (tb_in tw_112)) tk_9_0 dd_Out_card_23 ?_
  refine lv_iload_n hx hb dd_Out_card_26 rfl (lv_at hl 1 rfl) ?_
  refine lv_iload_n hx hb dd_Out_card_27 rfl (lv_at hl 2 rfl) ?_
  refine lv_iload_n hx hb dd_Out_card_28 rfl (lv_at hl 3 rfl) ?_
  refine fw_callv (va_runV (As := [.int a1, .int a2, .int a3]) (rest := []) ⟨hx, hb, hml, hown, hts⟩ (mt_Cards_setCard l D cA b S3 ((o + 2) + 1) a1 a2 a3 (lf_9_0 (lf_0_1 ho)) _ hw) (cwV 3 hts (fw_gV tw_447 tw_444 tw_445 tw_446 tw_3) rfl rfl rfl (by decide +kernel) ⟨Nat.le_of_ble_eq_true rfl, Nat.le_of_ble_eq_true rfl⟩) (fw_preV hP hK (lf_9_0 (lf_0_1 ho)) (by decide) rfl) rfl rfl hl.1 rfl (lv_room (Nat.le_of_ble_eq_true rfl)) dd_Out_card_29 ⟨Nat.le_of_ble_eq_true rfl, Nat.le_of_ble_eq_true rfl⟩) hS (fun S4 H locs hw hP hS => ?_)
  try dsimp only at hw
  refine tx_ret ?_
  exact W.vret hx hb hr (fun t ht hW => ⟨⟨_, rfl, hw, fw_Bof ht hP⟩, hS.F ht⟩) hS.2.2 dd_Out_card_32
theorem dd_Out_pointAt_0 : decode bb_Out_pointAt 0 = .ok (.iload_n 1, 1) := by decide +kernel
theorem dd_Out_pointAt_1 : decode bb_Out_pointAt 1 = .ok (.bipush 6, 2) := by decide +kernel
theorem dd_Out_pointAt_3 : decode bb_Out_pointAt 3 = .ok (.invokestatic 27, 3) := by decide +kernel
theorem dd_Out_pointAt_6 : decode bb_Out_pointAt 6 = .ok (.aload_n 0, 1) := by decide +kernel
theorem dd_Out_pointAt_7 : decode bb_Out_pointAt 7 = .ok (.getfield 11, 3) := by decide +kernel
theorem dd_Out_pointAt_10 : decode bb_Out_pointAt 10 = .ok (.iload_n 1, 1) := by decide +kernel
theorem dd_Out_pointAt_11 : decode bb_Out_pointAt 11 = .ok (.iconst 2, 1) := by decide +kernel
theorem dd_Out_pointAt_12 : decode bb_Out_pointAt 12 = .ok (.irem, 1) := by decide +kernel
theorem dd_Out_pointAt_13 : decode bb_Out_pointAt 13 = .ok (.aaload, 1) := by decide +kernel
theorem dd_Out_pointAt_14 : decode bb_Out_pointAt 14 = .ok (.getfield 178, 3) := by decide +kernel
theorem dd_Out_pointAt_17 : decode bb_Out_pointAt 17 = .ok (.iload_n 1, 1) := by decide +kernel
theorem dd_Out_pointAt_18 : decode bb_Out_pointAt 18 = .ok (.iconst 2, 1) := by decide +kernel
theorem dd_Out_pointAt_19 : decode bb_Out_pointAt 19 = .ok (.idiv, 1) := by decide +kernel
theorem dd_Out_pointAt_20 : decode bb_Out_pointAt 20 = .ok (.aaload, 1) := by decide +kernel
theorem dd_Out_pointAt_21 : decode bb_Out_pointAt 21 = .ok (.areturn, 1) := by decide +kernel
def ww_Out_pointAt : List Cond := .code yy_Out_pointAt bb_Out_pointAt 2 (some (.object "OutletOffice$Point")) :: TB
def rm_Out_pointAt : Room := { frames := 7, cells := 1, slots := 6, locals := 121 }
def wp_Out_pointAt (S : fw_S) (o : Nat) (a1 : Int32) (post : fw_S → Nat → Prop) (px : Nat → fw_S → Prop) : Prop := wp_Out_checkIndex S a1 6 (fun S1 => vp_in (a1 - a1 / 2 * 2) 2 ∧ (vp_in (a1 / 2) 3 ∧ (post S1 ((((o + 1) + (18 + 95 * ((a1 - a1 / 2 * 2 : Int32).toNatClampNeg))) + 1) + (1 + 31 * ((a1 / 2 : Int32).toNatClampNeg)))))) px
set_option maxHeartbeats 4000000 in
set_option maxRecDepth 100000 in
theorem mt_Out_pointAt (l : Launch) (hl9 : l.stackTraces = false) (D : va_G) (cA : Nat → ClassId) (b : Nat) (S : fw_S) (o : Nat) (a1 : Int32) (ho : o < 245 ∧ layU o = (0, 0)) (post : fw_S → Nat → Prop) (px : Nat → fw_S → Prop) (hw : wp_Out_pointAt S o a1 post px) : tx_Met l yy_Out_pointAt ww_Out_pointAt rm_Out_pointAt (fw_PcX D CL cA (TYS cA) TK layU b 245 S [.ref (b + o), .int a1]) (va_Qr (fun u => post u.1 u.2) (fw_Br D CL cA TK layU b 245 2) (fw_A b 245)) (fw_X D CL cA TK layU b 245 px) 1 6 (fw_A b 245) := by
  refine tx_ofW (cc := bb_Out_pointAt) (maxL := 2) (ret := (some (.object "OutletOffice$Point"))) (by decide) rfl ?_
  intro p e s m args below meth c s₁ B hml hTab hv
  obtain ⟨rfl, hP, hK, hZ⟩ := hv
  have hx := B.exec
  have hb := B.bytes
  have hr := B.returns
  have hts := atoms_spec (ws := ww_Out_pointAt) B.pre
  have hown : s.vm.findClass "OutletOffice" = some m.cls := findClass_of_methodNamed B.named
  have hlocks := B.notSynchronized
  have hS : va_S (fw_A b 245) s.heap s.heap [] := va_S.rf
  have hl := lv_entry ([.ref (b + o), .int a1]) (n := 2) (Nat.le_of_ble_eq_true rfl)
  rw [lg_entry_eq]
  generalize (lg_sl ([.ref (b + o), .int a1]) ++ List.replicate (2 - (lg_sl ([.ref (b + o), .int a1])).length) Slot.unset).toArray = ls at hl ⊢
  have hl : lv_has ls 2 [(0, .ref (b + o)), (1, .int a1)] := hl
  unfold wp_Out_pointAt at hw
  refine lv_iload_n hx hb dd_Out_pointAt_0 rfl (lv_at hl 1 rfl) ?_
  refine lv_bipush (v := 6) hx hb dd_Out_pointAt_1 kc_bp_6 ?_
  refine tx_callv (tx_runS (As := [.int a1, .int 6]) (rest := []) ⟨hx, hb, hml, hown, hts⟩ (mt_Out_checkIndex l hl9 D cA b S a1 6 _ _ hw) (cwS 2 hts (fw_gS tw_330 tw_328 tw_329 tw_1) rfl rfl rfl (by decide +kernel) ⟨Nat.le_of_ble_eq_true rfl, Nat.le_of_ble_eq_true rfl⟩) (fw_preSX hP hK hZ hS) rfl rfl hl.1 rfl (lv_room (Nat.le_of_ble_eq_true rfl)) dd_Out_pointAt_3 ⟨Nat.le_of_ble_eq_true rfl, Nat.le_of_ble_eq_true rfl⟩) hS (fun k9 S9 q9 ce9 H locs hw hP hS hce => tx_outF hTab hlocks hw hP hS hce (Nat.le_of_ble_eq_true rfl) (Nat.le_of_ble_eq_true rfl)) (fun S1 H locs hw hP hS => ?_)
  try dsimp only at hw
  refine lv_aload_n hx hb dd_Out_pointAt_6 rfl (lv_at hl 0 rfl) ?_
  refine fw_getr hx hb hts in_0 hown hK hP ho (by decide) rfl 0 (by decide) (hts _ (tb_in tw_301)) tk_0_0 dd_Out_pointAt_7 ?_
  refine lv_iload_n hx hb dd_Out_pointAt_10 rfl (lv_at hl 1 rfl) ?_
  refine lv_iconst (v := 2) hx hb dd_Out_pointAt_11 kc_ic_2 ?_
  refine lv_irem hx hb dd_Out_pointAt_12 (by decide) ?_
  obtain ⟨h2, hw⟩ := hw
  refine fw_aald hx hb hK hP (lf_0_0 ho) (by decide) 3 rfl (tka_103 _) h2 dd_Out_pointAt_13 ?_
  refine fw_getr hx hb hts in_1 hown hK hP (le_103 (lf_0_0 ho) (fw_lt h2)) (by decide) rfl 0 (by decide) (hts _ (tb_in tw_293)) tk_1_0 dd_Out_pointAt_14 ?_
  refine lv_iload_n hx hb dd_Out_pointAt_17 rfl (lv_at hl 1 rfl) ?_
  refine lv_iconst (v := 2) hx hb dd_Out_pointAt_18 kc_ic_2 ?_
  refine lv_idiv hx hb dd_Out_pointAt_19 (by decide) ?_
  obtain ⟨h3, hw⟩ := hw
  refine fw_aald hx hb hK hP (lf_1_0 (le_103 (lf_0_0 ho) (fw_lt h2))) (by decide) 4 rfl (tka_104 _) h3 dd_Out_pointAt_20 ?_
  refine tx_ret ?_
  exact W.aret (v := .ref (b + ((((o + 1) + (18 + 95 * ((a1 - a1 / 2 * 2 : Int32).toNatClampNeg))) + 1) + (1 + 31 * ((a1 / 2 : Int32).toNatClampNeg))))) hx hb hr (Or.inl ⟨_, rfl⟩) (Or.inr ⟨_, rfl⟩) (fun t ht hW => ⟨⟨(S1, (((o + 1) + (18 + 95 * ((a1 - a1 / 2 * 2 : Int32).toNatClampNeg))) + 1) + (1 + 31 * ((a1 / 2 : Int32).toNatClampNeg))), _, rfl, hw, rfl, le_104 (lf_1_0 (le_103 (lf_0_0 ho) (fw_lt h2))) (fw_lt h3), fw_Bof ht hP⟩, hS.F ht⟩) hS.2.2 dd_Out_pointAt_21
theorem dd_Out_copy_0 : decode bb_Out_copy 0 = .ok (.aload_n 0, 1) := by decide +kernel
theorem dd_Out_copy_1 : decode bb_Out_copy 1 = .ok (.iload_n 1, 1) := by decide +kernel
theorem dd_Out_copy_2 : decode bb_Out_copy 2 = .ok (.invokevirtual 64, 3) := by decide +kernel
theorem dd_Out_copy_5 : decode bb_Out_copy 5 = .ok (.astore_n 2, 1) := by decide +kernel
theorem dd_Out_copy_6 : decode bb_Out_copy 6 = .ok (.aload_n 2, 1) := by decide +kernel
theorem dd_Out_copy_7 : decode bb_Out_copy 7 = .ok (.invokevirtual 68, 3) := by decide +kernel
theorem dd_Out_copy_10 : decode bb_Out_copy 10 = .ok (.ifCond .ne 5, 3) := by decide +kernel
theorem dd_Out_copy_15 : decode bb_Out_copy 15 = .ok (.aload_n 2, 1) := by decide +kernel
theorem dd_Out_copy_16 : decode bb_Out_copy 16 = .ok (.getfield 74, 3) := by decide +kernel
theorem dd_Out_copy_19 : decode bb_Out_copy 19 = .ok (.aload_n 0, 1) := by decide +kernel
theorem dd_Out_copy_20 : decode bb_Out_copy 20 = .ok (.getfield 18, 3) := by decide +kernel
theorem dd_Out_copy_23 : decode bb_Out_copy 23 = .ok (.getfield 55, 3) := by decide +kernel
theorem dd_Out_copy_26 : decode bb_Out_copy 26 = .ok (.invokevirtual 75, 3) := by decide +kernel
theorem dd_Out_copy_29 : decode bb_Out_copy 29 = .ok (.iconst 1, 1) := by decide +kernel
theorem dd_Out_copy_30 : decode bb_Out_copy 30 = .ok (.ireturn, 1) := by decide +kernel
theorem dd_Out_copy_13 : decode bb_Out_copy 13 = .ok (.iconst 0, 1) := by decide +kernel
theorem dd_Out_copy_14 : decode bb_Out_copy 14 = .ok (.ireturn, 1) := by decide +kernel
def ww_Out_copy : List Cond := .code yy_Out_copy bb_Out_copy 3 (some .boolean) :: TB
def rm_Out_copy : Room := { frames := 8, cells := 1, slots := 6, locals := 229 }
def wp_Out_copy (S : fw_S) (o : Nat) (a1 : Int32) (post : fw_S → Int32 → Prop) (px : Nat → fw_S → Prop) : Prop := wp_Out_pointAt S o a1 (fun S1 r2 => wp_Point_isReachable S1 r2 (fun S3 r4 => ((¬ (r4 = 0) → wp_Cards_takeOver S3 (r2 + 28) ((o + 2) + 1) (fun S6 => post S6 1)) ∧ ((r4 = 0) → post S3 0)))) px
set_option maxHeartbeats 4000000 in
set_option maxRecDepth 100000 in
theorem mt_Out_copy (l : Launch) (hl9 : l.stackTraces = false) (D : va_G) (cA : Nat → ClassId) (b : Nat) (S : fw_S) (o : Nat) (a1 : Int32) (ho : o < 245 ∧ layU o = (0, 0)) (post : fw_S → Int32 → Prop) (px : Nat → fw_S → Prop) (hw : wp_Out_copy S o a1 post px) : tx_Met l yy_Out_copy ww_Out_copy rm_Out_copy (fw_PcX D CL cA (TYS cA) TK layU b 245 S [.ref (b + o), .int a1]) (va_Qi (fun r S' => post S' r) (fw_B D CL cA TK layU b 245) (fw_A b 245)) (fw_X D CL cA TK layU b 245 px) 1 6 (fw_A b 245) := by
  refine tx_ofW (cc := bb_Out_copy) (maxL := 3) (ret := (some .boolean)) (by decide) rfl ?_
  intro p e s m args below meth c s₁ B hml hTab hv
  obtain ⟨rfl, hP, hK, hZ⟩ := hv
  have hx := B.exec
  have hb := B.bytes
  have hr := B.returns
  have hts := atoms_spec (ws := ww_Out_copy) B.pre
  have hown : s.vm.findClass "OutletOffice" = some m.cls := findClass_of_methodNamed B.named
  have hlocks := B.notSynchronized
  have hS : va_S (fw_A b 245) s.heap s.heap [] := va_S.rf
  have hl := lv_entry ([.ref (b + o), .int a1]) (n := 3) (Nat.le_of_ble_eq_true rfl)
  rw [lg_entry_eq]
  generalize (lg_sl ([.ref (b + o), .int a1]) ++ List.replicate (3 - (lg_sl ([.ref (b + o), .int a1])).length) Slot.unset).toArray = ls at hl ⊢
  have hl : lv_has ls 3 [(0, .ref (b + o)), (1, .int a1)] := hl
  unfold wp_Out_copy at hw
  refine lv_aload_n hx hb dd_Out_copy_0 rfl (lv_at hl 0 rfl) ?_
  refine lv_iload_n hx hb dd_Out_copy_1 rfl (lv_at hl 1 rfl) ?_
  refine tx_callr (tx_runV (As := [.int a1]) (rest := []) ⟨hx, hb, hml, hown, hts⟩ (mt_Out_pointAt l hl9 D cA b S o a1 ho _ _ hw) (cwV 1 hts (fw_gV tw_458 tw_455 tw_457 ts_1 tw_1) rfl rfl rfl (by decide +kernel) ⟨Nat.le_of_ble_eq_true rfl, Nat.le_of_ble_eq_true rfl⟩) (fw_preVX hP hK hZ hS ho (by decide) rfl) rfl rfl hl.1 rfl (lv_room (Nat.le_of_ble_eq_true rfl)) dd_Out_copy_2 ⟨Nat.le_of_ble_eq_true rfl, Nat.le_of_ble_eq_true rfl⟩) hS (fun k9 S9 q9 ce9 H locs hw hP hS hce => tx_outF hTab hlocks hw hP hS hce (Nat.le_of_ble_eq_true rfl) (Nat.le_of_ble_eq_true rfl)) (fun S1 r2 H locs hw h_r2 hP hS => ?_)
  try dsimp only at hw
  refine lv_astore_n hx hb dd_Out_copy_5 rfl hl (Nat.le_of_ble_eq_true rfl) rfl (fun ls hl => ?_)
  have hl : lv_has ls 3 [(2, .ref (b + r2)), (0, .ref (b + o)), (1, .int a1)] := hl
  refine lv_aload_n hx hb dd_Out_copy_6 rfl (lv_at hl 0 rfl) ?_
  refine fw_calli (va_runV (As := []) (rest := []) ⟨hx, hb, hml, hown, hts⟩ (mt_Point_isReachable l D cA b S1 r2 h_r2 _ hw) (cwV 0 hts (fw_gV tw_462 tw_459 tw_460 tw_461 tw_7) rfl rfl rfl (by decide +kernel) ⟨Nat.le_of_ble_eq_true rfl, Nat.le_of_ble_eq_true rfl⟩) (fw_preV hP hK h_r2 (by decide) rfl) rfl rfl hl.1 rfl (lv_room (Nat.le_of_ble_eq_true rfl)) dd_Out_copy_7 ⟨Nat.le_of_ble_eq_true rfl, Nat.le_of_ble_eq_true rfl⟩) hS (fun S3 r4 H locs hw hP hS => ?_)
  try dsimp only at hw
  refine lv_if_ne (tgt := 15) hx hb dd_Out_copy_10 (by decide) (fun h5 => ?_) (fun h5 => ?_)
  · have hw := hw.1 h5
    refine lv_aload_n hx hb dd_Out_copy_15 rfl (lv_at hl 0 rfl) ?_
    refine fw_getr hx hb hts in_2 hown hK hP h_r2 (by decide) rfl 2 (by decide) (hts _ (tb_in tw_248)) tk_2_2 dd_Out_copy_16 ?_
    refine lv_aload_n hx hb dd_Out_copy_19 rfl (lv_at hl 1 rfl) ?_
    refine fw_getr hx hb hts in_0 hown hK hP ho (by decide) rfl 1 (by decide) (hts _ (tb_in tw_302)) tk_0_1 dd_Out_copy_20 ?_
    refine fw_getr hx hb hts in_9 hown hK hP (lf_0_1 ho) (by decide) rfl 0 (by decide) (hts _ (tb_in tw_112)) tk_9_0 dd_Out_copy_23 ?_
    refine fw_callv (va_runV (As := [.ref (b + ((o + 2) + 1))]) (rest := []) ⟨hx, hb, hml, hown, hts⟩ (mt_Cards_takeOver l D cA b S3 (r2 + 28) ((o + 2) + 1) (lf_2_2 h_r2) (lf_9_0 (lf_0_1 ho)) _ hw) (cwV 1 hts (fw_gV tw_466 tw_463 tw_464 tw_465 tw_3) rfl rfl rfl (by decide +kernel) ⟨Nat.le_of_ble_eq_true rfl, Nat.le_of_ble_eq_true rfl⟩) (fw_preV hP hK (lf_2_2 h_r2) (by decide) rfl) rfl rfl hl.1 rfl (lv_room (Nat.le_of_ble_eq_true rfl)) dd_Out_copy_26 ⟨Nat.le_of_ble_eq_true rfl, Nat.le_of_ble_eq_true rfl⟩) hS (fun S6 H locs hw hP hS => ?_)
    try dsimp only at hw
    refine lv_iconst (v := 1) hx hb dd_Out_copy_29 kc_ic_1 ?_
    refine tx_ret ?_
    exact W.zret (v := 1) hx hb hr narrow_b1 (fun t ht hW => ⟨⟨_, _, rfl, hw, fw_Bof ht hP⟩, hS.F ht⟩) hS.2.2 dd_Out_copy_30
  · have hw := hw.2 h5
    refine lv_iconst (v := 0) hx hb dd_Out_copy_13 kc_ic_0 ?_
    refine tx_ret ?_
    exact W.zret (v := 0) hx hb hr narrow_b0 (fun t ht hW => ⟨⟨_, _, rfl, hw, fw_Bof ht hP⟩, hS.F ht⟩) hS.2.2 dd_Out_copy_14
theorem dd_Out_car_0 : decode bb_Out_car 0 = .ok (.aload_n 0, 1) := by decide +kernel
theorem dd_Out_car_1 : decode bb_Out_car 1 = .ok (.iload_n 1, 1) := by decide +kernel
theorem dd_Out_car_2 : decode bb_Out_car 2 = .ok (.invokevirtual 64, 3) := by decide +kernel
theorem dd_Out_car_5 : decode bb_Out_car 5 = .ok (.astore 5, 2) := by decide +kernel
theorem dd_Out_car_7 : decode bb_Out_car 7 = .ok (.iload_n 2, 1) := by decide +kernel
theorem dd_Out_car_8 : decode bb_Out_car 8 = .ok (.iconst 0, 1) := by decide +kernel
theorem dd_Out_car_9 : decode bb_Out_car 9 = .ok (.sipush 320, 3) := by decide +kernel
theorem dd_Out_car_12 : decode bb_Out_car 12 = .ok (.invokestatic 31, 3) := by decide +kernel
theorem dd_Out_car_15 : decode bb_Out_car 15 = .ok (.iload_n 3, 1) := by decide +kernel
theorem dd_Out_car_16 : decode bb_Out_car 16 = .ok (.iconst 1, 1) := by decide +kernel
theorem dd_Out_car_17 : decode bb_Out_car 17 = .ok (.bipush 9, 2) := by decide +kernel
theorem dd_Out_car_19 : decode bb_Out_car 19 = .ok (.invokestatic 31, 3) := by decide +kernel
theorem dd_Out_car_22 : decode bb_Out_car 22 = .ok (.iload 4, 2) := by decide +kernel
theorem dd_Out_car_24 : decode bb_Out_car 24 = .ok (.iconst 1, 1) := by decide +kernel
theorem dd_Out_car_25 : decode bb_Out_car 25 = .ok (.ldc 38, 2) := by decide +kernel
theorem dd_Out_car_27 : decode bb_Out_car 27 = .ok (.invokestatic 31, 3) := by decide +kernel
theorem dd_Out_car_30 : decode bb_Out_car 30 = .ok (.aload 5, 2) := by decide +kernel
theorem dd_Out_car_32 : decode bb_Out_car 32 = .ok (.getfield 79, 3) := by decide +kernel
theorem dd_Out_car_35 : decode bb_Out_car 35 = .ok (.getfield 83, 3) := by decide +kernel
theorem dd_Out_car_38 : decode bb_Out_car 38 = .ok (.ifCond .eq 5, 3) := by decide +kernel
theorem dd_Out_car_43 : decode bb_Out_car 43 = .ok (.aload 5, 2) := by decide +kernel
theorem dd_Out_car_45 : decode bb_Out_car 45 = .ok (.getfield 79, 3) := by decide +kernel
theorem dd_Out_car_48 : decode bb_Out_car 48 = .ok (.iload_n 2, 1) := by decide +kernel
theorem dd_Out_car_49 : decode bb_Out_car 49 = .ok (.iload_n 3, 1) := by decide +kernel
theorem dd_Out_car_50 : decode bb_Out_car 50 = .ok (.iload 4, 2) := by decide +kernel
theorem dd_Out_car_52 : decode bb_Out_car 52 = .ok (.sipush 3600, 3) := by decide +kernel
theorem dd_Out_car_55 : decode bb_Out_car 55 = .ok (.imul, 1) := by decide +kernel
theorem dd_Out_car_56 : decode bb_Out_car 56 = .ok (.invokevirtual 89, 3) := by decide +kernel
theorem dd_Out_car_59 : decode bb_Out_car 59 = .ok (.iconst 1, 1) := by decide +kernel
theorem dd_Out_car_60 : decode bb_Out_car 60 = .ok (.ireturn, 1) := by decide +kernel
theorem dd_Out_car_41 : decode bb_Out_car 41 = .ok (.iconst 0, 1) := by decide +kernel
theorem dd_Out_car_42 : decode bb_Out_car 42 = .ok (.ireturn, 1) := by decide +kernel
def ww_Out_car : List Cond := .code yy_Out_car bb_Out_car 6 (some .boolean) :: TB
def rm_Out_car : Room := { frames := 8, cells := 4, slots := 24, locals := 142 }
def wp_Out_car (S : fw_S) (o : Nat) (a1 : Int32) (a2 : Int32) (a3 : Int32) (a4 : Int32) (post : fw_S → Int32 → Prop) (px : Nat → fw_S → Prop) : Prop := wp_Out_pointAt S o a1 (fun S1 r2 => wp_Out_checkNumber S1 a2 0 320 (fun S3 => wp_Out_checkNumber S3 a3 1 9 (fun S4 => wp_Out_checkNumber S4 a4 1 100000 (fun S5 => ((((S5.1 (r2 + 1) 0) = 0) → wp_Car_come S5 (r2 + 1) a2 a3 (a4 * 3600) (fun S7 => post S7 1)) ∧ (¬ ((S5.1 (r2 + 1) 0) = 0) → post S5 0))) px) px) px) px
set_option maxHeartbeats 4000000 in
set_option maxRecDepth 100000 in
theorem mt_Out_car (l : Launch) (hl9 : l.stackTraces = false) (D : va_G) (cA : Nat → ClassId) (b : Nat) (S : fw_S) (o : Nat) (a1 : Int32) (a2 : Int32) (a3 : Int32) (a4 : Int32) (ho : o < 245 ∧ layU o = (0, 0)) (post : fw_S → Int32 → Prop) (px : Nat → fw_S → Prop) (hw : wp_Out_car S o a1 a2 a3 a4 post px) : tx_Met l yy_Out_car ww_Out_car rm_Out_car (fw_PcX D CL cA (TYS cA) TK layU b 245 S [.ref (b + o), .int a1, .int a2, .int a3, .int a4]) (va_Qi (fun r S' => post S' r) (fw_B D CL cA TK layU b 245) (fw_A b 245)) (fw_X D CL cA TK layU b 245 px) 4 24 (fw_A b 245) := by
  refine tx_ofW (cc := bb_Out_car) (maxL := 6) (ret := (some .boolean)) (by decide) rfl ?_
  intro p e s m args below meth c s₁ B hml hTab hv
  obtain ⟨rfl, hP, hK, hZ⟩ := hv
  have hx := B.exec
  have hb := B.bytes
  have hr := B.returns
  have hts := atoms_spec (ws := ww_Out_car) B.pre
  have hown : s.vm.findClass "OutletOffice" = some m.cls := findClass_of_methodNamed B.named
  have hlocks := B.notSynchronized
  have hS : va_S (fw_A b 245) s.heap s.heap [] := va_S.rf
  have hl := lv_entry ([.ref (b + o), .int a1, .int a2, .int a3, .int a4]) (n := 6) (Nat.le_of_ble_eq_true rfl)
  rw [lg_entry_eq]
  generalize (lg_sl ([.ref (b + o), .int a1, .int a2, .int a3, .int a4]) ++ List.replicate (6 - (lg_sl ([.ref (b + o), .int a1, .int a2, .int a3, .int a4])).length) Slot.unset).toArray = ls at hl ⊢
  have hl : lv_has ls 6 [(0, .ref (b + o)), (1, .int a1), (2, .int a2), (3, .int a3), (4, .int a4)] := hl
  unfold wp_Out_car at hw
  refine lv_aload_n hx hb dd_Out_car_0 rfl (lv_at hl 0 rfl) ?_
  refine lv_iload_n hx hb dd_Out_car_1 rfl (lv_at hl 1 rfl) ?_
  refine tx_callr (tx_runV (As := [.int a1]) (rest := []) ⟨hx, hb, hml, hown, hts⟩ (mt_Out_pointAt l hl9 D cA b S o a1 ho _ _ hw) (cwV 1 hts (fw_gV tw_458 tw_455 tw_457 ts_1 tw_1) rfl rfl rfl (by decide +kernel) ⟨Nat.le_of_ble_eq_true rfl, Nat.le_of_ble_eq_true rfl⟩) (fw_preVX hP hK hZ hS ho (by decide) rfl) rfl rfl hl.1 rfl (lv_room (Nat.le_of_ble_eq_true rfl)) dd_Out_car_2 ⟨Nat.le_of_ble_eq_true rfl, Nat.le_of_ble_eq_true rfl⟩) hS (fun k9 S9 q9 ce9 H locs hw hP hS hce => tx_outF hTab hlocks hw hP hS hce (Nat.le_of_ble_eq_true rfl) (Nat.le_of_ble_eq_true rfl)) (fun S1 r2 H locs hw h_r2 hP hS => ?_)
  try dsimp only at hw
  refine lv_astore hx hb dd_Out_car_5 hl (Nat.le_of_ble_eq_true rfl) rfl (fun ls hl => ?_)
  have hl : lv_has ls 6 [(5, .ref (b + r2)), (0, .ref (b + o)), (1, .int a1), (2, .int a2), (3, .int a3), (4, .int a4)] := hl
  refine lv_iload_n hx hb dd_Out_car_7 rfl (lv_at hl 3 rfl) ?_
  refine lv_iconst (v := 0) hx hb dd_Out_car_8 kc_ic_0 ?_
  refine lv_sipush (v := 320) hx hb dd_Out_car_9 kc_sp_320 ?_
  refine tx_callv (tx_runS (As := [.int a2, .int 0, .int 320]) (rest := []) ⟨hx, hb, hml, hown, hts⟩ (mt_Out_checkNumber l hl9 D cA b S1 a2 0 320 _ _ hw) (cwS 3 hts (fw_gS tw_400 tw_398 tw_399 tw_1) rfl rfl rfl (by decide +kernel) ⟨Nat.le_of_ble_eq_true rfl, Nat.le_of_ble_eq_true rfl⟩) (fw_preSX hP hK hZ hS) rfl rfl hl.1 rfl (lv_room (Nat.le_of_ble_eq_true rfl)) dd_Out_car_12 ⟨Nat.le_of_ble_eq_true rfl, Nat.le_of_ble_eq_true rfl⟩) hS (fun k9 S9 q9 ce9 H locs hw hP hS hce => tx_outF hTab hlocks hw hP hS hce (Nat.le_of_ble_eq_true rfl) (Nat.le_of_ble_eq_true rfl)) (fun S3 H locs hw hP hS => ?_)
  try dsimp only at hw
  refine lv_iload_n hx hb dd_Out_car_15 rfl (lv_at hl 4 rfl) ?_
  refine lv_iconst (v := 1) hx hb dd_Out_car_16 kc_ic_1 ?_
  refine lv_bipush (v := 9) hx hb dd_Out_car_17 kc_bp_9 ?_
  refine tx_callv (tx_runS (As := [.int a3, .int 1, .int 9]) (rest := []) ⟨hx, hb, hml, hown, hts⟩ (mt_Out_checkNumber l hl9 D cA b S3 a3 1 9 _ _ hw) (cwS 3 hts (fw_gS tw_400 tw_398 tw_399 tw_1) rfl rfl rfl (by decide +kernel) ⟨Nat.le_of_ble_eq_true rfl, Nat.le_of_ble_eq_true rfl⟩) (fw_preSX hP hK hZ hS) rfl rfl hl.1 rfl (lv_room (Nat.le_of_ble_eq_true rfl)) dd_Out_car_19 ⟨Nat.le_of_ble_eq_true rfl, Nat.le_of_ble_eq_true rfl⟩) hS (fun k9 S9 q9 ce9 H locs hw hP hS hce => tx_outF hTab hlocks hw hP hS hce (Nat.le_of_ble_eq_true rfl) (Nat.le_of_ble_eq_true rfl)) (fun S4 H locs hw hP hS => ?_)
  try dsimp only at hw
  refine lv_iload hx hb dd_Out_car_22 (lv_at hl 5 rfl) ?_
  refine lv_iconst (v := 1) hx hb dd_Out_car_24 kc_ic_1 ?_
  refine lv_ldc (v := 100000) hx hb hown (hts _ (tb_in tw_424)) dd_Out_car_25 ?_
  refine tx_callv (tx_runS (As := [.int a4, .int 1, .int 100000]) (rest := []) ⟨hx, hb, hml, hown, hts⟩ (mt_Out_checkNumber l hl9 D cA b S4 a4 1 100000 _ _ hw) (cwS 3 hts (fw_gS tw_400 tw_398 tw_399 tw_1) rfl rfl rfl (by decide +kernel) ⟨Nat.le_of_ble_eq_true rfl, Nat.le_of_ble_eq_true rfl⟩) (fw_preSX hP hK hZ hS) rfl rfl hl.1 rfl (lv_room (Nat.le_of_ble_eq_true rfl)) dd_Out_car_27 ⟨Nat.le_of_ble_eq_true rfl, Nat.le_of_ble_eq_true rfl⟩) hS (fun k9 S9 q9 ce9 H locs hw hP hS hce => tx_outF hTab hlocks hw hP hS hce (Nat.le_of_ble_eq_true rfl) (Nat.le_of_ble_eq_true rfl)) (fun S5 H locs hw hP hS => ?_)
  try dsimp only at hw
  refine lv_aload hx hb dd_Out_car_30 (lv_at hl 0 rfl) ?_
  refine fw_getr hx hb hts in_2 hown hK hP h_r2 (by decide) rfl 0 (by decide) (hts _ (tb_in tw_244)) tk_2_0 dd_Out_car_32 ?_
  refine fw_geti hx hb hts in_3 hown hK hP (lf_2_0 h_r2) (by decide) rfl 0 (by decide) (hts _ (tb_in tw_159)) tk_3_0 dd_Out_car_35 ?_
  refine lv_if_eq (tgt := 43) hx hb dd_Out_car_38 (by decide) (fun h6 => ?_) (fun h6 => ?_)
  · have hw := hw.1 h6
    refine lv_aload hx hb dd_Out_car_43 (lv_at hl 0 rfl) ?_
    refine fw_getr hx hb hts in_2 hown hK hP h_r2 (by decide) rfl 0 (by decide) (hts _ (tb_in tw_244)) tk_2_0 dd_Out_car_45 ?_
    refine lv_iload_n hx hb dd_Out_car_48 rfl (lv_at hl 3 rfl) ?_
    refine lv_iload_n hx hb dd_Out_car_49 rfl (lv_at hl 4 rfl) ?_
    refine lv_iload hx hb dd_Out_car_50 (lv_at hl 5 rfl) ?_
    refine lv_sipush (v := 3600) hx hb dd_Out_car_52 kc_sp_3600 ?_
    refine lv_imul hx hb dd_Out_car_55 ?_
    refine fw_callv (va_runV (As := [.int a2, .int a3, .int (a4 * 3600)]) (rest := []) ⟨hx, hb, hml, hown, hts⟩ (mt_Car_come l D cA b S5 (r2 + 1) a2 a3 (a4 * 3600) (lf_2_0 h_r2) _ hw) (cwV 3 hts (fw_gV tw_480 tw_477 tw_478 tw_479 tw_8) rfl rfl rfl (by decide +kernel) ⟨Nat.le_of_ble_eq_true rfl, Nat.le_of_ble_eq_true rfl⟩) (fw_preV hP hK (lf_2_0 h_r2) (by decide) rfl) rfl rfl hl.1 rfl (lv_room (Nat.le_of_ble_eq_true rfl)) dd_Out_car_56 ⟨Nat.le_of_ble_eq_true rfl, Nat.le_of_ble_eq_true rfl⟩) hS (fun S7 H locs hw hP hS => ?_)
    try dsimp only at hw
    refine lv_iconst (v := 1) hx hb dd_Out_car_59 kc_ic_1 ?_
    refine tx_ret ?_
    exact W.zret (v := 1) hx hb hr narrow_b1 (fun t ht hW => ⟨⟨_, _, rfl, hw, fw_Bof ht hP⟩, hS.F ht⟩) hS.2.2 dd_Out_car_60
  · have hw := hw.2 h6
    refine lv_iconst (v := 0) hx hb dd_Out_car_41 kc_ic_0 ?_
    refine tx_ret ?_
    exact W.zret (v := 0) hx hb hr narrow_b0 (fun t ht hW => ⟨⟨_, _, rfl, hw, fw_Bof ht hP⟩, hS.F ht⟩) hS.2.2 dd_Out_car_42
theorem dd_Out_want_34 : decode bb_Out_want 34 = .ok (.iconst 0, 1) := by decide +kernel
theorem dd_Out_want_35 : decode bb_Out_want 35 = .ok (.ireturn, 1) := by decide +kernel
theorem dd_Out_want_0 : decode bb_Out_want 0 = .ok (.aload_n 0, 1) := by decide +kernel
theorem dd_Out_want_1 : decode bb_Out_want 1 = .ok (.iload_n 1, 1) := by decide +kernel
theorem dd_Out_want_2 : decode bb_Out_want 2 = .ok (.invokevirtual 64, 3) := by decide +kernel
theorem dd_Out_want_5 : decode bb_Out_want 5 = .ok (.astore_n 3, 1) := by decide +kernel
theorem dd_Out_want_6 : decode bb_Out_want 6 = .ok (.iload_n 2, 1) := by decide +kernel
theorem dd_Out_want_7 : decode bb_Out_want 7 = .ok (.iconst 0, 1) := by decide +kernel
theorem dd_Out_want_8 : decode bb_Out_want 8 = .ok (.sipush 320, 3) := by decide +kernel
theorem dd_Out_want_11 : decode bb_Out_want 11 = .ok (.invokestatic 31, 3) := by decide +kernel
theorem dd_Out_want_14 : decode bb_Out_want 14 = .ok (.aload_n 3, 1) := by decide +kernel
theorem dd_Out_want_15 : decode bb_Out_want 15 = .ok (.getfield 79, 3) := by decide +kernel
theorem dd_Out_want_18 : decode bb_Out_want 18 = .ok (.getfield 83, 3) := by decide +kernel
theorem dd_Out_want_21 : decode bb_Out_want 21 = .ok (.ifCond .eq 13, 3) := by decide +kernel
theorem dd_Out_want_24 : decode bb_Out_want 24 = .ok (.aload_n 3, 1) := by decide +kernel
theorem dd_Out_want_25 : decode bb_Out_want 25 = .ok (.getfield 79, 3) := by decide +kernel
theorem dd_Out_want_28 : decode bb_Out_want 28 = .ok (.getfield 92, 3) := by decide +kernel
theorem dd_Out_want_31 : decode bb_Out_want 31 = .ok (.ifCond .eq 5, 3) := by decide +kernel
theorem dd_Out_want_36 : decode bb_Out_want 36 = .ok (.aload_n 3, 1) := by decide +kernel
theorem dd_Out_want_37 : decode bb_Out_want 37 = .ok (.getfield 79, 3) := by decide +kernel
theorem dd_Out_want_40 : decode bb_Out_want 40 = .ok (.iload_n 2, 1) := by decide +kernel
theorem dd_Out_want_41 : decode bb_Out_want 41 = .ok (.putfield 95, 3) := by decide +kernel
theorem dd_Out_want_44 : decode bb_Out_want 44 = .ok (.iconst 1, 1) := by decide +kernel
theorem dd_Out_want_45 : decode bb_Out_want 45 = .ok (.ireturn, 1) := by decide +kernel
def ww_Out_want : List Cond := .code yy_Out_want bb_Out_want 4 (some .boolean) :: TB
def rm_Out_want : Room := { frames := 8, cells := 2, slots := 12, locals := 142 }
def wp_Out_want_34 (o : Nat) (a1 : Int32) (a2 : Int32) (post : fw_S → Int32 → Prop) (px : Nat → fw_S → Prop) (S : fw_S) (u3 : Nat) : Prop := post S 0
def wp_Out_want (S : fw_S) (o : Nat) (a1 : Int32) (a2 : Int32) (post : fw_S → Int32 → Prop) (px : Nat → fw_S → Prop) : Prop := wp_Out_pointAt S o a1 (fun S1 r2 => wp_Out_checkNumber S1 a2 0 320 (fun S3 => ((((S3.1 (r2 + 1) 0) = 0) → wp_Out_want_34 o a1 a2 post px S3 r2) ∧ (¬ ((S3.1 (r2 + 1) 0) = 0) → ((((S3.1 (r2 + 1) 1) = 0) → ∀ S6 : fw_S, S6 = fw_si S3 (r2 + 1) 2 a2 → post S6 1) ∧ (¬ ((S3.1 (r2 + 1) 1) = 0) → wp_Out_want_34 o a1 a2 post px S3 r2))))) px) px
set_option maxHeartbeats 4000000 in
set_option maxRecDepth 100000 in
theorem mt_Out_want (l : Launch) (hl9 : l.stackTraces = false) (D : va_G) (cA : Nat → ClassId) (b : Nat) (S : fw_S) (o : Nat) (a1 : Int32) (a2 : Int32) (ho : o < 245 ∧ layU o = (0, 0)) (post : fw_S → Int32 → Prop) (px : Nat → fw_S → Prop) (hw : wp_Out_want S o a1 a2 post px) : tx_Met l yy_Out_want ww_Out_want rm_Out_want (fw_PcX D CL cA (TYS cA) TK layU b 245 S [.ref (b + o), .int a1, .int a2]) (va_Qi (fun r S' => post S' r) (fw_B D CL cA TK layU b 245) (fw_A b 245)) (fw_X D CL cA TK layU b 245 px) 2 12 (fw_A b 245) := by
  refine tx_ofW (cc := bb_Out_want) (maxL := 4) (ret := (some .boolean)) (by decide) rfl ?_
  intro p e s m args below meth c s₁ B hml hTab hv
  obtain ⟨rfl, hP, hK, hZ⟩ := hv
  have hx := B.exec
  have hb := B.bytes
  have hr := B.returns
  have hts := atoms_spec (ws := ww_Out_want) B.pre
  have hown : s.vm.findClass "OutletOffice" = some m.cls := findClass_of_methodNamed B.named
  have hlocks := B.notSynchronized
  have hS : va_S (fw_A b 245) s.heap s.heap [] := va_S.rf
  have hl := lv_entry ([.ref (b + o), .int a1, .int a2]) (n := 4) (Nat.le_of_ble_eq_true rfl)
  rw [lg_entry_eq]
  generalize (lg_sl ([.ref (b + o), .int a1, .int a2]) ++ List.replicate (4 - (lg_sl ([.ref (b + o), .int a1, .int a2])).length) Slot.unset).toArray = ls at hl ⊢
  have hl : lv_has ls 4 [(0, .ref (b + o)), (1, .int a1), (2, .int a2)] := hl
  have B34 : ∀ (S : fw_S) (u3 : Nat) (hu3 : u3 < 245 ∧ layU u3 = (2, 0)) (H : Heap) (locs : List Loc) (ls : Array Slot), wp_Out_want_34 o a1 a2 post px S u3 → fw_P D CL cA layU b 245 (fw_v TK layU b S) H → va_S (fw_A b 245) s.heap H locs → lv_has ls 4 [(0, .ref (b + o)), (1, .int a1), (2, .int a2), (3, .ref (b + u3))] → W p l e (headSpec ww_Out_want rm_Out_want).room s m ([.ref (b + o), .int a1, .int a2] : List Value).toArray below meth c H locs 2 12 (tx_MQ below (va_Qi (fun r S' => post S' r) (fw_B D CL cA TK layU b 245) (fw_A b 245)) (fw_X D CL cA TK layU b 245 px) ([.ref (b + o), .int a1, .int a2] : List Value).toArray s 2 12 (fw_A b 245)) (F0 m 34 ls []) := by
      intro S u3 hu3 H locs ls hw hP hS hl
      unfold wp_Out_want_34 at hw
      refine lv_iconst (v := 0) hx hb dd_Out_want_34 kc_ic_0 ?_
      refine tx_ret ?_
      exact W.zret (v := 0) hx hb hr narrow_b0 (fun t ht hW => ⟨⟨_, _, rfl, hw, fw_Bof ht hP⟩, hS.F ht⟩) hS.2.2 dd_Out_want_35
  unfold wp_Out_want at hw
  refine lv_aload_n hx hb dd_Out_want_0 rfl (lv_at hl 0 rfl) ?_
  refine lv_iload_n hx hb dd_Out_want_1 rfl (lv_at hl 1 rfl) ?_
  refine tx_callr (tx_runV (As := [.int a1]) (rest := []) ⟨hx, hb, hml, hown, hts⟩ (mt_Out_pointAt l hl9 D cA b S o a1 ho _ _ hw) (cwV 1 hts (fw_gV tw_458 tw_455 tw_457 ts_1 tw_1) rfl rfl rfl (by decide +kernel) ⟨Nat.le_of_ble_eq_true rfl, Nat.le_of_ble_eq_true rfl⟩) (fw_preVX hP hK hZ hS ho (by decide) rfl) rfl rfl hl.1 rfl (lv_room (Nat.le_of_ble_eq_true rfl)) dd_Out_want_2 ⟨Nat.le_of_ble_eq_true rfl, Nat.le_of_ble_eq_true rfl⟩) hS (fun k9 S9 q9 ce9 H locs hw hP hS hce => tx_outF hTab hlocks hw hP hS hce (Nat.le_of_ble_eq_true rfl) (Nat.le_of_ble_eq_true rfl)) (fun S1 r2 H locs hw h_r2 hP hS => ?_)
  try dsimp only at hw
  refine lv_astore_n hx hb dd_Out_want_5 rfl hl (Nat.le_of_ble_eq_true rfl) rfl (fun ls hl => ?_)
  have hl : lv_has ls 4 [(3, .ref (b + r2)), (0, .ref (b + o)), (1, .int a1), (2, .int a2)] := hl
  refine lv_iload_n hx hb dd_Out_want_6 rfl (lv_at hl 3 rfl) ?_
  refine lv_iconst (v := 0) hx hb dd_Out_want_7 kc_ic_0 ?_
  refine lv_sipush (v := 320) hx hb dd_Out_want_8 kc_sp_320 ?_
  refine tx_callv (tx_runS (As := [.int a2, .int 0, .int 320]) (rest := []) ⟨hx, hb, hml, hown, hts⟩ (mt_Out_checkNumber l hl9 D cA b S1 a2 0 320 _ _ hw) (cwS 3 hts (fw_gS tw_400 tw_398 tw_399 tw_1) rfl rfl rfl (by decide +kernel) ⟨Nat.le_of_ble_eq_true rfl, Nat.le_of_ble_eq_true rfl⟩) (fw_preSX hP hK hZ hS) rfl rfl hl.1 rfl (lv_room (Nat.le_of_ble_eq_true rfl)) dd_Out_want_11 ⟨Nat.le_of_ble_eq_true rfl, Nat.le_of_ble_eq_true rfl⟩) hS (fun k9 S9 q9 ce9 H locs hw hP hS hce => tx_outF hTab hlocks hw hP hS hce (Nat.le_of_ble_eq_true rfl) (Nat.le_of_ble_eq_true rfl)) (fun S3 H locs hw hP hS => ?_)
  try dsimp only at hw
  refine lv_aload_n hx hb dd_Out_want_14 rfl (lv_at hl 0 rfl) ?_
  refine fw_getr hx hb hts in_2 hown hK hP h_r2 (by decide) rfl 0 (by decide) (hts _ (tb_in tw_244)) tk_2_0 dd_Out_want_15 ?_
  refine fw_geti hx hb hts in_3 hown hK hP (lf_2_0 h_r2) (by decide) rfl 0 (by decide) (hts _ (tb_in tw_159)) tk_3_0 dd_Out_want_18 ?_
  refine lv_if_eq (tgt := 34) hx hb dd_Out_want_21 (by decide) (fun h4 => ?_) (fun h4 => ?_)
  · have hw := hw.1 h4
    exact B34 S3 r2 h_r2 _ _ ls hw hP hS (lv_sub hl [1, 2, 3, 0] rfl)
  · have hw := hw.2 h4
    refine lv_aload_n hx hb dd_Out_want_24 rfl (lv_at hl 0 rfl) ?_
    refine fw_getr hx hb hts in_2 hown hK hP h_r2 (by decide) rfl 0 (by decide) (hts _ (tb_in tw_244)) tk_2_0 dd_Out_want_25 ?_
    refine fw_geti hx hb hts in_3 hown hK hP (lf_2_0 h_r2) (by decide) rfl 1 (by decide) (hts _ (tb_in tw_161)) tk_3_1 dd_Out_want_28 ?_
    refine lv_if_eq (tgt := 36) hx hb dd_Out_want_31 (by decide) (fun h5 => ?_) (fun h5 => ?_)
    · have hw := hw.1 h5
      refine lv_aload_n hx hb dd_Out_want_36 rfl (lv_at hl 0 rfl) ?_
      refine fw_getr hx hb hts in_2 hown hK hP h_r2 (by decide) rfl 0 (by decide) (hts _ (tb_in tw_244)) tk_2_0 dd_Out_want_37 ?_
      refine lv_iload_n hx hb dd_Out_want_40 rfl (lv_at hl 3 rfl) ?_
      refine fw_puti hx hb hts in_3 F_ty_3 F_tyok_3 F_nm_3 hown hK hP hS (fw_A.in (lf_2_0 h_r2).1) (lf_2_0 h_r2) (by decide) rfl 2 (by decide) (hts _ (tb_in tw_165)) rfl tk_3_2 (ty := .int) (by decide +kernel) rfl rfl dd_Out_want_41 (fun H locs hP hS => ?_)
      obtain ⟨S6, e_S6⟩ : ∃ z, z = fw_si S3 (r2 + 1) 2 a2 := ⟨_, rfl⟩
      rw [← e_S6] at hP
      have hw := hw S6 e_S6
      refine lv_iconst (v := 1) hx hb dd_Out_want_44 kc_ic_1 ?_
      refine tx_ret ?_
      exact W.zret (v := 1) hx hb hr narrow_b1 (fun t ht hW => ⟨⟨_, _, rfl, hw, fw_Bof ht hP⟩, hS.F ht⟩) hS.2.2 dd_Out_want_45
    · have hw := hw.2 h5
      exact B34 S3 r2 h_r2 _ _ ls hw hP hS (lv_sub hl [1, 2, 3, 0] rfl)
theorem dd_Out_leave_44 : decode bb_Out_leave 44 = .ok (.aload_n 2, 1) := by decide +kernel
theorem dd_Out_leave_45 : decode bb_Out_leave 45 = .ok (.getfield 79, 3) := by decide +kernel
theorem dd_Out_leave_48 : decode bb_Out_leave 48 = .ok (.invokevirtual 108, 3) := by decide +kernel
theorem dd_Out_leave_51 : decode bb_Out_leave 51 = .ok (.iconst 1, 1) := by decide +kernel
theorem dd_Out_leave_52 : decode bb_Out_leave 52 = .ok (.ireturn, 1) := by decide +kernel
theorem dd_Out_leave_0 : decode bb_Out_leave 0 = .ok (.aload_n 0, 1) := by decide +kernel
theorem dd_Out_leave_1 : decode bb_Out_leave 1 = .ok (.iload_n 1, 1) := by decide +kernel
theorem dd_Out_leave_2 : decode bb_Out_leave 2 = .ok (.invokevirtual 64, 3) := by decide +kernel
theorem dd_Out_leave_5 : decode bb_Out_leave 5 = .ok (.astore_n 2, 1) := by decide +kernel
theorem dd_Out_leave_6 : decode bb_Out_leave 6 = .ok (.aload_n 2, 1) := by decide +kernel
theorem dd_Out_leave_7 : decode bb_Out_leave 7 = .ok (.getfield 79, 3) := by decide +kernel
theorem dd_Out_leave_10 : decode bb_Out_leave 10 = .ok (.getfield 83, 3) := by decide +kernel
theorem dd_Out_leave_13 : decode bb_Out_leave 13 = .ok (.ifCond .ne 5, 3) := by decide +kernel
theorem dd_Out_leave_18 : decode bb_Out_leave 18 = .ok (.aload_n 2, 1) := by decide +kernel
theorem dd_Out_leave_19 : decode bb_Out_leave 19 = .ok (.invokevirtual 98, 3) := by decide +kernel
theorem dd_Out_leave_22 : decode bb_Out_leave 22 = .ok (.ifCond .eq 22, 3) := by decide +kernel
theorem dd_Out_leave_25 : decode bb_Out_leave 25 = .ok (.aload_n 2, 1) := by decide +kernel
theorem dd_Out_leave_26 : decode bb_Out_leave 26 = .ok (.aload_n 0, 1) := by decide +kernel
theorem dd_Out_leave_27 : decode bb_Out_leave 27 = .ok (.getfield 22, 3) := by decide +kernel
theorem dd_Out_leave_30 : decode bb_Out_leave 30 = .ok (.aload_n 2, 1) := by decide +kernel
theorem dd_Out_leave_31 : decode bb_Out_leave 31 = .ok (.getfield 79, 3) := by decide +kernel
theorem dd_Out_leave_34 : decode bb_Out_leave 34 = .ok (.aload_n 0, 1) := by decide +kernel
theorem dd_Out_leave_35 : decode bb_Out_leave 35 = .ok (.getfield 22, 3) := by decide +kernel
theorem dd_Out_leave_38 : decode bb_Out_leave 38 = .ok (.invokevirtual 101, 3) := by decide +kernel
theorem dd_Out_leave_41 : decode bb_Out_leave 41 = .ok (.invokevirtual 105, 3) := by decide +kernel
theorem dd_Out_leave_16 : decode bb_Out_leave 16 = .ok (.iconst 0, 1) := by decide +kernel
theorem dd_Out_leave_17 : decode bb_Out_leave 17 = .ok (.ireturn, 1) := by decide +kernel
def ww_Out_leave : List Cond := .code yy_Out_leave bb_Out_leave 3 (some .boolean) :: TB
def rm_Out_leave : Room := { frames := 8, cells := 1, slots := 6, locals := 142 }
def wp_Out_leave_44 (o : Nat) (a1 : Int32) (post : fw_S → Int32 → Prop) (px : Nat → fw_S → Prop) (S : fw_S) (u2 : Nat) : Prop := wp_Car_go S (u2 + 1) (fun S1 => post S1 1)
def wp_Out_leave (S : fw_S) (o : Nat) (a1 : Int32) (post : fw_S → Int32 → Prop) (px : Nat → fw_S → Prop) : Prop := wp_Out_pointAt S o a1 (fun S1 r2 => ((¬ ((S1.1 (r2 + 1) 0) = 0) → wp_Point_runs S1 r2 (fun S4 r5 => (((r5 = 0) → wp_Out_leave_44 o a1 post px S4 r2) ∧ (¬ (r5 = 0) → wp_Car_idleSeconds S4 (r2 + 1) (S4.1 o 2) (fun S7 r8 => wp_Point_end S7 r2 (S4.1 o 2) r8 (fun S9 => wp_Out_leave_44 o a1 post px S9 r2)))))) ∧ (((S1.1 (r2 + 1) 0) = 0) → post S1 0))) px
set_option maxHeartbeats 4000000 in
set_option maxRecDepth 100000 in
theorem mt_Out_leave (l : Launch) (hl9 : l.stackTraces = false) (D : va_G) (cA : Nat → ClassId) (b : Nat) (S : fw_S) (o : Nat) (a1 : Int32) (ho : o < 245 ∧ layU o = (0, 0)) (post : fw_S → Int32 → Prop) (px : Nat → fw_S → Prop) (hw : wp_Out_leave S o a1 post px) : tx_Met l yy_Out_leave ww_Out_leave rm_Out_leave (fw_PcX D CL cA (TYS cA) TK layU b 245 S [.ref (b + o), .int a1]) (va_Qi (fun r S' => post S' r) (fw_B D CL cA TK layU b 245) (fw_A b 245)) (fw_X D CL cA TK layU b 245 px) 1 6 (fw_A b 245) := by
  refine tx_ofW (cc := bb_Out_leave) (maxL := 3) (ret := (some .boolean)) (by decide) rfl ?_
  intro p e s m args below meth c s₁ B hml hTab hv
  obtain ⟨rfl, hP, hK, hZ⟩ := hv
  have hx := B.exec
  have hb := B.bytes
  have hr := B.returns
  have hts := atoms_spec (ws := ww_Out_leave) B.pre
  have hown : s.vm.findClass "OutletOffice" = some m.cls := findClass_of_methodNamed B.named
  have hlocks := B.notSynchronized
  have hS : va_S (fw_A b 245) s.heap s.heap [] := va_S.rf
  have hl := lv_entry ([.ref (b + o), .int a1]) (n := 3) (Nat.le_of_ble_eq_true rfl)
  rw [lg_entry_eq]
  generalize (lg_sl ([.ref (b + o), .int a1]) ++ List.replicate (3 - (lg_sl ([.ref (b + o), .int a1])).length) Slot.unset).toArray = ls at hl ⊢
  have hl : lv_has ls 3 [(0, .ref (b + o)), (1, .int a1)] := hl
  have B44 : ∀ (S : fw_S) (u2 : Nat) (hu2 : u2 < 245 ∧ layU u2 = (2, 0)) (H : Heap) (locs : List Loc) (ls : Array Slot), wp_Out_leave_44 o a1 post px S u2 → fw_P D CL cA layU b 245 (fw_v TK layU b S) H → va_S (fw_A b 245) s.heap H locs → lv_has ls 3 [(0, .ref (b + o)), (1, .int a1), (2, .ref (b + u2))] → W p l e (headSpec ww_Out_leave rm_Out_leave).room s m ([.ref (b + o), .int a1] : List Value).toArray below meth c H locs 1 6 (tx_MQ below (va_Qi (fun r S' => post S' r) (fw_B D CL cA TK layU b 245) (fw_A b 245)) (fw_X D CL cA TK layU b 245 px) ([.ref (b + o), .int a1] : List Value).toArray s 1 6 (fw_A b 245)) (F0 m 44 ls []) := by
      intro S u2 hu2 H locs ls hw hP hS hl
      unfold wp_Out_leave_44 at hw
      refine lv_aload_n hx hb dd_Out_leave_44 rfl (lv_at hl 2 rfl) ?_
      refine fw_getr hx hb hts in_2 hown hK hP hu2 (by decide) rfl 0 (by decide) (hts _ (tb_in tw_244)) tk_2_0 dd_Out_leave_45 ?_
      refine fw_callv (va_runV (As := []) (rest := []) ⟨hx, hb, hml, hown, hts⟩ (mt_Car_go l D cA b S (u2 + 1) (lf_2_0 hu2) _ hw) (cwV 0 hts (fw_gV tw_523 tw_520 tw_521 tw_522 tw_8) rfl rfl rfl (by decide +kernel) ⟨Nat.le_of_ble_eq_true rfl, Nat.le_of_ble_eq_true rfl⟩) (fw_preV hP hK (lf_2_0 hu2) (by decide) rfl) rfl rfl hl.1 rfl (lv_room (Nat.le_of_ble_eq_true rfl)) dd_Out_leave_48 ⟨Nat.le_of_ble_eq_true rfl, Nat.le_of_ble_eq_true rfl⟩) hS (fun S1 H locs hw hP hS => ?_)
      try dsimp only at hw
      refine lv_iconst (v := 1) hx hb dd_Out_leave_51 kc_ic_1 ?_
      refine tx_ret ?_
      exact W.zret (v := 1) hx hb hr narrow_b1 (fun t ht hW => ⟨⟨_, _, rfl, hw, fw_Bof ht hP⟩, hS.F ht⟩) hS.2.2 dd_Out_leave_52
  unfold wp_Out_leave at hw
  refine lv_aload_n hx hb dd_Out_leave_0 rfl (lv_at hl 0 rfl) ?_
  refine lv_iload_n hx hb dd_Out_leave_1 rfl (lv_at hl 1 rfl) ?_
  refine tx_callr (tx_runV (As := [.int a1]) (rest := []) ⟨hx, hb, hml, hown, hts⟩ (mt_Out_pointAt l hl9 D cA b S o a1 ho _ _ hw) (cwV 1 hts (fw_gV tw_458 tw_455 tw_457 ts_1 tw_1) rfl rfl rfl (by decide +kernel) ⟨Nat.le_of_ble_eq_true rfl, Nat.le_of_ble_eq_true rfl⟩) (fw_preVX hP hK hZ hS ho (by decide) rfl) rfl rfl hl.1 rfl (lv_room (Nat.le_of_ble_eq_true rfl)) dd_Out_leave_2 ⟨Nat.le_of_ble_eq_true rfl, Nat.le_of_ble_eq_true rfl⟩) hS (fun k9 S9 q9 ce9 H locs hw hP hS hce => tx_outF hTab hlocks hw hP hS hce (Nat.le_of_ble_eq_true rfl) (Nat.le_of_ble_eq_true rfl)) (fun S1 r2 H locs hw h_r2 hP hS => ?_)
  try dsimp only at hw
  refine lv_astore_n hx hb dd_Out_leave_5 rfl hl (Nat.le_of_ble_eq_true rfl) rfl (fun ls hl => ?_)
  have hl : lv_has ls 3 [(2, .ref (b + r2)), (0, .ref (b + o)), (1, .int a1)] := hl
  refine lv_aload_n hx hb dd_Out_leave_6 rfl (lv_at hl 0 rfl) ?_
  refine fw_getr hx hb hts in_2 hown hK hP h_r2 (by decide) rfl 0 (by decide) (hts _ (tb_in tw_244)) tk_2_0 dd_Out_leave_7 ?_
  refine fw_geti hx hb hts in_3 hown hK hP (lf_2_0 h_r2) (by decide) rfl 0 (by decide) (hts _ (tb_in tw_159)) tk_3_0 dd_Out_leave_10 ?_
  refine lv_if_ne (tgt := 18) hx hb dd_Out_leave_13 (by decide) (fun h3 => ?_) (fun h3 => ?_)
  · have hw := hw.1 h3
    refine lv_aload_n hx hb dd_Out_leave_18 rfl (lv_at hl 0 rfl) ?_
    refine fw_calli (va_runV (As := []) (rest := []) ⟨hx, hb, hml, hown, hts⟩ (mt_Point_runs l D cA b S1 r2 h_r2 _ hw) (cwV 0 hts (fw_gV tw_498 tw_495 tw_496 tw_497 tw_7) rfl rfl rfl (by decide +kernel) ⟨Nat.le_of_ble_eq_true rfl, Nat.le_of_ble_eq_true rfl⟩) (fw_preV hP hK h_r2 (by decide) rfl) rfl rfl hl.1 rfl (lv_room (Nat.le_of_ble_eq_true rfl)) dd_Out_leave_19 ⟨Nat.le_of_ble_eq_true rfl, Nat.le_of_ble_eq_true rfl⟩) hS (fun S4 r5 H locs hw hP hS => ?_)
    try dsimp only at hw
    refine lv_if_eq (tgt := 44) hx hb dd_Out_leave_22 (by decide) (fun h6 => ?_) (fun h6 => ?_)
    · have hw := hw.1 h6
      exact B44 S4 r2 h_r2 _ _ ls hw hP hS (lv_sub hl [1, 2, 0] rfl)
    · have hw := hw.2 h6
      refine lv_aload_n hx hb dd_Out_leave_25 rfl (lv_at hl 0 rfl) ?_
      refine lv_aload_n hx hb dd_Out_leave_26 rfl (lv_at hl 1 rfl) ?_
      refine fw_geti hx hb hts in_0 hown hK hP ho (by decide) rfl 2 (by decide) (hts _ (tb_in tw_303)) tk_0_2 dd_Out_leave_27 ?_
      refine lv_aload_n hx hb dd_Out_leave_30 rfl (lv_at hl 0 rfl) ?_
      refine fw_getr hx hb hts in_2 hown hK hP h_r2 (by decide) rfl 0 (by decide) (hts _ (tb_in tw_244)) tk_2_0 dd_Out_leave_31 ?_
      refine lv_aload_n hx hb dd_Out_leave_34 rfl (lv_at hl 1 rfl) ?_
      refine fw_geti hx hb hts in_0 hown hK hP ho (by decide) rfl 2 (by decide) (hts _ (tb_in tw_303)) tk_0_2 dd_Out_leave_35 ?_
      refine fw_calli (va_runV (As := [.int (S4.1 o 2)]) (rest := [.int (S4.1 o 2), .ref (b + r2)]) ⟨hx, hb, hml, hown, hts⟩ (mt_Car_idleSeconds l D cA b S4 (r2 + 1) (S4.1 o 2) (lf_2_0 h_r2) _ hw) (cwV 1 hts (fw_gV tw_502 tw_499 tw_500 tw_501 tw_8) rfl rfl rfl (by decide +kernel) ⟨Nat.le_of_ble_eq_true rfl, Nat.le_of_ble_eq_true rfl⟩) (fw_preV hP hK (lf_2_0 h_r2) (by decide) rfl) rfl rfl hl.1 rfl (lv_room (Nat.le_of_ble_eq_true rfl)) dd_Out_leave_38 ⟨Nat.le_of_ble_eq_true rfl, Nat.le_of_ble_eq_true rfl⟩) hS (fun S7 r8 H locs hw hP hS => ?_)
      try dsimp only at hw
      refine fw_callv (va_runV (As := [.int (S4.1 o 2), .int r8]) (rest := []) ⟨hx, hb, hml, hown, hts⟩ (mt_Point_end l D cA b S7 r2 (S4.1 o 2) r8 h_r2 _ hw) (cwV 2 hts (fw_gV tw_506 tw_503 tw_504 tw_505 tw_7) rfl rfl rfl (by decide +kernel) ⟨Nat.le_of_ble_eq_true rfl, Nat.le_of_ble_eq_true rfl⟩) (fw_preV hP hK h_r2 (by decide) rfl) rfl rfl hl.1 rfl (lv_room (Nat.le_of_ble_eq_true rfl)) dd_Out_leave_41 ⟨Nat.le_of_ble_eq_true rfl, Nat.le_of_ble_eq_true rfl⟩) hS (fun S9 H locs hw hP hS => ?_)
      try dsimp only at hw
      exact B44 S9 r2 h_r2 _ _ ls hw hP hS (lv_sub hl [1, 2, 0] rfl)
  · have hw := hw.2 h3
    refine lv_iconst (v := 0) hx hb dd_Out_leave_16 kc_ic_0 ?_
    refine tx_ret ?_
    exact W.zret (v := 0) hx hb hr narrow_b0 (fun t ht hW => ⟨⟨_, _, rfl, hw, fw_Bof ht hP⟩, hS.F ht⟩) hS.2.2 dd_Out_leave_17
