theorem dd_M_wantsNow_27 : decode bb_M_wantsNow 27 = .ok (.iconst 0, 1) := by decide +kernel
theorem dd_M_wantsNow_28 : decode bb_M_wantsNow 28 = .ok (.ireturn, 1) := by decide +kernel
theorem dd_M_wantsNow_0 : decode bb_M_wantsNow 0 = .ok (.aload_n 0, 1) := by decide +kernel
theorem dd_M_wantsNow_1 : decode bb_M_wantsNow 1 = .ok (.getfield 63, 3) := by decide +kernel
theorem dd_M_wantsNow_4 : decode bb_M_wantsNow 4 = .ok (.iload_n 1, 1) := by decide +kernel
theorem dd_M_wantsNow_5 : decode bb_M_wantsNow 5 = .ok (.baload, 1) := by decide +kernel
theorem dd_M_wantsNow_6 : decode bb_M_wantsNow 6 = .ok (.ifCond .eq 21, 3) := by decide +kernel
theorem dd_M_wantsNow_9 : decode bb_M_wantsNow 9 = .ok (.aload_n 0, 1) := by decide +kernel
theorem dd_M_wantsNow_10 : decode bb_M_wantsNow 10 = .ok (.getfield 75, 3) := by decide +kernel
theorem dd_M_wantsNow_13 : decode bb_M_wantsNow 13 = .ok (.iload_n 1, 1) := by decide +kernel
theorem dd_M_wantsNow_14 : decode bb_M_wantsNow 14 = .ok (.baload, 1) := by decide +kernel
theorem dd_M_wantsNow_15 : decode bb_M_wantsNow 15 = .ok (.ifCond .ne 12, 3) := by decide +kernel
theorem dd_M_wantsNow_18 : decode bb_M_wantsNow 18 = .ok (.aload_n 0, 1) := by decide +kernel
theorem dd_M_wantsNow_19 : decode bb_M_wantsNow 19 = .ok (.getfield 66, 3) := by decide +kernel
theorem dd_M_wantsNow_22 : decode bb_M_wantsNow 22 = .ok (.iload_n 1, 1) := by decide +kernel
theorem dd_M_wantsNow_23 : decode bb_M_wantsNow 23 = .ok (.iaload, 1) := by decide +kernel
theorem dd_M_wantsNow_24 : decode bb_M_wantsNow 24 = .ok (.goto 4, 3) := by decide +kernel
def ww_M_wantsNow : List Cond := .code yy_M_wantsNow bb_M_wantsNow 2 (some .int) :: TB
def rm_M_wantsNow : Room := { frames := 0, cells := 0, slots := 0, locals := 0 }
def wp_M_wantsNow_28 (o : Nat) (a1 : Int32) (post : fw_S → Int32 → Prop) (S : fw_S) (p0 : Int32) : Prop := post S p0
def wp_M_wantsNow_27 (o : Nat) (a1 : Int32) (post : fw_S → Int32 → Prop) (S : fw_S) : Prop := wp_M_wantsNow_28 o a1 post S 0
def wp_M_wantsNow (S : fw_S) (o : Nat) (a1 : Int32) (post : fw_S → Int32 → Prop) : Prop := vp_in a1 6 ∧ (((((S.1 (o + 18) a1.toNatClampNeg) = 0) → wp_M_wantsNow_27 o a1 post S) ∧ (¬ ((S.1 (o + 18) a1.toNatClampNeg) = 0) → vp_in a1 6 ∧ (((¬ ((S.1 (o + 22) a1.toNatClampNeg) = 0) → wp_M_wantsNow_27 o a1 post S) ∧ (((S.1 (o + 22) a1.toNatClampNeg) = 0) → vp_in a1 6 ∧ (wp_M_wantsNow_28 o a1 post S (S.1 (o + 19) a1.toNatClampNeg))))))))
set_option maxHeartbeats 4000000 in
set_option maxRecDepth 100000 in
theorem mt_M_wantsNow (l : Launch) (D : va_G) (cA : Nat → ClassId) (b : Nat) (S : fw_S) (o : Nat) (a1 : Int32) (ho : o < 245 ∧ layU o = (10, 0)) (post : fw_S → Int32 → Prop) (hw : wp_M_wantsNow S o a1 post) : Met l yy_M_wantsNow ww_M_wantsNow rm_M_wantsNow (fw_Pc D CL cA (TYS cA) TK layU b 245 S [.ref (b + o), .int a1]) (va_Qi (fun r S' => post S' r) (fw_B D CL cA TK layU b 245) (fw_A b 245)) 0 0 (fw_A b 245) := by
  refine Met.ofW (cc := bb_M_wantsNow) (maxL := 2) (ret := (some .int)) (by decide) rfl ?_
  intro p e s m args below meth c s₁ B hml hv
  obtain ⟨rfl, hP, hK⟩ := hv
  have hx := B.exec
  have hb := B.bytes
  have hr := B.returns
  have hts := atoms_spec (ws := ww_M_wantsNow) B.pre
  have hown : s.vm.findClass "OutletOfficeModel" = some m.cls := findClass_of_methodNamed B.named
  have hlocks := B.notSynchronized
  have hS : va_S (fw_A b 245) s.heap s.heap [] := va_S.rf
  have hl := lv_entry ([.ref (b + o), .int a1]) (n := 2) (Nat.le_of_ble_eq_true rfl)
  rw [lg_entry_eq]
  generalize (lg_sl ([.ref (b + o), .int a1]) ++ List.replicate (2 - (lg_sl ([.ref (b + o), .int a1])).length) Slot.unset).toArray = ls at hl ⊢
  have hl : lv_has ls 2 [(0, .ref (b + o)), (1, .int a1)] := hl
  have B28 : ∀ (S : fw_S) (p0 : Int32) (ls : Array Slot), wp_M_wantsNow_28 o a1 post S p0 → fw_P D CL cA layU b 245 (fw_v TK layU b S) s.heap → va_S (fw_A b 245) s.heap s.heap [] → lv_has ls 2 [(0, .ref (b + o)), (1, .int a1)] → W p l e (headSpec ww_M_wantsNow rm_M_wantsNow).room s m ([.ref (b + o), .int a1] : List Value).toArray below meth c s.heap [] 0 0 (MQ below (va_Qi (fun r S' => post S' r) (fw_B D CL cA TK layU b 245) (fw_A b 245)) ([.ref (b + o), .int a1] : List Value).toArray s 0 0 (fw_A b 245)) (F0 m 28 ls [.int p0]) := by
      intro S p0 ls hw hP hS hl
      unfold wp_M_wantsNow_28 at hw
      exact W.iret (v := p0) hx hb hr (fun t ht hW => ⟨⟨_, _, rfl, hw, fw_Bof ht hP⟩, hS.F ht⟩) hS.2.2 dd_M_wantsNow_28
  have B27 : ∀ (S : fw_S) (ls : Array Slot), wp_M_wantsNow_27 o a1 post S → fw_P D CL cA layU b 245 (fw_v TK layU b S) s.heap → va_S (fw_A b 245) s.heap s.heap [] → lv_has ls 2 [(0, .ref (b + o)), (1, .int a1)] → W p l e (headSpec ww_M_wantsNow rm_M_wantsNow).room s m ([.ref (b + o), .int a1] : List Value).toArray below meth c s.heap [] 0 0 (MQ below (va_Qi (fun r S' => post S' r) (fw_B D CL cA TK layU b 245) (fw_A b 245)) ([.ref (b + o), .int a1] : List Value).toArray s 0 0 (fw_A b 245)) (F0 m 27 ls []) := by
      intro S ls hw hP hS hl
      unfold wp_M_wantsNow_27 at hw
      refine lv_iconst (v := 0) hx hb dd_M_wantsNow_27 kc_ic_0 ?_
      exact B28 S 0 ls hw hP hS (lv_sub hl [0, 1] rfl)
  unfold wp_M_wantsNow at hw
  refine lv_aload_n hx hb dd_M_wantsNow_0 rfl (lv_at hl 0 rfl) ?_
  refine fw_getr hx hb hts in_10 hown hK hP ho (by decide) rfl 21 (by decide) (hts _ (tb_in tw_802)) tk_10_21 dd_M_wantsNow_1 ?_
  refine lv_iload_n hx hb dd_M_wantsNow_4 rfl (lv_at hl 1 rfl) ?_
  obtain ⟨h1, hw⟩ := hw
  refine fw_zald hx hb hK hP (lf_10_21 ho) (by decide) 2 rfl tka_102 h1 dd_M_wantsNow_5 ?_
  refine lv_if_eq (tgt := 27) hx hb dd_M_wantsNow_6 (by decide) (fun h2 => ?_) (fun h2 => ?_)
  · have hw := hw.1 h2
    exact B27 S ls hw hP hS (lv_sub hl [0, 1] rfl)
  · have hw := hw.2 h2
    refine lv_aload_n hx hb dd_M_wantsNow_9 rfl (lv_at hl 0 rfl) ?_
    refine fw_getr hx hb hts in_10 hown hK hP ho (by decide) rfl 25 (by decide) (hts _ (tb_in tw_806)) tk_10_25 dd_M_wantsNow_10 ?_
    refine lv_iload_n hx hb dd_M_wantsNow_13 rfl (lv_at hl 1 rfl) ?_
    obtain ⟨h3, hw⟩ := hw
    refine fw_zald hx hb hK hP (lf_10_25 ho) (by decide) 2 rfl tka_102 h3 dd_M_wantsNow_14 ?_
    refine lv_if_ne (tgt := 27) hx hb dd_M_wantsNow_15 (by decide) (fun h4 => ?_) (fun h4 => ?_)
    · have hw := hw.1 h4
      exact B27 S ls hw hP hS (lv_sub hl [0, 1] rfl)
    · have hw := hw.2 h4
      refine lv_aload_n hx hb dd_M_wantsNow_18 rfl (lv_at hl 0 rfl) ?_
      refine fw_getr hx hb hts in_10 hown hK hP ho (by decide) rfl 22 (by decide) (hts _ (tb_in tw_803)) tk_10_22 dd_M_wantsNow_19 ?_
      refine lv_iload_n hx hb dd_M_wantsNow_22 rfl (lv_at hl 1 rfl) ?_
      obtain ⟨h5, hw⟩ := hw
      refine fw_iald hx hb hK hP (lf_10_22 ho) (by decide) 0 rfl tka_100 h5 dd_M_wantsNow_23 ?_
      refine lv_goto (tgt := 28) hx hb dd_M_wantsNow_24 (by decide) ?_
      exact B28 S (S.1 (o + 19) a1.toNatClampNeg) ls hw hP hS (lv_sub hl [0, 1] rfl)
theorem dd_M_isActive_22 : decode bb_M_isActive 22 = .ok (.iconst 0, 1) := by decide +kernel
theorem dd_M_isActive_23 : decode bb_M_isActive 23 = .ok (.ireturn, 1) := by decide +kernel
theorem dd_M_isActive_0 : decode bb_M_isActive 0 = .ok (.aload_n 0, 1) := by decide +kernel
theorem dd_M_isActive_1 : decode bb_M_isActive 1 = .ok (.iload_n 1, 1) := by decide +kernel
theorem dd_M_isActive_2 : decode bb_M_isActive 2 = .ok (.invokevirtual 151, 3) := by decide +kernel
theorem dd_M_isActive_5 : decode bb_M_isActive 5 = .ok (.ifCond .eq 17, 3) := by decide +kernel
theorem dd_M_isActive_8 : decode bb_M_isActive 8 = .ok (.aload_n 0, 1) := by decide +kernel
theorem dd_M_isActive_9 : decode bb_M_isActive 9 = .ok (.iload_n 1, 1) := by decide +kernel
theorem dd_M_isActive_10 : decode bb_M_isActive 10 = .ok (.invokevirtual 189, 3) := by decide +kernel
theorem dd_M_isActive_13 : decode bb_M_isActive 13 = .ok (.bipush 60, 2) := by decide +kernel
theorem dd_M_isActive_15 : decode bb_M_isActive 15 = .ok (.if_icmp .lt 7, 3) := by decide +kernel
theorem dd_M_isActive_18 : decode bb_M_isActive 18 = .ok (.iconst 1, 1) := by decide +kernel
theorem dd_M_isActive_19 : decode bb_M_isActive 19 = .ok (.goto 4, 3) := by decide +kernel
def ww_M_isActive : List Cond := .code yy_M_isActive bb_M_isActive 2 (some .boolean) :: TB
def rm_M_isActive : Room := { frames := 1, cells := 0, slots := 0, locals := 21 }
def wp_M_isActive_23 (o : Nat) (a1 : Int32) (post : fw_S → Int32 → Prop) (S : fw_S) (p0 : Int32) : Prop := fw_bz p0 ∧ (post S p0)
def wp_M_isActive_22 (o : Nat) (a1 : Int32) (post : fw_S → Int32 → Prop) (S : fw_S) : Prop := wp_M_isActive_23 o a1 post S 0
def wp_M_isActive (S : fw_S) (o : Nat) (a1 : Int32) (post : fw_S → Int32 → Prop) : Prop := wp_M_runs S o a1 (fun S1 r2 => (((r2 = 0) → wp_M_isActive_22 o a1 post S1) ∧ (¬ (r2 = 0) → wp_M_wantsNow S1 o a1 (fun S4 r5 => (((r5 < 60) → wp_M_isActive_22 o a1 post S4) ∧ (¬ (r5 < 60) → wp_M_isActive_23 o a1 post S4 1))))))
set_option maxHeartbeats 4000000 in
set_option maxRecDepth 100000 in
theorem mt_M_isActive (l : Launch) (D : va_G) (cA : Nat → ClassId) (b : Nat) (S : fw_S) (o : Nat) (a1 : Int32) (ho : o < 245 ∧ layU o = (10, 0)) (post : fw_S → Int32 → Prop) (hw : wp_M_isActive S o a1 post) : Met l yy_M_isActive ww_M_isActive rm_M_isActive (fw_Pc D CL cA (TYS cA) TK layU b 245 S [.ref (b + o), .int a1]) (va_Qi (fun r S' => post S' r) (fw_B D CL cA TK layU b 245) (fw_A b 245)) 0 0 (fw_A b 245) := by
  refine Met.ofW (cc := bb_M_isActive) (maxL := 2) (ret := (some .boolean)) (by decide) rfl ?_
  intro p e s m args below meth c s₁ B hml hv
  obtain ⟨rfl, hP, hK⟩ := hv
  have hx := B.exec
  have hb := B.bytes
  have hr := B.returns
  have hts := atoms_spec (ws := ww_M_isActive) B.pre
  have hown : s.vm.findClass "OutletOfficeModel" = some m.cls := findClass_of_methodNamed B.named
  have hlocks := B.notSynchronized
  have hS : va_S (fw_A b 245) s.heap s.heap [] := va_S.rf
  have hl := lv_entry ([.ref (b + o), .int a1]) (n := 2) (Nat.le_of_ble_eq_true rfl)
  rw [lg_entry_eq]
  generalize (lg_sl ([.ref (b + o), .int a1]) ++ List.replicate (2 - (lg_sl ([.ref (b + o), .int a1])).length) Slot.unset).toArray = ls at hl ⊢
  have hl : lv_has ls 2 [(0, .ref (b + o)), (1, .int a1)] := hl
  have B23 : ∀ (S : fw_S) (p0 : Int32) (H : Heap) (locs : List Loc) (ls : Array Slot), wp_M_isActive_23 o a1 post S p0 → fw_P D CL cA layU b 245 (fw_v TK layU b S) H → va_S (fw_A b 245) s.heap H locs → lv_has ls 2 [(0, .ref (b + o)), (1, .int a1)] → W p l e (headSpec ww_M_isActive rm_M_isActive).room s m ([.ref (b + o), .int a1] : List Value).toArray below meth c H locs 0 0 (MQ below (va_Qi (fun r S' => post S' r) (fw_B D CL cA TK layU b 245) (fw_A b 245)) ([.ref (b + o), .int a1] : List Value).toArray s 0 0 (fw_A b 245)) (F0 m 23 ls [.int p0]) := by
      intro S p0 H locs ls hw hP hS hl
      unfold wp_M_isActive_23 at hw
      obtain ⟨h1, hw⟩ := hw
      exact W.zret (v := p0) hx hb hr (fw_bz.n h1) (fun t ht hW => ⟨⟨_, _, rfl, hw, fw_Bof ht hP⟩, hS.F ht⟩) hS.2.2 dd_M_isActive_23
  have B22 : ∀ (S : fw_S) (H : Heap) (locs : List Loc) (ls : Array Slot), wp_M_isActive_22 o a1 post S → fw_P D CL cA layU b 245 (fw_v TK layU b S) H → va_S (fw_A b 245) s.heap H locs → lv_has ls 2 [(0, .ref (b + o)), (1, .int a1)] → W p l e (headSpec ww_M_isActive rm_M_isActive).room s m ([.ref (b + o), .int a1] : List Value).toArray below meth c H locs 0 0 (MQ below (va_Qi (fun r S' => post S' r) (fw_B D CL cA TK layU b 245) (fw_A b 245)) ([.ref (b + o), .int a1] : List Value).toArray s 0 0 (fw_A b 245)) (F0 m 22 ls []) := by
      intro S H locs ls hw hP hS hl
      unfold wp_M_isActive_22 at hw
      refine lv_iconst (v := 0) hx hb dd_M_isActive_22 kc_ic_0 ?_
      exact B23 S 0 _ _ ls hw hP hS (lv_sub hl [0, 1] rfl)
  unfold wp_M_isActive at hw
  refine lv_aload_n hx hb dd_M_isActive_0 rfl (lv_at hl 0 rfl) ?_
  refine lv_iload_n hx hb dd_M_isActive_1 rfl (lv_at hl 1 rfl) ?_
  refine fw_calli (va_runV (As := [.int a1]) (rest := []) ⟨hx, hb, hml, hown, hts⟩ (mt_M_runs l D cA b S o a1 ho _ hw) (cwV 1 hts (fw_gV tw_952 tw_949 tw_951 ts_15 tw_11) rfl rfl rfl (by decide +kernel) ⟨Nat.le_of_ble_eq_true rfl, Nat.le_of_ble_eq_true rfl⟩) (fw_preV hP hK ho (by decide) rfl) rfl rfl hl.1 rfl (lv_room (Nat.le_of_ble_eq_true rfl)) dd_M_isActive_2 ⟨Nat.le_of_ble_eq_true rfl, Nat.le_of_ble_eq_true rfl⟩) hS (fun S1 r2 H locs hw hP hS => ?_)
  try dsimp only at hw
  refine lv_if_eq (tgt := 22) hx hb dd_M_isActive_5 (by decide) (fun h3 => ?_) (fun h3 => ?_)
  · have hw := hw.1 h3
    exact B22 S1 _ _ ls hw hP hS (lv_sub hl [0, 1] rfl)
  · have hw := hw.2 h3
    refine lv_aload_n hx hb dd_M_isActive_8 rfl (lv_at hl 0 rfl) ?_
    refine lv_iload_n hx hb dd_M_isActive_9 rfl (lv_at hl 1 rfl) ?_
    refine fw_calli (va_runV (As := [.int a1]) (rest := []) ⟨hx, hb, hml, hown, hts⟩ (mt_M_wantsNow l D cA b S1 o a1 ho _ hw) (cwV 1 hts (fw_gV tw_1039 tw_1036 tw_1038 ts_29 tw_11) rfl rfl rfl (by decide +kernel) ⟨Nat.le_of_ble_eq_true rfl, Nat.le_of_ble_eq_true rfl⟩) (fw_preV hP hK ho (by decide) rfl) rfl rfl hl.1 rfl (lv_room (Nat.le_of_ble_eq_true rfl)) dd_M_isActive_10 ⟨Nat.le_of_ble_eq_true rfl, Nat.le_of_ble_eq_true rfl⟩) hS (fun S4 r5 H locs hw hP hS => ?_)
    try dsimp only at hw
    refine lv_bipush (v := 60) hx hb dd_M_isActive_13 kc_bp_60 ?_
    refine lv_icmp_lt (tgt := 22) hx hb dd_M_isActive_15 (by decide) (fun h6 => ?_) (fun h6 => ?_)
    · have hw := hw.1 h6
      exact B22 S4 _ _ ls hw hP hS (lv_sub hl [0, 1] rfl)
    · have hw := hw.2 h6
      refine lv_iconst (v := 1) hx hb dd_M_isActive_18 kc_ic_1 ?_
      refine lv_goto (tgt := 23) hx hb dd_M_isActive_19 (by decide) ?_
      exact B23 S4 1 _ _ ls hw hP hS (lv_sub hl [0, 1] rfl)
theorem dd_M_share_16 : decode bb_M_share 16 = .ok (.istore_n 3, 1) := by decide +kernel
theorem dd_M_share_17 : decode bb_M_share 17 = .ok (.iload_n 0, 1) := by decide +kernel
theorem dd_M_share_18 : decode bb_M_share 18 = .ok (.iload_n 3, 1) := by decide +kernel
theorem dd_M_share_19 : decode bb_M_share 19 = .ok (.if_icmp .ge 7, 3) := by decide +kernel
theorem dd_M_share_26 : decode bb_M_share 26 = .ok (.iload_n 3, 1) := by decide +kernel
theorem dd_M_share_22 : decode bb_M_share 22 = .ok (.iload_n 0, 1) := by decide +kernel
theorem dd_M_share_23 : decode bb_M_share 23 = .ok (.goto 4, 3) := by decide +kernel
theorem dd_M_share_27 : decode bb_M_share 27 = .ok (.ireturn, 1) := by decide +kernel
theorem dd_M_share_0 : decode bb_M_share 0 = .ok (.iload_n 2, 1) := by decide +kernel
theorem dd_M_share_1 : decode bb_M_share 1 = .ok (.iload_n 1, 1) := by decide +kernel
theorem dd_M_share_2 : decode bb_M_share 2 = .ok (.imul, 1) := by decide +kernel
theorem dd_M_share_3 : decode bb_M_share 3 = .ok (.bipush 60, 2) := by decide +kernel
theorem dd_M_share_5 : decode bb_M_share 5 = .ok (.if_icmp .le 9, 3) := by decide +kernel
theorem dd_M_share_14 : decode bb_M_share 14 = .ok (.bipush 60, 2) := by decide +kernel
theorem dd_M_share_8 : decode bb_M_share 8 = .ok (.iload_n 2, 1) := by decide +kernel
theorem dd_M_share_9 : decode bb_M_share 9 = .ok (.iload_n 1, 1) := by decide +kernel
theorem dd_M_share_10 : decode bb_M_share 10 = .ok (.imul, 1) := by decide +kernel
theorem dd_M_share_11 : decode bb_M_share 11 = .ok (.goto 5, 3) := by decide +kernel
def ww_M_share : List Cond := .code yy_M_share bb_M_share 4 (some .int) :: TB
def rm_M_share : Room := { frames := 0, cells := 0, slots := 0, locals := 0 }
def wp_M_share_27 (a1 : Int32) (a2 : Int32) (a3 : Int32) (post : fw_S → Int32 → Prop) (S : fw_S) (x3 : Int32) (p0 : Int32) : Prop := post S p0
def wp_M_share_16 (a1 : Int32) (a2 : Int32) (a3 : Int32) (post : fw_S → Int32 → Prop) (S : fw_S) (p0 : Int32) : Prop := (((p0 ≤ a1) → wp_M_share_27 a1 a2 a3 post S p0 p0) ∧ (¬ (p0 ≤ a1) → wp_M_share_27 a1 a2 a3 post S p0 a1))
def wp_M_share (S : fw_S) (a1 : Int32) (a2 : Int32) (a3 : Int32) (post : fw_S → Int32 → Prop) : Prop := ((((a3 * a2) ≤ 60) → wp_M_share_16 a1 a2 a3 post S 60) ∧ (¬ ((a3 * a2) ≤ 60) → wp_M_share_16 a1 a2 a3 post S (a3 * a2)))
set_option maxHeartbeats 4000000 in
set_option maxRecDepth 100000 in
theorem mt_M_share (l : Launch) (D : va_G) (cA : Nat → ClassId) (b : Nat) (S : fw_S) (a1 : Int32) (a2 : Int32) (a3 : Int32) (post : fw_S → Int32 → Prop) (hw : wp_M_share S a1 a2 a3 post) : Met l yy_M_share ww_M_share rm_M_share (fw_Pc D CL cA (TYS cA) TK layU b 245 S [.int a1, .int a2, .int a3]) (va_Qi (fun r S' => post S' r) (fw_B D CL cA TK layU b 245) (fw_A b 245)) 0 0 (fw_A b 245) := by
  refine Met.ofW (cc := bb_M_share) (maxL := 4) (ret := (some .int)) (by decide) rfl ?_
  intro p e s m args below meth c s₁ B hml hv
  obtain ⟨rfl, hP, hK⟩ := hv
  have hx := B.exec
  have hb := B.bytes
  have hr := B.returns
  have hts := atoms_spec (ws := ww_M_share) B.pre
  have hown : s.vm.findClass "OutletOfficeModel" = some m.cls := findClass_of_methodNamed B.named
  have hlocks := B.notSynchronized
  have hS : va_S (fw_A b 245) s.heap s.heap [] := va_S.rf
  have hl := lv_entry ([.int a1, .int a2, .int a3]) (n := 4) (Nat.le_of_ble_eq_true rfl)
  rw [lg_entry_eq]
  generalize (lg_sl ([.int a1, .int a2, .int a3]) ++ List.replicate (4 - (lg_sl ([.int a1, .int a2, .int a3])).length) Slot.unset).toArray = ls at hl ⊢
  have hl : lv_has ls 4 [(0, .int a1), (1, .int a2), (2, .int a3)] := hl
  have B27 : ∀ (S : fw_S) (x3 : Int32) (p0 : Int32) (ls : Array Slot), wp_M_share_27 a1 a2 a3 post S x3 p0 → fw_P D CL cA layU b 245 (fw_v TK layU b S) s.heap → va_S (fw_A b 245) s.heap s.heap [] → lv_has ls 4 [(0, .int a1), (1, .int a2), (2, .int a3), (3, .int x3)] → W p l e (headSpec ww_M_share rm_M_share).room s m ([.int a1, .int a2, .int a3] : List Value).toArray below meth c s.heap [] 0 0 (MQ below (va_Qi (fun r S' => post S' r) (fw_B D CL cA TK layU b 245) (fw_A b 245)) ([.int a1, .int a2, .int a3] : List Value).toArray s 0 0 (fw_A b 245)) (F0 m 27 ls [.int p0]) := by
      intro S x3 p0 ls hw hP hS hl
      unfold wp_M_share_27 at hw
      exact W.iret (v := p0) hx hb hr (fun t ht hW => ⟨⟨_, _, rfl, hw, fw_Bof ht hP⟩, hS.F ht⟩) hS.2.2 dd_M_share_27
  have B16 : ∀ (S : fw_S) (p0 : Int32) (ls : Array Slot), wp_M_share_16 a1 a2 a3 post S p0 → fw_P D CL cA layU b 245 (fw_v TK layU b S) s.heap → va_S (fw_A b 245) s.heap s.heap [] → lv_has ls 4 [(0, .int a1), (1, .int a2), (2, .int a3)] → W p l e (headSpec ww_M_share rm_M_share).room s m ([.int a1, .int a2, .int a3] : List Value).toArray below meth c s.heap [] 0 0 (MQ below (va_Qi (fun r S' => post S' r) (fw_B D CL cA TK layU b 245) (fw_A b 245)) ([.int a1, .int a2, .int a3] : List Value).toArray s 0 0 (fw_A b 245)) (F0 m 16 ls [.int p0]) := by
      intro S p0 ls hw hP hS hl
      unfold wp_M_share_16 at hw
      refine lv_istore_n hx hb dd_M_share_16 rfl hl (Nat.le_of_ble_eq_true rfl) rfl (fun ls hl => ?_)
      have hl : lv_has ls 4 [(3, .int p0), (0, .int a1), (1, .int a2), (2, .int a3)] := hl
      refine lv_iload_n hx hb dd_M_share_17 rfl (lv_at hl 1 rfl) ?_
      refine lv_iload_n hx hb dd_M_share_18 rfl (lv_at hl 0 rfl) ?_
      refine lv_icmp_ge (tgt := 26) hx hb dd_M_share_19 (by decide) (fun h1 => ?_) (fun h1 => ?_)
      · have hw := hw.1 h1
        refine lv_iload_n hx hb dd_M_share_26 rfl (lv_at hl 0 rfl) ?_
        exact B27 S p0 p0 ls hw hP hS (lv_sub hl [1, 2, 3, 0] rfl)
      · have hw := hw.2 h1
        refine lv_iload_n hx hb dd_M_share_22 rfl (lv_at hl 1 rfl) ?_
        refine lv_goto (tgt := 27) hx hb dd_M_share_23 (by decide) ?_
        exact B27 S p0 a1 ls hw hP hS (lv_sub hl [1, 2, 3, 0] rfl)
  unfold wp_M_share at hw
  refine lv_iload_n hx hb dd_M_share_0 rfl (lv_at hl 2 rfl) ?_
  refine lv_iload_n hx hb dd_M_share_1 rfl (lv_at hl 1 rfl) ?_
  refine lv_imul hx hb dd_M_share_2 ?_
  refine lv_bipush (v := 60) hx hb dd_M_share_3 kc_bp_60 ?_
  refine lv_icmp_le (tgt := 14) hx hb dd_M_share_5 (by decide) (fun h1 => ?_) (fun h1 => ?_)
  · have hw := hw.1 h1
    refine lv_bipush (v := 60) hx hb dd_M_share_14 kc_bp_60 ?_
    exact B16 S 60 ls hw hP hS (lv_sub hl [0, 1, 2] rfl)
  · have hw := hw.2 h1
    refine lv_iload_n hx hb dd_M_share_8 rfl (lv_at hl 2 rfl) ?_
    refine lv_iload_n hx hb dd_M_share_9 rfl (lv_at hl 1 rfl) ?_
    refine lv_imul hx hb dd_M_share_10 ?_
    refine lv_goto (tgt := 16) hx hb dd_M_share_11 (by decide) ?_
    exact B16 S (a3 * a2) ls hw hP hS (lv_sub hl [0, 1, 2] rfl)
