theorem dd_Point_isReachable_18 : decode bb_Point_isReachable 18 = .ok (.iconst 0, 1) := by decide +kernel
theorem dd_Point_isReachable_19 : decode bb_Point_isReachable 19 = .ok (.ireturn, 1) := by decide +kernel
theorem dd_Point_isReachable_0 : decode bb_Point_isReachable 0 = .ok (.aload_n 0, 1) := by decide +kernel
theorem dd_Point_isReachable_1 : decode bb_Point_isReachable 1 = .ok (.getfield 32, 3) := by decide +kernel
theorem dd_Point_isReachable_4 : decode bb_Point_isReachable 4 = .ok (.ifCond .eq 14, 3) := by decide +kernel
theorem dd_Point_isReachable_7 : decode bb_Point_isReachable 7 = .ok (.aload_n 0, 1) := by decide +kernel
theorem dd_Point_isReachable_8 : decode bb_Point_isReachable 8 = .ok (.getfield 36, 3) := by decide +kernel
theorem dd_Point_isReachable_11 : decode bb_Point_isReachable 11 = .ok (.ifCond .eq 7, 3) := by decide +kernel
theorem dd_Point_isReachable_14 : decode bb_Point_isReachable 14 = .ok (.iconst 1, 1) := by decide +kernel
theorem dd_Point_isReachable_15 : decode bb_Point_isReachable 15 = .ok (.goto 4, 3) := by decide +kernel
def ww_Point_isReachable : List Cond := .code yy_Point_isReachable bb_Point_isReachable 1 (some .boolean) :: TB
def rm_Point_isReachable : Room := { frames := 0, cells := 0, slots := 0, locals := 0 }
def wp_Point_isReachable_19 (o : Nat) (post : fw_S → Int32 → Prop) (S : fw_S) (p0 : Int32) : Prop := fw_bz p0 ∧ (post S p0)
def wp_Point_isReachable_18 (o : Nat) (post : fw_S → Int32 → Prop) (S : fw_S) : Prop := wp_Point_isReachable_19 o post S 0
def wp_Point_isReachable (S : fw_S) (o : Nat) (post : fw_S → Int32 → Prop) : Prop := ((((S.1 o 3) = 0) → wp_Point_isReachable_18 o post S) ∧ (¬ ((S.1 o 3) = 0) → ((((S.1 o 4) = 0) → wp_Point_isReachable_18 o post S) ∧ (¬ ((S.1 o 4) = 0) → wp_Point_isReachable_19 o post S 1))))
set_option maxHeartbeats 4000000 in
set_option maxRecDepth 100000 in
theorem mt_Point_isReachable (l : Launch) (D : va_G) (cA : Nat → ClassId) (b : Nat) (S : fw_S) (o : Nat) (ho : o < 245 ∧ layU o = (2, 0)) (post : fw_S → Int32 → Prop) (hw : wp_Point_isReachable S o post) : Met l yy_Point_isReachable ww_Point_isReachable rm_Point_isReachable (fw_Pc D CL cA (TYS cA) TK layU b 245 S [.ref (b + o)]) (va_Qi (fun r S' => post S' r) (fw_B D CL cA TK layU b 245) (fw_A b 245)) 0 0 (fw_A b 245) := by
  refine Met.ofW (cc := bb_Point_isReachable) (maxL := 1) (ret := (some .boolean)) (by decide) rfl ?_
  intro p e s m args below meth c s₁ B hml hv
  obtain ⟨rfl, hP, hK⟩ := hv
  have hx := B.exec
  have hb := B.bytes
  have hr := B.returns
  have hts := atoms_spec (ws := ww_Point_isReachable) B.pre
  have hown : s.vm.findClass "OutletOffice$Point" = some m.cls := findClass_of_methodNamed B.named
  have hlocks := B.notSynchronized
  have hS : va_S (fw_A b 245) s.heap s.heap [] := va_S.rf
  have hl := lv_entry ([.ref (b + o)]) (n := 1) (Nat.le_of_ble_eq_true rfl)
  rw [lg_entry_eq]
  generalize (lg_sl ([.ref (b + o)]) ++ List.replicate (1 - (lg_sl ([.ref (b + o)])).length) Slot.unset).toArray = ls at hl ⊢
  have hl : lv_has ls 1 [(0, .ref (b + o))] := hl
  have B19 : ∀ (S : fw_S) (p0 : Int32) (ls : Array Slot), wp_Point_isReachable_19 o post S p0 → fw_P D CL cA layU b 245 (fw_v TK layU b S) s.heap → va_S (fw_A b 245) s.heap s.heap [] → lv_has ls 1 [(0, .ref (b + o))] → W p l e (headSpec ww_Point_isReachable rm_Point_isReachable).room s m ([.ref (b + o)] : List Value).toArray below meth c s.heap [] 0 0 (MQ below (va_Qi (fun r S' => post S' r) (fw_B D CL cA TK layU b 245) (fw_A b 245)) ([.ref (b + o)] : List Value).toArray s 0 0 (fw_A b 245)) (F0 m 19 ls [.int p0]) := by
      intro S p0 ls hw hP hS hl
      unfold wp_Point_isReachable_19 at hw
      obtain ⟨h1, hw⟩ := hw
      exact W.zret (v := p0) hx hb hr (fw_bz.n h1) (fun t ht hW => ⟨⟨_, _, rfl, hw, fw_Bof ht hP⟩, hS.F ht⟩) hS.2.2 dd_Point_isReachable_19
  have B18 : ∀ (S : fw_S) (ls : Array Slot), wp_Point_isReachable_18 o post S → fw_P D CL cA layU b 245 (fw_v TK layU b S) s.heap → va_S (fw_A b 245) s.heap s.heap [] → lv_has ls 1 [(0, .ref (b + o))] → W p l e (headSpec ww_Point_isReachable rm_Point_isReachable).room s m ([.ref (b + o)] : List Value).toArray below meth c s.heap [] 0 0 (MQ below (va_Qi (fun r S' => post S' r) (fw_B D CL cA TK layU b 245) (fw_A b 245)) ([.ref (b + o)] : List Value).toArray s 0 0 (fw_A b 245)) (F0 m 18 ls []) := by
      intro S ls hw hP hS hl
      unfold wp_Point_isReachable_18 at hw
      refine lv_iconst (v := 0) hx hb dd_Point_isReachable_18 kc_ic_0 ?_
      exact B19 S 0 ls hw hP hS (lv_sub hl [0] rfl)
  unfold wp_Point_isReachable at hw
  refine lv_aload_n hx hb dd_Point_isReachable_0 rfl (lv_at hl 0 rfl) ?_
  refine fw_geti hx hb hts in_2 hown hK hP ho (by decide) rfl 3 (by decide) (hts _ (tb_in tw_249)) tk_2_3 dd_Point_isReachable_1 ?_
  refine lv_if_eq (tgt := 18) hx hb dd_Point_isReachable_4 (by decide) (fun h1 => ?_) (fun h1 => ?_)
  · have hw := hw.1 h1
    exact B18 S ls hw hP hS (lv_sub hl [0] rfl)
  · have hw := hw.2 h1
    refine lv_aload_n hx hb dd_Point_isReachable_7 rfl (lv_at hl 0 rfl) ?_
    refine fw_geti hx hb hts in_2 hown hK hP ho (by decide) rfl 4 (by decide) (hts _ (tb_in tw_250)) tk_2_4 dd_Point_isReachable_8 ?_
    refine lv_if_eq (tgt := 18) hx hb dd_Point_isReachable_11 (by decide) (fun h2 => ?_) (fun h2 => ?_)
    · have hw := hw.1 h2
      exact B18 S ls hw hP hS (lv_sub hl [0] rfl)
    · have hw := hw.2 h2
      refine lv_iconst (v := 1) hx hb dd_Point_isReachable_14 kc_ic_1 ?_
      refine lv_goto (tgt := 19) hx hb dd_Point_isReachable_15 (by decide) ?_
      exact B19 S 1 ls hw hP hS (lv_sub hl [0] rfl)
theorem dd_Point_waitsToSend_28 : decode bb_Point_waitsToSend 28 = .ok (.iconst 0, 1) := by decide +kernel
theorem dd_Point_waitsToSend_29 : decode bb_Point_waitsToSend 29 = .ok (.ireturn, 1) := by decide +kernel
theorem dd_Point_waitsToSend_0 : decode bb_Point_waitsToSend 0 = .ok (.aload_n 0, 1) := by decide +kernel
theorem dd_Point_waitsToSend_1 : decode bb_Point_waitsToSend 1 = .ok (.invokevirtual 104, 3) := by decide +kernel
theorem dd_Point_waitsToSend_4 : decode bb_Point_waitsToSend 4 = .ok (.ifCond .eq 24, 3) := by decide +kernel
theorem dd_Point_waitsToSend_7 : decode bb_Point_waitsToSend 7 = .ok (.aload_n 0, 1) := by decide +kernel
theorem dd_Point_waitsToSend_8 : decode bb_Point_waitsToSend 8 = .ok (.getfield 21, 3) := by decide +kernel
theorem dd_Point_waitsToSend_11 : decode bb_Point_waitsToSend 11 = .ok (.getfield 84, 3) := by decide +kernel
theorem dd_Point_waitsToSend_14 : decode bb_Point_waitsToSend 14 = .ok (.ifCond .le 14, 3) := by decide +kernel
theorem dd_Point_waitsToSend_17 : decode bb_Point_waitsToSend 17 = .ok (.aload_n 0, 1) := by decide +kernel
theorem dd_Point_waitsToSend_18 : decode bb_Point_waitsToSend 18 = .ok (.getfield 53, 3) := by decide +kernel
theorem dd_Point_waitsToSend_21 : decode bb_Point_waitsToSend 21 = .ok (.ifCond .ne 7, 3) := by decide +kernel
theorem dd_Point_waitsToSend_24 : decode bb_Point_waitsToSend 24 = .ok (.iconst 1, 1) := by decide +kernel
theorem dd_Point_waitsToSend_25 : decode bb_Point_waitsToSend 25 = .ok (.goto 4, 3) := by decide +kernel
def ww_Point_waitsToSend : List Cond := .code yy_Point_waitsToSend bb_Point_waitsToSend 1 (some .boolean) :: TB
def rm_Point_waitsToSend : Room := { frames := 1, cells := 0, slots := 0, locals := 20 }
def wp_Point_waitsToSend_29 (o : Nat) (post : fw_S → Int32 → Prop) (S : fw_S) (p0 : Int32) : Prop := fw_bz p0 ∧ (post S p0)
def wp_Point_waitsToSend_28 (o : Nat) (post : fw_S → Int32 → Prop) (S : fw_S) : Prop := wp_Point_waitsToSend_29 o post S 0
def wp_Point_waitsToSend (S : fw_S) (o : Nat) (post : fw_S → Int32 → Prop) : Prop := wp_Point_isReachable S o (fun S1 r2 => (((r2 = 0) → wp_Point_waitsToSend_28 o post S1) ∧ (¬ (r2 = 0) → ((((S1.1 (o + 2) 3) ≤ 0) → wp_Point_waitsToSend_28 o post S1) ∧ (¬ ((S1.1 (o + 2) 3) ≤ 0) → ((¬ ((S1.1 o 9) = 0) → wp_Point_waitsToSend_28 o post S1) ∧ (((S1.1 o 9) = 0) → wp_Point_waitsToSend_29 o post S1 1)))))))
set_option maxHeartbeats 4000000 in
set_option maxRecDepth 100000 in
theorem mt_Point_waitsToSend (l : Launch) (D : va_G) (cA : Nat → ClassId) (b : Nat) (S : fw_S) (o : Nat) (ho : o < 245 ∧ layU o = (2, 0)) (post : fw_S → Int32 → Prop) (hw : wp_Point_waitsToSend S o post) : Met l yy_Point_waitsToSend ww_Point_waitsToSend rm_Point_waitsToSend (fw_Pc D CL cA (TYS cA) TK layU b 245 S [.ref (b + o)]) (va_Qi (fun r S' => post S' r) (fw_B D CL cA TK layU b 245) (fw_A b 245)) 0 0 (fw_A b 245) := by
  refine Met.ofW (cc := bb_Point_waitsToSend) (maxL := 1) (ret := (some .boolean)) (by decide) rfl ?_
  intro p e s m args below meth c s₁ B hml hv
  obtain ⟨rfl, hP, hK⟩ := hv
  have hx := B.exec
  have hb := B.bytes
  have hr := B.returns
  have hts := atoms_spec (ws := ww_Point_waitsToSend) B.pre
  have hown : s.vm.findClass "OutletOffice$Point" = some m.cls := findClass_of_methodNamed B.named
  have hlocks := B.notSynchronized
  have hS : va_S (fw_A b 245) s.heap s.heap [] := va_S.rf
  have hl := lv_entry ([.ref (b + o)]) (n := 1) (Nat.le_of_ble_eq_true rfl)
  rw [lg_entry_eq]
  generalize (lg_sl ([.ref (b + o)]) ++ List.replicate (1 - (lg_sl ([.ref (b + o)])).length) Slot.unset).toArray = ls at hl ⊢
  have hl : lv_has ls 1 [(0, .ref (b + o))] := hl
  have B29 : ∀ (S : fw_S) (p0 : Int32) (H : Heap) (locs : List Loc) (ls : Array Slot), wp_Point_waitsToSend_29 o post S p0 → fw_P D CL cA layU b 245 (fw_v TK layU b S) H → va_S (fw_A b 245) s.heap H locs → lv_has ls 1 [(0, .ref (b + o))] → W p l e (headSpec ww_Point_waitsToSend rm_Point_waitsToSend).room s m ([.ref (b + o)] : List Value).toArray below meth c H locs 0 0 (MQ below (va_Qi (fun r S' => post S' r) (fw_B D CL cA TK layU b 245) (fw_A b 245)) ([.ref (b + o)] : List Value).toArray s 0 0 (fw_A b 245)) (F0 m 29 ls [.int p0]) := by
      intro S p0 H locs ls hw hP hS hl
      unfold wp_Point_waitsToSend_29 at hw
      obtain ⟨h1, hw⟩ := hw
      exact W.zret (v := p0) hx hb hr (fw_bz.n h1) (fun t ht hW => ⟨⟨_, _, rfl, hw, fw_Bof ht hP⟩, hS.F ht⟩) hS.2.2 dd_Point_waitsToSend_29
  have B28 : ∀ (S : fw_S) (H : Heap) (locs : List Loc) (ls : Array Slot), wp_Point_waitsToSend_28 o post S → fw_P D CL cA layU b 245 (fw_v TK layU b S) H → va_S (fw_A b 245) s.heap H locs → lv_has ls 1 [(0, .ref (b + o))] → W p l e (headSpec ww_Point_waitsToSend rm_Point_waitsToSend).room s m ([.ref (b + o)] : List Value).toArray below meth c H locs 0 0 (MQ below (va_Qi (fun r S' => post S' r) (fw_B D CL cA TK layU b 245) (fw_A b 245)) ([.ref (b + o)] : List Value).toArray s 0 0 (fw_A b 245)) (F0 m 28 ls []) := by
      intro S H locs ls hw hP hS hl
      unfold wp_Point_waitsToSend_28 at hw
      refine lv_iconst (v := 0) hx hb dd_Point_waitsToSend_28 kc_ic_0 ?_
      exact B29 S 0 _ _ ls hw hP hS (lv_sub hl [0] rfl)
  unfold wp_Point_waitsToSend at hw
  refine lv_aload_n hx hb dd_Point_waitsToSend_0 rfl (lv_at hl 0 rfl) ?_
  refine fw_calli (va_runV (As := []) (rest := []) ⟨hx, hb, hml, hown, hts⟩ (mt_Point_isReachable l D cA b S o ho _ hw) (cwV 0 hts (fw_gV tw_462 tw_562 tw_460 tw_461 tw_7) rfl rfl rfl (by decide +kernel) ⟨Nat.le_of_ble_eq_true rfl, Nat.le_of_ble_eq_true rfl⟩) (fw_preV hP hK ho (by decide) rfl) rfl rfl hl.1 rfl (lv_room (Nat.le_of_ble_eq_true rfl)) dd_Point_waitsToSend_1 ⟨Nat.le_of_ble_eq_true rfl, Nat.le_of_ble_eq_true rfl⟩) hS (fun S1 r2 H locs hw hP hS => ?_)
  try dsimp only at hw
  refine lv_if_eq (tgt := 28) hx hb dd_Point_waitsToSend_4 (by decide) (fun h3 => ?_) (fun h3 => ?_)
  · have hw := hw.1 h3
    exact B28 S1 _ _ ls hw hP hS (lv_sub hl [0] rfl)
  · have hw := hw.2 h3
    refine lv_aload_n hx hb dd_Point_waitsToSend_7 rfl (lv_at hl 0 rfl) ?_
    refine fw_getr hx hb hts in_2 hown hK hP ho (by decide) rfl 1 (by decide) (hts _ (tb_in tw_245)) tk_2_1 dd_Point_waitsToSend_8 ?_
    refine fw_geti hx hb hts in_4 hown hK hP (lf_2_1 ho) (by decide) rfl 3 (by decide) (hts _ (tb_in tw_225)) tk_4_3 dd_Point_waitsToSend_11 ?_
    refine lv_if_le (tgt := 28) hx hb dd_Point_waitsToSend_14 (by decide) (fun h4 => ?_) (fun h4 => ?_)
    · have hw := hw.1 h4
      exact B28 S1 _ _ ls hw hP hS (lv_sub hl [0] rfl)
    · have hw := hw.2 h4
      refine lv_aload_n hx hb dd_Point_waitsToSend_17 rfl (lv_at hl 0 rfl) ?_
      refine fw_geti hx hb hts in_2 hown hK hP ho (by decide) rfl 9 (by decide) (hts _ (tb_in tw_260)) tk_2_9 dd_Point_waitsToSend_18 ?_
      refine lv_if_ne (tgt := 28) hx hb dd_Point_waitsToSend_21 (by decide) (fun h5 => ?_) (fun h5 => ?_)
      · have hw := hw.1 h5
        exact B28 S1 _ _ ls hw hP hS (lv_sub hl [0] rfl)
      · have hw := hw.2 h5
        refine lv_iconst (v := 1) hx hb dd_Point_waitsToSend_24 kc_ic_1 ?_
        refine lv_goto (tgt := 29) hx hb dd_Point_waitsToSend_25 (by decide) ?_
        exact B29 S1 1 _ _ ls hw hP hS (lv_sub hl [0] rfl)
theorem dd_Queue_firstDue_19 : decode bb_Queue_firstDue 19 = .ok (.ireturn, 1) := by decide +kernel
theorem dd_Queue_firstDue_0 : decode bb_Queue_firstDue 0 = .ok (.aload_n 0, 1) := by decide +kernel
theorem dd_Queue_firstDue_1 : decode bb_Queue_firstDue 1 = .ok (.getfield 27, 3) := by decide +kernel
theorem dd_Queue_firstDue_4 : decode bb_Queue_firstDue 4 = .ok (.iconst (-1), 1) := by decide +kernel
theorem dd_Queue_firstDue_5 : decode bb_Queue_firstDue 5 = .ok (.if_icmp .ne 7, 3) := by decide +kernel
theorem dd_Queue_firstDue_12 : decode bb_Queue_firstDue 12 = .ok (.aload_n 0, 1) := by decide +kernel
theorem dd_Queue_firstDue_13 : decode bb_Queue_firstDue 13 = .ok (.getfield 27, 3) := by decide +kernel
theorem dd_Queue_firstDue_16 : decode bb_Queue_firstDue 16 = .ok (.bipush 20, 2) := by decide +kernel
theorem dd_Queue_firstDue_18 : decode bb_Queue_firstDue 18 = .ok (.iadd, 1) := by decide +kernel
theorem dd_Queue_firstDue_8 : decode bb_Queue_firstDue 8 = .ok (.iload_n 1, 1) := by decide +kernel
theorem dd_Queue_firstDue_9 : decode bb_Queue_firstDue 9 = .ok (.goto 10, 3) := by decide +kernel
def ww_Queue_firstDue : List Cond := .code yy_Queue_firstDue bb_Queue_firstDue 2 (some .int) :: TB
def rm_Queue_firstDue : Room := { frames := 0, cells := 0, slots := 0, locals := 0 }
def wp_Queue_firstDue_19 (o : Nat) (a1 : Int32) (post : fw_S → Int32 → Prop) (S : fw_S) (p0 : Int32) : Prop := post S p0
def wp_Queue_firstDue (S : fw_S) (o : Nat) (a1 : Int32) (post : fw_S → Int32 → Prop) : Prop := ((¬ ((S.1 o 4) = (-1)) → wp_Queue_firstDue_19 o a1 post S ((S.1 o 4) + 20)) ∧ (((S.1 o 4) = (-1)) → wp_Queue_firstDue_19 o a1 post S a1))
set_option maxHeartbeats 4000000 in
set_option maxRecDepth 100000 in
theorem mt_Queue_firstDue (l : Launch) (D : va_G) (cA : Nat → ClassId) (b : Nat) (S : fw_S) (o : Nat) (a1 : Int32) (ho : o < 245 ∧ layU o = (4, 0)) (post : fw_S → Int32 → Prop) (hw : wp_Queue_firstDue S o a1 post) : Met l yy_Queue_firstDue ww_Queue_firstDue rm_Queue_firstDue (fw_Pc D CL cA (TYS cA) TK layU b 245 S [.ref (b + o), .int a1]) (va_Qi (fun r S' => post S' r) (fw_B D CL cA TK layU b 245) (fw_A b 245)) 0 0 (fw_A b 245) := by
  refine Met.ofW (cc := bb_Queue_firstDue) (maxL := 2) (ret := (some .int)) (by decide) rfl ?_
  intro p e s m args below meth c s₁ B hml hv
  obtain ⟨rfl, hP, hK⟩ := hv
  have hx := B.exec
  have hb := B.bytes
  have hr := B.returns
  have hts := atoms_spec (ws := ww_Queue_firstDue) B.pre
  have hown : s.vm.findClass "OutletOffice$Queue" = some m.cls := findClass_of_methodNamed B.named
  have hlocks := B.notSynchronized
  have hS : va_S (fw_A b 245) s.heap s.heap [] := va_S.rf
  have hl := lv_entry ([.ref (b + o), .int a1]) (n := 2) (Nat.le_of_ble_eq_true rfl)
  rw [lg_entry_eq]
  generalize (lg_sl ([.ref (b + o), .int a1]) ++ List.replicate (2 - (lg_sl ([.ref (b + o), .int a1])).length) Slot.unset).toArray = ls at hl ⊢
  have hl : lv_has ls 2 [(0, .ref (b + o)), (1, .int a1)] := hl
  have B19 : ∀ (S : fw_S) (p0 : Int32) (ls : Array Slot), wp_Queue_firstDue_19 o a1 post S p0 → fw_P D CL cA layU b 245 (fw_v TK layU b S) s.heap → va_S (fw_A b 245) s.heap s.heap [] → lv_has ls 2 [(0, .ref (b + o)), (1, .int a1)] → W p l e (headSpec ww_Queue_firstDue rm_Queue_firstDue).room s m ([.ref (b + o), .int a1] : List Value).toArray below meth c s.heap [] 0 0 (MQ below (va_Qi (fun r S' => post S' r) (fw_B D CL cA TK layU b 245) (fw_A b 245)) ([.ref (b + o), .int a1] : List Value).toArray s 0 0 (fw_A b 245)) (F0 m 19 ls [.int p0]) := by
      intro S p0 ls hw hP hS hl
      unfold wp_Queue_firstDue_19 at hw
      exact W.iret (v := p0) hx hb hr (fun t ht hW => ⟨⟨_, _, rfl, hw, fw_Bof ht hP⟩, hS.F ht⟩) hS.2.2 dd_Queue_firstDue_19
  unfold wp_Queue_firstDue at hw
  refine lv_aload_n hx hb dd_Queue_firstDue_0 rfl (lv_at hl 0 rfl) ?_
  refine fw_geti hx hb hts in_4 hown hK hP ho (by decide) rfl 4 (by decide) (hts _ (tb_in tw_227)) tk_4_4 dd_Queue_firstDue_1 ?_
  refine lv_iconst (v := (-1)) hx hb dd_Queue_firstDue_4 kc_ic_m1 ?_
  refine lv_icmp_ne (tgt := 12) hx hb dd_Queue_firstDue_5 (by decide) (fun h1 => ?_) (fun h1 => ?_)
  · have hw := hw.1 h1
    refine lv_aload_n hx hb dd_Queue_firstDue_12 rfl (lv_at hl 0 rfl) ?_
    refine fw_geti hx hb hts in_4 hown hK hP ho (by decide) rfl 4 (by decide) (hts _ (tb_in tw_227)) tk_4_4 dd_Queue_firstDue_13 ?_
    refine lv_bipush (v := 20) hx hb dd_Queue_firstDue_16 kc_bp_20 ?_
    refine lv_iadd hx hb dd_Queue_firstDue_18 ?_
    exact B19 S ((S.1 o 4) + 20) ls hw hP hS (lv_sub hl [0, 1] rfl)
  · have hw := hw.2 h1
    refine lv_iload_n hx hb dd_Queue_firstDue_8 rfl (lv_at hl 1 rfl) ?_
    refine lv_goto (tgt := 19) hx hb dd_Queue_firstDue_9 (by decide) ?_
    exact B19 S a1 ls hw hP hS (lv_sub hl [0, 1] rfl)
theorem dd_Point_evenSeconds_24 : decode bb_Point_evenSeconds 24 = .ok (.istore 4, 2) := by decide +kernel
theorem dd_Point_evenSeconds_26 : decode bb_Point_evenSeconds 26 = .ok (.iload_n 3, 1) := by decide +kernel
theorem dd_Point_evenSeconds_27 : decode bb_Point_evenSeconds 27 = .ok (.iload 4, 2) := by decide +kernel
theorem dd_Point_evenSeconds_29 : decode bb_Point_evenSeconds 29 = .ok (.iload_n 1, 1) := by decide +kernel
theorem dd_Point_evenSeconds_30 : decode bb_Point_evenSeconds 30 = .ok (.iload 4, 2) := by decide +kernel
theorem dd_Point_evenSeconds_32 : decode bb_Point_evenSeconds 32 = .ok (.irem, 1) := by decide +kernel
theorem dd_Point_evenSeconds_33 : decode bb_Point_evenSeconds 33 = .ok (.isub, 1) := by decide +kernel
theorem dd_Point_evenSeconds_34 : decode bb_Point_evenSeconds 34 = .ok (.invokestatic 78, 3) := by decide +kernel
theorem dd_Point_evenSeconds_37 : decode bb_Point_evenSeconds 37 = .ok (.istore_n 3, 1) := by decide +kernel
theorem dd_Point_evenSeconds_38 : decode bb_Point_evenSeconds 38 = .ok (.iload_n 3, 1) := by decide +kernel
theorem dd_Point_evenSeconds_39 : decode bb_Point_evenSeconds 39 = .ok (.aload_n 0, 1) := by decide +kernel
theorem dd_Point_evenSeconds_40 : decode bb_Point_evenSeconds 40 = .ok (.getfield 12, 3) := by decide +kernel
theorem dd_Point_evenSeconds_43 : decode bb_Point_evenSeconds 43 = .ok (.aload_n 0, 1) := by decide +kernel
theorem dd_Point_evenSeconds_44 : decode bb_Point_evenSeconds 44 = .ok (.getfield 59, 3) := by decide +kernel
theorem dd_Point_evenSeconds_47 : decode bb_Point_evenSeconds 47 = .ok (.bipush 23, 2) := by decide +kernel
theorem dd_Point_evenSeconds_49 : decode bb_Point_evenSeconds 49 = .ok (.imul, 1) := by decide +kernel
theorem dd_Point_evenSeconds_50 : decode bb_Point_evenSeconds 50 = .ok (.iload_n 2, 1) := by decide +kernel
theorem dd_Point_evenSeconds_51 : decode bb_Point_evenSeconds 51 = .ok (.invokevirtual 110, 3) := by decide +kernel
theorem dd_Point_evenSeconds_54 : decode bb_Point_evenSeconds 54 = .ok (.invokestatic 78, 3) := by decide +kernel
theorem dd_Point_evenSeconds_57 : decode bb_Point_evenSeconds 57 = .ok (.istore_n 3, 1) := by decide +kernel
theorem dd_Point_evenSeconds_58 : decode bb_Point_evenSeconds 58 = .ok (.aload_n 0, 1) := by decide +kernel
theorem dd_Point_evenSeconds_59 : decode bb_Point_evenSeconds 59 = .ok (.invokevirtual 113, 3) := by decide +kernel
theorem dd_Point_evenSeconds_62 : decode bb_Point_evenSeconds 62 = .ok (.ifCond .eq 18, 3) := by decide +kernel
theorem dd_Point_evenSeconds_65 : decode bb_Point_evenSeconds 65 = .ok (.iload_n 3, 1) := by decide +kernel
theorem dd_Point_evenSeconds_66 : decode bb_Point_evenSeconds 66 = .ok (.aload_n 0, 1) := by decide +kernel
theorem dd_Point_evenSeconds_67 : decode bb_Point_evenSeconds 67 = .ok (.getfield 21, 3) := by decide +kernel
theorem dd_Point_evenSeconds_70 : decode bb_Point_evenSeconds 70 = .ok (.iload_n 1, 1) := by decide +kernel
theorem dd_Point_evenSeconds_71 : decode bb_Point_evenSeconds 71 = .ok (.invokevirtual 116, 3) := by decide +kernel
theorem dd_Point_evenSeconds_74 : decode bb_Point_evenSeconds 74 = .ok (.iload_n 1, 1) := by decide +kernel
theorem dd_Point_evenSeconds_75 : decode bb_Point_evenSeconds 75 = .ok (.isub, 1) := by decide +kernel
theorem dd_Point_evenSeconds_76 : decode bb_Point_evenSeconds 76 = .ok (.invokestatic 78, 3) := by decide +kernel
theorem dd_Point_evenSeconds_79 : decode bb_Point_evenSeconds 79 = .ok (.istore_n 3, 1) := by decide +kernel
theorem dd_Point_evenSeconds_80 : decode bb_Point_evenSeconds 80 = .ok (.iconst 1, 1) := by decide +kernel
theorem dd_Point_evenSeconds_81 : decode bb_Point_evenSeconds 81 = .ok (.iload_n 3, 1) := by decide +kernel
theorem dd_Point_evenSeconds_82 : decode bb_Point_evenSeconds 82 = .ok (.invokestatic 72, 3) := by decide +kernel
theorem dd_Point_evenSeconds_85 : decode bb_Point_evenSeconds 85 = .ok (.ireturn, 1) := by decide +kernel
theorem dd_Point_evenSeconds_0 : decode bb_Point_evenSeconds 0 = .ok (.iload_n 2, 1) := by decide +kernel
theorem dd_Point_evenSeconds_1 : decode bb_Point_evenSeconds 1 = .ok (.istore_n 3, 1) := by decide +kernel
theorem dd_Point_evenSeconds_2 : decode bb_Point_evenSeconds 2 = .ok (.aload_n 0, 1) := by decide +kernel
theorem dd_Point_evenSeconds_3 : decode bb_Point_evenSeconds 3 = .ok (.invokevirtual 62, 3) := by decide +kernel
theorem dd_Point_evenSeconds_6 : decode bb_Point_evenSeconds 6 = .ok (.ifCond .eq 52, 3) := by decide +kernel
theorem dd_Point_evenSeconds_9 : decode bb_Point_evenSeconds 9 = .ok (.aload_n 0, 1) := by decide +kernel
theorem dd_Point_evenSeconds_10 : decode bb_Point_evenSeconds 10 = .ok (.invokevirtual 107, 3) := by decide +kernel
theorem dd_Point_evenSeconds_13 : decode bb_Point_evenSeconds 13 = .ok (.ifCond .eq 8, 3) := by decide +kernel
theorem dd_Point_evenSeconds_21 : decode bb_Point_evenSeconds 21 = .ok (.sipush 900, 3) := by decide +kernel
theorem dd_Point_evenSeconds_16 : decode bb_Point_evenSeconds 16 = .ok (.bipush 60, 2) := by decide +kernel
theorem dd_Point_evenSeconds_18 : decode bb_Point_evenSeconds 18 = .ok (.goto 6, 3) := by decide +kernel
def ww_Point_evenSeconds : List Cond := .code yy_Point_evenSeconds bb_Point_evenSeconds 5 (some .int) :: TB
def rm_Point_evenSeconds : Room := { frames := 2, cells := 0, slots := 0, locals := 40 }
def wp_Point_evenSeconds_80 (o : Nat) (a1 : Int32) (a2 : Int32) (post : fw_S → Int32 → Prop) (S : fw_S) (x3 : Int32) : Prop := post S (if 1 < x3 then x3 else 1)
def wp_Point_evenSeconds_58 (o : Nat) (a1 : Int32) (a2 : Int32) (post : fw_S → Int32 → Prop) (S : fw_S) (x3 : Int32) : Prop := wp_Point_waitsToSend S o (fun S1 r2 => (((r2 = 0) → wp_Point_evenSeconds_80 o a1 a2 post S1 x3) ∧ (¬ (r2 = 0) → wp_Queue_firstDue S1 (o + 2) a1 (fun S4 r5 => ∀ v6 : Int32, v6 = (if (r5 - a1) < x3 then r5 - a1 else x3) → wp_Point_evenSeconds_80 o a1 a2 post S4 v6))))
def wp_Point_evenSeconds_24 (o : Nat) (a1 : Int32) (a2 : Int32) (post : fw_S → Int32 → Prop) (S : fw_S) (p0 : Int32) : Prop := ¬ p0 = 0 ∧ (∀ v2 : Int32, v2 = (if (p0 - (a1 - a1 / p0 * p0)) < a2 then p0 - (a1 - a1 / p0 * p0) else a2) → wp_Car_secondsToFull S (o + 1) ((S.1 o 11) * 23) a2 (fun S3 r4 => ∀ v5 : Int32, v5 = (if r4 < v2 then r4 else v2) → wp_Point_evenSeconds_58 o a1 a2 post S3 v5))
def wp_Point_evenSeconds (S : fw_S) (o : Nat) (a1 : Int32) (a2 : Int32) (post : fw_S → Int32 → Prop) : Prop := wp_Point_runs S o (fun S1 r2 => (((r2 = 0) → wp_Point_evenSeconds_58 o a1 a2 post S1 a2) ∧ (¬ (r2 = 0) → wp_Point_hasRoomForReading S1 o (fun S4 r5 => (((r5 = 0) → wp_Point_evenSeconds_24 o a1 a2 post S4 900) ∧ (¬ (r5 = 0) → wp_Point_evenSeconds_24 o a1 a2 post S4 60))))))
set_option maxHeartbeats 4000000 in
set_option maxRecDepth 100000 in
theorem mt_Point_evenSeconds (l : Launch) (D : va_G) (cA : Nat → ClassId) (b : Nat) (S : fw_S) (o : Nat) (a1 : Int32) (a2 : Int32) (ho : o < 245 ∧ layU o = (2, 0)) (post : fw_S → Int32 → Prop) (hw : wp_Point_evenSeconds S o a1 a2 post) : Met l yy_Point_evenSeconds ww_Point_evenSeconds rm_Point_evenSeconds (fw_Pc D CL cA (TYS cA) TK layU b 245 S [.ref (b + o), .int a1, .int a2]) (va_Qi (fun r S' => post S' r) (fw_B D CL cA TK layU b 245) (fw_A b 245)) 0 0 (fw_A b 245) := by
  refine Met.ofW (cc := bb_Point_evenSeconds) (maxL := 5) (ret := (some .int)) (by decide) rfl ?_
  intro p e s m args below meth c s₁ B hml hv
  obtain ⟨rfl, hP, hK⟩ := hv
  have hx := B.exec
  have hb := B.bytes
  have hr := B.returns
  have hts := atoms_spec (ws := ww_Point_evenSeconds) B.pre
  have hown : s.vm.findClass "OutletOffice$Point" = some m.cls := findClass_of_methodNamed B.named
  have hlocks := B.notSynchronized
  have hS : va_S (fw_A b 245) s.heap s.heap [] := va_S.rf
  have hl := lv_entry ([.ref (b + o), .int a1, .int a2]) (n := 5) (Nat.le_of_ble_eq_true rfl)
  rw [lg_entry_eq]
  generalize (lg_sl ([.ref (b + o), .int a1, .int a2]) ++ List.replicate (5 - (lg_sl ([.ref (b + o), .int a1, .int a2])).length) Slot.unset).toArray = ls at hl ⊢
  have hl : lv_has ls 5 [(0, .ref (b + o)), (1, .int a1), (2, .int a2)] := hl
  have B80 : ∀ (S : fw_S) (x3 : Int32) (H : Heap) (locs : List Loc) (ls : Array Slot), wp_Point_evenSeconds_80 o a1 a2 post S x3 → fw_P D CL cA layU b 245 (fw_v TK layU b S) H → va_S (fw_A b 245) s.heap H locs → lv_has ls 5 [(0, .ref (b + o)), (1, .int a1), (2, .int a2), (3, .int x3)] → W p l e (headSpec ww_Point_evenSeconds rm_Point_evenSeconds).room s m ([.ref (b + o), .int a1, .int a2] : List Value).toArray below meth c H locs 0 0 (MQ below (va_Qi (fun r S' => post S' r) (fw_B D CL cA TK layU b 245) (fw_A b 245)) ([.ref (b + o), .int a1, .int a2] : List Value).toArray s 0 0 (fw_A b 245)) (F0 m 80 ls []) := by
      intro S x3 H locs ls hw hP hS hl
      unfold wp_Point_evenSeconds_80 at hw
      refine lv_iconst (v := 1) hx hb dd_Point_evenSeconds_80 kc_ic_1 ?_
      refine lv_iload_n hx hb dd_Point_evenSeconds_81 rfl (lv_at hl 3 rfl) ?_
      refine va_mmax hx hb (hml.trans hl.1.symm) hown (hts _ (tb_in tw_676)) (hts _ (tb_in tw_677)) (hts _ (tb_in tw_18)) (hts _ (tb_in tw_678)) (Nat.le_of_ble_eq_true rfl) (Nat.le_of_ble_eq_true rfl) (Nat.le_of_ble_eq_true rfl) (Nat.le_of_ble_eq_true rfl) dd_Point_evenSeconds_82 ?_
      exact W.iret (v := if 1 < x3 then x3 else 1) hx hb hr (fun t ht hW => ⟨⟨_, _, rfl, hw, fw_Bof ht hP⟩, hS.F ht⟩) hS.2.2 dd_Point_evenSeconds_85
  have B58 : ∀ (S : fw_S) (x3 : Int32) (H : Heap) (locs : List Loc) (ls : Array Slot), wp_Point_evenSeconds_58 o a1 a2 post S x3 → fw_P D CL cA layU b 245 (fw_v TK layU b S) H → va_S (fw_A b 245) s.heap H locs → lv_has ls 5 [(0, .ref (b + o)), (1, .int a1), (2, .int a2), (3, .int x3)] → W p l e (headSpec ww_Point_evenSeconds rm_Point_evenSeconds).room s m ([.ref (b + o), .int a1, .int a2] : List Value).toArray below meth c H locs 0 0 (MQ below (va_Qi (fun r S' => post S' r) (fw_B D CL cA TK layU b 245) (fw_A b 245)) ([.ref (b + o), .int a1, .int a2] : List Value).toArray s 0 0 (fw_A b 245)) (F0 m 58 ls []) := by
      intro S x3 H locs ls hw hP hS hl
      unfold wp_Point_evenSeconds_58 at hw
      refine lv_aload_n hx hb dd_Point_evenSeconds_58 rfl (lv_at hl 0 rfl) ?_
      refine fw_calli (va_runV (As := []) (rest := []) ⟨hx, hb, hml, hown, hts⟩ (mt_Point_waitsToSend l D cA b S o ho _ hw) (cwV 0 hts (fw_gV tw_695 tw_692 tw_694 ts_12 tw_7) rfl rfl rfl (by decide +kernel) ⟨Nat.le_of_ble_eq_true rfl, Nat.le_of_ble_eq_true rfl⟩) (fw_preV hP hK ho (by decide) rfl) rfl rfl hl.1 rfl (lv_room (Nat.le_of_ble_eq_true rfl)) dd_Point_evenSeconds_59 ⟨Nat.le_of_ble_eq_true rfl, Nat.le_of_ble_eq_true rfl⟩) hS (fun S1 r2 H locs hw hP hS => ?_)
      try dsimp only at hw
      refine lv_if_eq (tgt := 80) hx hb dd_Point_evenSeconds_62 (by decide) (fun h3 => ?_) (fun h3 => ?_)
      · have hw := hw.1 h3
        exact B80 S1 x3 _ _ ls hw hP hS (lv_sub hl [0, 1, 2, 3] rfl)
      · have hw := hw.2 h3
        refine lv_iload_n hx hb dd_Point_evenSeconds_65 rfl (lv_at hl 3 rfl) ?_
        refine lv_aload_n hx hb dd_Point_evenSeconds_66 rfl (lv_at hl 0 rfl) ?_
        refine fw_getr hx hb hts in_2 hown hK hP ho (by decide) rfl 1 (by decide) (hts _ (tb_in tw_245)) tk_2_1 dd_Point_evenSeconds_67 ?_
        refine lv_iload_n hx hb dd_Point_evenSeconds_70 rfl (lv_at hl 1 rfl) ?_
        refine fw_calli (va_runV (As := [.int a1]) (rest := [.int x3]) ⟨hx, hb, hml, hown, hts⟩ (mt_Queue_firstDue l D cA b S1 (o + 2) a1 (lf_2_1 ho) _ hw) (cwV 1 hts (fw_gV tw_699 tw_696 tw_697 tw_698 tw_9) rfl rfl rfl (by decide +kernel) ⟨Nat.le_of_ble_eq_true rfl, Nat.le_of_ble_eq_true rfl⟩) (fw_preV hP hK (lf_2_1 ho) (by decide) rfl) rfl rfl hl.1 rfl (lv_room (Nat.le_of_ble_eq_true rfl)) dd_Point_evenSeconds_71 ⟨Nat.le_of_ble_eq_true rfl, Nat.le_of_ble_eq_true rfl⟩) hS (fun S4 r5 H locs hw hP hS => ?_)
        try dsimp only at hw
        refine lv_iload_n hx hb dd_Point_evenSeconds_74 rfl (lv_at hl 1 rfl) ?_
        refine lv_isub hx hb dd_Point_evenSeconds_75 ?_
        refine va_mmin hx hb (hml.trans hl.1.symm) hown (hts _ (tb_in tw_679)) (hts _ (tb_in tw_658)) (hts _ (tb_in tw_18)) (hts _ (tb_in tw_659)) (Nat.le_of_ble_eq_true rfl) (Nat.le_of_ble_eq_true rfl) (Nat.le_of_ble_eq_true rfl) (Nat.le_of_ble_eq_true rfl) dd_Point_evenSeconds_76 ?_
        refine lv_topi (fun v6 e_v6 => ?_)
        have hw := hw v6 e_v6
        refine lv_istore_n hx hb dd_Point_evenSeconds_79 rfl hl (Nat.le_of_ble_eq_true rfl) rfl (fun ls hl => ?_)
        have hl : lv_has ls 5 [(3, .int v6), (0, .ref (b + o)), (1, .int a1), (2, .int a2)] := hl
        exact B80 S4 v6 _ _ ls hw hP hS (lv_sub hl [1, 2, 3, 0] rfl)
  have B24 : ∀ (S : fw_S) (p0 : Int32) (H : Heap) (locs : List Loc) (ls : Array Slot), wp_Point_evenSeconds_24 o a1 a2 post S p0 → fw_P D CL cA layU b 245 (fw_v TK layU b S) H → va_S (fw_A b 245) s.heap H locs → lv_has ls 5 [(0, .ref (b + o)), (1, .int a1), (2, .int a2), (3, .int a2)] → W p l e (headSpec ww_Point_evenSeconds rm_Point_evenSeconds).room s m ([.ref (b + o), .int a1, .int a2] : List Value).toArray below meth c H locs 0 0 (MQ below (va_Qi (fun r S' => post S' r) (fw_B D CL cA TK layU b 245) (fw_A b 245)) ([.ref (b + o), .int a1, .int a2] : List Value).toArray s 0 0 (fw_A b 245)) (F0 m 24 ls [.int p0]) := by
      intro S p0 H locs ls hw hP hS hl
      unfold wp_Point_evenSeconds_24 at hw
      refine lv_istore hx hb dd_Point_evenSeconds_24 hl (Nat.le_of_ble_eq_true rfl) rfl (fun ls hl => ?_)
      have hl : lv_has ls 5 [(4, .int p0), (0, .ref (b + o)), (1, .int a1), (2, .int a2), (3, .int a2)] := hl
      refine lv_iload_n hx hb dd_Point_evenSeconds_26 rfl (lv_at hl 4 rfl) ?_
      refine lv_iload hx hb dd_Point_evenSeconds_27 (lv_at hl 0 rfl) ?_
      refine lv_iload_n hx hb dd_Point_evenSeconds_29 rfl (lv_at hl 2 rfl) ?_
      refine lv_iload hx hb dd_Point_evenSeconds_30 (lv_at hl 0 rfl) ?_
      obtain ⟨h1, hw⟩ := hw
      refine lv_irem hx hb dd_Point_evenSeconds_32 h1 ?_
      refine lv_isub hx hb dd_Point_evenSeconds_33 ?_
      refine va_mmin hx hb (hml.trans hl.1.symm) hown (hts _ (tb_in tw_679)) (hts _ (tb_in tw_658)) (hts _ (tb_in tw_18)) (hts _ (tb_in tw_659)) (Nat.le_of_ble_eq_true rfl) (Nat.le_of_ble_eq_true rfl) (Nat.le_of_ble_eq_true rfl) (Nat.le_of_ble_eq_true rfl) dd_Point_evenSeconds_34 ?_
      refine lv_topi (fun v2 e_v2 => ?_)
      have hw := hw v2 e_v2
      refine lv_istore_n hx hb dd_Point_evenSeconds_37 rfl hl (Nat.le_of_ble_eq_true rfl) rfl (fun ls hl => ?_)
      have hl : lv_has ls 5 [(3, .int v2), (4, .int p0), (0, .ref (b + o)), (1, .int a1), (2, .int a2)] := hl
      refine lv_iload_n hx hb dd_Point_evenSeconds_38 rfl (lv_at hl 0 rfl) ?_
      refine lv_aload_n hx hb dd_Point_evenSeconds_39 rfl (lv_at hl 2 rfl) ?_
      refine fw_getr hx hb hts in_2 hown hK hP ho (by decide) rfl 0 (by decide) (hts _ (tb_in tw_242)) tk_2_0 dd_Point_evenSeconds_40 ?_
      refine lv_aload_n hx hb dd_Point_evenSeconds_43 rfl (lv_at hl 2 rfl) ?_
      refine fw_geti hx hb hts in_2 hown hK hP ho (by decide) rfl 11 (by decide) (hts _ (tb_in tw_264)) tk_2_11 dd_Point_evenSeconds_44 ?_
      refine lv_bipush (v := 23) hx hb dd_Point_evenSeconds_47 kc_bp_23 ?_
      refine lv_imul hx hb dd_Point_evenSeconds_49 ?_
      refine lv_iload_n hx hb dd_Point_evenSeconds_50 rfl (lv_at hl 4 rfl) ?_
      refine fw_calli (va_runV (As := [.int ((S.1 o 11) * 23), .int a2]) (rest := [.int v2]) ⟨hx, hb, hml, hown, hts⟩ (mt_Car_secondsToFull l D cA b S (o + 1) ((S.1 o 11) * 23) a2 (lf_2_0 ho) _ hw) (cwV 2 hts (fw_gV tw_691 tw_688 tw_689 tw_690 tw_8) rfl rfl rfl (by decide +kernel) ⟨Nat.le_of_ble_eq_true rfl, Nat.le_of_ble_eq_true rfl⟩) (fw_preV hP hK (lf_2_0 ho) (by decide) rfl) rfl rfl hl.1 rfl (lv_room (Nat.le_of_ble_eq_true rfl)) dd_Point_evenSeconds_51 ⟨Nat.le_of_ble_eq_true rfl, Nat.le_of_ble_eq_true rfl⟩) hS (fun S3 r4 H locs hw hP hS => ?_)
      try dsimp only at hw
      refine va_mmin hx hb (hml.trans hl.1.symm) hown (hts _ (tb_in tw_679)) (hts _ (tb_in tw_658)) (hts _ (tb_in tw_18)) (hts _ (tb_in tw_659)) (Nat.le_of_ble_eq_true rfl) (Nat.le_of_ble_eq_true rfl) (Nat.le_of_ble_eq_true rfl) (Nat.le_of_ble_eq_true rfl) dd_Point_evenSeconds_54 ?_
      refine lv_topi (fun v5 e_v5 => ?_)
      have hw := hw v5 e_v5
      refine lv_istore_n hx hb dd_Point_evenSeconds_57 rfl hl (Nat.le_of_ble_eq_true rfl) rfl (fun ls hl => ?_)
      have hl : lv_has ls 5 [(3, .int v5), (4, .int p0), (0, .ref (b + o)), (1, .int a1), (2, .int a2)] := hl
      exact B58 S3 v5 _ _ ls hw hP hS (lv_sub hl [2, 3, 4, 0] rfl)
  unfold wp_Point_evenSeconds at hw
  refine lv_iload_n hx hb dd_Point_evenSeconds_0 rfl (lv_at hl 2 rfl) ?_
  refine lv_istore_n hx hb dd_Point_evenSeconds_1 rfl hl (Nat.le_of_ble_eq_true rfl) rfl (fun ls hl => ?_)
  have hl : lv_has ls 5 [(3, .int a2), (0, .ref (b + o)), (1, .int a1), (2, .int a2)] := hl
  refine lv_aload_n hx hb dd_Point_evenSeconds_2 rfl (lv_at hl 1 rfl) ?_
  refine fw_calli (va_runV (As := []) (rest := []) ⟨hx, hb, hml, hown, hts⟩ (mt_Point_runs l D cA b S o ho _ hw) (cwV 0 hts (fw_gV tw_498 tw_656 tw_496 tw_497 tw_7) rfl rfl rfl (by decide +kernel) ⟨Nat.le_of_ble_eq_true rfl, Nat.le_of_ble_eq_true rfl⟩) (fw_preV hP hK ho (by decide) rfl) rfl rfl hl.1 rfl (lv_room (Nat.le_of_ble_eq_true rfl)) dd_Point_evenSeconds_3 ⟨Nat.le_of_ble_eq_true rfl, Nat.le_of_ble_eq_true rfl⟩) hS (fun S1 r2 H locs hw hP hS => ?_)
  try dsimp only at hw
  refine lv_if_eq (tgt := 58) hx hb dd_Point_evenSeconds_6 (by decide) (fun h3 => ?_) (fun h3 => ?_)
  · have hw := hw.1 h3
    exact B58 S1 a2 _ _ ls hw hP hS (lv_sub hl [1, 2, 3, 0] rfl)
  · have hw := hw.2 h3
    refine lv_aload_n hx hb dd_Point_evenSeconds_9 rfl (lv_at hl 1 rfl) ?_
    refine fw_calli (va_runV (As := []) (rest := []) ⟨hx, hb, hml, hown, hts⟩ (mt_Point_hasRoomForReading l D cA b S1 o ho _ hw) (cwV 0 hts (fw_gV tw_687 tw_684 tw_686 ts_11 tw_7) rfl rfl rfl (by decide +kernel) ⟨Nat.le_of_ble_eq_true rfl, Nat.le_of_ble_eq_true rfl⟩) (fw_preV hP hK ho (by decide) rfl) rfl rfl hl.1 rfl (lv_room (Nat.le_of_ble_eq_true rfl)) dd_Point_evenSeconds_10 ⟨Nat.le_of_ble_eq_true rfl, Nat.le_of_ble_eq_true rfl⟩) hS (fun S4 r5 H locs hw hP hS => ?_)
    try dsimp only at hw
    refine lv_if_eq (tgt := 21) hx hb dd_Point_evenSeconds_13 (by decide) (fun h6 => ?_) (fun h6 => ?_)
    · have hw := hw.1 h6
      refine lv_sipush (v := 900) hx hb dd_Point_evenSeconds_21 kc_sp_900 ?_
      exact B24 S4 900 _ _ ls hw hP hS (lv_sub hl [1, 2, 3, 0] rfl)
    · have hw := hw.2 h6
      refine lv_bipush (v := 60) hx hb dd_Point_evenSeconds_16 kc_bp_60 ?_
      refine lv_goto (tgt := 24) hx hb dd_Point_evenSeconds_18 (by decide) ?_
      exact B24 S4 60 _ _ ls hw hP hS (lv_sub hl [1, 2, 3, 0] rfl)
theorem dd_Out_evenSeconds_14 : decode bb_Out_evenSeconds 14 = .ok (.iload 5, 2) := by decide +kernel
theorem dd_Out_evenSeconds_16 : decode bb_Out_evenSeconds 16 = .ok (.iload 4, 2) := by decide +kernel
theorem dd_Out_evenSeconds_18 : decode bb_Out_evenSeconds 18 = .ok (.if_icmp .ge 74, 3) := by decide +kernel
theorem dd_Out_evenSeconds_92 : decode bb_Out_evenSeconds 92 = .ok (.iload_n 2, 1) := by decide +kernel
theorem dd_Out_evenSeconds_93 : decode bb_Out_evenSeconds 93 = .ok (.ireturn, 1) := by decide +kernel
theorem dd_Out_evenSeconds_21 : decode bb_Out_evenSeconds 21 = .ok (.aload_n 3, 1) := by decide +kernel
theorem dd_Out_evenSeconds_22 : decode bb_Out_evenSeconds 22 = .ok (.iload 5, 2) := by decide +kernel
theorem dd_Out_evenSeconds_24 : decode bb_Out_evenSeconds 24 = .ok (.aaload, 1) := by decide +kernel
theorem dd_Out_evenSeconds_25 : decode bb_Out_evenSeconds 25 = .ok (.astore 6, 2) := by decide +kernel
theorem dd_Out_evenSeconds_27 : decode bb_Out_evenSeconds 27 = .ok (.aload 6, 2) := by decide +kernel
theorem dd_Out_evenSeconds_29 : decode bb_Out_evenSeconds 29 = .ok (.aload_n 0, 1) := by decide +kernel
theorem dd_Out_evenSeconds_30 : decode bb_Out_evenSeconds 30 = .ok (.getfield 22, 3) := by decide +kernel
theorem dd_Out_evenSeconds_33 : decode bb_Out_evenSeconds 33 = .ok (.invokevirtual 172, 3) := by decide +kernel
theorem dd_Out_evenSeconds_36 : decode bb_Out_evenSeconds 36 = .ok (.aload 6, 2) := by decide +kernel
theorem dd_Out_evenSeconds_38 : decode bb_Out_evenSeconds 38 = .ok (.getfield 178, 3) := by decide +kernel
theorem dd_Out_evenSeconds_41 : decode bb_Out_evenSeconds 41 = .ok (.astore 7, 2) := by decide +kernel
theorem dd_Out_evenSeconds_43 : decode bb_Out_evenSeconds 43 = .ok (.aload 7, 2) := by decide +kernel
theorem dd_Out_evenSeconds_45 : decode bb_Out_evenSeconds 45 = .ok (.arraylength, 1) := by decide +kernel
theorem dd_Out_evenSeconds_46 : decode bb_Out_evenSeconds 46 = .ok (.istore 8, 2) := by decide +kernel
theorem dd_Out_evenSeconds_48 : decode bb_Out_evenSeconds 48 = .ok (.iconst 0, 1) := by decide +kernel
theorem dd_Out_evenSeconds_49 : decode bb_Out_evenSeconds 49 = .ok (.istore 9, 2) := by decide +kernel
theorem dd_Out_evenSeconds_51 : decode bb_Out_evenSeconds 51 = .ok (.iload 9, 2) := by decide +kernel
theorem dd_Out_evenSeconds_53 : decode bb_Out_evenSeconds 53 = .ok (.iload 8, 2) := by decide +kernel
theorem dd_Out_evenSeconds_55 : decode bb_Out_evenSeconds 55 = .ok (.if_icmp .ge 31, 3) := by decide +kernel
theorem dd_Out_evenSeconds_86 : decode bb_Out_evenSeconds 86 = .ok (.iinc 5 1, 3) := by decide +kernel
theorem dd_Out_evenSeconds_89 : decode bb_Out_evenSeconds 89 = .ok (.goto (-75), 3) := by decide +kernel
theorem dd_Out_evenSeconds_58 : decode bb_Out_evenSeconds 58 = .ok (.aload 7, 2) := by decide +kernel
theorem dd_Out_evenSeconds_60 : decode bb_Out_evenSeconds 60 = .ok (.iload 9, 2) := by decide +kernel
theorem dd_Out_evenSeconds_62 : decode bb_Out_evenSeconds 62 = .ok (.aaload, 1) := by decide +kernel
theorem dd_Out_evenSeconds_63 : decode bb_Out_evenSeconds 63 = .ok (.astore 10, 2) := by decide +kernel
theorem dd_Out_evenSeconds_65 : decode bb_Out_evenSeconds 65 = .ok (.iload_n 2, 1) := by decide +kernel
theorem dd_Out_evenSeconds_66 : decode bb_Out_evenSeconds 66 = .ok (.aload 10, 2) := by decide +kernel
theorem dd_Out_evenSeconds_68 : decode bb_Out_evenSeconds 68 = .ok (.aload_n 0, 1) := by decide +kernel
theorem dd_Out_evenSeconds_69 : decode bb_Out_evenSeconds 69 = .ok (.getfield 22, 3) := by decide +kernel
theorem dd_Out_evenSeconds_72 : decode bb_Out_evenSeconds 72 = .ok (.iload_n 1, 1) := by decide +kernel
theorem dd_Out_evenSeconds_73 : decode bb_Out_evenSeconds 73 = .ok (.invokevirtual 238, 3) := by decide +kernel
theorem dd_Out_evenSeconds_76 : decode bb_Out_evenSeconds 76 = .ok (.invokestatic 212, 3) := by decide +kernel
theorem dd_Out_evenSeconds_79 : decode bb_Out_evenSeconds 79 = .ok (.istore_n 2, 1) := by decide +kernel
theorem dd_Out_evenSeconds_80 : decode bb_Out_evenSeconds 80 = .ok (.iinc 9 1, 3) := by decide +kernel
theorem dd_Out_evenSeconds_83 : decode bb_Out_evenSeconds 83 = .ok (.goto (-32), 3) := by decide +kernel
theorem dd_Out_evenSeconds_0 : decode bb_Out_evenSeconds 0 = .ok (.iload_n 1, 1) := by decide +kernel
theorem dd_Out_evenSeconds_1 : decode bb_Out_evenSeconds 1 = .ok (.istore_n 2, 1) := by decide +kernel
theorem dd_Out_evenSeconds_2 : decode bb_Out_evenSeconds 2 = .ok (.aload_n 0, 1) := by decide +kernel
theorem dd_Out_evenSeconds_3 : decode bb_Out_evenSeconds 3 = .ok (.getfield 11, 3) := by decide +kernel
theorem dd_Out_evenSeconds_6 : decode bb_Out_evenSeconds 6 = .ok (.astore_n 3, 1) := by decide +kernel
theorem dd_Out_evenSeconds_7 : decode bb_Out_evenSeconds 7 = .ok (.aload_n 3, 1) := by decide +kernel
theorem dd_Out_evenSeconds_8 : decode bb_Out_evenSeconds 8 = .ok (.arraylength, 1) := by decide +kernel
theorem dd_Out_evenSeconds_9 : decode bb_Out_evenSeconds 9 = .ok (.istore 4, 2) := by decide +kernel
theorem dd_Out_evenSeconds_11 : decode bb_Out_evenSeconds 11 = .ok (.iconst 0, 1) := by decide +kernel
theorem dd_Out_evenSeconds_12 : decode bb_Out_evenSeconds 12 = .ok (.istore 5, 2) := by decide +kernel
def ww_Out_evenSeconds : List Cond := .code yy_Out_evenSeconds bb_Out_evenSeconds 11 (some .int) :: TB
def rm_Out_evenSeconds : Room := { frames := 5, cells := 0, slots := 0, locals := 120 }
def wp_Out_evenSeconds_51 (o : Nat) (a1 : Int32) (post : fw_S → Int32 → Prop) (k14 : fw_S → Int32 → Int32 → Int32 → Prop) : Nat → fw_S → Int32 → Int32 → Int32 → Nat → Nat → Int32 → Int32 → Prop
  | 0, _, _, _, _, _, _, _, _ => False
  | f + 1, S, x2, x4, x5, u6, u7, x8, x9 => (((x8 ≤ x9) → ∀ v2 : Int32, v2 = x5 + 1 → k14 S x2 x4 v2) ∧ (¬ (x8 ≤ x9) → vp_in x9 3 ∧ (wp_Point_evenSeconds S (u7 + (1 + 31 * x9.toNatClampNeg)) (S.1 o 2) a1 (fun S4 r5 => ∀ v6 : Int32, v6 = (if r5 < x2 then r5 else x2) → ∀ v7 : Int32, v7 = x9 + 1 → wp_Out_evenSeconds_51 o a1 post k14 f S4 v6 x4 x5 u6 u7 x8 v7))))
def wp_Out_evenSeconds_14 (o : Nat) (a1 : Int32) (post : fw_S → Int32 → Prop) : Nat → fw_S → Int32 → Int32 → Int32 → Prop
  | 0, _, _, _, _ => False
  | f + 1, S, x2, x4, x5 => (((x4 ≤ x5) → post S x2) ∧ (¬ (x4 ≤ x5) → vp_in x5 2 ∧ (wp_Site_share S ((o + 1) + (18 + 95 * x5.toNatClampNeg)) (S.1 o 2) (fun S3 => ∀ v4 : Int32, v4 = (nI 3) → ∃ f0, wp_Out_evenSeconds_51 o a1 post (fun S x2 x4 x5 => wp_Out_evenSeconds_14 o a1 post f S x2 x4 x5) f0 S3 x2 x4 x5 ((o + 1) + (18 + 95 * x5.toNatClampNeg)) (((o + 1) + (18 + 95 * x5.toNatClampNeg)) + 1) v4 0))))
def wp_Out_evenSeconds (S : fw_S) (o : Nat) (a1 : Int32) (post : fw_S → Int32 → Prop) : Prop := ∀ v1 : Int32, v1 = (nI 2) → ∃ f0, wp_Out_evenSeconds_14 o a1 post f0 S a1 v1 0
set_option maxHeartbeats 4000000 in
set_option maxRecDepth 100000 in
theorem mt_Out_evenSeconds (l : Launch) (D : va_G) (cA : Nat → ClassId) (b : Nat) (S : fw_S) (o : Nat) (a1 : Int32) (ho : o < 245 ∧ layU o = (0, 0)) (post : fw_S → Int32 → Prop) (hw : wp_Out_evenSeconds S o a1 post) : Met l yy_Out_evenSeconds ww_Out_evenSeconds rm_Out_evenSeconds (fw_Pc D CL cA (TYS cA) TK layU b 245 S [.ref (b + o), .int a1]) (va_Qi (fun r S' => post S' r) (fw_B D CL cA TK layU b 245) (fw_A b 245)) 0 0 (fw_A b 245) := by
  refine Met.ofW (cc := bb_Out_evenSeconds) (maxL := 11) (ret := (some .int)) (by decide) rfl ?_
  intro p e s m args below meth c s₁ B hml hv
  obtain ⟨rfl, hP, hK⟩ := hv
  have hx := B.exec
  have hb := B.bytes
  have hr := B.returns
  have hts := atoms_spec (ws := ww_Out_evenSeconds) B.pre
  have hown : s.vm.findClass "OutletOffice" = some m.cls := findClass_of_methodNamed B.named
  have hlocks := B.notSynchronized
  have hS : va_S (fw_A b 245) s.heap s.heap [] := va_S.rf
  have hl := lv_entry ([.ref (b + o), .int a1]) (n := 11) (Nat.le_of_ble_eq_true rfl)
  rw [lg_entry_eq]
  generalize (lg_sl ([.ref (b + o), .int a1]) ++ List.replicate (11 - (lg_sl ([.ref (b + o), .int a1])).length) Slot.unset).toArray = ls at hl ⊢
  have hl : lv_has ls 11 [(0, .ref (b + o)), (1, .int a1)] := hl
  have B51 : ∀ (k14 : fw_S → Int32 → Int32 → Int32 → Prop), (∀ (S : fw_S) (x2 : Int32) (x4 : Int32) (x5 : Int32) (H : Heap) (locs : List Loc) (ls : Array Slot), k14 S x2 x4 x5 → fw_P D CL cA layU b 245 (fw_v TK layU b S) H → va_S (fw_A b 245) s.heap H locs → lv_has ls 11 [(0, .ref (b + o)), (1, .int a1), (2, .int x2), (3, .ref (b + (o + 1))), (4, .int x4), (5, .int x5)] → W p l e (headSpec ww_Out_evenSeconds rm_Out_evenSeconds).room s m ([.ref (b + o), .int a1] : List Value).toArray below meth c H locs 0 0 (MQ below (va_Qi (fun r S' => post S' r) (fw_B D CL cA TK layU b 245) (fw_A b 245)) ([.ref (b + o), .int a1] : List Value).toArray s 0 0 (fw_A b 245)) (F0 m 14 ls [])) → ∀ f : Nat, ∀ (S : fw_S) (x2 : Int32) (x4 : Int32) (x5 : Int32) (u6 : Nat) (u7 : Nat) (x8 : Int32) (x9 : Int32) (hu6 : u6 < 245 ∧ layU u6 = (1, 0)) (hu7 : u7 < 245 ∧ layU u7 = (104, 3)) (H : Heap) (locs : List Loc) (ls : Array Slot), wp_Out_evenSeconds_51 o a1 post k14 f S x2 x4 x5 u6 u7 x8 x9 → fw_P D CL cA layU b 245 (fw_v TK layU b S) H → va_S (fw_A b 245) s.heap H locs → lv_has ls 11 [(0, .ref (b + o)), (1, .int a1), (2, .int x2), (3, .ref (b + (o + 1))), (4, .int x4), (5, .int x5), (6, .ref (b + u6)), (7, .ref (b + u7)), (8, .int x8), (9, .int x9)] → W p l e (headSpec ww_Out_evenSeconds rm_Out_evenSeconds).room s m ([.ref (b + o), .int a1] : List Value).toArray below meth c H locs 0 0 (MQ below (va_Qi (fun r S' => post S' r) (fw_B D CL cA TK layU b 245) (fw_A b 245)) ([.ref (b + o), .int a1] : List Value).toArray s 0 0 (fw_A b 245)) (F0 m 51 ls []) := by
    intro k14 K14 f
    induction f with
    | zero => intro S x2 x4 x5 u6 u7 x8 x9 hu6 hu7 H locs ls hw; exact False.elim hw
    | succ f ih =>
        intro S x2 x4 x5 u6 u7 x8 x9 hu6 hu7 H locs ls hw hP hS hl
        unfold wp_Out_evenSeconds_51 at hw
        refine lv_iload hx hb dd_Out_evenSeconds_51 (lv_at hl 9 rfl) ?_
        refine lv_iload hx hb dd_Out_evenSeconds_53 (lv_at hl 8 rfl) ?_
        refine lv_icmp_ge (tgt := 86) hx hb dd_Out_evenSeconds_55 (by decide) (fun h1 => ?_) (fun h1 => ?_)
        · have hw := hw.1 h1
          obtain ⟨v2, e_v2⟩ : ∃ z : Int32, z = x5 + 1 := ⟨_, rfl⟩
          have hw := hw v2 e_v2
          refine lv_iinc hx hb dd_Out_evenSeconds_86 hl (k := 5) rfl (show x5 + Int32.ofInt 1 = v2 by rw [kc_ii_1, e_v2]) (Nat.le_of_ble_eq_true rfl) rfl (fun ls hl => ?_)
          have hl : lv_has ls 11 [(5, .int v2), (0, .ref (b + o)), (1, .int a1), (2, .int x2), (3, .ref (b + (o + 1))), (4, .int x4), (6, .ref (b + u6)), (7, .ref (b + u7)), (8, .int x8), (9, .int x9)] := hl
          refine lv_goto (tgt := 14) hx hb dd_Out_evenSeconds_89 (by decide) ?_
          exact K14 S x2 x4 v2 _ _ ls hw hP hS (lv_sub hl [1, 2, 3, 4, 5, 0] rfl)
        · have hw := hw.2 h1
          refine lv_aload hx hb dd_Out_evenSeconds_58 (lv_at hl 7 rfl) ?_
          refine lv_iload hx hb dd_Out_evenSeconds_60 (lv_at hl 9 rfl) ?_
          obtain ⟨h3, hw⟩ := hw
          refine fw_aald hx hb hK hP hu7 (by decide) 4 rfl (tka_104 _) h3 dd_Out_evenSeconds_62 ?_
          refine lv_astore hx hb dd_Out_evenSeconds_63 hl (Nat.le_of_ble_eq_true rfl) rfl (fun ls hl => ?_)
          have hl : lv_has ls 11 [(10, .ref (b + (u7 + (1 + 31 * x9.toNatClampNeg)))), (0, .ref (b + o)), (1, .int a1), (2, .int x2), (3, .ref (b + (o + 1))), (4, .int x4), (5, .int x5), (6, .ref (b + u6)), (7, .ref (b + u7)), (8, .int x8), (9, .int x9)] := hl
          refine lv_iload_n hx hb dd_Out_evenSeconds_65 rfl (lv_at hl 3 rfl) ?_
          refine lv_aload hx hb dd_Out_evenSeconds_66 (lv_at hl 0 rfl) ?_
          refine lv_aload_n hx hb dd_Out_evenSeconds_68 rfl (lv_at hl 1 rfl) ?_
          refine fw_geti hx hb hts in_0 hown hK hP ho (by decide) rfl 2 (by decide) (hts _ (tb_in tw_303)) tk_0_2 dd_Out_evenSeconds_69 ?_
          refine lv_iload_n hx hb dd_Out_evenSeconds_72 rfl (lv_at hl 2 rfl) ?_
          refine fw_calli (va_runV (As := [.int (S.1 o 2), .int a1]) (rest := [.int x2]) ⟨hx, hb, hml, hown, hts⟩ (mt_Point_evenSeconds l D cA b S (u7 + (1 + 31 * x9.toNatClampNeg)) (S.1 o 2) a1 (le_104 hu7 (fw_lt h3)) _ hw) (cwV 2 hts (fw_gV tw_683 tw_680 tw_681 tw_682 tw_7) rfl rfl rfl (by decide +kernel) ⟨Nat.le_of_ble_eq_true rfl, Nat.le_of_ble_eq_true rfl⟩) (fw_preV hP hK (le_104 hu7 (fw_lt h3)) (by decide) rfl) rfl rfl hl.1 rfl (lv_room (Nat.le_of_ble_eq_true rfl)) dd_Out_evenSeconds_73 ⟨Nat.le_of_ble_eq_true rfl, Nat.le_of_ble_eq_true rfl⟩) hS (fun S4 r5 H locs hw hP hS => ?_)
          try dsimp only at hw
          refine va_mmin hx hb (hml.trans hl.1.symm) hown (hts _ (tb_in tw_700)) (hts _ (tb_in tw_658)) (hts _ (tb_in tw_18)) (hts _ (tb_in tw_659)) (Nat.le_of_ble_eq_true rfl) (Nat.le_of_ble_eq_true rfl) (Nat.le_of_ble_eq_true rfl) (Nat.le_of_ble_eq_true rfl) dd_Out_evenSeconds_76 ?_
          refine lv_topi (fun v6 e_v6 => ?_)
          have hw := hw v6 e_v6
          refine lv_istore_n hx hb dd_Out_evenSeconds_79 rfl hl (Nat.le_of_ble_eq_true rfl) rfl (fun ls hl => ?_)
          have hl : lv_has ls 11 [(2, .int v6), (10, .ref (b + (u7 + (1 + 31 * x9.toNatClampNeg)))), (0, .ref (b + o)), (1, .int a1), (3, .ref (b + (o + 1))), (4, .int x4), (5, .int x5), (6, .ref (b + u6)), (7, .ref (b + u7)), (8, .int x8), (9, .int x9)] := hl
          obtain ⟨v7, e_v7⟩ : ∃ z : Int32, z = x9 + 1 := ⟨_, rfl⟩
          have hw := hw v7 e_v7
          refine lv_iinc hx hb dd_Out_evenSeconds_80 hl (k := 10) rfl (show x9 + Int32.ofInt 1 = v7 by rw [kc_ii_1, e_v7]) (Nat.le_of_ble_eq_true rfl) rfl (fun ls hl => ?_)
          have hl : lv_has ls 11 [(9, .int v7), (2, .int v6), (10, .ref (b + (u7 + (1 + 31 * x9.toNatClampNeg)))), (0, .ref (b + o)), (1, .int a1), (3, .ref (b + (o + 1))), (4, .int x4), (5, .int x5), (6, .ref (b + u6)), (7, .ref (b + u7)), (8, .int x8)] := hl
          refine lv_goto (tgt := 51) hx hb dd_Out_evenSeconds_83 (by decide) ?_
          exact ih S4 v6 x4 x5 u6 u7 x8 v7 hu6 hu7 _ _ ls hw hP hS (lv_sub hl [3, 4, 1, 5, 6, 7, 8, 9, 10, 0] rfl)
  have B14 : ∀ f : Nat, ∀ (S : fw_S) (x2 : Int32) (x4 : Int32) (x5 : Int32) (H : Heap) (locs : List Loc) (ls : Array Slot), wp_Out_evenSeconds_14 o a1 post f S x2 x4 x5 → fw_P D CL cA layU b 245 (fw_v TK layU b S) H → va_S (fw_A b 245) s.heap H locs → lv_has ls 11 [(0, .ref (b + o)), (1, .int a1), (2, .int x2), (3, .ref (b + (o + 1))), (4, .int x4), (5, .int x5)] → W p l e (headSpec ww_Out_evenSeconds rm_Out_evenSeconds).room s m ([.ref (b + o), .int a1] : List Value).toArray below meth c H locs 0 0 (MQ below (va_Qi (fun r S' => post S' r) (fw_B D CL cA TK layU b 245) (fw_A b 245)) ([.ref (b + o), .int a1] : List Value).toArray s 0 0 (fw_A b 245)) (F0 m 14 ls []) := by
    intro f
    induction f with
    | zero => intro S x2 x4 x5 H locs ls hw; exact False.elim hw
    | succ f ih =>
        intro S x2 x4 x5 H locs ls hw hP hS hl
        unfold wp_Out_evenSeconds_14 at hw
        refine lv_iload hx hb dd_Out_evenSeconds_14 (lv_at hl 5 rfl) ?_
        refine lv_iload hx hb dd_Out_evenSeconds_16 (lv_at hl 4 rfl) ?_
        refine lv_icmp_ge (tgt := 92) hx hb dd_Out_evenSeconds_18 (by decide) (fun h1 => ?_) (fun h1 => ?_)
        · have hw := hw.1 h1
          refine lv_iload_n hx hb dd_Out_evenSeconds_92 rfl (lv_at hl 2 rfl) ?_
          exact W.iret (v := x2) hx hb hr (fun t ht hW => ⟨⟨_, _, rfl, hw, fw_Bof ht hP⟩, hS.F ht⟩) hS.2.2 dd_Out_evenSeconds_93
        · have hw := hw.2 h1
          refine lv_aload_n hx hb dd_Out_evenSeconds_21 rfl (lv_at hl 3 rfl) ?_
          refine lv_iload hx hb dd_Out_evenSeconds_22 (lv_at hl 5 rfl) ?_
          obtain ⟨h2, hw⟩ := hw
          refine fw_aald hx hb hK hP (lf_0_0 ho) (by decide) 3 rfl (tka_103 _) h2 dd_Out_evenSeconds_24 ?_
          refine lv_astore hx hb dd_Out_evenSeconds_25 hl (Nat.le_of_ble_eq_true rfl) rfl (fun ls hl => ?_)
          have hl : lv_has ls 11 [(6, .ref (b + ((o + 1) + (18 + 95 * x5.toNatClampNeg)))), (0, .ref (b + o)), (1, .int a1), (2, .int x2), (3, .ref (b + (o + 1))), (4, .int x4), (5, .int x5)] := hl
          refine lv_aload hx hb dd_Out_evenSeconds_27 (lv_at hl 0 rfl) ?_
          refine lv_aload_n hx hb dd_Out_evenSeconds_29 rfl (lv_at hl 1 rfl) ?_
          refine fw_geti hx hb hts in_0 hown hK hP ho (by decide) rfl 2 (by decide) (hts _ (tb_in tw_303)) tk_0_2 dd_Out_evenSeconds_30 ?_
          refine fw_callv (va_runV (As := [.int (S.1 o 2)]) (rest := []) ⟨hx, hb, hml, hown, hts⟩ (mt_Site_share l D cA b S ((o + 1) + (18 + 95 * x5.toNatClampNeg)) (S.1 o 2) (le_103 (lf_0_0 ho) (fw_lt h2)) _ hw) (cwV 1 hts (fw_gV tw_647 tw_644 tw_645 tw_646 tw_6) rfl rfl rfl (by decide +kernel) ⟨Nat.le_of_ble_eq_true rfl, Nat.le_of_ble_eq_true rfl⟩) (fw_preV hP hK (le_103 (lf_0_0 ho) (fw_lt h2)) (by decide) rfl) rfl rfl hl.1 rfl (lv_room (Nat.le_of_ble_eq_true rfl)) dd_Out_evenSeconds_33 ⟨Nat.le_of_ble_eq_true rfl, Nat.le_of_ble_eq_true rfl⟩) hS (fun S3 H locs hw hP hS => ?_)
          try dsimp only at hw
          refine lv_aload hx hb dd_Out_evenSeconds_36 (lv_at hl 0 rfl) ?_
          refine fw_getr hx hb hts in_1 hown hK hP (le_103 (lf_0_0 ho) (fw_lt h2)) (by decide) rfl 0 (by decide) (hts _ (tb_in tw_293)) tk_1_0 dd_Out_evenSeconds_38 ?_
          refine lv_astore hx hb dd_Out_evenSeconds_41 hl (Nat.le_of_ble_eq_true rfl) rfl (fun ls hl => ?_)
          have hl : lv_has ls 11 [(7, .ref (b + (((o + 1) + (18 + 95 * x5.toNatClampNeg)) + 1))), (6, .ref (b + ((o + 1) + (18 + 95 * x5.toNatClampNeg)))), (0, .ref (b + o)), (1, .int a1), (2, .int x2), (3, .ref (b + (o + 1))), (4, .int x4), (5, .int x5)] := hl
          refine lv_aload hx hb dd_Out_evenSeconds_43 (lv_at hl 0 rfl) ?_
          refine fw_alen hx hb hK hP (lf_1_0 (le_103 (lf_0_0 ho) (fw_lt h2))) (by decide) 4 rfl dd_Out_evenSeconds_45 ?_
          refine lv_topi (fun v4 e_v4 => ?_)
          have hw := hw v4 e_v4
          refine lv_istore hx hb dd_Out_evenSeconds_46 hl (Nat.le_of_ble_eq_true rfl) rfl (fun ls hl => ?_)
          have hl : lv_has ls 11 [(8, .int v4), (7, .ref (b + (((o + 1) + (18 + 95 * x5.toNatClampNeg)) + 1))), (6, .ref (b + ((o + 1) + (18 + 95 * x5.toNatClampNeg)))), (0, .ref (b + o)), (1, .int a1), (2, .int x2), (3, .ref (b + (o + 1))), (4, .int x4), (5, .int x5)] := hl
          refine lv_iconst (v := 0) hx hb dd_Out_evenSeconds_48 kc_ic_0 ?_
          refine lv_istore hx hb dd_Out_evenSeconds_49 hl (Nat.le_of_ble_eq_true rfl) rfl (fun ls hl => ?_)
          have hl : lv_has ls 11 [(9, .int 0), (8, .int v4), (7, .ref (b + (((o + 1) + (18 + 95 * x5.toNatClampNeg)) + 1))), (6, .ref (b + ((o + 1) + (18 + 95 * x5.toNatClampNeg)))), (0, .ref (b + o)), (1, .int a1), (2, .int x2), (3, .ref (b + (o + 1))), (4, .int x4), (5, .int x5)] := hl
          obtain ⟨f0, hw⟩ := hw
          exact B51 _ ih f0 S3 x2 x4 x5 ((o + 1) + (18 + 95 * x5.toNatClampNeg)) (((o + 1) + (18 + 95 * x5.toNatClampNeg)) + 1) v4 0 (le_103 (lf_0_0 ho) (fw_lt h2)) (lf_1_0 (le_103 (lf_0_0 ho) (fw_lt h2))) _ _ ls hw hP hS (lv_sub hl [4, 5, 6, 7, 8, 9, 3, 2, 1, 0] rfl)
  unfold wp_Out_evenSeconds at hw
  refine lv_iload_n hx hb dd_Out_evenSeconds_0 rfl (lv_at hl 1 rfl) ?_
  refine lv_istore_n hx hb dd_Out_evenSeconds_1 rfl hl (Nat.le_of_ble_eq_true rfl) rfl (fun ls hl => ?_)
  have hl : lv_has ls 11 [(2, .int a1), (0, .ref (b + o)), (1, .int a1)] := hl
  refine lv_aload_n hx hb dd_Out_evenSeconds_2 rfl (lv_at hl 1 rfl) ?_
  refine fw_getr hx hb hts in_0 hown hK hP ho (by decide) rfl 0 (by decide) (hts _ (tb_in tw_301)) tk_0_0 dd_Out_evenSeconds_3 ?_
  refine lv_astore_n hx hb dd_Out_evenSeconds_6 rfl hl (Nat.le_of_ble_eq_true rfl) rfl (fun ls hl => ?_)
  have hl : lv_has ls 11 [(3, .ref (b + (o + 1))), (2, .int a1), (0, .ref (b + o)), (1, .int a1)] := hl
  refine lv_aload_n hx hb dd_Out_evenSeconds_7 rfl (lv_at hl 0 rfl) ?_
  refine fw_alen hx hb hK hP (lf_0_0 ho) (by decide) 3 rfl dd_Out_evenSeconds_8 ?_
  refine lv_topi (fun v1 e_v1 => ?_)
  have hw := hw v1 e_v1
  refine lv_istore hx hb dd_Out_evenSeconds_9 hl (Nat.le_of_ble_eq_true rfl) rfl (fun ls hl => ?_)
  have hl : lv_has ls 11 [(4, .int v1), (3, .ref (b + (o + 1))), (2, .int a1), (0, .ref (b + o)), (1, .int a1)] := hl
  refine lv_iconst (v := 0) hx hb dd_Out_evenSeconds_11 kc_ic_0 ?_
  refine lv_istore hx hb dd_Out_evenSeconds_12 hl (Nat.le_of_ble_eq_true rfl) rfl (fun ls hl => ?_)
  have hl : lv_has ls 11 [(5, .int 0), (4, .int v1), (3, .ref (b + (o + 1))), (2, .int a1), (0, .ref (b + o)), (1, .int a1)] := hl
  obtain ⟨f0, hw⟩ := hw
  exact B14 f0 S a1 v1 0 _ _ ls hw hP hS (lv_sub hl [4, 5, 3, 2, 1, 0] rfl)
theorem dd_Car_eat_39 : decode bb_Car_eat 39 = .ok (.return_, 1) := by decide +kernel
theorem dd_Car_eat_0 : decode bb_Car_eat 0 = .ok (.aload_n 0, 1) := by decide +kernel
theorem dd_Car_eat_1 : decode bb_Car_eat 1 = .ok (.dup, 1) := by decide +kernel
theorem dd_Car_eat_2 : decode bb_Car_eat 2 = .ok (.getfield 23, 3) := by decide +kernel
theorem dd_Car_eat_5 : decode bb_Car_eat 5 = .ok (.iload_n 1, 1) := by decide +kernel
theorem dd_Car_eat_6 : decode bb_Car_eat 6 = .ok (.isub, 1) := by decide +kernel
theorem dd_Car_eat_7 : decode bb_Car_eat 7 = .ok (.putfield 23, 3) := by decide +kernel
theorem dd_Car_eat_10 : decode bb_Car_eat 10 = .ok (.aload_n 0, 1) := by decide +kernel
theorem dd_Car_eat_11 : decode bb_Car_eat 11 = .ok (.getfield 13, 3) := by decide +kernel
theorem dd_Car_eat_14 : decode bb_Car_eat 14 = .ok (.ifCond .ne 25, 3) := by decide +kernel
theorem dd_Car_eat_17 : decode bb_Car_eat 17 = .ok (.aload_n 0, 1) := by decide +kernel
theorem dd_Car_eat_18 : decode bb_Car_eat 18 = .ok (.getfield 23, 3) := by decide +kernel
theorem dd_Car_eat_21 : decode bb_Car_eat 21 = .ok (.ifCond .gt 18, 3) := by decide +kernel
theorem dd_Car_eat_24 : decode bb_Car_eat 24 = .ok (.aload_n 0, 1) := by decide +kernel
theorem dd_Car_eat_25 : decode bb_Car_eat 25 = .ok (.iconst 1, 1) := by decide +kernel
theorem dd_Car_eat_26 : decode bb_Car_eat 26 = .ok (.putfield 13, 3) := by decide +kernel
theorem dd_Car_eat_29 : decode bb_Car_eat 29 = .ok (.aload_n 0, 1) := by decide +kernel
theorem dd_Car_eat_30 : decode bb_Car_eat 30 = .ok (.iload_n 2, 1) := by decide +kernel
theorem dd_Car_eat_31 : decode bb_Car_eat 31 = .ok (.putfield 26, 3) := by decide +kernel
theorem dd_Car_eat_34 : decode bb_Car_eat 34 = .ok (.aload_n 0, 1) := by decide +kernel
theorem dd_Car_eat_35 : decode bb_Car_eat 35 = .ok (.iconst 0, 1) := by decide +kernel
theorem dd_Car_eat_36 : decode bb_Car_eat 36 = .ok (.putfield 16, 3) := by decide +kernel
def ww_Car_eat : List Cond := .code yy_Car_eat bb_Car_eat 3 none :: TB
def rm_Car_eat : Room := { frames := 0, cells := 0, slots := 0, locals := 0 }
def wp_Car_eat_39 (o : Nat) (a1 : Int32) (a2 : Int32) (post : fw_S → Prop) (S : fw_S) : Prop := post S
def wp_Car_eat (S : fw_S) (o : Nat) (a1 : Int32) (a2 : Int32) (post : fw_S → Prop) : Prop := ∀ S1 : fw_S, S1 = fw_si S o 4 ((S.1 o 4) - a1) → ((¬ ((S1.1 o 1) = 0) → wp_Car_eat_39 o a1 a2 post S1) ∧ (((S1.1 o 1) = 0) → ((((0 : Int32) < (S1.1 o 4)) → wp_Car_eat_39 o a1 a2 post S1) ∧ (¬ ((0 : Int32) < (S1.1 o 4)) → ∀ S4 : fw_S, S4 = fw_si S1 o 1 1 → ∀ S5 : fw_S, S5 = fw_si S4 o 5 a2 → ∀ S6 : fw_S, S6 = fw_si S5 o 2 0 → wp_Car_eat_39 o a1 a2 post S6))))
set_option maxHeartbeats 4000000 in
set_option maxRecDepth 100000 in
theorem mt_Car_eat (l : Launch) (D : va_G) (cA : Nat → ClassId) (b : Nat) (S : fw_S) (o : Nat) (a1 : Int32) (a2 : Int32) (ho : o < 245 ∧ layU o = (3, 0)) (post : fw_S → Prop) (hw : wp_Car_eat S o a1 a2 post) : Met l yy_Car_eat ww_Car_eat rm_Car_eat (fw_Pc D CL cA (TYS cA) TK layU b 245 S [.ref (b + o), .int a1, .int a2]) (va_Qv post (fw_B D CL cA TK layU b 245) (fw_A b 245)) 0 0 (fw_A b 245) := by
  refine Met.ofW (cc := bb_Car_eat) (maxL := 3) (ret := none) (by decide) rfl ?_
  intro p e s m args below meth c s₁ B hml hv
  obtain ⟨rfl, hP, hK⟩ := hv
  have hx := B.exec
  have hb := B.bytes
  have hr := B.returns
  have hts := atoms_spec (ws := ww_Car_eat) B.pre
  have hown : s.vm.findClass "OutletOffice$Car" = some m.cls := findClass_of_methodNamed B.named
  have hlocks := B.notSynchronized
  have hS : va_S (fw_A b 245) s.heap s.heap [] := va_S.rf
  have hl := lv_entry ([.ref (b + o), .int a1, .int a2]) (n := 3) (Nat.le_of_ble_eq_true rfl)
  rw [lg_entry_eq]
  generalize (lg_sl ([.ref (b + o), .int a1, .int a2]) ++ List.replicate (3 - (lg_sl ([.ref (b + o), .int a1, .int a2])).length) Slot.unset).toArray = ls at hl ⊢
  have hl : lv_has ls 3 [(0, .ref (b + o)), (1, .int a1), (2, .int a2)] := hl
  have B39 : ∀ (S : fw_S) (H : Heap) (locs : List Loc) (ls : Array Slot), wp_Car_eat_39 o a1 a2 post S → fw_P D CL cA layU b 245 (fw_v TK layU b S) H → va_S (fw_A b 245) s.heap H locs → lv_has ls 3 [(0, .ref (b + o)), (1, .int a1), (2, .int a2)] → W p l e (headSpec ww_Car_eat rm_Car_eat).room s m ([.ref (b + o), .int a1, .int a2] : List Value).toArray below meth c H locs 0 0 (MQ below (va_Qv post (fw_B D CL cA TK layU b 245) (fw_A b 245)) ([.ref (b + o), .int a1, .int a2] : List Value).toArray s 0 0 (fw_A b 245)) (F0 m 39 ls []) := by
      intro S H locs ls hw hP hS hl
      unfold wp_Car_eat_39 at hw
      exact W.vret hx hb hr (fun t ht hW => ⟨⟨_, rfl, hw, fw_Bof ht hP⟩, hS.F ht⟩) hS.2.2 dd_Car_eat_39
  unfold wp_Car_eat at hw
  refine lv_aload_n hx hb dd_Car_eat_0 rfl (lv_at hl 0 rfl) ?_
  refine lv_dup hx hb dd_Car_eat_1 rfl ?_
  refine fw_geti hx hb hts in_3 hown hK hP ho (by decide) rfl 4 (by decide) (hts _ (tb_in tw_168)) tk_3_4 dd_Car_eat_2 ?_
  refine lv_iload_n hx hb dd_Car_eat_5 rfl (lv_at hl 1 rfl) ?_
  refine lv_isub hx hb dd_Car_eat_6 ?_
  refine fw_puti hx hb hts in_3 F_ty_3 F_tyok_3 F_nm_3 hown hK hP hS (fw_A.in ho.1) ho (by decide) rfl 4 (by decide) (hts _ (tb_in tw_168)) rfl tk_3_4 (ty := .int) (by decide +kernel) rfl rfl dd_Car_eat_7 (fun H locs hP hS => ?_)
  obtain ⟨S1, e_S1⟩ : ∃ z, z = fw_si S o 4 ((S.1 o 4) - a1) := ⟨_, rfl⟩
  rw [← e_S1] at hP
  have hw := hw S1 e_S1
  refine lv_aload_n hx hb dd_Car_eat_10 rfl (lv_at hl 0 rfl) ?_
  refine fw_geti hx hb hts in_3 hown hK hP ho (by decide) rfl 1 (by decide) (hts _ (tb_in tw_160)) tk_3_1 dd_Car_eat_11 ?_
  refine lv_if_ne (tgt := 39) hx hb dd_Car_eat_14 (by decide) (fun h2 => ?_) (fun h2 => ?_)
  · have hw := hw.1 h2
    exact B39 S1 _ _ ls hw hP hS (lv_sub hl [0, 1, 2] rfl)
  · have hw := hw.2 h2
    refine lv_aload_n hx hb dd_Car_eat_17 rfl (lv_at hl 0 rfl) ?_
    refine fw_geti hx hb hts in_3 hown hK hP ho (by decide) rfl 4 (by decide) (hts _ (tb_in tw_168)) tk_3_4 dd_Car_eat_18 ?_
    refine lv_if_gt (tgt := 39) hx hb dd_Car_eat_21 (by decide) (fun h3 => ?_) (fun h3 => ?_)
    · have hw := hw.1 h3
      exact B39 S1 _ _ ls hw hP hS (lv_sub hl [0, 1, 2] rfl)
    · have hw := hw.2 h3
      refine lv_aload_n hx hb dd_Car_eat_24 rfl (lv_at hl 0 rfl) ?_
      refine lv_iconst (v := 1) hx hb dd_Car_eat_25 kc_ic_1 ?_
      refine fw_puti hx hb hts in_3 F_ty_3 F_tyok_3 F_nm_3 hown hK hP hS (fw_A.in ho.1) ho (by decide) rfl 1 (by decide) (hts _ (tb_in tw_160)) rfl tk_3_1 (ty := .boolean) (by decide +kernel) rfl rfl dd_Car_eat_26 (fun H locs hP hS => ?_)
      obtain ⟨S4, e_S4⟩ : ∃ z, z = fw_si S1 o 1 1 := ⟨_, rfl⟩
      rw [← e_S4] at hP
      have hw := hw S4 e_S4
      refine lv_aload_n hx hb dd_Car_eat_29 rfl (lv_at hl 0 rfl) ?_
      refine lv_iload_n hx hb dd_Car_eat_30 rfl (lv_at hl 2 rfl) ?_
      refine fw_puti hx hb hts in_3 F_ty_3 F_tyok_3 F_nm_3 hown hK hP hS (fw_A.in ho.1) ho (by decide) rfl 5 (by decide) (hts _ (tb_in tw_169)) rfl tk_3_5 (ty := .int) (by decide +kernel) rfl rfl dd_Car_eat_31 (fun H locs hP hS => ?_)
      obtain ⟨S5, e_S5⟩ : ∃ z, z = fw_si S4 o 5 a2 := ⟨_, rfl⟩
      rw [← e_S5] at hP
      have hw := hw S5 e_S5
      refine lv_aload_n hx hb dd_Car_eat_34 rfl (lv_at hl 0 rfl) ?_
      refine lv_iconst (v := 0) hx hb dd_Car_eat_35 kc_ic_0 ?_
      refine fw_puti hx hb hts in_3 F_ty_3 F_tyok_3 F_nm_3 hown hK hP hS (fw_A.in ho.1) ho (by decide) rfl 2 (by decide) (hts _ (tb_in tw_162)) rfl tk_3_2 (ty := .int) (by decide +kernel) rfl rfl dd_Car_eat_36 (fun H locs hP hS => ?_)
      obtain ⟨S6, e_S6⟩ : ∃ z, z = fw_si S5 o 2 0 := ⟨_, rfl⟩
      rw [← e_S6] at hP
      have hw := hw S6 e_S6
      exact B39 S6 _ _ ls hw hP hS (lv_sub hl [0, 1, 2] rfl)
theorem dd_Point_charge_37 : decode bb_Point_charge 37 = .ok (.return_, 1) := by decide +kernel
theorem dd_Point_charge_0 : decode bb_Point_charge 0 = .ok (.aload_n 0, 1) := by decide +kernel
theorem dd_Point_charge_1 : decode bb_Point_charge 1 = .ok (.invokevirtual 62, 3) := by decide +kernel
theorem dd_Point_charge_4 : decode bb_Point_charge 4 = .ok (.ifCond .eq 33, 3) := by decide +kernel
theorem dd_Point_charge_7 : decode bb_Point_charge 7 = .ok (.bipush 23, 2) := by decide +kernel
theorem dd_Point_charge_9 : decode bb_Point_charge 9 = .ok (.aload_n 0, 1) := by decide +kernel
theorem dd_Point_charge_10 : decode bb_Point_charge 10 = .ok (.getfield 59, 3) := by decide +kernel
theorem dd_Point_charge_13 : decode bb_Point_charge 13 = .ok (.imul, 1) := by decide +kernel
theorem dd_Point_charge_14 : decode bb_Point_charge 14 = .ok (.iload_n 1, 1) := by decide +kernel
theorem dd_Point_charge_15 : decode bb_Point_charge 15 = .ok (.imul, 1) := by decide +kernel
theorem dd_Point_charge_16 : decode bb_Point_charge 16 = .ok (.istore_n 3, 1) := by decide +kernel
theorem dd_Point_charge_17 : decode bb_Point_charge 17 = .ok (.aload_n 0, 1) := by decide +kernel
theorem dd_Point_charge_18 : decode bb_Point_charge 18 = .ok (.dup, 1) := by decide +kernel
theorem dd_Point_charge_19 : decode bb_Point_charge 19 = .ok (.getfield 39, 3) := by decide +kernel
theorem dd_Point_charge_22 : decode bb_Point_charge 22 = .ok (.iload_n 3, 1) := by decide +kernel
theorem dd_Point_charge_23 : decode bb_Point_charge 23 = .ok (.i2l, 1) := by decide +kernel
theorem dd_Point_charge_24 : decode bb_Point_charge 24 = .ok (.ladd, 1) := by decide +kernel
theorem dd_Point_charge_25 : decode bb_Point_charge 25 = .ok (.putfield 39, 3) := by decide +kernel
theorem dd_Point_charge_28 : decode bb_Point_charge 28 = .ok (.aload_n 0, 1) := by decide +kernel
theorem dd_Point_charge_29 : decode bb_Point_charge 29 = .ok (.getfield 12, 3) := by decide +kernel
theorem dd_Point_charge_32 : decode bb_Point_charge 32 = .ok (.iload_n 3, 1) := by decide +kernel
theorem dd_Point_charge_33 : decode bb_Point_charge 33 = .ok (.iload_n 2, 1) := by decide +kernel
theorem dd_Point_charge_34 : decode bb_Point_charge 34 = .ok (.invokevirtual 120, 3) := by decide +kernel
def ww_Point_charge : List Cond := .code yy_Point_charge bb_Point_charge 4 none :: TB
def rm_Point_charge : Room := { frames := 1, cells := 0, slots := 0, locals := 22 }
def wp_Point_charge_37 (o : Nat) (a1 : Int32) (a2 : Int32) (post : fw_S → Prop) (S : fw_S) : Prop := post S
def wp_Point_charge (S : fw_S) (o : Nat) (a1 : Int32) (a2 : Int32) (post : fw_S → Prop) : Prop := wp_Point_runs S o (fun S1 r2 => (((r2 = 0) → wp_Point_charge_37 o a1 a2 post S1) ∧ (¬ (r2 = 0) → ∀ v4 : Int32, v4 = ((23 * (S1.1 o 11)) * a1) → ∀ S5 : fw_S, S5 = fw_sl S1 o 5 ((S1.2 o 5) + v4.toInt64) → wp_Car_eat S5 (o + 1) v4 a2 (fun S6 => wp_Point_charge_37 o a1 a2 post S6))))
set_option maxHeartbeats 4000000 in
set_option maxRecDepth 100000 in
theorem mt_Point_charge (l : Launch) (D : va_G) (cA : Nat → ClassId) (b : Nat) (S : fw_S) (o : Nat) (a1 : Int32) (a2 : Int32) (ho : o < 245 ∧ layU o = (2, 0)) (post : fw_S → Prop) (hw : wp_Point_charge S o a1 a2 post) : Met l yy_Point_charge ww_Point_charge rm_Point_charge (fw_Pc D CL cA (TYS cA) TK layU b 245 S [.ref (b + o), .int a1, .int a2]) (va_Qv post (fw_B D CL cA TK layU b 245) (fw_A b 245)) 0 0 (fw_A b 245) := by
  refine Met.ofW (cc := bb_Point_charge) (maxL := 4) (ret := none) (by decide) rfl ?_
  intro p e s m args below meth c s₁ B hml hv
  obtain ⟨rfl, hP, hK⟩ := hv
  have hx := B.exec
  have hb := B.bytes
  have hr := B.returns
  have hts := atoms_spec (ws := ww_Point_charge) B.pre
  have hown : s.vm.findClass "OutletOffice$Point" = some m.cls := findClass_of_methodNamed B.named
  have hlocks := B.notSynchronized
  have hS : va_S (fw_A b 245) s.heap s.heap [] := va_S.rf
  have hl := lv_entry ([.ref (b + o), .int a1, .int a2]) (n := 4) (Nat.le_of_ble_eq_true rfl)
  rw [lg_entry_eq]
  generalize (lg_sl ([.ref (b + o), .int a1, .int a2]) ++ List.replicate (4 - (lg_sl ([.ref (b + o), .int a1, .int a2])).length) Slot.unset).toArray = ls at hl ⊢
  have hl : lv_has ls 4 [(0, .ref (b + o)), (1, .int a1), (2, .int a2)] := hl
  have B37 : ∀ (S : fw_S) (H : Heap) (locs : List Loc) (ls : Array Slot), wp_Point_charge_37 o a1 a2 post S → fw_P D CL cA layU b 245 (fw_v TK layU b S) H → va_S (fw_A b 245) s.heap H locs → lv_has ls 4 [(0, .ref (b + o)), (1, .int a1), (2, .int a2)] → W p l e (headSpec ww_Point_charge rm_Point_charge).room s m ([.ref (b + o), .int a1, .int a2] : List Value).toArray below meth c H locs 0 0 (MQ below (va_Qv post (fw_B D CL cA TK layU b 245) (fw_A b 245)) ([.ref (b + o), .int a1, .int a2] : List Value).toArray s 0 0 (fw_A b 245)) (F0 m 37 ls []) := by
      intro S H locs ls hw hP hS hl
      unfold wp_Point_charge_37 at hw
      exact W.vret hx hb hr (fun t ht hW => ⟨⟨_, rfl, hw, fw_Bof ht hP⟩, hS.F ht⟩) hS.2.2 dd_Point_charge_37
  unfold wp_Point_charge at hw
  refine lv_aload_n hx hb dd_Point_charge_0 rfl (lv_at hl 0 rfl) ?_
  refine fw_calli (va_runV (As := []) (rest := []) ⟨hx, hb, hml, hown, hts⟩ (mt_Point_runs l D cA b S o ho _ hw) (cwV 0 hts (fw_gV tw_498 tw_656 tw_496 tw_497 tw_7) rfl rfl rfl (by decide +kernel) ⟨Nat.le_of_ble_eq_true rfl, Nat.le_of_ble_eq_true rfl⟩) (fw_preV hP hK ho (by decide) rfl) rfl rfl hl.1 rfl (lv_room (Nat.le_of_ble_eq_true rfl)) dd_Point_charge_1 ⟨Nat.le_of_ble_eq_true rfl, Nat.le_of_ble_eq_true rfl⟩) hS (fun S1 r2 H locs hw hP hS => ?_)
  try dsimp only at hw
  refine lv_if_eq (tgt := 37) hx hb dd_Point_charge_4 (by decide) (fun h3 => ?_) (fun h3 => ?_)
  · have hw := hw.1 h3
    exact B37 S1 _ _ ls hw hP hS (lv_sub hl [0, 1, 2] rfl)
  · have hw := hw.2 h3
    refine lv_bipush (v := 23) hx hb dd_Point_charge_7 kc_bp_23 ?_
    refine lv_aload_n hx hb dd_Point_charge_9 rfl (lv_at hl 0 rfl) ?_
    refine fw_geti hx hb hts in_2 hown hK hP ho (by decide) rfl 11 (by decide) (hts _ (tb_in tw_264)) tk_2_11 dd_Point_charge_10 ?_
    refine lv_imul hx hb dd_Point_charge_13 ?_
    refine lv_iload_n hx hb dd_Point_charge_14 rfl (lv_at hl 1 rfl) ?_
    refine lv_imul hx hb dd_Point_charge_15 ?_
    refine lv_topi (fun v4 e_v4 => ?_)
    have hw := hw v4 e_v4
    refine lv_istore_n hx hb dd_Point_charge_16 rfl hl (Nat.le_of_ble_eq_true rfl) rfl (fun ls hl => ?_)
    have hl : lv_has ls 4 [(3, .int v4), (0, .ref (b + o)), (1, .int a1), (2, .int a2)] := hl
    refine lv_aload_n hx hb dd_Point_charge_17 rfl (lv_at hl 1 rfl) ?_
    refine lv_dup hx hb dd_Point_charge_18 rfl ?_
    refine fw_getl hx hb hts in_2 hown hK hP ho (by decide) rfl 5 (by decide) (hts _ (tb_in tw_253)) tk_2_5 dd_Point_charge_19 ?_
    refine lv_iload_n hx hb dd_Point_charge_22 rfl (lv_at hl 0 rfl) ?_
    refine lv_i2l hx hb dd_Point_charge_23 rfl ?_
    refine lv_ladd hx hb dd_Point_charge_24 ?_
    refine fw_putl hx hb hts in_2 F_ty_2 F_tyok_2 F_nm_2 hown hK hP hS (fw_A.in ho.1) ho (by decide) rfl 5 (by decide) (hts _ (tb_in tw_253)) rfl tk_2_5 (ty := .long) (by decide +kernel) rfl rfl dd_Point_charge_25 (fun H locs hP hS => ?_)
    obtain ⟨S5, e_S5⟩ : ∃ z, z = fw_sl S1 o 5 ((S1.2 o 5) + v4.toInt64) := ⟨_, rfl⟩
    rw [← e_S5] at hP
    have hw := hw S5 e_S5
    refine lv_aload_n hx hb dd_Point_charge_28 rfl (lv_at hl 1 rfl) ?_
    refine fw_getr hx hb hts in_2 hown hK hP ho (by decide) rfl 0 (by decide) (hts _ (tb_in tw_242)) tk_2_0 dd_Point_charge_29 ?_
    refine lv_iload_n hx hb dd_Point_charge_32 rfl (lv_at hl 0 rfl) ?_
    refine lv_iload_n hx hb dd_Point_charge_33 rfl (lv_at hl 3 rfl) ?_
    refine fw_callv (va_runV (As := [.int v4, .int a2]) (rest := []) ⟨hx, hb, hml, hown, hts⟩ (mt_Car_eat l D cA b S5 (o + 1) v4 a2 (lf_2_0 ho) _ hw) (cwV 2 hts (fw_gV tw_712 tw_709 tw_710 tw_711 tw_8) rfl rfl rfl (by decide +kernel) ⟨Nat.le_of_ble_eq_true rfl, Nat.le_of_ble_eq_true rfl⟩) (fw_preV hP hK (lf_2_0 ho) (by decide) rfl) rfl rfl hl.1 rfl (lv_room (Nat.le_of_ble_eq_true rfl)) dd_Point_charge_34 ⟨Nat.le_of_ble_eq_true rfl, Nat.le_of_ble_eq_true rfl⟩) hS (fun S6 H locs hw hP hS => ?_)
    try dsimp only at hw
    exact B37 S6 _ _ ls hw hP hS (lv_sub hl [1, 2, 3] rfl)
theorem dd_Msg_fill_0 : decode bb_Msg_fill 0 = .ok (.aload_n 0, 1) := by decide +kernel
theorem dd_Msg_fill_1 : decode bb_Msg_fill 1 = .ok (.iload_n 1, 1) := by decide +kernel
theorem dd_Msg_fill_2 : decode bb_Msg_fill 2 = .ok (.putfield 9, 3) := by decide +kernel
theorem dd_Msg_fill_5 : decode bb_Msg_fill 5 = .ok (.aload_n 0, 1) := by decide +kernel
theorem dd_Msg_fill_6 : decode bb_Msg_fill 6 = .ok (.iload_n 2, 1) := by decide +kernel
theorem dd_Msg_fill_7 : decode bb_Msg_fill 7 = .ok (.putfield 15, 3) := by decide +kernel
theorem dd_Msg_fill_10 : decode bb_Msg_fill 10 = .ok (.aload_n 0, 1) := by decide +kernel
theorem dd_Msg_fill_11 : decode bb_Msg_fill 11 = .ok (.iload_n 3, 1) := by decide +kernel
theorem dd_Msg_fill_12 : decode bb_Msg_fill 12 = .ok (.putfield 18, 3) := by decide +kernel
theorem dd_Msg_fill_15 : decode bb_Msg_fill 15 = .ok (.aload_n 0, 1) := by decide +kernel
theorem dd_Msg_fill_16 : decode bb_Msg_fill 16 = .ok (.iload 4, 2) := by decide +kernel
theorem dd_Msg_fill_18 : decode bb_Msg_fill 18 = .ok (.putfield 21, 3) := by decide +kernel
theorem dd_Msg_fill_21 : decode bb_Msg_fill 21 = .ok (.aload_n 0, 1) := by decide +kernel
theorem dd_Msg_fill_22 : decode bb_Msg_fill 22 = .ok (.iload 5, 2) := by decide +kernel
theorem dd_Msg_fill_24 : decode bb_Msg_fill 24 = .ok (.putfield 24, 3) := by decide +kernel
theorem dd_Msg_fill_27 : decode bb_Msg_fill 27 = .ok (.aload_n 0, 1) := by decide +kernel
theorem dd_Msg_fill_28 : decode bb_Msg_fill 28 = .ok (.iload 6, 2) := by decide +kernel
theorem dd_Msg_fill_30 : decode bb_Msg_fill 30 = .ok (.putfield 27, 3) := by decide +kernel
theorem dd_Msg_fill_33 : decode bb_Msg_fill 33 = .ok (.return_, 1) := by decide +kernel
def ww_Msg_fill : List Cond := .code yy_Msg_fill bb_Msg_fill 7 none :: TB
def rm_Msg_fill : Room := { frames := 0, cells := 0, slots := 0, locals := 0 }
def wp_Msg_fill (S : fw_S) (o : Nat) (a1 : Int32) (a2 : Int32) (a3 : Int32) (a4 : Int32) (a5 : Int32) (a6 : Int32) (post : fw_S → Prop) : Prop := ∀ S1 : fw_S, S1 = fw_si S o 0 a1 → ∀ S2 : fw_S, S2 = fw_si S1 o 1 a2 → ∀ S3 : fw_S, S3 = fw_si S2 o 2 a3 → ∀ S4 : fw_S, S4 = fw_si S3 o 3 a4 → ∀ S5 : fw_S, S5 = fw_si S4 o 4 a5 → ∀ S6 : fw_S, S6 = fw_si S5 o 5 a6 → post S6
set_option maxHeartbeats 4000000 in
set_option maxRecDepth 100000 in
theorem mt_Msg_fill (l : Launch) (D : va_G) (cA : Nat → ClassId) (b : Nat) (S : fw_S) (o : Nat) (a1 : Int32) (a2 : Int32) (a3 : Int32) (a4 : Int32) (a5 : Int32) (a6 : Int32) (ho : o < 245 ∧ layU o = (5, 0)) (post : fw_S → Prop) (hw : wp_Msg_fill S o a1 a2 a3 a4 a5 a6 post) : Met l yy_Msg_fill ww_Msg_fill rm_Msg_fill (fw_Pc D CL cA (TYS cA) TK layU b 245 S [.ref (b + o), .int a1, .int a2, .int a3, .int a4, .int a5, .int a6]) (va_Qv post (fw_B D CL cA TK layU b 245) (fw_A b 245)) 0 0 (fw_A b 245) := by
  refine Met.ofW (cc := bb_Msg_fill) (maxL := 7) (ret := none) (by decide) rfl ?_
  intro p e s m args below meth c s₁ B hml hv
  obtain ⟨rfl, hP, hK⟩ := hv
  have hx := B.exec
  have hb := B.bytes
  have hr := B.returns
  have hts := atoms_spec (ws := ww_Msg_fill) B.pre
  have hown : s.vm.findClass "OutletOffice$Message" = some m.cls := findClass_of_methodNamed B.named
  have hlocks := B.notSynchronized
  have hS : va_S (fw_A b 245) s.heap s.heap [] := va_S.rf
  have hl := lv_entry ([.ref (b + o), .int a1, .int a2, .int a3, .int a4, .int a5, .int a6]) (n := 7) (Nat.le_of_ble_eq_true rfl)
  rw [lg_entry_eq]
  generalize (lg_sl ([.ref (b + o), .int a1, .int a2, .int a3, .int a4, .int a5, .int a6]) ++ List.replicate (7 - (lg_sl ([.ref (b + o), .int a1, .int a2, .int a3, .int a4, .int a5, .int a6])).length) Slot.unset).toArray = ls at hl ⊢
  have hl : lv_has ls 7 [(0, .ref (b + o)), (1, .int a1), (2, .int a2), (3, .int a3), (4, .int a4), (5, .int a5), (6, .int a6)] := hl
  unfold wp_Msg_fill at hw
  refine lv_aload_n hx hb dd_Msg_fill_0 rfl (lv_at hl 0 rfl) ?_
  refine lv_iload_n hx hb dd_Msg_fill_1 rfl (lv_at hl 1 rfl) ?_
  refine fw_puti hx hb hts in_5 F_ty_5 F_tyok_5 F_nm_5 hown hK hP hS (fw_A.in ho.1) ho (by decide) rfl 0 (by decide) (hts _ (tb_in tw_196)) rfl tk_5_0 (ty := .int) (by decide +kernel) rfl rfl dd_Msg_fill_2 (fun H locs hP hS => ?_)
  obtain ⟨S1, e_S1⟩ : ∃ z, z = fw_si S o 0 a1 := ⟨_, rfl⟩
  rw [← e_S1] at hP
  have hw := hw S1 e_S1
  refine lv_aload_n hx hb dd_Msg_fill_5 rfl (lv_at hl 0 rfl) ?_
  refine lv_iload_n hx hb dd_Msg_fill_6 rfl (lv_at hl 2 rfl) ?_
  refine fw_puti hx hb hts in_5 F_ty_5 F_tyok_5 F_nm_5 hown hK hP hS (fw_A.in ho.1) ho (by decide) rfl 1 (by decide) (hts _ (tb_in tw_198)) rfl tk_5_1 (ty := .int) (by decide +kernel) rfl rfl dd_Msg_fill_7 (fun H locs hP hS => ?_)
  obtain ⟨S2, e_S2⟩ : ∃ z, z = fw_si S1 o 1 a2 := ⟨_, rfl⟩
  rw [← e_S2] at hP
  have hw := hw S2 e_S2
  refine lv_aload_n hx hb dd_Msg_fill_10 rfl (lv_at hl 0 rfl) ?_
  refine lv_iload_n hx hb dd_Msg_fill_11 rfl (lv_at hl 3 rfl) ?_
  refine fw_puti hx hb hts in_5 F_ty_5 F_tyok_5 F_nm_5 hown hK hP hS (fw_A.in ho.1) ho (by decide) rfl 2 (by decide) (hts _ (tb_in tw_200)) rfl tk_5_2 (ty := .int) (by decide +kernel) rfl rfl dd_Msg_fill_12 (fun H locs hP hS => ?_)
  obtain ⟨S3, e_S3⟩ : ∃ z, z = fw_si S2 o 2 a3 := ⟨_, rfl⟩
  rw [← e_S3] at hP
  have hw := hw S3 e_S3
  refine lv_aload_n hx hb dd_Msg_fill_15 rfl (lv_at hl 0 rfl) ?_
  refine lv_iload hx hb dd_Msg_fill_16 (lv_at hl 4 rfl) ?_
  refine fw_puti hx hb hts in_5 F_ty_5 F_tyok_5 F_nm_5 hown hK hP hS (fw_A.in ho.1) ho (by decide) rfl 3 (by decide) (hts _ (tb_in tw_202)) rfl tk_5_3 (ty := .int) (by decide +kernel) rfl rfl dd_Msg_fill_18 (fun H locs hP hS => ?_)
  obtain ⟨S4, e_S4⟩ : ∃ z, z = fw_si S3 o 3 a4 := ⟨_, rfl⟩
  rw [← e_S4] at hP
  have hw := hw S4 e_S4
  refine lv_aload_n hx hb dd_Msg_fill_21 rfl (lv_at hl 0 rfl) ?_
  refine lv_iload hx hb dd_Msg_fill_22 (lv_at hl 5 rfl) ?_
  refine fw_puti hx hb hts in_5 F_ty_5 F_tyok_5 F_nm_5 hown hK hP hS (fw_A.in ho.1) ho (by decide) rfl 4 (by decide) (hts _ (tb_in tw_204)) rfl tk_5_4 (ty := .int) (by decide +kernel) rfl rfl dd_Msg_fill_24 (fun H locs hP hS => ?_)
  obtain ⟨S5, e_S5⟩ : ∃ z, z = fw_si S4 o 4 a5 := ⟨_, rfl⟩
  rw [← e_S5] at hP
  have hw := hw S5 e_S5
  refine lv_aload_n hx hb dd_Msg_fill_27 rfl (lv_at hl 0 rfl) ?_
  refine lv_iload hx hb dd_Msg_fill_28 (lv_at hl 6 rfl) ?_
  refine fw_puti hx hb hts in_5 F_ty_5 F_tyok_5 F_nm_5 hown hK hP hS (fw_A.in ho.1) ho (by decide) rfl 5 (by decide) (hts _ (tb_in tw_206)) rfl tk_5_5 (ty := .int) (by decide +kernel) rfl rfl dd_Msg_fill_30 (fun H locs hP hS => ?_)
  obtain ⟨S6, e_S6⟩ : ∃ z, z = fw_si S5 o 5 a6 := ⟨_, rfl⟩
  rw [← e_S6] at hP
  have hw := hw S6 e_S6
  exact W.vret hx hb hr (fun t ht hW => ⟨⟨_, rfl, hw, fw_Bof ht hP⟩, hS.F ht⟩) hS.2.2 dd_Msg_fill_33
theorem dd_Queue_put_58 : decode bb_Queue_put 58 = .ok (.return_, 1) := by decide +kernel
theorem dd_Queue_put_0 : decode bb_Queue_put 0 = .ok (.aload_n 0, 1) := by decide +kernel
theorem dd_Queue_put_1 : decode bb_Queue_put 1 = .ok (.getfield 24, 3) := by decide +kernel
theorem dd_Queue_put_4 : decode bb_Queue_put 4 = .ok (.bipush 24, 2) := by decide +kernel
theorem dd_Queue_put_6 : decode bb_Queue_put 6 = .ok (.if_icmp .ge 52, 3) := by decide +kernel
theorem dd_Queue_put_9 : decode bb_Queue_put 9 = .ok (.aload_n 0, 1) := by decide +kernel
theorem dd_Queue_put_10 : decode bb_Queue_put 10 = .ok (.getfield 11, 3) := by decide +kernel
theorem dd_Queue_put_13 : decode bb_Queue_put 13 = .ok (.aload_n 0, 1) := by decide +kernel
theorem dd_Queue_put_14 : decode bb_Queue_put 14 = .ok (.getfield 17, 3) := by decide +kernel
theorem dd_Queue_put_17 : decode bb_Queue_put 17 = .ok (.aload_n 0, 1) := by decide +kernel
theorem dd_Queue_put_18 : decode bb_Queue_put 18 = .ok (.getfield 24, 3) := by decide +kernel
theorem dd_Queue_put_21 : decode bb_Queue_put 21 = .ok (.iadd, 1) := by decide +kernel
theorem dd_Queue_put_22 : decode bb_Queue_put 22 = .ok (.bipush 24, 2) := by decide +kernel
theorem dd_Queue_put_24 : decode bb_Queue_put 24 = .ok (.irem, 1) := by decide +kernel
theorem dd_Queue_put_25 : decode bb_Queue_put 25 = .ok (.aaload, 1) := by decide +kernel
theorem dd_Queue_put_26 : decode bb_Queue_put 26 = .ok (.iload_n 1, 1) := by decide +kernel
theorem dd_Queue_put_27 : decode bb_Queue_put 27 = .ok (.iload_n 2, 1) := by decide +kernel
theorem dd_Queue_put_28 : decode bb_Queue_put 28 = .ok (.iload_n 3, 1) := by decide +kernel
theorem dd_Queue_put_29 : decode bb_Queue_put 29 = .ok (.iload 4, 2) := by decide +kernel
theorem dd_Queue_put_31 : decode bb_Queue_put 31 = .ok (.iload 5, 2) := by decide +kernel
theorem dd_Queue_put_33 : decode bb_Queue_put 33 = .ok (.iload 6, 2) := by decide +kernel
theorem dd_Queue_put_35 : decode bb_Queue_put 35 = .ok (.invokevirtual 31, 3) := by decide +kernel
theorem dd_Queue_put_38 : decode bb_Queue_put 38 = .ok (.aload_n 0, 1) := by decide +kernel
theorem dd_Queue_put_39 : decode bb_Queue_put 39 = .ok (.dup, 1) := by decide +kernel
theorem dd_Queue_put_40 : decode bb_Queue_put 40 = .ok (.getfield 24, 3) := by decide +kernel
theorem dd_Queue_put_43 : decode bb_Queue_put 43 = .ok (.iconst 1, 1) := by decide +kernel
theorem dd_Queue_put_44 : decode bb_Queue_put 44 = .ok (.iadd, 1) := by decide +kernel
theorem dd_Queue_put_45 : decode bb_Queue_put 45 = .ok (.putfield 24, 3) := by decide +kernel
theorem dd_Queue_put_48 : decode bb_Queue_put 48 = .ok (.aload_n 0, 1) := by decide +kernel
theorem dd_Queue_put_49 : decode bb_Queue_put 49 = .ok (.dup, 1) := by decide +kernel
theorem dd_Queue_put_50 : decode bb_Queue_put 50 = .ok (.getfield 21, 3) := by decide +kernel
theorem dd_Queue_put_53 : decode bb_Queue_put 53 = .ok (.iconst 1, 1) := by decide +kernel
theorem dd_Queue_put_54 : decode bb_Queue_put 54 = .ok (.iadd, 1) := by decide +kernel
theorem dd_Queue_put_55 : decode bb_Queue_put 55 = .ok (.putfield 21, 3) := by decide +kernel
def ww_Queue_put : List Cond := .code yy_Queue_put bb_Queue_put 7 none :: TB
def rm_Queue_put : Room := { frames := 1, cells := 0, slots := 0, locals := 26 }
def wp_Queue_put_58 (o : Nat) (a1 : Int32) (a2 : Int32) (a3 : Int32) (a4 : Int32) (a5 : Int32) (a6 : Int32) (post : fw_S → Prop) (S : fw_S) : Prop := post S
def wp_Queue_put (S : fw_S) (o : Nat) (a1 : Int32) (a2 : Int32) (a3 : Int32) (a4 : Int32) (a5 : Int32) (a6 : Int32) (post : fw_S → Prop) : Prop := ((((24 : Int32) ≤ (S.1 o 3)) → wp_Queue_put_58 o a1 a2 a3 a4 a5 a6 post S) ∧ (¬ ((24 : Int32) ≤ (S.1 o 3)) → vp_in (((S.1 o 1) + (S.1 o 3)) - ((S.1 o 1) + (S.1 o 3)) / 24 * 24) 24 ∧ (wp_Msg_fill S ((o + 1) + (1 + 1 * ((((S.1 o 1) + (S.1 o 3)) - ((S.1 o 1) + (S.1 o 3)) / 24 * 24 : Int32).toNatClampNeg))) a1 a2 a3 a4 a5 a6 (fun S3 => ∀ S4 : fw_S, S4 = fw_si S3 o 3 ((S3.1 o 3) + 1) → ∀ S5 : fw_S, S5 = fw_si S4 o 2 ((S4.1 o 2) + 1) → wp_Queue_put_58 o a1 a2 a3 a4 a5 a6 post S5))))
set_option maxHeartbeats 4000000 in
set_option maxRecDepth 100000 in
theorem mt_Queue_put (l : Launch) (D : va_G) (cA : Nat → ClassId) (b : Nat) (S : fw_S) (o : Nat) (a1 : Int32) (a2 : Int32) (a3 : Int32) (a4 : Int32) (a5 : Int32) (a6 : Int32) (ho : o < 245 ∧ layU o = (4, 0)) (post : fw_S → Prop) (hw : wp_Queue_put S o a1 a2 a3 a4 a5 a6 post) : Met l yy_Queue_put ww_Queue_put rm_Queue_put (fw_Pc D CL cA (TYS cA) TK layU b 245 S [.ref (b + o), .int a1, .int a2, .int a3, .int a4, .int a5, .int a6]) (va_Qv post (fw_B D CL cA TK layU b 245) (fw_A b 245)) 0 0 (fw_A b 245) := by
  refine Met.ofW (cc := bb_Queue_put) (maxL := 7) (ret := none) (by decide) rfl ?_
  intro p e s m args below meth c s₁ B hml hv
  obtain ⟨rfl, hP, hK⟩ := hv
  have hx := B.exec
  have hb := B.bytes
  have hr := B.returns
  have hts := atoms_spec (ws := ww_Queue_put) B.pre
  have hown : s.vm.findClass "OutletOffice$Queue" = some m.cls := findClass_of_methodNamed B.named
  have hlocks := B.notSynchronized
  have hS : va_S (fw_A b 245) s.heap s.heap [] := va_S.rf
  have hl := lv_entry ([.ref (b + o), .int a1, .int a2, .int a3, .int a4, .int a5, .int a6]) (n := 7) (Nat.le_of_ble_eq_true rfl)
  rw [lg_entry_eq]
  generalize (lg_sl ([.ref (b + o), .int a1, .int a2, .int a3, .int a4, .int a5, .int a6]) ++ List.replicate (7 - (lg_sl ([.ref (b + o), .int a1, .int a2, .int a3, .int a4, .int a5, .int a6])).length) Slot.unset).toArray = ls at hl ⊢
  have hl : lv_has ls 7 [(0, .ref (b + o)), (1, .int a1), (2, .int a2), (3, .int a3), (4, .int a4), (5, .int a5), (6, .int a6)] := hl
  have B58 : ∀ (S : fw_S) (H : Heap) (locs : List Loc) (ls : Array Slot), wp_Queue_put_58 o a1 a2 a3 a4 a5 a6 post S → fw_P D CL cA layU b 245 (fw_v TK layU b S) H → va_S (fw_A b 245) s.heap H locs → lv_has ls 7 [(0, .ref (b + o)), (1, .int a1), (2, .int a2), (3, .int a3), (4, .int a4), (5, .int a5), (6, .int a6)] → W p l e (headSpec ww_Queue_put rm_Queue_put).room s m ([.ref (b + o), .int a1, .int a2, .int a3, .int a4, .int a5, .int a6] : List Value).toArray below meth c H locs 0 0 (MQ below (va_Qv post (fw_B D CL cA TK layU b 245) (fw_A b 245)) ([.ref (b + o), .int a1, .int a2, .int a3, .int a4, .int a5, .int a6] : List Value).toArray s 0 0 (fw_A b 245)) (F0 m 58 ls []) := by
      intro S H locs ls hw hP hS hl
      unfold wp_Queue_put_58 at hw
      exact W.vret hx hb hr (fun t ht hW => ⟨⟨_, rfl, hw, fw_Bof ht hP⟩, hS.F ht⟩) hS.2.2 dd_Queue_put_58
  unfold wp_Queue_put at hw
  refine lv_aload_n hx hb dd_Queue_put_0 rfl (lv_at hl 0 rfl) ?_
  refine fw_geti hx hb hts in_4 hown hK hP ho (by decide) rfl 3 (by decide) (hts _ (tb_in tw_224)) tk_4_3 dd_Queue_put_1 ?_
  refine lv_bipush (v := 24) hx hb dd_Queue_put_4 kc_bp_24 ?_
  refine lv_icmp_ge (tgt := 58) hx hb dd_Queue_put_6 (by decide) (fun h1 => ?_) (fun h1 => ?_)
  · have hw := hw.1 h1
    exact B58 S _ _ ls hw hP hS (lv_sub hl [0, 1, 2, 3, 4, 5, 6] rfl)
  · have hw := hw.2 h1
    refine lv_aload_n hx hb dd_Queue_put_9 rfl (lv_at hl 0 rfl) ?_
    refine fw_getr hx hb hts in_4 hown hK hP ho (by decide) rfl 0 (by decide) (hts _ (tb_in tw_221)) tk_4_0 dd_Queue_put_10 ?_
    refine lv_aload_n hx hb dd_Queue_put_13 rfl (lv_at hl 0 rfl) ?_
    refine fw_geti hx hb hts in_4 hown hK hP ho (by decide) rfl 1 (by decide) (hts _ (tb_in tw_222)) tk_4_1 dd_Queue_put_14 ?_
    refine lv_aload_n hx hb dd_Queue_put_17 rfl (lv_at hl 0 rfl) ?_
    refine fw_geti hx hb hts in_4 hown hK hP ho (by decide) rfl 3 (by decide) (hts _ (tb_in tw_224)) tk_4_3 dd_Queue_put_18 ?_
    refine lv_iadd hx hb dd_Queue_put_21 ?_
    refine lv_bipush (v := 24) hx hb dd_Queue_put_22 kc_bp_24 ?_
    refine lv_irem hx hb dd_Queue_put_24 (by decide) ?_
    obtain ⟨h2, hw⟩ := hw
    refine fw_aald hx hb hK hP (lf_4_0 ho) (by decide) 5 rfl (tka_105 _) h2 dd_Queue_put_25 ?_
    refine lv_iload_n hx hb dd_Queue_put_26 rfl (lv_at hl 1 rfl) ?_
    refine lv_iload_n hx hb dd_Queue_put_27 rfl (lv_at hl 2 rfl) ?_
    refine lv_iload_n hx hb dd_Queue_put_28 rfl (lv_at hl 3 rfl) ?_
    refine lv_iload hx hb dd_Queue_put_29 (lv_at hl 4 rfl) ?_
    refine lv_iload hx hb dd_Queue_put_31 (lv_at hl 5 rfl) ?_
    refine lv_iload hx hb dd_Queue_put_33 (lv_at hl 6 rfl) ?_
    refine fw_callv (va_runV (As := [.int a1, .int a2, .int a3, .int a4, .int a5, .int a6]) (rest := []) ⟨hx, hb, hml, hown, hts⟩ (mt_Msg_fill l D cA b S ((o + 1) + (1 + 1 * ((((S.1 o 1) + (S.1 o 3)) - ((S.1 o 1) + (S.1 o 3)) / 24 * 24 : Int32).toNatClampNeg))) a1 a2 a3 a4 a5 a6 (le_105 (lf_4_0 ho) (fw_lt h2)) _ hw) (cwV 6 hts (fw_gV tw_519 tw_516 tw_517 tw_518 tw_10) rfl rfl rfl (by decide +kernel) ⟨Nat.le_of_ble_eq_true rfl, Nat.le_of_ble_eq_true rfl⟩) (fw_preV hP hK (le_105 (lf_4_0 ho) (fw_lt h2)) (by decide) rfl) rfl rfl hl.1 rfl (lv_room (Nat.le_of_ble_eq_true rfl)) dd_Queue_put_35 ⟨Nat.le_of_ble_eq_true rfl, Nat.le_of_ble_eq_true rfl⟩) hS (fun S3 H locs hw hP hS => ?_)
    try dsimp only at hw
    refine lv_aload_n hx hb dd_Queue_put_38 rfl (lv_at hl 0 rfl) ?_
    refine lv_dup hx hb dd_Queue_put_39 rfl ?_
    refine fw_geti hx hb hts in_4 hown hK hP ho (by decide) rfl 3 (by decide) (hts _ (tb_in tw_224)) tk_4_3 dd_Queue_put_40 ?_
    refine lv_iconst (v := 1) hx hb dd_Queue_put_43 kc_ic_1 ?_
    refine lv_iadd hx hb dd_Queue_put_44 ?_
    refine fw_puti hx hb hts in_4 F_ty_4 F_tyok_4 F_nm_4 hown hK hP hS (fw_A.in ho.1) ho (by decide) rfl 3 (by decide) (hts _ (tb_in tw_224)) rfl tk_4_3 (ty := .int) (by decide +kernel) rfl rfl dd_Queue_put_45 (fun H locs hP hS => ?_)
    obtain ⟨S4, e_S4⟩ : ∃ z, z = fw_si S3 o 3 ((S3.1 o 3) + 1) := ⟨_, rfl⟩
    rw [← e_S4] at hP
    have hw := hw S4 e_S4
    refine lv_aload_n hx hb dd_Queue_put_48 rfl (lv_at hl 0 rfl) ?_
    refine lv_dup hx hb dd_Queue_put_49 rfl ?_
    refine fw_geti hx hb hts in_4 hown hK hP ho (by decide) rfl 2 (by decide) (hts _ (tb_in tw_223)) tk_4_2 dd_Queue_put_50 ?_
    refine lv_iconst (v := 1) hx hb dd_Queue_put_53 kc_ic_1 ?_
    refine lv_iadd hx hb dd_Queue_put_54 ?_
    refine fw_puti hx hb hts in_4 F_ty_4 F_tyok_4 F_nm_4 hown hK hP hS (fw_A.in ho.1) ho (by decide) rfl 2 (by decide) (hts _ (tb_in tw_223)) rfl tk_4_2 (ty := .int) (by decide +kernel) rfl rfl dd_Queue_put_55 (fun H locs hP hS => ?_)
    obtain ⟨S5, e_S5⟩ : ∃ z, z = fw_si S4 o 2 ((S4.1 o 2) + 1) := ⟨_, rfl⟩
    rw [← e_S5] at hP
    have hw := hw S5 e_S5
    exact B58 S5 _ _ ls hw hP hS (lv_sub hl [0, 1, 2, 3, 4, 5, 6] rfl)
theorem dd_Point_tell_0 : decode bb_Point_tell 0 = .ok (.aload_n 0, 1) := by decide +kernel
theorem dd_Point_tell_1 : decode bb_Point_tell 1 = .ok (.getfield 39, 3) := by decide +kernel
theorem dd_Point_tell_4 : decode bb_Point_tell 4 = .ok (.ldc2_w 91, 3) := by decide +kernel
theorem dd_Point_tell_7 : decode bb_Point_tell 7 = .ok (.ldiv, 1) := by decide +kernel
theorem dd_Point_tell_8 : decode bb_Point_tell 8 = .ok (.l2i, 1) := by decide +kernel
theorem dd_Point_tell_9 : decode bb_Point_tell 9 = .ok (.istore 4, 2) := by decide +kernel
theorem dd_Point_tell_11 : decode bb_Point_tell 11 = .ok (.aload_n 0, 1) := by decide +kernel
theorem dd_Point_tell_12 : decode bb_Point_tell 12 = .ok (.getfield 21, 3) := by decide +kernel
theorem dd_Point_tell_15 : decode bb_Point_tell 15 = .ok (.iload_n 1, 1) := by decide +kernel
theorem dd_Point_tell_16 : decode bb_Point_tell 16 = .ok (.aload_n 0, 1) := by decide +kernel
theorem dd_Point_tell_17 : decode bb_Point_tell 17 = .ok (.getfield 43, 3) := by decide +kernel
theorem dd_Point_tell_20 : decode bb_Point_tell 20 = .ok (.aload_n 0, 1) := by decide +kernel
theorem dd_Point_tell_21 : decode bb_Point_tell 21 = .ok (.getfield 47, 3) := by decide +kernel
theorem dd_Point_tell_24 : decode bb_Point_tell 24 = .ok (.iload_n 2, 1) := by decide +kernel
theorem dd_Point_tell_25 : decode bb_Point_tell 25 = .ok (.iload 4, 2) := by decide +kernel
theorem dd_Point_tell_27 : decode bb_Point_tell 27 = .ok (.iload_n 3, 1) := by decide +kernel
theorem dd_Point_tell_28 : decode bb_Point_tell 28 = .ok (.invokevirtual 93, 3) := by decide +kernel
theorem dd_Point_tell_31 : decode bb_Point_tell 31 = .ok (.return_, 1) := by decide +kernel
def ww_Point_tell : List Cond := .code yy_Point_tell bb_Point_tell 5 none :: TB
def rm_Point_tell : Room := { frames := 2, cells := 0, slots := 0, locals := 52 }
def wp_Point_tell (S : fw_S) (o : Nat) (a1 : Int32) (a2 : Int32) (a3 : Int32) (post : fw_S → Prop) : Prop := ∀ v1 : Int32, v1 = (((S.2 o 5) / 3600 : Int64).toInt32) → wp_Queue_put S (o + 2) a1 (S.1 o 6) (S.1 o 7) a2 v1 a3 (fun S2 => post S2)
set_option maxHeartbeats 4000000 in
set_option maxRecDepth 100000 in
theorem mt_Point_tell (l : Launch) (D : va_G) (cA : Nat → ClassId) (b : Nat) (S : fw_S) (o : Nat) (a1 : Int32) (a2 : Int32) (a3 : Int32) (ho : o < 245 ∧ layU o = (2, 0)) (post : fw_S → Prop) (hw : wp_Point_tell S o a1 a2 a3 post) : Met l yy_Point_tell ww_Point_tell rm_Point_tell (fw_Pc D CL cA (TYS cA) TK layU b 245 S [.ref (b + o), .int a1, .int a2, .int a3]) (va_Qv post (fw_B D CL cA TK layU b 245) (fw_A b 245)) 0 0 (fw_A b 245) := by
  refine Met.ofW (cc := bb_Point_tell) (maxL := 5) (ret := none) (by decide) rfl ?_
  intro p e s m args below meth c s₁ B hml hv
  obtain ⟨rfl, hP, hK⟩ := hv
  have hx := B.exec
  have hb := B.bytes
  have hr := B.returns
  have hts := atoms_spec (ws := ww_Point_tell) B.pre
  have hown : s.vm.findClass "OutletOffice$Point" = some m.cls := findClass_of_methodNamed B.named
  have hlocks := B.notSynchronized
  have hS : va_S (fw_A b 245) s.heap s.heap [] := va_S.rf
  have hl := lv_entry ([.ref (b + o), .int a1, .int a2, .int a3]) (n := 5) (Nat.le_of_ble_eq_true rfl)
  rw [lg_entry_eq]
  generalize (lg_sl ([.ref (b + o), .int a1, .int a2, .int a3]) ++ List.replicate (5 - (lg_sl ([.ref (b + o), .int a1, .int a2, .int a3])).length) Slot.unset).toArray = ls at hl ⊢
  have hl : lv_has ls 5 [(0, .ref (b + o)), (1, .int a1), (2, .int a2), (3, .int a3)] := hl
  unfold wp_Point_tell at hw
  refine lv_aload_n hx hb dd_Point_tell_0 rfl (lv_at hl 0 rfl) ?_
  refine fw_getl hx hb hts in_2 hown hK hP ho (by decide) rfl 5 (by decide) (hts _ (tb_in tw_253)) tk_2_5 dd_Point_tell_1 ?_
  refine lv_ldc2 (v := 3600) hx hb hown (hts _ (tb_in tw_511)) dd_Point_tell_4 ?_
  refine lv_ldiv hx hb dd_Point_tell_7 (by decide) ?_
  refine lv_l2i hx hb dd_Point_tell_8 rfl ?_
  refine lv_topi (fun v1 e_v1 => ?_)
  have hw := hw v1 e_v1
  refine lv_istore hx hb dd_Point_tell_9 hl (Nat.le_of_ble_eq_true rfl) rfl (fun ls hl => ?_)
  have hl : lv_has ls 5 [(4, .int v1), (0, .ref (b + o)), (1, .int a1), (2, .int a2), (3, .int a3)] := hl
  refine lv_aload_n hx hb dd_Point_tell_11 rfl (lv_at hl 1 rfl) ?_
  refine fw_getr hx hb hts in_2 hown hK hP ho (by decide) rfl 1 (by decide) (hts _ (tb_in tw_245)) tk_2_1 dd_Point_tell_12 ?_
  refine lv_iload_n hx hb dd_Point_tell_15 rfl (lv_at hl 2 rfl) ?_
  refine lv_aload_n hx hb dd_Point_tell_16 rfl (lv_at hl 1 rfl) ?_
  refine fw_geti hx hb hts in_2 hown hK hP ho (by decide) rfl 6 (by decide) (hts _ (tb_in tw_255)) tk_2_6 dd_Point_tell_17 ?_
  refine lv_aload_n hx hb dd_Point_tell_20 rfl (lv_at hl 1 rfl) ?_
  refine fw_geti hx hb hts in_2 hown hK hP ho (by decide) rfl 7 (by decide) (hts _ (tb_in tw_257)) tk_2_7 dd_Point_tell_21 ?_
  refine lv_iload_n hx hb dd_Point_tell_24 rfl (lv_at hl 3 rfl) ?_
  refine lv_iload hx hb dd_Point_tell_25 (lv_at hl 0 rfl) ?_
  refine lv_iload_n hx hb dd_Point_tell_27 rfl (lv_at hl 4 rfl) ?_
  refine fw_callv (va_runV (As := [.int a1, .int (S.1 o 6), .int (S.1 o 7), .int a2, .int v1, .int a3]) (rest := []) ⟨hx, hb, hml, hown, hts⟩ (mt_Queue_put l D cA b S (o + 2) a1 (S.1 o 6) (S.1 o 7) a2 v1 a3 (lf_2_1 ho) _ hw) (cwV 6 hts (fw_gV tw_515 tw_512 tw_513 tw_514 tw_9) rfl rfl rfl (by decide +kernel) ⟨Nat.le_of_ble_eq_true rfl, Nat.le_of_ble_eq_true rfl⟩) (fw_preV hP hK (lf_2_1 ho) (by decide) rfl) rfl rfl hl.1 rfl (lv_room (Nat.le_of_ble_eq_true rfl)) dd_Point_tell_28 ⟨Nat.le_of_ble_eq_true rfl, Nat.le_of_ble_eq_true rfl⟩) hS (fun S2 H locs hw hP hS => ?_)
  try dsimp only at hw
  exact W.vret hx hb hr (fun t ht hW => ⟨⟨_, rfl, hw, fw_Bof ht hP⟩, hS.F ht⟩) hS.2.2 dd_Point_tell_31
