theorem dd_Out_time_0 : decode bb_Out_time 0 = .ok (.aload_n 0, 1) := by decide +kernel
theorem dd_Out_time_1 : decode bb_Out_time 1 = .ok (.getfield 22, 3) := by decide +kernel
theorem dd_Out_time_4 : decode bb_Out_time 4 = .ok (.ireturn, 1) := by decide +kernel
def ww_Out_time : List Cond := .code yy_Out_time bb_Out_time 1 (some .int) :: TB
def rm_Out_time : Room := { frames := 0, cells := 0, slots := 0, locals := 0 }
def wp_Out_time (S : fw_S) (o : Nat) (post : fw_S → Int32 → Prop) : Prop := post S (S.1 o 2)
set_option maxHeartbeats 4000000 in
set_option maxRecDepth 100000 in
theorem mt_Out_time (l : Launch) (D : va_G) (cA : Nat → ClassId) (b : Nat) (S : fw_S) (o : Nat) (ho : o < 245 ∧ layU o = (0, 0)) (post : fw_S → Int32 → Prop) (hw : wp_Out_time S o post) : Met l yy_Out_time ww_Out_time rm_Out_time (fw_Pc D CL cA (TYS cA) TK layU b 245 S [.ref (b + o)]) (va_Qi (fun r S' => post S' r) (fw_B D CL cA TK layU b 245) (fw_A b 245)) 0 0 (fw_A b 245) := by
  refine Met.ofW (cc := bb_Out_time) (maxL := 1) (ret := (some .int)) (by decide) rfl ?_
  intro p e s m args below meth c s₁ B hml hv
  obtain ⟨rfl, hP, hK⟩ := hv
  have hx := B.exec
  have hb := B.bytes
  have hr := B.returns
  have hts := atoms_spec (ws := ww_Out_time) B.pre
  have hown : s.vm.findClass "OutletOffice" = some m.cls := findClass_of_methodNamed B.named
  have hlocks := B.notSynchronized
  have hS : va_S (fw_A b 245) s.heap s.heap [] := va_S.rf
  have hl := lv_entry ([.ref (b + o)]) (n := 1) (Nat.le_of_ble_eq_true rfl)
  rw [lg_entry_eq]
  generalize (lg_sl ([.ref (b + o)]) ++ List.replicate (1 - (lg_sl ([.ref (b + o)])).length) Slot.unset).toArray = ls at hl ⊢
  have hl : lv_has ls 1 [(0, .ref (b + o))] := hl
  unfold wp_Out_time at hw
  refine lv_aload_n hx hb dd_Out_time_0 rfl (lv_at hl 0 rfl) ?_
  refine fw_geti hx hb hts in_0 hown hK hP ho (by decide) rfl 2 (by decide) (hts _ (tb_in tw_303)) tk_0_2 dd_Out_time_1 ?_
  exact W.iret (v := S.1 o 2) hx hb hr (fun t ht hW => ⟨⟨_, _, rfl, hw, fw_Bof ht hP⟩, hS.F ht⟩) hS.2.2 dd_Out_time_4
theorem dd_Out_bills_0 : decode bb_Out_bills 0 = .ok (.aload_n 0, 1) := by decide +kernel
theorem dd_Out_bills_1 : decode bb_Out_bills 1 = .ok (.getfield 18, 3) := by decide +kernel
theorem dd_Out_bills_4 : decode bb_Out_bills 4 = .ok (.getfield 209, 3) := by decide +kernel
theorem dd_Out_bills_7 : decode bb_Out_bills 7 = .ok (.ireturn, 1) := by decide +kernel
def ww_Out_bills : List Cond := .code yy_Out_bills bb_Out_bills 1 (some .int) :: TB
def rm_Out_bills : Room := { frames := 0, cells := 0, slots := 0, locals := 0 }
def wp_Out_bills (S : fw_S) (o : Nat) (post : fw_S → Int32 → Prop) : Prop := post S (S.1 (o + 2) 5)
set_option maxHeartbeats 4000000 in
set_option maxRecDepth 100000 in
theorem mt_Out_bills (l : Launch) (D : va_G) (cA : Nat → ClassId) (b : Nat) (S : fw_S) (o : Nat) (ho : o < 245 ∧ layU o = (0, 0)) (post : fw_S → Int32 → Prop) (hw : wp_Out_bills S o post) : Met l yy_Out_bills ww_Out_bills rm_Out_bills (fw_Pc D CL cA (TYS cA) TK layU b 245 S [.ref (b + o)]) (va_Qi (fun r S' => post S' r) (fw_B D CL cA TK layU b 245) (fw_A b 245)) 0 0 (fw_A b 245) := by
  refine Met.ofW (cc := bb_Out_bills) (maxL := 1) (ret := (some .int)) (by decide) rfl ?_
  intro p e s m args below meth c s₁ B hml hv
  obtain ⟨rfl, hP, hK⟩ := hv
  have hx := B.exec
  have hb := B.bytes
  have hr := B.returns
  have hts := atoms_spec (ws := ww_Out_bills) B.pre
  have hown : s.vm.findClass "OutletOffice" = some m.cls := findClass_of_methodNamed B.named
  have hlocks := B.notSynchronized
  have hS : va_S (fw_A b 245) s.heap s.heap [] := va_S.rf
  have hl := lv_entry ([.ref (b + o)]) (n := 1) (Nat.le_of_ble_eq_true rfl)
  rw [lg_entry_eq]
  generalize (lg_sl ([.ref (b + o)]) ++ List.replicate (1 - (lg_sl ([.ref (b + o)])).length) Slot.unset).toArray = ls at hl ⊢
  have hl : lv_has ls 1 [(0, .ref (b + o))] := hl
  unfold wp_Out_bills at hw
  refine lv_aload_n hx hb dd_Out_bills_0 rfl (lv_at hl 0 rfl) ?_
  refine fw_getr hx hb hts in_0 hown hK hP ho (by decide) rfl 1 (by decide) (hts _ (tb_in tw_302)) tk_0_1 dd_Out_bills_1 ?_
  refine fw_geti hx hb hts in_9 hown hK hP (lf_0_1 ho) (by decide) rfl 5 (by decide) (hts _ (tb_in tw_122)) tk_9_5 dd_Out_bills_4 ?_
  exact W.iret (v := S.1 (o + 2) 5) hx hb hr (fun t ht hW => ⟨⟨_, _, rfl, hw, fw_Bof ht hP⟩, hS.F ht⟩) hS.2.2 dd_Out_bills_7
theorem dd_Site_safeCurrent_18 : decode bb_Site_safeCurrent 18 = .ok (.ireturn, 1) := by decide +kernel
theorem dd_Site_safeCurrent_0 : decode bb_Site_safeCurrent 0 = .ok (.aload_n 0, 1) := by decide +kernel
theorem dd_Site_safeCurrent_1 : decode bb_Site_safeCurrent 1 = .ok (.getfield 17, 3) := by decide +kernel
theorem dd_Site_safeCurrent_4 : decode bb_Site_safeCurrent 4 = .ok (.iconst 3, 1) := by decide +kernel
theorem dd_Site_safeCurrent_5 : decode bb_Site_safeCurrent 5 = .ok (.idiv, 1) := by decide +kernel
theorem dd_Site_safeCurrent_6 : decode bb_Site_safeCurrent 6 = .ok (.istore_n 1, 1) := by decide +kernel
theorem dd_Site_safeCurrent_7 : decode bb_Site_safeCurrent 7 = .ok (.iload_n 1, 1) := by decide +kernel
theorem dd_Site_safeCurrent_8 : decode bb_Site_safeCurrent 8 = .ok (.bipush 60, 2) := by decide +kernel
theorem dd_Site_safeCurrent_10 : decode bb_Site_safeCurrent 10 = .ok (.if_icmp .ge 7, 3) := by decide +kernel
theorem dd_Site_safeCurrent_17 : decode bb_Site_safeCurrent 17 = .ok (.iload_n 1, 1) := by decide +kernel
theorem dd_Site_safeCurrent_13 : decode bb_Site_safeCurrent 13 = .ok (.iconst 0, 1) := by decide +kernel
theorem dd_Site_safeCurrent_14 : decode bb_Site_safeCurrent 14 = .ok (.goto 4, 3) := by decide +kernel
def ww_Site_safeCurrent : List Cond := .code yy_Site_safeCurrent bb_Site_safeCurrent 2 (some .int) :: TB
def rm_Site_safeCurrent : Room := { frames := 0, cells := 0, slots := 0, locals := 0 }
def wp_Site_safeCurrent_18 (o : Nat) (post : fw_S → Int32 → Prop) (S : fw_S) (x1 : Int32) (p0 : Int32) : Prop := post S p0
def wp_Site_safeCurrent (S : fw_S) (o : Nat) (post : fw_S → Int32 → Prop) : Prop := ∀ v1 : Int32, v1 = ((S.1 o 1) / 3) → (((60 ≤ v1) → wp_Site_safeCurrent_18 o post S v1 v1) ∧ (¬ (60 ≤ v1) → wp_Site_safeCurrent_18 o post S v1 0))
set_option maxHeartbeats 4000000 in
set_option maxRecDepth 100000 in
theorem mt_Site_safeCurrent (l : Launch) (D : va_G) (cA : Nat → ClassId) (b : Nat) (S : fw_S) (o : Nat) (ho : o < 245 ∧ layU o = (1, 0)) (post : fw_S → Int32 → Prop) (hw : wp_Site_safeCurrent S o post) : Met l yy_Site_safeCurrent ww_Site_safeCurrent rm_Site_safeCurrent (fw_Pc D CL cA (TYS cA) TK layU b 245 S [.ref (b + o)]) (va_Qi (fun r S' => post S' r) (fw_B D CL cA TK layU b 245) (fw_A b 245)) 0 0 (fw_A b 245) := by
  refine Met.ofW (cc := bb_Site_safeCurrent) (maxL := 2) (ret := (some .int)) (by decide) rfl ?_
  intro p e s m args below meth c s₁ B hml hv
  obtain ⟨rfl, hP, hK⟩ := hv
  have hx := B.exec
  have hb := B.bytes
  have hr := B.returns
  have hts := atoms_spec (ws := ww_Site_safeCurrent) B.pre
  have hown : s.vm.findClass "OutletOffice$Site" = some m.cls := findClass_of_methodNamed B.named
  have hlocks := B.notSynchronized
  have hS : va_S (fw_A b 245) s.heap s.heap [] := va_S.rf
  have hl := lv_entry ([.ref (b + o)]) (n := 2) (Nat.le_of_ble_eq_true rfl)
  rw [lg_entry_eq]
  generalize (lg_sl ([.ref (b + o)]) ++ List.replicate (2 - (lg_sl ([.ref (b + o)])).length) Slot.unset).toArray = ls at hl ⊢
  have hl : lv_has ls 2 [(0, .ref (b + o))] := hl
  have B18 : ∀ (S : fw_S) (x1 : Int32) (p0 : Int32) (ls : Array Slot), wp_Site_safeCurrent_18 o post S x1 p0 → fw_P D CL cA layU b 245 (fw_v TK layU b S) s.heap → va_S (fw_A b 245) s.heap s.heap [] → lv_has ls 2 [(0, .ref (b + o)), (1, .int x1)] → W p l e (headSpec ww_Site_safeCurrent rm_Site_safeCurrent).room s m ([.ref (b + o)] : List Value).toArray below meth c s.heap [] 0 0 (MQ below (va_Qi (fun r S' => post S' r) (fw_B D CL cA TK layU b 245) (fw_A b 245)) ([.ref (b + o)] : List Value).toArray s 0 0 (fw_A b 245)) (F0 m 18 ls [.int p0]) := by
      intro S x1 p0 ls hw hP hS hl
      unfold wp_Site_safeCurrent_18 at hw
      exact W.iret (v := p0) hx hb hr (fun t ht hW => ⟨⟨_, _, rfl, hw, fw_Bof ht hP⟩, hS.F ht⟩) hS.2.2 dd_Site_safeCurrent_18
  unfold wp_Site_safeCurrent at hw
  refine lv_aload_n hx hb dd_Site_safeCurrent_0 rfl (lv_at hl 0 rfl) ?_
  refine fw_geti hx hb hts in_1 hown hK hP ho (by decide) rfl 1 (by decide) (hts _ (tb_in tw_294)) tk_1_1 dd_Site_safeCurrent_1 ?_
  refine lv_iconst (v := 3) hx hb dd_Site_safeCurrent_4 kc_ic_3 ?_
  refine lv_idiv hx hb dd_Site_safeCurrent_5 (by decide) ?_
  refine lv_topi (fun v1 e_v1 => ?_)
  have hw := hw v1 e_v1
  refine lv_istore_n hx hb dd_Site_safeCurrent_6 rfl hl (Nat.le_of_ble_eq_true rfl) rfl (fun ls hl => ?_)
  have hl : lv_has ls 2 [(1, .int v1), (0, .ref (b + o))] := hl
  refine lv_iload_n hx hb dd_Site_safeCurrent_7 rfl (lv_at hl 0 rfl) ?_
  refine lv_bipush (v := 60) hx hb dd_Site_safeCurrent_8 kc_bp_60 ?_
  refine lv_icmp_ge (tgt := 17) hx hb dd_Site_safeCurrent_10 (by decide) (fun h2 => ?_) (fun h2 => ?_)
  · have hw := hw.1 h2
    refine lv_iload_n hx hb dd_Site_safeCurrent_17 rfl (lv_at hl 0 rfl) ?_
    exact B18 S v1 v1 ls hw hP hS (lv_sub hl [1, 0] rfl)
  · have hw := hw.2 h2
    refine lv_iconst (v := 0) hx hb dd_Site_safeCurrent_13 kc_ic_0 ?_
    refine lv_goto (tgt := 18) hx hb dd_Site_safeCurrent_14 (by decide) ?_
    exact B18 S v1 0 ls hw hP hS (lv_sub hl [1, 0] rfl)
theorem dd_Point_runs_18 : decode bb_Point_runs 18 = .ok (.iconst 0, 1) := by decide +kernel
theorem dd_Point_runs_19 : decode bb_Point_runs 19 = .ok (.ireturn, 1) := by decide +kernel
theorem dd_Point_runs_0 : decode bb_Point_runs 0 = .ok (.aload_n 0, 1) := by decide +kernel
theorem dd_Point_runs_1 : decode bb_Point_runs 1 = .ok (.getfield 43, 3) := by decide +kernel
theorem dd_Point_runs_4 : decode bb_Point_runs 4 = .ok (.ifCond .eq 14, 3) := by decide +kernel
theorem dd_Point_runs_7 : decode bb_Point_runs 7 = .ok (.aload_n 0, 1) := by decide +kernel
theorem dd_Point_runs_8 : decode bb_Point_runs 8 = .ok (.getfield 32, 3) := by decide +kernel
theorem dd_Point_runs_11 : decode bb_Point_runs 11 = .ok (.ifCond .eq 7, 3) := by decide +kernel
theorem dd_Point_runs_14 : decode bb_Point_runs 14 = .ok (.iconst 1, 1) := by decide +kernel
theorem dd_Point_runs_15 : decode bb_Point_runs 15 = .ok (.goto 4, 3) := by decide +kernel
def ww_Point_runs : List Cond := .code yy_Point_runs bb_Point_runs 1 (some .boolean) :: TB
def rm_Point_runs : Room := { frames := 0, cells := 0, slots := 0, locals := 0 }
def wp_Point_runs_19 (o : Nat) (post : fw_S → Int32 → Prop) (S : fw_S) (p0 : Int32) : Prop := fw_bz p0 ∧ (post S p0)
def wp_Point_runs_18 (o : Nat) (post : fw_S → Int32 → Prop) (S : fw_S) : Prop := wp_Point_runs_19 o post S 0
def wp_Point_runs (S : fw_S) (o : Nat) (post : fw_S → Int32 → Prop) : Prop := ((((S.1 o 6) = 0) → wp_Point_runs_18 o post S) ∧ (¬ ((S.1 o 6) = 0) → ((((S.1 o 3) = 0) → wp_Point_runs_18 o post S) ∧ (¬ ((S.1 o 3) = 0) → wp_Point_runs_19 o post S 1))))
set_option maxHeartbeats 4000000 in
set_option maxRecDepth 100000 in
theorem mt_Point_runs (l : Launch) (D : va_G) (cA : Nat → ClassId) (b : Nat) (S : fw_S) (o : Nat) (ho : o < 245 ∧ layU o = (2, 0)) (post : fw_S → Int32 → Prop) (hw : wp_Point_runs S o post) : Met l yy_Point_runs ww_Point_runs rm_Point_runs (fw_Pc D CL cA (TYS cA) TK layU b 245 S [.ref (b + o)]) (va_Qi (fun r S' => post S' r) (fw_B D CL cA TK layU b 245) (fw_A b 245)) 0 0 (fw_A b 245) := by
  refine Met.ofW (cc := bb_Point_runs) (maxL := 1) (ret := (some .boolean)) (by decide) rfl ?_
  intro p e s m args below meth c s₁ B hml hv
  obtain ⟨rfl, hP, hK⟩ := hv
  have hx := B.exec
  have hb := B.bytes
  have hr := B.returns
  have hts := atoms_spec (ws := ww_Point_runs) B.pre
  have hown : s.vm.findClass "OutletOffice$Point" = some m.cls := findClass_of_methodNamed B.named
  have hlocks := B.notSynchronized
  have hS : va_S (fw_A b 245) s.heap s.heap [] := va_S.rf
  have hl := lv_entry ([.ref (b + o)]) (n := 1) (Nat.le_of_ble_eq_true rfl)
  rw [lg_entry_eq]
  generalize (lg_sl ([.ref (b + o)]) ++ List.replicate (1 - (lg_sl ([.ref (b + o)])).length) Slot.unset).toArray = ls at hl ⊢
  have hl : lv_has ls 1 [(0, .ref (b + o))] := hl
  have B19 : ∀ (S : fw_S) (p0 : Int32) (ls : Array Slot), wp_Point_runs_19 o post S p0 → fw_P D CL cA layU b 245 (fw_v TK layU b S) s.heap → va_S (fw_A b 245) s.heap s.heap [] → lv_has ls 1 [(0, .ref (b + o))] → W p l e (headSpec ww_Point_runs rm_Point_runs).room s m ([.ref (b + o)] : List Value).toArray below meth c s.heap [] 0 0 (MQ below (va_Qi (fun r S' => post S' r) (fw_B D CL cA TK layU b 245) (fw_A b 245)) ([.ref (b + o)] : List Value).toArray s 0 0 (fw_A b 245)) (F0 m 19 ls [.int p0]) := by
      intro S p0 ls hw hP hS hl
      unfold wp_Point_runs_19 at hw
      obtain ⟨h1, hw⟩ := hw
      exact W.zret (v := p0) hx hb hr (fw_bz.n h1) (fun t ht hW => ⟨⟨_, _, rfl, hw, fw_Bof ht hP⟩, hS.F ht⟩) hS.2.2 dd_Point_runs_19
  have B18 : ∀ (S : fw_S) (ls : Array Slot), wp_Point_runs_18 o post S → fw_P D CL cA layU b 245 (fw_v TK layU b S) s.heap → va_S (fw_A b 245) s.heap s.heap [] → lv_has ls 1 [(0, .ref (b + o))] → W p l e (headSpec ww_Point_runs rm_Point_runs).room s m ([.ref (b + o)] : List Value).toArray below meth c s.heap [] 0 0 (MQ below (va_Qi (fun r S' => post S' r) (fw_B D CL cA TK layU b 245) (fw_A b 245)) ([.ref (b + o)] : List Value).toArray s 0 0 (fw_A b 245)) (F0 m 18 ls []) := by
      intro S ls hw hP hS hl
      unfold wp_Point_runs_18 at hw
      refine lv_iconst (v := 0) hx hb dd_Point_runs_18 kc_ic_0 ?_
      exact B19 S 0 ls hw hP hS (lv_sub hl [0] rfl)
  unfold wp_Point_runs at hw
  refine lv_aload_n hx hb dd_Point_runs_0 rfl (lv_at hl 0 rfl) ?_
  refine fw_geti hx hb hts in_2 hown hK hP ho (by decide) rfl 6 (by decide) (hts _ (tb_in tw_255)) tk_2_6 dd_Point_runs_1 ?_
  refine lv_if_eq (tgt := 18) hx hb dd_Point_runs_4 (by decide) (fun h1 => ?_) (fun h1 => ?_)
  · have hw := hw.1 h1
    exact B18 S ls hw hP hS (lv_sub hl [0] rfl)
  · have hw := hw.2 h1
    refine lv_aload_n hx hb dd_Point_runs_7 rfl (lv_at hl 0 rfl) ?_
    refine fw_geti hx hb hts in_2 hown hK hP ho (by decide) rfl 3 (by decide) (hts _ (tb_in tw_249)) tk_2_3 dd_Point_runs_8 ?_
    refine lv_if_eq (tgt := 18) hx hb dd_Point_runs_11 (by decide) (fun h2 => ?_) (fun h2 => ?_)
    · have hw := hw.1 h2
      exact B18 S ls hw hP hS (lv_sub hl [0] rfl)
    · have hw := hw.2 h2
      refine lv_iconst (v := 1) hx hb dd_Point_runs_14 kc_ic_1 ?_
      refine lv_goto (tgt := 19) hx hb dd_Point_runs_15 (by decide) ?_
      exact B19 S 1 ls hw hP hS (lv_sub hl [0] rfl)
theorem dd_Point_isActive_23 : decode bb_Point_isActive 23 = .ok (.iconst 0, 1) := by decide +kernel
theorem dd_Point_isActive_24 : decode bb_Point_isActive 24 = .ok (.ireturn, 1) := by decide +kernel
theorem dd_Point_isActive_0 : decode bb_Point_isActive 0 = .ok (.aload_n 0, 1) := by decide +kernel
theorem dd_Point_isActive_1 : decode bb_Point_isActive 1 = .ok (.invokevirtual 62, 3) := by decide +kernel
theorem dd_Point_isActive_4 : decode bb_Point_isActive 4 = .ok (.ifCond .eq 19, 3) := by decide +kernel
theorem dd_Point_isActive_7 : decode bb_Point_isActive 7 = .ok (.aload_n 0, 1) := by decide +kernel
theorem dd_Point_isActive_8 : decode bb_Point_isActive 8 = .ok (.getfield 12, 3) := by decide +kernel
theorem dd_Point_isActive_11 : decode bb_Point_isActive 11 = .ok (.getfield 66, 3) := by decide +kernel
theorem dd_Point_isActive_14 : decode bb_Point_isActive 14 = .ok (.bipush 60, 2) := by decide +kernel
theorem dd_Point_isActive_16 : decode bb_Point_isActive 16 = .ok (.if_icmp .lt 7, 3) := by decide +kernel
theorem dd_Point_isActive_19 : decode bb_Point_isActive 19 = .ok (.iconst 1, 1) := by decide +kernel
theorem dd_Point_isActive_20 : decode bb_Point_isActive 20 = .ok (.goto 4, 3) := by decide +kernel
def ww_Point_isActive : List Cond := .code yy_Point_isActive bb_Point_isActive 1 (some .boolean) :: TB
def rm_Point_isActive : Room := { frames := 1, cells := 0, slots := 0, locals := 20 }
def wp_Point_isActive_24 (o : Nat) (post : fw_S → Int32 → Prop) (S : fw_S) (p0 : Int32) : Prop := fw_bz p0 ∧ (post S p0)
def wp_Point_isActive_23 (o : Nat) (post : fw_S → Int32 → Prop) (S : fw_S) : Prop := wp_Point_isActive_24 o post S 0
def wp_Point_isActive (S : fw_S) (o : Nat) (post : fw_S → Int32 → Prop) : Prop := wp_Point_runs S o (fun S1 r2 => (((r2 = 0) → wp_Point_isActive_23 o post S1) ∧ (¬ (r2 = 0) → ((((S1.1 (o + 1) 2) < 60) → wp_Point_isActive_23 o post S1) ∧ (¬ ((S1.1 (o + 1) 2) < 60) → wp_Point_isActive_24 o post S1 1)))))
set_option maxHeartbeats 4000000 in
set_option maxRecDepth 100000 in
theorem mt_Point_isActive (l : Launch) (D : va_G) (cA : Nat → ClassId) (b : Nat) (S : fw_S) (o : Nat) (ho : o < 245 ∧ layU o = (2, 0)) (post : fw_S → Int32 → Prop) (hw : wp_Point_isActive S o post) : Met l yy_Point_isActive ww_Point_isActive rm_Point_isActive (fw_Pc D CL cA (TYS cA) TK layU b 245 S [.ref (b + o)]) (va_Qi (fun r S' => post S' r) (fw_B D CL cA TK layU b 245) (fw_A b 245)) 0 0 (fw_A b 245) := by
  refine Met.ofW (cc := bb_Point_isActive) (maxL := 1) (ret := (some .boolean)) (by decide) rfl ?_
  intro p e s m args below meth c s₁ B hml hv
  obtain ⟨rfl, hP, hK⟩ := hv
  have hx := B.exec
  have hb := B.bytes
  have hr := B.returns
  have hts := atoms_spec (ws := ww_Point_isActive) B.pre
  have hown : s.vm.findClass "OutletOffice$Point" = some m.cls := findClass_of_methodNamed B.named
  have hlocks := B.notSynchronized
  have hS : va_S (fw_A b 245) s.heap s.heap [] := va_S.rf
  have hl := lv_entry ([.ref (b + o)]) (n := 1) (Nat.le_of_ble_eq_true rfl)
  rw [lg_entry_eq]
  generalize (lg_sl ([.ref (b + o)]) ++ List.replicate (1 - (lg_sl ([.ref (b + o)])).length) Slot.unset).toArray = ls at hl ⊢
  have hl : lv_has ls 1 [(0, .ref (b + o))] := hl
  have B24 : ∀ (S : fw_S) (p0 : Int32) (H : Heap) (locs : List Loc) (ls : Array Slot), wp_Point_isActive_24 o post S p0 → fw_P D CL cA layU b 245 (fw_v TK layU b S) H → va_S (fw_A b 245) s.heap H locs → lv_has ls 1 [(0, .ref (b + o))] → W p l e (headSpec ww_Point_isActive rm_Point_isActive).room s m ([.ref (b + o)] : List Value).toArray below meth c H locs 0 0 (MQ below (va_Qi (fun r S' => post S' r) (fw_B D CL cA TK layU b 245) (fw_A b 245)) ([.ref (b + o)] : List Value).toArray s 0 0 (fw_A b 245)) (F0 m 24 ls [.int p0]) := by
      intro S p0 H locs ls hw hP hS hl
      unfold wp_Point_isActive_24 at hw
      obtain ⟨h1, hw⟩ := hw
      exact W.zret (v := p0) hx hb hr (fw_bz.n h1) (fun t ht hW => ⟨⟨_, _, rfl, hw, fw_Bof ht hP⟩, hS.F ht⟩) hS.2.2 dd_Point_isActive_24
  have B23 : ∀ (S : fw_S) (H : Heap) (locs : List Loc) (ls : Array Slot), wp_Point_isActive_23 o post S → fw_P D CL cA layU b 245 (fw_v TK layU b S) H → va_S (fw_A b 245) s.heap H locs → lv_has ls 1 [(0, .ref (b + o))] → W p l e (headSpec ww_Point_isActive rm_Point_isActive).room s m ([.ref (b + o)] : List Value).toArray below meth c H locs 0 0 (MQ below (va_Qi (fun r S' => post S' r) (fw_B D CL cA TK layU b 245) (fw_A b 245)) ([.ref (b + o)] : List Value).toArray s 0 0 (fw_A b 245)) (F0 m 23 ls []) := by
      intro S H locs ls hw hP hS hl
      unfold wp_Point_isActive_23 at hw
      refine lv_iconst (v := 0) hx hb dd_Point_isActive_23 kc_ic_0 ?_
      exact B24 S 0 _ _ ls hw hP hS (lv_sub hl [0] rfl)
  unfold wp_Point_isActive at hw
  refine lv_aload_n hx hb dd_Point_isActive_0 rfl (lv_at hl 0 rfl) ?_
  refine fw_calli (va_runV (As := []) (rest := []) ⟨hx, hb, hml, hown, hts⟩ (mt_Point_runs l D cA b S o ho _ hw) (cwV 0 hts (fw_gV tw_498 tw_656 tw_496 tw_497 tw_7) rfl rfl rfl (by decide +kernel) ⟨Nat.le_of_ble_eq_true rfl, Nat.le_of_ble_eq_true rfl⟩) (fw_preV hP hK ho (by decide) rfl) rfl rfl hl.1 rfl (lv_room (Nat.le_of_ble_eq_true rfl)) dd_Point_isActive_1 ⟨Nat.le_of_ble_eq_true rfl, Nat.le_of_ble_eq_true rfl⟩) hS (fun S1 r2 H locs hw hP hS => ?_)
  try dsimp only at hw
  refine lv_if_eq (tgt := 23) hx hb dd_Point_isActive_4 (by decide) (fun h3 => ?_) (fun h3 => ?_)
  · have hw := hw.1 h3
    exact B23 S1 _ _ ls hw hP hS (lv_sub hl [0] rfl)
  · have hw := hw.2 h3
    refine lv_aload_n hx hb dd_Point_isActive_7 rfl (lv_at hl 0 rfl) ?_
    refine fw_getr hx hb hts in_2 hown hK hP ho (by decide) rfl 0 (by decide) (hts _ (tb_in tw_242)) tk_2_0 dd_Point_isActive_8 ?_
    refine fw_geti hx hb hts in_3 hown hK hP (lf_2_0 ho) (by decide) rfl 2 (by decide) (hts _ (tb_in tw_164)) tk_3_2 dd_Point_isActive_11 ?_
    refine lv_bipush (v := 60) hx hb dd_Point_isActive_14 kc_bp_60 ?_
    refine lv_icmp_lt (tgt := 23) hx hb dd_Point_isActive_16 (by decide) (fun h4 => ?_) (fun h4 => ?_)
    · have hw := hw.1 h4
      exact B23 S1 _ _ ls hw hP hS (lv_sub hl [0] rfl)
    · have hw := hw.2 h4
      refine lv_iconst (v := 1) hx hb dd_Point_isActive_19 kc_ic_1 ?_
      refine lv_goto (tgt := 24) hx hb dd_Point_isActive_20 (by decide) ?_
      exact B24 S1 1 _ _ ls hw hP hS (lv_sub hl [0] rfl)
theorem dd_Site_choose_5 : decode bb_Site_choose 5 = .ok (.iload 4, 2) := by decide +kernel
theorem dd_Site_choose_7 : decode bb_Site_choose 7 = .ok (.iconst 3, 1) := by decide +kernel
theorem dd_Site_choose_8 : decode bb_Site_choose 8 = .ok (.if_icmp .ge 63, 3) := by decide +kernel
theorem dd_Site_choose_71 : decode bb_Site_choose 71 = .ok (.return_, 1) := by decide +kernel
theorem dd_Site_choose_11 : decode bb_Site_choose 11 = .ok (.aload_n 0, 1) := by decide +kernel
theorem dd_Site_choose_12 : decode bb_Site_choose 12 = .ok (.getfield 11, 3) := by decide +kernel
theorem dd_Site_choose_15 : decode bb_Site_choose 15 = .ok (.iload_n 2, 1) := by decide +kernel
theorem dd_Site_choose_16 : decode bb_Site_choose 16 = .ok (.iload 4, 2) := by decide +kernel
theorem dd_Site_choose_18 : decode bb_Site_choose 18 = .ok (.iadd, 1) := by decide +kernel
theorem dd_Site_choose_19 : decode bb_Site_choose 19 = .ok (.iconst 3, 1) := by decide +kernel
theorem dd_Site_choose_20 : decode bb_Site_choose 20 = .ok (.irem, 1) := by decide +kernel
theorem dd_Site_choose_21 : decode bb_Site_choose 21 = .ok (.aaload, 1) := by decide +kernel
theorem dd_Site_choose_22 : decode bb_Site_choose 22 = .ok (.astore 5, 2) := by decide +kernel
theorem dd_Site_choose_24 : decode bb_Site_choose 24 = .ok (.aload 5, 2) := by decide +kernel
theorem dd_Site_choose_26 : decode bb_Site_choose 26 = .ok (.iload_n 3, 1) := by decide +kernel
theorem dd_Site_choose_27 : decode bb_Site_choose 27 = .ok (.ifCond .le 23, 3) := by decide +kernel
theorem dd_Site_choose_30 : decode bb_Site_choose 30 = .ok (.aload 5, 2) := by decide +kernel
theorem dd_Site_choose_32 : decode bb_Site_choose 32 = .ok (.getfield 29, 3) := by decide +kernel
theorem dd_Site_choose_35 : decode bb_Site_choose 35 = .ok (.ifCond .eq 15, 3) := by decide +kernel
theorem dd_Site_choose_38 : decode bb_Site_choose 38 = .ok (.aload 5, 2) := by decide +kernel
theorem dd_Site_choose_40 : decode bb_Site_choose 40 = .ok (.invokevirtual 33, 3) := by decide +kernel
theorem dd_Site_choose_43 : decode bb_Site_choose 43 = .ok (.ifCond .eq 7, 3) := by decide +kernel
theorem dd_Site_choose_46 : decode bb_Site_choose 46 = .ok (.iconst 1, 1) := by decide +kernel
theorem dd_Site_choose_47 : decode bb_Site_choose 47 = .ok (.goto 4, 3) := by decide +kernel
theorem dd_Site_choose_50 : decode bb_Site_choose 50 = .ok (.iconst 0, 1) := by decide +kernel
theorem dd_Site_choose_51 : decode bb_Site_choose 51 = .ok (.putfield 60, 3) := by decide +kernel
theorem dd_Site_choose_54 : decode bb_Site_choose 54 = .ok (.aload 5, 2) := by decide +kernel
theorem dd_Site_choose_56 : decode bb_Site_choose 56 = .ok (.getfield 60, 3) := by decide +kernel
theorem dd_Site_choose_59 : decode bb_Site_choose 59 = .ok (.ifCond .eq 6, 3) := by decide +kernel
theorem dd_Site_choose_62 : decode bb_Site_choose 62 = .ok (.iinc 3 (-1), 3) := by decide +kernel
theorem dd_Site_choose_65 : decode bb_Site_choose 65 = .ok (.iinc 4 1, 3) := by decide +kernel
theorem dd_Site_choose_68 : decode bb_Site_choose 68 = .ok (.goto (-63), 3) := by decide +kernel
theorem dd_Site_choose_0 : decode bb_Site_choose 0 = .ok (.iload_n 1, 1) := by decide +kernel
theorem dd_Site_choose_1 : decode bb_Site_choose 1 = .ok (.istore_n 3, 1) := by decide +kernel
theorem dd_Site_choose_2 : decode bb_Site_choose 2 = .ok (.iconst 0, 1) := by decide +kernel
theorem dd_Site_choose_3 : decode bb_Site_choose 3 = .ok (.istore 4, 2) := by decide +kernel
def ww_Site_choose : List Cond := .code yy_Site_choose bb_Site_choose 6 none :: TB
def rm_Site_choose : Room := { frames := 2, cells := 0, slots := 0, locals := 40 }
def wp_Site_choose_65 (o : Nat) (a1 : Int32) (a2 : Int32) (post : fw_S → Prop) (k5 : fw_S → Int32 → Int32 → Prop) (S : fw_S) (x3 : Int32) (x4 : Int32) (u5 : Nat) : Prop := ∀ v1 : Int32, v1 = x4 + 1 → k5 S x3 v1
def wp_Site_choose_51 (o : Nat) (a1 : Int32) (a2 : Int32) (post : fw_S → Prop) (k5 : fw_S → Int32 → Int32 → Prop) (S : fw_S) (x3 : Int32) (x4 : Int32) (u5 : Nat) (p0 : Int32) (pr1 : Nat) : Prop := fw_bz p0 ∧ (∀ S2 : fw_S, S2 = fw_si S pr1 10 p0 → ((((S2.1 u5 10) = 0) → wp_Site_choose_65 o a1 a2 post k5 S2 x3 x4 u5) ∧ (¬ ((S2.1 u5 10) = 0) → ∀ v4 : Int32, v4 = x3 + (-1) → wp_Site_choose_65 o a1 a2 post k5 S2 v4 x4 u5)))
def wp_Site_choose_50 (o : Nat) (a1 : Int32) (a2 : Int32) (post : fw_S → Prop) (k5 : fw_S → Int32 → Int32 → Prop) (S : fw_S) (x3 : Int32) (x4 : Int32) (u5 : Nat) (pr0 : Nat) : Prop := wp_Site_choose_51 o a1 a2 post k5 S x3 x4 u5 0 pr0
def wp_Site_choose_5 (o : Nat) (a1 : Int32) (a2 : Int32) (post : fw_S → Prop) : Nat → fw_S → Int32 → Int32 → Prop
  | 0, _, _, _ => False
  | f + 1, S, x3, x4 => (((3 ≤ x4) → post S) ∧ (¬ (3 ≤ x4) → vp_in ((a2 + x4) - (a2 + x4) / 3 * 3) 3 ∧ ((((x3 ≤ 0) → wp_Site_choose_50 o a1 a2 post (fun S x3 x4 => wp_Site_choose_5 o a1 a2 post f S x3 x4) S x3 x4 ((o + 1) + (1 + 31 * (((a2 + x4) - (a2 + x4) / 3 * 3 : Int32).toNatClampNeg))) ((o + 1) + (1 + 31 * (((a2 + x4) - (a2 + x4) / 3 * 3 : Int32).toNatClampNeg)))) ∧ (¬ (x3 ≤ 0) → ((((S.1 ((o + 1) + (1 + 31 * (((a2 + x4) - (a2 + x4) / 3 * 3 : Int32).toNatClampNeg))) 4) = 0) → wp_Site_choose_50 o a1 a2 post (fun S x3 x4 => wp_Site_choose_5 o a1 a2 post f S x3 x4) S x3 x4 ((o + 1) + (1 + 31 * (((a2 + x4) - (a2 + x4) / 3 * 3 : Int32).toNatClampNeg))) ((o + 1) + (1 + 31 * (((a2 + x4) - (a2 + x4) / 3 * 3 : Int32).toNatClampNeg)))) ∧ (¬ ((S.1 ((o + 1) + (1 + 31 * (((a2 + x4) - (a2 + x4) / 3 * 3 : Int32).toNatClampNeg))) 4) = 0) → wp_Point_isActive S ((o + 1) + (1 + 31 * (((a2 + x4) - (a2 + x4) / 3 * 3 : Int32).toNatClampNeg))) (fun S5 r6 => (((r6 = 0) → wp_Site_choose_50 o a1 a2 post (fun S x3 x4 => wp_Site_choose_5 o a1 a2 post f S x3 x4) S5 x3 x4 ((o + 1) + (1 + 31 * (((a2 + x4) - (a2 + x4) / 3 * 3 : Int32).toNatClampNeg))) ((o + 1) + (1 + 31 * (((a2 + x4) - (a2 + x4) / 3 * 3 : Int32).toNatClampNeg)))) ∧ (¬ (r6 = 0) → wp_Site_choose_51 o a1 a2 post (fun S x3 x4 => wp_Site_choose_5 o a1 a2 post f S x3 x4) S5 x3 x4 ((o + 1) + (1 + 31 * (((a2 + x4) - (a2 + x4) / 3 * 3 : Int32).toNatClampNeg))) 1 ((o + 1) + (1 + 31 * (((a2 + x4) - (a2 + x4) / 3 * 3 : Int32).toNatClampNeg)))))))))))))
def wp_Site_choose (S : fw_S) (o : Nat) (a1 : Int32) (a2 : Int32) (post : fw_S → Prop) : Prop := ∃ f0, wp_Site_choose_5 o a1 a2 post f0 S a1 0
set_option maxHeartbeats 4000000 in
set_option maxRecDepth 100000 in
theorem mt_Site_choose (l : Launch) (D : va_G) (cA : Nat → ClassId) (b : Nat) (S : fw_S) (o : Nat) (a1 : Int32) (a2 : Int32) (ho : o < 245 ∧ layU o = (1, 0)) (post : fw_S → Prop) (hw : wp_Site_choose S o a1 a2 post) : Met l yy_Site_choose ww_Site_choose rm_Site_choose (fw_Pc D CL cA (TYS cA) TK layU b 245 S [.ref (b + o), .int a1, .int a2]) (va_Qv post (fw_B D CL cA TK layU b 245) (fw_A b 245)) 0 0 (fw_A b 245) := by
  refine Met.ofW (cc := bb_Site_choose) (maxL := 6) (ret := none) (by decide) rfl ?_
  intro p e s m args below meth c s₁ B hml hv
  obtain ⟨rfl, hP, hK⟩ := hv
  have hx := B.exec
  have hb := B.bytes
  have hr := B.returns
  have hts := atoms_spec (ws := ww_Site_choose) B.pre
  have hown : s.vm.findClass "OutletOffice$Site" = some m.cls := findClass_of_methodNamed B.named
  have hlocks := B.notSynchronized
  have hS : va_S (fw_A b 245) s.heap s.heap [] := va_S.rf
  have hl := lv_entry ([.ref (b + o), .int a1, .int a2]) (n := 6) (Nat.le_of_ble_eq_true rfl)
  rw [lg_entry_eq]
  generalize (lg_sl ([.ref (b + o), .int a1, .int a2]) ++ List.replicate (6 - (lg_sl ([.ref (b + o), .int a1, .int a2])).length) Slot.unset).toArray = ls at hl ⊢
  have hl : lv_has ls 6 [(0, .ref (b + o)), (1, .int a1), (2, .int a2)] := hl
  have B65 : ∀ (k5 : fw_S → Int32 → Int32 → Prop), (∀ (S : fw_S) (x3 : Int32) (x4 : Int32) (H : Heap) (locs : List Loc) (ls : Array Slot), k5 S x3 x4 → fw_P D CL cA layU b 245 (fw_v TK layU b S) H → va_S (fw_A b 245) s.heap H locs → lv_has ls 6 [(0, .ref (b + o)), (1, .int a1), (2, .int a2), (3, .int x3), (4, .int x4)] → W p l e (headSpec ww_Site_choose rm_Site_choose).room s m ([.ref (b + o), .int a1, .int a2] : List Value).toArray below meth c H locs 0 0 (MQ below (va_Qv post (fw_B D CL cA TK layU b 245) (fw_A b 245)) ([.ref (b + o), .int a1, .int a2] : List Value).toArray s 0 0 (fw_A b 245)) (F0 m 5 ls [])) → ∀ (S : fw_S) (x3 : Int32) (x4 : Int32) (u5 : Nat) (hu5 : u5 < 245 ∧ layU u5 = (2, 0)) (H : Heap) (locs : List Loc) (ls : Array Slot), wp_Site_choose_65 o a1 a2 post k5 S x3 x4 u5 → fw_P D CL cA layU b 245 (fw_v TK layU b S) H → va_S (fw_A b 245) s.heap H locs → lv_has ls 6 [(0, .ref (b + o)), (1, .int a1), (2, .int a2), (3, .int x3), (4, .int x4), (5, .ref (b + u5))] → W p l e (headSpec ww_Site_choose rm_Site_choose).room s m ([.ref (b + o), .int a1, .int a2] : List Value).toArray below meth c H locs 0 0 (MQ below (va_Qv post (fw_B D CL cA TK layU b 245) (fw_A b 245)) ([.ref (b + o), .int a1, .int a2] : List Value).toArray s 0 0 (fw_A b 245)) (F0 m 65 ls []) := by
      intro k5 K5 S x3 x4 u5 hu5 H locs ls hw hP hS hl
      unfold wp_Site_choose_65 at hw
      obtain ⟨v1, e_v1⟩ : ∃ z : Int32, z = x4 + 1 := ⟨_, rfl⟩
      have hw := hw v1 e_v1
      refine lv_iinc hx hb dd_Site_choose_65 hl (k := 4) rfl (show x4 + Int32.ofInt 1 = v1 by rw [kc_ii_1, e_v1]) (Nat.le_of_ble_eq_true rfl) rfl (fun ls hl => ?_)
      have hl : lv_has ls 6 [(4, .int v1), (0, .ref (b + o)), (1, .int a1), (2, .int a2), (3, .int x3), (5, .ref (b + u5))] := hl
      refine lv_goto (tgt := 5) hx hb dd_Site_choose_68 (by decide) ?_
      exact K5 S x3 v1 _ _ ls hw hP hS (lv_sub hl [1, 2, 3, 4, 0] rfl)
  have B51 : ∀ (k5 : fw_S → Int32 → Int32 → Prop), (∀ (S : fw_S) (x3 : Int32) (x4 : Int32) (H : Heap) (locs : List Loc) (ls : Array Slot), k5 S x3 x4 → fw_P D CL cA layU b 245 (fw_v TK layU b S) H → va_S (fw_A b 245) s.heap H locs → lv_has ls 6 [(0, .ref (b + o)), (1, .int a1), (2, .int a2), (3, .int x3), (4, .int x4)] → W p l e (headSpec ww_Site_choose rm_Site_choose).room s m ([.ref (b + o), .int a1, .int a2] : List Value).toArray below meth c H locs 0 0 (MQ below (va_Qv post (fw_B D CL cA TK layU b 245) (fw_A b 245)) ([.ref (b + o), .int a1, .int a2] : List Value).toArray s 0 0 (fw_A b 245)) (F0 m 5 ls [])) → ∀ (S : fw_S) (x3 : Int32) (x4 : Int32) (u5 : Nat) (p0 : Int32) (pr1 : Nat) (hu5 : u5 < 245 ∧ layU u5 = (2, 0)) (hpr1 : pr1 < 245 ∧ layU pr1 = (2, 0)) (H : Heap) (locs : List Loc) (ls : Array Slot), wp_Site_choose_51 o a1 a2 post k5 S x3 x4 u5 p0 pr1 → fw_P D CL cA layU b 245 (fw_v TK layU b S) H → va_S (fw_A b 245) s.heap H locs → lv_has ls 6 [(0, .ref (b + o)), (1, .int a1), (2, .int a2), (3, .int x3), (4, .int x4), (5, .ref (b + u5))] → W p l e (headSpec ww_Site_choose rm_Site_choose).room s m ([.ref (b + o), .int a1, .int a2] : List Value).toArray below meth c H locs 0 0 (MQ below (va_Qv post (fw_B D CL cA TK layU b 245) (fw_A b 245)) ([.ref (b + o), .int a1, .int a2] : List Value).toArray s 0 0 (fw_A b 245)) (F0 m 51 ls [.int p0, .ref (b + pr1)]) := by
      intro k5 K5 S x3 x4 u5 p0 pr1 hu5 hpr1 H locs ls hw hP hS hl
      unfold wp_Site_choose_51 at hw
      obtain ⟨h1, hw⟩ := hw
      refine fw_puti hx hb hts in_2 F_ty_2 F_tyok_2 F_nm_2 hown hK hP hS (fw_A.in hpr1.1) hpr1 (by decide) rfl 10 (by decide) (hts _ (tb_in tw_263)) rfl tk_2_10 (ty := .boolean) (by decide +kernel) (fw_bz.n h1) (fw_bz.f h1) dd_Site_choose_51 (fun H locs hP hS => ?_)
      obtain ⟨S2, e_S2⟩ : ∃ z, z = fw_si S pr1 10 p0 := ⟨_, rfl⟩
      rw [← e_S2] at hP
      have hw := hw S2 e_S2
      refine lv_aload hx hb dd_Site_choose_54 (lv_at hl 5 rfl) ?_
      refine fw_geti hx hb hts in_2 hown hK hP hu5 (by decide) rfl 10 (by decide) (hts _ (tb_in tw_263)) tk_2_10 dd_Site_choose_56 ?_
      refine lv_if_eq (tgt := 65) hx hb dd_Site_choose_59 (by decide) (fun h3 => ?_) (fun h3 => ?_)
      · have hw := hw.1 h3
        exact B65 _ K5 S2 x3 x4 u5 hu5 _ _ ls hw hP hS (lv_sub hl [0, 1, 2, 3, 4, 5] rfl)
      · have hw := hw.2 h3
        obtain ⟨v4, e_v4⟩ : ∃ z : Int32, z = x3 + (-1) := ⟨_, rfl⟩
        have hw := hw v4 e_v4
        refine lv_iinc hx hb dd_Site_choose_62 hl (k := 3) rfl (show x3 + Int32.ofInt (-1) = v4 by rw [kc_ii_m1, e_v4]) (Nat.le_of_ble_eq_true rfl) rfl (fun ls hl => ?_)
        have hl : lv_has ls 6 [(3, .int v4), (0, .ref (b + o)), (1, .int a1), (2, .int a2), (4, .int x4), (5, .ref (b + u5))] := hl
        exact B65 _ K5 S2 v4 x4 u5 hu5 _ _ ls hw hP hS (lv_sub hl [1, 2, 3, 0, 4, 5] rfl)
  have B50 : ∀ (k5 : fw_S → Int32 → Int32 → Prop), (∀ (S : fw_S) (x3 : Int32) (x4 : Int32) (H : Heap) (locs : List Loc) (ls : Array Slot), k5 S x3 x4 → fw_P D CL cA layU b 245 (fw_v TK layU b S) H → va_S (fw_A b 245) s.heap H locs → lv_has ls 6 [(0, .ref (b + o)), (1, .int a1), (2, .int a2), (3, .int x3), (4, .int x4)] → W p l e (headSpec ww_Site_choose rm_Site_choose).room s m ([.ref (b + o), .int a1, .int a2] : List Value).toArray below meth c H locs 0 0 (MQ below (va_Qv post (fw_B D CL cA TK layU b 245) (fw_A b 245)) ([.ref (b + o), .int a1, .int a2] : List Value).toArray s 0 0 (fw_A b 245)) (F0 m 5 ls [])) → ∀ (S : fw_S) (x3 : Int32) (x4 : Int32) (u5 : Nat) (pr0 : Nat) (hu5 : u5 < 245 ∧ layU u5 = (2, 0)) (hpr0 : pr0 < 245 ∧ layU pr0 = (2, 0)) (H : Heap) (locs : List Loc) (ls : Array Slot), wp_Site_choose_50 o a1 a2 post k5 S x3 x4 u5 pr0 → fw_P D CL cA layU b 245 (fw_v TK layU b S) H → va_S (fw_A b 245) s.heap H locs → lv_has ls 6 [(0, .ref (b + o)), (1, .int a1), (2, .int a2), (3, .int x3), (4, .int x4), (5, .ref (b + u5))] → W p l e (headSpec ww_Site_choose rm_Site_choose).room s m ([.ref (b + o), .int a1, .int a2] : List Value).toArray below meth c H locs 0 0 (MQ below (va_Qv post (fw_B D CL cA TK layU b 245) (fw_A b 245)) ([.ref (b + o), .int a1, .int a2] : List Value).toArray s 0 0 (fw_A b 245)) (F0 m 50 ls [.ref (b + pr0)]) := by
      intro k5 K5 S x3 x4 u5 pr0 hu5 hpr0 H locs ls hw hP hS hl
      unfold wp_Site_choose_50 at hw
      refine lv_iconst (v := 0) hx hb dd_Site_choose_50 kc_ic_0 ?_
      exact B51 _ K5 S x3 x4 u5 0 pr0 hu5 hpr0 _ _ ls hw hP hS (lv_sub hl [0, 1, 2, 3, 4, 5] rfl)
  have B5 : ∀ f : Nat, ∀ (S : fw_S) (x3 : Int32) (x4 : Int32) (H : Heap) (locs : List Loc) (ls : Array Slot), wp_Site_choose_5 o a1 a2 post f S x3 x4 → fw_P D CL cA layU b 245 (fw_v TK layU b S) H → va_S (fw_A b 245) s.heap H locs → lv_has ls 6 [(0, .ref (b + o)), (1, .int a1), (2, .int a2), (3, .int x3), (4, .int x4)] → W p l e (headSpec ww_Site_choose rm_Site_choose).room s m ([.ref (b + o), .int a1, .int a2] : List Value).toArray below meth c H locs 0 0 (MQ below (va_Qv post (fw_B D CL cA TK layU b 245) (fw_A b 245)) ([.ref (b + o), .int a1, .int a2] : List Value).toArray s 0 0 (fw_A b 245)) (F0 m 5 ls []) := by
    intro f
    induction f with
    | zero => intro S x3 x4 H locs ls hw; exact False.elim hw
    | succ f ih =>
        intro S x3 x4 H locs ls hw hP hS hl
        unfold wp_Site_choose_5 at hw
        refine lv_iload hx hb dd_Site_choose_5 (lv_at hl 4 rfl) ?_
        refine lv_iconst (v := 3) hx hb dd_Site_choose_7 kc_ic_3 ?_
        refine lv_icmp_ge (tgt := 71) hx hb dd_Site_choose_8 (by decide) (fun h1 => ?_) (fun h1 => ?_)
        · have hw := hw.1 h1
          exact W.vret hx hb hr (fun t ht hW => ⟨⟨_, rfl, hw, fw_Bof ht hP⟩, hS.F ht⟩) hS.2.2 dd_Site_choose_71
        · have hw := hw.2 h1
          refine lv_aload_n hx hb dd_Site_choose_11 rfl (lv_at hl 0 rfl) ?_
          refine fw_getr hx hb hts in_1 hown hK hP ho (by decide) rfl 0 (by decide) (hts _ (tb_in tw_292)) tk_1_0 dd_Site_choose_12 ?_
          refine lv_iload_n hx hb dd_Site_choose_15 rfl (lv_at hl 2 rfl) ?_
          refine lv_iload hx hb dd_Site_choose_16 (lv_at hl 4 rfl) ?_
          refine lv_iadd hx hb dd_Site_choose_18 ?_
          refine lv_iconst (v := 3) hx hb dd_Site_choose_19 kc_ic_3 ?_
          refine lv_irem hx hb dd_Site_choose_20 (by decide) ?_
          obtain ⟨h2, hw⟩ := hw
          refine fw_aald hx hb hK hP (lf_1_0 ho) (by decide) 4 rfl (tka_104 _) h2 dd_Site_choose_21 ?_
          refine lv_astore hx hb dd_Site_choose_22 hl (Nat.le_of_ble_eq_true rfl) rfl (fun ls hl => ?_)
          have hl : lv_has ls 6 [(5, .ref (b + ((o + 1) + (1 + 31 * (((a2 + x4) - (a2 + x4) / 3 * 3 : Int32).toNatClampNeg))))), (0, .ref (b + o)), (1, .int a1), (2, .int a2), (3, .int x3), (4, .int x4)] := hl
          refine lv_aload hx hb dd_Site_choose_24 (lv_at hl 0 rfl) ?_
          refine lv_iload_n hx hb dd_Site_choose_26 rfl (lv_at hl 4 rfl) ?_
          refine lv_if_le (tgt := 50) hx hb dd_Site_choose_27 (by decide) (fun h3 => ?_) (fun h3 => ?_)
          · have hw := hw.1 h3
            exact B50 _ ih S x3 x4 ((o + 1) + (1 + 31 * (((a2 + x4) - (a2 + x4) / 3 * 3 : Int32).toNatClampNeg))) ((o + 1) + (1 + 31 * (((a2 + x4) - (a2 + x4) / 3 * 3 : Int32).toNatClampNeg))) (le_104 (lf_1_0 ho) (fw_lt h2)) (le_104 (lf_1_0 ho) (fw_lt h2)) _ _ ls hw hP hS (lv_sub hl [1, 2, 3, 4, 5, 0] rfl)
          · have hw := hw.2 h3
            refine lv_aload hx hb dd_Site_choose_30 (lv_at hl 0 rfl) ?_
            refine fw_geti hx hb hts in_2 hown hK hP (le_104 (lf_1_0 ho) (fw_lt h2)) (by decide) rfl 4 (by decide) (hts _ (tb_in tw_251)) tk_2_4 dd_Site_choose_32 ?_
            refine lv_if_eq (tgt := 50) hx hb dd_Site_choose_35 (by decide) (fun h4 => ?_) (fun h4 => ?_)
            · have hw := hw.1 h4
              exact B50 _ ih S x3 x4 ((o + 1) + (1 + 31 * (((a2 + x4) - (a2 + x4) / 3 * 3 : Int32).toNatClampNeg))) ((o + 1) + (1 + 31 * (((a2 + x4) - (a2 + x4) / 3 * 3 : Int32).toNatClampNeg))) (le_104 (lf_1_0 ho) (fw_lt h2)) (le_104 (lf_1_0 ho) (fw_lt h2)) _ _ ls hw hP hS (lv_sub hl [1, 2, 3, 4, 5, 0] rfl)
            · have hw := hw.2 h4
              refine lv_aload hx hb dd_Site_choose_38 (lv_at hl 0 rfl) ?_
              refine fw_calli (va_runV (As := []) (rest := [.ref (b + ((o + 1) + (1 + 31 * (((a2 + x4) - (a2 + x4) / 3 * 3 : Int32).toNatClampNeg))))]) ⟨hx, hb, hml, hown, hts⟩ (mt_Point_isActive l D cA b S ((o + 1) + (1 + 31 * (((a2 + x4) - (a2 + x4) / 3 * 3 : Int32).toNatClampNeg))) (le_104 (lf_1_0 ho) (fw_lt h2)) _ hw) (cwV 0 hts (fw_gV tw_655 tw_652 tw_653 tw_654 tw_7) rfl rfl rfl (by decide +kernel) ⟨Nat.le_of_ble_eq_true rfl, Nat.le_of_ble_eq_true rfl⟩) (fw_preV hP hK (le_104 (lf_1_0 ho) (fw_lt h2)) (by decide) rfl) rfl rfl hl.1 rfl (lv_room (Nat.le_of_ble_eq_true rfl)) dd_Site_choose_40 ⟨Nat.le_of_ble_eq_true rfl, Nat.le_of_ble_eq_true rfl⟩) hS (fun S5 r6 H locs hw hP hS => ?_)
              try dsimp only at hw
              refine lv_if_eq (tgt := 50) hx hb dd_Site_choose_43 (by decide) (fun h7 => ?_) (fun h7 => ?_)
              · have hw := hw.1 h7
                exact B50 _ ih S5 x3 x4 ((o + 1) + (1 + 31 * (((a2 + x4) - (a2 + x4) / 3 * 3 : Int32).toNatClampNeg))) ((o + 1) + (1 + 31 * (((a2 + x4) - (a2 + x4) / 3 * 3 : Int32).toNatClampNeg))) (le_104 (lf_1_0 ho) (fw_lt h2)) (le_104 (lf_1_0 ho) (fw_lt h2)) _ _ ls hw hP hS (lv_sub hl [1, 2, 3, 4, 5, 0] rfl)
              · have hw := hw.2 h7
                refine lv_iconst (v := 1) hx hb dd_Site_choose_46 kc_ic_1 ?_
                refine lv_goto (tgt := 51) hx hb dd_Site_choose_47 (by decide) ?_
                exact B51 _ ih S5 x3 x4 ((o + 1) + (1 + 31 * (((a2 + x4) - (a2 + x4) / 3 * 3 : Int32).toNatClampNeg))) 1 ((o + 1) + (1 + 31 * (((a2 + x4) - (a2 + x4) / 3 * 3 : Int32).toNatClampNeg))) (le_104 (lf_1_0 ho) (fw_lt h2)) (le_104 (lf_1_0 ho) (fw_lt h2)) _ _ ls hw hP hS (lv_sub hl [1, 2, 3, 4, 5, 0] rfl)
  unfold wp_Site_choose at hw
  refine lv_iload_n hx hb dd_Site_choose_0 rfl (lv_at hl 1 rfl) ?_
  refine lv_istore_n hx hb dd_Site_choose_1 rfl hl (Nat.le_of_ble_eq_true rfl) rfl (fun ls hl => ?_)
  have hl : lv_has ls 6 [(3, .int a1), (0, .ref (b + o)), (1, .int a1), (2, .int a2)] := hl
  refine lv_iconst (v := 0) hx hb dd_Site_choose_2 kc_ic_0 ?_
  refine lv_istore hx hb dd_Site_choose_3 hl (Nat.le_of_ble_eq_true rfl) rfl (fun ls hl => ?_)
  have hl : lv_has ls 6 [(4, .int 0), (3, .int a1), (0, .ref (b + o)), (1, .int a1), (2, .int a2)] := hl
  obtain ⟨f0, hw⟩ := hw
  exact B5 f0 S a1 0 _ _ ls hw hP hS (lv_sub hl [2, 3, 4, 1, 0] rfl)
theorem dd_Point_takesAt_0 : decode bb_Point_takesAt 0 = .ok (.aload_n 0, 1) := by decide +kernel
theorem dd_Point_takesAt_1 : decode bb_Point_takesAt 1 = .ok (.getfield 12, 3) := by decide +kernel
theorem dd_Point_takesAt_4 : decode bb_Point_takesAt 4 = .ok (.getfield 66, 3) := by decide +kernel
theorem dd_Point_takesAt_7 : decode bb_Point_takesAt 7 = .ok (.bipush 60, 2) := by decide +kernel
theorem dd_Point_takesAt_9 : decode bb_Point_takesAt 9 = .ok (.iload_n 1, 1) := by decide +kernel
theorem dd_Point_takesAt_10 : decode bb_Point_takesAt 10 = .ok (.aload_n 0, 1) := by decide +kernel
theorem dd_Point_takesAt_11 : decode bb_Point_takesAt 11 = .ok (.getfield 12, 3) := by decide +kernel
theorem dd_Point_takesAt_14 : decode bb_Point_takesAt 14 = .ok (.getfield 69, 3) := by decide +kernel
theorem dd_Point_takesAt_17 : decode bb_Point_takesAt 17 = .ok (.imul, 1) := by decide +kernel
theorem dd_Point_takesAt_18 : decode bb_Point_takesAt 18 = .ok (.invokestatic 72, 3) := by decide +kernel
theorem dd_Point_takesAt_21 : decode bb_Point_takesAt 21 = .ok (.invokestatic 78, 3) := by decide +kernel
theorem dd_Point_takesAt_24 : decode bb_Point_takesAt 24 = .ok (.ireturn, 1) := by decide +kernel
def ww_Point_takesAt : List Cond := .code yy_Point_takesAt bb_Point_takesAt 2 (some .int) :: TB
def rm_Point_takesAt : Room := { frames := 1, cells := 0, slots := 0, locals := 21 }
def wp_Point_takesAt (S : fw_S) (o : Nat) (a1 : Int32) (post : fw_S → Int32 → Prop) : Prop := post S (if (if 60 < (a1 * (S.1 (o + 1) 3)) then a1 * (S.1 (o + 1) 3) else 60) < (S.1 (o + 1) 2) then if 60 < (a1 * (S.1 (o + 1) 3)) then a1 * (S.1 (o + 1) 3) else 60 else S.1 (o + 1) 2)
set_option maxHeartbeats 4000000 in
set_option maxRecDepth 100000 in
theorem mt_Point_takesAt (l : Launch) (D : va_G) (cA : Nat → ClassId) (b : Nat) (S : fw_S) (o : Nat) (a1 : Int32) (ho : o < 245 ∧ layU o = (2, 0)) (post : fw_S → Int32 → Prop) (hw : wp_Point_takesAt S o a1 post) : Met l yy_Point_takesAt ww_Point_takesAt rm_Point_takesAt (fw_Pc D CL cA (TYS cA) TK layU b 245 S [.ref (b + o), .int a1]) (va_Qi (fun r S' => post S' r) (fw_B D CL cA TK layU b 245) (fw_A b 245)) 0 0 (fw_A b 245) := by
  refine Met.ofW (cc := bb_Point_takesAt) (maxL := 2) (ret := (some .int)) (by decide) rfl ?_
  intro p e s m args below meth c s₁ B hml hv
  obtain ⟨rfl, hP, hK⟩ := hv
  have hx := B.exec
  have hb := B.bytes
  have hr := B.returns
  have hts := atoms_spec (ws := ww_Point_takesAt) B.pre
  have hown : s.vm.findClass "OutletOffice$Point" = some m.cls := findClass_of_methodNamed B.named
  have hlocks := B.notSynchronized
  have hS : va_S (fw_A b 245) s.heap s.heap [] := va_S.rf
  have hl := lv_entry ([.ref (b + o), .int a1]) (n := 2) (Nat.le_of_ble_eq_true rfl)
  rw [lg_entry_eq]
  generalize (lg_sl ([.ref (b + o), .int a1]) ++ List.replicate (2 - (lg_sl ([.ref (b + o), .int a1])).length) Slot.unset).toArray = ls at hl ⊢
  have hl : lv_has ls 2 [(0, .ref (b + o)), (1, .int a1)] := hl
  unfold wp_Point_takesAt at hw
  refine lv_aload_n hx hb dd_Point_takesAt_0 rfl (lv_at hl 0 rfl) ?_
  refine fw_getr hx hb hts in_2 hown hK hP ho (by decide) rfl 0 (by decide) (hts _ (tb_in tw_242)) tk_2_0 dd_Point_takesAt_1 ?_
  refine fw_geti hx hb hts in_3 hown hK hP (lf_2_0 ho) (by decide) rfl 2 (by decide) (hts _ (tb_in tw_164)) tk_3_2 dd_Point_takesAt_4 ?_
  refine lv_bipush (v := 60) hx hb dd_Point_takesAt_7 kc_bp_60 ?_
  refine lv_iload_n hx hb dd_Point_takesAt_9 rfl (lv_at hl 1 rfl) ?_
  refine lv_aload_n hx hb dd_Point_takesAt_10 rfl (lv_at hl 0 rfl) ?_
  refine fw_getr hx hb hts in_2 hown hK hP ho (by decide) rfl 0 (by decide) (hts _ (tb_in tw_242)) tk_2_0 dd_Point_takesAt_11 ?_
  refine fw_geti hx hb hts in_3 hown hK hP (lf_2_0 ho) (by decide) rfl 3 (by decide) (hts _ (tb_in tw_167)) tk_3_3 dd_Point_takesAt_14 ?_
  refine lv_imul hx hb dd_Point_takesAt_17 ?_
  refine va_mmax hx hb (hml.trans hl.1.symm) hown (hts _ (tb_in tw_676)) (hts _ (tb_in tw_677)) (hts _ (tb_in tw_18)) (hts _ (tb_in tw_678)) (Nat.le_of_ble_eq_true rfl) (Nat.le_of_ble_eq_true rfl) (Nat.le_of_ble_eq_true rfl) (Nat.le_of_ble_eq_true rfl) dd_Point_takesAt_18 ?_
  refine va_mmin hx hb (hml.trans hl.1.symm) hown (hts _ (tb_in tw_679)) (hts _ (tb_in tw_658)) (hts _ (tb_in tw_18)) (hts _ (tb_in tw_659)) (Nat.le_of_ble_eq_true rfl) (Nat.le_of_ble_eq_true rfl) (Nat.le_of_ble_eq_true rfl) (Nat.le_of_ble_eq_true rfl) dd_Point_takesAt_21 ?_
  exact W.iret (v := if (if 60 < (a1 * (S.1 (o + 1) 3)) then a1 * (S.1 (o + 1) 3) else 60) < (S.1 (o + 1) 2) then if 60 < (a1 * (S.1 (o + 1) 3)) then a1 * (S.1 (o + 1) 3) else 60 else S.1 (o + 1) 2) hx hb hr (fun t ht hW => ⟨⟨_, _, rfl, hw, fw_Bof ht hP⟩, hS.F ht⟩) hS.2.2 dd_Point_takesAt_24
theorem dd_Site_takenAt_14 : decode bb_Site_takenAt 14 = .ok (.iload 5, 2) := by decide +kernel
theorem dd_Site_takenAt_16 : decode bb_Site_takenAt 16 = .ok (.iload 4, 2) := by decide +kernel
theorem dd_Site_takenAt_18 : decode bb_Site_takenAt 18 = .ok (.if_icmp .ge 32, 3) := by decide +kernel
theorem dd_Site_takenAt_50 : decode bb_Site_takenAt 50 = .ok (.iload_n 2, 1) := by decide +kernel
theorem dd_Site_takenAt_51 : decode bb_Site_takenAt 51 = .ok (.ireturn, 1) := by decide +kernel
theorem dd_Site_takenAt_21 : decode bb_Site_takenAt 21 = .ok (.aload_n 3, 1) := by decide +kernel
theorem dd_Site_takenAt_22 : decode bb_Site_takenAt 22 = .ok (.iload 5, 2) := by decide +kernel
theorem dd_Site_takenAt_24 : decode bb_Site_takenAt 24 = .ok (.aaload, 1) := by decide +kernel
theorem dd_Site_takenAt_25 : decode bb_Site_takenAt 25 = .ok (.astore 6, 2) := by decide +kernel
theorem dd_Site_takenAt_27 : decode bb_Site_takenAt 27 = .ok (.aload 6, 2) := by decide +kernel
theorem dd_Site_takenAt_29 : decode bb_Site_takenAt 29 = .ok (.getfield 60, 3) := by decide +kernel
theorem dd_Site_takenAt_32 : decode bb_Site_takenAt 32 = .ok (.ifCond .eq 12, 3) := by decide +kernel
theorem dd_Site_takenAt_35 : decode bb_Site_takenAt 35 = .ok (.iload_n 2, 1) := by decide +kernel
theorem dd_Site_takenAt_36 : decode bb_Site_takenAt 36 = .ok (.aload 6, 2) := by decide +kernel
theorem dd_Site_takenAt_38 : decode bb_Site_takenAt 38 = .ok (.iload_n 1, 1) := by decide +kernel
theorem dd_Site_takenAt_39 : decode bb_Site_takenAt 39 = .ok (.invokevirtual 63, 3) := by decide +kernel
theorem dd_Site_takenAt_42 : decode bb_Site_takenAt 42 = .ok (.iadd, 1) := by decide +kernel
theorem dd_Site_takenAt_43 : decode bb_Site_takenAt 43 = .ok (.istore_n 2, 1) := by decide +kernel
theorem dd_Site_takenAt_44 : decode bb_Site_takenAt 44 = .ok (.iinc 5 1, 3) := by decide +kernel
theorem dd_Site_takenAt_47 : decode bb_Site_takenAt 47 = .ok (.goto (-33), 3) := by decide +kernel
theorem dd_Site_takenAt_0 : decode bb_Site_takenAt 0 = .ok (.iconst 0, 1) := by decide +kernel
theorem dd_Site_takenAt_1 : decode bb_Site_takenAt 1 = .ok (.istore_n 2, 1) := by decide +kernel
theorem dd_Site_takenAt_2 : decode bb_Site_takenAt 2 = .ok (.aload_n 0, 1) := by decide +kernel
theorem dd_Site_takenAt_3 : decode bb_Site_takenAt 3 = .ok (.getfield 11, 3) := by decide +kernel
theorem dd_Site_takenAt_6 : decode bb_Site_takenAt 6 = .ok (.astore_n 3, 1) := by decide +kernel
theorem dd_Site_takenAt_7 : decode bb_Site_takenAt 7 = .ok (.aload_n 3, 1) := by decide +kernel
theorem dd_Site_takenAt_8 : decode bb_Site_takenAt 8 = .ok (.arraylength, 1) := by decide +kernel
theorem dd_Site_takenAt_9 : decode bb_Site_takenAt 9 = .ok (.istore 4, 2) := by decide +kernel
theorem dd_Site_takenAt_11 : decode bb_Site_takenAt 11 = .ok (.iconst 0, 1) := by decide +kernel
theorem dd_Site_takenAt_12 : decode bb_Site_takenAt 12 = .ok (.istore 5, 2) := by decide +kernel
def ww_Site_takenAt : List Cond := .code yy_Site_takenAt bb_Site_takenAt 7 (some .int) :: TB
def rm_Site_takenAt : Room := { frames := 2, cells := 0, slots := 0, locals := 42 }
def wp_Site_takenAt_44 (o : Nat) (a1 : Int32) (post : fw_S → Int32 → Prop) (k14 : fw_S → Int32 → Int32 → Int32 → Prop) (S : fw_S) (x2 : Int32) (x4 : Int32) (x5 : Int32) (u6 : Nat) : Prop := ∀ v1 : Int32, v1 = x5 + 1 → k14 S x2 x4 v1
def wp_Site_takenAt_14 (o : Nat) (a1 : Int32) (post : fw_S → Int32 → Prop) : Nat → fw_S → Int32 → Int32 → Int32 → Prop
  | 0, _, _, _, _ => False
  | f + 1, S, x2, x4, x5 => (((x4 ≤ x5) → post S x2) ∧ (¬ (x4 ≤ x5) → vp_in x5 3 ∧ (((((S.1 ((o + 1) + (1 + 31 * x5.toNatClampNeg)) 10) = 0) → wp_Site_takenAt_44 o a1 post (fun S x2 x4 x5 => wp_Site_takenAt_14 o a1 post f S x2 x4 x5) S x2 x4 x5 ((o + 1) + (1 + 31 * x5.toNatClampNeg))) ∧ (¬ ((S.1 ((o + 1) + (1 + 31 * x5.toNatClampNeg)) 10) = 0) → wp_Point_takesAt S ((o + 1) + (1 + 31 * x5.toNatClampNeg)) a1 (fun S4 r5 => ∀ v6 : Int32, v6 = (x2 + r5) → wp_Site_takenAt_44 o a1 post (fun S x2 x4 x5 => wp_Site_takenAt_14 o a1 post f S x2 x4 x5) S4 v6 x4 x5 ((o + 1) + (1 + 31 * x5.toNatClampNeg))))))))
def wp_Site_takenAt (S : fw_S) (o : Nat) (a1 : Int32) (post : fw_S → Int32 → Prop) : Prop := ∀ v1 : Int32, v1 = (nI 3) → ∃ f0, wp_Site_takenAt_14 o a1 post f0 S 0 v1 0
set_option maxHeartbeats 4000000 in
set_option maxRecDepth 100000 in
theorem mt_Site_takenAt (l : Launch) (D : va_G) (cA : Nat → ClassId) (b : Nat) (S : fw_S) (o : Nat) (a1 : Int32) (ho : o < 245 ∧ layU o = (1, 0)) (post : fw_S → Int32 → Prop) (hw : wp_Site_takenAt S o a1 post) : Met l yy_Site_takenAt ww_Site_takenAt rm_Site_takenAt (fw_Pc D CL cA (TYS cA) TK layU b 245 S [.ref (b + o), .int a1]) (va_Qi (fun r S' => post S' r) (fw_B D CL cA TK layU b 245) (fw_A b 245)) 0 0 (fw_A b 245) := by
  refine Met.ofW (cc := bb_Site_takenAt) (maxL := 7) (ret := (some .int)) (by decide) rfl ?_
  intro p e s m args below meth c s₁ B hml hv
  obtain ⟨rfl, hP, hK⟩ := hv
  have hx := B.exec
  have hb := B.bytes
  have hr := B.returns
  have hts := atoms_spec (ws := ww_Site_takenAt) B.pre
  have hown : s.vm.findClass "OutletOffice$Site" = some m.cls := findClass_of_methodNamed B.named
  have hlocks := B.notSynchronized
  have hS : va_S (fw_A b 245) s.heap s.heap [] := va_S.rf
  have hl := lv_entry ([.ref (b + o), .int a1]) (n := 7) (Nat.le_of_ble_eq_true rfl)
  rw [lg_entry_eq]
  generalize (lg_sl ([.ref (b + o), .int a1]) ++ List.replicate (7 - (lg_sl ([.ref (b + o), .int a1])).length) Slot.unset).toArray = ls at hl ⊢
  have hl : lv_has ls 7 [(0, .ref (b + o)), (1, .int a1)] := hl
  have B44 : ∀ (k14 : fw_S → Int32 → Int32 → Int32 → Prop), (∀ (S : fw_S) (x2 : Int32) (x4 : Int32) (x5 : Int32) (H : Heap) (locs : List Loc) (ls : Array Slot), k14 S x2 x4 x5 → fw_P D CL cA layU b 245 (fw_v TK layU b S) H → va_S (fw_A b 245) s.heap H locs → lv_has ls 7 [(0, .ref (b + o)), (1, .int a1), (2, .int x2), (3, .ref (b + (o + 1))), (4, .int x4), (5, .int x5)] → W p l e (headSpec ww_Site_takenAt rm_Site_takenAt).room s m ([.ref (b + o), .int a1] : List Value).toArray below meth c H locs 0 0 (MQ below (va_Qi (fun r S' => post S' r) (fw_B D CL cA TK layU b 245) (fw_A b 245)) ([.ref (b + o), .int a1] : List Value).toArray s 0 0 (fw_A b 245)) (F0 m 14 ls [])) → ∀ (S : fw_S) (x2 : Int32) (x4 : Int32) (x5 : Int32) (u6 : Nat) (hu6 : u6 < 245 ∧ layU u6 = (2, 0)) (H : Heap) (locs : List Loc) (ls : Array Slot), wp_Site_takenAt_44 o a1 post k14 S x2 x4 x5 u6 → fw_P D CL cA layU b 245 (fw_v TK layU b S) H → va_S (fw_A b 245) s.heap H locs → lv_has ls 7 [(0, .ref (b + o)), (1, .int a1), (2, .int x2), (3, .ref (b + (o + 1))), (4, .int x4), (5, .int x5), (6, .ref (b + u6))] → W p l e (headSpec ww_Site_takenAt rm_Site_takenAt).room s m ([.ref (b + o), .int a1] : List Value).toArray below meth c H locs 0 0 (MQ below (va_Qi (fun r S' => post S' r) (fw_B D CL cA TK layU b 245) (fw_A b 245)) ([.ref (b + o), .int a1] : List Value).toArray s 0 0 (fw_A b 245)) (F0 m 44 ls []) := by
      intro k14 K14 S x2 x4 x5 u6 hu6 H locs ls hw hP hS hl
      unfold wp_Site_takenAt_44 at hw
      obtain ⟨v1, e_v1⟩ : ∃ z : Int32, z = x5 + 1 := ⟨_, rfl⟩
      have hw := hw v1 e_v1
      refine lv_iinc hx hb dd_Site_takenAt_44 hl (k := 5) rfl (show x5 + Int32.ofInt 1 = v1 by rw [kc_ii_1, e_v1]) (Nat.le_of_ble_eq_true rfl) rfl (fun ls hl => ?_)
      have hl : lv_has ls 7 [(5, .int v1), (0, .ref (b + o)), (1, .int a1), (2, .int x2), (3, .ref (b + (o + 1))), (4, .int x4), (6, .ref (b + u6))] := hl
      refine lv_goto (tgt := 14) hx hb dd_Site_takenAt_47 (by decide) ?_
      exact K14 S x2 x4 v1 _ _ ls hw hP hS (lv_sub hl [1, 2, 3, 4, 5, 0] rfl)
  have B14 : ∀ f : Nat, ∀ (S : fw_S) (x2 : Int32) (x4 : Int32) (x5 : Int32) (H : Heap) (locs : List Loc) (ls : Array Slot), wp_Site_takenAt_14 o a1 post f S x2 x4 x5 → fw_P D CL cA layU b 245 (fw_v TK layU b S) H → va_S (fw_A b 245) s.heap H locs → lv_has ls 7 [(0, .ref (b + o)), (1, .int a1), (2, .int x2), (3, .ref (b + (o + 1))), (4, .int x4), (5, .int x5)] → W p l e (headSpec ww_Site_takenAt rm_Site_takenAt).room s m ([.ref (b + o), .int a1] : List Value).toArray below meth c H locs 0 0 (MQ below (va_Qi (fun r S' => post S' r) (fw_B D CL cA TK layU b 245) (fw_A b 245)) ([.ref (b + o), .int a1] : List Value).toArray s 0 0 (fw_A b 245)) (F0 m 14 ls []) := by
    intro f
    induction f with
    | zero => intro S x2 x4 x5 H locs ls hw; exact False.elim hw
    | succ f ih =>
        intro S x2 x4 x5 H locs ls hw hP hS hl
        unfold wp_Site_takenAt_14 at hw
        refine lv_iload hx hb dd_Site_takenAt_14 (lv_at hl 5 rfl) ?_
        refine lv_iload hx hb dd_Site_takenAt_16 (lv_at hl 4 rfl) ?_
        refine lv_icmp_ge (tgt := 50) hx hb dd_Site_takenAt_18 (by decide) (fun h1 => ?_) (fun h1 => ?_)
        · have hw := hw.1 h1
          refine lv_iload_n hx hb dd_Site_takenAt_50 rfl (lv_at hl 2 rfl) ?_
          exact W.iret (v := x2) hx hb hr (fun t ht hW => ⟨⟨_, _, rfl, hw, fw_Bof ht hP⟩, hS.F ht⟩) hS.2.2 dd_Site_takenAt_51
        · have hw := hw.2 h1
          refine lv_aload_n hx hb dd_Site_takenAt_21 rfl (lv_at hl 3 rfl) ?_
          refine lv_iload hx hb dd_Site_takenAt_22 (lv_at hl 5 rfl) ?_
          obtain ⟨h2, hw⟩ := hw
          refine fw_aald hx hb hK hP (lf_1_0 ho) (by decide) 4 rfl (tka_104 _) h2 dd_Site_takenAt_24 ?_
          refine lv_astore hx hb dd_Site_takenAt_25 hl (Nat.le_of_ble_eq_true rfl) rfl (fun ls hl => ?_)
          have hl : lv_has ls 7 [(6, .ref (b + ((o + 1) + (1 + 31 * x5.toNatClampNeg)))), (0, .ref (b + o)), (1, .int a1), (2, .int x2), (3, .ref (b + (o + 1))), (4, .int x4), (5, .int x5)] := hl
          refine lv_aload hx hb dd_Site_takenAt_27 (lv_at hl 0 rfl) ?_
          refine fw_geti hx hb hts in_2 hown hK hP (le_104 (lf_1_0 ho) (fw_lt h2)) (by decide) rfl 10 (by decide) (hts _ (tb_in tw_263)) tk_2_10 dd_Site_takenAt_29 ?_
          refine lv_if_eq (tgt := 44) hx hb dd_Site_takenAt_32 (by decide) (fun h3 => ?_) (fun h3 => ?_)
          · have hw := hw.1 h3
            exact B44 _ ih S x2 x4 x5 ((o + 1) + (1 + 31 * x5.toNatClampNeg)) (le_104 (lf_1_0 ho) (fw_lt h2)) _ _ ls hw hP hS (lv_sub hl [1, 2, 3, 4, 5, 6, 0] rfl)
          · have hw := hw.2 h3
            refine lv_iload_n hx hb dd_Site_takenAt_35 rfl (lv_at hl 3 rfl) ?_
            refine lv_aload hx hb dd_Site_takenAt_36 (lv_at hl 0 rfl) ?_
            refine lv_iload_n hx hb dd_Site_takenAt_38 rfl (lv_at hl 2 rfl) ?_
            refine fw_calli (va_runV (As := [.int a1]) (rest := [.int x2]) ⟨hx, hb, hml, hown, hts⟩ (mt_Point_takesAt l D cA b S ((o + 1) + (1 + 31 * x5.toNatClampNeg)) a1 (le_104 (lf_1_0 ho) (fw_lt h2)) _ hw) (cwV 1 hts (fw_gV tw_675 tw_672 tw_673 tw_674 tw_7) rfl rfl rfl (by decide +kernel) ⟨Nat.le_of_ble_eq_true rfl, Nat.le_of_ble_eq_true rfl⟩) (fw_preV hP hK (le_104 (lf_1_0 ho) (fw_lt h2)) (by decide) rfl) rfl rfl hl.1 rfl (lv_room (Nat.le_of_ble_eq_true rfl)) dd_Site_takenAt_39 ⟨Nat.le_of_ble_eq_true rfl, Nat.le_of_ble_eq_true rfl⟩) hS (fun S4 r5 H locs hw hP hS => ?_)
            try dsimp only at hw
            refine lv_iadd hx hb dd_Site_takenAt_42 ?_
            refine lv_topi (fun v6 e_v6 => ?_)
            have hw := hw v6 e_v6
            refine lv_istore_n hx hb dd_Site_takenAt_43 rfl hl (Nat.le_of_ble_eq_true rfl) rfl (fun ls hl => ?_)
            have hl : lv_has ls 7 [(2, .int v6), (6, .ref (b + ((o + 1) + (1 + 31 * x5.toNatClampNeg)))), (0, .ref (b + o)), (1, .int a1), (3, .ref (b + (o + 1))), (4, .int x4), (5, .int x5)] := hl
            exact B44 _ ih S4 v6 x4 x5 ((o + 1) + (1 + 31 * x5.toNatClampNeg)) (le_104 (lf_1_0 ho) (fw_lt h2)) _ _ ls hw hP hS (lv_sub hl [2, 3, 0, 4, 5, 6, 1] rfl)
  unfold wp_Site_takenAt at hw
  refine lv_iconst (v := 0) hx hb dd_Site_takenAt_0 kc_ic_0 ?_
  refine lv_istore_n hx hb dd_Site_takenAt_1 rfl hl (Nat.le_of_ble_eq_true rfl) rfl (fun ls hl => ?_)
  have hl : lv_has ls 7 [(2, .int 0), (0, .ref (b + o)), (1, .int a1)] := hl
  refine lv_aload_n hx hb dd_Site_takenAt_2 rfl (lv_at hl 1 rfl) ?_
  refine fw_getr hx hb hts in_1 hown hK hP ho (by decide) rfl 0 (by decide) (hts _ (tb_in tw_292)) tk_1_0 dd_Site_takenAt_3 ?_
  refine lv_astore_n hx hb dd_Site_takenAt_6 rfl hl (Nat.le_of_ble_eq_true rfl) rfl (fun ls hl => ?_)
  have hl : lv_has ls 7 [(3, .ref (b + (o + 1))), (2, .int 0), (0, .ref (b + o)), (1, .int a1)] := hl
  refine lv_aload_n hx hb dd_Site_takenAt_7 rfl (lv_at hl 0 rfl) ?_
  refine fw_alen hx hb hK hP (lf_1_0 ho) (by decide) 4 rfl dd_Site_takenAt_8 ?_
  refine lv_topi (fun v1 e_v1 => ?_)
  have hw := hw v1 e_v1
  refine lv_istore hx hb dd_Site_takenAt_9 hl (Nat.le_of_ble_eq_true rfl) rfl (fun ls hl => ?_)
  have hl : lv_has ls 7 [(4, .int v1), (3, .ref (b + (o + 1))), (2, .int 0), (0, .ref (b + o)), (1, .int a1)] := hl
  refine lv_iconst (v := 0) hx hb dd_Site_takenAt_11 kc_ic_0 ?_
  refine lv_istore hx hb dd_Site_takenAt_12 hl (Nat.le_of_ble_eq_true rfl) rfl (fun ls hl => ?_)
  have hl : lv_has ls 7 [(5, .int 0), (4, .int v1), (3, .ref (b + (o + 1))), (2, .int 0), (0, .ref (b + o)), (1, .int a1)] := hl
  obtain ⟨f0, hw⟩ := hw
  exact B14 f0 S 0 v1 0 _ _ ls hw hP hS (lv_sub hl [4, 5, 3, 2, 1, 0] rfl)
theorem dd_Site_greatestLevel_6 : decode bb_Site_greatestLevel 6 = .ok (.iload_n 3, 1) := by decide +kernel
theorem dd_Site_greatestLevel_7 : decode bb_Site_greatestLevel 7 = .ok (.ifCond .le 36, 3) := by decide +kernel
theorem dd_Site_greatestLevel_43 : decode bb_Site_greatestLevel 43 = .ok (.iload_n 2, 1) := by decide +kernel
theorem dd_Site_greatestLevel_44 : decode bb_Site_greatestLevel 44 = .ok (.ireturn, 1) := by decide +kernel
theorem dd_Site_greatestLevel_10 : decode bb_Site_greatestLevel 10 = .ok (.iload_n 2, 1) := by decide +kernel
theorem dd_Site_greatestLevel_11 : decode bb_Site_greatestLevel 11 = .ok (.iload_n 3, 1) := by decide +kernel
theorem dd_Site_greatestLevel_12 : decode bb_Site_greatestLevel 12 = .ok (.iadd, 1) := by decide +kernel
theorem dd_Site_greatestLevel_13 : decode bb_Site_greatestLevel 13 = .ok (.istore 4, 2) := by decide +kernel
theorem dd_Site_greatestLevel_15 : decode bb_Site_greatestLevel 15 = .ok (.iload 4, 2) := by decide +kernel
theorem dd_Site_greatestLevel_17 : decode bb_Site_greatestLevel 17 = .ok (.sipush 320, 3) := by decide +kernel
theorem dd_Site_greatestLevel_20 : decode bb_Site_greatestLevel 20 = .ok (.if_icmp .gt 16, 3) := by decide +kernel
theorem dd_Site_greatestLevel_23 : decode bb_Site_greatestLevel 23 = .ok (.aload_n 0, 1) := by decide +kernel
theorem dd_Site_greatestLevel_24 : decode bb_Site_greatestLevel 24 = .ok (.iload 4, 2) := by decide +kernel
theorem dd_Site_greatestLevel_26 : decode bb_Site_greatestLevel 26 = .ok (.invokevirtual 66, 3) := by decide +kernel
theorem dd_Site_greatestLevel_29 : decode bb_Site_greatestLevel 29 = .ok (.iload_n 1, 1) := by decide +kernel
theorem dd_Site_greatestLevel_30 : decode bb_Site_greatestLevel 30 = .ok (.if_icmp .gt 6, 3) := by decide +kernel
theorem dd_Site_greatestLevel_33 : decode bb_Site_greatestLevel 33 = .ok (.iload 4, 2) := by decide +kernel
theorem dd_Site_greatestLevel_35 : decode bb_Site_greatestLevel 35 = .ok (.istore_n 2, 1) := by decide +kernel
theorem dd_Site_greatestLevel_36 : decode bb_Site_greatestLevel 36 = .ok (.iload_n 3, 1) := by decide +kernel
theorem dd_Site_greatestLevel_37 : decode bb_Site_greatestLevel 37 = .ok (.iconst 2, 1) := by decide +kernel
theorem dd_Site_greatestLevel_38 : decode bb_Site_greatestLevel 38 = .ok (.idiv, 1) := by decide +kernel
theorem dd_Site_greatestLevel_39 : decode bb_Site_greatestLevel 39 = .ok (.istore_n 3, 1) := by decide +kernel
theorem dd_Site_greatestLevel_40 : decode bb_Site_greatestLevel 40 = .ok (.goto (-34), 3) := by decide +kernel
theorem dd_Site_greatestLevel_0 : decode bb_Site_greatestLevel 0 = .ok (.iconst 0, 1) := by decide +kernel
theorem dd_Site_greatestLevel_1 : decode bb_Site_greatestLevel 1 = .ok (.istore_n 2, 1) := by decide +kernel
theorem dd_Site_greatestLevel_2 : decode bb_Site_greatestLevel 2 = .ok (.sipush 256, 3) := by decide +kernel
theorem dd_Site_greatestLevel_5 : decode bb_Site_greatestLevel 5 = .ok (.istore_n 3, 1) := by decide +kernel
def ww_Site_greatestLevel : List Cond := .code yy_Site_greatestLevel bb_Site_greatestLevel 5 (some .int) :: TB
def rm_Site_greatestLevel : Room := { frames := 3, cells := 0, slots := 0, locals := 68 }
def wp_Site_greatestLevel_36 (o : Nat) (a1 : Int32) (post : fw_S → Int32 → Prop) (k6 : fw_S → Int32 → Int32 → Prop) (S : fw_S) (x2 : Int32) (x3 : Int32) (x4 : Int32) : Prop := ∀ v1 : Int32, v1 = (x3 / 2) → k6 S x2 v1
def wp_Site_greatestLevel_6 (o : Nat) (a1 : Int32) (post : fw_S → Int32 → Prop) : Nat → fw_S → Int32 → Int32 → Prop
  | 0, _, _, _ => False
  | f + 1, S, x2, x3 => (((x3 ≤ 0) → post S x2) ∧ (¬ (x3 ≤ 0) → ∀ v2 : Int32, v2 = (x2 + x3) → (((320 < v2) → wp_Site_greatestLevel_36 o a1 post (fun S x2 x3 => wp_Site_greatestLevel_6 o a1 post f S x2 x3) S x2 x3 v2) ∧ (¬ (320 < v2) → wp_Site_takenAt S o v2 (fun S4 r5 => (((a1 < r5) → wp_Site_greatestLevel_36 o a1 post (fun S x2 x3 => wp_Site_greatestLevel_6 o a1 post f S x2 x3) S4 x2 x3 v2) ∧ (¬ (a1 < r5) → wp_Site_greatestLevel_36 o a1 post (fun S x2 x3 => wp_Site_greatestLevel_6 o a1 post f S x2 x3) S4 v2 x3 v2)))))))
def wp_Site_greatestLevel (S : fw_S) (o : Nat) (a1 : Int32) (post : fw_S → Int32 → Prop) : Prop := ∃ f0, wp_Site_greatestLevel_6 o a1 post f0 S 0 256
set_option maxHeartbeats 4000000 in
set_option maxRecDepth 100000 in
theorem mt_Site_greatestLevel (l : Launch) (D : va_G) (cA : Nat → ClassId) (b : Nat) (S : fw_S) (o : Nat) (a1 : Int32) (ho : o < 245 ∧ layU o = (1, 0)) (post : fw_S → Int32 → Prop) (hw : wp_Site_greatestLevel S o a1 post) : Met l yy_Site_greatestLevel ww_Site_greatestLevel rm_Site_greatestLevel (fw_Pc D CL cA (TYS cA) TK layU b 245 S [.ref (b + o), .int a1]) (va_Qi (fun r S' => post S' r) (fw_B D CL cA TK layU b 245) (fw_A b 245)) 0 0 (fw_A b 245) := by
  refine Met.ofW (cc := bb_Site_greatestLevel) (maxL := 5) (ret := (some .int)) (by decide) rfl ?_
  intro p e s m args below meth c s₁ B hml hv
  obtain ⟨rfl, hP, hK⟩ := hv
  have hx := B.exec
  have hb := B.bytes
  have hr := B.returns
  have hts := atoms_spec (ws := ww_Site_greatestLevel) B.pre
  have hown : s.vm.findClass "OutletOffice$Site" = some m.cls := findClass_of_methodNamed B.named
  have hlocks := B.notSynchronized
  have hS : va_S (fw_A b 245) s.heap s.heap [] := va_S.rf
  have hl := lv_entry ([.ref (b + o), .int a1]) (n := 5) (Nat.le_of_ble_eq_true rfl)
  rw [lg_entry_eq]
  generalize (lg_sl ([.ref (b + o), .int a1]) ++ List.replicate (5 - (lg_sl ([.ref (b + o), .int a1])).length) Slot.unset).toArray = ls at hl ⊢
  have hl : lv_has ls 5 [(0, .ref (b + o)), (1, .int a1)] := hl
  have B36 : ∀ (k6 : fw_S → Int32 → Int32 → Prop), (∀ (S : fw_S) (x2 : Int32) (x3 : Int32) (H : Heap) (locs : List Loc) (ls : Array Slot), k6 S x2 x3 → fw_P D CL cA layU b 245 (fw_v TK layU b S) H → va_S (fw_A b 245) s.heap H locs → lv_has ls 5 [(0, .ref (b + o)), (1, .int a1), (2, .int x2), (3, .int x3)] → W p l e (headSpec ww_Site_greatestLevel rm_Site_greatestLevel).room s m ([.ref (b + o), .int a1] : List Value).toArray below meth c H locs 0 0 (MQ below (va_Qi (fun r S' => post S' r) (fw_B D CL cA TK layU b 245) (fw_A b 245)) ([.ref (b + o), .int a1] : List Value).toArray s 0 0 (fw_A b 245)) (F0 m 6 ls [])) → ∀ (S : fw_S) (x2 : Int32) (x3 : Int32) (x4 : Int32) (H : Heap) (locs : List Loc) (ls : Array Slot), wp_Site_greatestLevel_36 o a1 post k6 S x2 x3 x4 → fw_P D CL cA layU b 245 (fw_v TK layU b S) H → va_S (fw_A b 245) s.heap H locs → lv_has ls 5 [(0, .ref (b + o)), (1, .int a1), (2, .int x2), (3, .int x3), (4, .int x4)] → W p l e (headSpec ww_Site_greatestLevel rm_Site_greatestLevel).room s m ([.ref (b + o), .int a1] : List Value).toArray below meth c H locs 0 0 (MQ below (va_Qi (fun r S' => post S' r) (fw_B D CL cA TK layU b 245) (fw_A b 245)) ([.ref (b + o), .int a1] : List Value).toArray s 0 0 (fw_A b 245)) (F0 m 36 ls []) := by
      intro k6 K6 S x2 x3 x4 H locs ls hw hP hS hl
      unfold wp_Site_greatestLevel_36 at hw
      refine lv_iload_n hx hb dd_Site_greatestLevel_36 rfl (lv_at hl 3 rfl) ?_
      refine lv_iconst (v := 2) hx hb dd_Site_greatestLevel_37 kc_ic_2 ?_
      refine lv_idiv hx hb dd_Site_greatestLevel_38 (by decide) ?_
      refine lv_topi (fun v1 e_v1 => ?_)
      have hw := hw v1 e_v1
      refine lv_istore_n hx hb dd_Site_greatestLevel_39 rfl hl (Nat.le_of_ble_eq_true rfl) rfl (fun ls hl => ?_)
      have hl : lv_has ls 5 [(3, .int v1), (0, .ref (b + o)), (1, .int a1), (2, .int x2), (4, .int x4)] := hl
      refine lv_goto (tgt := 6) hx hb dd_Site_greatestLevel_40 (by decide) ?_
      exact K6 S x2 v1 _ _ ls hw hP hS (lv_sub hl [1, 2, 3, 0] rfl)
  have B6 : ∀ f : Nat, ∀ (S : fw_S) (x2 : Int32) (x3 : Int32) (H : Heap) (locs : List Loc) (ls : Array Slot), wp_Site_greatestLevel_6 o a1 post f S x2 x3 → fw_P D CL cA layU b 245 (fw_v TK layU b S) H → va_S (fw_A b 245) s.heap H locs → lv_has ls 5 [(0, .ref (b + o)), (1, .int a1), (2, .int x2), (3, .int x3)] → W p l e (headSpec ww_Site_greatestLevel rm_Site_greatestLevel).room s m ([.ref (b + o), .int a1] : List Value).toArray below meth c H locs 0 0 (MQ below (va_Qi (fun r S' => post S' r) (fw_B D CL cA TK layU b 245) (fw_A b 245)) ([.ref (b + o), .int a1] : List Value).toArray s 0 0 (fw_A b 245)) (F0 m 6 ls []) := by
    intro f
    induction f with
    | zero => intro S x2 x3 H locs ls hw; exact False.elim hw
    | succ f ih =>
        intro S x2 x3 H locs ls hw hP hS hl
        unfold wp_Site_greatestLevel_6 at hw
        refine lv_iload_n hx hb dd_Site_greatestLevel_6 rfl (lv_at hl 3 rfl) ?_
        refine lv_if_le (tgt := 43) hx hb dd_Site_greatestLevel_7 (by decide) (fun h1 => ?_) (fun h1 => ?_)
        · have hw := hw.1 h1
          refine lv_iload_n hx hb dd_Site_greatestLevel_43 rfl (lv_at hl 2 rfl) ?_
          exact W.iret (v := x2) hx hb hr (fun t ht hW => ⟨⟨_, _, rfl, hw, fw_Bof ht hP⟩, hS.F ht⟩) hS.2.2 dd_Site_greatestLevel_44
        · have hw := hw.2 h1
          refine lv_iload_n hx hb dd_Site_greatestLevel_10 rfl (lv_at hl 2 rfl) ?_
          refine lv_iload_n hx hb dd_Site_greatestLevel_11 rfl (lv_at hl 3 rfl) ?_
          refine lv_iadd hx hb dd_Site_greatestLevel_12 ?_
          refine lv_topi (fun v2 e_v2 => ?_)
          have hw := hw v2 e_v2
          refine lv_istore hx hb dd_Site_greatestLevel_13 hl (Nat.le_of_ble_eq_true rfl) rfl (fun ls hl => ?_)
          have hl : lv_has ls 5 [(4, .int v2), (0, .ref (b + o)), (1, .int a1), (2, .int x2), (3, .int x3)] := hl
          refine lv_iload hx hb dd_Site_greatestLevel_15 (lv_at hl 0 rfl) ?_
          refine lv_sipush (v := 320) hx hb dd_Site_greatestLevel_17 kc_sp_320 ?_
          refine lv_icmp_gt (tgt := 36) hx hb dd_Site_greatestLevel_20 (by decide) (fun h3 => ?_) (fun h3 => ?_)
          · have hw := hw.1 h3
            exact B36 _ ih S x2 x3 v2 _ _ ls hw hP hS (lv_sub hl [1, 2, 3, 4, 0] rfl)
          · have hw := hw.2 h3
            refine lv_aload_n hx hb dd_Site_greatestLevel_23 rfl (lv_at hl 1 rfl) ?_
            refine lv_iload hx hb dd_Site_greatestLevel_24 (lv_at hl 0 rfl) ?_
            refine fw_calli (va_runV (As := [.int v2]) (rest := []) ⟨hx, hb, hml, hown, hts⟩ (mt_Site_takenAt l D cA b S o v2 ho _ hw) (cwV 1 hts (fw_gV tw_671 tw_668 tw_670 ts_10 tw_6) rfl rfl rfl (by decide +kernel) ⟨Nat.le_of_ble_eq_true rfl, Nat.le_of_ble_eq_true rfl⟩) (fw_preV hP hK ho (by decide) rfl) rfl rfl hl.1 rfl (lv_room (Nat.le_of_ble_eq_true rfl)) dd_Site_greatestLevel_26 ⟨Nat.le_of_ble_eq_true rfl, Nat.le_of_ble_eq_true rfl⟩) hS (fun S4 r5 H locs hw hP hS => ?_)
            try dsimp only at hw
            refine lv_iload_n hx hb dd_Site_greatestLevel_29 rfl (lv_at hl 2 rfl) ?_
            refine lv_icmp_gt (tgt := 36) hx hb dd_Site_greatestLevel_30 (by decide) (fun h6 => ?_) (fun h6 => ?_)
            · have hw := hw.1 h6
              exact B36 _ ih S4 x2 x3 v2 _ _ ls hw hP hS (lv_sub hl [1, 2, 3, 4, 0] rfl)
            · have hw := hw.2 h6
              refine lv_iload hx hb dd_Site_greatestLevel_33 (lv_at hl 0 rfl) ?_
              refine lv_istore_n hx hb dd_Site_greatestLevel_35 rfl hl (Nat.le_of_ble_eq_true rfl) rfl (fun ls hl => ?_)
              have hl : lv_has ls 5 [(2, .int v2), (4, .int v2), (0, .ref (b + o)), (1, .int a1), (3, .int x3)] := hl
              exact B36 _ ih S4 v2 x3 v2 _ _ ls hw hP hS (lv_sub hl [2, 3, 0, 4, 1] rfl)
  unfold wp_Site_greatestLevel at hw
  refine lv_iconst (v := 0) hx hb dd_Site_greatestLevel_0 kc_ic_0 ?_
  refine lv_istore_n hx hb dd_Site_greatestLevel_1 rfl hl (Nat.le_of_ble_eq_true rfl) rfl (fun ls hl => ?_)
  have hl : lv_has ls 5 [(2, .int 0), (0, .ref (b + o)), (1, .int a1)] := hl
  refine lv_sipush (v := 256) hx hb dd_Site_greatestLevel_2 kc_sp_256 ?_
  refine lv_istore_n hx hb dd_Site_greatestLevel_5 rfl hl (Nat.le_of_ble_eq_true rfl) rfl (fun ls hl => ?_)
  have hl : lv_has ls 5 [(3, .int 256), (2, .int 0), (0, .ref (b + o)), (1, .int a1)] := hl
  obtain ⟨f0, hw⟩ := hw
  exact B6 f0 S 0 256 _ _ ls hw hP hS (lv_sub hl [2, 3, 1, 0] rfl)
theorem dd_Site_share_24 : decode bb_Site_share 24 = .ok (.iload 6, 2) := by decide +kernel
theorem dd_Site_share_26 : decode bb_Site_share 26 = .ok (.iload 5, 2) := by decide +kernel
theorem dd_Site_share_28 : decode bb_Site_share 28 = .ok (.if_icmp .ge 63, 3) := by decide +kernel
theorem dd_Site_share_91 : decode bb_Site_share 91 = .ok (.aload_n 0, 1) := by decide +kernel
theorem dd_Site_share_92 : decode bb_Site_share 92 = .ok (.iload_n 3, 1) := by decide +kernel
theorem dd_Site_share_93 : decode bb_Site_share 93 = .ok (.bipush 60, 2) := by decide +kernel
theorem dd_Site_share_95 : decode bb_Site_share 95 = .ok (.idiv, 1) := by decide +kernel
theorem dd_Site_share_96 : decode bb_Site_share 96 = .ok (.iload_n 1, 1) := by decide +kernel
theorem dd_Site_share_97 : decode bb_Site_share 97 = .ok (.sipush 900, 3) := by decide +kernel
theorem dd_Site_share_100 : decode bb_Site_share 100 = .ok (.idiv, 1) := by decide +kernel
theorem dd_Site_share_101 : decode bb_Site_share 101 = .ok (.iconst 3, 1) := by decide +kernel
theorem dd_Site_share_102 : decode bb_Site_share 102 = .ok (.irem, 1) := by decide +kernel
theorem dd_Site_share_103 : decode bb_Site_share 103 = .ok (.invokevirtual 52, 3) := by decide +kernel
theorem dd_Site_share_106 : decode bb_Site_share 106 = .ok (.aload_n 0, 1) := by decide +kernel
theorem dd_Site_share_107 : decode bb_Site_share 107 = .ok (.iload_n 3, 1) := by decide +kernel
theorem dd_Site_share_108 : decode bb_Site_share 108 = .ok (.invokevirtual 56, 3) := by decide +kernel
theorem dd_Site_share_111 : decode bb_Site_share 111 = .ok (.istore 4, 2) := by decide +kernel
theorem dd_Site_share_113 : decode bb_Site_share 113 = .ok (.aload_n 0, 1) := by decide +kernel
theorem dd_Site_share_114 : decode bb_Site_share 114 = .ok (.getfield 11, 3) := by decide +kernel
theorem dd_Site_share_117 : decode bb_Site_share 117 = .ok (.astore 5, 2) := by decide +kernel
theorem dd_Site_share_119 : decode bb_Site_share 119 = .ok (.aload 5, 2) := by decide +kernel
theorem dd_Site_share_121 : decode bb_Site_share 121 = .ok (.arraylength, 1) := by decide +kernel
theorem dd_Site_share_122 : decode bb_Site_share 122 = .ok (.istore 6, 2) := by decide +kernel
theorem dd_Site_share_124 : decode bb_Site_share 124 = .ok (.iconst 0, 1) := by decide +kernel
theorem dd_Site_share_125 : decode bb_Site_share 125 = .ok (.istore 7, 2) := by decide +kernel
theorem dd_Site_share_31 : decode bb_Site_share 31 = .ok (.aload 4, 2) := by decide +kernel
theorem dd_Site_share_33 : decode bb_Site_share 33 = .ok (.iload 6, 2) := by decide +kernel
theorem dd_Site_share_35 : decode bb_Site_share 35 = .ok (.aaload, 1) := by decide +kernel
theorem dd_Site_share_36 : decode bb_Site_share 36 = .ok (.astore 7, 2) := by decide +kernel
theorem dd_Site_share_38 : decode bb_Site_share 38 = .ok (.aload 7, 2) := by decide +kernel
theorem dd_Site_share_40 : decode bb_Site_share 40 = .ok (.iconst 0, 1) := by decide +kernel
theorem dd_Site_share_41 : decode bb_Site_share 41 = .ok (.putfield 26, 3) := by decide +kernel
theorem dd_Site_share_44 : decode bb_Site_share 44 = .ok (.aload 7, 2) := by decide +kernel
theorem dd_Site_share_46 : decode bb_Site_share 46 = .ok (.getfield 29, 3) := by decide +kernel
theorem dd_Site_share_49 : decode bb_Site_share 49 = .ok (.ifCond .ne 36, 3) := by decide +kernel
theorem dd_Site_share_52 : decode bb_Site_share 52 = .ok (.iload_n 3, 1) := by decide +kernel
theorem dd_Site_share_53 : decode bb_Site_share 53 = .ok (.iload_n 2, 1) := by decide +kernel
theorem dd_Site_share_54 : decode bb_Site_share 54 = .ok (.isub, 1) := by decide +kernel
theorem dd_Site_share_55 : decode bb_Site_share 55 = .ok (.istore_n 3, 1) := by decide +kernel
theorem dd_Site_share_56 : decode bb_Site_share 56 = .ok (.aload 7, 2) := by decide +kernel
theorem dd_Site_share_58 : decode bb_Site_share 58 = .ok (.aload 7, 2) := by decide +kernel
theorem dd_Site_share_60 : decode bb_Site_share 60 = .ok (.invokevirtual 33, 3) := by decide +kernel
theorem dd_Site_share_63 : decode bb_Site_share 63 = .ok (.ifCond .eq 18, 3) := by decide +kernel
theorem dd_Site_share_81 : decode bb_Site_share 81 = .ok (.iconst 0, 1) := by decide +kernel
theorem dd_Site_share_66 : decode bb_Site_share 66 = .ok (.iload_n 2, 1) := by decide +kernel
theorem dd_Site_share_67 : decode bb_Site_share 67 = .ok (.aload 7, 2) := by decide +kernel
theorem dd_Site_share_69 : decode bb_Site_share 69 = .ok (.getfield 37, 3) := by decide +kernel
theorem dd_Site_share_72 : decode bb_Site_share 72 = .ok (.getfield 41, 3) := by decide +kernel
theorem dd_Site_share_75 : decode bb_Site_share 75 = .ok (.invokestatic 46, 3) := by decide +kernel
theorem dd_Site_share_78 : decode bb_Site_share 78 = .ok (.goto 4, 3) := by decide +kernel
theorem dd_Site_share_82 : decode bb_Site_share 82 = .ok (.putfield 26, 3) := by decide +kernel
theorem dd_Site_share_85 : decode bb_Site_share 85 = .ok (.iinc 6 1, 3) := by decide +kernel
theorem dd_Site_share_88 : decode bb_Site_share 88 = .ok (.goto (-64), 3) := by decide +kernel
theorem dd_Site_share_127 : decode bb_Site_share 127 = .ok (.iload 7, 2) := by decide +kernel
theorem dd_Site_share_129 : decode bb_Site_share 129 = .ok (.iload 6, 2) := by decide +kernel
theorem dd_Site_share_131 : decode bb_Site_share 131 = .ok (.if_icmp .ge 36, 3) := by decide +kernel
theorem dd_Site_share_167 : decode bb_Site_share 167 = .ok (.return_, 1) := by decide +kernel
theorem dd_Site_share_134 : decode bb_Site_share 134 = .ok (.aload 5, 2) := by decide +kernel
theorem dd_Site_share_136 : decode bb_Site_share 136 = .ok (.iload 7, 2) := by decide +kernel
theorem dd_Site_share_138 : decode bb_Site_share 138 = .ok (.aaload, 1) := by decide +kernel
theorem dd_Site_share_139 : decode bb_Site_share 139 = .ok (.astore 8, 2) := by decide +kernel
theorem dd_Site_share_141 : decode bb_Site_share 141 = .ok (.aload 8, 2) := by decide +kernel
theorem dd_Site_share_143 : decode bb_Site_share 143 = .ok (.getfield 60, 3) := by decide +kernel
theorem dd_Site_share_146 : decode bb_Site_share 146 = .ok (.ifCond .eq 15, 3) := by decide +kernel
theorem dd_Site_share_149 : decode bb_Site_share 149 = .ok (.aload 8, 2) := by decide +kernel
theorem dd_Site_share_151 : decode bb_Site_share 151 = .ok (.aload 8, 2) := by decide +kernel
theorem dd_Site_share_153 : decode bb_Site_share 153 = .ok (.iload 4, 2) := by decide +kernel
theorem dd_Site_share_155 : decode bb_Site_share 155 = .ok (.invokevirtual 63, 3) := by decide +kernel
theorem dd_Site_share_158 : decode bb_Site_share 158 = .ok (.putfield 26, 3) := by decide +kernel
theorem dd_Site_share_161 : decode bb_Site_share 161 = .ok (.iinc 7 1, 3) := by decide +kernel
theorem dd_Site_share_164 : decode bb_Site_share 164 = .ok (.goto (-37), 3) := by decide +kernel
theorem dd_Site_share_0 : decode bb_Site_share 0 = .ok (.aload_n 0, 1) := by decide +kernel
theorem dd_Site_share_1 : decode bb_Site_share 1 = .ok (.invokevirtual 22, 3) := by decide +kernel
theorem dd_Site_share_4 : decode bb_Site_share 4 = .ok (.istore_n 2, 1) := by decide +kernel
theorem dd_Site_share_5 : decode bb_Site_share 5 = .ok (.aload_n 0, 1) := by decide +kernel
theorem dd_Site_share_6 : decode bb_Site_share 6 = .ok (.getfield 17, 3) := by decide +kernel
theorem dd_Site_share_9 : decode bb_Site_share 9 = .ok (.istore_n 3, 1) := by decide +kernel
theorem dd_Site_share_10 : decode bb_Site_share 10 = .ok (.aload_n 0, 1) := by decide +kernel
theorem dd_Site_share_11 : decode bb_Site_share 11 = .ok (.getfield 11, 3) := by decide +kernel
theorem dd_Site_share_14 : decode bb_Site_share 14 = .ok (.astore 4, 2) := by decide +kernel
theorem dd_Site_share_16 : decode bb_Site_share 16 = .ok (.aload 4, 2) := by decide +kernel
theorem dd_Site_share_18 : decode bb_Site_share 18 = .ok (.arraylength, 1) := by decide +kernel
theorem dd_Site_share_19 : decode bb_Site_share 19 = .ok (.istore 5, 2) := by decide +kernel
theorem dd_Site_share_21 : decode bb_Site_share 21 = .ok (.iconst 0, 1) := by decide +kernel
theorem dd_Site_share_22 : decode bb_Site_share 22 = .ok (.istore 6, 2) := by decide +kernel
def ww_Site_share : List Cond := .code yy_Site_share bb_Site_share 9 none :: TB
def rm_Site_share : Room := { frames := 4, cells := 0, slots := 0, locals := 92 }
def wp_Site_share_85 (o : Nat) (a1 : Int32) (post : fw_S → Prop) (k24 : fw_S → Int32 → Int32 → Int32 → Int32 → Prop) (S : fw_S) (x2 : Int32) (x3 : Int32) (x5 : Int32) (x6 : Int32) (u7 : Nat) : Prop := ∀ v1 : Int32, v1 = x6 + 1 → k24 S x2 x3 x5 v1
def wp_Site_share_82 (o : Nat) (a1 : Int32) (post : fw_S → Prop) (k24 : fw_S → Int32 → Int32 → Int32 → Int32 → Prop) (S : fw_S) (x2 : Int32) (x3 : Int32) (x5 : Int32) (x6 : Int32) (u7 : Nat) (p0 : Int32) (pr1 : Nat) : Prop := ∀ S1 : fw_S, S1 = fw_si S pr1 11 p0 → wp_Site_share_85 o a1 post k24 S1 x2 x3 x5 x6 u7
def wp_Site_share_161 (o : Nat) (a1 : Int32) (post : fw_S → Prop) (k127 : fw_S → Int32 → Int32 → Int32 → Int32 → Int32 → Prop) (S : fw_S) (x2 : Int32) (x3 : Int32) (x4 : Int32) (x6 : Int32) (x7 : Int32) (u8 : Nat) : Prop := ∀ v1 : Int32, v1 = x7 + 1 → k127 S x2 x3 x4 x6 v1
def wp_Site_share_127 (o : Nat) (a1 : Int32) (post : fw_S → Prop) : Nat → fw_S → Int32 → Int32 → Int32 → Int32 → Int32 → Prop
  | 0, _, _, _, _, _, _ => False
  | f + 1, S, x2, x3, x4, x6, x7 => (((x6 ≤ x7) → post S) ∧ (¬ (x6 ≤ x7) → vp_in x7 3 ∧ (((((S.1 ((o + 1) + (1 + 31 * x7.toNatClampNeg)) 10) = 0) → wp_Site_share_161 o a1 post (fun S x2 x3 x4 x6 x7 => wp_Site_share_127 o a1 post f S x2 x3 x4 x6 x7) S x2 x3 x4 x6 x7 ((o + 1) + (1 + 31 * x7.toNatClampNeg))) ∧ (¬ ((S.1 ((o + 1) + (1 + 31 * x7.toNatClampNeg)) 10) = 0) → wp_Point_takesAt S ((o + 1) + (1 + 31 * x7.toNatClampNeg)) x4 (fun S4 r5 => ∀ S6 : fw_S, S6 = fw_si S4 ((o + 1) + (1 + 31 * x7.toNatClampNeg)) 11 r5 → wp_Site_share_161 o a1 post (fun S x2 x3 x4 x6 x7 => wp_Site_share_127 o a1 post f S x2 x3 x4 x6 x7) S6 x2 x3 x4 x6 x7 ((o + 1) + (1 + 31 * x7.toNatClampNeg))))))))
def wp_Site_share_24 (o : Nat) (a1 : Int32) (post : fw_S → Prop) : Nat → fw_S → Int32 → Int32 → Int32 → Int32 → Prop
  | 0, _, _, _, _, _ => False
  | f + 1, S, x2, x3, x5, x6 => (((x5 ≤ x6) → wp_Site_choose S o (x3 / 60) ((a1 / 900) - (a1 / 900) / 3 * 3) (fun S2 => wp_Site_greatestLevel S2 o x3 (fun S3 r4 => ∀ v5 : Int32, v5 = (nI 3) → ∃ f0, wp_Site_share_127 o a1 post f0 S3 x2 x3 r4 v5 0))) ∧ (¬ (x5 ≤ x6) → vp_in x6 3 ∧ (∀ S7 : fw_S, S7 = fw_si S ((o + 1) + (1 + 31 * x6.toNatClampNeg)) 11 0 → ((¬ ((S7.1 ((o + 1) + (1 + 31 * x6.toNatClampNeg)) 4) = 0) → wp_Site_share_85 o a1 post (fun S x2 x3 x5 x6 => wp_Site_share_24 o a1 post f S x2 x3 x5 x6) S7 x2 x3 x5 x6 ((o + 1) + (1 + 31 * x6.toNatClampNeg))) ∧ (((S7.1 ((o + 1) + (1 + 31 * x6.toNatClampNeg)) 4) = 0) → ∀ v9 : Int32, v9 = (x3 - x2) → wp_Point_isActive S7 ((o + 1) + (1 + 31 * x6.toNatClampNeg)) (fun S10 r11 => (((r11 = 0) → wp_Site_share_82 o a1 post (fun S x2 x3 x5 x6 => wp_Site_share_24 o a1 post f S x2 x3 x5 x6) S10 x2 v9 x5 x6 ((o + 1) + (1 + 31 * x6.toNatClampNeg)) 0 ((o + 1) + (1 + 31 * x6.toNatClampNeg))) ∧ (¬ (r11 = 0) → wp_Site_share_82 o a1 post (fun S x2 x3 x5 x6 => wp_Site_share_24 o a1 post f S x2 x3 x5 x6) S10 x2 v9 x5 x6 ((o + 1) + (1 + 31 * x6.toNatClampNeg)) (if (S10.1 (((o + 1) + (1 + 31 * x6.toNatClampNeg)) + 1) 2) < x2 then S10.1 (((o + 1) + (1 + 31 * x6.toNatClampNeg)) + 1) 2 else x2) ((o + 1) + (1 + 31 * x6.toNatClampNeg))))))))))
def wp_Site_share (S : fw_S) (o : Nat) (a1 : Int32) (post : fw_S → Prop) : Prop := wp_Site_safeCurrent S o (fun S1 r2 => ∀ v3 : Int32, v3 = (S1.1 o 1) → ∀ v4 : Int32, v4 = (nI 3) → ∃ f0, wp_Site_share_24 o a1 post f0 S1 r2 v3 v4 0)
set_option maxHeartbeats 4000000 in
set_option maxRecDepth 100000 in
theorem mt_Site_share (l : Launch) (D : va_G) (cA : Nat → ClassId) (b : Nat) (S : fw_S) (o : Nat) (a1 : Int32) (ho : o < 245 ∧ layU o = (1, 0)) (post : fw_S → Prop) (hw : wp_Site_share S o a1 post) : Met l yy_Site_share ww_Site_share rm_Site_share (fw_Pc D CL cA (TYS cA) TK layU b 245 S [.ref (b + o), .int a1]) (va_Qv post (fw_B D CL cA TK layU b 245) (fw_A b 245)) 0 0 (fw_A b 245) := by
  refine Met.ofW (cc := bb_Site_share) (maxL := 9) (ret := none) (by decide) rfl ?_
  intro p e s m args below meth c s₁ B hml hv
  obtain ⟨rfl, hP, hK⟩ := hv
  have hx := B.exec
  have hb := B.bytes
  have hr := B.returns
  have hts := atoms_spec (ws := ww_Site_share) B.pre
  have hown : s.vm.findClass "OutletOffice$Site" = some m.cls := findClass_of_methodNamed B.named
  have hlocks := B.notSynchronized
  have hS : va_S (fw_A b 245) s.heap s.heap [] := va_S.rf
  have hl := lv_entry ([.ref (b + o), .int a1]) (n := 9) (Nat.le_of_ble_eq_true rfl)
  rw [lg_entry_eq]
  generalize (lg_sl ([.ref (b + o), .int a1]) ++ List.replicate (9 - (lg_sl ([.ref (b + o), .int a1])).length) Slot.unset).toArray = ls at hl ⊢
  have hl : lv_has ls 9 [(0, .ref (b + o)), (1, .int a1)] := hl
  have B85 : ∀ (k24 : fw_S → Int32 → Int32 → Int32 → Int32 → Prop), (∀ (S : fw_S) (x2 : Int32) (x3 : Int32) (x5 : Int32) (x6 : Int32) (H : Heap) (locs : List Loc) (ls : Array Slot), k24 S x2 x3 x5 x6 → fw_P D CL cA layU b 245 (fw_v TK layU b S) H → va_S (fw_A b 245) s.heap H locs → lv_has ls 9 [(0, .ref (b + o)), (1, .int a1), (2, .int x2), (3, .int x3), (4, .ref (b + (o + 1))), (5, .int x5), (6, .int x6)] → W p l e (headSpec ww_Site_share rm_Site_share).room s m ([.ref (b + o), .int a1] : List Value).toArray below meth c H locs 0 0 (MQ below (va_Qv post (fw_B D CL cA TK layU b 245) (fw_A b 245)) ([.ref (b + o), .int a1] : List Value).toArray s 0 0 (fw_A b 245)) (F0 m 24 ls [])) → ∀ (S : fw_S) (x2 : Int32) (x3 : Int32) (x5 : Int32) (x6 : Int32) (u7 : Nat) (hu7 : u7 < 245 ∧ layU u7 = (2, 0)) (H : Heap) (locs : List Loc) (ls : Array Slot), wp_Site_share_85 o a1 post k24 S x2 x3 x5 x6 u7 → fw_P D CL cA layU b 245 (fw_v TK layU b S) H → va_S (fw_A b 245) s.heap H locs → lv_has ls 9 [(0, .ref (b + o)), (1, .int a1), (2, .int x2), (3, .int x3), (4, .ref (b + (o + 1))), (5, .int x5), (6, .int x6), (7, .ref (b + u7))] → W p l e (headSpec ww_Site_share rm_Site_share).room s m ([.ref (b + o), .int a1] : List Value).toArray below meth c H locs 0 0 (MQ below (va_Qv post (fw_B D CL cA TK layU b 245) (fw_A b 245)) ([.ref (b + o), .int a1] : List Value).toArray s 0 0 (fw_A b 245)) (F0 m 85 ls []) := by
      intro k24 K24 S x2 x3 x5 x6 u7 hu7 H locs ls hw hP hS hl
      unfold wp_Site_share_85 at hw
      obtain ⟨v1, e_v1⟩ : ∃ z : Int32, z = x6 + 1 := ⟨_, rfl⟩
      have hw := hw v1 e_v1
      refine lv_iinc hx hb dd_Site_share_85 hl (k := 6) rfl (show x6 + Int32.ofInt 1 = v1 by rw [kc_ii_1, e_v1]) (Nat.le_of_ble_eq_true rfl) rfl (fun ls hl => ?_)
      have hl : lv_has ls 9 [(6, .int v1), (0, .ref (b + o)), (1, .int a1), (2, .int x2), (3, .int x3), (4, .ref (b + (o + 1))), (5, .int x5), (7, .ref (b + u7))] := hl
      refine lv_goto (tgt := 24) hx hb dd_Site_share_88 (by decide) ?_
      exact K24 S x2 x3 x5 v1 _ _ ls hw hP hS (lv_sub hl [1, 2, 3, 4, 5, 6, 0] rfl)
  have B82 : ∀ (k24 : fw_S → Int32 → Int32 → Int32 → Int32 → Prop), (∀ (S : fw_S) (x2 : Int32) (x3 : Int32) (x5 : Int32) (x6 : Int32) (H : Heap) (locs : List Loc) (ls : Array Slot), k24 S x2 x3 x5 x6 → fw_P D CL cA layU b 245 (fw_v TK layU b S) H → va_S (fw_A b 245) s.heap H locs → lv_has ls 9 [(0, .ref (b + o)), (1, .int a1), (2, .int x2), (3, .int x3), (4, .ref (b + (o + 1))), (5, .int x5), (6, .int x6)] → W p l e (headSpec ww_Site_share rm_Site_share).room s m ([.ref (b + o), .int a1] : List Value).toArray below meth c H locs 0 0 (MQ below (va_Qv post (fw_B D CL cA TK layU b 245) (fw_A b 245)) ([.ref (b + o), .int a1] : List Value).toArray s 0 0 (fw_A b 245)) (F0 m 24 ls [])) → ∀ (S : fw_S) (x2 : Int32) (x3 : Int32) (x5 : Int32) (x6 : Int32) (u7 : Nat) (p0 : Int32) (pr1 : Nat) (hu7 : u7 < 245 ∧ layU u7 = (2, 0)) (hpr1 : pr1 < 245 ∧ layU pr1 = (2, 0)) (H : Heap) (locs : List Loc) (ls : Array Slot), wp_Site_share_82 o a1 post k24 S x2 x3 x5 x6 u7 p0 pr1 → fw_P D CL cA layU b 245 (fw_v TK layU b S) H → va_S (fw_A b 245) s.heap H locs → lv_has ls 9 [(0, .ref (b + o)), (1, .int a1), (2, .int x2), (3, .int x3), (4, .ref (b + (o + 1))), (5, .int x5), (6, .int x6), (7, .ref (b + u7))] → W p l e (headSpec ww_Site_share rm_Site_share).room s m ([.ref (b + o), .int a1] : List Value).toArray below meth c H locs 0 0 (MQ below (va_Qv post (fw_B D CL cA TK layU b 245) (fw_A b 245)) ([.ref (b + o), .int a1] : List Value).toArray s 0 0 (fw_A b 245)) (F0 m 82 ls [.int p0, .ref (b + pr1)]) := by
      intro k24 K24 S x2 x3 x5 x6 u7 p0 pr1 hu7 hpr1 H locs ls hw hP hS hl
      unfold wp_Site_share_82 at hw
      refine fw_puti hx hb hts in_2 F_ty_2 F_tyok_2 F_nm_2 hown hK hP hS (fw_A.in hpr1.1) hpr1 (by decide) rfl 11 (by decide) (hts _ (tb_in tw_265)) rfl tk_2_11 (ty := .int) (by decide +kernel) rfl rfl dd_Site_share_82 (fun H locs hP hS => ?_)
      obtain ⟨S1, e_S1⟩ : ∃ z, z = fw_si S pr1 11 p0 := ⟨_, rfl⟩
      rw [← e_S1] at hP
      have hw := hw S1 e_S1
      exact B85 _ K24 S1 x2 x3 x5 x6 u7 hu7 _ _ ls hw hP hS (lv_sub hl [0, 1, 2, 3, 4, 5, 6, 7] rfl)
  have B161 : ∀ (k127 : fw_S → Int32 → Int32 → Int32 → Int32 → Int32 → Prop), (∀ (S : fw_S) (x2 : Int32) (x3 : Int32) (x4 : Int32) (x6 : Int32) (x7 : Int32) (H : Heap) (locs : List Loc) (ls : Array Slot), k127 S x2 x3 x4 x6 x7 → fw_P D CL cA layU b 245 (fw_v TK layU b S) H → va_S (fw_A b 245) s.heap H locs → lv_has ls 9 [(0, .ref (b + o)), (1, .int a1), (2, .int x2), (3, .int x3), (4, .int x4), (5, .ref (b + (o + 1))), (6, .int x6), (7, .int x7)] → W p l e (headSpec ww_Site_share rm_Site_share).room s m ([.ref (b + o), .int a1] : List Value).toArray below meth c H locs 0 0 (MQ below (va_Qv post (fw_B D CL cA TK layU b 245) (fw_A b 245)) ([.ref (b + o), .int a1] : List Value).toArray s 0 0 (fw_A b 245)) (F0 m 127 ls [])) → ∀ (S : fw_S) (x2 : Int32) (x3 : Int32) (x4 : Int32) (x6 : Int32) (x7 : Int32) (u8 : Nat) (hu8 : u8 < 245 ∧ layU u8 = (2, 0)) (H : Heap) (locs : List Loc) (ls : Array Slot), wp_Site_share_161 o a1 post k127 S x2 x3 x4 x6 x7 u8 → fw_P D CL cA layU b 245 (fw_v TK layU b S) H → va_S (fw_A b 245) s.heap H locs → lv_has ls 9 [(0, .ref (b + o)), (1, .int a1), (2, .int x2), (3, .int x3), (4, .int x4), (5, .ref (b + (o + 1))), (6, .int x6), (7, .int x7), (8, .ref (b + u8))] → W p l e (headSpec ww_Site_share rm_Site_share).room s m ([.ref (b + o), .int a1] : List Value).toArray below meth c H locs 0 0 (MQ below (va_Qv post (fw_B D CL cA TK layU b 245) (fw_A b 245)) ([.ref (b + o), .int a1] : List Value).toArray s 0 0 (fw_A b 245)) (F0 m 161 ls []) := by
      intro k127 K127 S x2 x3 x4 x6 x7 u8 hu8 H locs ls hw hP hS hl
      unfold wp_Site_share_161 at hw
      obtain ⟨v1, e_v1⟩ : ∃ z : Int32, z = x7 + 1 := ⟨_, rfl⟩
      have hw := hw v1 e_v1
      refine lv_iinc hx hb dd_Site_share_161 hl (k := 7) rfl (show x7 + Int32.ofInt 1 = v1 by rw [kc_ii_1, e_v1]) (Nat.le_of_ble_eq_true rfl) rfl (fun ls hl => ?_)
      have hl : lv_has ls 9 [(7, .int v1), (0, .ref (b + o)), (1, .int a1), (2, .int x2), (3, .int x3), (4, .int x4), (5, .ref (b + (o + 1))), (6, .int x6), (8, .ref (b + u8))] := hl
      refine lv_goto (tgt := 127) hx hb dd_Site_share_164 (by decide) ?_
      exact K127 S x2 x3 x4 x6 v1 _ _ ls hw hP hS (lv_sub hl [1, 2, 3, 4, 5, 6, 7, 0] rfl)
  have B127 : ∀ f : Nat, ∀ (S : fw_S) (x2 : Int32) (x3 : Int32) (x4 : Int32) (x6 : Int32) (x7 : Int32) (H : Heap) (locs : List Loc) (ls : Array Slot), wp_Site_share_127 o a1 post f S x2 x3 x4 x6 x7 → fw_P D CL cA layU b 245 (fw_v TK layU b S) H → va_S (fw_A b 245) s.heap H locs → lv_has ls 9 [(0, .ref (b + o)), (1, .int a1), (2, .int x2), (3, .int x3), (4, .int x4), (5, .ref (b + (o + 1))), (6, .int x6), (7, .int x7)] → W p l e (headSpec ww_Site_share rm_Site_share).room s m ([.ref (b + o), .int a1] : List Value).toArray below meth c H locs 0 0 (MQ below (va_Qv post (fw_B D CL cA TK layU b 245) (fw_A b 245)) ([.ref (b + o), .int a1] : List Value).toArray s 0 0 (fw_A b 245)) (F0 m 127 ls []) := by
    intro f
    induction f with
    | zero => intro S x2 x3 x4 x6 x7 H locs ls hw; exact False.elim hw
    | succ f ih =>
        intro S x2 x3 x4 x6 x7 H locs ls hw hP hS hl
        unfold wp_Site_share_127 at hw
        refine lv_iload hx hb dd_Site_share_127 (lv_at hl 7 rfl) ?_
        refine lv_iload hx hb dd_Site_share_129 (lv_at hl 6 rfl) ?_
        refine lv_icmp_ge (tgt := 167) hx hb dd_Site_share_131 (by decide) (fun h1 => ?_) (fun h1 => ?_)
        · have hw := hw.1 h1
          exact W.vret hx hb hr (fun t ht hW => ⟨⟨_, rfl, hw, fw_Bof ht hP⟩, hS.F ht⟩) hS.2.2 dd_Site_share_167
        · have hw := hw.2 h1
          refine lv_aload hx hb dd_Site_share_134 (lv_at hl 5 rfl) ?_
          refine lv_iload hx hb dd_Site_share_136 (lv_at hl 7 rfl) ?_
          obtain ⟨h2, hw⟩ := hw
          refine fw_aald hx hb hK hP (lf_1_0 ho) (by decide) 4 rfl (tka_104 _) h2 dd_Site_share_138 ?_
          refine lv_astore hx hb dd_Site_share_139 hl (Nat.le_of_ble_eq_true rfl) rfl (fun ls hl => ?_)
          have hl : lv_has ls 9 [(8, .ref (b + ((o + 1) + (1 + 31 * x7.toNatClampNeg)))), (0, .ref (b + o)), (1, .int a1), (2, .int x2), (3, .int x3), (4, .int x4), (5, .ref (b + (o + 1))), (6, .int x6), (7, .int x7)] := hl
          refine lv_aload hx hb dd_Site_share_141 (lv_at hl 0 rfl) ?_
          refine fw_geti hx hb hts in_2 hown hK hP (le_104 (lf_1_0 ho) (fw_lt h2)) (by decide) rfl 10 (by decide) (hts _ (tb_in tw_263)) tk_2_10 dd_Site_share_143 ?_
          refine lv_if_eq (tgt := 161) hx hb dd_Site_share_146 (by decide) (fun h3 => ?_) (fun h3 => ?_)
          · have hw := hw.1 h3
            exact B161 _ ih S x2 x3 x4 x6 x7 ((o + 1) + (1 + 31 * x7.toNatClampNeg)) (le_104 (lf_1_0 ho) (fw_lt h2)) _ _ ls hw hP hS (lv_sub hl [1, 2, 3, 4, 5, 6, 7, 8, 0] rfl)
          · have hw := hw.2 h3
            refine lv_aload hx hb dd_Site_share_149 (lv_at hl 0 rfl) ?_
            refine lv_aload hx hb dd_Site_share_151 (lv_at hl 0 rfl) ?_
            refine lv_iload hx hb dd_Site_share_153 (lv_at hl 5 rfl) ?_
            refine fw_calli (va_runV (As := [.int x4]) (rest := [.ref (b + ((o + 1) + (1 + 31 * x7.toNatClampNeg)))]) ⟨hx, hb, hml, hown, hts⟩ (mt_Point_takesAt l D cA b S ((o + 1) + (1 + 31 * x7.toNatClampNeg)) x4 (le_104 (lf_1_0 ho) (fw_lt h2)) _ hw) (cwV 1 hts (fw_gV tw_675 tw_672 tw_673 tw_674 tw_7) rfl rfl rfl (by decide +kernel) ⟨Nat.le_of_ble_eq_true rfl, Nat.le_of_ble_eq_true rfl⟩) (fw_preV hP hK (le_104 (lf_1_0 ho) (fw_lt h2)) (by decide) rfl) rfl rfl hl.1 rfl (lv_room (Nat.le_of_ble_eq_true rfl)) dd_Site_share_155 ⟨Nat.le_of_ble_eq_true rfl, Nat.le_of_ble_eq_true rfl⟩) hS (fun S4 r5 H locs hw hP hS => ?_)
            try dsimp only at hw
            refine fw_puti hx hb hts in_2 F_ty_2 F_tyok_2 F_nm_2 hown hK hP hS (fw_A.in (le_104 (lf_1_0 ho) (fw_lt h2)).1) (le_104 (lf_1_0 ho) (fw_lt h2)) (by decide) rfl 11 (by decide) (hts _ (tb_in tw_265)) rfl tk_2_11 (ty := .int) (by decide +kernel) rfl rfl dd_Site_share_158 (fun H locs hP hS => ?_)
            obtain ⟨S6, e_S6⟩ : ∃ z, z = fw_si S4 ((o + 1) + (1 + 31 * x7.toNatClampNeg)) 11 r5 := ⟨_, rfl⟩
            rw [← e_S6] at hP
            have hw := hw S6 e_S6
            exact B161 _ ih S6 x2 x3 x4 x6 x7 ((o + 1) + (1 + 31 * x7.toNatClampNeg)) (le_104 (lf_1_0 ho) (fw_lt h2)) _ _ ls hw hP hS (lv_sub hl [1, 2, 3, 4, 5, 6, 7, 8, 0] rfl)
  have B24 : ∀ f : Nat, ∀ (S : fw_S) (x2 : Int32) (x3 : Int32) (x5 : Int32) (x6 : Int32) (H : Heap) (locs : List Loc) (ls : Array Slot), wp_Site_share_24 o a1 post f S x2 x3 x5 x6 → fw_P D CL cA layU b 245 (fw_v TK layU b S) H → va_S (fw_A b 245) s.heap H locs → lv_has ls 9 [(0, .ref (b + o)), (1, .int a1), (2, .int x2), (3, .int x3), (4, .ref (b + (o + 1))), (5, .int x5), (6, .int x6)] → W p l e (headSpec ww_Site_share rm_Site_share).room s m ([.ref (b + o), .int a1] : List Value).toArray below meth c H locs 0 0 (MQ below (va_Qv post (fw_B D CL cA TK layU b 245) (fw_A b 245)) ([.ref (b + o), .int a1] : List Value).toArray s 0 0 (fw_A b 245)) (F0 m 24 ls []) := by
    intro f
    induction f with
    | zero => intro S x2 x3 x5 x6 H locs ls hw; exact False.elim hw
    | succ f ih =>
        intro S x2 x3 x5 x6 H locs ls hw hP hS hl
        unfold wp_Site_share_24 at hw
        refine lv_iload hx hb dd_Site_share_24 (lv_at hl 6 rfl) ?_
        refine lv_iload hx hb dd_Site_share_26 (lv_at hl 5 rfl) ?_
        refine lv_icmp_ge (tgt := 91) hx hb dd_Site_share_28 (by decide) (fun h1 => ?_) (fun h1 => ?_)
        · have hw := hw.1 h1
          refine lv_aload_n hx hb dd_Site_share_91 rfl (lv_at hl 0 rfl) ?_
          refine lv_iload_n hx hb dd_Site_share_92 rfl (lv_at hl 3 rfl) ?_
          refine lv_bipush (v := 60) hx hb dd_Site_share_93 kc_bp_60 ?_
          refine lv_idiv hx hb dd_Site_share_95 (by decide) ?_
          refine lv_iload_n hx hb dd_Site_share_96 rfl (lv_at hl 1 rfl) ?_
          refine lv_sipush (v := 900) hx hb dd_Site_share_97 kc_sp_900 ?_
          refine lv_idiv hx hb dd_Site_share_100 (by decide) ?_
          refine lv_iconst (v := 3) hx hb dd_Site_share_101 kc_ic_3 ?_
          refine lv_irem hx hb dd_Site_share_102 (by decide) ?_
          refine fw_callv (va_runV (As := [.int (x3 / 60), .int ((a1 / 900) - (a1 / 900) / 3 * 3)]) (rest := []) ⟨hx, hb, hml, hown, hts⟩ (mt_Site_choose l D cA b S o (x3 / 60) ((a1 / 900) - (a1 / 900) / 3 * 3) ho _ hw) (cwV 2 hts (fw_gV tw_663 tw_660 tw_662 ts_8 tw_6) rfl rfl rfl (by decide +kernel) ⟨Nat.le_of_ble_eq_true rfl, Nat.le_of_ble_eq_true rfl⟩) (fw_preV hP hK ho (by decide) rfl) rfl rfl hl.1 rfl (lv_room (Nat.le_of_ble_eq_true rfl)) dd_Site_share_103 ⟨Nat.le_of_ble_eq_true rfl, Nat.le_of_ble_eq_true rfl⟩) hS (fun S2 H locs hw hP hS => ?_)
          try dsimp only at hw
          refine lv_aload_n hx hb dd_Site_share_106 rfl (lv_at hl 0 rfl) ?_
          refine lv_iload_n hx hb dd_Site_share_107 rfl (lv_at hl 3 rfl) ?_
          refine fw_calli (va_runV (As := [.int x3]) (rest := []) ⟨hx, hb, hml, hown, hts⟩ (mt_Site_greatestLevel l D cA b S2 o x3 ho _ hw) (cwV 1 hts (fw_gV tw_667 tw_664 tw_666 ts_9 tw_6) rfl rfl rfl (by decide +kernel) ⟨Nat.le_of_ble_eq_true rfl, Nat.le_of_ble_eq_true rfl⟩) (fw_preV hP hK ho (by decide) rfl) rfl rfl hl.1 rfl (lv_room (Nat.le_of_ble_eq_true rfl)) dd_Site_share_108 ⟨Nat.le_of_ble_eq_true rfl, Nat.le_of_ble_eq_true rfl⟩) hS (fun S3 r4 H locs hw hP hS => ?_)
          try dsimp only at hw
          refine lv_istore hx hb dd_Site_share_111 hl (Nat.le_of_ble_eq_true rfl) rfl (fun ls hl => ?_)
          have hl : lv_has ls 9 [(4, .int r4), (0, .ref (b + o)), (1, .int a1), (2, .int x2), (3, .int x3), (5, .int x5), (6, .int x6)] := hl
          refine lv_aload_n hx hb dd_Site_share_113 rfl (lv_at hl 1 rfl) ?_
          refine fw_getr hx hb hts in_1 hown hK hP ho (by decide) rfl 0 (by decide) (hts _ (tb_in tw_292)) tk_1_0 dd_Site_share_114 ?_
          refine lv_astore hx hb dd_Site_share_117 hl (Nat.le_of_ble_eq_true rfl) rfl (fun ls hl => ?_)
          have hl : lv_has ls 9 [(5, .ref (b + (o + 1))), (4, .int r4), (0, .ref (b + o)), (1, .int a1), (2, .int x2), (3, .int x3), (6, .int x6)] := hl
          refine lv_aload hx hb dd_Site_share_119 (lv_at hl 0 rfl) ?_
          refine fw_alen hx hb hK hP (lf_1_0 ho) (by decide) 4 rfl dd_Site_share_121 ?_
          refine lv_topi (fun v5 e_v5 => ?_)
          have hw := hw v5 e_v5
          refine lv_istore hx hb dd_Site_share_122 hl (Nat.le_of_ble_eq_true rfl) rfl (fun ls hl => ?_)
          have hl : lv_has ls 9 [(6, .int v5), (5, .ref (b + (o + 1))), (4, .int r4), (0, .ref (b + o)), (1, .int a1), (2, .int x2), (3, .int x3)] := hl
          refine lv_iconst (v := 0) hx hb dd_Site_share_124 kc_ic_0 ?_
          refine lv_istore hx hb dd_Site_share_125 hl (Nat.le_of_ble_eq_true rfl) rfl (fun ls hl => ?_)
          have hl : lv_has ls 9 [(7, .int 0), (6, .int v5), (5, .ref (b + (o + 1))), (4, .int r4), (0, .ref (b + o)), (1, .int a1), (2, .int x2), (3, .int x3)] := hl
          obtain ⟨f0, hw⟩ := hw
          exact B127 f0 S3 x2 x3 r4 v5 0 _ _ ls hw hP hS (lv_sub hl [4, 5, 6, 7, 3, 2, 1, 0] rfl)
        · have hw := hw.2 h1
          refine lv_aload hx hb dd_Site_share_31 (lv_at hl 4 rfl) ?_
          refine lv_iload hx hb dd_Site_share_33 (lv_at hl 6 rfl) ?_
          obtain ⟨h6, hw⟩ := hw
          refine fw_aald hx hb hK hP (lf_1_0 ho) (by decide) 4 rfl (tka_104 _) h6 dd_Site_share_35 ?_
          refine lv_astore hx hb dd_Site_share_36 hl (Nat.le_of_ble_eq_true rfl) rfl (fun ls hl => ?_)
          have hl : lv_has ls 9 [(7, .ref (b + ((o + 1) + (1 + 31 * x6.toNatClampNeg)))), (0, .ref (b + o)), (1, .int a1), (2, .int x2), (3, .int x3), (4, .ref (b + (o + 1))), (5, .int x5), (6, .int x6)] := hl
          refine lv_aload hx hb dd_Site_share_38 (lv_at hl 0 rfl) ?_
          refine lv_iconst (v := 0) hx hb dd_Site_share_40 kc_ic_0 ?_
          refine fw_puti hx hb hts in_2 F_ty_2 F_tyok_2 F_nm_2 hown hK hP hS (fw_A.in (le_104 (lf_1_0 ho) (fw_lt h6)).1) (le_104 (lf_1_0 ho) (fw_lt h6)) (by decide) rfl 11 (by decide) (hts _ (tb_in tw_265)) rfl tk_2_11 (ty := .int) (by decide +kernel) rfl rfl dd_Site_share_41 (fun H locs hP hS => ?_)
          obtain ⟨S7, e_S7⟩ : ∃ z, z = fw_si S ((o + 1) + (1 + 31 * x6.toNatClampNeg)) 11 0 := ⟨_, rfl⟩
          rw [← e_S7] at hP
          have hw := hw S7 e_S7
          refine lv_aload hx hb dd_Site_share_44 (lv_at hl 0 rfl) ?_
          refine fw_geti hx hb hts in_2 hown hK hP (le_104 (lf_1_0 ho) (fw_lt h6)) (by decide) rfl 4 (by decide) (hts _ (tb_in tw_251)) tk_2_4 dd_Site_share_46 ?_
          refine lv_if_ne (tgt := 85) hx hb dd_Site_share_49 (by decide) (fun h8 => ?_) (fun h8 => ?_)
          · have hw := hw.1 h8
            exact B85 _ ih S7 x2 x3 x5 x6 ((o + 1) + (1 + 31 * x6.toNatClampNeg)) (le_104 (lf_1_0 ho) (fw_lt h6)) _ _ ls hw hP hS (lv_sub hl [1, 2, 3, 4, 5, 6, 7, 0] rfl)
          · have hw := hw.2 h8
            refine lv_iload_n hx hb dd_Site_share_52 rfl (lv_at hl 4 rfl) ?_
            refine lv_iload_n hx hb dd_Site_share_53 rfl (lv_at hl 3 rfl) ?_
            refine lv_isub hx hb dd_Site_share_54 ?_
            refine lv_topi (fun v9 e_v9 => ?_)
            have hw := hw v9 e_v9
            refine lv_istore_n hx hb dd_Site_share_55 rfl hl (Nat.le_of_ble_eq_true rfl) rfl (fun ls hl => ?_)
            have hl : lv_has ls 9 [(3, .int v9), (7, .ref (b + ((o + 1) + (1 + 31 * x6.toNatClampNeg)))), (0, .ref (b + o)), (1, .int a1), (2, .int x2), (4, .ref (b + (o + 1))), (5, .int x5), (6, .int x6)] := hl
            refine lv_aload hx hb dd_Site_share_56 (lv_at hl 1 rfl) ?_
            refine lv_aload hx hb dd_Site_share_58 (lv_at hl 1 rfl) ?_
            refine fw_calli (va_runV (As := []) (rest := [.ref (b + ((o + 1) + (1 + 31 * x6.toNatClampNeg)))]) ⟨hx, hb, hml, hown, hts⟩ (mt_Point_isActive l D cA b S7 ((o + 1) + (1 + 31 * x6.toNatClampNeg)) (le_104 (lf_1_0 ho) (fw_lt h6)) _ hw) (cwV 0 hts (fw_gV tw_655 tw_652 tw_653 tw_654 tw_7) rfl rfl rfl (by decide +kernel) ⟨Nat.le_of_ble_eq_true rfl, Nat.le_of_ble_eq_true rfl⟩) (fw_preV hP hK (le_104 (lf_1_0 ho) (fw_lt h6)) (by decide) rfl) rfl rfl hl.1 rfl (lv_room (Nat.le_of_ble_eq_true rfl)) dd_Site_share_60 ⟨Nat.le_of_ble_eq_true rfl, Nat.le_of_ble_eq_true rfl⟩) hS (fun S10 r11 H locs hw hP hS => ?_)
            try dsimp only at hw
            refine lv_if_eq (tgt := 81) hx hb dd_Site_share_63 (by decide) (fun h12 => ?_) (fun h12 => ?_)
            · have hw := hw.1 h12
              refine lv_iconst (v := 0) hx hb dd_Site_share_81 kc_ic_0 ?_
              exact B82 _ ih S10 x2 v9 x5 x6 ((o + 1) + (1 + 31 * x6.toNatClampNeg)) 0 ((o + 1) + (1 + 31 * x6.toNatClampNeg)) (le_104 (lf_1_0 ho) (fw_lt h6)) (le_104 (lf_1_0 ho) (fw_lt h6)) _ _ ls hw hP hS (lv_sub hl [2, 3, 4, 0, 5, 6, 7, 1] rfl)
            · have hw := hw.2 h12
              refine lv_iload_n hx hb dd_Site_share_66 rfl (lv_at hl 4 rfl) ?_
              refine lv_aload hx hb dd_Site_share_67 (lv_at hl 1 rfl) ?_
              refine fw_getr hx hb hts in_2 hown hK hP (le_104 (lf_1_0 ho) (fw_lt h6)) (by decide) rfl 0 (by decide) (hts _ (tb_in tw_243)) tk_2_0 dd_Site_share_69 ?_
              refine fw_geti hx hb hts in_3 hown hK hP (lf_2_0 (le_104 (lf_1_0 ho) (fw_lt h6))) (by decide) rfl 2 (by decide) (hts _ (tb_in tw_163)) tk_3_2 dd_Site_share_72 ?_
              refine va_mmin hx hb (hml.trans hl.1.symm) hown (hts _ (tb_in tw_657)) (hts _ (tb_in tw_658)) (hts _ (tb_in tw_18)) (hts _ (tb_in tw_659)) (Nat.le_of_ble_eq_true rfl) (Nat.le_of_ble_eq_true rfl) (Nat.le_of_ble_eq_true rfl) (Nat.le_of_ble_eq_true rfl) dd_Site_share_75 ?_
              refine lv_goto (tgt := 82) hx hb dd_Site_share_78 (by decide) ?_
              exact B82 _ ih S10 x2 v9 x5 x6 ((o + 1) + (1 + 31 * x6.toNatClampNeg)) (if (S10.1 (((o + 1) + (1 + 31 * x6.toNatClampNeg)) + 1) 2) < x2 then S10.1 (((o + 1) + (1 + 31 * x6.toNatClampNeg)) + 1) 2 else x2) ((o + 1) + (1 + 31 * x6.toNatClampNeg)) (le_104 (lf_1_0 ho) (fw_lt h6)) (le_104 (lf_1_0 ho) (fw_lt h6)) _ _ ls hw hP hS (lv_sub hl [2, 3, 4, 0, 5, 6, 7, 1] rfl)
  unfold wp_Site_share at hw
  refine lv_aload_n hx hb dd_Site_share_0 rfl (lv_at hl 0 rfl) ?_
  refine fw_calli (va_runV (As := []) (rest := []) ⟨hx, hb, hml, hown, hts⟩ (mt_Site_safeCurrent l D cA b S o ho _ hw) (cwV 0 hts (fw_gV tw_651 tw_648 tw_650 ts_7 tw_6) rfl rfl rfl (by decide +kernel) ⟨Nat.le_of_ble_eq_true rfl, Nat.le_of_ble_eq_true rfl⟩) (fw_preV hP hK ho (by decide) rfl) rfl rfl hl.1 rfl (lv_room (Nat.le_of_ble_eq_true rfl)) dd_Site_share_1 ⟨Nat.le_of_ble_eq_true rfl, Nat.le_of_ble_eq_true rfl⟩) hS (fun S1 r2 H locs hw hP hS => ?_)
  try dsimp only at hw
  refine lv_istore_n hx hb dd_Site_share_4 rfl hl (Nat.le_of_ble_eq_true rfl) rfl (fun ls hl => ?_)
  have hl : lv_has ls 9 [(2, .int r2), (0, .ref (b + o)), (1, .int a1)] := hl
  refine lv_aload_n hx hb dd_Site_share_5 rfl (lv_at hl 1 rfl) ?_
  refine fw_geti hx hb hts in_1 hown hK hP ho (by decide) rfl 1 (by decide) (hts _ (tb_in tw_294)) tk_1_1 dd_Site_share_6 ?_
  refine lv_topi (fun v3 e_v3 => ?_)
  have hw := hw v3 e_v3
  refine lv_istore_n hx hb dd_Site_share_9 rfl hl (Nat.le_of_ble_eq_true rfl) rfl (fun ls hl => ?_)
  have hl : lv_has ls 9 [(3, .int v3), (2, .int r2), (0, .ref (b + o)), (1, .int a1)] := hl
  refine lv_aload_n hx hb dd_Site_share_10 rfl (lv_at hl 2 rfl) ?_
  refine fw_getr hx hb hts in_1 hown hK hP ho (by decide) rfl 0 (by decide) (hts _ (tb_in tw_292)) tk_1_0 dd_Site_share_11 ?_
  refine lv_astore hx hb dd_Site_share_14 hl (Nat.le_of_ble_eq_true rfl) rfl (fun ls hl => ?_)
  have hl : lv_has ls 9 [(4, .ref (b + (o + 1))), (3, .int v3), (2, .int r2), (0, .ref (b + o)), (1, .int a1)] := hl
  refine lv_aload hx hb dd_Site_share_16 (lv_at hl 0 rfl) ?_
  refine fw_alen hx hb hK hP (lf_1_0 ho) (by decide) 4 rfl dd_Site_share_18 ?_
  refine lv_topi (fun v4 e_v4 => ?_)
  have hw := hw v4 e_v4
  refine lv_istore hx hb dd_Site_share_19 hl (Nat.le_of_ble_eq_true rfl) rfl (fun ls hl => ?_)
  have hl : lv_has ls 9 [(5, .int v4), (4, .ref (b + (o + 1))), (3, .int v3), (2, .int r2), (0, .ref (b + o)), (1, .int a1)] := hl
  refine lv_iconst (v := 0) hx hb dd_Site_share_21 kc_ic_0 ?_
  refine lv_istore hx hb dd_Site_share_22 hl (Nat.le_of_ble_eq_true rfl) rfl (fun ls hl => ?_)
  have hl : lv_has ls 9 [(6, .int 0), (5, .int v4), (4, .ref (b + (o + 1))), (3, .int v3), (2, .int r2), (0, .ref (b + o)), (1, .int a1)] := hl
  obtain ⟨f0, hw⟩ := hw
  exact B24 f0 S1 r2 v3 v4 0 _ _ ls hw hP hS (lv_sub hl [5, 6, 4, 3, 2, 1, 0] rfl)
theorem dd_Point_hasRoomForReading_17 : decode bb_Point_hasRoomForReading 17 = .ok (.ireturn, 1) := by decide +kernel
theorem dd_Point_hasRoomForReading_0 : decode bb_Point_hasRoomForReading 0 = .ok (.aload_n 0, 1) := by decide +kernel
theorem dd_Point_hasRoomForReading_1 : decode bb_Point_hasRoomForReading 1 = .ok (.getfield 21, 3) := by decide +kernel
theorem dd_Point_hasRoomForReading_4 : decode bb_Point_hasRoomForReading 4 = .ok (.getfield 84, 3) := by decide +kernel
theorem dd_Point_hasRoomForReading_7 : decode bb_Point_hasRoomForReading 7 = .ok (.bipush 22, 2) := by decide +kernel
theorem dd_Point_hasRoomForReading_9 : decode bb_Point_hasRoomForReading 9 = .ok (.if_icmp .ge 7, 3) := by decide +kernel
theorem dd_Point_hasRoomForReading_16 : decode bb_Point_hasRoomForReading 16 = .ok (.iconst 0, 1) := by decide +kernel
theorem dd_Point_hasRoomForReading_12 : decode bb_Point_hasRoomForReading 12 = .ok (.iconst 1, 1) := by decide +kernel
theorem dd_Point_hasRoomForReading_13 : decode bb_Point_hasRoomForReading 13 = .ok (.goto 4, 3) := by decide +kernel
def ww_Point_hasRoomForReading : List Cond := .code yy_Point_hasRoomForReading bb_Point_hasRoomForReading 1 (some .boolean) :: TB
def rm_Point_hasRoomForReading : Room := { frames := 0, cells := 0, slots := 0, locals := 0 }
def wp_Point_hasRoomForReading_17 (o : Nat) (post : fw_S → Int32 → Prop) (S : fw_S) (p0 : Int32) : Prop := fw_bz p0 ∧ (post S p0)
def wp_Point_hasRoomForReading (S : fw_S) (o : Nat) (post : fw_S → Int32 → Prop) : Prop := ((((22 : Int32) ≤ (S.1 (o + 2) 3)) → wp_Point_hasRoomForReading_17 o post S 0) ∧ (¬ ((22 : Int32) ≤ (S.1 (o + 2) 3)) → wp_Point_hasRoomForReading_17 o post S 1))
set_option maxHeartbeats 4000000 in
set_option maxRecDepth 100000 in
theorem mt_Point_hasRoomForReading (l : Launch) (D : va_G) (cA : Nat → ClassId) (b : Nat) (S : fw_S) (o : Nat) (ho : o < 245 ∧ layU o = (2, 0)) (post : fw_S → Int32 → Prop) (hw : wp_Point_hasRoomForReading S o post) : Met l yy_Point_hasRoomForReading ww_Point_hasRoomForReading rm_Point_hasRoomForReading (fw_Pc D CL cA (TYS cA) TK layU b 245 S [.ref (b + o)]) (va_Qi (fun r S' => post S' r) (fw_B D CL cA TK layU b 245) (fw_A b 245)) 0 0 (fw_A b 245) := by
  refine Met.ofW (cc := bb_Point_hasRoomForReading) (maxL := 1) (ret := (some .boolean)) (by decide) rfl ?_
  intro p e s m args below meth c s₁ B hml hv
  obtain ⟨rfl, hP, hK⟩ := hv
  have hx := B.exec
  have hb := B.bytes
  have hr := B.returns
  have hts := atoms_spec (ws := ww_Point_hasRoomForReading) B.pre
  have hown : s.vm.findClass "OutletOffice$Point" = some m.cls := findClass_of_methodNamed B.named
  have hlocks := B.notSynchronized
  have hS : va_S (fw_A b 245) s.heap s.heap [] := va_S.rf
  have hl := lv_entry ([.ref (b + o)]) (n := 1) (Nat.le_of_ble_eq_true rfl)
  rw [lg_entry_eq]
  generalize (lg_sl ([.ref (b + o)]) ++ List.replicate (1 - (lg_sl ([.ref (b + o)])).length) Slot.unset).toArray = ls at hl ⊢
  have hl : lv_has ls 1 [(0, .ref (b + o))] := hl
  have B17 : ∀ (S : fw_S) (p0 : Int32) (ls : Array Slot), wp_Point_hasRoomForReading_17 o post S p0 → fw_P D CL cA layU b 245 (fw_v TK layU b S) s.heap → va_S (fw_A b 245) s.heap s.heap [] → lv_has ls 1 [(0, .ref (b + o))] → W p l e (headSpec ww_Point_hasRoomForReading rm_Point_hasRoomForReading).room s m ([.ref (b + o)] : List Value).toArray below meth c s.heap [] 0 0 (MQ below (va_Qi (fun r S' => post S' r) (fw_B D CL cA TK layU b 245) (fw_A b 245)) ([.ref (b + o)] : List Value).toArray s 0 0 (fw_A b 245)) (F0 m 17 ls [.int p0]) := by
      intro S p0 ls hw hP hS hl
      unfold wp_Point_hasRoomForReading_17 at hw
      obtain ⟨h1, hw⟩ := hw
      exact W.zret (v := p0) hx hb hr (fw_bz.n h1) (fun t ht hW => ⟨⟨_, _, rfl, hw, fw_Bof ht hP⟩, hS.F ht⟩) hS.2.2 dd_Point_hasRoomForReading_17
  unfold wp_Point_hasRoomForReading at hw
  refine lv_aload_n hx hb dd_Point_hasRoomForReading_0 rfl (lv_at hl 0 rfl) ?_
  refine fw_getr hx hb hts in_2 hown hK hP ho (by decide) rfl 1 (by decide) (hts _ (tb_in tw_245)) tk_2_1 dd_Point_hasRoomForReading_1 ?_
  refine fw_geti hx hb hts in_4 hown hK hP (lf_2_1 ho) (by decide) rfl 3 (by decide) (hts _ (tb_in tw_225)) tk_4_3 dd_Point_hasRoomForReading_4 ?_
  refine lv_bipush (v := 22) hx hb dd_Point_hasRoomForReading_7 kc_bp_22 ?_
  refine lv_icmp_ge (tgt := 16) hx hb dd_Point_hasRoomForReading_9 (by decide) (fun h1 => ?_) (fun h1 => ?_)
  · have hw := hw.1 h1
    refine lv_iconst (v := 0) hx hb dd_Point_hasRoomForReading_16 kc_ic_0 ?_
    exact B17 S 0 ls hw hP hS (lv_sub hl [0] rfl)
  · have hw := hw.2 h1
    refine lv_iconst (v := 1) hx hb dd_Point_hasRoomForReading_12 kc_ic_1 ?_
    refine lv_goto (tgt := 17) hx hb dd_Point_hasRoomForReading_13 (by decide) ?_
    exact B17 S 1 ls hw hP hS (lv_sub hl [0] rfl)
theorem dd_Car_secondsToFull_11 : decode bb_Car_secondsToFull 11 = .ok (.iload_n 2, 1) := by decide +kernel
theorem dd_Car_secondsToFull_12 : decode bb_Car_secondsToFull 12 = .ok (.ireturn, 1) := by decide +kernel
theorem dd_Car_secondsToFull_0 : decode bb_Car_secondsToFull 0 = .ok (.aload_n 0, 1) := by decide +kernel
theorem dd_Car_secondsToFull_1 : decode bb_Car_secondsToFull 1 = .ok (.getfield 13, 3) := by decide +kernel
theorem dd_Car_secondsToFull_4 : decode bb_Car_secondsToFull 4 = .ok (.ifCond .ne 7, 3) := by decide +kernel
theorem dd_Car_secondsToFull_7 : decode bb_Car_secondsToFull 7 = .ok (.iload_n 1, 1) := by decide +kernel
theorem dd_Car_secondsToFull_8 : decode bb_Car_secondsToFull 8 = .ok (.ifCond .gt 5, 3) := by decide +kernel
theorem dd_Car_secondsToFull_13 : decode bb_Car_secondsToFull 13 = .ok (.aload_n 0, 1) := by decide +kernel
theorem dd_Car_secondsToFull_14 : decode bb_Car_secondsToFull 14 = .ok (.getfield 23, 3) := by decide +kernel
theorem dd_Car_secondsToFull_17 : decode bb_Car_secondsToFull 17 = .ok (.iload_n 1, 1) := by decide +kernel
theorem dd_Car_secondsToFull_18 : decode bb_Car_secondsToFull 18 = .ok (.iadd, 1) := by decide +kernel
theorem dd_Car_secondsToFull_19 : decode bb_Car_secondsToFull 19 = .ok (.iconst 1, 1) := by decide +kernel
theorem dd_Car_secondsToFull_20 : decode bb_Car_secondsToFull 20 = .ok (.isub, 1) := by decide +kernel
theorem dd_Car_secondsToFull_21 : decode bb_Car_secondsToFull 21 = .ok (.iload_n 1, 1) := by decide +kernel
theorem dd_Car_secondsToFull_22 : decode bb_Car_secondsToFull 22 = .ok (.idiv, 1) := by decide +kernel
theorem dd_Car_secondsToFull_23 : decode bb_Car_secondsToFull 23 = .ok (.ireturn, 1) := by decide +kernel
def ww_Car_secondsToFull : List Cond := .code yy_Car_secondsToFull bb_Car_secondsToFull 3 (some .int) :: TB
def rm_Car_secondsToFull : Room := { frames := 0, cells := 0, slots := 0, locals := 0 }
def wp_Car_secondsToFull_11 (o : Nat) (a1 : Int32) (a2 : Int32) (post : fw_S → Int32 → Prop) (S : fw_S) : Prop := post S a2
def wp_Car_secondsToFull (S : fw_S) (o : Nat) (a1 : Int32) (a2 : Int32) (post : fw_S → Int32 → Prop) : Prop := ((¬ ((S.1 o 1) = 0) → wp_Car_secondsToFull_11 o a1 a2 post S) ∧ (((S.1 o 1) = 0) → (((0 < a1) → ¬ a1 = 0 ∧ (post S ((((S.1 o 4) + a1) - 1) / a1))) ∧ (¬ (0 < a1) → wp_Car_secondsToFull_11 o a1 a2 post S))))
set_option maxHeartbeats 4000000 in
set_option maxRecDepth 100000 in
theorem mt_Car_secondsToFull (l : Launch) (D : va_G) (cA : Nat → ClassId) (b : Nat) (S : fw_S) (o : Nat) (a1 : Int32) (a2 : Int32) (ho : o < 245 ∧ layU o = (3, 0)) (post : fw_S → Int32 → Prop) (hw : wp_Car_secondsToFull S o a1 a2 post) : Met l yy_Car_secondsToFull ww_Car_secondsToFull rm_Car_secondsToFull (fw_Pc D CL cA (TYS cA) TK layU b 245 S [.ref (b + o), .int a1, .int a2]) (va_Qi (fun r S' => post S' r) (fw_B D CL cA TK layU b 245) (fw_A b 245)) 0 0 (fw_A b 245) := by
  refine Met.ofW (cc := bb_Car_secondsToFull) (maxL := 3) (ret := (some .int)) (by decide) rfl ?_
  intro p e s m args below meth c s₁ B hml hv
  obtain ⟨rfl, hP, hK⟩ := hv
  have hx := B.exec
  have hb := B.bytes
  have hr := B.returns
  have hts := atoms_spec (ws := ww_Car_secondsToFull) B.pre
  have hown : s.vm.findClass "OutletOffice$Car" = some m.cls := findClass_of_methodNamed B.named
  have hlocks := B.notSynchronized
  have hS : va_S (fw_A b 245) s.heap s.heap [] := va_S.rf
  have hl := lv_entry ([.ref (b + o), .int a1, .int a2]) (n := 3) (Nat.le_of_ble_eq_true rfl)
  rw [lg_entry_eq]
  generalize (lg_sl ([.ref (b + o), .int a1, .int a2]) ++ List.replicate (3 - (lg_sl ([.ref (b + o), .int a1, .int a2])).length) Slot.unset).toArray = ls at hl ⊢
  have hl : lv_has ls 3 [(0, .ref (b + o)), (1, .int a1), (2, .int a2)] := hl
  have B11 : ∀ (S : fw_S) (ls : Array Slot), wp_Car_secondsToFull_11 o a1 a2 post S → fw_P D CL cA layU b 245 (fw_v TK layU b S) s.heap → va_S (fw_A b 245) s.heap s.heap [] → lv_has ls 3 [(0, .ref (b + o)), (1, .int a1), (2, .int a2)] → W p l e (headSpec ww_Car_secondsToFull rm_Car_secondsToFull).room s m ([.ref (b + o), .int a1, .int a2] : List Value).toArray below meth c s.heap [] 0 0 (MQ below (va_Qi (fun r S' => post S' r) (fw_B D CL cA TK layU b 245) (fw_A b 245)) ([.ref (b + o), .int a1, .int a2] : List Value).toArray s 0 0 (fw_A b 245)) (F0 m 11 ls []) := by
      intro S ls hw hP hS hl
      unfold wp_Car_secondsToFull_11 at hw
      refine lv_iload_n hx hb dd_Car_secondsToFull_11 rfl (lv_at hl 2 rfl) ?_
      exact W.iret (v := a2) hx hb hr (fun t ht hW => ⟨⟨_, _, rfl, hw, fw_Bof ht hP⟩, hS.F ht⟩) hS.2.2 dd_Car_secondsToFull_12
  unfold wp_Car_secondsToFull at hw
  refine lv_aload_n hx hb dd_Car_secondsToFull_0 rfl (lv_at hl 0 rfl) ?_
  refine fw_geti hx hb hts in_3 hown hK hP ho (by decide) rfl 1 (by decide) (hts _ (tb_in tw_160)) tk_3_1 dd_Car_secondsToFull_1 ?_
  refine lv_if_ne (tgt := 11) hx hb dd_Car_secondsToFull_4 (by decide) (fun h1 => ?_) (fun h1 => ?_)
  · have hw := hw.1 h1
    exact B11 S ls hw hP hS (lv_sub hl [0, 1, 2] rfl)
  · have hw := hw.2 h1
    refine lv_iload_n hx hb dd_Car_secondsToFull_7 rfl (lv_at hl 1 rfl) ?_
    refine lv_if_gt (tgt := 13) hx hb dd_Car_secondsToFull_8 (by decide) (fun h2 => ?_) (fun h2 => ?_)
    · have hw := hw.1 h2
      refine lv_aload_n hx hb dd_Car_secondsToFull_13 rfl (lv_at hl 0 rfl) ?_
      refine fw_geti hx hb hts in_3 hown hK hP ho (by decide) rfl 4 (by decide) (hts _ (tb_in tw_168)) tk_3_4 dd_Car_secondsToFull_14 ?_
      refine lv_iload_n hx hb dd_Car_secondsToFull_17 rfl (lv_at hl 1 rfl) ?_
      refine lv_iadd hx hb dd_Car_secondsToFull_18 ?_
      refine lv_iconst (v := 1) hx hb dd_Car_secondsToFull_19 kc_ic_1 ?_
      refine lv_isub hx hb dd_Car_secondsToFull_20 ?_
      refine lv_iload_n hx hb dd_Car_secondsToFull_21 rfl (lv_at hl 1 rfl) ?_
      obtain ⟨h3, hw⟩ := hw
      refine lv_idiv hx hb dd_Car_secondsToFull_22 h3 ?_
      exact W.iret (v := (((S.1 o 4) + a1) - 1) / a1) hx hb hr (fun t ht hW => ⟨⟨_, _, rfl, hw, fw_Bof ht hP⟩, hS.F ht⟩) hS.2.2 dd_Car_secondsToFull_23
    · have hw := hw.2 h2
      exact B11 S ls hw hP hS (lv_sub hl [0, 1, 2] rfl)
