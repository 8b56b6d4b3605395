theorem dd_Bill_grow_0 : decode bb_Bill_grow 0 = .ok (.aload_n 0, 1) := by decide +kernel
theorem dd_Bill_grow_1 : decode bb_Bill_grow 1 = .ok (.dup, 1) := by decide +kernel
theorem dd_Bill_grow_2 : decode bb_Bill_grow 2 = .ok (.getfield 22, 3) := by decide +kernel
theorem dd_Bill_grow_5 : decode bb_Bill_grow 5 = .ok (.aload_n 1, 1) := by decide +kernel
theorem dd_Bill_grow_6 : decode bb_Bill_grow 6 = .ok (.getfield 39, 3) := by decide +kernel
theorem dd_Bill_grow_9 : decode bb_Bill_grow 9 = .ok (.aload_n 0, 1) := by decide +kernel
theorem dd_Bill_grow_10 : decode bb_Bill_grow 10 = .ok (.getfield 29, 3) := by decide +kernel
theorem dd_Bill_grow_13 : decode bb_Bill_grow 13 = .ok (.isub, 1) := by decide +kernel
theorem dd_Bill_grow_14 : decode bb_Bill_grow 14 = .ok (.i2l, 1) := by decide +kernel
theorem dd_Bill_grow_15 : decode bb_Bill_grow 15 = .ok (.iload_n 2, 1) := by decide +kernel
theorem dd_Bill_grow_16 : decode bb_Bill_grow 16 = .ok (.i2l, 1) := by decide +kernel
theorem dd_Bill_grow_17 : decode bb_Bill_grow 17 = .ok (.lmul, 1) := by decide +kernel
theorem dd_Bill_grow_18 : decode bb_Bill_grow 18 = .ok (.ladd, 1) := by decide +kernel
theorem dd_Bill_grow_19 : decode bb_Bill_grow 19 = .ok (.putfield 22, 3) := by decide +kernel
theorem dd_Bill_grow_22 : decode bb_Bill_grow 22 = .ok (.aload_n 0, 1) := by decide +kernel
theorem dd_Bill_grow_23 : decode bb_Bill_grow 23 = .ok (.aload_n 1, 1) := by decide +kernel
theorem dd_Bill_grow_24 : decode bb_Bill_grow 24 = .ok (.getfield 39, 3) := by decide +kernel
theorem dd_Bill_grow_27 : decode bb_Bill_grow 27 = .ok (.putfield 29, 3) := by decide +kernel
theorem dd_Bill_grow_30 : decode bb_Bill_grow 30 = .ok (.aload_n 0, 1) := by decide +kernel
theorem dd_Bill_grow_31 : decode bb_Bill_grow 31 = .ok (.aload_n 1, 1) := by decide +kernel
theorem dd_Bill_grow_32 : decode bb_Bill_grow 32 = .ok (.getfield 40, 3) := by decide +kernel
theorem dd_Bill_grow_35 : decode bb_Bill_grow 35 = .ok (.putfield 32, 3) := by decide +kernel
theorem dd_Bill_grow_38 : decode bb_Bill_grow 38 = .ok (.return_, 1) := by decide +kernel
def ww_Bill_grow : List Cond := .code yy_Bill_grow bb_Bill_grow 3 none :: TB
def rm_Bill_grow : Room := { frames := 0, cells := 0, slots := 0, locals := 0 }
def wp_Bill_grow (S : fw_S) (o : Nat) (o1 : Nat) (a2 : Int32) (post : fw_S → Prop) : Prop := ∀ S1 : fw_S, S1 = fw_sl S o 3 ((S.2 o 3) + ((((S.1 o1 4) - (S.1 o 5) : Int32).toInt64) * a2.toInt64)) → ∀ S2 : fw_S, S2 = fw_si S1 o 5 (S1.1 o1 4) → ∀ S3 : fw_S, S3 = fw_si S2 o 6 (S2.1 o1 3) → post S3
set_option maxHeartbeats 4000000 in
set_option maxRecDepth 100000 in
theorem mt_Bill_grow (l : Launch) (D : va_G) (cA : Nat → ClassId) (b : Nat) (S : fw_S) (o : Nat) (o1 : Nat) (a2 : Int32) (ho : o < 245 ∧ layU o = (8, 0)) (hq1 : o1 < 245 ∧ layU o1 = (5, 0)) (post : fw_S → Prop) (hw : wp_Bill_grow S o o1 a2 post) : Met l yy_Bill_grow ww_Bill_grow rm_Bill_grow (fw_Pc D CL cA (TYS cA) TK layU b 245 S [.ref (b + o), .ref (b + o1), .int a2]) (va_Qv post (fw_B D CL cA TK layU b 245) (fw_A b 245)) 0 0 (fw_A b 245) := by
  refine Met.ofW (cc := bb_Bill_grow) (maxL := 3) (ret := none) (by decide) rfl ?_
  intro p e s m args below meth c s₁ B hml hv
  obtain ⟨rfl, hP, hK⟩ := hv
  have hx := B.exec
  have hb := B.bytes
  have hr := B.returns
  have hts := atoms_spec (ws := ww_Bill_grow) B.pre
  have hown : s.vm.findClass "OutletOffice$Bill" = some m.cls := findClass_of_methodNamed B.named
  have hlocks := B.notSynchronized
  have hS : va_S (fw_A b 245) s.heap s.heap [] := va_S.rf
  have hl := lv_entry ([.ref (b + o), .ref (b + o1), .int a2]) (n := 3) (Nat.le_of_ble_eq_true rfl)
  rw [lg_entry_eq]
  generalize (lg_sl ([.ref (b + o), .ref (b + o1), .int a2]) ++ List.replicate (3 - (lg_sl ([.ref (b + o), .ref (b + o1), .int a2])).length) Slot.unset).toArray = ls at hl ⊢
  have hl : lv_has ls 3 [(0, .ref (b + o)), (1, .ref (b + o1)), (2, .int a2)] := hl
  unfold wp_Bill_grow at hw
  refine lv_aload_n hx hb dd_Bill_grow_0 rfl (lv_at hl 0 rfl) ?_
  refine lv_dup hx hb dd_Bill_grow_1 rfl ?_
  refine fw_getl hx hb hts in_8 hown hK hP ho (by decide) rfl 3 (by decide) (hts _ (tb_in tw_86)) tk_8_3 dd_Bill_grow_2 ?_
  refine lv_aload_n hx hb dd_Bill_grow_5 rfl (lv_at hl 1 rfl) ?_
  refine fw_geti hx hb hts in_5 hown hK hP hq1 (by decide) rfl 4 (by decide) (hts _ (tb_in tw_205)) tk_5_4 dd_Bill_grow_6 ?_
  refine lv_aload_n hx hb dd_Bill_grow_9 rfl (lv_at hl 0 rfl) ?_
  refine fw_geti hx hb hts in_8 hown hK hP ho (by decide) rfl 5 (by decide) (hts _ (tb_in tw_91)) tk_8_5 dd_Bill_grow_10 ?_
  refine lv_isub hx hb dd_Bill_grow_13 ?_
  refine lv_i2l hx hb dd_Bill_grow_14 rfl ?_
  refine lv_iload_n hx hb dd_Bill_grow_15 rfl (lv_at hl 2 rfl) ?_
  refine lv_i2l hx hb dd_Bill_grow_16 rfl ?_
  refine lv_lmul hx hb dd_Bill_grow_17 ?_
  refine lv_ladd hx hb dd_Bill_grow_18 ?_
  refine fw_putl hx hb hts in_8 F_ty_8 F_tyok_8 F_nm_8 hown hK hP hS (fw_A.in ho.1) ho (by decide) rfl 3 (by decide) (hts _ (tb_in tw_86)) rfl tk_8_3 (ty := .long) (by decide +kernel) rfl rfl dd_Bill_grow_19 (fun H locs hP hS => ?_)
  obtain ⟨S1, e_S1⟩ : ∃ z, z = fw_sl S o 3 ((S.2 o 3) + ((((S.1 o1 4) - (S.1 o 5) : Int32).toInt64) * a2.toInt64)) := ⟨_, rfl⟩
  rw [← e_S1] at hP
  have hw := hw S1 e_S1
  refine lv_aload_n hx hb dd_Bill_grow_22 rfl (lv_at hl 0 rfl) ?_
  refine lv_aload_n hx hb dd_Bill_grow_23 rfl (lv_at hl 1 rfl) ?_
  refine fw_geti hx hb hts in_5 hown hK hP hq1 (by decide) rfl 4 (by decide) (hts _ (tb_in tw_205)) tk_5_4 dd_Bill_grow_24 ?_
  refine fw_puti hx hb hts in_8 F_ty_8 F_tyok_8 F_nm_8 hown hK hP hS (fw_A.in ho.1) ho (by decide) rfl 5 (by decide) (hts _ (tb_in tw_91)) rfl tk_8_5 (ty := .int) (by decide +kernel) rfl rfl dd_Bill_grow_27 (fun H locs hP hS => ?_)
  obtain ⟨S2, e_S2⟩ : ∃ z, z = fw_si S1 o 5 (S1.1 o1 4) := ⟨_, rfl⟩
  rw [← e_S2] at hP
  have hw := hw S2 e_S2
  refine lv_aload_n hx hb dd_Bill_grow_30 rfl (lv_at hl 0 rfl) ?_
  refine lv_aload_n hx hb dd_Bill_grow_31 rfl (lv_at hl 1 rfl) ?_
  refine fw_geti hx hb hts in_5 hown hK hP hq1 (by decide) rfl 3 (by decide) (hts _ (tb_in tw_203)) tk_5_3 dd_Bill_grow_32 ?_
  refine fw_puti hx hb hts in_8 F_ty_8 F_tyok_8 F_nm_8 hown hK hP hS (fw_A.in ho.1) ho (by decide) rfl 6 (by decide) (hts _ (tb_in tw_93)) rfl tk_8_6 (ty := .int) (by decide +kernel) rfl rfl dd_Bill_grow_35 (fun H locs hP hS => ?_)
  obtain ⟨S3, e_S3⟩ : ∃ z, z = fw_si S2 o 6 (S2.1 o1 3) := ⟨_, rfl⟩
  rw [← e_S3] at hP
  have hw := hw S3 e_S3
  exact W.vret hx hb hr (fun t ht hW => ⟨⟨_, rfl, hw, fw_Bof ht hP⟩, hS.F ht⟩) hS.2.2 dd_Bill_grow_38
theorem dd_Bill_cents_0 : decode bb_Bill_cents 0 = .ok (.aload_n 0, 1) := by decide +kernel
theorem dd_Bill_cents_1 : decode bb_Bill_cents 1 = .ok (.getfield 22, 3) := by decide +kernel
theorem dd_Bill_cents_4 : decode bb_Bill_cents 4 = .ok (.ldc2_w 41, 3) := by decide +kernel
theorem dd_Bill_cents_7 : decode bb_Bill_cents 7 = .ok (.ladd, 1) := by decide +kernel
theorem dd_Bill_cents_8 : decode bb_Bill_cents 8 = .ok (.ldc2_w 43, 3) := by decide +kernel
theorem dd_Bill_cents_11 : decode bb_Bill_cents 11 = .ok (.ldiv, 1) := by decide +kernel
theorem dd_Bill_cents_12 : decode bb_Bill_cents 12 = .ok (.l2i, 1) := by decide +kernel
theorem dd_Bill_cents_13 : decode bb_Bill_cents 13 = .ok (.ireturn, 1) := by decide +kernel
def ww_Bill_cents : List Cond := .code yy_Bill_cents bb_Bill_cents 1 (some .int) :: TB
def rm_Bill_cents : Room := { frames := 0, cells := 0, slots := 0, locals := 0 }
def wp_Bill_cents (S : fw_S) (o : Nat) (post : fw_S → Int32 → Prop) : Prop := post S ((((S.2 o 3) + 5000) / 10000 : Int64).toInt32)
set_option maxHeartbeats 4000000 in
set_option maxRecDepth 100000 in
theorem mt_Bill_cents (l : Launch) (D : va_G) (cA : Nat → ClassId) (b : Nat) (S : fw_S) (o : Nat) (ho : o < 245 ∧ layU o = (8, 0)) (post : fw_S → Int32 → Prop) (hw : wp_Bill_cents S o post) : Met l yy_Bill_cents ww_Bill_cents rm_Bill_cents (fw_Pc D CL cA (TYS cA) TK layU b 245 S [.ref (b + o)]) (va_Qi (fun r S' => post S' r) (fw_B D CL cA TK layU b 245) (fw_A b 245)) 0 0 (fw_A b 245) := by
  refine Met.ofW (cc := bb_Bill_cents) (maxL := 1) (ret := (some .int)) (by decide) rfl ?_
  intro p e s m args below meth c s₁ B hml hv
  obtain ⟨rfl, hP, hK⟩ := hv
  have hx := B.exec
  have hb := B.bytes
  have hr := B.returns
  have hts := atoms_spec (ws := ww_Bill_cents) B.pre
  have hown : s.vm.findClass "OutletOffice$Bill" = some m.cls := findClass_of_methodNamed B.named
  have hlocks := B.notSynchronized
  have hS : va_S (fw_A b 245) s.heap s.heap [] := va_S.rf
  have hl := lv_entry ([.ref (b + o)]) (n := 1) (Nat.le_of_ble_eq_true rfl)
  rw [lg_entry_eq]
  generalize (lg_sl ([.ref (b + o)]) ++ List.replicate (1 - (lg_sl ([.ref (b + o)])).length) Slot.unset).toArray = ls at hl ⊢
  have hl : lv_has ls 1 [(0, .ref (b + o))] := hl
  unfold wp_Bill_cents at hw
  refine lv_aload_n hx hb dd_Bill_cents_0 rfl (lv_at hl 0 rfl) ?_
  refine fw_getl hx hb hts in_8 hown hK hP ho (by decide) rfl 3 (by decide) (hts _ (tb_in tw_86)) tk_8_3 dd_Bill_cents_1 ?_
  refine lv_ldc2 (v := 5000) hx hb hown (hts _ (tb_in tw_618)) dd_Bill_cents_4 ?_
  refine lv_ladd hx hb dd_Bill_cents_7 ?_
  refine lv_ldc2 (v := 10000) hx hb hown (hts _ (tb_in tw_619)) dd_Bill_cents_8 ?_
  refine lv_ldiv hx hb dd_Bill_cents_11 (by decide) ?_
  refine lv_l2i hx hb dd_Bill_cents_12 rfl ?_
  exact W.iret (v := (((S.2 o 3) + 5000) / 10000 : Int64).toInt32) hx hb hr (fun t ht hW => ⟨⟨_, _, rfl, hw, fw_Bof ht hP⟩, hS.F ht⟩) hS.2.2 dd_Bill_cents_13
theorem dd_Car_come_0 : decode bb_Car_come 0 = .ok (.aload_n 0, 1) := by decide +kernel
theorem dd_Car_come_1 : decode bb_Car_come 1 = .ok (.iconst 1, 1) := by decide +kernel
theorem dd_Car_come_2 : decode bb_Car_come 2 = .ok (.putfield 7, 3) := by decide +kernel
theorem dd_Car_come_5 : decode bb_Car_come 5 = .ok (.aload_n 0, 1) := by decide +kernel
theorem dd_Car_come_6 : decode bb_Car_come 6 = .ok (.iconst 0, 1) := by decide +kernel
theorem dd_Car_come_7 : decode bb_Car_come 7 = .ok (.putfield 13, 3) := by decide +kernel
theorem dd_Car_come_10 : decode bb_Car_come 10 = .ok (.aload_n 0, 1) := by decide +kernel
theorem dd_Car_come_11 : decode bb_Car_come 11 = .ok (.iload_n 1, 1) := by decide +kernel
theorem dd_Car_come_12 : decode bb_Car_come 12 = .ok (.putfield 16, 3) := by decide +kernel
theorem dd_Car_come_15 : decode bb_Car_come 15 = .ok (.aload_n 0, 1) := by decide +kernel
theorem dd_Car_come_16 : decode bb_Car_come 16 = .ok (.iload_n 2, 1) := by decide +kernel
theorem dd_Car_come_17 : decode bb_Car_come 17 = .ok (.putfield 20, 3) := by decide +kernel
theorem dd_Car_come_20 : decode bb_Car_come 20 = .ok (.aload_n 0, 1) := by decide +kernel
theorem dd_Car_come_21 : decode bb_Car_come 21 = .ok (.iload_n 3, 1) := by decide +kernel
theorem dd_Car_come_22 : decode bb_Car_come 22 = .ok (.putfield 23, 3) := by decide +kernel
theorem dd_Car_come_25 : decode bb_Car_come 25 = .ok (.return_, 1) := by decide +kernel
def ww_Car_come : List Cond := .code yy_Car_come bb_Car_come 4 none :: TB
def rm_Car_come : Room := { frames := 0, cells := 0, slots := 0, locals := 0 }
def wp_Car_come (S : fw_S) (o : Nat) (a1 : Int32) (a2 : Int32) (a3 : Int32) (post : fw_S → Prop) : Prop := ∀ S1 : fw_S, S1 = fw_si S o 0 1 → ∀ S2 : fw_S, S2 = fw_si S1 o 1 0 → ∀ S3 : fw_S, S3 = fw_si S2 o 2 a1 → ∀ S4 : fw_S, S4 = fw_si S3 o 3 a2 → ∀ S5 : fw_S, S5 = fw_si S4 o 4 a3 → post S5
set_option maxHeartbeats 4000000 in
set_option maxRecDepth 100000 in
theorem mt_Car_come (l : Launch) (D : va_G) (cA : Nat → ClassId) (b : Nat) (S : fw_S) (o : Nat) (a1 : Int32) (a2 : Int32) (a3 : Int32) (ho : o < 245 ∧ layU o = (3, 0)) (post : fw_S → Prop) (hw : wp_Car_come S o a1 a2 a3 post) : Met l yy_Car_come ww_Car_come rm_Car_come (fw_Pc D CL cA (TYS cA) TK layU b 245 S [.ref (b + o), .int a1, .int a2, .int a3]) (va_Qv post (fw_B D CL cA TK layU b 245) (fw_A b 245)) 0 0 (fw_A b 245) := by
  refine Met.ofW (cc := bb_Car_come) (maxL := 4) (ret := none) (by decide) rfl ?_
  intro p e s m args below meth c s₁ B hml hv
  obtain ⟨rfl, hP, hK⟩ := hv
  have hx := B.exec
  have hb := B.bytes
  have hr := B.returns
  have hts := atoms_spec (ws := ww_Car_come) B.pre
  have hown : s.vm.findClass "OutletOffice$Car" = some m.cls := findClass_of_methodNamed B.named
  have hlocks := B.notSynchronized
  have hS : va_S (fw_A b 245) s.heap s.heap [] := va_S.rf
  have hl := lv_entry ([.ref (b + o), .int a1, .int a2, .int a3]) (n := 4) (Nat.le_of_ble_eq_true rfl)
  rw [lg_entry_eq]
  generalize (lg_sl ([.ref (b + o), .int a1, .int a2, .int a3]) ++ List.replicate (4 - (lg_sl ([.ref (b + o), .int a1, .int a2, .int a3])).length) Slot.unset).toArray = ls at hl ⊢
  have hl : lv_has ls 4 [(0, .ref (b + o)), (1, .int a1), (2, .int a2), (3, .int a3)] := hl
  unfold wp_Car_come at hw
  refine lv_aload_n hx hb dd_Car_come_0 rfl (lv_at hl 0 rfl) ?_
  refine lv_iconst (v := 1) hx hb dd_Car_come_1 kc_ic_1 ?_
  refine fw_puti hx hb hts in_3 F_ty_3 F_tyok_3 F_nm_3 hown hK hP hS (fw_A.in ho.1) ho (by decide) rfl 0 (by decide) (hts _ (tb_in tw_157)) rfl tk_3_0 (ty := .boolean) (by decide +kernel) rfl rfl dd_Car_come_2 (fun H locs hP hS => ?_)
  obtain ⟨S1, e_S1⟩ : ∃ z, z = fw_si S o 0 1 := ⟨_, rfl⟩
  rw [← e_S1] at hP
  have hw := hw S1 e_S1
  refine lv_aload_n hx hb dd_Car_come_5 rfl (lv_at hl 0 rfl) ?_
  refine lv_iconst (v := 0) hx hb dd_Car_come_6 kc_ic_0 ?_
  refine fw_puti hx hb hts in_3 F_ty_3 F_tyok_3 F_nm_3 hown hK hP hS (fw_A.in ho.1) ho (by decide) rfl 1 (by decide) (hts _ (tb_in tw_160)) rfl tk_3_1 (ty := .boolean) (by decide +kernel) rfl rfl dd_Car_come_7 (fun H locs hP hS => ?_)
  obtain ⟨S2, e_S2⟩ : ∃ z, z = fw_si S1 o 1 0 := ⟨_, rfl⟩
  rw [← e_S2] at hP
  have hw := hw S2 e_S2
  refine lv_aload_n hx hb dd_Car_come_10 rfl (lv_at hl 0 rfl) ?_
  refine lv_iload_n hx hb dd_Car_come_11 rfl (lv_at hl 1 rfl) ?_
  refine fw_puti hx hb hts in_3 F_ty_3 F_tyok_3 F_nm_3 hown hK hP hS (fw_A.in ho.1) ho (by decide) rfl 2 (by decide) (hts _ (tb_in tw_162)) rfl tk_3_2 (ty := .int) (by decide +kernel) rfl rfl dd_Car_come_12 (fun H locs hP hS => ?_)
  obtain ⟨S3, e_S3⟩ : ∃ z, z = fw_si S2 o 2 a1 := ⟨_, rfl⟩
  rw [← e_S3] at hP
  have hw := hw S3 e_S3
  refine lv_aload_n hx hb dd_Car_come_15 rfl (lv_at hl 0 rfl) ?_
  refine lv_iload_n hx hb dd_Car_come_16 rfl (lv_at hl 2 rfl) ?_
  refine fw_puti hx hb hts in_3 F_ty_3 F_tyok_3 F_nm_3 hown hK hP hS (fw_A.in ho.1) ho (by decide) rfl 3 (by decide) (hts _ (tb_in tw_166)) rfl tk_3_3 (ty := .int) (by decide +kernel) rfl rfl dd_Car_come_17 (fun H locs hP hS => ?_)
  obtain ⟨S4, e_S4⟩ : ∃ z, z = fw_si S3 o 3 a2 := ⟨_, rfl⟩
  rw [← e_S4] at hP
  have hw := hw S4 e_S4
  refine lv_aload_n hx hb dd_Car_come_20 rfl (lv_at hl 0 rfl) ?_
  refine lv_iload_n hx hb dd_Car_come_21 rfl (lv_at hl 3 rfl) ?_
  refine fw_puti hx hb hts in_3 F_ty_3 F_tyok_3 F_nm_3 hown hK hP hS (fw_A.in ho.1) ho (by decide) rfl 4 (by decide) (hts _ (tb_in tw_168)) rfl tk_3_4 (ty := .int) (by decide +kernel) rfl rfl dd_Car_come_22 (fun H locs hP hS => ?_)
  obtain ⟨S5, e_S5⟩ : ∃ z, z = fw_si S4 o 4 a3 := ⟨_, rfl⟩
  rw [← e_S5] at hP
  have hw := hw S5 e_S5
  exact W.vret hx hb hr (fun t ht hW => ⟨⟨_, rfl, hw, fw_Bof ht hP⟩, hS.F ht⟩) hS.2.2 dd_Car_come_25
theorem dd_Car_go_0 : decode bb_Car_go 0 = .ok (.aload_n 0, 1) := by decide +kernel
theorem dd_Car_go_1 : decode bb_Car_go 1 = .ok (.iconst 0, 1) := by decide +kernel
theorem dd_Car_go_2 : decode bb_Car_go 2 = .ok (.putfield 7, 3) := by decide +kernel
theorem dd_Car_go_5 : decode bb_Car_go 5 = .ok (.aload_n 0, 1) := by decide +kernel
theorem dd_Car_go_6 : decode bb_Car_go 6 = .ok (.iconst 0, 1) := by decide +kernel
theorem dd_Car_go_7 : decode bb_Car_go 7 = .ok (.putfield 13, 3) := by decide +kernel
theorem dd_Car_go_10 : decode bb_Car_go 10 = .ok (.aload_n 0, 1) := by decide +kernel
theorem dd_Car_go_11 : decode bb_Car_go 11 = .ok (.iconst 0, 1) := by decide +kernel
theorem dd_Car_go_12 : decode bb_Car_go 12 = .ok (.putfield 16, 3) := by decide +kernel
theorem dd_Car_go_15 : decode bb_Car_go 15 = .ok (.return_, 1) := by decide +kernel
def ww_Car_go : List Cond := .code yy_Car_go bb_Car_go 1 none :: TB
def rm_Car_go : Room := { frames := 0, cells := 0, slots := 0, locals := 0 }
def wp_Car_go (S : fw_S) (o : Nat) (post : fw_S → Prop) : Prop := ∀ S1 : fw_S, S1 = fw_si S o 0 0 → ∀ S2 : fw_S, S2 = fw_si S1 o 1 0 → ∀ S3 : fw_S, S3 = fw_si S2 o 2 0 → post S3
set_option maxHeartbeats 4000000 in
set_option maxRecDepth 100000 in
theorem mt_Car_go (l : Launch) (D : va_G) (cA : Nat → ClassId) (b : Nat) (S : fw_S) (o : Nat) (ho : o < 245 ∧ layU o = (3, 0)) (post : fw_S → Prop) (hw : wp_Car_go S o post) : Met l yy_Car_go ww_Car_go rm_Car_go (fw_Pc D CL cA (TYS cA) TK layU b 245 S [.ref (b + o)]) (va_Qv post (fw_B D CL cA TK layU b 245) (fw_A b 245)) 0 0 (fw_A b 245) := by
  refine Met.ofW (cc := bb_Car_go) (maxL := 1) (ret := none) (by decide) rfl ?_
  intro p e s m args below meth c s₁ B hml hv
  obtain ⟨rfl, hP, hK⟩ := hv
  have hx := B.exec
  have hb := B.bytes
  have hr := B.returns
  have hts := atoms_spec (ws := ww_Car_go) B.pre
  have hown : s.vm.findClass "OutletOffice$Car" = some m.cls := findClass_of_methodNamed B.named
  have hlocks := B.notSynchronized
  have hS : va_S (fw_A b 245) s.heap s.heap [] := va_S.rf
  have hl := lv_entry ([.ref (b + o)]) (n := 1) (Nat.le_of_ble_eq_true rfl)
  rw [lg_entry_eq]
  generalize (lg_sl ([.ref (b + o)]) ++ List.replicate (1 - (lg_sl ([.ref (b + o)])).length) Slot.unset).toArray = ls at hl ⊢
  have hl : lv_has ls 1 [(0, .ref (b + o))] := hl
  unfold wp_Car_go at hw
  refine lv_aload_n hx hb dd_Car_go_0 rfl (lv_at hl 0 rfl) ?_
  refine lv_iconst (v := 0) hx hb dd_Car_go_1 kc_ic_0 ?_
  refine fw_puti hx hb hts in_3 F_ty_3 F_tyok_3 F_nm_3 hown hK hP hS (fw_A.in ho.1) ho (by decide) rfl 0 (by decide) (hts _ (tb_in tw_157)) rfl tk_3_0 (ty := .boolean) (by decide +kernel) rfl rfl dd_Car_go_2 (fun H locs hP hS => ?_)
  obtain ⟨S1, e_S1⟩ : ∃ z, z = fw_si S o 0 0 := ⟨_, rfl⟩
  rw [← e_S1] at hP
  have hw := hw S1 e_S1
  refine lv_aload_n hx hb dd_Car_go_5 rfl (lv_at hl 0 rfl) ?_
  refine lv_iconst (v := 0) hx hb dd_Car_go_6 kc_ic_0 ?_
  refine fw_puti hx hb hts in_3 F_ty_3 F_tyok_3 F_nm_3 hown hK hP hS (fw_A.in ho.1) ho (by decide) rfl 1 (by decide) (hts _ (tb_in tw_160)) rfl tk_3_1 (ty := .boolean) (by decide +kernel) rfl rfl dd_Car_go_7 (fun H locs hP hS => ?_)
  obtain ⟨S2, e_S2⟩ : ∃ z, z = fw_si S1 o 1 0 := ⟨_, rfl⟩
  rw [← e_S2] at hP
  have hw := hw S2 e_S2
  refine lv_aload_n hx hb dd_Car_go_10 rfl (lv_at hl 0 rfl) ?_
  refine lv_iconst (v := 0) hx hb dd_Car_go_11 kc_ic_0 ?_
  refine fw_puti hx hb hts in_3 F_ty_3 F_tyok_3 F_nm_3 hown hK hP hS (fw_A.in ho.1) ho (by decide) rfl 2 (by decide) (hts _ (tb_in tw_162)) rfl tk_3_2 (ty := .int) (by decide +kernel) rfl rfl dd_Car_go_12 (fun H locs hP hS => ?_)
  obtain ⟨S3, e_S3⟩ : ∃ z, z = fw_si S2 o 2 0 := ⟨_, rfl⟩
  rw [← e_S3] at hP
  have hw := hw S3 e_S3
  exact W.vret hx hb hr (fun t ht hW => ⟨⟨_, rfl, hw, fw_Bof ht hP⟩, hS.F ht⟩) hS.2.2 dd_Car_go_15
theorem dd_Car_presence_21 : decode bb_Car_presence 21 = .ok (.ireturn, 1) := by decide +kernel
theorem dd_Car_presence_0 : decode bb_Car_presence 0 = .ok (.aload_n 0, 1) := by decide +kernel
theorem dd_Car_presence_1 : decode bb_Car_presence 1 = .ok (.getfield 7, 3) := by decide +kernel
theorem dd_Car_presence_4 : decode bb_Car_presence 4 = .ok (.ifCond .ne 5, 3) := by decide +kernel
theorem dd_Car_presence_9 : decode bb_Car_presence 9 = .ok (.aload_n 0, 1) := by decide +kernel
theorem dd_Car_presence_10 : decode bb_Car_presence 10 = .ok (.getfield 13, 3) := by decide +kernel
theorem dd_Car_presence_13 : decode bb_Car_presence 13 = .ok (.ifCond .eq 7, 3) := by decide +kernel
theorem dd_Car_presence_20 : decode bb_Car_presence 20 = .ok (.iconst 1, 1) := by decide +kernel
theorem dd_Car_presence_16 : decode bb_Car_presence 16 = .ok (.iconst 2, 1) := by decide +kernel
theorem dd_Car_presence_17 : decode bb_Car_presence 17 = .ok (.goto 4, 3) := by decide +kernel
theorem dd_Car_presence_7 : decode bb_Car_presence 7 = .ok (.iconst 0, 1) := by decide +kernel
theorem dd_Car_presence_8 : decode bb_Car_presence 8 = .ok (.ireturn, 1) := by decide +kernel
def ww_Car_presence : List Cond := .code yy_Car_presence bb_Car_presence 1 (some .int) :: TB
def rm_Car_presence : Room := { frames := 0, cells := 0, slots := 0, locals := 0 }
def wp_Car_presence_21 (o : Nat) (post : fw_S → Int32 → Prop) (S : fw_S) (p0 : Int32) : Prop := post S p0
def wp_Car_presence (S : fw_S) (o : Nat) (post : fw_S → Int32 → Prop) : Prop := ((¬ ((S.1 o 0) = 0) → ((((S.1 o 1) = 0) → wp_Car_presence_21 o post S 1) ∧ (¬ ((S.1 o 1) = 0) → wp_Car_presence_21 o post S 2))) ∧ (((S.1 o 0) = 0) → post S 0))
set_option maxHeartbeats 4000000 in
set_option maxRecDepth 100000 in
theorem mt_Car_presence (l : Launch) (D : va_G) (cA : Nat → ClassId) (b : Nat) (S : fw_S) (o : Nat) (ho : o < 245 ∧ layU o = (3, 0)) (post : fw_S → Int32 → Prop) (hw : wp_Car_presence S o post) : Met l yy_Car_presence ww_Car_presence rm_Car_presence (fw_Pc D CL cA (TYS cA) TK layU b 245 S [.ref (b + o)]) (va_Qi (fun r S' => post S' r) (fw_B D CL cA TK layU b 245) (fw_A b 245)) 0 0 (fw_A b 245) := by
  refine Met.ofW (cc := bb_Car_presence) (maxL := 1) (ret := (some .int)) (by decide) rfl ?_
  intro p e s m args below meth c s₁ B hml hv
  obtain ⟨rfl, hP, hK⟩ := hv
  have hx := B.exec
  have hb := B.bytes
  have hr := B.returns
  have hts := atoms_spec (ws := ww_Car_presence) B.pre
  have hown : s.vm.findClass "OutletOffice$Car" = some m.cls := findClass_of_methodNamed B.named
  have hlocks := B.notSynchronized
  have hS : va_S (fw_A b 245) s.heap s.heap [] := va_S.rf
  have hl := lv_entry ([.ref (b + o)]) (n := 1) (Nat.le_of_ble_eq_true rfl)
  rw [lg_entry_eq]
  generalize (lg_sl ([.ref (b + o)]) ++ List.replicate (1 - (lg_sl ([.ref (b + o)])).length) Slot.unset).toArray = ls at hl ⊢
  have hl : lv_has ls 1 [(0, .ref (b + o))] := hl
  have B21 : ∀ (S : fw_S) (p0 : Int32) (ls : Array Slot), wp_Car_presence_21 o post S p0 → fw_P D CL cA layU b 245 (fw_v TK layU b S) s.heap → va_S (fw_A b 245) s.heap s.heap [] → lv_has ls 1 [(0, .ref (b + o))] → W p l e (headSpec ww_Car_presence rm_Car_presence).room s m ([.ref (b + o)] : List Value).toArray below meth c s.heap [] 0 0 (MQ below (va_Qi (fun r S' => post S' r) (fw_B D CL cA TK layU b 245) (fw_A b 245)) ([.ref (b + o)] : List Value).toArray s 0 0 (fw_A b 245)) (F0 m 21 ls [.int p0]) := by
      intro S p0 ls hw hP hS hl
      unfold wp_Car_presence_21 at hw
      exact W.iret (v := p0) hx hb hr (fun t ht hW => ⟨⟨_, _, rfl, hw, fw_Bof ht hP⟩, hS.F ht⟩) hS.2.2 dd_Car_presence_21
  unfold wp_Car_presence at hw
  refine lv_aload_n hx hb dd_Car_presence_0 rfl (lv_at hl 0 rfl) ?_
  refine fw_geti hx hb hts in_3 hown hK hP ho (by decide) rfl 0 (by decide) (hts _ (tb_in tw_157)) tk_3_0 dd_Car_presence_1 ?_
  refine lv_if_ne (tgt := 9) hx hb dd_Car_presence_4 (by decide) (fun h1 => ?_) (fun h1 => ?_)
  · have hw := hw.1 h1
    refine lv_aload_n hx hb dd_Car_presence_9 rfl (lv_at hl 0 rfl) ?_
    refine fw_geti hx hb hts in_3 hown hK hP ho (by decide) rfl 1 (by decide) (hts _ (tb_in tw_160)) tk_3_1 dd_Car_presence_10 ?_
    refine lv_if_eq (tgt := 20) hx hb dd_Car_presence_13 (by decide) (fun h2 => ?_) (fun h2 => ?_)
    · have hw := hw.1 h2
      refine lv_iconst (v := 1) hx hb dd_Car_presence_20 kc_ic_1 ?_
      exact B21 S 1 ls hw hP hS (lv_sub hl [0] rfl)
    · have hw := hw.2 h2
      refine lv_iconst (v := 2) hx hb dd_Car_presence_16 kc_ic_2 ?_
      refine lv_goto (tgt := 21) hx hb dd_Car_presence_17 (by decide) ?_
      exact B21 S 2 ls hw hP hS (lv_sub hl [0] rfl)
  · have hw := hw.2 h1
    refine lv_iconst (v := 0) hx hb dd_Car_presence_7 kc_ic_0 ?_
    exact W.iret (v := 0) hx hb hr (fun t ht hW => ⟨⟨_, _, rfl, hw, fw_Bof ht hP⟩, hS.F ht⟩) hS.2.2 dd_Car_presence_8
theorem dd_Car_idleSeconds_17 : decode bb_Car_idleSeconds 17 = .ok (.ireturn, 1) := by decide +kernel
theorem dd_Car_idleSeconds_0 : decode bb_Car_idleSeconds 0 = .ok (.aload_n 0, 1) := by decide +kernel
theorem dd_Car_idleSeconds_1 : decode bb_Car_idleSeconds 1 = .ok (.getfield 13, 3) := by decide +kernel
theorem dd_Car_idleSeconds_4 : decode bb_Car_idleSeconds 4 = .ok (.ifCond .eq 12, 3) := by decide +kernel
theorem dd_Car_idleSeconds_16 : decode bb_Car_idleSeconds 16 = .ok (.iconst 0, 1) := by decide +kernel
theorem dd_Car_idleSeconds_7 : decode bb_Car_idleSeconds 7 = .ok (.iload_n 1, 1) := by decide +kernel
theorem dd_Car_idleSeconds_8 : decode bb_Car_idleSeconds 8 = .ok (.aload_n 0, 1) := by decide +kernel
theorem dd_Car_idleSeconds_9 : decode bb_Car_idleSeconds 9 = .ok (.getfield 26, 3) := by decide +kernel
theorem dd_Car_idleSeconds_12 : decode bb_Car_idleSeconds 12 = .ok (.isub, 1) := by decide +kernel
theorem dd_Car_idleSeconds_13 : decode bb_Car_idleSeconds 13 = .ok (.goto 4, 3) := by decide +kernel
def ww_Car_idleSeconds : List Cond := .code yy_Car_idleSeconds bb_Car_idleSeconds 2 (some .int) :: TB
def rm_Car_idleSeconds : Room := { frames := 0, cells := 0, slots := 0, locals := 0 }
def wp_Car_idleSeconds_17 (o : Nat) (a1 : Int32) (post : fw_S → Int32 → Prop) (S : fw_S) (p0 : Int32) : Prop := post S p0
def wp_Car_idleSeconds (S : fw_S) (o : Nat) (a1 : Int32) (post : fw_S → Int32 → Prop) : Prop := ((((S.1 o 1) = 0) → wp_Car_idleSeconds_17 o a1 post S 0) ∧ (¬ ((S.1 o 1) = 0) → wp_Car_idleSeconds_17 o a1 post S (a1 - (S.1 o 5))))
set_option maxHeartbeats 4000000 in
set_option maxRecDepth 100000 in
theorem mt_Car_idleSeconds (l : Launch) (D : va_G) (cA : Nat → ClassId) (b : Nat) (S : fw_S) (o : Nat) (a1 : Int32) (ho : o < 245 ∧ layU o = (3, 0)) (post : fw_S → Int32 → Prop) (hw : wp_Car_idleSeconds S o a1 post) : Met l yy_Car_idleSeconds ww_Car_idleSeconds rm_Car_idleSeconds (fw_Pc D CL cA (TYS cA) TK layU b 245 S [.ref (b + o), .int a1]) (va_Qi (fun r S' => post S' r) (fw_B D CL cA TK layU b 245) (fw_A b 245)) 0 0 (fw_A b 245) := by
  refine Met.ofW (cc := bb_Car_idleSeconds) (maxL := 2) (ret := (some .int)) (by decide) rfl ?_
  intro p e s m args below meth c s₁ B hml hv
  obtain ⟨rfl, hP, hK⟩ := hv
  have hx := B.exec
  have hb := B.bytes
  have hr := B.returns
  have hts := atoms_spec (ws := ww_Car_idleSeconds) B.pre
  have hown : s.vm.findClass "OutletOffice$Car" = some m.cls := findClass_of_methodNamed B.named
  have hlocks := B.notSynchronized
  have hS : va_S (fw_A b 245) s.heap s.heap [] := va_S.rf
  have hl := lv_entry ([.ref (b + o), .int a1]) (n := 2) (Nat.le_of_ble_eq_true rfl)
  rw [lg_entry_eq]
  generalize (lg_sl ([.ref (b + o), .int a1]) ++ List.replicate (2 - (lg_sl ([.ref (b + o), .int a1])).length) Slot.unset).toArray = ls at hl ⊢
  have hl : lv_has ls 2 [(0, .ref (b + o)), (1, .int a1)] := hl
  have B17 : ∀ (S : fw_S) (p0 : Int32) (ls : Array Slot), wp_Car_idleSeconds_17 o a1 post S p0 → fw_P D CL cA layU b 245 (fw_v TK layU b S) s.heap → va_S (fw_A b 245) s.heap s.heap [] → lv_has ls 2 [(0, .ref (b + o)), (1, .int a1)] → W p l e (headSpec ww_Car_idleSeconds rm_Car_idleSeconds).room s m ([.ref (b + o), .int a1] : List Value).toArray below meth c s.heap [] 0 0 (MQ below (va_Qi (fun r S' => post S' r) (fw_B D CL cA TK layU b 245) (fw_A b 245)) ([.ref (b + o), .int a1] : List Value).toArray s 0 0 (fw_A b 245)) (F0 m 17 ls [.int p0]) := by
      intro S p0 ls hw hP hS hl
      unfold wp_Car_idleSeconds_17 at hw
      exact W.iret (v := p0) hx hb hr (fun t ht hW => ⟨⟨_, _, rfl, hw, fw_Bof ht hP⟩, hS.F ht⟩) hS.2.2 dd_Car_idleSeconds_17
  unfold wp_Car_idleSeconds at hw
  refine lv_aload_n hx hb dd_Car_idleSeconds_0 rfl (lv_at hl 0 rfl) ?_
  refine fw_geti hx hb hts in_3 hown hK hP ho (by decide) rfl 1 (by decide) (hts _ (tb_in tw_160)) tk_3_1 dd_Car_idleSeconds_1 ?_
  refine lv_if_eq (tgt := 16) hx hb dd_Car_idleSeconds_4 (by decide) (fun h1 => ?_) (fun h1 => ?_)
  · have hw := hw.1 h1
    refine lv_iconst (v := 0) hx hb dd_Car_idleSeconds_16 kc_ic_0 ?_
    exact B17 S 0 ls hw hP hS (lv_sub hl [0, 1] rfl)
  · have hw := hw.2 h1
    refine lv_iload_n hx hb dd_Car_idleSeconds_7 rfl (lv_at hl 1 rfl) ?_
    refine lv_aload_n hx hb dd_Car_idleSeconds_8 rfl (lv_at hl 0 rfl) ?_
    refine fw_geti hx hb hts in_3 hown hK hP ho (by decide) rfl 5 (by decide) (hts _ (tb_in tw_169)) tk_3_5 dd_Car_idleSeconds_9 ?_
    refine lv_isub hx hb dd_Car_idleSeconds_12 ?_
    refine lv_goto (tgt := 17) hx hb dd_Car_idleSeconds_13 (by decide) ?_
    exact B17 S (a1 - (S.1 o 5)) ls hw hP hS (lv_sub hl [0, 1] rfl)
theorem dd_Cards_setCard_0 : decode bb_Cards_setCard 0 = .ok (.aload_n 0, 1) := by decide +kernel
theorem dd_Cards_setCard_1 : decode bb_Cards_setCard 1 = .ok (.getfield 9, 3) := by decide +kernel
theorem dd_Cards_setCard_4 : decode bb_Cards_setCard 4 = .ok (.iload_n 1, 1) := by decide +kernel
theorem dd_Cards_setCard_5 : decode bb_Cards_setCard 5 = .ok (.iload_n 2, 1) := by decide +kernel
theorem dd_Cards_setCard_6 : decode bb_Cards_setCard 6 = .ok (.iastore, 1) := by decide +kernel
theorem dd_Cards_setCard_7 : decode bb_Cards_setCard 7 = .ok (.aload_n 0, 1) := by decide +kernel
theorem dd_Cards_setCard_8 : decode bb_Cards_setCard 8 = .ok (.getfield 15, 3) := by decide +kernel
theorem dd_Cards_setCard_11 : decode bb_Cards_setCard 11 = .ok (.iload_n 1, 1) := by decide +kernel
theorem dd_Cards_setCard_12 : decode bb_Cards_setCard 12 = .ok (.iload_n 3, 1) := by decide +kernel
theorem dd_Cards_setCard_13 : decode bb_Cards_setCard 13 = .ok (.iastore, 1) := by decide +kernel
theorem dd_Cards_setCard_14 : decode bb_Cards_setCard 14 = .ok (.return_, 1) := by decide +kernel
def ww_Cards_setCard : List Cond := .code yy_Cards_setCard bb_Cards_setCard 4 none :: TB
def rm_Cards_setCard : Room := { frames := 0, cells := 0, slots := 0, locals := 0 }
def wp_Cards_setCard (S : fw_S) (o : Nat) (a1 : Int32) (a2 : Int32) (a3 : Int32) (post : fw_S → Prop) : Prop := vp_in a1 16 ∧ (∀ S2 : fw_S, S2 = fw_si S (o + 1) a1.toNatClampNeg a2 → vp_in a1 16 ∧ (∀ S4 : fw_S, S4 = fw_si S2 (o + 2) a1.toNatClampNeg a3 → post S4))
set_option maxHeartbeats 4000000 in
set_option maxRecDepth 100000 in
theorem mt_Cards_setCard (l : Launch) (D : va_G) (cA : Nat → ClassId) (b : Nat) (S : fw_S) (o : Nat) (a1 : Int32) (a2 : Int32) (a3 : Int32) (ho : o < 245 ∧ layU o = (6, 0)) (post : fw_S → Prop) (hw : wp_Cards_setCard S o a1 a2 a3 post) : Met l yy_Cards_setCard ww_Cards_setCard rm_Cards_setCard (fw_Pc D CL cA (TYS cA) TK layU b 245 S [.ref (b + o), .int a1, .int a2, .int a3]) (va_Qv post (fw_B D CL cA TK layU b 245) (fw_A b 245)) 0 0 (fw_A b 245) := by
  refine Met.ofW (cc := bb_Cards_setCard) (maxL := 4) (ret := none) (by decide) rfl ?_
  intro p e s m args below meth c s₁ B hml hv
  obtain ⟨rfl, hP, hK⟩ := hv
  have hx := B.exec
  have hb := B.bytes
  have hr := B.returns
  have hts := atoms_spec (ws := ww_Cards_setCard) B.pre
  have hown : s.vm.findClass "OutletOffice$CardList" = some m.cls := findClass_of_methodNamed B.named
  have hlocks := B.notSynchronized
  have hS : va_S (fw_A b 245) s.heap s.heap [] := va_S.rf
  have hl := lv_entry ([.ref (b + o), .int a1, .int a2, .int a3]) (n := 4) (Nat.le_of_ble_eq_true rfl)
  rw [lg_entry_eq]
  generalize (lg_sl ([.ref (b + o), .int a1, .int a2, .int a3]) ++ List.replicate (4 - (lg_sl ([.ref (b + o), .int a1, .int a2, .int a3])).length) Slot.unset).toArray = ls at hl ⊢
  have hl : lv_has ls 4 [(0, .ref (b + o)), (1, .int a1), (2, .int a2), (3, .int a3)] := hl
  unfold wp_Cards_setCard at hw
  refine lv_aload_n hx hb dd_Cards_setCard_0 rfl (lv_at hl 0 rfl) ?_
  refine fw_getr hx hb hts in_6 hown hK hP ho (by decide) rfl 0 (by decide) (hts _ (tb_in tw_41)) tk_6_0 dd_Cards_setCard_1 ?_
  refine lv_iload_n hx hb dd_Cards_setCard_4 rfl (lv_at hl 1 rfl) ?_
  refine lv_iload_n hx hb dd_Cards_setCard_5 rfl (lv_at hl 2 rfl) ?_
  obtain ⟨h1, hw⟩ := hw
  refine fw_iast hx hb hK hP hS (fw_A.in (lf_6_0 ho).1) (lf_6_0 ho) (by decide) 0 rfl tka_100 h1 dd_Cards_setCard_6 (fun H locs hP hS => ?_)
  obtain ⟨S2, e_S2⟩ : ∃ z, z = fw_si S (o + 1) a1.toNatClampNeg a2 := ⟨_, rfl⟩
  rw [← e_S2] at hP
  have hw := hw S2 e_S2
  refine lv_aload_n hx hb dd_Cards_setCard_7 rfl (lv_at hl 0 rfl) ?_
  refine fw_getr hx hb hts in_6 hown hK hP ho (by decide) rfl 1 (by decide) (hts _ (tb_in tw_42)) tk_6_1 dd_Cards_setCard_8 ?_
  refine lv_iload_n hx hb dd_Cards_setCard_11 rfl (lv_at hl 1 rfl) ?_
  refine lv_iload_n hx hb dd_Cards_setCard_12 rfl (lv_at hl 3 rfl) ?_
  obtain ⟨h3, hw⟩ := hw
  refine fw_iast hx hb hK hP hS (fw_A.in (lf_6_1 ho).1) (lf_6_1 ho) (by decide) 0 rfl tka_100 h3 dd_Cards_setCard_13 (fun H locs hP hS => ?_)
  obtain ⟨S4, e_S4⟩ : ∃ z, z = fw_si S2 (o + 2) a1.toNatClampNeg a3 := ⟨_, rfl⟩
  rw [← e_S4] at hP
  have hw := hw S4 e_S4
  exact W.vret hx hb hr (fun t ht hW => ⟨⟨_, rfl, hw, fw_Bof ht hP⟩, hS.F ht⟩) hS.2.2 dd_Cards_setCard_14
theorem dd_Cards_takeOver_0 : decode bb_Cards_takeOver 0 = .ok (.aload_n 1, 1) := by decide +kernel
theorem dd_Cards_takeOver_1 : decode bb_Cards_takeOver 1 = .ok (.getfield 9, 3) := by decide +kernel
theorem dd_Cards_takeOver_4 : decode bb_Cards_takeOver 4 = .ok (.iconst 0, 1) := by decide +kernel
theorem dd_Cards_takeOver_5 : decode bb_Cards_takeOver 5 = .ok (.aload_n 0, 1) := by decide +kernel
theorem dd_Cards_takeOver_6 : decode bb_Cards_takeOver 6 = .ok (.getfield 9, 3) := by decide +kernel
theorem dd_Cards_takeOver_9 : decode bb_Cards_takeOver 9 = .ok (.iconst 0, 1) := by decide +kernel
theorem dd_Cards_takeOver_10 : decode bb_Cards_takeOver 10 = .ok (.bipush 16, 2) := by decide +kernel
theorem dd_Cards_takeOver_12 : decode bb_Cards_takeOver 12 = .ok (.invokestatic 18, 3) := by decide +kernel
theorem dd_Cards_takeOver_15 : decode bb_Cards_takeOver 15 = .ok (.aload_n 1, 1) := by decide +kernel
theorem dd_Cards_takeOver_16 : decode bb_Cards_takeOver 16 = .ok (.getfield 15, 3) := by decide +kernel
theorem dd_Cards_takeOver_19 : decode bb_Cards_takeOver 19 = .ok (.iconst 0, 1) := by decide +kernel
theorem dd_Cards_takeOver_20 : decode bb_Cards_takeOver 20 = .ok (.aload_n 0, 1) := by decide +kernel
theorem dd_Cards_takeOver_21 : decode bb_Cards_takeOver 21 = .ok (.getfield 15, 3) := by decide +kernel
theorem dd_Cards_takeOver_24 : decode bb_Cards_takeOver 24 = .ok (.iconst 0, 1) := by decide +kernel
theorem dd_Cards_takeOver_25 : decode bb_Cards_takeOver 25 = .ok (.bipush 16, 2) := by decide +kernel
theorem dd_Cards_takeOver_27 : decode bb_Cards_takeOver 27 = .ok (.invokestatic 18, 3) := by decide +kernel
theorem dd_Cards_takeOver_30 : decode bb_Cards_takeOver 30 = .ok (.return_, 1) := by decide +kernel
def ww_Cards_takeOver : List Cond := .code yy_Cards_takeOver bb_Cards_takeOver 2 none :: TB
def rm_Cards_takeOver : Room := { frames := 1, cells := 0, slots := 0, locals := 208 }
def wp_Cards_takeOver (S : fw_S) (o : Nat) (o1 : Nat) (post : fw_S → Prop) : Prop := ∀ S1 : fw_S, S1 = fw_cp S (o1 + 1) (o + 1) 16 → ∀ S2 : fw_S, S2 = fw_cp S1 (o1 + 2) (o + 2) 16 → post S2
set_option maxHeartbeats 4000000 in
set_option maxRecDepth 100000 in
theorem mt_Cards_takeOver (l : Launch) (D : va_G) (cA : Nat → ClassId) (b : Nat) (S : fw_S) (o : Nat) (o1 : Nat) (ho : o < 245 ∧ layU o = (6, 0)) (hq1 : o1 < 245 ∧ layU o1 = (6, 0)) (post : fw_S → Prop) (hw : wp_Cards_takeOver S o o1 post) : Met l yy_Cards_takeOver ww_Cards_takeOver rm_Cards_takeOver (fw_Pc D CL cA (TYS cA) TK layU b 245 S [.ref (b + o), .ref (b + o1)]) (va_Qv post (fw_B D CL cA TK layU b 245) (fw_A b 245)) 0 0 (fw_A b 245) := by
  refine Met.ofW (cc := bb_Cards_takeOver) (maxL := 2) (ret := none) (by decide) rfl ?_
  intro p e s m args below meth c s₁ B hml hv
  obtain ⟨rfl, hP, hK⟩ := hv
  have hx := B.exec
  have hb := B.bytes
  have hr := B.returns
  have hts := atoms_spec (ws := ww_Cards_takeOver) B.pre
  have hown : s.vm.findClass "OutletOffice$CardList" = some m.cls := findClass_of_methodNamed B.named
  have hlocks := B.notSynchronized
  have hS : va_S (fw_A b 245) s.heap s.heap [] := va_S.rf
  have hl := lv_entry ([.ref (b + o), .ref (b + o1)]) (n := 2) (Nat.le_of_ble_eq_true rfl)
  rw [lg_entry_eq]
  generalize (lg_sl ([.ref (b + o), .ref (b + o1)]) ++ List.replicate (2 - (lg_sl ([.ref (b + o), .ref (b + o1)])).length) Slot.unset).toArray = ls at hl ⊢
  have hl : lv_has ls 2 [(0, .ref (b + o)), (1, .ref (b + o1))] := hl
  unfold wp_Cards_takeOver at hw
  refine lv_aload_n hx hb dd_Cards_takeOver_0 rfl (lv_at hl 1 rfl) ?_
  refine fw_getr hx hb hts in_6 hown hK hP hq1 (by decide) rfl 0 (by decide) (hts _ (tb_in tw_41)) tk_6_0 dd_Cards_takeOver_1 ?_
  refine lv_iconst (v := 0) hx hb dd_Cards_takeOver_4 kc_ic_0 ?_
  refine lv_aload_n hx hb dd_Cards_takeOver_5 rfl (lv_at hl 0 rfl) ?_
  refine fw_getr hx hb hts in_6 hown hK hP ho (by decide) rfl 0 (by decide) (hts _ (tb_in tw_41)) tk_6_0 dd_Cards_takeOver_6 ?_
  refine lv_iconst (v := 0) hx hb dd_Cards_takeOver_9 kc_ic_0 ?_
  refine lv_bipush (v := 16) hx hb dd_Cards_takeOver_10 kc_bp_16 ?_
  refine fw_copy hx hb (hml.trans hl.1.symm) hown (hts _ (tb_in tw_467)) (hts _ (tb_in tw_469)) (hts _ (tb_in tw_468)) (hts _ (tb_in tw_17)) hK hP hS (fw_A.in (lf_6_0 ho).1) (lf_6_0 hq1) (lf_6_0 ho) (by decide) 0 rfl tka_100 (by decide) (by decide) (Nat.le_of_ble_eq_true rfl) (Nat.le_of_ble_eq_true rfl) dd_Cards_takeOver_12 (fun H locs hP hS => ?_)
  obtain ⟨S1, e_S1⟩ : ∃ z, z = fw_cp S (o1 + 1) (o + 1) 16 := ⟨_, rfl⟩
  rw [← e_S1] at hP
  have hw := hw S1 e_S1
  refine lv_aload_n hx hb dd_Cards_takeOver_15 rfl (lv_at hl 1 rfl) ?_
  refine fw_getr hx hb hts in_6 hown hK hP hq1 (by decide) rfl 1 (by decide) (hts _ (tb_in tw_42)) tk_6_1 dd_Cards_takeOver_16 ?_
  refine lv_iconst (v := 0) hx hb dd_Cards_takeOver_19 kc_ic_0 ?_
  refine lv_aload_n hx hb dd_Cards_takeOver_20 rfl (lv_at hl 0 rfl) ?_
  refine fw_getr hx hb hts in_6 hown hK hP ho (by decide) rfl 1 (by decide) (hts _ (tb_in tw_42)) tk_6_1 dd_Cards_takeOver_21 ?_
  refine lv_iconst (v := 0) hx hb dd_Cards_takeOver_24 kc_ic_0 ?_
  refine lv_bipush (v := 16) hx hb dd_Cards_takeOver_25 kc_bp_16 ?_
  refine fw_copy hx hb (hml.trans hl.1.symm) hown (hts _ (tb_in tw_467)) (hts _ (tb_in tw_469)) (hts _ (tb_in tw_468)) (hts _ (tb_in tw_17)) hK hP hS (fw_A.in (lf_6_1 ho).1) (lf_6_1 hq1) (lf_6_1 ho) (by decide) 0 rfl tka_100 (by decide) (by decide) (Nat.le_of_ble_eq_true rfl) (Nat.le_of_ble_eq_true rfl) dd_Cards_takeOver_27 (fun H locs hP hS => ?_)
  obtain ⟨S2, e_S2⟩ : ∃ z, z = fw_cp S1 (o1 + 2) (o + 2) 16 := ⟨_, rfl⟩
  rw [← e_S2] at hP
  have hw := hw S2 e_S2
  exact W.vret hx hb hr (fun t ht hW => ⟨⟨_, rfl, hw, fw_Bof ht hP⟩, hS.F ht⟩) hS.2.2 dd_Cards_takeOver_30
theorem dd_Cards_isGood_15 : decode bb_Cards_isGood 15 = .ok (.ireturn, 1) := by decide +kernel
theorem dd_Cards_isGood_0 : decode bb_Cards_isGood 0 = .ok (.aload_n 0, 1) := by decide +kernel
theorem dd_Cards_isGood_1 : decode bb_Cards_isGood 1 = .ok (.getfield 9, 3) := by decide +kernel
theorem dd_Cards_isGood_4 : decode bb_Cards_isGood 4 = .ok (.iload_n 1, 1) := by decide +kernel
theorem dd_Cards_isGood_5 : decode bb_Cards_isGood 5 = .ok (.iaload, 1) := by decide +kernel
theorem dd_Cards_isGood_6 : decode bb_Cards_isGood 6 = .ok (.iconst 1, 1) := by decide +kernel
theorem dd_Cards_isGood_7 : decode bb_Cards_isGood 7 = .ok (.if_icmp .ne 7, 3) := by decide +kernel
theorem dd_Cards_isGood_14 : decode bb_Cards_isGood 14 = .ok (.iconst 0, 1) := by decide +kernel
theorem dd_Cards_isGood_10 : decode bb_Cards_isGood 10 = .ok (.iconst 1, 1) := by decide +kernel
theorem dd_Cards_isGood_11 : decode bb_Cards_isGood 11 = .ok (.goto 4, 3) := by decide +kernel
def ww_Cards_isGood : List Cond := .code yy_Cards_isGood bb_Cards_isGood 2 (some .boolean) :: TB
def rm_Cards_isGood : Room := { frames := 0, cells := 0, slots := 0, locals := 0 }
def wp_Cards_isGood_15 (o : Nat) (a1 : Int32) (post : fw_S → Int32 → Prop) (S : fw_S) (p0 : Int32) : Prop := fw_bz p0 ∧ (post S p0)
def wp_Cards_isGood (S : fw_S) (o : Nat) (a1 : Int32) (post : fw_S → Int32 → Prop) : Prop := vp_in a1 16 ∧ (((¬ ((S.1 (o + 1) a1.toNatClampNeg) = 1) → wp_Cards_isGood_15 o a1 post S 0) ∧ (((S.1 (o + 1) a1.toNatClampNeg) = 1) → wp_Cards_isGood_15 o a1 post S 1)))
set_option maxHeartbeats 4000000 in
set_option maxRecDepth 100000 in
theorem mt_Cards_isGood (l : Launch) (D : va_G) (cA : Nat → ClassId) (b : Nat) (S : fw_S) (o : Nat) (a1 : Int32) (ho : o < 245 ∧ layU o = (6, 0)) (post : fw_S → Int32 → Prop) (hw : wp_Cards_isGood S o a1 post) : Met l yy_Cards_isGood ww_Cards_isGood rm_Cards_isGood (fw_Pc D CL cA (TYS cA) TK layU b 245 S [.ref (b + o), .int a1]) (va_Qi (fun r S' => post S' r) (fw_B D CL cA TK layU b 245) (fw_A b 245)) 0 0 (fw_A b 245) := by
  refine Met.ofW (cc := bb_Cards_isGood) (maxL := 2) (ret := (some .boolean)) (by decide) rfl ?_
  intro p e s m args below meth c s₁ B hml hv
  obtain ⟨rfl, hP, hK⟩ := hv
  have hx := B.exec
  have hb := B.bytes
  have hr := B.returns
  have hts := atoms_spec (ws := ww_Cards_isGood) B.pre
  have hown : s.vm.findClass "OutletOffice$CardList" = some m.cls := findClass_of_methodNamed B.named
  have hlocks := B.notSynchronized
  have hS : va_S (fw_A b 245) s.heap s.heap [] := va_S.rf
  have hl := lv_entry ([.ref (b + o), .int a1]) (n := 2) (Nat.le_of_ble_eq_true rfl)
  rw [lg_entry_eq]
  generalize (lg_sl ([.ref (b + o), .int a1]) ++ List.replicate (2 - (lg_sl ([.ref (b + o), .int a1])).length) Slot.unset).toArray = ls at hl ⊢
  have hl : lv_has ls 2 [(0, .ref (b + o)), (1, .int a1)] := hl
  have B15 : ∀ (S : fw_S) (p0 : Int32) (ls : Array Slot), wp_Cards_isGood_15 o a1 post S p0 → fw_P D CL cA layU b 245 (fw_v TK layU b S) s.heap → va_S (fw_A b 245) s.heap s.heap [] → lv_has ls 2 [(0, .ref (b + o)), (1, .int a1)] → W p l e (headSpec ww_Cards_isGood rm_Cards_isGood).room s m ([.ref (b + o), .int a1] : List Value).toArray below meth c s.heap [] 0 0 (MQ below (va_Qi (fun r S' => post S' r) (fw_B D CL cA TK layU b 245) (fw_A b 245)) ([.ref (b + o), .int a1] : List Value).toArray s 0 0 (fw_A b 245)) (F0 m 15 ls [.int p0]) := by
      intro S p0 ls hw hP hS hl
      unfold wp_Cards_isGood_15 at hw
      obtain ⟨h1, hw⟩ := hw
      exact W.zret (v := p0) hx hb hr (fw_bz.n h1) (fun t ht hW => ⟨⟨_, _, rfl, hw, fw_Bof ht hP⟩, hS.F ht⟩) hS.2.2 dd_Cards_isGood_15
  unfold wp_Cards_isGood at hw
  refine lv_aload_n hx hb dd_Cards_isGood_0 rfl (lv_at hl 0 rfl) ?_
  refine fw_getr hx hb hts in_6 hown hK hP ho (by decide) rfl 0 (by decide) (hts _ (tb_in tw_41)) tk_6_0 dd_Cards_isGood_1 ?_
  refine lv_iload_n hx hb dd_Cards_isGood_4 rfl (lv_at hl 1 rfl) ?_
  obtain ⟨h1, hw⟩ := hw
  refine fw_iald hx hb hK hP (lf_6_0 ho) (by decide) 0 rfl tka_100 h1 dd_Cards_isGood_5 ?_
  refine lv_iconst (v := 1) hx hb dd_Cards_isGood_6 kc_ic_1 ?_
  refine lv_icmp_ne (tgt := 14) hx hb dd_Cards_isGood_7 (by decide) (fun h2 => ?_) (fun h2 => ?_)
  · have hw := hw.1 h2
    refine lv_iconst (v := 0) hx hb dd_Cards_isGood_14 kc_ic_0 ?_
    exact B15 S 0 ls hw hP hS (lv_sub hl [0, 1] rfl)
  · have hw := hw.2 h2
    refine lv_iconst (v := 1) hx hb dd_Cards_isGood_10 kc_ic_1 ?_
    refine lv_goto (tgt := 15) hx hb dd_Cards_isGood_11 (by decide) ?_
    exact B15 S 1 ls hw hP hS (lv_sub hl [0, 1] rfl)
theorem dd_Cards_areOfOneHolder_29 : decode bb_Cards_areOfOneHolder 29 = .ok (.iconst 1, 1) := by decide +kernel
theorem dd_Cards_areOfOneHolder_30 : decode bb_Cards_areOfOneHolder 30 = .ok (.goto 4, 3) := by decide +kernel
theorem dd_Cards_areOfOneHolder_33 : decode bb_Cards_areOfOneHolder 33 = .ok (.iconst 0, 1) := by decide +kernel
theorem dd_Cards_areOfOneHolder_34 : decode bb_Cards_areOfOneHolder 34 = .ok (.ireturn, 1) := by decide +kernel
theorem dd_Cards_areOfOneHolder_0 : decode bb_Cards_areOfOneHolder 0 = .ok (.iload_n 1, 1) := by decide +kernel
theorem dd_Cards_areOfOneHolder_1 : decode bb_Cards_areOfOneHolder 1 = .ok (.iload_n 2, 1) := by decide +kernel
theorem dd_Cards_areOfOneHolder_2 : decode bb_Cards_areOfOneHolder 2 = .ok (.if_icmp .eq 27, 3) := by decide +kernel
theorem dd_Cards_areOfOneHolder_5 : decode bb_Cards_areOfOneHolder 5 = .ok (.aload_n 0, 1) := by decide +kernel
theorem dd_Cards_areOfOneHolder_6 : decode bb_Cards_areOfOneHolder 6 = .ok (.getfield 15, 3) := by decide +kernel
theorem dd_Cards_areOfOneHolder_9 : decode bb_Cards_areOfOneHolder 9 = .ok (.iload_n 1, 1) := by decide +kernel
theorem dd_Cards_areOfOneHolder_10 : decode bb_Cards_areOfOneHolder 10 = .ok (.iaload, 1) := by decide +kernel
theorem dd_Cards_areOfOneHolder_11 : decode bb_Cards_areOfOneHolder 11 = .ok (.ifCond .eq 22, 3) := by decide +kernel
theorem dd_Cards_areOfOneHolder_14 : decode bb_Cards_areOfOneHolder 14 = .ok (.aload_n 0, 1) := by decide +kernel
theorem dd_Cards_areOfOneHolder_15 : decode bb_Cards_areOfOneHolder 15 = .ok (.getfield 15, 3) := by decide +kernel
theorem dd_Cards_areOfOneHolder_18 : decode bb_Cards_areOfOneHolder 18 = .ok (.iload_n 1, 1) := by decide +kernel
theorem dd_Cards_areOfOneHolder_19 : decode bb_Cards_areOfOneHolder 19 = .ok (.iaload, 1) := by decide +kernel
theorem dd_Cards_areOfOneHolder_20 : decode bb_Cards_areOfOneHolder 20 = .ok (.aload_n 0, 1) := by decide +kernel
theorem dd_Cards_areOfOneHolder_21 : decode bb_Cards_areOfOneHolder 21 = .ok (.getfield 15, 3) := by decide +kernel
theorem dd_Cards_areOfOneHolder_24 : decode bb_Cards_areOfOneHolder 24 = .ok (.iload_n 2, 1) := by decide +kernel
theorem dd_Cards_areOfOneHolder_25 : decode bb_Cards_areOfOneHolder 25 = .ok (.iaload, 1) := by decide +kernel
theorem dd_Cards_areOfOneHolder_26 : decode bb_Cards_areOfOneHolder 26 = .ok (.if_icmp .ne 7, 3) := by decide +kernel
def ww_Cards_areOfOneHolder : List Cond := .code yy_Cards_areOfOneHolder bb_Cards_areOfOneHolder 3 (some .boolean) :: TB
def rm_Cards_areOfOneHolder : Room := { frames := 0, cells := 0, slots := 0, locals := 0 }
def wp_Cards_areOfOneHolder_34 (o : Nat) (a1 : Int32) (a2 : Int32) (post : fw_S → Int32 → Prop) (S : fw_S) (p0 : Int32) : Prop := fw_bz p0 ∧ (post S p0)
def wp_Cards_areOfOneHolder_29 (o : Nat) (a1 : Int32) (a2 : Int32) (post : fw_S → Int32 → Prop) (S : fw_S) : Prop := wp_Cards_areOfOneHolder_34 o a1 a2 post S 1
def wp_Cards_areOfOneHolder_33 (o : Nat) (a1 : Int32) (a2 : Int32) (post : fw_S → Int32 → Prop) (S : fw_S) : Prop := wp_Cards_areOfOneHolder_34 o a1 a2 post S 0
def wp_Cards_areOfOneHolder (S : fw_S) (o : Nat) (a1 : Int32) (a2 : Int32) (post : fw_S → Int32 → Prop) : Prop := (((a1 = a2) → wp_Cards_areOfOneHolder_29 o a1 a2 post S) ∧ (¬ (a1 = a2) → vp_in a1 16 ∧ (((((S.1 (o + 2) a1.toNatClampNeg) = 0) → wp_Cards_areOfOneHolder_33 o a1 a2 post S) ∧ (¬ ((S.1 (o + 2) a1.toNatClampNeg) = 0) → vp_in a1 16 ∧ (vp_in a2 16 ∧ (((¬ ((S.1 (o + 2) a1.toNatClampNeg) = (S.1 (o + 2) a2.toNatClampNeg)) → wp_Cards_areOfOneHolder_33 o a1 a2 post S) ∧ (((S.1 (o + 2) a1.toNatClampNeg) = (S.1 (o + 2) a2.toNatClampNeg)) → wp_Cards_areOfOneHolder_29 o a1 a2 post S)))))))))
set_option maxHeartbeats 4000000 in
set_option maxRecDepth 100000 in
theorem mt_Cards_areOfOneHolder (l : Launch) (D : va_G) (cA : Nat → ClassId) (b : Nat) (S : fw_S) (o : Nat) (a1 : Int32) (a2 : Int32) (ho : o < 245 ∧ layU o = (6, 0)) (post : fw_S → Int32 → Prop) (hw : wp_Cards_areOfOneHolder S o a1 a2 post) : Met l yy_Cards_areOfOneHolder ww_Cards_areOfOneHolder rm_Cards_areOfOneHolder (fw_Pc D CL cA (TYS cA) TK layU b 245 S [.ref (b + o), .int a1, .int a2]) (va_Qi (fun r S' => post S' r) (fw_B D CL cA TK layU b 245) (fw_A b 245)) 0 0 (fw_A b 245) := by
  refine Met.ofW (cc := bb_Cards_areOfOneHolder) (maxL := 3) (ret := (some .boolean)) (by decide) rfl ?_
  intro p e s m args below meth c s₁ B hml hv
  obtain ⟨rfl, hP, hK⟩ := hv
  have hx := B.exec
  have hb := B.bytes
  have hr := B.returns
  have hts := atoms_spec (ws := ww_Cards_areOfOneHolder) B.pre
  have hown : s.vm.findClass "OutletOffice$CardList" = some m.cls := findClass_of_methodNamed B.named
  have hlocks := B.notSynchronized
  have hS : va_S (fw_A b 245) s.heap s.heap [] := va_S.rf
  have hl := lv_entry ([.ref (b + o), .int a1, .int a2]) (n := 3) (Nat.le_of_ble_eq_true rfl)
  rw [lg_entry_eq]
  generalize (lg_sl ([.ref (b + o), .int a1, .int a2]) ++ List.replicate (3 - (lg_sl ([.ref (b + o), .int a1, .int a2])).length) Slot.unset).toArray = ls at hl ⊢
  have hl : lv_has ls 3 [(0, .ref (b + o)), (1, .int a1), (2, .int a2)] := hl
  have B34 : ∀ (S : fw_S) (p0 : Int32) (ls : Array Slot), wp_Cards_areOfOneHolder_34 o a1 a2 post S p0 → fw_P D CL cA layU b 245 (fw_v TK layU b S) s.heap → va_S (fw_A b 245) s.heap s.heap [] → lv_has ls 3 [(0, .ref (b + o)), (1, .int a1), (2, .int a2)] → W p l e (headSpec ww_Cards_areOfOneHolder rm_Cards_areOfOneHolder).room s m ([.ref (b + o), .int a1, .int a2] : List Value).toArray below meth c s.heap [] 0 0 (MQ below (va_Qi (fun r S' => post S' r) (fw_B D CL cA TK layU b 245) (fw_A b 245)) ([.ref (b + o), .int a1, .int a2] : List Value).toArray s 0 0 (fw_A b 245)) (F0 m 34 ls [.int p0]) := by
      intro S p0 ls hw hP hS hl
      unfold wp_Cards_areOfOneHolder_34 at hw
      obtain ⟨h1, hw⟩ := hw
      exact W.zret (v := p0) hx hb hr (fw_bz.n h1) (fun t ht hW => ⟨⟨_, _, rfl, hw, fw_Bof ht hP⟩, hS.F ht⟩) hS.2.2 dd_Cards_areOfOneHolder_34
  have B29 : ∀ (S : fw_S) (ls : Array Slot), wp_Cards_areOfOneHolder_29 o a1 a2 post S → fw_P D CL cA layU b 245 (fw_v TK layU b S) s.heap → va_S (fw_A b 245) s.heap s.heap [] → lv_has ls 3 [(0, .ref (b + o)), (1, .int a1), (2, .int a2)] → W p l e (headSpec ww_Cards_areOfOneHolder rm_Cards_areOfOneHolder).room s m ([.ref (b + o), .int a1, .int a2] : List Value).toArray below meth c s.heap [] 0 0 (MQ below (va_Qi (fun r S' => post S' r) (fw_B D CL cA TK layU b 245) (fw_A b 245)) ([.ref (b + o), .int a1, .int a2] : List Value).toArray s 0 0 (fw_A b 245)) (F0 m 29 ls []) := by
      intro S ls hw hP hS hl
      unfold wp_Cards_areOfOneHolder_29 at hw
      refine lv_iconst (v := 1) hx hb dd_Cards_areOfOneHolder_29 kc_ic_1 ?_
      refine lv_goto (tgt := 34) hx hb dd_Cards_areOfOneHolder_30 (by decide) ?_
      exact B34 S 1 ls hw hP hS (lv_sub hl [0, 1, 2] rfl)
  have B33 : ∀ (S : fw_S) (ls : Array Slot), wp_Cards_areOfOneHolder_33 o a1 a2 post S → fw_P D CL cA layU b 245 (fw_v TK layU b S) s.heap → va_S (fw_A b 245) s.heap s.heap [] → lv_has ls 3 [(0, .ref (b + o)), (1, .int a1), (2, .int a2)] → W p l e (headSpec ww_Cards_areOfOneHolder rm_Cards_areOfOneHolder).room s m ([.ref (b + o), .int a1, .int a2] : List Value).toArray below meth c s.heap [] 0 0 (MQ below (va_Qi (fun r S' => post S' r) (fw_B D CL cA TK layU b 245) (fw_A b 245)) ([.ref (b + o), .int a1, .int a2] : List Value).toArray s 0 0 (fw_A b 245)) (F0 m 33 ls []) := by
      intro S ls hw hP hS hl
      unfold wp_Cards_areOfOneHolder_33 at hw
      refine lv_iconst (v := 0) hx hb dd_Cards_areOfOneHolder_33 kc_ic_0 ?_
      exact B34 S 0 ls hw hP hS (lv_sub hl [0, 1, 2] rfl)
  unfold wp_Cards_areOfOneHolder at hw
  refine lv_iload_n hx hb dd_Cards_areOfOneHolder_0 rfl (lv_at hl 1 rfl) ?_
  refine lv_iload_n hx hb dd_Cards_areOfOneHolder_1 rfl (lv_at hl 2 rfl) ?_
  refine lv_icmp_eq (tgt := 29) hx hb dd_Cards_areOfOneHolder_2 (by decide) (fun h1 => ?_) (fun h1 => ?_)
  · have hw := hw.1 h1
    exact B29 S ls hw hP hS (lv_sub hl [0, 1, 2] rfl)
  · have hw := hw.2 h1
    refine lv_aload_n hx hb dd_Cards_areOfOneHolder_5 rfl (lv_at hl 0 rfl) ?_
    refine fw_getr hx hb hts in_6 hown hK hP ho (by decide) rfl 1 (by decide) (hts _ (tb_in tw_42)) tk_6_1 dd_Cards_areOfOneHolder_6 ?_
    refine lv_iload_n hx hb dd_Cards_areOfOneHolder_9 rfl (lv_at hl 1 rfl) ?_
    obtain ⟨h2, hw⟩ := hw
    refine fw_iald hx hb hK hP (lf_6_1 ho) (by decide) 0 rfl tka_100 h2 dd_Cards_areOfOneHolder_10 ?_
    refine lv_if_eq (tgt := 33) hx hb dd_Cards_areOfOneHolder_11 (by decide) (fun h3 => ?_) (fun h3 => ?_)
    · have hw := hw.1 h3
      exact B33 S ls hw hP hS (lv_sub hl [0, 1, 2] rfl)
    · have hw := hw.2 h3
      refine lv_aload_n hx hb dd_Cards_areOfOneHolder_14 rfl (lv_at hl 0 rfl) ?_
      refine fw_getr hx hb hts in_6 hown hK hP ho (by decide) rfl 1 (by decide) (hts _ (tb_in tw_42)) tk_6_1 dd_Cards_areOfOneHolder_15 ?_
      refine lv_iload_n hx hb dd_Cards_areOfOneHolder_18 rfl (lv_at hl 1 rfl) ?_
      obtain ⟨h4, hw⟩ := hw
      refine fw_iald hx hb hK hP (lf_6_1 ho) (by decide) 0 rfl tka_100 h4 dd_Cards_areOfOneHolder_19 ?_
      refine lv_aload_n hx hb dd_Cards_areOfOneHolder_20 rfl (lv_at hl 0 rfl) ?_
      refine fw_getr hx hb hts in_6 hown hK hP ho (by decide) rfl 1 (by decide) (hts _ (tb_in tw_42)) tk_6_1 dd_Cards_areOfOneHolder_21 ?_
      refine lv_iload_n hx hb dd_Cards_areOfOneHolder_24 rfl (lv_at hl 2 rfl) ?_
      obtain ⟨h5, hw⟩ := hw
      refine fw_iald hx hb hK hP (lf_6_1 ho) (by decide) 0 rfl tka_100 h5 dd_Cards_areOfOneHolder_25 ?_
      refine lv_icmp_ne (tgt := 33) hx hb dd_Cards_areOfOneHolder_26 (by decide) (fun h6 => ?_) (fun h6 => ?_)
      · have hw := hw.1 h6
        exact B33 S ls hw hP hS (lv_sub hl [0, 1, 2] rfl)
      · have hw := hw.2 h6
        exact B29 S ls hw hP hS (lv_sub hl [0, 1, 2] rfl)
theorem dd_Tariff_latestBand_7 : decode bb_Tariff_latestBand 7 = .ok (.iload 4, 2) := by decide +kernel
theorem dd_Tariff_latestBand_9 : decode bb_Tariff_latestBand 9 = .ok (.iconst 4, 1) := by decide +kernel
theorem dd_Tariff_latestBand_10 : decode bb_Tariff_latestBand 10 = .ok (.if_icmp .ge 42, 3) := by decide +kernel
theorem dd_Tariff_latestBand_52 : decode bb_Tariff_latestBand 52 = .ok (.iload_n 2, 1) := by decide +kernel
theorem dd_Tariff_latestBand_53 : decode bb_Tariff_latestBand 53 = .ok (.ireturn, 1) := by decide +kernel
theorem dd_Tariff_latestBand_13 : decode bb_Tariff_latestBand 13 = .ok (.aload_n 0, 1) := by decide +kernel
theorem dd_Tariff_latestBand_14 : decode bb_Tariff_latestBand 14 = .ok (.getfield 9, 3) := by decide +kernel
theorem dd_Tariff_latestBand_17 : decode bb_Tariff_latestBand 17 = .ok (.iload 4, 2) := by decide +kernel
theorem dd_Tariff_latestBand_19 : decode bb_Tariff_latestBand 19 = .ok (.iaload, 1) := by decide +kernel
theorem dd_Tariff_latestBand_20 : decode bb_Tariff_latestBand 20 = .ok (.iload_n 1, 1) := by decide +kernel
theorem dd_Tariff_latestBand_21 : decode bb_Tariff_latestBand 21 = .ok (.if_icmp .gt 25, 3) := by decide +kernel
theorem dd_Tariff_latestBand_24 : decode bb_Tariff_latestBand 24 = .ok (.aload_n 0, 1) := by decide +kernel
theorem dd_Tariff_latestBand_25 : decode bb_Tariff_latestBand 25 = .ok (.getfield 9, 3) := by decide +kernel
theorem dd_Tariff_latestBand_28 : decode bb_Tariff_latestBand 28 = .ok (.iload 4, 2) := by decide +kernel
theorem dd_Tariff_latestBand_30 : decode bb_Tariff_latestBand 30 = .ok (.iaload, 1) := by decide +kernel
theorem dd_Tariff_latestBand_31 : decode bb_Tariff_latestBand 31 = .ok (.iload_n 3, 1) := by decide +kernel
theorem dd_Tariff_latestBand_32 : decode bb_Tariff_latestBand 32 = .ok (.if_icmp .le 14, 3) := by decide +kernel
theorem dd_Tariff_latestBand_35 : decode bb_Tariff_latestBand 35 = .ok (.iload 4, 2) := by decide +kernel
theorem dd_Tariff_latestBand_37 : decode bb_Tariff_latestBand 37 = .ok (.istore_n 2, 1) := by decide +kernel
theorem dd_Tariff_latestBand_38 : decode bb_Tariff_latestBand 38 = .ok (.aload_n 0, 1) := by decide +kernel
theorem dd_Tariff_latestBand_39 : decode bb_Tariff_latestBand 39 = .ok (.getfield 9, 3) := by decide +kernel
theorem dd_Tariff_latestBand_42 : decode bb_Tariff_latestBand 42 = .ok (.iload 4, 2) := by decide +kernel
theorem dd_Tariff_latestBand_44 : decode bb_Tariff_latestBand 44 = .ok (.iaload, 1) := by decide +kernel
theorem dd_Tariff_latestBand_45 : decode bb_Tariff_latestBand 45 = .ok (.istore_n 3, 1) := by decide +kernel
theorem dd_Tariff_latestBand_46 : decode bb_Tariff_latestBand 46 = .ok (.iinc 4 1, 3) := by decide +kernel
theorem dd_Tariff_latestBand_49 : decode bb_Tariff_latestBand 49 = .ok (.goto (-42), 3) := by decide +kernel
theorem dd_Tariff_latestBand_0 : decode bb_Tariff_latestBand 0 = .ok (.iconst (-1), 1) := by decide +kernel
theorem dd_Tariff_latestBand_1 : decode bb_Tariff_latestBand 1 = .ok (.istore_n 2, 1) := by decide +kernel
theorem dd_Tariff_latestBand_2 : decode bb_Tariff_latestBand 2 = .ok (.iconst (-1), 1) := by decide +kernel
theorem dd_Tariff_latestBand_3 : decode bb_Tariff_latestBand 3 = .ok (.istore_n 3, 1) := by decide +kernel
theorem dd_Tariff_latestBand_4 : decode bb_Tariff_latestBand 4 = .ok (.iconst 0, 1) := by decide +kernel
theorem dd_Tariff_latestBand_5 : decode bb_Tariff_latestBand 5 = .ok (.istore 4, 2) := by decide +kernel
def ww_Tariff_latestBand : List Cond := .code yy_Tariff_latestBand bb_Tariff_latestBand 5 (some .int) :: TB
def rm_Tariff_latestBand : Room := { frames := 0, cells := 0, slots := 0, locals := 0 }
def wp_Tariff_latestBand_46 (o : Nat) (a1 : Int32) (post : fw_S → Int32 → Prop) (k7 : fw_S → Int32 → Int32 → Int32 → Prop) (S : fw_S) (x2 : Int32) (x3 : Int32) (x4 : Int32) : Prop := ∀ v1 : Int32, v1 = x4 + 1 → k7 S x2 x3 v1
def wp_Tariff_latestBand_7 (o : Nat) (a1 : Int32) (post : fw_S → Int32 → Prop) : Nat → fw_S → Int32 → Int32 → Int32 → Prop
  | 0, _, _, _, _ => False
  | f + 1, S, x2, x3, x4 => (((4 ≤ x4) → post S x2) ∧ (¬ (4 ≤ x4) → vp_in x4 4 ∧ ((((a1 < (S.1 (o + 1) x4.toNatClampNeg)) → wp_Tariff_latestBand_46 o a1 post (fun S x2 x3 x4 => wp_Tariff_latestBand_7 o a1 post f S x2 x3 x4) S x2 x3 x4) ∧ (¬ (a1 < (S.1 (o + 1) x4.toNatClampNeg)) → vp_in x4 4 ∧ (((((S.1 (o + 1) x4.toNatClampNeg) ≤ x3) → wp_Tariff_latestBand_46 o a1 post (fun S x2 x3 x4 => wp_Tariff_latestBand_7 o a1 post f S x2 x3 x4) S x2 x3 x4) ∧ (¬ ((S.1 (o + 1) x4.toNatClampNeg) ≤ x3) → vp_in x4 4 ∧ (∀ v7 : Int32, v7 = (S.1 (o + 1) x4.toNatClampNeg) → wp_Tariff_latestBand_46 o a1 post (fun S x2 x3 x4 => wp_Tariff_latestBand_7 o a1 post f S x2 x3 x4) S x4 v7 x4)))))))))
def wp_Tariff_latestBand (S : fw_S) (o : Nat) (a1 : Int32) (post : fw_S → Int32 → Prop) : Prop := ∃ f0, wp_Tariff_latestBand_7 o a1 post f0 S (-1) (-1) 0
set_option maxHeartbeats 4000000 in
set_option maxRecDepth 100000 in
theorem mt_Tariff_latestBand (l : Launch) (D : va_G) (cA : Nat → ClassId) (b : Nat) (S : fw_S) (o : Nat) (a1 : Int32) (ho : o < 245 ∧ layU o = (7, 0)) (post : fw_S → Int32 → Prop) (hw : wp_Tariff_latestBand S o a1 post) : Met l yy_Tariff_latestBand ww_Tariff_latestBand rm_Tariff_latestBand (fw_Pc D CL cA (TYS cA) TK layU b 245 S [.ref (b + o), .int a1]) (va_Qi (fun r S' => post S' r) (fw_B D CL cA TK layU b 245) (fw_A b 245)) 0 0 (fw_A b 245) := by
  refine Met.ofW (cc := bb_Tariff_latestBand) (maxL := 5) (ret := (some .int)) (by decide) rfl ?_
  intro p e s m args below meth c s₁ B hml hv
  obtain ⟨rfl, hP, hK⟩ := hv
  have hx := B.exec
  have hb := B.bytes
  have hr := B.returns
  have hts := atoms_spec (ws := ww_Tariff_latestBand) B.pre
  have hown : s.vm.findClass "OutletOffice$Tariff" = some m.cls := findClass_of_methodNamed B.named
  have hlocks := B.notSynchronized
  have hS : va_S (fw_A b 245) s.heap s.heap [] := va_S.rf
  have hl := lv_entry ([.ref (b + o), .int a1]) (n := 5) (Nat.le_of_ble_eq_true rfl)
  rw [lg_entry_eq]
  generalize (lg_sl ([.ref (b + o), .int a1]) ++ List.replicate (5 - (lg_sl ([.ref (b + o), .int a1])).length) Slot.unset).toArray = ls at hl ⊢
  have hl : lv_has ls 5 [(0, .ref (b + o)), (1, .int a1)] := hl
  have B46 : ∀ (k7 : fw_S → Int32 → Int32 → Int32 → Prop), (∀ (S : fw_S) (x2 : Int32) (x3 : Int32) (x4 : Int32) (ls : Array Slot), k7 S x2 x3 x4 → fw_P D CL cA layU b 245 (fw_v TK layU b S) s.heap → va_S (fw_A b 245) s.heap s.heap [] → lv_has ls 5 [(0, .ref (b + o)), (1, .int a1), (2, .int x2), (3, .int x3), (4, .int x4)] → W p l e (headSpec ww_Tariff_latestBand rm_Tariff_latestBand).room s m ([.ref (b + o), .int a1] : List Value).toArray below meth c s.heap [] 0 0 (MQ below (va_Qi (fun r S' => post S' r) (fw_B D CL cA TK layU b 245) (fw_A b 245)) ([.ref (b + o), .int a1] : List Value).toArray s 0 0 (fw_A b 245)) (F0 m 7 ls [])) → ∀ (S : fw_S) (x2 : Int32) (x3 : Int32) (x4 : Int32) (ls : Array Slot), wp_Tariff_latestBand_46 o a1 post k7 S x2 x3 x4 → fw_P D CL cA layU b 245 (fw_v TK layU b S) s.heap → va_S (fw_A b 245) s.heap s.heap [] → lv_has ls 5 [(0, .ref (b + o)), (1, .int a1), (2, .int x2), (3, .int x3), (4, .int x4)] → W p l e (headSpec ww_Tariff_latestBand rm_Tariff_latestBand).room s m ([.ref (b + o), .int a1] : List Value).toArray below meth c s.heap [] 0 0 (MQ below (va_Qi (fun r S' => post S' r) (fw_B D CL cA TK layU b 245) (fw_A b 245)) ([.ref (b + o), .int a1] : List Value).toArray s 0 0 (fw_A b 245)) (F0 m 46 ls []) := by
      intro k7 K7 S x2 x3 x4 ls hw hP hS hl
      unfold wp_Tariff_latestBand_46 at hw
      obtain ⟨v1, e_v1⟩ : ∃ z : Int32, z = x4 + 1 := ⟨_, rfl⟩
      have hw := hw v1 e_v1
      refine lv_iinc hx hb dd_Tariff_latestBand_46 hl (k := 4) rfl (show x4 + Int32.ofInt 1 = v1 by rw [kc_ii_1, e_v1]) (Nat.le_of_ble_eq_true rfl) rfl (fun ls hl => ?_)
      have hl : lv_has ls 5 [(4, .int v1), (0, .ref (b + o)), (1, .int a1), (2, .int x2), (3, .int x3)] := hl
      refine lv_goto (tgt := 7) hx hb dd_Tariff_latestBand_49 (by decide) ?_
      exact K7 S x2 x3 v1 ls hw hP hS (lv_sub hl [1, 2, 3, 4, 0] rfl)
  have B7 : ∀ f : Nat, ∀ (S : fw_S) (x2 : Int32) (x3 : Int32) (x4 : Int32) (ls : Array Slot), wp_Tariff_latestBand_7 o a1 post f S x2 x3 x4 → fw_P D CL cA layU b 245 (fw_v TK layU b S) s.heap → va_S (fw_A b 245) s.heap s.heap [] → lv_has ls 5 [(0, .ref (b + o)), (1, .int a1), (2, .int x2), (3, .int x3), (4, .int x4)] → W p l e (headSpec ww_Tariff_latestBand rm_Tariff_latestBand).room s m ([.ref (b + o), .int a1] : List Value).toArray below meth c s.heap [] 0 0 (MQ below (va_Qi (fun r S' => post S' r) (fw_B D CL cA TK layU b 245) (fw_A b 245)) ([.ref (b + o), .int a1] : List Value).toArray s 0 0 (fw_A b 245)) (F0 m 7 ls []) := by
    intro f
    induction f with
    | zero => intro S x2 x3 x4 ls hw; exact False.elim hw
    | succ f ih =>
        intro S x2 x3 x4 ls hw hP hS hl
        unfold wp_Tariff_latestBand_7 at hw
        refine lv_iload hx hb dd_Tariff_latestBand_7 (lv_at hl 4 rfl) ?_
        refine lv_iconst (v := 4) hx hb dd_Tariff_latestBand_9 kc_ic_4 ?_
        refine lv_icmp_ge (tgt := 52) hx hb dd_Tariff_latestBand_10 (by decide) (fun h1 => ?_) (fun h1 => ?_)
        · have hw := hw.1 h1
          refine lv_iload_n hx hb dd_Tariff_latestBand_52 rfl (lv_at hl 2 rfl) ?_
          exact W.iret (v := x2) hx hb hr (fun t ht hW => ⟨⟨_, _, rfl, hw, fw_Bof ht hP⟩, hS.F ht⟩) hS.2.2 dd_Tariff_latestBand_53
        · have hw := hw.2 h1
          refine lv_aload_n hx hb dd_Tariff_latestBand_13 rfl (lv_at hl 0 rfl) ?_
          refine fw_getr hx hb hts in_7 hown hK hP ho (by decide) rfl 0 (by decide) (hts _ (tb_in tw_55)) tk_7_0 dd_Tariff_latestBand_14 ?_
          refine lv_iload hx hb dd_Tariff_latestBand_17 (lv_at hl 4 rfl) ?_
          obtain ⟨h2, hw⟩ := hw
          refine fw_iald hx hb hK hP (lf_7_0 ho) (by decide) 0 rfl tka_100 h2 dd_Tariff_latestBand_19 ?_
          refine lv_iload_n hx hb dd_Tariff_latestBand_20 rfl (lv_at hl 1 rfl) ?_
          refine lv_icmp_gt (tgt := 46) hx hb dd_Tariff_latestBand_21 (by decide) (fun h3 => ?_) (fun h3 => ?_)
          · have hw := hw.1 h3
            exact B46 _ ih S x2 x3 x4 ls hw hP hS (lv_sub hl [0, 1, 2, 3, 4] rfl)
          · have hw := hw.2 h3
            refine lv_aload_n hx hb dd_Tariff_latestBand_24 rfl (lv_at hl 0 rfl) ?_
            refine fw_getr hx hb hts in_7 hown hK hP ho (by decide) rfl 0 (by decide) (hts _ (tb_in tw_55)) tk_7_0 dd_Tariff_latestBand_25 ?_
            refine lv_iload hx hb dd_Tariff_latestBand_28 (lv_at hl 4 rfl) ?_
            obtain ⟨h4, hw⟩ := hw
            refine fw_iald hx hb hK hP (lf_7_0 ho) (by decide) 0 rfl tka_100 h4 dd_Tariff_latestBand_30 ?_
            refine lv_iload_n hx hb dd_Tariff_latestBand_31 rfl (lv_at hl 3 rfl) ?_
            refine lv_icmp_le (tgt := 46) hx hb dd_Tariff_latestBand_32 (by decide) (fun h5 => ?_) (fun h5 => ?_)
            · have hw := hw.1 h5
              exact B46 _ ih S x2 x3 x4 ls hw hP hS (lv_sub hl [0, 1, 2, 3, 4] rfl)
            · have hw := hw.2 h5
              refine lv_iload hx hb dd_Tariff_latestBand_35 (lv_at hl 4 rfl) ?_
              refine lv_istore_n hx hb dd_Tariff_latestBand_37 rfl hl (Nat.le_of_ble_eq_true rfl) rfl (fun ls hl => ?_)
              have hl : lv_has ls 5 [(2, .int x4), (0, .ref (b + o)), (1, .int a1), (3, .int x3), (4, .int x4)] := hl
              refine lv_aload_n hx hb dd_Tariff_latestBand_38 rfl (lv_at hl 1 rfl) ?_
              refine fw_getr hx hb hts in_7 hown hK hP ho (by decide) rfl 0 (by decide) (hts _ (tb_in tw_55)) tk_7_0 dd_Tariff_latestBand_39 ?_
              refine lv_iload hx hb dd_Tariff_latestBand_42 (lv_at hl 4 rfl) ?_
              obtain ⟨h6, hw⟩ := hw
              refine fw_iald hx hb hK hP (lf_7_0 ho) (by decide) 0 rfl tka_100 h6 dd_Tariff_latestBand_44 ?_
              refine lv_topi (fun v7 e_v7 => ?_)
              have hw := hw v7 e_v7
              refine lv_istore_n hx hb dd_Tariff_latestBand_45 rfl hl (Nat.le_of_ble_eq_true rfl) rfl (fun ls hl => ?_)
              have hl : lv_has ls 5 [(3, .int v7), (2, .int x4), (0, .ref (b + o)), (1, .int a1), (4, .int x4)] := hl
              exact B46 _ ih S x4 v7 x4 ls hw hP hS (lv_sub hl [2, 3, 1, 0, 4] rfl)
  unfold wp_Tariff_latestBand at hw
  refine lv_iconst (v := (-1)) hx hb dd_Tariff_latestBand_0 kc_ic_m1 ?_
  refine lv_istore_n hx hb dd_Tariff_latestBand_1 rfl hl (Nat.le_of_ble_eq_true rfl) rfl (fun ls hl => ?_)
  have hl : lv_has ls 5 [(2, .int (-1)), (0, .ref (b + o)), (1, .int a1)] := hl
  refine lv_iconst (v := (-1)) hx hb dd_Tariff_latestBand_2 kc_ic_m1 ?_
  refine lv_istore_n hx hb dd_Tariff_latestBand_3 rfl hl (Nat.le_of_ble_eq_true rfl) rfl (fun ls hl => ?_)
  have hl : lv_has ls 5 [(3, .int (-1)), (2, .int (-1)), (0, .ref (b + o)), (1, .int a1)] := hl
  refine lv_iconst (v := 0) hx hb dd_Tariff_latestBand_4 kc_ic_0 ?_
  refine lv_istore hx hb dd_Tariff_latestBand_5 hl (Nat.le_of_ble_eq_true rfl) rfl (fun ls hl => ?_)
  have hl : lv_has ls 5 [(4, .int 0), (3, .int (-1)), (2, .int (-1)), (0, .ref (b + o)), (1, .int a1)] := hl
  obtain ⟨f0, hw⟩ := hw
  exact B7 f0 S (-1) (-1) 0 ls hw hP hS (lv_sub hl [3, 4, 2, 1, 0] rfl)
theorem dd_Tariff_priceAt_26 : decode bb_Tariff_priceAt 26 = .ok (.iload_n 2, 1) := by decide +kernel
theorem dd_Tariff_priceAt_27 : decode bb_Tariff_priceAt 27 = .ok (.iconst (-1), 1) := by decide +kernel
theorem dd_Tariff_priceAt_28 : decode bb_Tariff_priceAt 28 = .ok (.if_icmp .ne 7, 3) := by decide +kernel
theorem dd_Tariff_priceAt_35 : decode bb_Tariff_priceAt 35 = .ok (.aload_n 0, 1) := by decide +kernel
theorem dd_Tariff_priceAt_36 : decode bb_Tariff_priceAt 36 = .ok (.getfield 15, 3) := by decide +kernel
theorem dd_Tariff_priceAt_39 : decode bb_Tariff_priceAt 39 = .ok (.iload_n 2, 1) := by decide +kernel
theorem dd_Tariff_priceAt_40 : decode bb_Tariff_priceAt 40 = .ok (.iaload, 1) := by decide +kernel
theorem dd_Tariff_priceAt_31 : decode bb_Tariff_priceAt 31 = .ok (.iconst 0, 1) := by decide +kernel
theorem dd_Tariff_priceAt_32 : decode bb_Tariff_priceAt 32 = .ok (.goto 9, 3) := by decide +kernel
theorem dd_Tariff_priceAt_41 : decode bb_Tariff_priceAt 41 = .ok (.ireturn, 1) := by decide +kernel
theorem dd_Tariff_priceAt_0 : decode bb_Tariff_priceAt 0 = .ok (.aload_n 0, 1) := by decide +kernel
theorem dd_Tariff_priceAt_1 : decode bb_Tariff_priceAt 1 = .ok (.iload_n 1, 1) := by decide +kernel
theorem dd_Tariff_priceAt_2 : decode bb_Tariff_priceAt 2 = .ok (.bipush 60, 2) := by decide +kernel
theorem dd_Tariff_priceAt_4 : decode bb_Tariff_priceAt 4 = .ok (.idiv, 1) := by decide +kernel
theorem dd_Tariff_priceAt_5 : decode bb_Tariff_priceAt 5 = .ok (.sipush 1440, 3) := by decide +kernel
theorem dd_Tariff_priceAt_8 : decode bb_Tariff_priceAt 8 = .ok (.irem, 1) := by decide +kernel
theorem dd_Tariff_priceAt_9 : decode bb_Tariff_priceAt 9 = .ok (.invokevirtual 25, 3) := by decide +kernel
theorem dd_Tariff_priceAt_12 : decode bb_Tariff_priceAt 12 = .ok (.istore_n 2, 1) := by decide +kernel
theorem dd_Tariff_priceAt_13 : decode bb_Tariff_priceAt 13 = .ok (.iload_n 2, 1) := by decide +kernel
theorem dd_Tariff_priceAt_14 : decode bb_Tariff_priceAt 14 = .ok (.iconst (-1), 1) := by decide +kernel
theorem dd_Tariff_priceAt_15 : decode bb_Tariff_priceAt 15 = .ok (.if_icmp .ne 11, 3) := by decide +kernel
theorem dd_Tariff_priceAt_18 : decode bb_Tariff_priceAt 18 = .ok (.aload_n 0, 1) := by decide +kernel
theorem dd_Tariff_priceAt_19 : decode bb_Tariff_priceAt 19 = .ok (.sipush 1439, 3) := by decide +kernel
theorem dd_Tariff_priceAt_22 : decode bb_Tariff_priceAt 22 = .ok (.invokevirtual 25, 3) := by decide +kernel
theorem dd_Tariff_priceAt_25 : decode bb_Tariff_priceAt 25 = .ok (.istore_n 2, 1) := by decide +kernel
def ww_Tariff_priceAt : List Cond := .code yy_Tariff_priceAt bb_Tariff_priceAt 3 (some .int) :: TB
def rm_Tariff_priceAt : Room := { frames := 1, cells := 0, slots := 0, locals := 24 }
def wp_Tariff_priceAt_41 (o : Nat) (a1 : Int32) (post : fw_S → Int32 → Prop) (S : fw_S) (x2 : Int32) (p0 : Int32) : Prop := post S p0
def wp_Tariff_priceAt_26 (o : Nat) (a1 : Int32) (post : fw_S → Int32 → Prop) (S : fw_S) (x2 : Int32) : Prop := ((¬ (x2 = (-1)) → vp_in x2 4 ∧ (wp_Tariff_priceAt_41 o a1 post S x2 (S.1 (o + 2) x2.toNatClampNeg))) ∧ ((x2 = (-1)) → wp_Tariff_priceAt_41 o a1 post S x2 0))
def wp_Tariff_priceAt (S : fw_S) (o : Nat) (a1 : Int32) (post : fw_S → Int32 → Prop) : Prop := wp_Tariff_latestBand S o ((a1 / 60) - (a1 / 60) / 1440 * 1440) (fun S1 r2 => ((¬ (r2 = (-1)) → wp_Tariff_priceAt_26 o a1 post S1 r2) ∧ ((r2 = (-1)) → wp_Tariff_latestBand S1 o 1439 (fun S4 r5 => wp_Tariff_priceAt_26 o a1 post S4 r5))))
set_option maxHeartbeats 4000000 in
set_option maxRecDepth 100000 in
theorem mt_Tariff_priceAt (l : Launch) (D : va_G) (cA : Nat → ClassId) (b : Nat) (S : fw_S) (o : Nat) (a1 : Int32) (ho : o < 245 ∧ layU o = (7, 0)) (post : fw_S → Int32 → Prop) (hw : wp_Tariff_priceAt S o a1 post) : Met l yy_Tariff_priceAt ww_Tariff_priceAt rm_Tariff_priceAt (fw_Pc D CL cA (TYS cA) TK layU b 245 S [.ref (b + o), .int a1]) (va_Qi (fun r S' => post S' r) (fw_B D CL cA TK layU b 245) (fw_A b 245)) 0 0 (fw_A b 245) := by
  refine Met.ofW (cc := bb_Tariff_priceAt) (maxL := 3) (ret := (some .int)) (by decide) rfl ?_
  intro p e s m args below meth c s₁ B hml hv
  obtain ⟨rfl, hP, hK⟩ := hv
  have hx := B.exec
  have hb := B.bytes
  have hr := B.returns
  have hts := atoms_spec (ws := ww_Tariff_priceAt) B.pre
  have hown : s.vm.findClass "OutletOffice$Tariff" = some m.cls := findClass_of_methodNamed B.named
  have hlocks := B.notSynchronized
  have hS : va_S (fw_A b 245) s.heap s.heap [] := va_S.rf
  have hl := lv_entry ([.ref (b + o), .int a1]) (n := 3) (Nat.le_of_ble_eq_true rfl)
  rw [lg_entry_eq]
  generalize (lg_sl ([.ref (b + o), .int a1]) ++ List.replicate (3 - (lg_sl ([.ref (b + o), .int a1])).length) Slot.unset).toArray = ls at hl ⊢
  have hl : lv_has ls 3 [(0, .ref (b + o)), (1, .int a1)] := hl
  have B41 : ∀ (S : fw_S) (x2 : Int32) (p0 : Int32) (H : Heap) (locs : List Loc) (ls : Array Slot), wp_Tariff_priceAt_41 o a1 post S x2 p0 → fw_P D CL cA layU b 245 (fw_v TK layU b S) H → va_S (fw_A b 245) s.heap H locs → lv_has ls 3 [(0, .ref (b + o)), (1, .int a1), (2, .int x2)] → W p l e (headSpec ww_Tariff_priceAt rm_Tariff_priceAt).room s m ([.ref (b + o), .int a1] : List Value).toArray below meth c H locs 0 0 (MQ below (va_Qi (fun r S' => post S' r) (fw_B D CL cA TK layU b 245) (fw_A b 245)) ([.ref (b + o), .int a1] : List Value).toArray s 0 0 (fw_A b 245)) (F0 m 41 ls [.int p0]) := by
      intro S x2 p0 H locs ls hw hP hS hl
      unfold wp_Tariff_priceAt_41 at hw
      exact W.iret (v := p0) hx hb hr (fun t ht hW => ⟨⟨_, _, rfl, hw, fw_Bof ht hP⟩, hS.F ht⟩) hS.2.2 dd_Tariff_priceAt_41
  have B26 : ∀ (S : fw_S) (x2 : Int32) (H : Heap) (locs : List Loc) (ls : Array Slot), wp_Tariff_priceAt_26 o a1 post S x2 → fw_P D CL cA layU b 245 (fw_v TK layU b S) H → va_S (fw_A b 245) s.heap H locs → lv_has ls 3 [(0, .ref (b + o)), (1, .int a1), (2, .int x2)] → W p l e (headSpec ww_Tariff_priceAt rm_Tariff_priceAt).room s m ([.ref (b + o), .int a1] : List Value).toArray below meth c H locs 0 0 (MQ below (va_Qi (fun r S' => post S' r) (fw_B D CL cA TK layU b 245) (fw_A b 245)) ([.ref (b + o), .int a1] : List Value).toArray s 0 0 (fw_A b 245)) (F0 m 26 ls []) := by
      intro S x2 H locs ls hw hP hS hl
      unfold wp_Tariff_priceAt_26 at hw
      refine lv_iload_n hx hb dd_Tariff_priceAt_26 rfl (lv_at hl 2 rfl) ?_
      refine lv_iconst (v := (-1)) hx hb dd_Tariff_priceAt_27 kc_ic_m1 ?_
      refine lv_icmp_ne (tgt := 35) hx hb dd_Tariff_priceAt_28 (by decide) (fun h1 => ?_) (fun h1 => ?_)
      · have hw := hw.1 h1
        refine lv_aload_n hx hb dd_Tariff_priceAt_35 rfl (lv_at hl 0 rfl) ?_
        refine fw_getr hx hb hts in_7 hown hK hP ho (by decide) rfl 1 (by decide) (hts _ (tb_in tw_56)) tk_7_1 dd_Tariff_priceAt_36 ?_
        refine lv_iload_n hx hb dd_Tariff_priceAt_39 rfl (lv_at hl 2 rfl) ?_
        obtain ⟨h2, hw⟩ := hw
        refine fw_iald hx hb hK hP (lf_7_1 ho) (by decide) 0 rfl tka_100 h2 dd_Tariff_priceAt_40 ?_
        exact B41 S x2 (S.1 (o + 2) x2.toNatClampNeg) _ _ ls hw hP hS (lv_sub hl [0, 1, 2] rfl)
      · have hw := hw.2 h1
        refine lv_iconst (v := 0) hx hb dd_Tariff_priceAt_31 kc_ic_0 ?_
        refine lv_goto (tgt := 41) hx hb dd_Tariff_priceAt_32 (by decide) ?_
        exact B41 S x2 0 _ _ ls hw hP hS (lv_sub hl [0, 1, 2] rfl)
  unfold wp_Tariff_priceAt at hw
  refine lv_aload_n hx hb dd_Tariff_priceAt_0 rfl (lv_at hl 0 rfl) ?_
  refine lv_iload_n hx hb dd_Tariff_priceAt_1 rfl (lv_at hl 1 rfl) ?_
  refine lv_bipush (v := 60) hx hb dd_Tariff_priceAt_2 kc_bp_60 ?_
  refine lv_idiv hx hb dd_Tariff_priceAt_4 (by decide) ?_
  refine lv_sipush (v := 1440) hx hb dd_Tariff_priceAt_5 kc_sp_1440 ?_
  refine lv_irem hx hb dd_Tariff_priceAt_8 (by decide) ?_
  refine fw_calli (va_runV (As := [.int ((a1 / 60) - (a1 / 60) / 1440 * 1440)]) (rest := []) ⟨hx, hb, hml, hown, hts⟩ (mt_Tariff_latestBand l D cA b S o ((a1 / 60) - (a1 / 60) / 1440 * 1440) ho _ hw) (cwV 1 hts (fw_gV tw_605 tw_602 tw_604 ts_4 tw_4) rfl rfl rfl (by decide +kernel) ⟨Nat.le_of_ble_eq_true rfl, Nat.le_of_ble_eq_true rfl⟩) (fw_preV hP hK ho (by decide) rfl) rfl rfl hl.1 rfl (lv_room (Nat.le_of_ble_eq_true rfl)) dd_Tariff_priceAt_9 ⟨Nat.le_of_ble_eq_true rfl, Nat.le_of_ble_eq_true rfl⟩) hS (fun S1 r2 H locs hw hP hS => ?_)
  try dsimp only at hw
  refine lv_istore_n hx hb dd_Tariff_priceAt_12 rfl hl (Nat.le_of_ble_eq_true rfl) rfl (fun ls hl => ?_)
  have hl : lv_has ls 3 [(2, .int r2), (0, .ref (b + o)), (1, .int a1)] := hl
  refine lv_iload_n hx hb dd_Tariff_priceAt_13 rfl (lv_at hl 0 rfl) ?_
  refine lv_iconst (v := (-1)) hx hb dd_Tariff_priceAt_14 kc_ic_m1 ?_
  refine lv_icmp_ne (tgt := 26) hx hb dd_Tariff_priceAt_15 (by decide) (fun h3 => ?_) (fun h3 => ?_)
  · have hw := hw.1 h3
    exact B26 S1 r2 _ _ ls hw hP hS (lv_sub hl [1, 2, 0] rfl)
  · have hw := hw.2 h3
    refine lv_aload_n hx hb dd_Tariff_priceAt_18 rfl (lv_at hl 1 rfl) ?_
    refine lv_sipush (v := 1439) hx hb dd_Tariff_priceAt_19 kc_sp_1439 ?_
    refine fw_calli (va_runV (As := [.int 1439]) (rest := []) ⟨hx, hb, hml, hown, hts⟩ (mt_Tariff_latestBand l D cA b S1 o 1439 ho _ hw) (cwV 1 hts (fw_gV tw_605 tw_602 tw_604 ts_4 tw_4) rfl rfl rfl (by decide +kernel) ⟨Nat.le_of_ble_eq_true rfl, Nat.le_of_ble_eq_true rfl⟩) (fw_preV hP hK ho (by decide) rfl) rfl rfl hl.1 rfl (lv_room (Nat.le_of_ble_eq_true rfl)) dd_Tariff_priceAt_22 ⟨Nat.le_of_ble_eq_true rfl, Nat.le_of_ble_eq_true rfl⟩) hS (fun S4 r5 H locs hw hP hS => ?_)
    try dsimp only at hw
    refine lv_istore_n hx hb dd_Tariff_priceAt_25 rfl hl (Nat.le_of_ble_eq_true rfl) rfl (fun ls hl => ?_)
    have hl : lv_has ls 3 [(2, .int r5), (0, .ref (b + o)), (1, .int a1)] := hl
    exact B26 S4 r5 _ _ ls hw hP hS (lv_sub hl [1, 2, 0] rfl)
