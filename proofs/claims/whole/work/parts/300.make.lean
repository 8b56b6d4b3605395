theorem dd_Msg_init_0 : decode bb_Msg_init 0 = .ok (.aload_n 0, 1) := by decide +kernel
theorem dd_Msg_init_1 : decode bb_Msg_init 1 = .ok (.invokespecial 3, 3) := by decide +kernel
theorem dd_Msg_init_4 : decode bb_Msg_init 4 = .ok (.aload_n 0, 1) := by decide +kernel
theorem dd_Msg_init_5 : decode bb_Msg_init 5 = .ok (.iconst 0, 1) := by decide +kernel
theorem dd_Msg_init_6 : decode bb_Msg_init 6 = .ok (.putfield 9, 3) := by decide +kernel
theorem dd_Msg_init_9 : decode bb_Msg_init 9 = .ok (.aload_n 0, 1) := by decide +kernel
theorem dd_Msg_init_10 : decode bb_Msg_init 10 = .ok (.iconst 0, 1) := by decide +kernel
theorem dd_Msg_init_11 : decode bb_Msg_init 11 = .ok (.putfield 15, 3) := by decide +kernel
theorem dd_Msg_init_14 : decode bb_Msg_init 14 = .ok (.aload_n 0, 1) := by decide +kernel
theorem dd_Msg_init_15 : decode bb_Msg_init 15 = .ok (.iconst 0, 1) := by decide +kernel
theorem dd_Msg_init_16 : decode bb_Msg_init 16 = .ok (.putfield 18, 3) := by decide +kernel
theorem dd_Msg_init_19 : decode bb_Msg_init 19 = .ok (.aload_n 0, 1) := by decide +kernel
theorem dd_Msg_init_20 : decode bb_Msg_init 20 = .ok (.iconst 0, 1) := by decide +kernel
theorem dd_Msg_init_21 : decode bb_Msg_init 21 = .ok (.putfield 21, 3) := by decide +kernel
theorem dd_Msg_init_24 : decode bb_Msg_init 24 = .ok (.aload_n 0, 1) := by decide +kernel
theorem dd_Msg_init_25 : decode bb_Msg_init 25 = .ok (.iconst 0, 1) := by decide +kernel
theorem dd_Msg_init_26 : decode bb_Msg_init 26 = .ok (.putfield 24, 3) := by decide +kernel
theorem dd_Msg_init_29 : decode bb_Msg_init 29 = .ok (.aload_n 0, 1) := by decide +kernel
theorem dd_Msg_init_30 : decode bb_Msg_init 30 = .ok (.iconst 0, 1) := by decide +kernel
theorem dd_Msg_init_31 : decode bb_Msg_init 31 = .ok (.putfield 27, 3) := by decide +kernel
theorem dd_Msg_init_34 : decode bb_Msg_init 34 = .ok (.return_, 1) := by decide +kernel
def ww_Msg_init : List Cond := .code yy_Msg_init bb_Msg_init 1 none :: TB
def rm_Msg_init : Room := { frames := 1, cells := 0, slots := 0, locals := 21 }
def wv_Msg_init (b n : Nat) (V : fw_V) (o : Nat) (post : Nat → fw_V → Prop) : Prop := SL (n + 0) = SL n + 0 ∧ (∀ V1 : fw_V, V1 = fw_up V o 0 (.int 0) → ∀ V2 : fw_V, V2 = fw_up V1 o 1 (.int 0) → ∀ V3 : fw_V, V3 = fw_up V2 o 2 (.int 0) → ∀ V4 : fw_V, V4 = fw_up V3 o 3 (.int 0) → ∀ V5 : fw_V, V5 = fw_up V4 o 4 (.int 0) → ∀ V6 : fw_V, V6 = fw_up V5 o 5 (.int 0) → n = n + 0 ∧ (post n V6))
set_option maxHeartbeats 4000000 in
set_option maxRecDepth 100000 in
theorem mv_Msg_init (l : Launch) (D : va_G) (cA : Nat → ClassId) (b n : Nat) (V : fw_V) (o : Nat) (ho : o < n ∧ layU o = (5, 0)) (post : Nat → fw_V → Prop) (hw : wv_Msg_init b n V o post) : Met l yy_Msg_init ww_Msg_init rm_Msg_init (fw_PcV D CL cA (TYS cA) layU b n V [.ref (b + o)]) (va_Qv (fun u : Nat × fw_V => post u.1 u.2) (fw_BV D CL cA layU b (n + 0) (SL n + 0)) (fw_Ac b)) 0 0 (fw_Ac b) := by
  refine Met.ofW (cc := bb_Msg_init) (maxL := 1) (ret := none) (by decide) rfl ?_
  intro p e s m args below meth c s₁ B hml hv
  obtain ⟨rfl, hP, hz, hK, hV⟩ := hv
  have hx := B.exec
  have hb := B.bytes
  have hr := B.returns
  have hts := atoms_spec (ws := ww_Msg_init) B.pre
  have hown : s.vm.findClass "OutletOffice$Message" = some m.cls := findClass_of_methodNamed B.named
  have hlocks := B.notSynchronized
  have hin : meth.name = "<init>" := (name_of_methodNamed B.named B.method).1
  have ho1 := ho.1
  have hS : va_S (fw_Ac b) s.heap s.heap [] := va_S.rf
  have hl := lv_entry ([.ref (b + o)]) (n := 1) (Nat.le_of_ble_eq_true rfl)
  rw [lg_entry_eq]
  generalize (lg_sl ([.ref (b + o)]) ++ List.replicate (1 - (lg_sl ([.ref (b + o)])).length) Slot.unset).toArray = ls at hl ⊢
  have hl : lv_has ls 1 [(0, .ref (b + o))] := hl
  unfold wv_Msg_init at hw
  obtain ⟨hSLt, hw⟩ := hw
  refine W.cs (show 0 = n - n by omega) (show 0 = SL n - SL n by omega) ?_
  refine lv_aload_n hx hb dd_Msg_init_0 rfl (lv_at hl 0 rfl) ?_
  refine W.objInit hx hb hown (hts _ (tb_in tw_195)) (hts _ (tb_in tw_25)) (hts _ (tb_in tw_26)) rfl (hl.1.trans hml.symm) rfl dd_Msg_init_1 (Nat.le_of_ble_eq_true rfl) (Nat.le_of_ble_eq_true rfl) ?_
  refine W.eq (g2 := F0 m 4 ls []) rfl ?_
  refine lv_aload_n hx hb dd_Msg_init_4 rfl (lv_at hl 0 rfl) ?_
  refine lv_iconst (v := 0) hx hb dd_Msg_init_5 kc_ic_0 ?_
  refine fw_putV hx hb hts in_5 F_ty_5 F_tyok_5 F_nm_5 hown hK hP hS (show b ≤ b + o by omega) ⟨by omega, ho.2⟩ (by decide) rfl 0 (by decide) (hts _ (tb_in tw_196)) rfl (ty := .int) (by decide +kernel) rfl rfl dd_Msg_init_6 (fun H locs hP hS hz9 => ?_)
  rw [← hz9] at hz
  obtain ⟨V1, e_V1⟩ : ∃ z, z = fw_up V o 0 (.int 0) := ⟨_, rfl⟩
  rw [← e_V1] at hP
  have hw := hw V1 e_V1
  refine lv_aload_n hx hb dd_Msg_init_9 rfl (lv_at hl 0 rfl) ?_
  refine lv_iconst (v := 0) hx hb dd_Msg_init_10 kc_ic_0 ?_
  refine fw_putV hx hb hts in_5 F_ty_5 F_tyok_5 F_nm_5 hown hK hP hS (show b ≤ b + o by omega) ⟨by omega, ho.2⟩ (by decide) rfl 1 (by decide) (hts _ (tb_in tw_198)) rfl (ty := .int) (by decide +kernel) rfl rfl dd_Msg_init_11 (fun H locs hP hS hz9 => ?_)
  rw [← hz9] at hz
  obtain ⟨V2, e_V2⟩ : ∃ z, z = fw_up V1 o 1 (.int 0) := ⟨_, rfl⟩
  rw [← e_V2] at hP
  have hw := hw V2 e_V2
  refine lv_aload_n hx hb dd_Msg_init_14 rfl (lv_at hl 0 rfl) ?_
  refine lv_iconst (v := 0) hx hb dd_Msg_init_15 kc_ic_0 ?_
  refine fw_putV hx hb hts in_5 F_ty_5 F_tyok_5 F_nm_5 hown hK hP hS (show b ≤ b + o by omega) ⟨by omega, ho.2⟩ (by decide) rfl 2 (by decide) (hts _ (tb_in tw_200)) rfl (ty := .int) (by decide +kernel) rfl rfl dd_Msg_init_16 (fun H locs hP hS hz9 => ?_)
  rw [← hz9] at hz
  obtain ⟨V3, e_V3⟩ : ∃ z, z = fw_up V2 o 2 (.int 0) := ⟨_, rfl⟩
  rw [← e_V3] at hP
  have hw := hw V3 e_V3
  refine lv_aload_n hx hb dd_Msg_init_19 rfl (lv_at hl 0 rfl) ?_
  refine lv_iconst (v := 0) hx hb dd_Msg_init_20 kc_ic_0 ?_
  refine fw_putV hx hb hts in_5 F_ty_5 F_tyok_5 F_nm_5 hown hK hP hS (show b ≤ b + o by omega) ⟨by omega, ho.2⟩ (by decide) rfl 3 (by decide) (hts _ (tb_in tw_202)) rfl (ty := .int) (by decide +kernel) rfl rfl dd_Msg_init_21 (fun H locs hP hS hz9 => ?_)
  rw [← hz9] at hz
  obtain ⟨V4, e_V4⟩ : ∃ z, z = fw_up V3 o 3 (.int 0) := ⟨_, rfl⟩
  rw [← e_V4] at hP
  have hw := hw V4 e_V4
  refine lv_aload_n hx hb dd_Msg_init_24 rfl (lv_at hl 0 rfl) ?_
  refine lv_iconst (v := 0) hx hb dd_Msg_init_25 kc_ic_0 ?_
  refine fw_putV hx hb hts in_5 F_ty_5 F_tyok_5 F_nm_5 hown hK hP hS (show b ≤ b + o by omega) ⟨by omega, ho.2⟩ (by decide) rfl 4 (by decide) (hts _ (tb_in tw_204)) rfl (ty := .int) (by decide +kernel) rfl rfl dd_Msg_init_26 (fun H locs hP hS hz9 => ?_)
  rw [← hz9] at hz
  obtain ⟨V5, e_V5⟩ : ∃ z, z = fw_up V4 o 4 (.int 0) := ⟨_, rfl⟩
  rw [← e_V5] at hP
  have hw := hw V5 e_V5
  refine lv_aload_n hx hb dd_Msg_init_29 rfl (lv_at hl 0 rfl) ?_
  refine lv_iconst (v := 0) hx hb dd_Msg_init_30 kc_ic_0 ?_
  refine fw_putV hx hb hts in_5 F_ty_5 F_tyok_5 F_nm_5 hown hK hP hS (show b ≤ b + o by omega) ⟨by omega, ho.2⟩ (by decide) rfl 5 (by decide) (hts _ (tb_in tw_206)) rfl (ty := .int) (by decide +kernel) rfl rfl dd_Msg_init_31 (fun H locs hP hS hz9 => ?_)
  rw [← hz9] at hz
  obtain ⟨V6, e_V6⟩ : ∃ z, z = fw_up V5 o 5 (.int 0) := ⟨_, rfl⟩
  rw [← e_V6] at hP
  have hw := hw V6 e_V6
  obtain ⟨h7, hw⟩ := hw
  have g8 : SL n ≤ SL n := SL_mono (by omega)
  have hT9 : SL n = SL n + 0 := by rw [h7]; exact hSLt
  refine W.cs (show n - n = 0 by omega) (show SL n - SL n = 0 by omega) ?_
  exact W.vret hx hb hr (fun t ht hW => ⟨⟨(n, V6), rfl, hw, by rw [ht]; exact hP, by rw [ht]; exact hz, h7, hT9⟩, hS.F ht⟩) hS.2.2 dd_Msg_init_34
theorem dd_Car_init_0 : decode bb_Car_init 0 = .ok (.aload_n 0, 1) := by decide +kernel
theorem dd_Car_init_1 : decode bb_Car_init 1 = .ok (.invokespecial 1, 3) := by decide +kernel
theorem dd_Car_init_4 : decode bb_Car_init 4 = .ok (.aload_n 0, 1) := by decide +kernel
theorem dd_Car_init_5 : decode bb_Car_init 5 = .ok (.iconst 0, 1) := by decide +kernel
theorem dd_Car_init_6 : decode bb_Car_init 6 = .ok (.putfield 7, 3) := by decide +kernel
theorem dd_Car_init_9 : decode bb_Car_init 9 = .ok (.aload_n 0, 1) := by decide +kernel
theorem dd_Car_init_10 : decode bb_Car_init 10 = .ok (.iconst 0, 1) := by decide +kernel
theorem dd_Car_init_11 : decode bb_Car_init 11 = .ok (.putfield 13, 3) := by decide +kernel
theorem dd_Car_init_14 : decode bb_Car_init 14 = .ok (.aload_n 0, 1) := by decide +kernel
theorem dd_Car_init_15 : decode bb_Car_init 15 = .ok (.iconst 0, 1) := by decide +kernel
theorem dd_Car_init_16 : decode bb_Car_init 16 = .ok (.putfield 16, 3) := by decide +kernel
theorem dd_Car_init_19 : decode bb_Car_init 19 = .ok (.aload_n 0, 1) := by decide +kernel
theorem dd_Car_init_20 : decode bb_Car_init 20 = .ok (.iconst 1, 1) := by decide +kernel
theorem dd_Car_init_21 : decode bb_Car_init 21 = .ok (.putfield 20, 3) := by decide +kernel
theorem dd_Car_init_24 : decode bb_Car_init 24 = .ok (.aload_n 0, 1) := by decide +kernel
theorem dd_Car_init_25 : decode bb_Car_init 25 = .ok (.iconst 0, 1) := by decide +kernel
theorem dd_Car_init_26 : decode bb_Car_init 26 = .ok (.putfield 23, 3) := by decide +kernel
theorem dd_Car_init_29 : decode bb_Car_init 29 = .ok (.aload_n 0, 1) := by decide +kernel
theorem dd_Car_init_30 : decode bb_Car_init 30 = .ok (.iconst 0, 1) := by decide +kernel
theorem dd_Car_init_31 : decode bb_Car_init 31 = .ok (.putfield 26, 3) := by decide +kernel
theorem dd_Car_init_34 : decode bb_Car_init 34 = .ok (.return_, 1) := by decide +kernel
def ww_Car_init : List Cond := .code yy_Car_init bb_Car_init 1 none :: TB
def rm_Car_init : Room := { frames := 1, cells := 0, slots := 0, locals := 21 }
def wv_Car_init (b n : Nat) (V : fw_V) (o : Nat) (post : Nat → fw_V → Prop) : Prop := SL (n + 0) = SL n + 0 ∧ (∀ V1 : fw_V, V1 = fw_up V o 0 (.int 0) → ∀ V2 : fw_V, V2 = fw_up V1 o 1 (.int 0) → ∀ V3 : fw_V, V3 = fw_up V2 o 2 (.int 0) → ∀ V4 : fw_V, V4 = fw_up V3 o 3 (.int 1) → ∀ V5 : fw_V, V5 = fw_up V4 o 4 (.int 0) → ∀ V6 : fw_V, V6 = fw_up V5 o 5 (.int 0) → n = n + 0 ∧ (post n V6))
set_option maxHeartbeats 4000000 in
set_option maxRecDepth 100000 in
theorem mv_Car_init (l : Launch) (D : va_G) (cA : Nat → ClassId) (b n : Nat) (V : fw_V) (o : Nat) (ho : o < n ∧ layU o = (3, 0)) (post : Nat → fw_V → Prop) (hw : wv_Car_init b n V o post) : Met l yy_Car_init ww_Car_init rm_Car_init (fw_PcV D CL cA (TYS cA) layU b n V [.ref (b + o)]) (va_Qv (fun u : Nat × fw_V => post u.1 u.2) (fw_BV D CL cA layU b (n + 0) (SL n + 0)) (fw_Ac b)) 0 0 (fw_Ac b) := by
  refine Met.ofW (cc := bb_Car_init) (maxL := 1) (ret := none) (by decide) rfl ?_
  intro p e s m args below meth c s₁ B hml hv
  obtain ⟨rfl, hP, hz, hK, hV⟩ := hv
  have hx := B.exec
  have hb := B.bytes
  have hr := B.returns
  have hts := atoms_spec (ws := ww_Car_init) B.pre
  have hown : s.vm.findClass "OutletOffice$Car" = some m.cls := findClass_of_methodNamed B.named
  have hlocks := B.notSynchronized
  have hin : meth.name = "<init>" := (name_of_methodNamed B.named B.method).1
  have ho1 := ho.1
  have hS : va_S (fw_Ac b) s.heap s.heap [] := va_S.rf
  have hl := lv_entry ([.ref (b + o)]) (n := 1) (Nat.le_of_ble_eq_true rfl)
  rw [lg_entry_eq]
  generalize (lg_sl ([.ref (b + o)]) ++ List.replicate (1 - (lg_sl ([.ref (b + o)])).length) Slot.unset).toArray = ls at hl ⊢
  have hl : lv_has ls 1 [(0, .ref (b + o))] := hl
  unfold wv_Car_init at hw
  obtain ⟨hSLt, hw⟩ := hw
  refine W.cs (show 0 = n - n by omega) (show 0 = SL n - SL n by omega) ?_
  refine lv_aload_n hx hb dd_Car_init_0 rfl (lv_at hl 0 rfl) ?_
  refine W.objInit hx hb hown (hts _ (tb_in tw_156)) (hts _ (tb_in tw_25)) (hts _ (tb_in tw_26)) rfl (hl.1.trans hml.symm) rfl dd_Car_init_1 (Nat.le_of_ble_eq_true rfl) (Nat.le_of_ble_eq_true rfl) ?_
  refine W.eq (g2 := F0 m 4 ls []) rfl ?_
  refine lv_aload_n hx hb dd_Car_init_4 rfl (lv_at hl 0 rfl) ?_
  refine lv_iconst (v := 0) hx hb dd_Car_init_5 kc_ic_0 ?_
  refine fw_putV hx hb hts in_3 F_ty_3 F_tyok_3 F_nm_3 hown hK hP hS (show b ≤ b + o by omega) ⟨by omega, ho.2⟩ (by decide) rfl 0 (by decide) (hts _ (tb_in tw_157)) rfl (ty := .boolean) (by decide +kernel) rfl rfl dd_Car_init_6 (fun H locs hP hS hz9 => ?_)
  rw [← hz9] at hz
  obtain ⟨V1, e_V1⟩ : ∃ z, z = fw_up V o 0 (.int 0) := ⟨_, rfl⟩
  rw [← e_V1] at hP
  have hw := hw V1 e_V1
  refine lv_aload_n hx hb dd_Car_init_9 rfl (lv_at hl 0 rfl) ?_
  refine lv_iconst (v := 0) hx hb dd_Car_init_10 kc_ic_0 ?_
  refine fw_putV hx hb hts in_3 F_ty_3 F_tyok_3 F_nm_3 hown hK hP hS (show b ≤ b + o by omega) ⟨by omega, ho.2⟩ (by decide) rfl 1 (by decide) (hts _ (tb_in tw_160)) rfl (ty := .boolean) (by decide +kernel) rfl rfl dd_Car_init_11 (fun H locs hP hS hz9 => ?_)
  rw [← hz9] at hz
  obtain ⟨V2, e_V2⟩ : ∃ z, z = fw_up V1 o 1 (.int 0) := ⟨_, rfl⟩
  rw [← e_V2] at hP
  have hw := hw V2 e_V2
  refine lv_aload_n hx hb dd_Car_init_14 rfl (lv_at hl 0 rfl) ?_
  refine lv_iconst (v := 0) hx hb dd_Car_init_15 kc_ic_0 ?_
  refine fw_putV hx hb hts in_3 F_ty_3 F_tyok_3 F_nm_3 hown hK hP hS (show b ≤ b + o by omega) ⟨by omega, ho.2⟩ (by decide) rfl 2 (by decide) (hts _ (tb_in tw_162)) rfl (ty := .int) (by decide +kernel) rfl rfl dd_Car_init_16 (fun H locs hP hS hz9 => ?_)
  rw [← hz9] at hz
  obtain ⟨V3, e_V3⟩ : ∃ z, z = fw_up V2 o 2 (.int 0) := ⟨_, rfl⟩
  rw [← e_V3] at hP
  have hw := hw V3 e_V3
  refine lv_aload_n hx hb dd_Car_init_19 rfl (lv_at hl 0 rfl) ?_
  refine lv_iconst (v := 1) hx hb dd_Car_init_20 kc_ic_1 ?_
  refine fw_putV hx hb hts in_3 F_ty_3 F_tyok_3 F_nm_3 hown hK hP hS (show b ≤ b + o by omega) ⟨by omega, ho.2⟩ (by decide) rfl 3 (by decide) (hts _ (tb_in tw_166)) rfl (ty := .int) (by decide +kernel) rfl rfl dd_Car_init_21 (fun H locs hP hS hz9 => ?_)
  rw [← hz9] at hz
  obtain ⟨V4, e_V4⟩ : ∃ z, z = fw_up V3 o 3 (.int 1) := ⟨_, rfl⟩
  rw [← e_V4] at hP
  have hw := hw V4 e_V4
  refine lv_aload_n hx hb dd_Car_init_24 rfl (lv_at hl 0 rfl) ?_
  refine lv_iconst (v := 0) hx hb dd_Car_init_25 kc_ic_0 ?_
  refine fw_putV hx hb hts in_3 F_ty_3 F_tyok_3 F_nm_3 hown hK hP hS (show b ≤ b + o by omega) ⟨by omega, ho.2⟩ (by decide) rfl 4 (by decide) (hts _ (tb_in tw_168)) rfl (ty := .int) (by decide +kernel) rfl rfl dd_Car_init_26 (fun H locs hP hS hz9 => ?_)
  rw [← hz9] at hz
  obtain ⟨V5, e_V5⟩ : ∃ z, z = fw_up V4 o 4 (.int 0) := ⟨_, rfl⟩
  rw [← e_V5] at hP
  have hw := hw V5 e_V5
  refine lv_aload_n hx hb dd_Car_init_29 rfl (lv_at hl 0 rfl) ?_
  refine lv_iconst (v := 0) hx hb dd_Car_init_30 kc_ic_0 ?_
  refine fw_putV hx hb hts in_3 F_ty_3 F_tyok_3 F_nm_3 hown hK hP hS (show b ≤ b + o by omega) ⟨by omega, ho.2⟩ (by decide) rfl 5 (by decide) (hts _ (tb_in tw_169)) rfl (ty := .int) (by decide +kernel) rfl rfl dd_Car_init_31 (fun H locs hP hS hz9 => ?_)
  rw [← hz9] at hz
  obtain ⟨V6, e_V6⟩ : ∃ z, z = fw_up V5 o 5 (.int 0) := ⟨_, rfl⟩
  rw [← e_V6] at hP
  have hw := hw V6 e_V6
  obtain ⟨h7, hw⟩ := hw
  have g8 : SL n ≤ SL n := SL_mono (by omega)
  have hT9 : SL n = SL n + 0 := by rw [h7]; exact hSLt
  refine W.cs (show n - n = 0 by omega) (show SL n - SL n = 0 by omega) ?_
  exact W.vret hx hb hr (fun t ht hW => ⟨⟨(n, V6), rfl, hw, by rw [ht]; exact hP, by rw [ht]; exact hz, h7, hT9⟩, hS.F ht⟩) hS.2.2 dd_Car_init_34
theorem dd_Bill_init_0 : decode bb_Bill_init 0 = .ok (.aload_n 0, 1) := by decide +kernel
theorem dd_Bill_init_1 : decode bb_Bill_init 1 = .ok (.invokespecial 3, 3) := by decide +kernel
theorem dd_Bill_init_4 : decode bb_Bill_init 4 = .ok (.aload_n 0, 1) := by decide +kernel
theorem dd_Bill_init_5 : decode bb_Bill_init 5 = .ok (.iconst 0, 1) := by decide +kernel
theorem dd_Bill_init_6 : decode bb_Bill_init 6 = .ok (.putfield 9, 3) := by decide +kernel
theorem dd_Bill_init_9 : decode bb_Bill_init 9 = .ok (.aload_n 0, 1) := by decide +kernel
theorem dd_Bill_init_10 : decode bb_Bill_init 10 = .ok (.iconst 0, 1) := by decide +kernel
theorem dd_Bill_init_11 : decode bb_Bill_init 11 = .ok (.putfield 15, 3) := by decide +kernel
theorem dd_Bill_init_14 : decode bb_Bill_init 14 = .ok (.aload_n 0, 1) := by decide +kernel
theorem dd_Bill_init_15 : decode bb_Bill_init 15 = .ok (.iconst 0, 1) := by decide +kernel
theorem dd_Bill_init_16 : decode bb_Bill_init 16 = .ok (.putfield 19, 3) := by decide +kernel
theorem dd_Bill_init_19 : decode bb_Bill_init 19 = .ok (.aload_n 0, 1) := by decide +kernel
theorem dd_Bill_init_20 : decode bb_Bill_init 20 = .ok (.lconst 0, 1) := by decide +kernel
theorem dd_Bill_init_21 : decode bb_Bill_init 21 = .ok (.putfield 22, 3) := by decide +kernel
theorem dd_Bill_init_24 : decode bb_Bill_init 24 = .ok (.aload_n 0, 1) := by decide +kernel
theorem dd_Bill_init_25 : decode bb_Bill_init 25 = .ok (.iconst 0, 1) := by decide +kernel
theorem dd_Bill_init_26 : decode bb_Bill_init 26 = .ok (.putfield 26, 3) := by decide +kernel
theorem dd_Bill_init_29 : decode bb_Bill_init 29 = .ok (.aload_n 0, 1) := by decide +kernel
theorem dd_Bill_init_30 : decode bb_Bill_init 30 = .ok (.iconst 0, 1) := by decide +kernel
theorem dd_Bill_init_31 : decode bb_Bill_init 31 = .ok (.putfield 29, 3) := by decide +kernel
theorem dd_Bill_init_34 : decode bb_Bill_init 34 = .ok (.aload_n 0, 1) := by decide +kernel
theorem dd_Bill_init_35 : decode bb_Bill_init 35 = .ok (.iconst 0, 1) := by decide +kernel
theorem dd_Bill_init_36 : decode bb_Bill_init 36 = .ok (.putfield 32, 3) := by decide +kernel
theorem dd_Bill_init_39 : decode bb_Bill_init 39 = .ok (.return_, 1) := by decide +kernel
def ww_Bill_init : List Cond := .code yy_Bill_init bb_Bill_init 1 none :: TB
def rm_Bill_init : Room := { frames := 1, cells := 0, slots := 0, locals := 21 }
def wv_Bill_init (b n : Nat) (V : fw_V) (o : Nat) (post : Nat → fw_V → Prop) : Prop := SL (n + 0) = SL n + 0 ∧ (∀ V1 : fw_V, V1 = fw_up V o 0 (.int 0) → ∀ V2 : fw_V, V2 = fw_up V1 o 1 (.int 0) → ∀ V3 : fw_V, V3 = fw_up V2 o 2 (.int 0) → ∀ V4 : fw_V, V4 = fw_up V3 o 3 (.long 0) → ∀ V5 : fw_V, V5 = fw_up V4 o 4 (.int 0) → ∀ V6 : fw_V, V6 = fw_up V5 o 5 (.int 0) → ∀ V7 : fw_V, V7 = fw_up V6 o 6 (.int 0) → n = n + 0 ∧ (post n V7))
set_option maxHeartbeats 4000000 in
set_option maxRecDepth 100000 in
theorem mv_Bill_init (l : Launch) (D : va_G) (cA : Nat → ClassId) (b n : Nat) (V : fw_V) (o : Nat) (ho : o < n ∧ layU o = (8, 0)) (post : Nat → fw_V → Prop) (hw : wv_Bill_init b n V o post) : Met l yy_Bill_init ww_Bill_init rm_Bill_init (fw_PcV D CL cA (TYS cA) layU b n V [.ref (b + o)]) (va_Qv (fun u : Nat × fw_V => post u.1 u.2) (fw_BV D CL cA layU b (n + 0) (SL n + 0)) (fw_Ac b)) 0 0 (fw_Ac b) := by
  refine Met.ofW (cc := bb_Bill_init) (maxL := 1) (ret := none) (by decide) rfl ?_
  intro p e s m args below meth c s₁ B hml hv
  obtain ⟨rfl, hP, hz, hK, hV⟩ := hv
  have hx := B.exec
  have hb := B.bytes
  have hr := B.returns
  have hts := atoms_spec (ws := ww_Bill_init) B.pre
  have hown : s.vm.findClass "OutletOffice$Bill" = some m.cls := findClass_of_methodNamed B.named
  have hlocks := B.notSynchronized
  have hin : meth.name = "<init>" := (name_of_methodNamed B.named B.method).1
  have ho1 := ho.1
  have hS : va_S (fw_Ac b) s.heap s.heap [] := va_S.rf
  have hl := lv_entry ([.ref (b + o)]) (n := 1) (Nat.le_of_ble_eq_true rfl)
  rw [lg_entry_eq]
  generalize (lg_sl ([.ref (b + o)]) ++ List.replicate (1 - (lg_sl ([.ref (b + o)])).length) Slot.unset).toArray = ls at hl ⊢
  have hl : lv_has ls 1 [(0, .ref (b + o))] := hl
  unfold wv_Bill_init at hw
  obtain ⟨hSLt, hw⟩ := hw
  refine W.cs (show 0 = n - n by omega) (show 0 = SL n - SL n by omega) ?_
  refine lv_aload_n hx hb dd_Bill_init_0 rfl (lv_at hl 0 rfl) ?_
  refine W.objInit hx hb hown (hts _ (tb_in tw_78)) (hts _ (tb_in tw_25)) (hts _ (tb_in tw_26)) rfl (hl.1.trans hml.symm) rfl dd_Bill_init_1 (Nat.le_of_ble_eq_true rfl) (Nat.le_of_ble_eq_true rfl) ?_
  refine W.eq (g2 := F0 m 4 ls []) rfl ?_
  refine lv_aload_n hx hb dd_Bill_init_4 rfl (lv_at hl 0 rfl) ?_
  refine lv_iconst (v := 0) hx hb dd_Bill_init_5 kc_ic_0 ?_
  refine fw_putV hx hb hts in_8 F_ty_8 F_tyok_8 F_nm_8 hown hK hP hS (show b ≤ b + o by omega) ⟨by omega, ho.2⟩ (by decide) rfl 0 (by decide) (hts _ (tb_in tw_79)) rfl (ty := .boolean) (by decide +kernel) rfl rfl dd_Bill_init_6 (fun H locs hP hS hz9 => ?_)
  rw [← hz9] at hz
  obtain ⟨V1, e_V1⟩ : ∃ z, z = fw_up V o 0 (.int 0) := ⟨_, rfl⟩
  rw [← e_V1] at hP
  have hw := hw V1 e_V1
  refine lv_aload_n hx hb dd_Bill_init_9 rfl (lv_at hl 0 rfl) ?_
  refine lv_iconst (v := 0) hx hb dd_Bill_init_10 kc_ic_0 ?_
  refine fw_putV hx hb hts in_8 F_ty_8 F_tyok_8 F_nm_8 hown hK hP hS (show b ≤ b + o by omega) ⟨by omega, ho.2⟩ (by decide) rfl 1 (by decide) (hts _ (tb_in tw_82)) rfl (ty := .int) (by decide +kernel) rfl rfl dd_Bill_init_11 (fun H locs hP hS hz9 => ?_)
  rw [← hz9] at hz
  obtain ⟨V2, e_V2⟩ : ∃ z, z = fw_up V1 o 1 (.int 0) := ⟨_, rfl⟩
  rw [← e_V2] at hP
  have hw := hw V2 e_V2
  refine lv_aload_n hx hb dd_Bill_init_14 rfl (lv_at hl 0 rfl) ?_
  refine lv_iconst (v := 0) hx hb dd_Bill_init_15 kc_ic_0 ?_
  refine fw_putV hx hb hts in_8 F_ty_8 F_tyok_8 F_nm_8 hown hK hP hS (show b ≤ b + o by omega) ⟨by omega, ho.2⟩ (by decide) rfl 2 (by decide) (hts _ (tb_in tw_84)) rfl (ty := .int) (by decide +kernel) rfl rfl dd_Bill_init_16 (fun H locs hP hS hz9 => ?_)
  rw [← hz9] at hz
  obtain ⟨V3, e_V3⟩ : ∃ z, z = fw_up V2 o 2 (.int 0) := ⟨_, rfl⟩
  rw [← e_V3] at hP
  have hw := hw V3 e_V3
  refine lv_aload_n hx hb dd_Bill_init_19 rfl (lv_at hl 0 rfl) ?_
  refine lv_lconst (v := 0) hx hb dd_Bill_init_20 kc_lc_0 ?_
  refine fw_putV hx hb hts in_8 F_ty_8 F_tyok_8 F_nm_8 hown hK hP hS (show b ≤ b + o by omega) ⟨by omega, ho.2⟩ (by decide) rfl 3 (by decide) (hts _ (tb_in tw_86)) rfl (ty := .long) (by decide +kernel) rfl rfl dd_Bill_init_21 (fun H locs hP hS hz9 => ?_)
  rw [← hz9] at hz
  obtain ⟨V4, e_V4⟩ : ∃ z, z = fw_up V3 o 3 (.long 0) := ⟨_, rfl⟩
  rw [← e_V4] at hP
  have hw := hw V4 e_V4
  refine lv_aload_n hx hb dd_Bill_init_24 rfl (lv_at hl 0 rfl) ?_
  refine lv_iconst (v := 0) hx hb dd_Bill_init_25 kc_ic_0 ?_
  refine fw_putV hx hb hts in_8 F_ty_8 F_tyok_8 F_nm_8 hown hK hP hS (show b ≤ b + o by omega) ⟨by omega, ho.2⟩ (by decide) rfl 4 (by decide) (hts _ (tb_in tw_89)) rfl (ty := .int) (by decide +kernel) rfl rfl dd_Bill_init_26 (fun H locs hP hS hz9 => ?_)
  rw [← hz9] at hz
  obtain ⟨V5, e_V5⟩ : ∃ z, z = fw_up V4 o 4 (.int 0) := ⟨_, rfl⟩
  rw [← e_V5] at hP
  have hw := hw V5 e_V5
  refine lv_aload_n hx hb dd_Bill_init_29 rfl (lv_at hl 0 rfl) ?_
  refine lv_iconst (v := 0) hx hb dd_Bill_init_30 kc_ic_0 ?_
  refine fw_putV hx hb hts in_8 F_ty_8 F_tyok_8 F_nm_8 hown hK hP hS (show b ≤ b + o by omega) ⟨by omega, ho.2⟩ (by decide) rfl 5 (by decide) (hts _ (tb_in tw_91)) rfl (ty := .int) (by decide +kernel) rfl rfl dd_Bill_init_31 (fun H locs hP hS hz9 => ?_)
  rw [← hz9] at hz
  obtain ⟨V6, e_V6⟩ : ∃ z, z = fw_up V5 o 5 (.int 0) := ⟨_, rfl⟩
  rw [← e_V6] at hP
  have hw := hw V6 e_V6
  refine lv_aload_n hx hb dd_Bill_init_34 rfl (lv_at hl 0 rfl) ?_
  refine lv_iconst (v := 0) hx hb dd_Bill_init_35 kc_ic_0 ?_
  refine fw_putV hx hb hts in_8 F_ty_8 F_tyok_8 F_nm_8 hown hK hP hS (show b ≤ b + o by omega) ⟨by omega, ho.2⟩ (by decide) rfl 6 (by decide) (hts _ (tb_in tw_93)) rfl (ty := .int) (by decide +kernel) rfl rfl dd_Bill_init_36 (fun H locs hP hS hz9 => ?_)
  rw [← hz9] at hz
  obtain ⟨V7, e_V7⟩ : ∃ z, z = fw_up V6 o 6 (.int 0) := ⟨_, rfl⟩
  rw [← e_V7] at hP
  have hw := hw V7 e_V7
  obtain ⟨h8, hw⟩ := hw
  have g9 : SL n ≤ SL n := SL_mono (by omega)
  have hT9 : SL n = SL n + 0 := by rw [h8]; exact hSLt
  refine W.cs (show n - n = 0 by omega) (show SL n - SL n = 0 by omega) ?_
  exact W.vret hx hb hr (fun t ht hW => ⟨⟨(n, V7), rfl, hw, by rw [ht]; exact hP, by rw [ht]; exact hz, h8, hT9⟩, hS.F ht⟩) hS.2.2 dd_Bill_init_39
theorem dd_Cards_init_0 : decode bb_Cards_init 0 = .ok (.aload_n 0, 1) := by decide +kernel
theorem dd_Cards_init_1 : decode bb_Cards_init 1 = .ok (.invokespecial 3, 3) := by decide +kernel
theorem dd_Cards_init_4 : decode bb_Cards_init 4 = .ok (.aload_n 0, 1) := by decide +kernel
theorem dd_Cards_init_5 : decode bb_Cards_init 5 = .ok (.bipush 16, 2) := by decide +kernel
theorem dd_Cards_init_7 : decode bb_Cards_init 7 = .ok (.newarray .int, 2) := by decide +kernel
theorem dd_Cards_init_9 : decode bb_Cards_init 9 = .ok (.putfield 9, 3) := by decide +kernel
theorem dd_Cards_init_12 : decode bb_Cards_init 12 = .ok (.aload_n 0, 1) := by decide +kernel
theorem dd_Cards_init_13 : decode bb_Cards_init 13 = .ok (.bipush 16, 2) := by decide +kernel
theorem dd_Cards_init_15 : decode bb_Cards_init 15 = .ok (.newarray .int, 2) := by decide +kernel
theorem dd_Cards_init_17 : decode bb_Cards_init 17 = .ok (.putfield 15, 3) := by decide +kernel
theorem dd_Cards_init_20 : decode bb_Cards_init 20 = .ok (.return_, 1) := by decide +kernel
def ww_Cards_init : List Cond := .code yy_Cards_init bb_Cards_init 1 none :: TB
def rm_Cards_init : Room := { frames := 1, cells := 2, slots := 32, locals := 21 }
def wv_Cards_init (b n : Nat) (V : fw_V) (o : Nat) (post : Nat → fw_V → Prop) : Prop := SL (n + 2) = SL n + 32 ∧ (n + 1 ≤ n + 2 ∧ (layU n = (100, 16) ∧ (∀ n3, n3 = n + 1 → ∀ V4 : fw_V, V4 = fw_nw V n (fun _ => defaultValue .int) → ∀ V5 : fw_V, V5 = fw_up V4 o 0 (.ref (b + n)) → n3 + 1 ≤ n + 2 ∧ (layU n3 = (100, 16) ∧ (∀ n8, n8 = n3 + 1 → ∀ V9 : fw_V, V9 = fw_nw V5 n3 (fun _ => defaultValue .int) → ∀ V10 : fw_V, V10 = fw_up V9 o 1 (.ref (b + n3)) → n8 = n + 2 ∧ (post n8 V10))))))
set_option maxHeartbeats 4000000 in
set_option maxRecDepth 100000 in
theorem mv_Cards_init (l : Launch) (D : va_G) (cA : Nat → ClassId) (b n : Nat) (V : fw_V) (o : Nat) (ho : o < n ∧ layU o = (6, 0)) (post : Nat → fw_V → Prop) (hw : wv_Cards_init b n V o post) : Met l yy_Cards_init ww_Cards_init rm_Cards_init (fw_PcV D CL cA (TYS cA) layU b n V [.ref (b + o)]) (va_Qv (fun u : Nat × fw_V => post u.1 u.2) (fw_BV D CL cA layU b (n + 2) (SL n + 32)) (fw_Ac b)) 2 32 (fw_Ac b) := by
  refine Met.ofW (cc := bb_Cards_init) (maxL := 1) (ret := none) (by decide) rfl ?_
  intro p e s m args below meth c s₁ B hml hv
  obtain ⟨rfl, hP, hz, hK, hV⟩ := hv
  have hx := B.exec
  have hb := B.bytes
  have hr := B.returns
  have hts := atoms_spec (ws := ww_Cards_init) B.pre
  have hown : s.vm.findClass "OutletOffice$CardList" = some m.cls := findClass_of_methodNamed B.named
  have hlocks := B.notSynchronized
  have hin : meth.name = "<init>" := (name_of_methodNamed B.named B.method).1
  have ho1 := ho.1
  have hS : va_S (fw_Ac b) s.heap s.heap [] := va_S.rf
  have hl := lv_entry ([.ref (b + o)]) (n := 1) (Nat.le_of_ble_eq_true rfl)
  rw [lg_entry_eq]
  generalize (lg_sl ([.ref (b + o)]) ++ List.replicate (1 - (lg_sl ([.ref (b + o)])).length) Slot.unset).toArray = ls at hl ⊢
  have hl : lv_has ls 1 [(0, .ref (b + o))] := hl
  unfold wv_Cards_init at hw
  obtain ⟨hSLt, hw⟩ := hw
  refine W.cs (show 0 = n - n by omega) (show 0 = SL n - SL n by omega) ?_
  refine lv_aload_n hx hb dd_Cards_init_0 rfl (lv_at hl 0 rfl) ?_
  refine W.objInit hx hb hown (hts _ (tb_in tw_40)) (hts _ (tb_in tw_25)) (hts _ (tb_in tw_26)) rfl (hl.1.trans hml.symm) rfl dd_Cards_init_1 (Nat.le_of_ble_eq_true rfl) (Nat.le_of_ble_eq_true rfl) ?_
  refine W.eq (g2 := F0 m 4 ls []) rfl ?_
  refine lv_aload_n hx hb dd_Cards_init_4 rfl (lv_at hl 0 rfl) ?_
  refine lv_bipush (v := 16) hx hb dd_Cards_init_5 kc_bp_16 ?_
  obtain ⟨h1, hw⟩ := hw
  obtain ⟨h2, hw⟩ := hw
  obtain ⟨n3, e_n3⟩ : ∃ z, z = n + 1 := ⟨_, rfl⟩
  have s_n3 : SL n3 = SL n + 16 := by rw [e_n3, SL_succ, h2]; rfl
  have t_n3 : SL n3 ≤ SL (n + 2) := SL_mono (by omega)
  have g_n3 : SL n ≤ SL n := SL_mono (by omega)
  refine fw_newA hx hb (atype := .int) (hts _ (tb_in tw_48)) (ty := .int) rfl (fun C0 h0 => by cases h0) hK hP hz hS h2 (by decide) 0 rfl (by decide) (by decide) (by decide) (show n - n + 1 ≤ 2 by omega) (show SL n - SL n + 16 ≤ 32 by omega) dd_Cards_init_7 (fun H hP hz hS => ?_)
  have hw := hw n3 e_n3
  rw [← e_n3] at hP hz
  refine W.cs (show n - n + 1 = n3 - n by omega) (show SL n - SL n + 16 = SL n3 - SL n by omega) ?_
  obtain ⟨V4, e_V4⟩ : ∃ z, z = fw_nw V n (fun _ => defaultValue .int) := ⟨_, rfl⟩
  rw [← e_V4] at hP
  have hw := hw V4 e_V4
  refine fw_putFV hx hb hts in_6 F_ty_6 F_tyok_6 F_nm_6 hown hK hP hS (show b ≤ b + o by omega) ⟨by omega, ho.2⟩ (by decide) rfl 0 (by decide) (hts _ (tb_in tw_41)) rfl hin rfl (ty := .array (.int)) (by decide +kernel) rfl rfl dd_Cards_init_9 (fun H locs hP hS hz9 => ?_)
  rw [← hz9] at hz
  obtain ⟨V5, e_V5⟩ : ∃ z, z = fw_up V4 o 0 (.ref (b + n)) := ⟨_, rfl⟩
  rw [← e_V5] at hP
  have hw := hw V5 e_V5
  refine lv_aload_n hx hb dd_Cards_init_12 rfl (lv_at hl 0 rfl) ?_
  refine lv_bipush (v := 16) hx hb dd_Cards_init_13 kc_bp_16 ?_
  obtain ⟨h6, hw⟩ := hw
  obtain ⟨h7, hw⟩ := hw
  obtain ⟨n8, e_n8⟩ : ∃ z, z = n3 + 1 := ⟨_, rfl⟩
  have s_n8 : SL n8 = SL n3 + 16 := by rw [e_n8, SL_succ, h7]; rfl
  have t_n8 : SL n8 ≤ SL (n + 2) := SL_mono (by omega)
  have g_n8 : SL n ≤ SL n3 := SL_mono (by omega)
  refine fw_newA hx hb (atype := .int) (hts _ (tb_in tw_48)) (ty := .int) rfl (fun C0 h0 => by cases h0) hK hP hz hS h7 (by decide) 0 rfl (by decide) (by decide) (by decide) (show n3 - n + 1 ≤ 2 by omega) (show SL n3 - SL n + 16 ≤ 32 by omega) dd_Cards_init_15 (fun H hP hz hS => ?_)
  have hw := hw n8 e_n8
  rw [← e_n8] at hP hz
  refine W.cs (show n3 - n + 1 = n8 - n by omega) (show SL n3 - SL n + 16 = SL n8 - SL n by omega) ?_
  obtain ⟨V9, e_V9⟩ : ∃ z, z = fw_nw V5 n3 (fun _ => defaultValue .int) := ⟨_, rfl⟩
  rw [← e_V9] at hP
  have hw := hw V9 e_V9
  refine fw_putFV hx hb hts in_6 F_ty_6 F_tyok_6 F_nm_6 hown hK hP hS (show b ≤ b + o by omega) ⟨by omega, ho.2⟩ (by decide) rfl 1 (by decide) (hts _ (tb_in tw_42)) rfl hin rfl (ty := .array (.int)) (by decide +kernel) rfl rfl dd_Cards_init_17 (fun H locs hP hS hz9 => ?_)
  rw [← hz9] at hz
  obtain ⟨V10, e_V10⟩ : ∃ z, z = fw_up V9 o 1 (.ref (b + n3)) := ⟨_, rfl⟩
  rw [← e_V10] at hP
  have hw := hw V10 e_V10
  obtain ⟨h11, hw⟩ := hw
  have g12 : SL n ≤ SL n8 := SL_mono (by omega)
  have hT9 : SL n8 = SL n + 32 := by rw [h11]; exact hSLt
  refine W.cs (show n8 - n = 2 by omega) (show SL n8 - SL n = 32 by omega) ?_
  exact W.vret hx hb hr (fun t ht hW => ⟨⟨(n8, V10), rfl, hw, by rw [ht]; exact hP, by rw [ht]; exact hz, h11, hT9⟩, hS.F ht⟩) hS.2.2 dd_Cards_init_20
theorem dd_Tariff_init_30 : decode bb_Tariff_init 30 = .ok (.iload_n 1, 1) := by decide +kernel
theorem dd_Tariff_init_31 : decode bb_Tariff_init 31 = .ok (.iconst 4, 1) := by decide +kernel
theorem dd_Tariff_init_32 : decode bb_Tariff_init 32 = .ok (.if_icmp .ge 16, 3) := by decide +kernel
theorem dd_Tariff_init_48 : decode bb_Tariff_init 48 = .ok (.return_, 1) := by decide +kernel
theorem dd_Tariff_init_35 : decode bb_Tariff_init 35 = .ok (.aload_n 0, 1) := by decide +kernel
theorem dd_Tariff_init_36 : decode bb_Tariff_init 36 = .ok (.getfield 9, 3) := by decide +kernel
theorem dd_Tariff_init_39 : decode bb_Tariff_init 39 = .ok (.iload_n 1, 1) := by decide +kernel
theorem dd_Tariff_init_40 : decode bb_Tariff_init 40 = .ok (.iconst (-1), 1) := by decide +kernel
theorem dd_Tariff_init_41 : decode bb_Tariff_init 41 = .ok (.iastore, 1) := by decide +kernel
theorem dd_Tariff_init_42 : decode bb_Tariff_init 42 = .ok (.iinc 1 1, 3) := by decide +kernel
theorem dd_Tariff_init_45 : decode bb_Tariff_init 45 = .ok (.goto (-15), 3) := by decide +kernel
theorem dd_Tariff_init_0 : decode bb_Tariff_init 0 = .ok (.aload_n 0, 1) := by decide +kernel
theorem dd_Tariff_init_1 : decode bb_Tariff_init 1 = .ok (.invokespecial 3, 3) := by decide +kernel
theorem dd_Tariff_init_4 : decode bb_Tariff_init 4 = .ok (.aload_n 0, 1) := by decide +kernel
theorem dd_Tariff_init_5 : decode bb_Tariff_init 5 = .ok (.iconst 4, 1) := by decide +kernel
theorem dd_Tariff_init_6 : decode bb_Tariff_init 6 = .ok (.newarray .int, 2) := by decide +kernel
theorem dd_Tariff_init_8 : decode bb_Tariff_init 8 = .ok (.putfield 9, 3) := by decide +kernel
theorem dd_Tariff_init_11 : decode bb_Tariff_init 11 = .ok (.aload_n 0, 1) := by decide +kernel
theorem dd_Tariff_init_12 : decode bb_Tariff_init 12 = .ok (.iconst 4, 1) := by decide +kernel
theorem dd_Tariff_init_13 : decode bb_Tariff_init 13 = .ok (.newarray .int, 2) := by decide +kernel
theorem dd_Tariff_init_15 : decode bb_Tariff_init 15 = .ok (.putfield 15, 3) := by decide +kernel
theorem dd_Tariff_init_18 : decode bb_Tariff_init 18 = .ok (.aload_n 0, 1) := by decide +kernel
theorem dd_Tariff_init_19 : decode bb_Tariff_init 19 = .ok (.iconst 0, 1) := by decide +kernel
theorem dd_Tariff_init_20 : decode bb_Tariff_init 20 = .ok (.putfield 18, 3) := by decide +kernel
theorem dd_Tariff_init_23 : decode bb_Tariff_init 23 = .ok (.aload_n 0, 1) := by decide +kernel
theorem dd_Tariff_init_24 : decode bb_Tariff_init 24 = .ok (.iconst 0, 1) := by decide +kernel
theorem dd_Tariff_init_25 : decode bb_Tariff_init 25 = .ok (.putfield 22, 3) := by decide +kernel
theorem dd_Tariff_init_28 : decode bb_Tariff_init 28 = .ok (.iconst 0, 1) := by decide +kernel
theorem dd_Tariff_init_29 : decode bb_Tariff_init 29 = .ok (.istore_n 1, 1) := by decide +kernel
def ww_Tariff_init : List Cond := .code yy_Tariff_init bb_Tariff_init 2 none :: TB
def rm_Tariff_init : Room := { frames := 1, cells := 2, slots := 8, locals := 21 }
def wv_Tariff_init_30 (b n o : Nat) (post : Nat → fw_V → Prop) : Nat → Nat → fw_V → Int32 → Prop
  | 0, _, _, _ => False
  | f + 1, n1, V, x1 => ((4 ≤ x1 → n1 = n + 2 ∧ (post n1 V)) ∧ (¬ 4 ≤ x1 → V o 0 = .ref (b + (o + 1)) ∧ (o + 1 < n1 ∧ (layU (o + 1) = (100, 4) ∧ (vp_in x1 4 ∧ (∀ V9 : fw_V, V9 = fw_up V (o + 1) (x1 : Int32).toNatClampNeg (.int (-1)) → ∀ v10 : Int32, v10 = x1 + 1 → wv_Tariff_init_30 b n o post f n1 V9 v10))))))
def wv_Tariff_init (b n : Nat) (V : fw_V) (o : Nat) (post : Nat → fw_V → Prop) : Prop := SL (n + 2) = SL n + 8 ∧ (n + 1 ≤ n + 2 ∧ (layU n = (100, 4) ∧ (∀ n3, n3 = n + 1 → ∀ V4 : fw_V, V4 = fw_nw V n (fun _ => defaultValue .int) → ∀ V5 : fw_V, V5 = fw_up V4 o 0 (.ref (b + n)) → n3 + 1 ≤ n + 2 ∧ (layU n3 = (100, 4) ∧ (∀ n8, n8 = n3 + 1 → ∀ V9 : fw_V, V9 = fw_nw V5 n3 (fun _ => defaultValue .int) → ∀ V10 : fw_V, V10 = fw_up V9 o 1 (.ref (b + n3)) → ∀ V11 : fw_V, V11 = fw_up V10 o 2 (.int 0) → ∀ V12 : fw_V, V12 = fw_up V11 o 3 (.int 0) → ∃ f0, wv_Tariff_init_30 b n o post f0 n8 V12 0)))))
set_option maxHeartbeats 4000000 in
set_option maxRecDepth 100000 in
theorem mv_Tariff_init (l : Launch) (D : va_G) (cA : Nat → ClassId) (b n : Nat) (V : fw_V) (o : Nat) (ho : o < n ∧ layU o = (7, 0)) (post : Nat → fw_V → Prop) (hw : wv_Tariff_init b n V o post) : Met l yy_Tariff_init ww_Tariff_init rm_Tariff_init (fw_PcV D CL cA (TYS cA) layU b n V [.ref (b + o)]) (va_Qv (fun u : Nat × fw_V => post u.1 u.2) (fw_BV D CL cA layU b (n + 2) (SL n + 8)) (fw_Ac b)) 2 8 (fw_Ac b) := by
  refine Met.ofW (cc := bb_Tariff_init) (maxL := 2) (ret := none) (by decide) rfl ?_
  intro p e s m args below meth c s₁ B hml hv
  obtain ⟨rfl, hP, hz, hK, hV⟩ := hv
  have hx := B.exec
  have hb := B.bytes
  have hr := B.returns
  have hts := atoms_spec (ws := ww_Tariff_init) B.pre
  have hown : s.vm.findClass "OutletOffice$Tariff" = some m.cls := findClass_of_methodNamed B.named
  have hlocks := B.notSynchronized
  have hin : meth.name = "<init>" := (name_of_methodNamed B.named B.method).1
  have ho1 := ho.1
  have hS : va_S (fw_Ac b) s.heap s.heap [] := va_S.rf
  have hl := lv_entry ([.ref (b + o)]) (n := 2) (Nat.le_of_ble_eq_true rfl)
  rw [lg_entry_eq]
  generalize (lg_sl ([.ref (b + o)]) ++ List.replicate (2 - (lg_sl ([.ref (b + o)])).length) Slot.unset).toArray = ls at hl ⊢
  have hl : lv_has ls 2 [(0, .ref (b + o))] := hl
  unfold wv_Tariff_init at hw
  obtain ⟨hSLt, hw⟩ := hw
  have B30 : ∀ (f : Nat) (n1 : Nat) (V : fw_V) (x1 : Int32) (H : Heap) (locs : List Loc) (ls : Array Slot), n ≤ n1 → SL n ≤ SL n1 → wv_Tariff_init_30 b n o post f n1 V x1 → fw_P D CL cA layU b n1 V H → H.size = b + n1 → va_S (fw_Ac b) s.heap H locs → lv_has ls 2 [(0, .ref (b + o)), (1, .int x1)] → W p l e (headSpec ww_Tariff_init rm_Tariff_init).room s m ([.ref (b + o)] : List Value).toArray below meth c H locs (n1 - n) (SL n1 - SL n) (MQ below (va_Qv (fun u : Nat × fw_V => post u.1 u.2) (fw_BV D CL cA layU b (n + 2) (SL n + 8)) (fw_Ac b)) ([.ref (b + o)] : List Value).toArray s 2 8 (fw_Ac b)) (F0 m 30 ls []) := by
    intro f
    induction f with
    | zero => intro n1 V x1 H locs ls _ _ hw; exact False.elim hw
    | succ f ih =>
        intro n1 V x1 H locs ls hn1 hs1 hw hP hz hS hl
        unfold wv_Tariff_init_30 at hw
        refine lv_iload_n hx hb dd_Tariff_init_30 rfl (lv_at hl 1 rfl) ?_
        refine lv_iconst (v := 4) hx hb dd_Tariff_init_31 kc_ic_4 ?_
        refine lv_icmp_ge (tgt := 48) hx hb dd_Tariff_init_32 (by decide) (fun h2 => ?_) (fun h2 => ?_)
        · have hw := hw.1 h2
          obtain ⟨h3, hw⟩ := hw
          have g4 : SL n ≤ SL n1 := SL_mono (by omega)
          have hT9 : SL n1 = SL n + 8 := by rw [h3]; exact hSLt
          refine W.cs (show n1 - n = 2 by omega) (show SL n1 - SL n = 8 by omega) ?_
          exact W.vret hx hb hr (fun t ht hW => ⟨⟨(n1, V), rfl, hw, by rw [ht]; exact hP, by rw [ht]; exact hz, h3, hT9⟩, hS.F ht⟩) hS.2.2 dd_Tariff_init_48
        · have hw := hw.2 h2
          refine lv_aload_n hx hb dd_Tariff_init_35 rfl (lv_at hl 0 rfl) ?_
          obtain ⟨h5, hw⟩ := hw
          obtain ⟨h6, hw⟩ := hw
          obtain ⟨h7, hw⟩ := hw
          refine fw_getV hx hb hts in_7 hown hK hP ⟨by omega, ho.2⟩ (by decide) rfl 0 (by decide) (hts _ (tb_in tw_55)) h5 dd_Tariff_init_36 ?_
          refine lv_iload_n hx hb dd_Tariff_init_39 rfl (lv_at hl 1 rfl) ?_
          refine lv_iconst (v := (-1)) hx hb dd_Tariff_init_40 kc_ic_m1 ?_
          obtain ⟨h8, hw⟩ := hw
          refine fw_iastV hx hb hK hP hS (show b ≤ b + (o + 1) by omega) ⟨by omega, h7⟩ (by decide) 0 rfl h8 dd_Tariff_init_41 (fun H locs hP hS hz9 => ?_)
          rw [← hz9] at hz
          obtain ⟨V9, e_V9⟩ : ∃ z, z = fw_up V (o + 1) (x1 : Int32).toNatClampNeg (.int (-1)) := ⟨_, rfl⟩
          rw [← e_V9] at hP
          have hw := hw V9 e_V9
          obtain ⟨v10, e_v10⟩ : ∃ z : Int32, z = x1 + 1 := ⟨_, rfl⟩
          have hw := hw v10 e_v10
          refine lv_iinc hx hb dd_Tariff_init_42 hl (k := 1) rfl (show x1 + Int32.ofInt 1 = v10 by rw [kc_ii_1, e_v10]) (Nat.le_of_ble_eq_true rfl) rfl (fun ls hl => ?_)
          have hl : lv_has ls 2 [(1, .int v10), (0, .ref (b + o))] := hl
          refine lv_goto (tgt := 30) hx hb dd_Tariff_init_45 (by decide) ?_
          exact ih n1 V9 v10 _ _ ls (by omega) (SL_mono (by omega)) hw hP hz hS (lv_sub hl [1, 0] rfl)
  refine W.cs (show 0 = n - n by omega) (show 0 = SL n - SL n by omega) ?_
  refine lv_aload_n hx hb dd_Tariff_init_0 rfl (lv_at hl 0 rfl) ?_
  refine W.objInit hx hb hown (hts _ (tb_in tw_54)) (hts _ (tb_in tw_25)) (hts _ (tb_in tw_26)) rfl (hl.1.trans hml.symm) rfl dd_Tariff_init_1 (Nat.le_of_ble_eq_true rfl) (Nat.le_of_ble_eq_true rfl) ?_
  refine W.eq (g2 := F0 m 4 ls []) rfl ?_
  refine lv_aload_n hx hb dd_Tariff_init_4 rfl (lv_at hl 0 rfl) ?_
  refine lv_iconst (v := 4) hx hb dd_Tariff_init_5 kc_ic_4 ?_
  obtain ⟨h1, hw⟩ := hw
  obtain ⟨h2, hw⟩ := hw
  obtain ⟨n3, e_n3⟩ : ∃ z, z = n + 1 := ⟨_, rfl⟩
  have s_n3 : SL n3 = SL n + 4 := by rw [e_n3, SL_succ, h2]; rfl
  have t_n3 : SL n3 ≤ SL (n + 2) := SL_mono (by omega)
  have g_n3 : SL n ≤ SL n := SL_mono (by omega)
  refine fw_newA hx hb (atype := .int) (hts _ (tb_in tw_48)) (ty := .int) rfl (fun C0 h0 => by cases h0) hK hP hz hS h2 (by decide) 0 rfl (by decide) (by decide) (by decide) (show n - n + 1 ≤ 2 by omega) (show SL n - SL n + 4 ≤ 8 by omega) dd_Tariff_init_6 (fun H hP hz hS => ?_)
  have hw := hw n3 e_n3
  rw [← e_n3] at hP hz
  refine W.cs (show n - n + 1 = n3 - n by omega) (show SL n - SL n + 4 = SL n3 - SL n by omega) ?_
  obtain ⟨V4, e_V4⟩ : ∃ z, z = fw_nw V n (fun _ => defaultValue .int) := ⟨_, rfl⟩
  rw [← e_V4] at hP
  have hw := hw V4 e_V4
  refine fw_putFV hx hb hts in_7 F_ty_7 F_tyok_7 F_nm_7 hown hK hP hS (show b ≤ b + o by omega) ⟨by omega, ho.2⟩ (by decide) rfl 0 (by decide) (hts _ (tb_in tw_55)) rfl hin rfl (ty := .array (.int)) (by decide +kernel) rfl rfl dd_Tariff_init_8 (fun H locs hP hS hz9 => ?_)
  rw [← hz9] at hz
  obtain ⟨V5, e_V5⟩ : ∃ z, z = fw_up V4 o 0 (.ref (b + n)) := ⟨_, rfl⟩
  rw [← e_V5] at hP
  have hw := hw V5 e_V5
  refine lv_aload_n hx hb dd_Tariff_init_11 rfl (lv_at hl 0 rfl) ?_
  refine lv_iconst (v := 4) hx hb dd_Tariff_init_12 kc_ic_4 ?_
  obtain ⟨h6, hw⟩ := hw
  obtain ⟨h7, hw⟩ := hw
  obtain ⟨n8, e_n8⟩ : ∃ z, z = n3 + 1 := ⟨_, rfl⟩
  have s_n8 : SL n8 = SL n3 + 4 := by rw [e_n8, SL_succ, h7]; rfl
  have t_n8 : SL n8 ≤ SL (n + 2) := SL_mono (by omega)
  have g_n8 : SL n ≤ SL n3 := SL_mono (by omega)
  refine fw_newA hx hb (atype := .int) (hts _ (tb_in tw_48)) (ty := .int) rfl (fun C0 h0 => by cases h0) hK hP hz hS h7 (by decide) 0 rfl (by decide) (by decide) (by decide) (show n3 - n + 1 ≤ 2 by omega) (show SL n3 - SL n + 4 ≤ 8 by omega) dd_Tariff_init_13 (fun H hP hz hS => ?_)
  have hw := hw n8 e_n8
  rw [← e_n8] at hP hz
  refine W.cs (show n3 - n + 1 = n8 - n by omega) (show SL n3 - SL n + 4 = SL n8 - SL n by omega) ?_
  obtain ⟨V9, e_V9⟩ : ∃ z, z = fw_nw V5 n3 (fun _ => defaultValue .int) := ⟨_, rfl⟩
  rw [← e_V9] at hP
  have hw := hw V9 e_V9
  refine fw_putFV hx hb hts in_7 F_ty_7 F_tyok_7 F_nm_7 hown hK hP hS (show b ≤ b + o by omega) ⟨by omega, ho.2⟩ (by decide) rfl 1 (by decide) (hts _ (tb_in tw_56)) rfl hin rfl (ty := .array (.int)) (by decide +kernel) rfl rfl dd_Tariff_init_15 (fun H locs hP hS hz9 => ?_)
  rw [← hz9] at hz
  obtain ⟨V10, e_V10⟩ : ∃ z, z = fw_up V9 o 1 (.ref (b + n3)) := ⟨_, rfl⟩
  rw [← e_V10] at hP
  have hw := hw V10 e_V10
  refine lv_aload_n hx hb dd_Tariff_init_18 rfl (lv_at hl 0 rfl) ?_
  refine lv_iconst (v := 0) hx hb dd_Tariff_init_19 kc_ic_0 ?_
  refine fw_putV hx hb hts in_7 F_ty_7 F_tyok_7 F_nm_7 hown hK hP hS (show b ≤ b + o by omega) ⟨by omega, ho.2⟩ (by decide) rfl 2 (by decide) (hts _ (tb_in tw_57)) rfl (ty := .int) (by decide +kernel) rfl rfl dd_Tariff_init_20 (fun H locs hP hS hz9 => ?_)
  rw [← hz9] at hz
  obtain ⟨V11, e_V11⟩ : ∃ z, z = fw_up V10 o 2 (.int 0) := ⟨_, rfl⟩
  rw [← e_V11] at hP
  have hw := hw V11 e_V11
  refine lv_aload_n hx hb dd_Tariff_init_23 rfl (lv_at hl 0 rfl) ?_
  refine lv_iconst (v := 0) hx hb dd_Tariff_init_24 kc_ic_0 ?_
  refine fw_putV hx hb hts in_7 F_ty_7 F_tyok_7 F_nm_7 hown hK hP hS (show b ≤ b + o by omega) ⟨by omega, ho.2⟩ (by decide) rfl 3 (by decide) (hts _ (tb_in tw_60)) rfl (ty := .int) (by decide +kernel) rfl rfl dd_Tariff_init_25 (fun H locs hP hS hz9 => ?_)
  rw [← hz9] at hz
  obtain ⟨V12, e_V12⟩ : ∃ z, z = fw_up V11 o 3 (.int 0) := ⟨_, rfl⟩
  rw [← e_V12] at hP
  have hw := hw V12 e_V12
  refine lv_iconst (v := 0) hx hb dd_Tariff_init_28 kc_ic_0 ?_
  refine lv_istore_n hx hb dd_Tariff_init_29 rfl hl (Nat.le_of_ble_eq_true rfl) rfl (fun ls hl => ?_)
  have hl : lv_has ls 2 [(1, .int 0), (0, .ref (b + o))] := hl
  obtain ⟨f0, hw⟩ := hw
  exact B30 f0 n8 V12 0 _ _ ls (by omega) (SL_mono (by omega)) hw hP hz hS (lv_sub hl [1, 0] rfl)
theorem dd_Queue_init_35 : decode bb_Queue_init 35 = .ok (.iload_n 1, 1) := by decide +kernel
theorem dd_Queue_init_36 : decode bb_Queue_init 36 = .ok (.bipush 24, 2) := by decide +kernel
theorem dd_Queue_init_38 : decode bb_Queue_init 38 = .ok (.if_icmp .ge 22, 3) := by decide +kernel
theorem dd_Queue_init_60 : decode bb_Queue_init 60 = .ok (.return_, 1) := by decide +kernel
theorem dd_Queue_init_41 : decode bb_Queue_init 41 = .ok (.aload_n 0, 1) := by decide +kernel
theorem dd_Queue_init_42 : decode bb_Queue_init 42 = .ok (.getfield 11, 3) := by decide +kernel
theorem dd_Queue_init_45 : decode bb_Queue_init 45 = .ok (.iload_n 1, 1) := by decide +kernel
theorem dd_Queue_init_46 : decode bb_Queue_init 46 = .ok (.new 9, 3) := by decide +kernel
theorem dd_Queue_init_49 : decode bb_Queue_init 49 = .ok (.dup, 1) := by decide +kernel
theorem dd_Queue_init_50 : decode bb_Queue_init 50 = .ok (.invokespecial 30, 3) := by decide +kernel
theorem dd_Queue_init_53 : decode bb_Queue_init 53 = .ok (.aastore, 1) := by decide +kernel
theorem dd_Queue_init_54 : decode bb_Queue_init 54 = .ok (.iinc 1 1, 3) := by decide +kernel
theorem dd_Queue_init_57 : decode bb_Queue_init 57 = .ok (.goto (-22), 3) := by decide +kernel
theorem dd_Queue_init_0 : decode bb_Queue_init 0 = .ok (.aload_n 0, 1) := by decide +kernel
theorem dd_Queue_init_1 : decode bb_Queue_init 1 = .ok (.invokespecial 3, 3) := by decide +kernel
theorem dd_Queue_init_4 : decode bb_Queue_init 4 = .ok (.aload_n 0, 1) := by decide +kernel
theorem dd_Queue_init_5 : decode bb_Queue_init 5 = .ok (.bipush 24, 2) := by decide +kernel
theorem dd_Queue_init_7 : decode bb_Queue_init 7 = .ok (.anewarray 9, 3) := by decide +kernel
theorem dd_Queue_init_10 : decode bb_Queue_init 10 = .ok (.putfield 11, 3) := by decide +kernel
theorem dd_Queue_init_13 : decode bb_Queue_init 13 = .ok (.aload_n 0, 1) := by decide +kernel
theorem dd_Queue_init_14 : decode bb_Queue_init 14 = .ok (.iconst 0, 1) := by decide +kernel
theorem dd_Queue_init_15 : decode bb_Queue_init 15 = .ok (.putfield 17, 3) := by decide +kernel
theorem dd_Queue_init_18 : decode bb_Queue_init 18 = .ok (.aload_n 0, 1) := by decide +kernel
theorem dd_Queue_init_19 : decode bb_Queue_init 19 = .ok (.iconst 1, 1) := by decide +kernel
theorem dd_Queue_init_20 : decode bb_Queue_init 20 = .ok (.putfield 21, 3) := by decide +kernel
theorem dd_Queue_init_23 : decode bb_Queue_init 23 = .ok (.aload_n 0, 1) := by decide +kernel
theorem dd_Queue_init_24 : decode bb_Queue_init 24 = .ok (.iconst 0, 1) := by decide +kernel
theorem dd_Queue_init_25 : decode bb_Queue_init 25 = .ok (.putfield 24, 3) := by decide +kernel
theorem dd_Queue_init_28 : decode bb_Queue_init 28 = .ok (.aload_n 0, 1) := by decide +kernel
theorem dd_Queue_init_29 : decode bb_Queue_init 29 = .ok (.iconst (-1), 1) := by decide +kernel
theorem dd_Queue_init_30 : decode bb_Queue_init 30 = .ok (.putfield 27, 3) := by decide +kernel
theorem dd_Queue_init_33 : decode bb_Queue_init 33 = .ok (.iconst 0, 1) := by decide +kernel
theorem dd_Queue_init_34 : decode bb_Queue_init 34 = .ok (.istore_n 1, 1) := by decide +kernel
def ww_Queue_init : List Cond := .code yy_Queue_init bb_Queue_init 2 none :: TB
def rm_Queue_init : Room := { frames := 2, cells := 25, slots := 168, locals := 41 }
def wv_Queue_init_35 (b n o : Nat) (post : Nat → fw_V → Prop) : Nat → Nat → fw_V → Int32 → Prop
  | 0, _, _, _ => False
  | f + 1, n1, V, x1 => ((24 ≤ x1 → n1 = n + 25 ∧ (post n1 V)) ∧ (¬ 24 ≤ x1 → V o 0 = .ref (b + (o + 1)) ∧ (o + 1 < n1 ∧ (layU (o + 1) = (105, 24) ∧ (n1 + 1 ≤ n + 25 ∧ (layU n1 = (5, 0) ∧ (∀ n10, n10 = n1 + 1 → ∀ V11 : fw_V, V11 = fw_nw V n1 (fun k => defaultValue (F_ty_5 k)) → n10 + 0 ≤ n + 25 ∧ (SL (n10 + 0) = SL n10 + 0 ∧ (wv_Msg_init b n10 V11 n1 (fun n16 V17 => n16 = n10 + 0 → vp_in x1 24 ∧ (∀ V19 : fw_V, V19 = fw_up V17 (o + 1) (x1 : Int32).toNatClampNeg (.ref (b + n1)) → ∀ v20 : Int32, v20 = x1 + 1 → wv_Queue_init_35 b n o post f n16 V19 v20)))))))))))
def wv_Queue_init (b n : Nat) (V : fw_V) (o : Nat) (post : Nat → fw_V → Prop) : Prop := SL (n + 25) = SL n + 168 ∧ (n + 1 ≤ n + 25 ∧ (layU n = (105, 24) ∧ (∀ n3, n3 = n + 1 → ∀ V4 : fw_V, V4 = fw_nw V n (fun _ => .null) → ∀ V5 : fw_V, V5 = fw_up V4 o 0 (.ref (b + n)) → ∀ V6 : fw_V, V6 = fw_up V5 o 1 (.int 0) → ∀ V7 : fw_V, V7 = fw_up V6 o 2 (.int 1) → ∀ V8 : fw_V, V8 = fw_up V7 o 3 (.int 0) → ∀ V9 : fw_V, V9 = fw_up V8 o 4 (.int (-1)) → ∃ f0, wv_Queue_init_35 b n o post f0 n3 V9 0)))
set_option maxHeartbeats 4000000 in
set_option maxRecDepth 100000 in
theorem mv_Queue_init (l : Launch) (D : va_G) (cA : Nat → ClassId) (b n : Nat) (V : fw_V) (o : Nat) (ho : o < n ∧ layU o = (4, 0)) (post : Nat → fw_V → Prop) (hw : wv_Queue_init b n V o post) : Met l yy_Queue_init ww_Queue_init rm_Queue_init (fw_PcV D CL cA (TYS cA) layU b n V [.ref (b + o)]) (va_Qv (fun u : Nat × fw_V => post u.1 u.2) (fw_BV D CL cA layU b (n + 25) (SL n + 168)) (fw_Ac b)) 25 168 (fw_Ac b) := by
  refine Met.ofW (cc := bb_Queue_init) (maxL := 2) (ret := none) (by decide) rfl ?_
  intro p e s m args below meth c s₁ B hml hv
  obtain ⟨rfl, hP, hz, hK, hV⟩ := hv
  have hx := B.exec
  have hb := B.bytes
  have hr := B.returns
  have hts := atoms_spec (ws := ww_Queue_init) B.pre
  have hown : s.vm.findClass "OutletOffice$Queue" = some m.cls := findClass_of_methodNamed B.named
  have hlocks := B.notSynchronized
  have hin : meth.name = "<init>" := (name_of_methodNamed B.named B.method).1
  have ho1 := ho.1
  have hS : va_S (fw_Ac b) s.heap s.heap [] := va_S.rf
  have hl := lv_entry ([.ref (b + o)]) (n := 2) (Nat.le_of_ble_eq_true rfl)
  rw [lg_entry_eq]
  generalize (lg_sl ([.ref (b + o)]) ++ List.replicate (2 - (lg_sl ([.ref (b + o)])).length) Slot.unset).toArray = ls at hl ⊢
  have hl : lv_has ls 2 [(0, .ref (b + o))] := hl
  unfold wv_Queue_init at hw
  obtain ⟨hSLt, hw⟩ := hw
  have B35 : ∀ (f : Nat) (n1 : Nat) (V : fw_V) (x1 : Int32) (H : Heap) (locs : List Loc) (ls : Array Slot), n ≤ n1 → SL n ≤ SL n1 → wv_Queue_init_35 b n o post f n1 V x1 → fw_P D CL cA layU b n1 V H → H.size = b + n1 → va_S (fw_Ac b) s.heap H locs → lv_has ls 2 [(0, .ref (b + o)), (1, .int x1)] → W p l e (headSpec ww_Queue_init rm_Queue_init).room s m ([.ref (b + o)] : List Value).toArray below meth c H locs (n1 - n) (SL n1 - SL n) (MQ below (va_Qv (fun u : Nat × fw_V => post u.1 u.2) (fw_BV D CL cA layU b (n + 25) (SL n + 168)) (fw_Ac b)) ([.ref (b + o)] : List Value).toArray s 25 168 (fw_Ac b)) (F0 m 35 ls []) := by
    intro f
    induction f with
    | zero => intro n1 V x1 H locs ls _ _ hw; exact False.elim hw
    | succ f ih =>
        intro n1 V x1 H locs ls hn1 hs1 hw hP hz hS hl
        unfold wv_Queue_init_35 at hw
        refine lv_iload_n hx hb dd_Queue_init_35 rfl (lv_at hl 1 rfl) ?_
        refine lv_bipush (v := 24) hx hb dd_Queue_init_36 kc_bp_24 ?_
        refine lv_icmp_ge (tgt := 60) hx hb dd_Queue_init_38 (by decide) (fun h2 => ?_) (fun h2 => ?_)
        · have hw := hw.1 h2
          obtain ⟨h3, hw⟩ := hw
          have g4 : SL n ≤ SL n1 := SL_mono (by omega)
          have hT9 : SL n1 = SL n + 168 := by rw [h3]; exact hSLt
          refine W.cs (show n1 - n = 25 by omega) (show SL n1 - SL n = 168 by omega) ?_
          exact W.vret hx hb hr (fun t ht hW => ⟨⟨(n1, V), rfl, hw, by rw [ht]; exact hP, by rw [ht]; exact hz, h3, hT9⟩, hS.F ht⟩) hS.2.2 dd_Queue_init_60
        · have hw := hw.2 h2
          refine lv_aload_n hx hb dd_Queue_init_41 rfl (lv_at hl 0 rfl) ?_
          obtain ⟨h5, hw⟩ := hw
          obtain ⟨h6, hw⟩ := hw
          obtain ⟨h7, hw⟩ := hw
          refine fw_getV hx hb hts in_4 hown hK hP ⟨by omega, ho.2⟩ (by decide) rfl 0 (by decide) (hts _ (tb_in tw_221)) h5 dd_Queue_init_42 ?_
          refine lv_iload_n hx hb dd_Queue_init_45 rfl (lv_at hl 1 rfl) ?_
          obtain ⟨h8, hw⟩ := hw
          obtain ⟨h9, hw⟩ := hw
          obtain ⟨n10, e_n10⟩ : ∃ z, z = n1 + 1 := ⟨_, rfl⟩
          have s_n10 : SL n10 = SL n1 + 6 := by rw [e_n10, SL_succ, h9]; rfl
          have t_n10 : SL n10 ≤ SL (n + 25) := SL_mono (by omega)
          have g_n10 : SL n ≤ SL n1 := SL_mono (by omega)
          refine fw_newO hx hb hts in_5 F_ty_5 F_tyok_5 hown (hts _ (tb_in tw_189)) (hts _ (tb_in tw_191)) (hts _ (tb_in tw_10)) hK hP hz hS h9 (by decide) rfl (show n1 - n + 1 ≤ 25 by omega) (show SL n1 - SL n + 6 ≤ 168 by omega) dd_Queue_init_46 (fun H hP hz hS => ?_)
          have hw := hw n10 e_n10
          rw [← e_n10] at hP hz
          refine W.cs (show n1 - n + 1 = n10 - n by omega) (show SL n1 - SL n + 6 = SL n10 - SL n by omega) ?_
          obtain ⟨V11, e_V11⟩ : ∃ z, z = fw_nw V n1 (fun k => defaultValue (F_ty_5 k)) := ⟨_, rfl⟩
          rw [← e_V11] at hP
          have hw := hw V11 e_V11
          refine lv_dup hx hb dd_Queue_init_49 rfl ?_
          obtain ⟨h12, hw⟩ := hw
          obtain ⟨h13, hw⟩ := hw
          have t14 : SL (n10 + 0) ≤ SL (n + 25) := SL_mono (by omega)
          have g15 : SL n ≤ SL n10 := SL_mono (by omega)
          refine fw_callV (va_runIN (As := []) (rest := [.ref (b + n1), .int x1, .ref (b + (o + 1))]) ⟨hx, hb, hml, hown, hts⟩ (mv_Msg_init l D cA b n10 V11 n1 ⟨by omega, h9⟩ _ hw) ⟨va_cnB 0 hts (fw_g tw_194) rfl rfl rfl (tv_at hV 4 rfl) (hts _ (tb_in tw_10)) (by decide +kernel) ⟨Nat.le_of_ble_eq_true rfl, Nat.le_of_ble_eq_true rfl⟩, rfl, hts _ (tb_in tw_193)⟩ (fw_preSV hP hz hK hV) rfl rfl hl.1 rfl (lv_room (Nat.le_of_ble_eq_true rfl)) dd_Queue_init_50 ⟨(show n10 - n + 0 ≤ 25 by omega), (show SL n10 - SL n + 0 ≤ 168 by omega)⟩) hS (fun n16 V17 H locs hw hP hz hS e_n16 s_n16 => ?_)
          try dsimp only at hw
          refine W.cs (show n10 - n + 0 = n16 - n by omega) (show SL n10 - SL n + 0 = SL n16 - SL n by omega) ?_
          have hw := hw e_n16
          obtain ⟨h18, hw⟩ := hw
          refine fw_aastV hx hb hK hP hS (show b ≤ b + (o + 1) by omega) ⟨by omega, h7⟩ (by decide) 5 rfl ⟨by omega, h9⟩ (by decide) rfl h18 dd_Queue_init_53 (fun H locs hP hS hz9 => ?_)
          rw [← hz9] at hz
          obtain ⟨V19, e_V19⟩ : ∃ z, z = fw_up V17 (o + 1) (x1 : Int32).toNatClampNeg (.ref (b + n1)) := ⟨_, rfl⟩
          rw [← e_V19] at hP
          have hw := hw V19 e_V19
          obtain ⟨v20, e_v20⟩ : ∃ z : Int32, z = x1 + 1 := ⟨_, rfl⟩
          have hw := hw v20 e_v20
          refine lv_iinc hx hb dd_Queue_init_54 hl (k := 1) rfl (show x1 + Int32.ofInt 1 = v20 by rw [kc_ii_1, e_v20]) (Nat.le_of_ble_eq_true rfl) rfl (fun ls hl => ?_)
          have hl : lv_has ls 2 [(1, .int v20), (0, .ref (b + o))] := hl
          refine lv_goto (tgt := 35) hx hb dd_Queue_init_57 (by decide) ?_
          exact ih n16 V19 v20 _ _ ls (by omega) (SL_mono (by omega)) hw hP hz hS (lv_sub hl [1, 0] rfl)
  refine W.cs (show 0 = n - n by omega) (show 0 = SL n - SL n by omega) ?_
  refine lv_aload_n hx hb dd_Queue_init_0 rfl (lv_at hl 0 rfl) ?_
  refine W.objInit hx hb hown (hts _ (tb_in tw_188)) (hts _ (tb_in tw_25)) (hts _ (tb_in tw_26)) rfl (hl.1.trans hml.symm) rfl dd_Queue_init_1 (Nat.le_of_ble_eq_true rfl) (Nat.le_of_ble_eq_true rfl) ?_
  refine W.eq (g2 := F0 m 4 ls []) rfl ?_
  refine lv_aload_n hx hb dd_Queue_init_4 rfl (lv_at hl 0 rfl) ?_
  refine lv_bipush (v := 24) hx hb dd_Queue_init_5 kc_bp_24 ?_
  obtain ⟨h1, hw⟩ := hw
  obtain ⟨h2, hw⟩ := hw
  obtain ⟨n3, e_n3⟩ : ∃ z, z = n + 1 := ⟨_, rfl⟩
  have s_n3 : SL n3 = SL n + 24 := by rw [e_n3, SL_succ, h2]; rfl
  have t_n3 : SL n3 ≤ SL (n + 25) := SL_mono (by omega)
  have g_n3 : SL n ≤ SL n := SL_mono (by omega)
  refine fw_newQ hx hb hown (hts _ (tb_in tw_189)) hV.2.2.2.2 hK hP hz hS h2 (by decide) 5 rfl (by decide) (by decide) (by decide) (show n - n + 1 ≤ 25 by omega) (show SL n - SL n + 24 ≤ 168 by omega) dd_Queue_init_7 (fun H hP hz hS => ?_)
  have hw := hw n3 e_n3
  rw [← e_n3] at hP hz
  refine W.cs (show n - n + 1 = n3 - n by omega) (show SL n - SL n + 24 = SL n3 - SL n by omega) ?_
  obtain ⟨V4, e_V4⟩ : ∃ z, z = fw_nw V n (fun _ => .null) := ⟨_, rfl⟩
  rw [← e_V4] at hP
  have hw := hw V4 e_V4
  refine fw_putFV hx hb hts in_4 F_ty_4 F_tyok_4 F_nm_4 hown hK hP hS (show b ≤ b + o by omega) ⟨by omega, ho.2⟩ (by decide) rfl 0 (by decide) (hts _ (tb_in tw_221)) rfl hin rfl (ty := .array (.object "OutletOffice$Message")) (by decide +kernel) rfl rfl dd_Queue_init_10 (fun H locs hP hS hz9 => ?_)
  rw [← hz9] at hz
  obtain ⟨V5, e_V5⟩ : ∃ z, z = fw_up V4 o 0 (.ref (b + n)) := ⟨_, rfl⟩
  rw [← e_V5] at hP
  have hw := hw V5 e_V5
  refine lv_aload_n hx hb dd_Queue_init_13 rfl (lv_at hl 0 rfl) ?_
  refine lv_iconst (v := 0) hx hb dd_Queue_init_14 kc_ic_0 ?_
  refine fw_putV hx hb hts in_4 F_ty_4 F_tyok_4 F_nm_4 hown hK hP hS (show b ≤ b + o by omega) ⟨by omega, ho.2⟩ (by decide) rfl 1 (by decide) (hts _ (tb_in tw_222)) rfl (ty := .int) (by decide +kernel) rfl rfl dd_Queue_init_15 (fun H locs hP hS hz9 => ?_)
  rw [← hz9] at hz
  obtain ⟨V6, e_V6⟩ : ∃ z, z = fw_up V5 o 1 (.int 0) := ⟨_, rfl⟩
  rw [← e_V6] at hP
  have hw := hw V6 e_V6
  refine lv_aload_n hx hb dd_Queue_init_18 rfl (lv_at hl 0 rfl) ?_
  refine lv_iconst (v := 1) hx hb dd_Queue_init_19 kc_ic_1 ?_
  refine fw_putV hx hb hts in_4 F_ty_4 F_tyok_4 F_nm_4 hown hK hP hS (show b ≤ b + o by omega) ⟨by omega, ho.2⟩ (by decide) rfl 2 (by decide) (hts _ (tb_in tw_223)) rfl (ty := .int) (by decide +kernel) rfl rfl dd_Queue_init_20 (fun H locs hP hS hz9 => ?_)
  rw [← hz9] at hz
  obtain ⟨V7, e_V7⟩ : ∃ z, z = fw_up V6 o 2 (.int 1) := ⟨_, rfl⟩
  rw [← e_V7] at hP
  have hw := hw V7 e_V7
  refine lv_aload_n hx hb dd_Queue_init_23 rfl (lv_at hl 0 rfl) ?_
  refine lv_iconst (v := 0) hx hb dd_Queue_init_24 kc_ic_0 ?_
  refine fw_putV hx hb hts in_4 F_ty_4 F_tyok_4 F_nm_4 hown hK hP hS (show b ≤ b + o by omega) ⟨by omega, ho.2⟩ (by decide) rfl 3 (by decide) (hts _ (tb_in tw_224)) rfl (ty := .int) (by decide +kernel) rfl rfl dd_Queue_init_25 (fun H locs hP hS hz9 => ?_)
  rw [← hz9] at hz
  obtain ⟨V8, e_V8⟩ : ∃ z, z = fw_up V7 o 3 (.int 0) := ⟨_, rfl⟩
  rw [← e_V8] at hP
  have hw := hw V8 e_V8
  refine lv_aload_n hx hb dd_Queue_init_28 rfl (lv_at hl 0 rfl) ?_
  refine lv_iconst (v := (-1)) hx hb dd_Queue_init_29 kc_ic_m1 ?_
  refine fw_putV hx hb hts in_4 F_ty_4 F_tyok_4 F_nm_4 hown hK hP hS (show b ≤ b + o by omega) ⟨by omega, ho.2⟩ (by decide) rfl 4 (by decide) (hts _ (tb_in tw_227)) rfl (ty := .int) (by decide +kernel) rfl rfl dd_Queue_init_30 (fun H locs hP hS hz9 => ?_)
  rw [← hz9] at hz
  obtain ⟨V9, e_V9⟩ : ∃ z, z = fw_up V8 o 4 (.int (-1)) := ⟨_, rfl⟩
  rw [← e_V9] at hP
  have hw := hw V9 e_V9
  refine lv_iconst (v := 0) hx hb dd_Queue_init_33 kc_ic_0 ?_
  refine lv_istore_n hx hb dd_Queue_init_34 rfl hl (Nat.le_of_ble_eq_true rfl) rfl (fun ls hl => ?_)
  have hl : lv_has ls 2 [(1, .int 0), (0, .ref (b + o))] := hl
  obtain ⟨f0, hw⟩ := hw
  exact B35 f0 n3 V9 0 _ _ ls (by omega) (SL_mono (by omega)) hw hP hz hS (lv_sub hl [1, 0] rfl)
theorem dd_Point_init_0 : decode bb_Point_init 0 = .ok (.aload_n 0, 1) := by decide +kernel
theorem dd_Point_init_1 : decode bb_Point_init 1 = .ok (.invokespecial 3, 3) := by decide +kernel
theorem dd_Point_init_4 : decode bb_Point_init 4 = .ok (.aload_n 0, 1) := by decide +kernel
theorem dd_Point_init_5 : decode bb_Point_init 5 = .ok (.new 9, 3) := by decide +kernel
theorem dd_Point_init_8 : decode bb_Point_init 8 = .ok (.dup, 1) := by decide +kernel
theorem dd_Point_init_9 : decode bb_Point_init 9 = .ok (.invokespecial 11, 3) := by decide +kernel
theorem dd_Point_init_12 : decode bb_Point_init 12 = .ok (.putfield 12, 3) := by decide +kernel
theorem dd_Point_init_15 : decode bb_Point_init 15 = .ok (.aload_n 0, 1) := by decide +kernel
theorem dd_Point_init_16 : decode bb_Point_init 16 = .ok (.new 18, 3) := by decide +kernel
theorem dd_Point_init_19 : decode bb_Point_init 19 = .ok (.dup, 1) := by decide +kernel
theorem dd_Point_init_20 : decode bb_Point_init 20 = .ok (.invokespecial 20, 3) := by decide +kernel
theorem dd_Point_init_23 : decode bb_Point_init 23 = .ok (.putfield 21, 3) := by decide +kernel
theorem dd_Point_init_26 : decode bb_Point_init 26 = .ok (.aload_n 0, 1) := by decide +kernel
theorem dd_Point_init_27 : decode bb_Point_init 27 = .ok (.new 25, 3) := by decide +kernel
theorem dd_Point_init_30 : decode bb_Point_init 30 = .ok (.dup, 1) := by decide +kernel
theorem dd_Point_init_31 : decode bb_Point_init 31 = .ok (.invokespecial 27, 3) := by decide +kernel
theorem dd_Point_init_34 : decode bb_Point_init 34 = .ok (.putfield 28, 3) := by decide +kernel
theorem dd_Point_init_37 : decode bb_Point_init 37 = .ok (.aload_n 0, 1) := by decide +kernel
theorem dd_Point_init_38 : decode bb_Point_init 38 = .ok (.iconst 1, 1) := by decide +kernel
theorem dd_Point_init_39 : decode bb_Point_init 39 = .ok (.putfield 32, 3) := by decide +kernel
theorem dd_Point_init_42 : decode bb_Point_init 42 = .ok (.aload_n 0, 1) := by decide +kernel
theorem dd_Point_init_43 : decode bb_Point_init 43 = .ok (.iconst 1, 1) := by decide +kernel
theorem dd_Point_init_44 : decode bb_Point_init 44 = .ok (.putfield 36, 3) := by decide +kernel
theorem dd_Point_init_47 : decode bb_Point_init 47 = .ok (.aload_n 0, 1) := by decide +kernel
theorem dd_Point_init_48 : decode bb_Point_init 48 = .ok (.lconst 0, 1) := by decide +kernel
theorem dd_Point_init_49 : decode bb_Point_init 49 = .ok (.putfield 39, 3) := by decide +kernel
theorem dd_Point_init_52 : decode bb_Point_init 52 = .ok (.aload_n 0, 1) := by decide +kernel
theorem dd_Point_init_53 : decode bb_Point_init 53 = .ok (.iconst 0, 1) := by decide +kernel
theorem dd_Point_init_54 : decode bb_Point_init 54 = .ok (.putfield 43, 3) := by decide +kernel
theorem dd_Point_init_57 : decode bb_Point_init 57 = .ok (.aload_n 0, 1) := by decide +kernel
theorem dd_Point_init_58 : decode bb_Point_init 58 = .ok (.iconst (-1), 1) := by decide +kernel
theorem dd_Point_init_59 : decode bb_Point_init 59 = .ok (.putfield 47, 3) := by decide +kernel
theorem dd_Point_init_62 : decode bb_Point_init 62 = .ok (.aload_n 0, 1) := by decide +kernel
theorem dd_Point_init_63 : decode bb_Point_init 63 = .ok (.iconst 0, 1) := by decide +kernel
theorem dd_Point_init_64 : decode bb_Point_init 64 = .ok (.putfield 50, 3) := by decide +kernel
theorem dd_Point_init_67 : decode bb_Point_init 67 = .ok (.aload_n 0, 1) := by decide +kernel
theorem dd_Point_init_68 : decode bb_Point_init 68 = .ok (.iconst 0, 1) := by decide +kernel
theorem dd_Point_init_69 : decode bb_Point_init 69 = .ok (.putfield 53, 3) := by decide +kernel
theorem dd_Point_init_72 : decode bb_Point_init 72 = .ok (.aload_n 0, 1) := by decide +kernel
theorem dd_Point_init_73 : decode bb_Point_init 73 = .ok (.iconst 0, 1) := by decide +kernel
theorem dd_Point_init_74 : decode bb_Point_init 74 = .ok (.putfield 56, 3) := by decide +kernel
theorem dd_Point_init_77 : decode bb_Point_init 77 = .ok (.aload_n 0, 1) := by decide +kernel
theorem dd_Point_init_78 : decode bb_Point_init 78 = .ok (.iconst 0, 1) := by decide +kernel
theorem dd_Point_init_79 : decode bb_Point_init 79 = .ok (.putfield 59, 3) := by decide +kernel
theorem dd_Point_init_82 : decode bb_Point_init 82 = .ok (.return_, 1) := by decide +kernel
def ww_Point_init : List Cond := .code yy_Point_init bb_Point_init 1 none :: TB
def rm_Point_init : Room := { frames := 3, cells := 30, slots := 213, locals := 62 }
def wv_Point_init (b n : Nat) (V : fw_V) (o : Nat) (post : Nat → fw_V → Prop) : Prop := SL (n + 30) = SL n + 213 ∧ (n + 1 ≤ n + 30 ∧ (layU n = (3, 0) ∧ (∀ n3, n3 = n + 1 → ∀ V4 : fw_V, V4 = fw_nw V n (fun k => defaultValue (F_ty_3 k)) → n3 + 0 ≤ n + 30 ∧ (SL (n3 + 0) = SL n3 + 0 ∧ (wv_Car_init b n3 V4 n (fun n9 V10 => n9 = n3 + 0 → ∀ V11 : fw_V, V11 = fw_up V10 o 0 (.ref (b + n)) → n9 + 1 ≤ n + 30 ∧ (layU n9 = (4, 0) ∧ (∀ n14, n14 = n9 + 1 → ∀ V15 : fw_V, V15 = fw_nw V11 n9 (fun k => defaultValue (F_ty_4 k)) → n14 + 25 ≤ n + 30 ∧ (SL (n14 + 25) = SL n14 + 168 ∧ (wv_Queue_init b n14 V15 n9 (fun n20 V21 => n20 = n14 + 25 → ∀ V22 : fw_V, V22 = fw_up V21 o 1 (.ref (b + n9)) → n20 + 1 ≤ n + 30 ∧ (layU n20 = (6, 0) ∧ (∀ n25, n25 = n20 + 1 → ∀ V26 : fw_V, V26 = fw_nw V22 n20 (fun k => defaultValue (F_ty_6 k)) → n25 + 2 ≤ n + 30 ∧ (SL (n25 + 2) = SL n25 + 32 ∧ (wv_Cards_init b n25 V26 n20 (fun n31 V32 => n31 = n25 + 2 → ∀ V33 : fw_V, V33 = fw_up V32 o 2 (.ref (b + n20)) → ∀ V34 : fw_V, V34 = fw_up V33 o 3 (.int 1) → ∀ V35 : fw_V, V35 = fw_up V34 o 4 (.int 1) → ∀ V36 : fw_V, V36 = fw_up V35 o 5 (.long 0) → ∀ V37 : fw_V, V37 = fw_up V36 o 6 (.int 0) → ∀ V38 : fw_V, V38 = fw_up V37 o 7 (.int (-1)) → ∀ V39 : fw_V, V39 = fw_up V38 o 8 (.int 0) → ∀ V40 : fw_V, V40 = fw_up V39 o 9 (.int 0) → ∀ V41 : fw_V, V41 = fw_up V40 o 10 (.int 0) → ∀ V42 : fw_V, V42 = fw_up V41 o 11 (.int 0) → n31 = n + 30 ∧ (post n31 V42)))))))))))))))))
set_option maxHeartbeats 4000000 in
set_option maxRecDepth 100000 in
theorem mv_Point_init (l : Launch) (D : va_G) (cA : Nat → ClassId) (b n : Nat) (V : fw_V) (o : Nat) (ho : o < n ∧ layU o = (2, 0)) (post : Nat → fw_V → Prop) (hw : wv_Point_init b n V o post) : Met l yy_Point_init ww_Point_init rm_Point_init (fw_PcV D CL cA (TYS cA) layU b n V [.ref (b + o)]) (va_Qv (fun u : Nat × fw_V => post u.1 u.2) (fw_BV D CL cA layU b (n + 30) (SL n + 213)) (fw_Ac b)) 30 213 (fw_Ac b) := by
  refine Met.ofW (cc := bb_Point_init) (maxL := 1) (ret := none) (by decide) rfl ?_
  intro p e s m args below meth c s₁ B hml hv
  obtain ⟨rfl, hP, hz, hK, hV⟩ := hv
  have hx := B.exec
  have hb := B.bytes
  have hr := B.returns
  have hts := atoms_spec (ws := ww_Point_init) B.pre
  have hown : s.vm.findClass "OutletOffice$Point" = some m.cls := findClass_of_methodNamed B.named
  have hlocks := B.notSynchronized
  have hin : meth.name = "<init>" := (name_of_methodNamed B.named B.method).1
  have ho1 := ho.1
  have hS : va_S (fw_Ac b) s.heap s.heap [] := va_S.rf
  have hl := lv_entry ([.ref (b + o)]) (n := 1) (Nat.le_of_ble_eq_true rfl)
  rw [lg_entry_eq]
  generalize (lg_sl ([.ref (b + o)]) ++ List.replicate (1 - (lg_sl ([.ref (b + o)])).length) Slot.unset).toArray = ls at hl ⊢
  have hl : lv_has ls 1 [(0, .ref (b + o))] := hl
  unfold wv_Point_init at hw
  obtain ⟨hSLt, hw⟩ := hw
  refine W.cs (show 0 = n - n by omega) (show 0 = SL n - SL n by omega) ?_
  refine lv_aload_n hx hb dd_Point_init_0 rfl (lv_at hl 0 rfl) ?_
  refine W.objInit hx hb hown (hts _ (tb_in tw_150)) (hts _ (tb_in tw_25)) (hts _ (tb_in tw_26)) rfl (hl.1.trans hml.symm) rfl dd_Point_init_1 (Nat.le_of_ble_eq_true rfl) (Nat.le_of_ble_eq_true rfl) ?_
  refine W.eq (g2 := F0 m 4 ls []) rfl ?_
  refine lv_aload_n hx hb dd_Point_init_4 rfl (lv_at hl 0 rfl) ?_
  obtain ⟨h1, hw⟩ := hw
  obtain ⟨h2, hw⟩ := hw
  obtain ⟨n3, e_n3⟩ : ∃ z, z = n + 1 := ⟨_, rfl⟩
  have s_n3 : SL n3 = SL n + 6 := by rw [e_n3, SL_succ, h2]; rfl
  have t_n3 : SL n3 ≤ SL (n + 30) := SL_mono (by omega)
  have g_n3 : SL n ≤ SL n := SL_mono (by omega)
  refine fw_newO hx hb hts in_3 F_ty_3 F_tyok_3 hown (hts _ (tb_in tw_151)) (hts _ (tb_in tw_152)) (hts _ (tb_in tw_8)) hK hP hz hS h2 (by decide) rfl (show n - n + 1 ≤ 30 by omega) (show SL n - SL n + 6 ≤ 213 by omega) dd_Point_init_5 (fun H hP hz hS => ?_)
  have hw := hw n3 e_n3
  rw [← e_n3] at hP hz
  refine W.cs (show n - n + 1 = n3 - n by omega) (show SL n - SL n + 6 = SL n3 - SL n by omega) ?_
  obtain ⟨V4, e_V4⟩ : ∃ z, z = fw_nw V n (fun k => defaultValue (F_ty_3 k)) := ⟨_, rfl⟩
  rw [← e_V4] at hP
  have hw := hw V4 e_V4
  refine lv_dup hx hb dd_Point_init_8 rfl ?_
  obtain ⟨h5, hw⟩ := hw
  obtain ⟨h6, hw⟩ := hw
  have t7 : SL (n3 + 0) ≤ SL (n + 30) := SL_mono (by omega)
  have g8 : SL n ≤ SL n3 := SL_mono (by omega)
  refine fw_callV (va_runIN (As := []) (rest := [.ref (b + n), .ref (b + o)]) ⟨hx, hb, hml, hown, hts⟩ (mv_Car_init l D cA b n3 V4 n ⟨by omega, h2⟩ _ hw) ⟨va_cnB 0 hts (fw_g tw_155) rfl rfl rfl (tv_at hV 3 rfl) (hts _ (tb_in tw_8)) (by decide +kernel) ⟨Nat.le_of_ble_eq_true rfl, Nat.le_of_ble_eq_true rfl⟩, rfl, hts _ (tb_in tw_154)⟩ (fw_preSV hP hz hK hV) rfl rfl hl.1 rfl (lv_room (Nat.le_of_ble_eq_true rfl)) dd_Point_init_9 ⟨(show n3 - n + 0 ≤ 30 by omega), (show SL n3 - SL n + 0 ≤ 213 by omega)⟩) hS (fun n9 V10 H locs hw hP hz hS e_n9 s_n9 => ?_)
  try dsimp only at hw
  refine W.cs (show n3 - n + 0 = n9 - n by omega) (show SL n3 - SL n + 0 = SL n9 - SL n by omega) ?_
  have hw := hw e_n9
  refine fw_putFV hx hb hts in_2 F_ty_2 F_tyok_2 F_nm_2 hown hK hP hS (show b ≤ b + o by omega) ⟨by omega, ho.2⟩ (by decide) rfl 0 (by decide) (hts _ (tb_in tw_242)) rfl hin rfl (ty := .object "OutletOffice$Car") (by decide +kernel) rfl rfl dd_Point_init_12 (fun H locs hP hS hz9 => ?_)
  rw [← hz9] at hz
  obtain ⟨V11, e_V11⟩ : ∃ z, z = fw_up V10 o 0 (.ref (b + n)) := ⟨_, rfl⟩
  rw [← e_V11] at hP
  have hw := hw V11 e_V11
  refine lv_aload_n hx hb dd_Point_init_15 rfl (lv_at hl 0 rfl) ?_
  obtain ⟨h12, hw⟩ := hw
  obtain ⟨h13, hw⟩ := hw
  obtain ⟨n14, e_n14⟩ : ∃ z, z = n9 + 1 := ⟨_, rfl⟩
  have s_n14 : SL n14 = SL n9 + 5 := by rw [e_n14, SL_succ, h13]; rfl
  have t_n14 : SL n14 ≤ SL (n + 30) := SL_mono (by omega)
  have g_n14 : SL n ≤ SL n9 := SL_mono (by omega)
  refine fw_newO hx hb hts in_4 F_ty_4 F_tyok_4 hown (hts _ (tb_in tw_183)) (hts _ (tb_in tw_184)) (hts _ (tb_in tw_9)) hK hP hz hS h13 (by decide) rfl (show n9 - n + 1 ≤ 30 by omega) (show SL n9 - SL n + 5 ≤ 213 by omega) dd_Point_init_16 (fun H hP hz hS => ?_)
  have hw := hw n14 e_n14
  rw [← e_n14] at hP hz
  refine W.cs (show n9 - n + 1 = n14 - n by omega) (show SL n9 - SL n + 5 = SL n14 - SL n by omega) ?_
  obtain ⟨V15, e_V15⟩ : ∃ z, z = fw_nw V11 n9 (fun k => defaultValue (F_ty_4 k)) := ⟨_, rfl⟩
  rw [← e_V15] at hP
  have hw := hw V15 e_V15
  refine lv_dup hx hb dd_Point_init_19 rfl ?_
  obtain ⟨h16, hw⟩ := hw
  obtain ⟨h17, hw⟩ := hw
  have t18 : SL (n14 + 25) ≤ SL (n + 30) := SL_mono (by omega)
  have g19 : SL n ≤ SL n14 := SL_mono (by omega)
  refine fw_callV (va_runI (As := []) (rest := [.ref (b + n9), .ref (b + o)]) ⟨hx, hb, hml, hown, hts⟩ (mv_Queue_init l D cA b n14 V15 n9 ⟨by omega, h13⟩ _ hw) (cwI 0 hts (fw_g tw_187) rfl rfl rfl (hts _ (tb_in tw_9)) (hts _ (tb_in tw_185)) (hts _ (tb_in tw_186)) rfl (by decide +kernel) ⟨Nat.le_of_ble_eq_true rfl, Nat.le_of_ble_eq_true rfl⟩) (fw_preSV hP hz hK hV) rfl rfl hl.1 rfl (lv_room (Nat.le_of_ble_eq_true rfl)) dd_Point_init_20 ⟨(show n14 - n + 25 ≤ 30 by omega), (show SL n14 - SL n + 168 ≤ 213 by omega)⟩) hS (fun n20 V21 H locs hw hP hz hS e_n20 s_n20 => ?_)
  try dsimp only at hw
  refine W.cs (show n14 - n + 25 = n20 - n by omega) (show SL n14 - SL n + 168 = SL n20 - SL n by omega) ?_
  have hw := hw e_n20
  refine fw_putFV hx hb hts in_2 F_ty_2 F_tyok_2 F_nm_2 hown hK hP hS (show b ≤ b + o by omega) ⟨by omega, ho.2⟩ (by decide) rfl 1 (by decide) (hts _ (tb_in tw_245)) rfl hin rfl (ty := .object "OutletOffice$Queue") (by decide +kernel) rfl rfl dd_Point_init_23 (fun H locs hP hS hz9 => ?_)
  rw [← hz9] at hz
  obtain ⟨V22, e_V22⟩ : ∃ z, z = fw_up V21 o 1 (.ref (b + n9)) := ⟨_, rfl⟩
  rw [← e_V22] at hP
  have hw := hw V22 e_V22
  refine lv_aload_n hx hb dd_Point_init_26 rfl (lv_at hl 0 rfl) ?_
  obtain ⟨h23, hw⟩ := hw
  obtain ⟨h24, hw⟩ := hw
  obtain ⟨n25, e_n25⟩ : ∃ z, z = n20 + 1 := ⟨_, rfl⟩
  have s_n25 : SL n25 = SL n20 + 2 := by rw [e_n25, SL_succ, h24]; rfl
  have t_n25 : SL n25 ≤ SL (n + 30) := SL_mono (by omega)
  have g_n25 : SL n ≤ SL n20 := SL_mono (by omega)
  refine fw_newO hx hb hts in_6 F_ty_6 F_tyok_6 hown (hts _ (tb_in tw_240)) (hts _ (tb_in tw_36)) (hts _ (tb_in tw_3)) hK hP hz hS h24 (by decide) rfl (show n20 - n + 1 ≤ 30 by omega) (show SL n20 - SL n + 2 ≤ 213 by omega) dd_Point_init_27 (fun H hP hz hS => ?_)
  have hw := hw n25 e_n25
  rw [← e_n25] at hP hz
  refine W.cs (show n20 - n + 1 = n25 - n by omega) (show SL n20 - SL n + 2 = SL n25 - SL n by omega) ?_
  obtain ⟨V26, e_V26⟩ : ∃ z, z = fw_nw V22 n20 (fun k => defaultValue (F_ty_6 k)) := ⟨_, rfl⟩
  rw [← e_V26] at hP
  have hw := hw V26 e_V26
  refine lv_dup hx hb dd_Point_init_30 rfl ?_
  obtain ⟨h27, hw⟩ := hw
  obtain ⟨h28, hw⟩ := hw
  have t29 : SL (n25 + 2) ≤ SL (n + 30) := SL_mono (by omega)
  have g30 : SL n ≤ SL n25 := SL_mono (by omega)
  refine fw_callV (va_runIN (As := []) (rest := [.ref (b + n20), .ref (b + o)]) ⟨hx, hb, hml, hown, hts⟩ (mv_Cards_init l D cA b n25 V26 n20 ⟨by omega, h24⟩ _ hw) ⟨va_cnB 0 hts (fw_g tw_39) rfl rfl rfl (tv_at hV 5 rfl) (hts _ (tb_in tw_3)) (by decide +kernel) ⟨Nat.le_of_ble_eq_true rfl, Nat.le_of_ble_eq_true rfl⟩, rfl, hts _ (tb_in tw_38)⟩ (fw_preSV hP hz hK hV) rfl rfl hl.1 rfl (lv_room (Nat.le_of_ble_eq_true rfl)) dd_Point_init_31 ⟨(show n25 - n + 2 ≤ 30 by omega), (show SL n25 - SL n + 32 ≤ 213 by omega)⟩) hS (fun n31 V32 H locs hw hP hz hS e_n31 s_n31 => ?_)
  try dsimp only at hw
  refine W.cs (show n25 - n + 2 = n31 - n by omega) (show SL n25 - SL n + 32 = SL n31 - SL n by omega) ?_
  have hw := hw e_n31
  refine fw_putFV hx hb hts in_2 F_ty_2 F_tyok_2 F_nm_2 hown hK hP hS (show b ≤ b + o by omega) ⟨by omega, ho.2⟩ (by decide) rfl 2 (by decide) (hts _ (tb_in tw_247)) rfl hin rfl (ty := .object "OutletOffice$CardList") (by decide +kernel) rfl rfl dd_Point_init_34 (fun H locs hP hS hz9 => ?_)
  rw [← hz9] at hz
  obtain ⟨V33, e_V33⟩ : ∃ z, z = fw_up V32 o 2 (.ref (b + n20)) := ⟨_, rfl⟩
  rw [← e_V33] at hP
  have hw := hw V33 e_V33
  refine lv_aload_n hx hb dd_Point_init_37 rfl (lv_at hl 0 rfl) ?_
  refine lv_iconst (v := 1) hx hb dd_Point_init_38 kc_ic_1 ?_
  refine fw_putV hx hb hts in_2 F_ty_2 F_tyok_2 F_nm_2 hown hK hP hS (show b ≤ b + o by omega) ⟨by omega, ho.2⟩ (by decide) rfl 3 (by decide) (hts _ (tb_in tw_249)) rfl (ty := .boolean) (by decide +kernel) rfl rfl dd_Point_init_39 (fun H locs hP hS hz9 => ?_)
  rw [← hz9] at hz
  obtain ⟨V34, e_V34⟩ : ∃ z, z = fw_up V33 o 3 (.int 1) := ⟨_, rfl⟩
  rw [← e_V34] at hP
  have hw := hw V34 e_V34
  refine lv_aload_n hx hb dd_Point_init_42 rfl (lv_at hl 0 rfl) ?_
  refine lv_iconst (v := 1) hx hb dd_Point_init_43 kc_ic_1 ?_
  refine fw_putV hx hb hts in_2 F_ty_2 F_tyok_2 F_nm_2 hown hK hP hS (show b ≤ b + o by omega) ⟨by omega, ho.2⟩ (by decide) rfl 4 (by decide) (hts _ (tb_in tw_250)) rfl (ty := .boolean) (by decide +kernel) rfl rfl dd_Point_init_44 (fun H locs hP hS hz9 => ?_)
  rw [← hz9] at hz
  obtain ⟨V35, e_V35⟩ : ∃ z, z = fw_up V34 o 4 (.int 1) := ⟨_, rfl⟩
  rw [← e_V35] at hP
  have hw := hw V35 e_V35
  refine lv_aload_n hx hb dd_Point_init_47 rfl (lv_at hl 0 rfl) ?_
  refine lv_lconst (v := 0) hx hb dd_Point_init_48 kc_lc_0 ?_
  refine fw_putV hx hb hts in_2 F_ty_2 F_tyok_2 F_nm_2 hown hK hP hS (show b ≤ b + o by omega) ⟨by omega, ho.2⟩ (by decide) rfl 5 (by decide) (hts _ (tb_in tw_253)) rfl (ty := .long) (by decide +kernel) rfl rfl dd_Point_init_49 (fun H locs hP hS hz9 => ?_)
  rw [← hz9] at hz
  obtain ⟨V36, e_V36⟩ : ∃ z, z = fw_up V35 o 5 (.long 0) := ⟨_, rfl⟩
  rw [← e_V36] at hP
  have hw := hw V36 e_V36
  refine lv_aload_n hx hb dd_Point_init_52 rfl (lv_at hl 0 rfl) ?_
  refine lv_iconst (v := 0) hx hb dd_Point_init_53 kc_ic_0 ?_
  refine fw_putV hx hb hts in_2 F_ty_2 F_tyok_2 F_nm_2 hown hK hP hS (show b ≤ b + o by omega) ⟨by omega, ho.2⟩ (by decide) rfl 6 (by decide) (hts _ (tb_in tw_255)) rfl (ty := .int) (by decide +kernel) rfl rfl dd_Point_init_54 (fun H locs hP hS hz9 => ?_)
  rw [← hz9] at hz
  obtain ⟨V37, e_V37⟩ : ∃ z, z = fw_up V36 o 6 (.int 0) := ⟨_, rfl⟩
  rw [← e_V37] at hP
  have hw := hw V37 e_V37
  refine lv_aload_n hx hb dd_Point_init_57 rfl (lv_at hl 0 rfl) ?_
  refine lv_iconst (v := (-1)) hx hb dd_Point_init_58 kc_ic_m1 ?_
  refine fw_putV hx hb hts in_2 F_ty_2 F_tyok_2 F_nm_2 hown hK hP hS (show b ≤ b + o by omega) ⟨by omega, ho.2⟩ (by decide) rfl 7 (by decide) (hts _ (tb_in tw_257)) rfl (ty := .int) (by decide +kernel) rfl rfl dd_Point_init_59 (fun H locs hP hS hz9 => ?_)
  rw [← hz9] at hz
  obtain ⟨V38, e_V38⟩ : ∃ z, z = fw_up V37 o 7 (.int (-1)) := ⟨_, rfl⟩
  rw [← e_V38] at hP
  have hw := hw V38 e_V38
  refine lv_aload_n hx hb dd_Point_init_62 rfl (lv_at hl 0 rfl) ?_
  refine lv_iconst (v := 0) hx hb dd_Point_init_63 kc_ic_0 ?_
  refine fw_putV hx hb hts in_2 F_ty_2 F_tyok_2 F_nm_2 hown hK hP hS (show b ≤ b + o by omega) ⟨by omega, ho.2⟩ (by decide) rfl 8 (by decide) (hts _ (tb_in tw_259)) rfl (ty := .int) (by decide +kernel) rfl rfl dd_Point_init_64 (fun H locs hP hS hz9 => ?_)
  rw [← hz9] at hz
  obtain ⟨V39, e_V39⟩ : ∃ z, z = fw_up V38 o 8 (.int 0) := ⟨_, rfl⟩
  rw [← e_V39] at hP
  have hw := hw V39 e_V39
  refine lv_aload_n hx hb dd_Point_init_67 rfl (lv_at hl 0 rfl) ?_
  refine lv_iconst (v := 0) hx hb dd_Point_init_68 kc_ic_0 ?_
  refine fw_putV hx hb hts in_2 F_ty_2 F_tyok_2 F_nm_2 hown hK hP hS (show b ≤ b + o by omega) ⟨by omega, ho.2⟩ (by decide) rfl 9 (by decide) (hts _ (tb_in tw_260)) rfl (ty := .int) (by decide +kernel) rfl rfl dd_Point_init_69 (fun H locs hP hS hz9 => ?_)
  rw [← hz9] at hz
  obtain ⟨V40, e_V40⟩ : ∃ z, z = fw_up V39 o 9 (.int 0) := ⟨_, rfl⟩
  rw [← e_V40] at hP
  have hw := hw V40 e_V40
  refine lv_aload_n hx hb dd_Point_init_72 rfl (lv_at hl 0 rfl) ?_
  refine lv_iconst (v := 0) hx hb dd_Point_init_73 kc_ic_0 ?_
  refine fw_putV hx hb hts in_2 F_ty_2 F_tyok_2 F_nm_2 hown hK hP hS (show b ≤ b + o by omega) ⟨by omega, ho.2⟩ (by decide) rfl 10 (by decide) (hts _ (tb_in tw_262)) rfl (ty := .boolean) (by decide +kernel) rfl rfl dd_Point_init_74 (fun H locs hP hS hz9 => ?_)
  rw [← hz9] at hz
  obtain ⟨V41, e_V41⟩ : ∃ z, z = fw_up V40 o 10 (.int 0) := ⟨_, rfl⟩
  rw [← e_V41] at hP
  have hw := hw V41 e_V41
  refine lv_aload_n hx hb dd_Point_init_77 rfl (lv_at hl 0 rfl) ?_
  refine lv_iconst (v := 0) hx hb dd_Point_init_78 kc_ic_0 ?_
  refine fw_putV hx hb hts in_2 F_ty_2 F_tyok_2 F_nm_2 hown hK hP hS (show b ≤ b + o by omega) ⟨by omega, ho.2⟩ (by decide) rfl 11 (by decide) (hts _ (tb_in tw_264)) rfl (ty := .int) (by decide +kernel) rfl rfl dd_Point_init_79 (fun H locs hP hS hz9 => ?_)
  rw [← hz9] at hz
  obtain ⟨V42, e_V42⟩ : ∃ z, z = fw_up V41 o 11 (.int 0) := ⟨_, rfl⟩
  rw [← e_V42] at hP
  have hw := hw V42 e_V42
  obtain ⟨h43, hw⟩ := hw
  have g44 : SL n ≤ SL n31 := SL_mono (by omega)
  have hT9 : SL n31 = SL n + 213 := by rw [h43]; exact hSLt
  refine W.cs (show n31 - n = 30 by omega) (show SL n31 - SL n = 213 by omega) ?_
  exact W.vret hx hb hr (fun t ht hW => ⟨⟨(n31, V42), rfl, hw, by rw [ht]; exact hP, by rw [ht]; exact hz, h43, hT9⟩, hS.F ht⟩) hS.2.2 dd_Point_init_82
theorem dd_Site_init_21 : decode bb_Site_init 21 = .ok (.iload_n 1, 1) := by decide +kernel
theorem dd_Site_init_22 : decode bb_Site_init 22 = .ok (.iconst 3, 1) := by decide +kernel
theorem dd_Site_init_23 : decode bb_Site_init 23 = .ok (.if_icmp .ge 22, 3) := by decide +kernel
theorem dd_Site_init_45 : decode bb_Site_init 45 = .ok (.return_, 1) := by decide +kernel
theorem dd_Site_init_26 : decode bb_Site_init 26 = .ok (.aload_n 0, 1) := by decide +kernel
theorem dd_Site_init_27 : decode bb_Site_init 27 = .ok (.getfield 11, 3) := by decide +kernel
theorem dd_Site_init_30 : decode bb_Site_init 30 = .ok (.iload_n 1, 1) := by decide +kernel
theorem dd_Site_init_31 : decode bb_Site_init 31 = .ok (.new 9, 3) := by decide +kernel
theorem dd_Site_init_34 : decode bb_Site_init 34 = .ok (.dup, 1) := by decide +kernel
theorem dd_Site_init_35 : decode bb_Site_init 35 = .ok (.invokespecial 21, 3) := by decide +kernel
theorem dd_Site_init_38 : decode bb_Site_init 38 = .ok (.aastore, 1) := by decide +kernel
theorem dd_Site_init_39 : decode bb_Site_init 39 = .ok (.iinc 1 1, 3) := by decide +kernel
theorem dd_Site_init_42 : decode bb_Site_init 42 = .ok (.goto (-21), 3) := by decide +kernel
theorem dd_Site_init_0 : decode bb_Site_init 0 = .ok (.aload_n 0, 1) := by decide +kernel
theorem dd_Site_init_1 : decode bb_Site_init 1 = .ok (.invokespecial 3, 3) := by decide +kernel
theorem dd_Site_init_4 : decode bb_Site_init 4 = .ok (.aload_n 0, 1) := by decide +kernel
theorem dd_Site_init_5 : decode bb_Site_init 5 = .ok (.iconst 3, 1) := by decide +kernel
theorem dd_Site_init_6 : decode bb_Site_init 6 = .ok (.anewarray 9, 3) := by decide +kernel
theorem dd_Site_init_9 : decode bb_Site_init 9 = .ok (.putfield 11, 3) := by decide +kernel
theorem dd_Site_init_12 : decode bb_Site_init 12 = .ok (.aload_n 0, 1) := by decide +kernel
theorem dd_Site_init_13 : decode bb_Site_init 13 = .ok (.sipush 480, 3) := by decide +kernel
theorem dd_Site_init_16 : decode bb_Site_init 16 = .ok (.putfield 17, 3) := by decide +kernel
theorem dd_Site_init_19 : decode bb_Site_init 19 = .ok (.iconst 0, 1) := by decide +kernel
theorem dd_Site_init_20 : decode bb_Site_init 20 = .ok (.istore_n 1, 1) := by decide +kernel
def ww_Site_init : List Cond := .code yy_Site_init bb_Site_init 2 none :: TB
def rm_Site_init : Room := { frames := 4, cells := 94, slots := 678, locals := 82 }
def wv_Site_init_21 (b n o : Nat) (post : Nat → fw_V → Prop) : Nat → Nat → fw_V → Int32 → Prop
  | 0, _, _, _ => False
  | f + 1, n1, V, x1 => ((3 ≤ x1 → n1 = n + 94 ∧ (post n1 V)) ∧ (¬ 3 ≤ x1 → V o 0 = .ref (b + (o + 1)) ∧ (o + 1 < n1 ∧ (layU (o + 1) = (104, 3) ∧ (n1 + 1 ≤ n + 94 ∧ (layU n1 = (2, 0) ∧ (∀ n10, n10 = n1 + 1 → ∀ V11 : fw_V, V11 = fw_nw V n1 (fun k => defaultValue (F_ty_2 k)) → n10 + 30 ≤ n + 94 ∧ (SL (n10 + 30) = SL n10 + 213 ∧ (wv_Point_init b n10 V11 n1 (fun n16 V17 => n16 = n10 + 30 → vp_in x1 3 ∧ (∀ V19 : fw_V, V19 = fw_up V17 (o + 1) (x1 : Int32).toNatClampNeg (.ref (b + n1)) → ∀ v20 : Int32, v20 = x1 + 1 → wv_Site_init_21 b n o post f n16 V19 v20)))))))))))
def wv_Site_init (b n : Nat) (V : fw_V) (o : Nat) (post : Nat → fw_V → Prop) : Prop := SL (n + 94) = SL n + 678 ∧ (n + 1 ≤ n + 94 ∧ (layU n = (104, 3) ∧ (∀ n3, n3 = n + 1 → ∀ V4 : fw_V, V4 = fw_nw V n (fun _ => .null) → ∀ V5 : fw_V, V5 = fw_up V4 o 0 (.ref (b + n)) → ∀ V6 : fw_V, V6 = fw_up V5 o 1 (.int 480) → ∃ f0, wv_Site_init_21 b n o post f0 n3 V6 0)))
set_option maxHeartbeats 4000000 in
set_option maxRecDepth 100000 in
theorem mv_Site_init (l : Launch) (D : va_G) (cA : Nat → ClassId) (b n : Nat) (V : fw_V) (o : Nat) (ho : o < n ∧ layU o = (1, 0)) (post : Nat → fw_V → Prop) (hw : wv_Site_init b n V o post) : Met l yy_Site_init ww_Site_init rm_Site_init (fw_PcV D CL cA (TYS cA) layU b n V [.ref (b + o)]) (va_Qv (fun u : Nat × fw_V => post u.1 u.2) (fw_BV D CL cA layU b (n + 94) (SL n + 678)) (fw_Ac b)) 94 678 (fw_Ac b) := by
  refine Met.ofW (cc := bb_Site_init) (maxL := 2) (ret := none) (by decide) rfl ?_
  intro p e s m args below meth c s₁ B hml hv
  obtain ⟨rfl, hP, hz, hK, hV⟩ := hv
  have hx := B.exec
  have hb := B.bytes
  have hr := B.returns
  have hts := atoms_spec (ws := ww_Site_init) B.pre
  have hown : s.vm.findClass "OutletOffice$Site" = some m.cls := findClass_of_methodNamed B.named
  have hlocks := B.notSynchronized
  have hin : meth.name = "<init>" := (name_of_methodNamed B.named B.method).1
  have ho1 := ho.1
  have hS : va_S (fw_Ac b) s.heap s.heap [] := va_S.rf
  have hl := lv_entry ([.ref (b + o)]) (n := 2) (Nat.le_of_ble_eq_true rfl)
  rw [lg_entry_eq]
  generalize (lg_sl ([.ref (b + o)]) ++ List.replicate (2 - (lg_sl ([.ref (b + o)])).length) Slot.unset).toArray = ls at hl ⊢
  have hl : lv_has ls 2 [(0, .ref (b + o))] := hl
  unfold wv_Site_init at hw
  obtain ⟨hSLt, hw⟩ := hw
  have B21 : ∀ (f : Nat) (n1 : Nat) (V : fw_V) (x1 : Int32) (H : Heap) (locs : List Loc) (ls : Array Slot), n ≤ n1 → SL n ≤ SL n1 → wv_Site_init_21 b n o post f n1 V x1 → fw_P D CL cA layU b n1 V H → H.size = b + n1 → va_S (fw_Ac b) s.heap H locs → lv_has ls 2 [(0, .ref (b + o)), (1, .int x1)] → W p l e (headSpec ww_Site_init rm_Site_init).room s m ([.ref (b + o)] : List Value).toArray below meth c H locs (n1 - n) (SL n1 - SL n) (MQ below (va_Qv (fun u : Nat × fw_V => post u.1 u.2) (fw_BV D CL cA layU b (n + 94) (SL n + 678)) (fw_Ac b)) ([.ref (b + o)] : List Value).toArray s 94 678 (fw_Ac b)) (F0 m 21 ls []) := by
    intro f
    induction f with
    | zero => intro n1 V x1 H locs ls _ _ hw; exact False.elim hw
    | succ f ih =>
        intro n1 V x1 H locs ls hn1 hs1 hw hP hz hS hl
        unfold wv_Site_init_21 at hw
        refine lv_iload_n hx hb dd_Site_init_21 rfl (lv_at hl 1 rfl) ?_
        refine lv_iconst (v := 3) hx hb dd_Site_init_22 kc_ic_3 ?_
        refine lv_icmp_ge (tgt := 45) hx hb dd_Site_init_23 (by decide) (fun h2 => ?_) (fun h2 => ?_)
        · have hw := hw.1 h2
          obtain ⟨h3, hw⟩ := hw
          have g4 : SL n ≤ SL n1 := SL_mono (by omega)
          have hT9 : SL n1 = SL n + 678 := by rw [h3]; exact hSLt
          refine W.cs (show n1 - n = 94 by omega) (show SL n1 - SL n = 678 by omega) ?_
          exact W.vret hx hb hr (fun t ht hW => ⟨⟨(n1, V), rfl, hw, by rw [ht]; exact hP, by rw [ht]; exact hz, h3, hT9⟩, hS.F ht⟩) hS.2.2 dd_Site_init_45
        · have hw := hw.2 h2
          refine lv_aload_n hx hb dd_Site_init_26 rfl (lv_at hl 0 rfl) ?_
          obtain ⟨h5, hw⟩ := hw
          obtain ⟨h6, hw⟩ := hw
          obtain ⟨h7, hw⟩ := hw
          refine fw_getV hx hb hts in_1 hown hK hP ⟨by omega, ho.2⟩ (by decide) rfl 0 (by decide) (hts _ (tb_in tw_292)) h5 dd_Site_init_27 ?_
          refine lv_iload_n hx hb dd_Site_init_30 rfl (lv_at hl 1 rfl) ?_
          obtain ⟨h8, hw⟩ := hw
          obtain ⟨h9, hw⟩ := hw
          obtain ⟨n10, e_n10⟩ : ∃ z, z = n1 + 1 := ⟨_, rfl⟩
          have s_n10 : SL n10 = SL n1 + 12 := by rw [e_n10, SL_succ, h9]; rfl
          have t_n10 : SL n10 ≤ SL (n + 94) := SL_mono (by omega)
          have g_n10 : SL n ≤ SL n1 := SL_mono (by omega)
          refine fw_newO hx hb hts in_2 F_ty_2 F_tyok_2 hown (hts _ (tb_in tw_144)) (hts _ (tb_in tw_146)) (hts _ (tb_in tw_7)) hK hP hz hS h9 (by decide) rfl (show n1 - n + 1 ≤ 94 by omega) (show SL n1 - SL n + 12 ≤ 678 by omega) dd_Site_init_31 (fun H hP hz hS => ?_)
          have hw := hw n10 e_n10
          rw [← e_n10] at hP hz
          refine W.cs (show n1 - n + 1 = n10 - n by omega) (show SL n1 - SL n + 12 = SL n10 - SL n by omega) ?_
          obtain ⟨V11, e_V11⟩ : ∃ z, z = fw_nw V n1 (fun k => defaultValue (F_ty_2 k)) := ⟨_, rfl⟩
          rw [← e_V11] at hP
          have hw := hw V11 e_V11
          refine lv_dup hx hb dd_Site_init_34 rfl ?_
          obtain ⟨h12, hw⟩ := hw
          obtain ⟨h13, hw⟩ := hw
          have t14 : SL (n10 + 30) ≤ SL (n + 94) := SL_mono (by omega)
          have g15 : SL n ≤ SL n10 := SL_mono (by omega)
          refine fw_callV (va_runIN (As := []) (rest := [.ref (b + n1), .int x1, .ref (b + (o + 1))]) ⟨hx, hb, hml, hown, hts⟩ (mv_Point_init l D cA b n10 V11 n1 ⟨by omega, h9⟩ _ hw) ⟨va_cnB 0 hts (fw_g tw_149) rfl rfl rfl (tv_at hV 2 rfl) (hts _ (tb_in tw_7)) (by decide +kernel) ⟨Nat.le_of_ble_eq_true rfl, Nat.le_of_ble_eq_true rfl⟩, rfl, hts _ (tb_in tw_148)⟩ (fw_preSV hP hz hK hV) rfl rfl hl.1 rfl (lv_room (Nat.le_of_ble_eq_true rfl)) dd_Site_init_35 ⟨(show n10 - n + 30 ≤ 94 by omega), (show SL n10 - SL n + 213 ≤ 678 by omega)⟩) hS (fun n16 V17 H locs hw hP hz hS e_n16 s_n16 => ?_)
          try dsimp only at hw
          refine W.cs (show n10 - n + 30 = n16 - n by omega) (show SL n10 - SL n + 213 = SL n16 - SL n by omega) ?_
          have hw := hw e_n16
          obtain ⟨h18, hw⟩ := hw
          refine fw_aastV hx hb hK hP hS (show b ≤ b + (o + 1) by omega) ⟨by omega, h7⟩ (by decide) 4 rfl ⟨by omega, h9⟩ (by decide) rfl h18 dd_Site_init_38 (fun H locs hP hS hz9 => ?_)
          rw [← hz9] at hz
          obtain ⟨V19, e_V19⟩ : ∃ z, z = fw_up V17 (o + 1) (x1 : Int32).toNatClampNeg (.ref (b + n1)) := ⟨_, rfl⟩
          rw [← e_V19] at hP
          have hw := hw V19 e_V19
          obtain ⟨v20, e_v20⟩ : ∃ z : Int32, z = x1 + 1 := ⟨_, rfl⟩
          have hw := hw v20 e_v20
          refine lv_iinc hx hb dd_Site_init_39 hl (k := 1) rfl (show x1 + Int32.ofInt 1 = v20 by rw [kc_ii_1, e_v20]) (Nat.le_of_ble_eq_true rfl) rfl (fun ls hl => ?_)
          have hl : lv_has ls 2 [(1, .int v20), (0, .ref (b + o))] := hl
          refine lv_goto (tgt := 21) hx hb dd_Site_init_42 (by decide) ?_
          exact ih n16 V19 v20 _ _ ls (by omega) (SL_mono (by omega)) hw hP hz hS (lv_sub hl [1, 0] rfl)
  refine W.cs (show 0 = n - n by omega) (show 0 = SL n - SL n by omega) ?_
  refine lv_aload_n hx hb dd_Site_init_0 rfl (lv_at hl 0 rfl) ?_
  refine W.objInit hx hb hown (hts _ (tb_in tw_143)) (hts _ (tb_in tw_25)) (hts _ (tb_in tw_26)) rfl (hl.1.trans hml.symm) rfl dd_Site_init_1 (Nat.le_of_ble_eq_true rfl) (Nat.le_of_ble_eq_true rfl) ?_
  refine W.eq (g2 := F0 m 4 ls []) rfl ?_
  refine lv_aload_n hx hb dd_Site_init_4 rfl (lv_at hl 0 rfl) ?_
  refine lv_iconst (v := 3) hx hb dd_Site_init_5 kc_ic_3 ?_
  obtain ⟨h1, hw⟩ := hw
  obtain ⟨h2, hw⟩ := hw
  obtain ⟨n3, e_n3⟩ : ∃ z, z = n + 1 := ⟨_, rfl⟩
  have s_n3 : SL n3 = SL n + 3 := by rw [e_n3, SL_succ, h2]; rfl
  have t_n3 : SL n3 ≤ SL (n + 94) := SL_mono (by omega)
  have g_n3 : SL n ≤ SL n := SL_mono (by omega)
  refine fw_newQ hx hb hown (hts _ (tb_in tw_144)) hV.2.2.2.1 hK hP hz hS h2 (by decide) 4 rfl (by decide) (by decide) (by decide) (show n - n + 1 ≤ 94 by omega) (show SL n - SL n + 3 ≤ 678 by omega) dd_Site_init_6 (fun H hP hz hS => ?_)
  have hw := hw n3 e_n3
  rw [← e_n3] at hP hz
  refine W.cs (show n - n + 1 = n3 - n by omega) (show SL n - SL n + 3 = SL n3 - SL n by omega) ?_
  obtain ⟨V4, e_V4⟩ : ∃ z, z = fw_nw V n (fun _ => .null) := ⟨_, rfl⟩
  rw [← e_V4] at hP
  have hw := hw V4 e_V4
  refine fw_putFV hx hb hts in_1 F_ty_1 F_tyok_1 F_nm_1 hown hK hP hS (show b ≤ b + o by omega) ⟨by omega, ho.2⟩ (by decide) rfl 0 (by decide) (hts _ (tb_in tw_292)) rfl hin rfl (ty := .array (.object "OutletOffice$Point")) (by decide +kernel) rfl rfl dd_Site_init_9 (fun H locs hP hS hz9 => ?_)
  rw [← hz9] at hz
  obtain ⟨V5, e_V5⟩ : ∃ z, z = fw_up V4 o 0 (.ref (b + n)) := ⟨_, rfl⟩
  rw [← e_V5] at hP
  have hw := hw V5 e_V5
  refine lv_aload_n hx hb dd_Site_init_12 rfl (lv_at hl 0 rfl) ?_
  refine lv_sipush (v := 480) hx hb dd_Site_init_13 kc_sp_480 ?_
  refine fw_putV hx hb hts in_1 F_ty_1 F_tyok_1 F_nm_1 hown hK hP hS (show b ≤ b + o by omega) ⟨by omega, ho.2⟩ (by decide) rfl 1 (by decide) (hts _ (tb_in tw_294)) rfl (ty := .int) (by decide +kernel) rfl rfl dd_Site_init_16 (fun H locs hP hS hz9 => ?_)
  rw [← hz9] at hz
  obtain ⟨V6, e_V6⟩ : ∃ z, z = fw_up V5 o 1 (.int 480) := ⟨_, rfl⟩
  rw [← e_V6] at hP
  have hw := hw V6 e_V6
  refine lv_iconst (v := 0) hx hb dd_Site_init_19 kc_ic_0 ?_
  refine lv_istore_n hx hb dd_Site_init_20 rfl hl (Nat.le_of_ble_eq_true rfl) rfl (fun ls hl => ?_)
  have hl : lv_has ls 2 [(1, .int 0), (0, .ref (b + o))] := hl
  obtain ⟨f0, hw⟩ := hw
  exact B21 f0 n3 V6 0 _ _ ls (by omega) (SL_mono (by omega)) hw hP hz hS (lv_sub hl [1, 0] rfl)
theorem dd_Office_init_67 : decode bb_Office_init 67 = .ok (.iload_n 1, 1) := by decide +kernel
theorem dd_Office_init_68 : decode bb_Office_init 68 = .ok (.bipush 6, 2) := by decide +kernel
theorem dd_Office_init_70 : decode bb_Office_init 70 = .ok (.if_icmp .ge 22, 3) := by decide +kernel
theorem dd_Office_init_92 : decode bb_Office_init 92 = .ok (.return_, 1) := by decide +kernel
theorem dd_Office_init_73 : decode bb_Office_init 73 = .ok (.aload_n 0, 1) := by decide +kernel
theorem dd_Office_init_74 : decode bb_Office_init 74 = .ok (.getfield 27, 3) := by decide +kernel
theorem dd_Office_init_77 : decode bb_Office_init 77 = .ok (.iload_n 1, 1) := by decide +kernel
theorem dd_Office_init_78 : decode bb_Office_init 78 = .ok (.new 25, 3) := by decide +kernel
theorem dd_Office_init_81 : decode bb_Office_init 81 = .ok (.dup, 1) := by decide +kernel
theorem dd_Office_init_82 : decode bb_Office_init 82 = .ok (.invokespecial 46, 3) := by decide +kernel
theorem dd_Office_init_85 : decode bb_Office_init 85 = .ok (.aastore, 1) := by decide +kernel
theorem dd_Office_init_86 : decode bb_Office_init 86 = .ok (.iinc 1 1, 3) := by decide +kernel
theorem dd_Office_init_89 : decode bb_Office_init 89 = .ok (.goto (-22), 3) := by decide +kernel
theorem dd_Office_init_0 : decode bb_Office_init 0 = .ok (.aload_n 0, 1) := by decide +kernel
theorem dd_Office_init_1 : decode bb_Office_init 1 = .ok (.invokespecial 3, 3) := by decide +kernel
theorem dd_Office_init_4 : decode bb_Office_init 4 = .ok (.aload_n 0, 1) := by decide +kernel
theorem dd_Office_init_5 : decode bb_Office_init 5 = .ok (.new 9, 3) := by decide +kernel
theorem dd_Office_init_8 : decode bb_Office_init 8 = .ok (.dup, 1) := by decide +kernel
theorem dd_Office_init_9 : decode bb_Office_init 9 = .ok (.invokespecial 11, 3) := by decide +kernel
theorem dd_Office_init_12 : decode bb_Office_init 12 = .ok (.putfield 12, 3) := by decide +kernel
theorem dd_Office_init_15 : decode bb_Office_init 15 = .ok (.aload_n 0, 1) := by decide +kernel
theorem dd_Office_init_16 : decode bb_Office_init 16 = .ok (.new 18, 3) := by decide +kernel
theorem dd_Office_init_19 : decode bb_Office_init 19 = .ok (.dup, 1) := by decide +kernel
theorem dd_Office_init_20 : decode bb_Office_init 20 = .ok (.invokespecial 20, 3) := by decide +kernel
theorem dd_Office_init_23 : decode bb_Office_init 23 = .ok (.putfield 21, 3) := by decide +kernel
theorem dd_Office_init_26 : decode bb_Office_init 26 = .ok (.aload_n 0, 1) := by decide +kernel
theorem dd_Office_init_27 : decode bb_Office_init 27 = .ok (.bipush 6, 2) := by decide +kernel
theorem dd_Office_init_29 : decode bb_Office_init 29 = .ok (.anewarray 25, 3) := by decide +kernel
theorem dd_Office_init_32 : decode bb_Office_init 32 = .ok (.putfield 27, 3) := by decide +kernel
theorem dd_Office_init_35 : decode bb_Office_init 35 = .ok (.aload_n 0, 1) := by decide +kernel
theorem dd_Office_init_36 : decode bb_Office_init 36 = .ok (.sipush 640, 3) := by decide +kernel
theorem dd_Office_init_39 : decode bb_Office_init 39 = .ok (.newarray .int, 2) := by decide +kernel
theorem dd_Office_init_41 : decode bb_Office_init 41 = .ok (.putfield 31, 3) := by decide +kernel
theorem dd_Office_init_44 : decode bb_Office_init 44 = .ok (.aload_n 0, 1) := by decide +kernel
theorem dd_Office_init_45 : decode bb_Office_init 45 = .ok (.bipush 16, 2) := by decide +kernel
theorem dd_Office_init_47 : decode bb_Office_init 47 = .ok (.newarray .long, 2) := by decide +kernel
theorem dd_Office_init_49 : decode bb_Office_init 49 = .ok (.putfield 35, 3) := by decide +kernel
theorem dd_Office_init_52 : decode bb_Office_init 52 = .ok (.aload_n 0, 1) := by decide +kernel
theorem dd_Office_init_53 : decode bb_Office_init 53 = .ok (.iconst 0, 1) := by decide +kernel
theorem dd_Office_init_54 : decode bb_Office_init 54 = .ok (.putfield 39, 3) := by decide +kernel
theorem dd_Office_init_57 : decode bb_Office_init 57 = .ok (.aload_n 0, 1) := by decide +kernel
theorem dd_Office_init_58 : decode bb_Office_init 58 = .ok (.bipush 6, 2) := by decide +kernel
theorem dd_Office_init_60 : decode bb_Office_init 60 = .ok (.newarray .int, 2) := by decide +kernel
theorem dd_Office_init_62 : decode bb_Office_init 62 = .ok (.putfield 43, 3) := by decide +kernel
theorem dd_Office_init_65 : decode bb_Office_init 65 = .ok (.iconst 0, 1) := by decide +kernel
theorem dd_Office_init_66 : decode bb_Office_init 66 = .ok (.istore_n 1, 1) := by decide +kernel
def ww_Office_init : List Cond := .code yy_Office_init bb_Office_init 2 none :: TB
def rm_Office_init : Room := { frames := 2, cells := 16, slots := 756, locals := 42 }
def wv_Office_init_67 (b n o : Nat) (post : Nat → fw_V → Prop) : Nat → Nat → fw_V → Int32 → Prop
  | 0, _, _, _ => False
  | f + 1, n1, V, x1 => ((6 ≤ x1 → n1 = n + 16 ∧ (post n1 V)) ∧ (¬ 6 ≤ x1 → V o 2 = .ref (b + (o + 7)) ∧ (o + 7 < n1 ∧ (layU (o + 7) = (106, 6) ∧ (n1 + 1 ≤ n + 16 ∧ (layU n1 = (8, 0) ∧ (∀ n10, n10 = n1 + 1 → ∀ V11 : fw_V, V11 = fw_nw V n1 (fun k => defaultValue (F_ty_8 k)) → n10 + 0 ≤ n + 16 ∧ (SL (n10 + 0) = SL n10 + 0 ∧ (wv_Bill_init b n10 V11 n1 (fun n16 V17 => n16 = n10 + 0 → vp_in x1 6 ∧ (∀ V19 : fw_V, V19 = fw_up V17 (o + 7) (x1 : Int32).toNatClampNeg (.ref (b + n1)) → ∀ v20 : Int32, v20 = x1 + 1 → wv_Office_init_67 b n o post f n16 V19 v20)))))))))))
def wv_Office_init (b n : Nat) (V : fw_V) (o : Nat) (post : Nat → fw_V → Prop) : Prop := SL (n + 16) = SL n + 756 ∧ (n + 1 ≤ n + 16 ∧ (layU n = (6, 0) ∧ (∀ n3, n3 = n + 1 → ∀ V4 : fw_V, V4 = fw_nw V n (fun k => defaultValue (F_ty_6 k)) → n3 + 2 ≤ n + 16 ∧ (SL (n3 + 2) = SL n3 + 32 ∧ (wv_Cards_init b n3 V4 n (fun n9 V10 => n9 = n3 + 2 → ∀ V11 : fw_V, V11 = fw_up V10 o 0 (.ref (b + n)) → n9 + 1 ≤ n + 16 ∧ (layU n9 = (7, 0) ∧ (∀ n14, n14 = n9 + 1 → ∀ V15 : fw_V, V15 = fw_nw V11 n9 (fun k => defaultValue (F_ty_7 k)) → n14 + 2 ≤ n + 16 ∧ (SL (n14 + 2) = SL n14 + 8 ∧ (wv_Tariff_init b n14 V15 n9 (fun n20 V21 => n20 = n14 + 2 → ∀ V22 : fw_V, V22 = fw_up V21 o 1 (.ref (b + n9)) → n20 + 1 ≤ n + 16 ∧ (layU n20 = (106, 6) ∧ (∀ n25, n25 = n20 + 1 → ∀ V26 : fw_V, V26 = fw_nw V22 n20 (fun _ => .null) → ∀ V27 : fw_V, V27 = fw_up V26 o 2 (.ref (b + n20)) → n25 + 1 ≤ n + 16 ∧ (layU n25 = (100, 640) ∧ (∀ n30, n30 = n25 + 1 → ∀ V31 : fw_V, V31 = fw_nw V27 n25 (fun _ => defaultValue .int) → ∀ V32 : fw_V, V32 = fw_up V31 o 3 (.ref (b + n25)) → n30 + 1 ≤ n + 16 ∧ (layU n30 = (101, 16) ∧ (∀ n35, n35 = n30 + 1 → ∀ V36 : fw_V, V36 = fw_nw V32 n30 (fun _ => defaultValue .long) → ∀ V37 : fw_V, V37 = fw_up V36 o 4 (.ref (b + n30)) → ∀ V38 : fw_V, V38 = fw_up V37 o 5 (.int 0) → n35 + 1 ≤ n + 16 ∧ (layU n35 = (100, 6) ∧ (∀ n41, n41 = n35 + 1 → ∀ V42 : fw_V, V42 = fw_nw V38 n35 (fun _ => defaultValue .int) → ∀ V43 : fw_V, V43 = fw_up V42 o 6 (.ref (b + n35)) → ∃ f0, wv_Office_init_67 b n o post f0 n41 V43 0)))))))))))))))))))
set_option maxHeartbeats 4000000 in
set_option maxRecDepth 100000 in
theorem mv_Office_init (l : Launch) (D : va_G) (cA : Nat → ClassId) (b n : Nat) (V : fw_V) (o : Nat) (ho : o < n ∧ layU o = (9, 0)) (post : Nat → fw_V → Prop) (hw : wv_Office_init b n V o post) : Met l yy_Office_init ww_Office_init rm_Office_init (fw_PcV D CL cA (TYS cA) layU b n V [.ref (b + o)]) (va_Qv (fun u : Nat × fw_V => post u.1 u.2) (fw_BV D CL cA layU b (n + 16) (SL n + 756)) (fw_Ac b)) 16 756 (fw_Ac b) := by
  refine Met.ofW (cc := bb_Office_init) (maxL := 2) (ret := none) (by decide) rfl ?_
  intro p e s m args below meth c s₁ B hml hv
  obtain ⟨rfl, hP, hz, hK, hV⟩ := hv
  have hx := B.exec
  have hb := B.bytes
  have hr := B.returns
  have hts := atoms_spec (ws := ww_Office_init) B.pre
  have hown : s.vm.findClass "OutletOffice$Office" = some m.cls := findClass_of_methodNamed B.named
  have hlocks := B.notSynchronized
  have hin : meth.name = "<init>" := (name_of_methodNamed B.named B.method).1
  have ho1 := ho.1
  have hS : va_S (fw_Ac b) s.heap s.heap [] := va_S.rf
  have hl := lv_entry ([.ref (b + o)]) (n := 2) (Nat.le_of_ble_eq_true rfl)
  rw [lg_entry_eq]
  generalize (lg_sl ([.ref (b + o)]) ++ List.replicate (2 - (lg_sl ([.ref (b + o)])).length) Slot.unset).toArray = ls at hl ⊢
  have hl : lv_has ls 2 [(0, .ref (b + o))] := hl
  unfold wv_Office_init at hw
  obtain ⟨hSLt, hw⟩ := hw
  have B67 : ∀ (f : Nat) (n1 : Nat) (V : fw_V) (x1 : Int32) (H : Heap) (locs : List Loc) (ls : Array Slot), n ≤ n1 → SL n ≤ SL n1 → wv_Office_init_67 b n o post f n1 V x1 → fw_P D CL cA layU b n1 V H → H.size = b + n1 → va_S (fw_Ac b) s.heap H locs → lv_has ls 2 [(0, .ref (b + o)), (1, .int x1)] → W p l e (headSpec ww_Office_init rm_Office_init).room s m ([.ref (b + o)] : List Value).toArray below meth c H locs (n1 - n) (SL n1 - SL n) (MQ below (va_Qv (fun u : Nat × fw_V => post u.1 u.2) (fw_BV D CL cA layU b (n + 16) (SL n + 756)) (fw_Ac b)) ([.ref (b + o)] : List Value).toArray s 16 756 (fw_Ac b)) (F0 m 67 ls []) := by
    intro f
    induction f with
    | zero => intro n1 V x1 H locs ls _ _ hw; exact False.elim hw
    | succ f ih =>
        intro n1 V x1 H locs ls hn1 hs1 hw hP hz hS hl
        unfold wv_Office_init_67 at hw
        refine lv_iload_n hx hb dd_Office_init_67 rfl (lv_at hl 1 rfl) ?_
        refine lv_bipush (v := 6) hx hb dd_Office_init_68 kc_bp_6 ?_
        refine lv_icmp_ge (tgt := 92) hx hb dd_Office_init_70 (by decide) (fun h2 => ?_) (fun h2 => ?_)
        · have hw := hw.1 h2
          obtain ⟨h3, hw⟩ := hw
          have g4 : SL n ≤ SL n1 := SL_mono (by omega)
          have hT9 : SL n1 = SL n + 756 := by rw [h3]; exact hSLt
          refine W.cs (show n1 - n = 16 by omega) (show SL n1 - SL n = 756 by omega) ?_
          exact W.vret hx hb hr (fun t ht hW => ⟨⟨(n1, V), rfl, hw, by rw [ht]; exact hP, by rw [ht]; exact hz, h3, hT9⟩, hS.F ht⟩) hS.2.2 dd_Office_init_92
        · have hw := hw.2 h2
          refine lv_aload_n hx hb dd_Office_init_73 rfl (lv_at hl 0 rfl) ?_
          obtain ⟨h5, hw⟩ := hw
          obtain ⟨h6, hw⟩ := hw
          obtain ⟨h7, hw⟩ := hw
          refine fw_getV hx hb hts in_9 hown hK hP ⟨by omega, ho.2⟩ (by decide) rfl 2 (by decide) (hts _ (tb_in tw_115)) h5 dd_Office_init_74 ?_
          refine lv_iload_n hx hb dd_Office_init_77 rfl (lv_at hl 1 rfl) ?_
          obtain ⟨h8, hw⟩ := hw
          obtain ⟨h9, hw⟩ := hw
          obtain ⟨n10, e_n10⟩ : ∃ z, z = n1 + 1 := ⟨_, rfl⟩
          have s_n10 : SL n10 = SL n1 + 7 := by rw [e_n10, SL_succ, h9]; rfl
          have t_n10 : SL n10 ≤ SL (n + 16) := SL_mono (by omega)
          have g_n10 : SL n ≤ SL n1 := SL_mono (by omega)
          refine fw_newO hx hb hts in_8 F_ty_8 F_tyok_8 hown (hts _ (tb_in tw_72)) (hts _ (tb_in tw_74)) (hts _ (tb_in tw_5)) hK hP hz hS h9 (by decide) rfl (show n1 - n + 1 ≤ 16 by omega) (show SL n1 - SL n + 7 ≤ 756 by omega) dd_Office_init_78 (fun H hP hz hS => ?_)
          have hw := hw n10 e_n10
          rw [← e_n10] at hP hz
          refine W.cs (show n1 - n + 1 = n10 - n by omega) (show SL n1 - SL n + 7 = SL n10 - SL n by omega) ?_
          obtain ⟨V11, e_V11⟩ : ∃ z, z = fw_nw V n1 (fun k => defaultValue (F_ty_8 k)) := ⟨_, rfl⟩
          rw [← e_V11] at hP
          have hw := hw V11 e_V11
          refine lv_dup hx hb dd_Office_init_81 rfl ?_
          obtain ⟨h12, hw⟩ := hw
          obtain ⟨h13, hw⟩ := hw
          have t14 : SL (n10 + 0) ≤ SL (n + 16) := SL_mono (by omega)
          have g15 : SL n ≤ SL n10 := SL_mono (by omega)
          refine fw_callV (va_runIN (As := []) (rest := [.ref (b + n1), .int x1, .ref (b + (o + 7))]) ⟨hx, hb, hml, hown, hts⟩ (mv_Bill_init l D cA b n10 V11 n1 ⟨by omega, h9⟩ _ hw) ⟨va_cnB 0 hts (fw_g tw_77) rfl rfl rfl (tv_at hV 1 rfl) (hts _ (tb_in tw_5)) (by decide +kernel) ⟨Nat.le_of_ble_eq_true rfl, Nat.le_of_ble_eq_true rfl⟩, rfl, hts _ (tb_in tw_76)⟩ (fw_preSV hP hz hK hV) rfl rfl hl.1 rfl (lv_room (Nat.le_of_ble_eq_true rfl)) dd_Office_init_82 ⟨(show n10 - n + 0 ≤ 16 by omega), (show SL n10 - SL n + 0 ≤ 756 by omega)⟩) hS (fun n16 V17 H locs hw hP hz hS e_n16 s_n16 => ?_)
          try dsimp only at hw
          refine W.cs (show n10 - n + 0 = n16 - n by omega) (show SL n10 - SL n + 0 = SL n16 - SL n by omega) ?_
          have hw := hw e_n16
          obtain ⟨h18, hw⟩ := hw
          refine fw_aastV hx hb hK hP hS (show b ≤ b + (o + 7) by omega) ⟨by omega, h7⟩ (by decide) 6 rfl ⟨by omega, h9⟩ (by decide) rfl h18 dd_Office_init_85 (fun H locs hP hS hz9 => ?_)
          rw [← hz9] at hz
          obtain ⟨V19, e_V19⟩ : ∃ z, z = fw_up V17 (o + 7) (x1 : Int32).toNatClampNeg (.ref (b + n1)) := ⟨_, rfl⟩
          rw [← e_V19] at hP
          have hw := hw V19 e_V19
          obtain ⟨v20, e_v20⟩ : ∃ z : Int32, z = x1 + 1 := ⟨_, rfl⟩
          have hw := hw v20 e_v20
          refine lv_iinc hx hb dd_Office_init_86 hl (k := 1) rfl (show x1 + Int32.ofInt 1 = v20 by rw [kc_ii_1, e_v20]) (Nat.le_of_ble_eq_true rfl) rfl (fun ls hl => ?_)
          have hl : lv_has ls 2 [(1, .int v20), (0, .ref (b + o))] := hl
          refine lv_goto (tgt := 67) hx hb dd_Office_init_89 (by decide) ?_
          exact ih n16 V19 v20 _ _ ls (by omega) (SL_mono (by omega)) hw hP hz hS (lv_sub hl [1, 0] rfl)
  refine W.cs (show 0 = n - n by omega) (show 0 = SL n - SL n by omega) ?_
  refine lv_aload_n hx hb dd_Office_init_0 rfl (lv_at hl 0 rfl) ?_
  refine W.objInit hx hb hown (hts _ (tb_in tw_34)) (hts _ (tb_in tw_25)) (hts _ (tb_in tw_26)) rfl (hl.1.trans hml.symm) rfl dd_Office_init_1 (Nat.le_of_ble_eq_true rfl) (Nat.le_of_ble_eq_true rfl) ?_
  refine W.eq (g2 := F0 m 4 ls []) rfl ?_
  refine lv_aload_n hx hb dd_Office_init_4 rfl (lv_at hl 0 rfl) ?_
  obtain ⟨h1, hw⟩ := hw
  obtain ⟨h2, hw⟩ := hw
  obtain ⟨n3, e_n3⟩ : ∃ z, z = n + 1 := ⟨_, rfl⟩
  have s_n3 : SL n3 = SL n + 2 := by rw [e_n3, SL_succ, h2]; rfl
  have t_n3 : SL n3 ≤ SL (n + 16) := SL_mono (by omega)
  have g_n3 : SL n ≤ SL n := SL_mono (by omega)
  refine fw_newO hx hb hts in_6 F_ty_6 F_tyok_6 hown (hts _ (tb_in tw_35)) (hts _ (tb_in tw_36)) (hts _ (tb_in tw_3)) hK hP hz hS h2 (by decide) rfl (show n - n + 1 ≤ 16 by omega) (show SL n - SL n + 2 ≤ 756 by omega) dd_Office_init_5 (fun H hP hz hS => ?_)
  have hw := hw n3 e_n3
  rw [← e_n3] at hP hz
  refine W.cs (show n - n + 1 = n3 - n by omega) (show SL n - SL n + 2 = SL n3 - SL n by omega) ?_
  obtain ⟨V4, e_V4⟩ : ∃ z, z = fw_nw V n (fun k => defaultValue (F_ty_6 k)) := ⟨_, rfl⟩
  rw [← e_V4] at hP
  have hw := hw V4 e_V4
  refine lv_dup hx hb dd_Office_init_8 rfl ?_
  obtain ⟨h5, hw⟩ := hw
  obtain ⟨h6, hw⟩ := hw
  have t7 : SL (n3 + 2) ≤ SL (n + 16) := SL_mono (by omega)
  have g8 : SL n ≤ SL n3 := SL_mono (by omega)
  refine fw_callV (va_runIN (As := []) (rest := [.ref (b + n), .ref (b + o)]) ⟨hx, hb, hml, hown, hts⟩ (mv_Cards_init l D cA b n3 V4 n ⟨by omega, h2⟩ _ hw) ⟨va_cnB 0 hts (fw_g tw_39) rfl rfl rfl (tv_at hV 0 rfl) (hts _ (tb_in tw_3)) (by decide +kernel) ⟨Nat.le_of_ble_eq_true rfl, Nat.le_of_ble_eq_true rfl⟩, rfl, hts _ (tb_in tw_38)⟩ (fw_preSV hP hz hK hV) rfl rfl hl.1 rfl (lv_room (Nat.le_of_ble_eq_true rfl)) dd_Office_init_9 ⟨(show n3 - n + 2 ≤ 16 by omega), (show SL n3 - SL n + 32 ≤ 756 by omega)⟩) hS (fun n9 V10 H locs hw hP hz hS e_n9 s_n9 => ?_)
  try dsimp only at hw
  refine W.cs (show n3 - n + 2 = n9 - n by omega) (show SL n3 - SL n + 32 = SL n9 - SL n by omega) ?_
  have hw := hw e_n9
  refine fw_putFV hx hb hts in_9 F_ty_9 F_tyok_9 F_nm_9 hown hK hP hS (show b ≤ b + o by omega) ⟨by omega, ho.2⟩ (by decide) rfl 0 (by decide) (hts _ (tb_in tw_111)) rfl hin rfl (ty := .object "OutletOffice$CardList") (by decide +kernel) rfl rfl dd_Office_init_12 (fun H locs hP hS hz9 => ?_)
  rw [← hz9] at hz
  obtain ⟨V11, e_V11⟩ : ∃ z, z = fw_up V10 o 0 (.ref (b + n)) := ⟨_, rfl⟩
  rw [← e_V11] at hP
  have hw := hw V11 e_V11
  refine lv_aload_n hx hb dd_Office_init_15 rfl (lv_at hl 0 rfl) ?_
  obtain ⟨h12, hw⟩ := hw
  obtain ⟨h13, hw⟩ := hw
  obtain ⟨n14, e_n14⟩ : ∃ z, z = n9 + 1 := ⟨_, rfl⟩
  have s_n14 : SL n14 = SL n9 + 4 := by rw [e_n14, SL_succ, h13]; rfl
  have t_n14 : SL n14 ≤ SL (n + 16) := SL_mono (by omega)
  have g_n14 : SL n ≤ SL n9 := SL_mono (by omega)
  refine fw_newO hx hb hts in_7 F_ty_7 F_tyok_7 hown (hts _ (tb_in tw_49)) (hts _ (tb_in tw_50)) (hts _ (tb_in tw_4)) hK hP hz hS h13 (by decide) rfl (show n9 - n + 1 ≤ 16 by omega) (show SL n9 - SL n + 4 ≤ 756 by omega) dd_Office_init_16 (fun H hP hz hS => ?_)
  have hw := hw n14 e_n14
  rw [← e_n14] at hP hz
  refine W.cs (show n9 - n + 1 = n14 - n by omega) (show SL n9 - SL n + 4 = SL n14 - SL n by omega) ?_
  obtain ⟨V15, e_V15⟩ : ∃ z, z = fw_nw V11 n9 (fun k => defaultValue (F_ty_7 k)) := ⟨_, rfl⟩
  rw [← e_V15] at hP
  have hw := hw V15 e_V15
  refine lv_dup hx hb dd_Office_init_19 rfl ?_
  obtain ⟨h16, hw⟩ := hw
  obtain ⟨h17, hw⟩ := hw
  have t18 : SL (n14 + 2) ≤ SL (n + 16) := SL_mono (by omega)
  have g19 : SL n ≤ SL n14 := SL_mono (by omega)
  refine fw_callV (va_runI (As := []) (rest := [.ref (b + n9), .ref (b + o)]) ⟨hx, hb, hml, hown, hts⟩ (mv_Tariff_init l D cA b n14 V15 n9 ⟨by omega, h13⟩ _ hw) (cwI 0 hts (fw_g tw_53) rfl rfl rfl (hts _ (tb_in tw_4)) (hts _ (tb_in tw_51)) (hts _ (tb_in tw_52)) rfl (by decide +kernel) ⟨Nat.le_of_ble_eq_true rfl, Nat.le_of_ble_eq_true rfl⟩) (fw_preSV hP hz hK hV) rfl rfl hl.1 rfl (lv_room (Nat.le_of_ble_eq_true rfl)) dd_Office_init_20 ⟨(show n14 - n + 2 ≤ 16 by omega), (show SL n14 - SL n + 8 ≤ 756 by omega)⟩) hS (fun n20 V21 H locs hw hP hz hS e_n20 s_n20 => ?_)
  try dsimp only at hw
  refine W.cs (show n14 - n + 2 = n20 - n by omega) (show SL n14 - SL n + 8 = SL n20 - SL n by omega) ?_
  have hw := hw e_n20
  refine fw_putFV hx hb hts in_9 F_ty_9 F_tyok_9 F_nm_9 hown hK hP hS (show b ≤ b + o by omega) ⟨by omega, ho.2⟩ (by decide) rfl 1 (by decide) (hts _ (tb_in tw_113)) rfl hin rfl (ty := .object "OutletOffice$Tariff") (by decide +kernel) rfl rfl dd_Office_init_23 (fun H locs hP hS hz9 => ?_)
  rw [← hz9] at hz
  obtain ⟨V22, e_V22⟩ : ∃ z, z = fw_up V21 o 1 (.ref (b + n9)) := ⟨_, rfl⟩
  rw [← e_V22] at hP
  have hw := hw V22 e_V22
  refine lv_aload_n hx hb dd_Office_init_26 rfl (lv_at hl 0 rfl) ?_
  refine lv_bipush (v := 6) hx hb dd_Office_init_27 kc_bp_6 ?_
  obtain ⟨h23, hw⟩ := hw
  obtain ⟨h24, hw⟩ := hw
  obtain ⟨n25, e_n25⟩ : ∃ z, z = n20 + 1 := ⟨_, rfl⟩
  have s_n25 : SL n25 = SL n20 + 6 := by rw [e_n25, SL_succ, h24]; rfl
  have t_n25 : SL n25 ≤ SL (n + 16) := SL_mono (by omega)
  have g_n25 : SL n ≤ SL n20 := SL_mono (by omega)
  refine fw_newQ hx hb hown (hts _ (tb_in tw_72)) hV.2.2.1 hK hP hz hS h24 (by decide) 6 rfl (by decide) (by decide) (by decide) (show n20 - n + 1 ≤ 16 by omega) (show SL n20 - SL n + 6 ≤ 756 by omega) dd_Office_init_29 (fun H hP hz hS => ?_)
  have hw := hw n25 e_n25
  rw [← e_n25] at hP hz
  refine W.cs (show n20 - n + 1 = n25 - n by omega) (show SL n20 - SL n + 6 = SL n25 - SL n by omega) ?_
  obtain ⟨V26, e_V26⟩ : ∃ z, z = fw_nw V22 n20 (fun _ => .null) := ⟨_, rfl⟩
  rw [← e_V26] at hP
  have hw := hw V26 e_V26
  refine fw_putFV hx hb hts in_9 F_ty_9 F_tyok_9 F_nm_9 hown hK hP hS (show b ≤ b + o by omega) ⟨by omega, ho.2⟩ (by decide) rfl 2 (by decide) (hts _ (tb_in tw_115)) rfl hin rfl (ty := .array (.object "OutletOffice$Bill")) (by decide +kernel) rfl rfl dd_Office_init_32 (fun H locs hP hS hz9 => ?_)
  rw [← hz9] at hz
  obtain ⟨V27, e_V27⟩ : ∃ z, z = fw_up V26 o 2 (.ref (b + n20)) := ⟨_, rfl⟩
  rw [← e_V27] at hP
  have hw := hw V27 e_V27
  refine lv_aload_n hx hb dd_Office_init_35 rfl (lv_at hl 0 rfl) ?_
  refine lv_sipush (v := 640) hx hb dd_Office_init_36 kc_sp_640 ?_
  obtain ⟨h28, hw⟩ := hw
  obtain ⟨h29, hw⟩ := hw
  obtain ⟨n30, e_n30⟩ : ∃ z, z = n25 + 1 := ⟨_, rfl⟩
  have s_n30 : SL n30 = SL n25 + 640 := by rw [e_n30, SL_succ, h29]; rfl
  have t_n30 : SL n30 ≤ SL (n + 16) := SL_mono (by omega)
  have g_n30 : SL n ≤ SL n25 := SL_mono (by omega)
  refine fw_newA hx hb (atype := .int) (hts _ (tb_in tw_48)) (ty := .int) rfl (fun C0 h0 => by cases h0) hK hP hz hS h29 (by decide) 0 rfl (by decide) (by decide) (by decide) (show n25 - n + 1 ≤ 16 by omega) (show SL n25 - SL n + 640 ≤ 756 by omega) dd_Office_init_39 (fun H hP hz hS => ?_)
  have hw := hw n30 e_n30
  rw [← e_n30] at hP hz
  refine W.cs (show n25 - n + 1 = n30 - n by omega) (show SL n25 - SL n + 640 = SL n30 - SL n by omega) ?_
  obtain ⟨V31, e_V31⟩ : ∃ z, z = fw_nw V27 n25 (fun _ => defaultValue .int) := ⟨_, rfl⟩
  rw [← e_V31] at hP
  have hw := hw V31 e_V31
  refine fw_putFV hx hb hts in_9 F_ty_9 F_tyok_9 F_nm_9 hown hK hP hS (show b ≤ b + o by omega) ⟨by omega, ho.2⟩ (by decide) rfl 3 (by decide) (hts _ (tb_in tw_117)) rfl hin rfl (ty := .array (.int)) (by decide +kernel) rfl rfl dd_Office_init_41 (fun H locs hP hS hz9 => ?_)
  rw [← hz9] at hz
  obtain ⟨V32, e_V32⟩ : ∃ z, z = fw_up V31 o 3 (.ref (b + n25)) := ⟨_, rfl⟩
  rw [← e_V32] at hP
  have hw := hw V32 e_V32
  refine lv_aload_n hx hb dd_Office_init_44 rfl (lv_at hl 0 rfl) ?_
  refine lv_bipush (v := 16) hx hb dd_Office_init_45 kc_bp_16 ?_
  obtain ⟨h33, hw⟩ := hw
  obtain ⟨h34, hw⟩ := hw
  obtain ⟨n35, e_n35⟩ : ∃ z, z = n30 + 1 := ⟨_, rfl⟩
  have s_n35 : SL n35 = SL n30 + 16 := by rw [e_n35, SL_succ, h34]; rfl
  have t_n35 : SL n35 ≤ SL (n + 16) := SL_mono (by omega)
  have g_n35 : SL n ≤ SL n30 := SL_mono (by omega)
  refine fw_newA hx hb (atype := .long) (hts _ (tb_in tw_110)) (ty := .long) rfl (fun C0 h0 => by cases h0) hK hP hz hS h34 (by decide) 1 rfl (by decide) (by decide) (by decide) (show n30 - n + 1 ≤ 16 by omega) (show SL n30 - SL n + 16 ≤ 756 by omega) dd_Office_init_47 (fun H hP hz hS => ?_)
  have hw := hw n35 e_n35
  rw [← e_n35] at hP hz
  refine W.cs (show n30 - n + 1 = n35 - n by omega) (show SL n30 - SL n + 16 = SL n35 - SL n by omega) ?_
  obtain ⟨V36, e_V36⟩ : ∃ z, z = fw_nw V32 n30 (fun _ => defaultValue .long) := ⟨_, rfl⟩
  rw [← e_V36] at hP
  have hw := hw V36 e_V36
  refine fw_putFV hx hb hts in_9 F_ty_9 F_tyok_9 F_nm_9 hown hK hP hS (show b ≤ b + o by omega) ⟨by omega, ho.2⟩ (by decide) rfl 4 (by decide) (hts _ (tb_in tw_119)) rfl hin rfl (ty := .array (.long)) (by decide +kernel) rfl rfl dd_Office_init_49 (fun H locs hP hS hz9 => ?_)
  rw [← hz9] at hz
  obtain ⟨V37, e_V37⟩ : ∃ z, z = fw_up V36 o 4 (.ref (b + n30)) := ⟨_, rfl⟩
  rw [← e_V37] at hP
  have hw := hw V37 e_V37
  refine lv_aload_n hx hb dd_Office_init_52 rfl (lv_at hl 0 rfl) ?_
  refine lv_iconst (v := 0) hx hb dd_Office_init_53 kc_ic_0 ?_
  refine fw_putV hx hb hts in_9 F_ty_9 F_tyok_9 F_nm_9 hown hK hP hS (show b ≤ b + o by omega) ⟨by omega, ho.2⟩ (by decide) rfl 5 (by decide) (hts _ (tb_in tw_121)) rfl (ty := .int) (by decide +kernel) rfl rfl dd_Office_init_54 (fun H locs hP hS hz9 => ?_)
  rw [← hz9] at hz
  obtain ⟨V38, e_V38⟩ : ∃ z, z = fw_up V37 o 5 (.int 0) := ⟨_, rfl⟩
  rw [← e_V38] at hP
  have hw := hw V38 e_V38
  refine lv_aload_n hx hb dd_Office_init_57 rfl (lv_at hl 0 rfl) ?_
  refine lv_bipush (v := 6) hx hb dd_Office_init_58 kc_bp_6 ?_
  obtain ⟨h39, hw⟩ := hw
  obtain ⟨h40, hw⟩ := hw
  obtain ⟨n41, e_n41⟩ : ∃ z, z = n35 + 1 := ⟨_, rfl⟩
  have s_n41 : SL n41 = SL n35 + 6 := by rw [e_n41, SL_succ, h40]; rfl
  have t_n41 : SL n41 ≤ SL (n + 16) := SL_mono (by omega)
  have g_n41 : SL n ≤ SL n35 := SL_mono (by omega)
  refine fw_newA hx hb (atype := .int) (hts _ (tb_in tw_48)) (ty := .int) rfl (fun C0 h0 => by cases h0) hK hP hz hS h40 (by decide) 0 rfl (by decide) (by decide) (by decide) (show n35 - n + 1 ≤ 16 by omega) (show SL n35 - SL n + 6 ≤ 756 by omega) dd_Office_init_60 (fun H hP hz hS => ?_)
  have hw := hw n41 e_n41
  rw [← e_n41] at hP hz
  refine W.cs (show n35 - n + 1 = n41 - n by omega) (show SL n35 - SL n + 6 = SL n41 - SL n by omega) ?_
  obtain ⟨V42, e_V42⟩ : ∃ z, z = fw_nw V38 n35 (fun _ => defaultValue .int) := ⟨_, rfl⟩
  rw [← e_V42] at hP
  have hw := hw V42 e_V42
  refine fw_putFV hx hb hts in_9 F_ty_9 F_tyok_9 F_nm_9 hown hK hP hS (show b ≤ b + o by omega) ⟨by omega, ho.2⟩ (by decide) rfl 6 (by decide) (hts _ (tb_in tw_123)) rfl hin rfl (ty := .array (.int)) (by decide +kernel) rfl rfl dd_Office_init_62 (fun H locs hP hS hz9 => ?_)
  rw [← hz9] at hz
  obtain ⟨V43, e_V43⟩ : ∃ z, z = fw_up V42 o 6 (.ref (b + n35)) := ⟨_, rfl⟩
  rw [← e_V43] at hP
  have hw := hw V43 e_V43
  refine lv_iconst (v := 0) hx hb dd_Office_init_65 kc_ic_0 ?_
  refine lv_istore_n hx hb dd_Office_init_66 rfl hl (Nat.le_of_ble_eq_true rfl) rfl (fun ls hl => ?_)
  have hl : lv_has ls 2 [(1, .int 0), (0, .ref (b + o))] := hl
  obtain ⟨f0, hw⟩ := hw
  exact B67 f0 n41 V43 0 _ _ ls (by omega) (SL_mono (by omega)) hw hP hz hS (lv_sub hl [1, 0] rfl)
