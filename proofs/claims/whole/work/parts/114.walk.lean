theorem dd_Tariff_setBand_0 : decode bb_Tariff_setBand 0 = .ok (.aload_n 0, 1) := by decide +kernel
theorem dd_Tariff_setBand_1 : decode bb_Tariff_setBand 1 = .ok (.getfield 9, 3) := by decide +kernel
theorem dd_Tariff_setBand_4 : decode bb_Tariff_setBand 4 = .ok (.iload_n 1, 1) := by decide +kernel
theorem dd_Tariff_setBand_5 : decode bb_Tariff_setBand 5 = .ok (.iload_n 2, 1) := by decide +kernel
theorem dd_Tariff_setBand_6 : decode bb_Tariff_setBand 6 = .ok (.iastore, 1) := by decide +kernel
theorem dd_Tariff_setBand_7 : decode bb_Tariff_setBand 7 = .ok (.aload_n 0, 1) := by decide +kernel
theorem dd_Tariff_setBand_8 : decode bb_Tariff_setBand 8 = .ok (.getfield 15, 3) := by decide +kernel
theorem dd_Tariff_setBand_11 : decode bb_Tariff_setBand 11 = .ok (.iload_n 1, 1) := by decide +kernel
theorem dd_Tariff_setBand_12 : decode bb_Tariff_setBand 12 = .ok (.iload_n 3, 1) := by decide +kernel
theorem dd_Tariff_setBand_13 : decode bb_Tariff_setBand 13 = .ok (.iastore, 1) := by decide +kernel
theorem dd_Tariff_setBand_14 : decode bb_Tariff_setBand 14 = .ok (.return_, 1) := by decide +kernel
def ww_Tariff_setBand : List Cond := .code yy_Tariff_setBand bb_Tariff_setBand 4 none :: TB
def rm_Tariff_setBand : Room := { frames := 0, cells := 0, slots := 0, locals := 0 }
def wp_Tariff_setBand (S : fw_S) (o : Nat) (a1 : Int32) (a2 : Int32) (a3 : Int32) (post : fw_S → Prop) : Prop := vp_in a1 4 ∧ (∀ S2 : fw_S, S2 = fw_si S (o + 1) a1.toNatClampNeg a2 → vp_in a1 4 ∧ (∀ S4 : fw_S, S4 = fw_si S2 (o + 2) a1.toNatClampNeg a3 → post S4))
set_option maxHeartbeats 4000000 in
set_option maxRecDepth 100000 in
theorem mt_Tariff_setBand (l : Launch) (D : va_G) (cA : Nat → ClassId) (b : Nat) (S : fw_S) (o : Nat) (a1 : Int32) (a2 : Int32) (a3 : Int32) (ho : o < 245 ∧ layU o = (7, 0)) (post : fw_S → Prop) (hw : wp_Tariff_setBand S o a1 a2 a3 post) : Met l yy_Tariff_setBand ww_Tariff_setBand rm_Tariff_setBand (fw_Pc D CL cA (TYS cA) TK layU b 245 S [.ref (b + o), .int a1, .int a2, .int a3]) (va_Qv post (fw_B D CL cA TK layU b 245) (fw_A b 245)) 0 0 (fw_A b 245) := by
  refine Met.ofW (cc := bb_Tariff_setBand) (maxL := 4) (ret := none) (by decide) rfl ?_
  intro p e s m args below meth c s₁ B hml hv
  obtain ⟨rfl, hP, hK⟩ := hv
  have hx := B.exec
  have hb := B.bytes
  have hr := B.returns
  have hts := atoms_spec (ws := ww_Tariff_setBand) B.pre
  have hown : s.vm.findClass "OutletOffice$Tariff" = some m.cls := findClass_of_methodNamed B.named
  have hlocks := B.notSynchronized
  have hS : va_S (fw_A b 245) s.heap s.heap [] := va_S.rf
  have hl := lv_entry ([.ref (b + o), .int a1, .int a2, .int a3]) (n := 4) (Nat.le_of_ble_eq_true rfl)
  rw [lg_entry_eq]
  generalize (lg_sl ([.ref (b + o), .int a1, .int a2, .int a3]) ++ List.replicate (4 - (lg_sl ([.ref (b + o), .int a1, .int a2, .int a3])).length) Slot.unset).toArray = ls at hl ⊢
  have hl : lv_has ls 4 [(0, .ref (b + o)), (1, .int a1), (2, .int a2), (3, .int a3)] := hl
  unfold wp_Tariff_setBand at hw
  refine lv_aload_n hx hb dd_Tariff_setBand_0 rfl (lv_at hl 0 rfl) ?_
  refine fw_getr hx hb hts in_7 hown hK hP ho (by decide) rfl 0 (by decide) (hts _ (tb_in tw_55)) tk_7_0 dd_Tariff_setBand_1 ?_
  refine lv_iload_n hx hb dd_Tariff_setBand_4 rfl (lv_at hl 1 rfl) ?_
  refine lv_iload_n hx hb dd_Tariff_setBand_5 rfl (lv_at hl 2 rfl) ?_
  obtain ⟨h1, hw⟩ := hw
  refine fw_iast hx hb hK hP hS (fw_A.in (lf_7_0 ho).1) (lf_7_0 ho) (by decide) 0 rfl tka_100 h1 dd_Tariff_setBand_6 (fun H locs hP hS => ?_)
  obtain ⟨S2, e_S2⟩ : ∃ z, z = fw_si S (o + 1) a1.toNatClampNeg a2 := ⟨_, rfl⟩
  rw [← e_S2] at hP
  have hw := hw S2 e_S2
  refine lv_aload_n hx hb dd_Tariff_setBand_7 rfl (lv_at hl 0 rfl) ?_
  refine fw_getr hx hb hts in_7 hown hK hP ho (by decide) rfl 1 (by decide) (hts _ (tb_in tw_56)) tk_7_1 dd_Tariff_setBand_8 ?_
  refine lv_iload_n hx hb dd_Tariff_setBand_11 rfl (lv_at hl 1 rfl) ?_
  refine lv_iload_n hx hb dd_Tariff_setBand_12 rfl (lv_at hl 3 rfl) ?_
  obtain ⟨h3, hw⟩ := hw
  refine fw_iast hx hb hK hP hS (fw_A.in (lf_7_1 ho).1) (lf_7_1 ho) (by decide) 0 rfl tka_100 h3 dd_Tariff_setBand_13 (fun H locs hP hS => ?_)
  obtain ⟨S4, e_S4⟩ : ∃ z, z = fw_si S2 (o + 2) a1.toNatClampNeg a3 := ⟨_, rfl⟩
  rw [← e_S4] at hP
  have hw := hw S4 e_S4
  exact W.vret hx hb hr (fun t ht hW => ⟨⟨_, rfl, hw, fw_Bof ht hP⟩, hS.F ht⟩) hS.2.2 dd_Tariff_setBand_14
