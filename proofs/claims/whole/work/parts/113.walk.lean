theorem dd_Office_close_99 : decode bb_Office_close 99 = .ok (.aload_n 0, 1) := by decide +kernel
theorem dd_Office_close_100 : decode bb_Office_close 100 = .ok (.dup, 1) := by decide +kernel
theorem dd_Office_close_101 : decode bb_Office_close 101 = .ok (.getfield 39, 3) := by decide +kernel
theorem dd_Office_close_104 : decode bb_Office_close 104 = .ok (.iconst 1, 1) := by decide +kernel
theorem dd_Office_close_105 : decode bb_Office_close 105 = .ok (.iadd, 1) := by decide +kernel
theorem dd_Office_close_106 : decode bb_Office_close 106 = .ok (.putfield 39, 3) := by decide +kernel
theorem dd_Office_close_109 : decode bb_Office_close 109 = .ok (.return_, 1) := by decide +kernel
theorem dd_Office_close_0 : decode bb_Office_close 0 = .ok (.aload_n 2, 1) := by decide +kernel
theorem dd_Office_close_1 : decode bb_Office_close 1 = .ok (.iconst 0, 1) := by decide +kernel
theorem dd_Office_close_2 : decode bb_Office_close 2 = .ok (.putfield 83, 3) := by decide +kernel
theorem dd_Office_close_5 : decode bb_Office_close 5 = .ok (.aload_n 0, 1) := by decide +kernel
theorem dd_Office_close_6 : decode bb_Office_close 6 = .ok (.getfield 35, 3) := by decide +kernel
theorem dd_Office_close_9 : decode bb_Office_close 9 = .ok (.aload_n 2, 1) := by decide +kernel
theorem dd_Office_close_10 : decode bb_Office_close 10 = .ok (.getfield 87, 3) := by decide +kernel
theorem dd_Office_close_13 : decode bb_Office_close 13 = .ok (.dup2, 1) := by decide +kernel
theorem dd_Office_close_14 : decode bb_Office_close 14 = .ok (.laload, 1) := by decide +kernel
theorem dd_Office_close_15 : decode bb_Office_close 15 = .ok (.aload_n 2, 1) := by decide +kernel
theorem dd_Office_close_16 : decode bb_Office_close 16 = .ok (.invokevirtual 90, 3) := by decide +kernel
theorem dd_Office_close_19 : decode bb_Office_close 19 = .ok (.i2l, 1) := by decide +kernel
theorem dd_Office_close_20 : decode bb_Office_close 20 = .ok (.ladd, 1) := by decide +kernel
theorem dd_Office_close_21 : decode bb_Office_close 21 = .ok (.lastore, 1) := by decide +kernel
theorem dd_Office_close_22 : decode bb_Office_close 22 = .ok (.aload_n 0, 1) := by decide +kernel
theorem dd_Office_close_23 : decode bb_Office_close 23 = .ok (.getfield 39, 3) := by decide +kernel
theorem dd_Office_close_26 : decode bb_Office_close 26 = .ok (.sipush 128, 3) := by decide +kernel
theorem dd_Office_close_29 : decode bb_Office_close 29 = .ok (.if_icmp .ge 70, 3) := by decide +kernel
theorem dd_Office_close_32 : decode bb_Office_close 32 = .ok (.aload_n 0, 1) := by decide +kernel
theorem dd_Office_close_33 : decode bb_Office_close 33 = .ok (.getfield 39, 3) := by decide +kernel
theorem dd_Office_close_36 : decode bb_Office_close 36 = .ok (.iconst 5, 1) := by decide +kernel
theorem dd_Office_close_37 : decode bb_Office_close 37 = .ok (.imul, 1) := by decide +kernel
theorem dd_Office_close_38 : decode bb_Office_close 38 = .ok (.istore_n 3, 1) := by decide +kernel
theorem dd_Office_close_39 : decode bb_Office_close 39 = .ok (.aload_n 0, 1) := by decide +kernel
theorem dd_Office_close_40 : decode bb_Office_close 40 = .ok (.getfield 31, 3) := by decide +kernel
theorem dd_Office_close_43 : decode bb_Office_close 43 = .ok (.iload_n 3, 1) := by decide +kernel
theorem dd_Office_close_44 : decode bb_Office_close 44 = .ok (.iload_n 1, 1) := by decide +kernel
theorem dd_Office_close_45 : decode bb_Office_close 45 = .ok (.iastore, 1) := by decide +kernel
theorem dd_Office_close_46 : decode bb_Office_close 46 = .ok (.aload_n 0, 1) := by decide +kernel
theorem dd_Office_close_47 : decode bb_Office_close 47 = .ok (.getfield 31, 3) := by decide +kernel
theorem dd_Office_close_50 : decode bb_Office_close 50 = .ok (.iload_n 3, 1) := by decide +kernel
theorem dd_Office_close_51 : decode bb_Office_close 51 = .ok (.iconst 1, 1) := by decide +kernel
theorem dd_Office_close_52 : decode bb_Office_close 52 = .ok (.iadd, 1) := by decide +kernel
theorem dd_Office_close_53 : decode bb_Office_close 53 = .ok (.aload_n 2, 1) := by decide +kernel
theorem dd_Office_close_54 : decode bb_Office_close 54 = .ok (.getfield 94, 3) := by decide +kernel
theorem dd_Office_close_57 : decode bb_Office_close 57 = .ok (.iastore, 1) := by decide +kernel
theorem dd_Office_close_58 : decode bb_Office_close 58 = .ok (.aload_n 0, 1) := by decide +kernel
theorem dd_Office_close_59 : decode bb_Office_close 59 = .ok (.getfield 31, 3) := by decide +kernel
theorem dd_Office_close_62 : decode bb_Office_close 62 = .ok (.iload_n 3, 1) := by decide +kernel
theorem dd_Office_close_63 : decode bb_Office_close 63 = .ok (.iconst 2, 1) := by decide +kernel
theorem dd_Office_close_64 : decode bb_Office_close 64 = .ok (.iadd, 1) := by decide +kernel
theorem dd_Office_close_65 : decode bb_Office_close 65 = .ok (.aload_n 2, 1) := by decide +kernel
theorem dd_Office_close_66 : decode bb_Office_close 66 = .ok (.getfield 87, 3) := by decide +kernel
theorem dd_Office_close_69 : decode bb_Office_close 69 = .ok (.iastore, 1) := by decide +kernel
theorem dd_Office_close_70 : decode bb_Office_close 70 = .ok (.aload_n 0, 1) := by decide +kernel
theorem dd_Office_close_71 : decode bb_Office_close 71 = .ok (.getfield 31, 3) := by decide +kernel
theorem dd_Office_close_74 : decode bb_Office_close 74 = .ok (.iload_n 3, 1) := by decide +kernel
theorem dd_Office_close_75 : decode bb_Office_close 75 = .ok (.iconst 3, 1) := by decide +kernel
theorem dd_Office_close_76 : decode bb_Office_close 76 = .ok (.iadd, 1) := by decide +kernel
theorem dd_Office_close_77 : decode bb_Office_close 77 = .ok (.aload_n 2, 1) := by decide +kernel
theorem dd_Office_close_78 : decode bb_Office_close 78 = .ok (.invokevirtual 90, 3) := by decide +kernel
theorem dd_Office_close_81 : decode bb_Office_close 81 = .ok (.iastore, 1) := by decide +kernel
theorem dd_Office_close_82 : decode bb_Office_close 82 = .ok (.aload_n 0, 1) := by decide +kernel
theorem dd_Office_close_83 : decode bb_Office_close 83 = .ok (.getfield 31, 3) := by decide +kernel
theorem dd_Office_close_86 : decode bb_Office_close 86 = .ok (.iload_n 3, 1) := by decide +kernel
theorem dd_Office_close_87 : decode bb_Office_close 87 = .ok (.iconst 4, 1) := by decide +kernel
theorem dd_Office_close_88 : decode bb_Office_close 88 = .ok (.iadd, 1) := by decide +kernel
theorem dd_Office_close_89 : decode bb_Office_close 89 = .ok (.aload_n 2, 1) := by decide +kernel
theorem dd_Office_close_90 : decode bb_Office_close 90 = .ok (.getfield 97, 3) := by decide +kernel
theorem dd_Office_close_93 : decode bb_Office_close 93 = .ok (.aload_n 2, 1) := by decide +kernel
theorem dd_Office_close_94 : decode bb_Office_close 94 = .ok (.getfield 100, 3) := by decide +kernel
theorem dd_Office_close_97 : decode bb_Office_close 97 = .ok (.isub, 1) := by decide +kernel
theorem dd_Office_close_98 : decode bb_Office_close 98 = .ok (.iastore, 1) := by decide +kernel
def ww_Office_close : List Cond := .code yy_Office_close bb_Office_close 4 none :: TB
def rm_Office_close : Room := { frames := 1, cells := 0, slots := 0, locals := 20 }
def wp_Office_close_99 (o : Nat) (a1 : Int32) (o2 : Nat) (post : fw_S → Prop) (S : fw_S) : Prop := ∀ S1 : fw_S, S1 = fw_si S o 5 ((S.1 o 5) + 1) → post S1
def wp_Office_close (S : fw_S) (o : Nat) (a1 : Int32) (o2 : Nat) (post : fw_S → Prop) : Prop := ∀ S1 : fw_S, S1 = fw_si S o2 0 0 → vp_in (S1.1 o2 2) 16 ∧ (wp_Bill_cents S1 o2 (fun S3 r4 => vp_in (S1.1 o2 2) 16 ∧ (∀ S6 : fw_S, S6 = fw_sl S3 (o + 9) ((S1.1 o2 2 : Int32).toNatClampNeg) ((S1.2 (o + 9) ((S1.1 o2 2 : Int32).toNatClampNeg)) + r4.toInt64) → ((((128 : Int32) ≤ (S6.1 o 5)) → wp_Office_close_99 o a1 o2 post S6) ∧ (¬ ((128 : Int32) ≤ (S6.1 o 5)) → ∀ v8 : Int32, v8 = ((S6.1 o 5) * 5) → vp_in v8 640 ∧ (∀ S10 : fw_S, S10 = fw_si S6 (o + 8) v8.toNatClampNeg a1 → vp_in (v8 + 1) 640 ∧ (∀ S12 : fw_S, S12 = fw_si S10 (o + 8) ((v8 + 1 : Int32).toNatClampNeg) (S10.1 o2 1) → vp_in (v8 + 2) 640 ∧ (∀ S14 : fw_S, S14 = fw_si S12 (o + 8) ((v8 + 2 : Int32).toNatClampNeg) (S12.1 o2 2) → wp_Bill_cents S14 o2 (fun S15 r16 => vp_in (v8 + 3) 640 ∧ (∀ S18 : fw_S, S18 = fw_si S15 (o + 8) ((v8 + 3 : Int32).toNatClampNeg) r16 → vp_in (v8 + 4) 640 ∧ (∀ S20 : fw_S, S20 = fw_si S18 (o + 8) ((v8 + 4 : Int32).toNatClampNeg) ((S18.1 o2 5) - (S18.1 o2 4)) → wp_Office_close_99 o a1 o2 post S20)))))))))))
set_option maxHeartbeats 4000000 in
set_option maxRecDepth 100000 in
theorem mt_Office_close (l : Launch) (D : va_G) (cA : Nat → ClassId) (b : Nat) (S : fw_S) (o : Nat) (a1 : Int32) (o2 : Nat) (ho : o < 245 ∧ layU o = (9, 0)) (hq2 : o2 < 245 ∧ layU o2 = (8, 0)) (post : fw_S → Prop) (hw : wp_Office_close S o a1 o2 post) : Met l yy_Office_close ww_Office_close rm_Office_close (fw_Pc D CL cA (TYS cA) TK layU b 245 S [.ref (b + o), .int a1, .ref (b + o2)]) (va_Qv post (fw_B D CL cA TK layU b 245) (fw_A b 245)) 0 0 (fw_A b 245) := by
  refine Met.ofW (cc := bb_Office_close) (maxL := 4) (ret := none) (by decide) rfl ?_
  intro p e s m args below meth c s₁ B hml hv
  obtain ⟨rfl, hP, hK⟩ := hv
  have hx := B.exec
  have hb := B.bytes
  have hr := B.returns
  have hts := atoms_spec (ws := ww_Office_close) B.pre
  have hown : s.vm.findClass "OutletOffice$Office" = some m.cls := findClass_of_methodNamed B.named
  have hlocks := B.notSynchronized
  have hS : va_S (fw_A b 245) s.heap s.heap [] := va_S.rf
  have hl := lv_entry ([.ref (b + o), .int a1, .ref (b + o2)]) (n := 4) (Nat.le_of_ble_eq_true rfl)
  rw [lg_entry_eq]
  generalize (lg_sl ([.ref (b + o), .int a1, .ref (b + o2)]) ++ List.replicate (4 - (lg_sl ([.ref (b + o), .int a1, .ref (b + o2)])).length) Slot.unset).toArray = ls at hl ⊢
  have hl : lv_has ls 4 [(0, .ref (b + o)), (1, .int a1), (2, .ref (b + o2))] := hl
  have B99 : ∀ (S : fw_S) (H : Heap) (locs : List Loc) (ls : Array Slot), wp_Office_close_99 o a1 o2 post S → fw_P D CL cA layU b 245 (fw_v TK layU b S) H → va_S (fw_A b 245) s.heap H locs → lv_has ls 4 [(0, .ref (b + o)), (1, .int a1), (2, .ref (b + o2))] → W p l e (headSpec ww_Office_close rm_Office_close).room s m ([.ref (b + o), .int a1, .ref (b + o2)] : List Value).toArray below meth c H locs 0 0 (MQ below (va_Qv post (fw_B D CL cA TK layU b 245) (fw_A b 245)) ([.ref (b + o), .int a1, .ref (b + o2)] : List Value).toArray s 0 0 (fw_A b 245)) (F0 m 99 ls []) := by
      intro S H locs ls hw hP hS hl
      unfold wp_Office_close_99 at hw
      refine lv_aload_n hx hb dd_Office_close_99 rfl (lv_at hl 0 rfl) ?_
      refine lv_dup hx hb dd_Office_close_100 rfl ?_
      refine fw_geti hx hb hts in_9 hown hK hP ho (by decide) rfl 5 (by decide) (hts _ (tb_in tw_121)) tk_9_5 dd_Office_close_101 ?_
      refine lv_iconst (v := 1) hx hb dd_Office_close_104 kc_ic_1 ?_
      refine lv_iadd hx hb dd_Office_close_105 ?_
      refine fw_puti hx hb hts in_9 F_ty_9 F_tyok_9 F_nm_9 hown hK hP hS (fw_A.in ho.1) ho (by decide) rfl 5 (by decide) (hts _ (tb_in tw_121)) rfl tk_9_5 (ty := .int) (by decide +kernel) rfl rfl dd_Office_close_106 (fun H locs hP hS => ?_)
      obtain ⟨S1, e_S1⟩ : ∃ z, z = fw_si S o 5 ((S.1 o 5) + 1) := ⟨_, rfl⟩
      rw [← e_S1] at hP
      have hw := hw S1 e_S1
      exact W.vret hx hb hr (fun t ht hW => ⟨⟨_, rfl, hw, fw_Bof ht hP⟩, hS.F ht⟩) hS.2.2 dd_Office_close_109
  unfold wp_Office_close at hw
  refine lv_aload_n hx hb dd_Office_close_0 rfl (lv_at hl 2 rfl) ?_
  refine lv_iconst (v := 0) hx hb dd_Office_close_1 kc_ic_0 ?_
  refine fw_puti hx hb hts in_8 F_ty_8 F_tyok_8 F_nm_8 hown hK hP hS (fw_A.in hq2.1) hq2 (by decide) rfl 0 (by decide) (hts _ (tb_in tw_80)) rfl tk_8_0 (ty := .boolean) (by decide +kernel) rfl rfl dd_Office_close_2 (fun H locs hP hS => ?_)
  obtain ⟨S1, e_S1⟩ : ∃ z, z = fw_si S o2 0 0 := ⟨_, rfl⟩
  rw [← e_S1] at hP
  have hw := hw S1 e_S1
  refine lv_aload_n hx hb dd_Office_close_5 rfl (lv_at hl 0 rfl) ?_
  refine fw_getr hx hb hts in_9 hown hK hP ho (by decide) rfl 4 (by decide) (hts _ (tb_in tw_119)) tk_9_4 dd_Office_close_6 ?_
  refine lv_aload_n hx hb dd_Office_close_9 rfl (lv_at hl 2 rfl) ?_
  refine fw_geti hx hb hts in_8 hown hK hP hq2 (by decide) rfl 2 (by decide) (hts _ (tb_in tw_85)) tk_8_2 dd_Office_close_10 ?_
  refine lv_dup2_11 hx hb dd_Office_close_13 rfl rfl ?_
  obtain ⟨h2, hw⟩ := hw
  refine fw_lald hx hb hK hP (lf_9_4 ho) (by decide) 1 rfl tka_101 h2 dd_Office_close_14 ?_
  refine lv_aload_n hx hb dd_Office_close_15 rfl (lv_at hl 2 rfl) ?_
  refine fw_calli (va_runV (As := []) (rest := [.long (S1.2 (o + 9) ((S1.1 o2 2 : Int32).toNatClampNeg)), .int (S1.1 o2 2), .ref (b + (o + 9))]) ⟨hx, hb, hml, hown, hts⟩ (mt_Bill_cents l D cA b S1 o2 hq2 _ hw) (cwV 0 hts (fw_gV tw_617 tw_614 tw_615 tw_616 tw_5) rfl rfl rfl (by decide +kernel) ⟨Nat.le_of_ble_eq_true rfl, Nat.le_of_ble_eq_true rfl⟩) (fw_preV hP hK hq2 (by decide) rfl) rfl rfl hl.1 rfl (lv_room (Nat.le_of_ble_eq_true rfl)) dd_Office_close_16 ⟨Nat.le_of_ble_eq_true rfl, Nat.le_of_ble_eq_true rfl⟩) hS (fun S3 r4 H locs hw hP hS => ?_)
  try dsimp only at hw
  refine lv_i2l hx hb dd_Office_close_19 rfl ?_
  refine lv_ladd hx hb dd_Office_close_20 ?_
  obtain ⟨h5, hw⟩ := hw
  refine fw_last hx hb hK hP hS (fw_A.in (lf_9_4 ho).1) (lf_9_4 ho) (by decide) 1 rfl tka_101 h5 dd_Office_close_21 (fun H locs hP hS => ?_)
  obtain ⟨S6, e_S6⟩ : ∃ z, z = fw_sl S3 (o + 9) ((S1.1 o2 2 : Int32).toNatClampNeg) ((S1.2 (o + 9) ((S1.1 o2 2 : Int32).toNatClampNeg)) + r4.toInt64) := ⟨_, rfl⟩
  rw [← e_S6] at hP
  have hw := hw S6 e_S6
  refine lv_aload_n hx hb dd_Office_close_22 rfl (lv_at hl 0 rfl) ?_
  refine fw_geti hx hb hts in_9 hown hK hP ho (by decide) rfl 5 (by decide) (hts _ (tb_in tw_121)) tk_9_5 dd_Office_close_23 ?_
  refine lv_sipush (v := 128) hx hb dd_Office_close_26 kc_sp_128 ?_
  refine lv_icmp_ge (tgt := 99) hx hb dd_Office_close_29 (by decide) (fun h7 => ?_) (fun h7 => ?_)
  · have hw := hw.1 h7
    exact B99 S6 _ _ ls hw hP hS (lv_sub hl [0, 1, 2] rfl)
  · have hw := hw.2 h7
    refine lv_aload_n hx hb dd_Office_close_32 rfl (lv_at hl 0 rfl) ?_
    refine fw_geti hx hb hts in_9 hown hK hP ho (by decide) rfl 5 (by decide) (hts _ (tb_in tw_121)) tk_9_5 dd_Office_close_33 ?_
    refine lv_iconst (v := 5) hx hb dd_Office_close_36 kc_ic_5 ?_
    refine lv_imul hx hb dd_Office_close_37 ?_
    refine lv_topi (fun v8 e_v8 => ?_)
    have hw := hw v8 e_v8
    refine lv_istore_n hx hb dd_Office_close_38 rfl hl (Nat.le_of_ble_eq_true rfl) rfl (fun ls hl => ?_)
    have hl : lv_has ls 4 [(3, .int v8), (0, .ref (b + o)), (1, .int a1), (2, .ref (b + o2))] := hl
    refine lv_aload_n hx hb dd_Office_close_39 rfl (lv_at hl 1 rfl) ?_
    refine fw_getr hx hb hts in_9 hown hK hP ho (by decide) rfl 3 (by decide) (hts _ (tb_in tw_117)) tk_9_3 dd_Office_close_40 ?_
    refine lv_iload_n hx hb dd_Office_close_43 rfl (lv_at hl 0 rfl) ?_
    refine lv_iload_n hx hb dd_Office_close_44 rfl (lv_at hl 2 rfl) ?_
    obtain ⟨h9, hw⟩ := hw
    refine fw_iast hx hb hK hP hS (fw_A.in (lf_9_3 ho).1) (lf_9_3 ho) (by decide) 0 rfl tka_100 h9 dd_Office_close_45 (fun H locs hP hS => ?_)
    obtain ⟨S10, e_S10⟩ : ∃ z, z = fw_si S6 (o + 8) v8.toNatClampNeg a1 := ⟨_, rfl⟩
    rw [← e_S10] at hP
    have hw := hw S10 e_S10
    refine lv_aload_n hx hb dd_Office_close_46 rfl (lv_at hl 1 rfl) ?_
    refine fw_getr hx hb hts in_9 hown hK hP ho (by decide) rfl 3 (by decide) (hts _ (tb_in tw_117)) tk_9_3 dd_Office_close_47 ?_
    refine lv_iload_n hx hb dd_Office_close_50 rfl (lv_at hl 0 rfl) ?_
    refine lv_iconst (v := 1) hx hb dd_Office_close_51 kc_ic_1 ?_
    refine lv_iadd hx hb dd_Office_close_52 ?_
    refine lv_aload_n hx hb dd_Office_close_53 rfl (lv_at hl 3 rfl) ?_
    refine fw_geti hx hb hts in_8 hown hK hP hq2 (by decide) rfl 1 (by decide) (hts _ (tb_in tw_83)) tk_8_1 dd_Office_close_54 ?_
    obtain ⟨h11, hw⟩ := hw
    refine fw_iast hx hb hK hP hS (fw_A.in (lf_9_3 ho).1) (lf_9_3 ho) (by decide) 0 rfl tka_100 h11 dd_Office_close_57 (fun H locs hP hS => ?_)
    obtain ⟨S12, e_S12⟩ : ∃ z, z = fw_si S10 (o + 8) ((v8 + 1 : Int32).toNatClampNeg) (S10.1 o2 1) := ⟨_, rfl⟩
    rw [← e_S12] at hP
    have hw := hw S12 e_S12
    refine lv_aload_n hx hb dd_Office_close_58 rfl (lv_at hl 1 rfl) ?_
    refine fw_getr hx hb hts in_9 hown hK hP ho (by decide) rfl 3 (by decide) (hts _ (tb_in tw_117)) tk_9_3 dd_Office_close_59 ?_
    refine lv_iload_n hx hb dd_Office_close_62 rfl (lv_at hl 0 rfl) ?_
    refine lv_iconst (v := 2) hx hb dd_Office_close_63 kc_ic_2 ?_
    refine lv_iadd hx hb dd_Office_close_64 ?_
    refine lv_aload_n hx hb dd_Office_close_65 rfl (lv_at hl 3 rfl) ?_
    refine fw_geti hx hb hts in_8 hown hK hP hq2 (by decide) rfl 2 (by decide) (hts _ (tb_in tw_85)) tk_8_2 dd_Office_close_66 ?_
    obtain ⟨h13, hw⟩ := hw
    refine fw_iast hx hb hK hP hS (fw_A.in (lf_9_3 ho).1) (lf_9_3 ho) (by decide) 0 rfl tka_100 h13 dd_Office_close_69 (fun H locs hP hS => ?_)
    obtain ⟨S14, e_S14⟩ : ∃ z, z = fw_si S12 (o + 8) ((v8 + 2 : Int32).toNatClampNeg) (S12.1 o2 2) := ⟨_, rfl⟩
    rw [← e_S14] at hP
    have hw := hw S14 e_S14
    refine lv_aload_n hx hb dd_Office_close_70 rfl (lv_at hl 1 rfl) ?_
    refine fw_getr hx hb hts in_9 hown hK hP ho (by decide) rfl 3 (by decide) (hts _ (tb_in tw_117)) tk_9_3 dd_Office_close_71 ?_
    refine lv_iload_n hx hb dd_Office_close_74 rfl (lv_at hl 0 rfl) ?_
    refine lv_iconst (v := 3) hx hb dd_Office_close_75 kc_ic_3 ?_
    refine lv_iadd hx hb dd_Office_close_76 ?_
    refine lv_aload_n hx hb dd_Office_close_77 rfl (lv_at hl 3 rfl) ?_
    refine fw_calli (va_runV (As := []) (rest := [.int (v8 + 3), .ref (b + (o + 8))]) ⟨hx, hb, hml, hown, hts⟩ (mt_Bill_cents l D cA b S14 o2 hq2 _ hw) (cwV 0 hts (fw_gV tw_617 tw_614 tw_615 tw_616 tw_5) rfl rfl rfl (by decide +kernel) ⟨Nat.le_of_ble_eq_true rfl, Nat.le_of_ble_eq_true rfl⟩) (fw_preV hP hK hq2 (by decide) rfl) rfl rfl hl.1 rfl (lv_room (Nat.le_of_ble_eq_true rfl)) dd_Office_close_78 ⟨Nat.le_of_ble_eq_true rfl, Nat.le_of_ble_eq_true rfl⟩) hS (fun S15 r16 H locs hw hP hS => ?_)
    try dsimp only at hw
    obtain ⟨h17, hw⟩ := hw
    refine fw_iast hx hb hK hP hS (fw_A.in (lf_9_3 ho).1) (lf_9_3 ho) (by decide) 0 rfl tka_100 h17 dd_Office_close_81 (fun H locs hP hS => ?_)
    obtain ⟨S18, e_S18⟩ : ∃ z, z = fw_si S15 (o + 8) ((v8 + 3 : Int32).toNatClampNeg) r16 := ⟨_, rfl⟩
    rw [← e_S18] at hP
    have hw := hw S18 e_S18
    refine lv_aload_n hx hb dd_Office_close_82 rfl (lv_at hl 1 rfl) ?_
    refine fw_getr hx hb hts in_9 hown hK hP ho (by decide) rfl 3 (by decide) (hts _ (tb_in tw_117)) tk_9_3 dd_Office_close_83 ?_
    refine lv_iload_n hx hb dd_Office_close_86 rfl (lv_at hl 0 rfl) ?_
    refine lv_iconst (v := 4) hx hb dd_Office_close_87 kc_ic_4 ?_
    refine lv_iadd hx hb dd_Office_close_88 ?_
    refine lv_aload_n hx hb dd_Office_close_89 rfl (lv_at hl 3 rfl) ?_
    refine fw_geti hx hb hts in_8 hown hK hP hq2 (by decide) rfl 5 (by decide) (hts _ (tb_in tw_92)) tk_8_5 dd_Office_close_90 ?_
    refine lv_aload_n hx hb dd_Office_close_93 rfl (lv_at hl 3 rfl) ?_
    refine fw_geti hx hb hts in_8 hown hK hP hq2 (by decide) rfl 4 (by decide) (hts _ (tb_in tw_90)) tk_8_4 dd_Office_close_94 ?_
    refine lv_isub hx hb dd_Office_close_97 ?_
    obtain ⟨h19, hw⟩ := hw
    refine fw_iast hx hb hK hP hS (fw_A.in (lf_9_3 ho).1) (lf_9_3 ho) (by decide) 0 rfl tka_100 h19 dd_Office_close_98 (fun H locs hP hS => ?_)
    obtain ⟨S20, e_S20⟩ : ∃ z, z = fw_si S18 (o + 8) ((v8 + 4 : Int32).toNatClampNeg) ((S18.1 o2 5) - (S18.1 o2 4)) := ⟨_, rfl⟩
    rw [← e_S20] at hP
    have hw := hw S20 e_S20
    exact B99 S20 _ _ ls hw hP hS (lv_sub hl [1, 2, 3] rfl)
theorem dd_Office_takeIn_109 : decode bb_Office_takeIn 109 = .ok (.return_, 1) := by decide +kernel
theorem dd_Office_takeIn_0 : decode bb_Office_takeIn 0 = .ok (.iload_n 2, 1) := by decide +kernel
theorem dd_Office_takeIn_1 : decode bb_Office_takeIn 1 = .ok (.aload_n 0, 1) := by decide +kernel
theorem dd_Office_takeIn_2 : decode bb_Office_takeIn 2 = .ok (.getfield 43, 3) := by decide +kernel
theorem dd_Office_takeIn_5 : decode bb_Office_takeIn 5 = .ok (.iload_n 1, 1) := by decide +kernel
theorem dd_Office_takeIn_6 : decode bb_Office_takeIn 6 = .ok (.iaload, 1) := by decide +kernel
theorem dd_Office_takeIn_7 : decode bb_Office_takeIn 7 = .ok (.iconst 1, 1) := by decide +kernel
theorem dd_Office_takeIn_8 : decode bb_Office_takeIn 8 = .ok (.iadd, 1) := by decide +kernel
theorem dd_Office_takeIn_9 : decode bb_Office_takeIn 9 = .ok (.if_icmp .eq 4, 3) := by decide +kernel
theorem dd_Office_takeIn_13 : decode bb_Office_takeIn 13 = .ok (.aload_n 0, 1) := by decide +kernel
theorem dd_Office_takeIn_14 : decode bb_Office_takeIn 14 = .ok (.getfield 43, 3) := by decide +kernel
theorem dd_Office_takeIn_17 : decode bb_Office_takeIn 17 = .ok (.iload_n 1, 1) := by decide +kernel
theorem dd_Office_takeIn_18 : decode bb_Office_takeIn 18 = .ok (.iload_n 2, 1) := by decide +kernel
theorem dd_Office_takeIn_19 : decode bb_Office_takeIn 19 = .ok (.iastore, 1) := by decide +kernel
theorem dd_Office_takeIn_20 : decode bb_Office_takeIn 20 = .ok (.aload_n 0, 1) := by decide +kernel
theorem dd_Office_takeIn_21 : decode bb_Office_takeIn 21 = .ok (.getfield 27, 3) := by decide +kernel
theorem dd_Office_takeIn_24 : decode bb_Office_takeIn 24 = .ok (.iload_n 1, 1) := by decide +kernel
theorem dd_Office_takeIn_25 : decode bb_Office_takeIn 25 = .ok (.aaload, 1) := by decide +kernel
theorem dd_Office_takeIn_26 : decode bb_Office_takeIn 26 = .ok (.astore 4, 2) := by decide +kernel
theorem dd_Office_takeIn_28 : decode bb_Office_takeIn 28 = .ok (.aload_n 3, 1) := by decide +kernel
theorem dd_Office_takeIn_29 : decode bb_Office_takeIn 29 = .ok (.getfield 47, 3) := by decide +kernel
theorem dd_Office_takeIn_32 : decode bb_Office_takeIn 32 = .ok (.ifCond .ne 17, 3) := by decide +kernel
theorem dd_Office_takeIn_49 : decode bb_Office_takeIn 49 = .ok (.aload 4, 2) := by decide +kernel
theorem dd_Office_takeIn_51 : decode bb_Office_takeIn 51 = .ok (.aload_n 3, 1) := by decide +kernel
theorem dd_Office_takeIn_52 : decode bb_Office_takeIn 52 = .ok (.aload_n 0, 1) := by decide +kernel
theorem dd_Office_takeIn_53 : decode bb_Office_takeIn 53 = .ok (.getfield 21, 3) := by decide +kernel
theorem dd_Office_takeIn_56 : decode bb_Office_takeIn 56 = .ok (.aload 4, 2) := by decide +kernel
theorem dd_Office_takeIn_58 : decode bb_Office_takeIn 58 = .ok (.getfield 59, 3) := by decide +kernel
theorem dd_Office_takeIn_61 : decode bb_Office_takeIn 61 = .ok (.invokevirtual 62, 3) := by decide +kernel
theorem dd_Office_takeIn_64 : decode bb_Office_takeIn 64 = .ok (.invokevirtual 66, 3) := by decide +kernel
theorem dd_Office_takeIn_67 : decode bb_Office_takeIn 67 = .ok (.aload_n 3, 1) := by decide +kernel
theorem dd_Office_takeIn_68 : decode bb_Office_takeIn 68 = .ok (.getfield 47, 3) := by decide +kernel
theorem dd_Office_takeIn_71 : decode bb_Office_takeIn 71 = .ok (.iconst 2, 1) := by decide +kernel
theorem dd_Office_takeIn_72 : decode bb_Office_takeIn 72 = .ok (.if_icmp .ne 37, 3) := by decide +kernel
theorem dd_Office_takeIn_75 : decode bb_Office_takeIn 75 = .ok (.aload 4, 2) := by decide +kernel
theorem dd_Office_takeIn_77 : decode bb_Office_takeIn 77 = .ok (.dup, 1) := by decide +kernel
theorem dd_Office_takeIn_78 : decode bb_Office_takeIn 78 = .ok (.getfield 69, 3) := by decide +kernel
theorem dd_Office_takeIn_81 : decode bb_Office_takeIn 81 = .ok (.aload_n 3, 1) := by decide +kernel
theorem dd_Office_takeIn_82 : decode bb_Office_takeIn 82 = .ok (.getfield 73, 3) := by decide +kernel
theorem dd_Office_takeIn_85 : decode bb_Office_takeIn 85 = .ok (.bipush 60, 2) := by decide +kernel
theorem dd_Office_takeIn_87 : decode bb_Office_takeIn 87 = .ok (.idiv, 1) := by decide +kernel
theorem dd_Office_takeIn_88 : decode bb_Office_takeIn 88 = .ok (.i2l, 1) := by decide +kernel
theorem dd_Office_takeIn_89 : decode bb_Office_takeIn 89 = .ok (.aload_n 0, 1) := by decide +kernel
theorem dd_Office_takeIn_90 : decode bb_Office_takeIn 90 = .ok (.getfield 21, 3) := by decide +kernel
theorem dd_Office_takeIn_93 : decode bb_Office_takeIn 93 = .ok (.getfield 76, 3) := by decide +kernel
theorem dd_Office_takeIn_96 : decode bb_Office_takeIn 96 = .ok (.i2l, 1) := by decide +kernel
theorem dd_Office_takeIn_97 : decode bb_Office_takeIn 97 = .ok (.lmul, 1) := by decide +kernel
theorem dd_Office_takeIn_98 : decode bb_Office_takeIn 98 = .ok (.ladd, 1) := by decide +kernel
theorem dd_Office_takeIn_99 : decode bb_Office_takeIn 99 = .ok (.putfield 69, 3) := by decide +kernel
theorem dd_Office_takeIn_102 : decode bb_Office_takeIn 102 = .ok (.aload_n 0, 1) := by decide +kernel
theorem dd_Office_takeIn_103 : decode bb_Office_takeIn 103 = .ok (.iload_n 1, 1) := by decide +kernel
theorem dd_Office_takeIn_104 : decode bb_Office_takeIn 104 = .ok (.aload 4, 2) := by decide +kernel
theorem dd_Office_takeIn_106 : decode bb_Office_takeIn 106 = .ok (.invokevirtual 79, 3) := by decide +kernel
theorem dd_Office_takeIn_35 : decode bb_Office_takeIn 35 = .ok (.aload 4, 2) := by decide +kernel
theorem dd_Office_takeIn_37 : decode bb_Office_takeIn 37 = .ok (.aload_n 3, 1) := by decide +kernel
theorem dd_Office_takeIn_38 : decode bb_Office_takeIn 38 = .ok (.aload_n 0, 1) := by decide +kernel
theorem dd_Office_takeIn_39 : decode bb_Office_takeIn 39 = .ok (.getfield 21, 3) := by decide +kernel
theorem dd_Office_takeIn_42 : decode bb_Office_takeIn 42 = .ok (.getfield 52, 3) := by decide +kernel
theorem dd_Office_takeIn_45 : decode bb_Office_takeIn 45 = .ok (.invokevirtual 55, 3) := by decide +kernel
theorem dd_Office_takeIn_48 : decode bb_Office_takeIn 48 = .ok (.return_, 1) := by decide +kernel
theorem dd_Office_takeIn_12 : decode bb_Office_takeIn 12 = .ok (.return_, 1) := by decide +kernel
def ww_Office_takeIn : List Cond := .code yy_Office_takeIn bb_Office_takeIn 5 none :: TB
def rm_Office_takeIn : Room := { frames := 2, cells := 0, slots := 0, locals := 46 }
def wp_Office_takeIn_109 (o : Nat) (a1 : Int32) (a2 : Int32) (o3 : Nat) (post : fw_S → Prop) (S : fw_S) (u4 : Nat) : Prop := post S
def wp_Office_takeIn (S : fw_S) (o : Nat) (a1 : Int32) (a2 : Int32) (o3 : Nat) (post : fw_S → Prop) : Prop := vp_in a1 6 ∧ ((((a2 = ((S.1 (o + 10) a1.toNatClampNeg) + 1)) → vp_in a1 6 ∧ (∀ S4 : fw_S, S4 = fw_si S (o + 10) a1.toNatClampNeg a2 → vp_in a1 6 ∧ (((¬ ((S4.1 o3 0) = 0) → wp_Tariff_priceAt S4 (o + 4) (S4.1 ((o + 7) + (4 + 1 * a1.toNatClampNeg)) 6) (fun S7 r8 => wp_Bill_grow S7 ((o + 7) + (4 + 1 * a1.toNatClampNeg)) o3 r8 (fun S9 => ((¬ ((S9.1 o3 0) = 2) → wp_Office_takeIn_109 o a1 a2 o3 post S9 ((o + 7) + (4 + 1 * a1.toNatClampNeg))) ∧ (((S9.1 o3 0) = 2) → ∀ S11 : fw_S, S11 = fw_sl S9 ((o + 7) + (4 + 1 * a1.toNatClampNeg)) 3 ((S9.2 ((o + 7) + (4 + 1 * a1.toNatClampNeg)) 3) + ((((S9.1 o3 5) / 60 : Int32).toInt64) * ((S9.1 (o + 4) 3 : Int32).toInt64))) → wp_Office_close S11 o a1 ((o + 7) + (4 + 1 * a1.toNatClampNeg)) (fun S12 => wp_Office_takeIn_109 o a1 a2 o3 post S12 ((o + 7) + (4 + 1 * a1.toNatClampNeg)))))))) ∧ (((S4.1 o3 0) = 0) → wp_Bill_begin S4 ((o + 7) + (4 + 1 * a1.toNatClampNeg)) o3 (S4.1 (o + 4) 2) (fun S13 => post S13)))))) ∧ (¬ (a2 = ((S.1 (o + 10) a1.toNatClampNeg) + 1)) → post S)))
set_option maxHeartbeats 4000000 in
set_option maxRecDepth 100000 in
theorem mt_Office_takeIn (l : Launch) (D : va_G) (cA : Nat → ClassId) (b : Nat) (S : fw_S) (o : Nat) (a1 : Int32) (a2 : Int32) (o3 : Nat) (ho : o < 245 ∧ layU o = (9, 0)) (hq3 : o3 < 245 ∧ layU o3 = (5, 0)) (post : fw_S → Prop) (hw : wp_Office_takeIn S o a1 a2 o3 post) : Met l yy_Office_takeIn ww_Office_takeIn rm_Office_takeIn (fw_Pc D CL cA (TYS cA) TK layU b 245 S [.ref (b + o), .int a1, .int a2, .ref (b + o3)]) (va_Qv post (fw_B D CL cA TK layU b 245) (fw_A b 245)) 0 0 (fw_A b 245) := by
  refine Met.ofW (cc := bb_Office_takeIn) (maxL := 5) (ret := none) (by decide) rfl ?_
  intro p e s m args below meth c s₁ B hml hv
  obtain ⟨rfl, hP, hK⟩ := hv
  have hx := B.exec
  have hb := B.bytes
  have hr := B.returns
  have hts := atoms_spec (ws := ww_Office_takeIn) B.pre
  have hown : s.vm.findClass "OutletOffice$Office" = some m.cls := findClass_of_methodNamed B.named
  have hlocks := B.notSynchronized
  have hS : va_S (fw_A b 245) s.heap s.heap [] := va_S.rf
  have hl := lv_entry ([.ref (b + o), .int a1, .int a2, .ref (b + o3)]) (n := 5) (Nat.le_of_ble_eq_true rfl)
  rw [lg_entry_eq]
  generalize (lg_sl ([.ref (b + o), .int a1, .int a2, .ref (b + o3)]) ++ List.replicate (5 - (lg_sl ([.ref (b + o), .int a1, .int a2, .ref (b + o3)])).length) Slot.unset).toArray = ls at hl ⊢
  have hl : lv_has ls 5 [(0, .ref (b + o)), (1, .int a1), (2, .int a2), (3, .ref (b + o3))] := hl
  have B109 : ∀ (S : fw_S) (u4 : Nat) (hu4 : u4 < 245 ∧ layU u4 = (8, 0)) (H : Heap) (locs : List Loc) (ls : Array Slot), wp_Office_takeIn_109 o a1 a2 o3 post S u4 → fw_P D CL cA layU b 245 (fw_v TK layU b S) H → va_S (fw_A b 245) s.heap H locs → lv_has ls 5 [(0, .ref (b + o)), (1, .int a1), (2, .int a2), (3, .ref (b + o3)), (4, .ref (b + u4))] → W p l e (headSpec ww_Office_takeIn rm_Office_takeIn).room s m ([.ref (b + o), .int a1, .int a2, .ref (b + o3)] : List Value).toArray below meth c H locs 0 0 (MQ below (va_Qv post (fw_B D CL cA TK layU b 245) (fw_A b 245)) ([.ref (b + o), .int a1, .int a2, .ref (b + o3)] : List Value).toArray s 0 0 (fw_A b 245)) (F0 m 109 ls []) := by
      intro S u4 hu4 H locs ls hw hP hS hl
      unfold wp_Office_takeIn_109 at hw
      exact W.vret hx hb hr (fun t ht hW => ⟨⟨_, rfl, hw, fw_Bof ht hP⟩, hS.F ht⟩) hS.2.2 dd_Office_takeIn_109
  unfold wp_Office_takeIn at hw
  refine lv_iload_n hx hb dd_Office_takeIn_0 rfl (lv_at hl 2 rfl) ?_
  refine lv_aload_n hx hb dd_Office_takeIn_1 rfl (lv_at hl 0 rfl) ?_
  refine fw_getr hx hb hts in_9 hown hK hP ho (by decide) rfl 6 (by decide) (hts _ (tb_in tw_123)) tk_9_6 dd_Office_takeIn_2 ?_
  refine lv_iload_n hx hb dd_Office_takeIn_5 rfl (lv_at hl 1 rfl) ?_
  obtain ⟨h1, hw⟩ := hw
  refine fw_iald hx hb hK hP (lf_9_6 ho) (by decide) 0 rfl tka_100 h1 dd_Office_takeIn_6 ?_
  refine lv_iconst (v := 1) hx hb dd_Office_takeIn_7 kc_ic_1 ?_
  refine lv_iadd hx hb dd_Office_takeIn_8 ?_
  refine lv_icmp_eq (tgt := 13) hx hb dd_Office_takeIn_9 (by decide) (fun h2 => ?_) (fun h2 => ?_)
  · have hw := hw.1 h2
    refine lv_aload_n hx hb dd_Office_takeIn_13 rfl (lv_at hl 0 rfl) ?_
    refine fw_getr hx hb hts in_9 hown hK hP ho (by decide) rfl 6 (by decide) (hts _ (tb_in tw_123)) tk_9_6 dd_Office_takeIn_14 ?_
    refine lv_iload_n hx hb dd_Office_takeIn_17 rfl (lv_at hl 1 rfl) ?_
    refine lv_iload_n hx hb dd_Office_takeIn_18 rfl (lv_at hl 2 rfl) ?_
    obtain ⟨h3, hw⟩ := hw
    refine fw_iast hx hb hK hP hS (fw_A.in (lf_9_6 ho).1) (lf_9_6 ho) (by decide) 0 rfl tka_100 h3 dd_Office_takeIn_19 (fun H locs hP hS => ?_)
    obtain ⟨S4, e_S4⟩ : ∃ z, z = fw_si S (o + 10) a1.toNatClampNeg a2 := ⟨_, rfl⟩
    rw [← e_S4] at hP
    have hw := hw S4 e_S4
    refine lv_aload_n hx hb dd_Office_takeIn_20 rfl (lv_at hl 0 rfl) ?_
    refine fw_getr hx hb hts in_9 hown hK hP ho (by decide) rfl 2 (by decide) (hts _ (tb_in tw_115)) tk_9_2 dd_Office_takeIn_21 ?_
    refine lv_iload_n hx hb dd_Office_takeIn_24 rfl (lv_at hl 1 rfl) ?_
    obtain ⟨h5, hw⟩ := hw
    refine fw_aald hx hb hK hP (lf_9_2 ho) (by decide) 6 rfl (tka_106 _) h5 dd_Office_takeIn_25 ?_
    refine lv_astore hx hb dd_Office_takeIn_26 hl (Nat.le_of_ble_eq_true rfl) rfl (fun ls hl => ?_)
    have hl : lv_has ls 5 [(4, .ref (b + ((o + 7) + (4 + 1 * a1.toNatClampNeg)))), (0, .ref (b + o)), (1, .int a1), (2, .int a2), (3, .ref (b + o3))] := hl
    refine lv_aload_n hx hb dd_Office_takeIn_28 rfl (lv_at hl 4 rfl) ?_
    refine fw_geti hx hb hts in_5 hown hK hP hq3 (by decide) rfl 0 (by decide) (hts _ (tb_in tw_197)) tk_5_0 dd_Office_takeIn_29 ?_
    refine lv_if_ne (tgt := 49) hx hb dd_Office_takeIn_32 (by decide) (fun h6 => ?_) (fun h6 => ?_)
    · have hw := hw.1 h6
      refine lv_aload hx hb dd_Office_takeIn_49 (lv_at hl 0 rfl) ?_
      refine lv_aload_n hx hb dd_Office_takeIn_51 rfl (lv_at hl 4 rfl) ?_
      refine lv_aload_n hx hb dd_Office_takeIn_52 rfl (lv_at hl 1 rfl) ?_
      refine fw_getr hx hb hts in_9 hown hK hP ho (by decide) rfl 1 (by decide) (hts _ (tb_in tw_113)) tk_9_1 dd_Office_takeIn_53 ?_
      refine lv_aload hx hb dd_Office_takeIn_56 (lv_at hl 0 rfl) ?_
      refine fw_geti hx hb hts in_8 hown hK hP (le_106 (lf_9_2 ho) (fw_lt h5)) (by decide) rfl 6 (by decide) (hts _ (tb_in tw_94)) tk_8_6 dd_Office_takeIn_58 ?_
      refine fw_calli (va_runV (As := [.int (S4.1 ((o + 7) + (4 + 1 * a1.toNatClampNeg)) 6)]) (rest := [.ref (b + o3), .ref (b + ((o + 7) + (4 + 1 * a1.toNatClampNeg)))]) ⟨hx, hb, hml, hown, hts⟩ (mt_Tariff_priceAt l D cA b S4 (o + 4) (S4.1 ((o + 7) + (4 + 1 * a1.toNatClampNeg)) 6) (lf_9_1 ho) _ hw) (cwV 1 hts (fw_gV tw_601 tw_598 tw_599 tw_600 tw_4) rfl rfl rfl (by decide +kernel) ⟨Nat.le_of_ble_eq_true rfl, Nat.le_of_ble_eq_true rfl⟩) (fw_preV hP hK (lf_9_1 ho) (by decide) rfl) rfl rfl hl.1 rfl (lv_room (Nat.le_of_ble_eq_true rfl)) dd_Office_takeIn_61 ⟨Nat.le_of_ble_eq_true rfl, Nat.le_of_ble_eq_true rfl⟩) hS (fun S7 r8 H locs hw hP hS => ?_)
      try dsimp only at hw
      refine fw_callv (va_runV (As := [.ref (b + o3), .int r8]) (rest := []) ⟨hx, hb, hml, hown, hts⟩ (mt_Bill_grow l D cA b S7 ((o + 7) + (4 + 1 * a1.toNatClampNeg)) o3 r8 (le_106 (lf_9_2 ho) (fw_lt h5)) hq3 _ hw) (cwV 2 hts (fw_gV tw_609 tw_606 tw_607 tw_608 tw_5) rfl rfl rfl (by decide +kernel) ⟨Nat.le_of_ble_eq_true rfl, Nat.le_of_ble_eq_true rfl⟩) (fw_preV hP hK (le_106 (lf_9_2 ho) (fw_lt h5)) (by decide) rfl) rfl rfl hl.1 rfl (lv_room (Nat.le_of_ble_eq_true rfl)) dd_Office_takeIn_64 ⟨Nat.le_of_ble_eq_true rfl, Nat.le_of_ble_eq_true rfl⟩) hS (fun S9 H locs hw hP hS => ?_)
      try dsimp only at hw
      refine lv_aload_n hx hb dd_Office_takeIn_67 rfl (lv_at hl 4 rfl) ?_
      refine fw_geti hx hb hts in_5 hown hK hP hq3 (by decide) rfl 0 (by decide) (hts _ (tb_in tw_197)) tk_5_0 dd_Office_takeIn_68 ?_
      refine lv_iconst (v := 2) hx hb dd_Office_takeIn_71 kc_ic_2 ?_
      refine lv_icmp_ne (tgt := 109) hx hb dd_Office_takeIn_72 (by decide) (fun h10 => ?_) (fun h10 => ?_)
      · have hw := hw.1 h10
        exact B109 S9 ((o + 7) + (4 + 1 * a1.toNatClampNeg)) (le_106 (lf_9_2 ho) (fw_lt h5)) _ _ ls hw hP hS (lv_sub hl [1, 2, 3, 4, 0] rfl)
      · have hw := hw.2 h10
        refine lv_aload hx hb dd_Office_takeIn_75 (lv_at hl 0 rfl) ?_
        refine lv_dup hx hb dd_Office_takeIn_77 rfl ?_
        refine fw_getl hx hb hts in_8 hown hK hP (le_106 (lf_9_2 ho) (fw_lt h5)) (by decide) rfl 3 (by decide) (hts _ (tb_in tw_87)) tk_8_3 dd_Office_takeIn_78 ?_
        refine lv_aload_n hx hb dd_Office_takeIn_81 rfl (lv_at hl 4 rfl) ?_
        refine fw_geti hx hb hts in_5 hown hK hP hq3 (by decide) rfl 5 (by decide) (hts _ (tb_in tw_207)) tk_5_5 dd_Office_takeIn_82 ?_
        refine lv_bipush (v := 60) hx hb dd_Office_takeIn_85 kc_bp_60 ?_
        refine lv_idiv hx hb dd_Office_takeIn_87 (by decide) ?_
        refine lv_i2l hx hb dd_Office_takeIn_88 rfl ?_
        refine lv_aload_n hx hb dd_Office_takeIn_89 rfl (lv_at hl 1 rfl) ?_
        refine fw_getr hx hb hts in_9 hown hK hP ho (by decide) rfl 1 (by decide) (hts _ (tb_in tw_113)) tk_9_1 dd_Office_takeIn_90 ?_
        refine fw_geti hx hb hts in_7 hown hK hP (lf_9_1 ho) (by decide) rfl 3 (by decide) (hts _ (tb_in tw_61)) tk_7_3 dd_Office_takeIn_93 ?_
        refine lv_i2l hx hb dd_Office_takeIn_96 rfl ?_
        refine lv_lmul hx hb dd_Office_takeIn_97 ?_
        refine lv_ladd hx hb dd_Office_takeIn_98 ?_
        refine fw_putl hx hb hts in_8 F_ty_8 F_tyok_8 F_nm_8 hown hK hP hS (fw_A.in (le_106 (lf_9_2 ho) (fw_lt h5)).1) (le_106 (lf_9_2 ho) (fw_lt h5)) (by decide) rfl 3 (by decide) (hts _ (tb_in tw_87)) rfl tk_8_3 (ty := .long) (by decide +kernel) rfl rfl dd_Office_takeIn_99 (fun H locs hP hS => ?_)
        obtain ⟨S11, e_S11⟩ : ∃ z, z = fw_sl S9 ((o + 7) + (4 + 1 * a1.toNatClampNeg)) 3 ((S9.2 ((o + 7) + (4 + 1 * a1.toNatClampNeg)) 3) + ((((S9.1 o3 5) / 60 : Int32).toInt64) * ((S9.1 (o + 4) 3 : Int32).toInt64))) := ⟨_, rfl⟩
        rw [← e_S11] at hP
        have hw := hw S11 e_S11
        refine lv_aload_n hx hb dd_Office_takeIn_102 rfl (lv_at hl 1 rfl) ?_
        refine lv_iload_n hx hb dd_Office_takeIn_103 rfl (lv_at hl 2 rfl) ?_
        refine lv_aload hx hb dd_Office_takeIn_104 (lv_at hl 0 rfl) ?_
        refine fw_callv (va_runV (As := [.int a1, .ref (b + ((o + 7) + (4 + 1 * a1.toNatClampNeg)))]) (rest := []) ⟨hx, hb, hml, hown, hts⟩ (mt_Office_close l D cA b S11 o a1 ((o + 7) + (4 + 1 * a1.toNatClampNeg)) ho (le_106 (lf_9_2 ho) (fw_lt h5)) _ hw) (cwV 2 hts (fw_gV tw_613 tw_610 tw_612 ts_5 tw_2) rfl rfl rfl (by decide +kernel) ⟨Nat.le_of_ble_eq_true rfl, Nat.le_of_ble_eq_true rfl⟩) (fw_preV hP hK ho (by decide) rfl) rfl rfl hl.1 rfl (lv_room (Nat.le_of_ble_eq_true rfl)) dd_Office_takeIn_106 ⟨Nat.le_of_ble_eq_true rfl, Nat.le_of_ble_eq_true rfl⟩) hS (fun S12 H locs hw hP hS => ?_)
        try dsimp only at hw
        exact B109 S12 ((o + 7) + (4 + 1 * a1.toNatClampNeg)) (le_106 (lf_9_2 ho) (fw_lt h5)) _ _ ls hw hP hS (lv_sub hl [1, 2, 3, 4, 0] rfl)
    · have hw := hw.2 h6
      refine lv_aload hx hb dd_Office_takeIn_35 (lv_at hl 0 rfl) ?_
      refine lv_aload_n hx hb dd_Office_takeIn_37 rfl (lv_at hl 4 rfl) ?_
      refine lv_aload_n hx hb dd_Office_takeIn_38 rfl (lv_at hl 1 rfl) ?_
      refine fw_getr hx hb hts in_9 hown hK hP ho (by decide) rfl 1 (by decide) (hts _ (tb_in tw_113)) tk_9_1 dd_Office_takeIn_39 ?_
      refine fw_geti hx hb hts in_7 hown hK hP (lf_9_1 ho) (by decide) rfl 2 (by decide) (hts _ (tb_in tw_58)) tk_7_2 dd_Office_takeIn_42 ?_
      refine fw_callv (va_runV (As := [.ref (b + o3), .int (S4.1 (o + 4) 2)]) (rest := []) ⟨hx, hb, hml, hown, hts⟩ (mt_Bill_begin l D cA b S4 ((o + 7) + (4 + 1 * a1.toNatClampNeg)) o3 (S4.1 (o + 4) 2) (le_106 (lf_9_2 ho) (fw_lt h5)) hq3 _ hw) (cwV 2 hts (fw_gV tw_597 tw_594 tw_595 tw_596 tw_5) rfl rfl rfl (by decide +kernel) ⟨Nat.le_of_ble_eq_true rfl, Nat.le_of_ble_eq_true rfl⟩) (fw_preV hP hK (le_106 (lf_9_2 ho) (fw_lt h5)) (by decide) rfl) rfl rfl hl.1 rfl (lv_room (Nat.le_of_ble_eq_true rfl)) dd_Office_takeIn_45 ⟨Nat.le_of_ble_eq_true rfl, Nat.le_of_ble_eq_true rfl⟩) hS (fun S13 H locs hw hP hS => ?_)
      try dsimp only at hw
      exact W.vret hx hb hr (fun t ht hW => ⟨⟨_, rfl, hw, fw_Bof ht hP⟩, hS.F ht⟩) hS.2.2 dd_Office_takeIn_48
  · have hw := hw.2 h2
    exact W.vret hx hb hr (fun t ht hW => ⟨⟨_, rfl, hw, fw_Bof ht hP⟩, hS.F ht⟩) hS.2.2 dd_Office_takeIn_12
theorem dd_Point_mayBegin_40 : decode bb_Point_mayBegin 40 = .ok (.iconst 0, 1) := by decide +kernel
theorem dd_Point_mayBegin_41 : decode bb_Point_mayBegin 41 = .ok (.ireturn, 1) := by decide +kernel
theorem dd_Point_mayBegin_0 : decode bb_Point_mayBegin 0 = .ok (.aload_n 0, 1) := by decide +kernel
theorem dd_Point_mayBegin_1 : decode bb_Point_mayBegin 1 = .ok (.getfield 32, 3) := by decide +kernel
theorem dd_Point_mayBegin_4 : decode bb_Point_mayBegin 4 = .ok (.ifCond .eq 36, 3) := by decide +kernel
theorem dd_Point_mayBegin_7 : decode bb_Point_mayBegin 7 = .ok (.aload_n 0, 1) := by decide +kernel
theorem dd_Point_mayBegin_8 : decode bb_Point_mayBegin 8 = .ok (.getfield 12, 3) := by decide +kernel
theorem dd_Point_mayBegin_11 : decode bb_Point_mayBegin 11 = .ok (.getfield 81, 3) := by decide +kernel
theorem dd_Point_mayBegin_14 : decode bb_Point_mayBegin 14 = .ok (.ifCond .eq 26, 3) := by decide +kernel
theorem dd_Point_mayBegin_17 : decode bb_Point_mayBegin 17 = .ok (.aload_n 0, 1) := by decide +kernel
theorem dd_Point_mayBegin_18 : decode bb_Point_mayBegin 18 = .ok (.getfield 43, 3) := by decide +kernel
theorem dd_Point_mayBegin_21 : decode bb_Point_mayBegin 21 = .ok (.ifCond .ne 19, 3) := by decide +kernel
theorem dd_Point_mayBegin_24 : decode bb_Point_mayBegin 24 = .ok (.aload_n 0, 1) := by decide +kernel
theorem dd_Point_mayBegin_25 : decode bb_Point_mayBegin 25 = .ok (.getfield 21, 3) := by decide +kernel
theorem dd_Point_mayBegin_28 : decode bb_Point_mayBegin 28 = .ok (.getfield 84, 3) := by decide +kernel
theorem dd_Point_mayBegin_31 : decode bb_Point_mayBegin 31 = .ok (.bipush 20, 2) := by decide +kernel
theorem dd_Point_mayBegin_33 : decode bb_Point_mayBegin 33 = .ok (.if_icmp .gt 7, 3) := by decide +kernel
theorem dd_Point_mayBegin_36 : decode bb_Point_mayBegin 36 = .ok (.iconst 1, 1) := by decide +kernel
theorem dd_Point_mayBegin_37 : decode bb_Point_mayBegin 37 = .ok (.goto 4, 3) := by decide +kernel
def ww_Point_mayBegin : List Cond := .code yy_Point_mayBegin bb_Point_mayBegin 1 (some .boolean) :: TB
def rm_Point_mayBegin : Room := { frames := 0, cells := 0, slots := 0, locals := 0 }
def wp_Point_mayBegin_41 (o : Nat) (post : fw_S → Int32 → Prop) (S : fw_S) (p0 : Int32) : Prop := fw_bz p0 ∧ (post S p0)
def wp_Point_mayBegin_40 (o : Nat) (post : fw_S → Int32 → Prop) (S : fw_S) : Prop := wp_Point_mayBegin_41 o post S 0
def wp_Point_mayBegin (S : fw_S) (o : Nat) (post : fw_S → Int32 → Prop) : Prop := ((((S.1 o 3) = 0) → wp_Point_mayBegin_40 o post S) ∧ (¬ ((S.1 o 3) = 0) → ((((S.1 (o + 1) 0) = 0) → wp_Point_mayBegin_40 o post S) ∧ (¬ ((S.1 (o + 1) 0) = 0) → ((¬ ((S.1 o 6) = 0) → wp_Point_mayBegin_40 o post S) ∧ (((S.1 o 6) = 0) → ((((20 : Int32) < (S.1 (o + 2) 3)) → wp_Point_mayBegin_40 o post S) ∧ (¬ ((20 : Int32) < (S.1 (o + 2) 3)) → wp_Point_mayBegin_41 o post S 1))))))))
set_option maxHeartbeats 4000000 in
set_option maxRecDepth 100000 in
theorem mt_Point_mayBegin (l : Launch) (D : va_G) (cA : Nat → ClassId) (b : Nat) (S : fw_S) (o : Nat) (ho : o < 245 ∧ layU o = (2, 0)) (post : fw_S → Int32 → Prop) (hw : wp_Point_mayBegin S o post) : Met l yy_Point_mayBegin ww_Point_mayBegin rm_Point_mayBegin (fw_Pc D CL cA (TYS cA) TK layU b 245 S [.ref (b + o)]) (va_Qi (fun r S' => post S' r) (fw_B D CL cA TK layU b 245) (fw_A b 245)) 0 0 (fw_A b 245) := by
  refine Met.ofW (cc := bb_Point_mayBegin) (maxL := 1) (ret := (some .boolean)) (by decide) rfl ?_
  intro p e s m args below meth c s₁ B hml hv
  obtain ⟨rfl, hP, hK⟩ := hv
  have hx := B.exec
  have hb := B.bytes
  have hr := B.returns
  have hts := atoms_spec (ws := ww_Point_mayBegin) B.pre
  have hown : s.vm.findClass "OutletOffice$Point" = some m.cls := findClass_of_methodNamed B.named
  have hlocks := B.notSynchronized
  have hS : va_S (fw_A b 245) s.heap s.heap [] := va_S.rf
  have hl := lv_entry ([.ref (b + o)]) (n := 1) (Nat.le_of_ble_eq_true rfl)
  rw [lg_entry_eq]
  generalize (lg_sl ([.ref (b + o)]) ++ List.replicate (1 - (lg_sl ([.ref (b + o)])).length) Slot.unset).toArray = ls at hl ⊢
  have hl : lv_has ls 1 [(0, .ref (b + o))] := hl
  have B41 : ∀ (S : fw_S) (p0 : Int32) (ls : Array Slot), wp_Point_mayBegin_41 o post S p0 → fw_P D CL cA layU b 245 (fw_v TK layU b S) s.heap → va_S (fw_A b 245) s.heap s.heap [] → lv_has ls 1 [(0, .ref (b + o))] → W p l e (headSpec ww_Point_mayBegin rm_Point_mayBegin).room s m ([.ref (b + o)] : List Value).toArray below meth c s.heap [] 0 0 (MQ below (va_Qi (fun r S' => post S' r) (fw_B D CL cA TK layU b 245) (fw_A b 245)) ([.ref (b + o)] : List Value).toArray s 0 0 (fw_A b 245)) (F0 m 41 ls [.int p0]) := by
      intro S p0 ls hw hP hS hl
      unfold wp_Point_mayBegin_41 at hw
      obtain ⟨h1, hw⟩ := hw
      exact W.zret (v := p0) hx hb hr (fw_bz.n h1) (fun t ht hW => ⟨⟨_, _, rfl, hw, fw_Bof ht hP⟩, hS.F ht⟩) hS.2.2 dd_Point_mayBegin_41
  have B40 : ∀ (S : fw_S) (ls : Array Slot), wp_Point_mayBegin_40 o post S → fw_P D CL cA layU b 245 (fw_v TK layU b S) s.heap → va_S (fw_A b 245) s.heap s.heap [] → lv_has ls 1 [(0, .ref (b + o))] → W p l e (headSpec ww_Point_mayBegin rm_Point_mayBegin).room s m ([.ref (b + o)] : List Value).toArray below meth c s.heap [] 0 0 (MQ below (va_Qi (fun r S' => post S' r) (fw_B D CL cA TK layU b 245) (fw_A b 245)) ([.ref (b + o)] : List Value).toArray s 0 0 (fw_A b 245)) (F0 m 40 ls []) := by
      intro S ls hw hP hS hl
      unfold wp_Point_mayBegin_40 at hw
      refine lv_iconst (v := 0) hx hb dd_Point_mayBegin_40 kc_ic_0 ?_
      exact B41 S 0 ls hw hP hS (lv_sub hl [0] rfl)
  unfold wp_Point_mayBegin at hw
  refine lv_aload_n hx hb dd_Point_mayBegin_0 rfl (lv_at hl 0 rfl) ?_
  refine fw_geti hx hb hts in_2 hown hK hP ho (by decide) rfl 3 (by decide) (hts _ (tb_in tw_249)) tk_2_3 dd_Point_mayBegin_1 ?_
  refine lv_if_eq (tgt := 40) hx hb dd_Point_mayBegin_4 (by decide) (fun h1 => ?_) (fun h1 => ?_)
  · have hw := hw.1 h1
    exact B40 S ls hw hP hS (lv_sub hl [0] rfl)
  · have hw := hw.2 h1
    refine lv_aload_n hx hb dd_Point_mayBegin_7 rfl (lv_at hl 0 rfl) ?_
    refine fw_getr hx hb hts in_2 hown hK hP ho (by decide) rfl 0 (by decide) (hts _ (tb_in tw_242)) tk_2_0 dd_Point_mayBegin_8 ?_
    refine fw_geti hx hb hts in_3 hown hK hP (lf_2_0 ho) (by decide) rfl 0 (by decide) (hts _ (tb_in tw_158)) tk_3_0 dd_Point_mayBegin_11 ?_
    refine lv_if_eq (tgt := 40) hx hb dd_Point_mayBegin_14 (by decide) (fun h2 => ?_) (fun h2 => ?_)
    · have hw := hw.1 h2
      exact B40 S ls hw hP hS (lv_sub hl [0] rfl)
    · have hw := hw.2 h2
      refine lv_aload_n hx hb dd_Point_mayBegin_17 rfl (lv_at hl 0 rfl) ?_
      refine fw_geti hx hb hts in_2 hown hK hP ho (by decide) rfl 6 (by decide) (hts _ (tb_in tw_255)) tk_2_6 dd_Point_mayBegin_18 ?_
      refine lv_if_ne (tgt := 40) hx hb dd_Point_mayBegin_21 (by decide) (fun h3 => ?_) (fun h3 => ?_)
      · have hw := hw.1 h3
        exact B40 S ls hw hP hS (lv_sub hl [0] rfl)
      · have hw := hw.2 h3
        refine lv_aload_n hx hb dd_Point_mayBegin_24 rfl (lv_at hl 0 rfl) ?_
        refine fw_getr hx hb hts in_2 hown hK hP ho (by decide) rfl 1 (by decide) (hts _ (tb_in tw_245)) tk_2_1 dd_Point_mayBegin_25 ?_
        refine fw_geti hx hb hts in_4 hown hK hP (lf_2_1 ho) (by decide) rfl 3 (by decide) (hts _ (tb_in tw_225)) tk_4_3 dd_Point_mayBegin_28 ?_
        refine lv_bipush (v := 20) hx hb dd_Point_mayBegin_31 kc_bp_20 ?_
        refine lv_icmp_gt (tgt := 40) hx hb dd_Point_mayBegin_33 (by decide) (fun h4 => ?_) (fun h4 => ?_)
        · have hw := hw.1 h4
          exact B40 S ls hw hP hS (lv_sub hl [0] rfl)
        · have hw := hw.2 h4
          refine lv_iconst (v := 1) hx hb dd_Point_mayBegin_36 kc_ic_1 ?_
          refine lv_goto (tgt := 41) hx hb dd_Point_mayBegin_37 (by decide) ?_
          exact B41 S 1 ls hw hP hS (lv_sub hl [0] rfl)
theorem dd_Point_begin_0 : decode bb_Point_begin 0 = .ok (.aload_n 0, 1) := by decide +kernel
theorem dd_Point_begin_1 : decode bb_Point_begin 1 = .ok (.dup, 1) := by decide +kernel
theorem dd_Point_begin_2 : decode bb_Point_begin 2 = .ok (.getfield 50, 3) := by decide +kernel
theorem dd_Point_begin_5 : decode bb_Point_begin 5 = .ok (.iconst 1, 1) := by decide +kernel
theorem dd_Point_begin_6 : decode bb_Point_begin 6 = .ok (.iadd, 1) := by decide +kernel
theorem dd_Point_begin_7 : decode bb_Point_begin 7 = .ok (.putfield 50, 3) := by decide +kernel
theorem dd_Point_begin_10 : decode bb_Point_begin 10 = .ok (.aload_n 0, 1) := by decide +kernel
theorem dd_Point_begin_11 : decode bb_Point_begin 11 = .ok (.aload_n 0, 1) := by decide +kernel
theorem dd_Point_begin_12 : decode bb_Point_begin 12 = .ok (.getfield 50, 3) := by decide +kernel
theorem dd_Point_begin_15 : decode bb_Point_begin 15 = .ok (.putfield 43, 3) := by decide +kernel
theorem dd_Point_begin_18 : decode bb_Point_begin 18 = .ok (.aload_n 0, 1) := by decide +kernel
theorem dd_Point_begin_19 : decode bb_Point_begin 19 = .ok (.iload_n 1, 1) := by decide +kernel
theorem dd_Point_begin_20 : decode bb_Point_begin 20 = .ok (.putfield 47, 3) := by decide +kernel
theorem dd_Point_begin_23 : decode bb_Point_begin 23 = .ok (.aload_n 0, 1) := by decide +kernel
theorem dd_Point_begin_24 : decode bb_Point_begin 24 = .ok (.iconst 0, 1) := by decide +kernel
theorem dd_Point_begin_25 : decode bb_Point_begin 25 = .ok (.iload_n 2, 1) := by decide +kernel
theorem dd_Point_begin_26 : decode bb_Point_begin 26 = .ok (.iconst 0, 1) := by decide +kernel
theorem dd_Point_begin_27 : decode bb_Point_begin 27 = .ok (.invokevirtual 87, 3) := by decide +kernel
theorem dd_Point_begin_30 : decode bb_Point_begin 30 = .ok (.return_, 1) := by decide +kernel
def ww_Point_begin : List Cond := .code yy_Point_begin bb_Point_begin 3 none :: TB
def rm_Point_begin : Room := { frames := 3, cells := 0, slots := 0, locals := 76 }
def wp_Point_begin (S : fw_S) (o : Nat) (a1 : Int32) (a2 : Int32) (post : fw_S → Prop) : Prop := ∀ S1 : fw_S, S1 = fw_si S o 8 ((S.1 o 8) + 1) → ∀ S2 : fw_S, S2 = fw_si S1 o 6 (S1.1 o 8) → ∀ S3 : fw_S, S3 = fw_si S2 o 7 a1 → wp_Point_tell S3 o 0 a2 0 (fun S4 => post S4)
set_option maxHeartbeats 4000000 in
set_option maxRecDepth 100000 in
theorem mt_Point_begin (l : Launch) (D : va_G) (cA : Nat → ClassId) (b : Nat) (S : fw_S) (o : Nat) (a1 : Int32) (a2 : Int32) (ho : o < 245 ∧ layU o = (2, 0)) (post : fw_S → Prop) (hw : wp_Point_begin S o a1 a2 post) : Met l yy_Point_begin ww_Point_begin rm_Point_begin (fw_Pc D CL cA (TYS cA) TK layU b 245 S [.ref (b + o), .int a1, .int a2]) (va_Qv post (fw_B D CL cA TK layU b 245) (fw_A b 245)) 0 0 (fw_A b 245) := by
  refine Met.ofW (cc := bb_Point_begin) (maxL := 3) (ret := none) (by decide) rfl ?_
  intro p e s m args below meth c s₁ B hml hv
  obtain ⟨rfl, hP, hK⟩ := hv
  have hx := B.exec
  have hb := B.bytes
  have hr := B.returns
  have hts := atoms_spec (ws := ww_Point_begin) B.pre
  have hown : s.vm.findClass "OutletOffice$Point" = some m.cls := findClass_of_methodNamed B.named
  have hlocks := B.notSynchronized
  have hS : va_S (fw_A b 245) s.heap s.heap [] := va_S.rf
  have hl := lv_entry ([.ref (b + o), .int a1, .int a2]) (n := 3) (Nat.le_of_ble_eq_true rfl)
  rw [lg_entry_eq]
  generalize (lg_sl ([.ref (b + o), .int a1, .int a2]) ++ List.replicate (3 - (lg_sl ([.ref (b + o), .int a1, .int a2])).length) Slot.unset).toArray = ls at hl ⊢
  have hl : lv_has ls 3 [(0, .ref (b + o)), (1, .int a1), (2, .int a2)] := hl
  unfold wp_Point_begin at hw
  refine lv_aload_n hx hb dd_Point_begin_0 rfl (lv_at hl 0 rfl) ?_
  refine lv_dup hx hb dd_Point_begin_1 rfl ?_
  refine fw_geti hx hb hts in_2 hown hK hP ho (by decide) rfl 8 (by decide) (hts _ (tb_in tw_259)) tk_2_8 dd_Point_begin_2 ?_
  refine lv_iconst (v := 1) hx hb dd_Point_begin_5 kc_ic_1 ?_
  refine lv_iadd hx hb dd_Point_begin_6 ?_
  refine fw_puti hx hb hts in_2 F_ty_2 F_tyok_2 F_nm_2 hown hK hP hS (fw_A.in ho.1) ho (by decide) rfl 8 (by decide) (hts _ (tb_in tw_259)) rfl tk_2_8 (ty := .int) (by decide +kernel) rfl rfl dd_Point_begin_7 (fun H locs hP hS => ?_)
  obtain ⟨S1, e_S1⟩ : ∃ z, z = fw_si S o 8 ((S.1 o 8) + 1) := ⟨_, rfl⟩
  rw [← e_S1] at hP
  have hw := hw S1 e_S1
  refine lv_aload_n hx hb dd_Point_begin_10 rfl (lv_at hl 0 rfl) ?_
  refine lv_aload_n hx hb dd_Point_begin_11 rfl (lv_at hl 0 rfl) ?_
  refine fw_geti hx hb hts in_2 hown hK hP ho (by decide) rfl 8 (by decide) (hts _ (tb_in tw_259)) tk_2_8 dd_Point_begin_12 ?_
  refine fw_puti hx hb hts in_2 F_ty_2 F_tyok_2 F_nm_2 hown hK hP hS (fw_A.in ho.1) ho (by decide) rfl 6 (by decide) (hts _ (tb_in tw_255)) rfl tk_2_6 (ty := .int) (by decide +kernel) rfl rfl dd_Point_begin_15 (fun H locs hP hS => ?_)
  obtain ⟨S2, e_S2⟩ : ∃ z, z = fw_si S1 o 6 (S1.1 o 8) := ⟨_, rfl⟩
  rw [← e_S2] at hP
  have hw := hw S2 e_S2
  refine lv_aload_n hx hb dd_Point_begin_18 rfl (lv_at hl 0 rfl) ?_
  refine lv_iload_n hx hb dd_Point_begin_19 rfl (lv_at hl 1 rfl) ?_
  refine fw_puti hx hb hts in_2 F_ty_2 F_tyok_2 F_nm_2 hown hK hP hS (fw_A.in ho.1) ho (by decide) rfl 7 (by decide) (hts _ (tb_in tw_257)) rfl tk_2_7 (ty := .int) (by decide +kernel) rfl rfl dd_Point_begin_20 (fun H locs hP hS => ?_)
  obtain ⟨S3, e_S3⟩ : ∃ z, z = fw_si S2 o 7 a1 := ⟨_, rfl⟩
  rw [← e_S3] at hP
  have hw := hw S3 e_S3
  refine lv_aload_n hx hb dd_Point_begin_23 rfl (lv_at hl 0 rfl) ?_
  refine lv_iconst (v := 0) hx hb dd_Point_begin_24 kc_ic_0 ?_
  refine lv_iload_n hx hb dd_Point_begin_25 rfl (lv_at hl 2 rfl) ?_
  refine lv_iconst (v := 0) hx hb dd_Point_begin_26 kc_ic_0 ?_
  refine fw_callv (va_runV (As := [.int 0, .int a2, .int 0]) (rest := []) ⟨hx, hb, hml, hown, hts⟩ (mt_Point_tell l D cA b S3 o 0 a2 0 ho _ hw) (cwV 3 hts (fw_gV tw_510 tw_507 tw_509 ts_2 tw_7) rfl rfl rfl (by decide +kernel) ⟨Nat.le_of_ble_eq_true rfl, Nat.le_of_ble_eq_true rfl⟩) (fw_preV hP hK ho (by decide) rfl) rfl rfl hl.1 rfl (lv_room (Nat.le_of_ble_eq_true rfl)) dd_Point_begin_27 ⟨Nat.le_of_ble_eq_true rfl, Nat.le_of_ble_eq_true rfl⟩) hS (fun S4 H locs hw hP hS => ?_)
  try dsimp only at hw
  exact W.vret hx hb hr (fun t ht hW => ⟨⟨_, rfl, hw, fw_Bof ht hP⟩, hS.F ht⟩) hS.2.2 dd_Point_begin_30
theorem dd_Point_end_0 : decode bb_Point_end 0 = .ok (.aload_n 0, 1) := by decide +kernel
theorem dd_Point_end_1 : decode bb_Point_end 1 = .ok (.iconst 2, 1) := by decide +kernel
theorem dd_Point_end_2 : decode bb_Point_end 2 = .ok (.iload_n 1, 1) := by decide +kernel
theorem dd_Point_end_3 : decode bb_Point_end 3 = .ok (.iload_n 2, 1) := by decide +kernel
theorem dd_Point_end_4 : decode bb_Point_end 4 = .ok (.invokevirtual 87, 3) := by decide +kernel
theorem dd_Point_end_7 : decode bb_Point_end 7 = .ok (.aload_n 0, 1) := by decide +kernel
theorem dd_Point_end_8 : decode bb_Point_end 8 = .ok (.iconst 0, 1) := by decide +kernel
theorem dd_Point_end_9 : decode bb_Point_end 9 = .ok (.putfield 43, 3) := by decide +kernel
theorem dd_Point_end_12 : decode bb_Point_end 12 = .ok (.aload_n 0, 1) := by decide +kernel
theorem dd_Point_end_13 : decode bb_Point_end 13 = .ok (.iconst (-1), 1) := by decide +kernel
theorem dd_Point_end_14 : decode bb_Point_end 14 = .ok (.putfield 47, 3) := by decide +kernel
theorem dd_Point_end_17 : decode bb_Point_end 17 = .ok (.return_, 1) := by decide +kernel
def ww_Point_end : List Cond := .code yy_Point_end bb_Point_end 3 none :: TB
def rm_Point_end : Room := { frames := 3, cells := 0, slots := 0, locals := 76 }
def wp_Point_end (S : fw_S) (o : Nat) (a1 : Int32) (a2 : Int32) (post : fw_S → Prop) : Prop := wp_Point_tell S o 2 a1 a2 (fun S1 => ∀ S2 : fw_S, S2 = fw_si S1 o 6 0 → ∀ S3 : fw_S, S3 = fw_si S2 o 7 (-1) → post S3)
set_option maxHeartbeats 4000000 in
set_option maxRecDepth 100000 in
theorem mt_Point_end (l : Launch) (D : va_G) (cA : Nat → ClassId) (b : Nat) (S : fw_S) (o : Nat) (a1 : Int32) (a2 : Int32) (ho : o < 245 ∧ layU o = (2, 0)) (post : fw_S → Prop) (hw : wp_Point_end S o a1 a2 post) : Met l yy_Point_end ww_Point_end rm_Point_end (fw_Pc D CL cA (TYS cA) TK layU b 245 S [.ref (b + o), .int a1, .int a2]) (va_Qv post (fw_B D CL cA TK layU b 245) (fw_A b 245)) 0 0 (fw_A b 245) := by
  refine Met.ofW (cc := bb_Point_end) (maxL := 3) (ret := none) (by decide) rfl ?_
  intro p e s m args below meth c s₁ B hml hv
  obtain ⟨rfl, hP, hK⟩ := hv
  have hx := B.exec
  have hb := B.bytes
  have hr := B.returns
  have hts := atoms_spec (ws := ww_Point_end) B.pre
  have hown : s.vm.findClass "OutletOffice$Point" = some m.cls := findClass_of_methodNamed B.named
  have hlocks := B.notSynchronized
  have hS : va_S (fw_A b 245) s.heap s.heap [] := va_S.rf
  have hl := lv_entry ([.ref (b + o), .int a1, .int a2]) (n := 3) (Nat.le_of_ble_eq_true rfl)
  rw [lg_entry_eq]
  generalize (lg_sl ([.ref (b + o), .int a1, .int a2]) ++ List.replicate (3 - (lg_sl ([.ref (b + o), .int a1, .int a2])).length) Slot.unset).toArray = ls at hl ⊢
  have hl : lv_has ls 3 [(0, .ref (b + o)), (1, .int a1), (2, .int a2)] := hl
  unfold wp_Point_end at hw
  refine lv_aload_n hx hb dd_Point_end_0 rfl (lv_at hl 0 rfl) ?_
  refine lv_iconst (v := 2) hx hb dd_Point_end_1 kc_ic_2 ?_
  refine lv_iload_n hx hb dd_Point_end_2 rfl (lv_at hl 1 rfl) ?_
  refine lv_iload_n hx hb dd_Point_end_3 rfl (lv_at hl 2 rfl) ?_
  refine fw_callv (va_runV (As := [.int 2, .int a1, .int a2]) (rest := []) ⟨hx, hb, hml, hown, hts⟩ (mt_Point_tell l D cA b S o 2 a1 a2 ho _ hw) (cwV 3 hts (fw_gV tw_510 tw_507 tw_509 ts_2 tw_7) rfl rfl rfl (by decide +kernel) ⟨Nat.le_of_ble_eq_true rfl, Nat.le_of_ble_eq_true rfl⟩) (fw_preV hP hK ho (by decide) rfl) rfl rfl hl.1 rfl (lv_room (Nat.le_of_ble_eq_true rfl)) dd_Point_end_4 ⟨Nat.le_of_ble_eq_true rfl, Nat.le_of_ble_eq_true rfl⟩) hS (fun S1 H locs hw hP hS => ?_)
  try dsimp only at hw
  refine lv_aload_n hx hb dd_Point_end_7 rfl (lv_at hl 0 rfl) ?_
  refine lv_iconst (v := 0) hx hb dd_Point_end_8 kc_ic_0 ?_
  refine fw_puti hx hb hts in_2 F_ty_2 F_tyok_2 F_nm_2 hown hK hP hS (fw_A.in ho.1) ho (by decide) rfl 6 (by decide) (hts _ (tb_in tw_255)) rfl tk_2_6 (ty := .int) (by decide +kernel) rfl rfl dd_Point_end_9 (fun H locs hP hS => ?_)
  obtain ⟨S2, e_S2⟩ : ∃ z, z = fw_si S1 o 6 0 := ⟨_, rfl⟩
  rw [← e_S2] at hP
  have hw := hw S2 e_S2
  refine lv_aload_n hx hb dd_Point_end_12 rfl (lv_at hl 0 rfl) ?_
  refine lv_iconst (v := (-1)) hx hb dd_Point_end_13 kc_ic_m1 ?_
  refine fw_puti hx hb hts in_2 F_ty_2 F_tyok_2 F_nm_2 hown hK hP hS (fw_A.in ho.1) ho (by decide) rfl 7 (by decide) (hts _ (tb_in tw_257)) rfl tk_2_7 (ty := .int) (by decide +kernel) rfl rfl dd_Point_end_14 (fun H locs hP hS => ?_)
  obtain ⟨S3, e_S3⟩ : ∃ z, z = fw_si S2 o 7 (-1) := ⟨_, rfl⟩
  rw [← e_S3] at hP
  have hw := hw S3 e_S3
  exact W.vret hx hb hr (fun t ht hW => ⟨⟨_, rfl, hw, fw_Bof ht hP⟩, hS.F ht⟩) hS.2.2 dd_Point_end_17
theorem dd_Point_dropIfUnreachable_12 : decode bb_Point_dropIfUnreachable 12 = .ok (.return_, 1) := by decide +kernel
theorem dd_Point_dropIfUnreachable_0 : decode bb_Point_dropIfUnreachable 0 = .ok (.aload_n 0, 1) := by decide +kernel
theorem dd_Point_dropIfUnreachable_1 : decode bb_Point_dropIfUnreachable 1 = .ok (.invokevirtual 104, 3) := by decide +kernel
theorem dd_Point_dropIfUnreachable_4 : decode bb_Point_dropIfUnreachable 4 = .ok (.ifCond .ne 8, 3) := by decide +kernel
theorem dd_Point_dropIfUnreachable_7 : decode bb_Point_dropIfUnreachable 7 = .ok (.aload_n 0, 1) := by decide +kernel
theorem dd_Point_dropIfUnreachable_8 : decode bb_Point_dropIfUnreachable 8 = .ok (.iconst 0, 1) := by decide +kernel
theorem dd_Point_dropIfUnreachable_9 : decode bb_Point_dropIfUnreachable 9 = .ok (.putfield 53, 3) := by decide +kernel
def ww_Point_dropIfUnreachable : List Cond := .code yy_Point_dropIfUnreachable bb_Point_dropIfUnreachable 1 none :: TB
def rm_Point_dropIfUnreachable : Room := { frames := 1, cells := 0, slots := 0, locals := 20 }
def wp_Point_dropIfUnreachable_12 (o : Nat) (post : fw_S → Prop) (S : fw_S) : Prop := post S
def wp_Point_dropIfUnreachable (S : fw_S) (o : Nat) (post : fw_S → Prop) : Prop := wp_Point_isReachable S o (fun S1 r2 => ((¬ (r2 = 0) → wp_Point_dropIfUnreachable_12 o post S1) ∧ ((r2 = 0) → ∀ S4 : fw_S, S4 = fw_si S1 o 9 0 → wp_Point_dropIfUnreachable_12 o post S4)))
set_option maxHeartbeats 4000000 in
set_option maxRecDepth 100000 in
theorem mt_Point_dropIfUnreachable (l : Launch) (D : va_G) (cA : Nat → ClassId) (b : Nat) (S : fw_S) (o : Nat) (ho : o < 245 ∧ layU o = (2, 0)) (post : fw_S → Prop) (hw : wp_Point_dropIfUnreachable S o post) : Met l yy_Point_dropIfUnreachable ww_Point_dropIfUnreachable rm_Point_dropIfUnreachable (fw_Pc D CL cA (TYS cA) TK layU b 245 S [.ref (b + o)]) (va_Qv post (fw_B D CL cA TK layU b 245) (fw_A b 245)) 0 0 (fw_A b 245) := by
  refine Met.ofW (cc := bb_Point_dropIfUnreachable) (maxL := 1) (ret := none) (by decide) rfl ?_
  intro p e s m args below meth c s₁ B hml hv
  obtain ⟨rfl, hP, hK⟩ := hv
  have hx := B.exec
  have hb := B.bytes
  have hr := B.returns
  have hts := atoms_spec (ws := ww_Point_dropIfUnreachable) B.pre
  have hown : s.vm.findClass "OutletOffice$Point" = some m.cls := findClass_of_methodNamed B.named
  have hlocks := B.notSynchronized
  have hS : va_S (fw_A b 245) s.heap s.heap [] := va_S.rf
  have hl := lv_entry ([.ref (b + o)]) (n := 1) (Nat.le_of_ble_eq_true rfl)
  rw [lg_entry_eq]
  generalize (lg_sl ([.ref (b + o)]) ++ List.replicate (1 - (lg_sl ([.ref (b + o)])).length) Slot.unset).toArray = ls at hl ⊢
  have hl : lv_has ls 1 [(0, .ref (b + o))] := hl
  have B12 : ∀ (S : fw_S) (H : Heap) (locs : List Loc) (ls : Array Slot), wp_Point_dropIfUnreachable_12 o post S → fw_P D CL cA layU b 245 (fw_v TK layU b S) H → va_S (fw_A b 245) s.heap H locs → lv_has ls 1 [(0, .ref (b + o))] → W p l e (headSpec ww_Point_dropIfUnreachable rm_Point_dropIfUnreachable).room s m ([.ref (b + o)] : List Value).toArray below meth c H locs 0 0 (MQ below (va_Qv post (fw_B D CL cA TK layU b 245) (fw_A b 245)) ([.ref (b + o)] : List Value).toArray s 0 0 (fw_A b 245)) (F0 m 12 ls []) := by
      intro S H locs ls hw hP hS hl
      unfold wp_Point_dropIfUnreachable_12 at hw
      exact W.vret hx hb hr (fun t ht hW => ⟨⟨_, rfl, hw, fw_Bof ht hP⟩, hS.F ht⟩) hS.2.2 dd_Point_dropIfUnreachable_12
  unfold wp_Point_dropIfUnreachable at hw
  refine lv_aload_n hx hb dd_Point_dropIfUnreachable_0 rfl (lv_at hl 0 rfl) ?_
  refine fw_calli (va_runV (As := []) (rest := []) ⟨hx, hb, hml, hown, hts⟩ (mt_Point_isReachable l D cA b S o ho _ hw) (cwV 0 hts (fw_gV tw_462 tw_562 tw_460 tw_461 tw_7) rfl rfl rfl (by decide +kernel) ⟨Nat.le_of_ble_eq_true rfl, Nat.le_of_ble_eq_true rfl⟩) (fw_preV hP hK ho (by decide) rfl) rfl rfl hl.1 rfl (lv_room (Nat.le_of_ble_eq_true rfl)) dd_Point_dropIfUnreachable_1 ⟨Nat.le_of_ble_eq_true rfl, Nat.le_of_ble_eq_true rfl⟩) hS (fun S1 r2 H locs hw hP hS => ?_)
  try dsimp only at hw
  refine lv_if_ne (tgt := 12) hx hb dd_Point_dropIfUnreachable_4 (by decide) (fun h3 => ?_) (fun h3 => ?_)
  · have hw := hw.1 h3
    exact B12 S1 _ _ ls hw hP hS (lv_sub hl [0] rfl)
  · have hw := hw.2 h3
    refine lv_aload_n hx hb dd_Point_dropIfUnreachable_7 rfl (lv_at hl 0 rfl) ?_
    refine lv_iconst (v := 0) hx hb dd_Point_dropIfUnreachable_8 kc_ic_0 ?_
    refine fw_puti hx hb hts in_2 F_ty_2 F_tyok_2 F_nm_2 hown hK hP hS (fw_A.in ho.1) ho (by decide) rfl 9 (by decide) (hts _ (tb_in tw_260)) rfl tk_2_9 (ty := .int) (by decide +kernel) rfl rfl dd_Point_dropIfUnreachable_9 (fun H locs hP hS => ?_)
    obtain ⟨S4, e_S4⟩ : ∃ z, z = fw_si S1 o 9 0 := ⟨_, rfl⟩
    rw [← e_S4] at hP
    have hw := hw S4 e_S4
    exact B12 S4 _ _ ls hw hP hS (lv_sub hl [0] rfl)
theorem dd_Point_setLine_0 : decode bb_Point_setLine 0 = .ok (.aload_n 0, 1) := by decide +kernel
theorem dd_Point_setLine_1 : decode bb_Point_setLine 1 = .ok (.iload_n 1, 1) := by decide +kernel
theorem dd_Point_setLine_2 : decode bb_Point_setLine 2 = .ok (.putfield 36, 3) := by decide +kernel
theorem dd_Point_setLine_5 : decode bb_Point_setLine 5 = .ok (.aload_n 0, 1) := by decide +kernel
theorem dd_Point_setLine_6 : decode bb_Point_setLine 6 = .ok (.invokevirtual 97, 3) := by decide +kernel
theorem dd_Point_setLine_9 : decode bb_Point_setLine 9 = .ok (.return_, 1) := by decide +kernel
def ww_Point_setLine : List Cond := .code yy_Point_setLine bb_Point_setLine 2 none :: TB
def rm_Point_setLine : Room := { frames := 2, cells := 0, slots := 0, locals := 40 }
def wp_Point_setLine (S : fw_S) (o : Nat) (a1 : Int32) (post : fw_S → Prop) : Prop := fw_bz a1 ∧ (∀ S2 : fw_S, S2 = fw_si S o 4 a1 → wp_Point_dropIfUnreachable S2 o (fun S3 => post S3))
set_option maxHeartbeats 4000000 in
set_option maxRecDepth 100000 in
theorem mt_Point_setLine (l : Launch) (D : va_G) (cA : Nat → ClassId) (b : Nat) (S : fw_S) (o : Nat) (a1 : Int32) (ho : o < 245 ∧ layU o = (2, 0)) (post : fw_S → Prop) (hw : wp_Point_setLine S o a1 post) : Met l yy_Point_setLine ww_Point_setLine rm_Point_setLine (fw_Pc D CL cA (TYS cA) TK layU b 245 S [.ref (b + o), .int a1]) (va_Qv post (fw_B D CL cA TK layU b 245) (fw_A b 245)) 0 0 (fw_A b 245) := by
  refine Met.ofW (cc := bb_Point_setLine) (maxL := 2) (ret := none) (by decide) rfl ?_
  intro p e s m args below meth c s₁ B hml hv
  obtain ⟨rfl, hP, hK⟩ := hv
  have hx := B.exec
  have hb := B.bytes
  have hr := B.returns
  have hts := atoms_spec (ws := ww_Point_setLine) B.pre
  have hown : s.vm.findClass "OutletOffice$Point" = some m.cls := findClass_of_methodNamed B.named
  have hlocks := B.notSynchronized
  have hS : va_S (fw_A b 245) s.heap s.heap [] := va_S.rf
  have hl := lv_entry ([.ref (b + o), .int a1]) (n := 2) (Nat.le_of_ble_eq_true rfl)
  rw [lg_entry_eq]
  generalize (lg_sl ([.ref (b + o), .int a1]) ++ List.replicate (2 - (lg_sl ([.ref (b + o), .int a1])).length) Slot.unset).toArray = ls at hl ⊢
  have hl : lv_has ls 2 [(0, .ref (b + o)), (1, .int a1)] := hl
  unfold wp_Point_setLine at hw
  refine lv_aload_n hx hb dd_Point_setLine_0 rfl (lv_at hl 0 rfl) ?_
  refine lv_iload_n hx hb dd_Point_setLine_1 rfl (lv_at hl 1 rfl) ?_
  obtain ⟨h1, hw⟩ := hw
  refine fw_puti hx hb hts in_2 F_ty_2 F_tyok_2 F_nm_2 hown hK hP hS (fw_A.in ho.1) ho (by decide) rfl 4 (by decide) (hts _ (tb_in tw_250)) rfl tk_2_4 (ty := .boolean) (by decide +kernel) (fw_bz.n h1) (fw_bz.f h1) dd_Point_setLine_2 (fun H locs hP hS => ?_)
  obtain ⟨S2, e_S2⟩ : ∃ z, z = fw_si S o 4 a1 := ⟨_, rfl⟩
  rw [← e_S2] at hP
  have hw := hw S2 e_S2
  refine lv_aload_n hx hb dd_Point_setLine_5 rfl (lv_at hl 0 rfl) ?_
  refine fw_callv (va_runV (As := []) (rest := []) ⟨hx, hb, hml, hown, hts⟩ (mt_Point_dropIfUnreachable l D cA b S2 o ho _ hw) (cwV 0 hts (fw_gV tw_561 tw_558 tw_560 ts_3 tw_7) rfl rfl rfl (by decide +kernel) ⟨Nat.le_of_ble_eq_true rfl, Nat.le_of_ble_eq_true rfl⟩) (fw_preV hP hK ho (by decide) rfl) rfl rfl hl.1 rfl (lv_room (Nat.le_of_ble_eq_true rfl)) dd_Point_setLine_6 ⟨Nat.le_of_ble_eq_true rfl, Nat.le_of_ble_eq_true rfl⟩) hS (fun S3 H locs hw hP hS => ?_)
  try dsimp only at hw
  exact W.vret hx hb hr (fun t ht hW => ⟨⟨_, rfl, hw, fw_Bof ht hP⟩, hS.F ht⟩) hS.2.2 dd_Point_setLine_9
theorem dd_Point_setPower_15 : decode bb_Point_setPower 15 = .ok (.iconst 0, 1) := by decide +kernel
theorem dd_Point_setPower_16 : decode bb_Point_setPower 16 = .ok (.istore_n 3, 1) := by decide +kernel
theorem dd_Point_setPower_17 : decode bb_Point_setPower 17 = .ok (.aload_n 0, 1) := by decide +kernel
theorem dd_Point_setPower_18 : decode bb_Point_setPower 18 = .ok (.iload_n 1, 1) := by decide +kernel
theorem dd_Point_setPower_19 : decode bb_Point_setPower 19 = .ok (.putfield 32, 3) := by decide +kernel
theorem dd_Point_setPower_22 : decode bb_Point_setPower 22 = .ok (.aload_n 0, 1) := by decide +kernel
theorem dd_Point_setPower_23 : decode bb_Point_setPower 23 = .ok (.invokevirtual 97, 3) := by decide +kernel
theorem dd_Point_setPower_26 : decode bb_Point_setPower 26 = .ok (.iload_n 3, 1) := by decide +kernel
theorem dd_Point_setPower_27 : decode bb_Point_setPower 27 = .ok (.ifCond .eq 16, 3) := by decide +kernel
theorem dd_Point_setPower_30 : decode bb_Point_setPower 30 = .ok (.aload_n 0, 1) := by decide +kernel
theorem dd_Point_setPower_31 : decode bb_Point_setPower 31 = .ok (.getfield 43, 3) := by decide +kernel
theorem dd_Point_setPower_34 : decode bb_Point_setPower 34 = .ok (.ifCond .eq 9, 3) := by decide +kernel
theorem dd_Point_setPower_37 : decode bb_Point_setPower 37 = .ok (.aload_n 0, 1) := by decide +kernel
theorem dd_Point_setPower_38 : decode bb_Point_setPower 38 = .ok (.iload_n 2, 1) := by decide +kernel
theorem dd_Point_setPower_39 : decode bb_Point_setPower 39 = .ok (.iconst 0, 1) := by decide +kernel
theorem dd_Point_setPower_40 : decode bb_Point_setPower 40 = .ok (.invokevirtual 100, 3) := by decide +kernel
theorem dd_Point_setPower_43 : decode bb_Point_setPower 43 = .ok (.return_, 1) := by decide +kernel
theorem dd_Point_setPower_0 : decode bb_Point_setPower 0 = .ok (.iload_n 1, 1) := by decide +kernel
theorem dd_Point_setPower_1 : decode bb_Point_setPower 1 = .ok (.ifCond .eq 14, 3) := by decide +kernel
theorem dd_Point_setPower_4 : decode bb_Point_setPower 4 = .ok (.aload_n 0, 1) := by decide +kernel
theorem dd_Point_setPower_5 : decode bb_Point_setPower 5 = .ok (.getfield 32, 3) := by decide +kernel
theorem dd_Point_setPower_8 : decode bb_Point_setPower 8 = .ok (.ifCond .ne 7, 3) := by decide +kernel
theorem dd_Point_setPower_11 : decode bb_Point_setPower 11 = .ok (.iconst 1, 1) := by decide +kernel
theorem dd_Point_setPower_12 : decode bb_Point_setPower 12 = .ok (.goto 4, 3) := by decide +kernel
def ww_Point_setPower : List Cond := .code yy_Point_setPower bb_Point_setPower 4 none :: TB
def rm_Point_setPower : Room := { frames := 4, cells := 0, slots := 0, locals := 98 }
def wp_Point_setPower_43 (o : Nat) (a1 : Int32) (a2 : Int32) (post : fw_S → Prop) (S : fw_S) (x3 : Int32) : Prop := post S
def wp_Point_setPower_16 (o : Nat) (a1 : Int32) (a2 : Int32) (post : fw_S → Prop) (S : fw_S) (p0 : Int32) : Prop := fw_bz a1 ∧ (∀ S2 : fw_S, S2 = fw_si S o 3 a1 → wp_Point_dropIfUnreachable S2 o (fun S3 => (((p0 = 0) → wp_Point_setPower_43 o a1 a2 post S3 p0) ∧ (¬ (p0 = 0) → ((((S3.1 o 6) = 0) → wp_Point_setPower_43 o a1 a2 post S3 p0) ∧ (¬ ((S3.1 o 6) = 0) → wp_Point_end S3 o a2 0 (fun S6 => wp_Point_setPower_43 o a1 a2 post S6 p0)))))))
def wp_Point_setPower_15 (o : Nat) (a1 : Int32) (a2 : Int32) (post : fw_S → Prop) (S : fw_S) : Prop := wp_Point_setPower_16 o a1 a2 post S 0
def wp_Point_setPower (S : fw_S) (o : Nat) (a1 : Int32) (a2 : Int32) (post : fw_S → Prop) : Prop := (((a1 = 0) → wp_Point_setPower_15 o a1 a2 post S) ∧ (¬ (a1 = 0) → ((¬ ((S.1 o 3) = 0) → wp_Point_setPower_15 o a1 a2 post S) ∧ (((S.1 o 3) = 0) → wp_Point_setPower_16 o a1 a2 post S 1))))
set_option maxHeartbeats 4000000 in
set_option maxRecDepth 100000 in
theorem mt_Point_setPower (l : Launch) (D : va_G) (cA : Nat → ClassId) (b : Nat) (S : fw_S) (o : Nat) (a1 : Int32) (a2 : Int32) (ho : o < 245 ∧ layU o = (2, 0)) (post : fw_S → Prop) (hw : wp_Point_setPower S o a1 a2 post) : Met l yy_Point_setPower ww_Point_setPower rm_Point_setPower (fw_Pc D CL cA (TYS cA) TK layU b 245 S [.ref (b + o), .int a1, .int a2]) (va_Qv post (fw_B D CL cA TK layU b 245) (fw_A b 245)) 0 0 (fw_A b 245) := by
  refine Met.ofW (cc := bb_Point_setPower) (maxL := 4) (ret := none) (by decide) rfl ?_
  intro p e s m args below meth c s₁ B hml hv
  obtain ⟨rfl, hP, hK⟩ := hv
  have hx := B.exec
  have hb := B.bytes
  have hr := B.returns
  have hts := atoms_spec (ws := ww_Point_setPower) B.pre
  have hown : s.vm.findClass "OutletOffice$Point" = some m.cls := findClass_of_methodNamed B.named
  have hlocks := B.notSynchronized
  have hS : va_S (fw_A b 245) s.heap s.heap [] := va_S.rf
  have hl := lv_entry ([.ref (b + o), .int a1, .int a2]) (n := 4) (Nat.le_of_ble_eq_true rfl)
  rw [lg_entry_eq]
  generalize (lg_sl ([.ref (b + o), .int a1, .int a2]) ++ List.replicate (4 - (lg_sl ([.ref (b + o), .int a1, .int a2])).length) Slot.unset).toArray = ls at hl ⊢
  have hl : lv_has ls 4 [(0, .ref (b + o)), (1, .int a1), (2, .int a2)] := hl
  have B43 : ∀ (S : fw_S) (x3 : Int32) (H : Heap) (locs : List Loc) (ls : Array Slot), wp_Point_setPower_43 o a1 a2 post S x3 → fw_P D CL cA layU b 245 (fw_v TK layU b S) H → va_S (fw_A b 245) s.heap H locs → lv_has ls 4 [(0, .ref (b + o)), (1, .int a1), (2, .int a2), (3, .int x3)] → W p l e (headSpec ww_Point_setPower rm_Point_setPower).room s m ([.ref (b + o), .int a1, .int a2] : List Value).toArray below meth c H locs 0 0 (MQ below (va_Qv post (fw_B D CL cA TK layU b 245) (fw_A b 245)) ([.ref (b + o), .int a1, .int a2] : List Value).toArray s 0 0 (fw_A b 245)) (F0 m 43 ls []) := by
      intro S x3 H locs ls hw hP hS hl
      unfold wp_Point_setPower_43 at hw
      exact W.vret hx hb hr (fun t ht hW => ⟨⟨_, rfl, hw, fw_Bof ht hP⟩, hS.F ht⟩) hS.2.2 dd_Point_setPower_43
  have B16 : ∀ (S : fw_S) (p0 : Int32) (H : Heap) (locs : List Loc) (ls : Array Slot), wp_Point_setPower_16 o a1 a2 post S p0 → fw_P D CL cA layU b 245 (fw_v TK layU b S) H → va_S (fw_A b 245) s.heap H locs → lv_has ls 4 [(0, .ref (b + o)), (1, .int a1), (2, .int a2)] → W p l e (headSpec ww_Point_setPower rm_Point_setPower).room s m ([.ref (b + o), .int a1, .int a2] : List Value).toArray below meth c H locs 0 0 (MQ below (va_Qv post (fw_B D CL cA TK layU b 245) (fw_A b 245)) ([.ref (b + o), .int a1, .int a2] : List Value).toArray s 0 0 (fw_A b 245)) (F0 m 16 ls [.int p0]) := by
      intro S p0 H locs ls hw hP hS hl
      unfold wp_Point_setPower_16 at hw
      refine lv_istore_n hx hb dd_Point_setPower_16 rfl hl (Nat.le_of_ble_eq_true rfl) rfl (fun ls hl => ?_)
      have hl : lv_has ls 4 [(3, .int p0), (0, .ref (b + o)), (1, .int a1), (2, .int a2)] := hl
      refine lv_aload_n hx hb dd_Point_setPower_17 rfl (lv_at hl 1 rfl) ?_
      refine lv_iload_n hx hb dd_Point_setPower_18 rfl (lv_at hl 2 rfl) ?_
      obtain ⟨h1, hw⟩ := hw
      refine fw_puti hx hb hts in_2 F_ty_2 F_tyok_2 F_nm_2 hown hK hP hS (fw_A.in ho.1) ho (by decide) rfl 3 (by decide) (hts _ (tb_in tw_249)) rfl tk_2_3 (ty := .boolean) (by decide +kernel) (fw_bz.n h1) (fw_bz.f h1) dd_Point_setPower_19 (fun H locs hP hS => ?_)
      obtain ⟨S2, e_S2⟩ : ∃ z, z = fw_si S o 3 a1 := ⟨_, rfl⟩
      rw [← e_S2] at hP
      have hw := hw S2 e_S2
      refine lv_aload_n hx hb dd_Point_setPower_22 rfl (lv_at hl 1 rfl) ?_
      refine fw_callv (va_runV (As := []) (rest := []) ⟨hx, hb, hml, hown, hts⟩ (mt_Point_dropIfUnreachable l D cA b S2 o ho _ hw) (cwV 0 hts (fw_gV tw_561 tw_558 tw_560 ts_3 tw_7) rfl rfl rfl (by decide +kernel) ⟨Nat.le_of_ble_eq_true rfl, Nat.le_of_ble_eq_true rfl⟩) (fw_preV hP hK ho (by decide) rfl) rfl rfl hl.1 rfl (lv_room (Nat.le_of_ble_eq_true rfl)) dd_Point_setPower_23 ⟨Nat.le_of_ble_eq_true rfl, Nat.le_of_ble_eq_true rfl⟩) hS (fun S3 H locs hw hP hS => ?_)
      try dsimp only at hw
      refine lv_iload_n hx hb dd_Point_setPower_26 rfl (lv_at hl 0 rfl) ?_
      refine lv_if_eq (tgt := 43) hx hb dd_Point_setPower_27 (by decide) (fun h4 => ?_) (fun h4 => ?_)
      · have hw := hw.1 h4
        exact B43 S3 p0 _ _ ls hw hP hS (lv_sub hl [1, 2, 3, 0] rfl)
      · have hw := hw.2 h4
        refine lv_aload_n hx hb dd_Point_setPower_30 rfl (lv_at hl 1 rfl) ?_
        refine fw_geti hx hb hts in_2 hown hK hP ho (by decide) rfl 6 (by decide) (hts _ (tb_in tw_255)) tk_2_6 dd_Point_setPower_31 ?_
        refine lv_if_eq (tgt := 43) hx hb dd_Point_setPower_34 (by decide) (fun h5 => ?_) (fun h5 => ?_)
        · have hw := hw.1 h5
          exact B43 S3 p0 _ _ ls hw hP hS (lv_sub hl [1, 2, 3, 0] rfl)
        · have hw := hw.2 h5
          refine lv_aload_n hx hb dd_Point_setPower_37 rfl (lv_at hl 1 rfl) ?_
          refine lv_iload_n hx hb dd_Point_setPower_38 rfl (lv_at hl 3 rfl) ?_
          refine lv_iconst (v := 0) hx hb dd_Point_setPower_39 kc_ic_0 ?_
          refine fw_callv (va_runV (As := [.int a2, .int 0]) (rest := []) ⟨hx, hb, hml, hown, hts⟩ (mt_Point_end l D cA b S3 o a2 0 ho _ hw) (cwV 2 hts (fw_gV tw_506 tw_574 tw_504 tw_505 tw_7) rfl rfl rfl (by decide +kernel) ⟨Nat.le_of_ble_eq_true rfl, Nat.le_of_ble_eq_true rfl⟩) (fw_preV hP hK ho (by decide) rfl) rfl rfl hl.1 rfl (lv_room (Nat.le_of_ble_eq_true rfl)) dd_Point_setPower_40 ⟨Nat.le_of_ble_eq_true rfl, Nat.le_of_ble_eq_true rfl⟩) hS (fun S6 H locs hw hP hS => ?_)
          try dsimp only at hw
          exact B43 S6 p0 _ _ ls hw hP hS (lv_sub hl [1, 2, 3, 0] rfl)
  have B15 : ∀ (S : fw_S) (H : Heap) (locs : List Loc) (ls : Array Slot), wp_Point_setPower_15 o a1 a2 post S → fw_P D CL cA layU b 245 (fw_v TK layU b S) H → va_S (fw_A b 245) s.heap H locs → lv_has ls 4 [(0, .ref (b + o)), (1, .int a1), (2, .int a2)] → W p l e (headSpec ww_Point_setPower rm_Point_setPower).room s m ([.ref (b + o), .int a1, .int a2] : List Value).toArray below meth c H locs 0 0 (MQ below (va_Qv post (fw_B D CL cA TK layU b 245) (fw_A b 245)) ([.ref (b + o), .int a1, .int a2] : List Value).toArray s 0 0 (fw_A b 245)) (F0 m 15 ls []) := by
      intro S H locs ls hw hP hS hl
      unfold wp_Point_setPower_15 at hw
      refine lv_iconst (v := 0) hx hb dd_Point_setPower_15 kc_ic_0 ?_
      exact B16 S 0 _ _ ls hw hP hS (lv_sub hl [0, 1, 2] rfl)
  unfold wp_Point_setPower at hw
  refine lv_iload_n hx hb dd_Point_setPower_0 rfl (lv_at hl 1 rfl) ?_
  refine lv_if_eq (tgt := 15) hx hb dd_Point_setPower_1 (by decide) (fun h1 => ?_) (fun h1 => ?_)
  · have hw := hw.1 h1
    exact B15 S _ _ ls hw hP hS (lv_sub hl [0, 1, 2] rfl)
  · have hw := hw.2 h1
    refine lv_aload_n hx hb dd_Point_setPower_4 rfl (lv_at hl 0 rfl) ?_
    refine fw_geti hx hb hts in_2 hown hK hP ho (by decide) rfl 3 (by decide) (hts _ (tb_in tw_249)) tk_2_3 dd_Point_setPower_5 ?_
    refine lv_if_ne (tgt := 15) hx hb dd_Point_setPower_8 (by decide) (fun h2 => ?_) (fun h2 => ?_)
    · have hw := hw.1 h2
      exact B15 S _ _ ls hw hP hS (lv_sub hl [0, 1, 2] rfl)
    · have hw := hw.2 h2
      refine lv_iconst (v := 1) hx hb dd_Point_setPower_11 kc_ic_1 ?_
      refine lv_goto (tgt := 16) hx hb dd_Point_setPower_12 (by decide) ?_
      exact B16 S 1 _ _ ls hw hP hS (lv_sub hl [0, 1, 2] rfl)
theorem dd_Queue_first_0 : decode bb_Queue_first 0 = .ok (.aload_n 0, 1) := by decide +kernel
theorem dd_Queue_first_1 : decode bb_Queue_first 1 = .ok (.getfield 11, 3) := by decide +kernel
theorem dd_Queue_first_4 : decode bb_Queue_first 4 = .ok (.aload_n 0, 1) := by decide +kernel
theorem dd_Queue_first_5 : decode bb_Queue_first 5 = .ok (.getfield 17, 3) := by decide +kernel
theorem dd_Queue_first_8 : decode bb_Queue_first 8 = .ok (.aaload, 1) := by decide +kernel
theorem dd_Queue_first_9 : decode bb_Queue_first 9 = .ok (.areturn, 1) := by decide +kernel
def ww_Queue_first : List Cond := .code yy_Queue_first bb_Queue_first 1 (some (.object "OutletOffice$Message")) :: TB
def rm_Queue_first : Room := { frames := 0, cells := 0, slots := 0, locals := 0 }
def wp_Queue_first (S : fw_S) (o : Nat) (post : fw_S → Nat → Prop) : Prop := vp_in (S.1 o 1) 24 ∧ (post S ((o + 1) + (1 + 1 * ((S.1 o 1 : Int32).toNatClampNeg))))
set_option maxHeartbeats 4000000 in
set_option maxRecDepth 100000 in
theorem mt_Queue_first (l : Launch) (D : va_G) (cA : Nat → ClassId) (b : Nat) (S : fw_S) (o : Nat) (ho : o < 245 ∧ layU o = (4, 0)) (post : fw_S → Nat → Prop) (hw : wp_Queue_first S o post) : Met l yy_Queue_first ww_Queue_first rm_Queue_first (fw_Pc D CL cA (TYS cA) TK layU b 245 S [.ref (b + o)]) (va_Qr (fun u => post u.1 u.2) (fw_Br D CL cA TK layU b 245 5) (fw_A b 245)) 0 0 (fw_A b 245) := by
  refine Met.ofW (cc := bb_Queue_first) (maxL := 1) (ret := (some (.object "OutletOffice$Message"))) (by decide) rfl ?_
  intro p e s m args below meth c s₁ B hml hv
  obtain ⟨rfl, hP, hK⟩ := hv
  have hx := B.exec
  have hb := B.bytes
  have hr := B.returns
  have hts := atoms_spec (ws := ww_Queue_first) B.pre
  have hown : s.vm.findClass "OutletOffice$Queue" = some m.cls := findClass_of_methodNamed B.named
  have hlocks := B.notSynchronized
  have hS : va_S (fw_A b 245) s.heap s.heap [] := va_S.rf
  have hl := lv_entry ([.ref (b + o)]) (n := 1) (Nat.le_of_ble_eq_true rfl)
  rw [lg_entry_eq]
  generalize (lg_sl ([.ref (b + o)]) ++ List.replicate (1 - (lg_sl ([.ref (b + o)])).length) Slot.unset).toArray = ls at hl ⊢
  have hl : lv_has ls 1 [(0, .ref (b + o))] := hl
  unfold wp_Queue_first at hw
  refine lv_aload_n hx hb dd_Queue_first_0 rfl (lv_at hl 0 rfl) ?_
  refine fw_getr hx hb hts in_4 hown hK hP ho (by decide) rfl 0 (by decide) (hts _ (tb_in tw_221)) tk_4_0 dd_Queue_first_1 ?_
  refine lv_aload_n hx hb dd_Queue_first_4 rfl (lv_at hl 0 rfl) ?_
  refine fw_geti hx hb hts in_4 hown hK hP ho (by decide) rfl 1 (by decide) (hts _ (tb_in tw_222)) tk_4_1 dd_Queue_first_5 ?_
  obtain ⟨h1, hw⟩ := hw
  refine fw_aald hx hb hK hP (lf_4_0 ho) (by decide) 5 rfl (tka_105 _) h1 dd_Queue_first_8 ?_
  exact W.aret (v := .ref (b + ((o + 1) + (1 + 1 * ((S.1 o 1 : Int32).toNatClampNeg))))) hx hb hr (Or.inl ⟨_, rfl⟩) (Or.inr ⟨_, rfl⟩) (fun t ht hW => ⟨⟨(S, (o + 1) + (1 + 1 * ((S.1 o 1 : Int32).toNatClampNeg))), _, rfl, hw, rfl, le_105 (lf_4_0 ho) (fw_lt h1), fw_Bof ht hP⟩, hS.F ht⟩) hS.2.2 dd_Queue_first_9
theorem dd_Queue_firstNumber_20 : decode bb_Queue_firstNumber 20 = .ok (.ireturn, 1) := by decide +kernel
theorem dd_Queue_firstNumber_0 : decode bb_Queue_firstNumber 0 = .ok (.aload_n 0, 1) := by decide +kernel
theorem dd_Queue_firstNumber_1 : decode bb_Queue_firstNumber 1 = .ok (.getfield 24, 3) := by decide +kernel
theorem dd_Queue_firstNumber_4 : decode bb_Queue_firstNumber 4 = .ok (.ifCond .ne 7, 3) := by decide +kernel
theorem dd_Queue_firstNumber_11 : decode bb_Queue_firstNumber 11 = .ok (.aload_n 0, 1) := by decide +kernel
theorem dd_Queue_firstNumber_12 : decode bb_Queue_firstNumber 12 = .ok (.getfield 21, 3) := by decide +kernel
theorem dd_Queue_firstNumber_15 : decode bb_Queue_firstNumber 15 = .ok (.aload_n 0, 1) := by decide +kernel
theorem dd_Queue_firstNumber_16 : decode bb_Queue_firstNumber 16 = .ok (.getfield 24, 3) := by decide +kernel
theorem dd_Queue_firstNumber_19 : decode bb_Queue_firstNumber 19 = .ok (.isub, 1) := by decide +kernel
theorem dd_Queue_firstNumber_7 : decode bb_Queue_firstNumber 7 = .ok (.iconst 0, 1) := by decide +kernel
theorem dd_Queue_firstNumber_8 : decode bb_Queue_firstNumber 8 = .ok (.goto 12, 3) := by decide +kernel
def ww_Queue_firstNumber : List Cond := .code yy_Queue_firstNumber bb_Queue_firstNumber 1 (some .int) :: TB
def rm_Queue_firstNumber : Room := { frames := 0, cells := 0, slots := 0, locals := 0 }
def wp_Queue_firstNumber_20 (o : Nat) (post : fw_S → Int32 → Prop) (S : fw_S) (p0 : Int32) : Prop := post S p0
def wp_Queue_firstNumber (S : fw_S) (o : Nat) (post : fw_S → Int32 → Prop) : Prop := ((¬ ((S.1 o 3) = 0) → wp_Queue_firstNumber_20 o post S ((S.1 o 2) - (S.1 o 3))) ∧ (((S.1 o 3) = 0) → wp_Queue_firstNumber_20 o post S 0))
set_option maxHeartbeats 4000000 in
set_option maxRecDepth 100000 in
theorem mt_Queue_firstNumber (l : Launch) (D : va_G) (cA : Nat → ClassId) (b : Nat) (S : fw_S) (o : Nat) (ho : o < 245 ∧ layU o = (4, 0)) (post : fw_S → Int32 → Prop) (hw : wp_Queue_firstNumber S o post) : Met l yy_Queue_firstNumber ww_Queue_firstNumber rm_Queue_firstNumber (fw_Pc D CL cA (TYS cA) TK layU b 245 S [.ref (b + o)]) (va_Qi (fun r S' => post S' r) (fw_B D CL cA TK layU b 245) (fw_A b 245)) 0 0 (fw_A b 245) := by
  refine Met.ofW (cc := bb_Queue_firstNumber) (maxL := 1) (ret := (some .int)) (by decide) rfl ?_
  intro p e s m args below meth c s₁ B hml hv
  obtain ⟨rfl, hP, hK⟩ := hv
  have hx := B.exec
  have hb := B.bytes
  have hr := B.returns
  have hts := atoms_spec (ws := ww_Queue_firstNumber) B.pre
  have hown : s.vm.findClass "OutletOffice$Queue" = some m.cls := findClass_of_methodNamed B.named
  have hlocks := B.notSynchronized
  have hS : va_S (fw_A b 245) s.heap s.heap [] := va_S.rf
  have hl := lv_entry ([.ref (b + o)]) (n := 1) (Nat.le_of_ble_eq_true rfl)
  rw [lg_entry_eq]
  generalize (lg_sl ([.ref (b + o)]) ++ List.replicate (1 - (lg_sl ([.ref (b + o)])).length) Slot.unset).toArray = ls at hl ⊢
  have hl : lv_has ls 1 [(0, .ref (b + o))] := hl
  have B20 : ∀ (S : fw_S) (p0 : Int32) (ls : Array Slot), wp_Queue_firstNumber_20 o post S p0 → fw_P D CL cA layU b 245 (fw_v TK layU b S) s.heap → va_S (fw_A b 245) s.heap s.heap [] → lv_has ls 1 [(0, .ref (b + o))] → W p l e (headSpec ww_Queue_firstNumber rm_Queue_firstNumber).room s m ([.ref (b + o)] : List Value).toArray below meth c s.heap [] 0 0 (MQ below (va_Qi (fun r S' => post S' r) (fw_B D CL cA TK layU b 245) (fw_A b 245)) ([.ref (b + o)] : List Value).toArray s 0 0 (fw_A b 245)) (F0 m 20 ls [.int p0]) := by
      intro S p0 ls hw hP hS hl
      unfold wp_Queue_firstNumber_20 at hw
      exact W.iret (v := p0) hx hb hr (fun t ht hW => ⟨⟨_, _, rfl, hw, fw_Bof ht hP⟩, hS.F ht⟩) hS.2.2 dd_Queue_firstNumber_20
  unfold wp_Queue_firstNumber at hw
  refine lv_aload_n hx hb dd_Queue_firstNumber_0 rfl (lv_at hl 0 rfl) ?_
  refine fw_geti hx hb hts in_4 hown hK hP ho (by decide) rfl 3 (by decide) (hts _ (tb_in tw_224)) tk_4_3 dd_Queue_firstNumber_1 ?_
  refine lv_if_ne (tgt := 11) hx hb dd_Queue_firstNumber_4 (by decide) (fun h1 => ?_) (fun h1 => ?_)
  · have hw := hw.1 h1
    refine lv_aload_n hx hb dd_Queue_firstNumber_11 rfl (lv_at hl 0 rfl) ?_
    refine fw_geti hx hb hts in_4 hown hK hP ho (by decide) rfl 2 (by decide) (hts _ (tb_in tw_223)) tk_4_2 dd_Queue_firstNumber_12 ?_
    refine lv_aload_n hx hb dd_Queue_firstNumber_15 rfl (lv_at hl 0 rfl) ?_
    refine fw_geti hx hb hts in_4 hown hK hP ho (by decide) rfl 3 (by decide) (hts _ (tb_in tw_224)) tk_4_3 dd_Queue_firstNumber_16 ?_
    refine lv_isub hx hb dd_Queue_firstNumber_19 ?_
    exact B20 S ((S.1 o 2) - (S.1 o 3)) ls hw hP hS (lv_sub hl [0] rfl)
  · have hw := hw.2 h1
    refine lv_iconst (v := 0) hx hb dd_Queue_firstNumber_7 kc_ic_0 ?_
    refine lv_goto (tgt := 20) hx hb dd_Queue_firstNumber_8 (by decide) ?_
    exact B20 S 0 ls hw hP hS (lv_sub hl [0] rfl)
theorem dd_Queue_removeFirst_35 : decode bb_Queue_removeFirst 35 = .ok (.return_, 1) := by decide +kernel
theorem dd_Queue_removeFirst_0 : decode bb_Queue_removeFirst 0 = .ok (.aload_n 0, 1) := by decide +kernel
theorem dd_Queue_removeFirst_1 : decode bb_Queue_removeFirst 1 = .ok (.getfield 24, 3) := by decide +kernel
theorem dd_Queue_removeFirst_4 : decode bb_Queue_removeFirst 4 = .ok (.ifCond .le 31, 3) := by decide +kernel
theorem dd_Queue_removeFirst_7 : decode bb_Queue_removeFirst 7 = .ok (.aload_n 0, 1) := by decide +kernel
theorem dd_Queue_removeFirst_8 : decode bb_Queue_removeFirst 8 = .ok (.aload_n 0, 1) := by decide +kernel
theorem dd_Queue_removeFirst_9 : decode bb_Queue_removeFirst 9 = .ok (.getfield 17, 3) := by decide +kernel
theorem dd_Queue_removeFirst_12 : decode bb_Queue_removeFirst 12 = .ok (.iconst 1, 1) := by decide +kernel
theorem dd_Queue_removeFirst_13 : decode bb_Queue_removeFirst 13 = .ok (.iadd, 1) := by decide +kernel
theorem dd_Queue_removeFirst_14 : decode bb_Queue_removeFirst 14 = .ok (.bipush 24, 2) := by decide +kernel
theorem dd_Queue_removeFirst_16 : decode bb_Queue_removeFirst 16 = .ok (.irem, 1) := by decide +kernel
theorem dd_Queue_removeFirst_17 : decode bb_Queue_removeFirst 17 = .ok (.putfield 17, 3) := by decide +kernel
theorem dd_Queue_removeFirst_20 : decode bb_Queue_removeFirst 20 = .ok (.aload_n 0, 1) := by decide +kernel
theorem dd_Queue_removeFirst_21 : decode bb_Queue_removeFirst 21 = .ok (.dup, 1) := by decide +kernel
theorem dd_Queue_removeFirst_22 : decode bb_Queue_removeFirst 22 = .ok (.getfield 24, 3) := by decide +kernel
theorem dd_Queue_removeFirst_25 : decode bb_Queue_removeFirst 25 = .ok (.iconst 1, 1) := by decide +kernel
theorem dd_Queue_removeFirst_26 : decode bb_Queue_removeFirst 26 = .ok (.isub, 1) := by decide +kernel
theorem dd_Queue_removeFirst_27 : decode bb_Queue_removeFirst 27 = .ok (.putfield 24, 3) := by decide +kernel
theorem dd_Queue_removeFirst_30 : decode bb_Queue_removeFirst 30 = .ok (.aload_n 0, 1) := by decide +kernel
theorem dd_Queue_removeFirst_31 : decode bb_Queue_removeFirst 31 = .ok (.iconst (-1), 1) := by decide +kernel
theorem dd_Queue_removeFirst_32 : decode bb_Queue_removeFirst 32 = .ok (.putfield 27, 3) := by decide +kernel
def ww_Queue_removeFirst : List Cond := .code yy_Queue_removeFirst bb_Queue_removeFirst 1 none :: TB
def rm_Queue_removeFirst : Room := { frames := 0, cells := 0, slots := 0, locals := 0 }
def wp_Queue_removeFirst_35 (o : Nat) (post : fw_S → Prop) (S : fw_S) : Prop := post S
def wp_Queue_removeFirst (S : fw_S) (o : Nat) (post : fw_S → Prop) : Prop := ((((S.1 o 3) ≤ 0) → wp_Queue_removeFirst_35 o post S) ∧ (¬ ((S.1 o 3) ≤ 0) → ∀ S2 : fw_S, S2 = fw_si S o 1 (((S.1 o 1) + 1) - ((S.1 o 1) + 1) / 24 * 24) → ∀ S3 : fw_S, S3 = fw_si S2 o 3 ((S2.1 o 3) - 1) → ∀ S4 : fw_S, S4 = fw_si S3 o 4 (-1) → wp_Queue_removeFirst_35 o post S4))
set_option maxHeartbeats 4000000 in
set_option maxRecDepth 100000 in
theorem mt_Queue_removeFirst (l : Launch) (D : va_G) (cA : Nat → ClassId) (b : Nat) (S : fw_S) (o : Nat) (ho : o < 245 ∧ layU o = (4, 0)) (post : fw_S → Prop) (hw : wp_Queue_removeFirst S o post) : Met l yy_Queue_removeFirst ww_Queue_removeFirst rm_Queue_removeFirst (fw_Pc D CL cA (TYS cA) TK layU b 245 S [.ref (b + o)]) (va_Qv post (fw_B D CL cA TK layU b 245) (fw_A b 245)) 0 0 (fw_A b 245) := by
  refine Met.ofW (cc := bb_Queue_removeFirst) (maxL := 1) (ret := none) (by decide) rfl ?_
  intro p e s m args below meth c s₁ B hml hv
  obtain ⟨rfl, hP, hK⟩ := hv
  have hx := B.exec
  have hb := B.bytes
  have hr := B.returns
  have hts := atoms_spec (ws := ww_Queue_removeFirst) B.pre
  have hown : s.vm.findClass "OutletOffice$Queue" = some m.cls := findClass_of_methodNamed B.named
  have hlocks := B.notSynchronized
  have hS : va_S (fw_A b 245) s.heap s.heap [] := va_S.rf
  have hl := lv_entry ([.ref (b + o)]) (n := 1) (Nat.le_of_ble_eq_true rfl)
  rw [lg_entry_eq]
  generalize (lg_sl ([.ref (b + o)]) ++ List.replicate (1 - (lg_sl ([.ref (b + o)])).length) Slot.unset).toArray = ls at hl ⊢
  have hl : lv_has ls 1 [(0, .ref (b + o))] := hl
  have B35 : ∀ (S : fw_S) (H : Heap) (locs : List Loc) (ls : Array Slot), wp_Queue_removeFirst_35 o post S → fw_P D CL cA layU b 245 (fw_v TK layU b S) H → va_S (fw_A b 245) s.heap H locs → lv_has ls 1 [(0, .ref (b + o))] → W p l e (headSpec ww_Queue_removeFirst rm_Queue_removeFirst).room s m ([.ref (b + o)] : List Value).toArray below meth c H locs 0 0 (MQ below (va_Qv post (fw_B D CL cA TK layU b 245) (fw_A b 245)) ([.ref (b + o)] : List Value).toArray s 0 0 (fw_A b 245)) (F0 m 35 ls []) := by
      intro S H locs ls hw hP hS hl
      unfold wp_Queue_removeFirst_35 at hw
      exact W.vret hx hb hr (fun t ht hW => ⟨⟨_, rfl, hw, fw_Bof ht hP⟩, hS.F ht⟩) hS.2.2 dd_Queue_removeFirst_35
  unfold wp_Queue_removeFirst at hw
  refine lv_aload_n hx hb dd_Queue_removeFirst_0 rfl (lv_at hl 0 rfl) ?_
  refine fw_geti hx hb hts in_4 hown hK hP ho (by decide) rfl 3 (by decide) (hts _ (tb_in tw_224)) tk_4_3 dd_Queue_removeFirst_1 ?_
  refine lv_if_le (tgt := 35) hx hb dd_Queue_removeFirst_4 (by decide) (fun h1 => ?_) (fun h1 => ?_)
  · have hw := hw.1 h1
    exact B35 S _ _ ls hw hP hS (lv_sub hl [0] rfl)
  · have hw := hw.2 h1
    refine lv_aload_n hx hb dd_Queue_removeFirst_7 rfl (lv_at hl 0 rfl) ?_
    refine lv_aload_n hx hb dd_Queue_removeFirst_8 rfl (lv_at hl 0 rfl) ?_
    refine fw_geti hx hb hts in_4 hown hK hP ho (by decide) rfl 1 (by decide) (hts _ (tb_in tw_222)) tk_4_1 dd_Queue_removeFirst_9 ?_
    refine lv_iconst (v := 1) hx hb dd_Queue_removeFirst_12 kc_ic_1 ?_
    refine lv_iadd hx hb dd_Queue_removeFirst_13 ?_
    refine lv_bipush (v := 24) hx hb dd_Queue_removeFirst_14 kc_bp_24 ?_
    refine lv_irem hx hb dd_Queue_removeFirst_16 (by decide) ?_
    refine fw_puti hx hb hts in_4 F_ty_4 F_tyok_4 F_nm_4 hown hK hP hS (fw_A.in ho.1) ho (by decide) rfl 1 (by decide) (hts _ (tb_in tw_222)) rfl tk_4_1 (ty := .int) (by decide +kernel) rfl rfl dd_Queue_removeFirst_17 (fun H locs hP hS => ?_)
    obtain ⟨S2, e_S2⟩ : ∃ z, z = fw_si S o 1 (((S.1 o 1) + 1) - ((S.1 o 1) + 1) / 24 * 24) := ⟨_, rfl⟩
    rw [← e_S2] at hP
    have hw := hw S2 e_S2
    refine lv_aload_n hx hb dd_Queue_removeFirst_20 rfl (lv_at hl 0 rfl) ?_
    refine lv_dup hx hb dd_Queue_removeFirst_21 rfl ?_
    refine fw_geti hx hb hts in_4 hown hK hP ho (by decide) rfl 3 (by decide) (hts _ (tb_in tw_224)) tk_4_3 dd_Queue_removeFirst_22 ?_
    refine lv_iconst (v := 1) hx hb dd_Queue_removeFirst_25 kc_ic_1 ?_
    refine lv_isub hx hb dd_Queue_removeFirst_26 ?_
    refine fw_puti hx hb hts in_4 F_ty_4 F_tyok_4 F_nm_4 hown hK hP hS (fw_A.in ho.1) ho (by decide) rfl 3 (by decide) (hts _ (tb_in tw_224)) rfl tk_4_3 (ty := .int) (by decide +kernel) rfl rfl dd_Queue_removeFirst_27 (fun H locs hP hS => ?_)
    obtain ⟨S3, e_S3⟩ : ∃ z, z = fw_si S2 o 3 ((S2.1 o 3) - 1) := ⟨_, rfl⟩
    rw [← e_S3] at hP
    have hw := hw S3 e_S3
    refine lv_aload_n hx hb dd_Queue_removeFirst_30 rfl (lv_at hl 0 rfl) ?_
    refine lv_iconst (v := (-1)) hx hb dd_Queue_removeFirst_31 kc_ic_m1 ?_
    refine fw_puti hx hb hts in_4 F_ty_4 F_tyok_4 F_nm_4 hown hK hP hS (fw_A.in ho.1) ho (by decide) rfl 4 (by decide) (hts _ (tb_in tw_227)) rfl tk_4_4 (ty := .int) (by decide +kernel) rfl rfl dd_Queue_removeFirst_32 (fun H locs hP hS => ?_)
    obtain ⟨S4, e_S4⟩ : ∃ z, z = fw_si S3 o 4 (-1) := ⟨_, rfl⟩
    rw [← e_S4] at hP
    have hw := hw S4 e_S4
    exact B35 S4 _ _ ls hw hP hS (lv_sub hl [0] rfl)
