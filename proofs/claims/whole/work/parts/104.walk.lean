theorem dd_M_put_0 : decode bb_M_put 0 = .ok (.iload_n 1, 1) := by decide +kernel
theorem dd_M_put_1 : decode bb_M_put 1 = .ok (.aload_n 0, 1) := by decide +kernel
theorem dd_M_put_2 : decode bb_M_put 2 = .ok (.getfield 45, 3) := by decide +kernel
theorem dd_M_put_5 : decode bb_M_put 5 = .ok (.iload_n 1, 1) := by decide +kernel
theorem dd_M_put_6 : decode bb_M_put 6 = .ok (.iaload, 1) := by decide +kernel
theorem dd_M_put_7 : decode bb_M_put 7 = .ok (.invokestatic 140, 3) := by decide +kernel
theorem dd_M_put_10 : decode bb_M_put 10 = .ok (.istore 4, 2) := by decide +kernel
theorem dd_M_put_12 : decode bb_M_put 12 = .ok (.aload_n 0, 1) := by decide +kernel
theorem dd_M_put_13 : decode bb_M_put 13 = .ok (.getfield 57, 3) := by decide +kernel
theorem dd_M_put_16 : decode bb_M_put 16 = .ok (.iload 4, 2) := by decide +kernel
theorem dd_M_put_18 : decode bb_M_put 18 = .ok (.aload_n 0, 1) := by decide +kernel
theorem dd_M_put_19 : decode bb_M_put 19 = .ok (.getfield 48, 3) := by decide +kernel
theorem dd_M_put_22 : decode bb_M_put 22 = .ok (.iload_n 1, 1) := by decide +kernel
theorem dd_M_put_23 : decode bb_M_put 23 = .ok (.iaload, 1) := by decide +kernel
theorem dd_M_put_24 : decode bb_M_put 24 = .ok (.iastore, 1) := by decide +kernel
theorem dd_M_put_25 : decode bb_M_put 25 = .ok (.aload_n 0, 1) := by decide +kernel
theorem dd_M_put_26 : decode bb_M_put 26 = .ok (.getfield 57, 3) := by decide +kernel
theorem dd_M_put_29 : decode bb_M_put 29 = .ok (.iload 4, 2) := by decide +kernel
theorem dd_M_put_31 : decode bb_M_put 31 = .ok (.iconst 1, 1) := by decide +kernel
theorem dd_M_put_32 : decode bb_M_put 32 = .ok (.iadd, 1) := by decide +kernel
theorem dd_M_put_33 : decode bb_M_put 33 = .ok (.iload_n 2, 1) := by decide +kernel
theorem dd_M_put_34 : decode bb_M_put 34 = .ok (.iastore, 1) := by decide +kernel
theorem dd_M_put_35 : decode bb_M_put 35 = .ok (.aload_n 0, 1) := by decide +kernel
theorem dd_M_put_36 : decode bb_M_put 36 = .ok (.getfield 57, 3) := by decide +kernel
theorem dd_M_put_39 : decode bb_M_put 39 = .ok (.iload 4, 2) := by decide +kernel
theorem dd_M_put_41 : decode bb_M_put 41 = .ok (.iconst 2, 1) := by decide +kernel
theorem dd_M_put_42 : decode bb_M_put 42 = .ok (.iadd, 1) := by decide +kernel
theorem dd_M_put_43 : decode bb_M_put 43 = .ok (.aload_n 0, 1) := by decide +kernel
theorem dd_M_put_44 : decode bb_M_put 44 = .ok (.getfield 36, 3) := by decide +kernel
theorem dd_M_put_47 : decode bb_M_put 47 = .ok (.iload_n 1, 1) := by decide +kernel
theorem dd_M_put_48 : decode bb_M_put 48 = .ok (.iaload, 1) := by decide +kernel
theorem dd_M_put_49 : decode bb_M_put 49 = .ok (.iastore, 1) := by decide +kernel
theorem dd_M_put_50 : decode bb_M_put 50 = .ok (.aload_n 0, 1) := by decide +kernel
theorem dd_M_put_51 : decode bb_M_put 51 = .ok (.getfield 57, 3) := by decide +kernel
theorem dd_M_put_54 : decode bb_M_put 54 = .ok (.iload 4, 2) := by decide +kernel
theorem dd_M_put_56 : decode bb_M_put 56 = .ok (.iconst 3, 1) := by decide +kernel
theorem dd_M_put_57 : decode bb_M_put 57 = .ok (.iadd, 1) := by decide +kernel
theorem dd_M_put_58 : decode bb_M_put 58 = .ok (.aload_n 0, 1) := by decide +kernel
theorem dd_M_put_59 : decode bb_M_put 59 = .ok (.getfield 42, 3) := by decide +kernel
theorem dd_M_put_62 : decode bb_M_put 62 = .ok (.iload_n 1, 1) := by decide +kernel
theorem dd_M_put_63 : decode bb_M_put 63 = .ok (.iaload, 1) := by decide +kernel
theorem dd_M_put_64 : decode bb_M_put 64 = .ok (.iastore, 1) := by decide +kernel
theorem dd_M_put_65 : decode bb_M_put 65 = .ok (.aload_n 0, 1) := by decide +kernel
theorem dd_M_put_66 : decode bb_M_put 66 = .ok (.getfield 57, 3) := by decide +kernel
theorem dd_M_put_69 : decode bb_M_put 69 = .ok (.iload 4, 2) := by decide +kernel
theorem dd_M_put_71 : decode bb_M_put 71 = .ok (.iconst 4, 1) := by decide +kernel
theorem dd_M_put_72 : decode bb_M_put 72 = .ok (.iadd, 1) := by decide +kernel
theorem dd_M_put_73 : decode bb_M_put 73 = .ok (.aload_n 0, 1) := by decide +kernel
theorem dd_M_put_74 : decode bb_M_put 74 = .ok (.getfield 144, 3) := by decide +kernel
theorem dd_M_put_77 : decode bb_M_put 77 = .ok (.iastore, 1) := by decide +kernel
theorem dd_M_put_78 : decode bb_M_put 78 = .ok (.aload_n 0, 1) := by decide +kernel
theorem dd_M_put_79 : decode bb_M_put 79 = .ok (.getfield 57, 3) := by decide +kernel
theorem dd_M_put_82 : decode bb_M_put 82 = .ok (.iload 4, 2) := by decide +kernel
theorem dd_M_put_84 : decode bb_M_put 84 = .ok (.iconst 5, 1) := by decide +kernel
theorem dd_M_put_85 : decode bb_M_put 85 = .ok (.iadd, 1) := by decide +kernel
theorem dd_M_put_86 : decode bb_M_put 86 = .ok (.iload_n 3, 1) := by decide +kernel
theorem dd_M_put_87 : decode bb_M_put 87 = .ok (.iastore, 1) := by decide +kernel
theorem dd_M_put_88 : decode bb_M_put 88 = .ok (.aload_n 0, 1) := by decide +kernel
theorem dd_M_put_89 : decode bb_M_put 89 = .ok (.getfield 60, 3) := by decide +kernel
theorem dd_M_put_92 : decode bb_M_put 92 = .ok (.bipush 24, 2) := by decide +kernel
theorem dd_M_put_94 : decode bb_M_put 94 = .ok (.iload_n 1, 1) := by decide +kernel
theorem dd_M_put_95 : decode bb_M_put 95 = .ok (.imul, 1) := by decide +kernel
theorem dd_M_put_96 : decode bb_M_put 96 = .ok (.aload_n 0, 1) := by decide +kernel
theorem dd_M_put_97 : decode bb_M_put 97 = .ok (.getfield 45, 3) := by decide +kernel
theorem dd_M_put_100 : decode bb_M_put 100 = .ok (.iload_n 1, 1) := by decide +kernel
theorem dd_M_put_101 : decode bb_M_put 101 = .ok (.iaload, 1) := by decide +kernel
theorem dd_M_put_102 : decode bb_M_put 102 = .ok (.iadd, 1) := by decide +kernel
theorem dd_M_put_103 : decode bb_M_put 103 = .ok (.aload_n 0, 1) := by decide +kernel
theorem dd_M_put_104 : decode bb_M_put 104 = .ok (.getfield 32, 3) := by decide +kernel
theorem dd_M_put_107 : decode bb_M_put 107 = .ok (.iload_n 1, 1) := by decide +kernel
theorem dd_M_put_108 : decode bb_M_put 108 = .ok (.laload, 1) := by decide +kernel
theorem dd_M_put_109 : decode bb_M_put 109 = .ok (.ldc2_w 138, 3) := by decide +kernel
theorem dd_M_put_112 : decode bb_M_put 112 = .ok (.ldiv, 1) := by decide +kernel
theorem dd_M_put_113 : decode bb_M_put 113 = .ok (.lastore, 1) := by decide +kernel
theorem dd_M_put_114 : decode bb_M_put 114 = .ok (.aload_n 0, 1) := by decide +kernel
theorem dd_M_put_115 : decode bb_M_put 115 = .ok (.getfield 45, 3) := by decide +kernel
theorem dd_M_put_118 : decode bb_M_put 118 = .ok (.iload_n 1, 1) := by decide +kernel
theorem dd_M_put_119 : decode bb_M_put 119 = .ok (.dup2, 1) := by decide +kernel
theorem dd_M_put_120 : decode bb_M_put 120 = .ok (.iaload, 1) := by decide +kernel
theorem dd_M_put_121 : decode bb_M_put 121 = .ok (.iconst 1, 1) := by decide +kernel
theorem dd_M_put_122 : decode bb_M_put 122 = .ok (.iadd, 1) := by decide +kernel
theorem dd_M_put_123 : decode bb_M_put 123 = .ok (.iastore, 1) := by decide +kernel
theorem dd_M_put_124 : decode bb_M_put 124 = .ok (.aload_n 0, 1) := by decide +kernel
theorem dd_M_put_125 : decode bb_M_put 125 = .ok (.getfield 48, 3) := by decide +kernel
theorem dd_M_put_128 : decode bb_M_put 128 = .ok (.iload_n 1, 1) := by decide +kernel
theorem dd_M_put_129 : decode bb_M_put 129 = .ok (.dup2, 1) := by decide +kernel
theorem dd_M_put_130 : decode bb_M_put 130 = .ok (.iaload, 1) := by decide +kernel
theorem dd_M_put_131 : decode bb_M_put 131 = .ok (.iconst 1, 1) := by decide +kernel
theorem dd_M_put_132 : decode bb_M_put 132 = .ok (.iadd, 1) := by decide +kernel
theorem dd_M_put_133 : decode bb_M_put 133 = .ok (.iastore, 1) := by decide +kernel
theorem dd_M_put_134 : decode bb_M_put 134 = .ok (.return_, 1) := by decide +kernel
def ww_M_put : List Cond := .code yy_M_put bb_M_put 5 none :: TB
def rm_M_put : Room := { frames := 1, cells := 0, slots := 0, locals := 21 }
def wp_M_put (S : fw_S) (o : Nat) (a1 : Int32) (a2 : Int32) (a3 : Int32) (post : fw_S → Prop) : Prop := vp_in a1 6 ∧ (wp_M_cell S a1 (S.1 (o + 12) a1.toNatClampNeg) (fun S2 r3 => vp_in a1 6 ∧ (vp_in r3 864 ∧ (∀ S6 : fw_S, S6 = fw_si S2 (o + 16) r3.toNatClampNeg (S2.1 (o + 13) a1.toNatClampNeg) → vp_in (r3 + 1) 864 ∧ (∀ S8 : fw_S, S8 = fw_si S6 (o + 16) ((r3 + 1 : Int32).toNatClampNeg) a2 → vp_in a1 6 ∧ (vp_in (r3 + 2) 864 ∧ (∀ S11 : fw_S, S11 = fw_si S8 (o + 16) ((r3 + 2 : Int32).toNatClampNeg) (S8.1 (o + 9) a1.toNatClampNeg) → vp_in a1 6 ∧ (vp_in (r3 + 3) 864 ∧ (∀ S14 : fw_S, S14 = fw_si S11 (o + 16) ((r3 + 3 : Int32).toNatClampNeg) (S11.1 (o + 11) a1.toNatClampNeg) → vp_in (r3 + 4) 864 ∧ (∀ S16 : fw_S, S16 = fw_si S14 (o + 16) ((r3 + 4 : Int32).toNatClampNeg) (S14.1 o 1) → vp_in (r3 + 5) 864 ∧ (∀ S18 : fw_S, S18 = fw_si S16 (o + 16) ((r3 + 5 : Int32).toNatClampNeg) a3 → vp_in a1 6 ∧ (vp_in a1 6 ∧ (vp_in ((24 * a1) + (S18.1 (o + 12) a1.toNatClampNeg)) 144 ∧ (∀ S22 : fw_S, S22 = fw_sl S18 (o + 17) (((24 * a1) + (S18.1 (o + 12) a1.toNatClampNeg) : Int32).toNatClampNeg) ((S18.2 (o + 8) a1.toNatClampNeg) / 3600) → vp_in a1 6 ∧ (vp_in a1 6 ∧ (∀ S25 : fw_S, S25 = fw_si S22 (o + 12) a1.toNatClampNeg ((S22.1 (o + 12) a1.toNatClampNeg) + 1) → vp_in a1 6 ∧ (vp_in a1 6 ∧ (∀ S28 : fw_S, S28 = fw_si S25 (o + 13) a1.toNatClampNeg ((S25.1 (o + 13) a1.toNatClampNeg) + 1) → post S28))))))))))))))))))
set_option maxHeartbeats 4000000 in
set_option maxRecDepth 100000 in
theorem mt_M_put (l : Launch) (D : va_G) (cA : Nat → ClassId) (b : Nat) (S : fw_S) (o : Nat) (a1 : Int32) (a2 : Int32) (a3 : Int32) (ho : o < 245 ∧ layU o = (10, 0)) (post : fw_S → Prop) (hw : wp_M_put S o a1 a2 a3 post) : Met l yy_M_put ww_M_put rm_M_put (fw_Pc D CL cA (TYS cA) TK layU b 245 S [.ref (b + o), .int a1, .int a2, .int a3]) (va_Qv post (fw_B D CL cA TK layU b 245) (fw_A b 245)) 0 0 (fw_A b 245) := by
  refine Met.ofW (cc := bb_M_put) (maxL := 5) (ret := none) (by decide) rfl ?_
  intro p e s m args below meth c s₁ B hml hv
  obtain ⟨rfl, hP, hK⟩ := hv
  have hx := B.exec
  have hb := B.bytes
  have hr := B.returns
  have hts := atoms_spec (ws := ww_M_put) B.pre
  have hown : s.vm.findClass "OutletOfficeModel" = some m.cls := findClass_of_methodNamed B.named
  have hlocks := B.notSynchronized
  have hS : va_S (fw_A b 245) s.heap s.heap [] := va_S.rf
  have hl := lv_entry ([.ref (b + o), .int a1, .int a2, .int a3]) (n := 5) (Nat.le_of_ble_eq_true rfl)
  rw [lg_entry_eq]
  generalize (lg_sl ([.ref (b + o), .int a1, .int a2, .int a3]) ++ List.replicate (5 - (lg_sl ([.ref (b + o), .int a1, .int a2, .int a3])).length) Slot.unset).toArray = ls at hl ⊢
  have hl : lv_has ls 5 [(0, .ref (b + o)), (1, .int a1), (2, .int a2), (3, .int a3)] := hl
  unfold wp_M_put at hw
  refine lv_iload_n hx hb dd_M_put_0 rfl (lv_at hl 1 rfl) ?_
  refine lv_aload_n hx hb dd_M_put_1 rfl (lv_at hl 0 rfl) ?_
  refine fw_getr hx hb hts in_10 hown hK hP ho (by decide) rfl 15 (by decide) (hts _ (tb_in tw_796)) tk_10_15 dd_M_put_2 ?_
  refine lv_iload_n hx hb dd_M_put_5 rfl (lv_at hl 1 rfl) ?_
  obtain ⟨h1, hw⟩ := hw
  refine fw_iald hx hb hK hP (lf_10_15 ho) (by decide) 0 rfl tka_100 h1 dd_M_put_6 ?_
  refine fw_calli (va_runS (As := [.int a1, .int (S.1 (o + 12) a1.toNatClampNeg)]) (rest := []) ⟨hx, hb, hml, hown, hts⟩ (mt_M_cell l D cA b S a1 (S.1 (o + 12) a1.toNatClampNeg) _ hw) (cwS 2 hts (fw_gS tw_967 tw_965 tw_966 tw_11) rfl rfl rfl (by decide +kernel) ⟨Nat.le_of_ble_eq_true rfl, Nat.le_of_ble_eq_true rfl⟩) (fw_preS hP hK) rfl rfl hl.1 rfl (lv_room (Nat.le_of_ble_eq_true rfl)) dd_M_put_7 ⟨Nat.le_of_ble_eq_true rfl, Nat.le_of_ble_eq_true rfl⟩) hS (fun S2 r3 H locs hw hP hS => ?_)
  try dsimp only at hw
  refine lv_istore hx hb dd_M_put_10 hl (Nat.le_of_ble_eq_true rfl) rfl (fun ls hl => ?_)
  have hl : lv_has ls 5 [(4, .int r3), (0, .ref (b + o)), (1, .int a1), (2, .int a2), (3, .int a3)] := hl
  refine lv_aload_n hx hb dd_M_put_12 rfl (lv_at hl 1 rfl) ?_
  refine fw_getr hx hb hts in_10 hown hK hP ho (by decide) rfl 19 (by decide) (hts _ (tb_in tw_800)) tk_10_19 dd_M_put_13 ?_
  refine lv_iload hx hb dd_M_put_16 (lv_at hl 0 rfl) ?_
  refine lv_aload_n hx hb dd_M_put_18 rfl (lv_at hl 1 rfl) ?_
  refine fw_getr hx hb hts in_10 hown hK hP ho (by decide) rfl 16 (by decide) (hts _ (tb_in tw_797)) tk_10_16 dd_M_put_19 ?_
  refine lv_iload_n hx hb dd_M_put_22 rfl (lv_at hl 2 rfl) ?_
  obtain ⟨h4, hw⟩ := hw
  refine fw_iald hx hb hK hP (lf_10_16 ho) (by decide) 0 rfl tka_100 h4 dd_M_put_23 ?_
  obtain ⟨h5, hw⟩ := hw
  refine fw_iast hx hb hK hP hS (fw_A.in (lf_10_19 ho).1) (lf_10_19 ho) (by decide) 0 rfl tka_100 h5 dd_M_put_24 (fun H locs hP hS => ?_)
  obtain ⟨S6, e_S6⟩ : ∃ z, z = fw_si S2 (o + 16) r3.toNatClampNeg (S2.1 (o + 13) a1.toNatClampNeg) := ⟨_, rfl⟩
  rw [← e_S6] at hP
  have hw := hw S6 e_S6
  refine lv_aload_n hx hb dd_M_put_25 rfl (lv_at hl 1 rfl) ?_
  refine fw_getr hx hb hts in_10 hown hK hP ho (by decide) rfl 19 (by decide) (hts _ (tb_in tw_800)) tk_10_19 dd_M_put_26 ?_
  refine lv_iload hx hb dd_M_put_29 (lv_at hl 0 rfl) ?_
  refine lv_iconst (v := 1) hx hb dd_M_put_31 kc_ic_1 ?_
  refine lv_iadd hx hb dd_M_put_32 ?_
  refine lv_iload_n hx hb dd_M_put_33 rfl (lv_at hl 3 rfl) ?_
  obtain ⟨h7, hw⟩ := hw
  refine fw_iast hx hb hK hP hS (fw_A.in (lf_10_19 ho).1) (lf_10_19 ho) (by decide) 0 rfl tka_100 h7 dd_M_put_34 (fun H locs hP hS => ?_)
  obtain ⟨S8, e_S8⟩ : ∃ z, z = fw_si S6 (o + 16) ((r3 + 1 : Int32).toNatClampNeg) a2 := ⟨_, rfl⟩
  rw [← e_S8] at hP
  have hw := hw S8 e_S8
  refine lv_aload_n hx hb dd_M_put_35 rfl (lv_at hl 1 rfl) ?_
  refine fw_getr hx hb hts in_10 hown hK hP ho (by decide) rfl 19 (by decide) (hts _ (tb_in tw_800)) tk_10_19 dd_M_put_36 ?_
  refine lv_iload hx hb dd_M_put_39 (lv_at hl 0 rfl) ?_
  refine lv_iconst (v := 2) hx hb dd_M_put_41 kc_ic_2 ?_
  refine lv_iadd hx hb dd_M_put_42 ?_
  refine lv_aload_n hx hb dd_M_put_43 rfl (lv_at hl 1 rfl) ?_
  refine fw_getr hx hb hts in_10 hown hK hP ho (by decide) rfl 12 (by decide) (hts _ (tb_in tw_793)) tk_10_12 dd_M_put_44 ?_
  refine lv_iload_n hx hb dd_M_put_47 rfl (lv_at hl 2 rfl) ?_
  obtain ⟨h9, hw⟩ := hw
  refine fw_iald hx hb hK hP (lf_10_12 ho) (by decide) 0 rfl tka_100 h9 dd_M_put_48 ?_
  obtain ⟨h10, hw⟩ := hw
  refine fw_iast hx hb hK hP hS (fw_A.in (lf_10_19 ho).1) (lf_10_19 ho) (by decide) 0 rfl tka_100 h10 dd_M_put_49 (fun H locs hP hS => ?_)
  obtain ⟨S11, e_S11⟩ : ∃ z, z = fw_si S8 (o + 16) ((r3 + 2 : Int32).toNatClampNeg) (S8.1 (o + 9) a1.toNatClampNeg) := ⟨_, rfl⟩
  rw [← e_S11] at hP
  have hw := hw S11 e_S11
  refine lv_aload_n hx hb dd_M_put_50 rfl (lv_at hl 1 rfl) ?_
  refine fw_getr hx hb hts in_10 hown hK hP ho (by decide) rfl 19 (by decide) (hts _ (tb_in tw_800)) tk_10_19 dd_M_put_51 ?_
  refine lv_iload hx hb dd_M_put_54 (lv_at hl 0 rfl) ?_
  refine lv_iconst (v := 3) hx hb dd_M_put_56 kc_ic_3 ?_
  refine lv_iadd hx hb dd_M_put_57 ?_
  refine lv_aload_n hx hb dd_M_put_58 rfl (lv_at hl 1 rfl) ?_
  refine fw_getr hx hb hts in_10 hown hK hP ho (by decide) rfl 14 (by decide) (hts _ (tb_in tw_795)) tk_10_14 dd_M_put_59 ?_
  refine lv_iload_n hx hb dd_M_put_62 rfl (lv_at hl 2 rfl) ?_
  obtain ⟨h12, hw⟩ := hw
  refine fw_iald hx hb hK hP (lf_10_14 ho) (by decide) 0 rfl tka_100 h12 dd_M_put_63 ?_
  obtain ⟨h13, hw⟩ := hw
  refine fw_iast hx hb hK hP hS (fw_A.in (lf_10_19 ho).1) (lf_10_19 ho) (by decide) 0 rfl tka_100 h13 dd_M_put_64 (fun H locs hP hS => ?_)
  obtain ⟨S14, e_S14⟩ : ∃ z, z = fw_si S11 (o + 16) ((r3 + 3 : Int32).toNatClampNeg) (S11.1 (o + 11) a1.toNatClampNeg) := ⟨_, rfl⟩
  rw [← e_S14] at hP
  have hw := hw S14 e_S14
  refine lv_aload_n hx hb dd_M_put_65 rfl (lv_at hl 1 rfl) ?_
  refine fw_getr hx hb hts in_10 hown hK hP ho (by decide) rfl 19 (by decide) (hts _ (tb_in tw_800)) tk_10_19 dd_M_put_66 ?_
  refine lv_iload hx hb dd_M_put_69 (lv_at hl 0 rfl) ?_
  refine lv_iconst (v := 4) hx hb dd_M_put_71 kc_ic_4 ?_
  refine lv_iadd hx hb dd_M_put_72 ?_
  refine lv_aload_n hx hb dd_M_put_73 rfl (lv_at hl 1 rfl) ?_
  refine fw_geti hx hb hts in_10 hown hK hP ho (by decide) rfl 1 (by decide) (hts _ (tb_in tw_782)) tk_10_1 dd_M_put_74 ?_
  obtain ⟨h15, hw⟩ := hw
  refine fw_iast hx hb hK hP hS (fw_A.in (lf_10_19 ho).1) (lf_10_19 ho) (by decide) 0 rfl tka_100 h15 dd_M_put_77 (fun H locs hP hS => ?_)
  obtain ⟨S16, e_S16⟩ : ∃ z, z = fw_si S14 (o + 16) ((r3 + 4 : Int32).toNatClampNeg) (S14.1 o 1) := ⟨_, rfl⟩
  rw [← e_S16] at hP
  have hw := hw S16 e_S16
  refine lv_aload_n hx hb dd_M_put_78 rfl (lv_at hl 1 rfl) ?_
  refine fw_getr hx hb hts in_10 hown hK hP ho (by decide) rfl 19 (by decide) (hts _ (tb_in tw_800)) tk_10_19 dd_M_put_79 ?_
  refine lv_iload hx hb dd_M_put_82 (lv_at hl 0 rfl) ?_
  refine lv_iconst (v := 5) hx hb dd_M_put_84 kc_ic_5 ?_
  refine lv_iadd hx hb dd_M_put_85 ?_
  refine lv_iload_n hx hb dd_M_put_86 rfl (lv_at hl 4 rfl) ?_
  obtain ⟨h17, hw⟩ := hw
  refine fw_iast hx hb hK hP hS (fw_A.in (lf_10_19 ho).1) (lf_10_19 ho) (by decide) 0 rfl tka_100 h17 dd_M_put_87 (fun H locs hP hS => ?_)
  obtain ⟨S18, e_S18⟩ : ∃ z, z = fw_si S16 (o + 16) ((r3 + 5 : Int32).toNatClampNeg) a3 := ⟨_, rfl⟩
  rw [← e_S18] at hP
  have hw := hw S18 e_S18
  refine lv_aload_n hx hb dd_M_put_88 rfl (lv_at hl 1 rfl) ?_
  refine fw_getr hx hb hts in_10 hown hK hP ho (by decide) rfl 20 (by decide) (hts _ (tb_in tw_801)) tk_10_20 dd_M_put_89 ?_
  refine lv_bipush (v := 24) hx hb dd_M_put_92 kc_bp_24 ?_
  refine lv_iload_n hx hb dd_M_put_94 rfl (lv_at hl 2 rfl) ?_
  refine lv_imul hx hb dd_M_put_95 ?_
  refine lv_aload_n hx hb dd_M_put_96 rfl (lv_at hl 1 rfl) ?_
  refine fw_getr hx hb hts in_10 hown hK hP ho (by decide) rfl 15 (by decide) (hts _ (tb_in tw_796)) tk_10_15 dd_M_put_97 ?_
  refine lv_iload_n hx hb dd_M_put_100 rfl (lv_at hl 2 rfl) ?_
  obtain ⟨h19, hw⟩ := hw
  refine fw_iald hx hb hK hP (lf_10_15 ho) (by decide) 0 rfl tka_100 h19 dd_M_put_101 ?_
  refine lv_iadd hx hb dd_M_put_102 ?_
  refine lv_aload_n hx hb dd_M_put_103 rfl (lv_at hl 1 rfl) ?_
  refine fw_getr hx hb hts in_10 hown hK hP ho (by decide) rfl 11 (by decide) (hts _ (tb_in tw_792)) tk_10_11 dd_M_put_104 ?_
  refine lv_iload_n hx hb dd_M_put_107 rfl (lv_at hl 2 rfl) ?_
  obtain ⟨h20, hw⟩ := hw
  refine fw_lald hx hb hK hP (lf_10_11 ho) (by decide) 1 rfl tka_101 h20 dd_M_put_108 ?_
  refine lv_ldc2 (v := 3600) hx hb hown (hts _ (tb_in tw_940)) dd_M_put_109 ?_
  refine lv_ldiv hx hb dd_M_put_112 (by decide) ?_
  obtain ⟨h21, hw⟩ := hw
  refine fw_last hx hb hK hP hS (fw_A.in (lf_10_20 ho).1) (lf_10_20 ho) (by decide) 1 rfl tka_101 h21 dd_M_put_113 (fun H locs hP hS => ?_)
  obtain ⟨S22, e_S22⟩ : ∃ z, z = fw_sl S18 (o + 17) (((24 * a1) + (S18.1 (o + 12) a1.toNatClampNeg) : Int32).toNatClampNeg) ((S18.2 (o + 8) a1.toNatClampNeg) / 3600) := ⟨_, rfl⟩
  rw [← e_S22] at hP
  have hw := hw S22 e_S22
  refine lv_aload_n hx hb dd_M_put_114 rfl (lv_at hl 1 rfl) ?_
  refine fw_getr hx hb hts in_10 hown hK hP ho (by decide) rfl 15 (by decide) (hts _ (tb_in tw_796)) tk_10_15 dd_M_put_115 ?_
  refine lv_iload_n hx hb dd_M_put_118 rfl (lv_at hl 2 rfl) ?_
  refine lv_dup2_11 hx hb dd_M_put_119 rfl rfl ?_
  obtain ⟨h23, hw⟩ := hw
  refine fw_iald hx hb hK hP (lf_10_15 ho) (by decide) 0 rfl tka_100 h23 dd_M_put_120 ?_
  refine lv_iconst (v := 1) hx hb dd_M_put_121 kc_ic_1 ?_
  refine lv_iadd hx hb dd_M_put_122 ?_
  obtain ⟨h24, hw⟩ := hw
  refine fw_iast hx hb hK hP hS (fw_A.in (lf_10_15 ho).1) (lf_10_15 ho) (by decide) 0 rfl tka_100 h24 dd_M_put_123 (fun H locs hP hS => ?_)
  obtain ⟨S25, e_S25⟩ : ∃ z, z = fw_si S22 (o + 12) a1.toNatClampNeg ((S22.1 (o + 12) a1.toNatClampNeg) + 1) := ⟨_, rfl⟩
  rw [← e_S25] at hP
  have hw := hw S25 e_S25
  refine lv_aload_n hx hb dd_M_put_124 rfl (lv_at hl 1 rfl) ?_
  refine fw_getr hx hb hts in_10 hown hK hP ho (by decide) rfl 16 (by decide) (hts _ (tb_in tw_797)) tk_10_16 dd_M_put_125 ?_
  refine lv_iload_n hx hb dd_M_put_128 rfl (lv_at hl 2 rfl) ?_
  refine lv_dup2_11 hx hb dd_M_put_129 rfl rfl ?_
  obtain ⟨h26, hw⟩ := hw
  refine fw_iald hx hb hK hP (lf_10_16 ho) (by decide) 0 rfl tka_100 h26 dd_M_put_130 ?_
  refine lv_iconst (v := 1) hx hb dd_M_put_131 kc_ic_1 ?_
  refine lv_iadd hx hb dd_M_put_132 ?_
  obtain ⟨h27, hw⟩ := hw
  refine fw_iast hx hb hK hP hS (fw_A.in (lf_10_16 ho).1) (lf_10_16 ho) (by decide) 0 rfl tka_100 h27 dd_M_put_133 (fun H locs hP hS => ?_)
  obtain ⟨S28, e_S28⟩ : ∃ z, z = fw_si S25 (o + 13) a1.toNatClampNeg ((S25.1 (o + 13) a1.toNatClampNeg) + 1) := ⟨_, rfl⟩
  rw [← e_S28] at hP
  have hw := hw S28 e_S28
  exact W.vret hx hb hr (fun t ht hW => ⟨⟨_, rfl, hw, fw_Bof ht hP⟩, hS.F ht⟩) hS.2.2 dd_M_put_134
theorem dd_M_ends_0 : decode bb_M_ends 0 = .ok (.aload_n 0, 1) := by decide +kernel
theorem dd_M_ends_1 : decode bb_M_ends 1 = .ok (.iload_n 1, 1) := by decide +kernel
theorem dd_M_ends_2 : decode bb_M_ends 2 = .ok (.iconst 3, 1) := by decide +kernel
theorem dd_M_ends_3 : decode bb_M_ends 3 = .ok (.iload_n 2, 1) := by decide +kernel
theorem dd_M_ends_4 : decode bb_M_ends 4 = .ok (.invokevirtual 147, 3) := by decide +kernel
theorem dd_M_ends_7 : decode bb_M_ends 7 = .ok (.aload_n 0, 1) := by decide +kernel
theorem dd_M_ends_8 : decode bb_M_ends 8 = .ok (.getfield 36, 3) := by decide +kernel
theorem dd_M_ends_11 : decode bb_M_ends 11 = .ok (.iload_n 1, 1) := by decide +kernel
theorem dd_M_ends_12 : decode bb_M_ends 12 = .ok (.iconst 0, 1) := by decide +kernel
theorem dd_M_ends_13 : decode bb_M_ends 13 = .ok (.iastore, 1) := by decide +kernel
theorem dd_M_ends_14 : decode bb_M_ends 14 = .ok (.return_, 1) := by decide +kernel
def ww_M_ends : List Cond := .code yy_M_ends bb_M_ends 3 none :: TB
def rm_M_ends : Room := { frames := 2, cells := 0, slots := 0, locals := 45 }
def wp_M_ends (S : fw_S) (o : Nat) (a1 : Int32) (a2 : Int32) (post : fw_S → Prop) : Prop := wp_M_put S o a1 3 a2 (fun S1 => vp_in a1 6 ∧ (∀ S3 : fw_S, S3 = fw_si S1 (o + 9) a1.toNatClampNeg 0 → post S3))
set_option maxHeartbeats 4000000 in
set_option maxRecDepth 100000 in
theorem mt_M_ends (l : Launch) (D : va_G) (cA : Nat → ClassId) (b : Nat) (S : fw_S) (o : Nat) (a1 : Int32) (a2 : Int32) (ho : o < 245 ∧ layU o = (10, 0)) (post : fw_S → Prop) (hw : wp_M_ends S o a1 a2 post) : Met l yy_M_ends ww_M_ends rm_M_ends (fw_Pc D CL cA (TYS cA) TK layU b 245 S [.ref (b + o), .int a1, .int a2]) (va_Qv post (fw_B D CL cA TK layU b 245) (fw_A b 245)) 0 0 (fw_A b 245) := by
  refine Met.ofW (cc := bb_M_ends) (maxL := 3) (ret := none) (by decide) rfl ?_
  intro p e s m args below meth c s₁ B hml hv
  obtain ⟨rfl, hP, hK⟩ := hv
  have hx := B.exec
  have hb := B.bytes
  have hr := B.returns
  have hts := atoms_spec (ws := ww_M_ends) B.pre
  have hown : s.vm.findClass "OutletOfficeModel" = some m.cls := findClass_of_methodNamed B.named
  have hlocks := B.notSynchronized
  have hS : va_S (fw_A b 245) s.heap s.heap [] := va_S.rf
  have hl := lv_entry ([.ref (b + o), .int a1, .int a2]) (n := 3) (Nat.le_of_ble_eq_true rfl)
  rw [lg_entry_eq]
  generalize (lg_sl ([.ref (b + o), .int a1, .int a2]) ++ List.replicate (3 - (lg_sl ([.ref (b + o), .int a1, .int a2])).length) Slot.unset).toArray = ls at hl ⊢
  have hl : lv_has ls 3 [(0, .ref (b + o)), (1, .int a1), (2, .int a2)] := hl
  unfold wp_M_ends at hw
  refine lv_aload_n hx hb dd_M_ends_0 rfl (lv_at hl 0 rfl) ?_
  refine lv_iload_n hx hb dd_M_ends_1 rfl (lv_at hl 1 rfl) ?_
  refine lv_iconst (v := 3) hx hb dd_M_ends_2 kc_ic_3 ?_
  refine lv_iload_n hx hb dd_M_ends_3 rfl (lv_at hl 2 rfl) ?_
  refine fw_callv (va_runV (As := [.int a1, .int 3, .int a2]) (rest := []) ⟨hx, hb, hml, hown, hts⟩ (mt_M_put l D cA b S o a1 3 a2 ho _ hw) (cwV 3 hts (fw_gV tw_964 tw_961 tw_963 ts_18 tw_11) rfl rfl rfl (by decide +kernel) ⟨Nat.le_of_ble_eq_true rfl, Nat.le_of_ble_eq_true rfl⟩) (fw_preV hP hK ho (by decide) rfl) rfl rfl hl.1 rfl (lv_room (Nat.le_of_ble_eq_true rfl)) dd_M_ends_4 ⟨Nat.le_of_ble_eq_true rfl, Nat.le_of_ble_eq_true rfl⟩) hS (fun S1 H locs hw hP hS => ?_)
  try dsimp only at hw
  refine lv_aload_n hx hb dd_M_ends_7 rfl (lv_at hl 0 rfl) ?_
  refine fw_getr hx hb hts in_10 hown hK hP ho (by decide) rfl 12 (by decide) (hts _ (tb_in tw_793)) tk_10_12 dd_M_ends_8 ?_
  refine lv_iload_n hx hb dd_M_ends_11 rfl (lv_at hl 1 rfl) ?_
  refine lv_iconst (v := 0) hx hb dd_M_ends_12 kc_ic_0 ?_
  obtain ⟨h2, hw⟩ := hw
  refine fw_iast hx hb hK hP hS (fw_A.in (lf_10_12 ho).1) (lf_10_12 ho) (by decide) 0 rfl tka_100 h2 dd_M_ends_13 (fun H locs hP hS => ?_)
  obtain ⟨S3, e_S3⟩ : ∃ z, z = fw_si S1 (o + 9) a1.toNatClampNeg 0 := ⟨_, rfl⟩
  rw [← e_S3] at hP
  have hw := hw S3 e_S3
  exact W.vret hx hb hr (fun t ht hW => ⟨⟨_, rfl, hw, fw_Bof ht hP⟩, hS.F ht⟩) hS.2.2 dd_M_ends_14
theorem dd_M_idle_32 : decode bb_M_idle 32 = .ok (.iconst 0, 1) := by decide +kernel
theorem dd_M_idle_33 : decode bb_M_idle 33 = .ok (.ireturn, 1) := by decide +kernel
theorem dd_M_idle_0 : decode bb_M_idle 0 = .ok (.aload_n 0, 1) := by decide +kernel
theorem dd_M_idle_1 : decode bb_M_idle 1 = .ok (.getfield 63, 3) := by decide +kernel
theorem dd_M_idle_4 : decode bb_M_idle 4 = .ok (.iload_n 1, 1) := by decide +kernel
theorem dd_M_idle_5 : decode bb_M_idle 5 = .ok (.baload, 1) := by decide +kernel
theorem dd_M_idle_6 : decode bb_M_idle 6 = .ok (.ifCond .eq 26, 3) := by decide +kernel
theorem dd_M_idle_9 : decode bb_M_idle 9 = .ok (.aload_n 0, 1) := by decide +kernel
theorem dd_M_idle_10 : decode bb_M_idle 10 = .ok (.getfield 75, 3) := by decide +kernel
theorem dd_M_idle_13 : decode bb_M_idle 13 = .ok (.iload_n 1, 1) := by decide +kernel
theorem dd_M_idle_14 : decode bb_M_idle 14 = .ok (.baload, 1) := by decide +kernel
theorem dd_M_idle_15 : decode bb_M_idle 15 = .ok (.ifCond .eq 17, 3) := by decide +kernel
theorem dd_M_idle_18 : decode bb_M_idle 18 = .ok (.aload_n 0, 1) := by decide +kernel
theorem dd_M_idle_19 : decode bb_M_idle 19 = .ok (.getfield 144, 3) := by decide +kernel
theorem dd_M_idle_22 : decode bb_M_idle 22 = .ok (.aload_n 0, 1) := by decide +kernel
theorem dd_M_idle_23 : decode bb_M_idle 23 = .ok (.getfield 78, 3) := by decide +kernel
theorem dd_M_idle_26 : decode bb_M_idle 26 = .ok (.iload_n 1, 1) := by decide +kernel
theorem dd_M_idle_27 : decode bb_M_idle 27 = .ok (.iaload, 1) := by decide +kernel
theorem dd_M_idle_28 : decode bb_M_idle 28 = .ok (.isub, 1) := by decide +kernel
theorem dd_M_idle_29 : decode bb_M_idle 29 = .ok (.goto 4, 3) := by decide +kernel
def ww_M_idle : List Cond := .code yy_M_idle bb_M_idle 2 (some .int) :: TB
def rm_M_idle : Room := { frames := 0, cells := 0, slots := 0, locals := 0 }
def wp_M_idle_33 (o : Nat) (a1 : Int32) (post : fw_S → Int32 → Prop) (S : fw_S) (p0 : Int32) : Prop := post S p0
def wp_M_idle_32 (o : Nat) (a1 : Int32) (post : fw_S → Int32 → Prop) (S : fw_S) : Prop := wp_M_idle_33 o a1 post S 0
def wp_M_idle (S : fw_S) (o : Nat) (a1 : Int32) (post : fw_S → Int32 → Prop) : Prop := vp_in a1 6 ∧ (((((S.1 (o + 18) a1.toNatClampNeg) = 0) → wp_M_idle_32 o a1 post S) ∧ (¬ ((S.1 (o + 18) a1.toNatClampNeg) = 0) → vp_in a1 6 ∧ (((((S.1 (o + 22) a1.toNatClampNeg) = 0) → wp_M_idle_32 o a1 post S) ∧ (¬ ((S.1 (o + 22) a1.toNatClampNeg) = 0) → vp_in a1 6 ∧ (wp_M_idle_33 o a1 post S ((S.1 o 1) - (S.1 (o + 23) a1.toNatClampNeg)))))))))
set_option maxHeartbeats 4000000 in
set_option maxRecDepth 100000 in
theorem mt_M_idle (l : Launch) (D : va_G) (cA : Nat → ClassId) (b : Nat) (S : fw_S) (o : Nat) (a1 : Int32) (ho : o < 245 ∧ layU o = (10, 0)) (post : fw_S → Int32 → Prop) (hw : wp_M_idle S o a1 post) : Met l yy_M_idle ww_M_idle rm_M_idle (fw_Pc D CL cA (TYS cA) TK layU b 245 S [.ref (b + o), .int a1]) (va_Qi (fun r S' => post S' r) (fw_B D CL cA TK layU b 245) (fw_A b 245)) 0 0 (fw_A b 245) := by
  refine Met.ofW (cc := bb_M_idle) (maxL := 2) (ret := (some .int)) (by decide) rfl ?_
  intro p e s m args below meth c s₁ B hml hv
  obtain ⟨rfl, hP, hK⟩ := hv
  have hx := B.exec
  have hb := B.bytes
  have hr := B.returns
  have hts := atoms_spec (ws := ww_M_idle) B.pre
  have hown : s.vm.findClass "OutletOfficeModel" = some m.cls := findClass_of_methodNamed B.named
  have hlocks := B.notSynchronized
  have hS : va_S (fw_A b 245) s.heap s.heap [] := va_S.rf
  have hl := lv_entry ([.ref (b + o), .int a1]) (n := 2) (Nat.le_of_ble_eq_true rfl)
  rw [lg_entry_eq]
  generalize (lg_sl ([.ref (b + o), .int a1]) ++ List.replicate (2 - (lg_sl ([.ref (b + o), .int a1])).length) Slot.unset).toArray = ls at hl ⊢
  have hl : lv_has ls 2 [(0, .ref (b + o)), (1, .int a1)] := hl
  have B33 : ∀ (S : fw_S) (p0 : Int32) (ls : Array Slot), wp_M_idle_33 o a1 post S p0 → fw_P D CL cA layU b 245 (fw_v TK layU b S) s.heap → va_S (fw_A b 245) s.heap s.heap [] → lv_has ls 2 [(0, .ref (b + o)), (1, .int a1)] → W p l e (headSpec ww_M_idle rm_M_idle).room s m ([.ref (b + o), .int a1] : List Value).toArray below meth c s.heap [] 0 0 (MQ below (va_Qi (fun r S' => post S' r) (fw_B D CL cA TK layU b 245) (fw_A b 245)) ([.ref (b + o), .int a1] : List Value).toArray s 0 0 (fw_A b 245)) (F0 m 33 ls [.int p0]) := by
      intro S p0 ls hw hP hS hl
      unfold wp_M_idle_33 at hw
      exact W.iret (v := p0) hx hb hr (fun t ht hW => ⟨⟨_, _, rfl, hw, fw_Bof ht hP⟩, hS.F ht⟩) hS.2.2 dd_M_idle_33
  have B32 : ∀ (S : fw_S) (ls : Array Slot), wp_M_idle_32 o a1 post S → fw_P D CL cA layU b 245 (fw_v TK layU b S) s.heap → va_S (fw_A b 245) s.heap s.heap [] → lv_has ls 2 [(0, .ref (b + o)), (1, .int a1)] → W p l e (headSpec ww_M_idle rm_M_idle).room s m ([.ref (b + o), .int a1] : List Value).toArray below meth c s.heap [] 0 0 (MQ below (va_Qi (fun r S' => post S' r) (fw_B D CL cA TK layU b 245) (fw_A b 245)) ([.ref (b + o), .int a1] : List Value).toArray s 0 0 (fw_A b 245)) (F0 m 32 ls []) := by
      intro S ls hw hP hS hl
      unfold wp_M_idle_32 at hw
      refine lv_iconst (v := 0) hx hb dd_M_idle_32 kc_ic_0 ?_
      exact B33 S 0 ls hw hP hS (lv_sub hl [0, 1] rfl)
  unfold wp_M_idle at hw
  refine lv_aload_n hx hb dd_M_idle_0 rfl (lv_at hl 0 rfl) ?_
  refine fw_getr hx hb hts in_10 hown hK hP ho (by decide) rfl 21 (by decide) (hts _ (tb_in tw_802)) tk_10_21 dd_M_idle_1 ?_
  refine lv_iload_n hx hb dd_M_idle_4 rfl (lv_at hl 1 rfl) ?_
  obtain ⟨h1, hw⟩ := hw
  refine fw_zald hx hb hK hP (lf_10_21 ho) (by decide) 2 rfl tka_102 h1 dd_M_idle_5 ?_
  refine lv_if_eq (tgt := 32) hx hb dd_M_idle_6 (by decide) (fun h2 => ?_) (fun h2 => ?_)
  · have hw := hw.1 h2
    exact B32 S ls hw hP hS (lv_sub hl [0, 1] rfl)
  · have hw := hw.2 h2
    refine lv_aload_n hx hb dd_M_idle_9 rfl (lv_at hl 0 rfl) ?_
    refine fw_getr hx hb hts in_10 hown hK hP ho (by decide) rfl 25 (by decide) (hts _ (tb_in tw_806)) tk_10_25 dd_M_idle_10 ?_
    refine lv_iload_n hx hb dd_M_idle_13 rfl (lv_at hl 1 rfl) ?_
    obtain ⟨h3, hw⟩ := hw
    refine fw_zald hx hb hK hP (lf_10_25 ho) (by decide) 2 rfl tka_102 h3 dd_M_idle_14 ?_
    refine lv_if_eq (tgt := 32) hx hb dd_M_idle_15 (by decide) (fun h4 => ?_) (fun h4 => ?_)
    · have hw := hw.1 h4
      exact B32 S ls hw hP hS (lv_sub hl [0, 1] rfl)
    · have hw := hw.2 h4
      refine lv_aload_n hx hb dd_M_idle_18 rfl (lv_at hl 0 rfl) ?_
      refine fw_geti hx hb hts in_10 hown hK hP ho (by decide) rfl 1 (by decide) (hts _ (tb_in tw_782)) tk_10_1 dd_M_idle_19 ?_
      refine lv_aload_n hx hb dd_M_idle_22 rfl (lv_at hl 0 rfl) ?_
      refine fw_getr hx hb hts in_10 hown hK hP ho (by decide) rfl 26 (by decide) (hts _ (tb_in tw_807)) tk_10_26 dd_M_idle_23 ?_
      refine lv_iload_n hx hb dd_M_idle_26 rfl (lv_at hl 1 rfl) ?_
      obtain ⟨h5, hw⟩ := hw
      refine fw_iald hx hb hK hP (lf_10_26 ho) (by decide) 0 rfl tka_100 h5 dd_M_idle_27 ?_
      refine lv_isub hx hb dd_M_idle_28 ?_
      refine lv_goto (tgt := 33) hx hb dd_M_idle_29 (by decide) ?_
      exact B33 S ((S.1 o 1) - (S.1 (o + 23) a1.toNatClampNeg)) ls hw hP hS (lv_sub hl [0, 1] rfl)
theorem dd_M_leave_17 : decode bb_M_leave 17 = .ok (.iconst 0, 1) := by decide +kernel
theorem dd_M_leave_18 : decode bb_M_leave 18 = .ok (.ireturn, 1) := by decide +kernel
theorem dd_M_leave_37 : decode bb_M_leave 37 = .ok (.aload_n 0, 1) := by decide +kernel
theorem dd_M_leave_38 : decode bb_M_leave 38 = .ok (.getfield 63, 3) := by decide +kernel
theorem dd_M_leave_41 : decode bb_M_leave 41 = .ok (.iload_n 1, 1) := by decide +kernel
theorem dd_M_leave_42 : decode bb_M_leave 42 = .ok (.iconst 0, 1) := by decide +kernel
theorem dd_M_leave_43 : decode bb_M_leave 43 = .ok (.bastore, 1) := by decide +kernel
theorem dd_M_leave_44 : decode bb_M_leave 44 = .ok (.iconst 1, 1) := by decide +kernel
theorem dd_M_leave_45 : decode bb_M_leave 45 = .ok (.ireturn, 1) := by decide +kernel
theorem dd_M_leave_0 : decode bb_M_leave 0 = .ok (.aload_n 0, 1) := by decide +kernel
theorem dd_M_leave_1 : decode bb_M_leave 1 = .ok (.iload_n 1, 1) := by decide +kernel
theorem dd_M_leave_2 : decode bb_M_leave 2 = .ok (.invokevirtual 134, 3) := by decide +kernel
theorem dd_M_leave_5 : decode bb_M_leave 5 = .ok (.ifCond .ne 12, 3) := by decide +kernel
theorem dd_M_leave_8 : decode bb_M_leave 8 = .ok (.aload_n 0, 1) := by decide +kernel
theorem dd_M_leave_9 : decode bb_M_leave 9 = .ok (.getfield 63, 3) := by decide +kernel
theorem dd_M_leave_12 : decode bb_M_leave 12 = .ok (.iload_n 1, 1) := by decide +kernel
theorem dd_M_leave_13 : decode bb_M_leave 13 = .ok (.baload, 1) := by decide +kernel
theorem dd_M_leave_14 : decode bb_M_leave 14 = .ok (.ifCond .ne 5, 3) := by decide +kernel
theorem dd_M_leave_19 : decode bb_M_leave 19 = .ok (.aload_n 0, 1) := by decide +kernel
theorem dd_M_leave_20 : decode bb_M_leave 20 = .ok (.iload_n 1, 1) := by decide +kernel
theorem dd_M_leave_21 : decode bb_M_leave 21 = .ok (.invokevirtual 151, 3) := by decide +kernel
theorem dd_M_leave_24 : decode bb_M_leave 24 = .ok (.ifCond .eq 13, 3) := by decide +kernel
theorem dd_M_leave_27 : decode bb_M_leave 27 = .ok (.aload_n 0, 1) := by decide +kernel
theorem dd_M_leave_28 : decode bb_M_leave 28 = .ok (.iload_n 1, 1) := by decide +kernel
theorem dd_M_leave_29 : decode bb_M_leave 29 = .ok (.aload_n 0, 1) := by decide +kernel
theorem dd_M_leave_30 : decode bb_M_leave 30 = .ok (.iload_n 1, 1) := by decide +kernel
theorem dd_M_leave_31 : decode bb_M_leave 31 = .ok (.invokevirtual 154, 3) := by decide +kernel
theorem dd_M_leave_34 : decode bb_M_leave 34 = .ok (.invokevirtual 158, 3) := by decide +kernel
def ww_M_leave : List Cond := .code yy_M_leave bb_M_leave 2 (some .boolean) :: TB
def rm_M_leave : Room := { frames := 3, cells := 0, slots := 0, locals := 67 }
def wp_M_leave_17 (o : Nat) (a1 : Int32) (post : fw_S → Int32 → Prop) (S : fw_S) : Prop := post S 0
def wp_M_leave_37 (o : Nat) (a1 : Int32) (post : fw_S → Int32 → Prop) (S : fw_S) : Prop := vp_in a1 6 ∧ (∀ S2 : fw_S, S2 = fw_si S (o + 18) a1.toNatClampNeg (fw_z 0) → post S2 1)
def wp_M_leave (S : fw_S) (o : Nat) (a1 : Int32) (post : fw_S → Int32 → Prop) : Prop := wp_M_noPoint S o a1 (fun S1 r2 => ((¬ (r2 = 0) → wp_M_leave_17 o a1 post S1) ∧ ((r2 = 0) → vp_in a1 6 ∧ (((¬ ((S1.1 (o + 18) a1.toNatClampNeg) = 0) → wp_M_runs S1 o a1 (fun S6 r7 => (((r7 = 0) → wp_M_leave_37 o a1 post S6) ∧ (¬ (r7 = 0) → wp_M_idle S6 o a1 (fun S9 r10 => wp_M_ends S9 o a1 r10 (fun S11 => wp_M_leave_37 o a1 post S11)))))) ∧ (((S1.1 (o + 18) a1.toNatClampNeg) = 0) → wp_M_leave_17 o a1 post S1))))))
set_option maxHeartbeats 4000000 in
set_option maxRecDepth 100000 in
theorem mt_M_leave (l : Launch) (D : va_G) (cA : Nat → ClassId) (b : Nat) (S : fw_S) (o : Nat) (a1 : Int32) (ho : o < 245 ∧ layU o = (10, 0)) (post : fw_S → Int32 → Prop) (hw : wp_M_leave S o a1 post) : Met l yy_M_leave ww_M_leave rm_M_leave (fw_Pc D CL cA (TYS cA) TK layU b 245 S [.ref (b + o), .int a1]) (va_Qi (fun r S' => post S' r) (fw_B D CL cA TK layU b 245) (fw_A b 245)) 0 0 (fw_A b 245) := by
  refine Met.ofW (cc := bb_M_leave) (maxL := 2) (ret := (some .boolean)) (by decide) rfl ?_
  intro p e s m args below meth c s₁ B hml hv
  obtain ⟨rfl, hP, hK⟩ := hv
  have hx := B.exec
  have hb := B.bytes
  have hr := B.returns
  have hts := atoms_spec (ws := ww_M_leave) B.pre
  have hown : s.vm.findClass "OutletOfficeModel" = some m.cls := findClass_of_methodNamed B.named
  have hlocks := B.notSynchronized
  have hS : va_S (fw_A b 245) s.heap s.heap [] := va_S.rf
  have hl := lv_entry ([.ref (b + o), .int a1]) (n := 2) (Nat.le_of_ble_eq_true rfl)
  rw [lg_entry_eq]
  generalize (lg_sl ([.ref (b + o), .int a1]) ++ List.replicate (2 - (lg_sl ([.ref (b + o), .int a1])).length) Slot.unset).toArray = ls at hl ⊢
  have hl : lv_has ls 2 [(0, .ref (b + o)), (1, .int a1)] := hl
  have B17 : ∀ (S : fw_S) (H : Heap) (locs : List Loc) (ls : Array Slot), wp_M_leave_17 o a1 post S → fw_P D CL cA layU b 245 (fw_v TK layU b S) H → va_S (fw_A b 245) s.heap H locs → lv_has ls 2 [(0, .ref (b + o)), (1, .int a1)] → W p l e (headSpec ww_M_leave rm_M_leave).room s m ([.ref (b + o), .int a1] : List Value).toArray below meth c H locs 0 0 (MQ below (va_Qi (fun r S' => post S' r) (fw_B D CL cA TK layU b 245) (fw_A b 245)) ([.ref (b + o), .int a1] : List Value).toArray s 0 0 (fw_A b 245)) (F0 m 17 ls []) := by
      intro S H locs ls hw hP hS hl
      unfold wp_M_leave_17 at hw
      refine lv_iconst (v := 0) hx hb dd_M_leave_17 kc_ic_0 ?_
      exact W.zret (v := 0) hx hb hr narrow_b0 (fun t ht hW => ⟨⟨_, _, rfl, hw, fw_Bof ht hP⟩, hS.F ht⟩) hS.2.2 dd_M_leave_18
  have B37 : ∀ (S : fw_S) (H : Heap) (locs : List Loc) (ls : Array Slot), wp_M_leave_37 o a1 post S → fw_P D CL cA layU b 245 (fw_v TK layU b S) H → va_S (fw_A b 245) s.heap H locs → lv_has ls 2 [(0, .ref (b + o)), (1, .int a1)] → W p l e (headSpec ww_M_leave rm_M_leave).room s m ([.ref (b + o), .int a1] : List Value).toArray below meth c H locs 0 0 (MQ below (va_Qi (fun r S' => post S' r) (fw_B D CL cA TK layU b 245) (fw_A b 245)) ([.ref (b + o), .int a1] : List Value).toArray s 0 0 (fw_A b 245)) (F0 m 37 ls []) := by
      intro S H locs ls hw hP hS hl
      unfold wp_M_leave_37 at hw
      refine lv_aload_n hx hb dd_M_leave_37 rfl (lv_at hl 0 rfl) ?_
      refine fw_getr hx hb hts in_10 hown hK hP ho (by decide) rfl 21 (by decide) (hts _ (tb_in tw_802)) tk_10_21 dd_M_leave_38 ?_
      refine lv_iload_n hx hb dd_M_leave_41 rfl (lv_at hl 1 rfl) ?_
      refine lv_iconst (v := 0) hx hb dd_M_leave_42 kc_ic_0 ?_
      obtain ⟨h1, hw⟩ := hw
      refine fw_zast hx hb hK hP hS (fw_A.in (lf_10_21 ho).1) (lf_10_21 ho) (by decide) 2 rfl tka_102 h1 dd_M_leave_43 (fun H locs hP hS => ?_)
      obtain ⟨S2, e_S2⟩ : ∃ z, z = fw_si S (o + 18) a1.toNatClampNeg (fw_z 0) := ⟨_, rfl⟩
      rw [← e_S2] at hP
      have hw := hw S2 e_S2
      refine lv_iconst (v := 1) hx hb dd_M_leave_44 kc_ic_1 ?_
      exact W.zret (v := 1) hx hb hr narrow_b1 (fun t ht hW => ⟨⟨_, _, rfl, hw, fw_Bof ht hP⟩, hS.F ht⟩) hS.2.2 dd_M_leave_45
  unfold wp_M_leave at hw
  refine lv_aload_n hx hb dd_M_leave_0 rfl (lv_at hl 0 rfl) ?_
  refine lv_iload_n hx hb dd_M_leave_1 rfl (lv_at hl 1 rfl) ?_
  refine fw_calli (va_runV (As := [.int a1]) (rest := []) ⟨hx, hb, hml, hown, hts⟩ (mt_M_noPoint l D cA b S o a1 ho _ hw) (cwV 1 hts (fw_gV tw_935 tw_932 tw_934 ts_14 tw_11) rfl rfl rfl (by decide +kernel) ⟨Nat.le_of_ble_eq_true rfl, Nat.le_of_ble_eq_true rfl⟩) (fw_preV hP hK ho (by decide) rfl) rfl rfl hl.1 rfl (lv_room (Nat.le_of_ble_eq_true rfl)) dd_M_leave_2 ⟨Nat.le_of_ble_eq_true rfl, Nat.le_of_ble_eq_true rfl⟩) hS (fun S1 r2 H locs hw hP hS => ?_)
  try dsimp only at hw
  refine lv_if_ne (tgt := 17) hx hb dd_M_leave_5 (by decide) (fun h3 => ?_) (fun h3 => ?_)
  · have hw := hw.1 h3
    exact B17 S1 _ _ ls hw hP hS (lv_sub hl [0, 1] rfl)
  · have hw := hw.2 h3
    refine lv_aload_n hx hb dd_M_leave_8 rfl (lv_at hl 0 rfl) ?_
    refine fw_getr hx hb hts in_10 hown hK hP ho (by decide) rfl 21 (by decide) (hts _ (tb_in tw_802)) tk_10_21 dd_M_leave_9 ?_
    refine lv_iload_n hx hb dd_M_leave_12 rfl (lv_at hl 1 rfl) ?_
    obtain ⟨h4, hw⟩ := hw
    refine fw_zald hx hb hK hP (lf_10_21 ho) (by decide) 2 rfl tka_102 h4 dd_M_leave_13 ?_
    refine lv_if_ne (tgt := 19) hx hb dd_M_leave_14 (by decide) (fun h5 => ?_) (fun h5 => ?_)
    · have hw := hw.1 h5
      refine lv_aload_n hx hb dd_M_leave_19 rfl (lv_at hl 0 rfl) ?_
      refine lv_iload_n hx hb dd_M_leave_20 rfl (lv_at hl 1 rfl) ?_
      refine fw_calli (va_runV (As := [.int a1]) (rest := []) ⟨hx, hb, hml, hown, hts⟩ (mt_M_runs l D cA b S1 o a1 ho _ hw) (cwV 1 hts (fw_gV tw_952 tw_949 tw_951 ts_15 tw_11) rfl rfl rfl (by decide +kernel) ⟨Nat.le_of_ble_eq_true rfl, Nat.le_of_ble_eq_true rfl⟩) (fw_preV hP hK ho (by decide) rfl) rfl rfl hl.1 rfl (lv_room (Nat.le_of_ble_eq_true rfl)) dd_M_leave_21 ⟨Nat.le_of_ble_eq_true rfl, Nat.le_of_ble_eq_true rfl⟩) hS (fun S6 r7 H locs hw hP hS => ?_)
      try dsimp only at hw
      refine lv_if_eq (tgt := 37) hx hb dd_M_leave_24 (by decide) (fun h8 => ?_) (fun h8 => ?_)
      · have hw := hw.1 h8
        exact B37 S6 _ _ ls hw hP hS (lv_sub hl [0, 1] rfl)
      · have hw := hw.2 h8
        refine lv_aload_n hx hb dd_M_leave_27 rfl (lv_at hl 0 rfl) ?_
        refine lv_iload_n hx hb dd_M_leave_28 rfl (lv_at hl 1 rfl) ?_
        refine lv_aload_n hx hb dd_M_leave_29 rfl (lv_at hl 0 rfl) ?_
        refine lv_iload_n hx hb dd_M_leave_30 rfl (lv_at hl 1 rfl) ?_
        refine fw_calli (va_runV (As := [.int a1]) (rest := [.int a1, .ref (b + o)]) ⟨hx, hb, hml, hown, hts⟩ (mt_M_idle l D cA b S6 o a1 ho _ hw) (cwV 1 hts (fw_gV tw_956 tw_953 tw_955 ts_16 tw_11) rfl rfl rfl (by decide +kernel) ⟨Nat.le_of_ble_eq_true rfl, Nat.le_of_ble_eq_true rfl⟩) (fw_preV hP hK ho (by decide) rfl) rfl rfl hl.1 rfl (lv_room (Nat.le_of_ble_eq_true rfl)) dd_M_leave_31 ⟨Nat.le_of_ble_eq_true rfl, Nat.le_of_ble_eq_true rfl⟩) hS (fun S9 r10 H locs hw hP hS => ?_)
        try dsimp only at hw
        refine fw_callv (va_runV (As := [.int a1, .int r10]) (rest := []) ⟨hx, hb, hml, hown, hts⟩ (mt_M_ends l D cA b S9 o a1 r10 ho _ hw) (cwV 2 hts (fw_gV tw_960 tw_957 tw_959 ts_17 tw_11) rfl rfl rfl (by decide +kernel) ⟨Nat.le_of_ble_eq_true rfl, Nat.le_of_ble_eq_true rfl⟩) (fw_preV hP hK ho (by decide) rfl) rfl rfl hl.1 rfl (lv_room (Nat.le_of_ble_eq_true rfl)) dd_M_leave_34 ⟨Nat.le_of_ble_eq_true rfl, Nat.le_of_ble_eq_true rfl⟩) hS (fun S11 H locs hw hP hS => ?_)
        try dsimp only at hw
        exact B37 S11 _ _ ls hw hP hS (lv_sub hl [0, 1] rfl)
    · have hw := hw.2 h5
      exact B17 S1 _ _ ls hw hP hS (lv_sub hl [0, 1] rfl)
