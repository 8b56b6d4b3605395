theorem dd_M_takeIn_189 : decode bb_M_takeIn 189 = .ok (.return_, 1) := by decide +kernel
theorem dd_M_takeIn_0 : decode bb_M_takeIn 0 = .ok (.iload_n 1, 1) := by decide +kernel
theorem dd_M_takeIn_1 : decode bb_M_takeIn 1 = .ok (.iconst 0, 1) := by decide +kernel
theorem dd_M_takeIn_2 : decode bb_M_takeIn 2 = .ok (.invokestatic 140, 3) := by decide +kernel
theorem dd_M_takeIn_5 : decode bb_M_takeIn 5 = .ok (.istore_n 2, 1) := by decide +kernel
theorem dd_M_takeIn_6 : decode bb_M_takeIn 6 = .ok (.aload_n 0, 1) := by decide +kernel
theorem dd_M_takeIn_7 : decode bb_M_takeIn 7 = .ok (.getfield 57, 3) := by decide +kernel
theorem dd_M_takeIn_10 : decode bb_M_takeIn 10 = .ok (.iload_n 2, 1) := by decide +kernel
theorem dd_M_takeIn_11 : decode bb_M_takeIn 11 = .ok (.iaload, 1) := by decide +kernel
theorem dd_M_takeIn_12 : decode bb_M_takeIn 12 = .ok (.aload_n 0, 1) := by decide +kernel
theorem dd_M_takeIn_13 : decode bb_M_takeIn 13 = .ok (.getfield 81, 3) := by decide +kernel
theorem dd_M_takeIn_16 : decode bb_M_takeIn 16 = .ok (.iload_n 1, 1) := by decide +kernel
theorem dd_M_takeIn_17 : decode bb_M_takeIn 17 = .ok (.iaload, 1) := by decide +kernel
theorem dd_M_takeIn_18 : decode bb_M_takeIn 18 = .ok (.iconst 1, 1) := by decide +kernel
theorem dd_M_takeIn_19 : decode bb_M_takeIn 19 = .ok (.iadd, 1) := by decide +kernel
theorem dd_M_takeIn_20 : decode bb_M_takeIn 20 = .ok (.if_icmp .eq 4, 3) := by decide +kernel
theorem dd_M_takeIn_24 : decode bb_M_takeIn 24 = .ok (.aload_n 0, 1) := by decide +kernel
theorem dd_M_takeIn_25 : decode bb_M_takeIn 25 = .ok (.getfield 81, 3) := by decide +kernel
theorem dd_M_takeIn_28 : decode bb_M_takeIn 28 = .ok (.iload_n 1, 1) := by decide +kernel
theorem dd_M_takeIn_29 : decode bb_M_takeIn 29 = .ok (.dup2, 1) := by decide +kernel
theorem dd_M_takeIn_30 : decode bb_M_takeIn 30 = .ok (.iaload, 1) := by decide +kernel
theorem dd_M_takeIn_31 : decode bb_M_takeIn 31 = .ok (.iconst 1, 1) := by decide +kernel
theorem dd_M_takeIn_32 : decode bb_M_takeIn 32 = .ok (.iadd, 1) := by decide +kernel
theorem dd_M_takeIn_33 : decode bb_M_takeIn 33 = .ok (.iastore, 1) := by decide +kernel
theorem dd_M_takeIn_34 : decode bb_M_takeIn 34 = .ok (.aload_n 0, 1) := by decide +kernel
theorem dd_M_takeIn_35 : decode bb_M_takeIn 35 = .ok (.getfield 60, 3) := by decide +kernel
theorem dd_M_takeIn_38 : decode bb_M_takeIn 38 = .ok (.bipush 24, 2) := by decide +kernel
theorem dd_M_takeIn_40 : decode bb_M_takeIn 40 = .ok (.iload_n 1, 1) := by decide +kernel
theorem dd_M_takeIn_41 : decode bb_M_takeIn 41 = .ok (.imul, 1) := by decide +kernel
theorem dd_M_takeIn_42 : decode bb_M_takeIn 42 = .ok (.laload, 1) := by decide +kernel
theorem dd_M_takeIn_43 : decode bb_M_takeIn 43 = .ok (.lstore_n 3, 1) := by decide +kernel
theorem dd_M_takeIn_44 : decode bb_M_takeIn 44 = .ok (.aload_n 0, 1) := by decide +kernel
theorem dd_M_takeIn_45 : decode bb_M_takeIn 45 = .ok (.getfield 57, 3) := by decide +kernel
theorem dd_M_takeIn_48 : decode bb_M_takeIn 48 = .ok (.iload_n 2, 1) := by decide +kernel
theorem dd_M_takeIn_49 : decode bb_M_takeIn 49 = .ok (.iconst 1, 1) := by decide +kernel
theorem dd_M_takeIn_50 : decode bb_M_takeIn 50 = .ok (.iadd, 1) := by decide +kernel
theorem dd_M_takeIn_51 : decode bb_M_takeIn 51 = .ok (.iaload, 1) := by decide +kernel
theorem dd_M_takeIn_52 : decode bb_M_takeIn 52 = .ok (.iconst 1, 1) := by decide +kernel
theorem dd_M_takeIn_53 : decode bb_M_takeIn 53 = .ok (.if_icmp .ne 78, 3) := by decide +kernel
theorem dd_M_takeIn_131 : decode bb_M_takeIn 131 = .ok (.aload_n 0, 1) := by decide +kernel
theorem dd_M_takeIn_132 : decode bb_M_takeIn 132 = .ok (.iload_n 1, 1) := by decide +kernel
theorem dd_M_takeIn_133 : decode bb_M_takeIn 133 = .ok (.lload_n 3, 1) := by decide +kernel
theorem dd_M_takeIn_134 : decode bb_M_takeIn 134 = .ok (.aload_n 0, 1) := by decide +kernel
theorem dd_M_takeIn_135 : decode bb_M_takeIn 135 = .ok (.getfield 57, 3) := by decide +kernel
theorem dd_M_takeIn_138 : decode bb_M_takeIn 138 = .ok (.iload_n 2, 1) := by decide +kernel
theorem dd_M_takeIn_139 : decode bb_M_takeIn 139 = .ok (.iconst 4, 1) := by decide +kernel
theorem dd_M_takeIn_140 : decode bb_M_takeIn 140 = .ok (.iadd, 1) := by decide +kernel
theorem dd_M_takeIn_141 : decode bb_M_takeIn 141 = .ok (.iaload, 1) := by decide +kernel
theorem dd_M_takeIn_142 : decode bb_M_takeIn 142 = .ok (.invokevirtual 175, 3) := by decide +kernel
theorem dd_M_takeIn_145 : decode bb_M_takeIn 145 = .ok (.aload_n 0, 1) := by decide +kernel
theorem dd_M_takeIn_146 : decode bb_M_takeIn 146 = .ok (.getfield 57, 3) := by decide +kernel
theorem dd_M_takeIn_149 : decode bb_M_takeIn 149 = .ok (.iload_n 2, 1) := by decide +kernel
theorem dd_M_takeIn_150 : decode bb_M_takeIn 150 = .ok (.iconst 1, 1) := by decide +kernel
theorem dd_M_takeIn_151 : decode bb_M_takeIn 151 = .ok (.iadd, 1) := by decide +kernel
theorem dd_M_takeIn_152 : decode bb_M_takeIn 152 = .ok (.iaload, 1) := by decide +kernel
theorem dd_M_takeIn_153 : decode bb_M_takeIn 153 = .ok (.iconst 3, 1) := by decide +kernel
theorem dd_M_takeIn_154 : decode bb_M_takeIn 154 = .ok (.if_icmp .ne 35, 3) := by decide +kernel
theorem dd_M_takeIn_157 : decode bb_M_takeIn 157 = .ok (.aload_n 0, 1) := by decide +kernel
theorem dd_M_takeIn_158 : decode bb_M_takeIn 158 = .ok (.getfield 93, 3) := by decide +kernel
theorem dd_M_takeIn_161 : decode bb_M_takeIn 161 = .ok (.iload_n 1, 1) := by decide +kernel
theorem dd_M_takeIn_162 : decode bb_M_takeIn 162 = .ok (.dup2, 1) := by decide +kernel
theorem dd_M_takeIn_163 : decode bb_M_takeIn 163 = .ok (.laload, 1) := by decide +kernel
theorem dd_M_takeIn_164 : decode bb_M_takeIn 164 = .ok (.aload_n 0, 1) := by decide +kernel
theorem dd_M_takeIn_165 : decode bb_M_takeIn 165 = .ok (.getfield 57, 3) := by decide +kernel
theorem dd_M_takeIn_168 : decode bb_M_takeIn 168 = .ok (.iload_n 2, 1) := by decide +kernel
theorem dd_M_takeIn_169 : decode bb_M_takeIn 169 = .ok (.iconst 5, 1) := by decide +kernel
theorem dd_M_takeIn_170 : decode bb_M_takeIn 170 = .ok (.iadd, 1) := by decide +kernel
theorem dd_M_takeIn_171 : decode bb_M_takeIn 171 = .ok (.iaload, 1) := by decide +kernel
theorem dd_M_takeIn_172 : decode bb_M_takeIn 172 = .ok (.bipush 60, 2) := by decide +kernel
theorem dd_M_takeIn_174 : decode bb_M_takeIn 174 = .ok (.idiv, 1) := by decide +kernel
theorem dd_M_takeIn_175 : decode bb_M_takeIn 175 = .ok (.i2l, 1) := by decide +kernel
theorem dd_M_takeIn_176 : decode bb_M_takeIn 176 = .ok (.aload_n 0, 1) := by decide +kernel
theorem dd_M_takeIn_177 : decode bb_M_takeIn 177 = .ok (.getfield 131, 3) := by decide +kernel
theorem dd_M_takeIn_180 : decode bb_M_takeIn 180 = .ok (.i2l, 1) := by decide +kernel
theorem dd_M_takeIn_181 : decode bb_M_takeIn 181 = .ok (.lmul, 1) := by decide +kernel
theorem dd_M_takeIn_182 : decode bb_M_takeIn 182 = .ok (.ladd, 1) := by decide +kernel
theorem dd_M_takeIn_183 : decode bb_M_takeIn 183 = .ok (.lastore, 1) := by decide +kernel
theorem dd_M_takeIn_184 : decode bb_M_takeIn 184 = .ok (.aload_n 0, 1) := by decide +kernel
theorem dd_M_takeIn_185 : decode bb_M_takeIn 185 = .ok (.iload_n 1, 1) := by decide +kernel
theorem dd_M_takeIn_186 : decode bb_M_takeIn 186 = .ok (.invokevirtual 179, 3) := by decide +kernel
theorem dd_M_takeIn_56 : decode bb_M_takeIn 56 = .ok (.aload_n 0, 1) := by decide +kernel
theorem dd_M_takeIn_57 : decode bb_M_takeIn 57 = .ok (.getfield 84, 3) := by decide +kernel
theorem dd_M_takeIn_60 : decode bb_M_takeIn 60 = .ok (.iload_n 1, 1) := by decide +kernel
theorem dd_M_takeIn_61 : decode bb_M_takeIn 61 = .ok (.iconst 1, 1) := by decide +kernel
theorem dd_M_takeIn_62 : decode bb_M_takeIn 62 = .ok (.bastore, 1) := by decide +kernel
theorem dd_M_takeIn_63 : decode bb_M_takeIn 63 = .ok (.aload_n 0, 1) := by decide +kernel
theorem dd_M_takeIn_64 : decode bb_M_takeIn 64 = .ok (.getfield 87, 3) := by decide +kernel
theorem dd_M_takeIn_67 : decode bb_M_takeIn 67 = .ok (.iload_n 1, 1) := by decide +kernel
theorem dd_M_takeIn_68 : decode bb_M_takeIn 68 = .ok (.aload_n 0, 1) := by decide +kernel
theorem dd_M_takeIn_69 : decode bb_M_takeIn 69 = .ok (.getfield 57, 3) := by decide +kernel
theorem dd_M_takeIn_72 : decode bb_M_takeIn 72 = .ok (.iload_n 2, 1) := by decide +kernel
theorem dd_M_takeIn_73 : decode bb_M_takeIn 73 = .ok (.iconst 2, 1) := by decide +kernel
theorem dd_M_takeIn_74 : decode bb_M_takeIn 74 = .ok (.iadd, 1) := by decide +kernel
theorem dd_M_takeIn_75 : decode bb_M_takeIn 75 = .ok (.iaload, 1) := by decide +kernel
theorem dd_M_takeIn_76 : decode bb_M_takeIn 76 = .ok (.iastore, 1) := by decide +kernel
theorem dd_M_takeIn_77 : decode bb_M_takeIn 77 = .ok (.aload_n 0, 1) := by decide +kernel
theorem dd_M_takeIn_78 : decode bb_M_takeIn 78 = .ok (.getfield 90, 3) := by decide +kernel
theorem dd_M_takeIn_81 : decode bb_M_takeIn 81 = .ok (.iload_n 1, 1) := by decide +kernel
theorem dd_M_takeIn_82 : decode bb_M_takeIn 82 = .ok (.aload_n 0, 1) := by decide +kernel
theorem dd_M_takeIn_83 : decode bb_M_takeIn 83 = .ok (.getfield 57, 3) := by decide +kernel
theorem dd_M_takeIn_86 : decode bb_M_takeIn 86 = .ok (.iload_n 2, 1) := by decide +kernel
theorem dd_M_takeIn_87 : decode bb_M_takeIn 87 = .ok (.iconst 3, 1) := by decide +kernel
theorem dd_M_takeIn_88 : decode bb_M_takeIn 88 = .ok (.iadd, 1) := by decide +kernel
theorem dd_M_takeIn_89 : decode bb_M_takeIn 89 = .ok (.iaload, 1) := by decide +kernel
theorem dd_M_takeIn_90 : decode bb_M_takeIn 90 = .ok (.iastore, 1) := by decide +kernel
theorem dd_M_takeIn_91 : decode bb_M_takeIn 91 = .ok (.aload_n 0, 1) := by decide +kernel
theorem dd_M_takeIn_92 : decode bb_M_takeIn 92 = .ok (.getfield 93, 3) := by decide +kernel
theorem dd_M_takeIn_95 : decode bb_M_takeIn 95 = .ok (.iload_n 1, 1) := by decide +kernel
theorem dd_M_takeIn_96 : decode bb_M_takeIn 96 = .ok (.aload_n 0, 1) := by decide +kernel
theorem dd_M_takeIn_97 : decode bb_M_takeIn 97 = .ok (.getfield 128, 3) := by decide +kernel
theorem dd_M_takeIn_100 : decode bb_M_takeIn 100 = .ok (.i2l, 1) := by decide +kernel
theorem dd_M_takeIn_101 : decode bb_M_takeIn 101 = .ok (.lastore, 1) := by decide +kernel
theorem dd_M_takeIn_102 : decode bb_M_takeIn 102 = .ok (.aload_n 0, 1) := by decide +kernel
theorem dd_M_takeIn_103 : decode bb_M_takeIn 103 = .ok (.getfield 96, 3) := by decide +kernel
theorem dd_M_takeIn_106 : decode bb_M_takeIn 106 = .ok (.iload_n 1, 1) := by decide +kernel
theorem dd_M_takeIn_107 : decode bb_M_takeIn 107 = .ok (.lload_n 3, 1) := by decide +kernel
theorem dd_M_takeIn_108 : decode bb_M_takeIn 108 = .ok (.lastore, 1) := by decide +kernel
theorem dd_M_takeIn_109 : decode bb_M_takeIn 109 = .ok (.aload_n 0, 1) := by decide +kernel
theorem dd_M_takeIn_110 : decode bb_M_takeIn 110 = .ok (.getfield 99, 3) := by decide +kernel
theorem dd_M_takeIn_113 : decode bb_M_takeIn 113 = .ok (.iload_n 1, 1) := by decide +kernel
theorem dd_M_takeIn_114 : decode bb_M_takeIn 114 = .ok (.lload_n 3, 1) := by decide +kernel
theorem dd_M_takeIn_115 : decode bb_M_takeIn 115 = .ok (.lastore, 1) := by decide +kernel
theorem dd_M_takeIn_116 : decode bb_M_takeIn 116 = .ok (.aload_n 0, 1) := by decide +kernel
theorem dd_M_takeIn_117 : decode bb_M_takeIn 117 = .ok (.getfield 102, 3) := by decide +kernel
theorem dd_M_takeIn_120 : decode bb_M_takeIn 120 = .ok (.iload_n 1, 1) := by decide +kernel
theorem dd_M_takeIn_121 : decode bb_M_takeIn 121 = .ok (.aload_n 0, 1) := by decide +kernel
theorem dd_M_takeIn_122 : decode bb_M_takeIn 122 = .ok (.getfield 57, 3) := by decide +kernel
theorem dd_M_takeIn_125 : decode bb_M_takeIn 125 = .ok (.iload_n 2, 1) := by decide +kernel
theorem dd_M_takeIn_126 : decode bb_M_takeIn 126 = .ok (.iconst 4, 1) := by decide +kernel
theorem dd_M_takeIn_127 : decode bb_M_takeIn 127 = .ok (.iadd, 1) := by decide +kernel
theorem dd_M_takeIn_128 : decode bb_M_takeIn 128 = .ok (.iaload, 1) := by decide +kernel
theorem dd_M_takeIn_129 : decode bb_M_takeIn 129 = .ok (.iastore, 1) := by decide +kernel
theorem dd_M_takeIn_130 : decode bb_M_takeIn 130 = .ok (.return_, 1) := by decide +kernel
theorem dd_M_takeIn_23 : decode bb_M_takeIn 23 = .ok (.return_, 1) := by decide +kernel
def ww_M_takeIn : List Cond := .code yy_M_takeIn bb_M_takeIn 5 none :: TB
def rm_M_takeIn : Room := { frames := 2, cells := 0, slots := 0, locals := 49 }
def wp_M_takeIn_189 (o : Nat) (a1 : Int32) (post : fw_S → Prop) (S : fw_S) (x2 : Int32) (y3 : Int64) : Prop := post S
def wp_M_takeIn (S : fw_S) (o : Nat) (a1 : Int32) (post : fw_S → Prop) : Prop := wp_M_cell S a1 0 (fun S1 r2 => vp_in r2 864 ∧ (vp_in a1 6 ∧ (((((S1.1 (o + 16) r2.toNatClampNeg) = ((S1.1 (o + 24) a1.toNatClampNeg) + 1)) → vp_in a1 6 ∧ (vp_in a1 6 ∧ (∀ S8 : fw_S, S8 = fw_si S1 (o + 24) a1.toNatClampNeg ((S1.1 (o + 24) a1.toNatClampNeg) + 1) → vp_in (24 * a1) 144 ∧ (∀ v10 : Int64, v10 = (S8.2 (o + 17) ((24 * a1 : Int32).toNatClampNeg)) → vp_in (r2 + 1) 864 ∧ (((¬ ((S8.1 (o + 16) ((r2 + 1 : Int32).toNatClampNeg)) = 1) → vp_in (r2 + 4) 864 ∧ (wp_M_charge S8 o a1 v10 (S8.1 (o + 16) ((r2 + 4 : Int32).toNatClampNeg)) (fun S14 => vp_in (r2 + 1) 864 ∧ (((¬ ((S14.1 (o + 16) ((r2 + 1 : Int32).toNatClampNeg)) = 3) → wp_M_takeIn_189 o a1 post S14 r2 v10) ∧ (((S14.1 (o + 16) ((r2 + 1 : Int32).toNatClampNeg)) = 3) → vp_in a1 6 ∧ (vp_in (r2 + 5) 864 ∧ (vp_in a1 6 ∧ (∀ S20 : fw_S, S20 = fw_sl S14 (o + 28) a1.toNatClampNeg ((S14.2 (o + 28) a1.toNatClampNeg) + ((((S14.1 (o + 16) ((r2 + 5 : Int32).toNatClampNeg)) / 60 : Int32).toInt64) * ((S14.1 o 6 : Int32).toInt64))) → wp_M_close S20 o a1 (fun S21 => wp_M_takeIn_189 o a1 post S21 r2 v10)))))))))) ∧ (((S8.1 (o + 16) ((r2 + 1 : Int32).toNatClampNeg)) = 1) → vp_in a1 6 ∧ (∀ S23 : fw_S, S23 = fw_si S8 (o + 25) a1.toNatClampNeg (fw_z 1) → vp_in (r2 + 2) 864 ∧ (vp_in a1 6 ∧ (∀ S26 : fw_S, S26 = fw_si S23 (o + 26) a1.toNatClampNeg (S23.1 (o + 16) ((r2 + 2 : Int32).toNatClampNeg)) → vp_in (r2 + 3) 864 ∧ (vp_in a1 6 ∧ (∀ S29 : fw_S, S29 = fw_si S26 (o + 27) a1.toNatClampNeg (S26.1 (o + 16) ((r2 + 3 : Int32).toNatClampNeg)) → vp_in a1 6 ∧ (∀ S31 : fw_S, S31 = fw_sl S29 (o + 28) a1.toNatClampNeg ((S29.1 o 5 : Int32).toInt64) → vp_in a1 6 ∧ (∀ S33 : fw_S, S33 = fw_sl S31 (o + 29) a1.toNatClampNeg v10 → vp_in a1 6 ∧ (∀ S35 : fw_S, S35 = fw_sl S33 (o + 30) a1.toNatClampNeg v10 → vp_in (r2 + 4) 864 ∧ (vp_in a1 6 ∧ (∀ S38 : fw_S, S38 = fw_si S35 (o + 31) a1.toNatClampNeg (S35.1 (o + 16) ((r2 + 4 : Int32).toNatClampNeg)) → post S38))))))))))))))))) ∧ (¬ ((S1.1 (o + 16) r2.toNatClampNeg) = ((S1.1 (o + 24) a1.toNatClampNeg) + 1)) → post S1)))))
set_option maxHeartbeats 4000000 in
set_option maxRecDepth 100000 in
theorem mt_M_takeIn (l : Launch) (D : va_G) (cA : Nat → ClassId) (b : Nat) (S : fw_S) (o : Nat) (a1 : Int32) (ho : o < 245 ∧ layU o = (10, 0)) (post : fw_S → Prop) (hw : wp_M_takeIn S o a1 post) : Met l yy_M_takeIn ww_M_takeIn rm_M_takeIn (fw_Pc D CL cA (TYS cA) TK layU b 245 S [.ref (b + o), .int a1]) (va_Qv post (fw_B D CL cA TK layU b 245) (fw_A b 245)) 0 0 (fw_A b 245) := by
  refine Met.ofW (cc := bb_M_takeIn) (maxL := 5) (ret := none) (by decide) rfl ?_
  intro p e s m args below meth c s₁ B hml hv
  obtain ⟨rfl, hP, hK⟩ := hv
  have hx := B.exec
  have hb := B.bytes
  have hr := B.returns
  have hts := atoms_spec (ws := ww_M_takeIn) B.pre
  have hown : s.vm.findClass "OutletOfficeModel" = some m.cls := findClass_of_methodNamed B.named
  have hlocks := B.notSynchronized
  have hS : va_S (fw_A b 245) s.heap s.heap [] := va_S.rf
  have hl := lv_entry ([.ref (b + o), .int a1]) (n := 5) (Nat.le_of_ble_eq_true rfl)
  rw [lg_entry_eq]
  generalize (lg_sl ([.ref (b + o), .int a1]) ++ List.replicate (5 - (lg_sl ([.ref (b + o), .int a1])).length) Slot.unset).toArray = ls at hl ⊢
  have hl : lv_has ls 5 [(0, .ref (b + o)), (1, .int a1)] := hl
  have B189 : ∀ (S : fw_S) (x2 : Int32) (y3 : Int64) (H : Heap) (locs : List Loc) (ls : Array Slot), wp_M_takeIn_189 o a1 post S x2 y3 → fw_P D CL cA layU b 245 (fw_v TK layU b S) H → va_S (fw_A b 245) s.heap H locs → lv_has ls 5 [(0, .ref (b + o)), (1, .int a1), (2, .int x2), (3, .long y3)] → W p l e (headSpec ww_M_takeIn rm_M_takeIn).room s m ([.ref (b + o), .int a1] : List Value).toArray below meth c H locs 0 0 (MQ below (va_Qv post (fw_B D CL cA TK layU b 245) (fw_A b 245)) ([.ref (b + o), .int a1] : List Value).toArray s 0 0 (fw_A b 245)) (F0 m 189 ls []) := by
      intro S x2 y3 H locs ls hw hP hS hl
      unfold wp_M_takeIn_189 at hw
      exact W.vret hx hb hr (fun t ht hW => ⟨⟨_, rfl, hw, fw_Bof ht hP⟩, hS.F ht⟩) hS.2.2 dd_M_takeIn_189
  unfold wp_M_takeIn at hw
  refine lv_iload_n hx hb dd_M_takeIn_0 rfl (lv_at hl 1 rfl) ?_
  refine lv_iconst (v := 0) hx hb dd_M_takeIn_1 kc_ic_0 ?_
  refine fw_calli (va_runS (As := [.int a1, .int 0]) (rest := []) ⟨hx, hb, hml, hown, hts⟩ (mt_M_cell l D cA b S a1 0 _ hw) (cwS 2 hts (fw_gS tw_967 tw_965 tw_966 tw_11) rfl rfl rfl (by decide +kernel) ⟨Nat.le_of_ble_eq_true rfl, Nat.le_of_ble_eq_true rfl⟩) (fw_preS hP hK) rfl rfl hl.1 rfl (lv_room (Nat.le_of_ble_eq_true rfl)) dd_M_takeIn_2 ⟨Nat.le_of_ble_eq_true rfl, Nat.le_of_ble_eq_true rfl⟩) hS (fun S1 r2 H locs hw hP hS => ?_)
  try dsimp only at hw
  refine lv_istore_n hx hb dd_M_takeIn_5 rfl hl (Nat.le_of_ble_eq_true rfl) rfl (fun ls hl => ?_)
  have hl : lv_has ls 5 [(2, .int r2), (0, .ref (b + o)), (1, .int a1)] := hl
  refine lv_aload_n hx hb dd_M_takeIn_6 rfl (lv_at hl 1 rfl) ?_
  refine fw_getr hx hb hts in_10 hown hK hP ho (by decide) rfl 19 (by decide) (hts _ (tb_in tw_800)) tk_10_19 dd_M_takeIn_7 ?_
  refine lv_iload_n hx hb dd_M_takeIn_10 rfl (lv_at hl 0 rfl) ?_
  obtain ⟨h3, hw⟩ := hw
  refine fw_iald hx hb hK hP (lf_10_19 ho) (by decide) 0 rfl tka_100 h3 dd_M_takeIn_11 ?_
  refine lv_aload_n hx hb dd_M_takeIn_12 rfl (lv_at hl 1 rfl) ?_
  refine fw_getr hx hb hts in_10 hown hK hP ho (by decide) rfl 27 (by decide) (hts _ (tb_in tw_808)) tk_10_27 dd_M_takeIn_13 ?_
  refine lv_iload_n hx hb dd_M_takeIn_16 rfl (lv_at hl 2 rfl) ?_
  obtain ⟨h4, hw⟩ := hw
  refine fw_iald hx hb hK hP (lf_10_27 ho) (by decide) 0 rfl tka_100 h4 dd_M_takeIn_17 ?_
  refine lv_iconst (v := 1) hx hb dd_M_takeIn_18 kc_ic_1 ?_
  refine lv_iadd hx hb dd_M_takeIn_19 ?_
  refine lv_icmp_eq (tgt := 24) hx hb dd_M_takeIn_20 (by decide) (fun h5 => ?_) (fun h5 => ?_)
  · have hw := hw.1 h5
    refine lv_aload_n hx hb dd_M_takeIn_24 rfl (lv_at hl 1 rfl) ?_
    refine fw_getr hx hb hts in_10 hown hK hP ho (by decide) rfl 27 (by decide) (hts _ (tb_in tw_808)) tk_10_27 dd_M_takeIn_25 ?_
    refine lv_iload_n hx hb dd_M_takeIn_28 rfl (lv_at hl 2 rfl) ?_
    refine lv_dup2_11 hx hb dd_M_takeIn_29 rfl rfl ?_
    obtain ⟨h6, hw⟩ := hw
    refine fw_iald hx hb hK hP (lf_10_27 ho) (by decide) 0 rfl tka_100 h6 dd_M_takeIn_30 ?_
    refine lv_iconst (v := 1) hx hb dd_M_takeIn_31 kc_ic_1 ?_
    refine lv_iadd hx hb dd_M_takeIn_32 ?_
    obtain ⟨h7, hw⟩ := hw
    refine fw_iast hx hb hK hP hS (fw_A.in (lf_10_27 ho).1) (lf_10_27 ho) (by decide) 0 rfl tka_100 h7 dd_M_takeIn_33 (fun H locs hP hS => ?_)
    obtain ⟨S8, e_S8⟩ : ∃ z, z = fw_si S1 (o + 24) a1.toNatClampNeg ((S1.1 (o + 24) a1.toNatClampNeg) + 1) := ⟨_, rfl⟩
    rw [← e_S8] at hP
    have hw := hw S8 e_S8
    refine lv_aload_n hx hb dd_M_takeIn_34 rfl (lv_at hl 1 rfl) ?_
    refine fw_getr hx hb hts in_10 hown hK hP ho (by decide) rfl 20 (by decide) (hts _ (tb_in tw_801)) tk_10_20 dd_M_takeIn_35 ?_
    refine lv_bipush (v := 24) hx hb dd_M_takeIn_38 kc_bp_24 ?_
    refine lv_iload_n hx hb dd_M_takeIn_40 rfl (lv_at hl 2 rfl) ?_
    refine lv_imul hx hb dd_M_takeIn_41 ?_
    obtain ⟨h9, hw⟩ := hw
    refine fw_lald hx hb hK hP (lf_10_20 ho) (by decide) 1 rfl tka_101 h9 dd_M_takeIn_42 ?_
    refine lv_topl (fun v10 e_v10 => ?_)
    have hw := hw v10 e_v10
    refine lv_lstore_n hx hb dd_M_takeIn_43 rfl hl (Nat.le_of_ble_eq_true rfl) rfl (fun ls hl => ?_)
    have hl : lv_has ls 5 [(3, .long v10), (2, .int r2), (0, .ref (b + o)), (1, .int a1)] := hl
    refine lv_aload_n hx hb dd_M_takeIn_44 rfl (lv_at hl 2 rfl) ?_
    refine fw_getr hx hb hts in_10 hown hK hP ho (by decide) rfl 19 (by decide) (hts _ (tb_in tw_800)) tk_10_19 dd_M_takeIn_45 ?_
    refine lv_iload_n hx hb dd_M_takeIn_48 rfl (lv_at hl 1 rfl) ?_
    refine lv_iconst (v := 1) hx hb dd_M_takeIn_49 kc_ic_1 ?_
    refine lv_iadd hx hb dd_M_takeIn_50 ?_
    obtain ⟨h11, hw⟩ := hw
    refine fw_iald hx hb hK hP (lf_10_19 ho) (by decide) 0 rfl tka_100 h11 dd_M_takeIn_51 ?_
    refine lv_iconst (v := 1) hx hb dd_M_takeIn_52 kc_ic_1 ?_
    refine lv_icmp_ne (tgt := 131) hx hb dd_M_takeIn_53 (by decide) (fun h12 => ?_) (fun h12 => ?_)
    · have hw := hw.1 h12
      refine lv_aload_n hx hb dd_M_takeIn_131 rfl (lv_at hl 2 rfl) ?_
      refine lv_iload_n hx hb dd_M_takeIn_132 rfl (lv_at hl 3 rfl) ?_
      refine lv_lload_n hx hb dd_M_takeIn_133 rfl (lv_at hl 0 rfl) ?_
      refine lv_aload_n hx hb dd_M_takeIn_134 rfl (lv_at hl 2 rfl) ?_
      refine fw_getr hx hb hts in_10 hown hK hP ho (by decide) rfl 19 (by decide) (hts _ (tb_in tw_800)) tk_10_19 dd_M_takeIn_135 ?_
      refine lv_iload_n hx hb dd_M_takeIn_138 rfl (lv_at hl 1 rfl) ?_
      refine lv_iconst (v := 4) hx hb dd_M_takeIn_139 kc_ic_4 ?_
      refine lv_iadd hx hb dd_M_takeIn_140 ?_
      obtain ⟨h13, hw⟩ := hw
      refine fw_iald hx hb hK hP (lf_10_19 ho) (by decide) 0 rfl tka_100 h13 dd_M_takeIn_141 ?_
      refine fw_callv (va_runV (As := [.int a1, .long v10, .int (S8.1 (o + 16) ((r2 + 4 : Int32).toNatClampNeg))]) (rest := []) ⟨hx, hb, hml, hown, hts⟩ (mt_M_charge l D cA b S8 o a1 v10 (S8.1 (o + 16) ((r2 + 4 : Int32).toNatClampNeg)) ho _ hw) (cwV 3 hts (fw_gV tw_995 tw_992 tw_994 ts_21 tw_11) rfl rfl rfl (by decide +kernel) ⟨Nat.le_of_ble_eq_true rfl, Nat.le_of_ble_eq_true rfl⟩) (fw_preV hP hK ho (by decide) rfl) rfl rfl hl.1 rfl (lv_room (Nat.le_of_ble_eq_true rfl)) dd_M_takeIn_142 ⟨Nat.le_of_ble_eq_true rfl, Nat.le_of_ble_eq_true rfl⟩) hS (fun S14 H locs hw hP hS => ?_)
      try dsimp only at hw
      refine lv_aload_n hx hb dd_M_takeIn_145 rfl (lv_at hl 2 rfl) ?_
      refine fw_getr hx hb hts in_10 hown hK hP ho (by decide) rfl 19 (by decide) (hts _ (tb_in tw_800)) tk_10_19 dd_M_takeIn_146 ?_
      refine lv_iload_n hx hb dd_M_takeIn_149 rfl (lv_at hl 1 rfl) ?_
      refine lv_iconst (v := 1) hx hb dd_M_takeIn_150 kc_ic_1 ?_
      refine lv_iadd hx hb dd_M_takeIn_151 ?_
      obtain ⟨h15, hw⟩ := hw
      refine fw_iald hx hb hK hP (lf_10_19 ho) (by decide) 0 rfl tka_100 h15 dd_M_takeIn_152 ?_
      refine lv_iconst (v := 3) hx hb dd_M_takeIn_153 kc_ic_3 ?_
      refine lv_icmp_ne (tgt := 189) hx hb dd_M_takeIn_154 (by decide) (fun h16 => ?_) (fun h16 => ?_)
      · have hw := hw.1 h16
        exact B189 S14 r2 v10 _ _ ls hw hP hS (lv_sub hl [2, 3, 1, 0] rfl)
      · have hw := hw.2 h16
        refine lv_aload_n hx hb dd_M_takeIn_157 rfl (lv_at hl 2 rfl) ?_
        refine fw_getr hx hb hts in_10 hown hK hP ho (by decide) rfl 31 (by decide) (hts _ (tb_in tw_812)) tk_10_31 dd_M_takeIn_158 ?_
        refine lv_iload_n hx hb dd_M_takeIn_161 rfl (lv_at hl 3 rfl) ?_
        refine lv_dup2_11 hx hb dd_M_takeIn_162 rfl rfl ?_
        obtain ⟨h17, hw⟩ := hw
        refine fw_lald hx hb hK hP (lf_10_31 ho) (by decide) 1 rfl tka_101 h17 dd_M_takeIn_163 ?_
        refine lv_aload_n hx hb dd_M_takeIn_164 rfl (lv_at hl 2 rfl) ?_
        refine fw_getr hx hb hts in_10 hown hK hP ho (by decide) rfl 19 (by decide) (hts _ (tb_in tw_800)) tk_10_19 dd_M_takeIn_165 ?_
        refine lv_iload_n hx hb dd_M_takeIn_168 rfl (lv_at hl 1 rfl) ?_
        refine lv_iconst (v := 5) hx hb dd_M_takeIn_169 kc_ic_5 ?_
        refine lv_iadd hx hb dd_M_takeIn_170 ?_
        obtain ⟨h18, hw⟩ := hw
        refine fw_iald hx hb hK hP (lf_10_19 ho) (by decide) 0 rfl tka_100 h18 dd_M_takeIn_171 ?_
        refine lv_bipush (v := 60) hx hb dd_M_takeIn_172 kc_bp_60 ?_
        refine lv_idiv hx hb dd_M_takeIn_174 (by decide) ?_
        refine lv_i2l hx hb dd_M_takeIn_175 rfl ?_
        refine lv_aload_n hx hb dd_M_takeIn_176 rfl (lv_at hl 2 rfl) ?_
        refine fw_geti hx hb hts in_10 hown hK hP ho (by decide) rfl 6 (by decide) (hts _ (tb_in tw_787)) tk_10_6 dd_M_takeIn_177 ?_
        refine lv_i2l hx hb dd_M_takeIn_180 rfl ?_
        refine lv_lmul hx hb dd_M_takeIn_181 ?_
        refine lv_ladd hx hb dd_M_takeIn_182 ?_
        obtain ⟨h19, hw⟩ := hw
        refine fw_last hx hb hK hP hS (fw_A.in (lf_10_31 ho).1) (lf_10_31 ho) (by decide) 1 rfl tka_101 h19 dd_M_takeIn_183 (fun H locs hP hS => ?_)
        obtain ⟨S20, e_S20⟩ : ∃ z, z = fw_sl S14 (o + 28) a1.toNatClampNeg ((S14.2 (o + 28) a1.toNatClampNeg) + ((((S14.1 (o + 16) ((r2 + 5 : Int32).toNatClampNeg)) / 60 : Int32).toInt64) * ((S14.1 o 6 : Int32).toInt64))) := ⟨_, rfl⟩
        rw [← e_S20] at hP
        have hw := hw S20 e_S20
        refine lv_aload_n hx hb dd_M_takeIn_184 rfl (lv_at hl 2 rfl) ?_
        refine lv_iload_n hx hb dd_M_takeIn_185 rfl (lv_at hl 3 rfl) ?_
        refine fw_callv (va_runV (As := [.int a1]) (rest := []) ⟨hx, hb, hml, hown, hts⟩ (mt_M_close l D cA b S20 o a1 ho _ hw) (cwV 1 hts (fw_gV tw_1003 tw_1000 tw_1002 ts_23 tw_11) rfl rfl rfl (by decide +kernel) ⟨Nat.le_of_ble_eq_true rfl, Nat.le_of_ble_eq_true rfl⟩) (fw_preV hP hK ho (by decide) rfl) rfl rfl hl.1 rfl (lv_room (Nat.le_of_ble_eq_true rfl)) dd_M_takeIn_186 ⟨Nat.le_of_ble_eq_true rfl, Nat.le_of_ble_eq_true rfl⟩) hS (fun S21 H locs hw hP hS => ?_)
        try dsimp only at hw
        exact B189 S21 r2 v10 _ _ ls hw hP hS (lv_sub hl [2, 3, 1, 0] rfl)
    · have hw := hw.2 h12
      refine lv_aload_n hx hb dd_M_takeIn_56 rfl (lv_at hl 2 rfl) ?_
      refine fw_getr hx hb hts in_10 hown hK hP ho (by decide) rfl 28 (by decide) (hts _ (tb_in tw_809)) tk_10_28 dd_M_takeIn_57 ?_
      refine lv_iload_n hx hb dd_M_takeIn_60 rfl (lv_at hl 3 rfl) ?_
      refine lv_iconst (v := 1) hx hb dd_M_takeIn_61 kc_ic_1 ?_
      obtain ⟨h22, hw⟩ := hw
      refine fw_zast hx hb hK hP hS (fw_A.in (lf_10_28 ho).1) (lf_10_28 ho) (by decide) 2 rfl tka_102 h22 dd_M_takeIn_62 (fun H locs hP hS => ?_)
      obtain ⟨S23, e_S23⟩ : ∃ z, z = fw_si S8 (o + 25) a1.toNatClampNeg (fw_z 1) := ⟨_, rfl⟩
      rw [← e_S23] at hP
      have hw := hw S23 e_S23
      refine lv_aload_n hx hb dd_M_takeIn_63 rfl (lv_at hl 2 rfl) ?_
      refine fw_getr hx hb hts in_10 hown hK hP ho (by decide) rfl 29 (by decide) (hts _ (tb_in tw_810)) tk_10_29 dd_M_takeIn_64 ?_
      refine lv_iload_n hx hb dd_M_takeIn_67 rfl (lv_at hl 3 rfl) ?_
      refine lv_aload_n hx hb dd_M_takeIn_68 rfl (lv_at hl 2 rfl) ?_
      refine fw_getr hx hb hts in_10 hown hK hP ho (by decide) rfl 19 (by decide) (hts _ (tb_in tw_800)) tk_10_19 dd_M_takeIn_69 ?_
      refine lv_iload_n hx hb dd_M_takeIn_72 rfl (lv_at hl 1 rfl) ?_
      refine lv_iconst (v := 2) hx hb dd_M_takeIn_73 kc_ic_2 ?_
      refine lv_iadd hx hb dd_M_takeIn_74 ?_
      obtain ⟨h24, hw⟩ := hw
      refine fw_iald hx hb hK hP (lf_10_19 ho) (by decide) 0 rfl tka_100 h24 dd_M_takeIn_75 ?_
      obtain ⟨h25, hw⟩ := hw
      refine fw_iast hx hb hK hP hS (fw_A.in (lf_10_29 ho).1) (lf_10_29 ho) (by decide) 0 rfl tka_100 h25 dd_M_takeIn_76 (fun H locs hP hS => ?_)
      obtain ⟨S26, e_S26⟩ : ∃ z, z = fw_si S23 (o + 26) a1.toNatClampNeg (S23.1 (o + 16) ((r2 + 2 : Int32).toNatClampNeg)) := ⟨_, rfl⟩
      rw [← e_S26] at hP
      have hw := hw S26 e_S26
      refine lv_aload_n hx hb dd_M_takeIn_77 rfl (lv_at hl 2 rfl) ?_
      refine fw_getr hx hb hts in_10 hown hK hP ho (by decide) rfl 30 (by decide) (hts _ (tb_in tw_811)) tk_10_30 dd_M_takeIn_78 ?_
      refine lv_iload_n hx hb dd_M_takeIn_81 rfl (lv_at hl 3 rfl) ?_
      refine lv_aload_n hx hb dd_M_takeIn_82 rfl (lv_at hl 2 rfl) ?_
      refine fw_getr hx hb hts in_10 hown hK hP ho (by decide) rfl 19 (by decide) (hts _ (tb_in tw_800)) tk_10_19 dd_M_takeIn_83 ?_
      refine lv_iload_n hx hb dd_M_takeIn_86 rfl (lv_at hl 1 rfl) ?_
      refine lv_iconst (v := 3) hx hb dd_M_takeIn_87 kc_ic_3 ?_
      refine lv_iadd hx hb dd_M_takeIn_88 ?_
      obtain ⟨h27, hw⟩ := hw
      refine fw_iald hx hb hK hP (lf_10_19 ho) (by decide) 0 rfl tka_100 h27 dd_M_takeIn_89 ?_
      obtain ⟨h28, hw⟩ := hw
      refine fw_iast hx hb hK hP hS (fw_A.in (lf_10_30 ho).1) (lf_10_30 ho) (by decide) 0 rfl tka_100 h28 dd_M_takeIn_90 (fun H locs hP hS => ?_)
      obtain ⟨S29, e_S29⟩ : ∃ z, z = fw_si S26 (o + 27) a1.toNatClampNeg (S26.1 (o + 16) ((r2 + 3 : Int32).toNatClampNeg)) := ⟨_, rfl⟩
      rw [← e_S29] at hP
      have hw := hw S29 e_S29
      refine lv_aload_n hx hb dd_M_takeIn_91 rfl (lv_at hl 2 rfl) ?_
      refine fw_getr hx hb hts in_10 hown hK hP ho (by decide) rfl 31 (by decide) (hts _ (tb_in tw_812)) tk_10_31 dd_M_takeIn_92 ?_
      refine lv_iload_n hx hb dd_M_takeIn_95 rfl (lv_at hl 3 rfl) ?_
      refine lv_aload_n hx hb dd_M_takeIn_96 rfl (lv_at hl 2 rfl) ?_
      refine fw_geti hx hb hts in_10 hown hK hP ho (by decide) rfl 5 (by decide) (hts _ (tb_in tw_786)) tk_10_5 dd_M_takeIn_97 ?_
      refine lv_i2l hx hb dd_M_takeIn_100 rfl ?_
      obtain ⟨h30, hw⟩ := hw
      refine fw_last hx hb hK hP hS (fw_A.in (lf_10_31 ho).1) (lf_10_31 ho) (by decide) 1 rfl tka_101 h30 dd_M_takeIn_101 (fun H locs hP hS => ?_)
      obtain ⟨S31, e_S31⟩ : ∃ z, z = fw_sl S29 (o + 28) a1.toNatClampNeg ((S29.1 o 5 : Int32).toInt64) := ⟨_, rfl⟩
      rw [← e_S31] at hP
      have hw := hw S31 e_S31
      refine lv_aload_n hx hb dd_M_takeIn_102 rfl (lv_at hl 2 rfl) ?_
      refine fw_getr hx hb hts in_10 hown hK hP ho (by decide) rfl 32 (by decide) (hts _ (tb_in tw_813)) tk_10_32 dd_M_takeIn_103 ?_
      refine lv_iload_n hx hb dd_M_takeIn_106 rfl (lv_at hl 3 rfl) ?_
      refine lv_lload_n hx hb dd_M_takeIn_107 rfl (lv_at hl 0 rfl) ?_
      obtain ⟨h32, hw⟩ := hw
      refine fw_last hx hb hK hP hS (fw_A.in (lf_10_32 ho).1) (lf_10_32 ho) (by decide) 1 rfl tka_101 h32 dd_M_takeIn_108 (fun H locs hP hS => ?_)
      obtain ⟨S33, e_S33⟩ : ∃ z, z = fw_sl S31 (o + 29) a1.toNatClampNeg v10 := ⟨_, rfl⟩
      rw [← e_S33] at hP
      have hw := hw S33 e_S33
      refine lv_aload_n hx hb dd_M_takeIn_109 rfl (lv_at hl 2 rfl) ?_
      refine fw_getr hx hb hts in_10 hown hK hP ho (by decide) rfl 33 (by decide) (hts _ (tb_in tw_814)) tk_10_33 dd_M_takeIn_110 ?_
      refine lv_iload_n hx hb dd_M_takeIn_113 rfl (lv_at hl 3 rfl) ?_
      refine lv_lload_n hx hb dd_M_takeIn_114 rfl (lv_at hl 0 rfl) ?_
      obtain ⟨h34, hw⟩ := hw
      refine fw_last hx hb hK hP hS (fw_A.in (lf_10_33 ho).1) (lf_10_33 ho) (by decide) 1 rfl tka_101 h34 dd_M_takeIn_115 (fun H locs hP hS => ?_)
      obtain ⟨S35, e_S35⟩ : ∃ z, z = fw_sl S33 (o + 30) a1.toNatClampNeg v10 := ⟨_, rfl⟩
      rw [← e_S35] at hP
      have hw := hw S35 e_S35
      refine lv_aload_n hx hb dd_M_takeIn_116 rfl (lv_at hl 2 rfl) ?_
      refine fw_getr hx hb hts in_10 hown hK hP ho (by decide) rfl 34 (by decide) (hts _ (tb_in tw_815)) tk_10_34 dd_M_takeIn_117 ?_
      refine lv_iload_n hx hb dd_M_takeIn_120 rfl (lv_at hl 3 rfl) ?_
      refine lv_aload_n hx hb dd_M_takeIn_121 rfl (lv_at hl 2 rfl) ?_
      refine fw_getr hx hb hts in_10 hown hK hP ho (by decide) rfl 19 (by decide) (hts _ (tb_in tw_800)) tk_10_19 dd_M_takeIn_122 ?_
      refine lv_iload_n hx hb dd_M_takeIn_125 rfl (lv_at hl 1 rfl) ?_
      refine lv_iconst (v := 4) hx hb dd_M_takeIn_126 kc_ic_4 ?_
      refine lv_iadd hx hb dd_M_takeIn_127 ?_
      obtain ⟨h36, hw⟩ := hw
      refine fw_iald hx hb hK hP (lf_10_19 ho) (by decide) 0 rfl tka_100 h36 dd_M_takeIn_128 ?_
      obtain ⟨h37, hw⟩ := hw
      refine fw_iast hx hb hK hP hS (fw_A.in (lf_10_34 ho).1) (lf_10_34 ho) (by decide) 0 rfl tka_100 h37 dd_M_takeIn_129 (fun H locs hP hS => ?_)
      obtain ⟨S38, e_S38⟩ : ∃ z, z = fw_si S35 (o + 31) a1.toNatClampNeg (S35.1 (o + 16) ((r2 + 4 : Int32).toNatClampNeg)) := ⟨_, rfl⟩
      rw [← e_S38] at hP
      have hw := hw S38 e_S38
      exact W.vret hx hb hr (fun t ht hW => ⟨⟨_, rfl, hw, fw_Bof ht hP⟩, hS.F ht⟩) hS.2.2 dd_M_takeIn_130
  · have hw := hw.2 h5
    exact W.vret hx hb hr (fun t ht hW => ⟨⟨_, rfl, hw, fw_Bof ht hP⟩, hS.F ht⟩) hS.2.2 dd_M_takeIn_23
theorem dd_M_goes_12 : decode bb_M_goes 12 = .ok (.iload_n 2, 1) := by decide +kernel
theorem dd_M_goes_13 : decode bb_M_goes 13 = .ok (.aload_n 0, 1) := by decide +kernel
theorem dd_M_goes_14 : decode bb_M_goes 14 = .ok (.getfield 45, 3) := by decide +kernel
theorem dd_M_goes_17 : decode bb_M_goes 17 = .ok (.iload_n 1, 1) := by decide +kernel
theorem dd_M_goes_18 : decode bb_M_goes 18 = .ok (.iaload, 1) := by decide +kernel
theorem dd_M_goes_19 : decode bb_M_goes 19 = .ok (.if_icmp .ge 73, 3) := by decide +kernel
theorem dd_M_goes_92 : decode bb_M_goes 92 = .ok (.aload_n 0, 1) := by decide +kernel
theorem dd_M_goes_93 : decode bb_M_goes 93 = .ok (.getfield 51, 3) := by decide +kernel
theorem dd_M_goes_96 : decode bb_M_goes 96 = .ok (.iload_n 1, 1) := by decide +kernel
theorem dd_M_goes_97 : decode bb_M_goes 97 = .ok (.iconst (-1), 1) := by decide +kernel
theorem dd_M_goes_98 : decode bb_M_goes 98 = .ok (.iastore, 1) := by decide +kernel
theorem dd_M_goes_99 : decode bb_M_goes 99 = .ok (.return_, 1) := by decide +kernel
theorem dd_M_goes_22 : decode bb_M_goes 22 = .ok (.iconst 0, 1) := by decide +kernel
theorem dd_M_goes_23 : decode bb_M_goes 23 = .ok (.istore_n 3, 1) := by decide +kernel
theorem dd_M_goes_24 : decode bb_M_goes 24 = .ok (.iload_n 3, 1) := by decide +kernel
theorem dd_M_goes_25 : decode bb_M_goes 25 = .ok (.bipush 6, 2) := by decide +kernel
theorem dd_M_goes_27 : decode bb_M_goes 27 = .ok (.if_icmp .ge 35, 3) := by decide +kernel
theorem dd_M_goes_62 : decode bb_M_goes 62 = .ok (.aload_n 0, 1) := by decide +kernel
theorem dd_M_goes_63 : decode bb_M_goes 63 = .ok (.getfield 60, 3) := by decide +kernel
theorem dd_M_goes_66 : decode bb_M_goes 66 = .ok (.bipush 24, 2) := by decide +kernel
theorem dd_M_goes_68 : decode bb_M_goes 68 = .ok (.iload_n 1, 1) := by decide +kernel
theorem dd_M_goes_69 : decode bb_M_goes 69 = .ok (.imul, 1) := by decide +kernel
theorem dd_M_goes_70 : decode bb_M_goes 70 = .ok (.iload_n 2, 1) := by decide +kernel
theorem dd_M_goes_71 : decode bb_M_goes 71 = .ok (.iadd, 1) := by decide +kernel
theorem dd_M_goes_72 : decode bb_M_goes 72 = .ok (.aload_n 0, 1) := by decide +kernel
theorem dd_M_goes_73 : decode bb_M_goes 73 = .ok (.getfield 60, 3) := by decide +kernel
theorem dd_M_goes_76 : decode bb_M_goes 76 = .ok (.bipush 24, 2) := by decide +kernel
theorem dd_M_goes_78 : decode bb_M_goes 78 = .ok (.iload_n 1, 1) := by decide +kernel
theorem dd_M_goes_79 : decode bb_M_goes 79 = .ok (.imul, 1) := by decide +kernel
theorem dd_M_goes_80 : decode bb_M_goes 80 = .ok (.iload_n 2, 1) := by decide +kernel
theorem dd_M_goes_81 : decode bb_M_goes 81 = .ok (.iadd, 1) := by decide +kernel
theorem dd_M_goes_82 : decode bb_M_goes 82 = .ok (.iconst 1, 1) := by decide +kernel
theorem dd_M_goes_83 : decode bb_M_goes 83 = .ok (.iadd, 1) := by decide +kernel
theorem dd_M_goes_84 : decode bb_M_goes 84 = .ok (.laload, 1) := by decide +kernel
theorem dd_M_goes_85 : decode bb_M_goes 85 = .ok (.lastore, 1) := by decide +kernel
theorem dd_M_goes_86 : decode bb_M_goes 86 = .ok (.iinc 2 1, 3) := by decide +kernel
theorem dd_M_goes_89 : decode bb_M_goes 89 = .ok (.goto (-77), 3) := by decide +kernel
theorem dd_M_goes_30 : decode bb_M_goes 30 = .ok (.aload_n 0, 1) := by decide +kernel
theorem dd_M_goes_31 : decode bb_M_goes 31 = .ok (.getfield 57, 3) := by decide +kernel
theorem dd_M_goes_34 : decode bb_M_goes 34 = .ok (.iload_n 1, 1) := by decide +kernel
theorem dd_M_goes_35 : decode bb_M_goes 35 = .ok (.iload_n 2, 1) := by decide +kernel
theorem dd_M_goes_36 : decode bb_M_goes 36 = .ok (.invokestatic 140, 3) := by decide +kernel
theorem dd_M_goes_39 : decode bb_M_goes 39 = .ok (.iload_n 3, 1) := by decide +kernel
theorem dd_M_goes_40 : decode bb_M_goes 40 = .ok (.iadd, 1) := by decide +kernel
theorem dd_M_goes_41 : decode bb_M_goes 41 = .ok (.aload_n 0, 1) := by decide +kernel
theorem dd_M_goes_42 : decode bb_M_goes 42 = .ok (.getfield 57, 3) := by decide +kernel
theorem dd_M_goes_45 : decode bb_M_goes 45 = .ok (.iload_n 1, 1) := by decide +kernel
theorem dd_M_goes_46 : decode bb_M_goes 46 = .ok (.iload_n 2, 1) := by decide +kernel
theorem dd_M_goes_47 : decode bb_M_goes 47 = .ok (.iconst 1, 1) := by decide +kernel
theorem dd_M_goes_48 : decode bb_M_goes 48 = .ok (.iadd, 1) := by decide +kernel
theorem dd_M_goes_49 : decode bb_M_goes 49 = .ok (.invokestatic 140, 3) := by decide +kernel
theorem dd_M_goes_52 : decode bb_M_goes 52 = .ok (.iload_n 3, 1) := by decide +kernel
theorem dd_M_goes_53 : decode bb_M_goes 53 = .ok (.iadd, 1) := by decide +kernel
theorem dd_M_goes_54 : decode bb_M_goes 54 = .ok (.iaload, 1) := by decide +kernel
theorem dd_M_goes_55 : decode bb_M_goes 55 = .ok (.iastore, 1) := by decide +kernel
theorem dd_M_goes_56 : decode bb_M_goes 56 = .ok (.iinc 3 1, 3) := by decide +kernel
theorem dd_M_goes_59 : decode bb_M_goes 59 = .ok (.goto (-35), 3) := by decide +kernel
theorem dd_M_goes_0 : decode bb_M_goes 0 = .ok (.aload_n 0, 1) := by decide +kernel
theorem dd_M_goes_1 : decode bb_M_goes 1 = .ok (.getfield 45, 3) := by decide +kernel
theorem dd_M_goes_4 : decode bb_M_goes 4 = .ok (.iload_n 1, 1) := by decide +kernel
theorem dd_M_goes_5 : decode bb_M_goes 5 = .ok (.dup2, 1) := by decide +kernel
theorem dd_M_goes_6 : decode bb_M_goes 6 = .ok (.iaload, 1) := by decide +kernel
theorem dd_M_goes_7 : decode bb_M_goes 7 = .ok (.iconst 1, 1) := by decide +kernel
theorem dd_M_goes_8 : decode bb_M_goes 8 = .ok (.isub, 1) := by decide +kernel
theorem dd_M_goes_9 : decode bb_M_goes 9 = .ok (.iastore, 1) := by decide +kernel
theorem dd_M_goes_10 : decode bb_M_goes 10 = .ok (.iconst 0, 1) := by decide +kernel
theorem dd_M_goes_11 : decode bb_M_goes 11 = .ok (.istore_n 2, 1) := by decide +kernel
def ww_M_goes : List Cond := .code yy_M_goes bb_M_goes 4 none :: TB
def rm_M_goes : Room := { frames := 1, cells := 0, slots := 0, locals := 21 }
def wp_M_goes_24 (o : Nat) (a1 : Int32) (post : fw_S → Prop) (k12 : fw_S → Int32 → Prop) : Nat → fw_S → Int32 → Int32 → Prop
  | 0, _, _, _ => False
  | f + 1, S, x2, x3 => (((6 ≤ x3) → vp_in (((24 * a1) + x2) + 1) 144 ∧ (vp_in ((24 * a1) + x2) 144 ∧ (∀ S4 : fw_S, S4 = fw_sl S (o + 17) (((24 * a1) + x2 : Int32).toNatClampNeg) (S.2 (o + 17) ((((24 * a1) + x2) + 1 : Int32).toNatClampNeg)) → ∀ v5 : Int32, v5 = x2 + 1 → k12 S4 v5))) ∧ (¬ (6 ≤ x3) → wp_M_cell S a1 x2 (fun S6 r7 => wp_M_cell S6 a1 (x2 + 1) (fun S8 r9 => vp_in (r9 + x3) 864 ∧ (vp_in (r7 + x3) 864 ∧ (∀ S12 : fw_S, S12 = fw_si S8 (o + 16) ((r7 + x3 : Int32).toNatClampNeg) (S8.1 (o + 16) ((r9 + x3 : Int32).toNatClampNeg)) → ∀ v13 : Int32, v13 = x3 + 1 → wp_M_goes_24 o a1 post k12 f S12 x2 v13))))))
def wp_M_goes_12 (o : Nat) (a1 : Int32) (post : fw_S → Prop) : Nat → fw_S → Int32 → Prop
  | 0, _, _ => False
  | f + 1, S, x2 => vp_in a1 6 ∧ (((((S.1 (o + 12) a1.toNatClampNeg) ≤ x2) → vp_in a1 6 ∧ (∀ S4 : fw_S, S4 = fw_si S (o + 14) a1.toNatClampNeg (-1) → post S4)) ∧ (¬ ((S.1 (o + 12) a1.toNatClampNeg) ≤ x2) → ∃ f0, wp_M_goes_24 o a1 post (fun S x2 => wp_M_goes_12 o a1 post f S x2) f0 S x2 0)))
def wp_M_goes (S : fw_S) (o : Nat) (a1 : Int32) (post : fw_S → Prop) : Prop := vp_in a1 6 ∧ (vp_in a1 6 ∧ (∀ S3 : fw_S, S3 = fw_si S (o + 12) a1.toNatClampNeg ((S.1 (o + 12) a1.toNatClampNeg) - 1) → ∃ f0, wp_M_goes_12 o a1 post f0 S3 0))
set_option maxHeartbeats 4000000 in
set_option maxRecDepth 100000 in
theorem mt_M_goes (l : Launch) (D : va_G) (cA : Nat → ClassId) (b : Nat) (S : fw_S) (o : Nat) (a1 : Int32) (ho : o < 245 ∧ layU o = (10, 0)) (post : fw_S → Prop) (hw : wp_M_goes S o a1 post) : Met l yy_M_goes ww_M_goes rm_M_goes (fw_Pc D CL cA (TYS cA) TK layU b 245 S [.ref (b + o), .int a1]) (va_Qv post (fw_B D CL cA TK layU b 245) (fw_A b 245)) 0 0 (fw_A b 245) := by
  refine Met.ofW (cc := bb_M_goes) (maxL := 4) (ret := none) (by decide) rfl ?_
  intro p e s m args below meth c s₁ B hml hv
  obtain ⟨rfl, hP, hK⟩ := hv
  have hx := B.exec
  have hb := B.bytes
  have hr := B.returns
  have hts := atoms_spec (ws := ww_M_goes) B.pre
  have hown : s.vm.findClass "OutletOfficeModel" = some m.cls := findClass_of_methodNamed B.named
  have hlocks := B.notSynchronized
  have hS : va_S (fw_A b 245) s.heap s.heap [] := va_S.rf
  have hl := lv_entry ([.ref (b + o), .int a1]) (n := 4) (Nat.le_of_ble_eq_true rfl)
  rw [lg_entry_eq]
  generalize (lg_sl ([.ref (b + o), .int a1]) ++ List.replicate (4 - (lg_sl ([.ref (b + o), .int a1])).length) Slot.unset).toArray = ls at hl ⊢
  have hl : lv_has ls 4 [(0, .ref (b + o)), (1, .int a1)] := hl
  have B24 : ∀ (k12 : fw_S → Int32 → Prop), (∀ (S : fw_S) (x2 : Int32) (H : Heap) (locs : List Loc) (ls : Array Slot), k12 S x2 → fw_P D CL cA layU b 245 (fw_v TK layU b S) H → va_S (fw_A b 245) s.heap H locs → lv_has ls 4 [(0, .ref (b + o)), (1, .int a1), (2, .int x2)] → W p l e (headSpec ww_M_goes rm_M_goes).room s m ([.ref (b + o), .int a1] : List Value).toArray below meth c H locs 0 0 (MQ below (va_Qv post (fw_B D CL cA TK layU b 245) (fw_A b 245)) ([.ref (b + o), .int a1] : List Value).toArray s 0 0 (fw_A b 245)) (F0 m 12 ls [])) → ∀ f : Nat, ∀ (S : fw_S) (x2 : Int32) (x3 : Int32) (H : Heap) (locs : List Loc) (ls : Array Slot), wp_M_goes_24 o a1 post k12 f S x2 x3 → fw_P D CL cA layU b 245 (fw_v TK layU b S) H → va_S (fw_A b 245) s.heap H locs → lv_has ls 4 [(0, .ref (b + o)), (1, .int a1), (2, .int x2), (3, .int x3)] → W p l e (headSpec ww_M_goes rm_M_goes).room s m ([.ref (b + o), .int a1] : List Value).toArray below meth c H locs 0 0 (MQ below (va_Qv post (fw_B D CL cA TK layU b 245) (fw_A b 245)) ([.ref (b + o), .int a1] : List Value).toArray s 0 0 (fw_A b 245)) (F0 m 24 ls []) := by
    intro k12 K12 f
    induction f with
    | zero => intro S x2 x3 H locs ls hw; exact False.elim hw
    | succ f ih =>
        intro S x2 x3 H locs ls hw hP hS hl
        unfold wp_M_goes_24 at hw
        refine lv_iload_n hx hb dd_M_goes_24 rfl (lv_at hl 3 rfl) ?_
        refine lv_bipush (v := 6) hx hb dd_M_goes_25 kc_bp_6 ?_
        refine lv_icmp_ge (tgt := 62) hx hb dd_M_goes_27 (by decide) (fun h1 => ?_) (fun h1 => ?_)
        · have hw := hw.1 h1
          refine lv_aload_n hx hb dd_M_goes_62 rfl (lv_at hl 0 rfl) ?_
          refine fw_getr hx hb hts in_10 hown hK hP ho (by decide) rfl 20 (by decide) (hts _ (tb_in tw_801)) tk_10_20 dd_M_goes_63 ?_
          refine lv_bipush (v := 24) hx hb dd_M_goes_66 kc_bp_24 ?_
          refine lv_iload_n hx hb dd_M_goes_68 rfl (lv_at hl 1 rfl) ?_
          refine lv_imul hx hb dd_M_goes_69 ?_
          refine lv_iload_n hx hb dd_M_goes_70 rfl (lv_at hl 2 rfl) ?_
          refine lv_iadd hx hb dd_M_goes_71 ?_
          refine lv_aload_n hx hb dd_M_goes_72 rfl (lv_at hl 0 rfl) ?_
          refine fw_getr hx hb hts in_10 hown hK hP ho (by decide) rfl 20 (by decide) (hts _ (tb_in tw_801)) tk_10_20 dd_M_goes_73 ?_
          refine lv_bipush (v := 24) hx hb dd_M_goes_76 kc_bp_24 ?_
          refine lv_iload_n hx hb dd_M_goes_78 rfl (lv_at hl 1 rfl) ?_
          refine lv_imul hx hb dd_M_goes_79 ?_
          refine lv_iload_n hx hb dd_M_goes_80 rfl (lv_at hl 2 rfl) ?_
          refine lv_iadd hx hb dd_M_goes_81 ?_
          refine lv_iconst (v := 1) hx hb dd_M_goes_82 kc_ic_1 ?_
          refine lv_iadd hx hb dd_M_goes_83 ?_
          obtain ⟨h2, hw⟩ := hw
          refine fw_lald hx hb hK hP (lf_10_20 ho) (by decide) 1 rfl tka_101 h2 dd_M_goes_84 ?_
          obtain ⟨h3, hw⟩ := hw
          refine fw_last hx hb hK hP hS (fw_A.in (lf_10_20 ho).1) (lf_10_20 ho) (by decide) 1 rfl tka_101 h3 dd_M_goes_85 (fun H locs hP hS => ?_)
          obtain ⟨S4, e_S4⟩ : ∃ z, z = fw_sl S (o + 17) (((24 * a1) + x2 : Int32).toNatClampNeg) (S.2 (o + 17) ((((24 * a1) + x2) + 1 : Int32).toNatClampNeg)) := ⟨_, rfl⟩
          rw [← e_S4] at hP
          have hw := hw S4 e_S4
          obtain ⟨v5, e_v5⟩ : ∃ z : Int32, z = x2 + 1 := ⟨_, rfl⟩
          have hw := hw v5 e_v5
          refine lv_iinc hx hb dd_M_goes_86 hl (k := 2) rfl (show x2 + Int32.ofInt 1 = v5 by rw [kc_ii_1, e_v5]) (Nat.le_of_ble_eq_true rfl) rfl (fun ls hl => ?_)
          have hl : lv_has ls 4 [(2, .int v5), (0, .ref (b + o)), (1, .int a1), (3, .int x3)] := hl
          refine lv_goto (tgt := 12) hx hb dd_M_goes_89 (by decide) ?_
          exact K12 S4 v5 _ _ ls hw hP hS (lv_sub hl [1, 2, 0] rfl)
        · have hw := hw.2 h1
          refine lv_aload_n hx hb dd_M_goes_30 rfl (lv_at hl 0 rfl) ?_
          refine fw_getr hx hb hts in_10 hown hK hP ho (by decide) rfl 19 (by decide) (hts _ (tb_in tw_800)) tk_10_19 dd_M_goes_31 ?_
          refine lv_iload_n hx hb dd_M_goes_34 rfl (lv_at hl 1 rfl) ?_
          refine lv_iload_n hx hb dd_M_goes_35 rfl (lv_at hl 2 rfl) ?_
          refine fw_calli (va_runS (As := [.int a1, .int x2]) (rest := [.ref (b + (o + 16))]) ⟨hx, hb, hml, hown, hts⟩ (mt_M_cell l D cA b S a1 x2 _ hw) (cwS 2 hts (fw_gS tw_967 tw_965 tw_966 tw_11) rfl rfl rfl (by decide +kernel) ⟨Nat.le_of_ble_eq_true rfl, Nat.le_of_ble_eq_true rfl⟩) (fw_preS hP hK) rfl rfl hl.1 rfl (lv_room (Nat.le_of_ble_eq_true rfl)) dd_M_goes_36 ⟨Nat.le_of_ble_eq_true rfl, Nat.le_of_ble_eq_true rfl⟩) hS (fun S6 r7 H locs hw hP hS => ?_)
          try dsimp only at hw
          refine lv_iload_n hx hb dd_M_goes_39 rfl (lv_at hl 3 rfl) ?_
          refine lv_iadd hx hb dd_M_goes_40 ?_
          refine lv_aload_n hx hb dd_M_goes_41 rfl (lv_at hl 0 rfl) ?_
          refine fw_getr hx hb hts in_10 hown hK hP ho (by decide) rfl 19 (by decide) (hts _ (tb_in tw_800)) tk_10_19 dd_M_goes_42 ?_
          refine lv_iload_n hx hb dd_M_goes_45 rfl (lv_at hl 1 rfl) ?_
          refine lv_iload_n hx hb dd_M_goes_46 rfl (lv_at hl 2 rfl) ?_
          refine lv_iconst (v := 1) hx hb dd_M_goes_47 kc_ic_1 ?_
          refine lv_iadd hx hb dd_M_goes_48 ?_
          refine fw_calli (va_runS (As := [.int a1, .int (x2 + 1)]) (rest := [.ref (b + (o + 16)), .int (r7 + x3), .ref (b + (o + 16))]) ⟨hx, hb, hml, hown, hts⟩ (mt_M_cell l D cA b S6 a1 (x2 + 1) _ hw) (cwS 2 hts (fw_gS tw_967 tw_965 tw_966 tw_11) rfl rfl rfl (by decide +kernel) ⟨Nat.le_of_ble_eq_true rfl, Nat.le_of_ble_eq_true rfl⟩) (fw_preS hP hK) rfl rfl hl.1 rfl (lv_room (Nat.le_of_ble_eq_true rfl)) dd_M_goes_49 ⟨Nat.le_of_ble_eq_true rfl, Nat.le_of_ble_eq_true rfl⟩) hS (fun S8 r9 H locs hw hP hS => ?_)
          try dsimp only at hw
          refine lv_iload_n hx hb dd_M_goes_52 rfl (lv_at hl 3 rfl) ?_
          refine lv_iadd hx hb dd_M_goes_53 ?_
          obtain ⟨h10, hw⟩ := hw
          refine fw_iald hx hb hK hP (lf_10_19 ho) (by decide) 0 rfl tka_100 h10 dd_M_goes_54 ?_
          obtain ⟨h11, hw⟩ := hw
          refine fw_iast hx hb hK hP hS (fw_A.in (lf_10_19 ho).1) (lf_10_19 ho) (by decide) 0 rfl tka_100 h11 dd_M_goes_55 (fun H locs hP hS => ?_)
          obtain ⟨S12, e_S12⟩ : ∃ z, z = fw_si S8 (o + 16) ((r7 + x3 : Int32).toNatClampNeg) (S8.1 (o + 16) ((r9 + x3 : Int32).toNatClampNeg)) := ⟨_, rfl⟩
          rw [← e_S12] at hP
          have hw := hw S12 e_S12
          obtain ⟨v13, e_v13⟩ : ∃ z : Int32, z = x3 + 1 := ⟨_, rfl⟩
          have hw := hw v13 e_v13
          refine lv_iinc hx hb dd_M_goes_56 hl (k := 3) rfl (show x3 + Int32.ofInt 1 = v13 by rw [kc_ii_1, e_v13]) (Nat.le_of_ble_eq_true rfl) rfl (fun ls hl => ?_)
          have hl : lv_has ls 4 [(3, .int v13), (0, .ref (b + o)), (1, .int a1), (2, .int x2)] := hl
          refine lv_goto (tgt := 24) hx hb dd_M_goes_59 (by decide) ?_
          exact ih S12 x2 v13 _ _ ls hw hP hS (lv_sub hl [1, 2, 3, 0] rfl)
  have B12 : ∀ f : Nat, ∀ (S : fw_S) (x2 : Int32) (H : Heap) (locs : List Loc) (ls : Array Slot), wp_M_goes_12 o a1 post f S x2 → fw_P D CL cA layU b 245 (fw_v TK layU b S) H → va_S (fw_A b 245) s.heap H locs → lv_has ls 4 [(0, .ref (b + o)), (1, .int a1), (2, .int x2)] → W p l e (headSpec ww_M_goes rm_M_goes).room s m ([.ref (b + o), .int a1] : List Value).toArray below meth c H locs 0 0 (MQ below (va_Qv post (fw_B D CL cA TK layU b 245) (fw_A b 245)) ([.ref (b + o), .int a1] : List Value).toArray s 0 0 (fw_A b 245)) (F0 m 12 ls []) := by
    intro f
    induction f with
    | zero => intro S x2 H locs ls hw; exact False.elim hw
    | succ f ih =>
        intro S x2 H locs ls hw hP hS hl
        unfold wp_M_goes_12 at hw
        refine lv_iload_n hx hb dd_M_goes_12 rfl (lv_at hl 2 rfl) ?_
        refine lv_aload_n hx hb dd_M_goes_13 rfl (lv_at hl 0 rfl) ?_
        refine fw_getr hx hb hts in_10 hown hK hP ho (by decide) rfl 15 (by decide) (hts _ (tb_in tw_796)) tk_10_15 dd_M_goes_14 ?_
        refine lv_iload_n hx hb dd_M_goes_17 rfl (lv_at hl 1 rfl) ?_
        obtain ⟨h1, hw⟩ := hw
        refine fw_iald hx hb hK hP (lf_10_15 ho) (by decide) 0 rfl tka_100 h1 dd_M_goes_18 ?_
        refine lv_icmp_ge (tgt := 92) hx hb dd_M_goes_19 (by decide) (fun h2 => ?_) (fun h2 => ?_)
        · have hw := hw.1 h2
          refine lv_aload_n hx hb dd_M_goes_92 rfl (lv_at hl 0 rfl) ?_
          refine fw_getr hx hb hts in_10 hown hK hP ho (by decide) rfl 17 (by decide) (hts _ (tb_in tw_798)) tk_10_17 dd_M_goes_93 ?_
          refine lv_iload_n hx hb dd_M_goes_96 rfl (lv_at hl 1 rfl) ?_
          refine lv_iconst (v := (-1)) hx hb dd_M_goes_97 kc_ic_m1 ?_
          obtain ⟨h3, hw⟩ := hw
          refine fw_iast hx hb hK hP hS (fw_A.in (lf_10_17 ho).1) (lf_10_17 ho) (by decide) 0 rfl tka_100 h3 dd_M_goes_98 (fun H locs hP hS => ?_)
          obtain ⟨S4, e_S4⟩ : ∃ z, z = fw_si S (o + 14) a1.toNatClampNeg (-1) := ⟨_, rfl⟩
          rw [← e_S4] at hP
          have hw := hw S4 e_S4
          exact W.vret hx hb hr (fun t ht hW => ⟨⟨_, rfl, hw, fw_Bof ht hP⟩, hS.F ht⟩) hS.2.2 dd_M_goes_99
        · have hw := hw.2 h2
          refine lv_iconst (v := 0) hx hb dd_M_goes_22 kc_ic_0 ?_
          refine lv_istore_n hx hb dd_M_goes_23 rfl hl (Nat.le_of_ble_eq_true rfl) rfl (fun ls hl => ?_)
          have hl : lv_has ls 4 [(3, .int 0), (0, .ref (b + o)), (1, .int a1), (2, .int x2)] := hl
          obtain ⟨f0, hw⟩ := hw
          exact B24 _ ih f0 S x2 0 _ _ ls hw hP hS (lv_sub hl [1, 2, 3, 0] rfl)
  unfold wp_M_goes at hw
  refine lv_aload_n hx hb dd_M_goes_0 rfl (lv_at hl 0 rfl) ?_
  refine fw_getr hx hb hts in_10 hown hK hP ho (by decide) rfl 15 (by decide) (hts _ (tb_in tw_796)) tk_10_15 dd_M_goes_1 ?_
  refine lv_iload_n hx hb dd_M_goes_4 rfl (lv_at hl 1 rfl) ?_
  refine lv_dup2_11 hx hb dd_M_goes_5 rfl rfl ?_
  obtain ⟨h1, hw⟩ := hw
  refine fw_iald hx hb hK hP (lf_10_15 ho) (by decide) 0 rfl tka_100 h1 dd_M_goes_6 ?_
  refine lv_iconst (v := 1) hx hb dd_M_goes_7 kc_ic_1 ?_
  refine lv_isub hx hb dd_M_goes_8 ?_
  obtain ⟨h2, hw⟩ := hw
  refine fw_iast hx hb hK hP hS (fw_A.in (lf_10_15 ho).1) (lf_10_15 ho) (by decide) 0 rfl tka_100 h2 dd_M_goes_9 (fun H locs hP hS => ?_)
  obtain ⟨S3, e_S3⟩ : ∃ z, z = fw_si S (o + 12) a1.toNatClampNeg ((S.1 (o + 12) a1.toNatClampNeg) - 1) := ⟨_, rfl⟩
  rw [← e_S3] at hP
  have hw := hw S3 e_S3
  refine lv_iconst (v := 0) hx hb dd_M_goes_10 kc_ic_0 ?_
  refine lv_istore_n hx hb dd_M_goes_11 rfl hl (Nat.le_of_ble_eq_true rfl) rfl (fun ls hl => ?_)
  have hl : lv_has ls 4 [(2, .int 0), (0, .ref (b + o)), (1, .int a1)] := hl
  obtain ⟨f0, hw⟩ := hw
  exact B12 f0 S3 0 _ _ ls hw hP hS (lv_sub hl [1, 2, 0] rfl)
theorem dd_M_carry_54 : decode bb_M_carry 54 = .ok (.iload_n 2, 1) := by decide +kernel
theorem dd_M_carry_55 : decode bb_M_carry 55 = .ok (.ireturn, 1) := by decide +kernel
theorem dd_M_carry_0 : decode bb_M_carry 0 = .ok (.aload_n 0, 1) := by decide +kernel
theorem dd_M_carry_1 : decode bb_M_carry 1 = .ok (.iload_n 1, 1) := by decide +kernel
theorem dd_M_carry_2 : decode bb_M_carry 2 = .ok (.invokevirtual 134, 3) := by decide +kernel
theorem dd_M_carry_5 : decode bb_M_carry 5 = .ok (.ifCond .eq 5, 3) := by decide +kernel
theorem dd_M_carry_10 : decode bb_M_carry 10 = .ok (.aload_n 0, 1) := by decide +kernel
theorem dd_M_carry_11 : decode bb_M_carry 11 = .ok (.getfield 54, 3) := by decide +kernel
theorem dd_M_carry_14 : decode bb_M_carry 14 = .ok (.iload_n 1, 1) := by decide +kernel
theorem dd_M_carry_15 : decode bb_M_carry 15 = .ok (.iaload, 1) := by decide +kernel
theorem dd_M_carry_16 : decode bb_M_carry 16 = .ok (.istore_n 2, 1) := by decide +kernel
theorem dd_M_carry_17 : decode bb_M_carry 17 = .ok (.iload_n 2, 1) := by decide +kernel
theorem dd_M_carry_18 : decode bb_M_carry 18 = .ok (.iconst 1, 1) := by decide +kernel
theorem dd_M_carry_19 : decode bb_M_carry 19 = .ok (.if_icmp .ne 18, 3) := by decide +kernel
theorem dd_M_carry_37 : decode bb_M_carry 37 = .ok (.iload_n 2, 1) := by decide +kernel
theorem dd_M_carry_38 : decode bb_M_carry 38 = .ok (.iconst 2, 1) := by decide +kernel
theorem dd_M_carry_39 : decode bb_M_carry 39 = .ok (.if_icmp .ne 15, 3) := by decide +kernel
theorem dd_M_carry_42 : decode bb_M_carry 42 = .ok (.aload_n 0, 1) := by decide +kernel
theorem dd_M_carry_43 : decode bb_M_carry 43 = .ok (.iload_n 1, 1) := by decide +kernel
theorem dd_M_carry_44 : decode bb_M_carry 44 = .ok (.invokevirtual 186, 3) := by decide +kernel
theorem dd_M_carry_47 : decode bb_M_carry 47 = .ok (.aload_n 0, 1) := by decide +kernel
theorem dd_M_carry_48 : decode bb_M_carry 48 = .ok (.getfield 54, 3) := by decide +kernel
theorem dd_M_carry_51 : decode bb_M_carry 51 = .ok (.iload_n 1, 1) := by decide +kernel
theorem dd_M_carry_52 : decode bb_M_carry 52 = .ok (.iconst 0, 1) := by decide +kernel
theorem dd_M_carry_53 : decode bb_M_carry 53 = .ok (.iastore, 1) := by decide +kernel
theorem dd_M_carry_22 : decode bb_M_carry 22 = .ok (.aload_n 0, 1) := by decide +kernel
theorem dd_M_carry_23 : decode bb_M_carry 23 = .ok (.iload_n 1, 1) := by decide +kernel
theorem dd_M_carry_24 : decode bb_M_carry 24 = .ok (.invokevirtual 183, 3) := by decide +kernel
theorem dd_M_carry_27 : decode bb_M_carry 27 = .ok (.aload_n 0, 1) := by decide +kernel
theorem dd_M_carry_28 : decode bb_M_carry 28 = .ok (.getfield 54, 3) := by decide +kernel
theorem dd_M_carry_31 : decode bb_M_carry 31 = .ok (.iload_n 1, 1) := by decide +kernel
theorem dd_M_carry_32 : decode bb_M_carry 32 = .ok (.iconst 2, 1) := by decide +kernel
theorem dd_M_carry_33 : decode bb_M_carry 33 = .ok (.iastore, 1) := by decide +kernel
theorem dd_M_carry_34 : decode bb_M_carry 34 = .ok (.goto 20, 3) := by decide +kernel
theorem dd_M_carry_8 : decode bb_M_carry 8 = .ok (.iconst 0, 1) := by decide +kernel
theorem dd_M_carry_9 : decode bb_M_carry 9 = .ok (.ireturn, 1) := by decide +kernel
def ww_M_carry : List Cond := .code yy_M_carry bb_M_carry 3 (some .int) :: TB
def rm_M_carry : Room := { frames := 3, cells := 0, slots := 0, locals := 73 }
def wp_M_carry_54 (o : Nat) (a1 : Int32) (post : fw_S → Int32 → Prop) (S : fw_S) (x2 : Int32) : Prop := post S x2
def wp_M_carry (S : fw_S) (o : Nat) (a1 : Int32) (post : fw_S → Int32 → Prop) : Prop := wp_M_noPoint S o a1 (fun S1 r2 => (((r2 = 0) → vp_in a1 6 ∧ (∀ v5 : Int32, v5 = (S1.1 (o + 15) a1.toNatClampNeg) → ((¬ (v5 = 1) → ((¬ (v5 = 2) → wp_M_carry_54 o a1 post S1 v5) ∧ ((v5 = 2) → wp_M_goes S1 o a1 (fun S8 => vp_in a1 6 ∧ (∀ S10 : fw_S, S10 = fw_si S8 (o + 15) a1.toNatClampNeg 0 → wp_M_carry_54 o a1 post S10 v5))))) ∧ ((v5 = 1) → wp_M_takeIn S1 o a1 (fun S11 => vp_in a1 6 ∧ (∀ S13 : fw_S, S13 = fw_si S11 (o + 15) a1.toNatClampNeg 2 → wp_M_carry_54 o a1 post S13 v5)))))) ∧ (¬ (r2 = 0) → post S1 0)))
set_option maxHeartbeats 4000000 in
set_option maxRecDepth 100000 in
theorem mt_M_carry (l : Launch) (D : va_G) (cA : Nat → ClassId) (b : Nat) (S : fw_S) (o : Nat) (a1 : Int32) (ho : o < 245 ∧ layU o = (10, 0)) (post : fw_S → Int32 → Prop) (hw : wp_M_carry S o a1 post) : Met l yy_M_carry ww_M_carry rm_M_carry (fw_Pc D CL cA (TYS cA) TK layU b 245 S [.ref (b + o), .int a1]) (va_Qi (fun r S' => post S' r) (fw_B D CL cA TK layU b 245) (fw_A b 245)) 0 0 (fw_A b 245) := by
  refine Met.ofW (cc := bb_M_carry) (maxL := 3) (ret := (some .int)) (by decide) rfl ?_
  intro p e s m args below meth c s₁ B hml hv
  obtain ⟨rfl, hP, hK⟩ := hv
  have hx := B.exec
  have hb := B.bytes
  have hr := B.returns
  have hts := atoms_spec (ws := ww_M_carry) B.pre
  have hown : s.vm.findClass "OutletOfficeModel" = some m.cls := findClass_of_methodNamed B.named
  have hlocks := B.notSynchronized
  have hS : va_S (fw_A b 245) s.heap s.heap [] := va_S.rf
  have hl := lv_entry ([.ref (b + o), .int a1]) (n := 3) (Nat.le_of_ble_eq_true rfl)
  rw [lg_entry_eq]
  generalize (lg_sl ([.ref (b + o), .int a1]) ++ List.replicate (3 - (lg_sl ([.ref (b + o), .int a1])).length) Slot.unset).toArray = ls at hl ⊢
  have hl : lv_has ls 3 [(0, .ref (b + o)), (1, .int a1)] := hl
  have B54 : ∀ (S : fw_S) (x2 : Int32) (H : Heap) (locs : List Loc) (ls : Array Slot), wp_M_carry_54 o a1 post S x2 → fw_P D CL cA layU b 245 (fw_v TK layU b S) H → va_S (fw_A b 245) s.heap H locs → lv_has ls 3 [(0, .ref (b + o)), (1, .int a1), (2, .int x2)] → W p l e (headSpec ww_M_carry rm_M_carry).room s m ([.ref (b + o), .int a1] : List Value).toArray below meth c H locs 0 0 (MQ below (va_Qi (fun r S' => post S' r) (fw_B D CL cA TK layU b 245) (fw_A b 245)) ([.ref (b + o), .int a1] : List Value).toArray s 0 0 (fw_A b 245)) (F0 m 54 ls []) := by
      intro S x2 H locs ls hw hP hS hl
      unfold wp_M_carry_54 at hw
      refine lv_iload_n hx hb dd_M_carry_54 rfl (lv_at hl 2 rfl) ?_
      exact W.iret (v := x2) hx hb hr (fun t ht hW => ⟨⟨_, _, rfl, hw, fw_Bof ht hP⟩, hS.F ht⟩) hS.2.2 dd_M_carry_55
  unfold wp_M_carry at hw
  refine lv_aload_n hx hb dd_M_carry_0 rfl (lv_at hl 0 rfl) ?_
  refine lv_iload_n hx hb dd_M_carry_1 rfl (lv_at hl 1 rfl) ?_
  refine fw_calli (va_runV (As := [.int a1]) (rest := []) ⟨hx, hb, hml, hown, hts⟩ (mt_M_noPoint l D cA b S o a1 ho _ hw) (cwV 1 hts (fw_gV tw_935 tw_932 tw_934 ts_14 tw_11) rfl rfl rfl (by decide +kernel) ⟨Nat.le_of_ble_eq_true rfl, Nat.le_of_ble_eq_true rfl⟩) (fw_preV hP hK ho (by decide) rfl) rfl rfl hl.1 rfl (lv_room (Nat.le_of_ble_eq_true rfl)) dd_M_carry_2 ⟨Nat.le_of_ble_eq_true rfl, Nat.le_of_ble_eq_true rfl⟩) hS (fun S1 r2 H locs hw hP hS => ?_)
  try dsimp only at hw
  refine lv_if_eq (tgt := 10) hx hb dd_M_carry_5 (by decide) (fun h3 => ?_) (fun h3 => ?_)
  · have hw := hw.1 h3
    refine lv_aload_n hx hb dd_M_carry_10 rfl (lv_at hl 0 rfl) ?_
    refine fw_getr hx hb hts in_10 hown hK hP ho (by decide) rfl 18 (by decide) (hts _ (tb_in tw_799)) tk_10_18 dd_M_carry_11 ?_
    refine lv_iload_n hx hb dd_M_carry_14 rfl (lv_at hl 1 rfl) ?_
    obtain ⟨h4, hw⟩ := hw
    refine fw_iald hx hb hK hP (lf_10_18 ho) (by decide) 0 rfl tka_100 h4 dd_M_carry_15 ?_
    refine lv_topi (fun v5 e_v5 => ?_)
    have hw := hw v5 e_v5
    refine lv_istore_n hx hb dd_M_carry_16 rfl hl (Nat.le_of_ble_eq_true rfl) rfl (fun ls hl => ?_)
    have hl : lv_has ls 3 [(2, .int v5), (0, .ref (b + o)), (1, .int a1)] := hl
    refine lv_iload_n hx hb dd_M_carry_17 rfl (lv_at hl 0 rfl) ?_
    refine lv_iconst (v := 1) hx hb dd_M_carry_18 kc_ic_1 ?_
    refine lv_icmp_ne (tgt := 37) hx hb dd_M_carry_19 (by decide) (fun h6 => ?_) (fun h6 => ?_)
    · have hw := hw.1 h6
      refine lv_iload_n hx hb dd_M_carry_37 rfl (lv_at hl 0 rfl) ?_
      refine lv_iconst (v := 2) hx hb dd_M_carry_38 kc_ic_2 ?_
      refine lv_icmp_ne (tgt := 54) hx hb dd_M_carry_39 (by decide) (fun h7 => ?_) (fun h7 => ?_)
      · have hw := hw.1 h7
        exact B54 S1 v5 _ _ ls hw hP hS (lv_sub hl [1, 2, 0] rfl)
      · have hw := hw.2 h7
        refine lv_aload_n hx hb dd_M_carry_42 rfl (lv_at hl 1 rfl) ?_
        refine lv_iload_n hx hb dd_M_carry_43 rfl (lv_at hl 2 rfl) ?_
        refine fw_callv (va_runV (As := [.int a1]) (rest := []) ⟨hx, hb, hml, hown, hts⟩ (mt_M_goes l D cA b S1 o a1 ho _ hw) (cwV 1 hts (fw_gV tw_1009 tw_1006 tw_1008 ts_24 tw_11) rfl rfl rfl (by decide +kernel) ⟨Nat.le_of_ble_eq_true rfl, Nat.le_of_ble_eq_true rfl⟩) (fw_preV hP hK ho (by decide) rfl) rfl rfl hl.1 rfl (lv_room (Nat.le_of_ble_eq_true rfl)) dd_M_carry_44 ⟨Nat.le_of_ble_eq_true rfl, Nat.le_of_ble_eq_true rfl⟩) hS (fun S8 H locs hw hP hS => ?_)
        try dsimp only at hw
        refine lv_aload_n hx hb dd_M_carry_47 rfl (lv_at hl 1 rfl) ?_
        refine fw_getr hx hb hts in_10 hown hK hP ho (by decide) rfl 18 (by decide) (hts _ (tb_in tw_799)) tk_10_18 dd_M_carry_48 ?_
        refine lv_iload_n hx hb dd_M_carry_51 rfl (lv_at hl 2 rfl) ?_
        refine lv_iconst (v := 0) hx hb dd_M_carry_52 kc_ic_0 ?_
        obtain ⟨h9, hw⟩ := hw
        refine fw_iast hx hb hK hP hS (fw_A.in (lf_10_18 ho).1) (lf_10_18 ho) (by decide) 0 rfl tka_100 h9 dd_M_carry_53 (fun H locs hP hS => ?_)
        obtain ⟨S10, e_S10⟩ : ∃ z, z = fw_si S8 (o + 15) a1.toNatClampNeg 0 := ⟨_, rfl⟩
        rw [← e_S10] at hP
        have hw := hw S10 e_S10
        exact B54 S10 v5 _ _ ls hw hP hS (lv_sub hl [1, 2, 0] rfl)
    · have hw := hw.2 h6
      refine lv_aload_n hx hb dd_M_carry_22 rfl (lv_at hl 1 rfl) ?_
      refine lv_iload_n hx hb dd_M_carry_23 rfl (lv_at hl 2 rfl) ?_
      refine fw_callv (va_runV (As := [.int a1]) (rest := []) ⟨hx, hb, hml, hown, hts⟩ (mt_M_takeIn l D cA b S1 o a1 ho _ hw) (cwV 1 hts (fw_gV tw_991 tw_988 tw_990 ts_20 tw_11) rfl rfl rfl (by decide +kernel) ⟨Nat.le_of_ble_eq_true rfl, Nat.le_of_ble_eq_true rfl⟩) (fw_preV hP hK ho (by decide) rfl) rfl rfl hl.1 rfl (lv_room (Nat.le_of_ble_eq_true rfl)) dd_M_carry_24 ⟨Nat.le_of_ble_eq_true rfl, Nat.le_of_ble_eq_true rfl⟩) hS (fun S11 H locs hw hP hS => ?_)
      try dsimp only at hw
      refine lv_aload_n hx hb dd_M_carry_27 rfl (lv_at hl 1 rfl) ?_
      refine fw_getr hx hb hts in_10 hown hK hP ho (by decide) rfl 18 (by decide) (hts _ (tb_in tw_799)) tk_10_18 dd_M_carry_28 ?_
      refine lv_iload_n hx hb dd_M_carry_31 rfl (lv_at hl 2 rfl) ?_
      refine lv_iconst (v := 2) hx hb dd_M_carry_32 kc_ic_2 ?_
      obtain ⟨h12, hw⟩ := hw
      refine fw_iast hx hb hK hP hS (fw_A.in (lf_10_18 ho).1) (lf_10_18 ho) (by decide) 0 rfl tka_100 h12 dd_M_carry_33 (fun H locs hP hS => ?_)
      obtain ⟨S13, e_S13⟩ : ∃ z, z = fw_si S11 (o + 15) a1.toNatClampNeg 2 := ⟨_, rfl⟩
      rw [← e_S13] at hP
      have hw := hw S13 e_S13
      refine lv_goto (tgt := 54) hx hb dd_M_carry_34 (by decide) ?_
      exact B54 S13 v5 _ _ ls hw hP hS (lv_sub hl [1, 2, 0] rfl)
  · have hw := hw.2 h3
    refine lv_iconst (v := 0) hx hb dd_M_carry_8 kc_ic_0 ?_
    exact W.iret (v := 0) hx hb hr (fun t ht hW => ⟨⟨_, _, rfl, hw, fw_Bof ht hP⟩, hS.F ht⟩) hS.2.2 dd_M_carry_9
theorem dd_M_lose_17 : decode bb_M_lose 17 = .ok (.iconst 0, 1) := by decide +kernel
theorem dd_M_lose_18 : decode bb_M_lose 18 = .ok (.ireturn, 1) := by decide +kernel
theorem dd_M_lose_0 : decode bb_M_lose 0 = .ok (.aload_n 0, 1) := by decide +kernel
theorem dd_M_lose_1 : decode bb_M_lose 1 = .ok (.iload_n 1, 1) := by decide +kernel
theorem dd_M_lose_2 : decode bb_M_lose 2 = .ok (.invokevirtual 134, 3) := by decide +kernel
theorem dd_M_lose_5 : decode bb_M_lose 5 = .ok (.ifCond .ne 12, 3) := by decide +kernel
theorem dd_M_lose_8 : decode bb_M_lose 8 = .ok (.aload_n 0, 1) := by decide +kernel
theorem dd_M_lose_9 : decode bb_M_lose 9 = .ok (.getfield 54, 3) := by decide +kernel
theorem dd_M_lose_12 : decode bb_M_lose 12 = .ok (.iload_n 1, 1) := by decide +kernel
theorem dd_M_lose_13 : decode bb_M_lose 13 = .ok (.iaload, 1) := by decide +kernel
theorem dd_M_lose_14 : decode bb_M_lose 14 = .ok (.ifCond .ne 5, 3) := by decide +kernel
theorem dd_M_lose_19 : decode bb_M_lose 19 = .ok (.aload_n 0, 1) := by decide +kernel
theorem dd_M_lose_20 : decode bb_M_lose 20 = .ok (.getfield 54, 3) := by decide +kernel
theorem dd_M_lose_23 : decode bb_M_lose 23 = .ok (.iload_n 1, 1) := by decide +kernel
theorem dd_M_lose_24 : decode bb_M_lose 24 = .ok (.iconst 0, 1) := by decide +kernel
theorem dd_M_lose_25 : decode bb_M_lose 25 = .ok (.iastore, 1) := by decide +kernel
theorem dd_M_lose_26 : decode bb_M_lose 26 = .ok (.iconst 1, 1) := by decide +kernel
theorem dd_M_lose_27 : decode bb_M_lose 27 = .ok (.ireturn, 1) := by decide +kernel
def ww_M_lose : List Cond := .code yy_M_lose bb_M_lose 2 (some .boolean) :: TB
def rm_M_lose : Room := { frames := 2, cells := 0, slots := 0, locals := 43 }
def wp_M_lose_17 (o : Nat) (a1 : Int32) (post : fw_S → Int32 → Prop) (S : fw_S) : Prop := post S 0
def wp_M_lose (S : fw_S) (o : Nat) (a1 : Int32) (post : fw_S → Int32 → Prop) : Prop := wp_M_noPoint S o a1 (fun S1 r2 => ((¬ (r2 = 0) → wp_M_lose_17 o a1 post S1) ∧ ((r2 = 0) → vp_in a1 6 ∧ (((¬ ((S1.1 (o + 15) a1.toNatClampNeg) = 0) → vp_in a1 6 ∧ (∀ S7 : fw_S, S7 = fw_si S1 (o + 15) a1.toNatClampNeg 0 → post S7 1)) ∧ (((S1.1 (o + 15) a1.toNatClampNeg) = 0) → wp_M_lose_17 o a1 post S1))))))
set_option maxHeartbeats 4000000 in
set_option maxRecDepth 100000 in
theorem mt_M_lose (l : Launch) (D : va_G) (cA : Nat → ClassId) (b : Nat) (S : fw_S) (o : Nat) (a1 : Int32) (ho : o < 245 ∧ layU o = (10, 0)) (post : fw_S → Int32 → Prop) (hw : wp_M_lose S o a1 post) : Met l yy_M_lose ww_M_lose rm_M_lose (fw_Pc D CL cA (TYS cA) TK layU b 245 S [.ref (b + o), .int a1]) (va_Qi (fun r S' => post S' r) (fw_B D CL cA TK layU b 245) (fw_A b 245)) 0 0 (fw_A b 245) := by
  refine Met.ofW (cc := bb_M_lose) (maxL := 2) (ret := (some .boolean)) (by decide) rfl ?_
  intro p e s m args below meth c s₁ B hml hv
  obtain ⟨rfl, hP, hK⟩ := hv
  have hx := B.exec
  have hb := B.bytes
  have hr := B.returns
  have hts := atoms_spec (ws := ww_M_lose) B.pre
  have hown : s.vm.findClass "OutletOfficeModel" = some m.cls := findClass_of_methodNamed B.named
  have hlocks := B.notSynchronized
  have hS : va_S (fw_A b 245) s.heap s.heap [] := va_S.rf
  have hl := lv_entry ([.ref (b + o), .int a1]) (n := 2) (Nat.le_of_ble_eq_true rfl)
  rw [lg_entry_eq]
  generalize (lg_sl ([.ref (b + o), .int a1]) ++ List.replicate (2 - (lg_sl ([.ref (b + o), .int a1])).length) Slot.unset).toArray = ls at hl ⊢
  have hl : lv_has ls 2 [(0, .ref (b + o)), (1, .int a1)] := hl
  have B17 : ∀ (S : fw_S) (H : Heap) (locs : List Loc) (ls : Array Slot), wp_M_lose_17 o a1 post S → fw_P D CL cA layU b 245 (fw_v TK layU b S) H → va_S (fw_A b 245) s.heap H locs → lv_has ls 2 [(0, .ref (b + o)), (1, .int a1)] → W p l e (headSpec ww_M_lose rm_M_lose).room s m ([.ref (b + o), .int a1] : List Value).toArray below meth c H locs 0 0 (MQ below (va_Qi (fun r S' => post S' r) (fw_B D CL cA TK layU b 245) (fw_A b 245)) ([.ref (b + o), .int a1] : List Value).toArray s 0 0 (fw_A b 245)) (F0 m 17 ls []) := by
      intro S H locs ls hw hP hS hl
      unfold wp_M_lose_17 at hw
      refine lv_iconst (v := 0) hx hb dd_M_lose_17 kc_ic_0 ?_
      exact W.zret (v := 0) hx hb hr narrow_b0 (fun t ht hW => ⟨⟨_, _, rfl, hw, fw_Bof ht hP⟩, hS.F ht⟩) hS.2.2 dd_M_lose_18
  unfold wp_M_lose at hw
  refine lv_aload_n hx hb dd_M_lose_0 rfl (lv_at hl 0 rfl) ?_
  refine lv_iload_n hx hb dd_M_lose_1 rfl (lv_at hl 1 rfl) ?_
  refine fw_calli (va_runV (As := [.int a1]) (rest := []) ⟨hx, hb, hml, hown, hts⟩ (mt_M_noPoint l D cA b S o a1 ho _ hw) (cwV 1 hts (fw_gV tw_935 tw_932 tw_934 ts_14 tw_11) rfl rfl rfl (by decide +kernel) ⟨Nat.le_of_ble_eq_true rfl, Nat.le_of_ble_eq_true rfl⟩) (fw_preV hP hK ho (by decide) rfl) rfl rfl hl.1 rfl (lv_room (Nat.le_of_ble_eq_true rfl)) dd_M_lose_2 ⟨Nat.le_of_ble_eq_true rfl, Nat.le_of_ble_eq_true rfl⟩) hS (fun S1 r2 H locs hw hP hS => ?_)
  try dsimp only at hw
  refine lv_if_ne (tgt := 17) hx hb dd_M_lose_5 (by decide) (fun h3 => ?_) (fun h3 => ?_)
  · have hw := hw.1 h3
    exact B17 S1 _ _ ls hw hP hS (lv_sub hl [0, 1] rfl)
  · have hw := hw.2 h3
    refine lv_aload_n hx hb dd_M_lose_8 rfl (lv_at hl 0 rfl) ?_
    refine fw_getr hx hb hts in_10 hown hK hP ho (by decide) rfl 18 (by decide) (hts _ (tb_in tw_799)) tk_10_18 dd_M_lose_9 ?_
    refine lv_iload_n hx hb dd_M_lose_12 rfl (lv_at hl 1 rfl) ?_
    obtain ⟨h4, hw⟩ := hw
    refine fw_iald hx hb hK hP (lf_10_18 ho) (by decide) 0 rfl tka_100 h4 dd_M_lose_13 ?_
    refine lv_if_ne (tgt := 19) hx hb dd_M_lose_14 (by decide) (fun h5 => ?_) (fun h5 => ?_)
    · have hw := hw.1 h5
      refine lv_aload_n hx hb dd_M_lose_19 rfl (lv_at hl 0 rfl) ?_
      refine fw_getr hx hb hts in_10 hown hK hP ho (by decide) rfl 18 (by decide) (hts _ (tb_in tw_799)) tk_10_18 dd_M_lose_20 ?_
      refine lv_iload_n hx hb dd_M_lose_23 rfl (lv_at hl 1 rfl) ?_
      refine lv_iconst (v := 0) hx hb dd_M_lose_24 kc_ic_0 ?_
      obtain ⟨h6, hw⟩ := hw
      refine fw_iast hx hb hK hP hS (fw_A.in (lf_10_18 ho).1) (lf_10_18 ho) (by decide) 0 rfl tka_100 h6 dd_M_lose_25 (fun H locs hP hS => ?_)
      obtain ⟨S7, e_S7⟩ : ∃ z, z = fw_si S1 (o + 15) a1.toNatClampNeg 0 := ⟨_, rfl⟩
      rw [← e_S7] at hP
      have hw := hw S7 e_S7
      refine lv_iconst (v := 1) hx hb dd_M_lose_26 kc_ic_1 ?_
      exact W.zret (v := 1) hx hb hr narrow_b1 (fun t ht hW => ⟨⟨_, _, rfl, hw, fw_Bof ht hP⟩, hS.F ht⟩) hS.2.2 dd_M_lose_27
    · have hw := hw.2 h5
      exact B17 S1 _ _ ls hw hP hS (lv_sub hl [0, 1] rfl)
