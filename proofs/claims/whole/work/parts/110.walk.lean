theorem dd_M_reckonAll_22 : decode bb_M_reckonAll 22 = .ok (.return_, 1) := by decide +kernel
theorem dd_M_reckonAll_0 : decode bb_M_reckonAll 0 = .ok (.aload_n 0, 1) := by decide +kernel
theorem dd_M_reckonAll_1 : decode bb_M_reckonAll 1 = .ok (.getfield 122, 3) := by decide +kernel
theorem dd_M_reckonAll_4 : decode bb_M_reckonAll 4 = .ok (.ifCond .ne 18, 3) := by decide +kernel
theorem dd_M_reckonAll_7 : decode bb_M_reckonAll 7 = .ok (.aload_n 0, 1) := by decide +kernel
theorem dd_M_reckonAll_8 : decode bb_M_reckonAll 8 = .ok (.iconst 0, 1) := by decide +kernel
theorem dd_M_reckonAll_9 : decode bb_M_reckonAll 9 = .ok (.invokevirtual 199, 3) := by decide +kernel
theorem dd_M_reckonAll_12 : decode bb_M_reckonAll 12 = .ok (.aload_n 0, 1) := by decide +kernel
theorem dd_M_reckonAll_13 : decode bb_M_reckonAll 13 = .ok (.iconst 1, 1) := by decide +kernel
theorem dd_M_reckonAll_14 : decode bb_M_reckonAll 14 = .ok (.invokevirtual 199, 3) := by decide +kernel
theorem dd_M_reckonAll_17 : decode bb_M_reckonAll 17 = .ok (.aload_n 0, 1) := by decide +kernel
theorem dd_M_reckonAll_18 : decode bb_M_reckonAll 18 = .ok (.iconst 1, 1) := by decide +kernel
theorem dd_M_reckonAll_19 : decode bb_M_reckonAll 19 = .ok (.putfield 122, 3) := by decide +kernel
def ww_M_reckonAll : List Cond := .code yy_M_reckonAll bb_M_reckonAll 1 none :: TB
def rm_M_reckonAll : Room := { frames := 3, cells := 0, slots := 0, locals := 76 }
def wp_M_reckonAll_22 (o : Nat) (post : fw_S → Prop) (S : fw_S) : Prop := post S
def wp_M_reckonAll (S : fw_S) (o : Nat) (post : fw_S → Prop) : Prop := ((¬ ((S.1 o 39) = 0) → wp_M_reckonAll_22 o post S) ∧ (((S.1 o 39) = 0) → wp_M_reckon S o 0 (fun S2 => wp_M_reckon S2 o 1 (fun S3 => ∀ S4 : fw_S, S4 = fw_si S3 o 39 1 → wp_M_reckonAll_22 o post S4))))
set_option maxHeartbeats 4000000 in
set_option maxRecDepth 100000 in
theorem mt_M_reckonAll (l : Launch) (D : va_G) (cA : Nat → ClassId) (b : Nat) (S : fw_S) (o : Nat) (ho : o < 245 ∧ layU o = (10, 0)) (post : fw_S → Prop) (hw : wp_M_reckonAll S o post) : Met l yy_M_reckonAll ww_M_reckonAll rm_M_reckonAll (fw_Pc D CL cA (TYS cA) TK layU b 245 S [.ref (b + o)]) (va_Qv post (fw_B D CL cA TK layU b 245) (fw_A b 245)) 0 0 (fw_A b 245) := by
  refine Met.ofW (cc := bb_M_reckonAll) (maxL := 1) (ret := none) (by decide) rfl ?_
  intro p e s m args below meth c s₁ B hml hv
  obtain ⟨rfl, hP, hK⟩ := hv
  have hx := B.exec
  have hb := B.bytes
  have hr := B.returns
  have hts := atoms_spec (ws := ww_M_reckonAll) B.pre
  have hown : s.vm.findClass "OutletOfficeModel" = some m.cls := findClass_of_methodNamed B.named
  have hlocks := B.notSynchronized
  have hS : va_S (fw_A b 245) s.heap s.heap [] := va_S.rf
  have hl := lv_entry ([.ref (b + o)]) (n := 1) (Nat.le_of_ble_eq_true rfl)
  rw [lg_entry_eq]
  generalize (lg_sl ([.ref (b + o)]) ++ List.replicate (1 - (lg_sl ([.ref (b + o)])).length) Slot.unset).toArray = ls at hl ⊢
  have hl : lv_has ls 1 [(0, .ref (b + o))] := hl
  have B22 : ∀ (S : fw_S) (H : Heap) (locs : List Loc) (ls : Array Slot), wp_M_reckonAll_22 o post S → fw_P D CL cA layU b 245 (fw_v TK layU b S) H → va_S (fw_A b 245) s.heap H locs → lv_has ls 1 [(0, .ref (b + o))] → W p l e (headSpec ww_M_reckonAll rm_M_reckonAll).room s m ([.ref (b + o)] : List Value).toArray below meth c H locs 0 0 (MQ below (va_Qv post (fw_B D CL cA TK layU b 245) (fw_A b 245)) ([.ref (b + o)] : List Value).toArray s 0 0 (fw_A b 245)) (F0 m 22 ls []) := by
      intro S H locs ls hw hP hS hl
      unfold wp_M_reckonAll_22 at hw
      exact W.vret hx hb hr (fun t ht hW => ⟨⟨_, rfl, hw, fw_Bof ht hP⟩, hS.F ht⟩) hS.2.2 dd_M_reckonAll_22
  unfold wp_M_reckonAll at hw
  refine lv_aload_n hx hb dd_M_reckonAll_0 rfl (lv_at hl 0 rfl) ?_
  refine fw_geti hx hb hts in_10 hown hK hP ho (by decide) rfl 39 (by decide) (hts _ (tb_in tw_820)) tk_10_39 dd_M_reckonAll_1 ?_
  refine lv_if_ne (tgt := 22) hx hb dd_M_reckonAll_4 (by decide) (fun h1 => ?_) (fun h1 => ?_)
  · have hw := hw.1 h1
    exact B22 S _ _ ls hw hP hS (lv_sub hl [0] rfl)
  · have hw := hw.2 h1
    refine lv_aload_n hx hb dd_M_reckonAll_7 rfl (lv_at hl 0 rfl) ?_
    refine lv_iconst (v := 0) hx hb dd_M_reckonAll_8 kc_ic_0 ?_
    refine fw_callv (va_runV (As := [.int 0]) (rest := []) ⟨hx, hb, hml, hown, hts⟩ (mt_M_reckon l D cA b S o 0 ho _ hw) (cwV 1 hts (fw_gV tw_1031 tw_1028 tw_1030 ts_27 tw_11) rfl rfl rfl (by decide +kernel) ⟨Nat.le_of_ble_eq_true rfl, Nat.le_of_ble_eq_true rfl⟩) (fw_preV hP hK ho (by decide) rfl) rfl rfl hl.1 rfl (lv_room (Nat.le_of_ble_eq_true rfl)) dd_M_reckonAll_9 ⟨Nat.le_of_ble_eq_true rfl, Nat.le_of_ble_eq_true rfl⟩) hS (fun S2 H locs hw hP hS => ?_)
    try dsimp only at hw
    refine lv_aload_n hx hb dd_M_reckonAll_12 rfl (lv_at hl 0 rfl) ?_
    refine lv_iconst (v := 1) hx hb dd_M_reckonAll_13 kc_ic_1 ?_
    refine fw_callv (va_runV (As := [.int 1]) (rest := []) ⟨hx, hb, hml, hown, hts⟩ (mt_M_reckon l D cA b S2 o 1 ho _ hw) (cwV 1 hts (fw_gV tw_1031 tw_1028 tw_1030 ts_27 tw_11) rfl rfl rfl (by decide +kernel) ⟨Nat.le_of_ble_eq_true rfl, Nat.le_of_ble_eq_true rfl⟩) (fw_preV hP hK ho (by decide) rfl) rfl rfl hl.1 rfl (lv_room (Nat.le_of_ble_eq_true rfl)) dd_M_reckonAll_14 ⟨Nat.le_of_ble_eq_true rfl, Nat.le_of_ble_eq_true rfl⟩) hS (fun S3 H locs hw hP hS => ?_)
    try dsimp only at hw
    refine lv_aload_n hx hb dd_M_reckonAll_17 rfl (lv_at hl 0 rfl) ?_
    refine lv_iconst (v := 1) hx hb dd_M_reckonAll_18 kc_ic_1 ?_
    refine fw_puti hx hb hts in_10 F_ty_10 F_tyok_10 F_nm_10 hown hK hP hS (fw_A.in ho.1) ho (by decide) rfl 39 (by decide) (hts _ (tb_in tw_820)) rfl tk_10_39 (ty := .boolean) (by decide +kernel) rfl rfl dd_M_reckonAll_19 (fun H locs hP hS => ?_)
    obtain ⟨S4, e_S4⟩ : ∃ z, z = fw_si S3 o 39 1 := ⟨_, rfl⟩
    rw [← e_S4] at hP
    have hw := hw S4 e_S4
    exact B22 S4 _ _ ls hw hP hS (lv_sub hl [0] rfl)
theorem dd_M_second_6 : decode bb_M_second 6 = .ok (.iload_n 1, 1) := by decide +kernel
theorem dd_M_second_7 : decode bb_M_second 7 = .ok (.bipush 6, 2) := by decide +kernel
theorem dd_M_second_9 : decode bb_M_second 9 = .ok (.if_icmp .ge 99, 3) := by decide +kernel
theorem dd_M_second_108 : decode bb_M_second 108 = .ok (.aload_n 0, 1) := by decide +kernel
theorem dd_M_second_109 : decode bb_M_second 109 = .ok (.dup, 1) := by decide +kernel
theorem dd_M_second_110 : decode bb_M_second 110 = .ok (.getfield 144, 3) := by decide +kernel
theorem dd_M_second_113 : decode bb_M_second 113 = .ok (.iconst 1, 1) := by decide +kernel
theorem dd_M_second_114 : decode bb_M_second 114 = .ok (.iadd, 1) := by decide +kernel
theorem dd_M_second_115 : decode bb_M_second 115 = .ok (.putfield 144, 3) := by decide +kernel
theorem dd_M_second_118 : decode bb_M_second 118 = .ok (.aload_n 0, 1) := by decide +kernel
theorem dd_M_second_119 : decode bb_M_second 119 = .ok (.aload_n 0, 1) := by decide +kernel
theorem dd_M_second_120 : decode bb_M_second 120 = .ok (.getfield 122, 3) := by decide +kernel
theorem dd_M_second_123 : decode bb_M_second 123 = .ok (.ifCond .eq 18, 3) := by decide +kernel
theorem dd_M_second_126 : decode bb_M_second 126 = .ok (.aload_n 0, 1) := by decide +kernel
theorem dd_M_second_127 : decode bb_M_second 127 = .ok (.getfield 144, 3) := by decide +kernel
theorem dd_M_second_130 : decode bb_M_second 130 = .ok (.sipush 900, 3) := by decide +kernel
theorem dd_M_second_133 : decode bb_M_second 133 = .ok (.irem, 1) := by decide +kernel
theorem dd_M_second_134 : decode bb_M_second 134 = .ok (.ifCond .eq 7, 3) := by decide +kernel
theorem dd_M_second_137 : decode bb_M_second 137 = .ok (.iconst 1, 1) := by decide +kernel
theorem dd_M_second_138 : decode bb_M_second 138 = .ok (.goto 4, 3) := by decide +kernel
theorem dd_M_second_12 : decode bb_M_second 12 = .ok (.aload_n 0, 1) := by decide +kernel
theorem dd_M_second_13 : decode bb_M_second 13 = .ok (.iload_n 1, 1) := by decide +kernel
theorem dd_M_second_14 : decode bb_M_second 14 = .ok (.invokevirtual 151, 3) := by decide +kernel
theorem dd_M_second_17 : decode bb_M_second 17 = .ok (.ifCond .eq 85, 3) := by decide +kernel
theorem dd_M_second_20 : decode bb_M_second 20 = .ok (.ldc2_w 205, 3) := by decide +kernel
theorem dd_M_second_23 : decode bb_M_second 23 = .ok (.aload_n 0, 1) := by decide +kernel
theorem dd_M_second_24 : decode bb_M_second 24 = .ok (.getfield 111, 3) := by decide +kernel
theorem dd_M_second_27 : decode bb_M_second 27 = .ok (.iload_n 1, 1) := by decide +kernel
theorem dd_M_second_28 : decode bb_M_second 28 = .ok (.iaload, 1) := by decide +kernel
theorem dd_M_second_29 : decode bb_M_second 29 = .ok (.i2l, 1) := by decide +kernel
theorem dd_M_second_30 : decode bb_M_second 30 = .ok (.lmul, 1) := by decide +kernel
theorem dd_M_second_31 : decode bb_M_second 31 = .ok (.lstore_n 2, 1) := by decide +kernel
theorem dd_M_second_32 : decode bb_M_second 32 = .ok (.aload_n 0, 1) := by decide +kernel
theorem dd_M_second_33 : decode bb_M_second 33 = .ok (.getfield 72, 3) := by decide +kernel
theorem dd_M_second_36 : decode bb_M_second 36 = .ok (.iload_n 1, 1) := by decide +kernel
theorem dd_M_second_37 : decode bb_M_second 37 = .ok (.laload, 1) := by decide +kernel
theorem dd_M_second_38 : decode bb_M_second 38 = .ok (.lstore 4, 2) := by decide +kernel
theorem dd_M_second_40 : decode bb_M_second 40 = .ok (.aload_n 0, 1) := by decide +kernel
theorem dd_M_second_41 : decode bb_M_second 41 = .ok (.getfield 32, 3) := by decide +kernel
theorem dd_M_second_44 : decode bb_M_second 44 = .ok (.iload_n 1, 1) := by decide +kernel
theorem dd_M_second_45 : decode bb_M_second 45 = .ok (.dup2, 1) := by decide +kernel
theorem dd_M_second_46 : decode bb_M_second 46 = .ok (.laload, 1) := by decide +kernel
theorem dd_M_second_47 : decode bb_M_second 47 = .ok (.lload_n 2, 1) := by decide +kernel
theorem dd_M_second_48 : decode bb_M_second 48 = .ok (.ladd, 1) := by decide +kernel
theorem dd_M_second_49 : decode bb_M_second 49 = .ok (.lastore, 1) := by decide +kernel
theorem dd_M_second_50 : decode bb_M_second 50 = .ok (.aload_n 0, 1) := by decide +kernel
theorem dd_M_second_51 : decode bb_M_second 51 = .ok (.getfield 72, 3) := by decide +kernel
theorem dd_M_second_54 : decode bb_M_second 54 = .ok (.iload_n 1, 1) := by decide +kernel
theorem dd_M_second_55 : decode bb_M_second 55 = .ok (.dup2, 1) := by decide +kernel
theorem dd_M_second_56 : decode bb_M_second 56 = .ok (.laload, 1) := by decide +kernel
theorem dd_M_second_57 : decode bb_M_second 57 = .ok (.lload_n 2, 1) := by decide +kernel
theorem dd_M_second_58 : decode bb_M_second 58 = .ok (.lsub, 1) := by decide +kernel
theorem dd_M_second_59 : decode bb_M_second 59 = .ok (.lastore, 1) := by decide +kernel
theorem dd_M_second_60 : decode bb_M_second 60 = .ok (.lload 4, 2) := by decide +kernel
theorem dd_M_second_62 : decode bb_M_second 62 = .ok (.lconst 0, 1) := by decide +kernel
theorem dd_M_second_63 : decode bb_M_second 63 = .ok (.lcmp, 1) := by decide +kernel
theorem dd_M_second_64 : decode bb_M_second 64 = .ok (.ifCond .le 38, 3) := by decide +kernel
theorem dd_M_second_67 : decode bb_M_second 67 = .ok (.aload_n 0, 1) := by decide +kernel
theorem dd_M_second_68 : decode bb_M_second 68 = .ok (.getfield 72, 3) := by decide +kernel
theorem dd_M_second_71 : decode bb_M_second 71 = .ok (.iload_n 1, 1) := by decide +kernel
theorem dd_M_second_72 : decode bb_M_second 72 = .ok (.laload, 1) := by decide +kernel
theorem dd_M_second_73 : decode bb_M_second 73 = .ok (.lconst 0, 1) := by decide +kernel
theorem dd_M_second_74 : decode bb_M_second 74 = .ok (.lcmp, 1) := by decide +kernel
theorem dd_M_second_75 : decode bb_M_second 75 = .ok (.ifCond .gt 27, 3) := by decide +kernel
theorem dd_M_second_78 : decode bb_M_second 78 = .ok (.aload_n 0, 1) := by decide +kernel
theorem dd_M_second_79 : decode bb_M_second 79 = .ok (.getfield 75, 3) := by decide +kernel
theorem dd_M_second_82 : decode bb_M_second 82 = .ok (.iload_n 1, 1) := by decide +kernel
theorem dd_M_second_83 : decode bb_M_second 83 = .ok (.iconst 1, 1) := by decide +kernel
theorem dd_M_second_84 : decode bb_M_second 84 = .ok (.bastore, 1) := by decide +kernel
theorem dd_M_second_85 : decode bb_M_second 85 = .ok (.aload_n 0, 1) := by decide +kernel
theorem dd_M_second_86 : decode bb_M_second 86 = .ok (.getfield 78, 3) := by decide +kernel
theorem dd_M_second_89 : decode bb_M_second 89 = .ok (.iload_n 1, 1) := by decide +kernel
theorem dd_M_second_90 : decode bb_M_second 90 = .ok (.aload_n 0, 1) := by decide +kernel
theorem dd_M_second_91 : decode bb_M_second 91 = .ok (.getfield 144, 3) := by decide +kernel
theorem dd_M_second_94 : decode bb_M_second 94 = .ok (.iconst 1, 1) := by decide +kernel
theorem dd_M_second_95 : decode bb_M_second 95 = .ok (.iadd, 1) := by decide +kernel
theorem dd_M_second_96 : decode bb_M_second 96 = .ok (.iastore, 1) := by decide +kernel
theorem dd_M_second_97 : decode bb_M_second 97 = .ok (.aload_n 0, 1) := by decide +kernel
theorem dd_M_second_98 : decode bb_M_second 98 = .ok (.iconst 0, 1) := by decide +kernel
theorem dd_M_second_99 : decode bb_M_second 99 = .ok (.putfield 122, 3) := by decide +kernel
theorem dd_M_second_102 : decode bb_M_second 102 = .ok (.iinc 1 1, 3) := by decide +kernel
theorem dd_M_second_105 : decode bb_M_second 105 = .ok (.goto (-99), 3) := by decide +kernel
theorem dd_M_second_141 : decode bb_M_second 141 = .ok (.iconst 0, 1) := by decide +kernel
theorem dd_M_second_142 : decode bb_M_second 142 = .ok (.putfield 122, 3) := by decide +kernel
theorem dd_M_second_145 : decode bb_M_second 145 = .ok (.iconst 0, 1) := by decide +kernel
theorem dd_M_second_146 : decode bb_M_second 146 = .ok (.istore_n 1, 1) := by decide +kernel
theorem dd_M_second_147 : decode bb_M_second 147 = .ok (.iload_n 1, 1) := by decide +kernel
theorem dd_M_second_148 : decode bb_M_second 148 = .ok (.bipush 6, 2) := by decide +kernel
theorem dd_M_second_150 : decode bb_M_second 150 = .ok (.if_icmp .ge 45, 3) := by decide +kernel
theorem dd_M_second_195 : decode bb_M_second 195 = .ok (.iconst 0, 1) := by decide +kernel
theorem dd_M_second_196 : decode bb_M_second 196 = .ok (.istore_n 1, 1) := by decide +kernel
theorem dd_M_second_153 : decode bb_M_second 153 = .ok (.aload_n 0, 1) := by decide +kernel
theorem dd_M_second_154 : decode bb_M_second 154 = .ok (.getfield 144, 3) := by decide +kernel
theorem dd_M_second_157 : decode bb_M_second 157 = .ok (.bipush 60, 2) := by decide +kernel
theorem dd_M_second_159 : decode bb_M_second 159 = .ok (.irem, 1) := by decide +kernel
theorem dd_M_second_160 : decode bb_M_second 160 = .ok (.ifCond .ne 29, 3) := by decide +kernel
theorem dd_M_second_163 : decode bb_M_second 163 = .ok (.aload_n 0, 1) := by decide +kernel
theorem dd_M_second_164 : decode bb_M_second 164 = .ok (.iload_n 1, 1) := by decide +kernel
theorem dd_M_second_165 : decode bb_M_second 165 = .ok (.invokevirtual 151, 3) := by decide +kernel
theorem dd_M_second_168 : decode bb_M_second 168 = .ok (.ifCond .eq 21, 3) := by decide +kernel
theorem dd_M_second_171 : decode bb_M_second 171 = .ok (.aload_n 0, 1) := by decide +kernel
theorem dd_M_second_172 : decode bb_M_second 172 = .ok (.getfield 45, 3) := by decide +kernel
theorem dd_M_second_175 : decode bb_M_second 175 = .ok (.iload_n 1, 1) := by decide +kernel
theorem dd_M_second_176 : decode bb_M_second 176 = .ok (.iaload, 1) := by decide +kernel
theorem dd_M_second_177 : decode bb_M_second 177 = .ok (.bipush 22, 2) := by decide +kernel
theorem dd_M_second_179 : decode bb_M_second 179 = .ok (.if_icmp .ge 10, 3) := by decide +kernel
theorem dd_M_second_182 : decode bb_M_second 182 = .ok (.aload_n 0, 1) := by decide +kernel
theorem dd_M_second_183 : decode bb_M_second 183 = .ok (.iload_n 1, 1) := by decide +kernel
theorem dd_M_second_184 : decode bb_M_second 184 = .ok (.iconst 2, 1) := by decide +kernel
theorem dd_M_second_185 : decode bb_M_second 185 = .ok (.iconst 0, 1) := by decide +kernel
theorem dd_M_second_186 : decode bb_M_second 186 = .ok (.invokevirtual 147, 3) := by decide +kernel
theorem dd_M_second_189 : decode bb_M_second 189 = .ok (.iinc 1 1, 3) := by decide +kernel
theorem dd_M_second_192 : decode bb_M_second 192 = .ok (.goto (-45), 3) := by decide +kernel
theorem dd_M_second_197 : decode bb_M_second 197 = .ok (.iload_n 1, 1) := by decide +kernel
theorem dd_M_second_198 : decode bb_M_second 198 = .ok (.bipush 6, 2) := by decide +kernel
theorem dd_M_second_200 : decode bb_M_second 200 = .ok (.if_icmp .ge 97, 3) := by decide +kernel
theorem dd_M_second_297 : decode bb_M_second 297 = .ok (.return_, 1) := by decide +kernel
theorem dd_M_second_203 : decode bb_M_second 203 = .ok (.aload_n 0, 1) := by decide +kernel
theorem dd_M_second_204 : decode bb_M_second 204 = .ok (.getfield 25, 3) := by decide +kernel
theorem dd_M_second_207 : decode bb_M_second 207 = .ok (.iload_n 1, 1) := by decide +kernel
theorem dd_M_second_208 : decode bb_M_second 208 = .ok (.baload, 1) := by decide +kernel
theorem dd_M_second_209 : decode bb_M_second 209 = .ok (.ifCond .eq 34, 3) := by decide +kernel
theorem dd_M_second_212 : decode bb_M_second 212 = .ok (.aload_n 0, 1) := by decide +kernel
theorem dd_M_second_213 : decode bb_M_second 213 = .ok (.getfield 29, 3) := by decide +kernel
theorem dd_M_second_216 : decode bb_M_second 216 = .ok (.iload_n 1, 1) := by decide +kernel
theorem dd_M_second_217 : decode bb_M_second 217 = .ok (.baload, 1) := by decide +kernel
theorem dd_M_second_218 : decode bb_M_second 218 = .ok (.ifCond .eq 25, 3) := by decide +kernel
theorem dd_M_second_221 : decode bb_M_second 221 = .ok (.aload_n 0, 1) := by decide +kernel
theorem dd_M_second_222 : decode bb_M_second 222 = .ok (.getfield 45, 3) := by decide +kernel
theorem dd_M_second_225 : decode bb_M_second 225 = .ok (.iload_n 1, 1) := by decide +kernel
theorem dd_M_second_226 : decode bb_M_second 226 = .ok (.iaload, 1) := by decide +kernel
theorem dd_M_second_227 : decode bb_M_second 227 = .ok (.ifCond .le 16, 3) := by decide +kernel
theorem dd_M_second_230 : decode bb_M_second 230 = .ok (.aload_n 0, 1) := by decide +kernel
theorem dd_M_second_231 : decode bb_M_second 231 = .ok (.getfield 54, 3) := by decide +kernel
theorem dd_M_second_234 : decode bb_M_second 234 = .ok (.iload_n 1, 1) := by decide +kernel
theorem dd_M_second_235 : decode bb_M_second 235 = .ok (.iaload, 1) := by decide +kernel
theorem dd_M_second_236 : decode bb_M_second 236 = .ok (.ifCond .ne 7, 3) := by decide +kernel
theorem dd_M_second_239 : decode bb_M_second 239 = .ok (.iconst 1, 1) := by decide +kernel
theorem dd_M_second_240 : decode bb_M_second 240 = .ok (.goto 4, 3) := by decide +kernel
theorem dd_M_second_243 : decode bb_M_second 243 = .ok (.iconst 0, 1) := by decide +kernel
theorem dd_M_second_244 : decode bb_M_second 244 = .ok (.istore_n 2, 1) := by decide +kernel
theorem dd_M_second_245 : decode bb_M_second 245 = .ok (.iload_n 2, 1) := by decide +kernel
theorem dd_M_second_246 : decode bb_M_second 246 = .ok (.ifCond .eq 45, 3) := by decide +kernel
theorem dd_M_second_249 : decode bb_M_second 249 = .ok (.aload_n 0, 1) := by decide +kernel
theorem dd_M_second_250 : decode bb_M_second 250 = .ok (.getfield 51, 3) := by decide +kernel
theorem dd_M_second_253 : decode bb_M_second 253 = .ok (.iload_n 1, 1) := by decide +kernel
theorem dd_M_second_254 : decode bb_M_second 254 = .ok (.iaload, 1) := by decide +kernel
theorem dd_M_second_255 : decode bb_M_second 255 = .ok (.ifCond .lt 19, 3) := by decide +kernel
theorem dd_M_second_258 : decode bb_M_second 258 = .ok (.aload_n 0, 1) := by decide +kernel
theorem dd_M_second_259 : decode bb_M_second 259 = .ok (.getfield 144, 3) := by decide +kernel
theorem dd_M_second_262 : decode bb_M_second 262 = .ok (.aload_n 0, 1) := by decide +kernel
theorem dd_M_second_263 : decode bb_M_second 263 = .ok (.getfield 51, 3) := by decide +kernel
theorem dd_M_second_266 : decode bb_M_second 266 = .ok (.iload_n 1, 1) := by decide +kernel
theorem dd_M_second_267 : decode bb_M_second 267 = .ok (.iaload, 1) := by decide +kernel
theorem dd_M_second_268 : decode bb_M_second 268 = .ok (.isub, 1) := by decide +kernel
theorem dd_M_second_269 : decode bb_M_second 269 = .ok (.bipush 20, 2) := by decide +kernel
theorem dd_M_second_271 : decode bb_M_second 271 = .ok (.if_icmp .lt 20, 3) := by decide +kernel
theorem dd_M_second_274 : decode bb_M_second 274 = .ok (.aload_n 0, 1) := by decide +kernel
theorem dd_M_second_275 : decode bb_M_second 275 = .ok (.getfield 54, 3) := by decide +kernel
theorem dd_M_second_278 : decode bb_M_second 278 = .ok (.iload_n 1, 1) := by decide +kernel
theorem dd_M_second_279 : decode bb_M_second 279 = .ok (.iconst 1, 1) := by decide +kernel
theorem dd_M_second_280 : decode bb_M_second 280 = .ok (.iastore, 1) := by decide +kernel
theorem dd_M_second_281 : decode bb_M_second 281 = .ok (.aload_n 0, 1) := by decide +kernel
theorem dd_M_second_282 : decode bb_M_second 282 = .ok (.getfield 51, 3) := by decide +kernel
theorem dd_M_second_285 : decode bb_M_second 285 = .ok (.iload_n 1, 1) := by decide +kernel
theorem dd_M_second_286 : decode bb_M_second 286 = .ok (.aload_n 0, 1) := by decide +kernel
theorem dd_M_second_287 : decode bb_M_second 287 = .ok (.getfield 144, 3) := by decide +kernel
theorem dd_M_second_290 : decode bb_M_second 290 = .ok (.iastore, 1) := by decide +kernel
theorem dd_M_second_291 : decode bb_M_second 291 = .ok (.iinc 1 1, 3) := by decide +kernel
theorem dd_M_second_294 : decode bb_M_second 294 = .ok (.goto (-97), 3) := by decide +kernel
theorem dd_M_second_0 : decode bb_M_second 0 = .ok (.aload_n 0, 1) := by decide +kernel
theorem dd_M_second_1 : decode bb_M_second 1 = .ok (.invokevirtual 202, 3) := by decide +kernel
theorem dd_M_second_4 : decode bb_M_second 4 = .ok (.iconst 0, 1) := by decide +kernel
theorem dd_M_second_5 : decode bb_M_second 5 = .ok (.istore_n 1, 1) := by decide +kernel
def ww_M_second : List Cond := .code yy_M_second bb_M_second 6 none :: TB
def rm_M_second : Room := { frames := 4, cells := 0, slots := 0, locals := 96 }
def wp_M_second_102 (o : Nat) (post : fw_S → Prop) (k6 : fw_S → Int32 → Prop) (S : fw_S) (x1 : Int32) : Prop := ∀ v1 : Int32, v1 = x1 + 1 → k6 S v1
def wp_M_second_189 (o : Nat) (post : fw_S → Prop) (k147 : fw_S → Int32 → Prop) (S : fw_S) (x1 : Int32) : Prop := ∀ v1 : Int32, v1 = x1 + 1 → k147 S v1
def wp_M_second_291 (o : Nat) (post : fw_S → Prop) (k197 : fw_S → Int32 → Prop) (S : fw_S) (x1 : Int32) (x2 : Int32) : Prop := ∀ v1 : Int32, v1 = x1 + 1 → k197 S v1
def wp_M_second_274 (o : Nat) (post : fw_S → Prop) (k197 : fw_S → Int32 → Prop) (S : fw_S) (x1 : Int32) (x2 : Int32) : Prop := vp_in x1 6 ∧ (∀ S2 : fw_S, S2 = fw_si S (o + 15) x1.toNatClampNeg 1 → vp_in x1 6 ∧ (∀ S4 : fw_S, S4 = fw_si S2 (o + 14) x1.toNatClampNeg (S2.1 o 1) → wp_M_second_291 o post k197 S4 x1 x2))
def wp_M_second_244 (o : Nat) (post : fw_S → Prop) (k197 : fw_S → Int32 → Prop) (S : fw_S) (x1 : Int32) (p0 : Int32) : Prop := (((p0 = 0) → wp_M_second_291 o post k197 S x1 p0) ∧ (¬ (p0 = 0) → vp_in x1 6 ∧ (((((S.1 (o + 14) x1.toNatClampNeg) < 0) → wp_M_second_274 o post k197 S x1 p0) ∧ (¬ ((S.1 (o + 14) x1.toNatClampNeg) < 0) → vp_in x1 6 ∧ ((((((S.1 o 1) - (S.1 (o + 14) x1.toNatClampNeg)) < 20) → wp_M_second_291 o post k197 S x1 p0) ∧ (¬ (((S.1 o 1) - (S.1 (o + 14) x1.toNatClampNeg)) < 20) → wp_M_second_274 o post k197 S x1 p0))))))))
def wp_M_second_243 (o : Nat) (post : fw_S → Prop) (k197 : fw_S → Int32 → Prop) (S : fw_S) (x1 : Int32) : Prop := wp_M_second_244 o post k197 S x1 0
def wp_M_second_197 (o : Nat) (post : fw_S → Prop) : Nat → fw_S → Int32 → Prop
  | 0, _, _ => False
  | f + 1, S, x1 => (((6 ≤ x1) → post S) ∧ (¬ (6 ≤ x1) → vp_in x1 6 ∧ (((((S.1 (o + 6) x1.toNatClampNeg) = 0) → wp_M_second_243 o post (fun S x1 => wp_M_second_197 o post f S x1) S x1) ∧ (¬ ((S.1 (o + 6) x1.toNatClampNeg) = 0) → vp_in x1 6 ∧ (((((S.1 (o + 7) x1.toNatClampNeg) = 0) → wp_M_second_243 o post (fun S x1 => wp_M_second_197 o post f S x1) S x1) ∧ (¬ ((S.1 (o + 7) x1.toNatClampNeg) = 0) → vp_in x1 6 ∧ (((((S.1 (o + 12) x1.toNatClampNeg) ≤ 0) → wp_M_second_243 o post (fun S x1 => wp_M_second_197 o post f S x1) S x1) ∧ (¬ ((S.1 (o + 12) x1.toNatClampNeg) ≤ 0) → vp_in x1 6 ∧ (((¬ ((S.1 (o + 15) x1.toNatClampNeg) = 0) → wp_M_second_243 o post (fun S x1 => wp_M_second_197 o post f S x1) S x1) ∧ (((S.1 (o + 15) x1.toNatClampNeg) = 0) → wp_M_second_244 o post (fun S x1 => wp_M_second_197 o post f S x1) S x1 1))))))))))))))
def wp_M_second_147 (o : Nat) (post : fw_S → Prop) : Nat → fw_S → Int32 → Prop
  | 0, _, _ => False
  | f + 1, S, x1 => (((6 ≤ x1) → ∃ f0, wp_M_second_197 o post f0 S 0) ∧ (¬ (6 ≤ x1) → ((¬ (((S.1 o 1) - (S.1 o 1) / 60 * 60) = 0) → wp_M_second_189 o post (fun S x1 => wp_M_second_147 o post f S x1) S x1) ∧ ((((S.1 o 1) - (S.1 o 1) / 60 * 60) = 0) → wp_M_runs S o x1 (fun S3 r4 => (((r4 = 0) → wp_M_second_189 o post (fun S x1 => wp_M_second_147 o post f S x1) S3 x1) ∧ (¬ (r4 = 0) → vp_in x1 6 ∧ ((((22 ≤ (S3.1 (o + 12) x1.toNatClampNeg)) → wp_M_second_189 o post (fun S x1 => wp_M_second_147 o post f S x1) S3 x1) ∧ (¬ (22 ≤ (S3.1 (o + 12) x1.toNatClampNeg)) → wp_M_put S3 o x1 2 0 (fun S8 => wp_M_second_189 o post (fun S x1 => wp_M_second_147 o post f S x1) S8 x1)))))))))))
def wp_M_second_142 (o : Nat) (post : fw_S → Prop) (S : fw_S) (x1 : Int32) (p0 : Int32) : Prop := fw_bz p0 ∧ (∀ S2 : fw_S, S2 = fw_si S o 39 p0 → ∃ f0, wp_M_second_147 o post f0 S2 0)
def wp_M_second_141 (o : Nat) (post : fw_S → Prop) (S : fw_S) (x1 : Int32) : Prop := wp_M_second_142 o post S x1 0
def wp_M_second_6 (o : Nat) (post : fw_S → Prop) : Nat → fw_S → Int32 → Prop
  | 0, _, _ => False
  | f + 1, S, x1 => (((6 ≤ x1) → ∀ S2 : fw_S, S2 = fw_si S o 1 ((S.1 o 1) + 1) → ((((S2.1 o 39) = 0) → wp_M_second_141 o post S2 x1) ∧ (¬ ((S2.1 o 39) = 0) → (((((S2.1 o 1) - (S2.1 o 1) / 900 * 900) = 0) → wp_M_second_141 o post S2 x1) ∧ (¬ (((S2.1 o 1) - (S2.1 o 1) / 900 * 900) = 0) → wp_M_second_142 o post S2 x1 1))))) ∧ (¬ (6 ≤ x1) → wp_M_runs S o x1 (fun S5 r6 => (((r6 = 0) → wp_M_second_102 o post (fun S x1 => wp_M_second_6 o post f S x1) S5 x1) ∧ (¬ (r6 = 0) → vp_in x1 6 ∧ (∀ v9 : Int64, v9 = (23 * ((S5.1 (o + 34) x1.toNatClampNeg : Int32).toInt64)) → vp_in x1 6 ∧ (∀ v11 : Int64, v11 = (S5.2 (o + 21) x1.toNatClampNeg) → vp_in x1 6 ∧ (vp_in x1 6 ∧ (∀ S14 : fw_S, S14 = fw_sl S5 (o + 8) x1.toNatClampNeg ((S5.2 (o + 8) x1.toNatClampNeg) + v9) → vp_in x1 6 ∧ (vp_in x1 6 ∧ (∀ S17 : fw_S, S17 = fw_sl S14 (o + 21) x1.toNatClampNeg ((S14.2 (o + 21) x1.toNatClampNeg) - v9) → ((((lg_cmp v11 0) ≤ 0) → wp_M_second_102 o post (fun S x1 => wp_M_second_6 o post f S x1) S17 x1) ∧ (¬ ((lg_cmp v11 0) ≤ 0) → vp_in x1 6 ∧ (((((0 : Int32) < (lg_cmp (S17.2 (o + 21) x1.toNatClampNeg) 0)) → wp_M_second_102 o post (fun S x1 => wp_M_second_6 o post f S x1) S17 x1) ∧ (¬ ((0 : Int32) < (lg_cmp (S17.2 (o + 21) x1.toNatClampNeg) 0)) → vp_in x1 6 ∧ (∀ S22 : fw_S, S22 = fw_si S17 (o + 22) x1.toNatClampNeg (fw_z 1) → vp_in x1 6 ∧ (∀ S24 : fw_S, S24 = fw_si S22 (o + 23) x1.toNatClampNeg ((S22.1 o 1) + 1) → ∀ S25 : fw_S, S25 = fw_si S24 o 39 0 → wp_M_second_102 o post (fun S x1 => wp_M_second_6 o post f S x1) S25 x1))))))))))))))))))
def wp_M_second (S : fw_S) (o : Nat) (post : fw_S → Prop) : Prop := wp_M_reckonAll S o (fun S1 => ∃ f0, wp_M_second_6 o post f0 S1 0)
set_option maxHeartbeats 4000000 in
set_option maxRecDepth 100000 in
theorem mt_M_second (l : Launch) (D : va_G) (cA : Nat → ClassId) (b : Nat) (S : fw_S) (o : Nat) (ho : o < 245 ∧ layU o = (10, 0)) (post : fw_S → Prop) (hw : wp_M_second S o post) : Met l yy_M_second ww_M_second rm_M_second (fw_Pc D CL cA (TYS cA) TK layU b 245 S [.ref (b + o)]) (va_Qv post (fw_B D CL cA TK layU b 245) (fw_A b 245)) 0 0 (fw_A b 245) := by
  refine Met.ofW (cc := bb_M_second) (maxL := 6) (ret := none) (by decide) rfl ?_
  intro p e s m args below meth c s₁ B hml hv
  obtain ⟨rfl, hP, hK⟩ := hv
  have hx := B.exec
  have hb := B.bytes
  have hr := B.returns
  have hts := atoms_spec (ws := ww_M_second) B.pre
  have hown : s.vm.findClass "OutletOfficeModel" = some m.cls := findClass_of_methodNamed B.named
  have hlocks := B.notSynchronized
  have hS : va_S (fw_A b 245) s.heap s.heap [] := va_S.rf
  have hl := lv_entry ([.ref (b + o)]) (n := 6) (Nat.le_of_ble_eq_true rfl)
  rw [lg_entry_eq]
  generalize (lg_sl ([.ref (b + o)]) ++ List.replicate (6 - (lg_sl ([.ref (b + o)])).length) Slot.unset).toArray = ls at hl ⊢
  have hl : lv_has ls 6 [(0, .ref (b + o))] := hl
  have B102 : ∀ (k6 : fw_S → Int32 → Prop), (∀ (S : fw_S) (x1 : Int32) (H : Heap) (locs : List Loc) (ls : Array Slot), k6 S x1 → fw_P D CL cA layU b 245 (fw_v TK layU b S) H → va_S (fw_A b 245) s.heap H locs → lv_has ls 6 [(0, .ref (b + o)), (1, .int x1)] → W p l e (headSpec ww_M_second rm_M_second).room s m ([.ref (b + o)] : List Value).toArray below meth c H locs 0 0 (MQ below (va_Qv post (fw_B D CL cA TK layU b 245) (fw_A b 245)) ([.ref (b + o)] : List Value).toArray s 0 0 (fw_A b 245)) (F0 m 6 ls [])) → ∀ (S : fw_S) (x1 : Int32) (H : Heap) (locs : List Loc) (ls : Array Slot), wp_M_second_102 o post k6 S x1 → fw_P D CL cA layU b 245 (fw_v TK layU b S) H → va_S (fw_A b 245) s.heap H locs → lv_has ls 6 [(0, .ref (b + o)), (1, .int x1)] → W p l e (headSpec ww_M_second rm_M_second).room s m ([.ref (b + o)] : List Value).toArray below meth c H locs 0 0 (MQ below (va_Qv post (fw_B D CL cA TK layU b 245) (fw_A b 245)) ([.ref (b + o)] : List Value).toArray s 0 0 (fw_A b 245)) (F0 m 102 ls []) := by
      intro k6 K6 S x1 H locs ls hw hP hS hl
      unfold wp_M_second_102 at hw
      obtain ⟨v1, e_v1⟩ : ∃ z : Int32, z = x1 + 1 := ⟨_, rfl⟩
      have hw := hw v1 e_v1
      refine lv_iinc hx hb dd_M_second_102 hl (k := 1) rfl (show x1 + Int32.ofInt 1 = v1 by rw [kc_ii_1, e_v1]) (Nat.le_of_ble_eq_true rfl) rfl (fun ls hl => ?_)
      have hl : lv_has ls 6 [(1, .int v1), (0, .ref (b + o))] := hl
      refine lv_goto (tgt := 6) hx hb dd_M_second_105 (by decide) ?_
      exact K6 S v1 _ _ ls hw hP hS (lv_sub hl [1, 0] rfl)
  have B189 : ∀ (k147 : fw_S → Int32 → Prop), (∀ (S : fw_S) (x1 : Int32) (H : Heap) (locs : List Loc) (ls : Array Slot), k147 S x1 → fw_P D CL cA layU b 245 (fw_v TK layU b S) H → va_S (fw_A b 245) s.heap H locs → lv_has ls 6 [(0, .ref (b + o)), (1, .int x1)] → W p l e (headSpec ww_M_second rm_M_second).room s m ([.ref (b + o)] : List Value).toArray below meth c H locs 0 0 (MQ below (va_Qv post (fw_B D CL cA TK layU b 245) (fw_A b 245)) ([.ref (b + o)] : List Value).toArray s 0 0 (fw_A b 245)) (F0 m 147 ls [])) → ∀ (S : fw_S) (x1 : Int32) (H : Heap) (locs : List Loc) (ls : Array Slot), wp_M_second_189 o post k147 S x1 → fw_P D CL cA layU b 245 (fw_v TK layU b S) H → va_S (fw_A b 245) s.heap H locs → lv_has ls 6 [(0, .ref (b + o)), (1, .int x1)] → W p l e (headSpec ww_M_second rm_M_second).room s m ([.ref (b + o)] : List Value).toArray below meth c H locs 0 0 (MQ below (va_Qv post (fw_B D CL cA TK layU b 245) (fw_A b 245)) ([.ref (b + o)] : List Value).toArray s 0 0 (fw_A b 245)) (F0 m 189 ls []) := by
      intro k147 K147 S x1 H locs ls hw hP hS hl
      unfold wp_M_second_189 at hw
      obtain ⟨v1, e_v1⟩ : ∃ z : Int32, z = x1 + 1 := ⟨_, rfl⟩
      have hw := hw v1 e_v1
      refine lv_iinc hx hb dd_M_second_189 hl (k := 1) rfl (show x1 + Int32.ofInt 1 = v1 by rw [kc_ii_1, e_v1]) (Nat.le_of_ble_eq_true rfl) rfl (fun ls hl => ?_)
      have hl : lv_has ls 6 [(1, .int v1), (0, .ref (b + o))] := hl
      refine lv_goto (tgt := 147) hx hb dd_M_second_192 (by decide) ?_
      exact K147 S v1 _ _ ls hw hP hS (lv_sub hl [1, 0] rfl)
  have B291 : ∀ (k197 : fw_S → Int32 → Prop), (∀ (S : fw_S) (x1 : Int32) (H : Heap) (locs : List Loc) (ls : Array Slot), k197 S x1 → fw_P D CL cA layU b 245 (fw_v TK layU b S) H → va_S (fw_A b 245) s.heap H locs → lv_has ls 6 [(0, .ref (b + o)), (1, .int x1)] → W p l e (headSpec ww_M_second rm_M_second).room s m ([.ref (b + o)] : List Value).toArray below meth c H locs 0 0 (MQ below (va_Qv post (fw_B D CL cA TK layU b 245) (fw_A b 245)) ([.ref (b + o)] : List Value).toArray s 0 0 (fw_A b 245)) (F0 m 197 ls [])) → ∀ (S : fw_S) (x1 : Int32) (x2 : Int32) (H : Heap) (locs : List Loc) (ls : Array Slot), wp_M_second_291 o post k197 S x1 x2 → fw_P D CL cA layU b 245 (fw_v TK layU b S) H → va_S (fw_A b 245) s.heap H locs → lv_has ls 6 [(0, .ref (b + o)), (1, .int x1), (2, .int x2)] → W p l e (headSpec ww_M_second rm_M_second).room s m ([.ref (b + o)] : List Value).toArray below meth c H locs 0 0 (MQ below (va_Qv post (fw_B D CL cA TK layU b 245) (fw_A b 245)) ([.ref (b + o)] : List Value).toArray s 0 0 (fw_A b 245)) (F0 m 291 ls []) := by
      intro k197 K197 S x1 x2 H locs ls hw hP hS hl
      unfold wp_M_second_291 at hw
      obtain ⟨v1, e_v1⟩ : ∃ z : Int32, z = x1 + 1 := ⟨_, rfl⟩
      have hw := hw v1 e_v1
      refine lv_iinc hx hb dd_M_second_291 hl (k := 1) rfl (show x1 + Int32.ofInt 1 = v1 by rw [kc_ii_1, e_v1]) (Nat.le_of_ble_eq_true rfl) rfl (fun ls hl => ?_)
      have hl : lv_has ls 6 [(1, .int v1), (0, .ref (b + o)), (2, .int x2)] := hl
      refine lv_goto (tgt := 197) hx hb dd_M_second_294 (by decide) ?_
      exact K197 S v1 _ _ ls hw hP hS (lv_sub hl [1, 0] rfl)
  have B274 : ∀ (k197 : fw_S → Int32 → Prop), (∀ (S : fw_S) (x1 : Int32) (H : Heap) (locs : List Loc) (ls : Array Slot), k197 S x1 → fw_P D CL cA layU b 245 (fw_v TK layU b S) H → va_S (fw_A b 245) s.heap H locs → lv_has ls 6 [(0, .ref (b + o)), (1, .int x1)] → W p l e (headSpec ww_M_second rm_M_second).room s m ([.ref (b + o)] : List Value).toArray below meth c H locs 0 0 (MQ below (va_Qv post (fw_B D CL cA TK layU b 245) (fw_A b 245)) ([.ref (b + o)] : List Value).toArray s 0 0 (fw_A b 245)) (F0 m 197 ls [])) → ∀ (S : fw_S) (x1 : Int32) (x2 : Int32) (H : Heap) (locs : List Loc) (ls : Array Slot), wp_M_second_274 o post k197 S x1 x2 → fw_P D CL cA layU b 245 (fw_v TK layU b S) H → va_S (fw_A b 245) s.heap H locs → lv_has ls 6 [(0, .ref (b + o)), (1, .int x1), (2, .int x2)] → W p l e (headSpec ww_M_second rm_M_second).room s m ([.ref (b + o)] : List Value).toArray below meth c H locs 0 0 (MQ below (va_Qv post (fw_B D CL cA TK layU b 245) (fw_A b 245)) ([.ref (b + o)] : List Value).toArray s 0 0 (fw_A b 245)) (F0 m 274 ls []) := by
      intro k197 K197 S x1 x2 H locs ls hw hP hS hl
      unfold wp_M_second_274 at hw
      refine lv_aload_n hx hb dd_M_second_274 rfl (lv_at hl 0 rfl) ?_
      refine fw_getr hx hb hts in_10 hown hK hP ho (by decide) rfl 18 (by decide) (hts _ (tb_in tw_799)) tk_10_18 dd_M_second_275 ?_
      refine lv_iload_n hx hb dd_M_second_278 rfl (lv_at hl 1 rfl) ?_
      refine lv_iconst (v := 1) hx hb dd_M_second_279 kc_ic_1 ?_
      obtain ⟨h1, hw⟩ := hw
      refine fw_iast hx hb hK hP hS (fw_A.in (lf_10_18 ho).1) (lf_10_18 ho) (by decide) 0 rfl tka_100 h1 dd_M_second_280 (fun H locs hP hS => ?_)
      obtain ⟨S2, e_S2⟩ : ∃ z, z = fw_si S (o + 15) x1.toNatClampNeg 1 := ⟨_, rfl⟩
      rw [← e_S2] at hP
      have hw := hw S2 e_S2
      refine lv_aload_n hx hb dd_M_second_281 rfl (lv_at hl 0 rfl) ?_
      refine fw_getr hx hb hts in_10 hown hK hP ho (by decide) rfl 17 (by decide) (hts _ (tb_in tw_798)) tk_10_17 dd_M_second_282 ?_
      refine lv_iload_n hx hb dd_M_second_285 rfl (lv_at hl 1 rfl) ?_
      refine lv_aload_n hx hb dd_M_second_286 rfl (lv_at hl 0 rfl) ?_
      refine fw_geti hx hb hts in_10 hown hK hP ho (by decide) rfl 1 (by decide) (hts _ (tb_in tw_782)) tk_10_1 dd_M_second_287 ?_
      obtain ⟨h3, hw⟩ := hw
      refine fw_iast hx hb hK hP hS (fw_A.in (lf_10_17 ho).1) (lf_10_17 ho) (by decide) 0 rfl tka_100 h3 dd_M_second_290 (fun H locs hP hS => ?_)
      obtain ⟨S4, e_S4⟩ : ∃ z, z = fw_si S2 (o + 14) x1.toNatClampNeg (S2.1 o 1) := ⟨_, rfl⟩
      rw [← e_S4] at hP
      have hw := hw S4 e_S4
      exact B291 _ K197 S4 x1 x2 _ _ ls hw hP hS (lv_sub hl [0, 1, 2] rfl)
  have B244 : ∀ (k197 : fw_S → Int32 → Prop), (∀ (S : fw_S) (x1 : Int32) (H : Heap) (locs : List Loc) (ls : Array Slot), k197 S x1 → fw_P D CL cA layU b 245 (fw_v TK layU b S) H → va_S (fw_A b 245) s.heap H locs → lv_has ls 6 [(0, .ref (b + o)), (1, .int x1)] → W p l e (headSpec ww_M_second rm_M_second).room s m ([.ref (b + o)] : List Value).toArray below meth c H locs 0 0 (MQ below (va_Qv post (fw_B D CL cA TK layU b 245) (fw_A b 245)) ([.ref (b + o)] : List Value).toArray s 0 0 (fw_A b 245)) (F0 m 197 ls [])) → ∀ (S : fw_S) (x1 : Int32) (p0 : Int32) (H : Heap) (locs : List Loc) (ls : Array Slot), wp_M_second_244 o post k197 S x1 p0 → fw_P D CL cA layU b 245 (fw_v TK layU b S) H → va_S (fw_A b 245) s.heap H locs → lv_has ls 6 [(0, .ref (b + o)), (1, .int x1)] → W p l e (headSpec ww_M_second rm_M_second).room s m ([.ref (b + o)] : List Value).toArray below meth c H locs 0 0 (MQ below (va_Qv post (fw_B D CL cA TK layU b 245) (fw_A b 245)) ([.ref (b + o)] : List Value).toArray s 0 0 (fw_A b 245)) (F0 m 244 ls [.int p0]) := by
      intro k197 K197 S x1 p0 H locs ls hw hP hS hl
      unfold wp_M_second_244 at hw
      refine lv_istore_n hx hb dd_M_second_244 rfl hl (Nat.le_of_ble_eq_true rfl) rfl (fun ls hl => ?_)
      have hl : lv_has ls 6 [(2, .int p0), (0, .ref (b + o)), (1, .int x1)] := hl
      refine lv_iload_n hx hb dd_M_second_245 rfl (lv_at hl 0 rfl) ?_
      refine lv_if_eq (tgt := 291) hx hb dd_M_second_246 (by decide) (fun h1 => ?_) (fun h1 => ?_)
      · have hw := hw.1 h1
        exact B291 _ K197 S x1 p0 _ _ ls hw hP hS (lv_sub hl [1, 2, 0] rfl)
      · have hw := hw.2 h1
        refine lv_aload_n hx hb dd_M_second_249 rfl (lv_at hl 1 rfl) ?_
        refine fw_getr hx hb hts in_10 hown hK hP ho (by decide) rfl 17 (by decide) (hts _ (tb_in tw_798)) tk_10_17 dd_M_second_250 ?_
        refine lv_iload_n hx hb dd_M_second_253 rfl (lv_at hl 2 rfl) ?_
        obtain ⟨h2, hw⟩ := hw
        refine fw_iald hx hb hK hP (lf_10_17 ho) (by decide) 0 rfl tka_100 h2 dd_M_second_254 ?_
        refine lv_if_lt (tgt := 274) hx hb dd_M_second_255 (by decide) (fun h3 => ?_) (fun h3 => ?_)
        · have hw := hw.1 h3
          exact B274 _ K197 S x1 p0 _ _ ls hw hP hS (lv_sub hl [1, 2, 0] rfl)
        · have hw := hw.2 h3
          refine lv_aload_n hx hb dd_M_second_258 rfl (lv_at hl 1 rfl) ?_
          refine fw_geti hx hb hts in_10 hown hK hP ho (by decide) rfl 1 (by decide) (hts _ (tb_in tw_782)) tk_10_1 dd_M_second_259 ?_
          refine lv_aload_n hx hb dd_M_second_262 rfl (lv_at hl 1 rfl) ?_
          refine fw_getr hx hb hts in_10 hown hK hP ho (by decide) rfl 17 (by decide) (hts _ (tb_in tw_798)) tk_10_17 dd_M_second_263 ?_
          refine lv_iload_n hx hb dd_M_second_266 rfl (lv_at hl 2 rfl) ?_
          obtain ⟨h4, hw⟩ := hw
          refine fw_iald hx hb hK hP (lf_10_17 ho) (by decide) 0 rfl tka_100 h4 dd_M_second_267 ?_
          refine lv_isub hx hb dd_M_second_268 ?_
          refine lv_bipush (v := 20) hx hb dd_M_second_269 kc_bp_20 ?_
          refine lv_icmp_lt (tgt := 291) hx hb dd_M_second_271 (by decide) (fun h5 => ?_) (fun h5 => ?_)
          · have hw := hw.1 h5
            exact B291 _ K197 S x1 p0 _ _ ls hw hP hS (lv_sub hl [1, 2, 0] rfl)
          · have hw := hw.2 h5
            exact B274 _ K197 S x1 p0 _ _ ls hw hP hS (lv_sub hl [1, 2, 0] rfl)
  have B243 : ∀ (k197 : fw_S → Int32 → Prop), (∀ (S : fw_S) (x1 : Int32) (H : Heap) (locs : List Loc) (ls : Array Slot), k197 S x1 → fw_P D CL cA layU b 245 (fw_v TK layU b S) H → va_S (fw_A b 245) s.heap H locs → lv_has ls 6 [(0, .ref (b + o)), (1, .int x1)] → W p l e (headSpec ww_M_second rm_M_second).room s m ([.ref (b + o)] : List Value).toArray below meth c H locs 0 0 (MQ below (va_Qv post (fw_B D CL cA TK layU b 245) (fw_A b 245)) ([.ref (b + o)] : List Value).toArray s 0 0 (fw_A b 245)) (F0 m 197 ls [])) → ∀ (S : fw_S) (x1 : Int32) (H : Heap) (locs : List Loc) (ls : Array Slot), wp_M_second_243 o post k197 S x1 → fw_P D CL cA layU b 245 (fw_v TK layU b S) H → va_S (fw_A b 245) s.heap H locs → lv_has ls 6 [(0, .ref (b + o)), (1, .int x1)] → W p l e (headSpec ww_M_second rm_M_second).room s m ([.ref (b + o)] : List Value).toArray below meth c H locs 0 0 (MQ below (va_Qv post (fw_B D CL cA TK layU b 245) (fw_A b 245)) ([.ref (b + o)] : List Value).toArray s 0 0 (fw_A b 245)) (F0 m 243 ls []) := by
      intro k197 K197 S x1 H locs ls hw hP hS hl
      unfold wp_M_second_243 at hw
      refine lv_iconst (v := 0) hx hb dd_M_second_243 kc_ic_0 ?_
      exact B244 _ K197 S x1 0 _ _ ls hw hP hS (lv_sub hl [0, 1] rfl)
  have B197 : ∀ f : Nat, ∀ (S : fw_S) (x1 : Int32) (H : Heap) (locs : List Loc) (ls : Array Slot), wp_M_second_197 o post f S x1 → fw_P D CL cA layU b 245 (fw_v TK layU b S) H → va_S (fw_A b 245) s.heap H locs → lv_has ls 6 [(0, .ref (b + o)), (1, .int x1)] → W p l e (headSpec ww_M_second rm_M_second).room s m ([.ref (b + o)] : List Value).toArray below meth c H locs 0 0 (MQ below (va_Qv post (fw_B D CL cA TK layU b 245) (fw_A b 245)) ([.ref (b + o)] : List Value).toArray s 0 0 (fw_A b 245)) (F0 m 197 ls []) := by
    intro f
    induction f with
    | zero => intro S x1 H locs ls hw; exact False.elim hw
    | succ f ih =>
        intro S x1 H locs ls hw hP hS hl
        unfold wp_M_second_197 at hw
        refine lv_iload_n hx hb dd_M_second_197 rfl (lv_at hl 1 rfl) ?_
        refine lv_bipush (v := 6) hx hb dd_M_second_198 kc_bp_6 ?_
        refine lv_icmp_ge (tgt := 297) hx hb dd_M_second_200 (by decide) (fun h1 => ?_) (fun h1 => ?_)
        · have hw := hw.1 h1
          exact W.vret hx hb hr (fun t ht hW => ⟨⟨_, rfl, hw, fw_Bof ht hP⟩, hS.F ht⟩) hS.2.2 dd_M_second_297
        · have hw := hw.2 h1
          refine lv_aload_n hx hb dd_M_second_203 rfl (lv_at hl 0 rfl) ?_
          refine fw_getr hx hb hts in_10 hown hK hP ho (by decide) rfl 9 (by decide) (hts _ (tb_in tw_790)) tk_10_9 dd_M_second_204 ?_
          refine lv_iload_n hx hb dd_M_second_207 rfl (lv_at hl 1 rfl) ?_
          obtain ⟨h2, hw⟩ := hw
          refine fw_zald hx hb hK hP (lf_10_9 ho) (by decide) 2 rfl tka_102 h2 dd_M_second_208 ?_
          refine lv_if_eq (tgt := 243) hx hb dd_M_second_209 (by decide) (fun h3 => ?_) (fun h3 => ?_)
          · have hw := hw.1 h3
            exact B243 _ ih S x1 _ _ ls hw hP hS (lv_sub hl [0, 1] rfl)
          · have hw := hw.2 h3
            refine lv_aload_n hx hb dd_M_second_212 rfl (lv_at hl 0 rfl) ?_
            refine fw_getr hx hb hts in_10 hown hK hP ho (by decide) rfl 10 (by decide) (hts _ (tb_in tw_791)) tk_10_10 dd_M_second_213 ?_
            refine lv_iload_n hx hb dd_M_second_216 rfl (lv_at hl 1 rfl) ?_
            obtain ⟨h4, hw⟩ := hw
            refine fw_zald hx hb hK hP (lf_10_10 ho) (by decide) 2 rfl tka_102 h4 dd_M_second_217 ?_
            refine lv_if_eq (tgt := 243) hx hb dd_M_second_218 (by decide) (fun h5 => ?_) (fun h5 => ?_)
            · have hw := hw.1 h5
              exact B243 _ ih S x1 _ _ ls hw hP hS (lv_sub hl [0, 1] rfl)
            · have hw := hw.2 h5
              refine lv_aload_n hx hb dd_M_second_221 rfl (lv_at hl 0 rfl) ?_
              refine fw_getr hx hb hts in_10 hown hK hP ho (by decide) rfl 15 (by decide) (hts _ (tb_in tw_796)) tk_10_15 dd_M_second_222 ?_
              refine lv_iload_n hx hb dd_M_second_225 rfl (lv_at hl 1 rfl) ?_
              obtain ⟨h6, hw⟩ := hw
              refine fw_iald hx hb hK hP (lf_10_15 ho) (by decide) 0 rfl tka_100 h6 dd_M_second_226 ?_
              refine lv_if_le (tgt := 243) hx hb dd_M_second_227 (by decide) (fun h7 => ?_) (fun h7 => ?_)
              · have hw := hw.1 h7
                exact B243 _ ih S x1 _ _ ls hw hP hS (lv_sub hl [0, 1] rfl)
              · have hw := hw.2 h7
                refine lv_aload_n hx hb dd_M_second_230 rfl (lv_at hl 0 rfl) ?_
                refine fw_getr hx hb hts in_10 hown hK hP ho (by decide) rfl 18 (by decide) (hts _ (tb_in tw_799)) tk_10_18 dd_M_second_231 ?_
                refine lv_iload_n hx hb dd_M_second_234 rfl (lv_at hl 1 rfl) ?_
                obtain ⟨h8, hw⟩ := hw
                refine fw_iald hx hb hK hP (lf_10_18 ho) (by decide) 0 rfl tka_100 h8 dd_M_second_235 ?_
                refine lv_if_ne (tgt := 243) hx hb dd_M_second_236 (by decide) (fun h9 => ?_) (fun h9 => ?_)
                · have hw := hw.1 h9
                  exact B243 _ ih S x1 _ _ ls hw hP hS (lv_sub hl [0, 1] rfl)
                · have hw := hw.2 h9
                  refine lv_iconst (v := 1) hx hb dd_M_second_239 kc_ic_1 ?_
                  refine lv_goto (tgt := 244) hx hb dd_M_second_240 (by decide) ?_
                  exact B244 _ ih S x1 1 _ _ ls hw hP hS (lv_sub hl [0, 1] rfl)
  have B147 : ∀ f : Nat, ∀ (S : fw_S) (x1 : Int32) (H : Heap) (locs : List Loc) (ls : Array Slot), wp_M_second_147 o post f S x1 → fw_P D CL cA layU b 245 (fw_v TK layU b S) H → va_S (fw_A b 245) s.heap H locs → lv_has ls 6 [(0, .ref (b + o)), (1, .int x1)] → W p l e (headSpec ww_M_second rm_M_second).room s m ([.ref (b + o)] : List Value).toArray below meth c H locs 0 0 (MQ below (va_Qv post (fw_B D CL cA TK layU b 245) (fw_A b 245)) ([.ref (b + o)] : List Value).toArray s 0 0 (fw_A b 245)) (F0 m 147 ls []) := by
    intro f
    induction f with
    | zero => intro S x1 H locs ls hw; exact False.elim hw
    | succ f ih =>
        intro S x1 H locs ls hw hP hS hl
        unfold wp_M_second_147 at hw
        refine lv_iload_n hx hb dd_M_second_147 rfl (lv_at hl 1 rfl) ?_
        refine lv_bipush (v := 6) hx hb dd_M_second_148 kc_bp_6 ?_
        refine lv_icmp_ge (tgt := 195) hx hb dd_M_second_150 (by decide) (fun h1 => ?_) (fun h1 => ?_)
        · have hw := hw.1 h1
          refine lv_iconst (v := 0) hx hb dd_M_second_195 kc_ic_0 ?_
          refine lv_istore_n hx hb dd_M_second_196 rfl hl (Nat.le_of_ble_eq_true rfl) rfl (fun ls hl => ?_)
          have hl : lv_has ls 6 [(1, .int 0), (0, .ref (b + o))] := hl
          obtain ⟨f0, hw⟩ := hw
          exact B197 f0 S 0 _ _ ls hw hP hS (lv_sub hl [1, 0] rfl)
        · have hw := hw.2 h1
          refine lv_aload_n hx hb dd_M_second_153 rfl (lv_at hl 0 rfl) ?_
          refine fw_geti hx hb hts in_10 hown hK hP ho (by decide) rfl 1 (by decide) (hts _ (tb_in tw_782)) tk_10_1 dd_M_second_154 ?_
          refine lv_bipush (v := 60) hx hb dd_M_second_157 kc_bp_60 ?_
          refine lv_irem hx hb dd_M_second_159 (by decide) ?_
          refine lv_if_ne (tgt := 189) hx hb dd_M_second_160 (by decide) (fun h2 => ?_) (fun h2 => ?_)
          · have hw := hw.1 h2
            exact B189 _ ih S x1 _ _ ls hw hP hS (lv_sub hl [0, 1] rfl)
          · have hw := hw.2 h2
            refine lv_aload_n hx hb dd_M_second_163 rfl (lv_at hl 0 rfl) ?_
            refine lv_iload_n hx hb dd_M_second_164 rfl (lv_at hl 1 rfl) ?_
            refine fw_calli (va_runV (As := [.int x1]) (rest := []) ⟨hx, hb, hml, hown, hts⟩ (mt_M_runs l D cA b S o x1 ho _ hw) (cwV 1 hts (fw_gV tw_952 tw_949 tw_951 ts_15 tw_11) rfl rfl rfl (by decide +kernel) ⟨Nat.le_of_ble_eq_true rfl, Nat.le_of_ble_eq_true rfl⟩) (fw_preV hP hK ho (by decide) rfl) rfl rfl hl.1 rfl (lv_room (Nat.le_of_ble_eq_true rfl)) dd_M_second_165 ⟨Nat.le_of_ble_eq_true rfl, Nat.le_of_ble_eq_true rfl⟩) hS (fun S3 r4 H locs hw hP hS => ?_)
            try dsimp only at hw
            refine lv_if_eq (tgt := 189) hx hb dd_M_second_168 (by decide) (fun h5 => ?_) (fun h5 => ?_)
            · have hw := hw.1 h5
              exact B189 _ ih S3 x1 _ _ ls hw hP hS (lv_sub hl [0, 1] rfl)
            · have hw := hw.2 h5
              refine lv_aload_n hx hb dd_M_second_171 rfl (lv_at hl 0 rfl) ?_
              refine fw_getr hx hb hts in_10 hown hK hP ho (by decide) rfl 15 (by decide) (hts _ (tb_in tw_796)) tk_10_15 dd_M_second_172 ?_
              refine lv_iload_n hx hb dd_M_second_175 rfl (lv_at hl 1 rfl) ?_
              obtain ⟨h6, hw⟩ := hw
              refine fw_iald hx hb hK hP (lf_10_15 ho) (by decide) 0 rfl tka_100 h6 dd_M_second_176 ?_
              refine lv_bipush (v := 22) hx hb dd_M_second_177 kc_bp_22 ?_
              refine lv_icmp_ge (tgt := 189) hx hb dd_M_second_179 (by decide) (fun h7 => ?_) (fun h7 => ?_)
              · have hw := hw.1 h7
                exact B189 _ ih S3 x1 _ _ ls hw hP hS (lv_sub hl [0, 1] rfl)
              · have hw := hw.2 h7
                refine lv_aload_n hx hb dd_M_second_182 rfl (lv_at hl 0 rfl) ?_
                refine lv_iload_n hx hb dd_M_second_183 rfl (lv_at hl 1 rfl) ?_
                refine lv_iconst (v := 2) hx hb dd_M_second_184 kc_ic_2 ?_
                refine lv_iconst (v := 0) hx hb dd_M_second_185 kc_ic_0 ?_
                refine fw_callv (va_runV (As := [.int x1, .int 2, .int 0]) (rest := []) ⟨hx, hb, hml, hown, hts⟩ (mt_M_put l D cA b S3 o x1 2 0 ho _ hw) (cwV 3 hts (fw_gV tw_964 tw_961 tw_963 ts_18 tw_11) rfl rfl rfl (by decide +kernel) ⟨Nat.le_of_ble_eq_true rfl, Nat.le_of_ble_eq_true rfl⟩) (fw_preV hP hK ho (by decide) rfl) rfl rfl hl.1 rfl (lv_room (Nat.le_of_ble_eq_true rfl)) dd_M_second_186 ⟨Nat.le_of_ble_eq_true rfl, Nat.le_of_ble_eq_true rfl⟩) hS (fun S8 H locs hw hP hS => ?_)
                try dsimp only at hw
                exact B189 _ ih S8 x1 _ _ ls hw hP hS (lv_sub hl [0, 1] rfl)
  have B142 : ∀ (S : fw_S) (x1 : Int32) (p0 : Int32) (H : Heap) (locs : List Loc) (ls : Array Slot), wp_M_second_142 o post S x1 p0 → fw_P D CL cA layU b 245 (fw_v TK layU b S) H → va_S (fw_A b 245) s.heap H locs → lv_has ls 6 [(0, .ref (b + o)), (1, .int x1)] → W p l e (headSpec ww_M_second rm_M_second).room s m ([.ref (b + o)] : List Value).toArray below meth c H locs 0 0 (MQ below (va_Qv post (fw_B D CL cA TK layU b 245) (fw_A b 245)) ([.ref (b + o)] : List Value).toArray s 0 0 (fw_A b 245)) (F0 m 142 ls [.int p0, .ref (b + o)]) := by
      intro S x1 p0 H locs ls hw hP hS hl
      unfold wp_M_second_142 at hw
      obtain ⟨h1, hw⟩ := hw
      refine fw_puti hx hb hts in_10 F_ty_10 F_tyok_10 F_nm_10 hown hK hP hS (fw_A.in ho.1) ho (by decide) rfl 39 (by decide) (hts _ (tb_in tw_820)) rfl tk_10_39 (ty := .boolean) (by decide +kernel) (fw_bz.n h1) (fw_bz.f h1) dd_M_second_142 (fun H locs hP hS => ?_)
      obtain ⟨S2, e_S2⟩ : ∃ z, z = fw_si S o 39 p0 := ⟨_, rfl⟩
      rw [← e_S2] at hP
      have hw := hw S2 e_S2
      refine lv_iconst (v := 0) hx hb dd_M_second_145 kc_ic_0 ?_
      refine lv_istore_n hx hb dd_M_second_146 rfl hl (Nat.le_of_ble_eq_true rfl) rfl (fun ls hl => ?_)
      have hl : lv_has ls 6 [(1, .int 0), (0, .ref (b + o))] := hl
      obtain ⟨f0, hw⟩ := hw
      exact B147 f0 S2 0 _ _ ls hw hP hS (lv_sub hl [1, 0] rfl)
  have B141 : ∀ (S : fw_S) (x1 : Int32) (H : Heap) (locs : List Loc) (ls : Array Slot), wp_M_second_141 o post S x1 → fw_P D CL cA layU b 245 (fw_v TK layU b S) H → va_S (fw_A b 245) s.heap H locs → lv_has ls 6 [(0, .ref (b + o)), (1, .int x1)] → W p l e (headSpec ww_M_second rm_M_second).room s m ([.ref (b + o)] : List Value).toArray below meth c H locs 0 0 (MQ below (va_Qv post (fw_B D CL cA TK layU b 245) (fw_A b 245)) ([.ref (b + o)] : List Value).toArray s 0 0 (fw_A b 245)) (F0 m 141 ls [.ref (b + o)]) := by
      intro S x1 H locs ls hw hP hS hl
      unfold wp_M_second_141 at hw
      refine lv_iconst (v := 0) hx hb dd_M_second_141 kc_ic_0 ?_
      exact B142 S x1 0 _ _ ls hw hP hS (lv_sub hl [0, 1] rfl)
  have B6 : ∀ f : Nat, ∀ (S : fw_S) (x1 : Int32) (H : Heap) (locs : List Loc) (ls : Array Slot), wp_M_second_6 o post f S x1 → fw_P D CL cA layU b 245 (fw_v TK layU b S) H → va_S (fw_A b 245) s.heap H locs → lv_has ls 6 [(0, .ref (b + o)), (1, .int x1)] → W p l e (headSpec ww_M_second rm_M_second).room s m ([.ref (b + o)] : List Value).toArray below meth c H locs 0 0 (MQ below (va_Qv post (fw_B D CL cA TK layU b 245) (fw_A b 245)) ([.ref (b + o)] : List Value).toArray s 0 0 (fw_A b 245)) (F0 m 6 ls []) := by
    intro f
    induction f with
    | zero => intro S x1 H locs ls hw; exact False.elim hw
    | succ f ih =>
        intro S x1 H locs ls hw hP hS hl
        unfold wp_M_second_6 at hw
        refine lv_iload_n hx hb dd_M_second_6 rfl (lv_at hl 1 rfl) ?_
        refine lv_bipush (v := 6) hx hb dd_M_second_7 kc_bp_6 ?_
        refine lv_icmp_ge (tgt := 108) hx hb dd_M_second_9 (by decide) (fun h1 => ?_) (fun h1 => ?_)
        · have hw := hw.1 h1
          refine lv_aload_n hx hb dd_M_second_108 rfl (lv_at hl 0 rfl) ?_
          refine lv_dup hx hb dd_M_second_109 rfl ?_
          refine fw_geti hx hb hts in_10 hown hK hP ho (by decide) rfl 1 (by decide) (hts _ (tb_in tw_782)) tk_10_1 dd_M_second_110 ?_
          refine lv_iconst (v := 1) hx hb dd_M_second_113 kc_ic_1 ?_
          refine lv_iadd hx hb dd_M_second_114 ?_
          refine fw_puti hx hb hts in_10 F_ty_10 F_tyok_10 F_nm_10 hown hK hP hS (fw_A.in ho.1) ho (by decide) rfl 1 (by decide) (hts _ (tb_in tw_782)) rfl tk_10_1 (ty := .int) (by decide +kernel) rfl rfl dd_M_second_115 (fun H locs hP hS => ?_)
          obtain ⟨S2, e_S2⟩ : ∃ z, z = fw_si S o 1 ((S.1 o 1) + 1) := ⟨_, rfl⟩
          rw [← e_S2] at hP
          have hw := hw S2 e_S2
          refine lv_aload_n hx hb dd_M_second_118 rfl (lv_at hl 0 rfl) ?_
          refine lv_aload_n hx hb dd_M_second_119 rfl (lv_at hl 0 rfl) ?_
          refine fw_geti hx hb hts in_10 hown hK hP ho (by decide) rfl 39 (by decide) (hts _ (tb_in tw_820)) tk_10_39 dd_M_second_120 ?_
          refine lv_if_eq (tgt := 141) hx hb dd_M_second_123 (by decide) (fun h3 => ?_) (fun h3 => ?_)
          · have hw := hw.1 h3
            exact B141 S2 x1 _ _ ls hw hP hS (lv_sub hl [0, 1] rfl)
          · have hw := hw.2 h3
            refine lv_aload_n hx hb dd_M_second_126 rfl (lv_at hl 0 rfl) ?_
            refine fw_geti hx hb hts in_10 hown hK hP ho (by decide) rfl 1 (by decide) (hts _ (tb_in tw_782)) tk_10_1 dd_M_second_127 ?_
            refine lv_sipush (v := 900) hx hb dd_M_second_130 kc_sp_900 ?_
            refine lv_irem hx hb dd_M_second_133 (by decide) ?_
            refine lv_if_eq (tgt := 141) hx hb dd_M_second_134 (by decide) (fun h4 => ?_) (fun h4 => ?_)
            · have hw := hw.1 h4
              exact B141 S2 x1 _ _ ls hw hP hS (lv_sub hl [0, 1] rfl)
            · have hw := hw.2 h4
              refine lv_iconst (v := 1) hx hb dd_M_second_137 kc_ic_1 ?_
              refine lv_goto (tgt := 142) hx hb dd_M_second_138 (by decide) ?_
              exact B142 S2 x1 1 _ _ ls hw hP hS (lv_sub hl [0, 1] rfl)
        · have hw := hw.2 h1
          refine lv_aload_n hx hb dd_M_second_12 rfl (lv_at hl 0 rfl) ?_
          refine lv_iload_n hx hb dd_M_second_13 rfl (lv_at hl 1 rfl) ?_
          refine fw_calli (va_runV (As := [.int x1]) (rest := []) ⟨hx, hb, hml, hown, hts⟩ (mt_M_runs l D cA b S o x1 ho _ hw) (cwV 1 hts (fw_gV tw_952 tw_949 tw_951 ts_15 tw_11) rfl rfl rfl (by decide +kernel) ⟨Nat.le_of_ble_eq_true rfl, Nat.le_of_ble_eq_true rfl⟩) (fw_preV hP hK ho (by decide) rfl) rfl rfl hl.1 rfl (lv_room (Nat.le_of_ble_eq_true rfl)) dd_M_second_14 ⟨Nat.le_of_ble_eq_true rfl, Nat.le_of_ble_eq_true rfl⟩) hS (fun S5 r6 H locs hw hP hS => ?_)
          try dsimp only at hw
          refine lv_if_eq (tgt := 102) hx hb dd_M_second_17 (by decide) (fun h7 => ?_) (fun h7 => ?_)
          · have hw := hw.1 h7
            exact B102 _ ih S5 x1 _ _ ls hw hP hS (lv_sub hl [0, 1] rfl)
          · have hw := hw.2 h7
            refine lv_ldc2 (v := 23) hx hb hown (hts _ (tb_in tw_1043)) dd_M_second_20 ?_
            refine lv_aload_n hx hb dd_M_second_23 rfl (lv_at hl 0 rfl) ?_
            refine fw_getr hx hb hts in_10 hown hK hP ho (by decide) rfl 38 (by decide) (hts _ (tb_in tw_819)) tk_10_38 dd_M_second_24 ?_
            refine lv_iload_n hx hb dd_M_second_27 rfl (lv_at hl 1 rfl) ?_
            obtain ⟨h8, hw⟩ := hw
            refine fw_iald hx hb hK hP (lf_10_38 ho) (by decide) 0 rfl tka_100 h8 dd_M_second_28 ?_
            refine lv_i2l hx hb dd_M_second_29 rfl ?_
            refine lv_lmul hx hb dd_M_second_30 ?_
            refine lv_topl (fun v9 e_v9 => ?_)
            have hw := hw v9 e_v9
            refine lv_lstore_n hx hb dd_M_second_31 rfl hl (Nat.le_of_ble_eq_true rfl) rfl (fun ls hl => ?_)
            have hl : lv_has ls 6 [(2, .long v9), (0, .ref (b + o)), (1, .int x1)] := hl
            refine lv_aload_n hx hb dd_M_second_32 rfl (lv_at hl 1 rfl) ?_
            refine fw_getr hx hb hts in_10 hown hK hP ho (by decide) rfl 24 (by decide) (hts _ (tb_in tw_805)) tk_10_24 dd_M_second_33 ?_
            refine lv_iload_n hx hb dd_M_second_36 rfl (lv_at hl 2 rfl) ?_
            obtain ⟨h10, hw⟩ := hw
            refine fw_lald hx hb hK hP (lf_10_24 ho) (by decide) 1 rfl tka_101 h10 dd_M_second_37 ?_
            refine lv_topl (fun v11 e_v11 => ?_)
            have hw := hw v11 e_v11
            refine lv_lstore hx hb dd_M_second_38 hl (Nat.le_of_ble_eq_true rfl) rfl (fun ls hl => ?_)
            have hl : lv_has ls 6 [(4, .long v11), (2, .long v9), (0, .ref (b + o)), (1, .int x1)] := hl
            refine lv_aload_n hx hb dd_M_second_40 rfl (lv_at hl 2 rfl) ?_
            refine fw_getr hx hb hts in_10 hown hK hP ho (by decide) rfl 11 (by decide) (hts _ (tb_in tw_792)) tk_10_11 dd_M_second_41 ?_
            refine lv_iload_n hx hb dd_M_second_44 rfl (lv_at hl 3 rfl) ?_
            refine lv_dup2_11 hx hb dd_M_second_45 rfl rfl ?_
            obtain ⟨h12, hw⟩ := hw
            refine fw_lald hx hb hK hP (lf_10_11 ho) (by decide) 1 rfl tka_101 h12 dd_M_second_46 ?_
            refine lv_lload_n hx hb dd_M_second_47 rfl (lv_at hl 1 rfl) ?_
            refine lv_ladd hx hb dd_M_second_48 ?_
            obtain ⟨h13, hw⟩ := hw
            refine fw_last hx hb hK hP hS (fw_A.in (lf_10_11 ho).1) (lf_10_11 ho) (by decide) 1 rfl tka_101 h13 dd_M_second_49 (fun H locs hP hS => ?_)
            obtain ⟨S14, e_S14⟩ : ∃ z, z = fw_sl S5 (o + 8) x1.toNatClampNeg ((S5.2 (o + 8) x1.toNatClampNeg) + v9) := ⟨_, rfl⟩
            rw [← e_S14] at hP
            have hw := hw S14 e_S14
            refine lv_aload_n hx hb dd_M_second_50 rfl (lv_at hl 2 rfl) ?_
            refine fw_getr hx hb hts in_10 hown hK hP ho (by decide) rfl 24 (by decide) (hts _ (tb_in tw_805)) tk_10_24 dd_M_second_51 ?_
            refine lv_iload_n hx hb dd_M_second_54 rfl (lv_at hl 3 rfl) ?_
            refine lv_dup2_11 hx hb dd_M_second_55 rfl rfl ?_
            obtain ⟨h15, hw⟩ := hw
            refine fw_lald hx hb hK hP (lf_10_24 ho) (by decide) 1 rfl tka_101 h15 dd_M_second_56 ?_
            refine lv_lload_n hx hb dd_M_second_57 rfl (lv_at hl 1 rfl) ?_
            refine lv_lsub hx hb dd_M_second_58 ?_
            obtain ⟨h16, hw⟩ := hw
            refine fw_last hx hb hK hP hS (fw_A.in (lf_10_24 ho).1) (lf_10_24 ho) (by decide) 1 rfl tka_101 h16 dd_M_second_59 (fun H locs hP hS => ?_)
            obtain ⟨S17, e_S17⟩ : ∃ z, z = fw_sl S14 (o + 21) x1.toNatClampNeg ((S14.2 (o + 21) x1.toNatClampNeg) - v9) := ⟨_, rfl⟩
            rw [← e_S17] at hP
            have hw := hw S17 e_S17
            refine lv_lload hx hb dd_M_second_60 (lv_at hl 0 rfl) ?_
            refine lv_lconst (v := 0) hx hb dd_M_second_62 kc_lc_0 ?_
            refine W.lcmp hx hb dd_M_second_63 ?_
            refine lv_if_le (tgt := 102) hx hb dd_M_second_64 (by decide) (fun h18 => ?_) (fun h18 => ?_)
            · have hw := hw.1 h18
              exact B102 _ ih S17 x1 _ _ ls hw hP hS (lv_sub hl [2, 3] rfl)
            · have hw := hw.2 h18
              refine lv_aload_n hx hb dd_M_second_67 rfl (lv_at hl 2 rfl) ?_
              refine fw_getr hx hb hts in_10 hown hK hP ho (by decide) rfl 24 (by decide) (hts _ (tb_in tw_805)) tk_10_24 dd_M_second_68 ?_
              refine lv_iload_n hx hb dd_M_second_71 rfl (lv_at hl 3 rfl) ?_
              obtain ⟨h19, hw⟩ := hw
              refine fw_lald hx hb hK hP (lf_10_24 ho) (by decide) 1 rfl tka_101 h19 dd_M_second_72 ?_
              refine lv_lconst (v := 0) hx hb dd_M_second_73 kc_lc_0 ?_
              refine W.lcmp hx hb dd_M_second_74 ?_
              refine lv_if_gt (tgt := 102) hx hb dd_M_second_75 (by decide) (fun h20 => ?_) (fun h20 => ?_)
              · have hw := hw.1 h20
                exact B102 _ ih S17 x1 _ _ ls hw hP hS (lv_sub hl [2, 3] rfl)
              · have hw := hw.2 h20
                refine lv_aload_n hx hb dd_M_second_78 rfl (lv_at hl 2 rfl) ?_
                refine fw_getr hx hb hts in_10 hown hK hP ho (by decide) rfl 25 (by decide) (hts _ (tb_in tw_806)) tk_10_25 dd_M_second_79 ?_
                refine lv_iload_n hx hb dd_M_second_82 rfl (lv_at hl 3 rfl) ?_
                refine lv_iconst (v := 1) hx hb dd_M_second_83 kc_ic_1 ?_
                obtain ⟨h21, hw⟩ := hw
                refine fw_zast hx hb hK hP hS (fw_A.in (lf_10_25 ho).1) (lf_10_25 ho) (by decide) 2 rfl tka_102 h21 dd_M_second_84 (fun H locs hP hS => ?_)
                obtain ⟨S22, e_S22⟩ : ∃ z, z = fw_si S17 (o + 22) x1.toNatClampNeg (fw_z 1) := ⟨_, rfl⟩
                rw [← e_S22] at hP
                have hw := hw S22 e_S22
                refine lv_aload_n hx hb dd_M_second_85 rfl (lv_at hl 2 rfl) ?_
                refine fw_getr hx hb hts in_10 hown hK hP ho (by decide) rfl 26 (by decide) (hts _ (tb_in tw_807)) tk_10_26 dd_M_second_86 ?_
                refine lv_iload_n hx hb dd_M_second_89 rfl (lv_at hl 3 rfl) ?_
                refine lv_aload_n hx hb dd_M_second_90 rfl (lv_at hl 2 rfl) ?_
                refine fw_geti hx hb hts in_10 hown hK hP ho (by decide) rfl 1 (by decide) (hts _ (tb_in tw_782)) tk_10_1 dd_M_second_91 ?_
                refine lv_iconst (v := 1) hx hb dd_M_second_94 kc_ic_1 ?_
                refine lv_iadd hx hb dd_M_second_95 ?_
                obtain ⟨h23, hw⟩ := hw
                refine fw_iast hx hb hK hP hS (fw_A.in (lf_10_26 ho).1) (lf_10_26 ho) (by decide) 0 rfl tka_100 h23 dd_M_second_96 (fun H locs hP hS => ?_)
                obtain ⟨S24, e_S24⟩ : ∃ z, z = fw_si S22 (o + 23) x1.toNatClampNeg ((S22.1 o 1) + 1) := ⟨_, rfl⟩
                rw [← e_S24] at hP
                have hw := hw S24 e_S24
                refine lv_aload_n hx hb dd_M_second_97 rfl (lv_at hl 2 rfl) ?_
                refine lv_iconst (v := 0) hx hb dd_M_second_98 kc_ic_0 ?_
                refine fw_puti hx hb hts in_10 F_ty_10 F_tyok_10 F_nm_10 hown hK hP hS (fw_A.in ho.1) ho (by decide) rfl 39 (by decide) (hts _ (tb_in tw_820)) rfl tk_10_39 (ty := .boolean) (by decide +kernel) rfl rfl dd_M_second_99 (fun H locs hP hS => ?_)
                obtain ⟨S25, e_S25⟩ : ∃ z, z = fw_si S24 o 39 0 := ⟨_, rfl⟩
                rw [← e_S25] at hP
                have hw := hw S25 e_S25
                exact B102 _ ih S25 x1 _ _ ls hw hP hS (lv_sub hl [2, 3] rfl)
  unfold wp_M_second at hw
  refine lv_aload_n hx hb dd_M_second_0 rfl (lv_at hl 0 rfl) ?_
  refine fw_callv (va_runV (As := []) (rest := []) ⟨hx, hb, hml, hown, hts⟩ (mt_M_reckonAll l D cA b S o ho _ hw) (cwV 0 hts (fw_gV tw_1027 tw_1024 tw_1026 ts_26 tw_11) rfl rfl rfl (by decide +kernel) ⟨Nat.le_of_ble_eq_true rfl, Nat.le_of_ble_eq_true rfl⟩) (fw_preV hP hK ho (by decide) rfl) rfl rfl hl.1 rfl (lv_room (Nat.le_of_ble_eq_true rfl)) dd_M_second_1 ⟨Nat.le_of_ble_eq_true rfl, Nat.le_of_ble_eq_true rfl⟩) hS (fun S1 H locs hw hP hS => ?_)
  try dsimp only at hw
  refine lv_iconst (v := 0) hx hb dd_M_second_4 kc_ic_0 ?_
  refine lv_istore_n hx hb dd_M_second_5 rfl hl (Nat.le_of_ble_eq_true rfl) rfl (fun ls hl => ?_)
  have hl : lv_has ls 6 [(1, .int 0), (0, .ref (b + o))] := hl
  obtain ⟨f0, hw⟩ := hw
  exact B6 f0 S1 0 _ _ ls hw hP hS (lv_sub hl [1, 0] rfl)
theorem dd_M_pass_22 : decode bb_M_pass 22 = .ok (.iconst 1, 1) := by decide +kernel
theorem dd_M_pass_23 : decode bb_M_pass 23 = .ok (.goto 4, 3) := by decide +kernel
theorem dd_M_pass_27 : decode bb_M_pass 27 = .ok (.putfield 114, 3) := by decide +kernel
theorem dd_M_pass_30 : decode bb_M_pass 30 = .ok (.iconst 0, 1) := by decide +kernel
theorem dd_M_pass_31 : decode bb_M_pass 31 = .ok (.istore_n 2, 1) := by decide +kernel
theorem dd_M_pass_32 : decode bb_M_pass 32 = .ok (.iload_n 2, 1) := by decide +kernel
theorem dd_M_pass_33 : decode bb_M_pass 33 = .ok (.iload_n 1, 1) := by decide +kernel
theorem dd_M_pass_34 : decode bb_M_pass 34 = .ok (.if_icmp .ge 20, 3) := by decide +kernel
theorem dd_M_pass_37 : decode bb_M_pass 37 = .ok (.aload_n 0, 1) := by decide +kernel
theorem dd_M_pass_38 : decode bb_M_pass 38 = .ok (.getfield 114, 3) := by decide +kernel
theorem dd_M_pass_41 : decode bb_M_pass 41 = .ok (.ifCond .ne 13, 3) := by decide +kernel
theorem dd_M_pass_44 : decode bb_M_pass 44 = .ok (.aload_n 0, 1) := by decide +kernel
theorem dd_M_pass_45 : decode bb_M_pass 45 = .ok (.invokevirtual 209, 3) := by decide +kernel
theorem dd_M_pass_48 : decode bb_M_pass 48 = .ok (.iinc 2 1, 3) := by decide +kernel
theorem dd_M_pass_51 : decode bb_M_pass 51 = .ok (.goto (-19), 3) := by decide +kernel
theorem dd_M_pass_54 : decode bb_M_pass 54 = .ok (.aload_n 0, 1) := by decide +kernel
theorem dd_M_pass_55 : decode bb_M_pass 55 = .ok (.getfield 114, 3) := by decide +kernel
theorem dd_M_pass_58 : decode bb_M_pass 58 = .ok (.ifCond .le 7, 3) := by decide +kernel
theorem dd_M_pass_65 : decode bb_M_pass 65 = .ok (.aload_n 0, 1) := by decide +kernel
theorem dd_M_pass_66 : decode bb_M_pass 66 = .ok (.getfield 144, 3) := by decide +kernel
theorem dd_M_pass_61 : decode bb_M_pass 61 = .ok (.iconst 0, 1) := by decide +kernel
theorem dd_M_pass_62 : decode bb_M_pass 62 = .ok (.goto 7, 3) := by decide +kernel
theorem dd_M_pass_69 : decode bb_M_pass 69 = .ok (.ireturn, 1) := by decide +kernel
theorem dd_M_pass_0 : decode bb_M_pass 0 = .ok (.aload_n 0, 1) := by decide +kernel
theorem dd_M_pass_1 : decode bb_M_pass 1 = .ok (.iload_n 1, 1) := by decide +kernel
theorem dd_M_pass_2 : decode bb_M_pass 2 = .ok (.iconst 0, 1) := by decide +kernel
theorem dd_M_pass_3 : decode bb_M_pass 3 = .ok (.ldc 207, 2) := by decide +kernel
theorem dd_M_pass_5 : decode bb_M_pass 5 = .ok (.invokestatic 118, 3) := by decide +kernel
theorem dd_M_pass_8 : decode bb_M_pass 8 = .ok (.ifCond .eq 14, 3) := by decide +kernel
theorem dd_M_pass_11 : decode bb_M_pass 11 = .ok (.iload_n 1, 1) := by decide +kernel
theorem dd_M_pass_12 : decode bb_M_pass 12 = .ok (.ldc 208, 2) := by decide +kernel
theorem dd_M_pass_14 : decode bb_M_pass 14 = .ok (.aload_n 0, 1) := by decide +kernel
theorem dd_M_pass_15 : decode bb_M_pass 15 = .ok (.getfield 144, 3) := by decide +kernel
theorem dd_M_pass_18 : decode bb_M_pass 18 = .ok (.isub, 1) := by decide +kernel
theorem dd_M_pass_19 : decode bb_M_pass 19 = .ok (.if_icmp .le 7, 3) := by decide +kernel
theorem dd_M_pass_26 : decode bb_M_pass 26 = .ok (.iconst 0, 1) := by decide +kernel
def ww_M_pass : List Cond := .code yy_M_pass bb_M_pass 3 (some .int) :: TB
def rm_M_pass : Room := { frames := 5, cells := 0, slots := 0, locals := 121 }
def wp_M_pass_69 (o : Nat) (a1 : Int32) (post : fw_S → Int32 → Prop) (S : fw_S) (x2 : Int32) (p0 : Int32) : Prop := post S p0
def wp_M_pass_54 (o : Nat) (a1 : Int32) (post : fw_S → Int32 → Prop) (S : fw_S) (x2 : Int32) : Prop := ((((S.1 o 0) ≤ 0) → wp_M_pass_69 o a1 post S x2 (S.1 o 1)) ∧ (¬ ((S.1 o 0) ≤ 0) → wp_M_pass_69 o a1 post S x2 0))
def wp_M_pass_32 (o : Nat) (a1 : Int32) (post : fw_S → Int32 → Prop) : Nat → fw_S → Int32 → Prop
  | 0, _, _ => False
  | f + 1, S, x2 => (((a1 ≤ x2) → wp_M_pass_54 o a1 post S x2) ∧ (¬ (a1 ≤ x2) → ((¬ ((S.1 o 0) = 0) → wp_M_pass_54 o a1 post S x2) ∧ (((S.1 o 0) = 0) → wp_M_second S o (fun S3 => ∀ v4 : Int32, v4 = x2 + 1 → wp_M_pass_32 o a1 post f S3 v4)))))
def wp_M_pass_27 (o : Nat) (a1 : Int32) (post : fw_S → Int32 → Prop) (S : fw_S) (p0 : Int32) : Prop := ∀ S1 : fw_S, S1 = fw_si S o 0 p0 → ∃ f0, wp_M_pass_32 o a1 post f0 S1 0
def wp_M_pass_22 (o : Nat) (a1 : Int32) (post : fw_S → Int32 → Prop) (S : fw_S) : Prop := wp_M_pass_27 o a1 post S 1
def wp_M_pass (S : fw_S) (o : Nat) (a1 : Int32) (post : fw_S → Int32 → Prop) : Prop := wp_M_isIn S a1 0 86400 (fun S1 r2 => (((r2 = 0) → wp_M_pass_22 o a1 post S1) ∧ (¬ (r2 = 0) → (((a1 ≤ (1000000000 - (S1.1 o 1))) → wp_M_pass_27 o a1 post S1 0) ∧ (¬ (a1 ≤ (1000000000 - (S1.1 o 1))) → wp_M_pass_22 o a1 post S1)))))
set_option maxHeartbeats 4000000 in
set_option maxRecDepth 100000 in
theorem mt_M_pass (l : Launch) (D : va_G) (cA : Nat → ClassId) (b : Nat) (S : fw_S) (o : Nat) (a1 : Int32) (ho : o < 245 ∧ layU o = (10, 0)) (post : fw_S → Int32 → Prop) (hw : wp_M_pass S o a1 post) : Met l yy_M_pass ww_M_pass rm_M_pass (fw_Pc D CL cA (TYS cA) TK layU b 245 S [.ref (b + o), .int a1]) (va_Qi (fun r S' => post S' r) (fw_B D CL cA TK layU b 245) (fw_A b 245)) 0 0 (fw_A b 245) := by
  refine Met.ofW (cc := bb_M_pass) (maxL := 3) (ret := (some .int)) (by decide) rfl ?_
  intro p e s m args below meth c s₁ B hml hv
  obtain ⟨rfl, hP, hK⟩ := hv
  have hx := B.exec
  have hb := B.bytes
  have hr := B.returns
  have hts := atoms_spec (ws := ww_M_pass) B.pre
  have hown : s.vm.findClass "OutletOfficeModel" = some m.cls := findClass_of_methodNamed B.named
  have hlocks := B.notSynchronized
  have hS : va_S (fw_A b 245) s.heap s.heap [] := va_S.rf
  have hl := lv_entry ([.ref (b + o), .int a1]) (n := 3) (Nat.le_of_ble_eq_true rfl)
  rw [lg_entry_eq]
  generalize (lg_sl ([.ref (b + o), .int a1]) ++ List.replicate (3 - (lg_sl ([.ref (b + o), .int a1])).length) Slot.unset).toArray = ls at hl ⊢
  have hl : lv_has ls 3 [(0, .ref (b + o)), (1, .int a1)] := hl
  have B69 : ∀ (S : fw_S) (x2 : Int32) (p0 : Int32) (H : Heap) (locs : List Loc) (ls : Array Slot), wp_M_pass_69 o a1 post S x2 p0 → fw_P D CL cA layU b 245 (fw_v TK layU b S) H → va_S (fw_A b 245) s.heap H locs → lv_has ls 3 [(0, .ref (b + o)), (1, .int a1), (2, .int x2)] → W p l e (headSpec ww_M_pass rm_M_pass).room s m ([.ref (b + o), .int a1] : List Value).toArray below meth c H locs 0 0 (MQ below (va_Qi (fun r S' => post S' r) (fw_B D CL cA TK layU b 245) (fw_A b 245)) ([.ref (b + o), .int a1] : List Value).toArray s 0 0 (fw_A b 245)) (F0 m 69 ls [.int p0]) := by
      intro S x2 p0 H locs ls hw hP hS hl
      unfold wp_M_pass_69 at hw
      exact W.iret (v := p0) hx hb hr (fun t ht hW => ⟨⟨_, _, rfl, hw, fw_Bof ht hP⟩, hS.F ht⟩) hS.2.2 dd_M_pass_69
  have B54 : ∀ (S : fw_S) (x2 : Int32) (H : Heap) (locs : List Loc) (ls : Array Slot), wp_M_pass_54 o a1 post S x2 → fw_P D CL cA layU b 245 (fw_v TK layU b S) H → va_S (fw_A b 245) s.heap H locs → lv_has ls 3 [(0, .ref (b + o)), (1, .int a1), (2, .int x2)] → W p l e (headSpec ww_M_pass rm_M_pass).room s m ([.ref (b + o), .int a1] : List Value).toArray below meth c H locs 0 0 (MQ below (va_Qi (fun r S' => post S' r) (fw_B D CL cA TK layU b 245) (fw_A b 245)) ([.ref (b + o), .int a1] : List Value).toArray s 0 0 (fw_A b 245)) (F0 m 54 ls []) := by
      intro S x2 H locs ls hw hP hS hl
      unfold wp_M_pass_54 at hw
      refine lv_aload_n hx hb dd_M_pass_54 rfl (lv_at hl 0 rfl) ?_
      refine fw_geti hx hb hts in_10 hown hK hP ho (by decide) rfl 0 (by decide) (hts _ (tb_in tw_781)) tk_10_0 dd_M_pass_55 ?_
      refine lv_if_le (tgt := 65) hx hb dd_M_pass_58 (by decide) (fun h1 => ?_) (fun h1 => ?_)
      · have hw := hw.1 h1
        refine lv_aload_n hx hb dd_M_pass_65 rfl (lv_at hl 0 rfl) ?_
        refine fw_geti hx hb hts in_10 hown hK hP ho (by decide) rfl 1 (by decide) (hts _ (tb_in tw_782)) tk_10_1 dd_M_pass_66 ?_
        exact B69 S x2 (S.1 o 1) _ _ ls hw hP hS (lv_sub hl [0, 1, 2] rfl)
      · have hw := hw.2 h1
        refine lv_iconst (v := 0) hx hb dd_M_pass_61 kc_ic_0 ?_
        refine lv_goto (tgt := 69) hx hb dd_M_pass_62 (by decide) ?_
        exact B69 S x2 0 _ _ ls hw hP hS (lv_sub hl [0, 1, 2] rfl)
  have B32 : ∀ f : Nat, ∀ (S : fw_S) (x2 : Int32) (H : Heap) (locs : List Loc) (ls : Array Slot), wp_M_pass_32 o a1 post f S x2 → fw_P D CL cA layU b 245 (fw_v TK layU b S) H → va_S (fw_A b 245) s.heap H locs → lv_has ls 3 [(0, .ref (b + o)), (1, .int a1), (2, .int x2)] → W p l e (headSpec ww_M_pass rm_M_pass).room s m ([.ref (b + o), .int a1] : List Value).toArray below meth c H locs 0 0 (MQ below (va_Qi (fun r S' => post S' r) (fw_B D CL cA TK layU b 245) (fw_A b 245)) ([.ref (b + o), .int a1] : List Value).toArray s 0 0 (fw_A b 245)) (F0 m 32 ls []) := by
    intro f
    induction f with
    | zero => intro S x2 H locs ls hw; exact False.elim hw
    | succ f ih =>
        intro S x2 H locs ls hw hP hS hl
        unfold wp_M_pass_32 at hw
        refine lv_iload_n hx hb dd_M_pass_32 rfl (lv_at hl 2 rfl) ?_
        refine lv_iload_n hx hb dd_M_pass_33 rfl (lv_at hl 1 rfl) ?_
        refine lv_icmp_ge (tgt := 54) hx hb dd_M_pass_34 (by decide) (fun h1 => ?_) (fun h1 => ?_)
        · have hw := hw.1 h1
          exact B54 S x2 _ _ ls hw hP hS (lv_sub hl [0, 1, 2] rfl)
        · have hw := hw.2 h1
          refine lv_aload_n hx hb dd_M_pass_37 rfl (lv_at hl 0 rfl) ?_
          refine fw_geti hx hb hts in_10 hown hK hP ho (by decide) rfl 0 (by decide) (hts _ (tb_in tw_781)) tk_10_0 dd_M_pass_38 ?_
          refine lv_if_ne (tgt := 54) hx hb dd_M_pass_41 (by decide) (fun h2 => ?_) (fun h2 => ?_)
          · have hw := hw.1 h2
            exact B54 S x2 _ _ ls hw hP hS (lv_sub hl [0, 1, 2] rfl)
          · have hw := hw.2 h2
            refine lv_aload_n hx hb dd_M_pass_44 rfl (lv_at hl 0 rfl) ?_
            refine fw_callv (va_runV (As := []) (rest := []) ⟨hx, hb, hml, hown, hts⟩ (mt_M_second l D cA b S o ho _ hw) (cwV 0 hts (fw_gV tw_1023 tw_1020 tw_1022 ts_25 tw_11) rfl rfl rfl (by decide +kernel) ⟨Nat.le_of_ble_eq_true rfl, Nat.le_of_ble_eq_true rfl⟩) (fw_preV hP hK ho (by decide) rfl) rfl rfl hl.1 rfl (lv_room (Nat.le_of_ble_eq_true rfl)) dd_M_pass_45 ⟨Nat.le_of_ble_eq_true rfl, Nat.le_of_ble_eq_true rfl⟩) hS (fun S3 H locs hw hP hS => ?_)
            try dsimp only at hw
            obtain ⟨v4, e_v4⟩ : ∃ z : Int32, z = x2 + 1 := ⟨_, rfl⟩
            have hw := hw v4 e_v4
            refine lv_iinc hx hb dd_M_pass_48 hl (k := 2) rfl (show x2 + Int32.ofInt 1 = v4 by rw [kc_ii_1, e_v4]) (Nat.le_of_ble_eq_true rfl) rfl (fun ls hl => ?_)
            have hl : lv_has ls 3 [(2, .int v4), (0, .ref (b + o)), (1, .int a1)] := hl
            refine lv_goto (tgt := 32) hx hb dd_M_pass_51 (by decide) ?_
            exact ih S3 v4 _ _ ls hw hP hS (lv_sub hl [1, 2, 0] rfl)
  have B27 : ∀ (S : fw_S) (p0 : Int32) (H : Heap) (locs : List Loc) (ls : Array Slot), wp_M_pass_27 o a1 post S p0 → fw_P D CL cA layU b 245 (fw_v TK layU b S) H → va_S (fw_A b 245) s.heap H locs → lv_has ls 3 [(0, .ref (b + o)), (1, .int a1)] → W p l e (headSpec ww_M_pass rm_M_pass).room s m ([.ref (b + o), .int a1] : List Value).toArray below meth c H locs 0 0 (MQ below (va_Qi (fun r S' => post S' r) (fw_B D CL cA TK layU b 245) (fw_A b 245)) ([.ref (b + o), .int a1] : List Value).toArray s 0 0 (fw_A b 245)) (F0 m 27 ls [.int p0, .ref (b + o)]) := by
      intro S p0 H locs ls hw hP hS hl
      unfold wp_M_pass_27 at hw
      refine fw_puti hx hb hts in_10 F_ty_10 F_tyok_10 F_nm_10 hown hK hP hS (fw_A.in ho.1) ho (by decide) rfl 0 (by decide) (hts _ (tb_in tw_781)) rfl tk_10_0 (ty := .int) (by decide +kernel) rfl rfl dd_M_pass_27 (fun H locs hP hS => ?_)
      obtain ⟨S1, e_S1⟩ : ∃ z, z = fw_si S o 0 p0 := ⟨_, rfl⟩
      rw [← e_S1] at hP
      have hw := hw S1 e_S1
      refine lv_iconst (v := 0) hx hb dd_M_pass_30 kc_ic_0 ?_
      refine lv_istore_n hx hb dd_M_pass_31 rfl hl (Nat.le_of_ble_eq_true rfl) rfl (fun ls hl => ?_)
      have hl : lv_has ls 3 [(2, .int 0), (0, .ref (b + o)), (1, .int a1)] := hl
      obtain ⟨f0, hw⟩ := hw
      exact B32 f0 S1 0 _ _ ls hw hP hS (lv_sub hl [1, 2, 0] rfl)
  have B22 : ∀ (S : fw_S) (H : Heap) (locs : List Loc) (ls : Array Slot), wp_M_pass_22 o a1 post S → fw_P D CL cA layU b 245 (fw_v TK layU b S) H → va_S (fw_A b 245) s.heap H locs → lv_has ls 3 [(0, .ref (b + o)), (1, .int a1)] → W p l e (headSpec ww_M_pass rm_M_pass).room s m ([.ref (b + o), .int a1] : List Value).toArray below meth c H locs 0 0 (MQ below (va_Qi (fun r S' => post S' r) (fw_B D CL cA TK layU b 245) (fw_A b 245)) ([.ref (b + o), .int a1] : List Value).toArray s 0 0 (fw_A b 245)) (F0 m 22 ls [.ref (b + o)]) := by
      intro S H locs ls hw hP hS hl
      unfold wp_M_pass_22 at hw
      refine lv_iconst (v := 1) hx hb dd_M_pass_22 kc_ic_1 ?_
      refine lv_goto (tgt := 27) hx hb dd_M_pass_23 (by decide) ?_
      exact B27 S 1 _ _ ls hw hP hS (lv_sub hl [0, 1] rfl)
  unfold wp_M_pass at hw
  refine lv_aload_n hx hb dd_M_pass_0 rfl (lv_at hl 0 rfl) ?_
  refine lv_iload_n hx hb dd_M_pass_1 rfl (lv_at hl 1 rfl) ?_
  refine lv_iconst (v := 0) hx hb dd_M_pass_2 kc_ic_0 ?_
  refine lv_ldc (v := 86400) hx hb hown (hts _ (tb_in tw_1018)) dd_M_pass_3 ?_
  refine fw_calli (va_runS (As := [.int a1, .int 0, .int 86400]) (rest := [.ref (b + o)]) ⟨hx, hb, hml, hown, hts⟩ (mt_M_isIn l D cA b S a1 0 86400 _ hw) (cwS 3 hts (fw_gS tw_913 tw_911 tw_912 tw_11) rfl rfl rfl (by decide +kernel) ⟨Nat.le_of_ble_eq_true rfl, Nat.le_of_ble_eq_true rfl⟩) (fw_preS hP hK) rfl rfl hl.1 rfl (lv_room (Nat.le_of_ble_eq_true rfl)) dd_M_pass_5 ⟨Nat.le_of_ble_eq_true rfl, Nat.le_of_ble_eq_true rfl⟩) hS (fun S1 r2 H locs hw hP hS => ?_)
  try dsimp only at hw
  refine lv_if_eq (tgt := 22) hx hb dd_M_pass_8 (by decide) (fun h3 => ?_) (fun h3 => ?_)
  · have hw := hw.1 h3
    exact B22 S1 _ _ ls hw hP hS (lv_sub hl [0, 1] rfl)
  · have hw := hw.2 h3
    refine lv_iload_n hx hb dd_M_pass_11 rfl (lv_at hl 1 rfl) ?_
    refine lv_ldc (v := 1000000000) hx hb hown (hts _ (tb_in tw_1019)) dd_M_pass_12 ?_
    refine lv_aload_n hx hb dd_M_pass_14 rfl (lv_at hl 0 rfl) ?_
    refine fw_geti hx hb hts in_10 hown hK hP ho (by decide) rfl 1 (by decide) (hts _ (tb_in tw_782)) tk_10_1 dd_M_pass_15 ?_
    refine lv_isub hx hb dd_M_pass_18 ?_
    refine lv_icmp_le (tgt := 26) hx hb dd_M_pass_19 (by decide) (fun h4 => ?_) (fun h4 => ?_)
    · have hw := hw.1 h4
      refine lv_iconst (v := 0) hx hb dd_M_pass_26 kc_ic_0 ?_
      exact B27 S1 0 _ _ ls hw hP hS (lv_sub hl [0, 1] rfl)
    · have hw := hw.2 h4
      exact B22 S1 _ _ ls hw hP hS (lv_sub hl [0, 1] rfl)
theorem dd_M_time_0 : decode bb_M_time 0 = .ok (.aload_n 0, 1) := by decide +kernel
theorem dd_M_time_1 : decode bb_M_time 1 = .ok (.iconst 0, 1) := by decide +kernel
theorem dd_M_time_2 : decode bb_M_time 2 = .ok (.putfield 114, 3) := by decide +kernel
theorem dd_M_time_5 : decode bb_M_time 5 = .ok (.aload_n 0, 1) := by decide +kernel
theorem dd_M_time_6 : decode bb_M_time 6 = .ok (.getfield 144, 3) := by decide +kernel
theorem dd_M_time_9 : decode bb_M_time 9 = .ok (.ireturn, 1) := by decide +kernel
def ww_M_time : List Cond := .code yy_M_time bb_M_time 1 (some .int) :: TB
def rm_M_time : Room := { frames := 0, cells := 0, slots := 0, locals := 0 }
def wp_M_time (S : fw_S) (o : Nat) (post : fw_S → Int32 → Prop) : Prop := ∀ S1 : fw_S, S1 = fw_si S o 0 0 → post S1 (S1.1 o 1)
set_option maxHeartbeats 4000000 in
set_option maxRecDepth 100000 in
theorem mt_M_time (l : Launch) (D : va_G) (cA : Nat → ClassId) (b : Nat) (S : fw_S) (o : Nat) (ho : o < 245 ∧ layU o = (10, 0)) (post : fw_S → Int32 → Prop) (hw : wp_M_time S o post) : Met l yy_M_time ww_M_time rm_M_time (fw_Pc D CL cA (TYS cA) TK layU b 245 S [.ref (b + o)]) (va_Qi (fun r S' => post S' r) (fw_B D CL cA TK layU b 245) (fw_A b 245)) 0 0 (fw_A b 245) := by
  refine Met.ofW (cc := bb_M_time) (maxL := 1) (ret := (some .int)) (by decide) rfl ?_
  intro p e s m args below meth c s₁ B hml hv
  obtain ⟨rfl, hP, hK⟩ := hv
  have hx := B.exec
  have hb := B.bytes
  have hr := B.returns
  have hts := atoms_spec (ws := ww_M_time) B.pre
  have hown : s.vm.findClass "OutletOfficeModel" = some m.cls := findClass_of_methodNamed B.named
  have hlocks := B.notSynchronized
  have hS : va_S (fw_A b 245) s.heap s.heap [] := va_S.rf
  have hl := lv_entry ([.ref (b + o)]) (n := 1) (Nat.le_of_ble_eq_true rfl)
  rw [lg_entry_eq]
  generalize (lg_sl ([.ref (b + o)]) ++ List.replicate (1 - (lg_sl ([.ref (b + o)])).length) Slot.unset).toArray = ls at hl ⊢
  have hl : lv_has ls 1 [(0, .ref (b + o))] := hl
  unfold wp_M_time at hw
  refine lv_aload_n hx hb dd_M_time_0 rfl (lv_at hl 0 rfl) ?_
  refine lv_iconst (v := 0) hx hb dd_M_time_1 kc_ic_0 ?_
  refine fw_puti hx hb hts in_10 F_ty_10 F_tyok_10 F_nm_10 hown hK hP hS (fw_A.in ho.1) ho (by decide) rfl 0 (by decide) (hts _ (tb_in tw_781)) rfl tk_10_0 (ty := .int) (by decide +kernel) rfl rfl dd_M_time_2 (fun H locs hP hS => ?_)
  obtain ⟨S1, e_S1⟩ : ∃ z, z = fw_si S o 0 0 := ⟨_, rfl⟩
  rw [← e_S1] at hP
  have hw := hw S1 e_S1
  refine lv_aload_n hx hb dd_M_time_5 rfl (lv_at hl 0 rfl) ?_
  refine fw_geti hx hb hts in_10 hown hK hP ho (by decide) rfl 1 (by decide) (hts _ (tb_in tw_782)) tk_10_1 dd_M_time_6 ?_
  exact W.iret (v := S1.1 o 1) hx hb hr (fun t ht hW => ⟨⟨_, _, rfl, hw, fw_Bof ht hP⟩, hS.F ht⟩) hS.2.2 dd_M_time_9
theorem dd_M_current_0 : decode bb_M_current 0 = .ok (.aload_n 0, 1) := by decide +kernel
theorem dd_M_current_1 : decode bb_M_current 1 = .ok (.iload_n 1, 1) := by decide +kernel
theorem dd_M_current_2 : decode bb_M_current 2 = .ok (.invokevirtual 134, 3) := by decide +kernel
theorem dd_M_current_5 : decode bb_M_current 5 = .ok (.ifCond .eq 5, 3) := by decide +kernel
theorem dd_M_current_10 : decode bb_M_current 10 = .ok (.aload_n 0, 1) := by decide +kernel
theorem dd_M_current_11 : decode bb_M_current 11 = .ok (.invokevirtual 202, 3) := by decide +kernel
theorem dd_M_current_14 : decode bb_M_current 14 = .ok (.aload_n 0, 1) := by decide +kernel
theorem dd_M_current_15 : decode bb_M_current 15 = .ok (.getfield 111, 3) := by decide +kernel
theorem dd_M_current_18 : decode bb_M_current 18 = .ok (.iload_n 1, 1) := by decide +kernel
theorem dd_M_current_19 : decode bb_M_current 19 = .ok (.iaload, 1) := by decide +kernel
theorem dd_M_current_20 : decode bb_M_current 20 = .ok (.ireturn, 1) := by decide +kernel
theorem dd_M_current_8 : decode bb_M_current 8 = .ok (.iconst 0, 1) := by decide +kernel
theorem dd_M_current_9 : decode bb_M_current 9 = .ok (.ireturn, 1) := by decide +kernel
def ww_M_current : List Cond := .code yy_M_current bb_M_current 2 (some .int) :: TB
def rm_M_current : Room := { frames := 4, cells := 0, slots := 0, locals := 96 }
def wp_M_current (S : fw_S) (o : Nat) (a1 : Int32) (post : fw_S → Int32 → Prop) : Prop := wp_M_noPoint S o a1 (fun S1 r2 => (((r2 = 0) → wp_M_reckonAll S1 o (fun S4 => vp_in a1 6 ∧ (post S4 (S4.1 (o + 34) a1.toNatClampNeg)))) ∧ (¬ (r2 = 0) → post S1 0)))
set_option maxHeartbeats 4000000 in
set_option maxRecDepth 100000 in
theorem mt_M_current (l : Launch) (D : va_G) (cA : Nat → ClassId) (b : Nat) (S : fw_S) (o : Nat) (a1 : Int32) (ho : o < 245 ∧ layU o = (10, 0)) (post : fw_S → Int32 → Prop) (hw : wp_M_current S o a1 post) : Met l yy_M_current ww_M_current rm_M_current (fw_Pc D CL cA (TYS cA) TK layU b 245 S [.ref (b + o), .int a1]) (va_Qi (fun r S' => post S' r) (fw_B D CL cA TK layU b 245) (fw_A b 245)) 0 0 (fw_A b 245) := by
  refine Met.ofW (cc := bb_M_current) (maxL := 2) (ret := (some .int)) (by decide) rfl ?_
  intro p e s m args below meth c s₁ B hml hv
  obtain ⟨rfl, hP, hK⟩ := hv
  have hx := B.exec
  have hb := B.bytes
  have hr := B.returns
  have hts := atoms_spec (ws := ww_M_current) B.pre
  have hown : s.vm.findClass "OutletOfficeModel" = some m.cls := findClass_of_methodNamed B.named
  have hlocks := B.notSynchronized
  have hS : va_S (fw_A b 245) s.heap s.heap [] := va_S.rf
  have hl := lv_entry ([.ref (b + o), .int a1]) (n := 2) (Nat.le_of_ble_eq_true rfl)
  rw [lg_entry_eq]
  generalize (lg_sl ([.ref (b + o), .int a1]) ++ List.replicate (2 - (lg_sl ([.ref (b + o), .int a1])).length) Slot.unset).toArray = ls at hl ⊢
  have hl : lv_has ls 2 [(0, .ref (b + o)), (1, .int a1)] := hl
  unfold wp_M_current at hw
  refine lv_aload_n hx hb dd_M_current_0 rfl (lv_at hl 0 rfl) ?_
  refine lv_iload_n hx hb dd_M_current_1 rfl (lv_at hl 1 rfl) ?_
  refine fw_calli (va_runV (As := [.int a1]) (rest := []) ⟨hx, hb, hml, hown, hts⟩ (mt_M_noPoint l D cA b S o a1 ho _ hw) (cwV 1 hts (fw_gV tw_935 tw_932 tw_934 ts_14 tw_11) rfl rfl rfl (by decide +kernel) ⟨Nat.le_of_ble_eq_true rfl, Nat.le_of_ble_eq_true rfl⟩) (fw_preV hP hK ho (by decide) rfl) rfl rfl hl.1 rfl (lv_room (Nat.le_of_ble_eq_true rfl)) dd_M_current_2 ⟨Nat.le_of_ble_eq_true rfl, Nat.le_of_ble_eq_true rfl⟩) hS (fun S1 r2 H locs hw hP hS => ?_)
  try dsimp only at hw
  refine lv_if_eq (tgt := 10) hx hb dd_M_current_5 (by decide) (fun h3 => ?_) (fun h3 => ?_)
  · have hw := hw.1 h3
    refine lv_aload_n hx hb dd_M_current_10 rfl (lv_at hl 0 rfl) ?_
    refine fw_callv (va_runV (As := []) (rest := []) ⟨hx, hb, hml, hown, hts⟩ (mt_M_reckonAll l D cA b S1 o ho _ hw) (cwV 0 hts (fw_gV tw_1027 tw_1024 tw_1026 ts_26 tw_11) rfl rfl rfl (by decide +kernel) ⟨Nat.le_of_ble_eq_true rfl, Nat.le_of_ble_eq_true rfl⟩) (fw_preV hP hK ho (by decide) rfl) rfl rfl hl.1 rfl (lv_room (Nat.le_of_ble_eq_true rfl)) dd_M_current_11 ⟨Nat.le_of_ble_eq_true rfl, Nat.le_of_ble_eq_true rfl⟩) hS (fun S4 H locs hw hP hS => ?_)
    try dsimp only at hw
    refine lv_aload_n hx hb dd_M_current_14 rfl (lv_at hl 0 rfl) ?_
    refine fw_getr hx hb hts in_10 hown hK hP ho (by decide) rfl 38 (by decide) (hts _ (tb_in tw_819)) tk_10_38 dd_M_current_15 ?_
    refine lv_iload_n hx hb dd_M_current_18 rfl (lv_at hl 1 rfl) ?_
    obtain ⟨h5, hw⟩ := hw
    refine fw_iald hx hb hK hP (lf_10_38 ho) (by decide) 0 rfl tka_100 h5 dd_M_current_19 ?_
    exact W.iret (v := S4.1 (o + 34) a1.toNatClampNeg) hx hb hr (fun t ht hW => ⟨⟨_, _, rfl, hw, fw_Bof ht hP⟩, hS.F ht⟩) hS.2.2 dd_M_current_20
  · have hw := hw.2 h3
    refine lv_iconst (v := 0) hx hb dd_M_current_8 kc_ic_0 ?_
    exact W.iret (v := 0) hx hb hr (fun t ht hW => ⟨⟨_, _, rfl, hw, fw_Bof ht hP⟩, hS.F ht⟩) hS.2.2 dd_M_current_9
