theorem dd_M_show_24 : decode bb_M_show 24 = .ok (.iconst 1, 1) := by decide +kernel
theorem dd_M_show_25 : decode bb_M_show 25 = .ok (.putfield 114, 3) := by decide +kernel
theorem dd_M_show_28 : decode bb_M_show 28 = .ok (.aload_n 0, 1) := by decide +kernel
theorem dd_M_show_29 : decode bb_M_show 29 = .ok (.getfield 114, 3) := by decide +kernel
theorem dd_M_show_32 : decode bb_M_show 32 = .ok (.ifCond .le 5, 3) := by decide +kernel
theorem dd_M_show_37 : decode bb_M_show 37 = .ok (.aload_n 0, 1) := by decide +kernel
theorem dd_M_show_38 : decode bb_M_show 38 = .ok (.iconst 0, 1) := by decide +kernel
theorem dd_M_show_39 : decode bb_M_show 39 = .ok (.putfield 122, 3) := by decide +kernel
theorem dd_M_show_42 : decode bb_M_show 42 = .ok (.aload_n 0, 1) := by decide +kernel
theorem dd_M_show_43 : decode bb_M_show 43 = .ok (.iload_n 1, 1) := by decide +kernel
theorem dd_M_show_44 : decode bb_M_show 44 = .ok (.invokevirtual 162, 3) := by decide +kernel
theorem dd_M_show_47 : decode bb_M_show 47 = .ok (.istore_n 3, 1) := by decide +kernel
theorem dd_M_show_48 : decode bb_M_show 48 = .ok (.aload_n 0, 1) := by decide +kernel
theorem dd_M_show_49 : decode bb_M_show 49 = .ok (.getfield 36, 3) := by decide +kernel
theorem dd_M_show_52 : decode bb_M_show 52 = .ok (.iload_n 1, 1) := by decide +kernel
theorem dd_M_show_53 : decode bb_M_show 53 = .ok (.iaload, 1) := by decide +kernel
theorem dd_M_show_54 : decode bb_M_show 54 = .ok (.ifCond .ne 103, 3) := by decide +kernel
theorem dd_M_show_157 : decode bb_M_show 157 = .ok (.aload_n 0, 1) := by decide +kernel
theorem dd_M_show_158 : decode bb_M_show 158 = .ok (.getfield 42, 3) := by decide +kernel
theorem dd_M_show_161 : decode bb_M_show 161 = .ok (.iload_n 1, 1) := by decide +kernel
theorem dd_M_show_162 : decode bb_M_show 162 = .ok (.iaload, 1) := by decide +kernel
theorem dd_M_show_163 : decode bb_M_show 163 = .ok (.istore 4, 2) := by decide +kernel
theorem dd_M_show_165 : decode bb_M_show 165 = .ok (.iload_n 2, 1) := by decide +kernel
theorem dd_M_show_166 : decode bb_M_show 166 = .ok (.iload 4, 2) := by decide +kernel
theorem dd_M_show_168 : decode bb_M_show 168 = .ok (.if_icmp .eq 35, 3) := by decide +kernel
theorem dd_M_show_171 : decode bb_M_show 171 = .ok (.aload_n 0, 1) := by decide +kernel
theorem dd_M_show_172 : decode bb_M_show 172 = .ok (.getfield 22, 3) := by decide +kernel
theorem dd_M_show_175 : decode bb_M_show 175 = .ok (.iload_n 3, 1) := by decide +kernel
theorem dd_M_show_176 : decode bb_M_show 176 = .ok (.iload_n 2, 1) := by decide +kernel
theorem dd_M_show_177 : decode bb_M_show 177 = .ok (.iadd, 1) := by decide +kernel
theorem dd_M_show_178 : decode bb_M_show 178 = .ok (.iaload, 1) := by decide +kernel
theorem dd_M_show_179 : decode bb_M_show 179 = .ok (.aload_n 0, 1) := by decide +kernel
theorem dd_M_show_180 : decode bb_M_show 180 = .ok (.getfield 22, 3) := by decide +kernel
theorem dd_M_show_183 : decode bb_M_show 183 = .ok (.iload_n 3, 1) := by decide +kernel
theorem dd_M_show_184 : decode bb_M_show 184 = .ok (.iload 4, 2) := by decide +kernel
theorem dd_M_show_186 : decode bb_M_show 186 = .ok (.iadd, 1) := by decide +kernel
theorem dd_M_show_187 : decode bb_M_show 187 = .ok (.iaload, 1) := by decide +kernel
theorem dd_M_show_188 : decode bb_M_show 188 = .ok (.if_icmp .ne 19, 3) := by decide +kernel
theorem dd_M_show_191 : decode bb_M_show 191 = .ok (.aload_n 0, 1) := by decide +kernel
theorem dd_M_show_192 : decode bb_M_show 192 = .ok (.getfield 22, 3) := by decide +kernel
theorem dd_M_show_195 : decode bb_M_show 195 = .ok (.iload_n 3, 1) := by decide +kernel
theorem dd_M_show_196 : decode bb_M_show 196 = .ok (.iload 4, 2) := by decide +kernel
theorem dd_M_show_198 : decode bb_M_show 198 = .ok (.iadd, 1) := by decide +kernel
theorem dd_M_show_199 : decode bb_M_show 199 = .ok (.iaload, 1) := by decide +kernel
theorem dd_M_show_200 : decode bb_M_show 200 = .ok (.ifCond .eq 7, 3) := by decide +kernel
theorem dd_M_show_57 : decode bb_M_show 57 = .ok (.aload_n 0, 1) := by decide +kernel
theorem dd_M_show_58 : decode bb_M_show 58 = .ok (.getfield 25, 3) := by decide +kernel
theorem dd_M_show_61 : decode bb_M_show 61 = .ok (.iload_n 1, 1) := by decide +kernel
theorem dd_M_show_62 : decode bb_M_show 62 = .ok (.baload, 1) := by decide +kernel
theorem dd_M_show_63 : decode bb_M_show 63 = .ok (.ifCond .eq 39, 3) := by decide +kernel
theorem dd_M_show_66 : decode bb_M_show 66 = .ok (.aload_n 0, 1) := by decide +kernel
theorem dd_M_show_67 : decode bb_M_show 67 = .ok (.getfield 63, 3) := by decide +kernel
theorem dd_M_show_70 : decode bb_M_show 70 = .ok (.iload_n 1, 1) := by decide +kernel
theorem dd_M_show_71 : decode bb_M_show 71 = .ok (.baload, 1) := by decide +kernel
theorem dd_M_show_72 : decode bb_M_show 72 = .ok (.ifCond .eq 30, 3) := by decide +kernel
theorem dd_M_show_75 : decode bb_M_show 75 = .ok (.aload_n 0, 1) := by decide +kernel
theorem dd_M_show_76 : decode bb_M_show 76 = .ok (.getfield 45, 3) := by decide +kernel
theorem dd_M_show_79 : decode bb_M_show 79 = .ok (.iload_n 1, 1) := by decide +kernel
theorem dd_M_show_80 : decode bb_M_show 80 = .ok (.iaload, 1) := by decide +kernel
theorem dd_M_show_81 : decode bb_M_show 81 = .ok (.bipush 20, 2) := by decide +kernel
theorem dd_M_show_83 : decode bb_M_show 83 = .ok (.if_icmp .gt 19, 3) := by decide +kernel
theorem dd_M_show_86 : decode bb_M_show 86 = .ok (.aload_n 0, 1) := by decide +kernel
theorem dd_M_show_87 : decode bb_M_show 87 = .ok (.getfield 19, 3) := by decide +kernel
theorem dd_M_show_90 : decode bb_M_show 90 = .ok (.iload_n 3, 1) := by decide +kernel
theorem dd_M_show_91 : decode bb_M_show 91 = .ok (.iload_n 2, 1) := by decide +kernel
theorem dd_M_show_92 : decode bb_M_show 92 = .ok (.iadd, 1) := by decide +kernel
theorem dd_M_show_93 : decode bb_M_show 93 = .ok (.iaload, 1) := by decide +kernel
theorem dd_M_show_94 : decode bb_M_show 94 = .ok (.iconst 1, 1) := by decide +kernel
theorem dd_M_show_95 : decode bb_M_show 95 = .ok (.if_icmp .ne 7, 3) := by decide +kernel
theorem dd_M_show_98 : decode bb_M_show 98 = .ok (.iconst 1, 1) := by decide +kernel
theorem dd_M_show_99 : decode bb_M_show 99 = .ok (.goto 4, 3) := by decide +kernel
theorem dd_M_show_35 : decode bb_M_show 35 = .ok (.iconst 0, 1) := by decide +kernel
theorem dd_M_show_36 : decode bb_M_show 36 = .ok (.ireturn, 1) := by decide +kernel
theorem dd_M_show_102 : decode bb_M_show 102 = .ok (.iconst 0, 1) := by decide +kernel
theorem dd_M_show_103 : decode bb_M_show 103 = .ok (.istore 4, 2) := by decide +kernel
theorem dd_M_show_105 : decode bb_M_show 105 = .ok (.iload 4, 2) := by decide +kernel
theorem dd_M_show_107 : decode bb_M_show 107 = .ok (.ifCond .eq 39, 3) := by decide +kernel
theorem dd_M_show_110 : decode bb_M_show 110 = .ok (.aload_n 0, 1) := by decide +kernel
theorem dd_M_show_111 : decode bb_M_show 111 = .ok (.getfield 39, 3) := by decide +kernel
theorem dd_M_show_114 : decode bb_M_show 114 = .ok (.iload_n 1, 1) := by decide +kernel
theorem dd_M_show_115 : decode bb_M_show 115 = .ok (.dup2, 1) := by decide +kernel
theorem dd_M_show_116 : decode bb_M_show 116 = .ok (.iaload, 1) := by decide +kernel
theorem dd_M_show_117 : decode bb_M_show 117 = .ok (.iconst 1, 1) := by decide +kernel
theorem dd_M_show_118 : decode bb_M_show 118 = .ok (.iadd, 1) := by decide +kernel
theorem dd_M_show_119 : decode bb_M_show 119 = .ok (.iastore, 1) := by decide +kernel
theorem dd_M_show_120 : decode bb_M_show 120 = .ok (.aload_n 0, 1) := by decide +kernel
theorem dd_M_show_121 : decode bb_M_show 121 = .ok (.getfield 36, 3) := by decide +kernel
theorem dd_M_show_124 : decode bb_M_show 124 = .ok (.iload_n 1, 1) := by decide +kernel
theorem dd_M_show_125 : decode bb_M_show 125 = .ok (.aload_n 0, 1) := by decide +kernel
theorem dd_M_show_126 : decode bb_M_show 126 = .ok (.getfield 39, 3) := by decide +kernel
theorem dd_M_show_129 : decode bb_M_show 129 = .ok (.iload_n 1, 1) := by decide +kernel
theorem dd_M_show_130 : decode bb_M_show 130 = .ok (.iaload, 1) := by decide +kernel
theorem dd_M_show_131 : decode bb_M_show 131 = .ok (.iastore, 1) := by decide +kernel
theorem dd_M_show_132 : decode bb_M_show 132 = .ok (.aload_n 0, 1) := by decide +kernel
theorem dd_M_show_133 : decode bb_M_show 133 = .ok (.getfield 42, 3) := by decide +kernel
theorem dd_M_show_136 : decode bb_M_show 136 = .ok (.iload_n 1, 1) := by decide +kernel
theorem dd_M_show_137 : decode bb_M_show 137 = .ok (.iload_n 2, 1) := by decide +kernel
theorem dd_M_show_138 : decode bb_M_show 138 = .ok (.iastore, 1) := by decide +kernel
theorem dd_M_show_139 : decode bb_M_show 139 = .ok (.aload_n 0, 1) := by decide +kernel
theorem dd_M_show_140 : decode bb_M_show 140 = .ok (.iload_n 1, 1) := by decide +kernel
theorem dd_M_show_141 : decode bb_M_show 141 = .ok (.iconst 1, 1) := by decide +kernel
theorem dd_M_show_142 : decode bb_M_show 142 = .ok (.iconst 0, 1) := by decide +kernel
theorem dd_M_show_143 : decode bb_M_show 143 = .ok (.invokevirtual 147, 3) := by decide +kernel
theorem dd_M_show_146 : decode bb_M_show 146 = .ok (.iload 4, 2) := by decide +kernel
theorem dd_M_show_148 : decode bb_M_show 148 = .ok (.ifCond .eq 7, 3) := by decide +kernel
theorem dd_M_show_155 : decode bb_M_show 155 = .ok (.iconst 0, 1) := by decide +kernel
theorem dd_M_show_151 : decode bb_M_show 151 = .ok (.iconst 1, 1) := by decide +kernel
theorem dd_M_show_152 : decode bb_M_show 152 = .ok (.goto 4, 3) := by decide +kernel
theorem dd_M_show_156 : decode bb_M_show 156 = .ok (.ireturn, 1) := by decide +kernel
theorem dd_M_show_203 : decode bb_M_show 203 = .ok (.iconst 1, 1) := by decide +kernel
theorem dd_M_show_204 : decode bb_M_show 204 = .ok (.goto 4, 3) := by decide +kernel
theorem dd_M_show_207 : decode bb_M_show 207 = .ok (.iconst 0, 1) := by decide +kernel
theorem dd_M_show_208 : decode bb_M_show 208 = .ok (.istore 5, 2) := by decide +kernel
theorem dd_M_show_210 : decode bb_M_show 210 = .ok (.aload_n 0, 1) := by decide +kernel
theorem dd_M_show_211 : decode bb_M_show 211 = .ok (.getfield 25, 3) := by decide +kernel
theorem dd_M_show_214 : decode bb_M_show 214 = .ok (.iload_n 1, 1) := by decide +kernel
theorem dd_M_show_215 : decode bb_M_show 215 = .ok (.baload, 1) := by decide +kernel
theorem dd_M_show_216 : decode bb_M_show 216 = .ok (.ifCond .eq 8, 3) := by decide +kernel
theorem dd_M_show_219 : decode bb_M_show 219 = .ok (.iload 5, 2) := by decide +kernel
theorem dd_M_show_221 : decode bb_M_show 221 = .ok (.ifCond .ne 5, 3) := by decide +kernel
theorem dd_M_show_226 : decode bb_M_show 226 = .ok (.aload_n 0, 1) := by decide +kernel
theorem dd_M_show_227 : decode bb_M_show 227 = .ok (.iload_n 1, 1) := by decide +kernel
theorem dd_M_show_228 : decode bb_M_show 228 = .ok (.aload_n 0, 1) := by decide +kernel
theorem dd_M_show_229 : decode bb_M_show 229 = .ok (.iload_n 1, 1) := by decide +kernel
theorem dd_M_show_230 : decode bb_M_show 230 = .ok (.invokevirtual 154, 3) := by decide +kernel
theorem dd_M_show_233 : decode bb_M_show 233 = .ok (.invokevirtual 158, 3) := by decide +kernel
theorem dd_M_show_236 : decode bb_M_show 236 = .ok (.iconst 2, 1) := by decide +kernel
theorem dd_M_show_237 : decode bb_M_show 237 = .ok (.ireturn, 1) := by decide +kernel
theorem dd_M_show_224 : decode bb_M_show 224 = .ok (.iconst 0, 1) := by decide +kernel
theorem dd_M_show_225 : decode bb_M_show 225 = .ok (.ireturn, 1) := by decide +kernel
theorem dd_M_show_0 : decode bb_M_show 0 = .ok (.aload_n 0, 1) := by decide +kernel
theorem dd_M_show_1 : decode bb_M_show 1 = .ok (.iload_n 1, 1) := by decide +kernel
theorem dd_M_show_2 : decode bb_M_show 2 = .ok (.iconst 0, 1) := by decide +kernel
theorem dd_M_show_3 : decode bb_M_show 3 = .ok (.iconst 5, 1) := by decide +kernel
theorem dd_M_show_4 : decode bb_M_show 4 = .ok (.invokestatic 118, 3) := by decide +kernel
theorem dd_M_show_7 : decode bb_M_show 7 = .ok (.ifCond .eq 17, 3) := by decide +kernel
theorem dd_M_show_10 : decode bb_M_show 10 = .ok (.iload_n 2, 1) := by decide +kernel
theorem dd_M_show_11 : decode bb_M_show 11 = .ok (.iconst 0, 1) := by decide +kernel
theorem dd_M_show_12 : decode bb_M_show 12 = .ok (.bipush 15, 2) := by decide +kernel
theorem dd_M_show_14 : decode bb_M_show 14 = .ok (.invokestatic 118, 3) := by decide +kernel
theorem dd_M_show_17 : decode bb_M_show 17 = .ok (.ifCond .eq 7, 3) := by decide +kernel
theorem dd_M_show_20 : decode bb_M_show 20 = .ok (.iconst 0, 1) := by decide +kernel
theorem dd_M_show_21 : decode bb_M_show 21 = .ok (.goto 4, 3) := by decide +kernel
def ww_M_show : List Cond := .code yy_M_show bb_M_show 6 (some .int) :: TB
def rm_M_show : Room := { frames := 3, cells := 0, slots := 0, locals := 67 }
def wp_M_show_156 (o : Nat) (a1 : Int32) (a2 : Int32) (post : fw_S → Int32 → Prop) (S : fw_S) (x3 : Int32) (x4 : Int32) (p0 : Int32) : Prop := post S p0
def wp_M_show_146 (o : Nat) (a1 : Int32) (a2 : Int32) (post : fw_S → Int32 → Prop) (S : fw_S) (x3 : Int32) (x4 : Int32) : Prop := (((x4 = 0) → wp_M_show_156 o a1 a2 post S x3 x4 0) ∧ (¬ (x4 = 0) → wp_M_show_156 o a1 a2 post S x3 x4 1))
def wp_M_show_103 (o : Nat) (a1 : Int32) (a2 : Int32) (post : fw_S → Int32 → Prop) (S : fw_S) (x3 : Int32) (p0 : Int32) : Prop := (((p0 = 0) → wp_M_show_146 o a1 a2 post S x3 p0) ∧ (¬ (p0 = 0) → vp_in a1 6 ∧ (vp_in a1 6 ∧ (∀ S4 : fw_S, S4 = fw_si S (o + 10) a1.toNatClampNeg ((S.1 (o + 10) a1.toNatClampNeg) + 1) → vp_in a1 6 ∧ (vp_in a1 6 ∧ (∀ S7 : fw_S, S7 = fw_si S4 (o + 9) a1.toNatClampNeg (S4.1 (o + 10) a1.toNatClampNeg) → vp_in a1 6 ∧ (∀ S9 : fw_S, S9 = fw_si S7 (o + 11) a1.toNatClampNeg a2 → wp_M_put S9 o a1 1 0 (fun S10 => wp_M_show_146 o a1 a2 post S10 x3 p0))))))))
def wp_M_show_102 (o : Nat) (a1 : Int32) (a2 : Int32) (post : fw_S → Int32 → Prop) (S : fw_S) (x3 : Int32) : Prop := wp_M_show_103 o a1 a2 post S x3 0
def wp_M_show_224 (o : Nat) (a1 : Int32) (a2 : Int32) (post : fw_S → Int32 → Prop) (S : fw_S) (x3 : Int32) (x4 : Int32) (x5 : Int32) : Prop := post S 0
def wp_M_show_208 (o : Nat) (a1 : Int32) (a2 : Int32) (post : fw_S → Int32 → Prop) (S : fw_S) (x3 : Int32) (x4 : Int32) (p0 : Int32) : Prop := vp_in a1 6 ∧ (((((S.1 (o + 6) a1.toNatClampNeg) = 0) → wp_M_show_224 o a1 a2 post S x3 x4 p0) ∧ (¬ ((S.1 (o + 6) a1.toNatClampNeg) = 0) → ((¬ (p0 = 0) → wp_M_idle S o a1 (fun S4 r5 => wp_M_ends S4 o a1 r5 (fun S6 => post S6 2))) ∧ ((p0 = 0) → wp_M_show_224 o a1 a2 post S x3 x4 p0)))))
def wp_M_show_203 (o : Nat) (a1 : Int32) (a2 : Int32) (post : fw_S → Int32 → Prop) (S : fw_S) (x3 : Int32) (x4 : Int32) : Prop := wp_M_show_208 o a1 a2 post S x3 x4 1
def wp_M_show_207 (o : Nat) (a1 : Int32) (a2 : Int32) (post : fw_S → Int32 → Prop) (S : fw_S) (x3 : Int32) (x4 : Int32) : Prop := wp_M_show_208 o a1 a2 post S x3 x4 0
def wp_M_show_25 (o : Nat) (a1 : Int32) (a2 : Int32) (post : fw_S → Int32 → Prop) (S : fw_S) (p0 : Int32) : Prop := ∀ S1 : fw_S, S1 = fw_si S o 0 p0 → ((((S1.1 o 0) ≤ 0) → ∀ S3 : fw_S, S3 = fw_si S1 o 39 0 → wp_M_list S3 o a1 (fun S4 r5 => vp_in a1 6 ∧ (((¬ ((S4.1 (o + 9) a1.toNatClampNeg) = 0) → vp_in a1 6 ∧ (∀ v9 : Int32, v9 = (S4.1 (o + 11) a1.toNatClampNeg) → (((a2 = v9) → wp_M_show_203 o a1 a2 post S4 r5 v9) ∧ (¬ (a2 = v9) → vp_in (r5 + a2) 112 ∧ (vp_in (r5 + v9) 112 ∧ (((¬ ((S4.1 (o + 5) ((r5 + a2 : Int32).toNatClampNeg)) = (S4.1 (o + 5) ((r5 + v9 : Int32).toNatClampNeg))) → wp_M_show_207 o a1 a2 post S4 r5 v9) ∧ (((S4.1 (o + 5) ((r5 + a2 : Int32).toNatClampNeg)) = (S4.1 (o + 5) ((r5 + v9 : Int32).toNatClampNeg))) → vp_in (r5 + v9) 112 ∧ (((((S4.1 (o + 5) ((r5 + v9 : Int32).toNatClampNeg)) = 0) → wp_M_show_207 o a1 a2 post S4 r5 v9) ∧ (¬ ((S4.1 (o + 5) ((r5 + v9 : Int32).toNatClampNeg)) = 0) → wp_M_show_203 o a1 a2 post S4 r5 v9))))))))))) ∧ (((S4.1 (o + 9) a1.toNatClampNeg) = 0) → vp_in a1 6 ∧ (((((S4.1 (o + 6) a1.toNatClampNeg) = 0) → wp_M_show_102 o a1 a2 post S4 r5) ∧ (¬ ((S4.1 (o + 6) a1.toNatClampNeg) = 0) → vp_in a1 6 ∧ (((((S4.1 (o + 18) a1.toNatClampNeg) = 0) → wp_M_show_102 o a1 a2 post S4 r5) ∧ (¬ ((S4.1 (o + 18) a1.toNatClampNeg) = 0) → vp_in a1 6 ∧ ((((20 < (S4.1 (o + 12) a1.toNatClampNeg)) → wp_M_show_102 o a1 a2 post S4 r5) ∧ (¬ (20 < (S4.1 (o + 12) a1.toNatClampNeg)) → vp_in (r5 + a2) 112 ∧ (((¬ ((S4.1 (o + 4) ((r5 + a2 : Int32).toNatClampNeg)) = 1) → wp_M_show_102 o a1 a2 post S4 r5) ∧ (((S4.1 (o + 4) ((r5 + a2 : Int32).toNatClampNeg)) = 1) → wp_M_show_103 o a1 a2 post S4 r5 1))))))))))))))))) ∧ (¬ ((S1.1 o 0) ≤ 0) → post S1 0))
def wp_M_show_24 (o : Nat) (a1 : Int32) (a2 : Int32) (post : fw_S → Int32 → Prop) (S : fw_S) : Prop := wp_M_show_25 o a1 a2 post S 1
def wp_M_show (S : fw_S) (o : Nat) (a1 : Int32) (a2 : Int32) (post : fw_S → Int32 → Prop) : Prop := wp_M_isIn S a1 0 5 (fun S1 r2 => (((r2 = 0) → wp_M_show_24 o a1 a2 post S1) ∧ (¬ (r2 = 0) → wp_M_isIn S1 a2 0 15 (fun S4 r5 => (((r5 = 0) → wp_M_show_24 o a1 a2 post S4) ∧ (¬ (r5 = 0) → wp_M_show_25 o a1 a2 post S4 0))))))
set_option maxHeartbeats 4000000 in
set_option maxRecDepth 100000 in
theorem mt_M_show (l : Launch) (D : va_G) (cA : Nat → ClassId) (b : Nat) (S : fw_S) (o : Nat) (a1 : Int32) (a2 : Int32) (ho : o < 245 ∧ layU o = (10, 0)) (post : fw_S → Int32 → Prop) (hw : wp_M_show S o a1 a2 post) : Met l yy_M_show ww_M_show rm_M_show (fw_Pc D CL cA (TYS cA) TK layU b 245 S [.ref (b + o), .int a1, .int a2]) (va_Qi (fun r S' => post S' r) (fw_B D CL cA TK layU b 245) (fw_A b 245)) 0 0 (fw_A b 245) := by
  refine Met.ofW (cc := bb_M_show) (maxL := 6) (ret := (some .int)) (by decide) rfl ?_
  intro p e s m args below meth c s₁ B hml hv
  obtain ⟨rfl, hP, hK⟩ := hv
  have hx := B.exec
  have hb := B.bytes
  have hr := B.returns
  have hts := atoms_spec (ws := ww_M_show) B.pre
  have hown : s.vm.findClass "OutletOfficeModel" = some m.cls := findClass_of_methodNamed B.named
  have hlocks := B.notSynchronized
  have hS : va_S (fw_A b 245) s.heap s.heap [] := va_S.rf
  have hl := lv_entry ([.ref (b + o), .int a1, .int a2]) (n := 6) (Nat.le_of_ble_eq_true rfl)
  rw [lg_entry_eq]
  generalize (lg_sl ([.ref (b + o), .int a1, .int a2]) ++ List.replicate (6 - (lg_sl ([.ref (b + o), .int a1, .int a2])).length) Slot.unset).toArray = ls at hl ⊢
  have hl : lv_has ls 6 [(0, .ref (b + o)), (1, .int a1), (2, .int a2)] := hl
  have B156 : ∀ (S : fw_S) (x3 : Int32) (x4 : Int32) (p0 : Int32) (H : Heap) (locs : List Loc) (ls : Array Slot), wp_M_show_156 o a1 a2 post S x3 x4 p0 → fw_P D CL cA layU b 245 (fw_v TK layU b S) H → va_S (fw_A b 245) s.heap H locs → lv_has ls 6 [(0, .ref (b + o)), (1, .int a1), (2, .int a2), (3, .int x3), (4, .int x4)] → W p l e (headSpec ww_M_show rm_M_show).room s m ([.ref (b + o), .int a1, .int a2] : List Value).toArray below meth c H locs 0 0 (MQ below (va_Qi (fun r S' => post S' r) (fw_B D CL cA TK layU b 245) (fw_A b 245)) ([.ref (b + o), .int a1, .int a2] : List Value).toArray s 0 0 (fw_A b 245)) (F0 m 156 ls [.int p0]) := by
      intro S x3 x4 p0 H locs ls hw hP hS hl
      unfold wp_M_show_156 at hw
      exact W.iret (v := p0) hx hb hr (fun t ht hW => ⟨⟨_, _, rfl, hw, fw_Bof ht hP⟩, hS.F ht⟩) hS.2.2 dd_M_show_156
  have B146 : ∀ (S : fw_S) (x3 : Int32) (x4 : Int32) (H : Heap) (locs : List Loc) (ls : Array Slot), wp_M_show_146 o a1 a2 post S x3 x4 → fw_P D CL cA layU b 245 (fw_v TK layU b S) H → va_S (fw_A b 245) s.heap H locs → lv_has ls 6 [(0, .ref (b + o)), (1, .int a1), (2, .int a2), (3, .int x3), (4, .int x4)] → W p l e (headSpec ww_M_show rm_M_show).room s m ([.ref (b + o), .int a1, .int a2] : List Value).toArray below meth c H locs 0 0 (MQ below (va_Qi (fun r S' => post S' r) (fw_B D CL cA TK layU b 245) (fw_A b 245)) ([.ref (b + o), .int a1, .int a2] : List Value).toArray s 0 0 (fw_A b 245)) (F0 m 146 ls []) := by
      intro S x3 x4 H locs ls hw hP hS hl
      unfold wp_M_show_146 at hw
      refine lv_iload hx hb dd_M_show_146 (lv_at hl 4 rfl) ?_
      refine lv_if_eq (tgt := 155) hx hb dd_M_show_148 (by decide) (fun h1 => ?_) (fun h1 => ?_)
      · have hw := hw.1 h1
        refine lv_iconst (v := 0) hx hb dd_M_show_155 kc_ic_0 ?_
        exact B156 S x3 x4 0 _ _ ls hw hP hS (lv_sub hl [0, 1, 2, 3, 4] rfl)
      · have hw := hw.2 h1
        refine lv_iconst (v := 1) hx hb dd_M_show_151 kc_ic_1 ?_
        refine lv_goto (tgt := 156) hx hb dd_M_show_152 (by decide) ?_
        exact B156 S x3 x4 1 _ _ ls hw hP hS (lv_sub hl [0, 1, 2, 3, 4] rfl)
  have B103 : ∀ (S : fw_S) (x3 : Int32) (p0 : Int32) (H : Heap) (locs : List Loc) (ls : Array Slot), wp_M_show_103 o a1 a2 post S x3 p0 → fw_P D CL cA layU b 245 (fw_v TK layU b S) H → va_S (fw_A b 245) s.heap H locs → lv_has ls 6 [(0, .ref (b + o)), (1, .int a1), (2, .int a2), (3, .int x3)] → W p l e (headSpec ww_M_show rm_M_show).room s m ([.ref (b + o), .int a1, .int a2] : List Value).toArray below meth c H locs 0 0 (MQ below (va_Qi (fun r S' => post S' r) (fw_B D CL cA TK layU b 245) (fw_A b 245)) ([.ref (b + o), .int a1, .int a2] : List Value).toArray s 0 0 (fw_A b 245)) (F0 m 103 ls [.int p0]) := by
      intro S x3 p0 H locs ls hw hP hS hl
      unfold wp_M_show_103 at hw
      refine lv_istore hx hb dd_M_show_103 hl (Nat.le_of_ble_eq_true rfl) rfl (fun ls hl => ?_)
      have hl : lv_has ls 6 [(4, .int p0), (0, .ref (b + o)), (1, .int a1), (2, .int a2), (3, .int x3)] := hl
      refine lv_iload hx hb dd_M_show_105 (lv_at hl 0 rfl) ?_
      refine lv_if_eq (tgt := 146) hx hb dd_M_show_107 (by decide) (fun h1 => ?_) (fun h1 => ?_)
      · have hw := hw.1 h1
        exact B146 S x3 p0 _ _ ls hw hP hS (lv_sub hl [1, 2, 3, 4, 0] rfl)
      · have hw := hw.2 h1
        refine lv_aload_n hx hb dd_M_show_110 rfl (lv_at hl 1 rfl) ?_
        refine fw_getr hx hb hts in_10 hown hK hP ho (by decide) rfl 13 (by decide) (hts _ (tb_in tw_794)) tk_10_13 dd_M_show_111 ?_
        refine lv_iload_n hx hb dd_M_show_114 rfl (lv_at hl 2 rfl) ?_
        refine lv_dup2_11 hx hb dd_M_show_115 rfl rfl ?_
        obtain ⟨h2, hw⟩ := hw
        refine fw_iald hx hb hK hP (lf_10_13 ho) (by decide) 0 rfl tka_100 h2 dd_M_show_116 ?_
        refine lv_iconst (v := 1) hx hb dd_M_show_117 kc_ic_1 ?_
        refine lv_iadd hx hb dd_M_show_118 ?_
        obtain ⟨h3, hw⟩ := hw
        refine fw_iast hx hb hK hP hS (fw_A.in (lf_10_13 ho).1) (lf_10_13 ho) (by decide) 0 rfl tka_100 h3 dd_M_show_119 (fun H locs hP hS => ?_)
        obtain ⟨S4, e_S4⟩ : ∃ z, z = fw_si S (o + 10) a1.toNatClampNeg ((S.1 (o + 10) a1.toNatClampNeg) + 1) := ⟨_, rfl⟩
        rw [← e_S4] at hP
        have hw := hw S4 e_S4
        refine lv_aload_n hx hb dd_M_show_120 rfl (lv_at hl 1 rfl) ?_
        refine fw_getr hx hb hts in_10 hown hK hP ho (by decide) rfl 12 (by decide) (hts _ (tb_in tw_793)) tk_10_12 dd_M_show_121 ?_
        refine lv_iload_n hx hb dd_M_show_124 rfl (lv_at hl 2 rfl) ?_
        refine lv_aload_n hx hb dd_M_show_125 rfl (lv_at hl 1 rfl) ?_
        refine fw_getr hx hb hts in_10 hown hK hP ho (by decide) rfl 13 (by decide) (hts _ (tb_in tw_794)) tk_10_13 dd_M_show_126 ?_
        refine lv_iload_n hx hb dd_M_show_129 rfl (lv_at hl 2 rfl) ?_
        obtain ⟨h5, hw⟩ := hw
        refine fw_iald hx hb hK hP (lf_10_13 ho) (by decide) 0 rfl tka_100 h5 dd_M_show_130 ?_
        obtain ⟨h6, hw⟩ := hw
        refine fw_iast hx hb hK hP hS (fw_A.in (lf_10_12 ho).1) (lf_10_12 ho) (by decide) 0 rfl tka_100 h6 dd_M_show_131 (fun H locs hP hS => ?_)
        obtain ⟨S7, e_S7⟩ : ∃ z, z = fw_si S4 (o + 9) a1.toNatClampNeg (S4.1 (o + 10) a1.toNatClampNeg) := ⟨_, rfl⟩
        rw [← e_S7] at hP
        have hw := hw S7 e_S7
        refine lv_aload_n hx hb dd_M_show_132 rfl (lv_at hl 1 rfl) ?_
        refine fw_getr hx hb hts in_10 hown hK hP ho (by decide) rfl 14 (by decide) (hts _ (tb_in tw_795)) tk_10_14 dd_M_show_133 ?_
        refine lv_iload_n hx hb dd_M_show_136 rfl (lv_at hl 2 rfl) ?_
        refine lv_iload_n hx hb dd_M_show_137 rfl (lv_at hl 3 rfl) ?_
        obtain ⟨h8, hw⟩ := hw
        refine fw_iast hx hb hK hP hS (fw_A.in (lf_10_14 ho).1) (lf_10_14 ho) (by decide) 0 rfl tka_100 h8 dd_M_show_138 (fun H locs hP hS => ?_)
        obtain ⟨S9, e_S9⟩ : ∃ z, z = fw_si S7 (o + 11) a1.toNatClampNeg a2 := ⟨_, rfl⟩
        rw [← e_S9] at hP
        have hw := hw S9 e_S9
        refine lv_aload_n hx hb dd_M_show_139 rfl (lv_at hl 1 rfl) ?_
        refine lv_iload_n hx hb dd_M_show_140 rfl (lv_at hl 2 rfl) ?_
        refine lv_iconst (v := 1) hx hb dd_M_show_141 kc_ic_1 ?_
        refine lv_iconst (v := 0) hx hb dd_M_show_142 kc_ic_0 ?_
        refine fw_callv (va_runV (As := [.int a1, .int 1, .int 0]) (rest := []) ⟨hx, hb, hml, hown, hts⟩ (mt_M_put l D cA b S9 o a1 1 0 ho _ hw) (cwV 3 hts (fw_gV tw_964 tw_961 tw_963 ts_18 tw_11) rfl rfl rfl (by decide +kernel) ⟨Nat.le_of_ble_eq_true rfl, Nat.le_of_ble_eq_true rfl⟩) (fw_preV hP hK ho (by decide) rfl) rfl rfl hl.1 rfl (lv_room (Nat.le_of_ble_eq_true rfl)) dd_M_show_143 ⟨Nat.le_of_ble_eq_true rfl, Nat.le_of_ble_eq_true rfl⟩) hS (fun S10 H locs hw hP hS => ?_)
        try dsimp only at hw
        exact B146 S10 x3 p0 _ _ ls hw hP hS (lv_sub hl [1, 2, 3, 4, 0] rfl)
  have B102 : ∀ (S : fw_S) (x3 : Int32) (H : Heap) (locs : List Loc) (ls : Array Slot), wp_M_show_102 o a1 a2 post S x3 → fw_P D CL cA layU b 245 (fw_v TK layU b S) H → va_S (fw_A b 245) s.heap H locs → lv_has ls 6 [(0, .ref (b + o)), (1, .int a1), (2, .int a2), (3, .int x3)] → W p l e (headSpec ww_M_show rm_M_show).room s m ([.ref (b + o), .int a1, .int a2] : List Value).toArray below meth c H locs 0 0 (MQ below (va_Qi (fun r S' => post S' r) (fw_B D CL cA TK layU b 245) (fw_A b 245)) ([.ref (b + o), .int a1, .int a2] : List Value).toArray s 0 0 (fw_A b 245)) (F0 m 102 ls []) := by
      intro S x3 H locs ls hw hP hS hl
      unfold wp_M_show_102 at hw
      refine lv_iconst (v := 0) hx hb dd_M_show_102 kc_ic_0 ?_
      exact B103 S x3 0 _ _ ls hw hP hS (lv_sub hl [0, 1, 2, 3] rfl)
  have B224 : ∀ (S : fw_S) (x3 : Int32) (x4 : Int32) (x5 : Int32) (H : Heap) (locs : List Loc) (ls : Array Slot), wp_M_show_224 o a1 a2 post S x3 x4 x5 → fw_P D CL cA layU b 245 (fw_v TK layU b S) H → va_S (fw_A b 245) s.heap H locs → lv_has ls 6 [(0, .ref (b + o)), (1, .int a1), (2, .int a2), (3, .int x3), (4, .int x4), (5, .int x5)] → W p l e (headSpec ww_M_show rm_M_show).room s m ([.ref (b + o), .int a1, .int a2] : List Value).toArray below meth c H locs 0 0 (MQ below (va_Qi (fun r S' => post S' r) (fw_B D CL cA TK layU b 245) (fw_A b 245)) ([.ref (b + o), .int a1, .int a2] : List Value).toArray s 0 0 (fw_A b 245)) (F0 m 224 ls []) := by
      intro S x3 x4 x5 H locs ls hw hP hS hl
      unfold wp_M_show_224 at hw
      refine lv_iconst (v := 0) hx hb dd_M_show_224 kc_ic_0 ?_
      exact W.iret (v := 0) hx hb hr (fun t ht hW => ⟨⟨_, _, rfl, hw, fw_Bof ht hP⟩, hS.F ht⟩) hS.2.2 dd_M_show_225
  have B208 : ∀ (S : fw_S) (x3 : Int32) (x4 : Int32) (p0 : Int32) (H : Heap) (locs : List Loc) (ls : Array Slot), wp_M_show_208 o a1 a2 post S x3 x4 p0 → fw_P D CL cA layU b 245 (fw_v TK layU b S) H → va_S (fw_A b 245) s.heap H locs → lv_has ls 6 [(0, .ref (b + o)), (1, .int a1), (2, .int a2), (3, .int x3), (4, .int x4)] → W p l e (headSpec ww_M_show rm_M_show).room s m ([.ref (b + o), .int a1, .int a2] : List Value).toArray below meth c H locs 0 0 (MQ below (va_Qi (fun r S' => post S' r) (fw_B D CL cA TK layU b 245) (fw_A b 245)) ([.ref (b + o), .int a1, .int a2] : List Value).toArray s 0 0 (fw_A b 245)) (F0 m 208 ls [.int p0]) := by
      intro S x3 x4 p0 H locs ls hw hP hS hl
      unfold wp_M_show_208 at hw
      refine lv_istore hx hb dd_M_show_208 hl (Nat.le_of_ble_eq_true rfl) rfl (fun ls hl => ?_)
      have hl : lv_has ls 6 [(5, .int p0), (0, .ref (b + o)), (1, .int a1), (2, .int a2), (3, .int x3), (4, .int x4)] := hl
      refine lv_aload_n hx hb dd_M_show_210 rfl (lv_at hl 1 rfl) ?_
      refine fw_getr hx hb hts in_10 hown hK hP ho (by decide) rfl 9 (by decide) (hts _ (tb_in tw_790)) tk_10_9 dd_M_show_211 ?_
      refine lv_iload_n hx hb dd_M_show_214 rfl (lv_at hl 2 rfl) ?_
      obtain ⟨h1, hw⟩ := hw
      refine fw_zald hx hb hK hP (lf_10_9 ho) (by decide) 2 rfl tka_102 h1 dd_M_show_215 ?_
      refine lv_if_eq (tgt := 224) hx hb dd_M_show_216 (by decide) (fun h2 => ?_) (fun h2 => ?_)
      · have hw := hw.1 h2
        exact B224 S x3 x4 p0 _ _ ls hw hP hS (lv_sub hl [1, 2, 3, 4, 5, 0] rfl)
      · have hw := hw.2 h2
        refine lv_iload hx hb dd_M_show_219 (lv_at hl 0 rfl) ?_
        refine lv_if_ne (tgt := 226) hx hb dd_M_show_221 (by decide) (fun h3 => ?_) (fun h3 => ?_)
        · have hw := hw.1 h3
          refine lv_aload_n hx hb dd_M_show_226 rfl (lv_at hl 1 rfl) ?_
          refine lv_iload_n hx hb dd_M_show_227 rfl (lv_at hl 2 rfl) ?_
          refine lv_aload_n hx hb dd_M_show_228 rfl (lv_at hl 1 rfl) ?_
          refine lv_iload_n hx hb dd_M_show_229 rfl (lv_at hl 2 rfl) ?_
          refine fw_calli (va_runV (As := [.int a1]) (rest := [.int a1, .ref (b + o)]) ⟨hx, hb, hml, hown, hts⟩ (mt_M_idle l D cA b S o a1 ho _ hw) (cwV 1 hts (fw_gV tw_956 tw_953 tw_955 ts_16 tw_11) rfl rfl rfl (by decide +kernel) ⟨Nat.le_of_ble_eq_true rfl, Nat.le_of_ble_eq_true rfl⟩) (fw_preV hP hK ho (by decide) rfl) rfl rfl hl.1 rfl (lv_room (Nat.le_of_ble_eq_true rfl)) dd_M_show_230 ⟨Nat.le_of_ble_eq_true rfl, Nat.le_of_ble_eq_true rfl⟩) hS (fun S4 r5 H locs hw hP hS => ?_)
          try dsimp only at hw
          refine fw_callv (va_runV (As := [.int a1, .int r5]) (rest := []) ⟨hx, hb, hml, hown, hts⟩ (mt_M_ends l D cA b S4 o a1 r5 ho _ hw) (cwV 2 hts (fw_gV tw_960 tw_957 tw_959 ts_17 tw_11) rfl rfl rfl (by decide +kernel) ⟨Nat.le_of_ble_eq_true rfl, Nat.le_of_ble_eq_true rfl⟩) (fw_preV hP hK ho (by decide) rfl) rfl rfl hl.1 rfl (lv_room (Nat.le_of_ble_eq_true rfl)) dd_M_show_233 ⟨Nat.le_of_ble_eq_true rfl, Nat.le_of_ble_eq_true rfl⟩) hS (fun S6 H locs hw hP hS => ?_)
          try dsimp only at hw
          refine lv_iconst (v := 2) hx hb dd_M_show_236 kc_ic_2 ?_
          exact W.iret (v := 2) hx hb hr (fun t ht hW => ⟨⟨_, _, rfl, hw, fw_Bof ht hP⟩, hS.F ht⟩) hS.2.2 dd_M_show_237
        · have hw := hw.2 h3
          exact B224 S x3 x4 p0 _ _ ls hw hP hS (lv_sub hl [1, 2, 3, 4, 5, 0] rfl)
  have B203 : ∀ (S : fw_S) (x3 : Int32) (x4 : Int32) (H : Heap) (locs : List Loc) (ls : Array Slot), wp_M_show_203 o a1 a2 post S x3 x4 → fw_P D CL cA layU b 245 (fw_v TK layU b S) H → va_S (fw_A b 245) s.heap H locs → lv_has ls 6 [(0, .ref (b + o)), (1, .int a1), (2, .int a2), (3, .int x3), (4, .int x4)] → W p l e (headSpec ww_M_show rm_M_show).room s m ([.ref (b + o), .int a1, .int a2] : List Value).toArray below meth c H locs 0 0 (MQ below (va_Qi (fun r S' => post S' r) (fw_B D CL cA TK layU b 245) (fw_A b 245)) ([.ref (b + o), .int a1, .int a2] : List Value).toArray s 0 0 (fw_A b 245)) (F0 m 203 ls []) := by
      intro S x3 x4 H locs ls hw hP hS hl
      unfold wp_M_show_203 at hw
      refine lv_iconst (v := 1) hx hb dd_M_show_203 kc_ic_1 ?_
      refine lv_goto (tgt := 208) hx hb dd_M_show_204 (by decide) ?_
      exact B208 S x3 x4 1 _ _ ls hw hP hS (lv_sub hl [0, 1, 2, 3, 4] rfl)
  have B207 : ∀ (S : fw_S) (x3 : Int32) (x4 : Int32) (H : Heap) (locs : List Loc) (ls : Array Slot), wp_M_show_207 o a1 a2 post S x3 x4 → fw_P D CL cA layU b 245 (fw_v TK layU b S) H → va_S (fw_A b 245) s.heap H locs → lv_has ls 6 [(0, .ref (b + o)), (1, .int a1), (2, .int a2), (3, .int x3), (4, .int x4)] → W p l e (headSpec ww_M_show rm_M_show).room s m ([.ref (b + o), .int a1, .int a2] : List Value).toArray below meth c H locs 0 0 (MQ below (va_Qi (fun r S' => post S' r) (fw_B D CL cA TK layU b 245) (fw_A b 245)) ([.ref (b + o), .int a1, .int a2] : List Value).toArray s 0 0 (fw_A b 245)) (F0 m 207 ls []) := by
      intro S x3 x4 H locs ls hw hP hS hl
      unfold wp_M_show_207 at hw
      refine lv_iconst (v := 0) hx hb dd_M_show_207 kc_ic_0 ?_
      exact B208 S x3 x4 0 _ _ ls hw hP hS (lv_sub hl [0, 1, 2, 3, 4] rfl)
  have B25 : ∀ (S : fw_S) (p0 : Int32) (H : Heap) (locs : List Loc) (ls : Array Slot), wp_M_show_25 o a1 a2 post S p0 → fw_P D CL cA layU b 245 (fw_v TK layU b S) H → va_S (fw_A b 245) s.heap H locs → lv_has ls 6 [(0, .ref (b + o)), (1, .int a1), (2, .int a2)] → W p l e (headSpec ww_M_show rm_M_show).room s m ([.ref (b + o), .int a1, .int a2] : List Value).toArray below meth c H locs 0 0 (MQ below (va_Qi (fun r S' => post S' r) (fw_B D CL cA TK layU b 245) (fw_A b 245)) ([.ref (b + o), .int a1, .int a2] : List Value).toArray s 0 0 (fw_A b 245)) (F0 m 25 ls [.int p0, .ref (b + o)]) := by
      intro S p0 H locs ls hw hP hS hl
      unfold wp_M_show_25 at hw
      refine fw_puti hx hb hts in_10 F_ty_10 F_tyok_10 F_nm_10 hown hK hP hS (fw_A.in ho.1) ho (by decide) rfl 0 (by decide) (hts _ (tb_in tw_781)) rfl tk_10_0 (ty := .int) (by decide +kernel) rfl rfl dd_M_show_25 (fun H locs hP hS => ?_)
      obtain ⟨S1, e_S1⟩ : ∃ z, z = fw_si S o 0 p0 := ⟨_, rfl⟩
      rw [← e_S1] at hP
      have hw := hw S1 e_S1
      refine lv_aload_n hx hb dd_M_show_28 rfl (lv_at hl 0 rfl) ?_
      refine fw_geti hx hb hts in_10 hown hK hP ho (by decide) rfl 0 (by decide) (hts _ (tb_in tw_781)) tk_10_0 dd_M_show_29 ?_
      refine lv_if_le (tgt := 37) hx hb dd_M_show_32 (by decide) (fun h2 => ?_) (fun h2 => ?_)
      · have hw := hw.1 h2
        refine lv_aload_n hx hb dd_M_show_37 rfl (lv_at hl 0 rfl) ?_
        refine lv_iconst (v := 0) hx hb dd_M_show_38 kc_ic_0 ?_
        refine fw_puti hx hb hts in_10 F_ty_10 F_tyok_10 F_nm_10 hown hK hP hS (fw_A.in ho.1) ho (by decide) rfl 39 (by decide) (hts _ (tb_in tw_820)) rfl tk_10_39 (ty := .boolean) (by decide +kernel) rfl rfl dd_M_show_39 (fun H locs hP hS => ?_)
        obtain ⟨S3, e_S3⟩ : ∃ z, z = fw_si S1 o 39 0 := ⟨_, rfl⟩
        rw [← e_S3] at hP
        have hw := hw S3 e_S3
        refine lv_aload_n hx hb dd_M_show_42 rfl (lv_at hl 0 rfl) ?_
        refine lv_iload_n hx hb dd_M_show_43 rfl (lv_at hl 1 rfl) ?_
        refine fw_calli (va_runV (As := [.int a1]) (rest := []) ⟨hx, hb, hml, hown, hts⟩ (mt_M_list l D cA b S3 o a1 ho _ hw) (cwV 1 hts (fw_gV tw_975 tw_972 tw_974 ts_19 tw_11) rfl rfl rfl (by decide +kernel) ⟨Nat.le_of_ble_eq_true rfl, Nat.le_of_ble_eq_true rfl⟩) (fw_preV hP hK ho (by decide) rfl) rfl rfl hl.1 rfl (lv_room (Nat.le_of_ble_eq_true rfl)) dd_M_show_44 ⟨Nat.le_of_ble_eq_true rfl, Nat.le_of_ble_eq_true rfl⟩) hS (fun S4 r5 H locs hw hP hS => ?_)
        try dsimp only at hw
        refine lv_istore_n hx hb dd_M_show_47 rfl hl (Nat.le_of_ble_eq_true rfl) rfl (fun ls hl => ?_)
        have hl : lv_has ls 6 [(3, .int r5), (0, .ref (b + o)), (1, .int a1), (2, .int a2)] := hl
        refine lv_aload_n hx hb dd_M_show_48 rfl (lv_at hl 1 rfl) ?_
        refine fw_getr hx hb hts in_10 hown hK hP ho (by decide) rfl 12 (by decide) (hts _ (tb_in tw_793)) tk_10_12 dd_M_show_49 ?_
        refine lv_iload_n hx hb dd_M_show_52 rfl (lv_at hl 2 rfl) ?_
        obtain ⟨h6, hw⟩ := hw
        refine fw_iald hx hb hK hP (lf_10_12 ho) (by decide) 0 rfl tka_100 h6 dd_M_show_53 ?_
        refine lv_if_ne (tgt := 157) hx hb dd_M_show_54 (by decide) (fun h7 => ?_) (fun h7 => ?_)
        · have hw := hw.1 h7
          refine lv_aload_n hx hb dd_M_show_157 rfl (lv_at hl 1 rfl) ?_
          refine fw_getr hx hb hts in_10 hown hK hP ho (by decide) rfl 14 (by decide) (hts _ (tb_in tw_795)) tk_10_14 dd_M_show_158 ?_
          refine lv_iload_n hx hb dd_M_show_161 rfl (lv_at hl 2 rfl) ?_
          obtain ⟨h8, hw⟩ := hw
          refine fw_iald hx hb hK hP (lf_10_14 ho) (by decide) 0 rfl tka_100 h8 dd_M_show_162 ?_
          refine lv_topi (fun v9 e_v9 => ?_)
          have hw := hw v9 e_v9
          refine lv_istore hx hb dd_M_show_163 hl (Nat.le_of_ble_eq_true rfl) rfl (fun ls hl => ?_)
          have hl : lv_has ls 6 [(4, .int v9), (3, .int r5), (0, .ref (b + o)), (1, .int a1), (2, .int a2)] := hl
          refine lv_iload_n hx hb dd_M_show_165 rfl (lv_at hl 4 rfl) ?_
          refine lv_iload hx hb dd_M_show_166 (lv_at hl 0 rfl) ?_
          refine lv_icmp_eq (tgt := 203) hx hb dd_M_show_168 (by decide) (fun h10 => ?_) (fun h10 => ?_)
          · have hw := hw.1 h10
            exact B203 S4 r5 v9 _ _ ls hw hP hS (lv_sub hl [2, 3, 4, 1, 0] rfl)
          · have hw := hw.2 h10
            refine lv_aload_n hx hb dd_M_show_171 rfl (lv_at hl 2 rfl) ?_
            refine fw_getr hx hb hts in_10 hown hK hP ho (by decide) rfl 8 (by decide) (hts _ (tb_in tw_789)) tk_10_8 dd_M_show_172 ?_
            refine lv_iload_n hx hb dd_M_show_175 rfl (lv_at hl 1 rfl) ?_
            refine lv_iload_n hx hb dd_M_show_176 rfl (lv_at hl 4 rfl) ?_
            refine lv_iadd hx hb dd_M_show_177 ?_
            obtain ⟨h11, hw⟩ := hw
            refine fw_iald hx hb hK hP (lf_10_8 ho) (by decide) 0 rfl tka_100 h11 dd_M_show_178 ?_
            refine lv_aload_n hx hb dd_M_show_179 rfl (lv_at hl 2 rfl) ?_
            refine fw_getr hx hb hts in_10 hown hK hP ho (by decide) rfl 8 (by decide) (hts _ (tb_in tw_789)) tk_10_8 dd_M_show_180 ?_
            refine lv_iload_n hx hb dd_M_show_183 rfl (lv_at hl 1 rfl) ?_
            refine lv_iload hx hb dd_M_show_184 (lv_at hl 0 rfl) ?_
            refine lv_iadd hx hb dd_M_show_186 ?_
            obtain ⟨h12, hw⟩ := hw
            refine fw_iald hx hb hK hP (lf_10_8 ho) (by decide) 0 rfl tka_100 h12 dd_M_show_187 ?_
            refine lv_icmp_ne (tgt := 207) hx hb dd_M_show_188 (by decide) (fun h13 => ?_) (fun h13 => ?_)
            · have hw := hw.1 h13
              exact B207 S4 r5 v9 _ _ ls hw hP hS (lv_sub hl [2, 3, 4, 1, 0] rfl)
            · have hw := hw.2 h13
              refine lv_aload_n hx hb dd_M_show_191 rfl (lv_at hl 2 rfl) ?_
              refine fw_getr hx hb hts in_10 hown hK hP ho (by decide) rfl 8 (by decide) (hts _ (tb_in tw_789)) tk_10_8 dd_M_show_192 ?_
              refine lv_iload_n hx hb dd_M_show_195 rfl (lv_at hl 1 rfl) ?_
              refine lv_iload hx hb dd_M_show_196 (lv_at hl 0 rfl) ?_
              refine lv_iadd hx hb dd_M_show_198 ?_
              obtain ⟨h14, hw⟩ := hw
              refine fw_iald hx hb hK hP (lf_10_8 ho) (by decide) 0 rfl tka_100 h14 dd_M_show_199 ?_
              refine lv_if_eq (tgt := 207) hx hb dd_M_show_200 (by decide) (fun h15 => ?_) (fun h15 => ?_)
              · have hw := hw.1 h15
                exact B207 S4 r5 v9 _ _ ls hw hP hS (lv_sub hl [2, 3, 4, 1, 0] rfl)
              · have hw := hw.2 h15
                exact B203 S4 r5 v9 _ _ ls hw hP hS (lv_sub hl [2, 3, 4, 1, 0] rfl)
        · have hw := hw.2 h7
          refine lv_aload_n hx hb dd_M_show_57 rfl (lv_at hl 1 rfl) ?_
          refine fw_getr hx hb hts in_10 hown hK hP ho (by decide) rfl 9 (by decide) (hts _ (tb_in tw_790)) tk_10_9 dd_M_show_58 ?_
          refine lv_iload_n hx hb dd_M_show_61 rfl (lv_at hl 2 rfl) ?_
          obtain ⟨h16, hw⟩ := hw
          refine fw_zald hx hb hK hP (lf_10_9 ho) (by decide) 2 rfl tka_102 h16 dd_M_show_62 ?_
          refine lv_if_eq (tgt := 102) hx hb dd_M_show_63 (by decide) (fun h17 => ?_) (fun h17 => ?_)
          · have hw := hw.1 h17
            exact B102 S4 r5 _ _ ls hw hP hS (lv_sub hl [1, 2, 3, 0] rfl)
          · have hw := hw.2 h17
            refine lv_aload_n hx hb dd_M_show_66 rfl (lv_at hl 1 rfl) ?_
            refine fw_getr hx hb hts in_10 hown hK hP ho (by decide) rfl 21 (by decide) (hts _ (tb_in tw_802)) tk_10_21 dd_M_show_67 ?_
            refine lv_iload_n hx hb dd_M_show_70 rfl (lv_at hl 2 rfl) ?_
            obtain ⟨h18, hw⟩ := hw
            refine fw_zald hx hb hK hP (lf_10_21 ho) (by decide) 2 rfl tka_102 h18 dd_M_show_71 ?_
            refine lv_if_eq (tgt := 102) hx hb dd_M_show_72 (by decide) (fun h19 => ?_) (fun h19 => ?_)
            · have hw := hw.1 h19
              exact B102 S4 r5 _ _ ls hw hP hS (lv_sub hl [1, 2, 3, 0] rfl)
            · have hw := hw.2 h19
              refine lv_aload_n hx hb dd_M_show_75 rfl (lv_at hl 1 rfl) ?_
              refine fw_getr hx hb hts in_10 hown hK hP ho (by decide) rfl 15 (by decide) (hts _ (tb_in tw_796)) tk_10_15 dd_M_show_76 ?_
              refine lv_iload_n hx hb dd_M_show_79 rfl (lv_at hl 2 rfl) ?_
              obtain ⟨h20, hw⟩ := hw
              refine fw_iald hx hb hK hP (lf_10_15 ho) (by decide) 0 rfl tka_100 h20 dd_M_show_80 ?_
              refine lv_bipush (v := 20) hx hb dd_M_show_81 kc_bp_20 ?_
              refine lv_icmp_gt (tgt := 102) hx hb dd_M_show_83 (by decide) (fun h21 => ?_) (fun h21 => ?_)
              · have hw := hw.1 h21
                exact B102 S4 r5 _ _ ls hw hP hS (lv_sub hl [1, 2, 3, 0] rfl)
              · have hw := hw.2 h21
                refine lv_aload_n hx hb dd_M_show_86 rfl (lv_at hl 1 rfl) ?_
                refine fw_getr hx hb hts in_10 hown hK hP ho (by decide) rfl 7 (by decide) (hts _ (tb_in tw_788)) tk_10_7 dd_M_show_87 ?_
                refine lv_iload_n hx hb dd_M_show_90 rfl (lv_at hl 0 rfl) ?_
                refine lv_iload_n hx hb dd_M_show_91 rfl (lv_at hl 3 rfl) ?_
                refine lv_iadd hx hb dd_M_show_92 ?_
                obtain ⟨h22, hw⟩ := hw
                refine fw_iald hx hb hK hP (lf_10_7 ho) (by decide) 0 rfl tka_100 h22 dd_M_show_93 ?_
                refine lv_iconst (v := 1) hx hb dd_M_show_94 kc_ic_1 ?_
                refine lv_icmp_ne (tgt := 102) hx hb dd_M_show_95 (by decide) (fun h23 => ?_) (fun h23 => ?_)
                · have hw := hw.1 h23
                  exact B102 S4 r5 _ _ ls hw hP hS (lv_sub hl [1, 2, 3, 0] rfl)
                · have hw := hw.2 h23
                  refine lv_iconst (v := 1) hx hb dd_M_show_98 kc_ic_1 ?_
                  refine lv_goto (tgt := 103) hx hb dd_M_show_99 (by decide) ?_
                  exact B103 S4 r5 1 _ _ ls hw hP hS (lv_sub hl [1, 2, 3, 0] rfl)
      · have hw := hw.2 h2
        refine lv_iconst (v := 0) hx hb dd_M_show_35 kc_ic_0 ?_
        exact W.iret (v := 0) hx hb hr (fun t ht hW => ⟨⟨_, _, rfl, hw, fw_Bof ht hP⟩, hS.F ht⟩) hS.2.2 dd_M_show_36
  have B24 : ∀ (S : fw_S) (H : Heap) (locs : List Loc) (ls : Array Slot), wp_M_show_24 o a1 a2 post S → fw_P D CL cA layU b 245 (fw_v TK layU b S) H → va_S (fw_A b 245) s.heap H locs → lv_has ls 6 [(0, .ref (b + o)), (1, .int a1), (2, .int a2)] → W p l e (headSpec ww_M_show rm_M_show).room s m ([.ref (b + o), .int a1, .int a2] : List Value).toArray below meth c H locs 0 0 (MQ below (va_Qi (fun r S' => post S' r) (fw_B D CL cA TK layU b 245) (fw_A b 245)) ([.ref (b + o), .int a1, .int a2] : List Value).toArray s 0 0 (fw_A b 245)) (F0 m 24 ls [.ref (b + o)]) := by
      intro S H locs ls hw hP hS hl
      unfold wp_M_show_24 at hw
      refine lv_iconst (v := 1) hx hb dd_M_show_24 kc_ic_1 ?_
      exact B25 S 1 _ _ ls hw hP hS (lv_sub hl [0, 1, 2] rfl)
  unfold wp_M_show at hw
  refine lv_aload_n hx hb dd_M_show_0 rfl (lv_at hl 0 rfl) ?_
  refine lv_iload_n hx hb dd_M_show_1 rfl (lv_at hl 1 rfl) ?_
  refine lv_iconst (v := 0) hx hb dd_M_show_2 kc_ic_0 ?_
  refine lv_iconst (v := 5) hx hb dd_M_show_3 kc_ic_5 ?_
  refine fw_calli (va_runS (As := [.int a1, .int 0, .int 5]) (rest := [.ref (b + o)]) ⟨hx, hb, hml, hown, hts⟩ (mt_M_isIn l D cA b S a1 0 5 _ hw) (cwS 3 hts (fw_gS tw_913 tw_911 tw_912 tw_11) rfl rfl rfl (by decide +kernel) ⟨Nat.le_of_ble_eq_true rfl, Nat.le_of_ble_eq_true rfl⟩) (fw_preS hP hK) rfl rfl hl.1 rfl (lv_room (Nat.le_of_ble_eq_true rfl)) dd_M_show_4 ⟨Nat.le_of_ble_eq_true rfl, Nat.le_of_ble_eq_true rfl⟩) hS (fun S1 r2 H locs hw hP hS => ?_)
  try dsimp only at hw
  refine lv_if_eq (tgt := 24) hx hb dd_M_show_7 (by decide) (fun h3 => ?_) (fun h3 => ?_)
  · have hw := hw.1 h3
    exact B24 S1 _ _ ls hw hP hS (lv_sub hl [0, 1, 2] rfl)
  · have hw := hw.2 h3
    refine lv_iload_n hx hb dd_M_show_10 rfl (lv_at hl 2 rfl) ?_
    refine lv_iconst (v := 0) hx hb dd_M_show_11 kc_ic_0 ?_
    refine lv_bipush (v := 15) hx hb dd_M_show_12 kc_bp_15 ?_
    refine fw_calli (va_runS (As := [.int a2, .int 0, .int 15]) (rest := [.ref (b + o)]) ⟨hx, hb, hml, hown, hts⟩ (mt_M_isIn l D cA b S1 a2 0 15 _ hw) (cwS 3 hts (fw_gS tw_913 tw_911 tw_912 tw_11) rfl rfl rfl (by decide +kernel) ⟨Nat.le_of_ble_eq_true rfl, Nat.le_of_ble_eq_true rfl⟩) (fw_preS hP hK) rfl rfl hl.1 rfl (lv_room (Nat.le_of_ble_eq_true rfl)) dd_M_show_14 ⟨Nat.le_of_ble_eq_true rfl, Nat.le_of_ble_eq_true rfl⟩) hS (fun S4 r5 H locs hw hP hS => ?_)
    try dsimp only at hw
    refine lv_if_eq (tgt := 24) hx hb dd_M_show_17 (by decide) (fun h6 => ?_) (fun h6 => ?_)
    · have hw := hw.1 h6
      exact B24 S4 _ _ ls hw hP hS (lv_sub hl [0, 1, 2] rfl)
    · have hw := hw.2 h6
      refine lv_iconst (v := 0) hx hb dd_M_show_20 kc_ic_0 ?_
      refine lv_goto (tgt := 25) hx hb dd_M_show_21 (by decide) ?_
      exact B25 S4 0 _ _ ls hw hP hS (lv_sub hl [0, 1, 2] rfl)
theorem dd_M_line_35 : decode bb_M_line 35 = .ok (.iastore, 1) := by decide +kernel
theorem dd_M_line_36 : decode bb_M_line 36 = .ok (.return_, 1) := by decide +kernel
theorem dd_M_line_0 : decode bb_M_line 0 = .ok (.aload_n 0, 1) := by decide +kernel
theorem dd_M_line_1 : decode bb_M_line 1 = .ok (.iload_n 1, 1) := by decide +kernel
theorem dd_M_line_2 : decode bb_M_line 2 = .ok (.invokevirtual 134, 3) := by decide +kernel
theorem dd_M_line_5 : decode bb_M_line 5 = .ok (.ifCond .eq 4, 3) := by decide +kernel
theorem dd_M_line_9 : decode bb_M_line 9 = .ok (.aload_n 0, 1) := by decide +kernel
theorem dd_M_line_10 : decode bb_M_line 10 = .ok (.getfield 29, 3) := by decide +kernel
theorem dd_M_line_13 : decode bb_M_line 13 = .ok (.iload_n 1, 1) := by decide +kernel
theorem dd_M_line_14 : decode bb_M_line 14 = .ok (.iload_n 2, 1) := by decide +kernel
theorem dd_M_line_15 : decode bb_M_line 15 = .ok (.bastore, 1) := by decide +kernel
theorem dd_M_line_16 : decode bb_M_line 16 = .ok (.aload_n 0, 1) := by decide +kernel
theorem dd_M_line_17 : decode bb_M_line 17 = .ok (.getfield 54, 3) := by decide +kernel
theorem dd_M_line_20 : decode bb_M_line 20 = .ok (.iload_n 1, 1) := by decide +kernel
theorem dd_M_line_21 : decode bb_M_line 21 = .ok (.iload_n 2, 1) := by decide +kernel
theorem dd_M_line_22 : decode bb_M_line 22 = .ok (.ifCond .eq 12, 3) := by decide +kernel
theorem dd_M_line_34 : decode bb_M_line 34 = .ok (.iconst 0, 1) := by decide +kernel
theorem dd_M_line_25 : decode bb_M_line 25 = .ok (.aload_n 0, 1) := by decide +kernel
theorem dd_M_line_26 : decode bb_M_line 26 = .ok (.getfield 54, 3) := by decide +kernel
theorem dd_M_line_29 : decode bb_M_line 29 = .ok (.iload_n 1, 1) := by decide +kernel
theorem dd_M_line_30 : decode bb_M_line 30 = .ok (.iaload, 1) := by decide +kernel
theorem dd_M_line_31 : decode bb_M_line 31 = .ok (.goto 4, 3) := by decide +kernel
theorem dd_M_line_8 : decode bb_M_line 8 = .ok (.return_, 1) := by decide +kernel
def ww_M_line : List Cond := .code yy_M_line bb_M_line 3 none :: TB
def rm_M_line : Room := { frames := 2, cells := 0, slots := 0, locals := 43 }
def wp_M_line_35 (o : Nat) (a1 : Int32) (a2 : Int32) (post : fw_S → Prop) (S : fw_S) (p0 : Int32) : Prop := vp_in a1 6 ∧ (∀ S2 : fw_S, S2 = fw_si S (o + 15) a1.toNatClampNeg p0 → post S2)
def wp_M_line (S : fw_S) (o : Nat) (a1 : Int32) (a2 : Int32) (post : fw_S → Prop) : Prop := wp_M_noPoint S o a1 (fun S1 r2 => (((r2 = 0) → vp_in a1 6 ∧ (∀ S5 : fw_S, S5 = fw_si S1 (o + 7) a1.toNatClampNeg (fw_z a2) → (((a2 = 0) → wp_M_line_35 o a1 a2 post S5 0) ∧ (¬ (a2 = 0) → vp_in a1 6 ∧ (wp_M_line_35 o a1 a2 post S5 (S5.1 (o + 15) a1.toNatClampNeg)))))) ∧ (¬ (r2 = 0) → post S1)))
set_option maxHeartbeats 4000000 in
set_option maxRecDepth 100000 in
theorem mt_M_line (l : Launch) (D : va_G) (cA : Nat → ClassId) (b : Nat) (S : fw_S) (o : Nat) (a1 : Int32) (a2 : Int32) (ho : o < 245 ∧ layU o = (10, 0)) (post : fw_S → Prop) (hw : wp_M_line S o a1 a2 post) : Met l yy_M_line ww_M_line rm_M_line (fw_Pc D CL cA (TYS cA) TK layU b 245 S [.ref (b + o), .int a1, .int a2]) (va_Qv post (fw_B D CL cA TK layU b 245) (fw_A b 245)) 0 0 (fw_A b 245) := by
  refine Met.ofW (cc := bb_M_line) (maxL := 3) (ret := none) (by decide) rfl ?_
  intro p e s m args below meth c s₁ B hml hv
  obtain ⟨rfl, hP, hK⟩ := hv
  have hx := B.exec
  have hb := B.bytes
  have hr := B.returns
  have hts := atoms_spec (ws := ww_M_line) B.pre
  have hown : s.vm.findClass "OutletOfficeModel" = some m.cls := findClass_of_methodNamed B.named
  have hlocks := B.notSynchronized
  have hS : va_S (fw_A b 245) s.heap s.heap [] := va_S.rf
  have hl := lv_entry ([.ref (b + o), .int a1, .int a2]) (n := 3) (Nat.le_of_ble_eq_true rfl)
  rw [lg_entry_eq]
  generalize (lg_sl ([.ref (b + o), .int a1, .int a2]) ++ List.replicate (3 - (lg_sl ([.ref (b + o), .int a1, .int a2])).length) Slot.unset).toArray = ls at hl ⊢
  have hl : lv_has ls 3 [(0, .ref (b + o)), (1, .int a1), (2, .int a2)] := hl
  have B35 : ∀ (S : fw_S) (p0 : Int32) (H : Heap) (locs : List Loc) (ls : Array Slot), wp_M_line_35 o a1 a2 post S p0 → fw_P D CL cA layU b 245 (fw_v TK layU b S) H → va_S (fw_A b 245) s.heap H locs → lv_has ls 3 [(0, .ref (b + o)), (1, .int a1), (2, .int a2)] → W p l e (headSpec ww_M_line rm_M_line).room s m ([.ref (b + o), .int a1, .int a2] : List Value).toArray below meth c H locs 0 0 (MQ below (va_Qv post (fw_B D CL cA TK layU b 245) (fw_A b 245)) ([.ref (b + o), .int a1, .int a2] : List Value).toArray s 0 0 (fw_A b 245)) (F0 m 35 ls [.int p0, .int a1, .ref (b + (o + 15))]) := by
      intro S p0 H locs ls hw hP hS hl
      unfold wp_M_line_35 at hw
      obtain ⟨h1, hw⟩ := hw
      refine fw_iast hx hb hK hP hS (fw_A.in (lf_10_18 ho).1) (lf_10_18 ho) (by decide) 0 rfl tka_100 h1 dd_M_line_35 (fun H locs hP hS => ?_)
      obtain ⟨S2, e_S2⟩ : ∃ z, z = fw_si S (o + 15) a1.toNatClampNeg p0 := ⟨_, rfl⟩
      rw [← e_S2] at hP
      have hw := hw S2 e_S2
      exact W.vret hx hb hr (fun t ht hW => ⟨⟨_, rfl, hw, fw_Bof ht hP⟩, hS.F ht⟩) hS.2.2 dd_M_line_36
  unfold wp_M_line at hw
  refine lv_aload_n hx hb dd_M_line_0 rfl (lv_at hl 0 rfl) ?_
  refine lv_iload_n hx hb dd_M_line_1 rfl (lv_at hl 1 rfl) ?_
  refine fw_calli (va_runV (As := [.int a1]) (rest := []) ⟨hx, hb, hml, hown, hts⟩ (mt_M_noPoint l D cA b S o a1 ho _ hw) (cwV 1 hts (fw_gV tw_935 tw_932 tw_934 ts_14 tw_11) rfl rfl rfl (by decide +kernel) ⟨Nat.le_of_ble_eq_true rfl, Nat.le_of_ble_eq_true rfl⟩) (fw_preV hP hK ho (by decide) rfl) rfl rfl hl.1 rfl (lv_room (Nat.le_of_ble_eq_true rfl)) dd_M_line_2 ⟨Nat.le_of_ble_eq_true rfl, Nat.le_of_ble_eq_true rfl⟩) hS (fun S1 r2 H locs hw hP hS => ?_)
  try dsimp only at hw
  refine lv_if_eq (tgt := 9) hx hb dd_M_line_5 (by decide) (fun h3 => ?_) (fun h3 => ?_)
  · have hw := hw.1 h3
    refine lv_aload_n hx hb dd_M_line_9 rfl (lv_at hl 0 rfl) ?_
    refine fw_getr hx hb hts in_10 hown hK hP ho (by decide) rfl 10 (by decide) (hts _ (tb_in tw_791)) tk_10_10 dd_M_line_10 ?_
    refine lv_iload_n hx hb dd_M_line_13 rfl (lv_at hl 1 rfl) ?_
    refine lv_iload_n hx hb dd_M_line_14 rfl (lv_at hl 2 rfl) ?_
    obtain ⟨h4, hw⟩ := hw
    refine fw_zast hx hb hK hP hS (fw_A.in (lf_10_10 ho).1) (lf_10_10 ho) (by decide) 2 rfl tka_102 h4 dd_M_line_15 (fun H locs hP hS => ?_)
    obtain ⟨S5, e_S5⟩ : ∃ z, z = fw_si S1 (o + 7) a1.toNatClampNeg (fw_z a2) := ⟨_, rfl⟩
    rw [← e_S5] at hP
    have hw := hw S5 e_S5
    refine lv_aload_n hx hb dd_M_line_16 rfl (lv_at hl 0 rfl) ?_
    refine fw_getr hx hb hts in_10 hown hK hP ho (by decide) rfl 18 (by decide) (hts _ (tb_in tw_799)) tk_10_18 dd_M_line_17 ?_
    refine lv_iload_n hx hb dd_M_line_20 rfl (lv_at hl 1 rfl) ?_
    refine lv_iload_n hx hb dd_M_line_21 rfl (lv_at hl 2 rfl) ?_
    refine lv_if_eq (tgt := 34) hx hb dd_M_line_22 (by decide) (fun h6 => ?_) (fun h6 => ?_)
    · have hw := hw.1 h6
      refine lv_iconst (v := 0) hx hb dd_M_line_34 kc_ic_0 ?_
      exact B35 S5 0 _ _ ls hw hP hS (lv_sub hl [0, 1, 2] rfl)
    · have hw := hw.2 h6
      refine lv_aload_n hx hb dd_M_line_25 rfl (lv_at hl 0 rfl) ?_
      refine fw_getr hx hb hts in_10 hown hK hP ho (by decide) rfl 18 (by decide) (hts _ (tb_in tw_799)) tk_10_18 dd_M_line_26 ?_
      refine lv_iload_n hx hb dd_M_line_29 rfl (lv_at hl 1 rfl) ?_
      obtain ⟨h7, hw⟩ := hw
      refine fw_iald hx hb hK hP (lf_10_18 ho) (by decide) 0 rfl tka_100 h7 dd_M_line_30 ?_
      refine lv_goto (tgt := 35) hx hb dd_M_line_31 (by decide) ?_
      exact B35 S5 (S5.1 (o + 15) a1.toNatClampNeg) _ _ ls hw hP hS (lv_sub hl [0, 1, 2] rfl)
  · have hw := hw.2 h3
    exact W.vret hx hb hr (fun t ht hW => ⟨⟨_, rfl, hw, fw_Bof ht hP⟩, hS.F ht⟩) hS.2.2 dd_M_line_8
theorem dd_M_power_26 : decode bb_M_power 26 = .ok (.iconst 0, 1) := by decide +kernel
theorem dd_M_power_27 : decode bb_M_power 27 = .ok (.istore_n 3, 1) := by decide +kernel
theorem dd_M_power_28 : decode bb_M_power 28 = .ok (.aload_n 0, 1) := by decide +kernel
theorem dd_M_power_29 : decode bb_M_power 29 = .ok (.getfield 25, 3) := by decide +kernel
theorem dd_M_power_32 : decode bb_M_power 32 = .ok (.iload_n 1, 1) := by decide +kernel
theorem dd_M_power_33 : decode bb_M_power 33 = .ok (.iload_n 2, 1) := by decide +kernel
theorem dd_M_power_34 : decode bb_M_power 34 = .ok (.bastore, 1) := by decide +kernel
theorem dd_M_power_35 : decode bb_M_power 35 = .ok (.aload_n 0, 1) := by decide +kernel
theorem dd_M_power_36 : decode bb_M_power 36 = .ok (.getfield 54, 3) := by decide +kernel
theorem dd_M_power_39 : decode bb_M_power 39 = .ok (.iload_n 1, 1) := by decide +kernel
theorem dd_M_power_40 : decode bb_M_power 40 = .ok (.iload_n 2, 1) := by decide +kernel
theorem dd_M_power_41 : decode bb_M_power 41 = .ok (.ifCond .eq 12, 3) := by decide +kernel
theorem dd_M_power_53 : decode bb_M_power 53 = .ok (.iconst 0, 1) := by decide +kernel
theorem dd_M_power_44 : decode bb_M_power 44 = .ok (.aload_n 0, 1) := by decide +kernel
theorem dd_M_power_45 : decode bb_M_power 45 = .ok (.getfield 54, 3) := by decide +kernel
theorem dd_M_power_48 : decode bb_M_power 48 = .ok (.iload_n 1, 1) := by decide +kernel
theorem dd_M_power_49 : decode bb_M_power 49 = .ok (.iaload, 1) := by decide +kernel
theorem dd_M_power_50 : decode bb_M_power 50 = .ok (.goto 4, 3) := by decide +kernel
theorem dd_M_power_54 : decode bb_M_power 54 = .ok (.iastore, 1) := by decide +kernel
theorem dd_M_power_55 : decode bb_M_power 55 = .ok (.iload_n 3, 1) := by decide +kernel
theorem dd_M_power_56 : decode bb_M_power 56 = .ok (.ifCond .eq 18, 3) := by decide +kernel
theorem dd_M_power_59 : decode bb_M_power 59 = .ok (.aload_n 0, 1) := by decide +kernel
theorem dd_M_power_60 : decode bb_M_power 60 = .ok (.getfield 36, 3) := by decide +kernel
theorem dd_M_power_63 : decode bb_M_power 63 = .ok (.iload_n 1, 1) := by decide +kernel
theorem dd_M_power_64 : decode bb_M_power 64 = .ok (.iaload, 1) := by decide +kernel
theorem dd_M_power_65 : decode bb_M_power 65 = .ok (.ifCond .le 9, 3) := by decide +kernel
theorem dd_M_power_68 : decode bb_M_power 68 = .ok (.aload_n 0, 1) := by decide +kernel
theorem dd_M_power_69 : decode bb_M_power 69 = .ok (.iload_n 1, 1) := by decide +kernel
theorem dd_M_power_70 : decode bb_M_power 70 = .ok (.iconst 0, 1) := by decide +kernel
theorem dd_M_power_71 : decode bb_M_power 71 = .ok (.invokevirtual 158, 3) := by decide +kernel
theorem dd_M_power_74 : decode bb_M_power 74 = .ok (.return_, 1) := by decide +kernel
theorem dd_M_power_0 : decode bb_M_power 0 = .ok (.aload_n 0, 1) := by decide +kernel
theorem dd_M_power_1 : decode bb_M_power 1 = .ok (.iload_n 1, 1) := by decide +kernel
theorem dd_M_power_2 : decode bb_M_power 2 = .ok (.invokevirtual 134, 3) := by decide +kernel
theorem dd_M_power_5 : decode bb_M_power 5 = .ok (.ifCond .eq 4, 3) := by decide +kernel
theorem dd_M_power_9 : decode bb_M_power 9 = .ok (.iload_n 2, 1) := by decide +kernel
theorem dd_M_power_10 : decode bb_M_power 10 = .ok (.ifCond .eq 16, 3) := by decide +kernel
theorem dd_M_power_13 : decode bb_M_power 13 = .ok (.aload_n 0, 1) := by decide +kernel
theorem dd_M_power_14 : decode bb_M_power 14 = .ok (.getfield 25, 3) := by decide +kernel
theorem dd_M_power_17 : decode bb_M_power 17 = .ok (.iload_n 1, 1) := by decide +kernel
theorem dd_M_power_18 : decode bb_M_power 18 = .ok (.baload, 1) := by decide +kernel
theorem dd_M_power_19 : decode bb_M_power 19 = .ok (.ifCond .ne 7, 3) := by decide +kernel
theorem dd_M_power_22 : decode bb_M_power 22 = .ok (.iconst 1, 1) := by decide +kernel
theorem dd_M_power_23 : decode bb_M_power 23 = .ok (.goto 4, 3) := by decide +kernel
theorem dd_M_power_8 : decode bb_M_power 8 = .ok (.return_, 1) := by decide +kernel
def ww_M_power : List Cond := .code yy_M_power bb_M_power 4 none :: TB
def rm_M_power : Room := { frames := 3, cells := 0, slots := 0, locals := 67 }
def wp_M_power_74 (o : Nat) (a1 : Int32) (a2 : Int32) (post : fw_S → Prop) (S : fw_S) (x3 : Int32) : Prop := post S
def wp_M_power_54 (o : Nat) (a1 : Int32) (a2 : Int32) (post : fw_S → Prop) (S : fw_S) (x3 : Int32) (p0 : Int32) : Prop := vp_in a1 6 ∧ (∀ S2 : fw_S, S2 = fw_si S (o + 15) a1.toNatClampNeg p0 → (((x3 = 0) → wp_M_power_74 o a1 a2 post S2 x3) ∧ (¬ (x3 = 0) → vp_in a1 6 ∧ (((((S2.1 (o + 9) a1.toNatClampNeg) ≤ 0) → wp_M_power_74 o a1 a2 post S2 x3) ∧ (¬ ((S2.1 (o + 9) a1.toNatClampNeg) ≤ 0) → wp_M_ends S2 o a1 0 (fun S6 => wp_M_power_74 o a1 a2 post S6 x3)))))))
def wp_M_power_27 (o : Nat) (a1 : Int32) (a2 : Int32) (post : fw_S → Prop) (S : fw_S) (p0 : Int32) : Prop := vp_in a1 6 ∧ (∀ S2 : fw_S, S2 = fw_si S (o + 6) a1.toNatClampNeg (fw_z a2) → (((a2 = 0) → wp_M_power_54 o a1 a2 post S2 p0 0) ∧ (¬ (a2 = 0) → vp_in a1 6 ∧ (wp_M_power_54 o a1 a2 post S2 p0 (S2.1 (o + 15) a1.toNatClampNeg)))))
def wp_M_power_26 (o : Nat) (a1 : Int32) (a2 : Int32) (post : fw_S → Prop) (S : fw_S) : Prop := wp_M_power_27 o a1 a2 post S 0
def wp_M_power (S : fw_S) (o : Nat) (a1 : Int32) (a2 : Int32) (post : fw_S → Prop) : Prop := wp_M_noPoint S o a1 (fun S1 r2 => (((r2 = 0) → (((a2 = 0) → wp_M_power_26 o a1 a2 post S1) ∧ (¬ (a2 = 0) → vp_in a1 6 ∧ (((¬ ((S1.1 (o + 6) a1.toNatClampNeg) = 0) → wp_M_power_26 o a1 a2 post S1) ∧ (((S1.1 (o + 6) a1.toNatClampNeg) = 0) → wp_M_power_27 o a1 a2 post S1 1)))))) ∧ (¬ (r2 = 0) → post S1)))
set_option maxHeartbeats 4000000 in
set_option maxRecDepth 100000 in
theorem mt_M_power (l : Launch) (D : va_G) (cA : Nat → ClassId) (b : Nat) (S : fw_S) (o : Nat) (a1 : Int32) (a2 : Int32) (ho : o < 245 ∧ layU o = (10, 0)) (post : fw_S → Prop) (hw : wp_M_power S o a1 a2 post) : Met l yy_M_power ww_M_power rm_M_power (fw_Pc D CL cA (TYS cA) TK layU b 245 S [.ref (b + o), .int a1, .int a2]) (va_Qv post (fw_B D CL cA TK layU b 245) (fw_A b 245)) 0 0 (fw_A b 245) := by
  refine Met.ofW (cc := bb_M_power) (maxL := 4) (ret := none) (by decide) rfl ?_
  intro p e s m args below meth c s₁ B hml hv
  obtain ⟨rfl, hP, hK⟩ := hv
  have hx := B.exec
  have hb := B.bytes
  have hr := B.returns
  have hts := atoms_spec (ws := ww_M_power) B.pre
  have hown : s.vm.findClass "OutletOfficeModel" = some m.cls := findClass_of_methodNamed B.named
  have hlocks := B.notSynchronized
  have hS : va_S (fw_A b 245) s.heap s.heap [] := va_S.rf
  have hl := lv_entry ([.ref (b + o), .int a1, .int a2]) (n := 4) (Nat.le_of_ble_eq_true rfl)
  rw [lg_entry_eq]
  generalize (lg_sl ([.ref (b + o), .int a1, .int a2]) ++ List.replicate (4 - (lg_sl ([.ref (b + o), .int a1, .int a2])).length) Slot.unset).toArray = ls at hl ⊢
  have hl : lv_has ls 4 [(0, .ref (b + o)), (1, .int a1), (2, .int a2)] := hl
  have B74 : ∀ (S : fw_S) (x3 : Int32) (H : Heap) (locs : List Loc) (ls : Array Slot), wp_M_power_74 o a1 a2 post S x3 → fw_P D CL cA layU b 245 (fw_v TK layU b S) H → va_S (fw_A b 245) s.heap H locs → lv_has ls 4 [(0, .ref (b + o)), (1, .int a1), (2, .int a2), (3, .int x3)] → W p l e (headSpec ww_M_power rm_M_power).room s m ([.ref (b + o), .int a1, .int a2] : List Value).toArray below meth c H locs 0 0 (MQ below (va_Qv post (fw_B D CL cA TK layU b 245) (fw_A b 245)) ([.ref (b + o), .int a1, .int a2] : List Value).toArray s 0 0 (fw_A b 245)) (F0 m 74 ls []) := by
      intro S x3 H locs ls hw hP hS hl
      unfold wp_M_power_74 at hw
      exact W.vret hx hb hr (fun t ht hW => ⟨⟨_, rfl, hw, fw_Bof ht hP⟩, hS.F ht⟩) hS.2.2 dd_M_power_74
  have B54 : ∀ (S : fw_S) (x3 : Int32) (p0 : Int32) (H : Heap) (locs : List Loc) (ls : Array Slot), wp_M_power_54 o a1 a2 post S x3 p0 → fw_P D CL cA layU b 245 (fw_v TK layU b S) H → va_S (fw_A b 245) s.heap H locs → lv_has ls 4 [(0, .ref (b + o)), (1, .int a1), (2, .int a2), (3, .int x3)] → W p l e (headSpec ww_M_power rm_M_power).room s m ([.ref (b + o), .int a1, .int a2] : List Value).toArray below meth c H locs 0 0 (MQ below (va_Qv post (fw_B D CL cA TK layU b 245) (fw_A b 245)) ([.ref (b + o), .int a1, .int a2] : List Value).toArray s 0 0 (fw_A b 245)) (F0 m 54 ls [.int p0, .int a1, .ref (b + (o + 15))]) := by
      intro S x3 p0 H locs ls hw hP hS hl
      unfold wp_M_power_54 at hw
      obtain ⟨h1, hw⟩ := hw
      refine fw_iast hx hb hK hP hS (fw_A.in (lf_10_18 ho).1) (lf_10_18 ho) (by decide) 0 rfl tka_100 h1 dd_M_power_54 (fun H locs hP hS => ?_)
      obtain ⟨S2, e_S2⟩ : ∃ z, z = fw_si S (o + 15) a1.toNatClampNeg p0 := ⟨_, rfl⟩
      rw [← e_S2] at hP
      have hw := hw S2 e_S2
      refine lv_iload_n hx hb dd_M_power_55 rfl (lv_at hl 3 rfl) ?_
      refine lv_if_eq (tgt := 74) hx hb dd_M_power_56 (by decide) (fun h3 => ?_) (fun h3 => ?_)
      · have hw := hw.1 h3
        exact B74 S2 x3 _ _ ls hw hP hS (lv_sub hl [0, 1, 2, 3] rfl)
      · have hw := hw.2 h3
        refine lv_aload_n hx hb dd_M_power_59 rfl (lv_at hl 0 rfl) ?_
        refine fw_getr hx hb hts in_10 hown hK hP ho (by decide) rfl 12 (by decide) (hts _ (tb_in tw_793)) tk_10_12 dd_M_power_60 ?_
        refine lv_iload_n hx hb dd_M_power_63 rfl (lv_at hl 1 rfl) ?_
        obtain ⟨h4, hw⟩ := hw
        refine fw_iald hx hb hK hP (lf_10_12 ho) (by decide) 0 rfl tka_100 h4 dd_M_power_64 ?_
        refine lv_if_le (tgt := 74) hx hb dd_M_power_65 (by decide) (fun h5 => ?_) (fun h5 => ?_)
        · have hw := hw.1 h5
          exact B74 S2 x3 _ _ ls hw hP hS (lv_sub hl [0, 1, 2, 3] rfl)
        · have hw := hw.2 h5
          refine lv_aload_n hx hb dd_M_power_68 rfl (lv_at hl 0 rfl) ?_
          refine lv_iload_n hx hb dd_M_power_69 rfl (lv_at hl 1 rfl) ?_
          refine lv_iconst (v := 0) hx hb dd_M_power_70 kc_ic_0 ?_
          refine fw_callv (va_runV (As := [.int a1, .int 0]) (rest := []) ⟨hx, hb, hml, hown, hts⟩ (mt_M_ends l D cA b S2 o a1 0 ho _ hw) (cwV 2 hts (fw_gV tw_960 tw_957 tw_959 ts_17 tw_11) rfl rfl rfl (by decide +kernel) ⟨Nat.le_of_ble_eq_true rfl, Nat.le_of_ble_eq_true rfl⟩) (fw_preV hP hK ho (by decide) rfl) rfl rfl hl.1 rfl (lv_room (Nat.le_of_ble_eq_true rfl)) dd_M_power_71 ⟨Nat.le_of_ble_eq_true rfl, Nat.le_of_ble_eq_true rfl⟩) hS (fun S6 H locs hw hP hS => ?_)
          try dsimp only at hw
          exact B74 S6 x3 _ _ ls hw hP hS (lv_sub hl [0, 1, 2, 3] rfl)
  have B27 : ∀ (S : fw_S) (p0 : Int32) (H : Heap) (locs : List Loc) (ls : Array Slot), wp_M_power_27 o a1 a2 post S p0 → fw_P D CL cA layU b 245 (fw_v TK layU b S) H → va_S (fw_A b 245) s.heap H locs → lv_has ls 4 [(0, .ref (b + o)), (1, .int a1), (2, .int a2)] → W p l e (headSpec ww_M_power rm_M_power).room s m ([.ref (b + o), .int a1, .int a2] : List Value).toArray below meth c H locs 0 0 (MQ below (va_Qv post (fw_B D CL cA TK layU b 245) (fw_A b 245)) ([.ref (b + o), .int a1, .int a2] : List Value).toArray s 0 0 (fw_A b 245)) (F0 m 27 ls [.int p0]) := by
      intro S p0 H locs ls hw hP hS hl
      unfold wp_M_power_27 at hw
      refine lv_istore_n hx hb dd_M_power_27 rfl hl (Nat.le_of_ble_eq_true rfl) rfl (fun ls hl => ?_)
      have hl : lv_has ls 4 [(3, .int p0), (0, .ref (b + o)), (1, .int a1), (2, .int a2)] := hl
      refine lv_aload_n hx hb dd_M_power_28 rfl (lv_at hl 1 rfl) ?_
      refine fw_getr hx hb hts in_10 hown hK hP ho (by decide) rfl 9 (by decide) (hts _ (tb_in tw_790)) tk_10_9 dd_M_power_29 ?_
      refine lv_iload_n hx hb dd_M_power_32 rfl (lv_at hl 2 rfl) ?_
      refine lv_iload_n hx hb dd_M_power_33 rfl (lv_at hl 3 rfl) ?_
      obtain ⟨h1, hw⟩ := hw
      refine fw_zast hx hb hK hP hS (fw_A.in (lf_10_9 ho).1) (lf_10_9 ho) (by decide) 2 rfl tka_102 h1 dd_M_power_34 (fun H locs hP hS => ?_)
      obtain ⟨S2, e_S2⟩ : ∃ z, z = fw_si S (o + 6) a1.toNatClampNeg (fw_z a2) := ⟨_, rfl⟩
      rw [← e_S2] at hP
      have hw := hw S2 e_S2
      refine lv_aload_n hx hb dd_M_power_35 rfl (lv_at hl 1 rfl) ?_
      refine fw_getr hx hb hts in_10 hown hK hP ho (by decide) rfl 18 (by decide) (hts _ (tb_in tw_799)) tk_10_18 dd_M_power_36 ?_
      refine lv_iload_n hx hb dd_M_power_39 rfl (lv_at hl 2 rfl) ?_
      refine lv_iload_n hx hb dd_M_power_40 rfl (lv_at hl 3 rfl) ?_
      refine lv_if_eq (tgt := 53) hx hb dd_M_power_41 (by decide) (fun h3 => ?_) (fun h3 => ?_)
      · have hw := hw.1 h3
        refine lv_iconst (v := 0) hx hb dd_M_power_53 kc_ic_0 ?_
        exact B54 S2 p0 0 _ _ ls hw hP hS (lv_sub hl [1, 2, 3, 0] rfl)
      · have hw := hw.2 h3
        refine lv_aload_n hx hb dd_M_power_44 rfl (lv_at hl 1 rfl) ?_
        refine fw_getr hx hb hts in_10 hown hK hP ho (by decide) rfl 18 (by decide) (hts _ (tb_in tw_799)) tk_10_18 dd_M_power_45 ?_
        refine lv_iload_n hx hb dd_M_power_48 rfl (lv_at hl 2 rfl) ?_
        obtain ⟨h4, hw⟩ := hw
        refine fw_iald hx hb hK hP (lf_10_18 ho) (by decide) 0 rfl tka_100 h4 dd_M_power_49 ?_
        refine lv_goto (tgt := 54) hx hb dd_M_power_50 (by decide) ?_
        exact B54 S2 p0 (S2.1 (o + 15) a1.toNatClampNeg) _ _ ls hw hP hS (lv_sub hl [1, 2, 3, 0] rfl)
  have B26 : ∀ (S : fw_S) (H : Heap) (locs : List Loc) (ls : Array Slot), wp_M_power_26 o a1 a2 post S → fw_P D CL cA layU b 245 (fw_v TK layU b S) H → va_S (fw_A b 245) s.heap H locs → lv_has ls 4 [(0, .ref (b + o)), (1, .int a1), (2, .int a2)] → W p l e (headSpec ww_M_power rm_M_power).room s m ([.ref (b + o), .int a1, .int a2] : List Value).toArray below meth c H locs 0 0 (MQ below (va_Qv post (fw_B D CL cA TK layU b 245) (fw_A b 245)) ([.ref (b + o), .int a1, .int a2] : List Value).toArray s 0 0 (fw_A b 245)) (F0 m 26 ls []) := by
      intro S H locs ls hw hP hS hl
      unfold wp_M_power_26 at hw
      refine lv_iconst (v := 0) hx hb dd_M_power_26 kc_ic_0 ?_
      exact B27 S 0 _ _ ls hw hP hS (lv_sub hl [0, 1, 2] rfl)
  unfold wp_M_power at hw
  refine lv_aload_n hx hb dd_M_power_0 rfl (lv_at hl 0 rfl) ?_
  refine lv_iload_n hx hb dd_M_power_1 rfl (lv_at hl 1 rfl) ?_
  refine fw_calli (va_runV (As := [.int a1]) (rest := []) ⟨hx, hb, hml, hown, hts⟩ (mt_M_noPoint l D cA b S o a1 ho _ hw) (cwV 1 hts (fw_gV tw_935 tw_932 tw_934 ts_14 tw_11) rfl rfl rfl (by decide +kernel) ⟨Nat.le_of_ble_eq_true rfl, Nat.le_of_ble_eq_true rfl⟩) (fw_preV hP hK ho (by decide) rfl) rfl rfl hl.1 rfl (lv_room (Nat.le_of_ble_eq_true rfl)) dd_M_power_2 ⟨Nat.le_of_ble_eq_true rfl, Nat.le_of_ble_eq_true rfl⟩) hS (fun S1 r2 H locs hw hP hS => ?_)
  try dsimp only at hw
  refine lv_if_eq (tgt := 9) hx hb dd_M_power_5 (by decide) (fun h3 => ?_) (fun h3 => ?_)
  · have hw := hw.1 h3
    refine lv_iload_n hx hb dd_M_power_9 rfl (lv_at hl 2 rfl) ?_
    refine lv_if_eq (tgt := 26) hx hb dd_M_power_10 (by decide) (fun h4 => ?_) (fun h4 => ?_)
    · have hw := hw.1 h4
      exact B26 S1 _ _ ls hw hP hS (lv_sub hl [0, 1, 2] rfl)
    · have hw := hw.2 h4
      refine lv_aload_n hx hb dd_M_power_13 rfl (lv_at hl 0 rfl) ?_
      refine fw_getr hx hb hts in_10 hown hK hP ho (by decide) rfl 9 (by decide) (hts _ (tb_in tw_790)) tk_10_9 dd_M_power_14 ?_
      refine lv_iload_n hx hb dd_M_power_17 rfl (lv_at hl 1 rfl) ?_
      obtain ⟨h5, hw⟩ := hw
      refine fw_zald hx hb hK hP (lf_10_9 ho) (by decide) 2 rfl tka_102 h5 dd_M_power_18 ?_
      refine lv_if_ne (tgt := 26) hx hb dd_M_power_19 (by decide) (fun h6 => ?_) (fun h6 => ?_)
      · have hw := hw.1 h6
        exact B26 S1 _ _ ls hw hP hS (lv_sub hl [0, 1, 2] rfl)
      · have hw := hw.2 h6
        refine lv_iconst (v := 1) hx hb dd_M_power_22 kc_ic_1 ?_
        refine lv_goto (tgt := 27) hx hb dd_M_power_23 (by decide) ?_
        exact B27 S1 1 _ _ ls hw hP hS (lv_sub hl [0, 1, 2] rfl)
  · have hw := hw.2 h3
    exact W.vret hx hb hr (fun t ht hW => ⟨⟨_, rfl, hw, fw_Bof ht hP⟩, hS.F ht⟩) hS.2.2 dd_M_power_8
