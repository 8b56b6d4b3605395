def wp_Law_law_1470 (L : Nat) (xs : Nat → Int32) (k23 : fw_S → Int32 → Prop) (S : fw_S) (x4 : Int32) : Prop := x4.toNatClampNeg ≤ 2560 ∧ (∀ v1 : Int32, v1 = x4 + 5 → (v1.toNatClampNeg = x4.toNatClampNeg + 5 ∧ k23 S v1))
set_option maxHeartbeats 4000000 in
set_option maxRecDepth 100000 in
theorem lb_1470 {p : Program} {l : Launch} {e : Env} {s : State} {m : MethodId} {below : List Frame} {meth : Method} {c : Code} {bs L b : Nat} {xs : Nat → Int32} {D : va_G} {cA : Nat → ClassId} (X9 : lx_C p l s m meth c bs L b xs D cA) (k23 : fw_S → Int32 → Prop) (K23 : ∀ (S : fw_S) (x4 : Int32) (H : Heap) (locs : List Loc) (ls : Array Slot), k23 S x4 → fw_P D CL cA layU b 245 (fw_v TK layU b S) H → va_S (fw_A b 245) s.heap H locs → lv_has ls 8 [(0, .ref bs), (1, .ref (b + 0)), (2, .ref (b + 209)), (3, .ref (b + 244)), (4, .int x4)] → W p l e room_1 s m #[Value.ref bs] below meth c H locs (245 + x4.toNatClampNeg + 0) (4217 + 6 * x4.toNatClampNeg + 0) (lw_Z below #[Value.ref bs] s) (F0 m 23 ls [])) : ∀ (S : fw_S) (x4 : Int32) (H : Heap) (locs : List Loc) (ls : Array Slot), wp_Law_law_1470 L xs k23 S x4 → fw_P D CL cA layU b 245 (fw_v TK layU b S) H → va_S (fw_A b 245) s.heap H locs → lv_has ls 8 [(0, .ref bs), (1, .ref (b + 0)), (2, .ref (b + 209)), (3, .ref (b + 244)), (4, .int x4)] → W p l e room_1 s m #[Value.ref bs] below meth c H locs (245 + x4.toNatClampNeg + 4) (4217 + 6 * x4.toNatClampNeg + 24) (lw_Z below #[Value.ref bs] s) (F0 m 1470 ls []) := by
  obtain ⟨hx, hb, hr, hml, hown, hts, hX, hbl, hbA, hb0, hlocks, hl9, hK, hZ⟩ := X9
  intro S x4 H locs ls hw hP hS hl
  unfold wp_Law_law_1470 at hw
  obtain ⟨hx4, hw⟩ := hw
  obtain ⟨v1, e_v1⟩ : ∃ z : Int32, z = x4 + 5 := ⟨_, rfl⟩
  have hw := hw v1 e_v1
  refine lv_iinc hx hb dd_Law_law_1470 hl (k := 4) rfl (show x4 + Int32.ofInt 5 = v1 by rw [kc_ii_5, e_v1]) (Nat.le_of_ble_eq_true rfl) rfl (fun ls hl => ?_)
  have hl : lv_has ls 8 [(4, .int v1), (0, .ref bs), (1, .ref (b + 0)), (2, .ref (b + 209)), (3, .ref (b + 244))] := hl
  refine lv_goto (tgt := 23) hx hb dd_Law_law_1473 (by decide) ?_
  obtain ⟨hN9, hw⟩ := hw
  refine W.widen (k := 245 + v1.toNatClampNeg + 0) (n := 4217 + 6 * v1.toNatClampNeg + 0) (by omega) (by omega) ?_
  exact K23 S v1 _ _ ls hw hP hS (lv_sub hl [1, 2, 3, 4, 0] rfl)
def wp_Law_law_144 (L : Nat) (xs : Nat → Int32) (k23 : fw_S → Int32 → Prop) (S : fw_S) (x4 : Int32) : Prop := x4.toNatClampNeg ≤ 2560 ∧ (vp_in (x4 + 1) L ∧ (vp_in (x4 + 2) L ∧ (wp_Law_limit S 0 (xs (x4 + 1 : Int32).toNatClampNeg) (xs (x4 + 2 : Int32).toNatClampNeg) (fun S3 r4 => vp_in (x4 + 1) L ∧ (vp_in (x4 + 2) L ∧ (wp_M_limit S3 209 (xs (x4 + 1 : Int32).toNatClampNeg) (xs (x4 + 2 : Int32).toNatClampNeg) (fun S7 => wp_M_thrown S7 209 (fun S8 r9 => (((r9 = r4) → wp_Law_law_1470 L xs  k23 S8 x4) ∧ (¬ (r9 = r4) → False))))))))))
set_option maxHeartbeats 4000000 in
set_option maxRecDepth 100000 in
theorem lb_144 {p : Program} {l : Launch} {e : Env} {s : State} {m : MethodId} {below : List Frame} {meth : Method} {c : Code} {bs L b : Nat} {xs : Nat → Int32} {D : va_G} {cA : Nat → ClassId} (X9 : lx_C p l s m meth c bs L b xs D cA) (k23 : fw_S → Int32 → Prop) (K23 : ∀ (S : fw_S) (x4 : Int32) (H : Heap) (locs : List Loc) (ls : Array Slot), k23 S x4 → fw_P D CL cA layU b 245 (fw_v TK layU b S) H → va_S (fw_A b 245) s.heap H locs → lv_has ls 8 [(0, .ref bs), (1, .ref (b + 0)), (2, .ref (b + 209)), (3, .ref (b + 244)), (4, .int x4)] → W p l e room_1 s m #[Value.ref bs] below meth c H locs (245 + x4.toNatClampNeg + 0) (4217 + 6 * x4.toNatClampNeg + 0) (lw_Z below #[Value.ref bs] s) (F0 m 23 ls [])) : ∀ (S : fw_S) (x4 : Int32) (H : Heap) (locs : List Loc) (ls : Array Slot), wp_Law_law_144 L xs k23 S x4 → fw_P D CL cA layU b 245 (fw_v TK layU b S) H → va_S (fw_A b 245) s.heap H locs → lv_has ls 8 [(0, .ref bs), (1, .ref (b + 0)), (2, .ref (b + 209)), (3, .ref (b + 244)), (4, .int x4)] → W p l e room_1 s m #[Value.ref bs] below meth c H locs (245 + x4.toNatClampNeg + 0) (4217 + 6 * x4.toNatClampNeg + 0) (lw_Z below #[Value.ref bs] s) (F0 m 144 ls []) := by
  obtain ⟨hx, hb, hr, hml, hown, hts, hX, hbl, hbA, hb0, hlocks, hl9, hK, hZ⟩ := X9
  intro S x4 H locs ls hw hP hS hl
  unfold wp_Law_law_144 at hw
  obtain ⟨hx4, hw⟩ := hw
  refine lv_aload_n hx hb dd_Law_law_144 rfl (lv_at hl 1 rfl) ?_
  refine lv_aload_n hx hb dd_Law_law_145 rfl (lv_at hl 0 rfl) ?_
  refine lv_iload hx hb dd_Law_law_146 (lv_at hl 4 rfl) ?_
  refine lv_iconst (v := 1) hx hb dd_Law_law_148 kc_ic_1 ?_
  refine lv_iadd hx hb dd_Law_law_149 ?_
  obtain ⟨h1, hw⟩ := hw
  refine va_sld hx hb hX hbl hbA hS h1 dd_Law_law_150 ?_
  refine lv_aload_n hx hb dd_Law_law_151 rfl (lv_at hl 0 rfl) ?_
  refine lv_iload hx hb dd_Law_law_152 (lv_at hl 4 rfl) ?_
  refine lv_iconst (v := 2) hx hb dd_Law_law_154 kc_ic_2 ?_
  refine lv_iadd hx hb dd_Law_law_155 ?_
  obtain ⟨h2, hw⟩ := hw
  refine va_sld hx hb hX hbl hbA hS h2 dd_Law_law_156 ?_
  refine fw_calli (fw_runSW (As := [.ref (b + 0), .int (xs (x4 + 1 : Int32).toNatClampNeg), .int (xs (x4 + 2 : Int32).toNatClampNeg)]) (rest := []) ⟨hx, hb, hml, hown, hts⟩ (mt_Law_limit l hl9 D cA b S 0 (xs (x4 + 1 : Int32).toNatClampNeg) (xs (x4 + 2 : Int32).toNatClampNeg) lx_x _ hw) 3 (fw_g tw_321) rfl rfl rfl (hts _ (tb_in tw_0)) (hts _ (tb_in tw_319)) (hts _ (tb_in tw_320)) (by decide +kernel) ⟨Nat.le_of_ble_eq_true rfl, Nat.le_of_ble_eq_true rfl⟩ (fw_preSX hP hK hZ hS) rfl rfl hl.1 rfl (lv_room (Nat.le_of_ble_eq_true rfl)) dd_Law_law_157 ⟨(show _ ≤ 601024 by omega), (show _ ≤ 7293034 by omega)⟩) hS (fun S3 r4 H locs hw hP hS => ?_)
  try dsimp only at hw
  refine lv_istore hx hb dd_Law_law_160 hl (Nat.le_of_ble_eq_true rfl) rfl (fun ls hl => ?_)
  have hl : lv_has ls 8 [(5, .int r4), (0, .ref bs), (1, .ref (b + 0)), (2, .ref (b + 209)), (3, .ref (b + 244)), (4, .int x4)] := hl
  refine lv_aload_n hx hb dd_Law_law_162 rfl (lv_at hl 3 rfl) ?_
  refine lv_aload_n hx hb dd_Law_law_163 rfl (lv_at hl 1 rfl) ?_
  refine lv_iload hx hb dd_Law_law_164 (lv_at hl 5 rfl) ?_
  refine lv_iconst (v := 1) hx hb dd_Law_law_166 kc_ic_1 ?_
  refine lv_iadd hx hb dd_Law_law_167 ?_
  obtain ⟨h5, hw⟩ := hw
  refine va_sld hx hb hX hbl hbA hS h5 dd_Law_law_168 ?_
  refine lv_aload_n hx hb dd_Law_law_169 rfl (lv_at hl 1 rfl) ?_
  refine lv_iload hx hb dd_Law_law_170 (lv_at hl 5 rfl) ?_
  refine lv_iconst (v := 2) hx hb dd_Law_law_172 kc_ic_2 ?_
  refine lv_iadd hx hb dd_Law_law_173 ?_
  obtain ⟨h6, hw⟩ := hw
  refine va_sld hx hb hX hbl hbA hS h6 dd_Law_law_174 ?_
  refine fw_callv (va_runV (As := [.int (xs (x4 + 1 : Int32).toNatClampNeg), .int (xs (x4 + 2 : Int32).toNatClampNeg)]) (rest := []) ⟨hx, hb, hml, hown, hts⟩ (mt_M_limit l D cA b S3 209 (xs (x4 + 1 : Int32).toNatClampNeg) (xs (x4 + 2 : Int32).toNatClampNeg) lx_m _ hw) (cwV 2 hts (fw_gV tw_910 tw_907 tw_908 tw_909 tw_11) rfl rfl rfl (by decide +kernel) ⟨Nat.le_of_ble_eq_true rfl, Nat.le_of_ble_eq_true rfl⟩) (fw_preV hP hK lx_m (by decide) rfl) rfl rfl hl.1 rfl (lv_room (Nat.le_of_ble_eq_true rfl)) dd_Law_law_175 ⟨(show _ ≤ 601024 by omega), (show _ ≤ 7293034 by omega)⟩) hS (fun S7 H locs hw hP hS => ?_)
  try dsimp only at hw
  refine lv_aload_n hx hb dd_Law_law_178 rfl (lv_at hl 3 rfl) ?_
  refine fw_calli (va_runV (As := []) (rest := []) ⟨hx, hb, hml, hown, hts⟩ (mt_M_thrown l D cA b S7 209 lx_m _ hw) (cwV 0 hts (fw_gV tw_906 tw_903 tw_904 tw_905 tw_11) rfl rfl rfl (by decide +kernel) ⟨Nat.le_of_ble_eq_true rfl, Nat.le_of_ble_eq_true rfl⟩) (fw_preV hP hK lx_m (by decide) rfl) rfl rfl hl.1 rfl (lv_room (Nat.le_of_ble_eq_true rfl)) dd_Law_law_179 ⟨(show _ ≤ 601024 by omega), (show _ ≤ 7293034 by omega)⟩) hS (fun S8 r9 H locs hw hP hS => ?_)
  try dsimp only at hw
  refine lv_iload hx hb dd_Law_law_182 (lv_at hl 0 rfl) ?_
  refine lv_icmp_eq (tgt := 189) hx hb dd_Law_law_184 (by decide) (fun h10 => ?_) (fun h10 => ?_)
  · have hw := hw.1 h10
    refine lv_goto (tgt := 1470) hx hb dd_Law_law_189 (by decide) ?_
    refine W.widen (k := 245 + x4.toNatClampNeg + 4) (n := 4217 + 6 * x4.toNatClampNeg + 24) (by omega) (by omega) ?_
    exact lb_1470 ⟨hx, hb, hr, hml, hown, hts, hX, hbl, hbA, hb0, hlocks, hl9, hK, hZ⟩ _ K23 S8 x4 _ _ ls hw hP hS (lv_sub hl [1, 2, 3, 4, 5] rfl)
  · have hw := hw.2 h10
    refine lv_iconst (v := 0) hx hb dd_Law_law_187 kc_ic_0 ?_
    exact False.elim hw
def wp_Law_law_192 (L : Nat) (xs : Nat → Int32) (k23 : fw_S → Int32 → Prop) (S : fw_S) (x4 : Int32) : Prop := x4.toNatClampNeg ≤ 2560 ∧ (vp_in (x4 + 1) L ∧ (vp_in (x4 + 2) L ∧ (vp_in (x4 + 3) L ∧ (wp_Law_band S 0 (xs (x4 + 1 : Int32).toNatClampNeg) (xs (x4 + 2 : Int32).toNatClampNeg) (xs (x4 + 3 : Int32).toNatClampNeg) (fun S4 r5 => vp_in (x4 + 1) L ∧ (vp_in (x4 + 2) L ∧ (vp_in (x4 + 3) L ∧ (wp_M_band S4 209 (xs (x4 + 1 : Int32).toNatClampNeg) (xs (x4 + 2 : Int32).toNatClampNeg) (xs (x4 + 3 : Int32).toNatClampNeg) (fun S9 => wp_M_thrown S9 209 (fun S10 r11 => (((r11 = r5) → wp_Law_law_1470 L xs  k23 S10 x4) ∧ (¬ (r11 = r5) → False))))))))))))
set_option maxHeartbeats 4000000 in
set_option maxRecDepth 100000 in
theorem lb_192 {p : Program} {l : Launch} {e : Env} {s : State} {m : MethodId} {below : List Frame} {meth : Method} {c : Code} {bs L b : Nat} {xs : Nat → Int32} {D : va_G} {cA : Nat → ClassId} (X9 : lx_C p l s m meth c bs L b xs D cA) (k23 : fw_S → Int32 → Prop) (K23 : ∀ (S : fw_S) (x4 : Int32) (H : Heap) (locs : List Loc) (ls : Array Slot), k23 S x4 → fw_P D CL cA layU b 245 (fw_v TK layU b S) H → va_S (fw_A b 245) s.heap H locs → lv_has ls 8 [(0, .ref bs), (1, .ref (b + 0)), (2, .ref (b + 209)), (3, .ref (b + 244)), (4, .int x4)] → W p l e room_1 s m #[Value.ref bs] below meth c H locs (245 + x4.toNatClampNeg + 0) (4217 + 6 * x4.toNatClampNeg + 0) (lw_Z below #[Value.ref bs] s) (F0 m 23 ls [])) : ∀ (S : fw_S) (x4 : Int32) (H : Heap) (locs : List Loc) (ls : Array Slot), wp_Law_law_192 L xs k23 S x4 → fw_P D CL cA layU b 245 (fw_v TK layU b S) H → va_S (fw_A b 245) s.heap H locs → lv_has ls 8 [(0, .ref bs), (1, .ref (b + 0)), (2, .ref (b + 209)), (3, .ref (b + 244)), (4, .int x4)] → W p l e room_1 s m #[Value.ref bs] below meth c H locs (245 + x4.toNatClampNeg + 0) (4217 + 6 * x4.toNatClampNeg + 0) (lw_Z below #[Value.ref bs] s) (F0 m 192 ls []) := by
  obtain ⟨hx, hb, hr, hml, hown, hts, hX, hbl, hbA, hb0, hlocks, hl9, hK, hZ⟩ := X9
  intro S x4 H locs ls hw hP hS hl
  unfold wp_Law_law_192 at hw
  obtain ⟨hx4, hw⟩ := hw
  refine lv_aload_n hx hb dd_Law_law_192 rfl (lv_at hl 1 rfl) ?_
  refine lv_aload_n hx hb dd_Law_law_193 rfl (lv_at hl 0 rfl) ?_
  refine lv_iload hx hb dd_Law_law_194 (lv_at hl 4 rfl) ?_
  refine lv_iconst (v := 1) hx hb dd_Law_law_196 kc_ic_1 ?_
  refine lv_iadd hx hb dd_Law_law_197 ?_
  obtain ⟨h1, hw⟩ := hw
  refine va_sld hx hb hX hbl hbA hS h1 dd_Law_law_198 ?_
  refine lv_aload_n hx hb dd_Law_law_199 rfl (lv_at hl 0 rfl) ?_
  refine lv_iload hx hb dd_Law_law_200 (lv_at hl 4 rfl) ?_
  refine lv_iconst (v := 2) hx hb dd_Law_law_202 kc_ic_2 ?_
  refine lv_iadd hx hb dd_Law_law_203 ?_
  obtain ⟨h2, hw⟩ := hw
  refine va_sld hx hb hX hbl hbA hS h2 dd_Law_law_204 ?_
  refine lv_aload_n hx hb dd_Law_law_205 rfl (lv_at hl 0 rfl) ?_
  refine lv_iload hx hb dd_Law_law_206 (lv_at hl 4 rfl) ?_
  refine lv_iconst (v := 3) hx hb dd_Law_law_208 kc_ic_3 ?_
  refine lv_iadd hx hb dd_Law_law_209 ?_
  obtain ⟨h3, hw⟩ := hw
  refine va_sld hx hb hX hbl hbA hS h3 dd_Law_law_210 ?_
  refine fw_calli (fw_runSW (As := [.ref (b + 0), .int (xs (x4 + 1 : Int32).toNatClampNeg), .int (xs (x4 + 2 : Int32).toNatClampNeg), .int (xs (x4 + 3 : Int32).toNatClampNeg)]) (rest := []) ⟨hx, hb, hml, hown, hts⟩ (mt_Law_band l hl9 D cA b S 0 (xs (x4 + 1 : Int32).toNatClampNeg) (xs (x4 + 2 : Int32).toNatClampNeg) (xs (x4 + 3 : Int32).toNatClampNeg) lx_x _ hw) 4 (fw_g tw_419) rfl rfl rfl (hts _ (tb_in tw_0)) (hts _ (tb_in tw_417)) (hts _ (tb_in tw_418)) (by decide +kernel) ⟨Nat.le_of_ble_eq_true rfl, Nat.le_of_ble_eq_true rfl⟩ (fw_preSX hP hK hZ hS) rfl rfl hl.1 rfl (lv_room (Nat.le_of_ble_eq_true rfl)) dd_Law_law_211 ⟨(show _ ≤ 601024 by omega), (show _ ≤ 7293034 by omega)⟩) hS (fun S4 r5 H locs hw hP hS => ?_)
  try dsimp only at hw
  refine lv_istore hx hb dd_Law_law_214 hl (Nat.le_of_ble_eq_true rfl) rfl (fun ls hl => ?_)
  have hl : lv_has ls 8 [(5, .int r5), (0, .ref bs), (1, .ref (b + 0)), (2, .ref (b + 209)), (3, .ref (b + 244)), (4, .int x4)] := hl
  refine lv_aload_n hx hb dd_Law_law_216 rfl (lv_at hl 3 rfl) ?_
  refine lv_aload_n hx hb dd_Law_law_217 rfl (lv_at hl 1 rfl) ?_
  refine lv_iload hx hb dd_Law_law_218 (lv_at hl 5 rfl) ?_
  refine lv_iconst (v := 1) hx hb dd_Law_law_220 kc_ic_1 ?_
  refine lv_iadd hx hb dd_Law_law_221 ?_
  obtain ⟨h6, hw⟩ := hw
  refine va_sld hx hb hX hbl hbA hS h6 dd_Law_law_222 ?_
  refine lv_aload_n hx hb dd_Law_law_223 rfl (lv_at hl 1 rfl) ?_
  refine lv_iload hx hb dd_Law_law_224 (lv_at hl 5 rfl) ?_
  refine lv_iconst (v := 2) hx hb dd_Law_law_226 kc_ic_2 ?_
  refine lv_iadd hx hb dd_Law_law_227 ?_
  obtain ⟨h7, hw⟩ := hw
  refine va_sld hx hb hX hbl hbA hS h7 dd_Law_law_228 ?_
  refine lv_aload_n hx hb dd_Law_law_229 rfl (lv_at hl 1 rfl) ?_
  refine lv_iload hx hb dd_Law_law_230 (lv_at hl 5 rfl) ?_
  refine lv_iconst (v := 3) hx hb dd_Law_law_232 kc_ic_3 ?_
  refine lv_iadd hx hb dd_Law_law_233 ?_
  obtain ⟨h8, hw⟩ := hw
  refine va_sld hx hb hX hbl hbA hS h8 dd_Law_law_234 ?_
  refine fw_callv (va_runV (As := [.int (xs (x4 + 1 : Int32).toNatClampNeg), .int (xs (x4 + 2 : Int32).toNatClampNeg), .int (xs (x4 + 3 : Int32).toNatClampNeg)]) (rest := []) ⟨hx, hb, hml, hown, hts⟩ (mt_M_band l D cA b S4 209 (xs (x4 + 1 : Int32).toNatClampNeg) (xs (x4 + 2 : Int32).toNatClampNeg) (xs (x4 + 3 : Int32).toNatClampNeg) lx_m _ hw) (cwV 3 hts (fw_gV tw_917 tw_914 tw_915 tw_916 tw_11) rfl rfl rfl (by decide +kernel) ⟨Nat.le_of_ble_eq_true rfl, Nat.le_of_ble_eq_true rfl⟩) (fw_preV hP hK lx_m (by decide) rfl) rfl rfl hl.1 rfl (lv_room (Nat.le_of_ble_eq_true rfl)) dd_Law_law_235 ⟨(show _ ≤ 601024 by omega), (show _ ≤ 7293034 by omega)⟩) hS (fun S9 H locs hw hP hS => ?_)
  try dsimp only at hw
  refine lv_aload_n hx hb dd_Law_law_238 rfl (lv_at hl 3 rfl) ?_
  refine fw_calli (va_runV (As := []) (rest := []) ⟨hx, hb, hml, hown, hts⟩ (mt_M_thrown l D cA b S9 209 lx_m _ hw) (cwV 0 hts (fw_gV tw_906 tw_903 tw_904 tw_905 tw_11) rfl rfl rfl (by decide +kernel) ⟨Nat.le_of_ble_eq_true rfl, Nat.le_of_ble_eq_true rfl⟩) (fw_preV hP hK lx_m (by decide) rfl) rfl rfl hl.1 rfl (lv_room (Nat.le_of_ble_eq_true rfl)) dd_Law_law_239 ⟨(show _ ≤ 601024 by omega), (show _ ≤ 7293034 by omega)⟩) hS (fun S10 r11 H locs hw hP hS => ?_)
  try dsimp only at hw
  refine lv_iload hx hb dd_Law_law_242 (lv_at hl 0 rfl) ?_
  refine lv_icmp_eq (tgt := 249) hx hb dd_Law_law_244 (by decide) (fun h12 => ?_) (fun h12 => ?_)
  · have hw := hw.1 h12
    refine lv_goto (tgt := 1470) hx hb dd_Law_law_249 (by decide) ?_
    refine W.widen (k := 245 + x4.toNatClampNeg + 4) (n := 4217 + 6 * x4.toNatClampNeg + 24) (by omega) (by omega) ?_
    exact lb_1470 ⟨hx, hb, hr, hml, hown, hts, hX, hbl, hbA, hb0, hlocks, hl9, hK, hZ⟩ _ K23 S10 x4 _ _ ls hw hP hS (lv_sub hl [1, 2, 3, 4, 5] rfl)
  · have hw := hw.2 h12
    refine lv_iconst (v := 0) hx hb dd_Law_law_247 kc_ic_0 ?_
    exact False.elim hw
def wp_Law_law_252 (L : Nat) (xs : Nat → Int32) (k23 : fw_S → Int32 → Prop) (S : fw_S) (x4 : Int32) : Prop := x4.toNatClampNeg ≤ 2560 ∧ (vp_in (x4 + 1) L ∧ (vp_in (x4 + 2) L ∧ (wp_Law_fees S 0 (xs (x4 + 1 : Int32).toNatClampNeg) (xs (x4 + 2 : Int32).toNatClampNeg) (fun S3 r4 => vp_in (x4 + 1) L ∧ (vp_in (x4 + 2) L ∧ (wp_M_fees S3 209 (xs (x4 + 1 : Int32).toNatClampNeg) (xs (x4 + 2 : Int32).toNatClampNeg) (fun S7 => wp_M_thrown S7 209 (fun S8 r9 => (((r9 = r4) → wp_Law_law_1470 L xs  k23 S8 x4) ∧ (¬ (r9 = r4) → False))))))))))
set_option maxHeartbeats 4000000 in
set_option maxRecDepth 100000 in
theorem lb_252 {p : Program} {l : Launch} {e : Env} {s : State} {m : MethodId} {below : List Frame} {meth : Method} {c : Code} {bs L b : Nat} {xs : Nat → Int32} {D : va_G} {cA : Nat → ClassId} (X9 : lx_C p l s m meth c bs L b xs D cA) (k23 : fw_S → Int32 → Prop) (K23 : ∀ (S : fw_S) (x4 : Int32) (H : Heap) (locs : List Loc) (ls : Array Slot), k23 S x4 → fw_P D CL cA layU b 245 (fw_v TK layU b S) H → va_S (fw_A b 245) s.heap H locs → lv_has ls 8 [(0, .ref bs), (1, .ref (b + 0)), (2, .ref (b + 209)), (3, .ref (b + 244)), (4, .int x4)] → W p l e room_1 s m #[Value.ref bs] below meth c H locs (245 + x4.toNatClampNeg + 0) (4217 + 6 * x4.toNatClampNeg + 0) (lw_Z below #[Value.ref bs] s) (F0 m 23 ls [])) : ∀ (S : fw_S) (x4 : Int32) (H : Heap) (locs : List Loc) (ls : Array Slot), wp_Law_law_252 L xs k23 S x4 → fw_P D CL cA layU b 245 (fw_v TK layU b S) H → va_S (fw_A b 245) s.heap H locs → lv_has ls 8 [(0, .ref bs), (1, .ref (b + 0)), (2, .ref (b + 209)), (3, .ref (b + 244)), (4, .int x4)] → W p l e room_1 s m #[Value.ref bs] below meth c H locs (245 + x4.toNatClampNeg + 0) (4217 + 6 * x4.toNatClampNeg + 0) (lw_Z below #[Value.ref bs] s) (F0 m 252 ls []) := by
  obtain ⟨hx, hb, hr, hml, hown, hts, hX, hbl, hbA, hb0, hlocks, hl9, hK, hZ⟩ := X9
  intro S x4 H locs ls hw hP hS hl
  unfold wp_Law_law_252 at hw
  obtain ⟨hx4, hw⟩ := hw
  refine lv_aload_n hx hb dd_Law_law_252 rfl (lv_at hl 1 rfl) ?_
  refine lv_aload_n hx hb dd_Law_law_253 rfl (lv_at hl 0 rfl) ?_
  refine lv_iload hx hb dd_Law_law_254 (lv_at hl 4 rfl) ?_
  refine lv_iconst (v := 1) hx hb dd_Law_law_256 kc_ic_1 ?_
  refine lv_iadd hx hb dd_Law_law_257 ?_
  obtain ⟨h1, hw⟩ := hw
  refine va_sld hx hb hX hbl hbA hS h1 dd_Law_law_258 ?_
  refine lv_aload_n hx hb dd_Law_law_259 rfl (lv_at hl 0 rfl) ?_
  refine lv_iload hx hb dd_Law_law_260 (lv_at hl 4 rfl) ?_
  refine lv_iconst (v := 2) hx hb dd_Law_law_262 kc_ic_2 ?_
  refine lv_iadd hx hb dd_Law_law_263 ?_
  obtain ⟨h2, hw⟩ := hw
  refine va_sld hx hb hX hbl hbA hS h2 dd_Law_law_264 ?_
  refine fw_calli (fw_runSW (As := [.ref (b + 0), .int (xs (x4 + 1 : Int32).toNatClampNeg), .int (xs (x4 + 2 : Int32).toNatClampNeg)]) (rest := []) ⟨hx, hb, hml, hown, hts⟩ (mt_Law_fees l hl9 D cA b S 0 (xs (x4 + 1 : Int32).toNatClampNeg) (xs (x4 + 2 : Int32).toNatClampNeg) lx_x _ hw) 3 (fw_g tw_431) rfl rfl rfl (hts _ (tb_in tw_0)) (hts _ (tb_in tw_429)) (hts _ (tb_in tw_430)) (by decide +kernel) ⟨Nat.le_of_ble_eq_true rfl, Nat.le_of_ble_eq_true rfl⟩ (fw_preSX hP hK hZ hS) rfl rfl hl.1 rfl (lv_room (Nat.le_of_ble_eq_true rfl)) dd_Law_law_265 ⟨(show _ ≤ 601024 by omega), (show _ ≤ 7293034 by omega)⟩) hS (fun S3 r4 H locs hw hP hS => ?_)
  try dsimp only at hw
  refine lv_istore hx hb dd_Law_law_268 hl (Nat.le_of_ble_eq_true rfl) rfl (fun ls hl => ?_)
  have hl : lv_has ls 8 [(5, .int r4), (0, .ref bs), (1, .ref (b + 0)), (2, .ref (b + 209)), (3, .ref (b + 244)), (4, .int x4)] := hl
  refine lv_aload_n hx hb dd_Law_law_270 rfl (lv_at hl 3 rfl) ?_
  refine lv_aload_n hx hb dd_Law_law_271 rfl (lv_at hl 1 rfl) ?_
  refine lv_iload hx hb dd_Law_law_272 (lv_at hl 5 rfl) ?_
  refine lv_iconst (v := 1) hx hb dd_Law_law_274 kc_ic_1 ?_
  refine lv_iadd hx hb dd_Law_law_275 ?_
  obtain ⟨h5, hw⟩ := hw
  refine va_sld hx hb hX hbl hbA hS h5 dd_Law_law_276 ?_
  refine lv_aload_n hx hb dd_Law_law_277 rfl (lv_at hl 1 rfl) ?_
  refine lv_iload hx hb dd_Law_law_278 (lv_at hl 5 rfl) ?_
  refine lv_iconst (v := 2) hx hb dd_Law_law_280 kc_ic_2 ?_
  refine lv_iadd hx hb dd_Law_law_281 ?_
  obtain ⟨h6, hw⟩ := hw
  refine va_sld hx hb hX hbl hbA hS h6 dd_Law_law_282 ?_
  refine fw_callv (va_runV (As := [.int (xs (x4 + 1 : Int32).toNatClampNeg), .int (xs (x4 + 2 : Int32).toNatClampNeg)]) (rest := []) ⟨hx, hb, hml, hown, hts⟩ (mt_M_fees l D cA b S3 209 (xs (x4 + 1 : Int32).toNatClampNeg) (xs (x4 + 2 : Int32).toNatClampNeg) lx_m _ hw) (cwV 2 hts (fw_gV tw_922 tw_919 tw_920 tw_921 tw_11) rfl rfl rfl (by decide +kernel) ⟨Nat.le_of_ble_eq_true rfl, Nat.le_of_ble_eq_true rfl⟩) (fw_preV hP hK lx_m (by decide) rfl) rfl rfl hl.1 rfl (lv_room (Nat.le_of_ble_eq_true rfl)) dd_Law_law_283 ⟨(show _ ≤ 601024 by omega), (show _ ≤ 7293034 by omega)⟩) hS (fun S7 H locs hw hP hS => ?_)
  try dsimp only at hw
  refine lv_aload_n hx hb dd_Law_law_286 rfl (lv_at hl 3 rfl) ?_
  refine fw_calli (va_runV (As := []) (rest := []) ⟨hx, hb, hml, hown, hts⟩ (mt_M_thrown l D cA b S7 209 lx_m _ hw) (cwV 0 hts (fw_gV tw_906 tw_903 tw_904 tw_905 tw_11) rfl rfl rfl (by decide +kernel) ⟨Nat.le_of_ble_eq_true rfl, Nat.le_of_ble_eq_true rfl⟩) (fw_preV hP hK lx_m (by decide) rfl) rfl rfl hl.1 rfl (lv_room (Nat.le_of_ble_eq_true rfl)) dd_Law_law_287 ⟨(show _ ≤ 601024 by omega), (show _ ≤ 7293034 by omega)⟩) hS (fun S8 r9 H locs hw hP hS => ?_)
  try dsimp only at hw
  refine lv_iload hx hb dd_Law_law_290 (lv_at hl 0 rfl) ?_
  refine lv_icmp_eq (tgt := 297) hx hb dd_Law_law_292 (by decide) (fun h10 => ?_) (fun h10 => ?_)
  · have hw := hw.1 h10
    refine lv_goto (tgt := 1470) hx hb dd_Law_law_297 (by decide) ?_
    refine W.widen (k := 245 + x4.toNatClampNeg + 4) (n := 4217 + 6 * x4.toNatClampNeg + 24) (by omega) (by omega) ?_
    exact lb_1470 ⟨hx, hb, hr, hml, hown, hts, hX, hbl, hbA, hb0, hlocks, hl9, hK, hZ⟩ _ K23 S8 x4 _ _ ls hw hP hS (lv_sub hl [1, 2, 3, 4, 5] rfl)
  · have hw := hw.2 h10
    refine lv_iconst (v := 0) hx hb dd_Law_law_295 kc_ic_0 ?_
    exact False.elim hw
def wp_Law_law_300 (L : Nat) (xs : Nat → Int32) (k23 : fw_S → Int32 → Prop) (S : fw_S) (x4 : Int32) : Prop := x4.toNatClampNeg ≤ 2560 ∧ (vp_in (x4 + 1) L ∧ (vp_in (x4 + 2) L ∧ (vp_in (x4 + 3) L ∧ (wp_Law_card S 0 (xs (x4 + 1 : Int32).toNatClampNeg) (xs (x4 + 2 : Int32).toNatClampNeg) (xs (x4 + 3 : Int32).toNatClampNeg) (fun S4 r5 => vp_in (x4 + 1) L ∧ (vp_in (x4 + 2) L ∧ (vp_in (x4 + 3) L ∧ (wp_M_card S4 209 (xs (x4 + 1 : Int32).toNatClampNeg) (xs (x4 + 2 : Int32).toNatClampNeg) (xs (x4 + 3 : Int32).toNatClampNeg) (fun S9 => wp_M_thrown S9 209 (fun S10 r11 => (((r11 = r5) → wp_Law_law_1470 L xs  k23 S10 x4) ∧ (¬ (r11 = r5) → False))))))))))))
set_option maxHeartbeats 4000000 in
set_option maxRecDepth 100000 in
theorem lb_300 {p : Program} {l : Launch} {e : Env} {s : State} {m : MethodId} {below : List Frame} {meth : Method} {c : Code} {bs L b : Nat} {xs : Nat → Int32} {D : va_G} {cA : Nat → ClassId} (X9 : lx_C p l s m meth c bs L b xs D cA) (k23 : fw_S → Int32 → Prop) (K23 : ∀ (S : fw_S) (x4 : Int32) (H : Heap) (locs : List Loc) (ls : Array Slot), k23 S x4 → fw_P D CL cA layU b 245 (fw_v TK layU b S) H → va_S (fw_A b 245) s.heap H locs → lv_has ls 8 [(0, .ref bs), (1, .ref (b + 0)), (2, .ref (b + 209)), (3, .ref (b + 244)), (4, .int x4)] → W p l e room_1 s m #[Value.ref bs] below meth c H locs (245 + x4.toNatClampNeg + 0) (4217 + 6 * x4.toNatClampNeg + 0) (lw_Z below #[Value.ref bs] s) (F0 m 23 ls [])) : ∀ (S : fw_S) (x4 : Int32) (H : Heap) (locs : List Loc) (ls : Array Slot), wp_Law_law_300 L xs k23 S x4 → fw_P D CL cA layU b 245 (fw_v TK layU b S) H → va_S (fw_A b 245) s.heap H locs → lv_has ls 8 [(0, .ref bs), (1, .ref (b + 0)), (2, .ref (b + 209)), (3, .ref (b + 244)), (4, .int x4)] → W p l e room_1 s m #[Value.ref bs] below meth c H locs (245 + x4.toNatClampNeg + 0) (4217 + 6 * x4.toNatClampNeg + 0) (lw_Z below #[Value.ref bs] s) (F0 m 300 ls []) := by
  obtain ⟨hx, hb, hr, hml, hown, hts, hX, hbl, hbA, hb0, hlocks, hl9, hK, hZ⟩ := X9
  intro S x4 H locs ls hw hP hS hl
  unfold wp_Law_law_300 at hw
  obtain ⟨hx4, hw⟩ := hw
  refine lv_aload_n hx hb dd_Law_law_300 rfl (lv_at hl 1 rfl) ?_
  refine lv_aload_n hx hb dd_Law_law_301 rfl (lv_at hl 0 rfl) ?_
  refine lv_iload hx hb dd_Law_law_302 (lv_at hl 4 rfl) ?_
  refine lv_iconst (v := 1) hx hb dd_Law_law_304 kc_ic_1 ?_
  refine lv_iadd hx hb dd_Law_law_305 ?_
  obtain ⟨h1, hw⟩ := hw
  refine va_sld hx hb hX hbl hbA hS h1 dd_Law_law_306 ?_
  refine lv_aload_n hx hb dd_Law_law_307 rfl (lv_at hl 0 rfl) ?_
  refine lv_iload hx hb dd_Law_law_308 (lv_at hl 4 rfl) ?_
  refine lv_iconst (v := 2) hx hb dd_Law_law_310 kc_ic_2 ?_
  refine lv_iadd hx hb dd_Law_law_311 ?_
  obtain ⟨h2, hw⟩ := hw
  refine va_sld hx hb hX hbl hbA hS h2 dd_Law_law_312 ?_
  refine lv_aload_n hx hb dd_Law_law_313 rfl (lv_at hl 0 rfl) ?_
  refine lv_iload hx hb dd_Law_law_314 (lv_at hl 4 rfl) ?_
  refine lv_iconst (v := 3) hx hb dd_Law_law_316 kc_ic_3 ?_
  refine lv_iadd hx hb dd_Law_law_317 ?_
  obtain ⟨h3, hw⟩ := hw
  refine va_sld hx hb hX hbl hbA hS h3 dd_Law_law_318 ?_
  refine fw_calli (fw_runSW (As := [.ref (b + 0), .int (xs (x4 + 1 : Int32).toNatClampNeg), .int (xs (x4 + 2 : Int32).toNatClampNeg), .int (xs (x4 + 3 : Int32).toNatClampNeg)]) (rest := []) ⟨hx, hb, hml, hown, hts⟩ (mt_Law_card l hl9 D cA b S 0 (xs (x4 + 1 : Int32).toNatClampNeg) (xs (x4 + 2 : Int32).toNatClampNeg) (xs (x4 + 3 : Int32).toNatClampNeg) lx_x _ hw) 4 (fw_g tw_439) rfl rfl rfl (hts _ (tb_in tw_0)) (hts _ (tb_in tw_437)) (hts _ (tb_in tw_438)) (by decide +kernel) ⟨Nat.le_of_ble_eq_true rfl, Nat.le_of_ble_eq_true rfl⟩ (fw_preSX hP hK hZ hS) rfl rfl hl.1 rfl (lv_room (Nat.le_of_ble_eq_true rfl)) dd_Law_law_319 ⟨(show _ ≤ 601024 by omega), (show _ ≤ 7293034 by omega)⟩) hS (fun S4 r5 H locs hw hP hS => ?_)
  try dsimp only at hw
  refine lv_istore hx hb dd_Law_law_322 hl (Nat.le_of_ble_eq_true rfl) rfl (fun ls hl => ?_)
  have hl : lv_has ls 8 [(5, .int r5), (0, .ref bs), (1, .ref (b + 0)), (2, .ref (b + 209)), (3, .ref (b + 244)), (4, .int x4)] := hl
  refine lv_aload_n hx hb dd_Law_law_324 rfl (lv_at hl 3 rfl) ?_
  refine lv_aload_n hx hb dd_Law_law_325 rfl (lv_at hl 1 rfl) ?_
  refine lv_iload hx hb dd_Law_law_326 (lv_at hl 5 rfl) ?_
  refine lv_iconst (v := 1) hx hb dd_Law_law_328 kc_ic_1 ?_
  refine lv_iadd hx hb dd_Law_law_329 ?_
  obtain ⟨h6, hw⟩ := hw
  refine va_sld hx hb hX hbl hbA hS h6 dd_Law_law_330 ?_
  refine lv_aload_n hx hb dd_Law_law_331 rfl (lv_at hl 1 rfl) ?_
  refine lv_iload hx hb dd_Law_law_332 (lv_at hl 5 rfl) ?_
  refine lv_iconst (v := 2) hx hb dd_Law_law_334 kc_ic_2 ?_
  refine lv_iadd hx hb dd_Law_law_335 ?_
  obtain ⟨h7, hw⟩ := hw
  refine va_sld hx hb hX hbl hbA hS h7 dd_Law_law_336 ?_
  refine lv_aload_n hx hb dd_Law_law_337 rfl (lv_at hl 1 rfl) ?_
  refine lv_iload hx hb dd_Law_law_338 (lv_at hl 5 rfl) ?_
  refine lv_iconst (v := 3) hx hb dd_Law_law_340 kc_ic_3 ?_
  refine lv_iadd hx hb dd_Law_law_341 ?_
  obtain ⟨h8, hw⟩ := hw
  refine va_sld hx hb hX hbl hbA hS h8 dd_Law_law_342 ?_
  refine fw_callv (va_runV (As := [.int (xs (x4 + 1 : Int32).toNatClampNeg), .int (xs (x4 + 2 : Int32).toNatClampNeg), .int (xs (x4 + 3 : Int32).toNatClampNeg)]) (rest := []) ⟨hx, hb, hml, hown, hts⟩ (mt_M_card l D cA b S4 209 (xs (x4 + 1 : Int32).toNatClampNeg) (xs (x4 + 2 : Int32).toNatClampNeg) (xs (x4 + 3 : Int32).toNatClampNeg) lx_m _ hw) (cwV 3 hts (fw_gV tw_927 tw_924 tw_925 tw_926 tw_11) rfl rfl rfl (by decide +kernel) ⟨Nat.le_of_ble_eq_true rfl, Nat.le_of_ble_eq_true rfl⟩) (fw_preV hP hK lx_m (by decide) rfl) rfl rfl hl.1 rfl (lv_room (Nat.le_of_ble_eq_true rfl)) dd_Law_law_343 ⟨(show _ ≤ 601024 by omega), (show _ ≤ 7293034 by omega)⟩) hS (fun S9 H locs hw hP hS => ?_)
  try dsimp only at hw
  refine lv_aload_n hx hb dd_Law_law_346 rfl (lv_at hl 3 rfl) ?_
  refine fw_calli (va_runV (As := []) (rest := []) ⟨hx, hb, hml, hown, hts⟩ (mt_M_thrown l D cA b S9 209 lx_m _ hw) (cwV 0 hts (fw_gV tw_906 tw_903 tw_904 tw_905 tw_11) rfl rfl rfl (by decide +kernel) ⟨Nat.le_of_ble_eq_true rfl, Nat.le_of_ble_eq_true rfl⟩) (fw_preV hP hK lx_m (by decide) rfl) rfl rfl hl.1 rfl (lv_room (Nat.le_of_ble_eq_true rfl)) dd_Law_law_347 ⟨(show _ ≤ 601024 by omega), (show _ ≤ 7293034 by omega)⟩) hS (fun S10 r11 H locs hw hP hS => ?_)
  try dsimp only at hw
  refine lv_iload hx hb dd_Law_law_350 (lv_at hl 0 rfl) ?_
  refine lv_icmp_eq (tgt := 357) hx hb dd_Law_law_352 (by decide) (fun h12 => ?_) (fun h12 => ?_)
  · have hw := hw.1 h12
    refine lv_goto (tgt := 1470) hx hb dd_Law_law_357 (by decide) ?_
    refine W.widen (k := 245 + x4.toNatClampNeg + 4) (n := 4217 + 6 * x4.toNatClampNeg + 24) (by omega) (by omega) ?_
    exact lb_1470 ⟨hx, hb, hr, hml, hown, hts, hX, hbl, hbA, hb0, hlocks, hl9, hK, hZ⟩ _ K23 S10 x4 _ _ ls hw hP hS (lv_sub hl [1, 2, 3, 4, 5] rfl)
  · have hw := hw.2 h12
    refine lv_iconst (v := 0) hx hb dd_Law_law_355 kc_ic_0 ?_
    exact False.elim hw
def wp_Law_law_420 (L : Nat) (xs : Nat → Int32) (k23 : fw_S → Int32 → Prop) (S : fw_S) (x4 : Int32) (x5 : Int32) (x6 : Int32) : Prop := x4.toNatClampNeg ≤ 2560 ∧ (wp_Law_law_1470 L xs  k23 S x4)
set_option maxHeartbeats 4000000 in
set_option maxRecDepth 100000 in
theorem lb_420 {p : Program} {l : Launch} {e : Env} {s : State} {m : MethodId} {below : List Frame} {meth : Method} {c : Code} {bs L b : Nat} {xs : Nat → Int32} {D : va_G} {cA : Nat → ClassId} (X9 : lx_C p l s m meth c bs L b xs D cA) (k23 : fw_S → Int32 → Prop) (K23 : ∀ (S : fw_S) (x4 : Int32) (H : Heap) (locs : List Loc) (ls : Array Slot), k23 S x4 → fw_P D CL cA layU b 245 (fw_v TK layU b S) H → va_S (fw_A b 245) s.heap H locs → lv_has ls 8 [(0, .ref bs), (1, .ref (b + 0)), (2, .ref (b + 209)), (3, .ref (b + 244)), (4, .int x4)] → W p l e room_1 s m #[Value.ref bs] below meth c H locs (245 + x4.toNatClampNeg + 0) (4217 + 6 * x4.toNatClampNeg + 0) (lw_Z below #[Value.ref bs] s) (F0 m 23 ls [])) : ∀ (S : fw_S) (x4 : Int32) (x5 : Int32) (x6 : Int32) (H : Heap) (locs : List Loc) (ls : Array Slot), wp_Law_law_420 L xs k23 S x4 x5 x6 → fw_P D CL cA layU b 245 (fw_v TK layU b S) H → va_S (fw_A b 245) s.heap H locs → lv_has ls 8 [(0, .ref bs), (1, .ref (b + 0)), (2, .ref (b + 209)), (3, .ref (b + 244)), (4, .int x4), (5, .int x5), (6, .int x6)] → W p l e room_1 s m #[Value.ref bs] below meth c H locs (245 + x4.toNatClampNeg + 1) (4217 + 6 * x4.toNatClampNeg + 6) (lw_Z below #[Value.ref bs] s) (F0 m 420 ls []) := by
  obtain ⟨hx, hb, hr, hml, hown, hts, hX, hbl, hbA, hb0, hlocks, hl9, hK, hZ⟩ := X9
  intro S x4 x5 x6 H locs ls hw hP hS hl
  unfold wp_Law_law_420 at hw
  obtain ⟨hx4, hw⟩ := hw
  refine lv_goto (tgt := 1470) hx hb dd_Law_law_420 (by decide) ?_
  refine W.widen (k := 245 + x4.toNatClampNeg + 4) (n := 4217 + 6 * x4.toNatClampNeg + 24) (by omega) (by omega) ?_
  exact lb_1470 ⟨hx, hb, hr, hml, hown, hts, hX, hbl, hbA, hb0, hlocks, hl9, hK, hZ⟩ _ K23 S x4 _ _ ls hw hP hS (lv_sub hl [0, 1, 2, 3, 4] rfl)
def wp_Law_law_414 (L : Nat) (xs : Nat → Int32) (k23 : fw_S → Int32 → Prop) (S : fw_S) (x4 : Int32) (x5 : Int32) (x6 : Int32) (pl0 : Int64) (pl1 : Int64) : Prop := x4.toNatClampNeg ≤ 2560 ∧ (((((lg_cmp pl1 pl0) = 0) → wp_Law_law_420 L xs  k23 S x4 x5 x6) ∧ (¬ ((lg_cmp pl1 pl0) = 0) → False)))
set_option maxHeartbeats 4000000 in
set_option maxRecDepth 100000 in
theorem lb_414 {p : Program} {l : Launch} {e : Env} {s : State} {m : MethodId} {below : List Frame} {meth : Method} {c : Code} {bs L b : Nat} {xs : Nat → Int32} {D : va_G} {cA : Nat → ClassId} (X9 : lx_C p l s m meth c bs L b xs D cA) (k23 : fw_S → Int32 → Prop) (K23 : ∀ (S : fw_S) (x4 : Int32) (H : Heap) (locs : List Loc) (ls : Array Slot), k23 S x4 → fw_P D CL cA layU b 245 (fw_v TK layU b S) H → va_S (fw_A b 245) s.heap H locs → lv_has ls 8 [(0, .ref bs), (1, .ref (b + 0)), (2, .ref (b + 209)), (3, .ref (b + 244)), (4, .int x4)] → W p l e room_1 s m #[Value.ref bs] below meth c H locs (245 + x4.toNatClampNeg + 0) (4217 + 6 * x4.toNatClampNeg + 0) (lw_Z below #[Value.ref bs] s) (F0 m 23 ls [])) : ∀ (S : fw_S) (x4 : Int32) (x5 : Int32) (x6 : Int32) (pl0 : Int64) (pl1 : Int64) (H : Heap) (locs : List Loc) (ls : Array Slot), wp_Law_law_414 L xs k23 S x4 x5 x6 pl0 pl1 → fw_P D CL cA layU b 245 (fw_v TK layU b S) H → va_S (fw_A b 245) s.heap H locs → lv_has ls 8 [(0, .ref bs), (1, .ref (b + 0)), (2, .ref (b + 209)), (3, .ref (b + 244)), (4, .int x4), (5, .int x5), (6, .int x6)] → W p l e room_1 s m #[Value.ref bs] below meth c H locs (245 + x4.toNatClampNeg + 1) (4217 + 6 * x4.toNatClampNeg + 6) (lw_Z below #[Value.ref bs] s) (F0 m 414 ls [.long pl0, .long pl1]) := by
  obtain ⟨hx, hb, hr, hml, hown, hts, hX, hbl, hbA, hb0, hlocks, hl9, hK, hZ⟩ := X9
  intro S x4 x5 x6 pl0 pl1 H locs ls hw hP hS hl
  unfold wp_Law_law_414 at hw
  obtain ⟨hx4, hw⟩ := hw
  refine W.lcmp hx hb dd_Law_law_414 ?_
  refine lv_if_eq (tgt := 420) hx hb dd_Law_law_415 (by decide) (fun h1 => ?_) (fun h1 => ?_)
  · have hw := hw.1 h1
    refine W.widen (k := 245 + x4.toNatClampNeg + 1) (n := 4217 + 6 * x4.toNatClampNeg + 6) (by omega) (by omega) ?_
    exact lb_420 ⟨hx, hb, hr, hml, hown, hts, hX, hbl, hbA, hb0, hlocks, hl9, hK, hZ⟩ _ K23 S x4 x5 x6 _ _ ls hw hP hS (lv_sub hl [0, 1, 2, 3, 4, 5, 6] rfl)
  · have hw := hw.2 h1
    refine lv_iconst (v := 0) hx hb dd_Law_law_418 kc_ic_0 ?_
    exact False.elim hw
def wp_Law_law_360 (L : Nat) (xs : Nat → Int32) (k23 : fw_S → Int32 → Prop) (S : fw_S) (x4 : Int32) : Prop := x4.toNatClampNeg ≤ 2560 ∧ (vp_in (x4 + 1) L ∧ (wp_Law_copy S 0 (xs (x4 + 1 : Int32).toNatClampNeg) 244 (fun S2 r3 => vp_in (x4 + 1) L ∧ (wp_M_copy S2 209 (xs (x4 + 1 : Int32).toNatClampNeg) (fun S5 r6 => wp_M_thrown S5 209 (fun S7 r8 => (((r8 = r3) → ((¬ (r3 = 0) → wp_Law_law_420 L xs  k23 S7 x4 r3 r6) ∧ ((r3 = 0) → vp_in 0 1 ∧ ((((r6 = 0) → wp_Law_law_414 L xs  k23 S7 x4 r3 r6 0 (S7.2 244 ((0 : Int32).toNatClampNeg))) ∧ (¬ (r6 = 0) → wp_Law_law_414 L xs  k23 S7 x4 r3 r6 1 (S7.2 244 ((0 : Int32).toNatClampNeg)))))))) ∧ (¬ (r8 = r3) → False))))))))
set_option maxHeartbeats 4000000 in
set_option maxRecDepth 100000 in
theorem lb_360 {p : Program} {l : Launch} {e : Env} {s : State} {m : MethodId} {below : List Frame} {meth : Method} {c : Code} {bs L b : Nat} {xs : Nat → Int32} {D : va_G} {cA : Nat → ClassId} (X9 : lx_C p l s m meth c bs L b xs D cA) (k23 : fw_S → Int32 → Prop) (K23 : ∀ (S : fw_S) (x4 : Int32) (H : Heap) (locs : List Loc) (ls : Array Slot), k23 S x4 → fw_P D CL cA layU b 245 (fw_v TK layU b S) H → va_S (fw_A b 245) s.heap H locs → lv_has ls 8 [(0, .ref bs), (1, .ref (b + 0)), (2, .ref (b + 209)), (3, .ref (b + 244)), (4, .int x4)] → W p l e room_1 s m #[Value.ref bs] below meth c H locs (245 + x4.toNatClampNeg + 0) (4217 + 6 * x4.toNatClampNeg + 0) (lw_Z below #[Value.ref bs] s) (F0 m 23 ls [])) : ∀ (S : fw_S) (x4 : Int32) (H : Heap) (locs : List Loc) (ls : Array Slot), wp_Law_law_360 L xs k23 S x4 → fw_P D CL cA layU b 245 (fw_v TK layU b S) H → va_S (fw_A b 245) s.heap H locs → lv_has ls 8 [(0, .ref bs), (1, .ref (b + 0)), (2, .ref (b + 209)), (3, .ref (b + 244)), (4, .int x4)] → W p l e room_1 s m #[Value.ref bs] below meth c H locs (245 + x4.toNatClampNeg + 0) (4217 + 6 * x4.toNatClampNeg + 0) (lw_Z below #[Value.ref bs] s) (F0 m 360 ls []) := by
  obtain ⟨hx, hb, hr, hml, hown, hts, hX, hbl, hbA, hb0, hlocks, hl9, hK, hZ⟩ := X9
  intro S x4 H locs ls hw hP hS hl
  unfold wp_Law_law_360 at hw
  obtain ⟨hx4, hw⟩ := hw
  refine lv_aload_n hx hb dd_Law_law_360 rfl (lv_at hl 1 rfl) ?_
  refine lv_aload_n hx hb dd_Law_law_361 rfl (lv_at hl 0 rfl) ?_
  refine lv_iload hx hb dd_Law_law_362 (lv_at hl 4 rfl) ?_
  refine lv_iconst (v := 1) hx hb dd_Law_law_364 kc_ic_1 ?_
  refine lv_iadd hx hb dd_Law_law_365 ?_
  obtain ⟨h1, hw⟩ := hw
  refine va_sld hx hb hX hbl hbA hS h1 dd_Law_law_366 ?_
  refine lv_aload_n hx hb dd_Law_law_367 rfl (lv_at hl 3 rfl) ?_
  refine fw_calli (fw_runSW (As := [.ref (b + 0), .int (xs (x4 + 1 : Int32).toNatClampNeg), .ref (b + 244)]) (rest := []) ⟨hx, hb, hml, hown, hts⟩ (mt_Law_copy l hl9 D cA b S 0 (xs (x4 + 1 : Int32).toNatClampNeg) 244 lx_x lx_o _ hw) 3 (fw_g tw_450) rfl rfl rfl (hts _ (tb_in tw_0)) (hts _ (tb_in tw_448)) (hts _ (tb_in tw_449)) (by decide +kernel) ⟨Nat.le_of_ble_eq_true rfl, Nat.le_of_ble_eq_true rfl⟩ (fw_preSX hP hK hZ hS) rfl rfl hl.1 rfl (lv_room (Nat.le_of_ble_eq_true rfl)) dd_Law_law_368 ⟨(show _ ≤ 601024 by omega), (show _ ≤ 7293034 by omega)⟩) hS (fun S2 r3 H locs hw hP hS => ?_)
  try dsimp only at hw
  refine lv_istore hx hb dd_Law_law_371 hl (Nat.le_of_ble_eq_true rfl) rfl (fun ls hl => ?_)
  have hl : lv_has ls 8 [(5, .int r3), (0, .ref bs), (1, .ref (b + 0)), (2, .ref (b + 209)), (3, .ref (b + 244)), (4, .int x4)] := hl
  refine lv_aload_n hx hb dd_Law_law_373 rfl (lv_at hl 3 rfl) ?_
  refine lv_aload_n hx hb dd_Law_law_374 rfl (lv_at hl 1 rfl) ?_
  refine lv_iload hx hb dd_Law_law_375 (lv_at hl 5 rfl) ?_
  refine lv_iconst (v := 1) hx hb dd_Law_law_377 kc_ic_1 ?_
  refine lv_iadd hx hb dd_Law_law_378 ?_
  obtain ⟨h4, hw⟩ := hw
  refine va_sld hx hb hX hbl hbA hS h4 dd_Law_law_379 ?_
  refine fw_calli (va_runV (As := [.int (xs (x4 + 1 : Int32).toNatClampNeg)]) (rest := []) ⟨hx, hb, hml, hown, hts⟩ (mt_M_copy l D cA b S2 209 (xs (x4 + 1 : Int32).toNatClampNeg) lx_m _ hw) (cwV 1 hts (fw_gV tw_931 tw_928 tw_929 tw_930 tw_11) rfl rfl rfl (by decide +kernel) ⟨Nat.le_of_ble_eq_true rfl, Nat.le_of_ble_eq_true rfl⟩) (fw_preV hP hK lx_m (by decide) rfl) rfl rfl hl.1 rfl (lv_room (Nat.le_of_ble_eq_true rfl)) dd_Law_law_380 ⟨(show _ ≤ 601024 by omega), (show _ ≤ 7293034 by omega)⟩) hS (fun S5 r6 H locs hw hP hS => ?_)
  try dsimp only at hw
  refine lv_istore hx hb dd_Law_law_383 hl (Nat.le_of_ble_eq_true rfl) rfl (fun ls hl => ?_)
  have hl : lv_has ls 8 [(6, .int r6), (5, .int r3), (0, .ref bs), (1, .ref (b + 0)), (2, .ref (b + 209)), (3, .ref (b + 244)), (4, .int x4)] := hl
  refine lv_aload_n hx hb dd_Law_law_385 rfl (lv_at hl 4 rfl) ?_
  refine fw_calli (va_runV (As := []) (rest := []) ⟨hx, hb, hml, hown, hts⟩ (mt_M_thrown l D cA b S5 209 lx_m _ hw) (cwV 0 hts (fw_gV tw_906 tw_903 tw_904 tw_905 tw_11) rfl rfl rfl (by decide +kernel) ⟨Nat.le_of_ble_eq_true rfl, Nat.le_of_ble_eq_true rfl⟩) (fw_preV hP hK lx_m (by decide) rfl) rfl rfl hl.1 rfl (lv_room (Nat.le_of_ble_eq_true rfl)) dd_Law_law_386 ⟨(show _ ≤ 601024 by omega), (show _ ≤ 7293034 by omega)⟩) hS (fun S7 r8 H locs hw hP hS => ?_)
  try dsimp only at hw
  refine lv_iload hx hb dd_Law_law_389 (lv_at hl 1 rfl) ?_
  refine lv_icmp_eq (tgt := 396) hx hb dd_Law_law_391 (by decide) (fun h9 => ?_) (fun h9 => ?_)
  · have hw := hw.1 h9
    refine lv_iload hx hb dd_Law_law_396 (lv_at hl 1 rfl) ?_
    refine lv_if_ne (tgt := 420) hx hb dd_Law_law_398 (by decide) (fun h10 => ?_) (fun h10 => ?_)
    · have hw := hw.1 h10
      refine W.widen (k := 245 + x4.toNatClampNeg + 1) (n := 4217 + 6 * x4.toNatClampNeg + 6) (by omega) (by omega) ?_
      exact lb_420 ⟨hx, hb, hr, hml, hown, hts, hX, hbl, hbA, hb0, hlocks, hl9, hK, hZ⟩ _ K23 S7 x4 r3 r6 _ _ ls hw hP hS (lv_sub hl [2, 3, 4, 5, 6, 1, 0] rfl)
    · have hw := hw.2 h10
      refine lv_aload_n hx hb dd_Law_law_401 rfl (lv_at hl 5 rfl) ?_
      refine lv_iconst (v := 0) hx hb dd_Law_law_402 kc_ic_0 ?_
      obtain ⟨h11, hw⟩ := hw
      refine fw_lald hx hb hK hP lx_o (by decide) 1 rfl tka_101 h11 dd_Law_law_403 ?_
      refine lv_iload hx hb dd_Law_law_404 (lv_at hl 0 rfl) ?_
      refine lv_if_eq (tgt := 413) hx hb dd_Law_law_406 (by decide) (fun h12 => ?_) (fun h12 => ?_)
      · have hw := hw.1 h12
        refine lv_lconst (v := 0) hx hb dd_Law_law_413 kc_lc_0 ?_
        refine W.widen (k := 245 + x4.toNatClampNeg + 1) (n := 4217 + 6 * x4.toNatClampNeg + 6) (by omega) (by omega) ?_
        exact lb_414 ⟨hx, hb, hr, hml, hown, hts, hX, hbl, hbA, hb0, hlocks, hl9, hK, hZ⟩ _ K23 S7 x4 r3 r6 0 (S7.2 244 ((0 : Int32).toNatClampNeg)) _ _ ls hw hP hS (lv_sub hl [2, 3, 4, 5, 6, 1, 0] rfl)
      · have hw := hw.2 h12
        refine lv_lconst (v := 1) hx hb dd_Law_law_409 kc_lc_1 ?_
        refine lv_goto (tgt := 414) hx hb dd_Law_law_410 (by decide) ?_
        refine W.widen (k := 245 + x4.toNatClampNeg + 1) (n := 4217 + 6 * x4.toNatClampNeg + 6) (by omega) (by omega) ?_
        exact lb_414 ⟨hx, hb, hr, hml, hown, hts, hX, hbl, hbA, hb0, hlocks, hl9, hK, hZ⟩ _ K23 S7 x4 r3 r6 1 (S7.2 244 ((0 : Int32).toNatClampNeg)) _ _ ls hw hP hS (lv_sub hl [2, 3, 4, 5, 6, 1, 0] rfl)
  · have hw := hw.2 h9
    refine lv_iconst (v := 0) hx hb dd_Law_law_394 kc_ic_0 ?_
    exact False.elim hw
def wp_Law_law_519 (L : Nat) (xs : Nat → Int32) (k23 : fw_S → Int32 → Prop) (S : fw_S) (x4 : Int32) (x5 : Int32) (x6 : Int32) : Prop := x4.toNatClampNeg ≤ 2560 ∧ (wp_Law_law_1470 L xs  k23 S x4)
set_option maxHeartbeats 4000000 in
set_option maxRecDepth 100000 in
theorem lb_519 {p : Program} {l : Launch} {e : Env} {s : State} {m : MethodId} {below : List Frame} {meth : Method} {c : Code} {bs L b : Nat} {xs : Nat → Int32} {D : va_G} {cA : Nat → ClassId} (X9 : lx_C p l s m meth c bs L b xs D cA) (k23 : fw_S → Int32 → Prop) (K23 : ∀ (S : fw_S) (x4 : Int32) (H : Heap) (locs : List Loc) (ls : Array Slot), k23 S x4 → fw_P D CL cA layU b 245 (fw_v TK layU b S) H → va_S (fw_A b 245) s.heap H locs → lv_has ls 8 [(0, .ref bs), (1, .ref (b + 0)), (2, .ref (b + 209)), (3, .ref (b + 244)), (4, .int x4)] → W p l e room_1 s m #[Value.ref bs] below meth c H locs (245 + x4.toNatClampNeg + 0) (4217 + 6 * x4.toNatClampNeg + 0) (lw_Z below #[Value.ref bs] s) (F0 m 23 ls [])) : ∀ (S : fw_S) (x4 : Int32) (x5 : Int32) (x6 : Int32) (H : Heap) (locs : List Loc) (ls : Array Slot), wp_Law_law_519 L xs k23 S x4 x5 x6 → fw_P D CL cA layU b 245 (fw_v TK layU b S) H → va_S (fw_A b 245) s.heap H locs → lv_has ls 8 [(0, .ref bs), (1, .ref (b + 0)), (2, .ref (b + 209)), (3, .ref (b + 244)), (4, .int x4), (5, .int x5), (6, .int x6)] → W p l e room_1 s m #[Value.ref bs] below meth c H locs (245 + x4.toNatClampNeg + 4) (4217 + 6 * x4.toNatClampNeg + 24) (lw_Z below #[Value.ref bs] s) (F0 m 519 ls []) := by
  obtain ⟨hx, hb, hr, hml, hown, hts, hX, hbl, hbA, hb0, hlocks, hl9, hK, hZ⟩ := X9
  intro S x4 x5 x6 H locs ls hw hP hS hl
  unfold wp_Law_law_519 at hw
  obtain ⟨hx4, hw⟩ := hw
  refine lv_goto (tgt := 1470) hx hb dd_Law_law_519 (by decide) ?_
  refine W.widen (k := 245 + x4.toNatClampNeg + 4) (n := 4217 + 6 * x4.toNatClampNeg + 24) (by omega) (by omega) ?_
  exact lb_1470 ⟨hx, hb, hr, hml, hown, hts, hX, hbl, hbA, hb0, hlocks, hl9, hK, hZ⟩ _ K23 S x4 _ _ ls hw hP hS (lv_sub hl [0, 1, 2, 3, 4] rfl)
