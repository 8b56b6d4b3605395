theorem dd_Out_init_30 : decode bb_Out_init 30 = .ok (.iload_n 1, 1) := by decide +kernel
theorem dd_Out_init_31 : decode bb_Out_init 31 = .ok (.iconst 2, 1) := by decide +kernel
theorem dd_Out_init_32 : decode bb_Out_init 32 = .ok (.if_icmp .ge 22, 3) := by decide +kernel
theorem dd_Out_init_54 : decode bb_Out_init 54 = .ok (.return_, 1) := by decide +kernel
theorem dd_Out_init_35 : decode bb_Out_init 35 = .ok (.aload_n 0, 1) := by decide +kernel
theorem dd_Out_init_36 : decode bb_Out_init 36 = .ok (.getfield 11, 3) := by decide +kernel
theorem dd_Out_init_39 : decode bb_Out_init 39 = .ok (.iload_n 1, 1) := by decide +kernel
theorem dd_Out_init_40 : decode bb_Out_init 40 = .ok (.new 9, 3) := by decide +kernel
theorem dd_Out_init_43 : decode bb_Out_init 43 = .ok (.dup, 1) := by decide +kernel
theorem dd_Out_init_44 : decode bb_Out_init 44 = .ok (.invokespecial 26, 3) := by decide +kernel
theorem dd_Out_init_47 : decode bb_Out_init 47 = .ok (.aastore, 1) := by decide +kernel
theorem dd_Out_init_48 : decode bb_Out_init 48 = .ok (.iinc 1 1, 3) := by decide +kernel
theorem dd_Out_init_51 : decode bb_Out_init 51 = .ok (.goto (-21), 3) := by decide +kernel
theorem dd_Out_init_0 : decode bb_Out_init 0 = .ok (.aload_n 0, 1) := by decide +kernel
theorem dd_Out_init_1 : decode bb_Out_init 1 = .ok (.invokespecial 3, 3) := by decide +kernel
theorem dd_Out_init_4 : decode bb_Out_init 4 = .ok (.aload_n 0, 1) := by decide +kernel
theorem dd_Out_init_5 : decode bb_Out_init 5 = .ok (.iconst 2, 1) := by decide +kernel
theorem dd_Out_init_6 : decode bb_Out_init 6 = .ok (.anewarray 9, 3) := by decide +kernel
theorem dd_Out_init_9 : decode bb_Out_init 9 = .ok (.putfield 11, 3) := by decide +kernel
theorem dd_Out_init_12 : decode bb_Out_init 12 = .ok (.aload_n 0, 1) := by decide +kernel
theorem dd_Out_init_13 : decode bb_Out_init 13 = .ok (.new 15, 3) := by decide +kernel
theorem dd_Out_init_16 : decode bb_Out_init 16 = .ok (.dup, 1) := by decide +kernel
theorem dd_Out_init_17 : decode bb_Out_init 17 = .ok (.invokespecial 17, 3) := by decide +kernel
theorem dd_Out_init_20 : decode bb_Out_init 20 = .ok (.putfield 18, 3) := by decide +kernel
theorem dd_Out_init_23 : decode bb_Out_init 23 = .ok (.aload_n 0, 1) := by decide +kernel
theorem dd_Out_init_24 : decode bb_Out_init 24 = .ok (.iconst 0, 1) := by decide +kernel
theorem dd_Out_init_25 : decode bb_Out_init 25 = .ok (.putfield 22, 3) := by decide +kernel
theorem dd_Out_init_28 : decode bb_Out_init 28 = .ok (.iconst 0, 1) := by decide +kernel
theorem dd_Out_init_29 : decode bb_Out_init 29 = .ok (.istore_n 1, 1) := by decide +kernel
def ww_Out_init : List Cond := .code yy_Out_init bb_Out_init 2 none :: TB
def rm_Out_init : Room := { frames := 5, cells := 208, slots := 2125, locals := 103 }
def wv_Out_init_30 (b n o : Nat) (post : Nat → fw_V → Prop) : Nat → Nat → fw_V → Int32 → Prop
  | 0, _, _, _ => False
  | f + 1, n1, V, x1 => ((2 ≤ x1 → n1 = n + 208 ∧ (post n1 V)) ∧ (¬ 2 ≤ x1 → V o 0 = .ref (b + (o + 1)) ∧ (o + 1 < n1 ∧ (layU (o + 1) = (103, 2) ∧ (n1 + 1 ≤ n + 208 ∧ (layU n1 = (1, 0) ∧ (∀ n10, n10 = n1 + 1 → ∀ V11 : fw_V, V11 = fw_nw V n1 (fun k => defaultValue (F_ty_1 k)) → n10 + 94 ≤ n + 208 ∧ (SL (n10 + 94) = SL n10 + 678 ∧ (wv_Site_init b n10 V11 n1 (fun n16 V17 => n16 = n10 + 94 → vp_in x1 2 ∧ (∀ V19 : fw_V, V19 = fw_up V17 (o + 1) (x1 : Int32).toNatClampNeg (.ref (b + n1)) → ∀ v20 : Int32, v20 = x1 + 1 → wv_Out_init_30 b n o post f n16 V19 v20)))))))))))
def wv_Out_init (b n : Nat) (V : fw_V) (o : Nat) (post : Nat → fw_V → Prop) : Prop := SL (n + 208) = SL n + 2125 ∧ (n + 1 ≤ n + 208 ∧ (layU n = (103, 2) ∧ (∀ n3, n3 = n + 1 → ∀ V4 : fw_V, V4 = fw_nw V n (fun _ => .null) → ∀ V5 : fw_V, V5 = fw_up V4 o 0 (.ref (b + n)) → n3 + 1 ≤ n + 208 ∧ (layU n3 = (9, 0) ∧ (∀ n8, n8 = n3 + 1 → ∀ V9 : fw_V, V9 = fw_nw V5 n3 (fun k => defaultValue (F_ty_9 k)) → n8 + 16 ≤ n + 208 ∧ (SL (n8 + 16) = SL n8 + 756 ∧ (wv_Office_init b n8 V9 n3 (fun n14 V15 => n14 = n8 + 16 → ∀ V16 : fw_V, V16 = fw_up V15 o 1 (.ref (b + n3)) → ∀ V17 : fw_V, V17 = fw_up V16 o 2 (.int 0) → ∃ f0, wv_Out_init_30 b n o post f0 n14 V17 0))))))))
set_option maxHeartbeats 4000000 in
set_option maxRecDepth 100000 in
theorem mv_Out_init (l : Launch) (D : va_G) (cA : Nat → ClassId) (b n : Nat) (V : fw_V) (o : Nat) (ho : o < n ∧ layU o = (0, 0)) (post : Nat → fw_V → Prop) (hw : wv_Out_init b n V o post) : Met l yy_Out_init ww_Out_init rm_Out_init (fw_PcV D CL cA (TYS cA) layU b n V [.ref (b + o)]) (va_Qv (fun u : Nat × fw_V => post u.1 u.2) (fw_BV D CL cA layU b (n + 208) (SL n + 2125)) (fw_Ac b)) 208 2125 (fw_Ac b) := by
  refine Met.ofW (cc := bb_Out_init) (maxL := 2) (ret := none) (by decide) rfl ?_
  intro p e s m args below meth c s₁ B hml hv
  obtain ⟨rfl, hP, hz, hK, hV⟩ := hv
  have hx := B.exec
  have hb := B.bytes
  have hr := B.returns
  have hts := atoms_spec (ws := ww_Out_init) B.pre
  have hown : s.vm.findClass "OutletOffice" = some m.cls := findClass_of_methodNamed B.named
  have hlocks := B.notSynchronized
  have hin : meth.name = "<init>" := (name_of_methodNamed B.named B.method).1
  have ho1 := ho.1
  have hS : va_S (fw_Ac b) s.heap s.heap [] := va_S.rf
  have hl := lv_entry ([.ref (b + o)]) (n := 2) (Nat.le_of_ble_eq_true rfl)
  rw [lg_entry_eq]
  generalize (lg_sl ([.ref (b + o)]) ++ List.replicate (2 - (lg_sl ([.ref (b + o)])).length) Slot.unset).toArray = ls at hl ⊢
  have hl : lv_has ls 2 [(0, .ref (b + o))] := hl
  unfold wv_Out_init at hw
  obtain ⟨hSLt, hw⟩ := hw
  have B30 : ∀ (f : Nat) (n1 : Nat) (V : fw_V) (x1 : Int32) (H : Heap) (locs : List Loc) (ls : Array Slot), n ≤ n1 → SL n ≤ SL n1 → wv_Out_init_30 b n o post f n1 V x1 → fw_P D CL cA layU b n1 V H → H.size = b + n1 → va_S (fw_Ac b) s.heap H locs → lv_has ls 2 [(0, .ref (b + o)), (1, .int x1)] → W p l e (headSpec ww_Out_init rm_Out_init).room s m ([.ref (b + o)] : List Value).toArray below meth c H locs (n1 - n) (SL n1 - SL n) (MQ below (va_Qv (fun u : Nat × fw_V => post u.1 u.2) (fw_BV D CL cA layU b (n + 208) (SL n + 2125)) (fw_Ac b)) ([.ref (b + o)] : List Value).toArray s 208 2125 (fw_Ac b)) (F0 m 30 ls []) := by
    intro f
    induction f with
    | zero => intro n1 V x1 H locs ls _ _ hw; exact False.elim hw
    | succ f ih =>
        intro n1 V x1 H locs ls hn1 hs1 hw hP hz hS hl
        unfold wv_Out_init_30 at hw
        refine lv_iload_n hx hb dd_Out_init_30 rfl (lv_at hl 1 rfl) ?_
        refine lv_iconst (v := 2) hx hb dd_Out_init_31 kc_ic_2 ?_
        refine lv_icmp_ge (tgt := 54) hx hb dd_Out_init_32 (by decide) (fun h2 => ?_) (fun h2 => ?_)
        · have hw := hw.1 h2
          obtain ⟨h3, hw⟩ := hw
          have g4 : SL n ≤ SL n1 := SL_mono (by omega)
          have hT9 : SL n1 = SL n + 2125 := by rw [h3]; exact hSLt
          refine W.cs (show n1 - n = 208 by omega) (show SL n1 - SL n = 2125 by omega) ?_
          exact W.vret hx hb hr (fun t ht hW => ⟨⟨(n1, V), rfl, hw, by rw [ht]; exact hP, by rw [ht]; exact hz, h3, hT9⟩, hS.F ht⟩) hS.2.2 dd_Out_init_54
        · have hw := hw.2 h2
          refine lv_aload_n hx hb dd_Out_init_35 rfl (lv_at hl 0 rfl) ?_
          obtain ⟨h5, hw⟩ := hw
          obtain ⟨h6, hw⟩ := hw
          obtain ⟨h7, hw⟩ := hw
          refine fw_getV hx hb hts in_0 hown hK hP ⟨by omega, ho.2⟩ (by decide) rfl 0 (by decide) (hts _ (tb_in tw_301)) h5 dd_Out_init_36 ?_
          refine lv_iload_n hx hb dd_Out_init_39 rfl (lv_at hl 1 rfl) ?_
          obtain ⟨h8, hw⟩ := hw
          obtain ⟨h9, hw⟩ := hw
          obtain ⟨n10, e_n10⟩ : ∃ z, z = n1 + 1 := ⟨_, rfl⟩
          have s_n10 : SL n10 = SL n1 + 2 := by rw [e_n10, SL_succ, h9]; rfl
          have t_n10 : SL n10 ≤ SL (n + 208) := SL_mono (by omega)
          have g_n10 : SL n ≤ SL n1 := SL_mono (by omega)
          refine fw_newO hx hb hts in_1 F_ty_1 F_tyok_1 hown (hts _ (tb_in tw_27)) (hts _ (tb_in tw_139)) (hts _ (tb_in tw_6)) hK hP hz hS h9 (by decide) rfl (show n1 - n + 1 ≤ 208 by omega) (show SL n1 - SL n + 2 ≤ 2125 by omega) dd_Out_init_40 (fun H hP hz hS => ?_)
          have hw := hw n10 e_n10
          rw [← e_n10] at hP hz
          refine W.cs (show n1 - n + 1 = n10 - n by omega) (show SL n1 - SL n + 2 = SL n10 - SL n by omega) ?_
          obtain ⟨V11, e_V11⟩ : ∃ z, z = fw_nw V n1 (fun k => defaultValue (F_ty_1 k)) := ⟨_, rfl⟩
          rw [← e_V11] at hP
          have hw := hw V11 e_V11
          refine lv_dup hx hb dd_Out_init_43 rfl ?_
          obtain ⟨h12, hw⟩ := hw
          obtain ⟨h13, hw⟩ := hw
          have t14 : SL (n10 + 94) ≤ SL (n + 208) := SL_mono (by omega)
          have g15 : SL n ≤ SL n10 := SL_mono (by omega)
          refine fw_callV (va_runI (As := []) (rest := [.ref (b + n1), .int x1, .ref (b + (o + 1))]) ⟨hx, hb, hml, hown, hts⟩ (mv_Site_init l D cA b n10 V11 n1 ⟨by omega, h9⟩ _ hw) (cwI 0 hts (fw_g tw_142) rfl rfl rfl (hts _ (tb_in tw_6)) (hts _ (tb_in tw_140)) (hts _ (tb_in tw_141)) rfl (by decide +kernel) ⟨Nat.le_of_ble_eq_true rfl, Nat.le_of_ble_eq_true rfl⟩) (fw_preSV hP hz hK hV) rfl rfl hl.1 rfl (lv_room (Nat.le_of_ble_eq_true rfl)) dd_Out_init_44 ⟨(show n10 - n + 94 ≤ 208 by omega), (show SL n10 - SL n + 678 ≤ 2125 by omega)⟩) hS (fun n16 V17 H locs hw hP hz hS e_n16 s_n16 => ?_)
          try dsimp only at hw
          refine W.cs (show n10 - n + 94 = n16 - n by omega) (show SL n10 - SL n + 678 = SL n16 - SL n by omega) ?_
          have hw := hw e_n16
          obtain ⟨h18, hw⟩ := hw
          refine fw_aastV hx hb hK hP hS (show b ≤ b + (o + 1) by omega) ⟨by omega, h7⟩ (by decide) 3 rfl ⟨by omega, h9⟩ (by decide) rfl h18 dd_Out_init_47 (fun H locs hP hS hz9 => ?_)
          rw [← hz9] at hz
          obtain ⟨V19, e_V19⟩ : ∃ z, z = fw_up V17 (o + 1) (x1 : Int32).toNatClampNeg (.ref (b + n1)) := ⟨_, rfl⟩
          rw [← e_V19] at hP
          have hw := hw V19 e_V19
          obtain ⟨v20, e_v20⟩ : ∃ z : Int32, z = x1 + 1 := ⟨_, rfl⟩
          have hw := hw v20 e_v20
          refine lv_iinc hx hb dd_Out_init_48 hl (k := 1) rfl (show x1 + Int32.ofInt 1 = v20 by rw [kc_ii_1, e_v20]) (Nat.le_of_ble_eq_true rfl) rfl (fun ls hl => ?_)
          have hl : lv_has ls 2 [(1, .int v20), (0, .ref (b + o))] := hl
          refine lv_goto (tgt := 30) hx hb dd_Out_init_51 (by decide) ?_
          exact ih n16 V19 v20 _ _ ls (by omega) (SL_mono (by omega)) hw hP hz hS (lv_sub hl [1, 0] rfl)
  refine W.cs (show 0 = n - n by omega) (show 0 = SL n - SL n by omega) ?_
  refine lv_aload_n hx hb dd_Out_init_0 rfl (lv_at hl 0 rfl) ?_
  refine W.objInit hx hb hown (hts _ (tb_in tw_24)) (hts _ (tb_in tw_25)) (hts _ (tb_in tw_26)) rfl (hl.1.trans hml.symm) rfl dd_Out_init_1 (Nat.le_of_ble_eq_true rfl) (Nat.le_of_ble_eq_true rfl) ?_
  refine W.eq (g2 := F0 m 4 ls []) rfl ?_
  refine lv_aload_n hx hb dd_Out_init_4 rfl (lv_at hl 0 rfl) ?_
  refine lv_iconst (v := 2) hx hb dd_Out_init_5 kc_ic_2 ?_
  obtain ⟨h1, hw⟩ := hw
  obtain ⟨h2, hw⟩ := hw
  obtain ⟨n3, e_n3⟩ : ∃ z, z = n + 1 := ⟨_, rfl⟩
  have s_n3 : SL n3 = SL n + 2 := by rw [e_n3, SL_succ, h2]; rfl
  have t_n3 : SL n3 ≤ SL (n + 208) := SL_mono (by omega)
  have g_n3 : SL n ≤ SL n := SL_mono (by omega)
  refine fw_newQ hx hb hown (hts _ (tb_in tw_27)) hV.2.1 hK hP hz hS h2 (by decide) 3 rfl (by decide) (by decide) (by decide) (show n - n + 1 ≤ 208 by omega) (show SL n - SL n + 2 ≤ 2125 by omega) dd_Out_init_6 (fun H hP hz hS => ?_)
  have hw := hw n3 e_n3
  rw [← e_n3] at hP hz
  refine W.cs (show n - n + 1 = n3 - n by omega) (show SL n - SL n + 2 = SL n3 - SL n by omega) ?_
  obtain ⟨V4, e_V4⟩ : ∃ z, z = fw_nw V n (fun _ => .null) := ⟨_, rfl⟩
  rw [← e_V4] at hP
  have hw := hw V4 e_V4
  refine fw_putFV hx hb hts in_0 F_ty_0 F_tyok_0 F_nm_0 hown hK hP hS (show b ≤ b + o by omega) ⟨by omega, ho.2⟩ (by decide) rfl 0 (by decide) (hts _ (tb_in tw_301)) rfl hin rfl (ty := .array (.object "OutletOffice$Site")) (by decide +kernel) rfl rfl dd_Out_init_9 (fun H locs hP hS hz9 => ?_)
  rw [← hz9] at hz
  obtain ⟨V5, e_V5⟩ : ∃ z, z = fw_up V4 o 0 (.ref (b + n)) := ⟨_, rfl⟩
  rw [← e_V5] at hP
  have hw := hw V5 e_V5
  refine lv_aload_n hx hb dd_Out_init_12 rfl (lv_at hl 0 rfl) ?_
  obtain ⟨h6, hw⟩ := hw
  obtain ⟨h7, hw⟩ := hw
  obtain ⟨n8, e_n8⟩ : ∃ z, z = n3 + 1 := ⟨_, rfl⟩
  have s_n8 : SL n8 = SL n3 + 7 := by rw [e_n8, SL_succ, h7]; rfl
  have t_n8 : SL n8 ≤ SL (n + 208) := SL_mono (by omega)
  have g_n8 : SL n ≤ SL n3 := SL_mono (by omega)
  refine fw_newO hx hb hts in_9 F_ty_9 F_tyok_9 hown (hts _ (tb_in tw_29)) (hts _ (tb_in tw_30)) (hts _ (tb_in tw_2)) hK hP hz hS h7 (by decide) rfl (show n3 - n + 1 ≤ 208 by omega) (show SL n3 - SL n + 7 ≤ 2125 by omega) dd_Out_init_13 (fun H hP hz hS => ?_)
  have hw := hw n8 e_n8
  rw [← e_n8] at hP hz
  refine W.cs (show n3 - n + 1 = n8 - n by omega) (show SL n3 - SL n + 7 = SL n8 - SL n by omega) ?_
  obtain ⟨V9, e_V9⟩ : ∃ z, z = fw_nw V5 n3 (fun k => defaultValue (F_ty_9 k)) := ⟨_, rfl⟩
  rw [← e_V9] at hP
  have hw := hw V9 e_V9
  refine lv_dup hx hb dd_Out_init_16 rfl ?_
  obtain ⟨h10, hw⟩ := hw
  obtain ⟨h11, hw⟩ := hw
  have t12 : SL (n8 + 16) ≤ SL (n + 208) := SL_mono (by omega)
  have g13 : SL n ≤ SL n8 := SL_mono (by omega)
  refine fw_callV (va_runI (As := []) (rest := [.ref (b + n3), .ref (b + o)]) ⟨hx, hb, hml, hown, hts⟩ (mv_Office_init l D cA b n8 V9 n3 ⟨by omega, h7⟩ _ hw) (cwI 0 hts (fw_g tw_33) rfl rfl rfl (hts _ (tb_in tw_2)) (hts _ (tb_in tw_31)) (hts _ (tb_in tw_32)) rfl (by decide +kernel) ⟨Nat.le_of_ble_eq_true rfl, Nat.le_of_ble_eq_true rfl⟩) (fw_preSV hP hz hK hV) rfl rfl hl.1 rfl (lv_room (Nat.le_of_ble_eq_true rfl)) dd_Out_init_17 ⟨(show n8 - n + 16 ≤ 208 by omega), (show SL n8 - SL n + 756 ≤ 2125 by omega)⟩) hS (fun n14 V15 H locs hw hP hz hS e_n14 s_n14 => ?_)
  try dsimp only at hw
  refine W.cs (show n8 - n + 16 = n14 - n by omega) (show SL n8 - SL n + 756 = SL n14 - SL n by omega) ?_
  have hw := hw e_n14
  refine fw_putFV hx hb hts in_0 F_ty_0 F_tyok_0 F_nm_0 hown hK hP hS (show b ≤ b + o by omega) ⟨by omega, ho.2⟩ (by decide) rfl 1 (by decide) (hts _ (tb_in tw_302)) rfl hin rfl (ty := .object "OutletOffice$Office") (by decide +kernel) rfl rfl dd_Out_init_20 (fun H locs hP hS hz9 => ?_)
  rw [← hz9] at hz
  obtain ⟨V16, e_V16⟩ : ∃ z, z = fw_up V15 o 1 (.ref (b + n3)) := ⟨_, rfl⟩
  rw [← e_V16] at hP
  have hw := hw V16 e_V16
  refine lv_aload_n hx hb dd_Out_init_23 rfl (lv_at hl 0 rfl) ?_
  refine lv_iconst (v := 0) hx hb dd_Out_init_24 kc_ic_0 ?_
  refine fw_putV hx hb hts in_0 F_ty_0 F_tyok_0 F_nm_0 hown hK hP hS (show b ≤ b + o by omega) ⟨by omega, ho.2⟩ (by decide) rfl 2 (by decide) (hts _ (tb_in tw_303)) rfl (ty := .int) (by decide +kernel) rfl rfl dd_Out_init_25 (fun H locs hP hS hz9 => ?_)
  rw [← hz9] at hz
  obtain ⟨V17, e_V17⟩ : ∃ z, z = fw_up V16 o 2 (.int 0) := ⟨_, rfl⟩
  rw [← e_V17] at hP
  have hw := hw V17 e_V17
  refine lv_iconst (v := 0) hx hb dd_Out_init_28 kc_ic_0 ?_
  refine lv_istore_n hx hb dd_Out_init_29 rfl hl (Nat.le_of_ble_eq_true rfl) rfl (fun ls hl => ?_)
  have hl : lv_has ls 2 [(1, .int 0), (0, .ref (b + o))] := hl
  obtain ⟨f0, hw⟩ := hw
  exact B30 f0 n14 V17 0 _ _ ls (by omega) (SL_mono (by omega)) hw hP hz hS (lv_sub hl [1, 0] rfl)
