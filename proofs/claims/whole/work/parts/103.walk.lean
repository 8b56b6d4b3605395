theorem dd_M_copy_26 : decode bb_M_copy 26 = .ok (.iconst 0, 1) := by decide +kernel
theorem dd_M_copy_27 : decode bb_M_copy 27 = .ok (.ireturn, 1) := by decide +kernel
theorem dd_M_copy_30 : decode bb_M_copy 30 = .ok (.iload_n 2, 1) := by decide +kernel
theorem dd_M_copy_31 : decode bb_M_copy 31 = .ok (.bipush 16, 2) := by decide +kernel
theorem dd_M_copy_33 : decode bb_M_copy 33 = .ok (.if_icmp .ge 49, 3) := by decide +kernel
theorem dd_M_copy_82 : decode bb_M_copy 82 = .ok (.iconst 1, 1) := by decide +kernel
theorem dd_M_copy_83 : decode bb_M_copy 83 = .ok (.ireturn, 1) := by decide +kernel
theorem dd_M_copy_36 : decode bb_M_copy 36 = .ok (.aload_n 0, 1) := by decide +kernel
theorem dd_M_copy_37 : decode bb_M_copy 37 = .ok (.getfield 19, 3) := by decide +kernel
theorem dd_M_copy_40 : decode bb_M_copy 40 = .ok (.bipush 16, 2) := by decide +kernel
theorem dd_M_copy_42 : decode bb_M_copy 42 = .ok (.bipush 16, 2) := by decide +kernel
theorem dd_M_copy_44 : decode bb_M_copy 44 = .ok (.iload_n 1, 1) := by decide +kernel
theorem dd_M_copy_45 : decode bb_M_copy 45 = .ok (.imul, 1) := by decide +kernel
theorem dd_M_copy_46 : decode bb_M_copy 46 = .ok (.iadd, 1) := by decide +kernel
theorem dd_M_copy_47 : decode bb_M_copy 47 = .ok (.iload_n 2, 1) := by decide +kernel
theorem dd_M_copy_48 : decode bb_M_copy 48 = .ok (.iadd, 1) := by decide +kernel
theorem dd_M_copy_49 : decode bb_M_copy 49 = .ok (.aload_n 0, 1) := by decide +kernel
theorem dd_M_copy_50 : decode bb_M_copy 50 = .ok (.getfield 19, 3) := by decide +kernel
theorem dd_M_copy_53 : decode bb_M_copy 53 = .ok (.iload_n 2, 1) := by decide +kernel
theorem dd_M_copy_54 : decode bb_M_copy 54 = .ok (.iaload, 1) := by decide +kernel
theorem dd_M_copy_55 : decode bb_M_copy 55 = .ok (.iastore, 1) := by decide +kernel
theorem dd_M_copy_56 : decode bb_M_copy 56 = .ok (.aload_n 0, 1) := by decide +kernel
theorem dd_M_copy_57 : decode bb_M_copy 57 = .ok (.getfield 22, 3) := by decide +kernel
theorem dd_M_copy_60 : decode bb_M_copy 60 = .ok (.bipush 16, 2) := by decide +kernel
theorem dd_M_copy_62 : decode bb_M_copy 62 = .ok (.bipush 16, 2) := by decide +kernel
theorem dd_M_copy_64 : decode bb_M_copy 64 = .ok (.iload_n 1, 1) := by decide +kernel
theorem dd_M_copy_65 : decode bb_M_copy 65 = .ok (.imul, 1) := by decide +kernel
theorem dd_M_copy_66 : decode bb_M_copy 66 = .ok (.iadd, 1) := by decide +kernel
theorem dd_M_copy_67 : decode bb_M_copy 67 = .ok (.iload_n 2, 1) := by decide +kernel
theorem dd_M_copy_68 : decode bb_M_copy 68 = .ok (.iadd, 1) := by decide +kernel
theorem dd_M_copy_69 : decode bb_M_copy 69 = .ok (.aload_n 0, 1) := by decide +kernel
theorem dd_M_copy_70 : decode bb_M_copy 70 = .ok (.getfield 22, 3) := by decide +kernel
theorem dd_M_copy_73 : decode bb_M_copy 73 = .ok (.iload_n 2, 1) := by decide +kernel
theorem dd_M_copy_74 : decode bb_M_copy 74 = .ok (.iaload, 1) := by decide +kernel
theorem dd_M_copy_75 : decode bb_M_copy 75 = .ok (.iastore, 1) := by decide +kernel
theorem dd_M_copy_76 : decode bb_M_copy 76 = .ok (.iinc 2 1, 3) := by decide +kernel
theorem dd_M_copy_79 : decode bb_M_copy 79 = .ok (.goto (-49), 3) := by decide +kernel
theorem dd_M_copy_0 : decode bb_M_copy 0 = .ok (.aload_n 0, 1) := by decide +kernel
theorem dd_M_copy_1 : decode bb_M_copy 1 = .ok (.iload_n 1, 1) := by decide +kernel
theorem dd_M_copy_2 : decode bb_M_copy 2 = .ok (.invokevirtual 134, 3) := by decide +kernel
theorem dd_M_copy_5 : decode bb_M_copy 5 = .ok (.ifCond .ne 21, 3) := by decide +kernel
theorem dd_M_copy_8 : decode bb_M_copy 8 = .ok (.aload_n 0, 1) := by decide +kernel
theorem dd_M_copy_9 : decode bb_M_copy 9 = .ok (.getfield 25, 3) := by decide +kernel
theorem dd_M_copy_12 : decode bb_M_copy 12 = .ok (.iload_n 1, 1) := by decide +kernel
theorem dd_M_copy_13 : decode bb_M_copy 13 = .ok (.baload, 1) := by decide +kernel
theorem dd_M_copy_14 : decode bb_M_copy 14 = .ok (.ifCond .eq 12, 3) := by decide +kernel
theorem dd_M_copy_17 : decode bb_M_copy 17 = .ok (.aload_n 0, 1) := by decide +kernel
theorem dd_M_copy_18 : decode bb_M_copy 18 = .ok (.getfield 29, 3) := by decide +kernel
theorem dd_M_copy_21 : decode bb_M_copy 21 = .ok (.iload_n 1, 1) := by decide +kernel
theorem dd_M_copy_22 : decode bb_M_copy 22 = .ok (.baload, 1) := by decide +kernel
theorem dd_M_copy_23 : decode bb_M_copy 23 = .ok (.ifCond .ne 5, 3) := by decide +kernel
theorem dd_M_copy_28 : decode bb_M_copy 28 = .ok (.iconst 0, 1) := by decide +kernel
theorem dd_M_copy_29 : decode bb_M_copy 29 = .ok (.istore_n 2, 1) := by decide +kernel
def ww_M_copy : List Cond := .code yy_M_copy bb_M_copy 3 (some .boolean) :: TB
def rm_M_copy : Room := { frames := 2, cells := 0, slots := 0, locals := 43 }
def wp_M_copy_26 (o : Nat) (a1 : Int32) (post : fw_S → Int32 → Prop) (S : fw_S) : Prop := post S 0
def wp_M_copy_30 (o : Nat) (a1 : Int32) (post : fw_S → Int32 → Prop) : Nat → fw_S → Int32 → Prop
  | 0, _, _ => False
  | f + 1, S, x2 => (((16 ≤ x2) → post S 1) ∧ (¬ (16 ≤ x2) → vp_in x2 112 ∧ (vp_in ((16 + (16 * a1)) + x2) 112 ∧ (∀ S4 : fw_S, S4 = fw_si S (o + 4) (((16 + (16 * a1)) + x2 : Int32).toNatClampNeg) (S.1 (o + 4) x2.toNatClampNeg) → vp_in x2 112 ∧ (vp_in ((16 + (16 * a1)) + x2) 112 ∧ (∀ S7 : fw_S, S7 = fw_si S4 (o + 5) (((16 + (16 * a1)) + x2 : Int32).toNatClampNeg) (S4.1 (o + 5) x2.toNatClampNeg) → ∀ v8 : Int32, v8 = x2 + 1 → wp_M_copy_30 o a1 post f S7 v8))))))
def wp_M_copy (S : fw_S) (o : Nat) (a1 : Int32) (post : fw_S → Int32 → Prop) : Prop := wp_M_noPoint S o a1 (fun S1 r2 => ((¬ (r2 = 0) → wp_M_copy_26 o a1 post S1) ∧ ((r2 = 0) → vp_in a1 6 ∧ (((((S1.1 (o + 6) a1.toNatClampNeg) = 0) → wp_M_copy_26 o a1 post S1) ∧ (¬ ((S1.1 (o + 6) a1.toNatClampNeg) = 0) → vp_in a1 6 ∧ (((¬ ((S1.1 (o + 7) a1.toNatClampNeg) = 0) → ∃ f0, wp_M_copy_30 o a1 post f0 S1 0) ∧ (((S1.1 (o + 7) a1.toNatClampNeg) = 0) → wp_M_copy_26 o a1 post S1)))))))))
set_option maxHeartbeats 4000000 in
set_option maxRecDepth 100000 in
theorem mt_M_copy (l : Launch) (D : va_G) (cA : Nat → ClassId) (b : Nat) (S : fw_S) (o : Nat) (a1 : Int32) (ho : o < 245 ∧ layU o = (10, 0)) (post : fw_S → Int32 → Prop) (hw : wp_M_copy S o a1 post) : Met l yy_M_copy ww_M_copy rm_M_copy (fw_Pc D CL cA (TYS cA) TK layU b 245 S [.ref (b + o), .int a1]) (va_Qi (fun r S' => post S' r) (fw_B D CL cA TK layU b 245) (fw_A b 245)) 0 0 (fw_A b 245) := by
  refine Met.ofW (cc := bb_M_copy) (maxL := 3) (ret := (some .boolean)) (by decide) rfl ?_
  intro p e s m args below meth c s₁ B hml hv
  obtain ⟨rfl, hP, hK⟩ := hv
  have hx := B.exec
  have hb := B.bytes
  have hr := B.returns
  have hts := atoms_spec (ws := ww_M_copy) B.pre
  have hown : s.vm.findClass "OutletOfficeModel" = some m.cls := findClass_of_methodNamed B.named
  have hlocks := B.notSynchronized
  have hS : va_S (fw_A b 245) s.heap s.heap [] := va_S.rf
  have hl := lv_entry ([.ref (b + o), .int a1]) (n := 3) (Nat.le_of_ble_eq_true rfl)
  rw [lg_entry_eq]
  generalize (lg_sl ([.ref (b + o), .int a1]) ++ List.replicate (3 - (lg_sl ([.ref (b + o), .int a1])).length) Slot.unset).toArray = ls at hl ⊢
  have hl : lv_has ls 3 [(0, .ref (b + o)), (1, .int a1)] := hl
  have B26 : ∀ (S : fw_S) (H : Heap) (locs : List Loc) (ls : Array Slot), wp_M_copy_26 o a1 post S → fw_P D CL cA layU b 245 (fw_v TK layU b S) H → va_S (fw_A b 245) s.heap H locs → lv_has ls 3 [(0, .ref (b + o)), (1, .int a1)] → W p l e (headSpec ww_M_copy rm_M_copy).room s m ([.ref (b + o), .int a1] : List Value).toArray below meth c H locs 0 0 (MQ below (va_Qi (fun r S' => post S' r) (fw_B D CL cA TK layU b 245) (fw_A b 245)) ([.ref (b + o), .int a1] : List Value).toArray s 0 0 (fw_A b 245)) (F0 m 26 ls []) := by
      intro S H locs ls hw hP hS hl
      unfold wp_M_copy_26 at hw
      refine lv_iconst (v := 0) hx hb dd_M_copy_26 kc_ic_0 ?_
      exact W.zret (v := 0) hx hb hr narrow_b0 (fun t ht hW => ⟨⟨_, _, rfl, hw, fw_Bof ht hP⟩, hS.F ht⟩) hS.2.2 dd_M_copy_27
  have B30 : ∀ f : Nat, ∀ (S : fw_S) (x2 : Int32) (H : Heap) (locs : List Loc) (ls : Array Slot), wp_M_copy_30 o a1 post f S x2 → fw_P D CL cA layU b 245 (fw_v TK layU b S) H → va_S (fw_A b 245) s.heap H locs → lv_has ls 3 [(0, .ref (b + o)), (1, .int a1), (2, .int x2)] → W p l e (headSpec ww_M_copy rm_M_copy).room s m ([.ref (b + o), .int a1] : List Value).toArray below meth c H locs 0 0 (MQ below (va_Qi (fun r S' => post S' r) (fw_B D CL cA TK layU b 245) (fw_A b 245)) ([.ref (b + o), .int a1] : List Value).toArray s 0 0 (fw_A b 245)) (F0 m 30 ls []) := by
    intro f
    induction f with
    | zero => intro S x2 H locs ls hw; exact False.elim hw
    | succ f ih =>
        intro S x2 H locs ls hw hP hS hl
        unfold wp_M_copy_30 at hw
        refine lv_iload_n hx hb dd_M_copy_30 rfl (lv_at hl 2 rfl) ?_
        refine lv_bipush (v := 16) hx hb dd_M_copy_31 kc_bp_16 ?_
        refine lv_icmp_ge (tgt := 82) hx hb dd_M_copy_33 (by decide) (fun h1 => ?_) (fun h1 => ?_)
        · have hw := hw.1 h1
          refine lv_iconst (v := 1) hx hb dd_M_copy_82 kc_ic_1 ?_
          exact W.zret (v := 1) hx hb hr narrow_b1 (fun t ht hW => ⟨⟨_, _, rfl, hw, fw_Bof ht hP⟩, hS.F ht⟩) hS.2.2 dd_M_copy_83
        · have hw := hw.2 h1
          refine lv_aload_n hx hb dd_M_copy_36 rfl (lv_at hl 0 rfl) ?_
          refine fw_getr hx hb hts in_10 hown hK hP ho (by decide) rfl 7 (by decide) (hts _ (tb_in tw_788)) tk_10_7 dd_M_copy_37 ?_
          refine lv_bipush (v := 16) hx hb dd_M_copy_40 kc_bp_16 ?_
          refine lv_bipush (v := 16) hx hb dd_M_copy_42 kc_bp_16 ?_
          refine lv_iload_n hx hb dd_M_copy_44 rfl (lv_at hl 1 rfl) ?_
          refine lv_imul hx hb dd_M_copy_45 ?_
          refine lv_iadd hx hb dd_M_copy_46 ?_
          refine lv_iload_n hx hb dd_M_copy_47 rfl (lv_at hl 2 rfl) ?_
          refine lv_iadd hx hb dd_M_copy_48 ?_
          refine lv_aload_n hx hb dd_M_copy_49 rfl (lv_at hl 0 rfl) ?_
          refine fw_getr hx hb hts in_10 hown hK hP ho (by decide) rfl 7 (by decide) (hts _ (tb_in tw_788)) tk_10_7 dd_M_copy_50 ?_
          refine lv_iload_n hx hb dd_M_copy_53 rfl (lv_at hl 2 rfl) ?_
          obtain ⟨h2, hw⟩ := hw
          refine fw_iald hx hb hK hP (lf_10_7 ho) (by decide) 0 rfl tka_100 h2 dd_M_copy_54 ?_
          obtain ⟨h3, hw⟩ := hw
          refine fw_iast hx hb hK hP hS (fw_A.in (lf_10_7 ho).1) (lf_10_7 ho) (by decide) 0 rfl tka_100 h3 dd_M_copy_55 (fun H locs hP hS => ?_)
          obtain ⟨S4, e_S4⟩ : ∃ z, z = fw_si S (o + 4) (((16 + (16 * a1)) + x2 : Int32).toNatClampNeg) (S.1 (o + 4) x2.toNatClampNeg) := ⟨_, rfl⟩
          rw [← e_S4] at hP
          have hw := hw S4 e_S4
          refine lv_aload_n hx hb dd_M_copy_56 rfl (lv_at hl 0 rfl) ?_
          refine fw_getr hx hb hts in_10 hown hK hP ho (by decide) rfl 8 (by decide) (hts _ (tb_in tw_789)) tk_10_8 dd_M_copy_57 ?_
          refine lv_bipush (v := 16) hx hb dd_M_copy_60 kc_bp_16 ?_
          refine lv_bipush (v := 16) hx hb dd_M_copy_62 kc_bp_16 ?_
          refine lv_iload_n hx hb dd_M_copy_64 rfl (lv_at hl 1 rfl) ?_
          refine lv_imul hx hb dd_M_copy_65 ?_
          refine lv_iadd hx hb dd_M_copy_66 ?_
          refine lv_iload_n hx hb dd_M_copy_67 rfl (lv_at hl 2 rfl) ?_
          refine lv_iadd hx hb dd_M_copy_68 ?_
          refine lv_aload_n hx hb dd_M_copy_69 rfl (lv_at hl 0 rfl) ?_
          refine fw_getr hx hb hts in_10 hown hK hP ho (by decide) rfl 8 (by decide) (hts _ (tb_in tw_789)) tk_10_8 dd_M_copy_70 ?_
          refine lv_iload_n hx hb dd_M_copy_73 rfl (lv_at hl 2 rfl) ?_
          obtain ⟨h5, hw⟩ := hw
          refine fw_iald hx hb hK hP (lf_10_8 ho) (by decide) 0 rfl tka_100 h5 dd_M_copy_74 ?_
          obtain ⟨h6, hw⟩ := hw
          refine fw_iast hx hb hK hP hS (fw_A.in (lf_10_8 ho).1) (lf_10_8 ho) (by decide) 0 rfl tka_100 h6 dd_M_copy_75 (fun H locs hP hS => ?_)
          obtain ⟨S7, e_S7⟩ : ∃ z, z = fw_si S4 (o + 5) (((16 + (16 * a1)) + x2 : Int32).toNatClampNeg) (S4.1 (o + 5) x2.toNatClampNeg) := ⟨_, rfl⟩
          rw [← e_S7] at hP
          have hw := hw S7 e_S7
          obtain ⟨v8, e_v8⟩ : ∃ z : Int32, z = x2 + 1 := ⟨_, rfl⟩
          have hw := hw v8 e_v8
          refine lv_iinc hx hb dd_M_copy_76 hl (k := 2) rfl (show x2 + Int32.ofInt 1 = v8 by rw [kc_ii_1, e_v8]) (Nat.le_of_ble_eq_true rfl) rfl (fun ls hl => ?_)
          have hl : lv_has ls 3 [(2, .int v8), (0, .ref (b + o)), (1, .int a1)] := hl
          refine lv_goto (tgt := 30) hx hb dd_M_copy_79 (by decide) ?_
          exact ih S7 v8 _ _ ls hw hP hS (lv_sub hl [1, 2, 0] rfl)
  unfold wp_M_copy at hw
  refine lv_aload_n hx hb dd_M_copy_0 rfl (lv_at hl 0 rfl) ?_
  refine lv_iload_n hx hb dd_M_copy_1 rfl (lv_at hl 1 rfl) ?_
  refine fw_calli (va_runV (As := [.int a1]) (rest := []) ⟨hx, hb, hml, hown, hts⟩ (mt_M_noPoint l D cA b S o a1 ho _ hw) (cwV 1 hts (fw_gV tw_935 tw_932 tw_934 ts_14 tw_11) rfl rfl rfl (by decide +kernel) ⟨Nat.le_of_ble_eq_true rfl, Nat.le_of_ble_eq_true rfl⟩) (fw_preV hP hK ho (by decide) rfl) rfl rfl hl.1 rfl (lv_room (Nat.le_of_ble_eq_true rfl)) dd_M_copy_2 ⟨Nat.le_of_ble_eq_true rfl, Nat.le_of_ble_eq_true rfl⟩) hS (fun S1 r2 H locs hw hP hS => ?_)
  try dsimp only at hw
  refine lv_if_ne (tgt := 26) hx hb dd_M_copy_5 (by decide) (fun h3 => ?_) (fun h3 => ?_)
  · have hw := hw.1 h3
    exact B26 S1 _ _ ls hw hP hS (lv_sub hl [0, 1] rfl)
  · have hw := hw.2 h3
    refine lv_aload_n hx hb dd_M_copy_8 rfl (lv_at hl 0 rfl) ?_
    refine fw_getr hx hb hts in_10 hown hK hP ho (by decide) rfl 9 (by decide) (hts _ (tb_in tw_790)) tk_10_9 dd_M_copy_9 ?_
    refine lv_iload_n hx hb dd_M_copy_12 rfl (lv_at hl 1 rfl) ?_
    obtain ⟨h4, hw⟩ := hw
    refine fw_zald hx hb hK hP (lf_10_9 ho) (by decide) 2 rfl tka_102 h4 dd_M_copy_13 ?_
    refine lv_if_eq (tgt := 26) hx hb dd_M_copy_14 (by decide) (fun h5 => ?_) (fun h5 => ?_)
    · have hw := hw.1 h5
      exact B26 S1 _ _ ls hw hP hS (lv_sub hl [0, 1] rfl)
    · have hw := hw.2 h5
      refine lv_aload_n hx hb dd_M_copy_17 rfl (lv_at hl 0 rfl) ?_
      refine fw_getr hx hb hts in_10 hown hK hP ho (by decide) rfl 10 (by decide) (hts _ (tb_in tw_791)) tk_10_10 dd_M_copy_18 ?_
      refine lv_iload_n hx hb dd_M_copy_21 rfl (lv_at hl 1 rfl) ?_
      obtain ⟨h6, hw⟩ := hw
      refine fw_zald hx hb hK hP (lf_10_10 ho) (by decide) 2 rfl tka_102 h6 dd_M_copy_22 ?_
      refine lv_if_ne (tgt := 28) hx hb dd_M_copy_23 (by decide) (fun h7 => ?_) (fun h7 => ?_)
      · have hw := hw.1 h7
        refine lv_iconst (v := 0) hx hb dd_M_copy_28 kc_ic_0 ?_
        refine lv_istore_n hx hb dd_M_copy_29 rfl hl (Nat.le_of_ble_eq_true rfl) rfl (fun ls hl => ?_)
        have hl : lv_has ls 3 [(2, .int 0), (0, .ref (b + o)), (1, .int a1)] := hl
        obtain ⟨f0, hw⟩ := hw
        exact B30 f0 S1 0 _ _ ls hw hP hS (lv_sub hl [1, 2, 0] rfl)
      · have hw := hw.2 h7
        exact B26 S1 _ _ ls hw hP hS (lv_sub hl [0, 1] rfl)
theorem dd_M_list_20 : decode bb_M_list 20 = .ok (.ireturn, 1) := by decide +kernel
theorem dd_M_list_0 : decode bb_M_list 0 = .ok (.aload_n 0, 1) := by decide +kernel
theorem dd_M_list_1 : decode bb_M_list 1 = .ok (.getfield 29, 3) := by decide +kernel
theorem dd_M_list_4 : decode bb_M_list 4 = .ok (.iload_n 1, 1) := by decide +kernel
theorem dd_M_list_5 : decode bb_M_list 5 = .ok (.baload, 1) := by decide +kernel
theorem dd_M_list_6 : decode bb_M_list 6 = .ok (.ifCond .eq 7, 3) := by decide +kernel
theorem dd_M_list_13 : decode bb_M_list 13 = .ok (.bipush 16, 2) := by decide +kernel
theorem dd_M_list_15 : decode bb_M_list 15 = .ok (.bipush 16, 2) := by decide +kernel
theorem dd_M_list_17 : decode bb_M_list 17 = .ok (.iload_n 1, 1) := by decide +kernel
theorem dd_M_list_18 : decode bb_M_list 18 = .ok (.imul, 1) := by decide +kernel
theorem dd_M_list_19 : decode bb_M_list 19 = .ok (.iadd, 1) := by decide +kernel
theorem dd_M_list_9 : decode bb_M_list 9 = .ok (.iconst 0, 1) := by decide +kernel
theorem dd_M_list_10 : decode bb_M_list 10 = .ok (.goto 10, 3) := by decide +kernel
def ww_M_list : List Cond := .code yy_M_list bb_M_list 2 (some .int) :: TB
def rm_M_list : Room := { frames := 0, cells := 0, slots := 0, locals := 0 }
def wp_M_list_20 (o : Nat) (a1 : Int32) (post : fw_S → Int32 → Prop) (S : fw_S) (p0 : Int32) : Prop := post S p0
def wp_M_list (S : fw_S) (o : Nat) (a1 : Int32) (post : fw_S → Int32 → Prop) : Prop := vp_in a1 6 ∧ (((((S.1 (o + 7) a1.toNatClampNeg) = 0) → wp_M_list_20 o a1 post S (16 + (16 * a1))) ∧ (¬ ((S.1 (o + 7) a1.toNatClampNeg) = 0) → wp_M_list_20 o a1 post S 0)))
set_option maxHeartbeats 4000000 in
set_option maxRecDepth 100000 in
theorem mt_M_list (l : Launch) (D : va_G) (cA : Nat → ClassId) (b : Nat) (S : fw_S) (o : Nat) (a1 : Int32) (ho : o < 245 ∧ layU o = (10, 0)) (post : fw_S → Int32 → Prop) (hw : wp_M_list S o a1 post) : Met l yy_M_list ww_M_list rm_M_list (fw_Pc D CL cA (TYS cA) TK layU b 245 S [.ref (b + o), .int a1]) (va_Qi (fun r S' => post S' r) (fw_B D CL cA TK layU b 245) (fw_A b 245)) 0 0 (fw_A b 245) := by
  refine Met.ofW (cc := bb_M_list) (maxL := 2) (ret := (some .int)) (by decide) rfl ?_
  intro p e s m args below meth c s₁ B hml hv
  obtain ⟨rfl, hP, hK⟩ := hv
  have hx := B.exec
  have hb := B.bytes
  have hr := B.returns
  have hts := atoms_spec (ws := ww_M_list) B.pre
  have hown : s.vm.findClass "OutletOfficeModel" = some m.cls := findClass_of_methodNamed B.named
  have hlocks := B.notSynchronized
  have hS : va_S (fw_A b 245) s.heap s.heap [] := va_S.rf
  have hl := lv_entry ([.ref (b + o), .int a1]) (n := 2) (Nat.le_of_ble_eq_true rfl)
  rw [lg_entry_eq]
  generalize (lg_sl ([.ref (b + o), .int a1]) ++ List.replicate (2 - (lg_sl ([.ref (b + o), .int a1])).length) Slot.unset).toArray = ls at hl ⊢
  have hl : lv_has ls 2 [(0, .ref (b + o)), (1, .int a1)] := hl
  have B20 : ∀ (S : fw_S) (p0 : Int32) (ls : Array Slot), wp_M_list_20 o a1 post S p0 → fw_P D CL cA layU b 245 (fw_v TK layU b S) s.heap → va_S (fw_A b 245) s.heap s.heap [] → lv_has ls 2 [(0, .ref (b + o)), (1, .int a1)] → W p l e (headSpec ww_M_list rm_M_list).room s m ([.ref (b + o), .int a1] : List Value).toArray below meth c s.heap [] 0 0 (MQ below (va_Qi (fun r S' => post S' r) (fw_B D CL cA TK layU b 245) (fw_A b 245)) ([.ref (b + o), .int a1] : List Value).toArray s 0 0 (fw_A b 245)) (F0 m 20 ls [.int p0]) := by
      intro S p0 ls hw hP hS hl
      unfold wp_M_list_20 at hw
      exact W.iret (v := p0) hx hb hr (fun t ht hW => ⟨⟨_, _, rfl, hw, fw_Bof ht hP⟩, hS.F ht⟩) hS.2.2 dd_M_list_20
  unfold wp_M_list at hw
  refine lv_aload_n hx hb dd_M_list_0 rfl (lv_at hl 0 rfl) ?_
  refine fw_getr hx hb hts in_10 hown hK hP ho (by decide) rfl 10 (by decide) (hts _ (tb_in tw_791)) tk_10_10 dd_M_list_1 ?_
  refine lv_iload_n hx hb dd_M_list_4 rfl (lv_at hl 1 rfl) ?_
  obtain ⟨h1, hw⟩ := hw
  refine fw_zald hx hb hK hP (lf_10_10 ho) (by decide) 2 rfl tka_102 h1 dd_M_list_5 ?_
  refine lv_if_eq (tgt := 13) hx hb dd_M_list_6 (by decide) (fun h2 => ?_) (fun h2 => ?_)
  · have hw := hw.1 h2
    refine lv_bipush (v := 16) hx hb dd_M_list_13 kc_bp_16 ?_
    refine lv_bipush (v := 16) hx hb dd_M_list_15 kc_bp_16 ?_
    refine lv_iload_n hx hb dd_M_list_17 rfl (lv_at hl 1 rfl) ?_
    refine lv_imul hx hb dd_M_list_18 ?_
    refine lv_iadd hx hb dd_M_list_19 ?_
    exact B20 S (16 + (16 * a1)) ls hw hP hS (lv_sub hl [0, 1] rfl)
  · have hw := hw.2 h2
    refine lv_iconst (v := 0) hx hb dd_M_list_9 kc_ic_0 ?_
    refine lv_goto (tgt := 20) hx hb dd_M_list_10 (by decide) ?_
    exact B20 S 0 ls hw hP hS (lv_sub hl [0, 1] rfl)
theorem dd_M_car_36 : decode bb_M_car 36 = .ok (.iconst 0, 1) := by decide +kernel
theorem dd_M_car_37 : decode bb_M_car 37 = .ok (.istore 5, 2) := by decide +kernel
theorem dd_M_car_39 : decode bb_M_car 39 = .ok (.aload_n 0, 1) := by decide +kernel
theorem dd_M_car_40 : decode bb_M_car 40 = .ok (.iload_n 1, 1) := by decide +kernel
theorem dd_M_car_41 : decode bb_M_car 41 = .ok (.iconst 0, 1) := by decide +kernel
theorem dd_M_car_42 : decode bb_M_car 42 = .ok (.iconst 5, 1) := by decide +kernel
theorem dd_M_car_43 : decode bb_M_car 43 = .ok (.invokestatic 118, 3) := by decide +kernel
theorem dd_M_car_46 : decode bb_M_car 46 = .ok (.ifCond .ne 7, 3) := by decide +kernel
theorem dd_M_car_53 : decode bb_M_car 53 = .ok (.iload 5, 2) := by decide +kernel
theorem dd_M_car_55 : decode bb_M_car 55 = .ok (.ifCond .eq 7, 3) := by decide +kernel
theorem dd_M_car_62 : decode bb_M_car 62 = .ok (.iconst 2, 1) := by decide +kernel
theorem dd_M_car_58 : decode bb_M_car 58 = .ok (.iconst 0, 1) := by decide +kernel
theorem dd_M_car_59 : decode bb_M_car 59 = .ok (.goto 4, 3) := by decide +kernel
theorem dd_M_car_49 : decode bb_M_car 49 = .ok (.iconst 1, 1) := by decide +kernel
theorem dd_M_car_50 : decode bb_M_car 50 = .ok (.goto 13, 3) := by decide +kernel
theorem dd_M_car_63 : decode bb_M_car 63 = .ok (.putfield 114, 3) := by decide +kernel
theorem dd_M_car_66 : decode bb_M_car 66 = .ok (.aload_n 0, 1) := by decide +kernel
theorem dd_M_car_67 : decode bb_M_car 67 = .ok (.getfield 114, 3) := by decide +kernel
theorem dd_M_car_70 : decode bb_M_car 70 = .ok (.ifCond .gt 12, 3) := by decide +kernel
theorem dd_M_car_73 : decode bb_M_car 73 = .ok (.aload_n 0, 1) := by decide +kernel
theorem dd_M_car_74 : decode bb_M_car 74 = .ok (.getfield 63, 3) := by decide +kernel
theorem dd_M_car_77 : decode bb_M_car 77 = .ok (.iload_n 1, 1) := by decide +kernel
theorem dd_M_car_78 : decode bb_M_car 78 = .ok (.baload, 1) := by decide +kernel
theorem dd_M_car_79 : decode bb_M_car 79 = .ok (.ifCond .eq 5, 3) := by decide +kernel
theorem dd_M_car_84 : decode bb_M_car 84 = .ok (.aload_n 0, 1) := by decide +kernel
theorem dd_M_car_85 : decode bb_M_car 85 = .ok (.iconst 0, 1) := by decide +kernel
theorem dd_M_car_86 : decode bb_M_car 86 = .ok (.putfield 122, 3) := by decide +kernel
theorem dd_M_car_89 : decode bb_M_car 89 = .ok (.aload_n 0, 1) := by decide +kernel
theorem dd_M_car_90 : decode bb_M_car 90 = .ok (.getfield 63, 3) := by decide +kernel
theorem dd_M_car_93 : decode bb_M_car 93 = .ok (.iload_n 1, 1) := by decide +kernel
theorem dd_M_car_94 : decode bb_M_car 94 = .ok (.iconst 1, 1) := by decide +kernel
theorem dd_M_car_95 : decode bb_M_car 95 = .ok (.bastore, 1) := by decide +kernel
theorem dd_M_car_96 : decode bb_M_car 96 = .ok (.aload_n 0, 1) := by decide +kernel
theorem dd_M_car_97 : decode bb_M_car 97 = .ok (.getfield 66, 3) := by decide +kernel
theorem dd_M_car_100 : decode bb_M_car 100 = .ok (.iload_n 1, 1) := by decide +kernel
theorem dd_M_car_101 : decode bb_M_car 101 = .ok (.iload_n 2, 1) := by decide +kernel
theorem dd_M_car_102 : decode bb_M_car 102 = .ok (.iastore, 1) := by decide +kernel
theorem dd_M_car_103 : decode bb_M_car 103 = .ok (.aload_n 0, 1) := by decide +kernel
theorem dd_M_car_104 : decode bb_M_car 104 = .ok (.getfield 69, 3) := by decide +kernel
theorem dd_M_car_107 : decode bb_M_car 107 = .ok (.iload_n 1, 1) := by decide +kernel
theorem dd_M_car_108 : decode bb_M_car 108 = .ok (.iload_n 3, 1) := by decide +kernel
theorem dd_M_car_109 : decode bb_M_car 109 = .ok (.iastore, 1) := by decide +kernel
theorem dd_M_car_110 : decode bb_M_car 110 = .ok (.aload_n 0, 1) := by decide +kernel
theorem dd_M_car_111 : decode bb_M_car 111 = .ok (.getfield 72, 3) := by decide +kernel
theorem dd_M_car_114 : decode bb_M_car 114 = .ok (.iload_n 1, 1) := by decide +kernel
theorem dd_M_car_115 : decode bb_M_car 115 = .ok (.ldc2_w 138, 3) := by decide +kernel
theorem dd_M_car_118 : decode bb_M_car 118 = .ok (.iload 4, 2) := by decide +kernel
theorem dd_M_car_120 : decode bb_M_car 120 = .ok (.i2l, 1) := by decide +kernel
theorem dd_M_car_121 : decode bb_M_car 121 = .ok (.lmul, 1) := by decide +kernel
theorem dd_M_car_122 : decode bb_M_car 122 = .ok (.lastore, 1) := by decide +kernel
theorem dd_M_car_123 : decode bb_M_car 123 = .ok (.aload_n 0, 1) := by decide +kernel
theorem dd_M_car_124 : decode bb_M_car 124 = .ok (.getfield 75, 3) := by decide +kernel
theorem dd_M_car_127 : decode bb_M_car 127 = .ok (.iload_n 1, 1) := by decide +kernel
theorem dd_M_car_128 : decode bb_M_car 128 = .ok (.iconst 0, 1) := by decide +kernel
theorem dd_M_car_129 : decode bb_M_car 129 = .ok (.bastore, 1) := by decide +kernel
theorem dd_M_car_130 : decode bb_M_car 130 = .ok (.iconst 1, 1) := by decide +kernel
theorem dd_M_car_131 : decode bb_M_car 131 = .ok (.ireturn, 1) := by decide +kernel
theorem dd_M_car_82 : decode bb_M_car 82 = .ok (.iconst 0, 1) := by decide +kernel
theorem dd_M_car_83 : decode bb_M_car 83 = .ok (.ireturn, 1) := by decide +kernel
theorem dd_M_car_0 : decode bb_M_car 0 = .ok (.iload_n 2, 1) := by decide +kernel
theorem dd_M_car_1 : decode bb_M_car 1 = .ok (.iconst 0, 1) := by decide +kernel
theorem dd_M_car_2 : decode bb_M_car 2 = .ok (.sipush 320, 3) := by decide +kernel
theorem dd_M_car_5 : decode bb_M_car 5 = .ok (.invokestatic 118, 3) := by decide +kernel
theorem dd_M_car_8 : decode bb_M_car 8 = .ok (.ifCond .eq 28, 3) := by decide +kernel
theorem dd_M_car_11 : decode bb_M_car 11 = .ok (.iload_n 3, 1) := by decide +kernel
theorem dd_M_car_12 : decode bb_M_car 12 = .ok (.iconst 1, 1) := by decide +kernel
theorem dd_M_car_13 : decode bb_M_car 13 = .ok (.bipush 9, 2) := by decide +kernel
theorem dd_M_car_15 : decode bb_M_car 15 = .ok (.invokestatic 118, 3) := by decide +kernel
theorem dd_M_car_18 : decode bb_M_car 18 = .ok (.ifCond .eq 18, 3) := by decide +kernel
theorem dd_M_car_21 : decode bb_M_car 21 = .ok (.iload 4, 2) := by decide +kernel
theorem dd_M_car_23 : decode bb_M_car 23 = .ok (.iconst 1, 1) := by decide +kernel
theorem dd_M_car_24 : decode bb_M_car 24 = .ok (.ldc 126, 2) := by decide +kernel
theorem dd_M_car_26 : decode bb_M_car 26 = .ok (.invokestatic 118, 3) := by decide +kernel
theorem dd_M_car_29 : decode bb_M_car 29 = .ok (.ifCond .eq 7, 3) := by decide +kernel
theorem dd_M_car_32 : decode bb_M_car 32 = .ok (.iconst 1, 1) := by decide +kernel
theorem dd_M_car_33 : decode bb_M_car 33 = .ok (.goto 4, 3) := by decide +kernel
def ww_M_car : List Cond := .code yy_M_car bb_M_car 6 (some .boolean) :: TB
def rm_M_car : Room := { frames := 1, cells := 0, slots := 0, locals := 22 }
def wp_M_car_82 (o : Nat) (a1 : Int32) (a2 : Int32) (a3 : Int32) (a4 : Int32) (post : fw_S → Int32 → Prop) (S : fw_S) (x5 : Int32) : Prop := post S 0
def wp_M_car_63 (o : Nat) (a1 : Int32) (a2 : Int32) (a3 : Int32) (a4 : Int32) (post : fw_S → Int32 → Prop) (S : fw_S) (x5 : Int32) (p0 : Int32) : Prop := ∀ S1 : fw_S, S1 = fw_si S o 0 p0 → ((((0 : Int32) < (S1.1 o 0)) → wp_M_car_82 o a1 a2 a3 a4 post S1 x5) ∧ (¬ ((0 : Int32) < (S1.1 o 0)) → vp_in a1 6 ∧ (((((S1.1 (o + 18) a1.toNatClampNeg) = 0) → ∀ S5 : fw_S, S5 = fw_si S1 o 39 0 → vp_in a1 6 ∧ (∀ S7 : fw_S, S7 = fw_si S5 (o + 18) a1.toNatClampNeg (fw_z 1) → vp_in a1 6 ∧ (∀ S9 : fw_S, S9 = fw_si S7 (o + 19) a1.toNatClampNeg a2 → vp_in a1 6 ∧ (∀ S11 : fw_S, S11 = fw_si S9 (o + 20) a1.toNatClampNeg a3 → vp_in a1 6 ∧ (∀ S13 : fw_S, S13 = fw_sl S11 (o + 21) a1.toNatClampNeg (3600 * a4.toInt64) → vp_in a1 6 ∧ (∀ S15 : fw_S, S15 = fw_si S13 (o + 22) a1.toNatClampNeg (fw_z 0) → post S15 1)))))) ∧ (¬ ((S1.1 (o + 18) a1.toNatClampNeg) = 0) → wp_M_car_82 o a1 a2 a3 a4 post S1 x5)))))
def wp_M_car_37 (o : Nat) (a1 : Int32) (a2 : Int32) (a3 : Int32) (a4 : Int32) (post : fw_S → Int32 → Prop) (S : fw_S) (p0 : Int32) : Prop := wp_M_isIn S a1 0 5 (fun S1 r2 => ((¬ (r2 = 0) → (((p0 = 0) → wp_M_car_63 o a1 a2 a3 a4 post S1 p0 2) ∧ (¬ (p0 = 0) → wp_M_car_63 o a1 a2 a3 a4 post S1 p0 0))) ∧ ((r2 = 0) → wp_M_car_63 o a1 a2 a3 a4 post S1 p0 1)))
def wp_M_car_36 (o : Nat) (a1 : Int32) (a2 : Int32) (a3 : Int32) (a4 : Int32) (post : fw_S → Int32 → Prop) (S : fw_S) : Prop := wp_M_car_37 o a1 a2 a3 a4 post S 0
def wp_M_car (S : fw_S) (o : Nat) (a1 : Int32) (a2 : Int32) (a3 : Int32) (a4 : Int32) (post : fw_S → Int32 → Prop) : Prop := wp_M_isIn S a2 0 320 (fun S1 r2 => (((r2 = 0) → wp_M_car_36 o a1 a2 a3 a4 post S1) ∧ (¬ (r2 = 0) → wp_M_isIn S1 a3 1 9 (fun S4 r5 => (((r5 = 0) → wp_M_car_36 o a1 a2 a3 a4 post S4) ∧ (¬ (r5 = 0) → wp_M_isIn S4 a4 1 100000 (fun S7 r8 => (((r8 = 0) → wp_M_car_36 o a1 a2 a3 a4 post S7) ∧ (¬ (r8 = 0) → wp_M_car_37 o a1 a2 a3 a4 post S7 1)))))))))
set_option maxHeartbeats 4000000 in
set_option maxRecDepth 100000 in
theorem mt_M_car (l : Launch) (D : va_G) (cA : Nat → ClassId) (b : Nat) (S : fw_S) (o : Nat) (a1 : Int32) (a2 : Int32) (a3 : Int32) (a4 : Int32) (ho : o < 245 ∧ layU o = (10, 0)) (post : fw_S → Int32 → Prop) (hw : wp_M_car S o a1 a2 a3 a4 post) : Met l yy_M_car ww_M_car rm_M_car (fw_Pc D CL cA (TYS cA) TK layU b 245 S [.ref (b + o), .int a1, .int a2, .int a3, .int a4]) (va_Qi (fun r S' => post S' r) (fw_B D CL cA TK layU b 245) (fw_A b 245)) 0 0 (fw_A b 245) := by
  refine Met.ofW (cc := bb_M_car) (maxL := 6) (ret := (some .boolean)) (by decide) rfl ?_
  intro p e s m args below meth c s₁ B hml hv
  obtain ⟨rfl, hP, hK⟩ := hv
  have hx := B.exec
  have hb := B.bytes
  have hr := B.returns
  have hts := atoms_spec (ws := ww_M_car) B.pre
  have hown : s.vm.findClass "OutletOfficeModel" = some m.cls := findClass_of_methodNamed B.named
  have hlocks := B.notSynchronized
  have hS : va_S (fw_A b 245) s.heap s.heap [] := va_S.rf
  have hl := lv_entry ([.ref (b + o), .int a1, .int a2, .int a3, .int a4]) (n := 6) (Nat.le_of_ble_eq_true rfl)
  rw [lg_entry_eq]
  generalize (lg_sl ([.ref (b + o), .int a1, .int a2, .int a3, .int a4]) ++ List.replicate (6 - (lg_sl ([.ref (b + o), .int a1, .int a2, .int a3, .int a4])).length) Slot.unset).toArray = ls at hl ⊢
  have hl : lv_has ls 6 [(0, .ref (b + o)), (1, .int a1), (2, .int a2), (3, .int a3), (4, .int a4)] := hl
  have B82 : ∀ (S : fw_S) (x5 : Int32) (H : Heap) (locs : List Loc) (ls : Array Slot), wp_M_car_82 o a1 a2 a3 a4 post S x5 → fw_P D CL cA layU b 245 (fw_v TK layU b S) H → va_S (fw_A b 245) s.heap H locs → lv_has ls 6 [(0, .ref (b + o)), (1, .int a1), (2, .int a2), (3, .int a3), (4, .int a4), (5, .int x5)] → W p l e (headSpec ww_M_car rm_M_car).room s m ([.ref (b + o), .int a1, .int a2, .int a3, .int a4] : List Value).toArray below meth c H locs 0 0 (MQ below (va_Qi (fun r S' => post S' r) (fw_B D CL cA TK layU b 245) (fw_A b 245)) ([.ref (b + o), .int a1, .int a2, .int a3, .int a4] : List Value).toArray s 0 0 (fw_A b 245)) (F0 m 82 ls []) := by
      intro S x5 H locs ls hw hP hS hl
      unfold wp_M_car_82 at hw
      refine lv_iconst (v := 0) hx hb dd_M_car_82 kc_ic_0 ?_
      exact W.zret (v := 0) hx hb hr narrow_b0 (fun t ht hW => ⟨⟨_, _, rfl, hw, fw_Bof ht hP⟩, hS.F ht⟩) hS.2.2 dd_M_car_83
  have B63 : ∀ (S : fw_S) (x5 : Int32) (p0 : Int32) (H : Heap) (locs : List Loc) (ls : Array Slot), wp_M_car_63 o a1 a2 a3 a4 post S x5 p0 → fw_P D CL cA layU b 245 (fw_v TK layU b S) H → va_S (fw_A b 245) s.heap H locs → lv_has ls 6 [(0, .ref (b + o)), (1, .int a1), (2, .int a2), (3, .int a3), (4, .int a4), (5, .int x5)] → W p l e (headSpec ww_M_car rm_M_car).room s m ([.ref (b + o), .int a1, .int a2, .int a3, .int a4] : List Value).toArray below meth c H locs 0 0 (MQ below (va_Qi (fun r S' => post S' r) (fw_B D CL cA TK layU b 245) (fw_A b 245)) ([.ref (b + o), .int a1, .int a2, .int a3, .int a4] : List Value).toArray s 0 0 (fw_A b 245)) (F0 m 63 ls [.int p0, .ref (b + o)]) := by
      intro S x5 p0 H locs ls hw hP hS hl
      unfold wp_M_car_63 at hw
      refine fw_puti hx hb hts in_10 F_ty_10 F_tyok_10 F_nm_10 hown hK hP hS (fw_A.in ho.1) ho (by decide) rfl 0 (by decide) (hts _ (tb_in tw_781)) rfl tk_10_0 (ty := .int) (by decide +kernel) rfl rfl dd_M_car_63 (fun H locs hP hS => ?_)
      obtain ⟨S1, e_S1⟩ : ∃ z, z = fw_si S o 0 p0 := ⟨_, rfl⟩
      rw [← e_S1] at hP
      have hw := hw S1 e_S1
      refine lv_aload_n hx hb dd_M_car_66 rfl (lv_at hl 0 rfl) ?_
      refine fw_geti hx hb hts in_10 hown hK hP ho (by decide) rfl 0 (by decide) (hts _ (tb_in tw_781)) tk_10_0 dd_M_car_67 ?_
      refine lv_if_gt (tgt := 82) hx hb dd_M_car_70 (by decide) (fun h2 => ?_) (fun h2 => ?_)
      · have hw := hw.1 h2
        exact B82 S1 x5 _ _ ls hw hP hS (lv_sub hl [0, 1, 2, 3, 4, 5] rfl)
      · have hw := hw.2 h2
        refine lv_aload_n hx hb dd_M_car_73 rfl (lv_at hl 0 rfl) ?_
        refine fw_getr hx hb hts in_10 hown hK hP ho (by decide) rfl 21 (by decide) (hts _ (tb_in tw_802)) tk_10_21 dd_M_car_74 ?_
        refine lv_iload_n hx hb dd_M_car_77 rfl (lv_at hl 1 rfl) ?_
        obtain ⟨h3, hw⟩ := hw
        refine fw_zald hx hb hK hP (lf_10_21 ho) (by decide) 2 rfl tka_102 h3 dd_M_car_78 ?_
        refine lv_if_eq (tgt := 84) hx hb dd_M_car_79 (by decide) (fun h4 => ?_) (fun h4 => ?_)
        · have hw := hw.1 h4
          refine lv_aload_n hx hb dd_M_car_84 rfl (lv_at hl 0 rfl) ?_
          refine lv_iconst (v := 0) hx hb dd_M_car_85 kc_ic_0 ?_
          refine fw_puti hx hb hts in_10 F_ty_10 F_tyok_10 F_nm_10 hown hK hP hS (fw_A.in ho.1) ho (by decide) rfl 39 (by decide) (hts _ (tb_in tw_820)) rfl tk_10_39 (ty := .boolean) (by decide +kernel) rfl rfl dd_M_car_86 (fun H locs hP hS => ?_)
          obtain ⟨S5, e_S5⟩ : ∃ z, z = fw_si S1 o 39 0 := ⟨_, rfl⟩
          rw [← e_S5] at hP
          have hw := hw S5 e_S5
          refine lv_aload_n hx hb dd_M_car_89 rfl (lv_at hl 0 rfl) ?_
          refine fw_getr hx hb hts in_10 hown hK hP ho (by decide) rfl 21 (by decide) (hts _ (tb_in tw_802)) tk_10_21 dd_M_car_90 ?_
          refine lv_iload_n hx hb dd_M_car_93 rfl (lv_at hl 1 rfl) ?_
          refine lv_iconst (v := 1) hx hb dd_M_car_94 kc_ic_1 ?_
          obtain ⟨h6, hw⟩ := hw
          refine fw_zast hx hb hK hP hS (fw_A.in (lf_10_21 ho).1) (lf_10_21 ho) (by decide) 2 rfl tka_102 h6 dd_M_car_95 (fun H locs hP hS => ?_)
          obtain ⟨S7, e_S7⟩ : ∃ z, z = fw_si S5 (o + 18) a1.toNatClampNeg (fw_z 1) := ⟨_, rfl⟩
          rw [← e_S7] at hP
          have hw := hw S7 e_S7
          refine lv_aload_n hx hb dd_M_car_96 rfl (lv_at hl 0 rfl) ?_
          refine fw_getr hx hb hts in_10 hown hK hP ho (by decide) rfl 22 (by decide) (hts _ (tb_in tw_803)) tk_10_22 dd_M_car_97 ?_
          refine lv_iload_n hx hb dd_M_car_100 rfl (lv_at hl 1 rfl) ?_
          refine lv_iload_n hx hb dd_M_car_101 rfl (lv_at hl 2 rfl) ?_
          obtain ⟨h8, hw⟩ := hw
          refine fw_iast hx hb hK hP hS (fw_A.in (lf_10_22 ho).1) (lf_10_22 ho) (by decide) 0 rfl tka_100 h8 dd_M_car_102 (fun H locs hP hS => ?_)
          obtain ⟨S9, e_S9⟩ : ∃ z, z = fw_si S7 (o + 19) a1.toNatClampNeg a2 := ⟨_, rfl⟩
          rw [← e_S9] at hP
          have hw := hw S9 e_S9
          refine lv_aload_n hx hb dd_M_car_103 rfl (lv_at hl 0 rfl) ?_
          refine fw_getr hx hb hts in_10 hown hK hP ho (by decide) rfl 23 (by decide) (hts _ (tb_in tw_804)) tk_10_23 dd_M_car_104 ?_
          refine lv_iload_n hx hb dd_M_car_107 rfl (lv_at hl 1 rfl) ?_
          refine lv_iload_n hx hb dd_M_car_108 rfl (lv_at hl 3 rfl) ?_
          obtain ⟨h10, hw⟩ := hw
          refine fw_iast hx hb hK hP hS (fw_A.in (lf_10_23 ho).1) (lf_10_23 ho) (by decide) 0 rfl tka_100 h10 dd_M_car_109 (fun H locs hP hS => ?_)
          obtain ⟨S11, e_S11⟩ : ∃ z, z = fw_si S9 (o + 20) a1.toNatClampNeg a3 := ⟨_, rfl⟩
          rw [← e_S11] at hP
          have hw := hw S11 e_S11
          refine lv_aload_n hx hb dd_M_car_110 rfl (lv_at hl 0 rfl) ?_
          refine fw_getr hx hb hts in_10 hown hK hP ho (by decide) rfl 24 (by decide) (hts _ (tb_in tw_805)) tk_10_24 dd_M_car_111 ?_
          refine lv_iload_n hx hb dd_M_car_114 rfl (lv_at hl 1 rfl) ?_
          refine lv_ldc2 (v := 3600) hx hb hown (hts _ (tb_in tw_940)) dd_M_car_115 ?_
          refine lv_iload hx hb dd_M_car_118 (lv_at hl 4 rfl) ?_
          refine lv_i2l hx hb dd_M_car_120 rfl ?_
          refine lv_lmul hx hb dd_M_car_121 ?_
          obtain ⟨h12, hw⟩ := hw
          refine fw_last hx hb hK hP hS (fw_A.in (lf_10_24 ho).1) (lf_10_24 ho) (by decide) 1 rfl tka_101 h12 dd_M_car_122 (fun H locs hP hS => ?_)
          obtain ⟨S13, e_S13⟩ : ∃ z, z = fw_sl S11 (o + 21) a1.toNatClampNeg (3600 * a4.toInt64) := ⟨_, rfl⟩
          rw [← e_S13] at hP
          have hw := hw S13 e_S13
          refine lv_aload_n hx hb dd_M_car_123 rfl (lv_at hl 0 rfl) ?_
          refine fw_getr hx hb hts in_10 hown hK hP ho (by decide) rfl 25 (by decide) (hts _ (tb_in tw_806)) tk_10_25 dd_M_car_124 ?_
          refine lv_iload_n hx hb dd_M_car_127 rfl (lv_at hl 1 rfl) ?_
          refine lv_iconst (v := 0) hx hb dd_M_car_128 kc_ic_0 ?_
          obtain ⟨h14, hw⟩ := hw
          refine fw_zast hx hb hK hP hS (fw_A.in (lf_10_25 ho).1) (lf_10_25 ho) (by decide) 2 rfl tka_102 h14 dd_M_car_129 (fun H locs hP hS => ?_)
          obtain ⟨S15, e_S15⟩ : ∃ z, z = fw_si S13 (o + 22) a1.toNatClampNeg (fw_z 0) := ⟨_, rfl⟩
          rw [← e_S15] at hP
          have hw := hw S15 e_S15
          refine lv_iconst (v := 1) hx hb dd_M_car_130 kc_ic_1 ?_
          exact W.zret (v := 1) hx hb hr narrow_b1 (fun t ht hW => ⟨⟨_, _, rfl, hw, fw_Bof ht hP⟩, hS.F ht⟩) hS.2.2 dd_M_car_131
        · have hw := hw.2 h4
          exact B82 S1 x5 _ _ ls hw hP hS (lv_sub hl [0, 1, 2, 3, 4, 5] rfl)
  have B37 : ∀ (S : fw_S) (p0 : Int32) (H : Heap) (locs : List Loc) (ls : Array Slot), wp_M_car_37 o a1 a2 a3 a4 post S p0 → fw_P D CL cA layU b 245 (fw_v TK layU b S) H → va_S (fw_A b 245) s.heap H locs → lv_has ls 6 [(0, .ref (b + o)), (1, .int a1), (2, .int a2), (3, .int a3), (4, .int a4)] → W p l e (headSpec ww_M_car rm_M_car).room s m ([.ref (b + o), .int a1, .int a2, .int a3, .int a4] : List Value).toArray below meth c H locs 0 0 (MQ below (va_Qi (fun r S' => post S' r) (fw_B D CL cA TK layU b 245) (fw_A b 245)) ([.ref (b + o), .int a1, .int a2, .int a3, .int a4] : List Value).toArray s 0 0 (fw_A b 245)) (F0 m 37 ls [.int p0]) := by
      intro S p0 H locs ls hw hP hS hl
      unfold wp_M_car_37 at hw
      refine lv_istore hx hb dd_M_car_37 hl (Nat.le_of_ble_eq_true rfl) rfl (fun ls hl => ?_)
      have hl : lv_has ls 6 [(5, .int p0), (0, .ref (b + o)), (1, .int a1), (2, .int a2), (3, .int a3), (4, .int a4)] := hl
      refine lv_aload_n hx hb dd_M_car_39 rfl (lv_at hl 1 rfl) ?_
      refine lv_iload_n hx hb dd_M_car_40 rfl (lv_at hl 2 rfl) ?_
      refine lv_iconst (v := 0) hx hb dd_M_car_41 kc_ic_0 ?_
      refine lv_iconst (v := 5) hx hb dd_M_car_42 kc_ic_5 ?_
      refine fw_calli (va_runS (As := [.int a1, .int 0, .int 5]) (rest := [.ref (b + o)]) ⟨hx, hb, hml, hown, hts⟩ (mt_M_isIn l D cA b S a1 0 5 _ hw) (cwS 3 hts (fw_gS tw_913 tw_911 tw_912 tw_11) rfl rfl rfl (by decide +kernel) ⟨Nat.le_of_ble_eq_true rfl, Nat.le_of_ble_eq_true rfl⟩) (fw_preS hP hK) rfl rfl hl.1 rfl (lv_room (Nat.le_of_ble_eq_true rfl)) dd_M_car_43 ⟨Nat.le_of_ble_eq_true rfl, Nat.le_of_ble_eq_true rfl⟩) hS (fun S1 r2 H locs hw hP hS => ?_)
      try dsimp only at hw
      refine lv_if_ne (tgt := 53) hx hb dd_M_car_46 (by decide) (fun h3 => ?_) (fun h3 => ?_)
      · have hw := hw.1 h3
        refine lv_iload hx hb dd_M_car_53 (lv_at hl 0 rfl) ?_
        refine lv_if_eq (tgt := 62) hx hb dd_M_car_55 (by decide) (fun h4 => ?_) (fun h4 => ?_)
        · have hw := hw.1 h4
          refine lv_iconst (v := 2) hx hb dd_M_car_62 kc_ic_2 ?_
          exact B63 S1 p0 2 _ _ ls hw hP hS (lv_sub hl [1, 2, 3, 4, 5, 0] rfl)
        · have hw := hw.2 h4
          refine lv_iconst (v := 0) hx hb dd_M_car_58 kc_ic_0 ?_
          refine lv_goto (tgt := 63) hx hb dd_M_car_59 (by decide) ?_
          exact B63 S1 p0 0 _ _ ls hw hP hS (lv_sub hl [1, 2, 3, 4, 5, 0] rfl)
      · have hw := hw.2 h3
        refine lv_iconst (v := 1) hx hb dd_M_car_49 kc_ic_1 ?_
        refine lv_goto (tgt := 63) hx hb dd_M_car_50 (by decide) ?_
        exact B63 S1 p0 1 _ _ ls hw hP hS (lv_sub hl [1, 2, 3, 4, 5, 0] rfl)
  have B36 : ∀ (S : fw_S) (H : Heap) (locs : List Loc) (ls : Array Slot), wp_M_car_36 o a1 a2 a3 a4 post S → fw_P D CL cA layU b 245 (fw_v TK layU b S) H → va_S (fw_A b 245) s.heap H locs → lv_has ls 6 [(0, .ref (b + o)), (1, .int a1), (2, .int a2), (3, .int a3), (4, .int a4)] → W p l e (headSpec ww_M_car rm_M_car).room s m ([.ref (b + o), .int a1, .int a2, .int a3, .int a4] : List Value).toArray below meth c H locs 0 0 (MQ below (va_Qi (fun r S' => post S' r) (fw_B D CL cA TK layU b 245) (fw_A b 245)) ([.ref (b + o), .int a1, .int a2, .int a3, .int a4] : List Value).toArray s 0 0 (fw_A b 245)) (F0 m 36 ls []) := by
      intro S H locs ls hw hP hS hl
      unfold wp_M_car_36 at hw
      refine lv_iconst (v := 0) hx hb dd_M_car_36 kc_ic_0 ?_
      exact B37 S 0 _ _ ls hw hP hS (lv_sub hl [0, 1, 2, 3, 4] rfl)
  unfold wp_M_car at hw
  refine lv_iload_n hx hb dd_M_car_0 rfl (lv_at hl 2 rfl) ?_
  refine lv_iconst (v := 0) hx hb dd_M_car_1 kc_ic_0 ?_
  refine lv_sipush (v := 320) hx hb dd_M_car_2 kc_sp_320 ?_
  refine fw_calli (va_runS (As := [.int a2, .int 0, .int 320]) (rest := []) ⟨hx, hb, hml, hown, hts⟩ (mt_M_isIn l D cA b S a2 0 320 _ hw) (cwS 3 hts (fw_gS tw_913 tw_911 tw_912 tw_11) rfl rfl rfl (by decide +kernel) ⟨Nat.le_of_ble_eq_true rfl, Nat.le_of_ble_eq_true rfl⟩) (fw_preS hP hK) rfl rfl hl.1 rfl (lv_room (Nat.le_of_ble_eq_true rfl)) dd_M_car_5 ⟨Nat.le_of_ble_eq_true rfl, Nat.le_of_ble_eq_true rfl⟩) hS (fun S1 r2 H locs hw hP hS => ?_)
  try dsimp only at hw
  refine lv_if_eq (tgt := 36) hx hb dd_M_car_8 (by decide) (fun h3 => ?_) (fun h3 => ?_)
  · have hw := hw.1 h3
    exact B36 S1 _ _ ls hw hP hS (lv_sub hl [0, 1, 2, 3, 4] rfl)
  · have hw := hw.2 h3
    refine lv_iload_n hx hb dd_M_car_11 rfl (lv_at hl 3 rfl) ?_
    refine lv_iconst (v := 1) hx hb dd_M_car_12 kc_ic_1 ?_
    refine lv_bipush (v := 9) hx hb dd_M_car_13 kc_bp_9 ?_
    refine fw_calli (va_runS (As := [.int a3, .int 1, .int 9]) (rest := []) ⟨hx, hb, hml, hown, hts⟩ (mt_M_isIn l D cA b S1 a3 1 9 _ hw) (cwS 3 hts (fw_gS tw_913 tw_911 tw_912 tw_11) rfl rfl rfl (by decide +kernel) ⟨Nat.le_of_ble_eq_true rfl, Nat.le_of_ble_eq_true rfl⟩) (fw_preS hP hK) rfl rfl hl.1 rfl (lv_room (Nat.le_of_ble_eq_true rfl)) dd_M_car_15 ⟨Nat.le_of_ble_eq_true rfl, Nat.le_of_ble_eq_true rfl⟩) hS (fun S4 r5 H locs hw hP hS => ?_)
    try dsimp only at hw
    refine lv_if_eq (tgt := 36) hx hb dd_M_car_18 (by decide) (fun h6 => ?_) (fun h6 => ?_)
    · have hw := hw.1 h6
      exact B36 S4 _ _ ls hw hP hS (lv_sub hl [0, 1, 2, 3, 4] rfl)
    · have hw := hw.2 h6
      refine lv_iload hx hb dd_M_car_21 (lv_at hl 4 rfl) ?_
      refine lv_iconst (v := 1) hx hb dd_M_car_23 kc_ic_1 ?_
      refine lv_ldc (v := 100000) hx hb hown (hts _ (tb_in tw_918)) dd_M_car_24 ?_
      refine fw_calli (va_runS (As := [.int a4, .int 1, .int 100000]) (rest := []) ⟨hx, hb, hml, hown, hts⟩ (mt_M_isIn l D cA b S4 a4 1 100000 _ hw) (cwS 3 hts (fw_gS tw_913 tw_911 tw_912 tw_11) rfl rfl rfl (by decide +kernel) ⟨Nat.le_of_ble_eq_true rfl, Nat.le_of_ble_eq_true rfl⟩) (fw_preS hP hK) rfl rfl hl.1 rfl (lv_room (Nat.le_of_ble_eq_true rfl)) dd_M_car_26 ⟨Nat.le_of_ble_eq_true rfl, Nat.le_of_ble_eq_true rfl⟩) hS (fun S7 r8 H locs hw hP hS => ?_)
      try dsimp only at hw
      refine lv_if_eq (tgt := 36) hx hb dd_M_car_29 (by decide) (fun h9 => ?_) (fun h9 => ?_)
      · have hw := hw.1 h9
        exact B36 S7 _ _ ls hw hP hS (lv_sub hl [0, 1, 2, 3, 4] rfl)
      · have hw := hw.2 h9
        refine lv_iconst (v := 1) hx hb dd_M_car_32 kc_ic_1 ?_
        refine lv_goto (tgt := 37) hx hb dd_M_car_33 (by decide) ?_
        exact B37 S7 1 _ _ ls hw hP hS (lv_sub hl [0, 1, 2, 3, 4] rfl)
theorem dd_M_want_30 : decode bb_M_want 30 = .ok (.putfield 114, 3) := by decide +kernel
theorem dd_M_want_33 : decode bb_M_want 33 = .ok (.aload_n 0, 1) := by decide +kernel
theorem dd_M_want_34 : decode bb_M_want 34 = .ok (.getfield 114, 3) := by decide +kernel
theorem dd_M_want_37 : decode bb_M_want 37 = .ok (.ifCond .gt 21, 3) := by decide +kernel
theorem dd_M_want_40 : decode bb_M_want 40 = .ok (.aload_n 0, 1) := by decide +kernel
theorem dd_M_want_41 : decode bb_M_want 41 = .ok (.getfield 63, 3) := by decide +kernel
theorem dd_M_want_44 : decode bb_M_want 44 = .ok (.iload_n 1, 1) := by decide +kernel
theorem dd_M_want_45 : decode bb_M_want 45 = .ok (.baload, 1) := by decide +kernel
theorem dd_M_want_46 : decode bb_M_want 46 = .ok (.ifCond .eq 12, 3) := by decide +kernel
theorem dd_M_want_49 : decode bb_M_want 49 = .ok (.aload_n 0, 1) := by decide +kernel
theorem dd_M_want_50 : decode bb_M_want 50 = .ok (.getfield 75, 3) := by decide +kernel
theorem dd_M_want_53 : decode bb_M_want 53 = .ok (.iload_n 1, 1) := by decide +kernel
theorem dd_M_want_54 : decode bb_M_want 54 = .ok (.baload, 1) := by decide +kernel
theorem dd_M_want_55 : decode bb_M_want 55 = .ok (.ifCond .eq 5, 3) := by decide +kernel
theorem dd_M_want_60 : decode bb_M_want 60 = .ok (.aload_n 0, 1) := by decide +kernel
theorem dd_M_want_61 : decode bb_M_want 61 = .ok (.iconst 0, 1) := by decide +kernel
theorem dd_M_want_62 : decode bb_M_want 62 = .ok (.putfield 122, 3) := by decide +kernel
theorem dd_M_want_65 : decode bb_M_want 65 = .ok (.aload_n 0, 1) := by decide +kernel
theorem dd_M_want_66 : decode bb_M_want 66 = .ok (.getfield 66, 3) := by decide +kernel
theorem dd_M_want_69 : decode bb_M_want 69 = .ok (.iload_n 1, 1) := by decide +kernel
theorem dd_M_want_70 : decode bb_M_want 70 = .ok (.iload_n 2, 1) := by decide +kernel
theorem dd_M_want_71 : decode bb_M_want 71 = .ok (.iastore, 1) := by decide +kernel
theorem dd_M_want_72 : decode bb_M_want 72 = .ok (.iconst 1, 1) := by decide +kernel
theorem dd_M_want_73 : decode bb_M_want 73 = .ok (.ireturn, 1) := by decide +kernel
theorem dd_M_want_58 : decode bb_M_want 58 = .ok (.iconst 0, 1) := by decide +kernel
theorem dd_M_want_59 : decode bb_M_want 59 = .ok (.ireturn, 1) := by decide +kernel
theorem dd_M_want_0 : decode bb_M_want 0 = .ok (.aload_n 0, 1) := by decide +kernel
theorem dd_M_want_1 : decode bb_M_want 1 = .ok (.iload_n 1, 1) := by decide +kernel
theorem dd_M_want_2 : decode bb_M_want 2 = .ok (.iconst 0, 1) := by decide +kernel
theorem dd_M_want_3 : decode bb_M_want 3 = .ok (.iconst 5, 1) := by decide +kernel
theorem dd_M_want_4 : decode bb_M_want 4 = .ok (.invokestatic 118, 3) := by decide +kernel
theorem dd_M_want_7 : decode bb_M_want 7 = .ok (.ifCond .ne 7, 3) := by decide +kernel
theorem dd_M_want_14 : decode bb_M_want 14 = .ok (.iload_n 2, 1) := by decide +kernel
theorem dd_M_want_15 : decode bb_M_want 15 = .ok (.iconst 0, 1) := by decide +kernel
theorem dd_M_want_16 : decode bb_M_want 16 = .ok (.sipush 320, 3) := by decide +kernel
theorem dd_M_want_19 : decode bb_M_want 19 = .ok (.invokestatic 118, 3) := by decide +kernel
theorem dd_M_want_22 : decode bb_M_want 22 = .ok (.ifCond .eq 7, 3) := by decide +kernel
theorem dd_M_want_29 : decode bb_M_want 29 = .ok (.iconst 2, 1) := by decide +kernel
theorem dd_M_want_25 : decode bb_M_want 25 = .ok (.iconst 0, 1) := by decide +kernel
theorem dd_M_want_26 : decode bb_M_want 26 = .ok (.goto 4, 3) := by decide +kernel
theorem dd_M_want_10 : decode bb_M_want 10 = .ok (.iconst 1, 1) := by decide +kernel
theorem dd_M_want_11 : decode bb_M_want 11 = .ok (.goto 19, 3) := by decide +kernel
def ww_M_want : List Cond := .code yy_M_want bb_M_want 3 (some .boolean) :: TB
def rm_M_want : Room := { frames := 1, cells := 0, slots := 0, locals := 22 }
def wp_M_want_58 (o : Nat) (a1 : Int32) (a2 : Int32) (post : fw_S → Int32 → Prop) (S : fw_S) : Prop := post S 0
def wp_M_want_30 (o : Nat) (a1 : Int32) (a2 : Int32) (post : fw_S → Int32 → Prop) (S : fw_S) (p0 : Int32) : Prop := ∀ S1 : fw_S, S1 = fw_si S o 0 p0 → ((((0 : Int32) < (S1.1 o 0)) → wp_M_want_58 o a1 a2 post S1) ∧ (¬ ((0 : Int32) < (S1.1 o 0)) → vp_in a1 6 ∧ (((((S1.1 (o + 18) a1.toNatClampNeg) = 0) → wp_M_want_58 o a1 a2 post S1) ∧ (¬ ((S1.1 (o + 18) a1.toNatClampNeg) = 0) → vp_in a1 6 ∧ (((((S1.1 (o + 22) a1.toNatClampNeg) = 0) → ∀ S7 : fw_S, S7 = fw_si S1 o 39 0 → vp_in a1 6 ∧ (∀ S9 : fw_S, S9 = fw_si S7 (o + 19) a1.toNatClampNeg a2 → post S9 1)) ∧ (¬ ((S1.1 (o + 22) a1.toNatClampNeg) = 0) → wp_M_want_58 o a1 a2 post S1))))))))
def wp_M_want (S : fw_S) (o : Nat) (a1 : Int32) (a2 : Int32) (post : fw_S → Int32 → Prop) : Prop := wp_M_isIn S a1 0 5 (fun S1 r2 => ((¬ (r2 = 0) → wp_M_isIn S1 a2 0 320 (fun S4 r5 => (((r5 = 0) → wp_M_want_30 o a1 a2 post S4 2) ∧ (¬ (r5 = 0) → wp_M_want_30 o a1 a2 post S4 0)))) ∧ ((r2 = 0) → wp_M_want_30 o a1 a2 post S1 1)))
set_option maxHeartbeats 4000000 in
set_option maxRecDepth 100000 in
theorem mt_M_want (l : Launch) (D : va_G) (cA : Nat → ClassId) (b : Nat) (S : fw_S) (o : Nat) (a1 : Int32) (a2 : Int32) (ho : o < 245 ∧ layU o = (10, 0)) (post : fw_S → Int32 → Prop) (hw : wp_M_want S o a1 a2 post) : Met l yy_M_want ww_M_want rm_M_want (fw_Pc D CL cA (TYS cA) TK layU b 245 S [.ref (b + o), .int a1, .int a2]) (va_Qi (fun r S' => post S' r) (fw_B D CL cA TK layU b 245) (fw_A b 245)) 0 0 (fw_A b 245) := by
  refine Met.ofW (cc := bb_M_want) (maxL := 3) (ret := (some .boolean)) (by decide) rfl ?_
  intro p e s m args below meth c s₁ B hml hv
  obtain ⟨rfl, hP, hK⟩ := hv
  have hx := B.exec
  have hb := B.bytes
  have hr := B.returns
  have hts := atoms_spec (ws := ww_M_want) B.pre
  have hown : s.vm.findClass "OutletOfficeModel" = some m.cls := findClass_of_methodNamed B.named
  have hlocks := B.notSynchronized
  have hS : va_S (fw_A b 245) s.heap s.heap [] := va_S.rf
  have hl := lv_entry ([.ref (b + o), .int a1, .int a2]) (n := 3) (Nat.le_of_ble_eq_true rfl)
  rw [lg_entry_eq]
  generalize (lg_sl ([.ref (b + o), .int a1, .int a2]) ++ List.replicate (3 - (lg_sl ([.ref (b + o), .int a1, .int a2])).length) Slot.unset).toArray = ls at hl ⊢
  have hl : lv_has ls 3 [(0, .ref (b + o)), (1, .int a1), (2, .int a2)] := hl
  have B58 : ∀ (S : fw_S) (H : Heap) (locs : List Loc) (ls : Array Slot), wp_M_want_58 o a1 a2 post S → fw_P D CL cA layU b 245 (fw_v TK layU b S) H → va_S (fw_A b 245) s.heap H locs → lv_has ls 3 [(0, .ref (b + o)), (1, .int a1), (2, .int a2)] → W p l e (headSpec ww_M_want rm_M_want).room s m ([.ref (b + o), .int a1, .int a2] : List Value).toArray below meth c H locs 0 0 (MQ below (va_Qi (fun r S' => post S' r) (fw_B D CL cA TK layU b 245) (fw_A b 245)) ([.ref (b + o), .int a1, .int a2] : List Value).toArray s 0 0 (fw_A b 245)) (F0 m 58 ls []) := by
      intro S H locs ls hw hP hS hl
      unfold wp_M_want_58 at hw
      refine lv_iconst (v := 0) hx hb dd_M_want_58 kc_ic_0 ?_
      exact W.zret (v := 0) hx hb hr narrow_b0 (fun t ht hW => ⟨⟨_, _, rfl, hw, fw_Bof ht hP⟩, hS.F ht⟩) hS.2.2 dd_M_want_59
  have B30 : ∀ (S : fw_S) (p0 : Int32) (H : Heap) (locs : List Loc) (ls : Array Slot), wp_M_want_30 o a1 a2 post S p0 → fw_P D CL cA layU b 245 (fw_v TK layU b S) H → va_S (fw_A b 245) s.heap H locs → lv_has ls 3 [(0, .ref (b + o)), (1, .int a1), (2, .int a2)] → W p l e (headSpec ww_M_want rm_M_want).room s m ([.ref (b + o), .int a1, .int a2] : List Value).toArray below meth c H locs 0 0 (MQ below (va_Qi (fun r S' => post S' r) (fw_B D CL cA TK layU b 245) (fw_A b 245)) ([.ref (b + o), .int a1, .int a2] : List Value).toArray s 0 0 (fw_A b 245)) (F0 m 30 ls [.int p0, .ref (b + o)]) := by
      intro S p0 H locs ls hw hP hS hl
      unfold wp_M_want_30 at hw
      refine fw_puti hx hb hts in_10 F_ty_10 F_tyok_10 F_nm_10 hown hK hP hS (fw_A.in ho.1) ho (by decide) rfl 0 (by decide) (hts _ (tb_in tw_781)) rfl tk_10_0 (ty := .int) (by decide +kernel) rfl rfl dd_M_want_30 (fun H locs hP hS => ?_)
      obtain ⟨S1, e_S1⟩ : ∃ z, z = fw_si S o 0 p0 := ⟨_, rfl⟩
      rw [← e_S1] at hP
      have hw := hw S1 e_S1
      refine lv_aload_n hx hb dd_M_want_33 rfl (lv_at hl 0 rfl) ?_
      refine fw_geti hx hb hts in_10 hown hK hP ho (by decide) rfl 0 (by decide) (hts _ (tb_in tw_781)) tk_10_0 dd_M_want_34 ?_
      refine lv_if_gt (tgt := 58) hx hb dd_M_want_37 (by decide) (fun h2 => ?_) (fun h2 => ?_)
      · have hw := hw.1 h2
        exact B58 S1 _ _ ls hw hP hS (lv_sub hl [0, 1, 2] rfl)
      · have hw := hw.2 h2
        refine lv_aload_n hx hb dd_M_want_40 rfl (lv_at hl 0 rfl) ?_
        refine fw_getr hx hb hts in_10 hown hK hP ho (by decide) rfl 21 (by decide) (hts _ (tb_in tw_802)) tk_10_21 dd_M_want_41 ?_
        refine lv_iload_n hx hb dd_M_want_44 rfl (lv_at hl 1 rfl) ?_
        obtain ⟨h3, hw⟩ := hw
        refine fw_zald hx hb hK hP (lf_10_21 ho) (by decide) 2 rfl tka_102 h3 dd_M_want_45 ?_
        refine lv_if_eq (tgt := 58) hx hb dd_M_want_46 (by decide) (fun h4 => ?_) (fun h4 => ?_)
        · have hw := hw.1 h4
          exact B58 S1 _ _ ls hw hP hS (lv_sub hl [0, 1, 2] rfl)
        · have hw := hw.2 h4
          refine lv_aload_n hx hb dd_M_want_49 rfl (lv_at hl 0 rfl) ?_
          refine fw_getr hx hb hts in_10 hown hK hP ho (by decide) rfl 25 (by decide) (hts _ (tb_in tw_806)) tk_10_25 dd_M_want_50 ?_
          refine lv_iload_n hx hb dd_M_want_53 rfl (lv_at hl 1 rfl) ?_
          obtain ⟨h5, hw⟩ := hw
          refine fw_zald hx hb hK hP (lf_10_25 ho) (by decide) 2 rfl tka_102 h5 dd_M_want_54 ?_
          refine lv_if_eq (tgt := 60) hx hb dd_M_want_55 (by decide) (fun h6 => ?_) (fun h6 => ?_)
          · have hw := hw.1 h6
            refine lv_aload_n hx hb dd_M_want_60 rfl (lv_at hl 0 rfl) ?_
            refine lv_iconst (v := 0) hx hb dd_M_want_61 kc_ic_0 ?_
            refine fw_puti hx hb hts in_10 F_ty_10 F_tyok_10 F_nm_10 hown hK hP hS (fw_A.in ho.1) ho (by decide) rfl 39 (by decide) (hts _ (tb_in tw_820)) rfl tk_10_39 (ty := .boolean) (by decide +kernel) rfl rfl dd_M_want_62 (fun H locs hP hS => ?_)
            obtain ⟨S7, e_S7⟩ : ∃ z, z = fw_si S1 o 39 0 := ⟨_, rfl⟩
            rw [← e_S7] at hP
            have hw := hw S7 e_S7
            refine lv_aload_n hx hb dd_M_want_65 rfl (lv_at hl 0 rfl) ?_
            refine fw_getr hx hb hts in_10 hown hK hP ho (by decide) rfl 22 (by decide) (hts _ (tb_in tw_803)) tk_10_22 dd_M_want_66 ?_
            refine lv_iload_n hx hb dd_M_want_69 rfl (lv_at hl 1 rfl) ?_
            refine lv_iload_n hx hb dd_M_want_70 rfl (lv_at hl 2 rfl) ?_
            obtain ⟨h8, hw⟩ := hw
            refine fw_iast hx hb hK hP hS (fw_A.in (lf_10_22 ho).1) (lf_10_22 ho) (by decide) 0 rfl tka_100 h8 dd_M_want_71 (fun H locs hP hS => ?_)
            obtain ⟨S9, e_S9⟩ : ∃ z, z = fw_si S7 (o + 19) a1.toNatClampNeg a2 := ⟨_, rfl⟩
            rw [← e_S9] at hP
            have hw := hw S9 e_S9
            refine lv_iconst (v := 1) hx hb dd_M_want_72 kc_ic_1 ?_
            exact W.zret (v := 1) hx hb hr narrow_b1 (fun t ht hW => ⟨⟨_, _, rfl, hw, fw_Bof ht hP⟩, hS.F ht⟩) hS.2.2 dd_M_want_73
          · have hw := hw.2 h6
            exact B58 S1 _ _ ls hw hP hS (lv_sub hl [0, 1, 2] rfl)
  unfold wp_M_want at hw
  refine lv_aload_n hx hb dd_M_want_0 rfl (lv_at hl 0 rfl) ?_
  refine lv_iload_n hx hb dd_M_want_1 rfl (lv_at hl 1 rfl) ?_
  refine lv_iconst (v := 0) hx hb dd_M_want_2 kc_ic_0 ?_
  refine lv_iconst (v := 5) hx hb dd_M_want_3 kc_ic_5 ?_
  refine fw_calli (va_runS (As := [.int a1, .int 0, .int 5]) (rest := [.ref (b + o)]) ⟨hx, hb, hml, hown, hts⟩ (mt_M_isIn l D cA b S a1 0 5 _ hw) (cwS 3 hts (fw_gS tw_913 tw_911 tw_912 tw_11) rfl rfl rfl (by decide +kernel) ⟨Nat.le_of_ble_eq_true rfl, Nat.le_of_ble_eq_true rfl⟩) (fw_preS hP hK) rfl rfl hl.1 rfl (lv_room (Nat.le_of_ble_eq_true rfl)) dd_M_want_4 ⟨Nat.le_of_ble_eq_true rfl, Nat.le_of_ble_eq_true rfl⟩) hS (fun S1 r2 H locs hw hP hS => ?_)
  try dsimp only at hw
  refine lv_if_ne (tgt := 14) hx hb dd_M_want_7 (by decide) (fun h3 => ?_) (fun h3 => ?_)
  · have hw := hw.1 h3
    refine lv_iload_n hx hb dd_M_want_14 rfl (lv_at hl 2 rfl) ?_
    refine lv_iconst (v := 0) hx hb dd_M_want_15 kc_ic_0 ?_
    refine lv_sipush (v := 320) hx hb dd_M_want_16 kc_sp_320 ?_
    refine fw_calli (va_runS (As := [.int a2, .int 0, .int 320]) (rest := [.ref (b + o)]) ⟨hx, hb, hml, hown, hts⟩ (mt_M_isIn l D cA b S1 a2 0 320 _ hw) (cwS 3 hts (fw_gS tw_913 tw_911 tw_912 tw_11) rfl rfl rfl (by decide +kernel) ⟨Nat.le_of_ble_eq_true rfl, Nat.le_of_ble_eq_true rfl⟩) (fw_preS hP hK) rfl rfl hl.1 rfl (lv_room (Nat.le_of_ble_eq_true rfl)) dd_M_want_19 ⟨Nat.le_of_ble_eq_true rfl, Nat.le_of_ble_eq_true rfl⟩) hS (fun S4 r5 H locs hw hP hS => ?_)
    try dsimp only at hw
    refine lv_if_eq (tgt := 29) hx hb dd_M_want_22 (by decide) (fun h6 => ?_) (fun h6 => ?_)
    · have hw := hw.1 h6
      refine lv_iconst (v := 2) hx hb dd_M_want_29 kc_ic_2 ?_
      exact B30 S4 2 _ _ ls hw hP hS (lv_sub hl [0, 1, 2] rfl)
    · have hw := hw.2 h6
      refine lv_iconst (v := 0) hx hb dd_M_want_25 kc_ic_0 ?_
      refine lv_goto (tgt := 30) hx hb dd_M_want_26 (by decide) ?_
      exact B30 S4 0 _ _ ls hw hP hS (lv_sub hl [0, 1, 2] rfl)
  · have hw := hw.2 h3
    refine lv_iconst (v := 1) hx hb dd_M_want_10 kc_ic_1 ?_
    refine lv_goto (tgt := 30) hx hb dd_M_want_11 (by decide) ?_
    exact B30 S1 1 _ _ ls hw hP hS (lv_sub hl [0, 1, 2] rfl)
theorem dd_M_runs_22 : decode bb_M_runs 22 = .ok (.iconst 0, 1) := by decide +kernel
theorem dd_M_runs_23 : decode bb_M_runs 23 = .ok (.ireturn, 1) := by decide +kernel
theorem dd_M_runs_0 : decode bb_M_runs 0 = .ok (.aload_n 0, 1) := by decide +kernel
theorem dd_M_runs_1 : decode bb_M_runs 1 = .ok (.getfield 36, 3) := by decide +kernel
theorem dd_M_runs_4 : decode bb_M_runs 4 = .ok (.iload_n 1, 1) := by decide +kernel
theorem dd_M_runs_5 : decode bb_M_runs 5 = .ok (.iaload, 1) := by decide +kernel
theorem dd_M_runs_6 : decode bb_M_runs 6 = .ok (.ifCond .le 16, 3) := by decide +kernel
theorem dd_M_runs_9 : decode bb_M_runs 9 = .ok (.aload_n 0, 1) := by decide +kernel
theorem dd_M_runs_10 : decode bb_M_runs 10 = .ok (.getfield 25, 3) := by decide +kernel
theorem dd_M_runs_13 : decode bb_M_runs 13 = .ok (.iload_n 1, 1) := by decide +kernel
theorem dd_M_runs_14 : decode bb_M_runs 14 = .ok (.baload, 1) := by decide +kernel
theorem dd_M_runs_15 : decode bb_M_runs 15 = .ok (.ifCond .eq 7, 3) := by decide +kernel
theorem dd_M_runs_18 : decode bb_M_runs 18 = .ok (.iconst 1, 1) := by decide +kernel
theorem dd_M_runs_19 : decode bb_M_runs 19 = .ok (.goto 4, 3) := by decide +kernel
def ww_M_runs : List Cond := .code yy_M_runs bb_M_runs 2 (some .boolean) :: TB
def rm_M_runs : Room := { frames := 0, cells := 0, slots := 0, locals := 0 }
def wp_M_runs_23 (o : Nat) (a1 : Int32) (post : fw_S → Int32 → Prop) (S : fw_S) (p0 : Int32) : Prop := fw_bz p0 ∧ (post S p0)
def wp_M_runs_22 (o : Nat) (a1 : Int32) (post : fw_S → Int32 → Prop) (S : fw_S) : Prop := wp_M_runs_23 o a1 post S 0
def wp_M_runs (S : fw_S) (o : Nat) (a1 : Int32) (post : fw_S → Int32 → Prop) : Prop := vp_in a1 6 ∧ (((((S.1 (o + 9) a1.toNatClampNeg) ≤ 0) → wp_M_runs_22 o a1 post S) ∧ (¬ ((S.1 (o + 9) a1.toNatClampNeg) ≤ 0) → vp_in a1 6 ∧ (((((S.1 (o + 6) a1.toNatClampNeg) = 0) → wp_M_runs_22 o a1 post S) ∧ (¬ ((S.1 (o + 6) a1.toNatClampNeg) = 0) → wp_M_runs_23 o a1 post S 1))))))
set_option maxHeartbeats 4000000 in
set_option maxRecDepth 100000 in
theorem mt_M_runs (l : Launch) (D : va_G) (cA : Nat → ClassId) (b : Nat) (S : fw_S) (o : Nat) (a1 : Int32) (ho : o < 245 ∧ layU o = (10, 0)) (post : fw_S → Int32 → Prop) (hw : wp_M_runs S o a1 post) : Met l yy_M_runs ww_M_runs rm_M_runs (fw_Pc D CL cA (TYS cA) TK layU b 245 S [.ref (b + o), .int a1]) (va_Qi (fun r S' => post S' r) (fw_B D CL cA TK layU b 245) (fw_A b 245)) 0 0 (fw_A b 245) := by
  refine Met.ofW (cc := bb_M_runs) (maxL := 2) (ret := (some .boolean)) (by decide) rfl ?_
  intro p e s m args below meth c s₁ B hml hv
  obtain ⟨rfl, hP, hK⟩ := hv
  have hx := B.exec
  have hb := B.bytes
  have hr := B.returns
  have hts := atoms_spec (ws := ww_M_runs) B.pre
  have hown : s.vm.findClass "OutletOfficeModel" = some m.cls := findClass_of_methodNamed B.named
  have hlocks := B.notSynchronized
  have hS : va_S (fw_A b 245) s.heap s.heap [] := va_S.rf
  have hl := lv_entry ([.ref (b + o), .int a1]) (n := 2) (Nat.le_of_ble_eq_true rfl)
  rw [lg_entry_eq]
  generalize (lg_sl ([.ref (b + o), .int a1]) ++ List.replicate (2 - (lg_sl ([.ref (b + o), .int a1])).length) Slot.unset).toArray = ls at hl ⊢
  have hl : lv_has ls 2 [(0, .ref (b + o)), (1, .int a1)] := hl
  have B23 : ∀ (S : fw_S) (p0 : Int32) (ls : Array Slot), wp_M_runs_23 o a1 post S p0 → fw_P D CL cA layU b 245 (fw_v TK layU b S) s.heap → va_S (fw_A b 245) s.heap s.heap [] → lv_has ls 2 [(0, .ref (b + o)), (1, .int a1)] → W p l e (headSpec ww_M_runs rm_M_runs).room s m ([.ref (b + o), .int a1] : List Value).toArray below meth c s.heap [] 0 0 (MQ below (va_Qi (fun r S' => post S' r) (fw_B D CL cA TK layU b 245) (fw_A b 245)) ([.ref (b + o), .int a1] : List Value).toArray s 0 0 (fw_A b 245)) (F0 m 23 ls [.int p0]) := by
      intro S p0 ls hw hP hS hl
      unfold wp_M_runs_23 at hw
      obtain ⟨h1, hw⟩ := hw
      exact W.zret (v := p0) hx hb hr (fw_bz.n h1) (fun t ht hW => ⟨⟨_, _, rfl, hw, fw_Bof ht hP⟩, hS.F ht⟩) hS.2.2 dd_M_runs_23
  have B22 : ∀ (S : fw_S) (ls : Array Slot), wp_M_runs_22 o a1 post S → fw_P D CL cA layU b 245 (fw_v TK layU b S) s.heap → va_S (fw_A b 245) s.heap s.heap [] → lv_has ls 2 [(0, .ref (b + o)), (1, .int a1)] → W p l e (headSpec ww_M_runs rm_M_runs).room s m ([.ref (b + o), .int a1] : List Value).toArray below meth c s.heap [] 0 0 (MQ below (va_Qi (fun r S' => post S' r) (fw_B D CL cA TK layU b 245) (fw_A b 245)) ([.ref (b + o), .int a1] : List Value).toArray s 0 0 (fw_A b 245)) (F0 m 22 ls []) := by
      intro S ls hw hP hS hl
      unfold wp_M_runs_22 at hw
      refine lv_iconst (v := 0) hx hb dd_M_runs_22 kc_ic_0 ?_
      exact B23 S 0 ls hw hP hS (lv_sub hl [0, 1] rfl)
  unfold wp_M_runs at hw
  refine lv_aload_n hx hb dd_M_runs_0 rfl (lv_at hl 0 rfl) ?_
  refine fw_getr hx hb hts in_10 hown hK hP ho (by decide) rfl 12 (by decide) (hts _ (tb_in tw_793)) tk_10_12 dd_M_runs_1 ?_
  refine lv_iload_n hx hb dd_M_runs_4 rfl (lv_at hl 1 rfl) ?_
  obtain ⟨h1, hw⟩ := hw
  refine fw_iald hx hb hK hP (lf_10_12 ho) (by decide) 0 rfl tka_100 h1 dd_M_runs_5 ?_
  refine lv_if_le (tgt := 22) hx hb dd_M_runs_6 (by decide) (fun h2 => ?_) (fun h2 => ?_)
  · have hw := hw.1 h2
    exact B22 S ls hw hP hS (lv_sub hl [0, 1] rfl)
  · have hw := hw.2 h2
    refine lv_aload_n hx hb dd_M_runs_9 rfl (lv_at hl 0 rfl) ?_
    refine fw_getr hx hb hts in_10 hown hK hP ho (by decide) rfl 9 (by decide) (hts _ (tb_in tw_790)) tk_10_9 dd_M_runs_10 ?_
    refine lv_iload_n hx hb dd_M_runs_13 rfl (lv_at hl 1 rfl) ?_
    obtain ⟨h3, hw⟩ := hw
    refine fw_zald hx hb hK hP (lf_10_9 ho) (by decide) 2 rfl tka_102 h3 dd_M_runs_14 ?_
    refine lv_if_eq (tgt := 22) hx hb dd_M_runs_15 (by decide) (fun h4 => ?_) (fun h4 => ?_)
    · have hw := hw.1 h4
      exact B22 S ls hw hP hS (lv_sub hl [0, 1] rfl)
    · have hw := hw.2 h4
      refine lv_iconst (v := 1) hx hb dd_M_runs_18 kc_ic_1 ?_
      refine lv_goto (tgt := 23) hx hb dd_M_runs_19 (by decide) ?_
      exact B23 S 1 ls hw hP hS (lv_sub hl [0, 1] rfl)
theorem dd_M_cell_0 : decode bb_M_cell 0 = .ok (.bipush 6, 2) := by decide +kernel
theorem dd_M_cell_2 : decode bb_M_cell 2 = .ok (.bipush 24, 2) := by decide +kernel
theorem dd_M_cell_4 : decode bb_M_cell 4 = .ok (.iload_n 0, 1) := by decide +kernel
theorem dd_M_cell_5 : decode bb_M_cell 5 = .ok (.imul, 1) := by decide +kernel
theorem dd_M_cell_6 : decode bb_M_cell 6 = .ok (.iload_n 1, 1) := by decide +kernel
theorem dd_M_cell_7 : decode bb_M_cell 7 = .ok (.iadd, 1) := by decide +kernel
theorem dd_M_cell_8 : decode bb_M_cell 8 = .ok (.imul, 1) := by decide +kernel
theorem dd_M_cell_9 : decode bb_M_cell 9 = .ok (.ireturn, 1) := by decide +kernel
def ww_M_cell : List Cond := .code yy_M_cell bb_M_cell 2 (some .int) :: TB
def rm_M_cell : Room := { frames := 0, cells := 0, slots := 0, locals := 0 }
def wp_M_cell (S : fw_S) (a1 : Int32) (a2 : Int32) (post : fw_S → Int32 → Prop) : Prop := post S (6 * ((24 * a1) + a2))
set_option maxHeartbeats 4000000 in
set_option maxRecDepth 100000 in
theorem mt_M_cell (l : Launch) (D : va_G) (cA : Nat → ClassId) (b : Nat) (S : fw_S) (a1 : Int32) (a2 : Int32) (post : fw_S → Int32 → Prop) (hw : wp_M_cell S a1 a2 post) : Met l yy_M_cell ww_M_cell rm_M_cell (fw_Pc D CL cA (TYS cA) TK layU b 245 S [.int a1, .int a2]) (va_Qi (fun r S' => post S' r) (fw_B D CL cA TK layU b 245) (fw_A b 245)) 0 0 (fw_A b 245) := by
  refine Met.ofW (cc := bb_M_cell) (maxL := 2) (ret := (some .int)) (by decide) rfl ?_
  intro p e s m args below meth c s₁ B hml hv
  obtain ⟨rfl, hP, hK⟩ := hv
  have hx := B.exec
  have hb := B.bytes
  have hr := B.returns
  have hts := atoms_spec (ws := ww_M_cell) B.pre
  have hown : s.vm.findClass "OutletOfficeModel" = some m.cls := findClass_of_methodNamed B.named
  have hlocks := B.notSynchronized
  have hS : va_S (fw_A b 245) s.heap s.heap [] := va_S.rf
  have hl := lv_entry ([.int a1, .int a2]) (n := 2) (Nat.le_of_ble_eq_true rfl)
  rw [lg_entry_eq]
  generalize (lg_sl ([.int a1, .int a2]) ++ List.replicate (2 - (lg_sl ([.int a1, .int a2])).length) Slot.unset).toArray = ls at hl ⊢
  have hl : lv_has ls 2 [(0, .int a1), (1, .int a2)] := hl
  unfold wp_M_cell at hw
  refine lv_bipush (v := 6) hx hb dd_M_cell_0 kc_bp_6 ?_
  refine lv_bipush (v := 24) hx hb dd_M_cell_2 kc_bp_24 ?_
  refine lv_iload_n hx hb dd_M_cell_4 rfl (lv_at hl 0 rfl) ?_
  refine lv_imul hx hb dd_M_cell_5 ?_
  refine lv_iload_n hx hb dd_M_cell_6 rfl (lv_at hl 1 rfl) ?_
  refine lv_iadd hx hb dd_M_cell_7 ?_
  refine lv_imul hx hb dd_M_cell_8 ?_
  exact W.iret (v := 6 * ((24 * a1) + a2)) hx hb hr (fun t ht hW => ⟨⟨_, _, rfl, hw, fw_Bof ht hP⟩, hS.F ht⟩) hS.2.2 dd_M_cell_9
