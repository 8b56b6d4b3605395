theorem dd_M_priceAt_17 : decode bb_M_priceAt 17 = .ok (.iload 5, 2) := by decide +kernel
theorem dd_M_priceAt_19 : decode bb_M_priceAt 19 = .ok (.iconst 4, 1) := by decide +kernel
theorem dd_M_priceAt_20 : decode bb_M_priceAt 20 = .ok (.if_icmp .ge 89, 3) := by decide +kernel
theorem dd_M_priceAt_109 : decode bb_M_priceAt 109 = .ok (.iload_n 3, 1) := by decide +kernel
theorem dd_M_priceAt_110 : decode bb_M_priceAt 110 = .ok (.ifCond .ge 8, 3) := by decide +kernel
theorem dd_M_priceAt_118 : decode bb_M_priceAt 118 = .ok (.iload_n 3, 1) := by decide +kernel
theorem dd_M_priceAt_113 : decode bb_M_priceAt 113 = .ok (.iload 4, 2) := by decide +kernel
theorem dd_M_priceAt_115 : decode bb_M_priceAt 115 = .ok (.goto 4, 3) := by decide +kernel
theorem dd_M_priceAt_23 : decode bb_M_priceAt 23 = .ok (.aload_n 0, 1) := by decide +kernel
theorem dd_M_priceAt_24 : decode bb_M_priceAt 24 = .ok (.getfield 13, 3) := by decide +kernel
theorem dd_M_priceAt_27 : decode bb_M_priceAt 27 = .ok (.iload 5, 2) := by decide +kernel
theorem dd_M_priceAt_29 : decode bb_M_priceAt 29 = .ok (.iaload, 1) := by decide +kernel
theorem dd_M_priceAt_30 : decode bb_M_priceAt 30 = .ok (.ifCond .lt 37, 3) := by decide +kernel
theorem dd_M_priceAt_33 : decode bb_M_priceAt 33 = .ok (.aload_n 0, 1) := by decide +kernel
theorem dd_M_priceAt_34 : decode bb_M_priceAt 34 = .ok (.getfield 13, 3) := by decide +kernel
theorem dd_M_priceAt_37 : decode bb_M_priceAt 37 = .ok (.iload 5, 2) := by decide +kernel
theorem dd_M_priceAt_39 : decode bb_M_priceAt 39 = .ok (.iaload, 1) := by decide +kernel
theorem dd_M_priceAt_40 : decode bb_M_priceAt 40 = .ok (.iload_n 2, 1) := by decide +kernel
theorem dd_M_priceAt_41 : decode bb_M_priceAt 41 = .ok (.if_icmp .gt 26, 3) := by decide +kernel
theorem dd_M_priceAt_44 : decode bb_M_priceAt 44 = .ok (.iload_n 3, 1) := by decide +kernel
theorem dd_M_priceAt_45 : decode bb_M_priceAt 45 = .ok (.ifCond .lt 19, 3) := by decide +kernel
theorem dd_M_priceAt_48 : decode bb_M_priceAt 48 = .ok (.aload_n 0, 1) := by decide +kernel
theorem dd_M_priceAt_49 : decode bb_M_priceAt 49 = .ok (.getfield 13, 3) := by decide +kernel
theorem dd_M_priceAt_52 : decode bb_M_priceAt 52 = .ok (.iload 5, 2) := by decide +kernel
theorem dd_M_priceAt_54 : decode bb_M_priceAt 54 = .ok (.iaload, 1) := by decide +kernel
theorem dd_M_priceAt_55 : decode bb_M_priceAt 55 = .ok (.aload_n 0, 1) := by decide +kernel
theorem dd_M_priceAt_56 : decode bb_M_priceAt 56 = .ok (.getfield 13, 3) := by decide +kernel
theorem dd_M_priceAt_59 : decode bb_M_priceAt 59 = .ok (.iload_n 3, 1) := by decide +kernel
theorem dd_M_priceAt_60 : decode bb_M_priceAt 60 = .ok (.iaload, 1) := by decide +kernel
theorem dd_M_priceAt_61 : decode bb_M_priceAt 61 = .ok (.if_icmp .le 6, 3) := by decide +kernel
theorem dd_M_priceAt_64 : decode bb_M_priceAt 64 = .ok (.iload 5, 2) := by decide +kernel
theorem dd_M_priceAt_66 : decode bb_M_priceAt 66 = .ok (.istore_n 3, 1) := by decide +kernel
theorem dd_M_priceAt_67 : decode bb_M_priceAt 67 = .ok (.aload_n 0, 1) := by decide +kernel
theorem dd_M_priceAt_68 : decode bb_M_priceAt 68 = .ok (.getfield 13, 3) := by decide +kernel
theorem dd_M_priceAt_71 : decode bb_M_priceAt 71 = .ok (.iload 5, 2) := by decide +kernel
theorem dd_M_priceAt_73 : decode bb_M_priceAt 73 = .ok (.iaload, 1) := by decide +kernel
theorem dd_M_priceAt_74 : decode bb_M_priceAt 74 = .ok (.ifCond .lt 29, 3) := by decide +kernel
theorem dd_M_priceAt_77 : decode bb_M_priceAt 77 = .ok (.iload 4, 2) := by decide +kernel
theorem dd_M_priceAt_79 : decode bb_M_priceAt 79 = .ok (.ifCond .lt 20, 3) := by decide +kernel
theorem dd_M_priceAt_82 : decode bb_M_priceAt 82 = .ok (.aload_n 0, 1) := by decide +kernel
theorem dd_M_priceAt_83 : decode bb_M_priceAt 83 = .ok (.getfield 13, 3) := by decide +kernel
theorem dd_M_priceAt_86 : decode bb_M_priceAt 86 = .ok (.iload 5, 2) := by decide +kernel
theorem dd_M_priceAt_88 : decode bb_M_priceAt 88 = .ok (.iaload, 1) := by decide +kernel
theorem dd_M_priceAt_89 : decode bb_M_priceAt 89 = .ok (.aload_n 0, 1) := by decide +kernel
theorem dd_M_priceAt_90 : decode bb_M_priceAt 90 = .ok (.getfield 13, 3) := by decide +kernel
theorem dd_M_priceAt_93 : decode bb_M_priceAt 93 = .ok (.iload 4, 2) := by decide +kernel
theorem dd_M_priceAt_95 : decode bb_M_priceAt 95 = .ok (.iaload, 1) := by decide +kernel
theorem dd_M_priceAt_96 : decode bb_M_priceAt 96 = .ok (.if_icmp .le 7, 3) := by decide +kernel
theorem dd_M_priceAt_99 : decode bb_M_priceAt 99 = .ok (.iload 5, 2) := by decide +kernel
theorem dd_M_priceAt_101 : decode bb_M_priceAt 101 = .ok (.istore 4, 2) := by decide +kernel
theorem dd_M_priceAt_103 : decode bb_M_priceAt 103 = .ok (.iinc 5 1, 3) := by decide +kernel
theorem dd_M_priceAt_106 : decode bb_M_priceAt 106 = .ok (.goto (-89), 3) := by decide +kernel
theorem dd_M_priceAt_119 : decode bb_M_priceAt 119 = .ok (.istore_n 3, 1) := by decide +kernel
theorem dd_M_priceAt_120 : decode bb_M_priceAt 120 = .ok (.iload_n 3, 1) := by decide +kernel
theorem dd_M_priceAt_121 : decode bb_M_priceAt 121 = .ok (.ifCond .ge 7, 3) := by decide +kernel
theorem dd_M_priceAt_128 : decode bb_M_priceAt 128 = .ok (.aload_n 0, 1) := by decide +kernel
theorem dd_M_priceAt_129 : decode bb_M_priceAt 129 = .ok (.getfield 16, 3) := by decide +kernel
theorem dd_M_priceAt_132 : decode bb_M_priceAt 132 = .ok (.iload_n 3, 1) := by decide +kernel
theorem dd_M_priceAt_133 : decode bb_M_priceAt 133 = .ok (.iaload, 1) := by decide +kernel
theorem dd_M_priceAt_124 : decode bb_M_priceAt 124 = .ok (.iconst 0, 1) := by decide +kernel
theorem dd_M_priceAt_125 : decode bb_M_priceAt 125 = .ok (.goto 9, 3) := by decide +kernel
theorem dd_M_priceAt_134 : decode bb_M_priceAt 134 = .ok (.ireturn, 1) := by decide +kernel
theorem dd_M_priceAt_0 : decode bb_M_priceAt 0 = .ok (.iload_n 1, 1) := by decide +kernel
theorem dd_M_priceAt_1 : decode bb_M_priceAt 1 = .ok (.bipush 60, 2) := by decide +kernel
theorem dd_M_priceAt_3 : decode bb_M_priceAt 3 = .ok (.idiv, 1) := by decide +kernel
theorem dd_M_priceAt_4 : decode bb_M_priceAt 4 = .ok (.sipush 1440, 3) := by decide +kernel
theorem dd_M_priceAt_7 : decode bb_M_priceAt 7 = .ok (.irem, 1) := by decide +kernel
theorem dd_M_priceAt_8 : decode bb_M_priceAt 8 = .ok (.istore_n 2, 1) := by decide +kernel
theorem dd_M_priceAt_9 : decode bb_M_priceAt 9 = .ok (.iconst (-1), 1) := by decide +kernel
theorem dd_M_priceAt_10 : decode bb_M_priceAt 10 = .ok (.istore_n 3, 1) := by decide +kernel
theorem dd_M_priceAt_11 : decode bb_M_priceAt 11 = .ok (.iconst (-1), 1) := by decide +kernel
theorem dd_M_priceAt_12 : decode bb_M_priceAt 12 = .ok (.istore 4, 2) := by decide +kernel
theorem dd_M_priceAt_14 : decode bb_M_priceAt 14 = .ok (.iconst 0, 1) := by decide +kernel
theorem dd_M_priceAt_15 : decode bb_M_priceAt 15 = .ok (.istore 5, 2) := by decide +kernel
def ww_M_priceAt : List Cond := .code yy_M_priceAt bb_M_priceAt 6 (some .int) :: TB
def rm_M_priceAt : Room := { frames := 0, cells := 0, slots := 0, locals := 0 }
def wp_M_priceAt_103 (o : Nat) (a1 : Int32) (post : fw_S → Int32 → Prop) (k17 : fw_S → Int32 → Int32 → Int32 → Int32 → Prop) (S : fw_S) (x2 : Int32) (x3 : Int32) (x4 : Int32) (x5 : Int32) : Prop := ∀ v1 : Int32, v1 = x5 + 1 → k17 S x2 x3 x4 v1
def wp_M_priceAt_99 (o : Nat) (a1 : Int32) (post : fw_S → Int32 → Prop) (k17 : fw_S → Int32 → Int32 → Int32 → Int32 → Prop) (S : fw_S) (x2 : Int32) (x3 : Int32) (x4 : Int32) (x5 : Int32) : Prop := wp_M_priceAt_103 o a1 post k17 S x2 x3 x5 x5
def wp_M_priceAt_67 (o : Nat) (a1 : Int32) (post : fw_S → Int32 → Prop) (k17 : fw_S → Int32 → Int32 → Int32 → Int32 → Prop) (S : fw_S) (x2 : Int32) (x3 : Int32) (x4 : Int32) (x5 : Int32) : Prop := vp_in x5 4 ∧ (((((S.1 (o + 2) x5.toNatClampNeg) < 0) → wp_M_priceAt_103 o a1 post k17 S x2 x3 x4 x5) ∧ (¬ ((S.1 (o + 2) x5.toNatClampNeg) < 0) → (((x4 < 0) → wp_M_priceAt_99 o a1 post k17 S x2 x3 x4 x5) ∧ (¬ (x4 < 0) → vp_in x5 4 ∧ (vp_in x4 4 ∧ (((((S.1 (o + 2) x5.toNatClampNeg) ≤ (S.1 (o + 2) x4.toNatClampNeg)) → wp_M_priceAt_103 o a1 post k17 S x2 x3 x4 x5) ∧ (¬ ((S.1 (o + 2) x5.toNatClampNeg) ≤ (S.1 (o + 2) x4.toNatClampNeg)) → wp_M_priceAt_99 o a1 post k17 S x2 x3 x4 x5)))))))))
def wp_M_priceAt_64 (o : Nat) (a1 : Int32) (post : fw_S → Int32 → Prop) (k17 : fw_S → Int32 → Int32 → Int32 → Int32 → Prop) (S : fw_S) (x2 : Int32) (x3 : Int32) (x4 : Int32) (x5 : Int32) : Prop := wp_M_priceAt_67 o a1 post k17 S x2 x5 x4 x5
def wp_M_priceAt_134 (o : Nat) (a1 : Int32) (post : fw_S → Int32 → Prop) (S : fw_S) (x2 : Int32) (x3 : Int32) (x4 : Int32) (x5 : Int32) (p0 : Int32) : Prop := post S p0
def wp_M_priceAt_119 (o : Nat) (a1 : Int32) (post : fw_S → Int32 → Prop) (S : fw_S) (x2 : Int32) (x3 : Int32) (x4 : Int32) (x5 : Int32) (p0 : Int32) : Prop := (((0 ≤ p0) → vp_in p0 4 ∧ (wp_M_priceAt_134 o a1 post S x2 p0 x4 x5 (S.1 (o + 3) p0.toNatClampNeg))) ∧ (¬ (0 ≤ p0) → wp_M_priceAt_134 o a1 post S x2 p0 x4 x5 0))
def wp_M_priceAt_17 (o : Nat) (a1 : Int32) (post : fw_S → Int32 → Prop) : Nat → fw_S → Int32 → Int32 → Int32 → Int32 → Prop
  | 0, _, _, _, _, _ => False
  | f + 1, S, x2, x3, x4, x5 => (((4 ≤ x5) → (((0 ≤ x3) → wp_M_priceAt_119 o a1 post S x2 x3 x4 x5 x3) ∧ (¬ (0 ≤ x3) → wp_M_priceAt_119 o a1 post S x2 x3 x4 x5 x4))) ∧ (¬ (4 ≤ x5) → vp_in x5 4 ∧ (((((S.1 (o + 2) x5.toNatClampNeg) < 0) → wp_M_priceAt_67 o a1 post (fun S x2 x3 x4 x5 => wp_M_priceAt_17 o a1 post f S x2 x3 x4 x5) S x2 x3 x4 x5) ∧ (¬ ((S.1 (o + 2) x5.toNatClampNeg) < 0) → vp_in x5 4 ∧ ((((x2 < (S.1 (o + 2) x5.toNatClampNeg)) → wp_M_priceAt_67 o a1 post (fun S x2 x3 x4 x5 => wp_M_priceAt_17 o a1 post f S x2 x3 x4 x5) S x2 x3 x4 x5) ∧ (¬ (x2 < (S.1 (o + 2) x5.toNatClampNeg)) → (((x3 < 0) → wp_M_priceAt_64 o a1 post (fun S x2 x3 x4 x5 => wp_M_priceAt_17 o a1 post f S x2 x3 x4 x5) S x2 x3 x4 x5) ∧ (¬ (x3 < 0) → vp_in x5 4 ∧ (vp_in x3 4 ∧ (((((S.1 (o + 2) x5.toNatClampNeg) ≤ (S.1 (o + 2) x3.toNatClampNeg)) → wp_M_priceAt_67 o a1 post (fun S x2 x3 x4 x5 => wp_M_priceAt_17 o a1 post f S x2 x3 x4 x5) S x2 x3 x4 x5) ∧ (¬ ((S.1 (o + 2) x5.toNatClampNeg) ≤ (S.1 (o + 2) x3.toNatClampNeg)) → wp_M_priceAt_64 o a1 post (fun S x2 x3 x4 x5 => wp_M_priceAt_17 o a1 post f S x2 x3 x4 x5) S x2 x3 x4 x5))))))))))))))
def wp_M_priceAt (S : fw_S) (o : Nat) (a1 : Int32) (post : fw_S → Int32 → Prop) : Prop := ∀ v1 : Int32, v1 = ((a1 / 60) - (a1 / 60) / 1440 * 1440) → ∃ f0, wp_M_priceAt_17 o a1 post f0 S v1 (-1) (-1) 0
set_option maxHeartbeats 4000000 in
set_option maxRecDepth 100000 in
theorem mt_M_priceAt (l : Launch) (D : va_G) (cA : Nat → ClassId) (b : Nat) (S : fw_S) (o : Nat) (a1 : Int32) (ho : o < 245 ∧ layU o = (10, 0)) (post : fw_S → Int32 → Prop) (hw : wp_M_priceAt S o a1 post) : Met l yy_M_priceAt ww_M_priceAt rm_M_priceAt (fw_Pc D CL cA (TYS cA) TK layU b 245 S [.ref (b + o), .int a1]) (va_Qi (fun r S' => post S' r) (fw_B D CL cA TK layU b 245) (fw_A b 245)) 0 0 (fw_A b 245) := by
  refine Met.ofW (cc := bb_M_priceAt) (maxL := 6) (ret := (some .int)) (by decide) rfl ?_
  intro p e s m args below meth c s₁ B hml hv
  obtain ⟨rfl, hP, hK⟩ := hv
  have hx := B.exec
  have hb := B.bytes
  have hr := B.returns
  have hts := atoms_spec (ws := ww_M_priceAt) B.pre
  have hown : s.vm.findClass "OutletOfficeModel" = some m.cls := findClass_of_methodNamed B.named
  have hlocks := B.notSynchronized
  have hS : va_S (fw_A b 245) s.heap s.heap [] := va_S.rf
  have hl := lv_entry ([.ref (b + o), .int a1]) (n := 6) (Nat.le_of_ble_eq_true rfl)
  rw [lg_entry_eq]
  generalize (lg_sl ([.ref (b + o), .int a1]) ++ List.replicate (6 - (lg_sl ([.ref (b + o), .int a1])).length) Slot.unset).toArray = ls at hl ⊢
  have hl : lv_has ls 6 [(0, .ref (b + o)), (1, .int a1)] := hl
  have B103 : ∀ (k17 : fw_S → Int32 → Int32 → Int32 → Int32 → Prop), (∀ (S : fw_S) (x2 : Int32) (x3 : Int32) (x4 : Int32) (x5 : Int32) (ls : Array Slot), k17 S x2 x3 x4 x5 → fw_P D CL cA layU b 245 (fw_v TK layU b S) s.heap → va_S (fw_A b 245) s.heap s.heap [] → lv_has ls 6 [(0, .ref (b + o)), (1, .int a1), (2, .int x2), (3, .int x3), (4, .int x4), (5, .int x5)] → W p l e (headSpec ww_M_priceAt rm_M_priceAt).room s m ([.ref (b + o), .int a1] : List Value).toArray below meth c s.heap [] 0 0 (MQ below (va_Qi (fun r S' => post S' r) (fw_B D CL cA TK layU b 245) (fw_A b 245)) ([.ref (b + o), .int a1] : List Value).toArray s 0 0 (fw_A b 245)) (F0 m 17 ls [])) → ∀ (S : fw_S) (x2 : Int32) (x3 : Int32) (x4 : Int32) (x5 : Int32) (ls : Array Slot), wp_M_priceAt_103 o a1 post k17 S x2 x3 x4 x5 → fw_P D CL cA layU b 245 (fw_v TK layU b S) s.heap → va_S (fw_A b 245) s.heap s.heap [] → lv_has ls 6 [(0, .ref (b + o)), (1, .int a1), (2, .int x2), (3, .int x3), (4, .int x4), (5, .int x5)] → W p l e (headSpec ww_M_priceAt rm_M_priceAt).room s m ([.ref (b + o), .int a1] : List Value).toArray below meth c s.heap [] 0 0 (MQ below (va_Qi (fun r S' => post S' r) (fw_B D CL cA TK layU b 245) (fw_A b 245)) ([.ref (b + o), .int a1] : List Value).toArray s 0 0 (fw_A b 245)) (F0 m 103 ls []) := by
      intro k17 K17 S x2 x3 x4 x5 ls hw hP hS hl
      unfold wp_M_priceAt_103 at hw
      obtain ⟨v1, e_v1⟩ : ∃ z : Int32, z = x5 + 1 := ⟨_, rfl⟩
      have hw := hw v1 e_v1
      refine lv_iinc hx hb dd_M_priceAt_103 hl (k := 5) rfl (show x5 + Int32.ofInt 1 = v1 by rw [kc_ii_1, e_v1]) (Nat.le_of_ble_eq_true rfl) rfl (fun ls hl => ?_)
      have hl : lv_has ls 6 [(5, .int v1), (0, .ref (b + o)), (1, .int a1), (2, .int x2), (3, .int x3), (4, .int x4)] := hl
      refine lv_goto (tgt := 17) hx hb dd_M_priceAt_106 (by decide) ?_
      exact K17 S x2 x3 x4 v1 ls hw hP hS (lv_sub hl [1, 2, 3, 4, 5, 0] rfl)
  have B99 : ∀ (k17 : fw_S → Int32 → Int32 → Int32 → Int32 → Prop), (∀ (S : fw_S) (x2 : Int32) (x3 : Int32) (x4 : Int32) (x5 : Int32) (ls : Array Slot), k17 S x2 x3 x4 x5 → fw_P D CL cA layU b 245 (fw_v TK layU b S) s.heap → va_S (fw_A b 245) s.heap s.heap [] → lv_has ls 6 [(0, .ref (b + o)), (1, .int a1), (2, .int x2), (3, .int x3), (4, .int x4), (5, .int x5)] → W p l e (headSpec ww_M_priceAt rm_M_priceAt).room s m ([.ref (b + o), .int a1] : List Value).toArray below meth c s.heap [] 0 0 (MQ below (va_Qi (fun r S' => post S' r) (fw_B D CL cA TK layU b 245) (fw_A b 245)) ([.ref (b + o), .int a1] : List Value).toArray s 0 0 (fw_A b 245)) (F0 m 17 ls [])) → ∀ (S : fw_S) (x2 : Int32) (x3 : Int32) (x4 : Int32) (x5 : Int32) (ls : Array Slot), wp_M_priceAt_99 o a1 post k17 S x2 x3 x4 x5 → fw_P D CL cA layU b 245 (fw_v TK layU b S) s.heap → va_S (fw_A b 245) s.heap s.heap [] → lv_has ls 6 [(0, .ref (b + o)), (1, .int a1), (2, .int x2), (3, .int x3), (4, .int x4), (5, .int x5)] → W p l e (headSpec ww_M_priceAt rm_M_priceAt).room s m ([.ref (b + o), .int a1] : List Value).toArray below meth c s.heap [] 0 0 (MQ below (va_Qi (fun r S' => post S' r) (fw_B D CL cA TK layU b 245) (fw_A b 245)) ([.ref (b + o), .int a1] : List Value).toArray s 0 0 (fw_A b 245)) (F0 m 99 ls []) := by
      intro k17 K17 S x2 x3 x4 x5 ls hw hP hS hl
      unfold wp_M_priceAt_99 at hw
      refine lv_iload hx hb dd_M_priceAt_99 (lv_at hl 5 rfl) ?_
      refine lv_istore hx hb dd_M_priceAt_101 hl (Nat.le_of_ble_eq_true rfl) rfl (fun ls hl => ?_)
      have hl : lv_has ls 6 [(4, .int x5), (0, .ref (b + o)), (1, .int a1), (2, .int x2), (3, .int x3), (5, .int x5)] := hl
      exact B103 _ K17 S x2 x3 x5 x5 ls hw hP hS (lv_sub hl [1, 2, 3, 4, 0, 5] rfl)
  have B67 : ∀ (k17 : fw_S → Int32 → Int32 → Int32 → Int32 → Prop), (∀ (S : fw_S) (x2 : Int32) (x3 : Int32) (x4 : Int32) (x5 : Int32) (ls : Array Slot), k17 S x2 x3 x4 x5 → fw_P D CL cA layU b 245 (fw_v TK layU b S) s.heap → va_S (fw_A b 245) s.heap s.heap [] → lv_has ls 6 [(0, .ref (b + o)), (1, .int a1), (2, .int x2), (3, .int x3), (4, .int x4), (5, .int x5)] → W p l e (headSpec ww_M_priceAt rm_M_priceAt).room s m ([.ref (b + o), .int a1] : List Value).toArray below meth c s.heap [] 0 0 (MQ below (va_Qi (fun r S' => post S' r) (fw_B D CL cA TK layU b 245) (fw_A b 245)) ([.ref (b + o), .int a1] : List Value).toArray s 0 0 (fw_A b 245)) (F0 m 17 ls [])) → ∀ (S : fw_S) (x2 : Int32) (x3 : Int32) (x4 : Int32) (x5 : Int32) (ls : Array Slot), wp_M_priceAt_67 o a1 post k17 S x2 x3 x4 x5 → fw_P D CL cA layU b 245 (fw_v TK layU b S) s.heap → va_S (fw_A b 245) s.heap s.heap [] → lv_has ls 6 [(0, .ref (b + o)), (1, .int a1), (2, .int x2), (3, .int x3), (4, .int x4), (5, .int x5)] → W p l e (headSpec ww_M_priceAt rm_M_priceAt).room s m ([.ref (b + o), .int a1] : List Value).toArray below meth c s.heap [] 0 0 (MQ below (va_Qi (fun r S' => post S' r) (fw_B D CL cA TK layU b 245) (fw_A b 245)) ([.ref (b + o), .int a1] : List Value).toArray s 0 0 (fw_A b 245)) (F0 m 67 ls []) := by
      intro k17 K17 S x2 x3 x4 x5 ls hw hP hS hl
      unfold wp_M_priceAt_67 at hw
      refine lv_aload_n hx hb dd_M_priceAt_67 rfl (lv_at hl 0 rfl) ?_
      refine fw_getr hx hb hts in_10 hown hK hP ho (by decide) rfl 3 (by decide) (hts _ (tb_in tw_784)) tk_10_3 dd_M_priceAt_68 ?_
      refine lv_iload hx hb dd_M_priceAt_71 (lv_at hl 5 rfl) ?_
      obtain ⟨h1, hw⟩ := hw
      refine fw_iald hx hb hK hP (lf_10_3 ho) (by decide) 0 rfl tka_100 h1 dd_M_priceAt_73 ?_
      refine lv_if_lt (tgt := 103) hx hb dd_M_priceAt_74 (by decide) (fun h2 => ?_) (fun h2 => ?_)
      · have hw := hw.1 h2
        exact B103 _ K17 S x2 x3 x4 x5 ls hw hP hS (lv_sub hl [0, 1, 2, 3, 4, 5] rfl)
      · have hw := hw.2 h2
        refine lv_iload hx hb dd_M_priceAt_77 (lv_at hl 4 rfl) ?_
        refine lv_if_lt (tgt := 99) hx hb dd_M_priceAt_79 (by decide) (fun h3 => ?_) (fun h3 => ?_)
        · have hw := hw.1 h3
          exact B99 _ K17 S x2 x3 x4 x5 ls hw hP hS (lv_sub hl [0, 1, 2, 3, 4, 5] rfl)
        · have hw := hw.2 h3
          refine lv_aload_n hx hb dd_M_priceAt_82 rfl (lv_at hl 0 rfl) ?_
          refine fw_getr hx hb hts in_10 hown hK hP ho (by decide) rfl 3 (by decide) (hts _ (tb_in tw_784)) tk_10_3 dd_M_priceAt_83 ?_
          refine lv_iload hx hb dd_M_priceAt_86 (lv_at hl 5 rfl) ?_
          obtain ⟨h4, hw⟩ := hw
          refine fw_iald hx hb hK hP (lf_10_3 ho) (by decide) 0 rfl tka_100 h4 dd_M_priceAt_88 ?_
          refine lv_aload_n hx hb dd_M_priceAt_89 rfl (lv_at hl 0 rfl) ?_
          refine fw_getr hx hb hts in_10 hown hK hP ho (by decide) rfl 3 (by decide) (hts _ (tb_in tw_784)) tk_10_3 dd_M_priceAt_90 ?_
          refine lv_iload hx hb dd_M_priceAt_93 (lv_at hl 4 rfl) ?_
          obtain ⟨h5, hw⟩ := hw
          refine fw_iald hx hb hK hP (lf_10_3 ho) (by decide) 0 rfl tka_100 h5 dd_M_priceAt_95 ?_
          refine lv_icmp_le (tgt := 103) hx hb dd_M_priceAt_96 (by decide) (fun h6 => ?_) (fun h6 => ?_)
          · have hw := hw.1 h6
            exact B103 _ K17 S x2 x3 x4 x5 ls hw hP hS (lv_sub hl [0, 1, 2, 3, 4, 5] rfl)
          · have hw := hw.2 h6
            exact B99 _ K17 S x2 x3 x4 x5 ls hw hP hS (lv_sub hl [0, 1, 2, 3, 4, 5] rfl)
  have B64 : ∀ (k17 : fw_S → Int32 → Int32 → Int32 → Int32 → Prop), (∀ (S : fw_S) (x2 : Int32) (x3 : Int32) (x4 : Int32) (x5 : Int32) (ls : Array Slot), k17 S x2 x3 x4 x5 → fw_P D CL cA layU b 245 (fw_v TK layU b S) s.heap → va_S (fw_A b 245) s.heap s.heap [] → lv_has ls 6 [(0, .ref (b + o)), (1, .int a1), (2, .int x2), (3, .int x3), (4, .int x4), (5, .int x5)] → W p l e (headSpec ww_M_priceAt rm_M_priceAt).room s m ([.ref (b + o), .int a1] : List Value).toArray below meth c s.heap [] 0 0 (MQ below (va_Qi (fun r S' => post S' r) (fw_B D CL cA TK layU b 245) (fw_A b 245)) ([.ref (b + o), .int a1] : List Value).toArray s 0 0 (fw_A b 245)) (F0 m 17 ls [])) → ∀ (S : fw_S) (x2 : Int32) (x3 : Int32) (x4 : Int32) (x5 : Int32) (ls : Array Slot), wp_M_priceAt_64 o a1 post k17 S x2 x3 x4 x5 → fw_P D CL cA layU b 245 (fw_v TK layU b S) s.heap → va_S (fw_A b 245) s.heap s.heap [] → lv_has ls 6 [(0, .ref (b + o)), (1, .int a1), (2, .int x2), (3, .int x3), (4, .int x4), (5, .int x5)] → W p l e (headSpec ww_M_priceAt rm_M_priceAt).room s m ([.ref (b + o), .int a1] : List Value).toArray below meth c s.heap [] 0 0 (MQ below (va_Qi (fun r S' => post S' r) (fw_B D CL cA TK layU b 245) (fw_A b 245)) ([.ref (b + o), .int a1] : List Value).toArray s 0 0 (fw_A b 245)) (F0 m 64 ls []) := by
      intro k17 K17 S x2 x3 x4 x5 ls hw hP hS hl
      unfold wp_M_priceAt_64 at hw
      refine lv_iload hx hb dd_M_priceAt_64 (lv_at hl 5 rfl) ?_
      refine lv_istore_n hx hb dd_M_priceAt_66 rfl hl (Nat.le_of_ble_eq_true rfl) rfl (fun ls hl => ?_)
      have hl : lv_has ls 6 [(3, .int x5), (0, .ref (b + o)), (1, .int a1), (2, .int x2), (4, .int x4), (5, .int x5)] := hl
      exact B67 _ K17 S x2 x5 x4 x5 ls hw hP hS (lv_sub hl [1, 2, 3, 0, 4, 5] rfl)
  have B134 : ∀ (S : fw_S) (x2 : Int32) (x3 : Int32) (x4 : Int32) (x5 : Int32) (p0 : Int32) (ls : Array Slot), wp_M_priceAt_134 o a1 post S x2 x3 x4 x5 p0 → fw_P D CL cA layU b 245 (fw_v TK layU b S) s.heap → va_S (fw_A b 245) s.heap s.heap [] → lv_has ls 6 [(0, .ref (b + o)), (1, .int a1), (2, .int x2), (3, .int x3), (4, .int x4), (5, .int x5)] → W p l e (headSpec ww_M_priceAt rm_M_priceAt).room s m ([.ref (b + o), .int a1] : List Value).toArray below meth c s.heap [] 0 0 (MQ below (va_Qi (fun r S' => post S' r) (fw_B D CL cA TK layU b 245) (fw_A b 245)) ([.ref (b + o), .int a1] : List Value).toArray s 0 0 (fw_A b 245)) (F0 m 134 ls [.int p0]) := by
      intro S x2 x3 x4 x5 p0 ls hw hP hS hl
      unfold wp_M_priceAt_134 at hw
      exact W.iret (v := p0) hx hb hr (fun t ht hW => ⟨⟨_, _, rfl, hw, fw_Bof ht hP⟩, hS.F ht⟩) hS.2.2 dd_M_priceAt_134
  have B119 : ∀ (S : fw_S) (x2 : Int32) (x3 : Int32) (x4 : Int32) (x5 : Int32) (p0 : Int32) (ls : Array Slot), wp_M_priceAt_119 o a1 post S x2 x3 x4 x5 p0 → fw_P D CL cA layU b 245 (fw_v TK layU b S) s.heap → va_S (fw_A b 245) s.heap s.heap [] → lv_has ls 6 [(0, .ref (b + o)), (1, .int a1), (2, .int x2), (3, .int x3), (4, .int x4), (5, .int x5)] → W p l e (headSpec ww_M_priceAt rm_M_priceAt).room s m ([.ref (b + o), .int a1] : List Value).toArray below meth c s.heap [] 0 0 (MQ below (va_Qi (fun r S' => post S' r) (fw_B D CL cA TK layU b 245) (fw_A b 245)) ([.ref (b + o), .int a1] : List Value).toArray s 0 0 (fw_A b 245)) (F0 m 119 ls [.int p0]) := by
      intro S x2 x3 x4 x5 p0 ls hw hP hS hl
      unfold wp_M_priceAt_119 at hw
      refine lv_istore_n hx hb dd_M_priceAt_119 rfl hl (Nat.le_of_ble_eq_true rfl) rfl (fun ls hl => ?_)
      have hl : lv_has ls 6 [(3, .int p0), (0, .ref (b + o)), (1, .int a1), (2, .int x2), (4, .int x4), (5, .int x5)] := hl
      refine lv_iload_n hx hb dd_M_priceAt_120 rfl (lv_at hl 0 rfl) ?_
      refine lv_if_ge (tgt := 128) hx hb dd_M_priceAt_121 (by decide) (fun h1 => ?_) (fun h1 => ?_)
      · have hw := hw.1 h1
        refine lv_aload_n hx hb dd_M_priceAt_128 rfl (lv_at hl 1 rfl) ?_
        refine fw_getr hx hb hts in_10 hown hK hP ho (by decide) rfl 4 (by decide) (hts _ (tb_in tw_785)) tk_10_4 dd_M_priceAt_129 ?_
        refine lv_iload_n hx hb dd_M_priceAt_132 rfl (lv_at hl 0 rfl) ?_
        obtain ⟨h2, hw⟩ := hw
        refine fw_iald hx hb hK hP (lf_10_4 ho) (by decide) 0 rfl tka_100 h2 dd_M_priceAt_133 ?_
        exact B134 S x2 p0 x4 x5 (S.1 (o + 3) p0.toNatClampNeg) ls hw hP hS (lv_sub hl [1, 2, 3, 0, 4, 5] rfl)
      · have hw := hw.2 h1
        refine lv_iconst (v := 0) hx hb dd_M_priceAt_124 kc_ic_0 ?_
        refine lv_goto (tgt := 134) hx hb dd_M_priceAt_125 (by decide) ?_
        exact B134 S x2 p0 x4 x5 0 ls hw hP hS (lv_sub hl [1, 2, 3, 0, 4, 5] rfl)
  have B17 : ∀ f : Nat, ∀ (S : fw_S) (x2 : Int32) (x3 : Int32) (x4 : Int32) (x5 : Int32) (ls : Array Slot), wp_M_priceAt_17 o a1 post f S x2 x3 x4 x5 → fw_P D CL cA layU b 245 (fw_v TK layU b S) s.heap → va_S (fw_A b 245) s.heap s.heap [] → lv_has ls 6 [(0, .ref (b + o)), (1, .int a1), (2, .int x2), (3, .int x3), (4, .int x4), (5, .int x5)] → W p l e (headSpec ww_M_priceAt rm_M_priceAt).room s m ([.ref (b + o), .int a1] : List Value).toArray below meth c s.heap [] 0 0 (MQ below (va_Qi (fun r S' => post S' r) (fw_B D CL cA TK layU b 245) (fw_A b 245)) ([.ref (b + o), .int a1] : List Value).toArray s 0 0 (fw_A b 245)) (F0 m 17 ls []) := by
    intro f
    induction f with
    | zero => intro S x2 x3 x4 x5 ls hw; exact False.elim hw
    | succ f ih =>
        intro S x2 x3 x4 x5 ls hw hP hS hl
        unfold wp_M_priceAt_17 at hw
        refine lv_iload hx hb dd_M_priceAt_17 (lv_at hl 5 rfl) ?_
        refine lv_iconst (v := 4) hx hb dd_M_priceAt_19 kc_ic_4 ?_
        refine lv_icmp_ge (tgt := 109) hx hb dd_M_priceAt_20 (by decide) (fun h1 => ?_) (fun h1 => ?_)
        · have hw := hw.1 h1
          refine lv_iload_n hx hb dd_M_priceAt_109 rfl (lv_at hl 3 rfl) ?_
          refine lv_if_ge (tgt := 118) hx hb dd_M_priceAt_110 (by decide) (fun h2 => ?_) (fun h2 => ?_)
          · have hw := hw.1 h2
            refine lv_iload_n hx hb dd_M_priceAt_118 rfl (lv_at hl 3 rfl) ?_
            exact B119 S x2 x3 x4 x5 x3 ls hw hP hS (lv_sub hl [0, 1, 2, 3, 4, 5] rfl)
          · have hw := hw.2 h2
            refine lv_iload hx hb dd_M_priceAt_113 (lv_at hl 4 rfl) ?_
            refine lv_goto (tgt := 119) hx hb dd_M_priceAt_115 (by decide) ?_
            exact B119 S x2 x3 x4 x5 x4 ls hw hP hS (lv_sub hl [0, 1, 2, 3, 4, 5] rfl)
        · have hw := hw.2 h1
          refine lv_aload_n hx hb dd_M_priceAt_23 rfl (lv_at hl 0 rfl) ?_
          refine fw_getr hx hb hts in_10 hown hK hP ho (by decide) rfl 3 (by decide) (hts _ (tb_in tw_784)) tk_10_3 dd_M_priceAt_24 ?_
          refine lv_iload hx hb dd_M_priceAt_27 (lv_at hl 5 rfl) ?_
          obtain ⟨h3, hw⟩ := hw
          refine fw_iald hx hb hK hP (lf_10_3 ho) (by decide) 0 rfl tka_100 h3 dd_M_priceAt_29 ?_
          refine lv_if_lt (tgt := 67) hx hb dd_M_priceAt_30 (by decide) (fun h4 => ?_) (fun h4 => ?_)
          · have hw := hw.1 h4
            exact B67 _ ih S x2 x3 x4 x5 ls hw hP hS (lv_sub hl [0, 1, 2, 3, 4, 5] rfl)
          · have hw := hw.2 h4
            refine lv_aload_n hx hb dd_M_priceAt_33 rfl (lv_at hl 0 rfl) ?_
            refine fw_getr hx hb hts in_10 hown hK hP ho (by decide) rfl 3 (by decide) (hts _ (tb_in tw_784)) tk_10_3 dd_M_priceAt_34 ?_
            refine lv_iload hx hb dd_M_priceAt_37 (lv_at hl 5 rfl) ?_
            obtain ⟨h5, hw⟩ := hw
            refine fw_iald hx hb hK hP (lf_10_3 ho) (by decide) 0 rfl tka_100 h5 dd_M_priceAt_39 ?_
            refine lv_iload_n hx hb dd_M_priceAt_40 rfl (lv_at hl 2 rfl) ?_
            refine lv_icmp_gt (tgt := 67) hx hb dd_M_priceAt_41 (by decide) (fun h6 => ?_) (fun h6 => ?_)
            · have hw := hw.1 h6
              exact B67 _ ih S x2 x3 x4 x5 ls hw hP hS (lv_sub hl [0, 1, 2, 3, 4, 5] rfl)
            · have hw := hw.2 h6
              refine lv_iload_n hx hb dd_M_priceAt_44 rfl (lv_at hl 3 rfl) ?_
              refine lv_if_lt (tgt := 64) hx hb dd_M_priceAt_45 (by decide) (fun h7 => ?_) (fun h7 => ?_)
              · have hw := hw.1 h7
                exact B64 _ ih S x2 x3 x4 x5 ls hw hP hS (lv_sub hl [0, 1, 2, 3, 4, 5] rfl)
              · have hw := hw.2 h7
                refine lv_aload_n hx hb dd_M_priceAt_48 rfl (lv_at hl 0 rfl) ?_
                refine fw_getr hx hb hts in_10 hown hK hP ho (by decide) rfl 3 (by decide) (hts _ (tb_in tw_784)) tk_10_3 dd_M_priceAt_49 ?_
                refine lv_iload hx hb dd_M_priceAt_52 (lv_at hl 5 rfl) ?_
                obtain ⟨h8, hw⟩ := hw
                refine fw_iald hx hb hK hP (lf_10_3 ho) (by decide) 0 rfl tka_100 h8 dd_M_priceAt_54 ?_
                refine lv_aload_n hx hb dd_M_priceAt_55 rfl (lv_at hl 0 rfl) ?_
                refine fw_getr hx hb hts in_10 hown hK hP ho (by decide) rfl 3 (by decide) (hts _ (tb_in tw_784)) tk_10_3 dd_M_priceAt_56 ?_
                refine lv_iload_n hx hb dd_M_priceAt_59 rfl (lv_at hl 3 rfl) ?_
                obtain ⟨h9, hw⟩ := hw
                refine fw_iald hx hb hK hP (lf_10_3 ho) (by decide) 0 rfl tka_100 h9 dd_M_priceAt_60 ?_
                refine lv_icmp_le (tgt := 67) hx hb dd_M_priceAt_61 (by decide) (fun h10 => ?_) (fun h10 => ?_)
                · have hw := hw.1 h10
                  exact B67 _ ih S x2 x3 x4 x5 ls hw hP hS (lv_sub hl [0, 1, 2, 3, 4, 5] rfl)
                · have hw := hw.2 h10
                  exact B64 _ ih S x2 x3 x4 x5 ls hw hP hS (lv_sub hl [0, 1, 2, 3, 4, 5] rfl)
  unfold wp_M_priceAt at hw
  refine lv_iload_n hx hb dd_M_priceAt_0 rfl (lv_at hl 1 rfl) ?_
  refine lv_bipush (v := 60) hx hb dd_M_priceAt_1 kc_bp_60 ?_
  refine lv_idiv hx hb dd_M_priceAt_3 (by decide) ?_
  refine lv_sipush (v := 1440) hx hb dd_M_priceAt_4 kc_sp_1440 ?_
  refine lv_irem hx hb dd_M_priceAt_7 (by decide) ?_
  refine lv_topi (fun v1 e_v1 => ?_)
  have hw := hw v1 e_v1
  refine lv_istore_n hx hb dd_M_priceAt_8 rfl hl (Nat.le_of_ble_eq_true rfl) rfl (fun ls hl => ?_)
  have hl : lv_has ls 6 [(2, .int v1), (0, .ref (b + o)), (1, .int a1)] := hl
  refine lv_iconst (v := (-1)) hx hb dd_M_priceAt_9 kc_ic_m1 ?_
  refine lv_istore_n hx hb dd_M_priceAt_10 rfl hl (Nat.le_of_ble_eq_true rfl) rfl (fun ls hl => ?_)
  have hl : lv_has ls 6 [(3, .int (-1)), (2, .int v1), (0, .ref (b + o)), (1, .int a1)] := hl
  refine lv_iconst (v := (-1)) hx hb dd_M_priceAt_11 kc_ic_m1 ?_
  refine lv_istore hx hb dd_M_priceAt_12 hl (Nat.le_of_ble_eq_true rfl) rfl (fun ls hl => ?_)
  have hl : lv_has ls 6 [(4, .int (-1)), (3, .int (-1)), (2, .int v1), (0, .ref (b + o)), (1, .int a1)] := hl
  refine lv_iconst (v := 0) hx hb dd_M_priceAt_14 kc_ic_0 ?_
  refine lv_istore hx hb dd_M_priceAt_15 hl (Nat.le_of_ble_eq_true rfl) rfl (fun ls hl => ?_)
  have hl : lv_has ls 6 [(5, .int 0), (4, .int (-1)), (3, .int (-1)), (2, .int v1), (0, .ref (b + o)), (1, .int a1)] := hl
  obtain ⟨f0, hw⟩ := hw
  exact B17 f0 S v1 (-1) (-1) 0 ls hw hP hS (lv_sub hl [4, 5, 3, 2, 1, 0] rfl)
theorem dd_M_charge_0 : decode bb_M_charge 0 = .ok (.aload_n 0, 1) := by decide +kernel
theorem dd_M_charge_1 : decode bb_M_charge 1 = .ok (.getfield 93, 3) := by decide +kernel
theorem dd_M_charge_4 : decode bb_M_charge 4 = .ok (.iload_n 1, 1) := by decide +kernel
theorem dd_M_charge_5 : decode bb_M_charge 5 = .ok (.dup2, 1) := by decide +kernel
theorem dd_M_charge_6 : decode bb_M_charge 6 = .ok (.laload, 1) := by decide +kernel
theorem dd_M_charge_7 : decode bb_M_charge 7 = .ok (.lload_n 2, 1) := by decide +kernel
theorem dd_M_charge_8 : decode bb_M_charge 8 = .ok (.aload_n 0, 1) := by decide +kernel
theorem dd_M_charge_9 : decode bb_M_charge 9 = .ok (.getfield 96, 3) := by decide +kernel
theorem dd_M_charge_12 : decode bb_M_charge 12 = .ok (.iload_n 1, 1) := by decide +kernel
theorem dd_M_charge_13 : decode bb_M_charge 13 = .ok (.laload, 1) := by decide +kernel
theorem dd_M_charge_14 : decode bb_M_charge 14 = .ok (.lsub, 1) := by decide +kernel
theorem dd_M_charge_15 : decode bb_M_charge 15 = .ok (.aload_n 0, 1) := by decide +kernel
theorem dd_M_charge_16 : decode bb_M_charge 16 = .ok (.aload_n 0, 1) := by decide +kernel
theorem dd_M_charge_17 : decode bb_M_charge 17 = .ok (.getfield 102, 3) := by decide +kernel
theorem dd_M_charge_20 : decode bb_M_charge 20 = .ok (.iload_n 1, 1) := by decide +kernel
theorem dd_M_charge_21 : decode bb_M_charge 21 = .ok (.iaload, 1) := by decide +kernel
theorem dd_M_charge_22 : decode bb_M_charge 22 = .ok (.invokevirtual 165, 3) := by decide +kernel
theorem dd_M_charge_25 : decode bb_M_charge 25 = .ok (.i2l, 1) := by decide +kernel
theorem dd_M_charge_26 : decode bb_M_charge 26 = .ok (.lmul, 1) := by decide +kernel
theorem dd_M_charge_27 : decode bb_M_charge 27 = .ok (.ladd, 1) := by decide +kernel
theorem dd_M_charge_28 : decode bb_M_charge 28 = .ok (.lastore, 1) := by decide +kernel
theorem dd_M_charge_29 : decode bb_M_charge 29 = .ok (.aload_n 0, 1) := by decide +kernel
theorem dd_M_charge_30 : decode bb_M_charge 30 = .ok (.getfield 96, 3) := by decide +kernel
theorem dd_M_charge_33 : decode bb_M_charge 33 = .ok (.iload_n 1, 1) := by decide +kernel
theorem dd_M_charge_34 : decode bb_M_charge 34 = .ok (.lload_n 2, 1) := by decide +kernel
theorem dd_M_charge_35 : decode bb_M_charge 35 = .ok (.lastore, 1) := by decide +kernel
theorem dd_M_charge_36 : decode bb_M_charge 36 = .ok (.aload_n 0, 1) := by decide +kernel
theorem dd_M_charge_37 : decode bb_M_charge 37 = .ok (.getfield 102, 3) := by decide +kernel
theorem dd_M_charge_40 : decode bb_M_charge 40 = .ok (.iload_n 1, 1) := by decide +kernel
theorem dd_M_charge_41 : decode bb_M_charge 41 = .ok (.iload 4, 2) := by decide +kernel
theorem dd_M_charge_43 : decode bb_M_charge 43 = .ok (.iastore, 1) := by decide +kernel
theorem dd_M_charge_44 : decode bb_M_charge 44 = .ok (.return_, 1) := by decide +kernel
def ww_M_charge : List Cond := .code yy_M_charge bb_M_charge 5 none :: TB
def rm_M_charge : Room := { frames := 1, cells := 0, slots := 0, locals := 25 }
def wp_M_charge (S : fw_S) (o : Nat) (a1 : Int32) (a2 : Int64) (a3 : Int32) (post : fw_S → Prop) : Prop := vp_in a1 6 ∧ (vp_in a1 6 ∧ (vp_in a1 6 ∧ (wp_M_priceAt S o (S.1 (o + 31) a1.toNatClampNeg) (fun S4 r5 => vp_in a1 6 ∧ (∀ S7 : fw_S, S7 = fw_sl S4 (o + 28) a1.toNatClampNeg ((S.2 (o + 28) a1.toNatClampNeg) + ((a2 - (S.2 (o + 29) a1.toNatClampNeg)) * r5.toInt64)) → vp_in a1 6 ∧ (∀ S9 : fw_S, S9 = fw_sl S7 (o + 29) a1.toNatClampNeg a2 → vp_in a1 6 ∧ (∀ S11 : fw_S, S11 = fw_si S9 (o + 31) a1.toNatClampNeg a3 → post S11)))))))
set_option maxHeartbeats 4000000 in
set_option maxRecDepth 100000 in
theorem mt_M_charge (l : Launch) (D : va_G) (cA : Nat → ClassId) (b : Nat) (S : fw_S) (o : Nat) (a1 : Int32) (a2 : Int64) (a3 : Int32) (ho : o < 245 ∧ layU o = (10, 0)) (post : fw_S → Prop) (hw : wp_M_charge S o a1 a2 a3 post) : Met l yy_M_charge ww_M_charge rm_M_charge (fw_Pc D CL cA (TYS cA) TK layU b 245 S [.ref (b + o), .int a1, .long a2, .int a3]) (va_Qv post (fw_B D CL cA TK layU b 245) (fw_A b 245)) 0 0 (fw_A b 245) := by
  refine Met.ofW (cc := bb_M_charge) (maxL := 5) (ret := none) (by decide) rfl ?_
  intro p e s m args below meth c s₁ B hml hv
  obtain ⟨rfl, hP, hK⟩ := hv
  have hx := B.exec
  have hb := B.bytes
  have hr := B.returns
  have hts := atoms_spec (ws := ww_M_charge) B.pre
  have hown : s.vm.findClass "OutletOfficeModel" = some m.cls := findClass_of_methodNamed B.named
  have hlocks := B.notSynchronized
  have hS : va_S (fw_A b 245) s.heap s.heap [] := va_S.rf
  have hl := lv_entry ([.ref (b + o), .int a1, .long a2, .int a3]) (n := 5) (Nat.le_of_ble_eq_true rfl)
  rw [lg_entry_eq]
  generalize (lg_sl ([.ref (b + o), .int a1, .long a2, .int a3]) ++ List.replicate (5 - (lg_sl ([.ref (b + o), .int a1, .long a2, .int a3])).length) Slot.unset).toArray = ls at hl ⊢
  have hl : lv_has ls 5 [(0, .ref (b + o)), (1, .int a1), (2, .long a2), (4, .int a3)] := hl
  unfold wp_M_charge at hw
  refine lv_aload_n hx hb dd_M_charge_0 rfl (lv_at hl 0 rfl) ?_
  refine fw_getr hx hb hts in_10 hown hK hP ho (by decide) rfl 31 (by decide) (hts _ (tb_in tw_812)) tk_10_31 dd_M_charge_1 ?_
  refine lv_iload_n hx hb dd_M_charge_4 rfl (lv_at hl 1 rfl) ?_
  refine lv_dup2_11 hx hb dd_M_charge_5 rfl rfl ?_
  obtain ⟨h1, hw⟩ := hw
  refine fw_lald hx hb hK hP (lf_10_31 ho) (by decide) 1 rfl tka_101 h1 dd_M_charge_6 ?_
  refine lv_lload_n hx hb dd_M_charge_7 rfl (lv_at hl 2 rfl) ?_
  refine lv_aload_n hx hb dd_M_charge_8 rfl (lv_at hl 0 rfl) ?_
  refine fw_getr hx hb hts in_10 hown hK hP ho (by decide) rfl 32 (by decide) (hts _ (tb_in tw_813)) tk_10_32 dd_M_charge_9 ?_
  refine lv_iload_n hx hb dd_M_charge_12 rfl (lv_at hl 1 rfl) ?_
  obtain ⟨h2, hw⟩ := hw
  refine fw_lald hx hb hK hP (lf_10_32 ho) (by decide) 1 rfl tka_101 h2 dd_M_charge_13 ?_
  refine lv_lsub hx hb dd_M_charge_14 ?_
  refine lv_aload_n hx hb dd_M_charge_15 rfl (lv_at hl 0 rfl) ?_
  refine lv_aload_n hx hb dd_M_charge_16 rfl (lv_at hl 0 rfl) ?_
  refine fw_getr hx hb hts in_10 hown hK hP ho (by decide) rfl 34 (by decide) (hts _ (tb_in tw_815)) tk_10_34 dd_M_charge_17 ?_
  refine lv_iload_n hx hb dd_M_charge_20 rfl (lv_at hl 1 rfl) ?_
  obtain ⟨h3, hw⟩ := hw
  refine fw_iald hx hb hK hP (lf_10_34 ho) (by decide) 0 rfl tka_100 h3 dd_M_charge_21 ?_
  refine fw_calli (va_runV (As := [.int (S.1 (o + 31) a1.toNatClampNeg)]) (rest := [.long (a2 - (S.2 (o + 29) a1.toNatClampNeg)), .long (S.2 (o + 28) a1.toNatClampNeg), .int a1, .ref (b + (o + 28))]) ⟨hx, hb, hml, hown, hts⟩ (mt_M_priceAt l D cA b S o (S.1 (o + 31) a1.toNatClampNeg) ho _ hw) (cwV 1 hts (fw_gV tw_999 tw_996 tw_998 ts_22 tw_11) rfl rfl rfl (by decide +kernel) ⟨Nat.le_of_ble_eq_true rfl, Nat.le_of_ble_eq_true rfl⟩) (fw_preV hP hK ho (by decide) rfl) rfl rfl hl.1 rfl (lv_room (Nat.le_of_ble_eq_true rfl)) dd_M_charge_22 ⟨Nat.le_of_ble_eq_true rfl, Nat.le_of_ble_eq_true rfl⟩) hS (fun S4 r5 H locs hw hP hS => ?_)
  try dsimp only at hw
  refine lv_i2l hx hb dd_M_charge_25 rfl ?_
  refine lv_lmul hx hb dd_M_charge_26 ?_
  refine lv_ladd hx hb dd_M_charge_27 ?_
  obtain ⟨h6, hw⟩ := hw
  refine fw_last hx hb hK hP hS (fw_A.in (lf_10_31 ho).1) (lf_10_31 ho) (by decide) 1 rfl tka_101 h6 dd_M_charge_28 (fun H locs hP hS => ?_)
  obtain ⟨S7, e_S7⟩ : ∃ z, z = fw_sl S4 (o + 28) a1.toNatClampNeg ((S.2 (o + 28) a1.toNatClampNeg) + ((a2 - (S.2 (o + 29) a1.toNatClampNeg)) * r5.toInt64)) := ⟨_, rfl⟩
  rw [← e_S7] at hP
  have hw := hw S7 e_S7
  refine lv_aload_n hx hb dd_M_charge_29 rfl (lv_at hl 0 rfl) ?_
  refine fw_getr hx hb hts in_10 hown hK hP ho (by decide) rfl 32 (by decide) (hts _ (tb_in tw_813)) tk_10_32 dd_M_charge_30 ?_
  refine lv_iload_n hx hb dd_M_charge_33 rfl (lv_at hl 1 rfl) ?_
  refine lv_lload_n hx hb dd_M_charge_34 rfl (lv_at hl 2 rfl) ?_
  obtain ⟨h8, hw⟩ := hw
  refine fw_last hx hb hK hP hS (fw_A.in (lf_10_32 ho).1) (lf_10_32 ho) (by decide) 1 rfl tka_101 h8 dd_M_charge_35 (fun H locs hP hS => ?_)
  obtain ⟨S9, e_S9⟩ : ∃ z, z = fw_sl S7 (o + 29) a1.toNatClampNeg a2 := ⟨_, rfl⟩
  rw [← e_S9] at hP
  have hw := hw S9 e_S9
  refine lv_aload_n hx hb dd_M_charge_36 rfl (lv_at hl 0 rfl) ?_
  refine fw_getr hx hb hts in_10 hown hK hP ho (by decide) rfl 34 (by decide) (hts _ (tb_in tw_815)) tk_10_34 dd_M_charge_37 ?_
  refine lv_iload_n hx hb dd_M_charge_40 rfl (lv_at hl 1 rfl) ?_
  refine lv_iload hx hb dd_M_charge_41 (lv_at hl 3 rfl) ?_
  obtain ⟨h10, hw⟩ := hw
  refine fw_iast hx hb hK hP hS (fw_A.in (lf_10_34 ho).1) (lf_10_34 ho) (by decide) 0 rfl tka_100 h10 dd_M_charge_43 (fun H locs hP hS => ?_)
  obtain ⟨S11, e_S11⟩ : ∃ z, z = fw_si S9 (o + 31) a1.toNatClampNeg a3 := ⟨_, rfl⟩
  rw [← e_S11] at hP
  have hw := hw S11 e_S11
  exact W.vret hx hb hr (fun t ht hW => ⟨⟨_, rfl, hw, fw_Bof ht hP⟩, hS.F ht⟩) hS.2.2 dd_M_charge_44
theorem dd_M_close_117 : decode bb_M_close 117 = .ok (.aload_n 0, 1) := by decide +kernel
theorem dd_M_close_118 : decode bb_M_close 118 = .ok (.dup, 1) := by decide +kernel
theorem dd_M_close_119 : decode bb_M_close 119 = .ok (.getfield 172, 3) := by decide +kernel
theorem dd_M_close_122 : decode bb_M_close 122 = .ok (.iconst 1, 1) := by decide +kernel
theorem dd_M_close_123 : decode bb_M_close 123 = .ok (.iadd, 1) := by decide +kernel
theorem dd_M_close_124 : decode bb_M_close 124 = .ok (.putfield 172, 3) := by decide +kernel
theorem dd_M_close_127 : decode bb_M_close 127 = .ok (.aload_n 0, 1) := by decide +kernel
theorem dd_M_close_128 : decode bb_M_close 128 = .ok (.getfield 108, 3) := by decide +kernel
theorem dd_M_close_131 : decode bb_M_close 131 = .ok (.aload_n 0, 1) := by decide +kernel
theorem dd_M_close_132 : decode bb_M_close 132 = .ok (.getfield 90, 3) := by decide +kernel
theorem dd_M_close_135 : decode bb_M_close 135 = .ok (.iload_n 1, 1) := by decide +kernel
theorem dd_M_close_136 : decode bb_M_close 136 = .ok (.iaload, 1) := by decide +kernel
theorem dd_M_close_137 : decode bb_M_close 137 = .ok (.dup2, 1) := by decide +kernel
theorem dd_M_close_138 : decode bb_M_close 138 = .ok (.laload, 1) := by decide +kernel
theorem dd_M_close_139 : decode bb_M_close 139 = .ok (.lload_n 2, 1) := by decide +kernel
theorem dd_M_close_140 : decode bb_M_close 140 = .ok (.ladd, 1) := by decide +kernel
theorem dd_M_close_141 : decode bb_M_close 141 = .ok (.lastore, 1) := by decide +kernel
theorem dd_M_close_142 : decode bb_M_close 142 = .ok (.aload_n 0, 1) := by decide +kernel
theorem dd_M_close_143 : decode bb_M_close 143 = .ok (.getfield 84, 3) := by decide +kernel
theorem dd_M_close_146 : decode bb_M_close 146 = .ok (.iload_n 1, 1) := by decide +kernel
theorem dd_M_close_147 : decode bb_M_close 147 = .ok (.iconst 0, 1) := by decide +kernel
theorem dd_M_close_148 : decode bb_M_close 148 = .ok (.bastore, 1) := by decide +kernel
theorem dd_M_close_149 : decode bb_M_close 149 = .ok (.return_, 1) := by decide +kernel
theorem dd_M_close_0 : decode bb_M_close 0 = .ok (.aload_n 0, 1) := by decide +kernel
theorem dd_M_close_1 : decode bb_M_close 1 = .ok (.getfield 93, 3) := by decide +kernel
theorem dd_M_close_4 : decode bb_M_close 4 = .ok (.iload_n 1, 1) := by decide +kernel
theorem dd_M_close_5 : decode bb_M_close 5 = .ok (.laload, 1) := by decide +kernel
theorem dd_M_close_6 : decode bb_M_close 6 = .ok (.ldc2_w 168, 3) := by decide +kernel
theorem dd_M_close_9 : decode bb_M_close 9 = .ok (.ladd, 1) := by decide +kernel
theorem dd_M_close_10 : decode bb_M_close 10 = .ok (.ldc2_w 170, 3) := by decide +kernel
theorem dd_M_close_13 : decode bb_M_close 13 = .ok (.ldiv, 1) := by decide +kernel
theorem dd_M_close_14 : decode bb_M_close 14 = .ok (.lstore_n 2, 1) := by decide +kernel
theorem dd_M_close_15 : decode bb_M_close 15 = .ok (.aload_n 0, 1) := by decide +kernel
theorem dd_M_close_16 : decode bb_M_close 16 = .ok (.getfield 172, 3) := by decide +kernel
theorem dd_M_close_19 : decode bb_M_close 19 = .ok (.sipush 128, 3) := by decide +kernel
theorem dd_M_close_22 : decode bb_M_close 22 = .ok (.if_icmp .ge 95, 3) := by decide +kernel
theorem dd_M_close_25 : decode bb_M_close 25 = .ok (.aload_n 0, 1) := by decide +kernel
theorem dd_M_close_26 : decode bb_M_close 26 = .ok (.getfield 105, 3) := by decide +kernel
theorem dd_M_close_29 : decode bb_M_close 29 = .ok (.iconst 5, 1) := by decide +kernel
theorem dd_M_close_30 : decode bb_M_close 30 = .ok (.aload_n 0, 1) := by decide +kernel
theorem dd_M_close_31 : decode bb_M_close 31 = .ok (.getfield 172, 3) := by decide +kernel
theorem dd_M_close_34 : decode bb_M_close 34 = .ok (.imul, 1) := by decide +kernel
theorem dd_M_close_35 : decode bb_M_close 35 = .ok (.iload_n 1, 1) := by decide +kernel
theorem dd_M_close_36 : decode bb_M_close 36 = .ok (.iastore, 1) := by decide +kernel
theorem dd_M_close_37 : decode bb_M_close 37 = .ok (.aload_n 0, 1) := by decide +kernel
theorem dd_M_close_38 : decode bb_M_close 38 = .ok (.getfield 105, 3) := by decide +kernel
theorem dd_M_close_41 : decode bb_M_close 41 = .ok (.iconst 5, 1) := by decide +kernel
theorem dd_M_close_42 : decode bb_M_close 42 = .ok (.aload_n 0, 1) := by decide +kernel
theorem dd_M_close_43 : decode bb_M_close 43 = .ok (.getfield 172, 3) := by decide +kernel
theorem dd_M_close_46 : decode bb_M_close 46 = .ok (.imul, 1) := by decide +kernel
theorem dd_M_close_47 : decode bb_M_close 47 = .ok (.iconst 1, 1) := by decide +kernel
theorem dd_M_close_48 : decode bb_M_close 48 = .ok (.iadd, 1) := by decide +kernel
theorem dd_M_close_49 : decode bb_M_close 49 = .ok (.aload_n 0, 1) := by decide +kernel
theorem dd_M_close_50 : decode bb_M_close 50 = .ok (.getfield 87, 3) := by decide +kernel
theorem dd_M_close_53 : decode bb_M_close 53 = .ok (.iload_n 1, 1) := by decide +kernel
theorem dd_M_close_54 : decode bb_M_close 54 = .ok (.iaload, 1) := by decide +kernel
theorem dd_M_close_55 : decode bb_M_close 55 = .ok (.iastore, 1) := by decide +kernel
theorem dd_M_close_56 : decode bb_M_close 56 = .ok (.aload_n 0, 1) := by decide +kernel
theorem dd_M_close_57 : decode bb_M_close 57 = .ok (.getfield 105, 3) := by decide +kernel
theorem dd_M_close_60 : decode bb_M_close 60 = .ok (.iconst 5, 1) := by decide +kernel
theorem dd_M_close_61 : decode bb_M_close 61 = .ok (.aload_n 0, 1) := by decide +kernel
theorem dd_M_close_62 : decode bb_M_close 62 = .ok (.getfield 172, 3) := by decide +kernel
theorem dd_M_close_65 : decode bb_M_close 65 = .ok (.imul, 1) := by decide +kernel
theorem dd_M_close_66 : decode bb_M_close 66 = .ok (.iconst 2, 1) := by decide +kernel
theorem dd_M_close_67 : decode bb_M_close 67 = .ok (.iadd, 1) := by decide +kernel
theorem dd_M_close_68 : decode bb_M_close 68 = .ok (.aload_n 0, 1) := by decide +kernel
theorem dd_M_close_69 : decode bb_M_close 69 = .ok (.getfield 90, 3) := by decide +kernel
theorem dd_M_close_72 : decode bb_M_close 72 = .ok (.iload_n 1, 1) := by decide +kernel
theorem dd_M_close_73 : decode bb_M_close 73 = .ok (.iaload, 1) := by decide +kernel
theorem dd_M_close_74 : decode bb_M_close 74 = .ok (.iastore, 1) := by decide +kernel
theorem dd_M_close_75 : decode bb_M_close 75 = .ok (.aload_n 0, 1) := by decide +kernel
theorem dd_M_close_76 : decode bb_M_close 76 = .ok (.getfield 105, 3) := by decide +kernel
theorem dd_M_close_79 : decode bb_M_close 79 = .ok (.iconst 5, 1) := by decide +kernel
theorem dd_M_close_80 : decode bb_M_close 80 = .ok (.aload_n 0, 1) := by decide +kernel
theorem dd_M_close_81 : decode bb_M_close 81 = .ok (.getfield 172, 3) := by decide +kernel
theorem dd_M_close_84 : decode bb_M_close 84 = .ok (.imul, 1) := by decide +kernel
theorem dd_M_close_85 : decode bb_M_close 85 = .ok (.iconst 3, 1) := by decide +kernel
theorem dd_M_close_86 : decode bb_M_close 86 = .ok (.iadd, 1) := by decide +kernel
theorem dd_M_close_87 : decode bb_M_close 87 = .ok (.lload_n 2, 1) := by decide +kernel
theorem dd_M_close_88 : decode bb_M_close 88 = .ok (.l2i, 1) := by decide +kernel
theorem dd_M_close_89 : decode bb_M_close 89 = .ok (.iastore, 1) := by decide +kernel
theorem dd_M_close_90 : decode bb_M_close 90 = .ok (.aload_n 0, 1) := by decide +kernel
theorem dd_M_close_91 : decode bb_M_close 91 = .ok (.getfield 105, 3) := by decide +kernel
theorem dd_M_close_94 : decode bb_M_close 94 = .ok (.iconst 5, 1) := by decide +kernel
theorem dd_M_close_95 : decode bb_M_close 95 = .ok (.aload_n 0, 1) := by decide +kernel
theorem dd_M_close_96 : decode bb_M_close 96 = .ok (.getfield 172, 3) := by decide +kernel
theorem dd_M_close_99 : decode bb_M_close 99 = .ok (.imul, 1) := by decide +kernel
theorem dd_M_close_100 : decode bb_M_close 100 = .ok (.iconst 4, 1) := by decide +kernel
theorem dd_M_close_101 : decode bb_M_close 101 = .ok (.iadd, 1) := by decide +kernel
theorem dd_M_close_102 : decode bb_M_close 102 = .ok (.aload_n 0, 1) := by decide +kernel
theorem dd_M_close_103 : decode bb_M_close 103 = .ok (.getfield 96, 3) := by decide +kernel
theorem dd_M_close_106 : decode bb_M_close 106 = .ok (.iload_n 1, 1) := by decide +kernel
theorem dd_M_close_107 : decode bb_M_close 107 = .ok (.laload, 1) := by decide +kernel
theorem dd_M_close_108 : decode bb_M_close 108 = .ok (.aload_n 0, 1) := by decide +kernel
theorem dd_M_close_109 : decode bb_M_close 109 = .ok (.getfield 99, 3) := by decide +kernel
theorem dd_M_close_112 : decode bb_M_close 112 = .ok (.iload_n 1, 1) := by decide +kernel
theorem dd_M_close_113 : decode bb_M_close 113 = .ok (.laload, 1) := by decide +kernel
theorem dd_M_close_114 : decode bb_M_close 114 = .ok (.lsub, 1) := by decide +kernel
theorem dd_M_close_115 : decode bb_M_close 115 = .ok (.l2i, 1) := by decide +kernel
theorem dd_M_close_116 : decode bb_M_close 116 = .ok (.iastore, 1) := by decide +kernel
def ww_M_close : List Cond := .code yy_M_close bb_M_close 4 none :: TB
def rm_M_close : Room := { frames := 0, cells := 0, slots := 0, locals := 0 }
def wp_M_close_117 (o : Nat) (a1 : Int32) (post : fw_S → Prop) (S : fw_S) (y2 : Int64) : Prop := ∀ S1 : fw_S, S1 = fw_si S o 35 ((S.1 o 35) + 1) → vp_in a1 6 ∧ (vp_in (S1.1 (o + 27) a1.toNatClampNeg) 16 ∧ (vp_in (S1.1 (o + 27) a1.toNatClampNeg) 16 ∧ (∀ S5 : fw_S, S5 = fw_sl S1 (o + 33) ((S1.1 (o + 27) a1.toNatClampNeg : Int32).toNatClampNeg) ((S1.2 (o + 33) ((S1.1 (o + 27) a1.toNatClampNeg : Int32).toNatClampNeg)) + y2) → vp_in a1 6 ∧ (∀ S7 : fw_S, S7 = fw_si S5 (o + 25) a1.toNatClampNeg (fw_z 0) → post S7))))
def wp_M_close (S : fw_S) (o : Nat) (a1 : Int32) (post : fw_S → Prop) : Prop := vp_in a1 6 ∧ (∀ v2 : Int64, v2 = (((S.2 (o + 28) a1.toNatClampNeg) + 5000) / 10000) → ((((128 : Int32) ≤ (S.1 o 35)) → wp_M_close_117 o a1 post S v2) ∧ (¬ ((128 : Int32) ≤ (S.1 o 35)) → vp_in (5 * (S.1 o 35)) 640 ∧ (∀ S5 : fw_S, S5 = fw_si S (o + 32) ((5 * (S.1 o 35) : Int32).toNatClampNeg) a1 → vp_in a1 6 ∧ (vp_in ((5 * (S5.1 o 35)) + 1) 640 ∧ (∀ S8 : fw_S, S8 = fw_si S5 (o + 32) (((5 * (S5.1 o 35)) + 1 : Int32).toNatClampNeg) (S5.1 (o + 26) a1.toNatClampNeg) → vp_in a1 6 ∧ (vp_in ((5 * (S8.1 o 35)) + 2) 640 ∧ (∀ S11 : fw_S, S11 = fw_si S8 (o + 32) (((5 * (S8.1 o 35)) + 2 : Int32).toNatClampNeg) (S8.1 (o + 27) a1.toNatClampNeg) → vp_in ((5 * (S11.1 o 35)) + 3) 640 ∧ (∀ S13 : fw_S, S13 = fw_si S11 (o + 32) (((5 * (S11.1 o 35)) + 3 : Int32).toNatClampNeg) v2.toInt32 → vp_in a1 6 ∧ (vp_in a1 6 ∧ (vp_in ((5 * (S13.1 o 35)) + 4) 640 ∧ (∀ S17 : fw_S, S17 = fw_si S13 (o + 32) (((5 * (S13.1 o 35)) + 4 : Int32).toNatClampNeg) (((S13.2 (o + 29) a1.toNatClampNeg) - (S13.2 (o + 30) a1.toNatClampNeg) : Int64).toInt32) → wp_M_close_117 o a1 post S17 v2))))))))))))
set_option maxHeartbeats 4000000 in
set_option maxRecDepth 100000 in
theorem mt_M_close (l : Launch) (D : va_G) (cA : Nat → ClassId) (b : Nat) (S : fw_S) (o : Nat) (a1 : Int32) (ho : o < 245 ∧ layU o = (10, 0)) (post : fw_S → Prop) (hw : wp_M_close S o a1 post) : Met l yy_M_close ww_M_close rm_M_close (fw_Pc D CL cA (TYS cA) TK layU b 245 S [.ref (b + o), .int a1]) (va_Qv post (fw_B D CL cA TK layU b 245) (fw_A b 245)) 0 0 (fw_A b 245) := by
  refine Met.ofW (cc := bb_M_close) (maxL := 4) (ret := none) (by decide) rfl ?_
  intro p e s m args below meth c s₁ B hml hv
  obtain ⟨rfl, hP, hK⟩ := hv
  have hx := B.exec
  have hb := B.bytes
  have hr := B.returns
  have hts := atoms_spec (ws := ww_M_close) B.pre
  have hown : s.vm.findClass "OutletOfficeModel" = some m.cls := findClass_of_methodNamed B.named
  have hlocks := B.notSynchronized
  have hS : va_S (fw_A b 245) s.heap s.heap [] := va_S.rf
  have hl := lv_entry ([.ref (b + o), .int a1]) (n := 4) (Nat.le_of_ble_eq_true rfl)
  rw [lg_entry_eq]
  generalize (lg_sl ([.ref (b + o), .int a1]) ++ List.replicate (4 - (lg_sl ([.ref (b + o), .int a1])).length) Slot.unset).toArray = ls at hl ⊢
  have hl : lv_has ls 4 [(0, .ref (b + o)), (1, .int a1)] := hl
  have B117 : ∀ (S : fw_S) (y2 : Int64) (H : Heap) (locs : List Loc) (ls : Array Slot), wp_M_close_117 o a1 post S y2 → fw_P D CL cA layU b 245 (fw_v TK layU b S) H → va_S (fw_A b 245) s.heap H locs → lv_has ls 4 [(0, .ref (b + o)), (1, .int a1), (2, .long y2)] → W p l e (headSpec ww_M_close rm_M_close).room s m ([.ref (b + o), .int a1] : List Value).toArray below meth c H locs 0 0 (MQ below (va_Qv post (fw_B D CL cA TK layU b 245) (fw_A b 245)) ([.ref (b + o), .int a1] : List Value).toArray s 0 0 (fw_A b 245)) (F0 m 117 ls []) := by
      intro S y2 H locs ls hw hP hS hl
      unfold wp_M_close_117 at hw
      refine lv_aload_n hx hb dd_M_close_117 rfl (lv_at hl 0 rfl) ?_
      refine lv_dup hx hb dd_M_close_118 rfl ?_
      refine fw_geti hx hb hts in_10 hown hK hP ho (by decide) rfl 35 (by decide) (hts _ (tb_in tw_816)) tk_10_35 dd_M_close_119 ?_
      refine lv_iconst (v := 1) hx hb dd_M_close_122 kc_ic_1 ?_
      refine lv_iadd hx hb dd_M_close_123 ?_
      refine fw_puti hx hb hts in_10 F_ty_10 F_tyok_10 F_nm_10 hown hK hP hS (fw_A.in ho.1) ho (by decide) rfl 35 (by decide) (hts _ (tb_in tw_816)) rfl tk_10_35 (ty := .int) (by decide +kernel) rfl rfl dd_M_close_124 (fun H locs hP hS => ?_)
      obtain ⟨S1, e_S1⟩ : ∃ z, z = fw_si S o 35 ((S.1 o 35) + 1) := ⟨_, rfl⟩
      rw [← e_S1] at hP
      have hw := hw S1 e_S1
      refine lv_aload_n hx hb dd_M_close_127 rfl (lv_at hl 0 rfl) ?_
      refine fw_getr hx hb hts in_10 hown hK hP ho (by decide) rfl 37 (by decide) (hts _ (tb_in tw_818)) tk_10_37 dd_M_close_128 ?_
      refine lv_aload_n hx hb dd_M_close_131 rfl (lv_at hl 0 rfl) ?_
      refine fw_getr hx hb hts in_10 hown hK hP ho (by decide) rfl 30 (by decide) (hts _ (tb_in tw_811)) tk_10_30 dd_M_close_132 ?_
      refine lv_iload_n hx hb dd_M_close_135 rfl (lv_at hl 1 rfl) ?_
      obtain ⟨h2, hw⟩ := hw
      refine fw_iald hx hb hK hP (lf_10_30 ho) (by decide) 0 rfl tka_100 h2 dd_M_close_136 ?_
      refine lv_dup2_11 hx hb dd_M_close_137 rfl rfl ?_
      obtain ⟨h3, hw⟩ := hw
      refine fw_lald hx hb hK hP (lf_10_37 ho) (by decide) 1 rfl tka_101 h3 dd_M_close_138 ?_
      refine lv_lload_n hx hb dd_M_close_139 rfl (lv_at hl 2 rfl) ?_
      refine lv_ladd hx hb dd_M_close_140 ?_
      obtain ⟨h4, hw⟩ := hw
      refine fw_last hx hb hK hP hS (fw_A.in (lf_10_37 ho).1) (lf_10_37 ho) (by decide) 1 rfl tka_101 h4 dd_M_close_141 (fun H locs hP hS => ?_)
      obtain ⟨S5, e_S5⟩ : ∃ z, z = fw_sl S1 (o + 33) ((S1.1 (o + 27) a1.toNatClampNeg : Int32).toNatClampNeg) ((S1.2 (o + 33) ((S1.1 (o + 27) a1.toNatClampNeg : Int32).toNatClampNeg)) + y2) := ⟨_, rfl⟩
      rw [← e_S5] at hP
      have hw := hw S5 e_S5
      refine lv_aload_n hx hb dd_M_close_142 rfl (lv_at hl 0 rfl) ?_
      refine fw_getr hx hb hts in_10 hown hK hP ho (by decide) rfl 28 (by decide) (hts _ (tb_in tw_809)) tk_10_28 dd_M_close_143 ?_
      refine lv_iload_n hx hb dd_M_close_146 rfl (lv_at hl 1 rfl) ?_
      refine lv_iconst (v := 0) hx hb dd_M_close_147 kc_ic_0 ?_
      obtain ⟨h6, hw⟩ := hw
      refine fw_zast hx hb hK hP hS (fw_A.in (lf_10_28 ho).1) (lf_10_28 ho) (by decide) 2 rfl tka_102 h6 dd_M_close_148 (fun H locs hP hS => ?_)
      obtain ⟨S7, e_S7⟩ : ∃ z, z = fw_si S5 (o + 25) a1.toNatClampNeg (fw_z 0) := ⟨_, rfl⟩
      rw [← e_S7] at hP
      have hw := hw S7 e_S7
      exact W.vret hx hb hr (fun t ht hW => ⟨⟨_, rfl, hw, fw_Bof ht hP⟩, hS.F ht⟩) hS.2.2 dd_M_close_149
  unfold wp_M_close at hw
  refine lv_aload_n hx hb dd_M_close_0 rfl (lv_at hl 0 rfl) ?_
  refine fw_getr hx hb hts in_10 hown hK hP ho (by decide) rfl 31 (by decide) (hts _ (tb_in tw_812)) tk_10_31 dd_M_close_1 ?_
  refine lv_iload_n hx hb dd_M_close_4 rfl (lv_at hl 1 rfl) ?_
  obtain ⟨h1, hw⟩ := hw
  refine fw_lald hx hb hK hP (lf_10_31 ho) (by decide) 1 rfl tka_101 h1 dd_M_close_5 ?_
  refine lv_ldc2 (v := 5000) hx hb hown (hts _ (tb_in tw_1004)) dd_M_close_6 ?_
  refine lv_ladd hx hb dd_M_close_9 ?_
  refine lv_ldc2 (v := 10000) hx hb hown (hts _ (tb_in tw_1005)) dd_M_close_10 ?_
  refine lv_ldiv hx hb dd_M_close_13 (by decide) ?_
  refine lv_topl (fun v2 e_v2 => ?_)
  have hw := hw v2 e_v2
  refine lv_lstore_n hx hb dd_M_close_14 rfl hl (Nat.le_of_ble_eq_true rfl) rfl (fun ls hl => ?_)
  have hl : lv_has ls 4 [(2, .long v2), (0, .ref (b + o)), (1, .int a1)] := hl
  refine lv_aload_n hx hb dd_M_close_15 rfl (lv_at hl 1 rfl) ?_
  refine fw_geti hx hb hts in_10 hown hK hP ho (by decide) rfl 35 (by decide) (hts _ (tb_in tw_816)) tk_10_35 dd_M_close_16 ?_
  refine lv_sipush (v := 128) hx hb dd_M_close_19 kc_sp_128 ?_
  refine lv_icmp_ge (tgt := 117) hx hb dd_M_close_22 (by decide) (fun h3 => ?_) (fun h3 => ?_)
  · have hw := hw.1 h3
    exact B117 S v2 _ _ ls hw hP hS (lv_sub hl [1, 2, 0] rfl)
  · have hw := hw.2 h3
    refine lv_aload_n hx hb dd_M_close_25 rfl (lv_at hl 1 rfl) ?_
    refine fw_getr hx hb hts in_10 hown hK hP ho (by decide) rfl 36 (by decide) (hts _ (tb_in tw_817)) tk_10_36 dd_M_close_26 ?_
    refine lv_iconst (v := 5) hx hb dd_M_close_29 kc_ic_5 ?_
    refine lv_aload_n hx hb dd_M_close_30 rfl (lv_at hl 1 rfl) ?_
    refine fw_geti hx hb hts in_10 hown hK hP ho (by decide) rfl 35 (by decide) (hts _ (tb_in tw_816)) tk_10_35 dd_M_close_31 ?_
    refine lv_imul hx hb dd_M_close_34 ?_
    refine lv_iload_n hx hb dd_M_close_35 rfl (lv_at hl 2 rfl) ?_
    obtain ⟨h4, hw⟩ := hw
    refine fw_iast hx hb hK hP hS (fw_A.in (lf_10_36 ho).1) (lf_10_36 ho) (by decide) 0 rfl tka_100 h4 dd_M_close_36 (fun H locs hP hS => ?_)
    obtain ⟨S5, e_S5⟩ : ∃ z, z = fw_si S (o + 32) ((5 * (S.1 o 35) : Int32).toNatClampNeg) a1 := ⟨_, rfl⟩
    rw [← e_S5] at hP
    have hw := hw S5 e_S5
    refine lv_aload_n hx hb dd_M_close_37 rfl (lv_at hl 1 rfl) ?_
    refine fw_getr hx hb hts in_10 hown hK hP ho (by decide) rfl 36 (by decide) (hts _ (tb_in tw_817)) tk_10_36 dd_M_close_38 ?_
    refine lv_iconst (v := 5) hx hb dd_M_close_41 kc_ic_5 ?_
    refine lv_aload_n hx hb dd_M_close_42 rfl (lv_at hl 1 rfl) ?_
    refine fw_geti hx hb hts in_10 hown hK hP ho (by decide) rfl 35 (by decide) (hts _ (tb_in tw_816)) tk_10_35 dd_M_close_43 ?_
    refine lv_imul hx hb dd_M_close_46 ?_
    refine lv_iconst (v := 1) hx hb dd_M_close_47 kc_ic_1 ?_
    refine lv_iadd hx hb dd_M_close_48 ?_
    refine lv_aload_n hx hb dd_M_close_49 rfl (lv_at hl 1 rfl) ?_
    refine fw_getr hx hb hts in_10 hown hK hP ho (by decide) rfl 29 (by decide) (hts _ (tb_in tw_810)) tk_10_29 dd_M_close_50 ?_
    refine lv_iload_n hx hb dd_M_close_53 rfl (lv_at hl 2 rfl) ?_
    obtain ⟨h6, hw⟩ := hw
    refine fw_iald hx hb hK hP (lf_10_29 ho) (by decide) 0 rfl tka_100 h6 dd_M_close_54 ?_
    obtain ⟨h7, hw⟩ := hw
    refine fw_iast hx hb hK hP hS (fw_A.in (lf_10_36 ho).1) (lf_10_36 ho) (by decide) 0 rfl tka_100 h7 dd_M_close_55 (fun H locs hP hS => ?_)
    obtain ⟨S8, e_S8⟩ : ∃ z, z = fw_si S5 (o + 32) (((5 * (S5.1 o 35)) + 1 : Int32).toNatClampNeg) (S5.1 (o + 26) a1.toNatClampNeg) := ⟨_, rfl⟩
    rw [← e_S8] at hP
    have hw := hw S8 e_S8
    refine lv_aload_n hx hb dd_M_close_56 rfl (lv_at hl 1 rfl) ?_
    refine fw_getr hx hb hts in_10 hown hK hP ho (by decide) rfl 36 (by decide) (hts _ (tb_in tw_817)) tk_10_36 dd_M_close_57 ?_
    refine lv_iconst (v := 5) hx hb dd_M_close_60 kc_ic_5 ?_
    refine lv_aload_n hx hb dd_M_close_61 rfl (lv_at hl 1 rfl) ?_
    refine fw_geti hx hb hts in_10 hown hK hP ho (by decide) rfl 35 (by decide) (hts _ (tb_in tw_816)) tk_10_35 dd_M_close_62 ?_
    refine lv_imul hx hb dd_M_close_65 ?_
    refine lv_iconst (v := 2) hx hb dd_M_close_66 kc_ic_2 ?_
    refine lv_iadd hx hb dd_M_close_67 ?_
    refine lv_aload_n hx hb dd_M_close_68 rfl (lv_at hl 1 rfl) ?_
    refine fw_getr hx hb hts in_10 hown hK hP ho (by decide) rfl 30 (by decide) (hts _ (tb_in tw_811)) tk_10_30 dd_M_close_69 ?_
    refine lv_iload_n hx hb dd_M_close_72 rfl (lv_at hl 2 rfl) ?_
    obtain ⟨h9, hw⟩ := hw
    refine fw_iald hx hb hK hP (lf_10_30 ho) (by decide) 0 rfl tka_100 h9 dd_M_close_73 ?_
    obtain ⟨h10, hw⟩ := hw
    refine fw_iast hx hb hK hP hS (fw_A.in (lf_10_36 ho).1) (lf_10_36 ho) (by decide) 0 rfl tka_100 h10 dd_M_close_74 (fun H locs hP hS => ?_)
    obtain ⟨S11, e_S11⟩ : ∃ z, z = fw_si S8 (o + 32) (((5 * (S8.1 o 35)) + 2 : Int32).toNatClampNeg) (S8.1 (o + 27) a1.toNatClampNeg) := ⟨_, rfl⟩
    rw [← e_S11] at hP
    have hw := hw S11 e_S11
    refine lv_aload_n hx hb dd_M_close_75 rfl (lv_at hl 1 rfl) ?_
    refine fw_getr hx hb hts in_10 hown hK hP ho (by decide) rfl 36 (by decide) (hts _ (tb_in tw_817)) tk_10_36 dd_M_close_76 ?_
    refine lv_iconst (v := 5) hx hb dd_M_close_79 kc_ic_5 ?_
    refine lv_aload_n hx hb dd_M_close_80 rfl (lv_at hl 1 rfl) ?_
    refine fw_geti hx hb hts in_10 hown hK hP ho (by decide) rfl 35 (by decide) (hts _ (tb_in tw_816)) tk_10_35 dd_M_close_81 ?_
    refine lv_imul hx hb dd_M_close_84 ?_
    refine lv_iconst (v := 3) hx hb dd_M_close_85 kc_ic_3 ?_
    refine lv_iadd hx hb dd_M_close_86 ?_
    refine lv_lload_n hx hb dd_M_close_87 rfl (lv_at hl 0 rfl) ?_
    refine lv_l2i hx hb dd_M_close_88 rfl ?_
    obtain ⟨h12, hw⟩ := hw
    refine fw_iast hx hb hK hP hS (fw_A.in (lf_10_36 ho).1) (lf_10_36 ho) (by decide) 0 rfl tka_100 h12 dd_M_close_89 (fun H locs hP hS => ?_)
    obtain ⟨S13, e_S13⟩ : ∃ z, z = fw_si S11 (o + 32) (((5 * (S11.1 o 35)) + 3 : Int32).toNatClampNeg) v2.toInt32 := ⟨_, rfl⟩
    rw [← e_S13] at hP
    have hw := hw S13 e_S13
    refine lv_aload_n hx hb dd_M_close_90 rfl (lv_at hl 1 rfl) ?_
    refine fw_getr hx hb hts in_10 hown hK hP ho (by decide) rfl 36 (by decide) (hts _ (tb_in tw_817)) tk_10_36 dd_M_close_91 ?_
    refine lv_iconst (v := 5) hx hb dd_M_close_94 kc_ic_5 ?_
    refine lv_aload_n hx hb dd_M_close_95 rfl (lv_at hl 1 rfl) ?_
    refine fw_geti hx hb hts in_10 hown hK hP ho (by decide) rfl 35 (by decide) (hts _ (tb_in tw_816)) tk_10_35 dd_M_close_96 ?_
    refine lv_imul hx hb dd_M_close_99 ?_
    refine lv_iconst (v := 4) hx hb dd_M_close_100 kc_ic_4 ?_
    refine lv_iadd hx hb dd_M_close_101 ?_
    refine lv_aload_n hx hb dd_M_close_102 rfl (lv_at hl 1 rfl) ?_
    refine fw_getr hx hb hts in_10 hown hK hP ho (by decide) rfl 32 (by decide) (hts _ (tb_in tw_813)) tk_10_32 dd_M_close_103 ?_
    refine lv_iload_n hx hb dd_M_close_106 rfl (lv_at hl 2 rfl) ?_
    obtain ⟨h14, hw⟩ := hw
    refine fw_lald hx hb hK hP (lf_10_32 ho) (by decide) 1 rfl tka_101 h14 dd_M_close_107 ?_
    refine lv_aload_n hx hb dd_M_close_108 rfl (lv_at hl 1 rfl) ?_
    refine fw_getr hx hb hts in_10 hown hK hP ho (by decide) rfl 33 (by decide) (hts _ (tb_in tw_814)) tk_10_33 dd_M_close_109 ?_
    refine lv_iload_n hx hb dd_M_close_112 rfl (lv_at hl 2 rfl) ?_
    obtain ⟨h15, hw⟩ := hw
    refine fw_lald hx hb hK hP (lf_10_33 ho) (by decide) 1 rfl tka_101 h15 dd_M_close_113 ?_
    refine lv_lsub hx hb dd_M_close_114 ?_
    refine lv_l2i hx hb dd_M_close_115 rfl ?_
    obtain ⟨h16, hw⟩ := hw
    refine fw_iast hx hb hK hP hS (fw_A.in (lf_10_36 ho).1) (lf_10_36 ho) (by decide) 0 rfl tka_100 h16 dd_M_close_116 (fun H locs hP hS => ?_)
    obtain ⟨S17, e_S17⟩ : ∃ z, z = fw_si S13 (o + 32) (((5 * (S13.1 o 35)) + 4 : Int32).toNatClampNeg) (((S13.2 (o + 29) a1.toNatClampNeg) - (S13.2 (o + 30) a1.toNatClampNeg) : Int64).toInt32) := ⟨_, rfl⟩
    rw [← e_S17] at hP
    have hw := hw S17 e_S17
    exact B117 S17 v2 _ _ ls hw hP hS (lv_sub hl [1, 2, 0] rfl)
