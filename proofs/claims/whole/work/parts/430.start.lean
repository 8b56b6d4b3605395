set_option maxRecDepth 100000 in
theorem tw_19 : Cond.classLink "OutletOfficeLaw" 8 "OutletOffice" ∈ TB := tb_of (i := 49) rfl rfl
set_option maxRecDepth 100000 in
theorem tw_775 : Cond.classLink "OutletOfficeLaw" 86 "OutletOfficeModel" ∈ TB := tb_of (i := 805) rfl rfl
set_option maxRecDepth 100000 in
theorem tw_22 : Cond.instanceMethod ⟨"OutletOffice", "<init>", "()V"⟩ ∈ TB := tb_of (i := 52) rfl rfl
set_option maxRecDepth 100000 in
theorem tw_778 : Cond.instanceMethod ⟨"OutletOfficeModel", "<init>", "()V"⟩ ∈ TB := tb_of (i := 808) rfl rfl
set_option maxRecDepth 100000 in
theorem tw_20 : Cond.instantiable "OutletOffice" 3 ∈ TB := tb_of (i := 50) rfl rfl
set_option maxRecDepth 100000 in
theorem tw_776 : Cond.instantiable "OutletOfficeModel" 40 ∈ TB := tb_of (i := 806) rfl rfl
set_option maxRecDepth 100000 in
theorem tw_21 : Cond.methodLink "OutletOfficeLaw" 85 ⟨"OutletOffice", "<init>", "()V"⟩ ∈ TB := tb_of (i := 51) rfl rfl
set_option maxRecDepth 100000 in
theorem tw_777 : Cond.methodLink "OutletOfficeLaw" 88 ⟨"OutletOfficeModel", "<init>", "()V"⟩ ∈ TB := tb_of (i := 807) rfl rfl
set_option maxRecDepth 100000 in
theorem tw_23 : Cond.code yy_Out_init bb_Out_init 2 (none : Option Jvm.ClassFile.FieldType) ∈ TB := tb_of (i := 53) rfl rfl
set_option maxRecDepth 100000 in
theorem tw_779 : Cond.code yy_M_init bb_M_init 1 (none : Option Jvm.ClassFile.FieldType) ∈ TB := tb_of (i := 809) rfl rfl
set_option maxRecDepth 100000 in
theorem st_C {args : Array Value} {s : State} (hts : ∀ w ∈ lw_tbl, w.before args s = true) : ∀ c : Nat, ∃ z : ClassId × (Nat → Nat), ∀ q, CL[c]? = some q → u_Kn s q.1 q.2.1 q.2.2 z.1 z.2 := by
  intro c
  match c with
  | 0 =>
    obtain ⟨a, b, h⟩ := u_known (n := 3) hts (fun w hw => (inB_0 w hw).1) (hts (.instantiable "OutletOffice" 3) (List.mem_of_getElem? (i := 50) rfl))
    exact ⟨(a, b), fun q hq => by cases hq; exact h⟩
  | 1 =>
    obtain ⟨a, b, h⟩ := u_known (n := 2) hts (fun w hw => (inB_1 w hw).1) (hts (.instantiable "OutletOffice$Site" 2) (List.mem_of_getElem? (i := 169) rfl))
    exact ⟨(a, b), fun q hq => by cases hq; exact h⟩
  | 2 =>
    obtain ⟨a, b, h⟩ := u_known (n := 12) hts (fun w hw => (inB_2 w hw).1) (hts (.instantiable "OutletOffice$Point" 12) (List.mem_of_getElem? (i := 176) rfl))
    exact ⟨(a, b), fun q hq => by cases hq; exact h⟩
  | 3 =>
    obtain ⟨a, b, h⟩ := u_known (n := 6) hts (fun w hw => (inB_3 w hw).1) (hts (.instantiable "OutletOffice$Car" 6) (List.mem_of_getElem? (i := 182) rfl))
    exact ⟨(a, b), fun q hq => by cases hq; exact h⟩
  | 4 =>
    obtain ⟨a, b, h⟩ := u_known (n := 5) hts (fun w hw => (inB_4 w hw).1) (hts (.instantiable "OutletOffice$Queue" 5) (List.mem_of_getElem? (i := 214) rfl))
    exact ⟨(a, b), fun q hq => by cases hq; exact h⟩
  | 5 =>
    obtain ⟨a, b, h⟩ := u_known (n := 6) hts (fun w hw => (inB_5 w hw).1) (hts (.instantiable "OutletOffice$Message" 6) (List.mem_of_getElem? (i := 221) rfl))
    exact ⟨(a, b), fun q hq => by cases hq; exact h⟩
  | 6 =>
    obtain ⟨a, b, h⟩ := u_known (n := 2) hts (fun w hw => (inB_6 w hw).1) (hts (.instantiable "OutletOffice$CardList" 2) (List.mem_of_getElem? (i := 66) rfl))
    exact ⟨(a, b), fun q hq => by cases hq; exact h⟩
  | 7 =>
    obtain ⟨a, b, h⟩ := u_known (n := 4) hts (fun w hw => (inB_7 w hw).1) (hts (.instantiable "OutletOffice$Tariff" 4) (List.mem_of_getElem? (i := 80) rfl))
    exact ⟨(a, b), fun q hq => by cases hq; exact h⟩
  | 8 =>
    obtain ⟨a, b, h⟩ := u_known (n := 7) hts (fun w hw => (inB_8 w hw).1) (hts (.instantiable "OutletOffice$Bill" 7) (List.mem_of_getElem? (i := 104) rfl))
    exact ⟨(a, b), fun q hq => by cases hq; exact h⟩
  | 9 =>
    obtain ⟨a, b, h⟩ := u_known (n := 7) hts (fun w hw => (inB_9 w hw).1) (hts (.instantiable "OutletOffice$Office" 7) (List.mem_of_getElem? (i := 60) rfl))
    exact ⟨(a, b), fun q hq => by cases hq; exact h⟩
  | 10 =>
    obtain ⟨a, b, h⟩ := u_known (n := 40) hts (fun w hw => (inB_10 w hw).1) (hts (.instantiable "OutletOfficeModel" 40) (List.mem_of_getElem? (i := 806) rfl))
    exact ⟨(a, b), fun q hq => by cases hq; exact h⟩
  | n + 11 => exact ⟨(0, fun _ => 0), fun q hq => by simp [CL] at hq⟩
def st_ty : List FieldType := [.int, .long, .boolean, .object "OutletOffice$Site", .object "OutletOffice$Point", .object "OutletOffice$Message", .object "OutletOffice$Bill"]
set_option maxRecDepth 100000 in
theorem st_A {args : Array Value} {s : State} (hts : ∀ w ∈ lw_tbl, w.before args s = true) : ∀ k : Nat, ∃ c : ClassId, ∀ ty, st_ty[k]? = some ty → ArrOfT s c ty ∧ va_RA s c ty := by
  intro k
  match k with
  | 0 =>
    obtain ⟨c, kA, comp, h1, h2, h3⟩ := Cond.arrayClass_spec (hts (.arrayClass .int) (List.mem_of_getElem? (i := 78) rfl))
    exact ⟨c, fun ty hty => by cases hty; exact ⟨fun n z => ⟨fun q h => (by cases h), kA, h2, comp, h3⟩, h1⟩⟩
  | 1 =>
    obtain ⟨c, kA, comp, h1, h2, h3⟩ := Cond.arrayClass_spec (hts (.arrayClass .long) (List.mem_of_getElem? (i := 140) rfl))
    exact ⟨c, fun ty hty => by cases hty; exact ⟨fun n z => ⟨fun q h => (by cases h), kA, h2, comp, h3⟩, h1⟩⟩
  | 2 =>
    obtain ⟨c, kA, comp, h1, h2, h3⟩ := Cond.arrayClass_spec (hts (.arrayClass .boolean) (List.mem_of_getElem? (i := 932) rfl))
    exact ⟨c, fun ty hty => by cases hty; exact ⟨fun n z => ⟨fun q h => (by cases h), kA, h2, comp, h3⟩, h1⟩⟩
  | 3 =>
    obtain ⟨comp, c, kA, h1, -, h3, h4, h5⟩ := Cond.arrayOver_spec (hts (.arrayOver (.object "OutletOffice$Site")) (List.mem_of_getElem? (i := 58) rfl))
    exact ⟨c, fun ty hty => by cases hty; exact ⟨fun n z => ⟨fun q h => (by cases h), kA, h3, comp, h4⟩, kA, comp, h3, h4, h1, h5⟩⟩
  | 4 =>
    obtain ⟨comp, c, kA, h1, -, h3, h4, h5⟩ := Cond.arrayOver_spec (hts (.arrayOver (.object "OutletOffice$Point")) (List.mem_of_getElem? (i := 175) rfl))
    exact ⟨c, fun ty hty => by cases hty; exact ⟨fun n z => ⟨fun q h => (by cases h), kA, h3, comp, h4⟩, kA, comp, h3, h4, h1, h5⟩⟩
  | 5 =>
    obtain ⟨comp, c, kA, h1, -, h3, h4, h5⟩ := Cond.arrayOver_spec (hts (.arrayOver (.object "OutletOffice$Message")) (List.mem_of_getElem? (i := 220) rfl))
    exact ⟨c, fun ty hty => by cases hty; exact ⟨fun n z => ⟨fun q h => (by cases h), kA, h3, comp, h4⟩, kA, comp, h3, h4, h1, h5⟩⟩
  | 6 =>
    obtain ⟨comp, c, kA, h1, -, h3, h4, h5⟩ := Cond.arrayOver_spec (hts (.arrayOver (.object "OutletOffice$Bill")) (List.mem_of_getElem? (i := 103) rfl))
    exact ⟨c, fun ty hty => by cases hty; exact ⟨fun n z => ⟨fun q h => (by cases h), kA, h3, comp, h4⟩, kA, comp, h3, h4, h1, h5⟩⟩
  | n + 7 => exact ⟨0, fun ty hty => by simp [st_ty] at hty⟩
theorem st_K {args : Array Value} {s : State} (hts : ∀ w ∈ lw_tbl, w.before args s = true) : ∃ (D : va_G) (cA : Nat → ClassId), va_K D CL (TYS cA) s := by
  obtain ⟨f, hf⟩ := Classical.axiomOfChoice (st_C hts)
  obtain ⟨g, hg⟩ := Classical.axiomOfChoice (st_A hts)
  refine ⟨(fun c => (f c).1, fun c => (f c).2), fun kd => g (kd - 100), fun c q hq => hf c q hq, fun k q hk => ?_⟩
  match k with
  | 0 => cases hk; exact hg 0 _ rfl
  | 1 => cases hk; exact hg 1 _ rfl
  | 2 => cases hk; exact hg 2 _ rfl
  | 3 => cases hk; exact hg 3 _ rfl
  | 4 => cases hk; exact hg 4 _ rfl
  | 5 => cases hk; exact hg 5 _ rfl
  | 6 => cases hk; exact hg 6 _ rfl
  | n + 7 => simp [TYS] at hk
set_option maxRecDepth 100000 in
theorem st_V {args : Array Value} {s : State} (hts : ∀ w ∈ lw_tbl, w.before args s = true) : tv s := by
  refine ⟨fun q hq => va_Nw.of rfl (hts _ ?_), va_AO.of (hts _ (List.mem_of_getElem? (i := 58) rfl)), va_AO.of (hts _ (List.mem_of_getElem? (i := 103) rfl)), va_AO.of (hts _ (List.mem_of_getElem? (i := 175) rfl)), va_AO.of (hts _ (List.mem_of_getElem? (i := 220) rfl))⟩
  simp only [tv_N, List.mem_cons, List.not_mem_nil, or_false] at hq
  rcases hq with rfl | rfl | rfl | rfl | rfl | rfl
  · exact List.mem_of_getElem? (i := 67) rfl
  · exact List.mem_of_getElem? (i := 105) rfl
  · exact List.mem_of_getElem? (i := 177) rfl
  · exact List.mem_of_getElem? (i := 183) rfl
  · exact List.mem_of_getElem? (i := 222) rfl
  · exact List.mem_of_getElem? (i := 271) rfl
set_option maxRecDepth 100000 in
theorem st_Z {bs : Nat} {s : State} (hts : ∀ w ∈ lw_tbl, w.before #[Value.ref bs] s = true) (hgv : (Jvm.Cond.and given_1 narrow_1).before #[Value.ref bs] s = true) : tz (fw_A s.heap.size 245) s := by
  have hs := flat_of_before _ hgv
  have hA : ∀ a : Nat, a < s.heap.size → ¬ fw_A s.heap.size 245 a := fun a h z => by have := z.1; omega
  have hini : (Cond.initialized Bundle.tN).before #[Value.ref bs] s = true := hts _ (List.mem_of_getElem? (i := 42) rfl)
  have hl1 : (Cond.laysStatic Bundle.tN "UNASSIGNED_STACK" Bundle.steD).before #[Value.ref bs] s = true := hts _ (List.mem_of_getElem? (i := 388) rfl)
  have hl2 : (Cond.laysStatic Bundle.tN "SUPPRESSED_SENTINEL" Bundle.listD).before #[Value.ref bs] s = true := hts _ (List.mem_of_getElem? (i := 390) rfl)
  have hr1 : (Cond.isRef (.static Bundle.tN "UNASSIGNED_STACK" Bundle.steD)).before #[Value.ref bs] s = true := hs _ (by decide +kernel)
  have hr2 : (Cond.isRef (.static Bundle.tN "SUPPRESSED_SENTINEL" Bundle.listD)).before #[Value.ref bs] s = true := hs _ (by decide +kernel)
  have hL : ∀ {C n d : String}, (Cond.laysStatic C n d).before #[Value.ref bs] s = true → tz_L C n d (fw_A s.heap.size 245) s s.heap := by
    intro C n d h
    obtain ⟨c, k, i, f, a, cell, h1, h2, h3, h4, h5, h6, h7, h8, h9⟩ := Cond.laysStatic_spec h
    exact ⟨c, k, i, f, a, cell, h1, h2, h3, h4, h5, h6, h7, h8, h9, hA a (Array.getElem?_eq_some_iff.mp h5).1⟩
  have hS : ∀ {k : Nat} {tx : String}, (Cond.stringRef "OutletOffice" k tx).before #[Value.ref bs] s = true → (Cond.exactly (.string "OutletOffice" k) "java/lang/String").before #[Value.ref bs] s = true → ∃ a, vk_R "OutletOffice" k tx a s := by
    intro k tx h1 h2
    obtain ⟨a, c, cA, kA, q1, -⟩ := Cond.exactly_spec (args := #[Value.ref bs]) (first := s) (o := none) (s := s) (idx := []) (t := .string "OutletOffice" k) (cls := "java/lang/String") h2
    exact ⟨a, vk_R.of h1 q1⟩
  refine ⟨⟨⟨va_Zqof hl1 hini hr1 hA, hL hl1⟩, va_Zqof hl2 hini hr2 hA, hL hl2⟩, ⟨hS (hts _ (List.mem_of_getElem? (i := 401) rfl)) (hs _ (by decide +kernel)), hS (hts _ (List.mem_of_getElem? (i := 440) rfl)) (hs _ (by decide +kernel))⟩, ⟨⟨(va_Nw.of rfl (hts _ (List.mem_of_getElem? (i := 363) rfl))), (va_Nw.of rfl (hts _ (List.mem_of_getElem? (i := 433) rfl)))⟩, fun x hx => ?_⟩, va_Nc.of (hs (.not (.castable "java/lang/IllegalArgumentException" "java/lang/IndexOutOfBoundsException")) (by decide +kernel))⟩
  simp only [tz_M, List.mem_cons, List.not_mem_nil, or_false] at hx
  rcases hx with rfl | rfl | rfl
  · exact (va_Nw.of rfl (hts _ (List.mem_of_getElem? (i := 365) rfl)))
  · exact (va_Nw.of rfl (hts _ (List.mem_of_getElem? (i := 367) rfl)))
  · exact (va_Nw.of rfl (hts _ (List.mem_of_getElem? (i := 369) rfl)))
theorem st_congr {D : va_G} {cA : Nat → ClassId} {b n : Nat} {V V' : fw_V} {H : Heap} (h : ∀ x, x < n → ∀ k, k < slc (layU x) → V x k = V' x k) (hP : fw_P D CL cA layU b n V H) : fw_P D CL cA layU b n V' H := by
  intro x hx
  have h1 := hP x hx
  have h2 := h x hx
  unfold fw_at at h1 ⊢
  by_cases e : (layU x).1 < 100
  · rw [if_pos e] at h1 ⊢
    obtain ⟨r, hr, h3⟩ := h1
    refine ⟨r, hr, h3.to (fun k hk => h2 k ?_)⟩
    unfold slc
    rw [if_pos e]
    have h4 : ∀ c, c < 100 → ∀ q, CL[c]? = some q → slN.getD c 0 = q.2.2 := by
      intro c _ q hq
      match c with
      | 0 => cases hq; rfl
      | 1 => cases hq; rfl
      | 2 => cases hq; rfl
      | 3 => cases hq; rfl
      | 4 => cases hq; rfl
      | 5 => cases hq; rfl
      | 6 => cases hq; rfl
      | 7 => cases hq; rfl
      | 8 => cases hq; rfl
      | 9 => cases hq; rfl
      | 10 => cases hq; rfl
      | n + 11 => simp [CL] at hq
    rw [h4 _ e _ hr]
    exact hk
  · rw [if_neg e] at h1 ⊢
    rw [h1]
    have h5 : ∀ k, k < (layU x).2 → V x k = V' x k := fun k hk => h2 k (by unfold slc; rw [if_neg e]; exact hk)
    congr 1
    unfold arrV
    congr 1
    congr 1
    funext j
    exact h5 j.val j.isLt
theorem dd_Law_law_0 : decode bb_Law_law 0 = .ok (.new 8, 3) := by decide +kernel
theorem dd_Law_law_3 : decode bb_Law_law 3 = .ok (.dup, 1) := by decide +kernel
theorem dd_Law_law_4 : decode bb_Law_law 4 = .ok (.invokespecial 85, 3) := by decide +kernel
theorem dd_Law_law_7 : decode bb_Law_law 7 = .ok (.astore_n 1, 1) := by decide +kernel
theorem dd_Law_law_8 : decode bb_Law_law 8 = .ok (.new 86, 3) := by decide +kernel
theorem dd_Law_law_11 : decode bb_Law_law 11 = .ok (.dup, 1) := by decide +kernel
theorem dd_Law_law_12 : decode bb_Law_law 12 = .ok (.invokespecial 88, 3) := by decide +kernel
theorem dd_Law_law_15 : decode bb_Law_law 15 = .ok (.astore_n 2, 1) := by decide +kernel
theorem dd_Law_law_16 : decode bb_Law_law 16 = .ok (.iconst 1, 1) := by decide +kernel
theorem dd_Law_law_17 : decode bb_Law_law 17 = .ok (.newarray .long, 2) := by decide +kernel
theorem dd_Law_law_19 : decode bb_Law_law 19 = .ok (.astore_n 3, 1) := by decide +kernel
theorem dd_Law_law_20 : decode bb_Law_law 20 = .ok (.iconst 0, 1) := by decide +kernel
theorem dd_Law_law_21 : decode bb_Law_law 21 = .ok (.istore 4, 2) := by decide +kernel
/-- what the making must give: the block as the loop wants it -/
def ws_law (b : Nat) (post : fw_V → Prop) : Prop := wv_Out_init b 1 (fw_nw (fun _ _ => .null) 0 (fun k => defaultValue (F_ty_0 k))) 0 (fun n2 V2 => wv_M_init b 210 (fw_nw V2 209 (fun k => defaultValue (F_ty_10 k))) 209 (fun n4 V4 => post (fw_nw V4 244 (fun _ => defaultValue .long))))
set_option maxHeartbeats 4000000 in
set_option maxRecDepth 100000 in
theorem lw_start {p : Program} {e : Env} {s : State} {m : MethodId} {below : List Frame} {meth : Method} {c : Code} (l : Launch) (hl9 : l.stackTraces = false) {bs L : Nat} {xs : Nat → Int32} (C0 : lw_At p s m meth c bs L xs)
    (hw : ∀ b, ws_law b (fun V => ∃ S : fw_S, (∀ x, x < 245 → ∀ k, k < slc (layU x) → V x k = fw_v TK layU b S x k) ∧ ∃ f0, wp_Law_law_23 L xs f0 S 0)) : W p l e room_1 s m #[Value.ref bs] below meth c s.heap [] 0 0 (lw_Z below #[Value.ref bs] s) (entryFrame m ([Value.ref bs] : List Value).toArray 8) := by
  obtain ⟨hx, hb, hr, hml, hown, htl, hX, hbl, hlocks, hgv⟩ := C0
  obtain ⟨D, cA, hK⟩ := st_K htl
  have hV := st_V htl
  have hZ := st_Z htl hgv
  have hts : ∀ w ∈ Cond.tt :: TB, w.before #[Value.ref bs] s = true := fun w hw => by
    rcases List.mem_cons.mp hw with rfl | h
    · rfl
    · exact htl w (List.mem_filter.mp h).1
  have hw := hw s.heap.size
  obtain ⟨b, hb0⟩ : ∃ z, z = s.heap.size := ⟨_, rfl⟩
  rw [← hb0] at hw hZ
  have hbA : ¬ fw_A b 245 bs := fun z => by have := z.1; omega
  have hS : va_S (fw_Ac b) s.heap s.heap [] := va_S.rf
  have hl := lv_entry ([.ref bs]) (n := 8) (Nat.le_of_ble_eq_true rfl)
  rw [lg_entry_eq]
  generalize (lg_sl ([.ref bs]) ++ List.replicate (8 - (lg_sl ([.ref bs])).length) Slot.unset).toArray = ls at hl ⊢
  have hl : lv_has ls 8 [(0, .ref bs)] := hl
  have hP : fw_P D CL cA layU b 0 (fun _ _ => .null) s.heap := fun o ho => absurd ho (Nat.not_lt_zero o)
  have hz : s.heap.size = b + 0 := by omega
  unfold ws_law at hw
  refine fw_newO hx hb hts in_0 F_ty_0 F_tyok_0 hown (hts _ (tb_in tw_19)) (hts _ (tb_in tw_20)) (hts _ (tb_in tw_1)) hK hP hz hS (ci := 0) (len := 0) (by decide +kernel) (by decide) rfl (show 0 + 1 ≤ 601024 by omega) (show 0 + 3 ≤ 7293034 by omega) dd_Law_law_0 (fun H hP hz hS => ?_)
  refine lv_dup hx hb dd_Law_law_3 rfl ?_
  refine fw_callV (va_runI (As := []) (rest := [.ref (b + 0)]) ⟨hx, hb, hml, hown, hts⟩ (mv_Out_init l D cA b 1 _ 0 (by decide +kernel) _ hw) (cwI 0 hts (fw_g tw_23) rfl rfl rfl (hts _ (tb_in tw_1)) (hts _ (tb_in tw_21)) (hts _ (tb_in tw_22)) rfl (by decide +kernel) ⟨Nat.le_of_ble_eq_true rfl, Nat.le_of_ble_eq_true rfl⟩) (fw_preSV hP hz hK hV) rfl rfl hl.1 rfl (lv_room (Nat.le_of_ble_eq_true rfl)) dd_Law_law_4 ⟨(show _ ≤ 601024 by omega), (show _ ≤ 7293034 by omega)⟩) hS (fun n2 V2 H locs hw hP hz hS e2 s2 => ?_)
  try dsimp only at hw
  have e2 : n2 = 209 := e2
  subst e2
  refine lv_astore_n hx hb dd_Law_law_7 rfl hl (Nat.le_of_ble_eq_true rfl) rfl (fun ls hl => ?_)
  have hl : lv_has ls 8 [(1, .ref (b + 0)), (0, .ref bs)] := hl
  refine fw_newO hx hb hts in_10 F_ty_10 F_tyok_10 hown (hts _ (tb_in tw_775)) (hts _ (tb_in tw_776)) (hts _ (tb_in tw_11)) hK hP hz hS (ci := 10) (len := 0) (by decide +kernel) (by decide) rfl (show _ ≤ 601024 by omega) (show _ ≤ 7293034 by omega) dd_Law_law_8 (fun H hP hz hS => ?_)
  refine lv_dup hx hb dd_Law_law_11 rfl ?_
  refine fw_callV (va_runI (As := []) (rest := [.ref (b + 209)]) ⟨hx, hb, hml, hown, hts⟩ (mv_M_init l D cA b 210 _ 209 (by decide +kernel) _ hw) (cwI 0 hts (fw_g tw_779) rfl rfl rfl (hts _ (tb_in tw_11)) (hts _ (tb_in tw_777)) (hts _ (tb_in tw_778)) rfl (by decide +kernel) ⟨Nat.le_of_ble_eq_true rfl, Nat.le_of_ble_eq_true rfl⟩) (fw_preSV hP hz hK hV) rfl rfl hl.1 rfl (lv_room (Nat.le_of_ble_eq_true rfl)) dd_Law_law_12 ⟨(show _ ≤ 601024 by omega), (show _ ≤ 7293034 by omega)⟩) hS (fun n4 V4 H locs hw hP hz hS e4 s4 => ?_)
  try dsimp only at hw
  have e4 : n4 = 244 := e4
  subst e4
  refine lv_astore_n hx hb dd_Law_law_15 rfl hl (Nat.le_of_ble_eq_true rfl) rfl (fun ls hl => ?_)
  have hl : lv_has ls 8 [(2, .ref (b + 209)), (1, .ref (b + 0)), (0, .ref bs)] := hl
  refine lv_iconst (v := 1) hx hb dd_Law_law_16 kc_ic_1 ?_
  refine fw_newA hx hb (atype := .long) (hts _ (tb_in tw_110)) (ty := .long) rfl (fun C0 h0 => by cases h0) hK hP hz hS (kd := 101) (len := 1) (by decide +kernel) (by decide) 1 rfl (by decide) (by decide) (by decide) (show _ ≤ 601024 by omega) (show _ ≤ 7293034 by omega) dd_Law_law_17 (fun H hP hz hS => ?_)
  refine lv_astore_n hx hb dd_Law_law_19 rfl hl (Nat.le_of_ble_eq_true rfl) rfl (fun ls hl => ?_)
  have hl : lv_has ls 8 [(3, .ref (b + 244)), (2, .ref (b + 209)), (1, .ref (b + 0)), (0, .ref bs)] := hl
  refine lv_iconst (v := 0) hx hb dd_Law_law_20 kc_ic_0 ?_
  refine lv_istore hx hb dd_Law_law_21 hl (Nat.le_of_ble_eq_true rfl) rfl (fun ls hl => ?_)
  have hl : lv_has ls 8 [(4, .int 0), (3, .ref (b + 244)), (2, .ref (b + 209)), (1, .ref (b + 0)), (0, .ref bs)] := hl
  obtain ⟨S, hw1, f0, hw2⟩ := hw
  have hP := st_congr hw1 hP
  refine va_forget (fun q hq => by have := hS.2.2 q hq; have h9 : b ≤ q.base := this; omega) ?_
  have hS : va_S (fw_A b 245) s.heap H [] := ⟨hS.1, fun q h1 h2 => hS.2.1 q h1 (fun z => by have h9 : b ≤ q := z; omega), fun q hq => by cases hq⟩
  refine W.widen (k := 245 + (0 : Int32).toNatClampNeg + 0) (n := 4217 + 6 * (0 : Int32).toNatClampNeg + 0) (Nat.le_of_ble_eq_true rfl) (Nat.le_of_ble_eq_true rfl) ?_
  exact lb_23 ⟨hx, hb, hr, hml, hown, hts, hX, hbl, hbA, hb0, hlocks, hl9, hK, hZ⟩ f0 S 0 _ _ ls hw2 hP hS (lv_sub hl [4, 3, 2, 1, 0] rfl)
