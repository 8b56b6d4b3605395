section
-- ===== PART A: goes FIRST, ahead of the names: the tables' words, and 'selects' of the private methods out of them =====
/-- a private method of a class that the tables say can be made, by its rows of tables_1 -/
def lw_okq (q : MethodName × Nat) : Prop := (q.1.cls ≠ "java/lang/invoke/MethodHandle" ∧ q.1.cls ≠ "java/lang/invoke/VarHandle") ∧ Cond.instantiable q.1.cls q.2 ∈ tables_1 ∧ Cond.privateMethod q.1 ∈ tables_1 ∧ Cond.instanceMethod q.1 ∈ tables_1
theorem lw_p0 : lw_okq (⟨"java/lang/Throwable", "fillInStackTrace", "(I)Ljava/lang/Throwable;"⟩, 6) := ⟨⟨by decide +kernel, by decide +kernel⟩, List.mem_of_getElem? (i := 369) (by decide +kernel), List.mem_of_getElem? (i := 367) (by decide +kernel), List.mem_of_getElem? (i := 368) (by decide +kernel)⟩
theorem lw_p1 : lw_okq (⟨"OutletOffice", "pointAt", "(I)LOutletOffice$Point;"⟩, 3) := ⟨⟨by decide +kernel, by decide +kernel⟩, List.mem_of_getElem? (i := 20) (by decide +kernel), List.mem_of_getElem? (i := 456) (by decide +kernel), List.mem_of_getElem? (i := 457) (by decide +kernel)⟩
theorem lw_p2 : lw_okq (⟨"OutletOffice$Point", "tell", "(III)V"⟩, 12) := ⟨⟨by decide +kernel, by decide +kernel⟩, List.mem_of_getElem? (i := 146) (by decide +kernel), List.mem_of_getElem? (i := 508) (by decide +kernel), List.mem_of_getElem? (i := 509) (by decide +kernel)⟩
theorem lw_p3 : lw_okq (⟨"OutletOffice$Point", "dropIfUnreachable", "()V"⟩, 12) := ⟨⟨by decide +kernel, by decide +kernel⟩, List.mem_of_getElem? (i := 146) (by decide +kernel), List.mem_of_getElem? (i := 559) (by decide +kernel), List.mem_of_getElem? (i := 560) (by decide +kernel)⟩
theorem lw_p4 : lw_okq (⟨"OutletOffice$Tariff", "latestBand", "(I)I"⟩, 4) := ⟨⟨by decide +kernel, by decide +kernel⟩, List.mem_of_getElem? (i := 50) (by decide +kernel), List.mem_of_getElem? (i := 603) (by decide +kernel), List.mem_of_getElem? (i := 604) (by decide +kernel)⟩
theorem lw_p5 : lw_okq (⟨"OutletOffice$Office", "close", "(ILOutletOffice$Bill;)V"⟩, 7) := ⟨⟨by decide +kernel, by decide +kernel⟩, List.mem_of_getElem? (i := 30) (by decide +kernel), List.mem_of_getElem? (i := 611) (by decide +kernel), List.mem_of_getElem? (i := 612) (by decide +kernel)⟩
theorem lw_p6 : lw_okq (⟨"OutletOffice", "evenSeconds", "(I)I"⟩, 3) := ⟨⟨by decide +kernel, by decide +kernel⟩, List.mem_of_getElem? (i := 20) (by decide +kernel), List.mem_of_getElem? (i := 641) (by decide +kernel), List.mem_of_getElem? (i := 642) (by decide +kernel)⟩
theorem lw_p7 : lw_okq (⟨"OutletOffice$Site", "safeCurrent", "()I"⟩, 2) := ⟨⟨by decide +kernel, by decide +kernel⟩, List.mem_of_getElem? (i := 139) (by decide +kernel), List.mem_of_getElem? (i := 649) (by decide +kernel), List.mem_of_getElem? (i := 650) (by decide +kernel)⟩
theorem lw_p8 : lw_okq (⟨"OutletOffice$Site", "choose", "(II)V"⟩, 2) := ⟨⟨by decide +kernel, by decide +kernel⟩, List.mem_of_getElem? (i := 139) (by decide +kernel), List.mem_of_getElem? (i := 661) (by decide +kernel), List.mem_of_getElem? (i := 662) (by decide +kernel)⟩
theorem lw_p9 : lw_okq (⟨"OutletOffice$Site", "greatestLevel", "(I)I"⟩, 2) := ⟨⟨by decide +kernel, by decide +kernel⟩, List.mem_of_getElem? (i := 139) (by decide +kernel), List.mem_of_getElem? (i := 665) (by decide +kernel), List.mem_of_getElem? (i := 666) (by decide +kernel)⟩
theorem lw_p10 : lw_okq (⟨"OutletOffice$Site", "takenAt", "(I)I"⟩, 2) := ⟨⟨by decide +kernel, by decide +kernel⟩, List.mem_of_getElem? (i := 139) (by decide +kernel), List.mem_of_getElem? (i := 669) (by decide +kernel), List.mem_of_getElem? (i := 670) (by decide +kernel)⟩
theorem lw_p11 : lw_okq (⟨"OutletOffice$Point", "hasRoomForReading", "()Z"⟩, 12) := ⟨⟨by decide +kernel, by decide +kernel⟩, List.mem_of_getElem? (i := 146) (by decide +kernel), List.mem_of_getElem? (i := 685) (by decide +kernel), List.mem_of_getElem? (i := 686) (by decide +kernel)⟩
theorem lw_p12 : lw_okq (⟨"OutletOffice$Point", "waitsToSend", "()Z"⟩, 12) := ⟨⟨by decide +kernel, by decide +kernel⟩, List.mem_of_getElem? (i := 146) (by decide +kernel), List.mem_of_getElem? (i := 693) (by decide +kernel), List.mem_of_getElem? (i := 694) (by decide +kernel)⟩
theorem lw_p13 : lw_okq (⟨"OutletOffice", "goOn", "(I)V"⟩, 3) := ⟨⟨by decide +kernel, by decide +kernel⟩, List.mem_of_getElem? (i := 20) (by decide +kernel), List.mem_of_getElem? (i := 702) (by decide +kernel), List.mem_of_getElem? (i := 703) (by decide +kernel)⟩
theorem lw_p14 : lw_okq (⟨"OutletOfficeModel", "noPoint", "(I)Z"⟩, 40) := ⟨⟨by decide +kernel, by decide +kernel⟩, List.mem_of_getElem? (i := 776) (by decide +kernel), List.mem_of_getElem? (i := 933) (by decide +kernel), List.mem_of_getElem? (i := 934) (by decide +kernel)⟩
theorem lw_p15 : lw_okq (⟨"OutletOfficeModel", "runs", "(I)Z"⟩, 40) := ⟨⟨by decide +kernel, by decide +kernel⟩, List.mem_of_getElem? (i := 776) (by decide +kernel), List.mem_of_getElem? (i := 950) (by decide +kernel), List.mem_of_getElem? (i := 951) (by decide +kernel)⟩
def lw_privs_1 : List (MethodName × Nat) := [(⟨"java/lang/Throwable", "fillInStackTrace", "(I)Ljava/lang/Throwable;"⟩, 6), (⟨"OutletOffice", "pointAt", "(I)LOutletOffice$Point;"⟩, 3), (⟨"OutletOffice$Point", "tell", "(III)V"⟩, 12), (⟨"OutletOffice$Point", "dropIfUnreachable", "()V"⟩, 12), (⟨"OutletOffice$Tariff", "latestBand", "(I)I"⟩, 4), (⟨"OutletOffice$Office", "close", "(ILOutletOffice$Bill;)V"⟩, 7), (⟨"OutletOffice", "evenSeconds", "(I)I"⟩, 3), (⟨"OutletOffice$Site", "safeCurrent", "()I"⟩, 2), (⟨"OutletOffice$Site", "choose", "(II)V"⟩, 2), (⟨"OutletOffice$Site", "greatestLevel", "(I)I"⟩, 2), (⟨"OutletOffice$Site", "takenAt", "(I)I"⟩, 2), (⟨"OutletOffice$Point", "hasRoomForReading", "()Z"⟩, 12), (⟨"OutletOffice$Point", "waitsToSend", "()Z"⟩, 12), (⟨"OutletOffice", "goOn", "(I)V"⟩, 3), (⟨"OutletOfficeModel", "noPoint", "(I)Z"⟩, 40), (⟨"OutletOfficeModel", "runs", "(I)Z"⟩, 40)]
theorem lw_r1 : ∀ q ∈ lw_privs_1, lw_okq q := List.forall_mem_cons.mpr ⟨lw_p0, List.forall_mem_cons.mpr ⟨lw_p1, List.forall_mem_cons.mpr ⟨lw_p2, List.forall_mem_cons.mpr ⟨lw_p3, List.forall_mem_cons.mpr ⟨lw_p4, List.forall_mem_cons.mpr ⟨lw_p5, List.forall_mem_cons.mpr ⟨lw_p6, List.forall_mem_cons.mpr ⟨lw_p7, List.forall_mem_cons.mpr ⟨lw_p8, List.forall_mem_cons.mpr ⟨lw_p9, List.forall_mem_cons.mpr ⟨lw_p10, List.forall_mem_cons.mpr ⟨lw_p11, List.forall_mem_cons.mpr ⟨lw_p12, List.forall_mem_cons.mpr ⟨lw_p13, List.forall_mem_cons.mpr ⟨lw_p14, List.forall_mem_cons.mpr ⟨lw_p15, fun _ h => absurd h List.not_mem_nil⟩⟩⟩⟩⟩⟩⟩⟩⟩⟩⟩⟩⟩⟩⟩⟩
theorem lw_p16 : lw_okq (⟨"OutletOfficeModel", "idle", "(I)I"⟩, 40) := ⟨⟨by decide +kernel, by decide +kernel⟩, List.mem_of_getElem? (i := 776) (by decide +kernel), List.mem_of_getElem? (i := 954) (by decide +kernel), List.mem_of_getElem? (i := 955) (by decide +kernel)⟩
theorem lw_p17 : lw_okq (⟨"OutletOfficeModel", "ends", "(II)V"⟩, 40) := ⟨⟨by decide +kernel, by decide +kernel⟩, List.mem_of_getElem? (i := 776) (by decide +kernel), List.mem_of_getElem? (i := 958) (by decide +kernel), List.mem_of_getElem? (i := 959) (by decide +kernel)⟩
theorem lw_p18 : lw_okq (⟨"OutletOfficeModel", "put", "(III)V"⟩, 40) := ⟨⟨by decide +kernel, by decide +kernel⟩, List.mem_of_getElem? (i := 776) (by decide +kernel), List.mem_of_getElem? (i := 962) (by decide +kernel), List.mem_of_getElem? (i := 963) (by decide +kernel)⟩
theorem lw_p19 : lw_okq (⟨"OutletOfficeModel", "list", "(I)I"⟩, 40) := ⟨⟨by decide +kernel, by decide +kernel⟩, List.mem_of_getElem? (i := 776) (by decide +kernel), List.mem_of_getElem? (i := 973) (by decide +kernel), List.mem_of_getElem? (i := 974) (by decide +kernel)⟩
theorem lw_p20 : lw_okq (⟨"OutletOfficeModel", "takeIn", "(I)V"⟩, 40) := ⟨⟨by decide +kernel, by decide +kernel⟩, List.mem_of_getElem? (i := 776) (by decide +kernel), List.mem_of_getElem? (i := 989) (by decide +kernel), List.mem_of_getElem? (i := 990) (by decide +kernel)⟩
theorem lw_p21 : lw_okq (⟨"OutletOfficeModel", "charge", "(IJI)V"⟩, 40) := ⟨⟨by decide +kernel, by decide +kernel⟩, List.mem_of_getElem? (i := 776) (by decide +kernel), List.mem_of_getElem? (i := 993) (by decide +kernel), List.mem_of_getElem? (i := 994) (by decide +kernel)⟩
theorem lw_p22 : lw_okq (⟨"OutletOfficeModel", "priceAt", "(I)I"⟩, 40) := ⟨⟨by decide +kernel, by decide +kernel⟩, List.mem_of_getElem? (i := 776) (by decide +kernel), List.mem_of_getElem? (i := 997) (by decide +kernel), List.mem_of_getElem? (i := 998) (by decide +kernel)⟩
theorem lw_p23 : lw_okq (⟨"OutletOfficeModel", "close", "(I)V"⟩, 40) := ⟨⟨by decide +kernel, by decide +kernel⟩, List.mem_of_getElem? (i := 776) (by decide +kernel), List.mem_of_getElem? (i := 1001) (by decide +kernel), List.mem_of_getElem? (i := 1002) (by decide +kernel)⟩
theorem lw_p24 : lw_okq (⟨"OutletOfficeModel", "goes", "(I)V"⟩, 40) := ⟨⟨by decide +kernel, by decide +kernel⟩, List.mem_of_getElem? (i := 776) (by decide +kernel), List.mem_of_getElem? (i := 1007) (by decide +kernel), List.mem_of_getElem? (i := 1008) (by decide +kernel)⟩
theorem lw_p25 : lw_okq (⟨"OutletOfficeModel", "second", "()V"⟩, 40) := ⟨⟨by decide +kernel, by decide +kernel⟩, List.mem_of_getElem? (i := 776) (by decide +kernel), List.mem_of_getElem? (i := 1021) (by decide +kernel), List.mem_of_getElem? (i := 1022) (by decide +kernel)⟩
theorem lw_p26 : lw_okq (⟨"OutletOfficeModel", "reckonAll", "()V"⟩, 40) := ⟨⟨by decide +kernel, by decide +kernel⟩, List.mem_of_getElem? (i := 776) (by decide +kernel), List.mem_of_getElem? (i := 1025) (by decide +kernel), List.mem_of_getElem? (i := 1026) (by decide +kernel)⟩
theorem lw_p27 : lw_okq (⟨"OutletOfficeModel", "reckon", "(I)V"⟩, 40) := ⟨⟨by decide +kernel, by decide +kernel⟩, List.mem_of_getElem? (i := 776) (by decide +kernel), List.mem_of_getElem? (i := 1029) (by decide +kernel), List.mem_of_getElem? (i := 1030) (by decide +kernel)⟩
theorem lw_p28 : lw_okq (⟨"OutletOfficeModel", "isActive", "(I)Z"⟩, 40) := ⟨⟨by decide +kernel, by decide +kernel⟩, List.mem_of_getElem? (i := 776) (by decide +kernel), List.mem_of_getElem? (i := 1033) (by decide +kernel), List.mem_of_getElem? (i := 1034) (by decide +kernel)⟩
theorem lw_p29 : lw_okq (⟨"OutletOfficeModel", "wantsNow", "(I)I"⟩, 40) := ⟨⟨by decide +kernel, by decide +kernel⟩, List.mem_of_getElem? (i := 776) (by decide +kernel), List.mem_of_getElem? (i := 1037) (by decide +kernel), List.mem_of_getElem? (i := 1038) (by decide +kernel)⟩
def lw_privs_2 : List (MethodName × Nat) := [(⟨"OutletOfficeModel", "idle", "(I)I"⟩, 40), (⟨"OutletOfficeModel", "ends", "(II)V"⟩, 40), (⟨"OutletOfficeModel", "put", "(III)V"⟩, 40), (⟨"OutletOfficeModel", "list", "(I)I"⟩, 40), (⟨"OutletOfficeModel", "takeIn", "(I)V"⟩, 40), (⟨"OutletOfficeModel", "charge", "(IJI)V"⟩, 40), (⟨"OutletOfficeModel", "priceAt", "(I)I"⟩, 40), (⟨"OutletOfficeModel", "close", "(I)V"⟩, 40), (⟨"OutletOfficeModel", "goes", "(I)V"⟩, 40), (⟨"OutletOfficeModel", "second", "()V"⟩, 40), (⟨"OutletOfficeModel", "reckonAll", "()V"⟩, 40), (⟨"OutletOfficeModel", "reckon", "(I)V"⟩, 40), (⟨"OutletOfficeModel", "isActive", "(I)Z"⟩, 40), (⟨"OutletOfficeModel", "wantsNow", "(I)I"⟩, 40)]
theorem lw_r2 : ∀ q ∈ lw_privs_2, lw_okq q := List.forall_mem_cons.mpr ⟨lw_p16, List.forall_mem_cons.mpr ⟨lw_p17, List.forall_mem_cons.mpr ⟨lw_p18, List.forall_mem_cons.mpr ⟨lw_p19, List.forall_mem_cons.mpr ⟨lw_p20, List.forall_mem_cons.mpr ⟨lw_p21, List.forall_mem_cons.mpr ⟨lw_p22, List.forall_mem_cons.mpr ⟨lw_p23, List.forall_mem_cons.mpr ⟨lw_p24, List.forall_mem_cons.mpr ⟨lw_p25, List.forall_mem_cons.mpr ⟨lw_p26, List.forall_mem_cons.mpr ⟨lw_p27, List.forall_mem_cons.mpr ⟨lw_p28, List.forall_mem_cons.mpr ⟨lw_p29, fun _ h => absurd h List.not_mem_nil⟩⟩⟩⟩⟩⟩⟩⟩⟩⟩⟩⟩⟩⟩
def lw_privs : List (MethodName × Nat) := lw_privs_1 ++ (lw_privs_2)
def lw_tbl : List Cond := k2_sels lw_privs ++ tables_1
theorem lw_privs_ok : ∀ q ∈ lw_privs, lw_okq q := by
  show ∀ q ∈ lw_privs_1 ++ (lw_privs_2), lw_okq q
  exact List.forall_mem_append.mpr ⟨lw_r1, lw_r2⟩
end
section
/-! the flat world: an object with all that hangs from it lies in one block of addresses from b on; 'lay' says what lies at each place of it, S the numbers in it -/
abbrev fw_S : Type := (Nat → Nat → Int32) × (Nat → Nat → Int64)
/-- a cell of kind kd (below 100 the class of that number, else an array of n places) with the values V -/
def fw_at (D : va_G) (cl : List vw_C) (cA : Nat → ClassId) (kn : Nat × Nat) (V : Nat → Value) (a : Nat) (H : Heap) : Prop :=
  if kn.1 < 100 then ∃ r : vw_C, cl[kn.1]? = some r ∧ t_OB a (D.1 kn.1) r.2.2 (D.2 kn.1) H V else H[a]? = some (arrV (cA kn.1) kn.2 V)
def fw_P (D : va_G) (cl : List vw_C) (cA : Nat → ClassId) (lay : Nat → Nat × Nat) (b n : Nat) (V : Nat → Nat → Value) (H : Heap) : Prop := ∀ o, o < n → fw_at D cl cA (lay o) (V o) (b + o) H
/-- the value in slot k of the cell at o: by the slot's type an int, a long, or the address of another cell of the block -/
def fw_val (t : Nat × Nat) (b o k : Nat) (S : fw_S) : Value := match t.1 with
  | 0 => .int (S.1 o k)
  | 1 => .long (S.2 o k)
  | _ => .ref (b + (o + t.2))
def fw_v (tk : Nat → Nat → Nat × Nat) (lay : Nat → Nat × Nat) (b : Nat) (S : fw_S) : Nat → Nat → Value := fun o k => fw_val (tk (lay o).1 k) b o k S
def fw_up (V : Nat → Nat → Value) (o k : Nat) (v : Value) : Nat → Nat → Value := fun x => if x = o then updV (V o) k v else V x
def fw_u2 {α : Type} (f : Nat → Nat → α) (o k : Nat) (x : α) : Nat → Nat → α := fun a j => if a = o ∧ j = k then x else f a j
def fw_si (S : fw_S) (o k : Nat) (x : Int32) : fw_S := (fw_u2 S.1 o k x, S.2)
def fw_sl (S : fw_S) (o k : Nat) (x : Int64) : fw_S := (S.1, fw_u2 S.2 o k x)
def fw_z (x : Int32) : Int32 := vp_nar .boolean x
def fw_A (b n : Nat) : Nat → Prop := fun q => b ≤ q ∧ q < b + n
theorem fw_u2_self {α : Type} (f : Nat → Nat → α) (o k : Nat) (x : α) : fw_u2 f o k x o k = x := by simp [fw_u2]
theorem fw_u2_ne {α : Type} (f : Nat → Nat → α) {o k a j : Nat} (x : α) (h : a ≠ o ∨ j ≠ k) : fw_u2 f o k x a j = f a j := by
  unfold fw_u2
  rw [if_neg]
  rintro ⟨h1, h2⟩
  rcases h with h | h
  · exact h h1
  · exact h h2
theorem fw_A.in {b n o : Nat} (h : o < n) : fw_A b n (b + o) := ⟨Nat.le_add_right _ _, Nat.add_lt_add_left h _⟩
theorem fw_at.kept {D : va_G} {cl : List vw_C} {cA : Nat → ClassId} {kn : Nat × Nat} {V : Nat → Value} {a : Nat} {H H1 : Heap} (h : fw_at D cl cA kn V a H) (hq : H1[a]? = H[a]?) : fw_at D cl cA kn V a H1 := by
  unfold fw_at at h ⊢
  by_cases e : kn.1 < 100
  · rw [if_pos e] at h ⊢
    obtain ⟨r, h1, h2⟩ := h
    exact ⟨r, h1, h2.kept hq⟩
  · rw [if_neg e] at h ⊢
    rw [hq]; exact h
theorem fw_P.kept {D : va_G} {cl : List vw_C} {cA : Nat → ClassId} {lay : Nat → Nat × Nat} {b n : Nat} {V : Nat → Nat → Value} {H H1 : Heap} (h : fw_P D cl cA lay b n V H) (hq : ∀ q, fw_A b n q → H1[q]? = H[q]?) : fw_P D cl cA lay b n V H1 :=
  fun o ho => (h o ho).kept (hq _ (fw_A.in ho))
theorem fw_P.obj {D : va_G} {cl : List vw_C} {cA : Nat → ClassId} {lay : Nat → Nat × Nat} {b n : Nat} {V : Nat → Nat → Value} {H : Heap} (h : fw_P D cl cA lay b n V H) {o ci len : Nat} (ho : o < n ∧ lay o = (ci, len)) (h9 : ci < 100) : ∃ r : vw_C, cl[ci]? = some r ∧ t_OB (b + o) (D.1 ci) r.2.2 (D.2 ci) H (V o) := by
  have h1 := h o ho.1
  unfold fw_at at h1
  rw [ho.2, if_pos (show ((ci, len) : Nat × Nat).1 < 100 from h9)] at h1
  exact h1
theorem fw_P.arr {D : va_G} {cl : List vw_C} {cA : Nat → ClassId} {lay : Nat → Nat × Nat} {b n : Nat} {V : Nat → Nat → Value} {H : Heap} (h : fw_P D cl cA lay b n V H) {o kd len : Nat} (ho : o < n ∧ lay o = (kd, len)) (h9 : ¬ kd < 100) : H[b + o]? = some (arrV (cA kd) len (V o)) := by
  have h1 := h o ho.1
  unfold fw_at at h1
  rw [ho.2, if_neg (show ¬ ((kd, len) : Nat × Nat).1 < 100 from h9)] at h1
  exact h1
theorem fw_P.put {D : va_G} {cl : List vw_C} {cA : Nat → ClassId} {lay : Nat → Nat × Nat} {b n : Nat} {V : Nat → Nat → Value} {H H1 : Heap} {o k : Nat} {v : Value} (h : fw_P D cl cA lay b n V H) (h1 : fw_at D cl cA (lay o) (updV (V o) k v) (b + o) H1) (h2 : ∀ q, q ≠ b + o → H1[q]? = H[q]?) : fw_P D cl cA lay b n (fw_up V o k v) H1 := by
  intro x hx
  by_cases e : x = o
  · subst e
    unfold fw_up
    rw [if_pos rfl]
    exact h1
  · unfold fw_up
    rw [if_neg e]
    exact (h x hx).kept (h2 _ (by omega))
theorem fw_upI {tk : Nat → Nat → Nat × Nat} {lay : Nat → Nat × Nat} {b o k d : Nat} {S : fw_S} {x : Int32} (ht : tk (lay o).1 k = (0, d)) : fw_up (fw_v tk lay b S) o k (.int x) = fw_v tk lay b (fw_si S o k x) := by
  funext a j
  by_cases e : a = o
  · subst e
    by_cases e2 : j = k
    · subst e2
      simp [fw_up, updV, fw_v, fw_val, ht, fw_si, fw_u2]
    · simp only [fw_up, updV, fw_v, fw_val, fw_si, fw_u2, if_pos, if_neg e2, e2, and_false, if_false]
  · simp only [fw_up, if_neg e, fw_v, fw_val, fw_si, fw_u2, e, false_and, if_false]
theorem fw_upL {tk : Nat → Nat → Nat × Nat} {lay : Nat → Nat × Nat} {b o k d : Nat} {S : fw_S} {x : Int64} (ht : tk (lay o).1 k = (1, d)) : fw_up (fw_v tk lay b S) o k (.long x) = fw_v tk lay b (fw_sl S o k x) := by
  funext a j
  by_cases e : a = o
  · subst e
    by_cases e2 : j = k
    · subst e2
      simp [fw_up, updV, fw_v, fw_val, ht, fw_sl, fw_u2]
    · simp only [fw_up, updV, fw_v, fw_val, fw_sl, fw_u2, if_pos, if_neg e2, e2, and_false, if_false]
  · simp only [fw_up, if_neg e, fw_v, fw_val, fw_sl, fw_u2, e, false_and, if_false]
theorem fw_S.put {A : Nat → Prop} {H0 H H1 : Heap} {locs : List Loc} {a k : Nat} (h : va_S A H0 H locs) (z : H1.size = H.size) (oq : ∀ q : Nat, q ≠ a → H1[q]? = H[q]?) (ha : A a) : va_S A H0 H1 (locs ++ [⟨a, k⟩]) := h.put z oq ha
section FWR
variable {p : Program} {l : Launch} {e : Env} {R : Room} {s : State} {m : MethodId} {args : Array Value} {below : List Frame} {meth : Method} {c : Code} {H : Heap} {locs : List Loc} {cells slots : Nat} {Q : State → Prop}
variable {cc : ByteArray} {pc : Nat} {ls : Array Slot} {rest : List Value} {D : va_G} {cl : List vw_C} {cA : Nat → ClassId} {A : Nat → Prop} {tys : List (ClassId × FieldType)} {H0 : Heap}
variable {tk : Nat → Nat → Nat × Nat} {lay : Nat → Nat × Nat} {b n : Nat} {V : Nat → Nat → Value} {S : fw_S}
variable {own C : String} {T : u_T} {N ci index len : Nat} {Ts : List Cond} {o : Nat}
theorem fw_getV (hexec : p.tables.exec = Jvm.exec) (hb : c.code = cc) (hts : ∀ w ∈ Ts, w.before args s = true) (hin : ∀ w ∈ u_ws C T N, w ∈ Ts) (hown : s.vm.findClass own = some m.cls) (hK : va_K D cl tys s) (hP : fw_P D cl cA lay b n V H) (ho : o < n ∧ lay o = (ci, len)) (h9 : ci < 100) (hcl : cl[ci]? = some (C, T, N)) (k : Nat) (hk : k < N)
    (hlink : (Cond.fieldLink own index (T k).1 (T k).2.1 (T k).2.2.1).before args s = true) {v : Value} (hv : V o k = v) (hdg : decode cc pc = .ok (.getfield index, 3))
    (kk : W p l e R s m args below meth c H locs cells slots Q (F0 m (pc + 3) ls (v :: rest))) : W p l e R s m args below meth c H locs cells slots Q (F0 m pc ls (.ref (b + o) :: rest)) := by
  obtain ⟨r, h1, cell, q1, q2, q3, q4⟩ := hP.obj ho h9
  have hr : r = (C, T, N) := Option.some.inj (h1.symm.trans hcl)
  subst hr
  obtain ⟨hS, hfc, kC, hkC, hkind⟩ := hK.1 ci _ hcl
  obtain ⟨cf, kf, fi, f, hi, hsl⟩ := hS k hk
  refine W.getf hexec hb hown hlink hi (u_facts hfc hkC (u_lays hts hin hk) hi).1 q1 (by rw [q3]; exact fun h => by cases h) (v := v) ?_ rfl rfl hdg kk
  rw [hsl, q4 k hk, hv]
theorem fw_geti (hexec : p.tables.exec = Jvm.exec) (hb : c.code = cc) (hts : ∀ w ∈ Ts, w.before args s = true) (hin : ∀ w ∈ u_ws C T N, w ∈ Ts) (hown : s.vm.findClass own = some m.cls) (hK : va_K D cl tys s) (hP : fw_P D cl cA lay b n (fw_v tk lay b S) H) (ho : o < n ∧ lay o = (ci, len)) (h9 : ci < 100) (hcl : cl[ci]? = some (C, T, N)) (k : Nat) (hk : k < N)
    (hlink : (Cond.fieldLink own index (T k).1 (T k).2.1 (T k).2.2.1).before args s = true) {d : Nat} (ht : tk ci k = (0, d)) (hdg : decode cc pc = .ok (.getfield index, 3))
    (kk : W p l e R s m args below meth c H locs cells slots Q (F0 m (pc + 3) ls (.int (S.1 o k) :: rest))) : W p l e R s m args below meth c H locs cells slots Q (F0 m pc ls (.ref (b + o) :: rest)) :=
  fw_getV hexec hb hts hin hown hK hP ho h9 hcl k hk hlink (by simp only [fw_v, fw_val, ho.2, ht]) hdg kk
theorem fw_getl (hexec : p.tables.exec = Jvm.exec) (hb : c.code = cc) (hts : ∀ w ∈ Ts, w.before args s = true) (hin : ∀ w ∈ u_ws C T N, w ∈ Ts) (hown : s.vm.findClass own = some m.cls) (hK : va_K D cl tys s) (hP : fw_P D cl cA lay b n (fw_v tk lay b S) H) (ho : o < n ∧ lay o = (ci, len)) (h9 : ci < 100) (hcl : cl[ci]? = some (C, T, N)) (k : Nat) (hk : k < N)
    (hlink : (Cond.fieldLink own index (T k).1 (T k).2.1 (T k).2.2.1).before args s = true) {d : Nat} (ht : tk ci k = (1, d)) (hdg : decode cc pc = .ok (.getfield index, 3))
    (kk : W p l e R s m args below meth c H locs cells slots Q (F0 m (pc + 3) ls (.long (S.2 o k) :: rest))) : W p l e R s m args below meth c H locs cells slots Q (F0 m pc ls (.ref (b + o) :: rest)) :=
  fw_getV hexec hb hts hin hown hK hP ho h9 hcl k hk hlink (by simp only [fw_v, fw_val, ho.2, ht]) hdg kk
theorem fw_getr (hexec : p.tables.exec = Jvm.exec) (hb : c.code = cc) (hts : ∀ w ∈ Ts, w.before args s = true) (hin : ∀ w ∈ u_ws C T N, w ∈ Ts) (hown : s.vm.findClass own = some m.cls) (hK : va_K D cl tys s) (hP : fw_P D cl cA lay b n (fw_v tk lay b S) H) (ho : o < n ∧ lay o = (ci, len)) (h9 : ci < 100) (hcl : cl[ci]? = some (C, T, N)) (k : Nat) (hk : k < N)
    (hlink : (Cond.fieldLink own index (T k).1 (T k).2.1 (T k).2.2.1).before args s = true) {d : Nat} (ht : tk ci k = (2, d)) (hdg : decode cc pc = .ok (.getfield index, 3))
    (kk : W p l e R s m args below meth c H locs cells slots Q (F0 m (pc + 3) ls (.ref (b + (o + d)) :: rest))) : W p l e R s m args below meth c H locs cells slots Q (F0 m pc ls (.ref (b + o) :: rest)) :=
  fw_getV hexec hb hts hin hown hK hP ho h9 hcl k hk hlink (by simp only [fw_v, fw_val, ho.2, ht]) hdg kk
theorem fw_putV (hexec : p.tables.exec = Jvm.exec) (hb : c.code = cc) (hts : ∀ w ∈ Ts, w.before args s = true) (hin : ∀ w ∈ u_ws C T N, w ∈ Ts) (ty0 : Nat → FieldType) (hty : ∀ k, k < N → parseFieldDescriptor (T k).2.2.1 = some (ty0 k)) (hnm : ∀ a, a < N → ∀ b, b < N → a ≠ b → (T a).2.1 ≠ (T b).2.1) (hown : s.vm.findClass own = some m.cls) (hK : va_K D cl tys s) (hP : fw_P D cl cA lay b n V H) (hS0 : va_S A H0 H locs) (hA : A (b + o)) (ho : o < n ∧ lay o = (ci, len)) (h9 : ci < 100) (hcl : cl[ci]? = some (C, T, N)) (k : Nat) (hk : k < N)
    (hlink : (Cond.fieldLink own index (T k).1 (T k).2.1 (T k).2.2.1).before args s = true) (hfin : (T k).2.2.2 = false) {ty : FieldType} {v : Value} (hd : parseFieldDescriptor (T k).2.2.1 = some ty) (hn : narrow ty v = v) (hfit : fits ty v = true) (hdg : decode cc pc = .ok (.putfield index, 3))
    (kk : ∀ (H1 : Heap) (locs1 : List Loc), fw_P D cl cA lay b n (fw_up V o k v) H1 → va_S A H0 H1 locs1 → H1.size = H.size → W p l e R s m args below meth c H1 locs1 cells slots Q (F0 m (pc + 3) ls rest)) : W p l e R s m args below meth c H locs cells slots Q (F0 m pc ls (v :: .ref (b + o) :: rest)) := by
  have hap := va_apart (own := own) hts hin ty0 hty hnm hK hcl
  obtain ⟨r, h1, cell, q1, q2, q3, q4⟩ := hP.obj ho h9
  have hr : r = (C, T, N) := Option.some.inj (h1.symm.trans hcl)
  subst hr
  obtain ⟨hS, hfc, kC, hkC, hkind⟩ := hK.1 ci _ hcl
  obtain ⟨cf, kf, fi, f, hi, hsl⟩ := hS k hk
  have hlay := hts _ (hin _ (u_in_lay hk))
  unfold u_lay at hlay
  rw [if_neg (by rw [hfin]; decide)] at hlay
  have hst := (u_facts hfc hkC (u_lays hts hin hk) hi).1
  have h6 := u_store hfc hkC hkind hlay hi hd hn hfit
  refine W.putK hexec hb (f := f) ⟨hown, hlink, ⟨_, _, _, hi⟩, hst⟩ (by rw [q2]; exact h6) q1 q3 (by rw [hsl]; exact k2_hasslot (q4 k hk)) rfl rfl hdg fun H' e1 e2 e3 => ?_
  rw [hsl] at e1 ⊢
  refine kk H' _ (hP.put ?_ e3) (hS0.put e2 e3 hA) e2
  unfold fw_at
  rw [ho.2, if_pos (show ((ci, len) : Nat × Nat).1 < 100 from h9)]
  exact ⟨_, hcl, _, e1, q2, q3, t_set q4 hap hk v⟩
theorem fw_puti (hexec : p.tables.exec = Jvm.exec) (hb : c.code = cc) (hts : ∀ w ∈ Ts, w.before args s = true) (hin : ∀ w ∈ u_ws C T N, w ∈ Ts) (ty0 : Nat → FieldType) (hty : ∀ k, k < N → parseFieldDescriptor (T k).2.2.1 = some (ty0 k)) (hnm : ∀ a, a < N → ∀ b, b < N → a ≠ b → (T a).2.1 ≠ (T b).2.1) (hown : s.vm.findClass own = some m.cls) (hK : va_K D cl tys s) (hP : fw_P D cl cA lay b n (fw_v tk lay b S) H) (hS0 : va_S A H0 H locs) (hA : A (b + o)) (ho : o < n ∧ lay o = (ci, len)) (h9 : ci < 100) (hcl : cl[ci]? = some (C, T, N)) (k : Nat) (hk : k < N)
    (hlink : (Cond.fieldLink own index (T k).1 (T k).2.1 (T k).2.2.1).before args s = true) (hfin : (T k).2.2.2 = false) {d : Nat} (ht : tk ci k = (0, d)) {ty : FieldType} {x : Int32} (hd : parseFieldDescriptor (T k).2.2.1 = some ty) (hn : narrow ty (.int x) = .int x) (hfit : fits ty (.int x) = true) (hdg : decode cc pc = .ok (.putfield index, 3))
    (kk : ∀ (H1 : Heap) (locs1 : List Loc), fw_P D cl cA lay b n (fw_v tk lay b (fw_si S o k x)) H1 → va_S A H0 H1 locs1 → W p l e R s m args below meth c H1 locs1 cells slots Q (F0 m (pc + 3) ls rest)) : W p l e R s m args below meth c H locs cells slots Q (F0 m pc ls (.int x :: .ref (b + o) :: rest)) :=
  fw_putV hexec hb hts hin ty0 hty hnm hown hK hP hS0 hA ho h9 hcl k hk hlink hfin hd hn hfit hdg (fun H1 locs1 h1 h2 _ => kk H1 locs1 (by rw [← fw_upI (by rw [ho.2]; exact ht)]; exact h1) h2)
theorem fw_putl (hexec : p.tables.exec = Jvm.exec) (hb : c.code = cc) (hts : ∀ w ∈ Ts, w.before args s = true) (hin : ∀ w ∈ u_ws C T N, w ∈ Ts) (ty0 : Nat → FieldType) (hty : ∀ k, k < N → parseFieldDescriptor (T k).2.2.1 = some (ty0 k)) (hnm : ∀ a, a < N → ∀ b, b < N → a ≠ b → (T a).2.1 ≠ (T b).2.1) (hown : s.vm.findClass own = some m.cls) (hK : va_K D cl tys s) (hP : fw_P D cl cA lay b n (fw_v tk lay b S) H) (hS0 : va_S A H0 H locs) (hA : A (b + o)) (ho : o < n ∧ lay o = (ci, len)) (h9 : ci < 100) (hcl : cl[ci]? = some (C, T, N)) (k : Nat) (hk : k < N)
    (hlink : (Cond.fieldLink own index (T k).1 (T k).2.1 (T k).2.2.1).before args s = true) (hfin : (T k).2.2.2 = false) {d : Nat} (ht : tk ci k = (1, d)) {ty : FieldType} {x : Int64} (hd : parseFieldDescriptor (T k).2.2.1 = some ty) (hn : narrow ty (.long x) = .long x) (hfit : fits ty (.long x) = true) (hdg : decode cc pc = .ok (.putfield index, 3))
    (kk : ∀ (H1 : Heap) (locs1 : List Loc), fw_P D cl cA lay b n (fw_v tk lay b (fw_sl S o k x)) H1 → va_S A H0 H1 locs1 → W p l e R s m args below meth c H1 locs1 cells slots Q (F0 m (pc + 3) ls rest)) : W p l e R s m args below meth c H locs cells slots Q (F0 m pc ls (.long x :: .ref (b + o) :: rest)) :=
  fw_putV hexec hb hts hin ty0 hty hnm hown hK hP hS0 hA ho h9 hcl k hk hlink hfin hd hn hfit hdg (fun H1 locs1 h1 h2 _ => kk H1 locs1 (by rw [← fw_upL (by rw [ho.2]; exact ht)]; exact h1) h2)
/-! arrays -/
theorem fw_alen (hexec : p.tables.exec = Jvm.exec) (hb : c.code = cc) (hK : va_K D cl tys s) (hP : fw_P D cl cA lay b n V H) {kd : Nat} (ho : o < n ∧ lay o = (kd, len)) (h9 : ¬ kd < 100) (t0 : Nat) {ty : FieldType} (hty : tys[t0]? = some (cA kd, ty)) (hdg : decode cc pc = .ok (.arraylength, 1))
    (kk : W p l e R s m args below meth c H locs cells slots Q (F0 m (pc + 1) ls (.int (nI len) :: rest))) : W p l e R s m args below meth c H locs cells slots Q (F0 m pc ls (.ref (b + o) :: rest)) :=
  W.alen (n := nI len) hexec hb (hP.arr ho h9) ((hK.2 t0 _ hty).1 len _) (by rw [arrV_size] <;> rfl) rfl rfl hdg kk
theorem fw_iald (hexec : p.tables.exec = Jvm.exec) (hb : c.code = cc) (hK : va_K D cl tys s) (hP : fw_P D cl cA lay b n (fw_v tk lay b S) H) {kd : Nat} (ho : o < n ∧ lay o = (kd, len)) (h9 : ¬ kd < 100) (t0 : Nat) (hty : tys[t0]? = some (cA kd, .int)) (ht : ∀ j, tk kd j = (0, 0)) {i : Int32} (hi : vp_in i len) (hdg : decode cc pc = .ok (.iaload, 1))
    (kk : W p l e R s m args below meth c H locs cells slots Q (F0 m (pc + 1) ls (.int (S.1 o i.toNatClampNeg) :: rest))) : W p l e R s m args below meth c H locs cells slots Q (F0 m pc ls (.int i :: .ref (b + o) :: rest)) :=
  W.iald (v := .int (S.1 o i.toNatClampNeg)) hexec hb (hP.arr ho h9) ((hK.2 t0 _ hty).1 len _) (fun q => by cases q) (by show ¬ (i < 0 ∨ (arrV _ _ _).slots.size ≤ _); rw [arrV_size]; exact hi) (by show (arrV _ _ _).slots[_]? = _; rw [arrV_read _ _ (Nat.not_le.mp fun q => hi (Or.inr q))]; simp only [fw_v, fw_val, ho.2, ht]) rfl rfl hdg kk
theorem fw_zald (hexec : p.tables.exec = Jvm.exec) (hb : c.code = cc) (hK : va_K D cl tys s) (hP : fw_P D cl cA lay b n (fw_v tk lay b S) H) {kd : Nat} (ho : o < n ∧ lay o = (kd, len)) (h9 : ¬ kd < 100) (t0 : Nat) (hty : tys[t0]? = some (cA kd, .boolean)) (ht : ∀ j, tk kd j = (0, 0)) {i : Int32} (hi : vp_in i len) (hdg : decode cc pc = .ok (.baload, 1))
    (kk : W p l e R s m args below meth c H locs cells slots Q (F0 m (pc + 1) ls (.int (S.1 o i.toNatClampNeg) :: rest))) : W p l e R s m args below meth c H locs cells slots Q (F0 m pc ls (.int i :: .ref (b + o) :: rest)) :=
  W.zald (v := .int (S.1 o i.toNatClampNeg)) hexec hb (hP.arr ho h9) ((hK.2 t0 _ hty).1 len _) (fun q => by cases q) (by show ¬ (i < 0 ∨ (arrV _ _ _).slots.size ≤ _); rw [arrV_size]; exact hi) (by show (arrV _ _ _).slots[_]? = _; rw [arrV_read _ _ (Nat.not_le.mp fun q => hi (Or.inr q))]; simp only [fw_v, fw_val, ho.2, ht]) rfl rfl hdg kk
theorem fw_lald (hexec : p.tables.exec = Jvm.exec) (hb : c.code = cc) (hK : va_K D cl tys s) (hP : fw_P D cl cA lay b n (fw_v tk lay b S) H) {kd : Nat} (ho : o < n ∧ lay o = (kd, len)) (h9 : ¬ kd < 100) (t0 : Nat) (hty : tys[t0]? = some (cA kd, .long)) (ht : ∀ j, tk kd j = (1, 0)) {i : Int32} (hi : vp_in i len) (hdg : decode cc pc = .ok (.laload, 1))
    (kk : W p l e R s m args below meth c H locs cells slots Q (F0 m (pc + 1) ls (.long (S.2 o i.toNatClampNeg) :: rest))) : W p l e R s m args below meth c H locs cells slots Q (F0 m pc ls (.int i :: .ref (b + o) :: rest)) :=
  W.lald (v := .long (S.2 o i.toNatClampNeg)) hexec hb (hP.arr ho h9) ((hK.2 t0 _ hty).1 len _) (fun q => by cases q) (by show ¬ (i < 0 ∨ (arrV _ _ _).slots.size ≤ _); rw [arrV_size]; exact hi) (by show (arrV _ _ _).slots[_]? = _; rw [arrV_read _ _ (Nat.not_le.mp fun q => hi (Or.inr q))]; simp only [fw_v, fw_val, ho.2, ht]) rfl rfl hdg kk
theorem fw_aald (hexec : p.tables.exec = Jvm.exec) (hb : c.code = cc) (hK : va_K D cl tys s) (hP : fw_P D cl cA lay b n (fw_v tk lay b S) H) {kd : Nat} (ho : o < n ∧ lay o = (kd, len)) (h9 : ¬ kd < 100) (t0 : Nat) {C0 : String} (hty : tys[t0]? = some (cA kd, .object C0)) {i : Int32} {d : Nat} (ht : tk kd i.toNatClampNeg = (2, d)) (hi : vp_in i len) (hdg : decode cc pc = .ok (.aaload, 1))
    (kk : W p l e R s m args below meth c H locs cells slots Q (F0 m (pc + 1) ls (.ref (b + (o + d)) :: rest))) : W p l e R s m args below meth c H locs cells slots Q (F0 m pc ls (.int i :: .ref (b + o) :: rest)) :=
  W.aald (v := .ref (b + (o + d))) (ty := .object C0) hexec hb (hP.arr ho h9) ((hK.2 t0 _ hty).1 len _) rfl (fun q => by cases q) (by show ¬ (i < 0 ∨ (arrV _ _ _).slots.size ≤ _); rw [arrV_size]; exact hi) (by show (arrV _ _ _).slots[_]? = _; rw [arrV_read _ _ (Nat.not_le.mp fun q => hi (Or.inr q))]; simp only [fw_v, fw_val, ho.2, ht]) rfl rfl hdg kk
theorem fw_arrUp {kd j : Nat} {H1 : Heap} {v : Value} (ho : o < n ∧ lay o = (kd, len)) (h9 : ¬ kd < 100) (e1 : H1[b + o]? = some ((arrV (cA kd) len (V o)).setSlot j v)) : fw_at D cl cA (lay o) (updV (V o) j v) (b + o) H1 := by
  unfold fw_at
  rw [ho.2, if_neg (show ¬ ((kd, len) : Nat × Nat).1 < 100 from h9), e1, arrV_store]
theorem fw_iast (hexec : p.tables.exec = Jvm.exec) (hb : c.code = cc) (hK : va_K D cl tys s) (hP : fw_P D cl cA lay b n (fw_v tk lay b S) H) (hS0 : va_S A H0 H locs) (hA : A (b + o)) {kd : Nat} (ho : o < n ∧ lay o = (kd, len)) (h9 : ¬ kd < 100) (t0 : Nat) (hty : tys[t0]? = some (cA kd, .int)) (ht : ∀ j, tk kd j = (0, 0)) {i x : Int32} (hi : vp_in i len) (hdg : decode cc pc = .ok (.iastore, 1))
    (kk : ∀ (H1 : Heap) (locs1 : List Loc), fw_P D cl cA lay b n (fw_v tk lay b (fw_si S o i.toNatClampNeg x)) H1 → va_S A H0 H1 locs1 → W p l e R s m args below meth c H1 locs1 cells slots Q (F0 m (pc + 1) ls rest)) : W p l e R s m args below meth c H locs cells slots Q (F0 m pc ls (.int x :: .int i :: .ref (b + o) :: rest)) :=
  W.iast hexec hb (hP.arr ho h9) ((hK.2 t0 _ hty).1 len _) (fun q => by cases q) (by show ¬ (i < 0 ∨ (arrV _ _ _).slots.size ≤ _); rw [arrV_size]; exact hi) rfl rfl hdg fun H1 e1 z oq =>
    kk H1 _ (by rw [← fw_upI (d := 0) (by rw [ho.2]; exact ht _)]; exact hP.put (fw_arrUp ho h9 e1) oq) (hS0.put z oq hA)
theorem fw_zast (hexec : p.tables.exec = Jvm.exec) (hb : c.code = cc) (hK : va_K D cl tys s) (hP : fw_P D cl cA lay b n (fw_v tk lay b S) H) (hS0 : va_S A H0 H locs) (hA : A (b + o)) {kd : Nat} (ho : o < n ∧ lay o = (kd, len)) (h9 : ¬ kd < 100) (t0 : Nat) (hty : tys[t0]? = some (cA kd, .boolean)) (ht : ∀ j, tk kd j = (0, 0)) {i x : Int32} (hi : vp_in i len) (hdg : decode cc pc = .ok (.bastore, 1))
    (kk : ∀ (H1 : Heap) (locs1 : List Loc), fw_P D cl cA lay b n (fw_v tk lay b (fw_si S o i.toNatClampNeg (fw_z x))) H1 → va_S A H0 H1 locs1 → W p l e R s m args below meth c H1 locs1 cells slots Q (F0 m (pc + 1) ls rest)) : W p l e R s m args below meth c H locs cells slots Q (F0 m pc ls (.int x :: .int i :: .ref (b + o) :: rest)) :=
  W.zast hexec hb (hP.arr ho h9) ((hK.2 t0 _ hty).1 len _) (fun q => by cases q) (by show ¬ (i < 0 ∨ (arrV _ _ _).slots.size ≤ _); rw [arrV_size]; exact hi) rfl rfl hdg fun H1 e1 z oq =>
    kk H1 _ (by rw [← fw_upI (d := 0) (by rw [ho.2]; exact ht _)]; exact hP.put (fw_arrUp ho h9 e1) oq) (hS0.put z oq hA)
theorem fw_last (hexec : p.tables.exec = Jvm.exec) (hb : c.code = cc) (hK : va_K D cl tys s) (hP : fw_P D cl cA lay b n (fw_v tk lay b S) H) (hS0 : va_S A H0 H locs) (hA : A (b + o)) {kd : Nat} (ho : o < n ∧ lay o = (kd, len)) (h9 : ¬ kd < 100) (t0 : Nat) (hty : tys[t0]? = some (cA kd, .long)) (ht : ∀ j, tk kd j = (1, 0)) {i : Int32} {x : Int64} (hi : vp_in i len) (hdg : decode cc pc = .ok (.lastore, 1))
    (kk : ∀ (H1 : Heap) (locs1 : List Loc), fw_P D cl cA lay b n (fw_v tk lay b (fw_sl S o i.toNatClampNeg x)) H1 → va_S A H0 H1 locs1 → W p l e R s m args below meth c H1 locs1 cells slots Q (F0 m (pc + 1) ls rest)) : W p l e R s m args below meth c H locs cells slots Q (F0 m pc ls (.long x :: .int i :: .ref (b + o) :: rest)) :=
  W.last hexec hb (hP.arr ho h9) ((hK.2 t0 _ hty).1 len _) (fun q => by cases q) (by show ¬ (i < 0 ∨ (arrV _ _ _).slots.size ≤ _); rw [arrV_size]; exact hi) rfl rfl hdg fun H1 e1 z oq =>
    kk H1 _ (by rw [← fw_upL (d := 0) (by rw [ho.2]; exact ht _)]; exact hP.put (fw_arrUp ho h9 e1) oq) (hS0.put z oq hA)
end FWR
/-! contracts over the flat world -/
abbrev fw_B (D : va_G) (cl : List vw_C) (cA : Nat → ClassId) (tk : Nat → Nat → Nat × Nat) (lay : Nat → Nat × Nat) (b n : Nat) : fw_S → State → Prop := fun S' t => fw_P D cl cA lay b n (fw_v tk lay b S') t.heap
abbrev fw_Br (D : va_G) (cl : List vw_C) (cA : Nat → ClassId) (tk : Nat → Nat → Nat × Nat) (lay : Nat → Nat × Nat) (b n kd : Nat) : fw_S × Nat → Nat → State → Prop := fun u a t => a = b + u.2 ∧ (u.2 < n ∧ lay u.2 = (kd, 0)) ∧ fw_P D cl cA lay b n (fw_v tk lay b u.1) t.heap
theorem fw_Bof {D : va_G} {cl : List vw_C} {cA : Nat → ClassId} {tk : Nat → Nat → Nat × Nat} {lay : Nat → Nat × Nat} {b n : Nat} {S : fw_S} {H : Heap} {t : State} (ht : t.heap = H) (hP : fw_P D cl cA lay b n (fw_v tk lay b S) H) : fw_P D cl cA lay b n (fw_v tk lay b S) t.heap := by rw [ht]; exact hP
/-- what a boolean may be -/
def fw_bz (x : Int32) : Prop := narrow .boolean (.int x) = .int x
def fw_Pc (D : va_G) (cl : List vw_C) (cA : Nat → ClassId) (tys : List (ClassId × FieldType)) (tk : Nat → Nat → Nat × Nat) (lay : Nat → Nat × Nat) (b n : Nat) (S : fw_S) (av : List Value) : Array Value → State → Prop := va_Pc av (fun U => fw_P D cl cA lay b n (fw_v tk lay b S) U.heap ∧ va_K D cl tys U)
theorem fw_blind {D : va_G} {cl : List vw_C} {cA : Nat → ClassId} {tys : List (ClassId × FieldType)} {tk : Nat → Nat → Nat × Nat} {lay : Nat → Nat × Nat} {b n : Nat} {S : fw_S} {av : List Value} : FrameBlind (fw_Pc D cl cA tys tk lay b n S av) :=
  fun a U g mk q => by
    obtain ⟨q0, q1, q2⟩ := q
    exact ⟨q0, q1, va_K.moved (u := U) (U := U.calling g mk a) (Vm.Alike.refl U.vm) q2⟩
theorem fw_preS {D : va_G} {cl : List vw_C} {cA : Nat → ClassId} {tys : List (ClassId × FieldType)} {tk : Nat → Nat → Nat × Nat} {lay : Nat → Nat × Nat} {b n : Nat} {S : fw_S} {av : List Value} {s : State} {H : Heap} (hP : fw_P D cl cA lay b n (fw_v tk lay b S) H) (hK : va_K D cl tys s) : PreS s H (fw_Pc D cl cA tys tk lay b n S av) av :=
  ⟨fw_blind, fun U hU hW => ⟨rfl, by rw [hU]; exact hP, va_K.moved hW.alike hK⟩⟩
theorem fw_recv {D : va_G} {cl : List vw_C} {cA : Nat → ClassId} {tys : List (ClassId × FieldType)} {lay : Nat → Nat × Nat} {b n : Nat} {V : Nat → Nat → Value} {s : State} {H : Heap} (hP : fw_P D cl cA lay b n V H) (hK : va_K D cl tys s) {o ci len : Nat} (ho : o < n ∧ lay o = (ci, len)) (h9 : ci < 100) {q : vw_C} (hcl : cl[ci]? = some q) : ∃ cell : Cell, H[b + o]? = some cell ∧ cell.vm.isStatics = false ∧ s.vm.findClass q.1 = some cell.cls := by
  obtain ⟨r, h1, cell, q1, q2, q3, q4⟩ := hP.obj ho h9
  exact ⟨cell, q1, by rw [q3]; rfl, by rw [q2]; exact (hK.1 ci q hcl).2.1⟩
theorem fw_preV {D : va_G} {cl : List vw_C} {cA : Nat → ClassId} {tys : List (ClassId × FieldType)} {tk : Nat → Nat → Nat × Nat} {lay : Nat → Nat × Nat} {b n : Nat} {S : fw_S} {As : List Value} {s : State} {H : Heap} (hP : fw_P D cl cA lay b n (fw_v tk lay b S) H) (hK : va_K D cl tys s) {o ci len : Nat} (ho : o < n ∧ lay o = (ci, len)) (h9 : ci < 100) {q : vw_C} (hcl : cl[ci]? = some q) : PreV s H q.1 (b + o) (fw_Pc D cl cA tys tk lay b n S (.ref (b + o) :: As)) As :=
  ⟨fw_blind, fw_recv hP hK ho h9 hcl, fun U hU hW => ⟨rfl, by rw [hU]; exact hP, va_K.moved hW.alike hK⟩⟩
section FWC
variable {p : Program} {l : Launch} {e : Env} {R : Room} {s : State} {m : MethodId} {args : Array Value} {below : List Frame} {meth : Method} {c : Code} {H : Heap} {locs : List Loc} {cells slots : Nat} {Q : State → Prop}
variable {pc : Nat} {ls : Array Slot} {rest st0 : List Value} {a : Array Value} {H0 : Heap} {mc ms : Nat} {D : va_G} {cl : List vw_C} {cA : Nat → ClassId} {tk : Nat → Nat → Nat × Nat} {lay : Nat → Nat × Nat} {b n : Nat}
theorem fw_calli {post : fw_S → Int32 → Prop} (hr : va_Run p l e R s m args below meth c H locs cells slots mc ms (F0 m pc ls st0) rest (va_Qi (fun r S' => post S' r) (fw_B D cl cA tk lay b n) (fw_A b n) a) (fw_A b n)) (hS : va_S (fw_A b n) H0 H locs)
    (kk : ∀ (S' : fw_S) (r : Int32) (H1 : Heap) (locs1 : List Loc), post S' r → fw_P D cl cA lay b n (fw_v tk lay b S') H1 → va_S (fw_A b n) H0 H1 locs1 → W p l e R s m args below meth c H1 locs1 (cells + mc) (slots + ms) Q (F0 m (pc + 3) ls (.int r :: rest))) : W p l e R s m args below meth c H locs cells slots Q (F0 m pc ls st0) :=
  va_calli hr hS (fun q _ h => h) (fun q h => h) (fun r u t H1 locs1 ht _ hp hB _ _ hS1 => kk u r H1 locs1 hp (by rw [← ht]; exact hB) hS1)
theorem fw_calll {post : fw_S → Int64 → Prop} (hr : va_Run p l e R s m args below meth c H locs cells slots mc ms (F0 m pc ls st0) rest (va_Ql (fun r S' => post S' r) (fw_B D cl cA tk lay b n) (fw_A b n) a) (fw_A b n)) (hS : va_S (fw_A b n) H0 H locs)
    (kk : ∀ (S' : fw_S) (r : Int64) (H1 : Heap) (locs1 : List Loc), post S' r → fw_P D cl cA lay b n (fw_v tk lay b S') H1 → va_S (fw_A b n) H0 H1 locs1 → W p l e R s m args below meth c H1 locs1 (cells + mc) (slots + ms) Q (F0 m (pc + 3) ls (.long r :: rest))) : W p l e R s m args below meth c H locs cells slots Q (F0 m pc ls st0) :=
  va_calll hr hS (fun q _ h => h) (fun q h => h) (fun r u t H1 locs1 ht _ hp hB _ _ hS1 => kk u r H1 locs1 hp (by rw [← ht]; exact hB) hS1)
theorem fw_callv {post : fw_S → Prop} (hr : va_Run p l e R s m args below meth c H locs cells slots mc ms (F0 m pc ls st0) rest (va_Qv post (fw_B D cl cA tk lay b n) (fw_A b n) a) (fw_A b n)) (hS : va_S (fw_A b n) H0 H locs)
    (kk : ∀ (S' : fw_S) (H1 : Heap) (locs1 : List Loc), post S' → fw_P D cl cA lay b n (fw_v tk lay b S') H1 → va_S (fw_A b n) H0 H1 locs1 → W p l e R s m args below meth c H1 locs1 (cells + mc) (slots + ms) Q (F0 m (pc + 3) ls rest)) : W p l e R s m args below meth c H locs cells slots Q (F0 m pc ls st0) :=
  va_callv hr hS (fun q _ h => h) (fun q h => h) (fun u t H1 locs1 ht _ hp hB _ _ hS1 => kk u H1 locs1 hp (by rw [← ht]; exact hB) hS1)
theorem fw_callr {post : fw_S → Nat → Prop} {kd : Nat} (hr : va_Run p l e R s m args below meth c H locs cells slots mc ms (F0 m pc ls st0) rest (va_Qr (fun u => post u.1 u.2) (fw_Br D cl cA tk lay b n kd) (fw_A b n) a) (fw_A b n)) (hS : va_S (fw_A b n) H0 H locs)
    (kk : ∀ (S' : fw_S) (o' : Nat) (H1 : Heap) (locs1 : List Loc), post S' o' → (o' < n ∧ lay o' = (kd, 0)) → fw_P D cl cA lay b n (fw_v tk lay b S') H1 → va_S (fw_A b n) H0 H1 locs1 → W p l e R s m args below meth c H1 locs1 (cells + mc) (slots + ms) Q (F0 m (pc + 3) ls (.ref (b + o') :: rest))) : W p l e R s m args below meth c H locs cells slots Q (F0 m pc ls st0) :=
  va_callr hr hS (fun q _ h => h) (fun q h => h) (fun u ra t H1 locs1 ht _ hp hB _ _ hS1 => by
    obtain ⟨e1, e2, e3⟩ := hB
    rw [e1]
    exact kk u.1 u.2 H1 locs1 hp e2 (by rw [← ht]; exact e3) hS1)
end FWC
/-! System.arraycopy of a whole array of ints onto another of the same length -/
def fw_cp (S : fw_S) (src dst n : Nat) : fw_S := (fun a j => if a = dst ∧ j < n then S.1 src j else S.1 a j, S.2)
theorem fw_vI {tk : Nat → Nat → Nat × Nat} {lay : Nat → Nat × Nat} {b o kd len : Nat} {S : fw_S} (ho : lay o = (kd, len)) (ht : ∀ j, tk kd j = (0, 0)) : fw_v tk lay b S o = fun j => .int (S.1 o j) := by
  funext j
  simp only [fw_v, fw_val, ho, ht]
section FWCP
variable {p : Program} {l : Launch} {e : Env} {R : Room} {s : State} {m : MethodId} {args : Array Value} {below : List Frame} {meth : Method} {c : Code} {H : Heap} {locs : List Loc} {cells slots : Nat} {Q : State → Prop}
variable {cc : ByteArray} {pc : Nat} {ls : Array Slot} {rest : List Value} {D : va_G} {cl : List vw_C} {cA : Nat → ClassId} {A : Nat → Prop} {tys : List (ClassId × FieldType)} {H0 : Heap}
variable {tk : Nat → Nat → Nat × Nat} {lay : Nat → Nat × Nat} {b n : Nat} {S : fw_S}
theorem fw_copy (hexec : p.tables.exec = Jvm.exec) (hb : c.code = cc) (hml : c.maxLocals = ls.size) {own : String} {index : Nat} (hown : s.vm.findClass own = some m.cls) (hlink : (Cond.methodLink own index arraycopyName).before args s = true) (hnat : (Cond.native arraycopyName).before args s = true) (hstat : (Cond.static arraycopyName).before args s = true) (hini : (Cond.initialized "java/lang/System").before args s = true)
    (hK : va_K D cl tys s) (hP : fw_P D cl cA lay b n (fw_v tk lay b S) H) (hS : va_S A H0 H locs) {o1 o2 kd len : Nat} (hA : A (b + o2)) (h1 : o1 < n ∧ lay o1 = (kd, len)) (h2 : o2 < n ∧ lay o2 = (kd, len)) (h9 : ¬ kd < 100) (t0 : Nat) (hty : tys[t0]? = some (cA kd, .int)) (ht : ∀ j, tk kd j = (0, 0)) {N : Int32} (hN : N.toNatClampNeg = len) (hN0 : ¬ N < 0)
    (hframes : 1 ≤ R.frames) (hlocals : (rest.map fun v => v.category).sum + (nativeFrameWords "java/lang/System" "arraycopy" 5 + 11) ≤ R.locals) (hdg : decode cc pc = .ok (.invokestatic index, 3))
    (kk : ∀ (H1 : Heap) (locs1 : List Loc), fw_P D cl cA lay b n (fw_v tk lay b (fw_cp S o1 o2 len)) H1 → va_S A H0 H1 locs1 → W p l e R s m args below meth c H1 locs1 cells slots Q (F0 m (pc + 3) ls rest)) : W p l e R s m args below meth c H locs cells slots Q (F0 m pc ls (.int N :: .int 0 :: .ref (b + o2) :: .int 0 :: .ref (b + o1) :: rest)) := by
  have hNi : N.toInt = (len : Int) := by
    have hz0 : (0 : Int) ≤ N.toInt := by
      have := Int32.not_lt.mp hN0
      simpa using Int32.le_iff_toInt_le.mp this
    have : N.toInt.toNat = len := hN
    omega
  intro T hT X
  have hc0 : H[b + o1]? = some (arrV (cA kd) len (fun j => .int (S.1 o1 j))) := by rw [← fw_vI (b := b) (S := S) h1.2 ht]; exact hP.arr h1 h9
  have hc1 : H[b + o2]? = some (arrV (cA kd) len (fun j => .int (S.1 o2 j))) := by rw [← fw_vI (b := b) (S := S) h2.2 ht]; exact hP.arr h2 h9
  obtain ⟨-, k0, hk0, cm0, hkk0⟩ := (hK.2 t0 _ hty).1 len (fun j => .int (S.1 o1 j))
  have hz : ¬ (0 : Int32) < 0 := by decide
  have h00 : (0 : Int32).toNatClampNeg = 0 := rfl
  obtain ⟨vm', X', step⟩ := X.arraycopy hexec hown hlink hnat hstat hini (src := b + o1) (dst := b + o2) (cs := arrV (cA kd) len (fun j => .int (S.1 o1 j))) (cd := arrV (cA kd) len (fun j => .int (S.1 o2 j))) (srcPos := 0) (destPos := 0) (n := N) (by rw [hT]; exact hc0) (by rw [hT]; exact hc1)
    (fun _ h => by cases h) (fun _ h => by cases h) (fun h => by cases h) (fun h => by cases h) hk0 hk0 hkk0 hkk0 (by simp [refKind]) hz hz hN0
    (by rw [hNi, arrV_size]; show ¬ (0 : Int) + _ > _; omega)
    (by rw [hNi, arrV_size]; show ¬ (0 : Int) + _ > _; omega)
    (fun vm₁ _ i hi => by
      have e : (arrV (cA kd) len (fun j => Value.int (S.1 o1 j))).slots.getD ((0 : Int32).toNatClampNeg + i) .null = .int (S.1 o1 i) := by
        rw [Array.getD_eq_getD_getElem?, h00, Nat.zero_add, arrV_read _ _ (by omega)]
        rfl
      refine ⟨?_, ?_⟩
      · rw [e]
        rfl
      · rw [e]
        exact trivial)
    (g := F0 m pc ls (.int N :: .int 0 :: .ref (b + o2) :: .int 0 :: .ref (b + o1) :: rest)) rfl (by rw [hml]) (rest := rest) rfl (by rw [hb]; exact hdg) hframes (by show 2 * 0 + _ + _ ≤ _; omega)
  have e1 : copied (arrV (cA kd) len (fun j => Value.int (S.1 o1 j))) (arrV (cA kd) len (fun j => Value.int (S.1 o2 j))) 0 0 N = arrV (cA kd) len (fun j => .int (va_cpy (S.1 o1) (S.1 o2) 0 0 len j)) := by
    show (arrV (cA kd) len (fun j => Value.int (S.1 o2 j))).storeRun (0 : Int32).toNatClampNeg ((arrV (cA kd) len (fun j => Value.int (S.1 o1 j))).stretch (0 : Int32).toNatClampNeg N.toNatClampNeg) = _
    rw [h00, hN]
    exact va_copied (fun z => Value.int z) (cA kd) (cA kd) (S.1 o1) (S.1 o2) (by omega)
  rw [e1] at X' step
  have hl : b + o2 < H.size := (Array.getElem?_eq_some_iff.mp hc1).1
  have oq : ∀ q : Nat, q ≠ b + o2 → (H.setIfInBounds (b + o2) (arrV (cA kd) len (fun j => .int (va_cpy (S.1 o1) (S.1 o2) 0 0 len j))))[q]? = H[q]? := fun q hq => by simp [Array.getElem?_setIfInBounds, Ne.symm hq]
  have hheap : ((T.setVm vm').setCell (b + o2) (arrV (cA kd) len (fun j => .int (va_cpy (S.1 o1) (S.1 o2) 0 0 len j)))).heap = H.setIfInBounds (b + o2) (arrV (cA kd) len (fun j => .int (va_cpy (S.1 o1) (S.1 o2) 0 0 len j))) := by rw [← hT]; rfl
  have hP1 : fw_P D cl cA lay b n (fw_v tk lay b (fw_cp S o1 o2 len)) (H.setIfInBounds (b + o2) (arrV (cA kd) len (fun j => .int (va_cpy (S.1 o1) (S.1 o2) 0 0 len j)))) := by
    intro x hx
    by_cases ex : x = o2
    · subst ex
      unfold fw_at
      rw [h2.2, if_neg (show ¬ ((kd, len) : Nat × Nat).1 < 100 from h9), fw_vI h2.2 ht]
      simp only [Array.getElem?_setIfInBounds, hl, if_true]
      congr 1
      unfold arrV
      congr 1
      congr 1
      funext j
      have hj := j.isLt
      simp only [va_cpy, fw_cp, Nat.zero_le, true_and, Nat.zero_add, Nat.sub_zero]
    · have h3 : fw_v tk lay b (fw_cp S o1 o2 len) x = fw_v tk lay b S x := by
        funext j
        simp only [fw_v, fw_val, fw_cp, ex, false_and, if_false]
      rw [h3]
      exact (hP x hx).kept (oq _ (by omega))
  obtain ⟨t, a1, b1⟩ := kk _ _ hP1 ⟨by simp; exact hS.1, fun q g1 g2 => by
      rw [oq q (fun e => g2 (by rw [e]; exact hA))]
      exact hS.2.1 q g1 g2, fun q hq => by
      rcases List.mem_append.mp hq with h | h
      · exact hS.2.2 q h
      · obtain ⟨z, -, hz⟩ := List.mem_map.mp h
        rw [← hz]
        exact hA⟩ _ hheap X'
  exact ⟨t, step t a1, b1⟩
end FWCP
end
section
/-! methods that may throw: 1 an IndexOutOfBoundsException, 2 an IllegalArgumentException -/
def tx_E (k : Nat) : String := if k = 1 then "java/lang/IndexOutOfBoundsException" else "java/lang/IllegalArgumentException"
def tx_T (XC : Nat → State → State → Prop) (st : State) (q : Addr) (t : State) (mc ms : Nat) (free : Addr → Prop) : Prop :=
  ∃ (k : Nat) (ce : Cell) (L : List Loc), XC k st t ∧ (t.heap[q]? = some ce ∧ ce.vm = .none ∧ st.vm.findClass (tx_E k) = some ce.cls) ∧ st.WarmedH t.vm ∧ st.sameButNew ({ t with vm := st.vm } : State) L mc ms ∧ ∀ z ∈ L, free z.base
def tx_Q (Qc : Array Value → State → Outcome → State → Prop) (XC : Nat → State → State → Prop) (mc ms : Nat) (free : Addr → Prop) : Array Value → State → Outcome → State → Prop := fun a st o t =>
  (Qc a st o t ∧ ∃ L, FrameEnd st o t L mc ms ∧ ∀ q ∈ L, free q.base) ∨ ∃ q, o = .threw q ∧ tx_T XC st q t mc ms free
def tx_Met (l : Launch) (y : MethodName) (ws : List Cond) (rm : Room) (Pc : Array Value → State → Prop) (Qc : Array Value → State → Outcome → State → Prop) (XC : Nat → State → State → Prop) (mc ms : Nat) (free : Addr → Prop) : Prop :=
  MetFree l y (headSpec ws rm) Pc (fun _ _ _ _ _ => True) (tx_Q Qc XC mc ms free)
def tx_MQ (below : List Frame) (Qc : Array Value → State → Outcome → State → Prop) (XC : Nat → State → State → Prop) (a : Array Value) (s : State) (mc ms : Nat) (free : Addr → Prop) : State → Prop := fun t =>
  ∃ o, t.status = .running ∧ Ended t below o ∧ tx_Q Qc XC mc ms free a s o t
/-- the frame g, with q thrown over it -/
def tx_W (p : Program) (l : Launch) (e : Env) (R : Room) (s : State) (m : MethodId) (args : Array Value) (below : List Frame) (meth : Method) (c : Code) (H : Heap) (locs : List Loc) (cells slots : Nat) (Q : State → Prop) (g : JFrame) (q : Addr) : Prop :=
  ∀ T : State, T.heap = H → Stand p l e R s m args below meth c T locs cells slots → ∃ t, Steps p.tables e below ((T.setTop g).pushFrame (.throwing q)) t ∧ Q t
theorem tx_topHeap (T : State) (g : JFrame) : (T.setTop g).heap = T.heap := by
  simp [State.setFrames, State.setTop, State.modifyTopJava]
theorem tx_topVm (T : State) (g : JFrame) : (T.setTop g).vm = T.vm := by
  simp [State.setFrames, State.setTop, State.modifyTopJava]
section TXA
variable {p : Program} {l : Launch} {e : Env} {R : Room} {s : State} {m : MethodId} {args : Array Value} {below : List Frame} {meth : Method} {c : Code} {T : State} {H : Heap} {locs : List Loc} {cells slots : Nat} {Q : State → Prop}
variable {y : MethodName} {ws : List Cond} {rm : Room} {Pc : Array Value → State → Prop} {Qc : Array Value → State → Outcome → State → Prop} {XC : Nat → State → State → Prop} {mc ms : Nat} {free : Addr → Prop} {bytes cc : ByteArray} {maxL nL n index : Nat} {ret : Option FieldType} {Ts : List Cond} {own C : String} {b : Addr} {As rest : List Value} {g : JFrame}
/-- both ends of a call, seen by the caller -/
def tx_Run (p : Program) (l : Launch) (e : Env) (R : Room) (s : State) (m : MethodId) (args : Array Value) (below : List Frame) (meth : Method) (c : Code) (H : Heap) (locs : List Loc) (cells slots mc ms : Nat) (g : JFrame) (rest : List Value) (Qa : State → Outcome → State → Prop) (XC : Nat → State → State → Prop) (free : Addr → Prop) : Prop :=
  ∀ T : State, T.heap = H → Stand p l e R s m args below meth c T locs cells slots →
    (∃ (v : Option Value) (st t T' : State) (L : List Loc), st.heap = H ∧ Stand p l e R s m args below meth c T' (locs ++ L) (cells + mc) (slots + ms) ∧ (∀ q ∈ L, free q.base) ∧ T'.heap = t.heap ∧ T'.vm = t.vm ∧ Qa st (.returned v) t ∧
      Goes p e below T g T' { g with pc := g.pc + 3, stack := v.toList ++ rest }) ∨
    (∃ (q : Addr) (k : Nat) (ce : Cell) (st t T' : State) (L : List Loc), st.heap = H ∧ Stand p l e R s m args below meth c T' (locs ++ L) (cells + mc) (slots + ms) ∧ (∀ z ∈ L, free z.base) ∧ T'.heap = t.heap ∧ T'.vm = t.vm ∧ XC k st t ∧ (t.heap[q]? = some ce ∧ ce.vm = .none ∧ s.vm.findClass (tx_E k) = some ce.cls) ∧
      Steps p.tables e below (T.setTop g) ((T'.setTop { g with stack := rest }).pushFrame (.throwing q)))
theorem tx_go (X : Stand p l e R s m args below meth c T locs cells slots) (hM : tx_Met l y ws rm Pc Qc XC mc ms free) (cb : CallB R s args own index y bytes maxL ret ws rm mc ms n)
    (hg : g.method = m) (hsize : g.locals.size = c.maxLocals) {ig : Instr} {len : Nat} (hdg : decode c.code g.pc = .ok (ig, len)) {mk : MethodId} (hW : 2 * g.monitorRoom + (g.stack.map fun v => v.category).sum ≤ 8) (hn : T.methodNamed? y = some mk) {a : Array Value} (hc : cells + mc ≤ R.cells) (hs : slots + ms ≤ R.slots) (hPc : Pc a (T.calling g mk a)) :
    (∃ (v : Option Value) (t T' : State) (L : List Loc), Stand p l e R s m args below meth c T' (locs ++ L) (cells + mc) (slots + ms) ∧ (∀ q ∈ L, free q.base) ∧ T'.heap = t.heap ∧ T'.vm = t.vm ∧ Qc a (T.calling g mk a) (.returned v) t ∧
      Steps p.tables e below (doInvoke e (T.setTop g) [] mk a).1 (T'.setTop { g with pc := g.pc + len, stack := v.toList ++ g.stack })) ∨
    (∃ (q : Addr) (k : Nat) (ce : Cell) (t T' : State) (L : List Loc), Stand p l e R s m args below meth c T' (locs ++ L) (cells + mc) (slots + ms) ∧ (∀ z ∈ L, free z.base) ∧ T'.heap = t.heap ∧ T'.vm = t.vm ∧ XC k (T.calling g mk a) t ∧ (t.heap[q]? = some ce ∧ ce.vm = .none ∧ T.vm.findClass (tx_E k) = some ce.cls) ∧
      Steps p.tables e below (doInvoke e (T.setTop g) [] mk a).1 ((T'.setTop g).pushFrame (.throwing q))) := by
  obtain ⟨hrc, hrs, hfr, hlo, hws, hcw, -, hini, -⟩ := cb
  have h1 : (headSpec ws rm).pre.before a T = true := atoms_intro fun w hw => hws w hw _ _ X.warmed
  have h2 : (Cond.code y bytes maxL ret).before a T = true := hws _ hcw _ _ X.warmed
  have h3 : (Cond.initialized y.cls).before a T = true := word_at X.warmed (Or.inl (by first | rfl | simp [Cond.onTables, Cond.keeps, Cond.steady])) hini
  obtain ⟨methY, cY, hmY, hcY, -, hlY, -, -, -, -⟩ := Cond.code_spec hn h2
  obtain ⟨kY, hkY, -⟩ := className_of_methodNamed hn
  have hinitY : kY.init = .initialized := Cond.initialized_spec (findClass_of_methodNamed hn) hkY h3
  have h : At T g.method c below := by rw [hg]; exact X.here
  have hfr' : (headSpec ws rm).room.frames + 1 ≤ R.frames := hfr
  have hlo' : 8 + (maxL + 11) + (headSpec ws rm).room.locals ≤ R.locals := hlo
  have hc' : cells + (headSpec ws rm).room.cells ≤ R.cells := by rw [show (headSpec ws rm).room.cells = mc from hrc]; exact hc
  have hs' : slots + (headSpec ws rm).room.slots ≤ R.slots := by rw [show (headSpec ws rm).room.slots = ms from hrs]; exact hs
  have happ : (headSpec ws rm).appliesLoose y e.platform (T.calling g mk a) = true :=
    Spec.appliesLoose_calling (g := g) h hdg hn hkY hinitY (X.room_calling (g := g) (R' := (headSpec ws rm).room) hsize hmY hcY hfr' (by rw [hlY]; omega) hc' hs') h1
  obtain ⟨mid, hmid⟩ := h.above
  have hframes : (T.setTop g).frames = (.java g :: mid) ++ below := by rw [State.frames_setTop' g h.top, hmid]; rfl
  obtain ⟨o, s₂, hsteps, -, hend, hq⟩ := Steps.callFree hM p X.admits X.cas X.clock (acts := []) hframes happ hPc trivial
  have hq' : tx_Q Qc XC mc ms free a (T.calling g mk a) o s₂ := hq
  rw [State.frames_setTop' g h.top, X.tail] at hend
  rcases hq' with ⟨hqc, L, hfe, hL⟩ | ⟨q, rfl, k, ce, L, hx, hce, hW₂, hsm, hL⟩
  · obtain ⟨⟨v, rfl⟩, hW₂, hsame⟩ := hfe
    obtain ⟨T', X', -, -, ht⟩ := X.outOf hg hdg hend hW₂ hsame
    exact Or.inl ⟨v, s₂, T', L, X', hL, by rw [ht, tx_topHeap], by rw [ht, tx_topVm], hqc, by rw [← ht]; exact hsteps⟩
  · obtain ⟨T', X', -, -, ht⟩ := X.outOfThrown hg hend hW₂ hsm
    exact Or.inr ⟨q, k, ce, s₂, T', L, X', hL, by rw [ht, Stand.throwing_heap], by rw [ht, Stand.throwing_vm], hx, hce, by rw [← ht]; exact hsteps⟩
theorem tx_runV (S : CallFix p m c cc nL s args Ts own) (hM : tx_Met l y ws rm Pc Qc XC mc ms free) (cw : CallW R s args own C index y bytes maxL ret ws rm mc ms n) (hp : PreV s H C b Pc As)
    (hg : g.method = m) (hn : As.length = n) (hsize : g.locals.size = nL) (hstack : g.stack = As.reverse ++ .ref b :: rest) (hW : 2 * g.monitorRoom + (rest.map fun v => v.category).sum ≤ 8) (hdg : decode cc g.pc = .ok (.invokevirtual index, 3)) (hf : cells + mc ≤ R.cells ∧ slots + ms ≤ R.slots) :
    tx_Run p l e R s m args below meth c H locs cells slots mc ms g rest (Qc (Value.ref b :: As).toArray) XC free := by
  have cb := cw.1
  obtain ⟨⟨-, -, -, -, -, -, hcode, -, hy, hlen, hl⟩, hin, hse⟩ := cw
  obtain ⟨hx, hb, hml, ho, -⟩ := S
  obtain ⟨hbl, ⟨cellB, hcB, hoB, hclB⟩, hPc⟩ := hp
  intro T hT X
  obtain ⟨mk, methM, hnamed, hmethM, hstM, habM⟩ := Cond.instanceMethod_spec hin
  obtain ⟨methM', cM, hmethM', -, -, -, -, -, -, hsigM⟩ := Cond.code_spec hnamed hcode
  cases hmethM.symm.trans hmethM'
  obtain ⟨c2, r2, m2, q1, q2, q3, q4, kP, hkP, hkPi⟩ := Cond.selects_spec hse
  cases hclB.symm.trans q1
  cases (State.methodFound?_of_named hnamed hy).symm.trans q2
  cases hnamed.symm.trans q3
  have hselP : selectMethod e.platform s.vm cellB.cls mk = .method mk := by rw [Launch.admits_selectMethod X.admits]; exact q4
  obtain ⟨vm₁, X₁, hstep₁⟩ := X.invokevirtual hx ho hl hnamed hmethM hstM hkP hkPi hy (a := b) (cell := cellB) (by rw [hT]; exact hcB)
    (fun z h => by rw [h] at hoB; cases hoB) hselP hmethM habM hkP hkPi (g := g) hg (argsL := As) (rest := rest) (hn.trans (hlen _ hsigM)) hstack (by rw [hb]; exact hdg)
  rcases tx_go X₁ hM cb (g := { g with stack := rest }) (ig := .invokevirtual index) (len := 3) (a := (Value.ref b :: As).toArray) hg (hsize.trans hml.symm) (by rw [hb]; exact hdg) hW (X₁.named hnamed) hf.1 hf.2 (hbl _ _ _ _ (hPc (T.setVm vm₁) hT X₁.warmed)) with ⟨v, t, T', L, X', hL, e1, e2, hq, st⟩ | ⟨q, k, ce, t, T', L, X', hL, e1, e2, hq, ⟨f1, f2, f3⟩, st⟩
  · exact Or.inl ⟨v, (T.setVm vm₁).calling { g with stack := rest } mk (Value.ref b :: As).toArray, t, T', L, hT, X', hL, e1, e2, hq, fun target h => hstep₁ _ fun acts => by rw [doInvoke_state]; exact st.trans h⟩
  · refine Or.inr ⟨q, k, ce, (T.setVm vm₁).calling { g with stack := rest } mk (Value.ref b :: As).toArray, t, T', L, hT, X', hL, e1, e2, hq, ⟨f1, f2, ?_⟩, hstep₁ _ fun acts => by rw [doInvoke_state]; exact st⟩
    rw [X₁.warmed.alike.findClass] at f3
    exact f3
theorem tx_runS (S : CallFix p m c cc nL s args Ts own) (hM : tx_Met l y ws rm Pc Qc XC mc ms free) (cw : CallB R s args own index y bytes maxL ret ws rm mc ms n ∧ (Cond.static y).before args s = true) (hp : PreS s H Pc As)
    (hg : g.method = m) (hn : As.length = n) (hsize : g.locals.size = nL) (hstack : g.stack = As.reverse ++ rest) (hW : 2 * g.monitorRoom + (rest.map fun v => v.category).sum ≤ 8) (hdg : decode cc g.pc = .ok (.invokestatic index, 3)) (hf : cells + mc ≤ R.cells ∧ slots + ms ≤ R.slots) :
    tx_Run p l e R s m args below meth c H locs cells slots mc ms g rest (Qc As.toArray) XC free := by
  have cb := cw.1
  obtain ⟨⟨-, -, -, -, -, -, hcode, hini, hy, hlen, hl⟩, hstt⟩ := cw
  obtain ⟨hx, hb, hml, ho, -⟩ := S
  obtain ⟨hbl, hPc⟩ := hp
  intro T hT X
  obtain ⟨mk, hnamed⟩ := Cond.code_named hcode
  obtain ⟨methM, cM, hmethM, -, -, -, -, -, -, hsigM⟩ := Cond.code_spec hnamed hcode
  have hstatic : methM.isStatic = true := Cond.static_spec hnamed hmethM hstt
  obtain ⟨kP, hkP, -⟩ := className_of_methodNamed hnamed
  have hinitP : kP.init = .initialized := Cond.initialized_spec (findClass_of_methodNamed hnamed) hkP hini
  obtain ⟨vm₁, X₁, hstep₁⟩ := X.invokestatic hx ho hl hnamed hmethM hstatic hkP hinitP hy (g := g) hg (argsL := As) (rest := rest) (hn.trans (hlen _ hsigM)) hstack (by rw [hb]; exact hdg)
  rcases tx_go X₁ hM cb (g := { g with stack := rest }) (ig := .invokestatic index) (len := 3) (a := As.toArray) hg (hsize.trans hml.symm) (by rw [hb]; exact hdg) hW (X₁.named hnamed) hf.1 hf.2 (hbl _ _ _ _ (hPc (T.setVm vm₁) hT X₁.warmed)) with ⟨v, t, T', L, X', hL, e1, e2, hq, st⟩ | ⟨q, k, ce, t, T', L, X', hL, e1, e2, hq, ⟨f1, f2, f3⟩, st⟩
  · exact Or.inl ⟨v, (T.setVm vm₁).calling { g with stack := rest } mk As.toArray, t, T', L, hT, X', hL, e1, e2, hq, fun target h => hstep₁ _ fun acts => by rw [doInvoke_state]; exact st.trans h⟩
  · refine Or.inr ⟨q, k, ce, (T.setVm vm₁).calling { g with stack := rest } mk As.toArray, t, T', L, hT, X', hL, e1, e2, hq, ⟨f1, f2, ?_⟩, hstep₁ _ fun acts => by rw [doInvoke_state]; exact st⟩
    rw [X₁.warmed.alike.findClass] at f3
    exact f3
theorem tx_ret (k : W p l e R s m args below meth c H locs cells slots (MQ below Qc args s mc ms free) g) : W p l e R s m args below meth c H locs cells slots (tx_MQ below Qc XC args s mc ms free) g := by
  intro T hT X
  obtain ⟨t, a1, o, b1, b2, b3, b4⟩ := k T hT X
  exact ⟨t, a1, o, b1, b2, Or.inl ⟨b3, b4⟩⟩
/-- not caught here -/
theorem tx_out {pc k : Nat} {ls : Array Slot} {ce : Cell} {q : Addr} (hout : ∀ x ∈ c.exceptionTable.toList, covers x pc = false) (hlocks : meth.locks = false) (hce : H[q]? = some ce ∧ ce.vm = .none ∧ s.vm.findClass (tx_E k) = some ce.cls)
    (hx : ∀ t : State, t.heap = H → XC k s t) (hf : ∀ z ∈ locs, free z.base) (hc : cells ≤ mc) (hs : slots ≤ ms) :
    tx_W p l e R s m args below meth c H locs cells slots (tx_MQ below Qc XC args s mc ms free) (F0 m pc ls rest) q := by
  intro T hT X
  obtain ⟨st1, hrun, hend, hW, hsm⟩ := X.leaveThrown q (g := F0 m pc ls rest) rfl rfl rfl hout hlocks
  have hcell : (T.setFrames (.throwing q :: below)).heap[q]? = some ce := by
    show T.heap[q]? = some ce
    rw [hT]; exact hce.1
  exact ⟨_, st1, .threw q, hrun, hend, Or.inr ⟨q, rfl, k, ce, locs, hx _ hT, ⟨hcell, hce.2.1, hce.2.2⟩, hW, hsm.mono hc hs, hf⟩⟩
theorem tx_ofW {ws' : List Cond} (hy : plainName y.cls = true) (hw : ws = Cond.code y cc maxL ret :: ws')
    (body : ∀ p e s m args below meth c s₁, BodyLoose p l y (headSpec ws rm) cc maxL ret e s m args below meth c s₁ → c.maxLocals = maxL → (∀ x ∈ c.exceptionTable.toList, False) → Pc args s →
      W p l e (headSpec ws rm).room s m args below meth c s.heap [] 0 0 (tx_MQ below Qc XC args s mc ms free) (entryFrame m args maxL)) : tx_Met l y ws rm Pc Qc XC mc ms free := by
  refine MetFree.of_bodyS (code := cc) (maxLocals := maxL) (ret := ret) hy ?_ ?_
  · intro args s m h hn
    obtain ⟨meth, c, h1, h2, h3, h4, h5, h6, -, -⟩ := Cond.code_spec hn (atoms_spec (ws := ws) h _ (by rw [hw]; exact List.mem_cons_self))
    exact ⟨meth, c, h1, h2, h3, h4, h5, h6⟩
  · intro p e s m args below meth c s₁ B hml hP _
    have hh0 : s₁.heap = s.heap := by rw [B.state]; rfl
    have ht : ∀ x ∈ c.exceptionTable.toList, False := by
      obtain ⟨meth9, c9, h1, h2, -, -, -, -, h7, -⟩ := Cond.code_spec B.named (atoms_spec (ws := ws) B.pre _ (by rw [hw]; exact List.mem_cons_self))
      cases Option.some.inj (h1.symm.trans B.method)
      cases Option.some.inj (h2.symm.trans (Stand.of_body B).code)
      intro x hx
      rw [Array.isEmpty_iff.mp h7] at hx
      cases hx
    obtain ⟨t, a1, o, b1, b2, b3⟩ := body p e s m args below meth c s₁ B hml ht hP s₁ hh0 (Stand.of_body B)
    exact ⟨t, o, a1, b1, b2, b3⟩
end TXA
/-! over the flat world -/
def fw_X (D : va_G) (cl : List vw_C) (cA : Nat → ClassId) (tk : Nat → Nat → Nat × Nat) (lay : Nat → Nat × Nat) (b n : Nat) (px : Nat → fw_S → Prop) : Nat → State → State → Prop := fun k st t => (∃ S' : fw_S, px k S' ∧ fw_P D cl cA lay b n (fw_v tk lay b S') t.heap) ∧ va_F (fw_A b n) st t
section TXF
variable {p : Program} {l : Launch} {e : Env} {R : Room} {s : State} {m : MethodId} {args : Array Value} {below : List Frame} {meth : Method} {c : Code} {H : Heap} {locs : List Loc} {cells slots : Nat} {Q : State → Prop}
variable {pc : Nat} {ls : Array Slot} {rest st0 : List Value} {a : Array Value} {H0 : Heap} {mc ms : Nat} {D : va_G} {cl : List vw_C} {cA : Nat → ClassId} {tk : Nat → Nat → Nat × Nat} {lay : Nat → Nat × Nat} {b n : Nat}
theorem tx_keep {st t T' : State} {L : List Loc} (h0 : st.heap = H) (e1 : T'.heap = t.heap) (hS : va_S (fw_A b n) H0 H locs) (hL : ∀ q ∈ L, fw_A b n q.base) (hF : va_F (fw_A b n) st t) : va_S (fw_A b n) H0 T'.heap (locs ++ L) := by
  obtain ⟨hz, hk⟩ := hF
  rw [h0] at hz hk
  refine ⟨by rw [e1]; exact Nat.le_trans hS.1 hz, fun q h1 h2 => by rw [e1, hk q (Nat.lt_of_lt_of_le h1 hS.1) h2]; exact hS.2.1 q h1 h2, fun q hq => ?_⟩
  rcases List.mem_append.mp hq with h | h
  · exact hS.2.2 q h
  · exact hL q h
/-- a call whose exceptions go to a handler or out: what the handler's row asks is kx -/
theorem tx_calli {post : fw_S → Int32 → Prop} {px : Nat → fw_S → Prop} (hr : tx_Run p l e R s m args below meth c H locs cells slots mc ms (F0 m pc ls st0) rest (va_Qi (fun r S' => post S' r) (fw_B D cl cA tk lay b n) (fw_A b n) a) (fw_X D cl cA tk lay b n px) (fw_A b n)) (hS : va_S (fw_A b n) H0 H locs)
    (kx : ∀ (k : Nat) (S' : fw_S) (q : Addr) (ce : Cell) (H1 : Heap) (locs1 : List Loc), px k S' → fw_P D cl cA lay b n (fw_v tk lay b S') H1 → va_S (fw_A b n) H0 H1 locs1 → (H1[q]? = some ce ∧ ce.vm = .none ∧ s.vm.findClass (tx_E k) = some ce.cls) → tx_W p l e R s m args below meth c H1 locs1 (cells + mc) (slots + ms) Q (F0 m pc ls rest) q)
    (kk : ∀ (S' : fw_S) (r : Int32) (H1 : Heap) (locs1 : List Loc), post S' r → fw_P D cl cA lay b n (fw_v tk lay b S') H1 → va_S (fw_A b n) H0 H1 locs1 → W p l e R s m args below meth c H1 locs1 (cells + mc) (slots + ms) Q (F0 m (pc + 3) ls (.int r :: rest))) : W p l e R s m args below meth c H locs cells slots Q (F0 m pc ls st0) := by
  intro T hT X
  rcases hr T hT X with ⟨v, st, t, T', L, h0, X', hL, e1, e2, ⟨⟨r, u, hv, hp, hb⟩, hF⟩, st2⟩ | ⟨q, k, ce, st, t, T', L, h0, X', hL, e1, e2, ⟨⟨u, hp, hb⟩, hF⟩, ⟨f1, f2⟩, st2⟩
  · cases hv
    obtain ⟨t2, a1, b1⟩ := kk u r T'.heap (locs ++ L) hp (by rw [e1]; exact hb) (tx_keep h0 e1 hS hL hF) T' rfl X'
    exact ⟨t2, st2 t2 a1, b1⟩
  · obtain ⟨t2, a1, b1⟩ := kx k u q ce T'.heap (locs ++ L) hp (by rw [e1]; exact hb) (tx_keep h0 e1 hS hL hF) ⟨by rw [e1]; exact f1, f2⟩ T' rfl X'
    exact ⟨t2, st2.trans a1, b1⟩
theorem tx_calll {post : fw_S → Int64 → Prop} {px : Nat → fw_S → Prop} (hr : tx_Run p l e R s m args below meth c H locs cells slots mc ms (F0 m pc ls st0) rest (va_Ql (fun r S' => post S' r) (fw_B D cl cA tk lay b n) (fw_A b n) a) (fw_X D cl cA tk lay b n px) (fw_A b n)) (hS : va_S (fw_A b n) H0 H locs)
    (kx : ∀ (k : Nat) (S' : fw_S) (q : Addr) (ce : Cell) (H1 : Heap) (locs1 : List Loc), px k S' → fw_P D cl cA lay b n (fw_v tk lay b S') H1 → va_S (fw_A b n) H0 H1 locs1 → (H1[q]? = some ce ∧ ce.vm = .none ∧ s.vm.findClass (tx_E k) = some ce.cls) → tx_W p l e R s m args below meth c H1 locs1 (cells + mc) (slots + ms) Q (F0 m pc ls rest) q)
    (kk : ∀ (S' : fw_S) (r : Int64) (H1 : Heap) (locs1 : List Loc), post S' r → fw_P D cl cA lay b n (fw_v tk lay b S') H1 → va_S (fw_A b n) H0 H1 locs1 → W p l e R s m args below meth c H1 locs1 (cells + mc) (slots + ms) Q (F0 m (pc + 3) ls (.long r :: rest))) : W p l e R s m args below meth c H locs cells slots Q (F0 m pc ls st0) := by
  intro T hT X
  rcases hr T hT X with ⟨v, st, t, T', L, h0, X', hL, e1, e2, ⟨⟨r, u, hv, hp, hb⟩, hF⟩, st2⟩ | ⟨q, k, ce, st, t, T', L, h0, X', hL, e1, e2, ⟨⟨u, hp, hb⟩, hF⟩, ⟨f1, f2⟩, st2⟩
  · cases hv
    obtain ⟨t2, a1, b1⟩ := kk u r T'.heap (locs ++ L) hp (by rw [e1]; exact hb) (tx_keep h0 e1 hS hL hF) T' rfl X'
    exact ⟨t2, st2 t2 a1, b1⟩
  · obtain ⟨t2, a1, b1⟩ := kx k u q ce T'.heap (locs ++ L) hp (by rw [e1]; exact hb) (tx_keep h0 e1 hS hL hF) ⟨by rw [e1]; exact f1, f2⟩ T' rfl X'
    exact ⟨t2, st2.trans a1, b1⟩
theorem tx_callv {post : fw_S → Prop} {px : Nat → fw_S → Prop} (hr : tx_Run p l e R s m args below meth c H locs cells slots mc ms (F0 m pc ls st0) rest (va_Qv post (fw_B D cl cA tk lay b n) (fw_A b n) a) (fw_X D cl cA tk lay b n px) (fw_A b n)) (hS : va_S (fw_A b n) H0 H locs)
    (kx : ∀ (k : Nat) (S' : fw_S) (q : Addr) (ce : Cell) (H1 : Heap) (locs1 : List Loc), px k S' → fw_P D cl cA lay b n (fw_v tk lay b S') H1 → va_S (fw_A b n) H0 H1 locs1 → (H1[q]? = some ce ∧ ce.vm = .none ∧ s.vm.findClass (tx_E k) = some ce.cls) → tx_W p l e R s m args below meth c H1 locs1 (cells + mc) (slots + ms) Q (F0 m pc ls rest) q)
    (kk : ∀ (S' : fw_S) (H1 : Heap) (locs1 : List Loc), post S' → fw_P D cl cA lay b n (fw_v tk lay b S') H1 → va_S (fw_A b n) H0 H1 locs1 → W p l e R s m args below meth c H1 locs1 (cells + mc) (slots + ms) Q (F0 m (pc + 3) ls rest)) : W p l e R s m args below meth c H locs cells slots Q (F0 m pc ls st0) := by
  intro T hT X
  rcases hr T hT X with ⟨v, st, t, T', L, h0, X', hL, e1, e2, ⟨⟨u, hv, hp, hb⟩, hF⟩, st2⟩ | ⟨q, k, ce, st, t, T', L, h0, X', hL, e1, e2, ⟨⟨u, hp, hb⟩, hF⟩, ⟨f1, f2⟩, st2⟩
  · cases hv
    obtain ⟨t2, a1, b1⟩ := kk u T'.heap (locs ++ L) hp (by rw [e1]; exact hb) (tx_keep h0 e1 hS hL hF) T' rfl X'
    exact ⟨t2, st2 t2 a1, b1⟩
  · obtain ⟨t2, a1, b1⟩ := kx k u q ce T'.heap (locs ++ L) hp (by rw [e1]; exact hb) (tx_keep h0 e1 hS hL hF) ⟨by rw [e1]; exact f1, f2⟩ T' rfl X'
    exact ⟨t2, st2.trans a1, b1⟩
theorem tx_callr {post : fw_S → Nat → Prop} {px : Nat → fw_S → Prop} {kd : Nat} (hr : tx_Run p l e R s m args below meth c H locs cells slots mc ms (F0 m pc ls st0) rest (va_Qr (fun u => post u.1 u.2) (fw_Br D cl cA tk lay b n kd) (fw_A b n) a) (fw_X D cl cA tk lay b n px) (fw_A b n)) (hS : va_S (fw_A b n) H0 H locs)
    (kx : ∀ (k : Nat) (S' : fw_S) (q : Addr) (ce : Cell) (H1 : Heap) (locs1 : List Loc), px k S' → fw_P D cl cA lay b n (fw_v tk lay b S') H1 → va_S (fw_A b n) H0 H1 locs1 → (H1[q]? = some ce ∧ ce.vm = .none ∧ s.vm.findClass (tx_E k) = some ce.cls) → tx_W p l e R s m args below meth c H1 locs1 (cells + mc) (slots + ms) Q (F0 m pc ls rest) q)
    (kk : ∀ (S' : fw_S) (o' : Nat) (H1 : Heap) (locs1 : List Loc), post S' o' → (o' < n ∧ lay o' = (kd, 0)) → fw_P D cl cA lay b n (fw_v tk lay b S') H1 → va_S (fw_A b n) H0 H1 locs1 → W p l e R s m args below meth c H1 locs1 (cells + mc) (slots + ms) Q (F0 m (pc + 3) ls (.ref (b + o') :: rest))) : W p l e R s m args below meth c H locs cells slots Q (F0 m pc ls st0) := by
  intro T hT X
  rcases hr T hT X with ⟨v, st, t, T', L, h0, X', hL, e1, e2, ⟨⟨u, ra, hv, hp, hra, hkd, hb⟩, hF⟩, st2⟩ | ⟨q, k, ce, st, t, T', L, h0, X', hL, e1, e2, ⟨⟨u, hp, hb⟩, hF⟩, ⟨f1, f2⟩, st2⟩
  · cases hv
    rw [hra] at st2
    obtain ⟨t2, a1, b1⟩ := kk u.1 u.2 T'.heap (locs ++ L) hp hkd (by rw [e1]; exact hb) (tx_keep h0 e1 hS hL hF) T' rfl X'
    exact ⟨t2, st2 t2 a1, b1⟩
  · obtain ⟨t2, a1, b1⟩ := kx k u q ce T'.heap (locs ++ L) hp (by rw [e1]; exact hb) (tx_keep h0 e1 hS hL hF) ⟨by rw [e1]; exact f1, f2⟩ T' rfl X'
    exact ⟨t2, st2.trans a1, b1⟩
/-- .. out: the same px is this method's own -/
theorem tx_outF {Qc : Array Value → State → Outcome → State → Prop} {px : Nat → fw_S → Prop} {k : Nat} {S' : fw_S} {q : Addr} {ce : Cell} (hT : ∀ x ∈ c.exceptionTable.toList, False) (hlocks : meth.locks = false) (hx : px k S') (hP : fw_P D cl cA lay b n (fw_v tk lay b S') H) (hS : va_S (fw_A b n) s.heap H locs) (hce : H[q]? = some ce ∧ ce.vm = .none ∧ s.vm.findClass (tx_E k) = some ce.cls) (hc : cells ≤ mc) (hs : slots ≤ ms) :
    tx_W p l e R s m args below meth c H locs cells slots (tx_MQ below Qc (fw_X D cl cA tk lay b n px) args s mc ms (fw_A b n)) (F0 m pc ls rest) q :=
  tx_out (fun x h => (hT x h).elim) hlocks hce (fun t ht => ⟨⟨S', hx, by rw [ht]; exact hP⟩, hS.F ht⟩) hS.2.2 hc hs
end TXF
end
section
/-! making: the block grows cell by cell; V what its cells hold, n how many there are -/
def fw_nw (V : Nat → Nat → Value) (n : Nat) (f : Nat → Value) : Nat → Nat → Value := fun x => if x = n then f else V x
def fw_Ac (b : Nat) : Nat → Prop := fun q => b ≤ q
theorem fw_P.push {D : va_G} {cl : List vw_C} {cA : Nat → ClassId} {lay : Nat → Nat × Nat} {b n : Nat} {V : Nat → Nat → Value} {H H1 : Heap} {f : Nat → Value} (hP : fw_P D cl cA lay b n V H) (hz : H.size = b + n) (o1 : ∀ q : Nat, q < b + n → H1[q]? = H[q]?) (h1 : fw_at D cl cA (lay n) f (b + n) H1) : fw_P D cl cA lay b (n + 1) (fw_nw V n f) H1 := by
  intro x hx
  unfold fw_nw
  by_cases e : x = n
  · subst e
    rw [if_pos rfl]
    exact h1
  · rw [if_neg e]
    exact (hP x (by omega)).kept (o1 _ (by omega))
section FWN
variable {p : Program} {l : Launch} {e : Env} {R : Room} {s : State} {m : MethodId} {args : Array Value} {below : List Frame} {meth : Method} {c : Code} {H : Heap} {locs : List Loc} {cells slots : Nat} {Q : State → Prop}
variable {cc : ByteArray} {pc : Nat} {ls : Array Slot} {rest : List Value} {D : va_G} {cl : List vw_C} {cA : Nat → ClassId} {A : Nat → Prop} {tys : List (ClassId × FieldType)} {H0 : Heap}
variable {lay : Nat → Nat × Nat} {b n : Nat} {V : Nat → Nat → Value}
variable {own C : String} {T : u_T} {N ci index len : Nat} {Ts : List Cond} {o : Nat}
theorem fw_grow {H1 : Heap} (hS : va_S A H0 H locs) (hz : H.size = b + n) (z1 : H1.size = b + n + 1) (o1 : ∀ q : Nat, q < b + n → H1[q]? = H[q]?) : va_S A H0 H1 locs :=
  ⟨Nat.le_trans hS.1 (by omega), fun x h1 h2 => (o1 x (by have := hS.1; omega)).trans (hS.2.1 x h1 h2), hS.2.2⟩
theorem fw_newO (hexec : p.tables.exec = Jvm.exec) (hb : c.code = cc) (hts : ∀ w ∈ Ts, w.before args s = true) (hin : ∀ w ∈ u_ws C T N, w ∈ Ts) (ty : Nat → FieldType) (hty : ∀ k, k < N → parseFieldDescriptor (T k).2.2.1 = some (ty k)) (hown : s.vm.findClass own = some m.cls) (hlink : (Cond.classLink own index C).before args s = true) (hinst : (Cond.instantiable C N).before args s = true) (hini : (Cond.initialized C).before args s = true)
    (hK : va_K D cl tys s) (hP : fw_P D cl cA lay b n V H) (hz : H.size = b + n) (hS : va_S A H0 H locs) (hc : lay n = (ci, len)) (h9 : ci < 100) (hcl : cl[ci]? = some (C, T, N)) (hcells : cells + 1 ≤ R.cells) (hslots : slots + N ≤ R.slots) (hdg : decode cc pc = .ok (.new index, 3))
    (kk : ∀ H1 : Heap, fw_P D cl cA lay b (n + 1) (fw_nw V n (fun k => defaultValue (ty k))) H1 → H1.size = b + (n + 1) → va_S A H0 H1 locs → W p l e R s m args below meth c H1 locs (cells + 1) (slots + N) Q (F0 m (pc + 3) ls (.ref (b + n) :: rest))) : W p l e R s m args below meth c H locs cells slots Q (F0 m pc ls rest) := by
  have hKn := hK.1 ci _ hcl
  refine W.newcK hexec hb hown hlink hinst hini rfl hdg hcells hslots hKn.2.1 hz fun H1 kC hkC e1 z1 o1 => ?_
  refine kk H1 (hP.push hz o1 ?_) (by omega) (fw_grow hS hz z1 o1)
  unfold fw_at
  rw [hc, if_pos (show ((ci, len) : Nat × Nat).1 < 100 from h9)]
  exact ⟨_, hcl, u_born ty hts hin hKn hkC e1 hty⟩
theorem fw_newA (hexec : p.tables.exec = Jvm.exec) (hb : c.code = cc) {atype : ArrayType} (harr : (Cond.arrayClass (newarray.typeOf atype)).before args s = true) {ty : FieldType} (hat : newarray.typeOf atype = ty) (hprim : ∀ C0, ty ≠ .object C0) (hK : va_K D cl tys s) (hP : fw_P D cl cA lay b n V H) (hz : H.size = b + n) (hS : va_S A H0 H locs) {kd : Nat} (hc : lay n = (kd, len)) (h9 : ¬ kd < 100) (t0 : Nat) (hty : tys[t0]? = some (cA kd, ty))
    {i : Int32} (hn : ¬ i < 0) (hN : i.toNatClampNeg = len) (hbytes : len * componentBytes ty ≤ 536870912) (hcells : cells + 1 ≤ R.cells) (hslots : slots + len ≤ R.slots) (hdg : decode cc pc = .ok (.newarray atype, 2))
    (kk : ∀ H1 : Heap, fw_P D cl cA lay b (n + 1) (fw_nw V n (fun _ => defaultValue ty)) H1 → H1.size = b + (n + 1) → va_S A H0 H1 locs → W p l e R s m args below meth c H1 locs (cells + 1) (slots + len) Q (F0 m (pc + 2) ls (.ref (b + n) :: rest))) : W p l e R s m args below meth c H locs cells slots Q (F0 m pc ls (.int i :: rest)) := by
  subst hat
  refine va_newaK hexec hb harr rfl hdg rfl hn hN hbytes hcells hslots hz fun H1 cA1 e1 z1 o1 hAr hNm => ?_
  have h2 : cA1 = cA kd := by
    have h3 := (hK.2 t0 _ hty).2
    have h4 : s.vm.findClass ("[" ++ (newarray.typeOf atype).toString) = some (cA kd) := by
      cases atype <;> exact h3
    exact Option.some.inj (hNm.symm.trans h4)
  subst h2
  refine kk H1 (hP.push hz o1 ?_) (by omega) (fw_grow hS hz z1 o1)
  unfold fw_at
  rw [hc, if_neg (show ¬ ((kd, len) : Nat × Nat).1 < 100 from h9)]
  exact e1
theorem fw_newQ (hexec : p.tables.exec = Jvm.exec) (hb : c.code = cc) {C0 : String} (hown : s.vm.findClass own = some m.cls) (hlink : (Cond.classLink own index C0).before args s = true) (hover : va_AO C0 s) (hK : va_K D cl tys s) (hP : fw_P D cl cA lay b n V H) (hz : H.size = b + n) (hS : va_S A H0 H locs) {kd : Nat} (hc : lay n = (kd, len)) (h9 : ¬ kd < 100) (t0 : Nat) (hty : tys[t0]? = some (cA kd, .object C0))
    {i : Int32} (hn : ¬ i < 0) (hN : i.toNatClampNeg = len) (hbytes : len * 4 ≤ 536870912) (hcells : cells + 1 ≤ R.cells) (hslots : slots + len ≤ R.slots) (hdg : decode cc pc = .ok (.anewarray index, 3))
    (kk : ∀ H1 : Heap, fw_P D cl cA lay b (n + 1) (fw_nw V n (fun _ => .null)) H1 → H1.size = b + (n + 1) → va_S A H0 H1 locs → W p l e R s m args below meth c H1 locs (cells + 1) (slots + len) Q (F0 m (pc + 3) ls (.ref (b + n) :: rest))) : W p l e R s m args below meth c H locs cells slots Q (F0 m pc ls (.int i :: rest)) := by
  subst hN
  refine W.anew hexec hb hown hlink (va_AO.use hover) rfl hdg rfl hn hbytes hcells hslots fun cA1 kA comp f1 f2 f3 f4 => ?_
  have h2 : cA1 = cA kd := by
    obtain ⟨kA', comp', g1, g2, g3, g4⟩ := (hK.2 t0 _ hty).2
    exact Option.some.inj (f1.symm.trans g4)
  subst h2
  generalize hH1 : H.push ({ cls := cA kd, slots := Array.replicate i.toNatClampNeg .null, vm := .none } : Cell) = H1
  have z1 : H1.size = b + n + 1 := by rw [← hH1, Array.size_push, hz]
  have e1 : H1[b + n]? = some (arrV (cA kd) i.toNatClampNeg (fun _ => .null)) := by rw [← hH1, ← hz, Array.getElem?_push_size, ← arrV_new]
  have o1 : ∀ q : Nat, q < b + n → H1[q]? = H[q]? := fun q hq => by rw [← hH1, Array.getElem?_push, if_neg (by omega)]
  rw [hz]
  refine kk H1 (hP.push hz o1 ?_) (by omega) (fw_grow hS hz z1 o1)
  unfold fw_at
  rw [hc, if_neg (show ¬ ((kd, i.toNatClampNeg) : Nat × Nat).1 < 100 from h9)]
  exact e1
theorem fw_putFV (hexec : p.tables.exec = Jvm.exec) (hb : c.code = cc) (hts : ∀ w ∈ Ts, w.before args s = true) (hin : ∀ w ∈ u_ws C T N, w ∈ Ts) (ty0 : Nat → FieldType) (hty : ∀ k, k < N → parseFieldDescriptor (T k).2.2.1 = some (ty0 k)) (hnm : ∀ a, a < N → ∀ b, b < N → a ≠ b → (T a).2.1 ≠ (T b).2.1) (hown : s.vm.findClass C = some m.cls) (hK : va_K D cl tys s) (hP : fw_P D cl cA lay b n V H) (hS0 : va_S A H0 H locs) (hA : A (b + o)) (ho : o < n ∧ lay o = (ci, len)) (h9 : ci < 100) (hcl : cl[ci]? = some (C, T, N)) (k : Nat) (hk : k < N)
    (hlink : (Cond.fieldLink C index (T k).1 (T k).2.1 (T k).2.2.1).before args s = true) (hfin : (T k).2.2.2 = true) (hini : meth.name = "<init>") (hdecl : (T k).1 = C) {ty : FieldType} {v : Value} (hd : parseFieldDescriptor (T k).2.2.1 = some ty) (hn : narrow ty v = v) (hfit : fits ty v = true) (hdg : decode cc pc = .ok (.putfield index, 3))
    (kk : ∀ (H1 : Heap) (locs1 : List Loc), fw_P D cl cA lay b n (fw_up V o k v) H1 → va_S A H0 H1 locs1 → H1.size = H.size → W p l e R s m args below meth c H1 locs1 cells slots Q (F0 m (pc + 3) ls rest)) : W p l e R s m args below meth c H locs cells slots Q (F0 m pc ls (v :: .ref (b + o) :: rest)) := by
  have hap := va_apart (own := C) hts hin ty0 hty hnm hK hcl
  obtain ⟨r, h1, cell, q1, q2, q3, q4⟩ := hP.obj ho h9
  have hr : r = (C, T, N) := Option.some.inj (h1.symm.trans hcl)
  subst hr
  obtain ⟨hS, hfc, kC, hkC, hkind⟩ := hK.1 ci _ hcl
  obtain ⟨cf, kf, fi, f, hi, hsl⟩ := hS k hk
  have hlay := hts _ (hin _ (u_in_lay hk))
  unfold u_lay at hlay
  rw [if_pos hfin] at hlay
  have hst := (u_facts hfc hkC (u_lays hts hin hk) hi).1
  have hcf : m.cls = cf := by
    obtain ⟨_, _, c', _, _, _, -, -, hf', -, -, -, hown2, -⟩ := Cond.laysFinal_spec hlay
    have e1 : c' = cf := by have := hi.symm.trans hf'; simp at this; exact this.1.symm
    rw [hdecl] at hown2
    rw [← e1]; exact Option.some.inj (hown.symm.trans hown2)
  have h6 := u_fits hfc hkC hkind (Or.inr hlay) hi hd hn hfit
  refine W.putFinK hexec hb hown hlink hi hst hcf hini (by rw [q2]; exact h6) q1 q3 (by rw [hsl]; exact k2_hasslot (q4 k hk)) rfl rfl hdg fun H' e1 e2 e3 => ?_
  rw [hsl] at e1 ⊢
  refine kk H' _ (hP.put ?_ e3) (hS0.put e2 e3 hA) e2
  unfold fw_at
  rw [ho.2, if_pos (show ((ci, len) : Nat × Nat).1 < 100 from h9)]
  exact ⟨_, hcl, _, e1, q2, q3, t_set q4 hap hk v⟩
theorem fw_aastV (hexec : p.tables.exec = Jvm.exec) (hb : c.code = cc) (hK : va_K D cl tys s) (hP : fw_P D cl cA lay b n V H) (hS0 : va_S A H0 H locs) (hA : A (b + o)) {kd : Nat} (ho : o < n ∧ lay o = (kd, len)) (h9 : ¬ kd < 100) (t0 : Nat) {r : vw_C} (hty : tys[t0]? = some (cA kd, .object r.1)) {o2 len2 : Nat} (ho2 : o2 < n ∧ lay o2 = (ci, len2)) (h92 : ci < 100) (hcl : cl[ci]? = some r) {i : Int32} (hi : vp_in i len) (hdg : decode cc pc = .ok (.aastore, 1))
    (kk : ∀ (H1 : Heap) (locs1 : List Loc), fw_P D cl cA lay b n (fw_up V o i.toNatClampNeg (.ref (b + o2))) H1 → va_S A H0 H1 locs1 → H1.size = H.size → W p l e R s m args below meth c H1 locs1 cells slots Q (F0 m (pc + 1) ls rest)) : W p l e R s m args below meth c H locs cells slots Q (F0 m pc ls (.ref (b + o2) :: .int i :: .ref (b + o) :: rest)) := by
  have hlt : i.toNatClampNeg < len := Nat.not_le.mp fun q => hi (Or.inr q)
  have h0 : ¬ i < 0 := fun q => hi (Or.inl q)
  obtain ⟨r', hr', cellV, g1, g2, g3, -⟩ := hP.obj ho2 h92
  have hcls := (hK.1 ci r hcl).2
  obtain ⟨kA, comp, k1, k2, k3, -⟩ := (hK.2 t0 _ hty).2
  have hcomp : comp = D.1 ci := Option.some.inj (k3.symm.trans hcls.1)
  subst hcomp
  obtain ⟨kC, hkC, -⟩ := hcls.2
  refine W.aast hexec hb (hP.arr ho h9) (fun q h => by cases h) (fun h => by cases h) k1 k2 rfl hkC ⟨h0, by show _ < (arrV _ _ _).slots.size; rw [arrV_size]; exact hlt⟩ g1 (fun q h => by rw [g3] at h; cases h) (by rw [g2]; exact hkC) (by rw [g2]; exact va_assign hcls) rfl rfl hdg fun H1 e1 z oq => ?_
  exact kk H1 _ (hP.put (fw_arrUp ho h9 e1) oq) (hS0.put z oq hA) z
end FWN
end
section
/-! names: the classes' fields in my order, the blocks' layouts -/
/-- the tables' words that stay true -/
def TB : List Cond := lw_tbl.filter goodWord
theorem tb_of {w : Cond} {i : Nat} (h : lw_tbl[i]? = some w) (g : goodWord w = true) : w ∈ TB := List.mem_filter.mpr ⟨List.mem_of_getElem? h, g⟩
theorem tb_in {w k : Cond} (h : w ∈ TB) : w ∈ k :: TB := List.mem_cons_of_mem _ h
theorem tb_good {w : Cond} (h : w ∈ TB) : goodWord w = true := (List.mem_filter.mp h).2
theorem tb_all {k w : Cond} (h : w ∈ TB) : w ∈ k :: TB ∧ ((w.onTables && w.keeps) = true ∨ ∃ ty, w = .arrayClass ty) := ⟨tb_in h, good_of_word (tb_good h)⟩
def F_0 : u_T := fun k => match k with
  | 0 => ("OutletOffice", "sites", "[LOutletOffice$Site;", true)
  | 1 => ("OutletOffice", "office", "LOutletOffice$Office;", true)
  | _ => ("OutletOffice", "now", "I", false)
def F_ty_0 : Nat → FieldType := fun k => match k with
  | 0 => .array (.object "OutletOffice$Site")
  | 1 => .object "OutletOffice$Office"
  | _ => .int
theorem F_nm_0 : ∀ a, a < 3 → ∀ b, b < 3 → a ≠ b → (F_0 a).2.1 ≠ (F_0 b).2.1 := by decide +kernel
theorem F_tyok_0 : ∀ k, k < 3 → parseFieldDescriptor (F_0 k).2.2.1 = some (F_ty_0 k) := by decide +kernel
theorem inB_0 : ∀ w ∈ u_ws "OutletOffice" F_0 3, w ∈ lw_tbl ∧ goodWord w = true := by decide +kernel
theorem in_0 {k : Cond} : ∀ w ∈ u_ws "OutletOffice" F_0 3, w ∈ k :: TB := fun w h => tb_in (List.mem_filter.mpr (inB_0 w h))
def F_1 : u_T := fun k => match k with
  | 0 => ("OutletOffice$Site", "points", "[LOutletOffice$Point;", true)
  | _ => ("OutletOffice$Site", "limit", "I", false)
def F_ty_1 : Nat → FieldType := fun k => match k with
  | 0 => .array (.object "OutletOffice$Point")
  | _ => .int
theorem F_nm_1 : ∀ a, a < 2 → ∀ b, b < 2 → a ≠ b → (F_1 a).2.1 ≠ (F_1 b).2.1 := by decide +kernel
theorem F_tyok_1 : ∀ k, k < 2 → parseFieldDescriptor (F_1 k).2.2.1 = some (F_ty_1 k) := by decide +kernel
theorem inB_1 : ∀ w ∈ u_ws "OutletOffice$Site" F_1 2, w ∈ lw_tbl ∧ goodWord w = true := by decide +kernel
theorem in_1 {k : Cond} : ∀ w ∈ u_ws "OutletOffice$Site" F_1 2, w ∈ k :: TB := fun w h => tb_in (List.mem_filter.mpr (inB_1 w h))
def F_2 : u_T := fun k => match k with
  | 0 => ("OutletOffice$Point", "car", "LOutletOffice$Car;", true)
  | 1 => ("OutletOffice$Point", "queue", "LOutletOffice$Queue;", true)
  | 2 => ("OutletOffice$Point", "cards", "LOutletOffice$CardList;", true)
  | 3 => ("OutletOffice$Point", "power", "Z", false)
  | 4 => ("OutletOffice$Point", "line", "Z", false)
  | 5 => ("OutletOffice$Point", "wattSeconds", "J", false)
  | 6 => ("OutletOffice$Point", "session", "I", false)
  | 7 => ("OutletOffice$Point", "sessionCard", "I", false)
  | 8 => ("OutletOffice$Point", "lastSession", "I", false)
  | 9 => ("OutletOffice$Point", "underWay", "I", false)
  | 10 => ("OutletOffice$Point", "chosen", "Z", false)
  | _ => ("OutletOffice$Point", "takes", "I", false)
def F_ty_2 : Nat → FieldType := fun k => match k with
  | 0 => .object "OutletOffice$Car"
  | 1 => .object "OutletOffice$Queue"
  | 2 => .object "OutletOffice$CardList"
  | 3 => .boolean
  | 4 => .boolean
  | 5 => .long
  | 6 => .int
  | 7 => .int
  | 8 => .int
  | 9 => .int
  | 10 => .boolean
  | _ => .int
theorem F_nm_2 : ∀ a, a < 12 → ∀ b, b < 12 → a ≠ b → (F_2 a).2.1 ≠ (F_2 b).2.1 := by decide +kernel
theorem F_tyok_2 : ∀ k, k < 12 → parseFieldDescriptor (F_2 k).2.2.1 = some (F_ty_2 k) := by decide +kernel
theorem inB_2 : ∀ w ∈ u_ws "OutletOffice$Point" F_2 12, w ∈ lw_tbl ∧ goodWord w = true := by decide +kernel
theorem in_2 {k : Cond} : ∀ w ∈ u_ws "OutletOffice$Point" F_2 12, w ∈ k :: TB := fun w h => tb_in (List.mem_filter.mpr (inB_2 w h))
def F_3 : u_T := fun k => match k with
  | 0 => ("OutletOffice$Car", "here", "Z", false)
  | 1 => ("OutletOffice$Car", "full", "Z", false)
  | 2 => ("OutletOffice$Car", "wants", "I", false)
  | 3 => ("OutletOffice$Car", "weight", "I", false)
  | 4 => ("OutletOffice$Car", "hunger", "I", false)
  | _ => ("OutletOffice$Car", "fullSince", "I", false)
def F_ty_3 : Nat → FieldType := fun k => match k with
  | 0 => .boolean
  | 1 => .boolean
  | 2 => .int
  | 3 => .int
  | 4 => .int
  | _ => .int
theorem F_nm_3 : ∀ a, a < 6 → ∀ b, b < 6 → a ≠ b → (F_3 a).2.1 ≠ (F_3 b).2.1 := by decide +kernel
theorem F_tyok_3 : ∀ k, k < 6 → parseFieldDescriptor (F_3 k).2.2.1 = some (F_ty_3 k) := by decide +kernel
theorem inB_3 : ∀ w ∈ u_ws "OutletOffice$Car" F_3 6, w ∈ lw_tbl ∧ goodWord w = true := by decide +kernel
theorem in_3 {k : Cond} : ∀ w ∈ u_ws "OutletOffice$Car" F_3 6, w ∈ k :: TB := fun w h => tb_in (List.mem_filter.mpr (inB_3 w h))
def F_4 : u_T := fun k => match k with
  | 0 => ("OutletOffice$Queue", "rows", "[LOutletOffice$Message;", true)
  | 1 => ("OutletOffice$Queue", "head", "I", false)
  | 2 => ("OutletOffice$Queue", "nextNumber", "I", false)
  | 3 => ("OutletOffice$Queue", "size", "I", false)
  | _ => ("OutletOffice$Queue", "sentAt", "I", false)
def F_ty_4 : Nat → FieldType := fun k => match k with
  | 0 => .array (.object "OutletOffice$Message")
  | 1 => .int
  | 2 => .int
  | 3 => .int
  | _ => .int
theorem F_nm_4 : ∀ a, a < 5 → ∀ b, b < 5 → a ≠ b → (F_4 a).2.1 ≠ (F_4 b).2.1 := by decide +kernel
theorem F_tyok_4 : ∀ k, k < 5 → parseFieldDescriptor (F_4 k).2.2.1 = some (F_ty_4 k) := by decide +kernel
theorem inB_4 : ∀ w ∈ u_ws "OutletOffice$Queue" F_4 5, w ∈ lw_tbl ∧ goodWord w = true := by decide +kernel
theorem in_4 {k : Cond} : ∀ w ∈ u_ws "OutletOffice$Queue" F_4 5, w ∈ k :: TB := fun w h => tb_in (List.mem_filter.mpr (inB_4 w h))
def F_5 : u_T := fun k => match k with
  | 0 => ("OutletOffice$Message", "kind", "I", false)
  | 1 => ("OutletOffice$Message", "session", "I", false)
  | 2 => ("OutletOffice$Message", "card", "I", false)
  | 3 => ("OutletOffice$Message", "time", "I", false)
  | 4 => ("OutletOffice$Message", "wattHours", "I", false)
  | _ => ("OutletOffice$Message", "idle", "I", false)
def F_ty_5 : Nat → FieldType := fun k => match k with
  | 0 => .int
  | 1 => .int
  | 2 => .int
  | 3 => .int
  | 4 => .int
  | _ => .int
theorem F_nm_5 : ∀ a, a < 6 → ∀ b, b < 6 → a ≠ b → (F_5 a).2.1 ≠ (F_5 b).2.1 := by decide +kernel
theorem F_tyok_5 : ∀ k, k < 6 → parseFieldDescriptor (F_5 k).2.2.1 = some (F_ty_5 k) := by decide +kernel
theorem inB_5 : ∀ w ∈ u_ws "OutletOffice$Message" F_5 6, w ∈ lw_tbl ∧ goodWord w = true := by decide +kernel
theorem in_5 {k : Cond} : ∀ w ∈ u_ws "OutletOffice$Message" F_5 6, w ∈ k :: TB := fun w h => tb_in (List.mem_filter.mpr (inB_5 w h))
def F_6 : u_T := fun k => match k with
  | 0 => ("OutletOffice$CardList", "status", "[I", true)
  | _ => ("OutletOffice$CardList", "group", "[I", true)
def F_ty_6 : Nat → FieldType := fun k => match k with
  | 0 => .array (.int)
  | _ => .array (.int)
theorem F_nm_6 : ∀ a, a < 2 → ∀ b, b < 2 → a ≠ b → (F_6 a).2.1 ≠ (F_6 b).2.1 := by decide +kernel
theorem F_tyok_6 : ∀ k, k < 2 → parseFieldDescriptor (F_6 k).2.2.1 = some (F_ty_6 k) := by decide +kernel
theorem inB_6 : ∀ w ∈ u_ws "OutletOffice$CardList" F_6 2, w ∈ lw_tbl ∧ goodWord w = true := by decide +kernel
theorem in_6 {k : Cond} : ∀ w ∈ u_ws "OutletOffice$CardList" F_6 2, w ∈ k :: TB := fun w h => tb_in (List.mem_filter.mpr (inB_6 w h))
def F_7 : u_T := fun k => match k with
  | 0 => ("OutletOffice$Tariff", "minutes", "[I", true)
  | 1 => ("OutletOffice$Tariff", "prices", "[I", true)
  | 2 => ("OutletOffice$Tariff", "startFee", "I", false)
  | _ => ("OutletOffice$Tariff", "idleFee", "I", false)
def F_ty_7 : Nat → FieldType := fun k => match k with
  | 0 => .array (.int)
  | 1 => .array (.int)
  | 2 => .int
  | _ => .int
theorem F_nm_7 : ∀ a, a < 4 → ∀ b, b < 4 → a ≠ b → (F_7 a).2.1 ≠ (F_7 b).2.1 := by decide +kernel
theorem F_tyok_7 : ∀ k, k < 4 → parseFieldDescriptor (F_7 k).2.2.1 = some (F_ty_7 k) := by decide +kernel
theorem inB_7 : ∀ w ∈ u_ws "OutletOffice$Tariff" F_7 4, w ∈ lw_tbl ∧ goodWord w = true := by decide +kernel
theorem in_7 {k : Cond} : ∀ w ∈ u_ws "OutletOffice$Tariff" F_7 4, w ∈ k :: TB := fun w h => tb_in (List.mem_filter.mpr (inB_7 w h))
def F_8 : u_T := fun k => match k with
  | 0 => ("OutletOffice$Bill", "isOpen", "Z", false)
  | 1 => ("OutletOffice$Bill", "session", "I", false)
  | 2 => ("OutletOffice$Bill", "card", "I", false)
  | 3 => ("OutletOffice$Bill", "sum", "J", false)
  | 4 => ("OutletOffice$Bill", "firstWattHours", "I", false)
  | 5 => ("OutletOffice$Bill", "wattHours", "I", false)
  | _ => ("OutletOffice$Bill", "time", "I", false)
def F_ty_8 : Nat → FieldType := fun k => match k with
  | 0 => .boolean
  | 1 => .int
  | 2 => .int
  | 3 => .long
  | 4 => .int
  | 5 => .int
  | _ => .int
theorem F_nm_8 : ∀ a, a < 7 → ∀ b, b < 7 → a ≠ b → (F_8 a).2.1 ≠ (F_8 b).2.1 := by decide +kernel
theorem F_tyok_8 : ∀ k, k < 7 → parseFieldDescriptor (F_8 k).2.2.1 = some (F_ty_8 k) := by decide +kernel
theorem inB_8 : ∀ w ∈ u_ws "OutletOffice$Bill" F_8 7, w ∈ lw_tbl ∧ goodWord w = true := by decide +kernel
theorem in_8 {k : Cond} : ∀ w ∈ u_ws "OutletOffice$Bill" F_8 7, w ∈ k :: TB := fun w h => tb_in (List.mem_filter.mpr (inB_8 w h))
def F_9 : u_T := fun k => match k with
  | 0 => ("OutletOffice$Office", "cards", "LOutletOffice$CardList;", true)
  | 1 => ("OutletOffice$Office", "tariff", "LOutletOffice$Tariff;", true)
  | 2 => ("OutletOffice$Office", "openBills", "[LOutletOffice$Bill;", true)
  | 3 => ("OutletOffice$Office", "closedRows", "[I", true)
  | 4 => ("OutletOffice$Office", "centsOfCards", "[J", true)
  | 5 => ("OutletOffice$Office", "closedCount", "I", false)
  | _ => ("OutletOffice$Office", "latestNumbers", "[I", true)
def F_ty_9 : Nat → FieldType := fun k => match k with
  | 0 => .object "OutletOffice$CardList"
  | 1 => .object "OutletOffice$Tariff"
  | 2 => .array (.object "OutletOffice$Bill")
  | 3 => .array (.int)
  | 4 => .array (.long)
  | 5 => .int
  | _ => .array (.int)
theorem F_nm_9 : ∀ a, a < 7 → ∀ b, b < 7 → a ≠ b → (F_9 a).2.1 ≠ (F_9 b).2.1 := by decide +kernel
theorem F_tyok_9 : ∀ k, k < 7 → parseFieldDescriptor (F_9 k).2.2.1 = some (F_ty_9 k) := by decide +kernel
theorem inB_9 : ∀ w ∈ u_ws "OutletOffice$Office" F_9 7, w ∈ lw_tbl ∧ goodWord w = true := by decide +kernel
theorem in_9 {k : Cond} : ∀ w ∈ u_ws "OutletOffice$Office" F_9 7, w ∈ k :: TB := fun w h => tb_in (List.mem_filter.mpr (inB_9 w h))
def F_10 : u_T := fun k => match k with
  | 0 => ("OutletOfficeModel", "thrown", "I", false)
  | 1 => ("OutletOfficeModel", "time", "I", false)
  | 2 => ("OutletOfficeModel", "limits", "[I", true)
  | 3 => ("OutletOfficeModel", "minutes", "[I", true)
  | 4 => ("OutletOfficeModel", "prices", "[I", true)
  | 5 => ("OutletOfficeModel", "startFee", "I", false)
  | 6 => ("OutletOfficeModel", "idleFee", "I", false)
  | 7 => ("OutletOfficeModel", "status", "[I", true)
  | 8 => ("OutletOfficeModel", "group", "[I", true)
  | 9 => ("OutletOfficeModel", "power", "[Z", true)
  | 10 => ("OutletOfficeModel", "line", "[Z", true)
  | 11 => ("OutletOfficeModel", "meter", "[J", true)
  | 12 => ("OutletOfficeModel", "session", "[I", true)
  | 13 => ("OutletOfficeModel", "sessions", "[I", true)
  | 14 => ("OutletOfficeModel", "sessionCard", "[I", true)
  | 15 => ("OutletOfficeModel", "many", "[I", true)
  | 16 => ("OutletOfficeModel", "nextNumber", "[I", true)
  | 17 => ("OutletOfficeModel", "sentAt", "[I", true)
  | 18 => ("OutletOfficeModel", "underWay", "[I", true)
  | 19 => ("OutletOfficeModel", "messages", "[I", true)
  | 20 => ("OutletOfficeModel", "hours", "[J", true)
  | 21 => ("OutletOfficeModel", "car", "[Z", true)
  | 22 => ("OutletOfficeModel", "wants", "[I", true)
  | 23 => ("OutletOfficeModel", "weight", "[I", true)
  | 24 => ("OutletOfficeModel", "hunger", "[J", true)
  | 25 => ("OutletOfficeModel", "full", "[Z", true)
  | 26 => ("OutletOfficeModel", "fullAt", "[I", true)
  | 27 => ("OutletOfficeModel", "taken", "[I", true)
  | 28 => ("OutletOfficeModel", "open", "[Z", true)
  | 29 => ("OutletOfficeModel", "billSession", "[I", true)
  | 30 => ("OutletOfficeModel", "billCard", "[I", true)
  | 31 => ("OutletOfficeModel", "billSum", "[J", true)
  | 32 => ("OutletOfficeModel", "billHours", "[J", true)
  | 33 => ("OutletOfficeModel", "billFirst", "[J", true)
  | 34 => ("OutletOfficeModel", "billTime", "[I", true)
  | 35 => ("OutletOfficeModel", "bills", "I", false)
  | 36 => ("OutletOfficeModel", "closed", "[I", true)
  | 37 => ("OutletOfficeModel", "totals", "[J", true)
  | 38 => ("OutletOfficeModel", "currents", "[I", true)
  | _ => ("OutletOfficeModel", "known", "Z", false)
def F_ty_10 : Nat → FieldType := fun k => match k with
  | 0 => .int
  | 1 => .int
  | 2 => .array (.int)
  | 3 => .array (.int)
  | 4 => .array (.int)
  | 5 => .int
  | 6 => .int
  | 7 => .array (.int)
  | 8 => .array (.int)
  | 9 => .array (.boolean)
  | 10 => .array (.boolean)
  | 11 => .array (.long)
  | 12 => .array (.int)
  | 13 => .array (.int)
  | 14 => .array (.int)
  | 15 => .array (.int)
  | 16 => .array (.int)
  | 17 => .array (.int)
  | 18 => .array (.int)
  | 19 => .array (.int)
  | 20 => .array (.long)
  | 21 => .array (.boolean)
  | 22 => .array (.int)
  | 23 => .array (.int)
  | 24 => .array (.long)
  | 25 => .array (.boolean)
  | 26 => .array (.int)
  | 27 => .array (.int)
  | 28 => .array (.boolean)
  | 29 => .array (.int)
  | 30 => .array (.int)
  | 31 => .array (.long)
  | 32 => .array (.long)
  | 33 => .array (.long)
  | 34 => .array (.int)
  | 35 => .int
  | 36 => .array (.int)
  | 37 => .array (.long)
  | 38 => .array (.int)
  | _ => .boolean
theorem F_nm_10 : ∀ a, a < 40 → ∀ b, b < 40 → a ≠ b → (F_10 a).2.1 ≠ (F_10 b).2.1 := by decide +kernel
theorem F_tyok_10 : ∀ k, k < 40 → parseFieldDescriptor (F_10 k).2.2.1 = some (F_ty_10 k) := by decide +kernel
theorem inB_10 : ∀ w ∈ u_ws "OutletOfficeModel" F_10 40, w ∈ lw_tbl ∧ goodWord w = true := by decide +kernel
theorem in_10 {k : Cond} : ∀ w ∈ u_ws "OutletOfficeModel" F_10 40, w ∈ k :: TB := fun w h => tb_in (List.mem_filter.mpr (inB_10 w h))
def CL : List vw_C := [("OutletOffice", F_0, 3), ("OutletOffice$Site", F_1, 2), ("OutletOffice$Point", F_2, 12), ("OutletOffice$Car", F_3, 6), ("OutletOffice$Queue", F_4, 5), ("OutletOffice$Message", F_5, 6), ("OutletOffice$CardList", F_6, 2), ("OutletOffice$Tariff", F_7, 4), ("OutletOffice$Bill", F_8, 7), ("OutletOffice$Office", F_9, 7), ("OutletOfficeModel", F_10, 40)]
def TYS (cA : Nat → ClassId) : List (ClassId × FieldType) := [(cA 100, .int), (cA 101, .long), (cA 102, .boolean), (cA 103, .object "OutletOffice$Site"), (cA 104, .object "OutletOffice$Point"), (cA 105, .object "OutletOffice$Message"), (cA 106, .object "OutletOffice$Bill")]
def TKl : List (List (Nat × Nat)) := [[(2, 1), (2, 2), (0, 0)], [(2, 1), (0, 0)], [(2, 1), (2, 2), (2, 28), (0, 0), (0, 0), (1, 0), (0, 0), (0, 0), (0, 0), (0, 0), (0, 0), (0, 0)], [(0, 0), (0, 0), (0, 0), (0, 0), (0, 0), (0, 0)], [(2, 1), (0, 0), (0, 0), (0, 0), (0, 0)], [(0, 0), (0, 0), (0, 0), (0, 0), (0, 0), (0, 0)], [(2, 1), (2, 2)], [(2, 1), (2, 2), (0, 0), (0, 0)], [(0, 0), (0, 0), (0, 0), (1, 0), (0, 0), (0, 0), (0, 0)], [(2, 1), (2, 4), (2, 7), (2, 8), (2, 9), (0, 0), (2, 10)], [(0, 0), (0, 0), (2, 1), (2, 2), (2, 3), (0, 0), (0, 0), (2, 4), (2, 5), (2, 6), (2, 7), (2, 8), (2, 9), (2, 10), (2, 11), (2, 12), (2, 13), (2, 14), (2, 15), (2, 16), (2, 17), (2, 18), (2, 19), (2, 20), (2, 21), (2, 22), (2, 23), (2, 24), (2, 25), (2, 26), (2, 27), (2, 28), (2, 29), (2, 30), (2, 31), (0, 0), (2, 32), (2, 33), (2, 34), (0, 0)]]
/-- a slot's type: 0 an int, 1 a long, 2 the address of the cell so many places on -/
def TK (kd k : Nat) : Nat × Nat := if kd < 100 then (TKl.getD kd []).getD k (0, 0) else if kd = 101 then (1, 0) else if kd = 103 then (2, 18 + 95 * k) else if kd = 104 then (2, 1 + 31 * k) else if kd = 105 then (2, 1 + 1 * k) else if kd = 106 then (2, 4 + 1 * k) else (0, 0)
theorem tk_0_0 : TK 0 0 = (2, 1) := by decide +kernel
theorem tk_0_1 : TK 0 1 = (2, 2) := by decide +kernel
theorem tk_0_2 : TK 0 2 = (0, 0) := by decide +kernel
theorem tk_1_0 : TK 1 0 = (2, 1) := by decide +kernel
theorem tk_1_1 : TK 1 1 = (0, 0) := by decide +kernel
theorem tk_2_0 : TK 2 0 = (2, 1) := by decide +kernel
theorem tk_2_1 : TK 2 1 = (2, 2) := by decide +kernel
theorem tk_2_2 : TK 2 2 = (2, 28) := by decide +kernel
theorem tk_2_3 : TK 2 3 = (0, 0) := by decide +kernel
theorem tk_2_4 : TK 2 4 = (0, 0) := by decide +kernel
theorem tk_2_5 : TK 2 5 = (1, 0) := by decide +kernel
theorem tk_2_6 : TK 2 6 = (0, 0) := by decide +kernel
theorem tk_2_7 : TK 2 7 = (0, 0) := by decide +kernel
theorem tk_2_8 : TK 2 8 = (0, 0) := by decide +kernel
theorem tk_2_9 : TK 2 9 = (0, 0) := by decide +kernel
theorem tk_2_10 : TK 2 10 = (0, 0) := by decide +kernel
theorem tk_2_11 : TK 2 11 = (0, 0) := by decide +kernel
theorem tk_3_0 : TK 3 0 = (0, 0) := by decide +kernel
theorem tk_3_1 : TK 3 1 = (0, 0) := by decide +kernel
theorem tk_3_2 : TK 3 2 = (0, 0) := by decide +kernel
theorem tk_3_3 : TK 3 3 = (0, 0) := by decide +kernel
theorem tk_3_4 : TK 3 4 = (0, 0) := by decide +kernel
theorem tk_3_5 : TK 3 5 = (0, 0) := by decide +kernel
theorem tk_4_0 : TK 4 0 = (2, 1) := by decide +kernel
theorem tk_4_1 : TK 4 1 = (0, 0) := by decide +kernel
theorem tk_4_2 : TK 4 2 = (0, 0) := by decide +kernel
theorem tk_4_3 : TK 4 3 = (0, 0) := by decide +kernel
theorem tk_4_4 : TK 4 4 = (0, 0) := by decide +kernel
theorem tk_5_0 : TK 5 0 = (0, 0) := by decide +kernel
theorem tk_5_1 : TK 5 1 = (0, 0) := by decide +kernel
theorem tk_5_2 : TK 5 2 = (0, 0) := by decide +kernel
theorem tk_5_3 : TK 5 3 = (0, 0) := by decide +kernel
theorem tk_5_4 : TK 5 4 = (0, 0) := by decide +kernel
theorem tk_5_5 : TK 5 5 = (0, 0) := by decide +kernel
theorem tk_6_0 : TK 6 0 = (2, 1) := by decide +kernel
theorem tk_6_1 : TK 6 1 = (2, 2) := by decide +kernel
theorem tk_7_0 : TK 7 0 = (2, 1) := by decide +kernel
theorem tk_7_1 : TK 7 1 = (2, 2) := by decide +kernel
theorem tk_7_2 : TK 7 2 = (0, 0) := by decide +kernel
theorem tk_7_3 : TK 7 3 = (0, 0) := by decide +kernel
theorem tk_8_0 : TK 8 0 = (0, 0) := by decide +kernel
theorem tk_8_1 : TK 8 1 = (0, 0) := by decide +kernel
theorem tk_8_2 : TK 8 2 = (0, 0) := by decide +kernel
theorem tk_8_3 : TK 8 3 = (1, 0) := by decide +kernel
theorem tk_8_4 : TK 8 4 = (0, 0) := by decide +kernel
theorem tk_8_5 : TK 8 5 = (0, 0) := by decide +kernel
theorem tk_8_6 : TK 8 6 = (0, 0) := by decide +kernel
theorem tk_9_0 : TK 9 0 = (2, 1) := by decide +kernel
theorem tk_9_1 : TK 9 1 = (2, 4) := by decide +kernel
theorem tk_9_2 : TK 9 2 = (2, 7) := by decide +kernel
theorem tk_9_3 : TK 9 3 = (2, 8) := by decide +kernel
theorem tk_9_4 : TK 9 4 = (2, 9) := by decide +kernel
theorem tk_9_5 : TK 9 5 = (0, 0) := by decide +kernel
theorem tk_9_6 : TK 9 6 = (2, 10) := by decide +kernel
theorem tk_10_0 : TK 10 0 = (0, 0) := by decide +kernel
theorem tk_10_1 : TK 10 1 = (0, 0) := by decide +kernel
theorem tk_10_2 : TK 10 2 = (2, 1) := by decide +kernel
theorem tk_10_3 : TK 10 3 = (2, 2) := by decide +kernel
theorem tk_10_4 : TK 10 4 = (2, 3) := by decide +kernel
theorem tk_10_5 : TK 10 5 = (0, 0) := by decide +kernel
theorem tk_10_6 : TK 10 6 = (0, 0) := by decide +kernel
theorem tk_10_7 : TK 10 7 = (2, 4) := by decide +kernel
theorem tk_10_8 : TK 10 8 = (2, 5) := by decide +kernel
theorem tk_10_9 : TK 10 9 = (2, 6) := by decide +kernel
theorem tk_10_10 : TK 10 10 = (2, 7) := by decide +kernel
theorem tk_10_11 : TK 10 11 = (2, 8) := by decide +kernel
theorem tk_10_12 : TK 10 12 = (2, 9) := by decide +kernel
theorem tk_10_13 : TK 10 13 = (2, 10) := by decide +kernel
theorem tk_10_14 : TK 10 14 = (2, 11) := by decide +kernel
theorem tk_10_15 : TK 10 15 = (2, 12) := by decide +kernel
theorem tk_10_16 : TK 10 16 = (2, 13) := by decide +kernel
theorem tk_10_17 : TK 10 17 = (2, 14) := by decide +kernel
theorem tk_10_18 : TK 10 18 = (2, 15) := by decide +kernel
theorem tk_10_19 : TK 10 19 = (2, 16) := by decide +kernel
theorem tk_10_20 : TK 10 20 = (2, 17) := by decide +kernel
theorem tk_10_21 : TK 10 21 = (2, 18) := by decide +kernel
theorem tk_10_22 : TK 10 22 = (2, 19) := by decide +kernel
theorem tk_10_23 : TK 10 23 = (2, 20) := by decide +kernel
theorem tk_10_24 : TK 10 24 = (2, 21) := by decide +kernel
theorem tk_10_25 : TK 10 25 = (2, 22) := by decide +kernel
theorem tk_10_26 : TK 10 26 = (2, 23) := by decide +kernel
theorem tk_10_27 : TK 10 27 = (2, 24) := by decide +kernel
theorem tk_10_28 : TK 10 28 = (2, 25) := by decide +kernel
theorem tk_10_29 : TK 10 29 = (2, 26) := by decide +kernel
theorem tk_10_30 : TK 10 30 = (2, 27) := by decide +kernel
theorem tk_10_31 : TK 10 31 = (2, 28) := by decide +kernel
theorem tk_10_32 : TK 10 32 = (2, 29) := by decide +kernel
theorem tk_10_33 : TK 10 33 = (2, 30) := by decide +kernel
theorem tk_10_34 : TK 10 34 = (2, 31) := by decide +kernel
theorem tk_10_35 : TK 10 35 = (0, 0) := by decide +kernel
theorem tk_10_36 : TK 10 36 = (2, 32) := by decide +kernel
theorem tk_10_37 : TK 10 37 = (2, 33) := by decide +kernel
theorem tk_10_38 : TK 10 38 = (2, 34) := by decide +kernel
theorem tk_10_39 : TK 10 39 = (0, 0) := by decide +kernel
theorem tka_100 : ∀ j, TK 100 j = (0, 0) := fun _ => rfl
theorem tka_102 : ∀ j, TK 102 j = (0, 0) := fun _ => rfl
theorem tka_101 : ∀ j, TK 101 j = (1, 0) := fun _ => rfl
theorem tka_103 : ∀ j, TK 103 j = (2, 18 + 95 * j) := fun _ => rfl
theorem tka_104 : ∀ j, TK 104 j = (2, 1 + 31 * j) := fun _ => rfl
theorem tka_105 : ∀ j, TK 105 j = (2, 1 + 1 * j) := fun _ => rfl
theorem tka_106 : ∀ j, TK 106 j = (2, 4 + 1 * j) := fun _ => rfl
def layUl : List (Nat × Nat) := [(0, 0), (103, 2), (9, 0), (6, 0), (100, 16), (100, 16), (7, 0), (100, 4), (100, 4), (106, 6), (100, 640), (101, 16), (100, 6), (8, 0), (8, 0), (8, 0), (8, 0), (8, 0), (8, 0), (1, 0), (104, 3), (2, 0), (3, 0), (4, 0), (105, 24), (5, 0), (5, 0), (5, 0), (5, 0), (5, 0), (5, 0), (5, 0), (5, 0), (5, 0), (5, 0), (5, 0), (5, 0), (5, 0), (5, 0), (5, 0), (5, 0), (5, 0), (5, 0), (5, 0), (5, 0), (5, 0), (5, 0), (5, 0), (5, 0), (6, 0), (100, 16), (100, 16), (2, 0), (3, 0), (4, 0), (105, 24), (5, 0), (5, 0), (5, 0), (5, 0), (5, 0), (5, 0), (5, 0), (5, 0), (5, 0), (5, 0), (5, 0), (5, 0), (5, 0), (5, 0), (5, 0), (5, 0), (5, 0), (5, 0), (5, 0), (5, 0), (5, 0), (5, 0), (5, 0), (5, 0), (6, 0), (100, 16), (100, 16), (2, 0), (3, 0), (4, 0), (105, 24), (5, 0), (5, 0), (5, 0), (5, 0), (5, 0), (5, 0), (5, 0), (5, 0), (5, 0), (5, 0), (5, 0), (5, 0), (5, 0), (5, 0), (5, 0), (5, 0), (5, 0), (5, 0), (5, 0), (5, 0), (5, 0), (5, 0), (5, 0), (5, 0), (6, 0), (100, 16), (100, 16), (1, 0), (104, 3), (2, 0), (3, 0), (4, 0), (105, 24), (5, 0), (5, 0), (5, 0), (5, 0), (5, 0), (5, 0), (5, 0), (5, 0), (5, 0), (5, 0), (5, 0), (5, 0), (5, 0), (5, 0), (5, 0), (5, 0), (5, 0), (5, 0), (5, 0), (5, 0), (5, 0), (5, 0), (5, 0), (5, 0), (6, 0), (100, 16), (100, 16), (2, 0), (3, 0), (4, 0), (105, 24), (5, 0), (5, 0), (5, 0), (5, 0), (5, 0), (5, 0), (5, 0), (5, 0), (5, 0), (5, 0), (5, 0), (5, 0), (5, 0), (5, 0), (5, 0), (5, 0), (5, 0), (5, 0), (5, 0), (5, 0), (5, 0), (5, 0), (5, 0), (5, 0), (6, 0), (100, 16), (100, 16), (2, 0), (3, 0), (4, 0), (105, 24), (5, 0), (5, 0), (5, 0), (5, 0), (5, 0), (5, 0), (5, 0), (5, 0), (5, 0), (5, 0), (5, 0), (5, 0), (5, 0), (5, 0), (5, 0), (5, 0), (5, 0), (5, 0), (5, 0), (5, 0), (5, 0), (5, 0), (5, 0), (5, 0), (6, 0), (100, 16), (100, 16), (10, 0), (100, 2), (100, 4), (100, 4), (100, 112), (100, 112), (102, 6), (102, 6), (101, 6), (100, 6), (100, 6), (100, 6), (100, 6), (100, 6), (100, 6), (100, 6), (100, 864), (101, 144), (102, 6), (100, 6), (100, 6), (101, 6), (102, 6), (100, 6), (100, 6), (102, 6), (100, 6), (100, 6), (101, 6), (101, 6), (101, 6), (100, 6), (100, 640), (101, 16), (100, 6), (101, 1)]
def layU (o : Nat) : Nat × Nat := layUl.getD o (999, 0)
theorem lfB_0_0 : ∀ o, o < 245 → layU o = (0, 0) → (o + 1 < 245 ∧ layU (o + 1) = (103, 2)) := by decide +kernel
theorem lf_0_0 {o : Nat} (h : o < 245 ∧ layU o = (0, 0)) : o + 1 < 245 ∧ layU (o + 1) = (103, 2) := lfB_0_0 o h.1 h.2
theorem lfB_0_1 : ∀ o, o < 245 → layU o = (0, 0) → (o + 2 < 245 ∧ layU (o + 2) = (9, 0)) := by decide +kernel
theorem lf_0_1 {o : Nat} (h : o < 245 ∧ layU o = (0, 0)) : o + 2 < 245 ∧ layU (o + 2) = (9, 0) := lfB_0_1 o h.1 h.2
theorem lfB_1_0 : ∀ o, o < 245 → layU o = (1, 0) → (o + 1 < 245 ∧ layU (o + 1) = (104, 3)) := by decide +kernel
theorem lf_1_0 {o : Nat} (h : o < 245 ∧ layU o = (1, 0)) : o + 1 < 245 ∧ layU (o + 1) = (104, 3) := lfB_1_0 o h.1 h.2
theorem lfB_2_0 : ∀ o, o < 245 → layU o = (2, 0) → (o + 1 < 245 ∧ layU (o + 1) = (3, 0)) := by decide +kernel
theorem lf_2_0 {o : Nat} (h : o < 245 ∧ layU o = (2, 0)) : o + 1 < 245 ∧ layU (o + 1) = (3, 0) := lfB_2_0 o h.1 h.2
theorem lfB_2_1 : ∀ o, o < 245 → layU o = (2, 0) → (o + 2 < 245 ∧ layU (o + 2) = (4, 0)) := by decide +kernel
theorem lf_2_1 {o : Nat} (h : o < 245 ∧ layU o = (2, 0)) : o + 2 < 245 ∧ layU (o + 2) = (4, 0) := lfB_2_1 o h.1 h.2
theorem lfB_2_2 : ∀ o, o < 245 → layU o = (2, 0) → (o + 28 < 245 ∧ layU (o + 28) = (6, 0)) := by decide +kernel
theorem lf_2_2 {o : Nat} (h : o < 245 ∧ layU o = (2, 0)) : o + 28 < 245 ∧ layU (o + 28) = (6, 0) := lfB_2_2 o h.1 h.2
theorem lfB_4_0 : ∀ o, o < 245 → layU o = (4, 0) → (o + 1 < 245 ∧ layU (o + 1) = (105, 24)) := by decide +kernel
theorem lf_4_0 {o : Nat} (h : o < 245 ∧ layU o = (4, 0)) : o + 1 < 245 ∧ layU (o + 1) = (105, 24) := lfB_4_0 o h.1 h.2
theorem lfB_6_0 : ∀ o, o < 245 → layU o = (6, 0) → (o + 1 < 245 ∧ layU (o + 1) = (100, 16)) := by decide +kernel
theorem lf_6_0 {o : Nat} (h : o < 245 ∧ layU o = (6, 0)) : o + 1 < 245 ∧ layU (o + 1) = (100, 16) := lfB_6_0 o h.1 h.2
theorem lfB_6_1 : ∀ o, o < 245 → layU o = (6, 0) → (o + 2 < 245 ∧ layU (o + 2) = (100, 16)) := by decide +kernel
theorem lf_6_1 {o : Nat} (h : o < 245 ∧ layU o = (6, 0)) : o + 2 < 245 ∧ layU (o + 2) = (100, 16) := lfB_6_1 o h.1 h.2
theorem lfB_7_0 : ∀ o, o < 245 → layU o = (7, 0) → (o + 1 < 245 ∧ layU (o + 1) = (100, 4)) := by decide +kernel
theorem lf_7_0 {o : Nat} (h : o < 245 ∧ layU o = (7, 0)) : o + 1 < 245 ∧ layU (o + 1) = (100, 4) := lfB_7_0 o h.1 h.2
theorem lfB_7_1 : ∀ o, o < 245 → layU o = (7, 0) → (o + 2 < 245 ∧ layU (o + 2) = (100, 4)) := by decide +kernel
theorem lf_7_1 {o : Nat} (h : o < 245 ∧ layU o = (7, 0)) : o + 2 < 245 ∧ layU (o + 2) = (100, 4) := lfB_7_1 o h.1 h.2
theorem lfB_9_0 : ∀ o, o < 245 → layU o = (9, 0) → (o + 1 < 245 ∧ layU (o + 1) = (6, 0)) := by decide +kernel
theorem lf_9_0 {o : Nat} (h : o < 245 ∧ layU o = (9, 0)) : o + 1 < 245 ∧ layU (o + 1) = (6, 0) := lfB_9_0 o h.1 h.2
theorem lfB_9_1 : ∀ o, o < 245 → layU o = (9, 0) → (o + 4 < 245 ∧ layU (o + 4) = (7, 0)) := by decide +kernel
theorem lf_9_1 {o : Nat} (h : o < 245 ∧ layU o = (9, 0)) : o + 4 < 245 ∧ layU (o + 4) = (7, 0) := lfB_9_1 o h.1 h.2
theorem lfB_9_2 : ∀ o, o < 245 → layU o = (9, 0) → (o + 7 < 245 ∧ layU (o + 7) = (106, 6)) := by decide +kernel
theorem lf_9_2 {o : Nat} (h : o < 245 ∧ layU o = (9, 0)) : o + 7 < 245 ∧ layU (o + 7) = (106, 6) := lfB_9_2 o h.1 h.2
theorem lfB_9_3 : ∀ o, o < 245 → layU o = (9, 0) → (o + 8 < 245 ∧ layU (o + 8) = (100, 640)) := by decide +kernel
theorem lf_9_3 {o : Nat} (h : o < 245 ∧ layU o = (9, 0)) : o + 8 < 245 ∧ layU (o + 8) = (100, 640) := lfB_9_3 o h.1 h.2
theorem lfB_9_4 : ∀ o, o < 245 → layU o = (9, 0) → (o + 9 < 245 ∧ layU (o + 9) = (101, 16)) := by decide +kernel
theorem lf_9_4 {o : Nat} (h : o < 245 ∧ layU o = (9, 0)) : o + 9 < 245 ∧ layU (o + 9) = (101, 16) := lfB_9_4 o h.1 h.2
theorem lfB_9_6 : ∀ o, o < 245 → layU o = (9, 0) → (o + 10 < 245 ∧ layU (o + 10) = (100, 6)) := by decide +kernel
theorem lf_9_6 {o : Nat} (h : o < 245 ∧ layU o = (9, 0)) : o + 10 < 245 ∧ layU (o + 10) = (100, 6) := lfB_9_6 o h.1 h.2
theorem lfB_10_2 : ∀ o, o < 245 → layU o = (10, 0) → (o + 1 < 245 ∧ layU (o + 1) = (100, 2)) := by decide +kernel
theorem lf_10_2 {o : Nat} (h : o < 245 ∧ layU o = (10, 0)) : o + 1 < 245 ∧ layU (o + 1) = (100, 2) := lfB_10_2 o h.1 h.2
theorem lfB_10_3 : ∀ o, o < 245 → layU o = (10, 0) → (o + 2 < 245 ∧ layU (o + 2) = (100, 4)) := by decide +kernel
theorem lf_10_3 {o : Nat} (h : o < 245 ∧ layU o = (10, 0)) : o + 2 < 245 ∧ layU (o + 2) = (100, 4) := lfB_10_3 o h.1 h.2
theorem lfB_10_4 : ∀ o, o < 245 → layU o = (10, 0) → (o + 3 < 245 ∧ layU (o + 3) = (100, 4)) := by decide +kernel
theorem lf_10_4 {o : Nat} (h : o < 245 ∧ layU o = (10, 0)) : o + 3 < 245 ∧ layU (o + 3) = (100, 4) := lfB_10_4 o h.1 h.2
theorem lfB_10_7 : ∀ o, o < 245 → layU o = (10, 0) → (o + 4 < 245 ∧ layU (o + 4) = (100, 112)) := by decide +kernel
theorem lf_10_7 {o : Nat} (h : o < 245 ∧ layU o = (10, 0)) : o + 4 < 245 ∧ layU (o + 4) = (100, 112) := lfB_10_7 o h.1 h.2
theorem lfB_10_8 : ∀ o, o < 245 → layU o = (10, 0) → (o + 5 < 245 ∧ layU (o + 5) = (100, 112)) := by decide +kernel
theorem lf_10_8 {o : Nat} (h : o < 245 ∧ layU o = (10, 0)) : o + 5 < 245 ∧ layU (o + 5) = (100, 112) := lfB_10_8 o h.1 h.2
theorem lfB_10_9 : ∀ o, o < 245 → layU o = (10, 0) → (o + 6 < 245 ∧ layU (o + 6) = (102, 6)) := by decide +kernel
theorem lf_10_9 {o : Nat} (h : o < 245 ∧ layU o = (10, 0)) : o + 6 < 245 ∧ layU (o + 6) = (102, 6) := lfB_10_9 o h.1 h.2
theorem lfB_10_10 : ∀ o, o < 245 → layU o = (10, 0) → (o + 7 < 245 ∧ layU (o + 7) = (102, 6)) := by decide +kernel
theorem lf_10_10 {o : Nat} (h : o < 245 ∧ layU o = (10, 0)) : o + 7 < 245 ∧ layU (o + 7) = (102, 6) := lfB_10_10 o h.1 h.2
theorem lfB_10_11 : ∀ o, o < 245 → layU o = (10, 0) → (o + 8 < 245 ∧ layU (o + 8) = (101, 6)) := by decide +kernel
theorem lf_10_11 {o : Nat} (h : o < 245 ∧ layU o = (10, 0)) : o + 8 < 245 ∧ layU (o + 8) = (101, 6) := lfB_10_11 o h.1 h.2
theorem lfB_10_12 : ∀ o, o < 245 → layU o = (10, 0) → (o + 9 < 245 ∧ layU (o + 9) = (100, 6)) := by decide +kernel
theorem lf_10_12 {o : Nat} (h : o < 245 ∧ layU o = (10, 0)) : o + 9 < 245 ∧ layU (o + 9) = (100, 6) := lfB_10_12 o h.1 h.2
theorem lfB_10_13 : ∀ o, o < 245 → layU o = (10, 0) → (o + 10 < 245 ∧ layU (o + 10) = (100, 6)) := by decide +kernel
theorem lf_10_13 {o : Nat} (h : o < 245 ∧ layU o = (10, 0)) : o + 10 < 245 ∧ layU (o + 10) = (100, 6) := lfB_10_13 o h.1 h.2
theorem lfB_10_14 : ∀ o, o < 245 → layU o = (10, 0) → (o + 11 < 245 ∧ layU (o + 11) = (100, 6)) := by decide +kernel
theorem lf_10_14 {o : Nat} (h : o < 245 ∧ layU o = (10, 0)) : o + 11 < 245 ∧ layU (o + 11) = (100, 6) := lfB_10_14 o h.1 h.2
theorem lfB_10_15 : ∀ o, o < 245 → layU o = (10, 0) → (o + 12 < 245 ∧ layU (o + 12) = (100, 6)) := by decide +kernel
theorem lf_10_15 {o : Nat} (h : o < 245 ∧ layU o = (10, 0)) : o + 12 < 245 ∧ layU (o + 12) = (100, 6) := lfB_10_15 o h.1 h.2
theorem lfB_10_16 : ∀ o, o < 245 → layU o = (10, 0) → (o + 13 < 245 ∧ layU (o + 13) = (100, 6)) := by decide +kernel
theorem lf_10_16 {o : Nat} (h : o < 245 ∧ layU o = (10, 0)) : o + 13 < 245 ∧ layU (o + 13) = (100, 6) := lfB_10_16 o h.1 h.2
theorem lfB_10_17 : ∀ o, o < 245 → layU o = (10, 0) → (o + 14 < 245 ∧ layU (o + 14) = (100, 6)) := by decide +kernel
theorem lf_10_17 {o : Nat} (h : o < 245 ∧ layU o = (10, 0)) : o + 14 < 245 ∧ layU (o + 14) = (100, 6) := lfB_10_17 o h.1 h.2
theorem lfB_10_18 : ∀ o, o < 245 → layU o = (10, 0) → (o + 15 < 245 ∧ layU (o + 15) = (100, 6)) := by decide +kernel
theorem lf_10_18 {o : Nat} (h : o < 245 ∧ layU o = (10, 0)) : o + 15 < 245 ∧ layU (o + 15) = (100, 6) := lfB_10_18 o h.1 h.2
theorem lfB_10_19 : ∀ o, o < 245 → layU o = (10, 0) → (o + 16 < 245 ∧ layU (o + 16) = (100, 864)) := by decide +kernel
theorem lf_10_19 {o : Nat} (h : o < 245 ∧ layU o = (10, 0)) : o + 16 < 245 ∧ layU (o + 16) = (100, 864) := lfB_10_19 o h.1 h.2
theorem lfB_10_20 : ∀ o, o < 245 → layU o = (10, 0) → (o + 17 < 245 ∧ layU (o + 17) = (101, 144)) := by decide +kernel
theorem lf_10_20 {o : Nat} (h : o < 245 ∧ layU o = (10, 0)) : o + 17 < 245 ∧ layU (o + 17) = (101, 144) := lfB_10_20 o h.1 h.2
theorem lfB_10_21 : ∀ o, o < 245 → layU o = (10, 0) → (o + 18 < 245 ∧ layU (o + 18) = (102, 6)) := by decide +kernel
theorem lf_10_21 {o : Nat} (h : o < 245 ∧ layU o = (10, 0)) : o + 18 < 245 ∧ layU (o + 18) = (102, 6) := lfB_10_21 o h.1 h.2
theorem lfB_10_22 : ∀ o, o < 245 → layU o = (10, 0) → (o + 19 < 245 ∧ layU (o + 19) = (100, 6)) := by decide +kernel
theorem lf_10_22 {o : Nat} (h : o < 245 ∧ layU o = (10, 0)) : o + 19 < 245 ∧ layU (o + 19) = (100, 6) := lfB_10_22 o h.1 h.2
theorem lfB_10_23 : ∀ o, o < 245 → layU o = (10, 0) → (o + 20 < 245 ∧ layU (o + 20) = (100, 6)) := by decide +kernel
theorem lf_10_23 {o : Nat} (h : o < 245 ∧ layU o = (10, 0)) : o + 20 < 245 ∧ layU (o + 20) = (100, 6) := lfB_10_23 o h.1 h.2
theorem lfB_10_24 : ∀ o, o < 245 → layU o = (10, 0) → (o + 21 < 245 ∧ layU (o + 21) = (101, 6)) := by decide +kernel
theorem lf_10_24 {o : Nat} (h : o < 245 ∧ layU o = (10, 0)) : o + 21 < 245 ∧ layU (o + 21) = (101, 6) := lfB_10_24 o h.1 h.2
theorem lfB_10_25 : ∀ o, o < 245 → layU o = (10, 0) → (o + 22 < 245 ∧ layU (o + 22) = (102, 6)) := by decide +kernel
theorem lf_10_25 {o : Nat} (h : o < 245 ∧ layU o = (10, 0)) : o + 22 < 245 ∧ layU (o + 22) = (102, 6) := lfB_10_25 o h.1 h.2
theorem lfB_10_26 : ∀ o, o < 245 → layU o = (10, 0) → (o + 23 < 245 ∧ layU (o + 23) = (100, 6)) := by decide +kernel
theorem lf_10_26 {o : Nat} (h : o < 245 ∧ layU o = (10, 0)) : o + 23 < 245 ∧ layU (o + 23) = (100, 6) := lfB_10_26 o h.1 h.2
theorem lfB_10_27 : ∀ o, o < 245 → layU o = (10, 0) → (o + 24 < 245 ∧ layU (o + 24) = (100, 6)) := by decide +kernel
theorem lf_10_27 {o : Nat} (h : o < 245 ∧ layU o = (10, 0)) : o + 24 < 245 ∧ layU (o + 24) = (100, 6) := lfB_10_27 o h.1 h.2
theorem lfB_10_28 : ∀ o, o < 245 → layU o = (10, 0) → (o + 25 < 245 ∧ layU (o + 25) = (102, 6)) := by decide +kernel
theorem lf_10_28 {o : Nat} (h : o < 245 ∧ layU o = (10, 0)) : o + 25 < 245 ∧ layU (o + 25) = (102, 6) := lfB_10_28 o h.1 h.2
theorem lfB_10_29 : ∀ o, o < 245 → layU o = (10, 0) → (o + 26 < 245 ∧ layU (o + 26) = (100, 6)) := by decide +kernel
theorem lf_10_29 {o : Nat} (h : o < 245 ∧ layU o = (10, 0)) : o + 26 < 245 ∧ layU (o + 26) = (100, 6) := lfB_10_29 o h.1 h.2
theorem lfB_10_30 : ∀ o, o < 245 → layU o = (10, 0) → (o + 27 < 245 ∧ layU (o + 27) = (100, 6)) := by decide +kernel
theorem lf_10_30 {o : Nat} (h : o < 245 ∧ layU o = (10, 0)) : o + 27 < 245 ∧ layU (o + 27) = (100, 6) := lfB_10_30 o h.1 h.2
theorem lfB_10_31 : ∀ o, o < 245 → layU o = (10, 0) → (o + 28 < 245 ∧ layU (o + 28) = (101, 6)) := by decide +kernel
theorem lf_10_31 {o : Nat} (h : o < 245 ∧ layU o = (10, 0)) : o + 28 < 245 ∧ layU (o + 28) = (101, 6) := lfB_10_31 o h.1 h.2
theorem lfB_10_32 : ∀ o, o < 245 → layU o = (10, 0) → (o + 29 < 245 ∧ layU (o + 29) = (101, 6)) := by decide +kernel
theorem lf_10_32 {o : Nat} (h : o < 245 ∧ layU o = (10, 0)) : o + 29 < 245 ∧ layU (o + 29) = (101, 6) := lfB_10_32 o h.1 h.2
theorem lfB_10_33 : ∀ o, o < 245 → layU o = (10, 0) → (o + 30 < 245 ∧ layU (o + 30) = (101, 6)) := by decide +kernel
theorem lf_10_33 {o : Nat} (h : o < 245 ∧ layU o = (10, 0)) : o + 30 < 245 ∧ layU (o + 30) = (101, 6) := lfB_10_33 o h.1 h.2
theorem lfB_10_34 : ∀ o, o < 245 → layU o = (10, 0) → (o + 31 < 245 ∧ layU (o + 31) = (100, 6)) := by decide +kernel
theorem lf_10_34 {o : Nat} (h : o < 245 ∧ layU o = (10, 0)) : o + 31 < 245 ∧ layU (o + 31) = (100, 6) := lfB_10_34 o h.1 h.2
theorem lfB_10_36 : ∀ o, o < 245 → layU o = (10, 0) → (o + 32 < 245 ∧ layU (o + 32) = (100, 640)) := by decide +kernel
theorem lf_10_36 {o : Nat} (h : o < 245 ∧ layU o = (10, 0)) : o + 32 < 245 ∧ layU (o + 32) = (100, 640) := lfB_10_36 o h.1 h.2
theorem lfB_10_37 : ∀ o, o < 245 → layU o = (10, 0) → (o + 33 < 245 ∧ layU (o + 33) = (101, 16)) := by decide +kernel
theorem lf_10_37 {o : Nat} (h : o < 245 ∧ layU o = (10, 0)) : o + 33 < 245 ∧ layU (o + 33) = (101, 16) := lfB_10_37 o h.1 h.2
theorem lfB_10_38 : ∀ o, o < 245 → layU o = (10, 0) → (o + 34 < 245 ∧ layU (o + 34) = (100, 6)) := by decide +kernel
theorem lf_10_38 {o : Nat} (h : o < 245 ∧ layU o = (10, 0)) : o + 34 < 245 ∧ layU (o + 34) = (100, 6) := lfB_10_38 o h.1 h.2
theorem leB_103 : ∀ o, o < 245 → layU o = (103, 2) → ∀ j, j < 2 → (o + (18 + 95 * j) < 245 ∧ layU (o + (18 + 95 * j)) = (1, 0)) := by decide +kernel
theorem le_103 {o j : Nat} (h : o < 245 ∧ layU o = (103, 2)) (hj : j < 2) : o + (18 + 95 * j) < 245 ∧ layU (o + (18 + 95 * j)) = (1, 0) := leB_103 o h.1 h.2 j hj
theorem leB_104 : ∀ o, o < 245 → layU o = (104, 3) → ∀ j, j < 3 → (o + (1 + 31 * j) < 245 ∧ layU (o + (1 + 31 * j)) = (2, 0)) := by decide +kernel
theorem le_104 {o j : Nat} (h : o < 245 ∧ layU o = (104, 3)) (hj : j < 3) : o + (1 + 31 * j) < 245 ∧ layU (o + (1 + 31 * j)) = (2, 0) := leB_104 o h.1 h.2 j hj
theorem leB_105 : ∀ o, o < 245 → layU o = (105, 24) → ∀ j, j < 24 → (o + (1 + 1 * j) < 245 ∧ layU (o + (1 + 1 * j)) = (5, 0)) := by decide +kernel
theorem le_105 {o j : Nat} (h : o < 245 ∧ layU o = (105, 24)) (hj : j < 24) : o + (1 + 1 * j) < 245 ∧ layU (o + (1 + 1 * j)) = (5, 0) := leB_105 o h.1 h.2 j hj
theorem leB_106 : ∀ o, o < 245 → layU o = (106, 6) → ∀ j, j < 6 → (o + (4 + 1 * j) < 245 ∧ layU (o + (4 + 1 * j)) = (8, 0)) := by decide +kernel
theorem le_106 {o j : Nat} (h : o < 245 ∧ layU o = (106, 6)) (hj : j < 6) : o + (4 + 1 * j) < 245 ∧ layU (o + (4 + 1 * j)) = (8, 0) := leB_106 o h.1 h.2 j hj
theorem fw_lt {i : Int32} {n : Nat} (h : vp_in i n) : i.toNatClampNeg < n := Nat.not_le.mp fun q => h (Or.inr q)
theorem fw_gV {k cw : Cond} {own C : String} {index : Nat} {y : MethodName} (h0 : cw ∈ TB) (h1 : Cond.methodLink own index y ∈ TB) (h2 : Cond.instanceMethod y ∈ TB) (h3 : Cond.selects C y y ∈ TB) (h4 : Cond.initialized C ∈ TB) : GoodIn (k :: TB) (wsV own index C y (cw :: TB)) := by
  intro w hw
  unfold wsV at hw
  simp only [List.mem_append, List.mem_cons, List.not_mem_nil, or_false] at hw
  rcases hw with (rfl | rfl | rfl | rfl) | rfl | hw
  · exact tb_all h1
  · exact tb_all h2
  · exact tb_all h3
  · exact tb_all h4
  · exact tb_all h0
  · exact tb_all hw
theorem fw_gS {k cw : Cond} {own : String} {index : Nat} {y : MethodName} (h0 : cw ∈ TB) (h1 : Cond.methodLink own index y ∈ TB) (h2 : Cond.static y ∈ TB) (h3 : Cond.initialized own ∈ TB) : GoodIn (k :: TB) (wsS own index y (cw :: TB)) := by
  intro w hw
  unfold wsS at hw
  simp only [List.mem_append, List.mem_cons, List.not_mem_nil, or_false] at hw
  rcases hw with (rfl | rfl | rfl) | rfl | hw
  · exact tb_all h1
  · exact tb_all h2
  · exact tb_all h3
  · exact tb_all h0
  · exact tb_all hw
theorem fw_g {k cw : Cond} (h0 : cw ∈ TB) : GoodIn (k :: TB) (cw :: TB) := by
  intro w hw
  rcases List.mem_cons.mp hw with rfl | hw
  · exact tb_all h0
  · exact tb_all hw
end
