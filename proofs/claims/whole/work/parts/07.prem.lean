/-! what a throw needs of the start, beside the tables' words that stay -/
def tz_L (C n d : String) (A : Nat → Prop) (U : State) (H : Heap) : Prop := ∃ (c : ClassId) (k : Class) (i : Nat) (f : Field) (a : Nat) (cell : Cell), U.vm.findClass C = some c ∧ U.fieldFound? C n d = some (c, k, i, f) ∧ f.isStatic = true ∧ k.statics = some a ∧ H[a]? = some cell ∧ cell.vm.isStatics = true ∧ cell.cls = c ∧ f.slot < cell.slots.size ∧ k.staticTypes[f.slot]? = some f.type ∧ ¬ A a
theorem tz_L.move {C n d : String} {A : Nat → Prop} {u U : State} {H H1 : Heap} (hvm : u.vm.Alike U.vm) (hq : ∀ a : Nat, a < H.size → ¬ A a → H1[a]? = H[a]?) (h : tz_L C n d A u H) : tz_L C n d A U H1 := by
  obtain ⟨c, k, i, f, a, cell, h1, h2, h3, h4, h5, h6, h7, h8, h9, h10⟩ := h
  obtain ⟨k', hi', he⟩ := State.fieldFound?_setVm hvm h2
  exact ⟨c, k', i, f, a, cell, by rw [hvm.findClass]; exact h1, hi', h3, by rw [he]; exact h4, by rw [hq a (Array.getElem?_eq_some_iff.mp h5).1 h10]; exact h5, h6, h7, h8, by rw [he]; exact h9, h10⟩
theorem tz_L.word {C n d : String} {A : Nat → Prop} {s : State} {args : Array Value} (h : tz_L C n d A s s.heap) : (Cond.laysStatic C n d).before args s = true := by
  obtain ⟨c, k, i, f, a, cell, h1, h2, h3, h4, h5, h6, h7, h8, h9, -⟩ := h
  show (Cond.laysStatic C n d).holds args s none s [] = true
  exact Cond.laysStatic_of h1 h2 h3 h4 h5 h6 h7 h8 h9
theorem tz_isRef1 {C n d : String} {v : Value} {A : Nat → Prop} {s : State} {args : Array Value} (h : va_Z C n d v A s s.heap) (hv : v.isRef = true) : (Cond.isRef (.static C n d)).before args s = true := by
  obtain ⟨cf, kf, fi, f, a, cell, h1, h2, h3, h4, h5, h6, h7, -⟩ := h
  have he : (Term.static C n d).eval args s none [] s = some v := by
    simp [Term.eval, State.fieldNamed?, h1, h2, h4, h5, h6, h7]
  simp only [Cond.before, Cond.holds, Cond.value, he]
  cases v <;> simp_all [Value.isRef]
theorem tz_isRef {C n d : String} {A : Nat → Prop} {s : State} {args : Array Value} (h : va_Zq C n d A s s.heap) : (Cond.isRef (.static C n d)).before args s = true := by
  rcases h with h | ⟨t, h⟩
  · exact tz_isRef1 h rfl
  · exact tz_isRef1 h rfl
def tz_N : List Cond := [.castable "java/lang/IndexOutOfBoundsException" "java/lang/IndexOutOfBoundsException", .castable "java/lang/IllegalArgumentException" "java/lang/IllegalArgumentException"]
def tz_M : List MethodName := [⟨"java/lang/RuntimeException", "<init>", "(Ljava/lang/String;)V"⟩, ⟨"java/lang/Exception", "<init>", "(Ljava/lang/String;)V"⟩, ⟨"java/lang/Throwable", "<init>", "(Ljava/lang/String;)V"⟩]
def tz_H : List Cond := [.isRef (.static Bundle.tN "UNASSIGNED_STACK" Bundle.steD), .isRef (.static Bundle.tN "SUPPRESSED_SENTINEL" Bundle.listD), .laysStatic Bundle.tN "UNASSIGNED_STACK" Bundle.steD, .laysStatic Bundle.tN "SUPPRESSED_SENTINEL" Bundle.listD]
/-- the start of a throw: two statics of Throwable that aren't in A, two texts, and words that the tables decide -/
def tz (A : Nat → Prop) (U : State) : Prop :=
  ((va_Zq Bundle.tN "UNASSIGNED_STACK" Bundle.steD A U U.heap ∧ tz_L Bundle.tN "UNASSIGNED_STACK" Bundle.steD A U U.heap) ∧ (va_Zq Bundle.tN "SUPPRESSED_SENTINEL" Bundle.listD A U U.heap ∧ tz_L Bundle.tN "SUPPRESSED_SENTINEL" Bundle.listD A U U.heap)) ∧
  ((∃ a, vk_R "OutletOffice" 228 "there is no such one" a U) ∧ ∃ a, vk_R "OutletOffice" 235 "the number is out of its range" a U) ∧
  ((va_Nw (.castable "java/lang/IndexOutOfBoundsException" "java/lang/IndexOutOfBoundsException") U ∧ va_Nw (.castable "java/lang/IllegalArgumentException" "java/lang/IllegalArgumentException") U) ∧ (∀ x ∈ tz_M, va_Nw (.declares x) U)) ∧
  va_Nc "java/lang/IllegalArgumentException" "java/lang/IndexOutOfBoundsException" U
theorem tz.move {A : Nat → Prop} {s U : State} (hW : s.WarmedH U.vm) (hq : ∀ a : Nat, a < s.heap.size → ¬ A a → U.heap[a]? = s.heap[a]?) (h : tz A s) : tz A U := by
  obtain ⟨⟨⟨h1, h2⟩, h3, h4⟩, ⟨⟨a, h5⟩, b, h6⟩, ⟨⟨h7, h8⟩, h9⟩, h10⟩ := h
  exact ⟨⟨⟨(h1.kept hq).moved hW.alike, h2.move hW.alike hq⟩, (h3.kept hq).moved hW.alike, h4.move hW.alike hq⟩, ⟨⟨a, vk_R.warm hW h5⟩, b, vk_R.warm hW h6⟩, ⟨⟨va_Nw.warmC hW h7, va_Nw.warmC hW h8⟩, fun x hx => va_Nw.warmD hW (h9 x hx)⟩, h10.moved hW.alike⟩
theorem tz.same {A : Nat → Prop} {s U : State} (hW : s.WarmedH U.vm) (hh : U.heap = s.heap) (h : tz A s) : tz A U := h.move hW (fun a _ _ => by rw [hh])
/-- .. for a smaller block of places that may change -/
theorem tz.narrow {A B : Nat → Prop} {s : State} (h : tz A s) (hAB : ∀ q, B q → A q) : tz B s := by
  obtain ⟨⟨⟨h1, h2⟩, h3, h4⟩, h5, h6, h7⟩ := h
  have n2 : ∀ {C n d : String}, tz_L C n d A s s.heap → tz_L C n d B s s.heap := by
    intro C n d h
    obtain ⟨c, k, i, f, a, cell, q1, q2, q3, q4, q5, q6, q7, q8, q9, q10⟩ := h
    exact ⟨c, k, i, f, a, cell, q1, q2, q3, q4, q5, q6, q7, q8, q9, fun z => q10 (hAB _ z)⟩
  exact ⟨⟨⟨h1.narrow hAB, n2 h2⟩, h3.narrow hAB, n2 h4⟩, h5, h6, h7⟩
def fw_PcX (D : va_G) (cl : List vw_C) (cA : Nat → ClassId) (tys : List (ClassId × FieldType)) (tk : Nat → Nat → Nat × Nat) (lay : Nat → Nat × Nat) (b n : Nat) (S : fw_S) (av : List Value) : Array Value → State → Prop := va_Pc av (fun U => fw_P D cl cA lay b n (fw_v tk lay b S) U.heap ∧ va_K D cl tys U ∧ tz (fw_A b n) U)
theorem fw_blindX {D : va_G} {cl : List vw_C} {cA : Nat → ClassId} {tys : List (ClassId × FieldType)} {tk : Nat → Nat → Nat × Nat} {lay : Nat → Nat × Nat} {b n : Nat} {S : fw_S} {av : List Value} : FrameBlind (fw_PcX D cl cA tys tk lay b n S av) :=
  fun a U g mk q => by
    obtain ⟨q0, q1, q2, q3⟩ := q
    exact ⟨q0, q1, va_K.moved (u := U) (U := U.calling g mk a) (Vm.Alike.refl U.vm) q2, tz.same (s := U) (U := U.calling g mk a) (State.WarmedH.refl U) rfl q3⟩
section FWX
variable {D : va_G} {cl : List vw_C} {cA : Nat → ClassId} {tys : List (ClassId × FieldType)} {tk : Nat → Nat → Nat × Nat} {lay : Nat → Nat × Nat} {b n : Nat} {S : fw_S} {av As : List Value} {s : State} {H : Heap} {locs : List Loc}
theorem fw_preSX (hP : fw_P D cl cA lay b n (fw_v tk lay b S) H) (hK : va_K D cl tys s) (hZ : tz (fw_A b n) s) (hS : va_S (fw_A b n) s.heap H locs) : PreS s H (fw_PcX D cl cA tys tk lay b n S av) av :=
  ⟨fw_blindX, fun U hU hW => ⟨rfl, by rw [hU]; exact hP, va_K.moved hW.alike hK, hZ.move hW (fun a h1 h2 => by rw [hU]; exact hS.2.1 a h1 h2)⟩⟩
theorem fw_preVX (hP : fw_P D cl cA lay b n (fw_v tk lay b S) H) (hK : va_K D cl tys s) (hZ : tz (fw_A b n) s) (hS : va_S (fw_A b n) s.heap H locs) {o ci len : Nat} (ho : o < n ∧ lay o = (ci, len)) (h9 : ci < 100) {q : vw_C} (hcl : cl[ci]? = some q) : PreV s H q.1 (b + o) (fw_PcX D cl cA tys tk lay b n S (.ref (b + o) :: As)) As :=
  ⟨fw_blindX, fw_recv hP hK ho h9 hcl, fun U hU hW => ⟨rfl, by rw [hU]; exact hP, va_K.moved hW.alike hK, hZ.move hW (fun a h1 h2 => by rw [hU]; exact hS.2.1 a h1 h2)⟩⟩
end FWX
theorem fw_P.ext {D : va_G} {cl : List vw_C} {cA : Nat → ClassId} {lay : Nat → Nat × Nat} {b n : Nat} {V : Nat → Nat → Value} {H H1 : Heap} (h : fw_P D cl cA lay b n V H) (h2 : ∀ q : Nat, q < H.size → H1[q]? = H[q]?) : fw_P D cl cA lay b n V H1 := by
  intro o ho
  refine (h o ho).kept (h2 _ ?_)
  have h1 := h o ho
  unfold fw_at at h1
  by_cases e : (lay o).1 < 100
  · rw [if_pos e] at h1
    obtain ⟨r, -, cell, q1, -⟩ := h1
    exact (Array.getElem?_eq_some_iff.mp q1).1
  · rw [if_neg e] at h1
    exact (Array.getElem?_eq_some_iff.mp h1).1
theorem tx_frame {s U : State} {k n : Nat} (h : s.sameButNew ({ U with vm := s.vm } : State) [] k n) : s.heap.size ≤ U.heap.size ∧ ∀ q : Nat, q < s.heap.size → U.heap[q]? = s.heap[q]? := by
  obtain ⟨-, h2, -, -, -, h6⟩ := h
  refine ⟨h2, fun q hq => ?_⟩
  obtain ⟨c9, e1, e2, -, e4⟩ := h6 q _ (Array.getElem?_eq_getElem hq)
  have hs : c9.slots = (s.heap[q]).slots := Array.ext_getElem? fun i => e4 i (fun hm => by cases hm)
  rw [hs] at e2
  have e5 : U.heap[q]? = some c9 := e1
  rw [e5, e2, Array.getElem?_eq_getElem hq]
section TXT
variable {p : Program} {l : Launch} {e : Env} {R : Room} {s : State} {m : MethodId} {args : Array Value} {below : List Frame} {meth : Method} {c : Code} {H : Heap} {locs : List Loc} {cells slots : Nat} {Q : State → Prop}
variable {Qc : Array Value → State → Outcome → State → Prop} {XC : Nat → State → State → Prop} {mc ms : Nat} {free : Addr → Prop} {cc : ByteArray} {pc : Nat} {ls : Array Slot} {rest : List Value}
/-- throw new E("text"): new, dup, ldc, invokespecial, athrow, ahead of any change -/
theorem tx_throw (hexec : p.tables.exec = Jvm.exec) (hb : c.code = cc) (hl9 : l.stackTraces = false) {own cls text : String} {names : List String} {ik is ic : Nat} (hown : s.vm.findClass own = some m.cls) (hcls : Bundle.fit cls = true) (hnames : ∀ n ∈ names, Bundle.fit n = true)
    (hk : (Cond.classLink own ik cls).before args s = true) (hini : (Cond.initialized cls).before args s = true) (hstr : ∃ a, vk_R own is text a s) (hat : ∀ w ∈ Bundle.ownAtoms own ic cls names, w.before args s = true) (hsize : ls.size = c.maxLocals)
    (d0 : decode cc pc = .ok (.new ik, 3)) (d3 : decode cc (pc + 3) = .ok (.dup, 1)) (d4 : decode cc (pc + 3 + 1) = .ok (.ldc is, 2)) (d6 : decode cc (pc + 3 + 1 + 2) = .ok (.invokespecial ic, 3)) (d9 : decode cc (pc + 3 + 1 + 2 + 3) = .ok (.athrow, 1)) (hT : ∀ x ∈ c.exceptionTable.toList, False)
    (hRframes : names.length + 3 < R.frames) (hRlocals : (rest.map fun v => v.category).sum + (13 * (names.length + 1) + 43) ≤ R.locals) (hRc : 0 + 1 ≤ R.cells) (hRs : 0 + 6 ≤ R.slots) (hlocks : meth.locks = false) {k : Nat} (hE : tx_E k = cls)
    (hx : ∀ t : State, s.heap.size ≤ t.heap.size → (∀ q : Nat, q < s.heap.size → t.heap[q]? = s.heap[q]?) → XC k s t) (hc : 1 ≤ mc) (hs : 6 ≤ ms) : W p l e R s m args below meth c s.heap [] 0 0 (tx_MQ below Qc XC args s mc ms free) (F0 m pc ls rest) := by
  obtain ⟨sa, hstr⟩ := hstr
  have hins : (Cond.instantiable cls 6).before args s = true := hat _ (by simp [Bundle.ownAtoms])
  obtain ⟨cX, kX, hfX, hkX, -⟩ := Cond.instantiable_spec hins
  refine W.newcK hexec hb hown hk hins hini rfl d0 hRc hRs hfX rfl fun H' kC hkC e1 z1 o1 => ?_
  cases Option.some.inj (hkX.symm.trans hkC)
  refine W.eq (g2 := F0 m (pc + 3) ls (.ref s.heap.size :: rest)) rfl ?_
  refine lv_dup hexec hb d3 rfl ?_
  refine va_ldcS hexec hb hown hstr d4 ?_
  intro T hT' X
  have htr : e.platform.stackTraces = false := (show e.platform.stackTraces = l.stackTraces by rw [X.admits.platform]).trans hl9
  have hcat : (Value.ref s.heap.size).category = 1 := rfl
  obtain ⟨U, hsteps, hrun, hend, hW, hsame, ce, hce, hO⟩ := X.ctorThrowS hexec htr (own := own) (cls := cls) (names := names) (ic := ic) hown hcls hnames hat (fun x hx => by cases hx) hfX hkX (a := s.heap.size) (by rw [hT']; exact e1) (Nat.le_refl _) (msg := .ref sa) rfl
    (g := F0 m (pc + 3 + 1 + 2) ls (.ref sa :: .ref s.heap.size :: .ref s.heap.size :: rest)) rfl hsize rfl rfl (rest := rest) rfl
    (by rw [hb]; exact d6) (by rw [hb]; exact d9) (fun x hx => (hT x hx).elim) hRframes (by show 2 * 0 + _ + _ ≤ _; simp only [List.map_cons, List.sum_cons, hcat]; omega) hlocks
  obtain ⟨f1, f2⟩ := tx_frame hsame
  exact ⟨U, hsteps, .threw s.heap.size, hrun, hend, Or.inr ⟨s.heap.size, rfl, k, ce, [], hx U f1 f2, ⟨hce, hO.vm, by rw [hE]; exact hO.cls⟩, hW, hsame.mono (by omega) (by omega), fun z hz => by cases hz⟩⟩
/-- caught by a row of this method's own table -/
theorem tx_catch {own name : String} {k : Nat} {ce : Cell} {q : Addr} (hown : s.vm.findClass own = some m.cls) (pre : List ExceptionTableEntry) (x : ExceptionTableEntry) (suf : List ExceptionTableEntry) (hsplit : c.exceptionTable.toList = pre ++ x :: suf)
    (hpass : ∀ z ∈ pre, z.catchType ≠ 0 ∧ ∃ nm : String, (Cond.classLink own z.catchType nm).before args s = true ∧ va_Nc (tx_E k) nm s) (hx : covers x pc = true) (h0 : x.catchType ≠ 0)
    (hlink : (Cond.classLink own x.catchType name).before args s = true) (hcast : (Cond.castable (tx_E k) name).before args s = true) (hce : H[q]? = some ce ∧ ce.vm = .none ∧ s.vm.findClass (tx_E k) = some ce.cls)
    (kk : W p l e R s m args below meth c H locs cells slots Q (F0 m x.handlerPc ls [.ref q])) : tx_W p l e R s m args below meth c H locs cells slots Q (F0 m pc ls rest) q := by
  intro T hT X
  have hpl : e.platform.magicAccessors = ({} : Platform).magicAccessors := by rw [X.admits.platform]
  obtain ⟨hcell, hv, hcl⟩ := hce
  obtain ⟨c3, c4, hc3, hc4, hasg⟩ := Cond.castable_spec hcast
  cases Option.some.inj (hc3.symm.trans hcl)
  obtain ⟨c5, hc5, hcl5⟩ := Cond.classLink_spec hown hlink e.platform hpl
  cases Option.some.inj (hc4.symm.trans hc5)
  obtain ⟨vm', X', st⟩ := X.thenCaughtThrough q (g := F0 m pc ls rest) rfl (Steps.refl _) (by rw [hT]; exact hcell) (by rw [hv]; rfl) (by obtain ⟨k9, h9, -⟩ := Vm.findClass_spec hcl; exact ⟨k9, h9⟩) pre x suf hsplit
    (fun z hz => by
      obtain ⟨hz0, nm, hl1, hn1⟩ := hpass z hz
      obtain ⟨c6, hc6, hcl6⟩ := Cond.classLink_spec hown hl1 e.platform hpl
      obtain ⟨a8, b8, h1, h2, h3⟩ := hn1
      cases Option.some.inj (h1.symm.trans hcl)
      cases Option.some.inj (h2.symm.trans hc6)
      exact Or.inr ⟨hz0, _, hcl6, h3⟩) hx (Or.inr ⟨h0, c4, hcl5, hasg⟩)
  obtain ⟨t, a1, b1⟩ := kk (T.setVm vm') hT X'
  exact ⟨t, st.trans a1, b1⟩
end TXT
/-- the table of a method with handlers -/
theorem tx_table {l : Launch} {p : Program} {y : MethodName} {Sp : Spec} {cc bytes : ByteArray} {maxL maxL' : Nat} {ret ret' : Option FieldType} {e : Env} {s s₁ : State} {m : MethodId} {args : Array Value} {below : List Frame} {meth : Method} {c : Code} {hh : List (Nat × Nat × Nat × Nat)}
    (B : BodyLoose p l y Sp cc maxL ret e s m args below meth c s₁) (h : (Cond.codeWith y bytes maxL' ret' hh).before args s = true) : c.exceptionTable.toList = tableOf hh := by
  obtain ⟨m9, meth9, c9, hn9, h1, h2, -, -, h6, -⟩ := Cond.codeWith_spec h
  cases Option.some.inj (hn9.symm.trans B.named)
  cases Option.some.inj (h1.symm.trans B.method)
  cases Option.some.inj (h2.symm.trans (Stand.of_body B).code)
  rw [← h6, table_eq]
/-- the words of a throw out of the tables and the start -/
theorem tz_at {args : Array Value} {s : State} {k : Cond} {L : List Cond} (hts : ∀ w ∈ k :: TB, w.before args s = true) {A : Nat → Prop} (hZ : tz A s) (hL : ∀ w ∈ L, (w ∈ lw_tbl ∧ goodWord w = true) ∨ w ∈ tz_N ∨ w ∈ tz_M.map Cond.declares ∨ w ∈ tz_H) : ∀ w ∈ L, w.before args s = true := by
  intro w hw
  obtain ⟨⟨⟨h1, h2⟩, h3, h4⟩, -, ⟨⟨h7, h8⟩, h9⟩, -⟩ := hZ
  rcases hL w hw with h | h | h | h
  · exact hts w (tb_in (List.mem_filter.mpr h))
  · simp only [tz_N, List.mem_cons, List.not_mem_nil, or_false] at h
    rcases h with rfl | rfl
    · exact va_Nw.use rfl h7
    · exact va_Nw.use rfl h8
  · obtain ⟨x, hx, rfl⟩ := List.mem_map.mp h
    exact va_Nw.use rfl (h9 x hx)
  · simp only [tz_H, List.mem_cons, List.not_mem_nil, or_false] at h
    rcases h with rfl | rfl | rfl | rfl
    · exact tz_isRef h1
    · exact tz_isRef h3
    · exact h2.word
    · exact h4.word
set_option maxRecDepth 100000 in
theorem tz_own1 : ∀ w ∈ Bundle.ownAtoms "OutletOffice" 230 "java/lang/IndexOutOfBoundsException" ["java/lang/RuntimeException", "java/lang/Exception"], (w ∈ lw_tbl ∧ goodWord w = true) ∨ w ∈ tz_N ∨ w ∈ tz_M.map Cond.declares ∨ w ∈ tz_H := by
  decide +kernel
set_option maxRecDepth 100000 in
theorem tz_own2 : ∀ w ∈ Bundle.ownAtoms "OutletOffice" 237 "java/lang/IllegalArgumentException" ["java/lang/RuntimeException", "java/lang/Exception"], (w ∈ lw_tbl ∧ goodWord w = true) ∨ w ∈ tz_N ∨ w ∈ tz_M.map Cond.declares ∨ w ∈ tz_H := by
  decide +kernel
