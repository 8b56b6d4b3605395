/-! methods that may throw: 1 an IndexOutOfBoundsException, 2 an IllegalArgumentException -/
def tx_E (k : Nat) : String := if k = 1 then "java/lang/IndexOutOfBoundsException" else "java/lang/IllegalArgumentException"
def tx_T (XC : Nat → State → State → Prop) (st : State) (q : Addr) (t : State) (mc ms : Nat) (free : Addr → Prop) : Prop :=
  ∃ (k : Nat) (ce : Cell) (L : List Loc), XC k st t ∧ (t.heap[q]? = some ce ∧ ce.vm = .none ∧ st.vm.findClass (tx_E k) = some ce.cls) ∧ st.WarmedH t.vm ∧ st.sameButNew ({ t with vm := st.vm } : State) L mc ms ∧ ∀ z ∈ L, free z.base
def tx_Q (Qc : Array Value → State → Outcome → State → Prop) (XC : Nat → State → State → Prop) (mc ms : Nat) (free : Addr → Prop) : Array Value → State → Outcome → State → Prop := fun a st o t =>
  (Qc a st o t ∧ ∃ L, FrameEnd st o t L mc ms ∧ ∀ q ∈ L, free q.base) ∨ ∃ q, o = .threw q ∧ tx_T XC st q t mc ms free
def tx_Met (l : Launch) (y : MethodName) (ws : List Cond) (rm : Room) (Pc : Array Value → State → Prop) (Qc : Array Value → State → Outcome → State → Prop) (XC : Nat → State → State → Prop) (mc ms : Nat) (free : Addr → Prop) : Prop :=
  MetFree l y (headSpec ws rm) Pc (fun _ _ _ _ _ => True) (tx_Q Qc XC mc ms free)
def tx_MQ (below : List Frame) (Qc : Array Value → State → Outcome → State → Prop) (XC : Nat → State → State → Prop) (a : Array Value) (s : State) (mc ms : Nat) (free : Addr → Prop) : State → Prop := fun t =>
  ∃ o, t.status = .running ∧ Ended t below o ∧ tx_Q Qc XC mc ms free a s o t
/-- the frame g, with q thrown over it -/
def tx_W (p : Program) (l : Launch) (e : Env) (R : Room) (s : State) (m : MethodId) (args : Array Value) (below : List Frame) (meth : Method) (c : Code) (H : Heap) (locs : List Loc) (cells slots : Nat) (Q : State → Prop) (g : JFrame) (q : Addr) : Prop :=
  ∀ T : State, T.heap = H → Stand p l e R s m args below meth c T locs cells slots → ∃ t, Steps p.tables e below ((T.setTop g).pushFrame (.throwing q)) t ∧ Q t
theorem tx_topHeap (T : State) (g : JFrame) : (T.setTop g).heap = T.heap := by
  simp [State.setFrames, State.setTop, State.modifyTopJava]
theorem tx_topVm (T : State) (g : JFrame) : (T.setTop g).vm = T.vm := by
  simp [State.setFrames, State.setTop, State.modifyTopJava]
section TXA
variable {p : Program} {l : Launch} {e : Env} {R : Room} {s : State} {m : MethodId} {args : Array Value} {below : List Frame} {meth : Method} {c : Code} {T : State} {H : Heap} {locs : List Loc} {cells slots : Nat} {Q : State → Prop}
variable {y : MethodName} {ws : List Cond} {rm : Room} {Pc : Array Value → State → Prop} {Qc : Array Value → State → Outcome → State → Prop} {XC : Nat → State → State → Prop} {mc ms : Nat} {free : Addr → Prop} {bytes cc : ByteArray} {maxL nL n index : Nat} {ret : Option FieldType} {Ts : List Cond} {own C : String} {b : Addr} {As rest : List Value} {g : JFrame}
/-- both ends of a call, seen by the caller -/
def tx_Run (p : Program) (l : Launch) (e : Env) (R : Room) (s : State) (m : MethodId) (args : Array Value) (below : List Frame) (meth : Method) (c : Code) (H : Heap) (locs : List Loc) (cells slots mc ms : Nat) (g : JFrame) (rest : List Value) (Qa : State → Outcome → State → Prop) (XC : Nat → State → State → Prop) (free : Addr → Prop) : Prop :=
  ∀ T : State, T.heap = H → Stand p l e R s m args below meth c T locs cells slots →
    (∃ (v : Option Value) (st t T' : State) (L : List Loc), st.heap = H ∧ Stand p l e R s m args below meth c T' (locs ++ L) (cells + mc) (slots + ms) ∧ (∀ q ∈ L, free q.base) ∧ T'.heap = t.heap ∧ T'.vm = t.vm ∧ Qa st (.returned v) t ∧
      Goes p e below T g T' { g with pc := g.pc + 3, stack := v.toList ++ rest }) ∨
    (∃ (q : Addr) (k : Nat) (ce : Cell) (st t T' : State) (L : List Loc), st.heap = H ∧ Stand p l e R s m args below meth c T' (locs ++ L) (cells + mc) (slots + ms) ∧ (∀ z ∈ L, free z.base) ∧ T'.heap = t.heap ∧ T'.vm = t.vm ∧ XC k st t ∧ (t.heap[q]? = some ce ∧ ce.vm = .none ∧ s.vm.findClass (tx_E k) = some ce.cls) ∧
      Steps p.tables e below (T.setTop g) ((T'.setTop { g with stack := rest }).pushFrame (.throwing q)))
theorem tx_go (X : Stand p l e R s m args below meth c T locs cells slots) (hM : tx_Met l y ws rm Pc Qc XC mc ms free) (cb : CallB R s args own index y bytes maxL ret ws rm mc ms n)
    (hg : g.method = m) (hsize : g.locals.size = c.maxLocals) {ig : Instr} {len : Nat} (hdg : decode c.code g.pc = .ok (ig, len)) {mk : MethodId} (hW : 2 * g.monitorRoom + (g.stack.map fun v => v.category).sum ≤ 8) (hn : T.methodNamed? y = some mk) {a : Array Value} (hc : cells + mc ≤ R.cells) (hs : slots + ms ≤ R.slots) (hPc : Pc a (T.calling g mk a)) :
    (∃ (v : Option Value) (t T' : State) (L : List Loc), Stand p l e R s m args below meth c T' (locs ++ L) (cells + mc) (slots + ms) ∧ (∀ q ∈ L, free q.base) ∧ T'.heap = t.heap ∧ T'.vm = t.vm ∧ Qc a (T.calling g mk a) (.returned v) t ∧
      Steps p.tables e below (doInvoke e (T.setTop g) [] mk a).1 (T'.setTop { g with pc := g.pc + len, stack := v.toList ++ g.stack })) ∨
    (∃ (q : Addr) (k : Nat) (ce : Cell) (t T' : State) (L : List Loc), Stand p l e R s m args below meth c T' (locs ++ L) (cells + mc) (slots + ms) ∧ (∀ z ∈ L, free z.base) ∧ T'.heap = t.heap ∧ T'.vm = t.vm ∧ XC k (T.calling g mk a) t ∧ (t.heap[q]? = some ce ∧ ce.vm = .none ∧ T.vm.findClass (tx_E k) = some ce.cls) ∧
      Steps p.tables e below (doInvoke e (T.setTop g) [] mk a).1 ((T'.setTop g).pushFrame (.throwing q))) := by
  obtain ⟨hrc, hrs, hfr, hlo, hws, hcw, -, hini, -⟩ := cb
  have h1 : (headSpec ws rm).pre.before a T = true := atoms_intro fun w hw => hws w hw _ _ X.warmed
  have h2 : (Cond.code y bytes maxL ret).before a T = true := hws _ hcw _ _ X.warmed
  have h3 : (Cond.initialized y.cls).before a T = true := word_at X.warmed (Or.inl (by first | rfl | simp [Cond.onTables, Cond.keeps, Cond.steady])) hini
  obtain ⟨methY, cY, hmY, hcY, -, hlY, -, -, -, -⟩ := Cond.code_spec hn h2
  obtain ⟨kY, hkY, -⟩ := className_of_methodNamed hn
  have hinitY : kY.init = .initialized := Cond.initialized_spec (findClass_of_methodNamed hn) hkY h3
  have h : At T g.method c below := by rw [hg]; exact X.here
  have hfr' : (headSpec ws rm).room.frames + 1 ≤ R.frames := hfr
  have hlo' : 8 + (maxL + 11) + (headSpec ws rm).room.locals ≤ R.locals := hlo
  have hc' : cells + (headSpec ws rm).room.cells ≤ R.cells := by rw [show (headSpec ws rm).room.cells = mc from hrc]; exact hc
  have hs' : slots + (headSpec ws rm).room.slots ≤ R.slots := by rw [show (headSpec ws rm).room.slots = ms from hrs]; exact hs
  have happ : (headSpec ws rm).appliesLoose y e.platform (T.calling g mk a) = true :=
    Spec.appliesLoose_calling (g := g) h hdg hn hkY hinitY (X.room_calling (g := g) (R' := (headSpec ws rm).room) hsize hmY hcY hfr' (by rw [hlY]; omega) hc' hs') h1
  obtain ⟨mid, hmid⟩ := h.above
  have hframes : (T.setTop g).frames = (.java g :: mid) ++ below := by rw [State.frames_setTop' g h.top, hmid]; rfl
  obtain ⟨o, s₂, hsteps, -, hend, hq⟩ := Steps.callFree hM p X.admits X.cas X.clock (acts := []) hframes happ hPc trivial
  have hq' : tx_Q Qc XC mc ms free a (T.calling g mk a) o s₂ := hq
  rw [State.frames_setTop' g h.top, X.tail] at hend
  rcases hq' with ⟨hqc, L, hfe, hL⟩ | ⟨q, rfl, k, ce, L, hx, hce, hW₂, hsm, hL⟩
  · obtain ⟨⟨v, rfl⟩, hW₂, hsame⟩ := hfe
    obtain ⟨T', X', -, -, ht⟩ := X.outOf hg hdg hend hW₂ hsame
    exact Or.inl ⟨v, s₂, T', L, X', hL, by rw [ht, tx_topHeap], by rw [ht, tx_topVm], hqc, by rw [← ht]; exact hsteps⟩
  · obtain ⟨T', X', -, -, ht⟩ := X.outOfThrown hg hend hW₂ hsm
    exact Or.inr ⟨q, k, ce, s₂, T', L, X', hL, by rw [ht, Stand.throwing_heap], by rw [ht, Stand.throwing_vm], hx, hce, by rw [← ht]; exact hsteps⟩
theorem tx_runV (S : CallFix p m c cc nL s args Ts own) (hM : tx_Met l y ws rm Pc Qc XC mc ms free) (cw : CallW R s args own C index y bytes maxL ret ws rm mc ms n) (hp : PreV s H C b Pc As)
    (hg : g.method = m) (hn : As.length = n) (hsize : g.locals.size = nL) (hstack : g.stack = As.reverse ++ .ref b :: rest) (hW : 2 * g.monitorRoom + (rest.map fun v => v.category).sum ≤ 8) (hdg : decode cc g.pc = .ok (.invokevirtual index, 3)) (hf : cells + mc ≤ R.cells ∧ slots + ms ≤ R.slots) :
    tx_Run p l e R s m args below meth c H locs cells slots mc ms g rest (Qc (Value.ref b :: As).toArray) XC free := by
  have cb := cw.1
  obtain ⟨⟨-, -, -, -, -, -, hcode, -, hy, hlen, hl⟩, hin, hse⟩ := cw
  obtain ⟨hx, hb, hml, ho, -⟩ := S
  obtain ⟨hbl, ⟨cellB, hcB, hoB, hclB⟩, hPc⟩ := hp
  intro T hT X
  obtain ⟨mk, methM, hnamed, hmethM, hstM, habM⟩ := Cond.instanceMethod_spec hin
  obtain ⟨methM', cM, hmethM', -, -, -, -, -, -, hsigM⟩ := Cond.code_spec hnamed hcode
  cases hmethM.symm.trans hmethM'
  obtain ⟨c2, r2, m2, q1, q2, q3, q4, kP, hkP, hkPi⟩ := Cond.selects_spec hse
  cases hclB.symm.trans q1
  cases (State.methodFound?_of_named hnamed hy).symm.trans q2
  cases hnamed.symm.trans q3
  have hselP : selectMethod e.platform s.vm cellB.cls mk = .method mk := by rw [Launch.admits_selectMethod X.admits]; exact q4
  obtain ⟨vm₁, X₁, hstep₁⟩ := X.invokevirtual hx ho hl hnamed hmethM hstM hkP hkPi hy (a := b) (cell := cellB) (by rw [hT]; exact hcB)
    (fun z h => by rw [h] at hoB; cases hoB) hselP hmethM habM hkP hkPi (g := g) hg (argsL := As) (rest := rest) (hn.trans (hlen _ hsigM)) hstack (by rw [hb]; exact hdg)
  rcases tx_go X₁ hM cb (g := { g with stack := rest }) (ig := .invokevirtual index) (len := 3) (a := (Value.ref b :: As).toArray) hg (hsize.trans hml.symm) (by rw [hb]; exact hdg) hW (X₁.named hnamed) hf.1 hf.2 (hbl _ _ _ _ (hPc (T.setVm vm₁) hT X₁.warmed)) with ⟨v, t, T', L, X', hL, e1, e2, hq, st⟩ | ⟨q, k, ce, t, T', L, X', hL, e1, e2, hq, ⟨f1, f2, f3⟩, st⟩
  · exact Or.inl ⟨v, (T.setVm vm₁).calling { g with stack := rest } mk (Value.ref b :: As).toArray, t, T', L, hT, X', hL, e1, e2, hq, fun target h => hstep₁ _ fun acts => by rw [doInvoke_state]; exact st.trans h⟩
  · refine Or.inr ⟨q, k, ce, (T.setVm vm₁).calling { g with stack := rest } mk (Value.ref b :: As).toArray, t, T', L, hT, X', hL, e1, e2, hq, ⟨f1, f2, ?_⟩, hstep₁ _ fun acts => by rw [doInvoke_state]; exact st⟩
    rw [X₁.warmed.alike.findClass] at f3
    exact f3
theorem tx_runS (S : CallFix p m c cc nL s args Ts own) (hM : tx_Met l y ws rm Pc Qc XC mc ms free) (cw : CallB R s args own index y bytes maxL ret ws rm mc ms n ∧ (Cond.static y).before args s = true) (hp : PreS s H Pc As)
    (hg : g.method = m) (hn : As.length = n) (hsize : g.locals.size = nL) (hstack : g.stack = As.reverse ++ rest) (hW : 2 * g.monitorRoom + (rest.map fun v => v.category).sum ≤ 8) (hdg : decode cc g.pc = .ok (.invokestatic index, 3)) (hf : cells + mc ≤ R.cells ∧ slots + ms ≤ R.slots) :
    tx_Run p l e R s m args below meth c H locs cells slots mc ms g rest (Qc As.toArray) XC free := by
  have cb := cw.1
  obtain ⟨⟨-, -, -, -, -, -, hcode, hini, hy, hlen, hl⟩, hstt⟩ := cw
  obtain ⟨hx, hb, hml, ho, -⟩ := S
  obtain ⟨hbl, hPc⟩ := hp
  intro T hT X
  obtain ⟨mk, hnamed⟩ := Cond.code_named hcode
  obtain ⟨methM, cM, hmethM, -, -, -, -, -, -, hsigM⟩ := Cond.code_spec hnamed hcode
  have hstatic : methM.isStatic = true := Cond.static_spec hnamed hmethM hstt
  obtain ⟨kP, hkP, -⟩ := className_of_methodNamed hnamed
  have hinitP : kP.init = .initialized := Cond.initialized_spec (findClass_of_methodNamed hnamed) hkP hini
  obtain ⟨vm₁, X₁, hstep₁⟩ := X.invokestatic hx ho hl hnamed hmethM hstatic hkP hinitP hy (g := g) hg (argsL := As) (rest := rest) (hn.trans (hlen _ hsigM)) hstack (by rw [hb]; exact hdg)
  rcases tx_go X₁ hM cb (g := { g with stack := rest }) (ig := .invokestatic index) (len := 3) (a := As.toArray) hg (hsize.trans hml.symm) (by rw [hb]; exact hdg) hW (X₁.named hnamed) hf.1 hf.2 (hbl _ _ _ _ (hPc (T.setVm vm₁) hT X₁.warmed)) with ⟨v, t, T', L, X', hL, e1, e2, hq, st⟩ | ⟨q, k, ce, t, T', L, X', hL, e1, e2, hq, ⟨f1, f2, f3⟩, st⟩
  · exact Or.inl ⟨v, (T.setVm vm₁).calling { g with stack := rest } mk As.toArray, t, T', L, hT, X', hL, e1, e2, hq, fun target h => hstep₁ _ fun acts => by rw [doInvoke_state]; exact st.trans h⟩
  · refine Or.inr ⟨q, k, ce, (T.setVm vm₁).calling { g with stack := rest } mk As.toArray, t, T', L, hT, X', hL, e1, e2, hq, ⟨f1, f2, ?_⟩, hstep₁ _ fun acts => by rw [doInvoke_state]; exact st⟩
    rw [X₁.warmed.alike.findClass] at f3
    exact f3
theorem tx_ret (k : W p l e R s m args below meth c H locs cells slots (MQ below Qc args s mc ms free) g) : W p l e R s m args below meth c H locs cells slots (tx_MQ below Qc XC args s mc ms free) g := by
  intro T hT X
  obtain ⟨t, a1, o, b1, b2, b3, b4⟩ := k T hT X
  exact ⟨t, a1, o, b1, b2, Or.inl ⟨b3, b4⟩⟩
/-- not caught here -/
theorem tx_out {pc k : Nat} {ls : Array Slot} {ce : Cell} {q : Addr} (hout : ∀ x ∈ c.exceptionTable.toList, covers x pc = false) (hlocks : meth.locks = false) (hce : H[q]? = some ce ∧ ce.vm = .none ∧ s.vm.findClass (tx_E k) = some ce.cls)
    (hx : ∀ t : State, t.heap = H → XC k s t) (hf : ∀ z ∈ locs, free z.base) (hc : cells ≤ mc) (hs : slots ≤ ms) :
    tx_W p l e R s m args below meth c H locs cells slots (tx_MQ below Qc XC args s mc ms free) (F0 m pc ls rest) q := by
  intro T hT X
  obtain ⟨st1, hrun, hend, hW, hsm⟩ := X.leaveThrown q (g := F0 m pc ls rest) rfl rfl rfl hout hlocks
  have hcell : (T.setFrames (.throwing q :: below)).heap[q]? = some ce := by
    show T.heap[q]? = some ce
    rw [hT]; exact hce.1
  exact ⟨_, st1, .threw q, hrun, hend, Or.inr ⟨q, rfl, k, ce, locs, hx _ hT, ⟨hcell, hce.2.1, hce.2.2⟩, hW, hsm.mono hc hs, hf⟩⟩
theorem tx_ofW {ws' : List Cond} (hy : plainName y.cls = true) (hw : ws = Cond.code y cc maxL ret :: ws')
    (body : ∀ p e s m args below meth c s₁, BodyLoose p l y (headSpec ws rm) cc maxL ret e s m args below meth c s₁ → c.maxLocals = maxL → (∀ x ∈ c.exceptionTable.toList, False) → Pc args s →
      W p l e (headSpec ws rm).room s m args below meth c s.heap [] 0 0 (tx_MQ below Qc XC args s mc ms free) (entryFrame m args maxL)) : tx_Met l y ws rm Pc Qc XC mc ms free := by
  refine MetFree.of_bodyS (code := cc) (maxLocals := maxL) (ret := ret) hy ?_ ?_
  · intro args s m h hn
    obtain ⟨meth, c, h1, h2, h3, h4, h5, h6, -, -⟩ := Cond.code_spec hn (atoms_spec (ws := ws) h _ (by rw [hw]; exact List.mem_cons_self))
    exact ⟨meth, c, h1, h2, h3, h4, h5, h6⟩
  · intro p e s m args below meth c s₁ B hml hP _
    have hh0 : s₁.heap = s.heap := by rw [B.state]; rfl
    have ht : ∀ x ∈ c.exceptionTable.toList, False := by
      obtain ⟨meth9, c9, h1, h2, -, -, -, -, h7, -⟩ := Cond.code_spec B.named (atoms_spec (ws := ws) B.pre _ (by rw [hw]; exact List.mem_cons_self))
      cases Option.some.inj (h1.symm.trans B.method)
      cases Option.some.inj (h2.symm.trans (Stand.of_body B).code)
      intro x hx
      rw [Array.isEmpty_iff.mp h7] at hx
      cases hx
    obtain ⟨t, a1, o, b1, b2, b3⟩ := body p e s m args below meth c s₁ B hml ht hP s₁ hh0 (Stand.of_body B)
    exact ⟨t, o, a1, b1, b2, b3⟩
end TXA
/-! over the flat world -/
def fw_X (D : va_G) (cl : List vw_C) (cA : Nat → ClassId) (tk : Nat → Nat → Nat × Nat) (lay : Nat → Nat × Nat) (b n : Nat) (px : Nat → fw_S → Prop) : Nat → State → State → Prop := fun k st t => (∃ S' : fw_S, px k S' ∧ fw_P D cl cA lay b n (fw_v tk lay b S') t.heap) ∧ va_F (fw_A b n) st t
section TXF
variable {p : Program} {l : Launch} {e : Env} {R : Room} {s : State} {m : MethodId} {args : Array Value} {below : List Frame} {meth : Method} {c : Code} {H : Heap} {locs : List Loc} {cells slots : Nat} {Q : State → Prop}
variable {pc : Nat} {ls : Array Slot} {rest st0 : List Value} {a : Array Value} {H0 : Heap} {mc ms : Nat} {D : va_G} {cl : List vw_C} {cA : Nat → ClassId} {tk : Nat → Nat → Nat × Nat} {lay : Nat → Nat × Nat} {b n : Nat}
theorem tx_keep {st t T' : State} {L : List Loc} (h0 : st.heap = H) (e1 : T'.heap = t.heap) (hS : va_S (fw_A b n) H0 H locs) (hL : ∀ q ∈ L, fw_A b n q.base) (hF : va_F (fw_A b n) st t) : va_S (fw_A b n) H0 T'.heap (locs ++ L) := by
  obtain ⟨hz, hk⟩ := hF
  rw [h0] at hz hk
  refine ⟨by rw [e1]; exact Nat.le_trans hS.1 hz, fun q h1 h2 => by rw [e1, hk q (Nat.lt_of_lt_of_le h1 hS.1) h2]; exact hS.2.1 q h1 h2, fun q hq => ?_⟩
  rcases List.mem_append.mp hq with h | h
  · exact hS.2.2 q h
  · exact hL q h
/-- a call whose exceptions go to a handler or out: what the handler's row asks is kx -/
theorem tx_calli {post : fw_S → Int32 → Prop} {px : Nat → fw_S → Prop} (hr : tx_Run p l e R s m args below meth c H locs cells slots mc ms (F0 m pc ls st0) rest (va_Qi (fun r S' => post S' r) (fw_B D cl cA tk lay b n) (fw_A b n) a) (fw_X D cl cA tk lay b n px) (fw_A b n)) (hS : va_S (fw_A b n) H0 H locs)
    (kx : ∀ (k : Nat) (S' : fw_S) (q : Addr) (ce : Cell) (H1 : Heap) (locs1 : List Loc), px k S' → fw_P D cl cA lay b n (fw_v tk lay b S') H1 → va_S (fw_A b n) H0 H1 locs1 → (H1[q]? = some ce ∧ ce.vm = .none ∧ s.vm.findClass (tx_E k) = some ce.cls) → tx_W p l e R s m args below meth c H1 locs1 (cells + mc) (slots + ms) Q (F0 m pc ls rest) q)
    (kk : ∀ (S' : fw_S) (r : Int32) (H1 : Heap) (locs1 : List Loc), post S' r → fw_P D cl cA lay b n (fw_v tk lay b S') H1 → va_S (fw_A b n) H0 H1 locs1 → W p l e R s m args below meth c H1 locs1 (cells + mc) (slots + ms) Q (F0 m (pc + 3) ls (.int r :: rest))) : W p l e R s m args below meth c H locs cells slots Q (F0 m pc ls st0) := by
  intro T hT X
  rcases hr T hT X with ⟨v, st, t, T', L, h0, X', hL, e1, e2, ⟨⟨r, u, hv, hp, hb⟩, hF⟩, st2⟩ | ⟨q, k, ce, st, t, T', L, h0, X', hL, e1, e2, ⟨⟨u, hp, hb⟩, hF⟩, ⟨f1, f2⟩, st2⟩
  · cases hv
    obtain ⟨t2, a1, b1⟩ := kk u r T'.heap (locs ++ L) hp (by rw [e1]; exact hb) (tx_keep h0 e1 hS hL hF) T' rfl X'
    exact ⟨t2, st2 t2 a1, b1⟩
  · obtain ⟨t2, a1, b1⟩ := kx k u q ce T'.heap (locs ++ L) hp (by rw [e1]; exact hb) (tx_keep h0 e1 hS hL hF) ⟨by rw [e1]; exact f1, f2⟩ T' rfl X'
    exact ⟨t2, st2.trans a1, b1⟩
theorem tx_calll {post : fw_S → Int64 → Prop} {px : Nat → fw_S → Prop} (hr : tx_Run p l e R s m args below meth c H locs cells slots mc ms (F0 m pc ls st0) rest (va_Ql (fun r S' => post S' r) (fw_B D cl cA tk lay b n) (fw_A b n) a) (fw_X D cl cA tk lay b n px) (fw_A b n)) (hS : va_S (fw_A b n) H0 H locs)
    (kx : ∀ (k : Nat) (S' : fw_S) (q : Addr) (ce : Cell) (H1 : Heap) (locs1 : List Loc), px k S' → fw_P D cl cA lay b n (fw_v tk lay b S') H1 → va_S (fw_A b n) H0 H1 locs1 → (H1[q]? = some ce ∧ ce.vm = .none ∧ s.vm.findClass (tx_E k) = some ce.cls) → tx_W p l e R s m args below meth c H1 locs1 (cells + mc) (slots + ms) Q (F0 m pc ls rest) q)
    (kk : ∀ (S' : fw_S) (r : Int64) (H1 : Heap) (locs1 : List Loc), post S' r → fw_P D cl cA lay b n (fw_v tk lay b S') H1 → va_S (fw_A b n) H0 H1 locs1 → W p l e R s m args below meth c H1 locs1 (cells + mc) (slots + ms) Q (F0 m (pc + 3) ls (.long r :: rest))) : W p l e R s m args below meth c H locs cells slots Q (F0 m pc ls st0) := by
  intro T hT X
  rcases hr T hT X with ⟨v, st, t, T', L, h0, X', hL, e1, e2, ⟨⟨r, u, hv, hp, hb⟩, hF⟩, st2⟩ | ⟨q, k, ce, st, t, T', L, h0, X', hL, e1, e2, ⟨⟨u, hp, hb⟩, hF⟩, ⟨f1, f2⟩, st2⟩
  · cases hv
    obtain ⟨t2, a1, b1⟩ := kk u r T'.heap (locs ++ L) hp (by rw [e1]; exact hb) (tx_keep h0 e1 hS hL hF) T' rfl X'
    exact ⟨t2, st2 t2 a1, b1⟩
  · obtain ⟨t2, a1, b1⟩ := kx k u q ce T'.heap (locs ++ L) hp (by rw [e1]; exact hb) (tx_keep h0 e1 hS hL hF) ⟨by rw [e1]; exact f1, f2⟩ T' rfl X'
    exact ⟨t2, st2.trans a1, b1⟩
theorem tx_callv {post : fw_S → Prop} {px : Nat → fw_S → Prop} (hr : tx_Run p l e R s m args below meth c H locs cells slots mc ms (F0 m pc ls st0) rest (va_Qv post (fw_B D cl cA tk lay b n) (fw_A b n) a) (fw_X D cl cA tk lay b n px) (fw_A b n)) (hS : va_S (fw_A b n) H0 H locs)
    (kx : ∀ (k : Nat) (S' : fw_S) (q : Addr) (ce : Cell) (H1 : Heap) (locs1 : List Loc), px k S' → fw_P D cl cA lay b n (fw_v tk lay b S') H1 → va_S (fw_A b n) H0 H1 locs1 → (H1[q]? = some ce ∧ ce.vm = .none ∧ s.vm.findClass (tx_E k) = some ce.cls) → tx_W p l e R s m args below meth c H1 locs1 (cells + mc) (slots + ms) Q (F0 m pc ls rest) q)
    (kk : ∀ (S' : fw_S) (H1 : Heap) (locs1 : List Loc), post S' → fw_P D cl cA lay b n (fw_v tk lay b S') H1 → va_S (fw_A b n) H0 H1 locs1 → W p l e R s m args below meth c H1 locs1 (cells + mc) (slots + ms) Q (F0 m (pc + 3) ls rest)) : W p l e R s m args below meth c H locs cells slots Q (F0 m pc ls st0) := by
  intro T hT X
  rcases hr T hT X with ⟨v, st, t, T', L, h0, X', hL, e1, e2, ⟨⟨u, hv, hp, hb⟩, hF⟩, st2⟩ | ⟨q, k, ce, st, t, T', L, h0, X', hL, e1, e2, ⟨⟨u, hp, hb⟩, hF⟩, ⟨f1, f2⟩, st2⟩
  · cases hv
    obtain ⟨t2, a1, b1⟩ := kk u T'.heap (locs ++ L) hp (by rw [e1]; exact hb) (tx_keep h0 e1 hS hL hF) T' rfl X'
    exact ⟨t2, st2 t2 a1, b1⟩
  · obtain ⟨t2, a1, b1⟩ := kx k u q ce T'.heap (locs ++ L) hp (by rw [e1]; exact hb) (tx_keep h0 e1 hS hL hF) ⟨by rw [e1]; exact f1, f2⟩ T' rfl X'
    exact ⟨t2, st2.trans a1, b1⟩
theorem tx_callr {post : fw_S → Nat → Prop} {px : Nat → fw_S → Prop} {kd : Nat} (hr : tx_Run p l e R s m args below meth c H locs cells slots mc ms (F0 m pc ls st0) rest (va_Qr (fun u => post u.1 u.2) (fw_Br D cl cA tk lay b n kd) (fw_A b n) a) (fw_X D cl cA tk lay b n px) (fw_A b n)) (hS : va_S (fw_A b n) H0 H locs)
    (kx : ∀ (k : Nat) (S' : fw_S) (q : Addr) (ce : Cell) (H1 : Heap) (locs1 : List Loc), px k S' → fw_P D cl cA lay b n (fw_v tk lay b S') H1 → va_S (fw_A b n) H0 H1 locs1 → (H1[q]? = some ce ∧ ce.vm = .none ∧ s.vm.findClass (tx_E k) = some ce.cls) → tx_W p l e R s m args below meth c H1 locs1 (cells + mc) (slots + ms) Q (F0 m pc ls rest) q)
    (kk : ∀ (S' : fw_S) (o' : Nat) (H1 : Heap) (locs1 : List Loc), post S' o' → (o' < n ∧ lay o' = (kd, 0)) → fw_P D cl cA lay b n (fw_v tk lay b S') H1 → va_S (fw_A b n) H0 H1 locs1 → W p l e R s m args below meth c H1 locs1 (cells + mc) (slots + ms) Q (F0 m (pc + 3) ls (.ref (b + o') :: rest))) : W p l e R s m args below meth c H locs cells slots Q (F0 m pc ls st0) := by
  intro T hT X
  rcases hr T hT X with ⟨v, st, t, T', L, h0, X', hL, e1, e2, ⟨⟨u, ra, hv, hp, hra, hkd, hb⟩, hF⟩, st2⟩ | ⟨q, k, ce, st, t, T', L, h0, X', hL, e1, e2, ⟨⟨u, hp, hb⟩, hF⟩, ⟨f1, f2⟩, st2⟩
  · cases hv
    rw [hra] at st2
    obtain ⟨t2, a1, b1⟩ := kk u.1 u.2 T'.heap (locs ++ L) hp hkd (by rw [e1]; exact hb) (tx_keep h0 e1 hS hL hF) T' rfl X'
    exact ⟨t2, st2 t2 a1, b1⟩
  · obtain ⟨t2, a1, b1⟩ := kx k u q ce T'.heap (locs ++ L) hp (by rw [e1]; exact hb) (tx_keep h0 e1 hS hL hF) ⟨by rw [e1]; exact f1, f2⟩ T' rfl X'
    exact ⟨t2, st2.trans a1, b1⟩
/-- .. out: the same px is this method's own -/
theorem tx_outF {Qc : Array Value → State → Outcome → State → Prop} {px : Nat → fw_S → Prop} {k : Nat} {S' : fw_S} {q : Addr} {ce : Cell} (hT : ∀ x ∈ c.exceptionTable.toList, False) (hlocks : meth.locks = false) (hx : px k S') (hP : fw_P D cl cA lay b n (fw_v tk lay b S') H) (hS : va_S (fw_A b n) s.heap H locs) (hce : H[q]? = some ce ∧ ce.vm = .none ∧ s.vm.findClass (tx_E k) = some ce.cls) (hc : cells ≤ mc) (hs : slots ≤ ms) :
    tx_W p l e R s m args below meth c H locs cells slots (tx_MQ below Qc (fw_X D cl cA tk lay b n px) args s mc ms (fw_A b n)) (F0 m pc ls rest) q :=
  tx_out (fun x h => (hT x h).elim) hlocks hce (fun t ht => ⟨⟨S', hx, by rw [ht]; exact hP⟩, hS.F ht⟩) hS.2.2 hc hs
end TXF
