/-! making, by contract: how many slots the block's first n cells have; what a constructor leaves -/
def slN : List Nat := [3, 2, 12, 6, 5, 6, 2, 4, 7, 7, 40]
def slc (kn : Nat × Nat) : Nat := if kn.1 < 100 then slN.getD kn.1 0 else kn.2
def SL (n : Nat) : Nat := ((List.range n).map (fun o => slc (layU o))).sum
theorem SL_succ (n : Nat) : SL (n + 1) = SL n + slc (layU n) := by
  unfold SL
  rw [List.range_succ, List.map_append, List.sum_append]
  simp
theorem SL_mono {a b : Nat} (h : a ≤ b) : SL a ≤ SL b := by
  induction b with
  | zero => rw [show a = 0 by omega]; exact Nat.le_refl _
  | succ b ih =>
    by_cases e : a = b + 1
    · rw [e]; exact Nat.le_refl _
    · rw [SL_succ]
      have := ih (by omega)
      omega
abbrev fw_V : Type := Nat → Nat → Value
/-- words that aren't kept by the list: links within the nest, arrays over a class -/
def tv_N : List (String × Nat × MethodName) := [("OutletOffice$Office", 11, ⟨"OutletOffice$CardList", "<init>", "()V"⟩), ("OutletOffice$Office", 46, ⟨"OutletOffice$Bill", "<init>", "()V"⟩), ("OutletOffice$Site", 21, ⟨"OutletOffice$Point", "<init>", "()V"⟩), ("OutletOffice$Point", 11, ⟨"OutletOffice$Car", "<init>", "()V"⟩), ("OutletOffice$Queue", 30, ⟨"OutletOffice$Message", "<init>", "()V"⟩), ("OutletOffice$Point", 27, ⟨"OutletOffice$CardList", "<init>", "()V"⟩)]
def tv (U : State) : Prop := (∀ q ∈ tv_N, va_Nw (.methodLinkNest q.1 q.2.1 q.2.2 "OutletOffice") U) ∧ va_AO "OutletOffice$Site" U ∧ va_AO "OutletOffice$Bill" U ∧ va_AO "OutletOffice$Point" U ∧ va_AO "OutletOffice$Message" U
theorem tv.moved {s U : State} (hW : s.WarmedH U.vm) (h : tv s) : tv U :=
  ⟨fun q hq => va_Nw.warmM hW (h.1 q hq), h.2.1.moved hW.alike, h.2.2.1.moved hW.alike, h.2.2.2.1.moved hW.alike, h.2.2.2.2.moved hW.alike⟩
theorem tv_at {s : State} (h : tv s) (i : Nat) {a : String} {k : Nat} {y : MethodName} (hi : tv_N[i]? = some (a, k, y)) : va_Nw (.methodLinkNest a k y "OutletOffice") s := h.1 _ (List.mem_of_getElem? hi)
def fw_PcV (D : va_G) (cl : List vw_C) (cA : Nat → ClassId) (tys : List (ClassId × FieldType)) (lay : Nat → Nat × Nat) (b n : Nat) (V : fw_V) (av : List Value) : Array Value → State → Prop := va_Pc av (fun U => fw_P D cl cA lay b n V U.heap ∧ U.heap.size = b + n ∧ va_K D cl tys U ∧ tv U)
def fw_BV (D : va_G) (cl : List vw_C) (cA : Nat → ClassId) (lay : Nat → Nat × Nat) (b nn sl : Nat) : Nat × fw_V → State → Prop := fun u t => fw_P D cl cA lay b u.1 u.2 t.heap ∧ t.heap.size = b + u.1 ∧ u.1 = nn ∧ SL u.1 = sl
theorem fw_blindV {D : va_G} {cl : List vw_C} {cA : Nat → ClassId} {tys : List (ClassId × FieldType)} {lay : Nat → Nat × Nat} {b n : Nat} {V : fw_V} {av : List Value} : FrameBlind (fw_PcV D cl cA tys lay b n V av) :=
  fun a U g mk q => by
    obtain ⟨q0, q1, q2, q3, q4⟩ := q
    exact ⟨q0, q1, q2, va_K.moved (u := U) (U := U.calling g mk a) (Vm.Alike.refl U.vm) q3, tv.moved (s := U) (U := U.calling g mk a) (State.WarmedH.refl U) q4⟩
theorem fw_preSV {D : va_G} {cl : List vw_C} {cA : Nat → ClassId} {tys : List (ClassId × FieldType)} {lay : Nat → Nat × Nat} {b n : Nat} {V : fw_V} {av : List Value} {s : State} {H : Heap} (hP : fw_P D cl cA lay b n V H) (hz : H.size = b + n) (hK : va_K D cl tys s) (hV : tv s) : PreS s H (fw_PcV D cl cA tys lay b n V av) av :=
  ⟨fw_blindV, fun U hU hW => ⟨rfl, by rw [hU]; exact hP, by rw [hU]; exact hz, va_K.moved hW.alike hK, hV.moved hW⟩⟩
section FWV
variable {p : Program} {l : Launch} {e : Env} {R : Room} {s : State} {m : MethodId} {args : Array Value} {below : List Frame} {meth : Method} {c : Code} {H : Heap} {locs : List Loc} {cells slots : Nat} {Q : State → Prop}
variable {cc : ByteArray} {pc : Nat} {ls : Array Slot} {rest st0 : List Value} {a : Array Value} {D : va_G} {cl : List vw_C} {cA : Nat → ClassId} {A : Nat → Prop} {tys : List (ClassId × FieldType)} {H0 : Heap} {mc ms : Nat}
variable {lay : Nat → Nat × Nat} {b n o len : Nat} {V : fw_V}
theorem fw_callV {post : Nat × fw_V → Prop} {nn sl : Nat} (hr : va_Run p l e R s m args below meth c H locs cells slots mc ms (F0 m pc ls st0) rest (va_Qv post (fw_BV D cl cA lay b nn sl) (fw_Ac b) a) (fw_Ac b)) (hS : va_S (fw_Ac b) H0 H locs)
    (kk : ∀ (n' : Nat) (V' : fw_V) (H1 : Heap) (locs1 : List Loc), post (n', V') → fw_P D cl cA lay b n' V' H1 → H1.size = b + n' → va_S (fw_Ac b) H0 H1 locs1 → n' = nn → SL n' = sl → W p l e R s m args below meth c H1 locs1 (cells + mc) (slots + ms) Q (F0 m (pc + 3) ls rest)) : W p l e R s m args below meth c H locs cells slots Q (F0 m pc ls st0) :=
  va_callv hr hS (fun q _ h => h) (fun q h => h) (fun u t H1 locs1 ht _ hp hB _ _ hS1 => by
    obtain ⟨n', V'⟩ := u
    obtain ⟨h1, h2, h3, h4⟩ := hB
    exact kk n' V' H1 locs1 hp (by rw [← ht]; exact h1) (by rw [← ht]; exact h2) hS1 h3 h4)
theorem fw_iastV (hexec : p.tables.exec = Jvm.exec) (hb : c.code = cc) (hK : va_K D cl tys s) (hP : fw_P D cl cA lay b n V H) (hS0 : va_S A H0 H locs) (hA : A (b + o)) {kd : Nat} (ho : o < n ∧ lay o = (kd, len)) (h9 : ¬ kd < 100) (t0 : Nat) (hty : tys[t0]? = some (cA kd, .int)) {i x : Int32} (hi : vp_in i len) (hdg : decode cc pc = .ok (.iastore, 1))
    (kk : ∀ (H1 : Heap) (locs1 : List Loc), fw_P D cl cA lay b n (fw_up V o i.toNatClampNeg (.int x)) H1 → va_S A H0 H1 locs1 → H1.size = H.size → W p l e R s m args below meth c H1 locs1 cells slots Q (F0 m (pc + 1) ls rest)) : W p l e R s m args below meth c H locs cells slots Q (F0 m pc ls (.int x :: .int i :: .ref (b + o) :: rest)) :=
  W.iast hexec hb (hP.arr ho h9) ((hK.2 t0 _ hty).1 len _) (fun q => by cases q) (by show ¬ (i < 0 ∨ (arrV _ _ _).slots.size ≤ _); rw [arrV_size]; exact hi) rfl rfl hdg fun H1 e1 z oq =>
    kk H1 _ (hP.put (fw_arrUp ho h9 e1) oq) (hS0.put z oq hA) z
theorem fw_zastV (hexec : p.tables.exec = Jvm.exec) (hb : c.code = cc) (hK : va_K D cl tys s) (hP : fw_P D cl cA lay b n V H) (hS0 : va_S A H0 H locs) (hA : A (b + o)) {kd : Nat} (ho : o < n ∧ lay o = (kd, len)) (h9 : ¬ kd < 100) (t0 : Nat) (hty : tys[t0]? = some (cA kd, .boolean)) {i x : Int32} (hi : vp_in i len) (hdg : decode cc pc = .ok (.bastore, 1))
    (kk : ∀ (H1 : Heap) (locs1 : List Loc), fw_P D cl cA lay b n (fw_up V o i.toNatClampNeg (.int (fw_z x))) H1 → va_S A H0 H1 locs1 → H1.size = H.size → W p l e R s m args below meth c H1 locs1 cells slots Q (F0 m (pc + 1) ls rest)) : W p l e R s m args below meth c H locs cells slots Q (F0 m pc ls (.int x :: .int i :: .ref (b + o) :: rest)) :=
  W.zast hexec hb (hP.arr ho h9) ((hK.2 t0 _ hty).1 len _) (fun q => by cases q) (by show ¬ (i < 0 ∨ (arrV _ _ _).slots.size ≤ _); rw [arrV_size]; exact hi) rfl rfl hdg fun H1 e1 z oq =>
    kk H1 _ (hP.put (fw_arrUp ho h9 e1) oq) (hS0.put z oq hA) z
end FWV
