/-! the flat world: an object with all that hangs from it lies in one block of addresses from b on; 'lay' says what lies at each place of it, S the numbers in it -/
abbrev fw_S : Type := (Nat → Nat → Int32) × (Nat → Nat → Int64)
/-- a cell of kind kd (below 100 the class of that number, else an array of n places) with the values V -/
def fw_at (D : va_G) (cl : List vw_C) (cA : Nat → ClassId) (kn : Nat × Nat) (V : Nat → Value) (a : Nat) (H : Heap) : Prop :=
  if kn.1 < 100 then ∃ r : vw_C, cl[kn.1]? = some r ∧ t_OB a (D.1 kn.1) r.2.2 (D.2 kn.1) H V else H[a]? = some (arrV (cA kn.1) kn.2 V)
def fw_P (D : va_G) (cl : List vw_C) (cA : Nat → ClassId) (lay : Nat → Nat × Nat) (b n : Nat) (V : Nat → Nat → Value) (H : Heap) : Prop := ∀ o, o < n → fw_at D cl cA (lay o) (V o) (b + o) H
/-- the value in slot k of the cell at o: by the slot's type an int, a long, or the address of another cell of the block -/
def fw_val (t : Nat × Nat) (b o k : Nat) (S : fw_S) : Value := match t.1 with
  | 0 => .int (S.1 o k)
  | 1 => .long (S.2 o k)
  | _ => .ref (b + (o + t.2))
def fw_v (tk : Nat → Nat → Nat × Nat) (lay : Nat → Nat × Nat) (b : Nat) (S : fw_S) : Nat → Nat → Value := fun o k => fw_val (tk (lay o).1 k) b o k S
def fw_up (V : Nat → Nat → Value) (o k : Nat) (v : Value) : Nat → Nat → Value := fun x => if x = o then updV (V o) k v else V x
def fw_u2 {α : Type} (f : Nat → Nat → α) (o k : Nat) (x : α) : Nat → Nat → α := fun a j => if a = o ∧ j = k then x else f a j
def fw_si (S : fw_S) (o k : Nat) (x : Int32) : fw_S := (fw_u2 S.1 o k x, S.2)
def fw_sl (S : fw_S) (o k : Nat) (x : Int64) : fw_S := (S.1, fw_u2 S.2 o k x)
def fw_z (x : Int32) : Int32 := vp_nar .boolean x
def fw_A (b n : Nat) : Nat → Prop := fun q => b ≤ q ∧ q < b + n
theorem fw_u2_self {α : Type} (f : Nat → Nat → α) (o k : Nat) (x : α) : fw_u2 f o k x o k = x := by simp [fw_u2]
theorem fw_u2_ne {α : Type} (f : Nat → Nat → α) {o k a j : Nat} (x : α) (h : a ≠ o ∨ j ≠ k) : fw_u2 f o k x a j = f a j := by
  unfold fw_u2
  rw [if_neg]
  rintro ⟨h1, h2⟩
  rcases h with h | h
  · exact h h1
  · exact h h2
theorem fw_A.in {b n o : Nat} (h : o < n) : fw_A b n (b + o) := ⟨Nat.le_add_right _ _, Nat.add_lt_add_left h _⟩
theorem fw_at.kept {D : va_G} {cl : List vw_C} {cA : Nat → ClassId} {kn : Nat × Nat} {V : Nat → Value} {a : Nat} {H H1 : Heap} (h : fw_at D cl cA kn V a H) (hq : H1[a]? = H[a]?) : fw_at D cl cA kn V a H1 := by
  unfold fw_at at h ⊢
  by_cases e : kn.1 < 100
  · rw [if_pos e] at h ⊢
    obtain ⟨r, h1, h2⟩ := h
    exact ⟨r, h1, h2.kept hq⟩
  · rw [if_neg e] at h ⊢
    rw [hq]; exact h
theorem fw_P.kept {D : va_G} {cl : List vw_C} {cA : Nat → ClassId} {lay : Nat → Nat × Nat} {b n : Nat} {V : Nat → Nat → Value} {H H1 : Heap} (h : fw_P D cl cA lay b n V H) (hq : ∀ q, fw_A b n q → H1[q]? = H[q]?) : fw_P D cl cA lay b n V H1 :=
  fun o ho => (h o ho).kept (hq _ (fw_A.in ho))
theorem fw_P.obj {D : va_G} {cl : List vw_C} {cA : Nat → ClassId} {lay : Nat → Nat × Nat} {b n : Nat} {V : Nat → Nat → Value} {H : Heap} (h : fw_P D cl cA lay b n V H) {o ci len : Nat} (ho : o < n ∧ lay o = (ci, len)) (h9 : ci < 100) : ∃ r : vw_C, cl[ci]? = some r ∧ t_OB (b + o) (D.1 ci) r.2.2 (D.2 ci) H (V o) := by
  have h1 := h o ho.1
  unfold fw_at at h1
  rw [ho.2, if_pos (show ((ci, len) : Nat × Nat).1 < 100 from h9)] at h1
  exact h1
theorem fw_P.arr {D : va_G} {cl : List vw_C} {cA : Nat → ClassId} {lay : Nat → Nat × Nat} {b n : Nat} {V : Nat → Nat → Value} {H : Heap} (h : fw_P D cl cA lay b n V H) {o kd len : Nat} (ho : o < n ∧ lay o = (kd, len)) (h9 : ¬ kd < 100) : H[b + o]? = some (arrV (cA kd) len (V o)) := by
  have h1 := h o ho.1
  unfold fw_at at h1
  rw [ho.2, if_neg (show ¬ ((kd, len) : Nat × Nat).1 < 100 from h9)] at h1
  exact h1
theorem fw_P.put {D : va_G} {cl : List vw_C} {cA : Nat → ClassId} {lay : Nat → Nat × Nat} {b n : Nat} {V : Nat → Nat → Value} {H H1 : Heap} {o k : Nat} {v : Value} (h : fw_P D cl cA lay b n V H) (h1 : fw_at D cl cA (lay o) (updV (V o) k v) (b + o) H1) (h2 : ∀ q, q ≠ b + o → H1[q]? = H[q]?) : fw_P D cl cA lay b n (fw_up V o k v) H1 := by
  intro x hx
  by_cases e : x = o
  · subst e
    unfold fw_up
    rw [if_pos rfl]
    exact h1
  · unfold fw_up
    rw [if_neg e]
    exact (h x hx).kept (h2 _ (by omega))
theorem fw_upI {tk : Nat → Nat → Nat × Nat} {lay : Nat → Nat × Nat} {b o k d : Nat} {S : fw_S} {x : Int32} (ht : tk (lay o).1 k = (0, d)) : fw_up (fw_v tk lay b S) o k (.int x) = fw_v tk lay b (fw_si S o k x) := by
  funext a j
  by_cases e : a = o
  · subst e
    by_cases e2 : j = k
    · subst e2
      simp [fw_up, updV, fw_v, fw_val, ht, fw_si, fw_u2]
    · simp only [fw_up, updV, fw_v, fw_val, fw_si, fw_u2, if_pos, if_neg e2, e2, and_false, if_false]
  · simp only [fw_up, if_neg e, fw_v, fw_val, fw_si, fw_u2, e, false_and, if_false]
theorem fw_upL {tk : Nat → Nat → Nat × Nat} {lay : Nat → Nat × Nat} {b o k d : Nat} {S : fw_S} {x : Int64} (ht : tk (lay o).1 k = (1, d)) : fw_up (fw_v tk lay b S) o k (.long x) = fw_v tk lay b (fw_sl S o k x) := by
  funext a j
  by_cases e : a = o
  · subst e
    by_cases e2 : j = k
    · subst e2
      simp [fw_up, updV, fw_v, fw_val, ht, fw_sl, fw_u2]
    · simp only [fw_up, updV, fw_v, fw_val, fw_sl, fw_u2, if_pos, if_neg e2, e2, and_false, if_false]
  · simp only [fw_up, if_neg e, fw_v, fw_val, fw_sl, fw_u2, e, false_and, if_false]
theorem fw_S.put {A : Nat → Prop} {H0 H H1 : Heap} {locs : List Loc} {a k : Nat} (h : va_S A H0 H locs) (z : H1.size = H.size) (oq : ∀ q : Nat, q ≠ a → H1[q]? = H[q]?) (ha : A a) : va_S A H0 H1 (locs ++ [⟨a, k⟩]) := h.put z oq ha
section FWR
variable {p : Program} {l : Launch} {e : Env} {R : Room} {s : State} {m : MethodId} {args : Array Value} {below : List Frame} {meth : Method} {c : Code} {H : Heap} {locs : List Loc} {cells slots : Nat} {Q : State → Prop}
variable {cc : ByteArray} {pc : Nat} {ls : Array Slot} {rest : List Value} {D : va_G} {cl : List vw_C} {cA : Nat → ClassId} {A : Nat → Prop} {tys : List (ClassId × FieldType)} {H0 : Heap}
variable {tk : Nat → Nat → Nat × Nat} {lay : Nat → Nat × Nat} {b n : Nat} {V : Nat → Nat → Value} {S : fw_S}
variable {own C : String} {T : u_T} {N ci index len : Nat} {Ts : List Cond} {o : Nat}
theorem fw_getV (hexec : p.tables.exec = Jvm.exec) (hb : c.code = cc) (hts : ∀ w ∈ Ts, w.before args s = true) (hin : ∀ w ∈ u_ws C T N, w ∈ Ts) (hown : s.vm.findClass own = some m.cls) (hK : va_K D cl tys s) (hP : fw_P D cl cA lay b n V H) (ho : o < n ∧ lay o = (ci, len)) (h9 : ci < 100) (hcl : cl[ci]? = some (C, T, N)) (k : Nat) (hk : k < N)
    (hlink : (Cond.fieldLink own index (T k).1 (T k).2.1 (T k).2.2.1).before args s = true) {v : Value} (hv : V o k = v) (hdg : decode cc pc = .ok (.getfield index, 3))
    (kk : W p l e R s m args below meth c H locs cells slots Q (F0 m (pc + 3) ls (v :: rest))) : W p l e R s m args below meth c H locs cells slots Q (F0 m pc ls (.ref (b + o) :: rest)) := by
  obtain ⟨r, h1, cell, q1, q2, q3, q4⟩ := hP.obj ho h9
  have hr : r = (C, T, N) := Option.some.inj (h1.symm.trans hcl)
  subst hr
  obtain ⟨hS, hfc, kC, hkC, hkind⟩ := hK.1 ci _ hcl
  obtain ⟨cf, kf, fi, f, hi, hsl⟩ := hS k hk
  refine W.getf hexec hb hown hlink hi (u_facts hfc hkC (u_lays hts hin hk) hi).1 q1 (by rw [q3]; exact fun h => by cases h) (v := v) ?_ rfl rfl hdg kk
  rw [hsl, q4 k hk, hv]
theorem fw_geti (hexec : p.tables.exec = Jvm.exec) (hb : c.code = cc) (hts : ∀ w ∈ Ts, w.before args s = true) (hin : ∀ w ∈ u_ws C T N, w ∈ Ts) (hown : s.vm.findClass own = some m.cls) (hK : va_K D cl tys s) (hP : fw_P D cl cA lay b n (fw_v tk lay b S) H) (ho : o < n ∧ lay o = (ci, len)) (h9 : ci < 100) (hcl : cl[ci]? = some (C, T, N)) (k : Nat) (hk : k < N)
    (hlink : (Cond.fieldLink own index (T k).1 (T k).2.1 (T k).2.2.1).before args s = true) {d : Nat} (ht : tk ci k = (0, d)) (hdg : decode cc pc = .ok (.getfield index, 3))
    (kk : W p l e R s m args below meth c H locs cells slots Q (F0 m (pc + 3) ls (.int (S.1 o k) :: rest))) : W p l e R s m args below meth c H locs cells slots Q (F0 m pc ls (.ref (b + o) :: rest)) :=
  fw_getV hexec hb hts hin hown hK hP ho h9 hcl k hk hlink (by simp only [fw_v, fw_val, ho.2, ht]) hdg kk
theorem fw_getl (hexec : p.tables.exec = Jvm.exec) (hb : c.code = cc) (hts : ∀ w ∈ Ts, w.before args s = true) (hin : ∀ w ∈ u_ws C T N, w ∈ Ts) (hown : s.vm.findClass own = some m.cls) (hK : va_K D cl tys s) (hP : fw_P D cl cA lay b n (fw_v tk lay b S) H) (ho : o < n ∧ lay o = (ci, len)) (h9 : ci < 100) (hcl : cl[ci]? = some (C, T, N)) (k : Nat) (hk : k < N)
    (hlink : (Cond.fieldLink own index (T k).1 (T k).2.1 (T k).2.2.1).before args s = true) {d : Nat} (ht : tk ci k = (1, d)) (hdg : decode cc pc = .ok (.getfield index, 3))
    (kk : W p l e R s m args below meth c H locs cells slots Q (F0 m (pc + 3) ls (.long (S.2 o k) :: rest))) : W p l e R s m args below meth c H locs cells slots Q (F0 m pc ls (.ref (b + o) :: rest)) :=
  fw_getV hexec hb hts hin hown hK hP ho h9 hcl k hk hlink (by simp only [fw_v, fw_val, ho.2, ht]) hdg kk
theorem fw_getr (hexec : p.tables.exec = Jvm.exec) (hb : c.code = cc) (hts : ∀ w ∈ Ts, w.before args s = true) (hin : ∀ w ∈ u_ws C T N, w ∈ Ts) (hown : s.vm.findClass own = some m.cls) (hK : va_K D cl tys s) (hP : fw_P D cl cA lay b n (fw_v tk lay b S) H) (ho : o < n ∧ lay o = (ci, len)) (h9 : ci < 100) (hcl : cl[ci]? = some (C, T, N)) (k : Nat) (hk : k < N)
    (hlink : (Cond.fieldLink own index (T k).1 (T k).2.1 (T k).2.2.1).before args s = true) {d : Nat} (ht : tk ci k = (2, d)) (hdg : decode cc pc = .ok (.getfield index, 3))
    (kk : W p l e R s m args below meth c H locs cells slots Q (F0 m (pc + 3) ls (.ref (b + (o + d)) :: rest))) : W p l e R s m args below meth c H locs cells slots Q (F0 m pc ls (.ref (b + o) :: rest)) :=
  fw_getV hexec hb hts hin hown hK hP ho h9 hcl k hk hlink (by simp only [fw_v, fw_val, ho.2, ht]) hdg kk
theorem fw_putV (hexec : p.tables.exec = Jvm.exec) (hb : c.code = cc) (hts : ∀ w ∈ Ts, w.before args s = true) (hin : ∀ w ∈ u_ws C T N, w ∈ Ts) (ty0 : Nat → FieldType) (hty : ∀ k, k < N → parseFieldDescriptor (T k).2.2.1 = some (ty0 k)) (hnm : ∀ a, a < N → ∀ b, b < N → a ≠ b → (T a).2.1 ≠ (T b).2.1) (hown : s.vm.findClass own = some m.cls) (hK : va_K D cl tys s) (hP : fw_P D cl cA lay b n V H) (hS0 : va_S A H0 H locs) (hA : A (b + o)) (ho : o < n ∧ lay o = (ci, len)) (h9 : ci < 100) (hcl : cl[ci]? = some (C, T, N)) (k : Nat) (hk : k < N)
    (hlink : (Cond.fieldLink own index (T k).1 (T k).2.1 (T k).2.2.1).before args s = true) (hfin : (T k).2.2.2 = false) {ty : FieldType} {v : Value} (hd : parseFieldDescriptor (T k).2.2.1 = some ty) (hn : narrow ty v = v) (hfit : fits ty v = true) (hdg : decode cc pc = .ok (.putfield index, 3))
    (kk : ∀ (H1 : Heap) (locs1 : List Loc), fw_P D cl cA lay b n (fw_up V o k v) H1 → va_S A H0 H1 locs1 → H1.size = H.size → W p l e R s m args below meth c H1 locs1 cells slots Q (F0 m (pc + 3) ls rest)) : W p l e R s m args below meth c H locs cells slots Q (F0 m pc ls (v :: .ref (b + o) :: rest)) := by
  have hap := va_apart (own := own) hts hin ty0 hty hnm hK hcl
  obtain ⟨r, h1, cell, q1, q2, q3, q4⟩ := hP.obj ho h9
  have hr : r = (C, T, N) := Option.some.inj (h1.symm.trans hcl)
  subst hr
  obtain ⟨hS, hfc, kC, hkC, hkind⟩ := hK.1 ci _ hcl
  obtain ⟨cf, kf, fi, f, hi, hsl⟩ := hS k hk
  have hlay := hts _ (hin _ (u_in_lay hk))
  unfold u_lay at hlay
  rw [if_neg (by rw [hfin]; decide)] at hlay
  have hst := (u_facts hfc hkC (u_lays hts hin hk) hi).1
  have h6 := u_store hfc hkC hkind hlay hi hd hn hfit
  refine W.putK hexec hb (f := f) ⟨hown, hlink, ⟨_, _, _, hi⟩, hst⟩ (by rw [q2]; exact h6) q1 q3 (by rw [hsl]; exact k2_hasslot (q4 k hk)) rfl rfl hdg fun H' e1 e2 e3 => ?_
  rw [hsl] at e1 ⊢
  refine kk H' _ (hP.put ?_ e3) (hS0.put e2 e3 hA) e2
  unfold fw_at
  rw [ho.2, if_pos (show ((ci, len) : Nat × Nat).1 < 100 from h9)]
  exact ⟨_, hcl, _, e1, q2, q3, t_set q4 hap hk v⟩
theorem fw_puti (hexec : p.tables.exec = Jvm.exec) (hb : c.code = cc) (hts : ∀ w ∈ Ts, w.before args s = true) (hin : ∀ w ∈ u_ws C T N, w ∈ Ts) (ty0 : Nat → FieldType) (hty : ∀ k, k < N → parseFieldDescriptor (T k).2.2.1 = some (ty0 k)) (hnm : ∀ a, a < N → ∀ b, b < N → a ≠ b → (T a).2.1 ≠ (T b).2.1) (hown : s.vm.findClass own = some m.cls) (hK : va_K D cl tys s) (hP : fw_P D cl cA lay b n (fw_v tk lay b S) H) (hS0 : va_S A H0 H locs) (hA : A (b + o)) (ho : o < n ∧ lay o = (ci, len)) (h9 : ci < 100) (hcl : cl[ci]? = some (C, T, N)) (k : Nat) (hk : k < N)
    (hlink : (Cond.fieldLink own index (T k).1 (T k).2.1 (T k).2.2.1).before args s = true) (hfin : (T k).2.2.2 = false) {d : Nat} (ht : tk ci k = (0, d)) {ty : FieldType} {x : Int32} (hd : parseFieldDescriptor (T k).2.2.1 = some ty) (hn : narrow ty (.int x) = .int x) (hfit : fits ty (.int x) = true) (hdg : decode cc pc = .ok (.putfield index, 3))
    (kk : ∀ (H1 : Heap) (locs1 : List Loc), fw_P D cl cA lay b n (fw_v tk lay b (fw_si S o k x)) H1 → va_S A H0 H1 locs1 → W p l e R s m args below meth c H1 locs1 cells slots Q (F0 m (pc + 3) ls rest)) : W p l e R s m args below meth c H locs cells slots Q (F0 m pc ls (.int x :: .ref (b + o) :: rest)) :=
  fw_putV hexec hb hts hin ty0 hty hnm hown hK hP hS0 hA ho h9 hcl k hk hlink hfin hd hn hfit hdg (fun H1 locs1 h1 h2 _ => kk H1 locs1 (by rw [← fw_upI (by rw [ho.2]; exact ht)]; exact h1) h2)
theorem fw_putl (hexec : p.tables.exec = Jvm.exec) (hb : c.code = cc) (hts : ∀ w ∈ Ts, w.before args s = true) (hin : ∀ w ∈ u_ws C T N, w ∈ Ts) (ty0 : Nat → FieldType) (hty : ∀ k, k < N → parseFieldDescriptor (T k).2.2.1 = some (ty0 k)) (hnm : ∀ a, a < N → ∀ b, b < N → a ≠ b → (T a).2.1 ≠ (T b).2.1) (hown : s.vm.findClass own = some m.cls) (hK : va_K D cl tys s) (hP : fw_P D cl cA lay b n (fw_v tk lay b S) H) (hS0 : va_S A H0 H locs) (hA : A (b + o)) (ho : o < n ∧ lay o = (ci, len)) (h9 : ci < 100) (hcl : cl[ci]? = some (C, T, N)) (k : Nat) (hk : k < N)
    (hlink : (Cond.fieldLink own index (T k).1 (T k).2.1 (T k).2.2.1).before args s = true) (hfin : (T k).2.2.2 = false) {d : Nat} (ht : tk ci k = (1, d)) {ty : FieldType} {x : Int64} (hd : parseFieldDescriptor (T k).2.2.1 = some ty) (hn : narrow ty (.long x) = .long x) (hfit : fits ty (.long x) = true) (hdg : decode cc pc = .ok (.putfield index, 3))
    (kk : ∀ (H1 : Heap) (locs1 : List Loc), fw_P D cl cA lay b n (fw_v tk lay b (fw_sl S o k x)) H1 → va_S A H0 H1 locs1 → W p l e R s m args below meth c H1 locs1 cells slots Q (F0 m (pc + 3) ls rest)) : W p l e R s m args below meth c H locs cells slots Q (F0 m pc ls (.long x :: .ref (b + o) :: rest)) :=
  fw_putV hexec hb hts hin ty0 hty hnm hown hK hP hS0 hA ho h9 hcl k hk hlink hfin hd hn hfit hdg (fun H1 locs1 h1 h2 _ => kk H1 locs1 (by rw [← fw_upL (by rw [ho.2]; exact ht)]; exact h1) h2)
/-! arrays -/
theorem fw_alen (hexec : p.tables.exec = Jvm.exec) (hb : c.code = cc) (hK : va_K D cl tys s) (hP : fw_P D cl cA lay b n V H) {kd : Nat} (ho : o < n ∧ lay o = (kd, len)) (h9 : ¬ kd < 100) (t0 : Nat) {ty : FieldType} (hty : tys[t0]? = some (cA kd, ty)) (hdg : decode cc pc = .ok (.arraylength, 1))
    (kk : W p l e R s m args below meth c H locs cells slots Q (F0 m (pc + 1) ls (.int (nI len) :: rest))) : W p l e R s m args below meth c H locs cells slots Q (F0 m pc ls (.ref (b + o) :: rest)) :=
  W.alen (n := nI len) hexec hb (hP.arr ho h9) ((hK.2 t0 _ hty).1 len _) (by rw [arrV_size] <;> rfl) rfl rfl hdg kk
theorem fw_iald (hexec : p.tables.exec = Jvm.exec) (hb : c.code = cc) (hK : va_K D cl tys s) (hP : fw_P D cl cA lay b n (fw_v tk lay b S) H) {kd : Nat} (ho : o < n ∧ lay o = (kd, len)) (h9 : ¬ kd < 100) (t0 : Nat) (hty : tys[t0]? = some (cA kd, .int)) (ht : ∀ j, tk kd j = (0, 0)) {i : Int32} (hi : vp_in i len) (hdg : decode cc pc = .ok (.iaload, 1))
    (kk : W p l e R s m args below meth c H locs cells slots Q (F0 m (pc + 1) ls (.int (S.1 o i.toNatClampNeg) :: rest))) : W p l e R s m args below meth c H locs cells slots Q (F0 m pc ls (.int i :: .ref (b + o) :: rest)) :=
  W.iald (v := .int (S.1 o i.toNatClampNeg)) hexec hb (hP.arr ho h9) ((hK.2 t0 _ hty).1 len _) (fun q => by cases q) (by show ¬ (i < 0 ∨ (arrV _ _ _).slots.size ≤ _); rw [arrV_size]; exact hi) (by show (arrV _ _ _).slots[_]? = _; rw [arrV_read _ _ (Nat.not_le.mp fun q => hi (Or.inr q))]; simp only [fw_v, fw_val, ho.2, ht]) rfl rfl hdg kk
theorem fw_zald (hexec : p.tables.exec = Jvm.exec) (hb : c.code = cc) (hK : va_K D cl tys s) (hP : fw_P D cl cA lay b n (fw_v tk lay b S) H) {kd : Nat} (ho : o < n ∧ lay o = (kd, len)) (h9 : ¬ kd < 100) (t0 : Nat) (hty : tys[t0]? = some (cA kd, .boolean)) (ht : ∀ j, tk kd j = (0, 0)) {i : Int32} (hi : vp_in i len) (hdg : decode cc pc = .ok (.baload, 1))
    (kk : W p l e R s m args below meth c H locs cells slots Q (F0 m (pc + 1) ls (.int (S.1 o i.toNatClampNeg) :: rest))) : W p l e R s m args below meth c H locs cells slots Q (F0 m pc ls (.int i :: .ref (b + o) :: rest)) :=
  W.zald (v := .int (S.1 o i.toNatClampNeg)) hexec hb (hP.arr ho h9) ((hK.2 t0 _ hty).1 len _) (fun q => by cases q) (by show ¬ (i < 0 ∨ (arrV _ _ _).slots.size ≤ _); rw [arrV_size]; exact hi) (by show (arrV _ _ _).slots[_]? = _; rw [arrV_read _ _ (Nat.not_le.mp fun q => hi (Or.inr q))]; simp only [fw_v, fw_val, ho.2, ht]) rfl rfl hdg kk
theorem fw_lald (hexec : p.tables.exec = Jvm.exec) (hb : c.code = cc) (hK : va_K D cl tys s) (hP : fw_P D cl cA lay b n (fw_v tk lay b S) H) {kd : Nat} (ho : o < n ∧ lay o = (kd, len)) (h9 : ¬ kd < 100) (t0 : Nat) (hty : tys[t0]? = some (cA kd, .long)) (ht : ∀ j, tk kd j = (1, 0)) {i : Int32} (hi : vp_in i len) (hdg : decode cc pc = .ok (.laload, 1))
    (kk : W p l e R s m args below meth c H locs cells slots Q (F0 m (pc + 1) ls (.long (S.2 o i.toNatClampNeg) :: rest))) : W p l e R s m args below meth c H locs cells slots Q (F0 m pc ls (.int i :: .ref (b + o) :: rest)) :=
  W.lald (v := .long (S.2 o i.toNatClampNeg)) hexec hb (hP.arr ho h9) ((hK.2 t0 _ hty).1 len _) (fun q => by cases q) (by show ¬ (i < 0 ∨ (arrV _ _ _).slots.size ≤ _); rw [arrV_size]; exact hi) (by show (arrV _ _ _).slots[_]? = _; rw [arrV_read _ _ (Nat.not_le.mp fun q => hi (Or.inr q))]; simp only [fw_v, fw_val, ho.2, ht]) rfl rfl hdg kk
theorem fw_aald (hexec : p.tables.exec = Jvm.exec) (hb : c.code = cc) (hK : va_K D cl tys s) (hP : fw_P D cl cA lay b n (fw_v tk lay b S) H) {kd : Nat} (ho : o < n ∧ lay o = (kd, len)) (h9 : ¬ kd < 100) (t0 : Nat) {C0 : String} (hty : tys[t0]? = some (cA kd, .object C0)) {i : Int32} {d : Nat} (ht : tk kd i.toNatClampNeg = (2, d)) (hi : vp_in i len) (hdg : decode cc pc = .ok (.aaload, 1))
    (kk : W p l e R s m args below meth c H locs cells slots Q (F0 m (pc + 1) ls (.ref (b + (o + d)) :: rest))) : W p l e R s m args below meth c H locs cells slots Q (F0 m pc ls (.int i :: .ref (b + o) :: rest)) :=
  W.aald (v := .ref (b + (o + d))) (ty := .object C0) hexec hb (hP.arr ho h9) ((hK.2 t0 _ hty).1 len _) rfl (fun q => by cases q) (by show ¬ (i < 0 ∨ (arrV _ _ _).slots.size ≤ _); rw [arrV_size]; exact hi) (by show (arrV _ _ _).slots[_]? = _; rw [arrV_read _ _ (Nat.not_le.mp fun q => hi (Or.inr q))]; simp only [fw_v, fw_val, ho.2, ht]) rfl rfl hdg kk
theorem fw_arrUp {kd j : Nat} {H1 : Heap} {v : Value} (ho : o < n ∧ lay o = (kd, len)) (h9 : ¬ kd < 100) (e1 : H1[b + o]? = some ((arrV (cA kd) len (V o)).setSlot j v)) : fw_at D cl cA (lay o) (updV (V o) j v) (b + o) H1 := by
  unfold fw_at
  rw [ho.2, if_neg (show ¬ ((kd, len) : Nat × Nat).1 < 100 from h9), e1, arrV_store]
theorem fw_iast (hexec : p.tables.exec = Jvm.exec) (hb : c.code = cc) (hK : va_K D cl tys s) (hP : fw_P D cl cA lay b n (fw_v tk lay b S) H) (hS0 : va_S A H0 H locs) (hA : A (b + o)) {kd : Nat} (ho : o < n ∧ lay o = (kd, len)) (h9 : ¬ kd < 100) (t0 : Nat) (hty : tys[t0]? = some (cA kd, .int)) (ht : ∀ j, tk kd j = (0, 0)) {i x : Int32} (hi : vp_in i len) (hdg : decode cc pc = .ok (.iastore, 1))
    (kk : ∀ (H1 : Heap) (locs1 : List Loc), fw_P D cl cA lay b n (fw_v tk lay b (fw_si S o i.toNatClampNeg x)) H1 → va_S A H0 H1 locs1 → W p l e R s m args below meth c H1 locs1 cells slots Q (F0 m (pc + 1) ls rest)) : W p l e R s m args below meth c H locs cells slots Q (F0 m pc ls (.int x :: .int i :: .ref (b + o) :: rest)) :=
  W.iast hexec hb (hP.arr ho h9) ((hK.2 t0 _ hty).1 len _) (fun q => by cases q) (by show ¬ (i < 0 ∨ (arrV _ _ _).slots.size ≤ _); rw [arrV_size]; exact hi) rfl rfl hdg fun H1 e1 z oq =>
    kk H1 _ (by rw [← fw_upI (d := 0) (by rw [ho.2]; exact ht _)]; exact hP.put (fw_arrUp ho h9 e1) oq) (hS0.put z oq hA)
theorem fw_zast (hexec : p.tables.exec = Jvm.exec) (hb : c.code = cc) (hK : va_K D cl tys s) (hP : fw_P D cl cA lay b n (fw_v tk lay b S) H) (hS0 : va_S A H0 H locs) (hA : A (b + o)) {kd : Nat} (ho : o < n ∧ lay o = (kd, len)) (h9 : ¬ kd < 100) (t0 : Nat) (hty : tys[t0]? = some (cA kd, .boolean)) (ht : ∀ j, tk kd j = (0, 0)) {i x : Int32} (hi : vp_in i len) (hdg : decode cc pc = .ok (.bastore, 1))
    (kk : ∀ (H1 : Heap) (locs1 : List Loc), fw_P D cl cA lay b n (fw_v tk lay b (fw_si S o i.toNatClampNeg (fw_z x))) H1 → va_S A H0 H1 locs1 → W p l e R s m args below meth c H1 locs1 cells slots Q (F0 m (pc + 1) ls rest)) : W p l e R s m args below meth c H locs cells slots Q (F0 m pc ls (.int x :: .int i :: .ref (b + o) :: rest)) :=
  W.zast hexec hb (hP.arr ho h9) ((hK.2 t0 _ hty).1 len _) (fun q => by cases q) (by show ¬ (i < 0 ∨ (arrV _ _ _).slots.size ≤ _); rw [arrV_size]; exact hi) rfl rfl hdg fun H1 e1 z oq =>
    kk H1 _ (by rw [← fw_upI (d := 0) (by rw [ho.2]; exact ht _)]; exact hP.put (fw_arrUp ho h9 e1) oq) (hS0.put z oq hA)
theorem fw_last (hexec : p.tables.exec = Jvm.exec) (hb : c.code = cc) (hK : va_K D cl tys s) (hP : fw_P D cl cA lay b n (fw_v tk lay b S) H) (hS0 : va_S A H0 H locs) (hA : A (b + o)) {kd : Nat} (ho : o < n ∧ lay o = (kd, len)) (h9 : ¬ kd < 100) (t0 : Nat) (hty : tys[t0]? = some (cA kd, .long)) (ht : ∀ j, tk kd j = (1, 0)) {i : Int32} {x : Int64} (hi : vp_in i len) (hdg : decode cc pc = .ok (.lastore, 1))
    (kk : ∀ (H1 : Heap) (locs1 : List Loc), fw_P D cl cA lay b n (fw_v tk lay b (fw_sl S o i.toNatClampNeg x)) H1 → va_S A H0 H1 locs1 → W p l e R s m args below meth c H1 locs1 cells slots Q (F0 m (pc + 1) ls rest)) : W p l e R s m args below meth c H locs cells slots Q (F0 m pc ls (.long x :: .int i :: .ref (b + o) :: rest)) :=
  W.last hexec hb (hP.arr ho h9) ((hK.2 t0 _ hty).1 len _) (fun q => by cases q) (by show ¬ (i < 0 ∨ (arrV _ _ _).slots.size ≤ _); rw [arrV_size]; exact hi) rfl rfl hdg fun H1 e1 z oq =>
    kk H1 _ (by rw [← fw_upL (d := 0) (by rw [ho.2]; exact ht _)]; exact hP.put (fw_arrUp ho h9 e1) oq) (hS0.put z oq hA)
end FWR
/-! contracts over the flat world -/
abbrev fw_B (D : va_G) (cl : List vw_C) (cA : Nat → ClassId) (tk : Nat → Nat → Nat × Nat) (lay : Nat → Nat × Nat) (b n : Nat) : fw_S → State → Prop := fun S' t => fw_P D cl cA lay b n (fw_v tk lay b S') t.heap
abbrev fw_Br (D : va_G) (cl : List vw_C) (cA : Nat → ClassId) (tk : Nat → Nat → Nat × Nat) (lay : Nat → Nat × Nat) (b n kd : Nat) : fw_S × Nat → Nat → State → Prop := fun u a t => a = b + u.2 ∧ (u.2 < n ∧ lay u.2 = (kd, 0)) ∧ fw_P D cl cA lay b n (fw_v tk lay b u.1) t.heap
theorem fw_Bof {D : va_G} {cl : List vw_C} {cA : Nat → ClassId} {tk : Nat → Nat → Nat × Nat} {lay : Nat → Nat × Nat} {b n : Nat} {S : fw_S} {H : Heap} {t : State} (ht : t.heap = H) (hP : fw_P D cl cA lay b n (fw_v tk lay b S) H) : fw_P D cl cA lay b n (fw_v tk lay b S) t.heap := by rw [ht]; exact hP
/-- what a boolean may be -/
def fw_bz (x : Int32) : Prop := x = 0 ∨ x = 1
theorem fw_bz.n {x : Int32} (h : fw_bz x) : narrow .boolean (.int x) = .int x := by
  rcases h with rfl | rfl
  · exact narrow_b0
  · exact narrow_b1
theorem fw_bz.f {x : Int32} (h : fw_bz x) : fits .boolean (.int x) = true := by
  rcases h with rfl | rfl <;> rfl
def fw_Pc (D : va_G) (cl : List vw_C) (cA : Nat → ClassId) (tys : List (ClassId × FieldType)) (tk : Nat → Nat → Nat × Nat) (lay : Nat → Nat × Nat) (b n : Nat) (S : fw_S) (av : List Value) : Array Value → State → Prop := va_Pc av (fun U => fw_P D cl cA lay b n (fw_v tk lay b S) U.heap ∧ va_K D cl tys U)
theorem fw_blind {D : va_G} {cl : List vw_C} {cA : Nat → ClassId} {tys : List (ClassId × FieldType)} {tk : Nat → Nat → Nat × Nat} {lay : Nat → Nat × Nat} {b n : Nat} {S : fw_S} {av : List Value} : FrameBlind (fw_Pc D cl cA tys tk lay b n S av) :=
  fun a U g mk q => by
    obtain ⟨q0, q1, q2⟩ := q
    exact ⟨q0, q1, va_K.moved (u := U) (U := U.calling g mk a) (Vm.Alike.refl U.vm) q2⟩
theorem fw_preS {D : va_G} {cl : List vw_C} {cA : Nat → ClassId} {tys : List (ClassId × FieldType)} {tk : Nat → Nat → Nat × Nat} {lay : Nat → Nat × Nat} {b n : Nat} {S : fw_S} {av : List Value} {s : State} {H : Heap} (hP : fw_P D cl cA lay b n (fw_v tk lay b S) H) (hK : va_K D cl tys s) : PreS s H (fw_Pc D cl cA tys tk lay b n S av) av :=
  ⟨fw_blind, fun U hU hW => ⟨rfl, by rw [hU]; exact hP, va_K.moved hW.alike hK⟩⟩
theorem fw_recv {D : va_G} {cl : List vw_C} {cA : Nat → ClassId} {tys : List (ClassId × FieldType)} {lay : Nat → Nat × Nat} {b n : Nat} {V : Nat → Nat → Value} {s : State} {H : Heap} (hP : fw_P D cl cA lay b n V H) (hK : va_K D cl tys s) {o ci len : Nat} (ho : o < n ∧ lay o = (ci, len)) (h9 : ci < 100) {q : vw_C} (hcl : cl[ci]? = some q) : ∃ cell : Cell, H[b + o]? = some cell ∧ cell.vm.isStatics = false ∧ s.vm.findClass q.1 = some cell.cls := by
  obtain ⟨r, h1, cell, q1, q2, q3, q4⟩ := hP.obj ho h9
  exact ⟨cell, q1, by rw [q3]; rfl, by rw [q2]; exact (hK.1 ci q hcl).2.1⟩
theorem fw_preV {D : va_G} {cl : List vw_C} {cA : Nat → ClassId} {tys : List (ClassId × FieldType)} {tk : Nat → Nat → Nat × Nat} {lay : Nat → Nat × Nat} {b n : Nat} {S : fw_S} {As : List Value} {s : State} {H : Heap} (hP : fw_P D cl cA lay b n (fw_v tk lay b S) H) (hK : va_K D cl tys s) {o ci len : Nat} (ho : o < n ∧ lay o = (ci, len)) (h9 : ci < 100) {q : vw_C} (hcl : cl[ci]? = some q) : PreV s H q.1 (b + o) (fw_Pc D cl cA tys tk lay b n S (.ref (b + o) :: As)) As :=
  ⟨fw_blind, fw_recv hP hK ho h9 hcl, fun U hU hW => ⟨rfl, by rw [hU]; exact hP, va_K.moved hW.alike hK⟩⟩
section FWC
variable {p : Program} {l : Launch} {e : Env} {R : Room} {s : State} {m : MethodId} {args : Array Value} {below : List Frame} {meth : Method} {c : Code} {H : Heap} {locs : List Loc} {cells slots : Nat} {Q : State → Prop}
variable {pc : Nat} {ls : Array Slot} {rest st0 : List Value} {a : Array Value} {H0 : Heap} {mc ms : Nat} {D : va_G} {cl : List vw_C} {cA : Nat → ClassId} {tk : Nat → Nat → Nat × Nat} {lay : Nat → Nat × Nat} {b n : Nat}
theorem fw_calli {post : fw_S → Int32 → Prop} (hr : va_Run p l e R s m args below meth c H locs cells slots mc ms (F0 m pc ls st0) rest (va_Qi (fun r S' => post S' r) (fw_B D cl cA tk lay b n) (fw_A b n) a) (fw_A b n)) (hS : va_S (fw_A b n) H0 H locs)
    (kk : ∀ (S' : fw_S) (r : Int32) (H1 : Heap) (locs1 : List Loc), post S' r → fw_P D cl cA lay b n (fw_v tk lay b S') H1 → va_S (fw_A b n) H0 H1 locs1 → W p l e R s m args below meth c H1 locs1 (cells + mc) (slots + ms) Q (F0 m (pc + 3) ls (.int r :: rest))) : W p l e R s m args below meth c H locs cells slots Q (F0 m pc ls st0) :=
  va_calli hr hS (fun q _ h => h) (fun q h => h) (fun r u t H1 locs1 ht _ hp hB _ _ hS1 => kk u r H1 locs1 hp (by rw [← ht]; exact hB) hS1)
theorem fw_calll {post : fw_S → Int64 → Prop} (hr : va_Run p l e R s m args below meth c H locs cells slots mc ms (F0 m pc ls st0) rest (va_Ql (fun r S' => post S' r) (fw_B D cl cA tk lay b n) (fw_A b n) a) (fw_A b n)) (hS : va_S (fw_A b n) H0 H locs)
    (kk : ∀ (S' : fw_S) (r : Int64) (H1 : Heap) (locs1 : List Loc), post S' r → fw_P D cl cA lay b n (fw_v tk lay b S') H1 → va_S (fw_A b n) H0 H1 locs1 → W p l e R s m args below meth c H1 locs1 (cells + mc) (slots + ms) Q (F0 m (pc + 3) ls (.long r :: rest))) : W p l e R s m args below meth c H locs cells slots Q (F0 m pc ls st0) :=
  va_calll hr hS (fun q _ h => h) (fun q h => h) (fun r u t H1 locs1 ht _ hp hB _ _ hS1 => kk u r H1 locs1 hp (by rw [← ht]; exact hB) hS1)
theorem fw_callv {post : fw_S → Prop} (hr : va_Run p l e R s m args below meth c H locs cells slots mc ms (F0 m pc ls st0) rest (va_Qv post (fw_B D cl cA tk lay b n) (fw_A b n) a) (fw_A b n)) (hS : va_S (fw_A b n) H0 H locs)
    (kk : ∀ (S' : fw_S) (H1 : Heap) (locs1 : List Loc), post S' → fw_P D cl cA lay b n (fw_v tk lay b S') H1 → va_S (fw_A b n) H0 H1 locs1 → W p l e R s m args below meth c H1 locs1 (cells + mc) (slots + ms) Q (F0 m (pc + 3) ls rest)) : W p l e R s m args below meth c H locs cells slots Q (F0 m pc ls st0) :=
  va_callv hr hS (fun q _ h => h) (fun q h => h) (fun u t H1 locs1 ht _ hp hB _ _ hS1 => kk u H1 locs1 hp (by rw [← ht]; exact hB) hS1)
theorem fw_callr {post : fw_S → Nat → Prop} {kd : Nat} (hr : va_Run p l e R s m args below meth c H locs cells slots mc ms (F0 m pc ls st0) rest (va_Qr (fun u => post u.1 u.2) (fw_Br D cl cA tk lay b n kd) (fw_A b n) a) (fw_A b n)) (hS : va_S (fw_A b n) H0 H locs)
    (kk : ∀ (S' : fw_S) (o' : Nat) (H1 : Heap) (locs1 : List Loc), post S' o' → (o' < n ∧ lay o' = (kd, 0)) → fw_P D cl cA lay b n (fw_v tk lay b S') H1 → va_S (fw_A b n) H0 H1 locs1 → W p l e R s m args below meth c H1 locs1 (cells + mc) (slots + ms) Q (F0 m (pc + 3) ls (.ref (b + o') :: rest))) : W p l e R s m args below meth c H locs cells slots Q (F0 m pc ls st0) :=
  va_callr hr hS (fun q _ h => h) (fun q h => h) (fun u ra t H1 locs1 ht _ hp hB _ _ hS1 => by
    obtain ⟨e1, e2, e3⟩ := hB
    rw [e1]
    exact kk u.1 u.2 H1 locs1 hp e2 (by rw [← ht]; exact e3) hS1)
end FWC
/-! System.arraycopy of a whole array of ints onto another of the same length -/
def fw_cp (S : fw_S) (src dst n : Nat) : fw_S := (fun a j => if a = dst ∧ j < n then S.1 src j else S.1 a j, S.2)
theorem fw_vI {tk : Nat → Nat → Nat × Nat} {lay : Nat → Nat × Nat} {b o kd len : Nat} {S : fw_S} (ho : lay o = (kd, len)) (ht : ∀ j, tk kd j = (0, 0)) : fw_v tk lay b S o = fun j => .int (S.1 o j) := by
  funext j
  simp only [fw_v, fw_val, ho, ht]
section FWCP
variable {p : Program} {l : Launch} {e : Env} {R : Room} {s : State} {m : MethodId} {args : Array Value} {below : List Frame} {meth : Method} {c : Code} {H : Heap} {locs : List Loc} {cells slots : Nat} {Q : State → Prop}
variable {cc : ByteArray} {pc : Nat} {ls : Array Slot} {rest : List Value} {D : va_G} {cl : List vw_C} {cA : Nat → ClassId} {A : Nat → Prop} {tys : List (ClassId × FieldType)} {H0 : Heap}
variable {tk : Nat → Nat → Nat × Nat} {lay : Nat → Nat × Nat} {b n : Nat} {S : fw_S}
theorem fw_copy (hexec : p.tables.exec = Jvm.exec) (hb : c.code = cc) (hml : c.maxLocals = ls.size) {own : String} {index : Nat} (hown : s.vm.findClass own = some m.cls) (hlink : (Cond.methodLink own index arraycopyName).before args s = true) (hnat : (Cond.native arraycopyName).before args s = true) (hstat : (Cond.static arraycopyName).before args s = true) (hini : (Cond.initialized "java/lang/System").before args s = true)
    (hK : va_K D cl tys s) (hP : fw_P D cl cA lay b n (fw_v tk lay b S) H) (hS : va_S A H0 H locs) {o1 o2 kd len : Nat} (hA : A (b + o2)) (h1 : o1 < n ∧ lay o1 = (kd, len)) (h2 : o2 < n ∧ lay o2 = (kd, len)) (h9 : ¬ kd < 100) (t0 : Nat) (hty : tys[t0]? = some (cA kd, .int)) (ht : ∀ j, tk kd j = (0, 0)) {N : Int32} (hN : N.toNatClampNeg = len) (hN0 : ¬ N < 0)
    (hframes : 1 ≤ R.frames) (hlocals : (rest.map fun v => v.category).sum + (nativeFrameWords "java/lang/System" "arraycopy" 5 + 11) ≤ R.locals) (hdg : decode cc pc = .ok (.invokestatic index, 3))
    (kk : ∀ (H1 : Heap) (locs1 : List Loc), fw_P D cl cA lay b n (fw_v tk lay b (fw_cp S o1 o2 len)) H1 → va_S A H0 H1 locs1 → W p l e R s m args below meth c H1 locs1 cells slots Q (F0 m (pc + 3) ls rest)) : W p l e R s m args below meth c H locs cells slots Q (F0 m pc ls (.int N :: .int 0 :: .ref (b + o2) :: .int 0 :: .ref (b + o1) :: rest)) := by
  have hNi : N.toInt = (len : Int) := by
    have hz0 : (0 : Int) ≤ N.toInt := by
      have := Int32.not_lt.mp hN0
      simpa using Int32.le_iff_toInt_le.mp this
    have : N.toInt.toNat = len := hN
    omega
  intro T hT X
  have hc0 : H[b + o1]? = some (arrV (cA kd) len (fun j => .int (S.1 o1 j))) := by rw [← fw_vI (b := b) (S := S) h1.2 ht]; exact hP.arr h1 h9
  have hc1 : H[b + o2]? = some (arrV (cA kd) len (fun j => .int (S.1 o2 j))) := by rw [← fw_vI (b := b) (S := S) h2.2 ht]; exact hP.arr h2 h9
  obtain ⟨-, k0, hk0, cm0, hkk0⟩ := (hK.2 t0 _ hty).1 len (fun j => .int (S.1 o1 j))
  have hz : ¬ (0 : Int32) < 0 := by decide
  have h00 : (0 : Int32).toNatClampNeg = 0 := rfl
  obtain ⟨vm', X', step⟩ := X.arraycopy hexec hown hlink hnat hstat hini (src := b + o1) (dst := b + o2) (cs := arrV (cA kd) len (fun j => .int (S.1 o1 j))) (cd := arrV (cA kd) len (fun j => .int (S.1 o2 j))) (srcPos := 0) (destPos := 0) (n := N) (by rw [hT]; exact hc0) (by rw [hT]; exact hc1)
    (fun _ h => by cases h) (fun _ h => by cases h) (fun h => by cases h) (fun h => by cases h) hk0 hk0 hkk0 hkk0 (by simp [refKind]) hz hz hN0
    (by rw [hNi, arrV_size]; show ¬ (0 : Int) + _ > _; omega)
    (by rw [hNi, arrV_size]; show ¬ (0 : Int) + _ > _; omega)
    (fun vm₁ _ i hi => by
      have e : (arrV (cA kd) len (fun j => Value.int (S.1 o1 j))).slots.getD ((0 : Int32).toNatClampNeg + i) .null = .int (S.1 o1 i) := by
        rw [Array.getD_eq_getD_getElem?, h00, Nat.zero_add, arrV_read _ _ (by omega)]
        rfl
      refine ⟨?_, ?_⟩
      · rw [e]
        rfl
      · rw [e]
        exact trivial)
    (g := F0 m pc ls (.int N :: .int 0 :: .ref (b + o2) :: .int 0 :: .ref (b + o1) :: rest)) rfl (by rw [hml]) (rest := rest) rfl (by rw [hb]; exact hdg) hframes (by show 2 * 0 + _ + _ ≤ _; omega)
  have e1 : copied (arrV (cA kd) len (fun j => Value.int (S.1 o1 j))) (arrV (cA kd) len (fun j => Value.int (S.1 o2 j))) 0 0 N = arrV (cA kd) len (fun j => .int (va_cpy (S.1 o1) (S.1 o2) 0 0 len j)) := by
    show (arrV (cA kd) len (fun j => Value.int (S.1 o2 j))).storeRun (0 : Int32).toNatClampNeg ((arrV (cA kd) len (fun j => Value.int (S.1 o1 j))).stretch (0 : Int32).toNatClampNeg N.toNatClampNeg) = _
    rw [h00, hN]
    exact va_copied (fun z => Value.int z) (cA kd) (cA kd) (S.1 o1) (S.1 o2) (by omega)
  rw [e1] at X' step
  have hl : b + o2 < H.size := (Array.getElem?_eq_some_iff.mp hc1).1
  have oq : ∀ q : Nat, q ≠ b + o2 → (H.setIfInBounds (b + o2) (arrV (cA kd) len (fun j => .int (va_cpy (S.1 o1) (S.1 o2) 0 0 len j))))[q]? = H[q]? := fun q hq => by simp [Array.getElem?_setIfInBounds, Ne.symm hq]
  have hheap : ((T.setVm vm').setCell (b + o2) (arrV (cA kd) len (fun j => .int (va_cpy (S.1 o1) (S.1 o2) 0 0 len j)))).heap = H.setIfInBounds (b + o2) (arrV (cA kd) len (fun j => .int (va_cpy (S.1 o1) (S.1 o2) 0 0 len j))) := by rw [← hT]; rfl
  have hP1 : fw_P D cl cA lay b n (fw_v tk lay b (fw_cp S o1 o2 len)) (H.setIfInBounds (b + o2) (arrV (cA kd) len (fun j => .int (va_cpy (S.1 o1) (S.1 o2) 0 0 len j)))) := by
    intro x hx
    by_cases ex : x = o2
    · subst ex
      unfold fw_at
      rw [h2.2, if_neg (show ¬ ((kd, len) : Nat × Nat).1 < 100 from h9), fw_vI h2.2 ht]
      simp only [Array.getElem?_setIfInBounds, hl, if_true]
      congr 1
      unfold arrV
      congr 1
      congr 1
      funext j
      have hj := j.isLt
      simp only [va_cpy, fw_cp, Nat.zero_le, true_and, Nat.zero_add, Nat.sub_zero]
    · have h3 : fw_v tk lay b (fw_cp S o1 o2 len) x = fw_v tk lay b S x := by
        funext j
        simp only [fw_v, fw_val, fw_cp, ex, false_and, if_false]
      rw [h3]
      exact (hP x hx).kept (oq _ (by omega))
  obtain ⟨t, a1, b1⟩ := kk _ _ hP1 ⟨by simp; exact hS.1, fun q g1 g2 => by
      rw [oq q (fun e => g2 (by rw [e]; exact hA))]
      exact hS.2.1 q g1 g2, fun q hq => by
      rcases List.mem_append.mp hq with h | h
      · exact hS.2.2 q h
      · obtain ⟨z, -, hz⟩ := List.mem_map.mp h
        rw [← hz]
        exact hA⟩ _ hheap X'
  exact ⟨t, step t a1, b1⟩
end FWCP
