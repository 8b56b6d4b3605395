/-! making: the block grows cell by cell; V what its cells hold, n how many there are -/
def fw_nw (V : Nat → Nat → Value) (n : Nat) (f : Nat → Value) : Nat → Nat → Value := fun x => if x = n then f else V x
def fw_Ac (b : Nat) : Nat → Prop := fun q => b ≤ q
theorem fw_P.push {D : va_G} {cl : List vw_C} {cA : Nat → ClassId} {lay : Nat → Nat × Nat} {b n : Nat} {V : Nat → Nat → Value} {H H1 : Heap} {f : Nat → Value} (hP : fw_P D cl cA lay b n V H) (hz : H.size = b + n) (o1 : ∀ q : Nat, q < b + n → H1[q]? = H[q]?) (h1 : fw_at D cl cA (lay n) f (b + n) H1) : fw_P D cl cA lay b (n + 1) (fw_nw V n f) H1 := by
  intro x hx
  unfold fw_nw
  by_cases e : x = n
  · subst e
    rw [if_pos rfl]
    exact h1
  · rw [if_neg e]
    exact (hP x (by omega)).kept (o1 _ (by omega))
section FWN
variable {p : Program} {l : Launch} {e : Env} {R : Room} {s : State} {m : MethodId} {args : Array Value} {below : List Frame} {meth : Method} {c : Code} {H : Heap} {locs : List Loc} {cells slots : Nat} {Q : State → Prop}
variable {cc : ByteArray} {pc : Nat} {ls : Array Slot} {rest : List Value} {D : va_G} {cl : List vw_C} {cA : Nat → ClassId} {A : Nat → Prop} {tys : List (ClassId × FieldType)} {H0 : Heap}
variable {lay : Nat → Nat × Nat} {b n : Nat} {V : Nat → Nat → Value}
variable {own C : String} {T : u_T} {N ci index len : Nat} {Ts : List Cond} {o : Nat}
theorem fw_grow {H1 : Heap} (hS : va_S A H0 H locs) (hz : H.size = b + n) (z1 : H1.size = b + n + 1) (o1 : ∀ q : Nat, q < b + n → H1[q]? = H[q]?) : va_S A H0 H1 locs :=
  ⟨Nat.le_trans hS.1 (by omega), fun x h1 h2 => (o1 x (by have := hS.1; omega)).trans (hS.2.1 x h1 h2), hS.2.2⟩
theorem fw_newO (hexec : p.tables.exec = Jvm.exec) (hb : c.code = cc) (hts : ∀ w ∈ Ts, w.before args s = true) (hin : ∀ w ∈ u_ws C T N, w ∈ Ts) (ty : Nat → FieldType) (hty : ∀ k, k < N → parseFieldDescriptor (T k).2.2.1 = some (ty k)) (hown : s.vm.findClass own = some m.cls) (hlink : (Cond.classLink own index C).before args s = true) (hinst : (Cond.instantiable C N).before args s = true) (hini : (Cond.initialized C).before args s = true)
    (hK : va_K D cl tys s) (hP : fw_P D cl cA lay b n V H) (hz : H.size = b + n) (hS : va_S A H0 H locs) (hc : lay n = (ci, len)) (h9 : ci < 100) (hcl : cl[ci]? = some (C, T, N)) (hcells : cells + 1 ≤ R.cells) (hslots : slots + N ≤ R.slots) (hdg : decode cc pc = .ok (.new index, 3))
    (kk : ∀ H1 : Heap, fw_P D cl cA lay b (n + 1) (fw_nw V n (fun k => defaultValue (ty k))) H1 → H1.size = b + (n + 1) → va_S A H0 H1 locs → W p l e R s m args below meth c H1 locs (cells + 1) (slots + N) Q (F0 m (pc + 3) ls (.ref (b + n) :: rest))) : W p l e R s m args below meth c H locs cells slots Q (F0 m pc ls rest) := by
  have hKn := hK.1 ci _ hcl
  refine W.newcK hexec hb hown hlink hinst hini rfl hdg hcells hslots hKn.2.1 hz fun H1 kC hkC e1 z1 o1 => ?_
  refine kk H1 (hP.push hz o1 ?_) (by omega) (fw_grow hS hz z1 o1)
  unfold fw_at
  rw [hc, if_pos (show ((ci, len) : Nat × Nat).1 < 100 from h9)]
  exact ⟨_, hcl, u_born ty hts hin hKn hkC e1 hty⟩
theorem fw_newA (hexec : p.tables.exec = Jvm.exec) (hb : c.code = cc) {atype : ArrayType} (harr : (Cond.arrayClass (newarray.typeOf atype)).before args s = true) {ty : FieldType} (hat : newarray.typeOf atype = ty) (hprim : ∀ C0, ty ≠ .object C0) (hK : va_K D cl tys s) (hP : fw_P D cl cA lay b n V H) (hz : H.size = b + n) (hS : va_S A H0 H locs) {kd : Nat} (hc : lay n = (kd, len)) (h9 : ¬ kd < 100) (t0 : Nat) (hty : tys[t0]? = some (cA kd, ty))
    {i : Int32} (hn : ¬ i < 0) (hN : i.toNatClampNeg = len) (hbytes : len * componentBytes ty ≤ 536870912) (hcells : cells + 1 ≤ R.cells) (hslots : slots + len ≤ R.slots) (hdg : decode cc pc = .ok (.newarray atype, 2))
    (kk : ∀ H1 : Heap, fw_P D cl cA lay b (n + 1) (fw_nw V n (fun _ => defaultValue ty)) H1 → H1.size = b + (n + 1) → va_S A H0 H1 locs → W p l e R s m args below meth c H1 locs (cells + 1) (slots + len) Q (F0 m (pc + 2) ls (.ref (b + n) :: rest))) : W p l e R s m args below meth c H locs cells slots Q (F0 m pc ls (.int i :: rest)) := by
  subst hat
  refine va_newaK hexec hb harr rfl hdg rfl hn hN hbytes hcells hslots hz fun H1 cA1 e1 z1 o1 hAr hNm => ?_
  have h2 : cA1 = cA kd := by
    have h3 := (hK.2 t0 _ hty).2
    have h4 : s.vm.findClass ("[" ++ (newarray.typeOf atype).toString) = some (cA kd) := by
      cases atype <;> exact h3
    exact Option.some.inj (hNm.symm.trans h4)
  subst h2
  refine kk H1 (hP.push hz o1 ?_) (by omega) (fw_grow hS hz z1 o1)
  unfold fw_at
  rw [hc, if_neg (show ¬ ((kd, len) : Nat × Nat).1 < 100 from h9)]
  exact e1
theorem fw_newQ (hexec : p.tables.exec = Jvm.exec) (hb : c.code = cc) {C0 : String} (hown : s.vm.findClass own = some m.cls) (hlink : (Cond.classLink own index C0).before args s = true) (hover : va_AO C0 s) (hK : va_K D cl tys s) (hP : fw_P D cl cA lay b n V H) (hz : H.size = b + n) (hS : va_S A H0 H locs) {kd : Nat} (hc : lay n = (kd, len)) (h9 : ¬ kd < 100) (t0 : Nat) (hty : tys[t0]? = some (cA kd, .object C0))
    {i : Int32} (hn : ¬ i < 0) (hN : i.toNatClampNeg = len) (hbytes : len * 4 ≤ 536870912) (hcells : cells + 1 ≤ R.cells) (hslots : slots + len ≤ R.slots) (hdg : decode cc pc = .ok (.anewarray index, 3))
    (kk : ∀ H1 : Heap, fw_P D cl cA lay b (n + 1) (fw_nw V n (fun _ => .null)) H1 → H1.size = b + (n + 1) → va_S A H0 H1 locs → W p l e R s m args below meth c H1 locs (cells + 1) (slots + len) Q (F0 m (pc + 3) ls (.ref (b + n) :: rest))) : W p l e R s m args below meth c H locs cells slots Q (F0 m pc ls (.int i :: rest)) := by
  subst hN
  refine W.anew hexec hb hown hlink (va_AO.use hover) rfl hdg rfl hn hbytes hcells hslots fun cA1 kA comp f1 f2 f3 f4 => ?_
  have h2 : cA1 = cA kd := by
    obtain ⟨kA', comp', g1, g2, g3, g4⟩ := (hK.2 t0 _ hty).2
    exact Option.some.inj (f1.symm.trans g4)
  subst h2
  generalize hH1 : H.push ({ cls := cA kd, slots := Array.replicate i.toNatClampNeg .null, vm := .none } : Cell) = H1
  have z1 : H1.size = b + n + 1 := by rw [← hH1, Array.size_push, hz]
  have e1 : H1[b + n]? = some (arrV (cA kd) i.toNatClampNeg (fun _ => .null)) := by rw [← hH1, ← hz, Array.getElem?_push_size, ← arrV_new]
  have o1 : ∀ q : Nat, q < b + n → H1[q]? = H[q]? := fun q hq => by rw [← hH1, Array.getElem?_push, if_neg (by omega)]
  rw [hz]
  refine kk H1 (hP.push hz o1 ?_) (by omega) (fw_grow hS hz z1 o1)
  unfold fw_at
  rw [hc, if_neg (show ¬ ((kd, i.toNatClampNeg) : Nat × Nat).1 < 100 from h9)]
  exact e1
theorem fw_putFV (hexec : p.tables.exec = Jvm.exec) (hb : c.code = cc) (hts : ∀ w ∈ Ts, w.before args s = true) (hin : ∀ w ∈ u_ws C T N, w ∈ Ts) (ty0 : Nat → FieldType) (hty : ∀ k, k < N → parseFieldDescriptor (T k).2.2.1 = some (ty0 k)) (hnm : ∀ a, a < N → ∀ b, b < N → a ≠ b → (T a).2.1 ≠ (T b).2.1) (hown : s.vm.findClass C = some m.cls) (hK : va_K D cl tys s) (hP : fw_P D cl cA lay b n V H) (hS0 : va_S A H0 H locs) (hA : A (b + o)) (ho : o < n ∧ lay o = (ci, len)) (h9 : ci < 100) (hcl : cl[ci]? = some (C, T, N)) (k : Nat) (hk : k < N)
    (hlink : (Cond.fieldLink C index (T k).1 (T k).2.1 (T k).2.2.1).before args s = true) (hfin : (T k).2.2.2 = true) (hini : meth.name = "<init>") (hdecl : (T k).1 = C) {ty : FieldType} {v : Value} (hd : parseFieldDescriptor (T k).2.2.1 = some ty) (hn : narrow ty v = v) (hfit : fits ty v = true) (hdg : decode cc pc = .ok (.putfield index, 3))
    (kk : ∀ (H1 : Heap) (locs1 : List Loc), fw_P D cl cA lay b n (fw_up V o k v) H1 → va_S A H0 H1 locs1 → H1.size = H.size → W p l e R s m args below meth c H1 locs1 cells slots Q (F0 m (pc + 3) ls rest)) : W p l e R s m args below meth c H locs cells slots Q (F0 m pc ls (v :: .ref (b + o) :: rest)) := by
  have hap := va_apart (own := C) hts hin ty0 hty hnm hK hcl
  obtain ⟨r, h1, cell, q1, q2, q3, q4⟩ := hP.obj ho h9
  have hr : r = (C, T, N) := Option.some.inj (h1.symm.trans hcl)
  subst hr
  obtain ⟨hS, hfc, kC, hkC, hkind⟩ := hK.1 ci _ hcl
  obtain ⟨cf, kf, fi, f, hi, hsl⟩ := hS k hk
  have hlay := hts _ (hin _ (u_in_lay hk))
  unfold u_lay at hlay
  rw [if_pos hfin] at hlay
  have hst := (u_facts hfc hkC (u_lays hts hin hk) hi).1
  have hcf : m.cls = cf := by
    obtain ⟨_, _, c', _, _, _, -, -, hf', -, -, -, hown2, -⟩ := Cond.laysFinal_spec hlay
    have e1 : c' = cf := by have := hi.symm.trans hf'; simp at this; exact this.1.symm
    rw [hdecl] at hown2
    rw [← e1]; exact Option.some.inj (hown.symm.trans hown2)
  have h6 := u_fits hfc hkC hkind (Or.inr hlay) hi hd hn hfit
  refine W.putFinK hexec hb hown hlink hi hst hcf hini (by rw [q2]; exact h6) q1 q3 (by rw [hsl]; exact k2_hasslot (q4 k hk)) rfl rfl hdg fun H' e1 e2 e3 => ?_
  rw [hsl] at e1 ⊢
  refine kk H' _ (hP.put ?_ e3) (hS0.put e2 e3 hA) e2
  unfold fw_at
  rw [ho.2, if_pos (show ((ci, len) : Nat × Nat).1 < 100 from h9)]
  exact ⟨_, hcl, _, e1, q2, q3, t_set q4 hap hk v⟩
theorem fw_aastV (hexec : p.tables.exec = Jvm.exec) (hb : c.code = cc) (hK : va_K D cl tys s) (hP : fw_P D cl cA lay b n V H) (hS0 : va_S A H0 H locs) (hA : A (b + o)) {kd : Nat} (ho : o < n ∧ lay o = (kd, len)) (h9 : ¬ kd < 100) (t0 : Nat) {r : vw_C} (hty : tys[t0]? = some (cA kd, .object r.1)) {o2 len2 : Nat} (ho2 : o2 < n ∧ lay o2 = (ci, len2)) (h92 : ci < 100) (hcl : cl[ci]? = some r) {i : Int32} (hi : vp_in i len) (hdg : decode cc pc = .ok (.aastore, 1))
    (kk : ∀ (H1 : Heap) (locs1 : List Loc), fw_P D cl cA lay b n (fw_up V o i.toNatClampNeg (.ref (b + o2))) H1 → va_S A H0 H1 locs1 → H1.size = H.size → W p l e R s m args below meth c H1 locs1 cells slots Q (F0 m (pc + 1) ls rest)) : W p l e R s m args below meth c H locs cells slots Q (F0 m pc ls (.ref (b + o2) :: .int i :: .ref (b + o) :: rest)) := by
  have hlt : i.toNatClampNeg < len := Nat.not_le.mp fun q => hi (Or.inr q)
  have h0 : ¬ i < 0 := fun q => hi (Or.inl q)
  obtain ⟨r', hr', cellV, g1, g2, g3, -⟩ := hP.obj ho2 h92
  have hcls := (hK.1 ci r hcl).2
  obtain ⟨kA, comp, k1, k2, k3, -⟩ := (hK.2 t0 _ hty).2
  have hcomp : comp = D.1 ci := Option.some.inj (k3.symm.trans hcls.1)
  subst hcomp
  obtain ⟨kC, hkC, -⟩ := hcls.2
  refine W.aast hexec hb (hP.arr ho h9) (fun q h => by cases h) (fun h => by cases h) k1 k2 rfl hkC ⟨h0, by show _ < (arrV _ _ _).slots.size; rw [arrV_size]; exact hlt⟩ g1 (fun q h => by rw [g3] at h; cases h) (by rw [g2]; exact hkC) (by rw [g2]; exact va_assign hcls) rfl rfl hdg fun H1 e1 z oq => ?_
  exact kk H1 _ (hP.put (fw_arrUp ho h9 e1) oq) (hS0.put z oq hA) z
end FWN
