/-! MAKING THE WORLD: cells one behind the other from b0 on, in the order in which they are made -/
def kW (b0 : Nat) (es : List va_E) : va_W := (List.range es.length).map (fun i => (b0 + i, es.getD i (.inr (0, []))))
def kA (b0 : Nat) : Nat → Prop := fun q => b0 ≤ q
theorem kW_at {b0 i : Nat} {es : List va_E} {e : va_E} (h : es[i]? = some e) : (kW b0 es)[i]? = some (b0 + i, e) := by
  have hl := (List.getElem?_eq_some_iff.mp h).1
  unfold kW
  rw [List.getElem?_map, List.getElem?_range hl]
  simp [h]
theorem kW_of {b0 i : Nat} {es : List va_E} {q : Nat × va_E} (h : (kW b0 es)[i]? = some q) : es[i]? = some q.2 ∧ q.1 = b0 + i := by
  have hl : i < es.length := by
    have := (List.getElem?_eq_some_iff.mp h).1
    simpa [kW] using this
  have h2 : es[i]? = some es[i] := List.getElem?_eq_getElem hl
  rw [kW_at h2] at h
  cases h
  exact ⟨h2, rfl⟩
theorem kW_len {b0 : Nat} {es : List va_E} : (kW b0 es).length = es.length := by simp [kW]
theorem kW_D {b0 : Nat} {es : List va_E} : va_D (kA b0) (kW b0 es) := by
  refine ⟨fun i j p q hp hq h => ?_, fun k q hq => ?_⟩
  · have := (kW_of hp).2
    have := (kW_of hq).2
    omega
  · show b0 ≤ q.1
    have := (kW_of hq).2
    omega
theorem kW_set {b0 i : Nat} {es : List va_E} {e : va_E} (hi : i < es.length) : (kW b0 es).set i (b0 + i, e) = kW b0 (es.set i e) := by
  apply List.ext_getElem?
  intro j
  rw [List.getElem?_set, kW_len]
  by_cases h : i = j
  · subst h
    rw [if_pos rfl, if_pos hi, kW_at (List.getElem?_set_self hi)]
  · rw [if_neg h]
    by_cases h2 : j < es.length
    · have h3 : es[j]? = some es[j] := List.getElem?_eq_getElem h2
      rw [kW_at h3, kW_at (by rw [List.getElem?_set_ne h]; exact h3)]
    · rw [List.getElem?_eq_none (by rw [kW_len]; omega), List.getElem?_eq_none (by rw [kW_len, List.length_set]; omega)]
theorem kW_app {b0 : Nat} {es : List va_E} {e : va_E} : kW b0 (es ++ [e]) = kW b0 es ++ [(b0 + es.length, e)] := by
  apply List.ext_getElem?
  intro j
  by_cases h : j < es.length
  · have h3 : es[j]? = some es[j] := List.getElem?_eq_getElem h
    rw [List.getElem?_append_left (by rw [kW_len]; exact h), kW_at h3, kW_at (by rw [List.getElem?_append_left h]; exact h3)]
  · rw [List.getElem?_append_right (by rw [kW_len]; omega), kW_len]
    by_cases h2 : j = es.length
    · subst h2
      rw [Nat.sub_self, kW_at (e := e) (by rw [List.getElem?_append_right (Nat.le_refl _), Nat.sub_self]; rfl)]
      rfl
    · rw [List.getElem?_eq_none (by rw [kW_len, List.length_append]; simp; omega), List.getElem?_eq_none (by simp; omega)]
theorem kP_app {D : va_G} {b0 : Nat} {es : List va_E} {e : va_E} {H H1 : Heap} (h : va_P D vwCl (kW b0 es) H) (hz : H.size = b0 + es.length) (ho : ∀ q, q < H.size → H1[q]? = H[q]?) (he : va_at D vwCl (b0 + es.length, e) H1) : va_P D vwCl (kW b0 (es ++ [e])) H1 := by
  rw [kW_app]
  refine (h.kept (fun k x hx => ho x.1 ((h k x hx).lt))).app (fun k x hx => ?_)
  have hk : k < 1 := (List.getElem?_eq_some_iff.mp hx).1
  rw [show k = 0 by omega] at hx
  cases hx
  exact he
theorem kP_set {D : va_G} {b0 i : Nat} {es : List va_E} {e0 e : va_E} {H H1 : Heap} (h : va_P D vwCl (kW b0 es) H) (hi : es[i]? = some e0) (he : va_at D vwCl (b0 + i, e) H1) (oq : ∀ q : Nat, q ≠ b0 + i → H1[q]? = H[q]?) : va_P D vwCl (kW b0 (es.set i e)) H1 := by
  rw [← kW_set (List.getElem?_eq_some_iff.mp hi).1]
  exact h.set kW_D (kW_at hi) he oq
def kAO (ty : FieldType) (U : State) : Prop := (Cond.arrayOver (.array ty)).before #[] U = true
theorem kAO.moved {ty : FieldType} {u U : State} (hvm : u.vm.Alike U.vm) (h : kAO ty u) : kAO ty U := by
  obtain ⟨comp, c, k, h1, h2, h3, h4, h5⟩ := arrayOverA_spec h
  obtain ⟨k', hk', he⟩ := hvm.2.2 _ _ h3
  have e : ∀ vm : Vm, (vm.bare.classes.findIdx? fun (x : Class) => match x.kind with | .array component _ => component == comp | _ => false) = (vm.classes.findIdx? fun (x : Class) => match x.kind with | .array component _ => component == comp | _ => false) := fun vm => by
    simp only [Vm.bare, Array.findIdx?_map]
    rfl
  have hi : (U.vm.classes.findIdx? fun (x : Class) => match x.kind with | .array component _ => component == comp | _ => false) = some c := by
    have e1 := e U.vm
    have e2 := e u.vm
    have e3 : U.vm.bare = u.vm.bare := by first | exact hvm.bare_eq | exact hvm.bare_eq.symm
    rw [e3] at e1
    exact e1.symm.trans (e2.trans h2)
  have hkind : k'.kind = .array comp (.array ty) := by rw [he]; exact h4
  have f1 : U.vm.findClass (FieldType.array ty).toString = some comp := by rw [hvm.findClass]; exact h1
  have f2 : U.vm.findClass ("[" ++ (FieldType.array ty).toString) = some c := by rw [hvm.findClass]; exact h5
  unfold kAO Cond.before Cond.holds
  simp only [Cond.value]
  rw [f1, Option.bind_some]
  refine (congrArg (fun o : Option Nat => (o.bind (fun c => (U.vm.classes[c]?).map fun (k : Class) => match k.kind with | .array _ ty9 => decide (ty9 = FieldType.array ty) && decide (U.vm.findClass ("[" ++ (FieldType.array ty).toString) = some c) | _ => false) == some true)) hi).trans ?_
  simp [hk', hkind, f2]
/-- the machine's part that constructors need beside the classes -/
def kNs (U : State) : Prop := va_Nw (.methodLinkNest RX6 18 yX5_init RX6) U ∧ va_Nw (.methodLinkNest RX6 25 yX4_init RX6) U ∧ va_Nw (.methodLinkNest RX6 32 yX2_init RX6) U ∧ va_Nw (.methodLinkNest RX6 39 yX1_init RX6) U ∧ va_Nw (.methodLinkNest RX3 25 yX1_init RX6) U ∧ va_AO RX1 U ∧ kAO .int U
theorem kNs.moved {s U : State} (hW : s.WarmedH U.vm) (h : kNs s) : kNs U := ⟨h.1.warmM hW, h.2.1.warmM hW, h.2.2.1.warmM hW, h.2.2.2.1.warmM hW, h.2.2.2.2.1.warmM hW, h.2.2.2.2.2.1.moved hW.alike, h.2.2.2.2.2.2.moved hW.alike⟩
theorem kNs.same {u U : State} (e : u.vm = U.vm) (h : kNs u) : kNs U := ⟨h.1.same rfl e, h.2.1.same rfl e, h.2.2.1.same rfl e, h.2.2.2.1.same rfl e, h.2.2.2.2.1.same rfl e, h.2.2.2.2.2.1.moved (e ▸ Vm.Alike.refl _), h.2.2.2.2.2.2.moved (e ▸ Vm.Alike.refl _)⟩
def kG (D : va_G) (b0 : Nat) (H0 : Heap) (es : List va_E) (H : Heap) (locs : List Loc) : Prop := H.size = b0 + es.length ∧ va_P D vwCl (kW b0 es) H ∧ va_S (kA b0) H0 H locs
def kK (D : va_G) (tc : Nat → ClassId) (b0 : Nat) (H0 : Heap) (s : State) : Prop := va_K D vwCl (gT tc) s ∧ kNs s ∧ b0 ≤ H0.size
def kPc (D : va_G) (tc : Nat → ClassId) (b0 : Nat) (es : List va_E) : State → Prop := fun U => U.heap.size = b0 + es.length ∧ va_P D vwCl (kW b0 es) U.heap ∧ va_K D vwCl (gT tc) U ∧ kNs U
def kQv (D : va_G) (b0 : Nat) (es : List va_E) : Array Value → State → Outcome → State → Prop := fun _ st oc t => oc = .returned none ∧ t.heap.size = b0 + es.length ∧ va_P D vwCl (kW b0 es) t.heap ∧ va_F (kA b0) st t
section KROW
variable {p : Program} {l : Launch} {e : Env} {R : Room} {s : State} {m : MethodId} {args : Array Value} {below : List Frame} {meth : Method} {c : Code} {H : Heap} {locs : List Loc} {cells slots : Nat} {Q : State → Prop}
variable {cc : ByteArray} {pc : Nat} {ls : Array Slot} {rest st0 : List Value} {D : va_G} {tc : Nat → ClassId} {b0 : Nat} {H0 : Heap} {es : List va_E} {a : Array Value}
theorem k_get (hx : p.tables.exec = Jvm.exec) (hb : c.code = cc) {own ref C : String} {T : u_T} {N ci index : Nat} {Ts : List Cond} (hts : ∀ w ∈ Ts, w.before args s = true) (hin : ∀ w ∈ u_ws C T N, w ∈ Ts) (hown : s.vm.findClass own = some m.cls) (hK : kK D tc b0 H0 s) (hG : kG D b0 H0 es H locs) (i : Nat) {fs : List Value} (he : es[i]? = some (.inr (ci, fs))) (hc : vwCl[ci]? = some (C, T, N)) (k : Nat) (hk : k < N)
    (hlink : (Cond.fieldLink own index ref (T k).2.1 (T k).2.2.1).before args s = true) (hsame : ∀ x, s.fieldFound? (T k).1 (T k).2.1 (T k).2.2.1 = some x → s.fieldFound? ref (T k).2.1 (T k).2.2.1 = some x) {v : Value} (hv : fs[k]? = some v) (hdg : decode cc pc = .ok (.getfield index, 3))
    (kk : W p l e R s m args below meth c H locs cells slots Q (F0 m (pc + 3) ls (v :: rest))) : W p l e R s m args below meth c H locs cells slots Q (F0 m pc ls (.ref (b0 + i) :: rest)) :=
  va_get hx hb hts hin hown hK.1 hG.2.1 i (kW_at he) hc k hk hlink hsame hv hdg kk
theorem k_putF (hx : p.tables.exec = Jvm.exec) (hb : c.code = cc) {own ref C : String} {T : u_T} {N ci index : Nat} {Ts : List Cond} (hts : ∀ w ∈ Ts, w.before args s = true) (hin : ∀ w ∈ u_ws C T N, w ∈ Ts) (ty0 : Nat → FieldType) (hty : ∀ k, k < N → parseFieldDescriptor (T k).2.2.1 = some (ty0 k)) (hnm : ∀ a, a < N → ∀ b, b < N → a ≠ b → (T a).2.1 ≠ (T b).2.1) (hown : s.vm.findClass own = some m.cls) (hK : kK D tc b0 H0 s) (hG : kG D b0 H0 es H locs) (i : Nat) {fs : List Value} (he : es[i]? = some (.inr (ci, fs))) (hc : vwCl[ci]? = some (C, T, N)) (k : Nat) (hk : k < N)
    (hlink : (Cond.fieldLink own index ref (T k).2.1 (T k).2.2.1).before args s = true) (hsame : ∀ x, s.fieldFound? (T k).1 (T k).2.1 (T k).2.2.1 = some x → s.fieldFound? ref (T k).2.1 (T k).2.2.1 = some x) (hfin : (T k).2.2.2 = true) (hin2 : meth.name = "<init>") (hdecl : (T k).1 = own) {ty : FieldType} {v : Value} (hd : parseFieldDescriptor (T k).2.2.1 = some ty) (hn : narrow ty v = v) (hfit : fits ty v = true) (hl : k < fs.length)
    (hdg : decode cc pc = .ok (.putfield index, 3)) (kk : ∀ (H1 : Heap) (locs1 : List Loc), kG D b0 H0 (es.set i (.inr (ci, fs.set k v))) H1 locs1 → W p l e R s m args below meth c H1 locs1 cells slots Q (F0 m (pc + 3) ls rest)) : W p l e R s m args below meth c H locs cells slots Q (F0 m pc ls (v :: .ref (b0 + i) :: rest)) := by
  have hap := va_apart (own := own) hts hin ty0 hty hnm hK.1 hc
  obtain ⟨r, h1, cell, q1, q2, q3, q4⟩ := hG.2.1 i _ (kW_at he)
  have hr : r = (C, T, N) := Option.some.inj (h1.symm.trans hc)
  subst hr
  obtain ⟨hS, hfc, kC, hkC, hkind⟩ := hK.1.1 ci _ hc
  obtain ⟨cf, kf, fi, f, hi, hsl⟩ := hS k hk
  have hlay := hts _ (hin _ (u_in_lay hk))
  unfold u_lay at hlay
  rw [if_pos hfin] at hlay
  have hst := (u_facts hfc hkC (u_lays hts hin hk) hi).1
  have hcf : m.cls = cf := by
    obtain ⟨_, _, c', _, _, _, -, -, hf', -, -, -, hown2, -⟩ := Cond.laysFinal_spec hlay
    have e1 : c' = cf := by have := hi.symm.trans hf'; simp at this; exact this.1.symm
    rw [hdecl] at hown2
    rw [← e1]; exact Option.some.inj (hown.symm.trans hown2)
  have h6 := u_fits hfc hkC hkind (Or.inr hlay) hi hd hn hfit
  refine W.putFinK hx hb hown hlink (hsame _ hi) hst hcf hin2 (by rw [q2]; exact h6) q1 q3 (by rw [hsl]; exact k2_hasslot (q4 k hk)) rfl rfl hdg fun H' e1 e2 e3 => ?_
  rw [hsl] at e1 ⊢
  exact kk H' _ ⟨by rw [e2, List.length_set]; exact hG.1, kP_set hG.2.1 he ⟨_, hc, t_OB.to (V := updV (vp_V fs) k v) ⟨_, e1, q2, q3, t_set q4 hap hk v⟩ (fun j _ => vp_updV_set hl v j)⟩ e3, hG.2.2.put e2 e3 (Nat.le_add_right _ _)⟩
theorem k_put (hx : p.tables.exec = Jvm.exec) (hb : c.code = cc) {own ref C : String} {T : u_T} {N ci index : Nat} {Ts : List Cond} (hts : ∀ w ∈ Ts, w.before args s = true) (hin : ∀ w ∈ u_ws C T N, w ∈ Ts) (ty0 : Nat → FieldType) (hty : ∀ k, k < N → parseFieldDescriptor (T k).2.2.1 = some (ty0 k)) (hnm : ∀ a, a < N → ∀ b, b < N → a ≠ b → (T a).2.1 ≠ (T b).2.1) (hown : s.vm.findClass own = some m.cls) (hK : kK D tc b0 H0 s) (hG : kG D b0 H0 es H locs) (i : Nat) {fs : List Value} (he : es[i]? = some (.inr (ci, fs))) (hc : vwCl[ci]? = some (C, T, N)) (k : Nat) (hk : k < N)
    (hlink : (Cond.fieldLink own index ref (T k).2.1 (T k).2.2.1).before args s = true) (hsame : ∀ x, s.fieldFound? (T k).1 (T k).2.1 (T k).2.2.1 = some x → s.fieldFound? ref (T k).2.1 (T k).2.2.1 = some x) (hfin : (T k).2.2.2 = false) {ty : FieldType} {v : Value} (hd : parseFieldDescriptor (T k).2.2.1 = some ty) (hn : narrow ty v = v) (hfit : fits ty v = true) (hl : k < fs.length)
    (hdg : decode cc pc = .ok (.putfield index, 3)) (kk : ∀ (H1 : Heap) (locs1 : List Loc), kG D b0 H0 (es.set i (.inr (ci, fs.set k v))) H1 locs1 → W p l e R s m args below meth c H1 locs1 cells slots Q (F0 m (pc + 3) ls rest)) : W p l e R s m args below meth c H locs cells slots Q (F0 m pc ls (v :: .ref (b0 + i) :: rest)) := by
  have hap := va_apart (own := own) hts hin ty0 hty hnm hK.1 hc
  obtain ⟨r, h1, cell, q1, q2, q3, q4⟩ := hG.2.1 i _ (kW_at he)
  have hr : r = (C, T, N) := Option.some.inj (h1.symm.trans hc)
  subst hr
  obtain ⟨hS, hfc, kC, hkC, hkind⟩ := hK.1.1 ci _ hc
  obtain ⟨cf, kf, fi, f, hi, hsl⟩ := hS k hk
  have hlay := hts _ (hin _ (u_in_lay hk))
  unfold u_lay at hlay
  rw [if_neg (by rw [hfin]; decide)] at hlay
  have hst := (u_facts hfc hkC (u_lays hts hin hk) hi).1
  have h6 := u_store hfc hkC hkind hlay hi hd hn hfit
  refine W.putK hx hb (f := f) ⟨hown, hlink, ⟨_, _, _, hsame _ hi⟩, hst⟩ (by rw [q2]; exact h6) q1 q3 (by rw [hsl]; exact k2_hasslot (q4 k hk)) rfl rfl hdg fun H' e1 e2 e3 => ?_
  rw [hsl] at e1 ⊢
  exact kk H' _ ⟨by rw [e2, List.length_set]; exact hG.1, kP_set hG.2.1 he ⟨_, hc, t_OB.to (V := updV (vp_V fs) k v) ⟨_, e1, q2, q3, t_set q4 hap hk v⟩ (fun j _ => vp_updV_set hl v j)⟩ e3, hG.2.2.put e2 e3 (Nat.le_add_right _ _)⟩
theorem k_iast (hx : p.tables.exec = Jvm.exec) (hb : c.code = cc) (hK : kK D tc b0 H0 s) (hG : kG D b0 H0 es H locs) (i : Nat) {n : Nat} {f : Nat → Int32} (he : es[i]? = some (.inl (tc 0, n, .inl f))) (j : Nat) {z x : Int32} (hz : z = nI j) (hj : j < n) (hn : n < 2 ^ 31) (hdg : decode cc pc = .ok (.iastore, 1))
    (kk : ∀ (H1 : Heap) (locs1 : List Loc), kG D b0 H0 (es.set i (.inl (tc 0, n, .inl (upd f j x)))) H1 locs1 → W p l e R s m args below meth c H1 locs1 cells slots Q (F0 m (pc + 1) ls rest)) : W p l e R s m args below meth c H locs cells slots Q (F0 m pc ls (.int x :: .int z :: .ref (b0 + i) :: rest)) := by
  subst hz
  have hc : (nI j).toNatClampNeg = j := nI_clamp (by omega)
  have hin := vp_in_nI hj hn
  have hcell : va_at D vwCl (b0 + i, .inl (tc 0, n, .inl f)) H := hG.2.1 i _ (kW_at he)
  refine W.iast hx hb hcell ((hK.1.2 0 _ rfl).1 n (fun j => .int (f j))) (fun q => by cases q) (by show ¬ (_ ∨ (arrV _ _ _).slots.size ≤ _); rw [arrV_size]; exact hin) rfl rfl hdg fun H1 e1 z1 oq => ?_
  refine kk H1 _ ⟨by rw [z1, List.length_set]; exact hG.1, kP_set hG.2.1 he ?_ oq, hG.2.2.put z1 oq (Nat.le_add_right _ _)⟩
  show H1[b0 + i]? = some (vp_cell _ _)
  rw [e1, hc]
  rw [vp_cell_i, vp_cell_i, arrV_store]
  congr 2
  funext q
  by_cases hq : q = j
  · subst hq
    simp [updV, upd]
  · simp [updV, upd, hq]
theorem k_newO (hx : p.tables.exec = Jvm.exec) (hb : c.code = cc) {own C : String} {T : u_T} {N ci index : Nat} {Ts : List Cond} (hts : ∀ w ∈ Ts, w.before args s = true) (hin : ∀ w ∈ u_ws C T N, w ∈ Ts) (ty : Nat → FieldType) (hty : ∀ k, k < N → parseFieldDescriptor (T k).2.2.1 = some (ty k)) (hown : s.vm.findClass own = some m.cls) (hcl : (Cond.classLink own index C).before args s = true) (hinst : (Cond.instantiable C N).before args s = true) (hini : (Cond.initialized C).before args s = true)
    (hK : kK D tc b0 H0 s) (hG : kG D b0 H0 es H locs) (hc : vwCl[ci]? = some (C, T, N)) {fs : List Value} (hfs : ∀ j, j < N → defaultValue (ty j) = vp_V fs j) (hcells : cells + 1 ≤ R.cells) (hslots : slots + N ≤ R.slots) (hdg : decode cc pc = .ok (.new index, 3))
    (kk : ∀ H1 : Heap, kG D b0 H0 (es ++ [.inr (ci, fs)]) H1 locs → W p l e R s m args below meth c H1 locs (cells + 1) (slots + N) Q (F0 m (pc + 3) ls (.ref (b0 + es.length) :: rest))) : W p l e R s m args below meth c H locs cells slots Q (F0 m pc ls rest) := by
  have hKn := hK.1.1 ci _ hc
  refine W.newcK hx hb hown hcl hinst hini rfl hdg hcells hslots hKn.2.1 hG.1 fun H1 kC hkC e1 z1 o1 => ?_
  refine kk H1 ⟨by rw [z1, List.length_append]; simp; omega, kP_app hG.2.1 hG.1 (by rw [hG.1]; exact o1) ⟨_, hc, (u_born ty hts hin hKn hkC e1 hty).to hfs⟩, ?_⟩
  exact ⟨Nat.le_trans hG.2.2.1 (by rw [hG.1, z1]; omega), fun x h1 h2 => (o1 x (by rw [← hG.1]; exact Nat.lt_of_lt_of_le h1 hG.2.2.1)).trans (hG.2.2.2.1 x h1 h2), hG.2.2.2.2⟩
theorem k_newA (hx : p.tables.exec = Jvm.exec) (hb : c.code = cc) {atype : ArrayType} (harr : (Cond.arrayClass (newarray.typeOf atype)).before args s = true) {ty : FieldType} (hty : newarray.typeOf atype = ty) (t0 : Nat) {cA : ClassId} (ht : (gT tc)[t0]? = some (cA, ty)) (hR : ∀ cB : ClassId, s.vm.findClass ("[" ++ ty.toString) = some cB → va_RA s cA ty → cB = cA) (hK : kK D tc b0 H0 s) (hG : kG D b0 H0 es H locs)
    {n : Int32} {N' : Nat} {a0 : vp_A} (ha : vp_cell cA a0 = arrV cA N' (fun _ => defaultValue ty)) (hn : n = nI N') (hN : N' < 100000) (hbytes : N' * componentBytes ty ≤ 536870912) (hcells : cells + 1 ≤ R.cells) (hslots : slots + N' ≤ R.slots) (hdg : decode cc pc = .ok (.newarray atype, 2))
    (kk : ∀ H1 : Heap, kG D b0 H0 (es ++ [.inl (cA, a0)]) H1 locs → W p l e R s m args below meth c H1 locs (cells + 1) (slots + N') Q (F0 m (pc + 2) ls (.ref (b0 + es.length) :: rest))) : W p l e R s m args below meth c H locs cells slots Q (F0 m pc ls (.int n :: rest)) := by
  subst hty
  subst hn
  refine va_newaK hx hb harr rfl hdg rfl (nI_pos (by omega)) (nI_clamp (by omega)) hbytes hcells hslots hG.1 fun H1 cB e1 z1 o1 hAr hNm => ?_
  obtain rfl := hR cB hNm (hK.1.2 t0 _ ht).2
  refine kk H1 ⟨by rw [z1, List.length_append]; simp; omega, kP_app hG.2.1 hG.1 (by rw [hG.1]; exact o1) ?_, ?_⟩
  · show H1[b0 + es.length]? = some (vp_cell _ _)
    rw [ha]
    exact e1
  · exact ⟨Nat.le_trans hG.2.2.1 (by rw [hG.1, z1]; omega), fun x h1 h2 => (o1 x (by rw [← hG.1]; exact Nat.lt_of_lt_of_le h1 hG.2.2.1)).trans (hG.2.2.2.1 x h1 h2), hG.2.2.2.2⟩
theorem k_newQ (hx : p.tables.exec = Jvm.exec) (hb : c.code = cc) {own C : String} {index : Nat} (hown : s.vm.findClass own = some m.cls) (hclink : (Cond.classLink own index C).before args s = true) (hover : (Cond.arrayOver (.object C)).before args s = true) (t0 : Nat) {cA : ClassId} (ht : (gT tc)[t0]? = some (cA, .object C)) (hK : kK D tc b0 H0 s) (hG : kG D b0 H0 es H locs)
    {n : Int32} {N' : Nat} (hn : n = nI N') (hN : N' < 100000) (hcells : cells + 1 ≤ R.cells) (hslots : slots + N' ≤ R.slots) (hdg : decode cc pc = .ok (.anewarray index, 3))
    (kk : ∀ H1 : Heap, kG D b0 H0 (es ++ [.inl (cA, N', .inr (.inr (.inr (.inr (fun _ => none)))))]) H1 locs → W p l e R s m args below meth c H1 locs (cells + 1) (slots + N') Q (F0 m (pc + 3) ls (.ref (b0 + es.length) :: rest))) : W p l e R s m args below meth c H locs cells slots Q (F0 m pc ls (.int n :: rest)) := by
  subst hn
  have hcl : (nI N').toNatClampNeg = N' := nI_clamp (by omega)
  refine W.anew hx hb hown hclink hover rfl hdg rfl (nI_pos (by omega)) (by rw [hcl]; omega) hcells (by rw [hcl]; exact hslots) fun cB kA comp f1 f2 f3 f4 => ?_
  obtain ⟨kA9, comp9, g1, g2, g3, g4⟩ := (hK.1.2 t0 _ ht).2
  obtain rfl : cB = cA := Option.some.inj (f1.symm.trans g4)
  rw [hcl]
  generalize hH1 : H.push ({ cls := cB, slots := Array.replicate N' .null, vm := .none } : Cell) = H1
  have z1 : H1.size = H.size + 1 := by rw [← hH1, Array.size_push]
  have e1 : H1[H.size]? = some (arrV cB N' (fun _ => .null)) := by rw [← hH1, Array.getElem?_push_size, ← arrV_new]
  have o1 : ∀ q : Nat, q < H.size → H1[q]? = H[q]? := fun q hq => by rw [← hH1, Array.getElem?_push, if_neg (Nat.ne_of_lt hq)]
  rw [hG.1]
  refine kk H1 ⟨by rw [z1, hG.1, List.length_append]; simp; omega, kP_app hG.2.1 hG.1 o1 ?_, ?_⟩
  · show H1[b0 + es.length]? = some (vp_cell _ _)
    rw [vp_cell_q, ← hG.1]
    exact e1
  · exact ⟨Nat.le_trans hG.2.2.1 (by rw [z1]; omega), fun x h1 h2 => (o1 x (Nat.lt_of_lt_of_le h1 hG.2.2.1)).trans (hG.2.2.2.1 x h1 h2), hG.2.2.2.2⟩
theorem k_aast (hx : p.tables.exec = Jvm.exec) (hb : c.code = cc) (hK : kK D tc b0 H0 s) (hG : kG D b0 H0 es H locs) (i v t0 ci : Nat) {cA : ClassId} {r : vw_C} {n : Nat} {vs : List Value} {f : Nat → Option Nat} (he : es[i]? = some (.inl (cA, n, .inr (.inr (.inr (.inr f)))))) (ht : (gT tc)[t0]? = some (cA, .object r.1)) (hv : es[v]? = some (.inr (ci, vs))) (hc : vwCl[ci]? = some r) (j : Nat) {z : Int32} (hz : z = nI j) (hj : j < n) (hn : n < 2 ^ 31) (hdg : decode cc pc = .ok (.aastore, 1))
    (kk : ∀ (H1 : Heap) (locs1 : List Loc), kG D b0 H0 (es.set i (.inl (cA, n, .inr (.inr (.inr (.inr (va_up f j (some (b0 + v)))))))) ) H1 locs1 → W p l e R s m args below meth c H1 locs1 cells slots Q (F0 m (pc + 1) ls rest)) : W p l e R s m args below meth c H locs cells slots Q (F0 m pc ls (.ref (b0 + v) :: .int z :: .ref (b0 + i) :: rest)) := by
  subst hz
  have hcl : (nI j).toNatClampNeg = j := nI_clamp (by omega)
  have hcell : va_at D vwCl (b0 + i, .inl (cA, n, .inr (.inr (.inr (.inr f))))) H := hG.2.1 i _ (kW_at he)
  obtain ⟨r', hr', cellV, g1, g2, g3, -⟩ := hG.2.1 v _ (kW_at hv)
  have hcls := (hK.1.1 ci r hc).2
  obtain ⟨kA, comp, k1, k2, k3, -⟩ := (hK.1.2 t0 _ ht).2
  have hcomp : comp = D.1 ci := Option.some.inj (k3.symm.trans hcls.1)
  subst hcomp
  obtain ⟨kC, hkC, -⟩ := hcls.2
  refine W.aast hx hb hcell (fun q h => by cases h) (fun h => by cases h) k1 k2 rfl hkC ⟨nI_pos (by omega), by show _ < (arrV _ _ _).slots.size; rw [arrV_size, hcl]; exact hj⟩ g1 (fun q h => by rw [g3] at h; cases h) (by rw [g2]; exact hkC) (by rw [g2]; exact va_assign hcls) rfl rfl hdg fun H1 e1 z1 oq => ?_
  refine kk H1 _ ⟨by rw [z1, List.length_set]; exact hG.1, kP_set hG.2.1 he ?_ oq, hG.2.2.put z1 oq (Nat.le_add_right _ _)⟩
  show H1[b0 + i]? = some (vp_cell _ _)
  rw [e1, hcl]
  rw [vp_cell_q, vp_cell_q, arrV_store]
  congr 2
  funext q
  by_cases hq : q = j
  · subst hq
    simp [updV, va_up, va_rf]
  · simp [updV, va_up, hq]
theorem k_call {mc ms : Nat} {es1 : List va_E} (hr : va_Run p l e R s m args below meth c H locs cells slots mc ms (F0 m pc ls st0) rest (kQv D b0 es1 a) (kA b0)) (hK : kK D tc b0 H0 s) (hG : kG D b0 H0 es H locs)
    (kk : ∀ (H1 : Heap) (locs1 : List Loc), kG D b0 H0 es1 H1 locs1 → W p l e R s m args below meth c H1 locs1 (cells + mc) (slots + ms) Q (F0 m (pc + 3) ls rest)) : W p l e R s m args below meth c H locs cells slots Q (F0 m pc ls st0) := by
  intro T hT X
  obtain ⟨v, st₀, t, T', Lc, h0, X', hL, e1, e2, ⟨hv, hz, hb, hF⟩, st⟩ := hr T hT X
  cases hv
  obtain ⟨hz2, hk⟩ := hF
  rw [h0] at hz2 hk
  obtain ⟨t2, a1, b1⟩ := kk T'.heap (locs ++ Lc) ⟨by rw [e1]; exact hz, by rw [e1]; exact hb, Nat.le_trans hG.2.2.1 (by rw [e1]; exact hz2), fun q h1 h2 => by rw [e1, hk q (Nat.lt_of_lt_of_le h1 hG.2.2.1) h2]; exact hG.2.2.2.1 q h1 h2, fun q hq => by
    rcases List.mem_append.mp hq with h | h
    · exact hG.2.2.2.2 q h
    · exact hL q h⟩ T' rfl X'
  exact ⟨t2, st t2 a1, b1⟩
theorem k_fb {As : List Value} : FrameBlind (va_Pc As (kPc D tc b0 es)) := fun a U g mk q => by
  obtain ⟨q0, qz, qP, qK, q1⟩ := q
  exact ⟨q0, qz, qP, va_K.moved (u := U) (U := U.calling g mk a) (Vm.Alike.refl U.vm) qK, kNs.same (u := U) rfl q1⟩
theorem k_pS {As : List Value} (hK : kK D tc b0 H0 s) (hG : kG D b0 H0 es H locs) : PreS s H (va_Pc As (kPc D tc b0 es)) As :=
  ⟨k_fb, fun U hU hW => ⟨rfl, by rw [hU]; exact hG.1, by rw [hU]; exact hG.2.1, va_K.moved hW.alike hK.1, kNs.moved hW hK.2.1⟩⟩
theorem k_H {i n : Nat} {f : Nat → Int32} (hK : kK D tc b0 H0 s) (hG : kG D b0 H0 es H locs) (he : es[i]? = some (.inl (tc 0, n, .inl f))) {As : List Value} : PreS s H (va_Pc As (gH (b0 + i) (tc 0) n f)) As := by
  have h : va_at D vwCl (b0 + i, .inl (tc 0, n, .inl f)) H := hG.2.1 i _ (kW_at he)
  exact g_pH h (hK.1.2 0 _ rfl).1
theorem k_ret {mc ms : Nat} (hx : p.tables.exec = Jvm.exec) (hb : c.code = cc) (hr : meth.sig.returnType = none) (hlocks : meth.locks = false) (hG : kG D b0 s.heap es H locs) (hdg : decode cc pc = .ok (.return_, 1)) (h1 : cells ≤ mc) (h2 : slots ≤ ms) : W p l e R s m args below meth c H locs cells slots (MQ below (kQv D b0 es) args s mc ms (kA b0)) (F0 m pc ls []) :=
  W.widen h1 h2 (W.vret hx hb hr (fun t ht _ => ⟨rfl, by rw [ht]; exact hG.1, by rw [ht]; exact hG.2.1, hG.2.2.F ht⟩) hG.2.2.2.2 hdg hlocks)
end KROW
theorem k_of {l : Launch} {y : MethodName} {ws ws' : List Cond} {rm : Room} {cc : ByteArray} {maxL mc ms : Nat} {As : List Value} {D : va_G} {tc : Nat → ClassId} {b0 : Nat} {es : List va_E} {Qc : Array Value → State → Outcome → State → Prop} {free : Addr → Prop} (hy : plainName y.cls = true) (hn9 : y.name = "<init>") (hw : ws = Cond.code y cc maxL none :: ws') (hn : (lg_sl As).length ≤ maxL)
    (body : ∀ (p : Program) (e : Env) (s : State) (m : MethodId) (below : List Frame) (meth : Method) (c : Code), CallFix p m c cc maxL s As.toArray ws y.cls → meth.sig.returnType = none → meth.locks = false → meth.name = "<init>" → kK D tc b0 s.heap s → kG D b0 s.heap es s.heap [] → ∀ ls : Array Slot, lv_has ls maxL (lv_args 0 As) →
      W p l e (headSpec ws rm).room s m As.toArray below meth c s.heap [] 0 0 (MQ below Qc As.toArray s mc ms free) (F0 m 0 ls [])) : Met l y ws rm (va_Pc As (kPc D tc b0 es)) Qc mc ms free := by
  refine Met.ofW (cc := cc) (maxL := maxL) (ret := none) hy hw ?_
  intro p e s m args below meth c s₁ B hml hv
  obtain ⟨rfl, hz, hP, hK, hN⟩ := hv
  rw [lg_entry_eq]
  exact body p e s m below meth c ⟨B.exec, B.bytes, hml, findClass_of_methodNamed B.named, atoms_spec (ws := ws) B.pre⟩ B.returns B.notSynchronized ((name_of_methodNamed B.named B.method).1.trans hn9) ⟨hK, hN, by rw [hz]; exact Nat.le_add_right _ _⟩ ⟨hz, hP, va_S.rf⟩ _ (lv_entry As hn)
