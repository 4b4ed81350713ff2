/-! THE WORLD: 98 places, an address each; what a place holds is told by two tables, of ints and of longs -/
abbrev Mi : Type := Nat → Nat → Int32
abbrev Ml : Type := Nat → Nat → Int64
abbrev gRefs (n : ClassId) (k : Nat) (f : Nat → Nat) : va_E := .inl (n, k, .inr (.inr (.inr (.inr (fun j => some (f j))))))
/-- what stands at a place: 0 the system, 1 2 the disk, 3 4 the snapshots' row, 5 6 the records' row, 7 to 37 the ratings, 38 to 40 the reading, 41 + 3 q the ranking q (16: the system's own), 92 to 97 the reference -/
def gc (ad : Nat → Nat) (tc : Nat → ClassId) (k : Nat) (i : Nat → Int32) (l : Nat → Int64) : va_E :=
  if k = 0 then .inr (6, [.ref (ad 1), .ref (ad 3), .ref (ad 5), .ref (ad 7), .ref (ad 89), .ref (ad 38), .int (i 6), .int (i 7)])
  else if k = 1 then .inr (0, [.ref (ad 2), .int (i 1), .int (i 2)])
  else if k = 2 then .inl (tc 0, 172, .inl i)
  else if k = 3 then .inr (5, [.ref (ad 4)])
  else if k = 4 then .inl (tc 0, 26, .inl i)
  else if k = 5 then .inr (4, [.ref (ad 6)])
  else if k = 6 then .inl (tc 0, 3, .inl i)
  else if k = 7 then .inr (2, [.ref (ad 8), .ref (ad 9)])
  else if k = 8 then gRefs (tc 3) 12 (fun j => ad (10 + j))
  else if k = 9 then gRefs (tc 3) 16 (fun j => ad (22 + j))
  else if k < 38 then .inl (tc 0, 16, .inl i)
  else if k = 38 then .inr (3, [.ref (ad 39), .ref (ad 40), .int (i 2)])
  else if k = 39 then gRefs (tc 4) 16 (fun j => ad (41 + 3 * j))
  else if k = 40 then .inl (tc 1, 16, .inr (.inl l))
  else if k < 92 then
    (if k % 3 = 2 then .inr (1, [.ref (ad (k + 1)), .ref (ad (k + 2)), .int (i 2)])
     else if k % 3 = 0 then .inl (tc 0, 16, .inl i) else .inl (tc 1, 16, .inr (.inl l)))
  else if k = 92 then .inr (7, [.ref (ad 93), .ref (ad 94), .int (i 2), .int (i 3), .int (i 4), .int (i 5), .ref (ad 95), .ref (ad 96), .ref (ad 97)])
  else if k = 93 then .inl (tc 0, 192, .inl i)
  else if k = 94 then .inl (tc 0, 172, .inl i)
  else if k = 95 then .inl (tc 0, 256, .inl i)
  else if k = 96 then .inl (tc 1, 16, .inr (.inl l))
  else .inl (tc 2, 16, .inl i)
def gW (ad : Nat → Nat) (tc : Nat → ClassId) (I : Mi) (L : Ml) : va_W := (List.range 98).map (fun k => (ad k, gc ad tc k (I k) (L k)))
def gT (tc : Nat → ClassId) : List (ClassId × FieldType) := [(tc 0, .int), (tc 1, .long), (tc 2, .boolean), (tc 3, .array .int), (tc 4, .object RX1)]
def gA (ad : Nat → Nat) : Nat → Prop := fun q => ∃ k, k < 98 ∧ q = ad k
def gI (ad : Nat → Nat) : Prop := ∀ i j, i < 98 → j < 98 → ad i = ad j → i = j
/-- one place changes -/
def gU (I : Mi) (k j : Nat) (x : Int32) (I1 : Mi) : Prop := I1 k = upd (I k) j x ∧ ∀ a, a ≠ k → I1 a = I a
def gV (L : Ml) (k j : Nat) (x : Int64) (L1 : Ml) : Prop := L1 k = vp_updL (L k) j x ∧ ∀ a, a ≠ k → L1 a = L a
section GCELL
variable {ad : Nat → Nat} {tc : Nat → ClassId} {i : Nat → Int32} {l : Nat → Int64}
theorem gc_0 : gc ad tc 0 i l = .inr (6, [.ref (ad 1), .ref (ad 3), .ref (ad 5), .ref (ad 7), .ref (ad 89), .ref (ad 38), .int (i 6), .int (i 7)]) := rfl
theorem gc_1 : gc ad tc 1 i l = .inr (0, [.ref (ad 2), .int (i 1), .int (i 2)]) := rfl
theorem gc_2 : gc ad tc 2 i l = .inl (tc 0, 172, .inl i) := rfl
theorem gc_3 : gc ad tc 3 i l = .inr (5, [.ref (ad 4)]) := rfl
theorem gc_4 : gc ad tc 4 i l = .inl (tc 0, 26, .inl i) := rfl
theorem gc_5 : gc ad tc 5 i l = .inr (4, [.ref (ad 6)]) := rfl
theorem gc_6 : gc ad tc 6 i l = .inl (tc 0, 3, .inl i) := rfl
theorem gc_7 : gc ad tc 7 i l = .inr (2, [.ref (ad 8), .ref (ad 9)]) := rfl
theorem gc_8 : gc ad tc 8 i l = gRefs (tc 3) 12 (fun j => ad (10 + j)) := rfl
theorem gc_9 : gc ad tc 9 i l = gRefs (tc 3) 16 (fun j => ad (22 + j)) := rfl
theorem gc_38 : gc ad tc 38 i l = .inr (3, [.ref (ad 39), .ref (ad 40), .int (i 2)]) := rfl
theorem gc_39 : gc ad tc 39 i l = gRefs (tc 4) 16 (fun j => ad (41 + 3 * j)) := rfl
theorem gc_40 : gc ad tc 40 i l = .inl (tc 1, 16, .inr (.inl l)) := rfl
theorem gc_92 : gc ad tc 92 i l = .inr (7, [.ref (ad 93), .ref (ad 94), .int (i 2), .int (i 3), .int (i 4), .int (i 5), .ref (ad 95), .ref (ad 96), .ref (ad 97)]) := rfl
theorem gc_93 : gc ad tc 93 i l = .inl (tc 0, 192, .inl i) := rfl
theorem gc_94 : gc ad tc 94 i l = .inl (tc 0, 172, .inl i) := rfl
theorem gc_95 : gc ad tc 95 i l = .inl (tc 0, 256, .inl i) := rfl
theorem gc_96 : gc ad tc 96 i l = .inl (tc 1, 16, .inr (.inl l)) := rfl
theorem gc_97 : gc ad tc 97 i l = .inl (tc 2, 16, .inl i) := rfl
theorem gc_tab {u : Nat} (h : u < 12) : gc ad tc (10 + u) i l = .inl (tc 0, 16, .inl i) := by
  unfold gc
  rw [if_neg (by omega), if_neg (by omega), if_neg (by omega), if_neg (by omega), if_neg (by omega), if_neg (by omega), if_neg (by omega), if_neg (by omega), if_neg (by omega), if_neg (by omega), if_pos (by omega)]
theorem gc_dot {u : Nat} (h : u < 16) : gc ad tc (22 + u) i l = .inl (tc 0, 16, .inl i) := by
  unfold gc
  rw [if_neg (by omega), if_neg (by omega), if_neg (by omega), if_neg (by omega), if_neg (by omega), if_neg (by omega), if_neg (by omega), if_neg (by omega), if_neg (by omega), if_neg (by omega), if_pos (by omega)]
theorem gc_rk {q : Nat} (h : q < 17) : gc ad tc (41 + 3 * q) i l = .inr (1, [.ref (ad (42 + 3 * q)), .ref (ad (43 + 3 * q)), .int (i 2)]) := by
  unfold gc
  rw [if_neg (by omega), if_neg (by omega), if_neg (by omega), if_neg (by omega), if_neg (by omega), if_neg (by omega), if_neg (by omega), if_neg (by omega), if_neg (by omega), if_neg (by omega), if_neg (by omega), if_neg (by omega), if_neg (by omega), if_neg (by omega), if_pos (by omega), if_pos (by omega), show 41 + 3 * q + 1 = 42 + 3 * q by omega, show 41 + 3 * q + 2 = 43 + 3 * q by omega]
theorem gc_it {q : Nat} (h : q < 17) : gc ad tc (42 + 3 * q) i l = .inl (tc 0, 16, .inl i) := by
  unfold gc
  rw [if_neg (by omega), if_neg (by omega), if_neg (by omega), if_neg (by omega), if_neg (by omega), if_neg (by omega), if_neg (by omega), if_neg (by omega), if_neg (by omega), if_neg (by omega), if_neg (by omega), if_neg (by omega), if_neg (by omega), if_neg (by omega), if_pos (by omega), if_neg (by omega), if_pos (by omega)]
theorem gc_va {q : Nat} (h : q < 17) : gc ad tc (43 + 3 * q) i l = .inl (tc 1, 16, .inr (.inl l)) := by
  unfold gc
  rw [if_neg (by omega), if_neg (by omega), if_neg (by omega), if_neg (by omega), if_neg (by omega), if_neg (by omega), if_neg (by omega), if_neg (by omega), if_neg (by omega), if_neg (by omega), if_neg (by omega), if_neg (by omega), if_neg (by omega), if_neg (by omega), if_pos (by omega), if_neg (by omega), if_neg (by omega)]
theorem gW_at {I : Mi} {L : Ml} {k : Nat} (hk : k < 98) : (gW ad tc I L)[k]? = some (ad k, gc ad tc k (I k) (L k)) := by
  unfold gW
  rw [List.getElem?_map, List.getElem?_range hk]
  rfl
theorem gW_of {I : Mi} {L : Ml} {k : Nat} {q : Nat × va_E} (h : (gW ad tc I L)[k]? = some q) : k < 98 ∧ q = (ad k, gc ad tc k (I k) (L k)) := by
  have hk : k < 98 := by
    have := (List.getElem?_eq_some_iff.mp h).1
    simpa [gW] using this
  rw [gW_at hk] at h
  exact ⟨hk, (Option.some.inj h).symm⟩
theorem gW_D {I : Mi} {L : Ml} {A : Nat → Prop} (hi : gI ad) (hA : ∀ q, gA ad q → A q) : va_D A (gW ad tc I L) := by
  refine ⟨fun i j p q hp hq h => ?_, fun k q hq => ?_⟩
  · obtain ⟨h1, rfl⟩ := gW_of hp
    obtain ⟨h2, rfl⟩ := gW_of hq
    exact hi i j h1 h2 h
  · obtain ⟨h1, rfl⟩ := gW_of hq
    exact hA _ ⟨k, h1, rfl⟩
theorem gW_set {I I1 : Mi} {L L1 : Ml} {k : Nat} {e : va_E} (hk : k < 98) (he : gc ad tc k (I1 k) (L1 k) = e) (hI : ∀ a, a ≠ k → I1 a = I a) (hL : ∀ a, a ≠ k → L1 a = L a) : (gW ad tc I L).set k (ad k, e) = gW ad tc I1 L1 := by
  apply List.ext_getElem?
  intro j
  rw [List.getElem?_set]
  by_cases hj : k = j
  · subst hj
    rw [if_pos rfl, gW_at hk, he, if_pos (by simpa [gW] using hk)]
  · rw [if_neg hj]
    by_cases h9 : j < 98
    · rw [gW_at h9, gW_at h9, hI j (fun h => hj h.symm), hL j (fun h => hj h.symm)]
    · rw [List.getElem?_eq_none (by simpa [gW] using h9), List.getElem?_eq_none (by simpa [gW] using h9)]
end GCELL
/-- the moving part: the heap holds the world; since H0 nothing outside A has changed -/
def gG (D : va_G) (ad : Nat → Nat) (tc : Nat → ClassId) (A : Nat → Prop) (H0 : Heap) (I : Mi) (L : Ml) (H : Heap) (locs : List Loc) : Prop := va_P D vwCl (gW ad tc I L) H ∧ va_S A H0 H locs
/-- two calls among nest mates -/
def gNs (U : State) : Prop := va_Nw (.methodLinkNest RX4 57 yX6_isUser RX6) U ∧ va_Nw (.methodLinkNest RX4 60 yX6_isItem RX6) U
theorem gNs.moved {s U : State} (hW : s.WarmedH U.vm) (h : gNs s) : gNs U := ⟨h.1.warmM hW, h.2.warmM hW⟩
/-- the still part -/
def gK (D : va_G) (ad : Nat → Nat) (tc : Nat → ClassId) (A : Nat → Prop) (s : State) : Prop := va_K D vwCl (gT tc) s ∧ gI ad ∧ (∀ q, gA ad q → A q) ∧ gNs s
def gPc (D : va_G) (ad : Nat → Nat) (tc : Nat → ClassId) (I : Mi) (L : Ml) : State → Prop := fun U => va_P D vwCl (gW ad tc I L) U.heap ∧ va_K D vwCl (gT tc) U ∧ gI ad ∧ gNs U
/-- a contract's end, where the world may have changed -/
def gQi (D : va_G) (ad : Nat → Nat) (tc : Nat → ClassId) (post : Int32 → Mi → Ml → Prop) : Array Value → State → Outcome → State → Prop := fun _ st oc t => (∃ (r : Int32) (I : Mi) (L : Ml), oc = .returned (some (.int r)) ∧ post r I L ∧ va_P D vwCl (gW ad tc I L) t.heap) ∧ va_F (gA ad) st t
def gQl (D : va_G) (ad : Nat → Nat) (tc : Nat → ClassId) (post : Int64 → Mi → Ml → Prop) : Array Value → State → Outcome → State → Prop := fun _ st oc t => (∃ (r : Int64) (I : Mi) (L : Ml), oc = .returned (some (.long r)) ∧ post r I L ∧ va_P D vwCl (gW ad tc I L) t.heap) ∧ va_F (gA ad) st t
def gQv (D : va_G) (ad : Nat → Nat) (tc : Nat → ClassId) (post : Mi → Ml → Prop) : Array Value → State → Outcome → State → Prop := fun _ st oc t => (∃ (I : Mi) (L : Ml), oc = .returned none ∧ post I L ∧ va_P D vwCl (gW ad tc I L) t.heap) ∧ va_F (gA ad) st t
abbrev gN : Addr → Prop := fun _ => False
section GROW
variable {p : Program} {l : Launch} {e : Env} {R : Room} {s : State} {m : MethodId} {args : Array Value} {below : List Frame} {meth : Method} {c : Code} {H : Heap} {locs : List Loc} {cells slots : Nat} {Q : State → Prop}
variable {cc : ByteArray} {pc : Nat} {ls : Array Slot} {rest st0 : List Value} {D : va_G} {ad : Nat → Nat} {tc : Nat → ClassId} {A : Nat → Prop} {H0 : Heap} {I : Mi} {L : Ml} {a : Array Value} {free : Addr → Prop}
/-- a field is read -/
theorem g_get (hx : p.tables.exec = Jvm.exec) (hb : c.code = cc) {own ref C : String} {T : u_T} {N ci index : Nat} {Ts : List Cond} (hts : ∀ w ∈ Ts, w.before args s = true) (hin : ∀ w ∈ u_ws C T N, w ∈ Ts) (hown : s.vm.findClass own = some m.cls) (hK : gK D ad tc A s) (hG : gG D ad tc A H0 I L H locs) (q0 : Nat) (hq : q0 < 98) {fs : List Value} (he : gc ad tc q0 (I q0) (L q0) = .inr (ci, fs)) (hc : vwCl[ci]? = some (C, T, N)) (k : Nat) (hk : k < N)
    (hlink : (Cond.fieldLink own index ref (T k).2.1 (T k).2.2.1).before args s = true) (hsame : ∀ x, s.fieldFound? (T k).1 (T k).2.1 (T k).2.2.1 = some x → s.fieldFound? ref (T k).2.1 (T k).2.2.1 = some x) {v : Value} (hv : fs[k]? = some v) (hdg : decode cc pc = .ok (.getfield index, 3))
    (kk : W p l e R s m args below meth c H locs cells slots Q (F0 m (pc + 3) ls (v :: rest))) : W p l e R s m args below meth c H locs cells slots Q (F0 m pc ls (.ref (ad q0) :: rest)) :=
  va_get hx hb hts hin hown hK.1 hG.1 q0 ((gW_at hq).trans (by rw [he])) hc k hk hlink hsame hv hdg kk
/-- a field that holds a number is written -/
theorem g_put (hx : p.tables.exec = Jvm.exec) (hb : c.code = cc) {own ref C : String} {T : u_T} {N ci index : Nat} {Ts : List Cond} (hts : ∀ w ∈ Ts, w.before args s = true) (hin : ∀ w ∈ u_ws C T N, w ∈ Ts) (ty0 : Nat → FieldType) (hty : ∀ k, k < N → parseFieldDescriptor (T k).2.2.1 = some (ty0 k)) (hnm : ∀ a, a < N → ∀ b, b < N → a ≠ b → (T a).2.1 ≠ (T b).2.1) (hown : s.vm.findClass own = some m.cls) (hK : gK D ad tc A s) (hG : gG D ad tc A H0 I L H locs) (q0 : Nat) (hq : q0 < 98) {fs : List Value} (he : gc ad tc q0 (I q0) (L q0) = .inr (ci, fs)) (hc : vwCl[ci]? = some (C, T, N)) (k : Nat) (hk : k < N)
    (hlink : (Cond.fieldLink own index ref (T k).2.1 (T k).2.2.1).before args s = true) (hsame : ∀ x, s.fieldFound? (T k).1 (T k).2.1 (T k).2.2.1 = some x → s.fieldFound? ref (T k).2.1 (T k).2.2.1 = some x) (hfin : (T k).2.2.2 = false) {ty : FieldType} {x : Int32} (hd : parseFieldDescriptor (T k).2.2.1 = some ty) (hn : narrow ty (.int x) = .int x) (hfit : fits ty (.int x) = true) (hl : k < fs.length) (he1 : gc ad tc q0 (upd (I q0) k x) (L q0) = .inr (ci, fs.set k (.int x)))
    (hdg : decode cc pc = .ok (.putfield index, 3)) (kk : ∀ (I1 : Mi) (H1 : Heap) (locs1 : List Loc), gU I q0 k x I1 → gG D ad tc A H0 I1 L H1 locs1 → W p l e R s m args below meth c H1 locs1 cells slots Q (F0 m (pc + 3) ls rest)) : W p l e R s m args below meth c H locs cells slots Q (F0 m pc ls (.int x :: .ref (ad q0) :: rest)) := by
  refine va_put hx hb hts hin ty0 hty hnm hown hK.1 hG.1 (gW_D hK.2.1 hK.2.2.1) hG.2 q0 ((gW_at hq).trans (by rw [he])) hc k hk hlink hsame hfin hd hn hfit hl hdg (fun H1 locs1 hP hD hS => ?_)
  have hI1 : ∀ a, a ≠ q0 → va_up I q0 (upd (I q0) k x) a = I a := fun a ha => if_neg ha
  have hI0 : va_up I q0 (upd (I q0) k x) q0 = upd (I q0) k x := if_pos rfl
  rw [gW_set (I1 := va_up I q0 (upd (I q0) k x)) (L1 := L) hq (by rw [hI0]; exact he1) hI1 (fun _ _ => rfl)] at hP
  exact kk _ H1 locs1 ⟨hI0, hI1⟩ ⟨hP, hS⟩
/-- an int out of a row -/
theorem g_iald (hx : p.tables.exec = Jvm.exec) (hb : c.code = cc) (hK : gK D ad tc A s) (hG : gG D ad tc A H0 I L H locs) (q0 : Nat) (hq : q0 < 98) {n : Nat} (he : gc ad tc q0 (I q0) (L q0) = .inl (tc 0, n, .inl (I q0))) (j : Nat) {i : Int32} (hi : i = nI j) (hj : j < n) (hn : n < 2 ^ 31) (hdg : decode cc pc = .ok (.iaload, 1))
    (kk : W p l e R s m args below meth c H locs cells slots Q (F0 m (pc + 1) ls (.int (I q0 j) :: rest))) : W p l e R s m args below meth c H locs cells slots Q (F0 m pc ls (.int i :: .ref (ad q0) :: rest)) := by
  subst hi
  refine va_iald hx hb hK.1 hG.1 q0 0 ((gW_at hq).trans (by rw [he])) rfl (vp_in_nI hj hn) hdg ?_
  rw [nI_clamp (by omega)]
  exact kk
theorem g_zald (hx : p.tables.exec = Jvm.exec) (hb : c.code = cc) (hK : gK D ad tc A s) (hG : gG D ad tc A H0 I L H locs) (q0 : Nat) (hq : q0 < 98) {n : Nat} (he : gc ad tc q0 (I q0) (L q0) = .inl (tc 2, n, .inl (I q0))) (j : Nat) {i : Int32} (hi : i = nI j) (hj : j < n) (hn : n < 2 ^ 31) (hdg : decode cc pc = .ok (.baload, 1))
    (kk : W p l e R s m args below meth c H locs cells slots Q (F0 m (pc + 1) ls (.int (I q0 j) :: rest))) : W p l e R s m args below meth c H locs cells slots Q (F0 m pc ls (.int i :: .ref (ad q0) :: rest)) := by
  subst hi
  refine va_zald hx hb hK.1 hG.1 q0 2 ((gW_at hq).trans (by rw [he])) rfl (vp_in_nI hj hn) hdg ?_
  rw [nI_clamp (by omega)]
  exact kk
theorem g_lald (hx : p.tables.exec = Jvm.exec) (hb : c.code = cc) (hK : gK D ad tc A s) (hG : gG D ad tc A H0 I L H locs) (q0 : Nat) (hq : q0 < 98) {n : Nat} (he : gc ad tc q0 (I q0) (L q0) = .inl (tc 1, n, .inr (.inl (L q0)))) (j : Nat) {i : Int32} (hi : i = nI j) (hj : j < n) (hn : n < 2 ^ 31) (hdg : decode cc pc = .ok (.laload, 1))
    (kk : W p l e R s m args below meth c H locs cells slots Q (F0 m (pc + 1) ls (.long (L q0 j) :: rest))) : W p l e R s m args below meth c H locs cells slots Q (F0 m pc ls (.int i :: .ref (ad q0) :: rest)) := by
  subst hi
  refine va_lald hx hb hK.1 hG.1 q0 1 ((gW_at hq).trans (by rw [he])) rfl (vp_in_nI hj hn) hdg ?_
  rw [nI_clamp (by omega)]
  exact kk
theorem g_aald (hx : p.tables.exec = Jvm.exec) (hb : c.code = cc) (hK : gK D ad tc A s) (hG : gG D ad tc A H0 I L H locs) (q0 t0 : Nat) (hq : q0 < 98) {n : Nat} {f : Nat → Nat} {cA : ClassId} {ty : FieldType} (he : gc ad tc q0 (I q0) (L q0) = gRefs cA n f) (ht : (gT tc)[t0]? = some (cA, ty)) (hty : ty.isReference = true) (j : Nat) {i : Int32} (hi : i = nI j) (hj : j < n) (hn : n < 2 ^ 31) (hdg : decode cc pc = .ok (.aaload, 1))
    (kk : W p l e R s m args below meth c H locs cells slots Q (F0 m (pc + 1) ls (.ref (f j) :: rest))) : W p l e R s m args below meth c H locs cells slots Q (F0 m pc ls (.int i :: .ref (ad q0) :: rest)) := by
  subst hi
  have hc : (nI j).toNatClampNeg = j := nI_clamp (by omega)
  have hin := vp_in_nI hj hn
  have hP : va_at D vwCl (ad q0, gRefs cA n f) H := hG.1 q0 _ ((gW_at hq).trans (by rw [he]))
  refine W.aald (v := va_rf (some (f j))) (ty := ty) hx hb hP ((hK.1.2 t0 _ ht).1 n (fun j => va_rf (some (f j)))) hty (fun q => by cases q) (by show ¬ (_ ∨ (arrV _ _ _).slots.size ≤ _); rw [arrV_size]; exact hin) (by show (arrV _ _ _).slots[_]? = _; rw [hc, arrV_read _ _ hj]) rfl rfl hdg kk
theorem g_alen (hx : p.tables.exec = Jvm.exec) (hb : c.code = cc) (hK : gK D ad tc A s) (hG : gG D ad tc A H0 I L H locs) (q0 t0 : Nat) (hq : q0 < 98) {cA : ClassId} {y : vp_A} {ty : FieldType} (he : gc ad tc q0 (I q0) (L q0) = .inl (cA, y)) (ht : (gT tc)[t0]? = some (cA, ty)) {n : Nat} (hn : y.1 = n) (hdg : decode cc pc = .ok (.arraylength, 1))
    (kk : W p l e R s m args below meth c H locs cells slots Q (F0 m (pc + 1) ls (.int (nI n) :: rest))) : W p l e R s m args below meth c H locs cells slots Q (F0 m pc ls (.ref (ad q0) :: rest)) :=
  va_alen hx hb hK.1 hG.1 q0 t0 ((gW_at hq).trans (by rw [he])) ht (v := nI n) (by rw [hn]; rfl) hdg kk
theorem g_iast (hx : p.tables.exec = Jvm.exec) (hb : c.code = cc) (hK : gK D ad tc A s) (hG : gG D ad tc A H0 I L H locs) (q0 : Nat) (hq : q0 < 98) {n : Nat} (he : ∀ f : Nat → Int32, gc ad tc q0 f (L q0) = .inl (tc 0, n, .inl f)) (j : Nat) {i x : Int32} (hi : i = nI j) (hj : j < n) (hn : n < 2 ^ 31) (hdg : decode cc pc = .ok (.iastore, 1))
    (kk : ∀ (I1 : Mi) (H1 : Heap) (locs1 : List Loc), gU I q0 j x I1 → gG D ad tc A H0 I1 L H1 locs1 → W p l e R s m args below meth c H1 locs1 cells slots Q (F0 m (pc + 1) ls rest)) : W p l e R s m args below meth c H locs cells slots Q (F0 m pc ls (.int x :: .int i :: .ref (ad q0) :: rest)) := by
  subst hi
  refine va_iast hx hb hK.1 hG.1 (gW_D hK.2.1 hK.2.2.1) hG.2 q0 0 ((gW_at hq).trans (by rw [he])) rfl (vp_in_nI hj hn) hdg (fun H1 locs1 hP hD hS => ?_)
  rw [nI_clamp (show j < 2 ^ 31 by omega)] at hP
  have hI1 : ∀ a, a ≠ q0 → va_up I q0 (upd (I q0) j x) a = I a := fun a ha => if_neg ha
  have hI0 : va_up I q0 (upd (I q0) j x) q0 = upd (I q0) j x := if_pos rfl
  rw [gW_set (I1 := va_up I q0 (upd (I q0) j x)) (L1 := L) hq (by rw [hI0]; exact he _) hI1 (fun _ _ => rfl)] at hP
  exact kk _ H1 locs1 ⟨hI0, hI1⟩ ⟨hP, hS⟩
theorem g_zast (hx : p.tables.exec = Jvm.exec) (hb : c.code = cc) (hK : gK D ad tc A s) (hG : gG D ad tc A H0 I L H locs) (q0 : Nat) (hq : q0 < 98) {n : Nat} (he : ∀ f : Nat → Int32, gc ad tc q0 f (L q0) = .inl (tc 2, n, .inl f)) (j : Nat) {i x : Int32} (hi : i = nI j) (hj : j < n) (hn : n < 2 ^ 31) (hx1 : vp_nar .boolean x = x) (hdg : decode cc pc = .ok (.bastore, 1))
    (kk : ∀ (I1 : Mi) (H1 : Heap) (locs1 : List Loc), gU I q0 j x I1 → gG D ad tc A H0 I1 L H1 locs1 → W p l e R s m args below meth c H1 locs1 cells slots Q (F0 m (pc + 1) ls rest)) : W p l e R s m args below meth c H locs cells slots Q (F0 m pc ls (.int x :: .int i :: .ref (ad q0) :: rest)) := by
  subst hi
  refine va_zast hx hb hK.1 hG.1 (gW_D hK.2.1 hK.2.2.1) hG.2 q0 2 ((gW_at hq).trans (by rw [he])) rfl (vp_in_nI hj hn) hdg (fun H1 locs1 hP hD hS => ?_)
  rw [nI_clamp (show j < 2 ^ 31 by omega), hx1] at hP
  have hI1 : ∀ a, a ≠ q0 → va_up I q0 (upd (I q0) j x) a = I a := fun a ha => if_neg ha
  have hI0 : va_up I q0 (upd (I q0) j x) q0 = upd (I q0) j x := if_pos rfl
  rw [gW_set (I1 := va_up I q0 (upd (I q0) j x)) (L1 := L) hq (by rw [hI0]; exact he _) hI1 (fun _ _ => rfl)] at hP
  exact kk _ H1 locs1 ⟨hI0, hI1⟩ ⟨hP, hS⟩
theorem g_last (hx : p.tables.exec = Jvm.exec) (hb : c.code = cc) (hK : gK D ad tc A s) (hG : gG D ad tc A H0 I L H locs) (q0 : Nat) (hq : q0 < 98) {n : Nat} (he : ∀ f : Nat → Int64, gc ad tc q0 (I q0) f = .inl (tc 1, n, .inr (.inl f))) (j : Nat) {i : Int32} {x : Int64} (hi : i = nI j) (hj : j < n) (hn : n < 2 ^ 31) (hdg : decode cc pc = .ok (.lastore, 1))
    (kk : ∀ (L1 : Ml) (H1 : Heap) (locs1 : List Loc), gV L q0 j x L1 → gG D ad tc A H0 I L1 H1 locs1 → W p l e R s m args below meth c H1 locs1 cells slots Q (F0 m (pc + 1) ls rest)) : W p l e R s m args below meth c H locs cells slots Q (F0 m pc ls (.long x :: .int i :: .ref (ad q0) :: rest)) := by
  subst hi
  refine va_last hx hb hK.1 hG.1 (gW_D hK.2.1 hK.2.2.1) hG.2 q0 1 ((gW_at hq).trans (by rw [he])) rfl (vp_in_nI hj hn) hdg (fun H1 locs1 hP hD hS => ?_)
  rw [nI_clamp (show j < 2 ^ 31 by omega)] at hP
  have hI1 : ∀ a, a ≠ q0 → va_up L q0 (vp_updL (L q0) j x) a = L a := fun a ha => if_neg ha
  have hI0 : va_up L q0 (vp_updL (L q0) j x) q0 = vp_updL (L q0) j x := if_pos rfl
  rw [gW_set (I1 := I) (L1 := va_up L q0 (vp_updL (L q0) j x)) hq (by rw [hI0]; exact he _) (fun _ _ => rfl) hI1] at hP
  exact kk _ H1 locs1 ⟨hI0, hI1⟩ ⟨hP, hS⟩
/-- the number on top gets another spelling -/
theorem g_i {x y : Int32} (h : x = y) (kk : W p l e R s m args below meth c H locs cells slots Q (F0 m pc ls (.int y :: rest))) : W p l e R s m args below meth c H locs cells slots Q (F0 m pc ls (.int x :: rest)) := h ▸ kk
theorem g_l {x y : Int64} (h : x = y) (kk : W p l e R s m args below meth c H locs cells slots Q (F0 m pc ls (.long y :: rest))) : W p l e R s m args below meth c H locs cells slots Q (F0 m pc ls (.long x :: rest)) := h ▸ kk
theorem g_r {x y : Nat} (h : x = y) (kk : W p l e R s m args below meth c H locs cells slots Q (F0 m pc ls (.ref y :: rest))) : W p l e R s m args below meth c H locs cells slots Q (F0 m pc ls (.ref x :: rest)) := h ▸ kk
/-- calls: the heap stays -/
theorem g_si {post : Int32 → Prop} (hr : va_Run p l e R s m args below meth c H locs cells slots 0 0 (F0 m pc ls st0) rest (vp_Si post a) gN) (kk : ∀ r : Int32, post r → W p l e R s m args below meth c H locs cells slots Q (F0 m (pc + 3) ls (.int r :: rest))) : W p l e R s m args below meth c H locs cells slots Q (F0 m pc ls st0) := by
  intro T hT X
  obtain ⟨v, st₀, t, T', L, h0, X', hL, e1, e2, ⟨r, hv, hp, hh⟩, st⟩ := hr T hT X
  cases hv
  obtain rfl : L = [] := List.eq_nil_iff_forall_not_mem.mpr (fun q h => hL q h)
  rw [List.append_nil] at X'
  obtain ⟨t2, a1, b1⟩ := kk r hp T' (by rw [e1, hh, h0]) X'
  exact ⟨t2, st t2 a1, b1⟩
theorem g_sl {post : Int64 → Prop} (hr : va_Run p l e R s m args below meth c H locs cells slots 0 0 (F0 m pc ls st0) rest (vp_Sl post a) gN) (kk : ∀ r : Int64, post r → W p l e R s m args below meth c H locs cells slots Q (F0 m (pc + 3) ls (.long r :: rest))) : W p l e R s m args below meth c H locs cells slots Q (F0 m pc ls st0) := by
  intro T hT X
  obtain ⟨v, st₀, t, T', L, h0, X', hL, e1, e2, ⟨r, hv, hp, hh⟩, st⟩ := hr T hT X
  cases hv
  obtain rfl : L = [] := List.eq_nil_iff_forall_not_mem.mpr (fun q h => hL q h)
  rw [List.append_nil] at X'
  obtain ⟨t2, a1, b1⟩ := kk r hp T' (by rw [e1, hh, h0]) X'
  exact ⟨t2, st t2 a1, b1⟩
/-- calls: the world moves on -/
theorem g_S {st t T' : State} {Lc : List Loc} (hS : va_S A H0 H locs) (hA : ∀ q, gA ad q → A q) (h0 : st.heap = H) (hF : va_F (gA ad) st t) (e1 : T'.heap = t.heap) (hL : ∀ q ∈ Lc, gA ad q.base) : va_S A H0 T'.heap (locs ++ Lc) := by
  obtain ⟨hz, hk⟩ := hF
  rw [h0] at hz hk
  refine ⟨Nat.le_trans hS.1 (by rw [e1]; exact hz), fun q h1 h2 => by rw [e1, hk q (Nat.lt_of_lt_of_le h1 hS.1) (fun z => h2 (hA q z))]; exact hS.2.1 q h1 h2, fun q hq => ?_⟩
  rcases List.mem_append.mp hq with h | h
  · exact hS.2.2 q h
  · exact hA _ (hL q h)
theorem g_ci {post : Int32 → Mi → Ml → Prop} (hr : va_Run p l e R s m args below meth c H locs cells slots 0 0 (F0 m pc ls st0) rest (gQi D ad tc post a) (gA ad)) (hK : gK D ad tc A s) (hG : gG D ad tc A H0 I L H locs)
    (kk : ∀ (r : Int32) (I1 : Mi) (L1 : Ml) (H1 : Heap) (locs1 : List Loc), post r I1 L1 → gG D ad tc A H0 I1 L1 H1 locs1 → W p l e R s m args below meth c H1 locs1 cells slots Q (F0 m (pc + 3) ls (.int r :: rest))) : W p l e R s m args below meth c H locs cells slots Q (F0 m pc ls st0) := by
  intro T hT X
  obtain ⟨v, st₀, t, T', Lc, h0, X', hL, e1, e2, ⟨⟨r, I1, L1, hv, hp, hb⟩, hF⟩, st⟩ := hr T hT X
  cases hv
  obtain ⟨t2, a1, b1⟩ := kk r I1 L1 T'.heap (locs ++ Lc) hp ⟨by rw [e1]; exact hb, g_S hG.2 hK.2.2.1 h0 hF e1 hL⟩ T' rfl X'
  exact ⟨t2, st t2 a1, b1⟩
theorem g_cl {post : Int64 → Mi → Ml → Prop} (hr : va_Run p l e R s m args below meth c H locs cells slots 0 0 (F0 m pc ls st0) rest (gQl D ad tc post a) (gA ad)) (hK : gK D ad tc A s) (hG : gG D ad tc A H0 I L H locs)
    (kk : ∀ (r : Int64) (I1 : Mi) (L1 : Ml) (H1 : Heap) (locs1 : List Loc), post r I1 L1 → gG D ad tc A H0 I1 L1 H1 locs1 → W p l e R s m args below meth c H1 locs1 cells slots Q (F0 m (pc + 3) ls (.long r :: rest))) : W p l e R s m args below meth c H locs cells slots Q (F0 m pc ls st0) := by
  intro T hT X
  obtain ⟨v, st₀, t, T', Lc, h0, X', hL, e1, e2, ⟨⟨r, I1, L1, hv, hp, hb⟩, hF⟩, st⟩ := hr T hT X
  cases hv
  obtain ⟨t2, a1, b1⟩ := kk r I1 L1 T'.heap (locs ++ Lc) hp ⟨by rw [e1]; exact hb, g_S hG.2 hK.2.2.1 h0 hF e1 hL⟩ T' rfl X'
  exact ⟨t2, st t2 a1, b1⟩
theorem g_cv {post : Mi → Ml → Prop} (hr : va_Run p l e R s m args below meth c H locs cells slots 0 0 (F0 m pc ls st0) rest (gQv D ad tc post a) (gA ad)) (hK : gK D ad tc A s) (hG : gG D ad tc A H0 I L H locs)
    (kk : ∀ (I1 : Mi) (L1 : Ml) (H1 : Heap) (locs1 : List Loc), post I1 L1 → gG D ad tc A H0 I1 L1 H1 locs1 → W p l e R s m args below meth c H1 locs1 cells slots Q (F0 m (pc + 3) ls rest)) : W p l e R s m args below meth c H locs cells slots Q (F0 m pc ls st0) := by
  intro T hT X
  obtain ⟨v, st₀, t, T', Lc, h0, X', hL, e1, e2, ⟨⟨I1, L1, hv, hp, hb⟩, hF⟩, st⟩ := hr T hT X
  cases hv
  obtain ⟨t2, a1, b1⟩ := kk I1 L1 T'.heap (locs ++ Lc) hp ⟨by rw [e1]; exact hb, g_S hG.2 hK.2.2.1 h0 hF e1 hL⟩ T' rfl X'
  exact ⟨t2, st t2 a1, b1⟩
/-- what a call wants of the world -/
theorem g_fb {As : List Value} : FrameBlind (va_Pc As (gPc D ad tc I L)) := fun a U g mk q => by
  obtain ⟨q0, qP, qK, qI, q1, q2⟩ := q
  exact ⟨q0, qP, va_K.moved (u := U) (U := U.calling g mk a) (Vm.Alike.refl U.vm) qK, qI, va_Nw.same rfl (u := U) rfl q1, va_Nw.same rfl (u := U) rfl q2⟩
theorem g_fb0 {As : List Value} : FrameBlind (va_Pc As (fun _ => True)) := fun a U g mk q => ⟨q.1, trivial⟩
theorem g_pS {As : List Value} (hK : gK D ad tc A s) (hG : gG D ad tc A H0 I L H locs) : PreS s H (va_Pc As (gPc D ad tc I L)) As :=
  ⟨g_fb, fun U hU hW => ⟨rfl, by rw [hU]; exact hG.1, va_K.moved hW.alike hK.1, hK.2.1, gNs.moved hW hK.2.2.2⟩⟩
theorem g_p0 {As : List Value} : PreS s H (va_Pc As (fun _ => True)) As := ⟨g_fb0, fun U hU hW => ⟨rfl, trivial⟩⟩
theorem g_pV {As : List Value} (hK : gK D ad tc A s) (hG : gG D ad tc A H0 I L H locs) (q0 : Nat) (hq : q0 < 98) {ci : Nat} {fs : List Value} (he : gc ad tc q0 (I q0) (L q0) = .inr (ci, fs)) {q : vw_C} (hc : vwCl[ci]? = some q) : PreV s H q.1 (ad q0) (va_Pc (.ref (ad q0) :: As) (gPc D ad tc I L)) As :=
  ⟨g_fb, va_recv hK.1 hG.1 hc ((gW_at hq).trans (by rw [he])), fun U hU hW => ⟨rfl, by rw [hU]; exact hG.1, va_K.moved hW.alike hK.1, hK.2.1, gNs.moved hW hK.2.2.2⟩⟩
end GROW
section GENT
variable {l : Launch} {y : MethodName} {ws ws' : List Cond} {rm : Room} {cc : ByteArray} {maxL : Nat} {ret : Option FieldType} {As : List Value} {D : va_G} {ad : Nat → Nat} {tc : Nat → ClassId} {I : Mi} {L : Ml} {Qc : Array Value → State → Outcome → State → Prop} {free : Addr → Prop}
/-- a contract over the world, from its body -/
theorem g_of (hy : plainName y.cls = true) (hw : ws = Cond.code y cc maxL ret :: ws') (hn : (lg_sl As).length ≤ maxL)
    (body : ∀ (p : Program) (e : Env) (s : State) (m : MethodId) (below : List Frame) (meth : Method) (c : Code), CallFix p m c cc maxL s As.toArray ws y.cls → meth.sig.returnType = ret → meth.locks = false → gK D ad tc (gA ad) s → gG D ad tc (gA ad) s.heap I L s.heap [] → ∀ ls : Array Slot, lv_has ls maxL (lv_args 0 As) →
      W p l e (headSpec ws rm).room s m As.toArray below meth c s.heap [] 0 0 (MQ below Qc As.toArray s 0 0 free) (F0 m 0 ls [])) : Met l y ws rm (va_Pc As (gPc D ad tc I L)) Qc 0 0 free := by
  refine Met.ofW (cc := cc) (maxL := maxL) (ret := ret) hy hw ?_
  intro p e s m args below meth c s₁ B hml hv
  obtain ⟨rfl, hP, hK, hi, hN⟩ := hv
  rw [lg_entry_eq]
  exact body p e s m below meth c ⟨B.exec, B.bytes, hml, findClass_of_methodNamed B.named, atoms_spec (ws := ws) B.pre⟩ B.returns B.notSynchronized ⟨hK, hi, fun _ h => h, hN⟩ ⟨hP, va_S.rf⟩ _ (lv_entry As hn)
/-- a contract that needs no world -/
theorem g_of0 (hy : plainName y.cls = true) (hw : ws = Cond.code y cc maxL ret :: ws') (hn : (lg_sl As).length ≤ maxL)
    (body : ∀ (p : Program) (e : Env) (s : State) (m : MethodId) (below : List Frame) (meth : Method) (c : Code), CallFix p m c cc maxL s As.toArray ws y.cls → meth.sig.returnType = ret → meth.locks = false → ∀ ls : Array Slot, lv_has ls maxL (lv_args 0 As) →
      W p l e (headSpec ws rm).room s m As.toArray below meth c s.heap [] 0 0 (MQ below Qc As.toArray s 0 0 free) (F0 m 0 ls [])) : Met l y ws rm (va_Pc As (fun _ => True)) Qc 0 0 free := by
  refine Met.ofW (cc := cc) (maxL := maxL) (ret := ret) hy hw ?_
  intro p e s m args below meth c s₁ B hml hv
  obtain ⟨rfl, -⟩ := hv
  rw [lg_entry_eq]
  exact body p e s m below meth c ⟨B.exec, B.bytes, hml, findClass_of_methodNamed B.named, atoms_spec (ws := ws) B.pre⟩ B.returns B.notSynchronized _ (lv_entry As hn)
end GENT
section GRET
variable {p : Program} {l : Launch} {e : Env} {R : Room} {s : State} {m : MethodId} {args : Array Value} {below : List Frame} {meth : Method} {c : Code} {H : Heap} {locs : List Loc} {cells slots : Nat}
variable {cc : ByteArray} {pc : Nat} {ls : Array Slot} {D : va_G} {ad : Nat → Nat} {tc : Nat → ClassId} {I : Mi} {L : Ml}
theorem g_riS {post : Int32 → Prop} {v : Int32} (hx : p.tables.exec = Jvm.exec) (hb : c.code = cc) (hr : meth.sig.returnType = some .int) (hlocks : meth.locks = false) (hq : post v) (hdg : decode cc pc = .ok (.ireturn, 1)) : W p l e R s m args below meth c s.heap [] cells slots (MQ below (vp_Si post) args s cells slots gN) (F0 m pc ls [.int v]) :=
  W.iret hx hb hr (fun t ht _ => ⟨v, rfl, hq, ht⟩) (fun q h => absurd h List.not_mem_nil) hdg hlocks
theorem g_rzS {post : Int32 → Prop} {v : Int32} (hx : p.tables.exec = Jvm.exec) (hb : c.code = cc) (hr : meth.sig.returnType = some .boolean) (hlocks : meth.locks = false) (hn : v = 0 ∨ v = 1) (hq : post v) (hdg : decode cc pc = .ok (.ireturn, 1)) : W p l e R s m args below meth c s.heap [] cells slots (MQ below (vp_Si post) args s cells slots gN) (F0 m pc ls [.int v]) :=
  W.zret hx hb hr (by rcases hn with rfl | rfl <;> rfl) (fun t ht _ => ⟨v, rfl, hq, ht⟩) (fun q h => absurd h List.not_mem_nil) hdg hlocks
theorem g_rlS {post : Int64 → Prop} {v : Int64} (hx : p.tables.exec = Jvm.exec) (hb : c.code = cc) (hr : meth.sig.returnType = some .long) (hlocks : meth.locks = false) (hq : post v) (hdg : decode cc pc = .ok (.lreturn, 1)) : W p l e R s m args below meth c s.heap [] cells slots (MQ below (vp_Sl post) args s cells slots gN) (F0 m pc ls [.long v]) :=
  W.lret hx hb hr (fun t ht _ => ⟨v, rfl, hq, ht⟩) (fun q h => absurd h List.not_mem_nil) hdg hlocks
theorem g_rF {t : State} (hS : va_S (gA ad) s.heap H locs) (ht : t.heap = H) : va_F (gA ad) s t := hS.F ht
theorem g_ri {post : Int32 → Mi → Ml → Prop} {v : Int32} (hx : p.tables.exec = Jvm.exec) (hb : c.code = cc) (hr : meth.sig.returnType = some .int) (hlocks : meth.locks = false) (hG : gG D ad tc (gA ad) s.heap I L H locs) (hq : post v I L) (hdg : decode cc pc = .ok (.ireturn, 1)) : W p l e R s m args below meth c H locs cells slots (MQ below (gQi D ad tc post) args s cells slots (gA ad)) (F0 m pc ls [.int v]) :=
  W.iret hx hb hr (fun t ht _ => ⟨⟨v, I, L, rfl, hq, by rw [ht]; exact hG.1⟩, hG.2.F ht⟩) hG.2.2.2 hdg hlocks
theorem g_rz {post : Int32 → Mi → Ml → Prop} {v : Int32} (hx : p.tables.exec = Jvm.exec) (hb : c.code = cc) (hr : meth.sig.returnType = some .boolean) (hlocks : meth.locks = false) (hn : v = 0 ∨ v = 1) (hG : gG D ad tc (gA ad) s.heap I L H locs) (hq : post v I L) (hdg : decode cc pc = .ok (.ireturn, 1)) : W p l e R s m args below meth c H locs cells slots (MQ below (gQi D ad tc post) args s cells slots (gA ad)) (F0 m pc ls [.int v]) :=
  W.zret hx hb hr (by rcases hn with rfl | rfl <;> rfl) (fun t ht _ => ⟨⟨v, I, L, rfl, hq, by rw [ht]; exact hG.1⟩, hG.2.F ht⟩) hG.2.2.2 hdg hlocks
theorem g_rl {post : Int64 → Mi → Ml → Prop} {v : Int64} (hx : p.tables.exec = Jvm.exec) (hb : c.code = cc) (hr : meth.sig.returnType = some .long) (hlocks : meth.locks = false) (hG : gG D ad tc (gA ad) s.heap I L H locs) (hq : post v I L) (hdg : decode cc pc = .ok (.lreturn, 1)) : W p l e R s m args below meth c H locs cells slots (MQ below (gQl D ad tc post) args s cells slots (gA ad)) (F0 m pc ls [.long v]) :=
  W.lret hx hb hr (fun t ht _ => ⟨⟨v, I, L, rfl, hq, by rw [ht]; exact hG.1⟩, hG.2.F ht⟩) hG.2.2.2 hdg hlocks
theorem g_rv {post : Mi → Ml → Prop} (hx : p.tables.exec = Jvm.exec) (hb : c.code = cc) (hr : meth.sig.returnType = none) (hlocks : meth.locks = false) (hG : gG D ad tc (gA ad) s.heap I L H locs) (hq : post I L) (hdg : decode cc pc = .ok (.return_, 1)) : W p l e R s m args below meth c H locs cells slots (MQ below (gQv D ad tc post) args s cells slots (gA ad)) (F0 m pc ls []) :=
  W.vret hx hb hr (fun t ht _ => ⟨⟨I, L, rfl, hq, by rw [ht]; exact hG.1⟩, hG.2.F ht⟩) hG.2.2.2 hdg hlocks
end GRET
