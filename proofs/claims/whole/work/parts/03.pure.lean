/-! numbers -/
def gR (x : Int32) (n : Nat) : Prop := ∃ j : Nat, j < n ∧ x = nI j
theorem gR_of {x : Int32} {n : Nat} (hn : n < 2 ^ 31) (h0 : ¬ x < 0) (h1 : ¬ nI n ≤ x) : gR x n := by
  rcases pk_ix x hn with h | h | h
  · exact absurd h h0
  · exact absurd h h1
  · exact h
theorem gR_neg {x : Int32} {n : Nat} (hn : n < 2 ^ 31) (h : x < 0) : ¬ gR x n := fun ⟨j, hj, e⟩ => by
  subst e
  exact nI_pos (by omega) h
theorem gR_big {x : Int32} {n : Nat} (hn : n < 2 ^ 31) (h : nI n ≤ x) : ¬ gR x n := fun ⟨j, hj, e⟩ => by
  subst e
  exact nI_ge hj hn h
theorem gR_n {j n : Nat} (h : j < n) : gR (nI j) n := ⟨j, h, rfl⟩
theorem nI_c (n : Nat) (k : Int32) (h : nI n = k) (x : Int32) : (k ≤ x) = (nI n ≤ x) := by rw [h]
/-! the disk -/
def pu_mix (h x : Int32) : Int32 := ((h ^^^ x) * 668265263 + 374761393) ^^^ (((h ^^^ x) * 668265263 + 374761393).toUInt32 >>> ((15 : Int32).toUInt32 &&& Int32.toUInt32 31)).toInt32
def pu_chk (f : Nat → Int32) (s : Int32) : Nat → Int32
  | 0 => s
  | n + 1 => pu_mix (pu_chk f s n) (f n)
theorem pu_chk_congr {f g : Nat → Int32} {s : Int32} : ∀ {n : Nat}, (∀ j, j < n → f j = g j) → pu_chk f s n = pu_chk g s n
  | 0, _ => rfl
  | n + 1, h => by
    show pu_mix (pu_chk f s n) (f n) = pu_mix (pu_chk g s n) (g n)
    rw [pu_chk_congr (fun j hj => h j (by omega)), h n (by omega)]
def pu_at (f : Nat → Int32) (a : Int32) : Int32 := if 0 ≤ a.toInt ∧ a.toInt < 172 then f a.toNatClampNeg else 0
theorem pu_at_in {f : Nat → Int32} {j : Nat} (h : j < 172) : pu_at f (nI j) = f j := by
  unfold pu_at
  rw [nI_toInt (by omega), if_pos (by omega), nI_clamp (by omega)]
theorem pu_at_out {f : Nat → Int32} {a : Int32} (h : ¬ gR a 172) : pu_at f a = 0 := by
  unfold pu_at
  rw [if_neg]
  intro h2
  exact h (vp_in_of (n := 172) (vp_in_iff.mpr (by omega)) (by decide))
theorem pu_at_congr {f g : Nat → Int32} (h : ∀ j, j < 172 → f j = g j) (a : Int32) : pu_at f a = pu_at g a := by
  unfold pu_at
  split
  · rename_i h2
    have : a.toNatClampNeg < 172 := by
      have h3 : gR a 172 := vp_in_of (vp_in_iff.mpr (by omega)) (by decide)
      obtain ⟨j, hj, rfl⟩ := h3
      rw [nI_clamp (by omega)]
      exact hj
    exact h _ this
  · rfl
/-- words, whether there is power, how many words until it fails -/
abbrev Dk : Type := (Nat → Int32) × Int32 × Int32
def pu_put (d : Dk) (j : Nat) (x : Int32) : Dk := if d.2.1 = 0 then d else if d.2.2 = 0 then (d.1, 0, d.2.2) else (upd d.1 j x, d.2.1, if 0 < d.2.2 then d.2.2 - 1 else d.2.2)
def pu_puts (d : Dk) (st : Nat) (f : Nat → Int32) : Nat → Dk
  | 0 => d
  | n + 1 => pu_put (pu_puts d st f n) (st + n) (f n)
def dkN (I : Mi) : Dk := (I 2, I 1 1, I 1 2)
theorem pu_put_dark {d : Dk} {j : Nat} {x : Int32} (h : d.2.1 = 0) : pu_put d j x = d := if_pos h
theorem pu_puts_dark {d : Dk} {st : Nat} {f : Nat → Int32} {n : Nat} (h : (pu_puts d st f n).2.1 = 0) : ∀ m, n ≤ m → pu_puts d st f m = pu_puts d st f n := by
  intro m hm
  induction m with
  | zero => rw [show n = 0 by omega]
  | succ m ih =>
    by_cases e : n = m + 1
    · rw [e]
    · have := ih (by omega)
      show pu_put (pu_puts d st f m) _ _ = _
      rw [this]
      exact pu_put_dark h
theorem pu_puts_congr {d : Dk} {st : Nat} {f g : Nat → Int32} : ∀ {n : Nat}, (∀ j, j < n → f j = g j) → pu_puts d st f n = pu_puts d st g n
  | 0, _ => rfl
  | n + 1, h => by
    show pu_put _ _ _ = pu_put _ _ _
    rw [pu_puts_congr (fun j hj => h j (by omega)), h n (by omega)]
theorem pu_put_off {I I1 : Mi} {j : Nat} {x : Int32} (h1 : I 1 1 = 1) (hw : I 1 2 = 0) (hU : gU I 1 1 0 I1) : pu_put (dkN I) j x = dkN I1 := by
  obtain ⟨a, b⟩ := hU
  simp [pu_put, dkN, h1, hw, a, b 2 (by decide), upd]
theorem pu_put_on {I I1 : Mi} {j : Nat} {x : Int32} (h1 : I 1 1 = 1) (hw : ¬ I 1 2 = 0) (hw2 : I 1 2 ≤ 0) (hU : gU I 2 j x I1) : pu_put (dkN I) j x = dkN I1 := by
  obtain ⟨a, b⟩ := hU
  have h9 : ¬ 0 < I 1 2 := fun h => by
    rw [Int32.lt_iff_toInt_lt] at h
    rw [Int32.le_iff_toInt_le] at hw2
    omega
  simp [pu_put, dkN, h1, hw, h9, a, b 1 (by decide)]
theorem pu_put_dec {I I1 I2 : Mi} {j : Nat} {x : Int32} (h1 : I 1 1 = 1) (hw : ¬ I 1 2 = 0) (hw2 : ¬ I 1 2 ≤ 0) (hU : gU I 1 2 (I 1 2 - 1) I1) (hU2 : gU I1 2 j x I2) : pu_put (dkN I) j x = dkN I2 := by
  obtain ⟨a, b⟩ := hU
  obtain ⟨a2, b2⟩ := hU2
  have h9 : 0 < I 1 2 := by
    rw [Int32.lt_iff_toInt_lt]
    rw [Int32.le_iff_toInt_le] at hw2
    omega
  simp [pu_put, dkN, h1, hw, h9, a, b 2 (by decide), a2, b2 1 (by decide), upd]
/-- what Disk.put says -/
def pu_putP (I : Mi) (a x r : Int32) (I1 : Mi) : Prop := (∃ j, j < 172 ∧ a = nI j ∧ gU I 2 j x I1 ∧ 1 = r) ∨ (¬ gR a 172 ∧ I = I1 ∧ 0 = r)
theorem pu_putin {I I1 : Mi} {j : Nat} {x r : Int32} (hj : j < 172) (h : pu_putP I (nI j) x r I1) : gU I 2 j x I1 ∧ 1 = r := by
  rcases h with ⟨k, hk, e, h⟩ | ⟨h, -⟩
  · have : j = k := (nI_eq (by omega) (by omega)).mp e
    subst this
    exact h
  · exact absurd (gR_n hj) h
/-- an array of ints at an address, of any heap -/
def gH (a : Nat) (cA : ClassId) (N : Nat) (f : Nat → Int32) : State → Prop := fun U => U.heap[a]? = some (vp_cell cA (N, .inl f)) ∧ ArrOfT U cA .int
theorem g_fbH {As : List Value} {a : Nat} {cA : ClassId} {N : Nat} {f : Nat → Int32} : FrameBlind (va_Pc As (gH a cA N f)) := fun b U g mk q => by
  obtain ⟨q0, q1, q2⟩ := q
  exact ⟨q0, q1, arrOfT_moved (u := U) (E := U.calling g mk b) (Vm.Alike.refl U.vm) q2⟩
theorem g_pH {s : State} {H : Heap} {As : List Value} {a : Nat} {cA : ClassId} {N : Nat} {f : Nat → Int32} (h1 : H[a]? = some (vp_cell cA (N, .inl f))) (h2 : ArrOfT s cA .int) : PreS s H (va_Pc As (gH a cA N f)) As :=
  ⟨g_fbH, fun U hU hW => ⟨rfl, by rw [hU]; exact h1, arrOfT_moved hW.alike h2⟩⟩
section GH
variable {p : Program} {l : Launch} {e : Env} {R : Room} {s : State} {m : MethodId} {args : Array Value} {below : List Frame} {meth : Method} {c : Code} {H : Heap} {locs : List Loc} {cells slots : Nat} {Q : State → Prop}
variable {cc : ByteArray} {pc : Nat} {ls : Array Slot} {rest : List Value} {D : va_G} {ad : Nat → Nat} {tc : Nat → ClassId} {A : Nat → Prop} {H0 : Heap} {I : Mi} {L : Ml}
theorem g_H {k n : Nat} (hK : gK D ad tc A s) (hG : gG D ad tc A H0 I L H locs) (hk : k < 98) (he : gc ad tc k (I k) (L k) = .inl (tc 0, n, .inl (I k))) {As : List Value} : PreS s H (va_Pc As (gH (ad k) (tc 0) n (I k))) As :=
  by
  have h : va_at D vwCl (ad k, .inl (tc 0, n, .inl (I k))) H := hG.1 k _ ((gW_at hk).trans (by rw [he]))
  exact g_pH h (hK.1.2 0 _ rfl).1
theorem g_ialdH (hx : p.tables.exec = Jvm.exec) (hb : c.code = cc) {a : Nat} {cA : ClassId} {n : Nat} {f : Nat → Int32} (h1 : H[a]? = some (vp_cell cA (n, .inl f))) (h2 : ArrOfT s cA .int) (j : Nat) {i : Int32} (hi : i = nI j) (hj : j < n) (hn : n < 2 ^ 31) (hdg : decode cc pc = .ok (.iaload, 1))
    (kk : W p l e R s m args below meth c H locs cells slots Q (F0 m (pc + 1) ls (.int (f j) :: rest))) : W p l e R s m args below meth c H locs cells slots Q (F0 m pc ls (.int i :: .ref a :: rest)) := by
  subst hi
  have hc : (nI j).toNatClampNeg = j := nI_clamp (by omega)
  have hin := vp_in_nI hj hn
  refine W.iald (v := .int (f j)) hx hb h1 (h2 n (fun j => .int (f j))) (fun q => by cases q) (by show ¬ (_ ∨ (arrV _ _ _).slots.size ≤ _); rw [arrV_size]; exact hin) (by show (arrV _ _ _).slots[_]? = _; rw [hc, arrV_read _ _ hj]) rfl rfl hdg kk
end GH
section GENH
variable {l : Launch} {y : MethodName} {ws ws' : List Cond} {rm : Room} {cc : ByteArray} {maxL : Nat} {ret : Option FieldType} {As : List Value} {Qc : Array Value → State → Outcome → State → Prop} {free : Addr → Prop} {a : Nat} {cA : ClassId} {N : Nat} {f : Nat → Int32}
theorem g_ofH (hy : plainName y.cls = true) (hw : ws = Cond.code y cc maxL ret :: ws') (hn : (lg_sl As).length ≤ maxL)
    (body : ∀ (p : Program) (e : Env) (s : State) (m : MethodId) (below : List Frame) (meth : Method) (c : Code), CallFix p m c cc maxL s As.toArray ws y.cls → meth.sig.returnType = ret → meth.locks = false → s.heap[a]? = some (vp_cell cA (N, .inl f)) → ArrOfT s cA .int → ∀ ls : Array Slot, lv_has ls maxL (lv_args 0 As) →
      W p l e (headSpec ws rm).room s m As.toArray below meth c s.heap [] 0 0 (MQ below Qc As.toArray s 0 0 free) (F0 m 0 ls [])) : Met l y ws rm (va_Pc As (gH a cA N f)) Qc 0 0 free := by
  refine Met.ofW (cc := cc) (maxL := maxL) (ret := ret) hy hw ?_
  intro p e s m args below meth c s₁ B hml hv
  obtain ⟨rfl, h1, h2⟩ := hv
  rw [lg_entry_eq]
  exact body p e s m below meth c ⟨B.exec, B.bytes, hml, findClass_of_methodNamed B.named, atoms_spec (ws := ws) B.pre⟩ B.returns B.notSynchronized h1 h2 _ (lv_entry As hn)
end GENH
theorem g_le {a b : Nat} (h : nI a ≤ nI b) (ha : a < 2 ^ 31) (hb : b < 2 ^ 31) : a ≤ b := (nI_leI ha hb).mp h
theorem g_nle {a b : Nat} (h : ¬ nI a ≤ nI b) (ha : a < 2 ^ 31) (hb : b < 2 ^ 31) : b < a := Nat.lt_of_not_le fun q => h ((nI_leI ha hb).mpr q)
theorem g_lt {a b : Nat} (h : nI a < nI b) (ha : a < 2 ^ 31) (hb : b < 2 ^ 31) : a < b := (nI_ltI ha hb).mp h
theorem g_nlt {a b : Nat} (h : ¬ nI a < nI b) (ha : a < 2 ^ 31) (hb : b < 2 ^ 31) : b ≤ a := Nat.le_of_not_lt fun q => h ((nI_ltI ha hb).mpr q)
theorem g_eq {a b : Nat} (h : nI a = nI b) (ha : a < 2 ^ 31) (hb : b < 2 ^ 31) : a = b := (nI_eq ha hb).mp h
theorem g_ne {a b : Nat} (h : ¬ nI a = nI b) (ha : a < 2 ^ 31) (hb : b < 2 ^ 31) : ¬ a = b := fun q => h (by rw [q])
theorem g_nne {a b : Nat} (h : ¬ ¬ nI a = nI b) (ha : a < 2 ^ 31) (hb : b < 2 ^ 31) : a = b := (nI_eq ha hb).mp (Decidable.of_not_not h)
theorem g_notnot {P : Prop} (h : ¬ ¬ P) : P := Classical.byContradiction h
/-- a contract of a method of the JDK that no entry runs -/
theorem g_ofF {l : Launch} {y : MethodName} {ws ws' : List Cond} {rm : Room} {cc : ByteArray} {maxL : Nat} {ret : Option FieldType} {As : List Value} {Qc : Array Value → State → Outcome → State → Prop} {free : Addr → Prop} (hy : plainFor y = true) (hw : ws = Cond.code y cc maxL ret :: ws') (hn : (lg_sl As).length ≤ maxL)
    (body : ∀ (p : Program) (e : Env) (s : State) (m : MethodId) (below : List Frame) (meth : Method) (c : Code), CallFix p m c cc maxL s As.toArray ws y.cls → meth.sig.returnType = ret → meth.locks = false → ∀ ls : Array Slot, lv_has ls maxL (lv_args 0 As) →
      W p l e (headSpec ws rm).room s m As.toArray below meth c s.heap [] 0 0 (MQ below Qc As.toArray s 0 0 free) (F0 m 0 ls [])) : Met l y ws rm (va_Pc As (fun _ => True)) Qc 0 0 free := by
  refine MetFree.of_bodySF (code := cc) (maxLocals := maxL) (ret := ret) hy ?_ ?_
  · intro args s m h hn
    obtain ⟨meth, c, h1, h2, h3, h4, h5, h6, -, -⟩ := Cond.code_spec hn (atoms_spec (ws := ws) h _ (by rw [hw]; exact List.mem_cons_self))
    exact ⟨meth, c, h1, h2, h3, h4, h5, h6⟩
  · intro p e s m args below meth c s₁ B hml hv _
    obtain ⟨rfl, -⟩ := hv
    have X₀ : Stand p l e (headSpec ws rm).room s m As.toArray below meth c s₁ [] 0 0 := Stand.of_body B
    have hh0 : s₁.heap = s.heap := by rw [B.state]; rfl
    have K := body p e s m below meth c ⟨B.exec, B.bytes, hml, findClass_of_methodNamed B.named, atoms_spec (ws := ws) B.pre⟩ B.returns B.notSynchronized _ (lv_entry As hn)
    rw [← lg_entry_eq] at K
    obtain ⟨t, a1, o, b1, b2, b3⟩ := K s₁ hh0 X₀
    exact ⟨t, o, a1, b1, b2, b3⟩
