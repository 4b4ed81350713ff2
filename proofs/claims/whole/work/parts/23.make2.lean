theorem vr_outer (c : ClassId) (N h0 : Nat) : ∀ i : Nat, Jvm.Free.Multi.outerC c N h0 i = arrV c N (fun j => va_rf (if j < i then some (h0 + 1 + j) else none))
  | 0 => by
    show ({ cls := c, slots := Array.replicate N .null, vm := .none } : Cell) = _
    rw [arrV_new]
    refine congrArg (arrV c N) (funext fun j => ?_)
    simp [va_rf]
  | i + 1 => by
    show (Jvm.Free.Multi.outerC c N h0 i).setSlot i (.ref (h0 + 1 + i)) = _
    rw [vr_outer c N h0 i, arrV_store]
    refine congrArg (arrV c N) (funext fun j => ?_)
    by_cases e : j = i
    · subst e
      simp [updV, va_rf]
    · by_cases h : j < i
      · simp [updV, e, h, Nat.lt_succ_of_lt h]
      · simp [updV, e, h, show ¬ j < i + 1 by omega]
def kOut (b0 N n : Nat) : Nat → Option Nat := fun i => if i < N then some (b0 + n + 1 + i) else none
theorem kP_tail {D : va_G} {b0 n : Nat} {P : List va_E} {e : va_E} {H : Heap} (h : va_P D vwCl (kW b0 (P ++ [e])) H) (hn : P.length = n) : va_P D vwCl (kW (b0 + n) [e]) H := by
  intro k q hq
  obtain ⟨h1, h2⟩ := kW_of hq
  have hk : k < 1 := (List.getElem?_eq_some_iff.mp h1).1
  obtain rfl : k = 0 := by omega
  have h3 : (P ++ [e])[n]? = some e := by rw [← hn, List.getElem?_append_right (Nat.le_refl _), Nat.sub_self]; rfl
  have h4 := h n _ (kW_at h3)
  obtain ⟨a, b⟩ := q
  simp at h1 h2
  subst h1
  subst h2
  exact h4
section KROW2
variable {p : Program} {l : Launch} {e : Env} {R : Room} {s : State} {m : MethodId} {args : Array Value} {below : List Frame} {meth : Method} {c : Code} {H : Heap} {locs : List Loc} {cells slots : Nat} {Q : State → Prop}
variable {cc : ByteArray} {pc : Nat} {ls : Array Slot} {rest st0 : List Value} {D : va_G} {tc : Nat → ClassId} {b0 : Nat} {H0 : Heap} {es : List va_E} {a : Array Value}
theorem k_iald (hx : p.tables.exec = Jvm.exec) (hb : c.code = cc) (hK : kK D tc b0 H0 s) (hG : kG D b0 H0 es H locs) (i : Nat) {n : Nat} {f : Nat → Int32} (he : es[i]? = some (.inl (tc 0, n, .inl f))) (j : Nat) {z : Int32} (hz : z = nI j) (hj : j < n) (hn : n < 2 ^ 31) (hdg : decode cc pc = .ok (.iaload, 1))
    (kk : W p l e R s m args below meth c H locs cells slots Q (F0 m (pc + 1) ls (.int (f j) :: rest))) : W p l e R s m args below meth c H locs cells slots Q (F0 m pc ls (.int z :: .ref (b0 + i) :: rest)) := by
  subst hz
  refine va_iald hx hb hK.1 hG.2.1 i 0 (kW_at he) rfl (vp_in_nI hj hn) hdg ?_
  rw [nI_clamp (by omega)]
  exact kk
theorem k_pV {As : List Value} (hK : kK D tc b0 H0 s) (hG : kG D b0 H0 es H locs) (i : Nat) {ci : Nat} {fs : List Value} (he : es[i]? = some (.inr (ci, fs))) {q : vw_C} (hc : vwCl[ci]? = some q) : PreV s H q.1 (b0 + i) (va_Pc (.ref (b0 + i) :: As) (kPc D tc b0 es)) As :=
  ⟨k_fb, va_recv hK.1 hG.2.1 hc (kW_at he), fun U hU hW => ⟨rfl, by rw [hU]; exact hG.1, by rw [hU]; exact hG.2.1, va_K.moved hW.alike hK.1, kNs.moved hW hK.2.1⟩⟩
theorem k_pSP {As : List Value} {P : List va_E} {v : va_E} {n : Nat} (hK : kK D tc b0 H0 s) (hG : kG D b0 H0 (P ++ [v]) H locs) (hn : P.length = n) : PreS s H (va_Pc As (kPc D tc (b0 + n) [v])) As :=
  ⟨k_fb, fun U hU hW => ⟨rfl, by rw [hU, hG.1, List.length_append, hn]; simp; omega, by rw [hU]; exact kP_tail hG.2.1 hn, va_K.moved hW.alike hK.1, kNs.moved hW hK.2.1⟩⟩
theorem k_callP {mc ms : Nat} {es1 P : List va_E} {v : va_E} {n : Nat} (hr : va_Run p l e R s m args below meth c H locs cells slots mc ms (F0 m pc ls st0) rest (kQv D (b0 + n) es1 a) (kA (b0 + n))) (hG : kG D b0 H0 (P ++ [v]) H locs) (hn : P.length = n)
    (kk : ∀ (H1 : Heap) (locs1 : List Loc), kG D b0 H0 (P ++ es1) H1 locs1 → W p l e R s m args below meth c H1 locs1 (cells + mc) (slots + ms) Q (F0 m (pc + 3) ls rest)) : W p l e R s m args below meth c H locs cells slots Q (F0 m pc ls st0) := by
  intro T hT X
  obtain ⟨w, st₀, t, T', Lc, h0, X', hL, e1, e2, ⟨hv, hz, hb, hF⟩, st⟩ := hr T hT X
  cases hv
  obtain ⟨hz2, hk⟩ := hF
  rw [h0] at hz2 hk
  have hP0 : va_P D vwCl (kW b0 P) H := fun k q hq => by
    obtain ⟨h1, h2⟩ := kW_of hq
    have hl := (List.getElem?_eq_some_iff.mp h1).1
    have h3 := hG.2.1 k _ (kW_at (b0 := b0) (by rw [List.getElem?_append_left hl]; exact h1))
    rw [← h2] at h3
    exact h3
  have hP1 : va_P D vwCl (kW b0 P) t.heap := hP0.kept (fun k x hx => hk x.1 ((hP0 k x hx).lt) (fun h => by
    obtain ⟨h1, h2⟩ := kW_of hx
    have hl := (List.getElem?_eq_some_iff.mp h1).1
    unfold kA at h
    omega))
  have hP2 : va_P D vwCl (kW b0 (P ++ es1)) t.heap := fun k q hq => by
    obtain ⟨h1, h2⟩ := kW_of hq
    by_cases hl : k < P.length
    · rw [List.getElem?_append_left hl] at h1
      have h3 := hP1 k _ (kW_at h1)
      rw [← h2] at h3
      exact h3
    · rw [List.getElem?_append_right (by omega)] at h1
      have h3 := hb (k - P.length) _ (kW_at h1)
      rw [show b0 + n + (k - P.length) = q.1 by omega] at h3
      exact h3
  obtain ⟨t2, a1, b1⟩ := kk T'.heap (locs ++ Lc) ⟨by rw [e1, hz, List.length_append]; omega, by rw [e1]; exact hP2, Nat.le_trans hG.2.2.1 (by rw [e1]; exact hz2), fun q h1 h2 => by
    rw [e1, hk q (Nat.lt_of_lt_of_le h1 hG.2.2.1) (fun h => h2 (by unfold kA at h ⊢; omega))]
    exact hG.2.2.2.1 q h1 h2, fun q hq => by
    rcases List.mem_append.mp hq with h | h
    · exact hG.2.2.2.2 q h
    · have := hL q h
      unfold kA at this ⊢
      omega⟩ T' rfl X'
  exact ⟨t2, st t2 a1, b1⟩
theorem k_newM (hx : p.tables.exec = Jvm.exec) (hb : c.code = cc) {own : String} {index : Nat} (hown : s.vm.findClass own = some m.cls) (hclink : (Cond.classLink own index "[[I").before args s = true) (harr : (Cond.arrayClass .int).before args s = true) (hK : kK D tc b0 H0 s) (hG : kG D b0 H0 es H locs)
    {n k : Int32} {N' K' : Nat} (hn : n = nI N') (hk : k = nI K') (hN : N' < 1000) (hM : K' < 1000) (hcells : cells + (1 + N') ≤ R.cells) (hslots : slots + (N' + N' * K') ≤ R.slots) (hdg : decode cc pc = .ok (.multianewarray index 2, 4))
    (kk : ∀ H1 : Heap, kG D b0 H0 (es ++ (.inl (tc 3, N', .inr (.inr (.inr (.inr (kOut b0 N' es.length))))) :: List.replicate N' (.inl (tc 0, K', .inl (fun _ => 0))))) H1 locs → W p l e R s m args below meth c H1 locs (cells + 1 + N') (slots + N' + N' * K') Q (F0 m (pc + 4) ls (.ref (b0 + es.length) :: rest))) : W p l e R s m args below meth c H locs cells slots Q (F0 m pc ls (.int k :: .int n :: rest)) := by
  subst hn
  subst hk
  have hcN : (nI N').toNatClampNeg = N' := nI_clamp (by omega)
  have hcK : (nI K').toNatClampNeg = K' := nI_clamp (by omega)
  have hsA : "[" ++ (FieldType.array FieldType.int).toString = "[[I" := by decide +kernel
  have hsC : (FieldType.array FieldType.int).toString = "[I" := by decide +kernel
  intro T hT Xs
  obtain ⟨vm₁, cA, comp, -, fA, fC, hO, -, X', step⟩ := Xs.multianewarray2F hx hown (ty := .int) (by rw [hsA]; exact hclink) hK.2.1.2.2.2.2.2.2 harr (g := F0 m pc ls (.int (nI K') :: .int (nI N') :: rest)) rfl (by rw [hb]; exact hdg) rfl (nI_pos (by omega)) (nI_pos (by omega)) (by rw [hcN]; omega) (by rw [hcK]; show K' * 4 ≤ _; omega) (by rw [hcK]; omega) rfl rfl (by rw [hcN]; exact hcells) (by rw [hcN, hcK]; exact hslots)
  rw [hcN, hcK] at X' step
  have e3 : cA = tc 3 := Option.some.inj (fA.symm.trans (hK.1.2 3 _ rfl).2)
  have e0 : comp = tc 0 := by
    have h := va_nm_int (hK.1.2 0 _ rfl).2
    rw [hsC] at fC
    exact Option.some.inj (fC.symm.trans h)
  subst e3
  subst e0
  generalize hF : Jvm.Free.Multi.fill (T.setVm vm₁) (tc 3) (tc 0) N' K' (defaultValue .int) N' = F at X' step
  have hTh : (T.setVm vm₁).heap = H := hT
  obtain ⟨f1, f2, -, -⟩ := Jvm.Free.Multi.fill_facts (T.setVm vm₁) (tc 3) (tc 0) N' K' (defaultValue .int) N'
  rw [hF, hTh] at f1 f2
  have hold : ∀ x : Nat, x < H.size → F.heap[x]? = H[x]? := fun x hx => by
    have := Jvm.Free.Multi.fill_old (T.setVm vm₁) (tc 3) (tc 0) N' K' (defaultValue .int) (a := x) (by rw [hTh]; exact hx) N'
    rw [hF, hTh] at this
    exact this
  have hrow : ∀ j : Nat, j < N' → F.heap[H.size + 1 + j]? = some (vp_cell (tc 0) (K', .inl (fun _ => 0))) := fun j hj => by
    have := Jvm.Free.Multi.fill_inner (T.setVm vm₁) (tc 3) (tc 0) N' K' (defaultValue .int) N' j hj
    rw [hF, hTh] at this
    rw [this, vp_cell_i]
    show some ({ cls := tc 0, slots := Array.replicate K' (.int 0), vm := .none } : Cell) = _
    rw [arrV_new]
  have hout : Jvm.Free.Multi.outerC (tc 3) N' H.size N' = vp_cell (tc 3) (N', .inr (.inr (.inr (.inr (kOut b0 N' es.length))))) := by
    rw [vp_cell_q, hG.1]
    exact vr_outer (tc 3) N' (b0 + es.length) N'
  rw [hout] at f2
  have hP : va_P D vwCl (kW b0 (es ++ (.inl (tc 3, N', .inr (.inr (.inr (.inr (kOut b0 N' es.length))))) :: List.replicate N' (.inl (tc 0, K', .inl (fun _ => 0)))))) F.heap := fun k q hq => by
    obtain ⟨h1, h2⟩ := kW_of hq
    by_cases hl : k < es.length
    · rw [List.getElem?_append_left hl] at h1
      have h3 := (hG.2.1.kept (fun k x hx => hold x.1 ((hG.2.1 k x hx).lt))) k _ (kW_at h1)
      rw [← h2] at h3
      exact h3
    · rw [List.getElem?_append_right (by omega)] at h1
      obtain ⟨q1, q2⟩ := q
      dsimp only at h1 h2
      by_cases h0 : k = es.length
      · subst h0
        rw [Nat.sub_self] at h1
        cases h1
        show F.heap[q1]? = some (vp_cell _ _)
        rw [h2, ← hG.1]
        exact f2
      · rw [show k - es.length = (k - es.length - 1) + 1 by omega, List.getElem?_cons_succ] at h1
        have hlt := (List.getElem?_eq_some_iff.mp h1).1
        rw [List.length_replicate] at hlt
        rw [List.getElem?_replicate, if_pos hlt] at h1
        cases h1
        show F.heap[q1]? = some (vp_cell _ _)
        have := hrow (k - es.length - 1) hlt
        rw [hG.1, show b0 + es.length + 1 + (k - es.length - 1) = q1 by omega] at this
        exact this
  obtain ⟨t2, a1, b1⟩ := kk F.heap ⟨by rw [f1, hG.1]; simp; omega, hP, Nat.le_trans hG.2.2.1 (by rw [f1]; omega), fun q h1 h2 => (hold q (Nat.lt_of_lt_of_le h1 hG.2.2.1)).trans (hG.2.2.2.1 q h1 h2), hG.2.2.2.2⟩ F rfl X'
  refine ⟨t2, step t2 ?_, b1⟩
  rw [show T.heap.size = b0 + es.length by rw [hT]; exact hG.1]
  exact a1
end KROW2
theorem k_ofV {l : Launch} {y : MethodName} {ws ws' : List Cond} {rm : Room} {cc : ByteArray} {maxL : Nat} {ret : Option FieldType} {As : List Value} {D : va_G} {tc : Nat → ClassId} {b0 : Nat} {es : List va_E} {Qc : Array Value → State → Outcome → State → Prop} (hy : plainName y.cls = true) (hw : ws = Cond.code y cc maxL ret :: ws') (hn : (lg_sl As).length ≤ maxL)
    (body : ∀ (p : Program) (e : Env) (s : State) (m : MethodId) (below : List Frame) (meth : Method) (c : Code), CallFix p m c cc maxL s As.toArray ws y.cls → meth.sig.returnType = ret → meth.locks = false → kK D tc s.heap.size s.heap s → va_P D vwCl (kW b0 es) s.heap → kG D b0 s.heap es s.heap [] ∧ kK D tc b0 s.heap s → ∀ ls : Array Slot, lv_has ls maxL (lv_args 0 As) →
      W p l e (headSpec ws rm).room s m As.toArray below meth c s.heap [] 0 0 (MQ below Qc As.toArray s 0 0 gN) (F0 m 0 ls [])) : Met l y ws rm (va_Pc As (kPc D tc b0 es)) Qc 0 0 gN := by
  refine Met.ofW (cc := cc) (maxL := maxL) (ret := ret) hy hw ?_
  intro p e s m args below meth c s₁ B hml hv
  obtain ⟨rfl, hz, hP, hK, hN⟩ := hv
  rw [lg_entry_eq]
  exact body p e s m below meth c ⟨B.exec, B.bytes, hml, findClass_of_methodNamed B.named, atoms_spec (ws := ws) B.pre⟩ B.returns B.notSynchronized ⟨hK, hN, Nat.le_refl _⟩ hP ⟨⟨hz, hP, va_S.rf⟩, ⟨hK, hN, by rw [hz]; exact Nat.le_add_right _ _⟩⟩ _ (lv_entry As hn)
