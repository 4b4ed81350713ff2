/-! THE CLAIM OUT OF ONE WALK OF THE LAW'S BODY. Your part is whole_start (and what it stands on); all else here is the same for every law, but numbers. -/
def R_law : String := "NeighbourScoresLaw"
def lw_P (b : Addr) (xs : List Int32) (args : Array Value) (s : State) : Prop := args = #[.ref b] ∧ s.IntsAt b xs ∧ xs.length ≤ 2048 ∧ (Jvm.Cond.and given_1 narrow_1).before args s = true
def lw_Q (_ : Array Value) (s : State) (o : Outcome) (t : State) : Prop := o = .returned (some (.int 1)) ∧ Framed s o t [] 600000 7302250
def lw_Z (below : List Frame) (a : Array Value) (s : State) : State → Prop := fun t => ∃ o, t.status = .running ∧ Ended t below o ∧ lw_Q a s o t
/-- the law's own end, with 1 on the stack, nothing written that was there before, its room as the claim has it -/
theorem lw_ret {p : Program} {l : Launch} {e : Env} {s : State} {m : MethodId} {below : List Frame} {meth : Method} {c : Code} {b : Nat} (hx : p.tables.exec = Jvm.exec) (hb : c.code = code) (hr : meth.sig.returnType = ret) (hlocks : meth.locks = false) {pc : Nat} {H : Heap} {ls : Array Slot} (hdg : decode code pc = .ok (.ireturn, 1)) : W p l e room_1 s m #[Value.ref b] below meth c H [] 600000 7302250 (lw_Z below #[Value.ref b] s) (F0 m pc ls [.int 1]) := by
  intro T hT X
  obtain ⟨fs, hret, hrun, hended, hW, hframe⟩ := X.leave (v := some (.int 1)) (hlocks := hlocks) (fun h => by rw [hr] at h; cases h)
  have hmeth' : T.vm.method? m = some meth := X.method'
  refine ⟨T.setFrames fs, ?_, .returned (some (.int 1)), hrun, hended, rfl, ⟨_, rfl⟩, hW, hframe⟩
  jvm_step X.here [X.here.top, hx, hb, hdg, hmeth', hr, ret, narrow_b1]
  (try refine ⟨rfl, ?_⟩); (try refine ⟨rfl, ?_⟩)
  first | (intro acts; rw [hret _ acts rfl rfl rfl]) | rw [hret _ _ rfl rfl rfl]
  exact Steps.refl _
/-- what holds at the law's entry: the machine, the code, the tables' words (any of lw_tbl by 'hts w (by decide +kernel)'), the script of L ints xs at the cell b, what the Statement gives of the start (any of its parts by flat_of_before) -/
def lw_At (p : Program) (s : State) (m : MethodId) (meth : Method) (c : Code) (b L : Nat) (xs : Nat → Int32) : Prop :=
  p.tables.exec = Jvm.exec ∧ c.code = code ∧ meth.sig.returnType = ret ∧ c.maxLocals = 4 ∧ s.vm.findClass R_law = some m.cls ∧ (∀ w ∈ lw_tbl, w.before #[Value.ref b] s = true) ∧ va_X b L xs s s.heap ∧ b < s.heap.size ∧ meth.locks = false ∧ (Jvm.Cond.and given_1 narrow_1).before #[Value.ref b] s = true

theorem lw_guard {a L : Nat} (ha : a < 2 ^ 31) (hL : L ≤ 2048) : (Int32.ofNat L - 4 < nI a) ↔ L < a + 4 := by
  by_cases h : 4 ≤ L
  · have e : Int32.ofNat L - 4 = nI (L - 4) := by
      have h1 : Int32.ofNat L = nI (L - 4) + 4 := by
        have h2 := nI_add (L - 4) 4
        rw [show L - 4 + 4 = L by omega] at h2
        exact h2.symm
      rw [h1, Int32.add_sub_cancel]
    rw [e, nI_ltI (by omega) ha]
    omega
  · refine ⟨fun _ => by omega, fun _ => ?_⟩
    have hp := nI_pos ha
    rw [Int32.lt_iff_toInt_lt] at hp ⊢
    have h0 : (0 : Int32).toInt = 0 := by decide
    rw [h0] at hp
    rcases (show L = 0 ∨ L = 1 ∨ L = 2 ∨ L = 3 by omega) with rfl | rfl | rfl | rfl
    · have : (Int32.ofNat 0 - 4).toInt = -4 := by decide
      omega
    · have : (Int32.ofNat 1 - 4).toInt = -3 := by decide
      omega
    · have : (Int32.ofNat 2 - 4).toInt = -2 := by decide
      omega
    · have : (Int32.ofNat 3 - 4).toInt = -1 := by decide
      omega
theorem lw_cmp0 (x : Int64) : lg_cmp x x = 0 := by
  unfold lg_cmp
  rw [if_neg (by rw [gt_iff_lt, Int64.lt_iff_toInt_lt]; omega), if_pos rfl]
theorem lw_cmpeq {x y : Int64} (h : x = y) : lg_cmp x y = 0 := by rw [h, lw_cmp0]
theorem pu_redo_le (f : Nat → Int32) : ∀ (m : Nat) (T : Tb) (n : Nat), (pu_redo f m T n).2 ≤ n + m
  | 0, T, n => Nat.le_refl _
  | m + 1, T, n => by
    unfold pu_redo
    split
    · have := pu_redo_le f m (pu_T T ((f (pu_at3 (n + 1) + 1)).toNatClampNeg / 1000) ((f (pu_at3 (n + 1) + 1)).toNatClampNeg % 1000 / 10) ((f (pu_at3 (n + 1) + 1)).toNatClampNeg % 10)) (n + 1)
      omega
    · exact Nat.le_add_right _ _
theorem cu_rate (σ : Sa) (u i r : Int32) : (sp_rate σ u i r).2.2.2.1 ≤ σ.2.2.1 + 1 := by
  unfold sp_rate
  split
  · exact Nat.le_succ _
  · split
    · exact Nat.le_succ _
    · split
      · exact Nat.le_succ _
      · split
        · exact Nat.le_succ _
        · exact Nat.le_refl _
theorem cu_snapshot (σ : Sa) : (sp_snapshot σ).2.2.2.1 = σ.2.2.1 := by
  unfold sp_snapshot
  split
  · rfl
  · split <;> rfl
theorem cu_power (σ : Sa) (n : Int32) : (sp_power σ n).2.2.2.1 = σ.2.2.1 := by
  unfold sp_power
  split <;> rfl
theorem cu_spoil (σ : Sa) (a x : Int32) : (sp_spoil σ a x).2.2.2.1 = σ.2.2.1 := by
  unfold sp_spoil
  split <;> rfl
theorem cu_restart (σ : Sa) : (sp_restart σ).2.2.2.1 ≤ 1000000040 := by
  show (pu_redo σ.2.1.1 40 (pu_ldT σ.2.1.1) (pu_ldn σ.2.1.1).toNatClampNeg).2 ≤ _
  obtain ⟨n, hn, e⟩ := pu_ldn_n σ.2.1.1
  have := pu_redo_le σ.2.1.1 40 (pu_ldT σ.2.1.1) (pu_ldn σ.2.1.1).toNatClampNeg
  rw [e, nI_clamp (by omega)] at this
  rw [e, nI_clamp (by omega)]
  omega
