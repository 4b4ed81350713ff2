/-! counting, and who comes before whom -/
def pu_ct (P : Nat → Bool) : Nat → Nat
  | 0 => 0
  | n + 1 => pu_ct P n + (if P n = true then 1 else 0)
theorem pu_ct_congr {P Q : Nat → Bool} : ∀ {n : Nat}, (∀ x, x < n → P x = Q x) → pu_ct P n = pu_ct Q n
  | 0, _ => rfl
  | n + 1, h => by
    show _ + _ = _ + _
    rw [pu_ct_congr (fun x hx => h x (by omega)), h n (by omega)]
theorem pu_ct_le {P Q : Nat → Bool} : ∀ {n : Nat}, (∀ x, x < n → P x = true → Q x = true) → pu_ct P n ≤ pu_ct Q n
  | 0, _ => Nat.le_refl 0
  | n + 1, h => by
    have h1 := pu_ct_le (n := n) (fun x hx => h x (by omega))
    show _ + _ ≤ _ + _
    have h2 := h n (by omega)
    by_cases e : P n = true
    · rw [if_pos e, if_pos (h2 e)]
      omega
    · rw [if_neg e]
      omega
theorem pu_ct_lt {P Q : Nat → Bool} {k : Nat} (hk : Q k = true) (hk2 : ¬ P k = true) : ∀ {n : Nat}, k < n → (∀ x, x < n → P x = true → Q x = true) → pu_ct P n < pu_ct Q n
  | 0, h, _ => absurd h (Nat.not_lt_zero _)
  | n + 1, hn, h => by
    show _ + _ < _ + _
    have h2 := h n (by omega)
    by_cases e : k = n
    · subst e
      have h1 := pu_ct_le (n := k) (fun x hx => h x (by omega))
      rw [if_neg hk2, if_pos hk]
      omega
    · have h1 := pu_ct_lt hk hk2 (n := n) (by omega) (fun x hx => h x (by omega))
      by_cases e : P n = true
      · rw [if_pos e, if_pos (h2 e)]
        omega
      · rw [if_neg e]
        omega
theorem pu_ct_n (P : Nat → Bool) : ∀ n, pu_ct P n ≤ n
  | 0 => Nat.le_refl 0
  | n + 1 => by
    have := pu_ct_n P n
    show _ + _ ≤ _
    split <;> omega
def pu_ps (val : Nat → Int64) (x : Nat) : Bool := decide (0 < val x)
def pu_be (val : Nat → Int64) (x i : Nat) : Bool := decide (0 < val x ∧ (val i < val x ∨ (val x = val i ∧ x < i)))
def pu_rk (val : Nat → Int64) (m i : Nat) : Nat := pu_ct (fun x => pu_be val x i) m
def pu_sz (val : Nat → Int64) (m : Nat) : Nat := pu_ct (pu_ps val) m
theorem pu_be_iff {val : Nat → Int64} {x i : Nat} : pu_be val x i = true ↔ (0 : Int64).toInt < (val x).toInt ∧ ((val i).toInt < (val x).toInt ∨ ((val x).toInt = (val i).toInt ∧ x < i)) := by
  unfold pu_be
  rw [decide_eq_true_iff, Int64.lt_iff_toInt_lt, Int64.lt_iff_toInt_lt, ← Int64.toInt_inj]
theorem pu_ps_iff {val : Nat → Int64} {x : Nat} : pu_ps val x = true ↔ (0 : Int64).toInt < (val x).toInt := by
  unfold pu_ps
  rw [decide_eq_true_iff, Int64.lt_iff_toInt_lt]
theorem pu_be_irr {val : Nat → Int64} {i : Nat} : ¬ pu_be val i i = true := fun h => by
  have := pu_be_iff.mp h
  omega
theorem pu_be_tr {val : Nat → Int64} {x y z : Nat} (h1 : pu_be val x y = true) (h2 : pu_be val y z = true) : pu_be val x z = true := by
  have a := pu_be_iff.mp h1
  have b := pu_be_iff.mp h2
  exact pu_be_iff.mpr (by omega)
theorem pu_rk_lt {val : Nat → Int64} {m x i : Nat} (hx : x < m) (h : pu_be val x i = true) : pu_rk val m x < pu_rk val m i :=
  pu_ct_lt (P := fun y => pu_be val y x) (Q := fun y => pu_be val y i) (k := x) h pu_be_irr hx (fun y _ hy => pu_be_tr hy h)
theorem pu_rk_sz {val : Nat → Int64} {m i : Nat} (hi : i < m) (h : 0 < val i) : pu_rk val m i < pu_sz val m := by
  refine pu_ct_lt (P := fun y => pu_be val y i) (Q := pu_ps val) (k := i) (decide_eq_true h) pu_be_irr hi (fun y _ hy => ?_)
  have := pu_be_iff.mp hy
  exact pu_ps_iff.mpr this.1
theorem pu_rk_inj {val : Nat → Int64} {m i j : Nat} (hi : i < m) (hj : j < m) (pi : 0 < val i) (pj : 0 < val j) (h : pu_rk val m i = pu_rk val m j) : i = j := by
  rw [Int64.lt_iff_toInt_lt] at pi pj
  apply Classical.byContradiction
  intro e
  have h1 : pu_be val i j = true ∨ pu_be val j i = true := by
    by_cases q : (val j).toInt < (val i).toInt ∨ ((val i).toInt = (val j).toInt ∧ i < j)
    · exact Or.inl (pu_be_iff.mpr ⟨pi, q⟩)
    · exact Or.inr (pu_be_iff.mpr ⟨pj, by omega⟩)
  rcases h1 with q | q
  · have := pu_rk_lt hi q
    omega
  · have := pu_rk_lt hj q
    omega
theorem pu_sz_s (val : Nat → Int64) (m : Nat) : pu_sz val (m + 1) = pu_sz val m + (if 0 < val m then 1 else 0) := by
  show pu_ct (pu_ps val) m + (if pu_ps val m = true then 1 else 0) = pu_ct (pu_ps val) m + _
  unfold pu_ps
  by_cases h : 0 < val m
  · rw [if_pos (decide_eq_true h), if_pos h]
  · rw [if_neg (fun q => h (of_decide_eq_true q)), if_neg h]
/-- where the item m comes in among those before it -/
theorem pu_rk_new {val : Nat → Int64} {m i : Nat} (hi : i < m) (pi : 0 < val i) : (val i < val m ↔ pu_rk val m m ≤ pu_rk val m i) := by
  rw [Int64.lt_iff_toInt_lt] at pi ⊢
  constructor
  · intro h
    exact pu_ct_le (fun x _ hx => by
      have := pu_be_iff.mp hx
      exact pu_be_iff.mpr (by omega))
  · intro h
    apply Classical.byContradiction
    intro q
    have := pu_rk_lt (m := m) hi (pu_be_iff.mpr ⟨pi, by omega⟩ : pu_be val i m = true)
    omega
theorem pu_rk_s {val : Nat → Int64} {m i : Nat} (hi : i < m) : pu_rk val (m + 1) i = pu_rk val m i + (if 0 < val m ∧ val i < val m then 1 else 0) := by
  show pu_ct _ m + (if pu_be val m i = true then 1 else 0) = pu_ct _ m + _
  congr 1
  by_cases h : 0 < val m ∧ val i < val m
  · have h9 : pu_be val m i = true := decide_eq_true ⟨h.1, Or.inl h.2⟩
    rw [if_pos h, if_pos h9]
  · rw [if_neg h, if_neg]
    intro q
    have := of_decide_eq_true q
    rcases this.2 with a | a
    · exact h ⟨this.1, a⟩
    · omega
theorem pu_rk_ss (val : Nat → Int64) (m : Nat) : pu_rk val (m + 1) m = pu_rk val m m := by
  show pu_ct _ m + _ = _
  rw [if_neg pu_be_irr]
  rfl
theorem pu_rkle (val : Nat → Int64) (m : Nat) : pu_rk val m m ≤ pu_sz val m := pu_ct_le (fun x _ hx => pu_ps_iff.mpr (pu_be_iff.mp hx).1)
/-- a sorted list q of the items below m -/
def pu_RK (I : Mi) (L : Ml) (q : Nat) (val : Nat → Int64) (m : Nat) : Prop := I (41 + 3 * q) 2 = nI (pu_sz val m) ∧ (∀ i, i < m → 0 < val i → I (42 + 3 * q) (pu_rk val m i) = nI i ∧ L (43 + 3 * q) (pu_rk val m i) = val i) ∧ ∀ p, p < pu_sz val m → ∃ i, i < m ∧ 0 < val i ∧ pu_rk val m i = p
theorem pu_RK_mem {I I1 : Mi} {L L1 : Ml} {q : Nat} {val : Nat → Int64} {m : Nat} (h : pu_RK I L q val m) (h1 : I1 (41 + 3 * q) = I (41 + 3 * q)) (h2 : I1 (42 + 3 * q) = I (42 + 3 * q)) (h3 : L1 (43 + 3 * q) = L (43 + 3 * q)) : pu_RK I1 L1 q val m := by
  unfold pu_RK
  rw [h1, h2, h3]
  exact h
theorem pu_ct0 : ∀ n, pu_ct (fun _ => false) n = 0
  | 0 => rfl
  | n + 1 => by
    show pu_ct _ n + _ = 0
    rw [pu_ct0 n]
    rfl
theorem pu_RK_0 {I : Mi} {L : Ml} {q : Nat} {val : Nat → Int64} (h : I (41 + 3 * q) 2 = 0) : pu_RK I L q val 0 := ⟨h, fun _ h => absurd h (Nat.not_lt_zero _), fun _ h => absurd h (Nat.not_lt_zero _)⟩
theorem pu_sz0 (m : Nat) : pu_sz (fun _ => 0) m = 0 := by
  unfold pu_sz
  have : pu_ps (fun _ => 0) = fun _ => false := by
    funext x
    unfold pu_ps
    exact decide_eq_false (show ¬ (0 : Int64) < 0 by decide)
  rw [this]
  exact pu_ct0 m
theorem pu_RK_z {I : Mi} {L : Ml} {q : Nat} {m : Nat} (h : I (41 + 3 * q) 2 = 0) : pu_RK I L q (fun _ => 0) m := by
  refine ⟨by rw [pu_sz0]; exact h, fun i _ hp => absurd hp (by show ¬ (0 : Int64) < 0; decide), fun p hp => ?_⟩
  rw [pu_sz0] at hp
  exact absurd hp (Nat.not_lt_zero _)
/-- one more in the row -/
def pu_ins {α : Type} (f : Nat → α) (n r : Nat) (x : α) (f1 : Nat → α) : Prop := ∀ p, p ≤ n → f1 p = if p < r then f p else if p = r then x else f (p - 1)
theorem pu_RK_add {I I1 : Mi} {L L1 : Ml} {q : Nat} {val : Nat → Int64} {m : Nat} (h : pu_RK I L q val m) (hv : 0 < val m) (h1 : I1 (41 + 3 * q) 2 = nI (pu_sz val m + 1)) (h2 : pu_ins (I (42 + 3 * q)) (pu_sz val m) (pu_rk val m m) (nI m) (I1 (42 + 3 * q))) (h3 : pu_ins (L (43 + 3 * q)) (pu_sz val m) (pu_rk val m m) (val m) (L1 (43 + 3 * q))) : pu_RK I1 L1 q val (m + 1) := by
  obtain ⟨a1, a2, a3⟩ := h
  have hz : pu_sz val (m + 1) = pu_sz val m + 1 := by rw [pu_sz_s, if_pos hv]
  refine ⟨by rw [hz]; exact h1, fun i hi hp => ?_, fun p hp => ?_⟩
  · by_cases e : i = m
    · subst e
      rw [pu_rk_ss, h2 _ (pu_rkle _ _), h3 _ (pu_rkle _ _), if_neg (by omega), if_pos rfl, if_neg (by omega), if_pos rfl]
      exact ⟨rfl, rfl⟩
    · have hi' : i < m := by omega
      have b := pu_rk_new hi' hp
      have c := pu_rk_sz hi' hp
      have d := a2 i hi' hp
      rw [pu_rk_s hi']
      by_cases g : val i < val m
      · have := b.mp g
        rw [if_pos ⟨hv, g⟩, h2 _ (by omega), h3 _ (by omega), if_neg (by omega), if_neg (by omega), if_neg (by omega), if_neg (by omega), Nat.add_sub_cancel]
        exact d
      · have : pu_rk val m i < pu_rk val m m := Nat.lt_of_not_le fun z => g (b.mpr z)
        rw [if_neg (fun z => g z.2), h2 _ (by omega), h3 _ (by omega), if_pos (by omega), if_pos (by omega)]
        exact d
  · rw [hz] at hp
    by_cases e : p = pu_rk val m m
    · exact ⟨m, by omega, hv, by rw [pu_rk_ss, e]⟩
    · have hr := pu_rkle val m
      by_cases g : p < pu_rk val m m
      · obtain ⟨i, hi, hpi, he⟩ := a3 p (by omega)
        have b := pu_rk_new hi hpi
        refine ⟨i, by omega, hpi, ?_⟩
        rw [pu_rk_s hi, if_neg (fun z => by have := b.mp z.2; omega)]
        exact he
      · obtain ⟨i, hi, hpi, he⟩ := a3 (p - 1) (by omega)
        have b := pu_rk_new hi hpi
        refine ⟨i, by omega, hpi, ?_⟩
        rw [pu_rk_s hi, if_pos ⟨hv, b.mpr (by omega)⟩]
        omega
theorem pu_RK_not {I : Mi} {L : Ml} {q : Nat} {val : Nat → Int64} {m : Nat} (h : pu_RK I L q val m) (hv : ¬ 0 < val m) : pu_RK I L q val (m + 1) := by
  obtain ⟨a1, a2, a3⟩ := h
  have hz : pu_sz val (m + 1) = pu_sz val m := by rw [pu_sz_s, if_neg hv]; rfl
  have hr : ∀ i, i < m → pu_rk val (m + 1) i = pu_rk val m i := fun i hi => by rw [pu_rk_s hi, if_neg (fun z => hv z.1)]; rfl
  refine ⟨by rw [hz]; exact a1, fun i hi hp => ?_, fun p hp => ?_⟩
  · have hi' : i < m := by
      rcases Nat.lt_or_ge i m with q | q
      · exact q
      · rw [show i = m by omega] at hp
        exact absurd hp hv
    rw [hr i hi']
    exact a2 i hi' hp
  · rw [hz] at hp
    obtain ⟨i, hi, hpi, he⟩ := a3 p hp
    exact ⟨i, by omega, hpi, by rw [hr i hi]; exact he⟩
/-- the values in the row, against a new one -/
theorem pu_RK_cut {I : Mi} {L : Ml} {q : Nat} {val : Nat → Int64} {m : Nat} (h : pu_RK I L q val m) : ∀ p, p < pu_sz val m → (L (43 + 3 * q) p < val m ↔ pu_rk val m m ≤ p) := by
  intro p hp
  obtain ⟨i, hi, hpi, he⟩ := h.2.2 p hp
  rw [← he, (h.2.1 i hi hpi).2]
  exact pu_rk_new hi hpi
/-- entry p of the list -/
def pu_en (val : Nat → Int64) (p : Nat) : Option Nat := (List.range 16).find? (fun i => pu_ps val i && pu_rk val 16 i == p)
theorem pu_en_some {val : Nat → Int64} {p i : Nat} (h : pu_en val p = some i) : i < 16 ∧ 0 < val i ∧ pu_rk val 16 i = p := by
  have h1 := List.find?_some h
  have h2 := List.mem_of_find?_eq_some h
  simp only [pu_ps, Bool.and_eq_true, decide_eq_true_eq, beq_iff_eq] at h1
  exact ⟨List.mem_range.mp h2, h1.1, h1.2⟩
theorem pu_en_of {val : Nat → Int64} {p i : Nat} (hi : i < 16) (hp : 0 < val i) (hr : pu_rk val 16 i = p) : pu_en val p = some i := by
  cases h : pu_en val p with
  | none =>
    have := List.find?_eq_none.mp h i (List.mem_range.mpr hi)
    simp [pu_ps, hp, hr] at this
  | some j =>
    obtain ⟨a, b, c⟩ := pu_en_some h
    rw [pu_rk_inj a hi b hp (c.trans hr.symm)]
theorem pu_en_none {val : Nat → Int64} {p : Nat} (h : ∀ i, i < 16 → 0 < val i → ¬ pu_rk val 16 i = p) : pu_en val p = none := by
  cases e : pu_en val p with
  | none => rfl
  | some j =>
    obtain ⟨a, b, c⟩ := pu_en_some e
    exact absurd c (h j a b)
def pu_ent (val : Nat → Int64) (p : Int32) : Int32 := if p < 0 then -1 else match pu_en val p.toNatClampNeg with
  | some i => nI i
  | none => -1
def pu_vl (val : Nat → Int64) (p : Nat) : Int64 := match pu_en val p with
  | some i => val i
  | none => 0
theorem pu_szle (val : Nat → Int64) (m : Nat) : pu_sz val m ≤ m := pu_ct_n _ _
theorem pu_RK_in {I : Mi} {L : Ml} {q : Nat} {val : Nat → Int64} {p : Nat} (h : pu_RK I L q val 16) (hp : p < pu_sz val 16) : ∃ i, pu_en val p = some i ∧ i < 16 ∧ I (42 + 3 * q) p = nI i ∧ L (43 + 3 * q) p = val i := by
  obtain ⟨i, hi, hpi, he⟩ := h.2.2 p hp
  have := h.2.1 i hi hpi
  rw [he] at this
  exact ⟨i, pu_en_of hi hpi he, hi, this.1, this.2⟩
theorem pu_en_out {val : Nat → Int64} {p : Nat} (h : pu_sz val 16 ≤ p) : pu_en val p = none := pu_en_none fun i hi hp e => by
  have := pu_rk_sz hi hp
  omega
theorem pu_ent_in {I : Mi} {L : Ml} {q : Nat} {val : Nat → Int64} {p : Nat} (h : pu_RK I L q val 16) (hp : p < pu_sz val 16) : pu_ent val (nI p) = I (42 + 3 * q) p := by
  obtain ⟨i, e, hi, h1, h2⟩ := pu_RK_in h hp
  have := pu_szle val 16
  unfold pu_ent
  rw [if_neg (nI_pos (by omega)), nI_clamp (by omega), e, h1]
theorem pu_ent_out {val : Nat → Int64} {p : Int32} (h : ¬ gR p (pu_sz val 16)) : pu_ent val p = -1 := by
  unfold pu_ent
  by_cases e : p < 0
  · rw [if_pos e]
  · rw [if_neg e]
    obtain ⟨j, hj, rfl⟩ := nI_of e
    rw [nI_clamp hj, pu_en_out (Nat.le_of_not_lt fun z => h (gR_n z))]
theorem pu_vl_in {I : Mi} {L : Ml} {q : Nat} {val : Nat → Int64} {p : Nat} (h : pu_RK I L q val 16) (hp : p < pu_sz val 16) : pu_vl val p = L (43 + 3 * q) p := by
  obtain ⟨i, e, hi, h1, h2⟩ := pu_RK_in h hp
  unfold pu_vl
  rw [e, h2]
theorem pu_vl_out {val : Nat → Int64} {p : Nat} (h : pu_sz val 16 ≤ p) : pu_vl val p = 0 := by
  unfold pu_vl
  rw [pu_en_out h]
/-- the two kinds of lists -/
def pu_vn (T : Tb) (j : Nat) : Nat → Int64 := fun i => (nI (pu_w T i j)).toInt64
def pu_vb (T : Tb) (u : Nat) : Nat → Int64 := fun i => if T u i = 0 then pu_sc T u i 16 else 0
def pu_vr (T : Tb) (u j : Nat) : Nat → Int64 := if T u j = 0 then fun _ => 0 else pu_vn T j
theorem pu_cmp_gt {x y : Int64} (h : ¬ lg_cmp x y ≤ 0) : y < x := by
  unfold lg_cmp at h
  split at h
  · assumption
  · split at h
    · exact absurd (by decide) h
    · exact absurd (by decide) h
theorem pu_cmp_le {x y : Int64} (h : lg_cmp x y ≤ 0) : ¬ y < x := fun q => by
  unfold lg_cmp at h
  rw [if_pos q] at h
  exact absurd h (by decide)
theorem pu_cmp_nge {x y : Int64} (h : ¬ 0 ≤ lg_cmp x y) : x < y := Int64.not_le.mp (fun q => h ((lg_cmp_ge x y).mpr q))
theorem pu_cmp_ge {x y : Int64} (h : 0 ≤ lg_cmp x y) : ¬ x < y := Int64.not_lt.mpr ((lg_cmp_ge x y).mp h)
/-- what Ranking.add does -/
def pu_addP (I : Mi) (L : Ml) (q x : Nat) (v : Int64) (n r : Nat) (I1 : Mi) (L1 : Ml) : Prop := (¬ 0 < v ∧ I = I1 ∧ L = L1) ∨ (0 < v ∧ I1 (41 + 3 * q) 2 = nI (n + 1) ∧ pu_ins (I (42 + 3 * q)) n r (nI x) (I1 (42 + 3 * q)) ∧ pu_ins (L (43 + 3 * q)) n r v (L1 (43 + 3 * q)) ∧ (∀ a, a ≠ 41 + 3 * q → a ≠ 42 + 3 * q → I1 a = I a) ∧ ∀ a, a ≠ 43 + 3 * q → L1 a = L a)
theorem pu_addRK {I I1 : Mi} {L L1 : Ml} {q : Nat} {val : Nat → Int64} {m : Nat} (h : pu_RK I L q val m) (P : pu_addP I L q m (val m) (pu_sz val m) (pu_rk val m m) I1 L1) : pu_RK I1 L1 q val (m + 1) ∧ ∀ a, a < 41 + 3 * q ∨ 43 + 3 * q < a → I1 a = I a ∧ L1 a = L a := by
  rcases P with ⟨h1, rfl, rfl⟩ | ⟨h1, h2, h3, h4, h5, h6⟩
  · exact ⟨pu_RK_not h h1, fun _ _ => ⟨rfl, rfl⟩⟩
  · exact ⟨pu_RK_add h h1 h2 h3 h4, fun a ha => ⟨h5 a (by omega) (by omega), h6 a (by omega)⟩⟩
/-- the shifted row, when the new one stands -/
theorem pu_ins_of {α : Type} {f g h : Nat → α} {n r : Nat} {x : α} (h1 : ∀ p, p < r → g p = f p) (h2 : ∀ p, r < p → p ≤ n → g p = f (p - 1)) (h3 : ∀ p, p ≠ r → h p = g p) (h4 : h r = x) : pu_ins f n r x h := by
  intro p hp
  by_cases e : p < r
  · rw [if_pos e, h3 p (by omega), h1 p e]
  · rw [if_neg e]
    by_cases e2 : p = r
    · rw [if_pos e2, e2, h4]
    · rw [if_neg e2, h3 p e2, h2 p (by omega) hp]
theorem gV_ne {L L1 : Ml} {k j : Nat} {x : Int64} (h : gV L k j x L1) {b : Nat} (hb : b ≠ j) : L1 k b = L k b := by
  rw [h.1]
  exact if_neg hb
theorem gV_eq {L L1 : Ml} {k j : Nat} {x : Int64} (h : gV L k j x L1) : L1 k j = x := by
  rw [h.1]
  exact if_pos rfl
