/-! snapshots and records: what stands on the disk -/
theorem pu_xor40 {n : Nat} (h : n < 2 ^ 31) : 0 ≤ (nI n ^^^ 40) := by
  rw [Int32.le_iff_toInt_le]
  show (0 : Int) ≤ (nI n ^^^ 40).toBitVec.toInt
  rw [Int32.toBitVec_xor]
  have h1 : (nI n).toBitVec.msb = false := by
    have := nI_toInt h
    rw [BitVec.msb_eq_toInt]
    have h2 : (nI n).toBitVec.toInt = (n : Int) := this
    rw [h2]
    simp
  have h2 : (40 : Int32).toBitVec.msb = false := by decide
  have h3 : ((nI n).toBitVec ^^^ (40 : Int32).toBitVec).msb = false := by rw [BitVec.msb_xor, h1, h2]; rfl
  have h4 := BitVec.msb_eq_toInt (x := (nI n).toBitVec ^^^ (40 : Int32).toBitVec)
  rw [h3] at h4
  have := of_decide_eq_false h4.symm
  have e0 : (0 : Int32).toInt = 0 := by decide
  omega
def pu_good (f : Nat → Int32) (st : Nat) : Bool := decide (¬ f st < 0 ∧ ¬ 1000000000 < f st ∧ f (st + 25) = pu_chk (fun j => f (st + j)) 1 25 ||| 1)
def pu_nw (f : Nat → Int32) : Nat := if pu_good f 0 && pu_good f 26 then (if f 0 < f 26 then 1 else 0) else if pu_good f 0 then 0 else if pu_good f 26 then 1 else 2
def pu_row0 (num : Int32) (T : Tb) : Nat → Int32 := fun j => if j = 0 then num else nI (pu_pk (fun x => T ((j - 1) / 2) (8 * ((j - 1) % 2) + x)) 8)
def pu_row (num : Int32) (T : Tb) : Nat → Int32 := fun j => if j = 25 then pu_chk (pu_row0 num T) 1 25 ||| 1 else pu_row0 num T j
def pu_wo (f : Nat → Int32) : Nat := if pu_nw f = 1 then 0 else 1
def pu_ld (f : Nat → Int32) (st : Nat) : Tb := fun u i => pu_nib (f (st + 1 + 2 * u + i / 8)) (i % 8)
def pu_ldT (f : Nat → Int32) : Tb := if pu_nw f = 2 then fun _ _ => 0 else pu_ld f (26 * pu_nw f)
def pu_ldn (f : Nat → Int32) : Int32 := if pu_nw f = 2 then 0 else f (26 * pu_nw f)
theorem pu_nw_le (f : Nat → Int32) : pu_nw f ≤ 2 := by
  unfold pu_nw
  split
  · split <;> omega
  · split
    · omega
    · split <;> omega
theorem pu_good_t {f : Nat → Int32} {st : Nat} (h1 : ¬ f st < 0) (h2 : ¬ 1000000000 < f st) (h3 : f (st + 25) = pu_chk (fun j => f (st + j)) 1 25 ||| 1) : pu_good f st = true := decide_eq_true ⟨h1, h2, h3⟩
theorem pu_good_f {f : Nat → Int32} {st : Nat} (h : f st < 0 ∨ 1000000000 < f st ∨ ¬ f (st + 25) = pu_chk (fun j => f (st + j)) 1 25 ||| 1) : pu_good f st = false := decide_eq_false (fun ⟨h1, h2, h3⟩ => by
  rcases h with h | h | h
  · exact h1 h
  · exact h2 h
  · exact h h3)
def pu_at3 (n : Nat) : Nat := 52 + 3 * (n % 40)
def pu_nm (x : Int32) : Bool := decide (¬ x < 0 ∧ x.toNatClampNeg / 1000 < 12 ∧ x.toNatClampNeg % 1000 / 10 < 16 ∧ x.toNatClampNeg % 10 ≤ 5)
def pu_hd (f : Nat → Int32) (n : Nat) : Bool := decide (f (pu_at3 n) = nI n ∧ f (pu_at3 n + 2) = pu_chk (fun j => f (pu_at3 n + j)) 2 2 ||| 1 ∧ pu_nm (f (pu_at3 n + 1)) = true)
def pu_rec (n w : Nat) : Nat → Int32 := fun j => if j = 0 then nI n else if j = 1 then nI w else pu_mix (pu_mix 2 (nI n)) (nI w) ||| 1
theorem pu_at3_lt (n : Nat) : pu_at3 n + 2 < 172 := by unfold pu_at3; omega
theorem pu_nm_n {c : Nat} (hc : c < 2 ^ 31) : pu_nm (nI c) = true ↔ c / 1000 < 12 ∧ c % 1000 / 10 < 16 ∧ c % 10 ≤ 5 := by
  unfold pu_nm
  rw [decide_eq_true_iff, nI_clamp hc]
  exact ⟨fun h => h.2, fun h => ⟨nI_pos hc, h⟩⟩
theorem pu_nm_neg {x : Int32} (h : x < 0) : pu_nm x = false := decide_eq_false (fun q => q.1 h)
theorem pu_nm_of {x : Int32} (h : pu_nm x = true) : ∃ c, c < 2 ^ 31 ∧ x = nI c ∧ c / 1000 < 12 ∧ c % 1000 / 10 < 16 ∧ c % 10 ≤ 5 := by
  have h1 := of_decide_eq_true h
  obtain ⟨c, hc, rfl⟩ := nI_of h1.1
  exact ⟨c, hc, rfl, (pu_nm_n hc).mp h⟩
theorem pu_bf {b : Bool} {P : Prop} (h : b = true ↔ P) (q : ¬ P) : b = false := by
  cases b
  · rfl
  · exact absurd (h.mp rfl) q
theorem pu_hd_t {f : Nat → Int32} {n : Nat} (h1 : f (pu_at3 n) = nI n) (h2 : f (pu_at3 n + 2) = pu_chk (fun j => f (pu_at3 n + j)) 2 2 ||| 1) (h3 : pu_nm (f (pu_at3 n + 1)) = true) : pu_hd f n = true := decide_eq_true ⟨h1, h2, h3⟩
theorem pu_hd_f {f : Nat → Int32} {n : Nat} (h : ¬ f (pu_at3 n) = nI n ∨ ¬ f (pu_at3 n + 2) = pu_chk (fun j => f (pu_at3 n + j)) 2 2 ||| 1 ∨ pu_nm (f (pu_at3 n + 1)) = false) : pu_hd f n = false := decide_eq_false (fun ⟨h1, h2, h3⟩ => by
  rcases h with h | h | h
  · exact h h1
  · exact h h2
  · rw [h] at h3
    cases h3)
theorem pu_row0_s {num : Int32} {T : Tb} {u half : Nat} (hh : half < 2) : pu_row0 num T (2 * u + 1 + half) = nI (pu_pk (fun x => T u (8 * half + x)) 8) := by
  unfold pu_row0
  rw [if_neg (by omega), show (2 * u + 1 + half - 1) / 2 = u by omega, show (2 * u + 1 + half - 1) % 2 = half by omega]
theorem pu_ld_s {f : Nat → Int32} {st u half x : Nat} (hx : x < 8) : pu_ld f st u (8 * half + x) = pu_nib (f (st + (2 * u + 1 + half))) x := by
  unfold pu_ld
  rw [show (8 * half + x) / 8 = half by omega, show (8 * half + x) % 8 = x by omega, show st + 1 + 2 * u + half = st + (2 * u + 1 + half) by omega]
theorem gU_ne {I I1 : Mi} {k j : Nat} {x : Int32} (h : gU I k j x I1) {b : Nat} (hb : b ≠ j) : I1 k b = I k b := by
  rw [h.1]
  exact if_neg hb
theorem gU_eq {I I1 : Mi} {k j : Nat} {x : Int32} (h : gU I k j x I1) : I1 k j = x := by
  rw [h.1]
  exact if_pos rfl
theorem pu_nle {x y : Int32} (h : ¬ x ≤ y) : y < x := Int32.not_le.mp h
theorem pu_le {x y : Int32} (h : x ≤ y) : ¬ y < x := Int32.not_lt.mpr h
theorem pu_woE {f : Nat → Int32} {k : Nat} (h : pu_nw f = k) : pu_wo f = if k = 1 then 0 else 1 := by unfold pu_wo; rw [h]
theorem pu_un_ld {T : Tb} {f : Nat → Int32} {g : Nat → Int32} {st u half a b : Nat} (hh : half < 2) (e : g = f) (hq : ∀ a b, (a < u ∨ (a = u ∧ b < 8 * half)) → b < 16 → T a b = pu_ld f st a b) (ha : a < u ∨ (a = u ∧ b < 8 * (half + 1))) (hb : b < 16) : pu_un T u half (g (st + (2 * u + 1 + half))) 8 a b = pu_ld f st a b := by
  subst e
  unfold pu_un
  by_cases h : a = u ∧ 8 * half ≤ b ∧ b < 8 * half + 8
  · rw [if_pos h, h.1]
    have := pu_ld_s (f := g) (st := st) (u := u) (half := half) (x := b - 8 * half) (by omega)
    rw [show 8 * half + (b - 8 * half) = b by omega] at this
    exact this.symm
  · rw [if_neg h]
    exact hq a b (by omega) hb
theorem pu_gRn {a n : Nat} (h : gR (nI a) n) (ha : a < 2 ^ 31) (hn : n < 2 ^ 31) : a < n := by
  obtain ⟨j, hj, e⟩ := h
  rw [(nI_eq ha (by omega)).mp e]
  exact hj
