/-! the ratings: numbers -/
abbrev Tb : Type := Nat → Nat → Nat
def pu_dt (T : Tb) (i j : Nat) : Nat → Nat
  | 0 => 0
  | n + 1 => pu_dt T i j n + T n i * T n j
def pu_dot (T : Tb) (i j : Nat) : Nat := pu_dt T i j 12
def pu_T (T : Tb) (u i r : Nat) : Tb := fun a b => if a = u ∧ b = i then r else T a b
def pu_tb (T : Tb) : Prop := ∀ u i, u < 12 → i < 16 → T u i ≤ 5
def pN (I : Mi) (T : Tb) : Prop := pu_tb T ∧ (∀ u i, u < 12 → i < 16 → I (10 + u) i = nI (T u i)) ∧ ∀ i j, i < 16 → j < 16 → I (22 + i) j = nI (pu_dot T i j)
theorem pu_dt_comm (T : Tb) (i j : Nat) : ∀ n, pu_dt T i j n = pu_dt T j i n
  | 0 => rfl
  | n + 1 => by
    show _ + _ = _ + _
    rw [pu_dt_comm T i j n, Nat.mul_comm]
theorem pu_dot_comm (T : Tb) (i j : Nat) : pu_dot T i j = pu_dot T j i := pu_dt_comm T i j 12
theorem pu_dt_le {T : Tb} (h : pu_tb T) {i j : Nat} (hi : i < 16) (hj : j < 16) : ∀ n, n ≤ 12 → pu_dt T i j n ≤ 25 * n
  | 0, _ => Nat.le_refl 0
  | n + 1, hn => by
    have h1 := pu_dt_le h hi hj n (by omega)
    have h2 : T n i * T n j ≤ 5 * 5 := Nat.mul_le_mul (h n i (by omega) hi) (h n j (by omega) hj)
    show pu_dt T i j n + T n i * T n j ≤ _
    omega
theorem pu_dot_le {T : Tb} (h : pu_tb T) {i j : Nat} (hi : i < 16) (hj : j < 16) : pu_dot T i j ≤ 300 := pu_dt_le h hi hj 12 (Nat.le_refl _)
theorem pu_dt_congr {T T1 : Tb} {i j : Nat} : ∀ n, (∀ u, u < n → T u i = T1 u i ∧ T u j = T1 u j) → pu_dt T i j n = pu_dt T1 i j n
  | 0, _ => rfl
  | n + 1, h => by
    show _ + _ = _ + _
    rw [pu_dt_congr n (fun u hu => h u (by omega)), (h n (by omega)).1, (h n (by omega)).2]
theorem pu_dot_congr {T T1 : Tb} {i j : Nat} (h : ∀ u, u < 12 → T u i = T1 u i ∧ T u j = T1 u j) : pu_dot T i j = pu_dot T1 i j := pu_dt_congr 12 h
theorem pN_congr {I : Mi} {T T1 : Tb} (h : ∀ u i, u < 12 → i < 16 → T u i = T1 u i) (hp : pN I T) : pN I T1 := by
  obtain ⟨h1, h2, h3⟩ := hp
  refine ⟨fun u i hu hi => by rw [← h u i hu hi]; exact h1 u i hu hi, fun u i hu hi => by rw [← h u i hu hi]; exact h2 u i hu hi, fun i j hi hj => ?_⟩
  rw [h3 i j hi hj, pu_dot_congr (fun u hu => ⟨h u i hu hi, h u j hu hj⟩)]
theorem pN_mem {I I1 : Mi} {T : Tb} (h : ∀ a, 10 ≤ a → a < 38 → I1 a = I a) (hp : pN I T) : pN I1 T := by
  obtain ⟨h1, h2, h3⟩ := hp
  exact ⟨h1, fun u i hu hi => by rw [h _ (by omega) (by omega)]; exact h2 u i hu hi, fun i j hi hj => by rw [h _ (by omega) (by omega)]; exact h3 i j hi hj⟩
theorem nI_mul (a b : Nat) : nI (a * b) = nI a * nI b := (pk_mul a b).symm
theorem nI_plus (a b : Nat) : nI (a + b) = nI a + nI b := (nI_add a b).symm
theorem pu_T_eq {T : Tb} {u i r : Nat} : pu_T T u i r u i = r := if_pos ⟨rfl, rfl⟩
theorem pu_T_ne {T : Tb} {u i r a b : Nat} (h : ¬ (a = u ∧ b = i)) : pu_T T u i r a b = T a b := if_neg h
theorem pu_dt_up {T : Tb} {u i r k : Nat} (hk : k ≠ i) : ∀ n, nI (pu_dt (pu_T T u i r) i k n) = nI (pu_dt T i k n) + (if u < n then (nI r - nI (T u i)) * nI (T u k) else 0)
  | 0 => by simp [pu_dt]
  | n + 1 => by
    show nI (pu_dt (pu_T T u i r) i k n + pu_T T u i r n i * pu_T T u i r n k) = nI (pu_dt T i k n + T n i * T n k) + _
    rw [pu_T_ne (a := n) (b := k) (fun h => hk h.2)]
    by_cases e : n = u
    · subst e
      rw [pu_T_eq, nI_plus, nI_plus, nI_mul, nI_mul, pu_dt_up hk n, if_neg (by omega), if_pos (by omega)]
      grind
    · rw [pu_T_ne (fun h => e h.1), nI_plus, nI_plus, pu_dt_up hk n]
      by_cases h : u < n
      · rw [if_pos h, if_pos (by omega)]
        grind
      · rw [if_neg h, if_neg (by omega)]
        grind
theorem pu_dot_up {T : Tb} {u i r k : Nat} (hu : u < 12) (hk : k ≠ i) : nI (pu_dot T i k) + (nI r - nI (T u i)) * nI (T u k) = nI (pu_dot (pu_T T u i r) i k) := by
  unfold pu_dot
  rw [pu_dt_up hk 12, if_pos hu]
theorem pu_dt_upd {T : Tb} {u i r : Nat} : ∀ n, nI (pu_dt (pu_T T u i r) i i n) = nI (pu_dt T i i n) + (if u < n then nI (r * r) - nI (T u i * T u i) else 0)
  | 0 => by simp [pu_dt]
  | n + 1 => by
    show nI (pu_dt (pu_T T u i r) i i n + pu_T T u i r n i * pu_T T u i r n i) = nI (pu_dt T i i n + T n i * T n i) + _
    by_cases e : n = u
    · subst e
      rw [pu_T_eq, nI_plus, nI_plus, pu_dt_upd n, if_neg (by omega), if_pos (by omega)]
      grind
    · rw [pu_T_ne (fun h => e h.1), nI_plus, nI_plus, pu_dt_upd n]
      by_cases h : u < n
      · rw [if_pos h, if_pos (by omega)]
        grind
      · rw [if_neg h, if_neg (by omega)]
        grind
theorem pu_dot_upd {T : Tb} {u i r : Nat} (hu : u < 12) : nI (pu_dot T i i) + (nI (r * r) - nI (T u i * T u i)) = nI (pu_dot (pu_T T u i r) i i) := by
  unfold pu_dot
  rw [pu_dt_upd 12, if_pos hu]
theorem pu_dot_other {T : Tb} {u i r a b : Nat} (ha : a ≠ i) (hb : b ≠ i) : pu_dot (pu_T T u i r) a b = pu_dot T a b :=
  pu_dot_congr (fun v _ => ⟨pu_T_ne (fun h => ha h.2), pu_T_ne (fun h => hb h.2)⟩)
/-- the dots while a rating is set: k items have had theirs -/
def pu_dinv (T T1 : Tb) (i k : Nat) (I : Mi) : Prop := ∀ a b, a < 16 → b < 16 → I (22 + a) b = nI (if (a = i ∧ b ≠ i ∧ b < k) ∨ (b = i ∧ a ≠ i ∧ a < k) then pu_dot T1 a b else pu_dot T a b)
theorem pu_dinv_row {T T1 : Tb} {i k : Nat} {I : Mi} (h : pu_dinv T T1 i k I) (hi : i < 16) (hk : k < 16) : I (22 + i) k = nI (pu_dot T i k) := by
  rw [h i k hi hk, if_neg (by omega)]
theorem pu_dskip {T T1 : Tb} {i k : Nat} {I : Mi} (h : pu_dinv T T1 i k I) (hk : k = i) : pu_dinv T T1 i (k + 1) I := by
  intro a b ha hb
  rw [h a b ha hb]
  by_cases e : (a = i ∧ b ≠ i ∧ b < k) ∨ (b = i ∧ a ≠ i ∧ a < k)
  · rw [if_pos e, if_pos (by omega)]
  · rw [if_neg e, if_neg (by omega)]
theorem pu_dstep {T T1 : Tb} {i k : Nat} {I I1 I2 : Mi} (h : pu_dinv T T1 i k I) (hi : i < 16) (hk : k < 16) (hki : k ≠ i) (U1 : gU I (22 + i) k (nI (pu_dot T1 i k)) I1) (U2 : gU I1 (22 + k) i (nI (pu_dot T1 k i)) I2) : pu_dinv T T1 i (k + 1) I2 := by
  intro a b ha hb
  obtain ⟨p1, p2⟩ := U1
  obtain ⟨q1, q2⟩ := U2
  by_cases e1 : a = k
  · subst e1
    rw [q1, upd]
    by_cases e2 : b = i
    · subst e2
      rw [if_pos rfl, if_pos (Or.inr ⟨rfl, hki, by omega⟩)]
    · rw [if_neg e2, p2 _ (by omega), h a b ha hb, if_neg (by omega), if_neg (by omega)]
  · rw [q2 _ (by omega)]
    by_cases e3 : a = i
    · subst e3
      rw [p1, upd]
      by_cases e4 : b = k
      · subst e4
        rw [if_pos rfl, if_pos (Or.inl ⟨rfl, hki, by omega⟩)]
      · rw [if_neg e4, h a b ha hb]
        by_cases e : (a = a ∧ b ≠ a ∧ b < k) ∨ (b = a ∧ a ≠ a ∧ a < k)
        · rw [if_pos e, if_pos (by omega)]
        · rw [if_neg e, if_neg (by omega)]
    · rw [p2 _ (by omega), h a b ha hb]
      by_cases e : (a = i ∧ b ≠ i ∧ b < k) ∨ (b = i ∧ a ≠ i ∧ a < k)
      · rw [if_pos e, if_pos (by omega)]
      · rw [if_neg e, if_neg (by omega)]
theorem pu_dend {T : Tb} {u i r : Nat} {I0 I I1 I2 : Mi} (hp : pN I0 T) (h : pu_dinv T (pu_T T u i r) i 16 I) (ht : ∀ a, a < 22 ∨ 38 ≤ a → I a = I0 a) (hu : u < 12) (hi : i < 16) (hr : r ≤ 5) (U1 : gU I (22 + i) i (nI (pu_dot (pu_T T u i r) i i)) I1) (U2 : gU I1 (10 + u) i (nI r) I2) :
    pN I2 (pu_T T u i r) ∧ ∀ a, a < 10 ∨ 38 ≤ a → I2 a = I0 a := by
  obtain ⟨p1, p2⟩ := U1
  obtain ⟨q1, q2⟩ := U2
  obtain ⟨t1, t2, t3⟩ := hp
  refine ⟨⟨fun a b ha hb => ?_, fun a b ha hb => ?_, fun a b ha hb => ?_⟩, fun a ha => ?_⟩
  · by_cases e : a = u ∧ b = i
    · rw [e.1, e.2, pu_T_eq]
      exact hr
    · rw [pu_T_ne e]
      exact t1 a b ha hb
  · by_cases e : a = u
    · subst e
      rw [q1, upd]
      by_cases e2 : b = i
      · subst e2
        rw [if_pos rfl, pu_T_eq]
      · rw [if_neg e2, p2 _ (by omega), ht _ (by omega), pu_T_ne (fun h => e2 h.2)]
        exact t2 a b ha hb
    · rw [q2 _ (by omega), p2 _ (by omega), ht _ (by omega), pu_T_ne (fun h => e h.1)]
      exact t2 a b ha hb
  · rw [q2 _ (by omega)]
    by_cases e : a = i
    · subst e
      rw [p1, upd]
      by_cases e2 : b = a
      · subst e2
        rw [if_pos rfl]
      · rw [if_neg e2, h a b ha hb, if_pos (by omega)]
    · rw [p2 _ (by omega), h a b ha hb]
      by_cases e2 : b = i
      · rw [if_pos (by omega)]
      · rw [if_neg (by omega), pu_dot_other e e2]
  · rw [q2 _ (by omega), p2 _ (by omega), ht _ (by omega)]
/-- weights and scores -/
def pu_w (T : Tb) (i j : Nat) : Nat := if i = j then 0 else 1048576 * pu_dot T i j * pu_dot T i j / (pu_dot T i i * pu_dot T j j)
def pu_sh (T : Tb) (u i j : Nat) : Int64 := (nI (pu_w T i j)).toInt64 * (nI (T u j)).toInt64
def pu_sc (T : Tb) (u i : Nat) : Nat → Int64
  | 0 => 0
  | n + 1 => pu_sc T u i n + pu_sh T u i n
def pu_c1 (t : Nat → Nat) : Nat → Nat
  | 0 => 0
  | n + 1 => pu_c1 t n + (if t n = 0 then 0 else 1)
def pu_cn (T : Tb) : Nat → Nat
  | 0 => 0
  | n + 1 => pu_cn T n + pu_c1 (T n) 16
def pu_pk (t : Nat → Nat) : Nat → Nat
  | 0 => 0
  | n + 1 => pu_pk t n + t n * 2 ^ (4 * n)
def pu_nib (p : Int32) (i : Nat) : Nat := if p.toBitVec.toNat / 2 ^ (4 * i) % 16 ≤ 5 then p.toBitVec.toNat / 2 ^ (4 * i) % 16 else 0
theorem pu_nib_le (p : Int32) (i : Nat) : pu_nib p i ≤ 5 := by unfold pu_nib; split <;> omega
def pu_un (T : Tb) (u half : Nat) (p : Int32) (k : Nat) : Tb := fun a b => if a = u ∧ 8 * half ≤ b ∧ b < 8 * half + k then pu_nib p (b - 8 * half) else T a b
theorem pu_c1_le (t : Nat → Nat) : ∀ n, pu_c1 t n ≤ n
  | 0 => Nat.le_refl 0
  | n + 1 => by
    have := pu_c1_le t n
    show pu_c1 t n + _ ≤ _
    split <;> omega
theorem pu_cn_le (T : Tb) : ∀ n, pu_cn T n ≤ 16 * n
  | 0 => Nat.le_refl 0
  | n + 1 => by
    have := pu_cn_le T n
    have := pu_c1_le (T n) 16
    show pu_cn T n + _ ≤ _
    omega
theorem pu_cmp0 {x y : Int64} (h : lg_cmp x y = 0) : x = y := by
  unfold lg_cmp at h
  split at h
  · exact absurd h (by decide)
  · split at h
    · assumption
    · exact absurd h (by decide)
theorem pu_w_0 {T : Tb} {i j : Nat} (h : pu_dot T i i * pu_dot T j j = 0) : pu_w T i j = 0 := by
  unfold pu_w
  split
  · rfl
  · rw [h, Nat.div_zero]
theorem pu_shl : ∀ i, i < 8 → ((nI (4 * i) &&& 31).toBitVec.smod 32).toNat = 4 * i := by decide
theorem pu_ush : ∀ i, i < 8 → (((nI (4 * i)).toUInt32 &&& Int32.toUInt32 31).toBitVec % 32).toNat = 4 * i := by decide
theorem pu_pow : ∀ i, i < 8 → 2 ^ (4 * i) ≤ 2 ^ 28 := by decide
theorem pu_nibE (p : Int32) (k : Nat) (hk : k < 8) : (p.toUInt32 >>> ((nI (4 * k)).toUInt32 &&& Int32.toUInt32 31)).toInt32 &&& 15 = nI (p.toBitVec.toNat / 2 ^ (4 * k) % 16) := by
  rw [pk_and _ 4 (by decide), pk_ushr p _ (4 * k) (pu_ush k hk)]
theorem pu_un_s {T : Tb} {u half : Nat} {p : Int32} {k a b v : Nat} (hk : k < 8) (e : pu_nib p k = v) : pu_T (pu_un T u half p k) u (8 * half + k) v a b = pu_un T u half p (k + 1) a b := by
  by_cases h : a = u ∧ b = 8 * half + k
  · rw [h.1, h.2, pu_T_eq, ← e]
    unfold pu_un
    rw [if_pos (by omega), show 8 * half + k - 8 * half = k by omega]
  · rw [pu_T_ne h]
    unfold pu_un
    by_cases h2 : a = u ∧ 8 * half ≤ b ∧ b < 8 * half + k
    · rw [if_pos h2, if_pos (by omega)]
    · rw [if_neg h2, if_neg (by omega)]
