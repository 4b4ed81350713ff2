/-! reading the lists -/
def pu_rc (T : Tb) (u d n : Nat) : Nat := pu_ct (fun j => decide (d < pu_sz (pu_vr T u j) 16)) n
def pu_rl (T : Tb) (u d : Nat) : Nat → Int64
  | 0 => 0
  | n + 1 => if d < pu_sz (pu_vr T u n) 16 then pu_rl T u d n + (nI (T u n)).toInt64 * pu_vl (pu_vr T u n) d else pu_rl T u d n
def pu_ad (M : Nat → Bool) (i : Nat) : Nat → Bool := fun x => decide (x = i) || M x
def pu_rm (T : Tb) (u d : Nat) (M : Nat → Bool) : Nat → Nat → Bool
  | 0 => M
  | n + 1 => match pu_en (pu_vr T u n) d with
    | some i => pu_ad (pu_rm T u d M n) i
    | none => pu_rm T u d M n
def pu_fd (T : Tb) (u : Nat) (M : Nat → Bool) (i : Nat) : Int64 := if M i = true ∧ T u i = 0 then pu_sc T u i 16 else 0
def pu_ab (T : Tb) (u : Nat) (M : Nat → Bool) (lim : Int64) (n : Nat) : Nat := pu_ct (fun i => decide (M i = true ∧ T u i = 0 ∧ lim < pu_sc T u i 16)) n
def pu_rr (T : Tb) (u k : Nat) : Nat → Nat → (Nat → Bool) → Nat → Nat
  | 0, _, _, acc => acc
  | n + 1, d, M, acc => if pu_rc T u d 16 = 0 then acc else if k ≤ pu_ab T u (pu_rm T u d M 16) (pu_rl T u d 16) 16 then acc + pu_rc T u d 16 else pu_rr T u k n (d + 1) (pu_rm T u d M 16) (acc + pu_rc T u d 16)
theorem pu_rr_s {T : Tb} {u k d : Nat} {M : Nat → Bool} {acc : Nat} (hd : d < 16) : pu_rr T u k (16 - d) d M acc = if pu_rc T u d 16 = 0 then acc else if k ≤ pu_ab T u (pu_rm T u d M 16) (pu_rl T u d 16) 16 then acc + pu_rc T u d 16 else pu_rr T u k (16 - (d + 1)) (d + 1) (pu_rm T u d M 16) (acc + pu_rc T u d 16) := by
  rw [show 16 - d = (16 - (d + 1)) + 1 by omega]
  rfl
theorem pu_ct_pos {P : Nat → Bool} {k n : Nat} (hk : k < n) (h : P k = true) : pu_ct P n ≠ 0 := by
  have := pu_ct_lt (P := fun _ => false) (Q := P) (k := k) h (by simp) hk (fun _ _ q => by cases q)
  omega
theorem pu_ct_zero {P : Nat → Bool} : ∀ {n : Nat}, (∀ x, x < n → ¬ P x = true) → pu_ct P n = 0
  | 0, _ => rfl
  | n + 1, h => by
    show _ + _ = 0
    rw [pu_ct_zero (fun x hx => h x (by omega)), if_neg (h n (by omega))]
theorem pu_rc_s (T : Tb) (u d n : Nat) : pu_rc T u d (n + 1) = pu_rc T u d n + (if d < pu_sz (pu_vr T u n) 16 then 1 else 0) := by
  show pu_ct _ n + (if decide (d < pu_sz (pu_vr T u n) 16) = true then 1 else 0) = _
  by_cases h : d < pu_sz (pu_vr T u n) 16
  · rw [if_pos (decide_eq_true h), if_pos h]
    rfl
  · rw [if_neg (fun q => h (of_decide_eq_true q)), if_neg h]
    rfl
theorem pu_rm_none {T : Tb} {u d n : Nat} {M : Nat → Bool} (h : ¬ d < pu_sz (pu_vr T u n) 16) : pu_rm T u d M (n + 1) = pu_rm T u d M n := by
  show (match pu_en (pu_vr T u n) d with
    | some i => pu_ad (pu_rm T u d M n) i
    | none => pu_rm T u d M n) = _
  rw [pu_en_out (by omega)]
theorem pu_rm_some {T : Tb} {u d n i : Nat} {M : Nat → Bool} (h : pu_en (pu_vr T u n) d = some i) : pu_rm T u d M (n + 1) = pu_ad (pu_rm T u d M n) i := by
  show (match pu_en (pu_vr T u n) d with
    | some i => pu_ad (pu_rm T u d M n) i
    | none => pu_rm T u d M n) = _
  rw [h]
theorem pu_ent_n {val : Nat → Int64} {d i : Nat} (hd : d < 2 ^ 31) (h : pu_en val d = some i) : pu_ent val (nI d) = nI i := by
  unfold pu_ent
  rw [if_neg (nI_pos hd), nI_clamp hd, h]
theorem pu_fd_ne {T : Tb} {u x i : Nat} {M : Nat → Bool} (h : x ≠ i) : pu_fd T u (pu_ad M i) x = pu_fd T u M x := by
  unfold pu_fd pu_ad
  simp [h]
theorem pu_fd_eq {T : Tb} {u i : Nat} {M : Nat → Bool} (h : T u i = 0) : pu_fd T u (pu_ad M i) i = pu_sc T u i 16 := by
  unfold pu_fd pu_ad
  simp [h]
theorem pu_fd_rated {T : Tb} {u i : Nat} {M : Nat → Bool} (h : ¬ T u i = 0) : pu_fd T u M i = 0 := by
  unfold pu_fd
  rw [if_neg (fun q => h q.2)]
theorem pu_fd_had {T : Tb} {u i : Nat} {M : Nat → Bool} (h : T u i = 0) (h2 : ¬ pu_fd T u M i = 0) : pu_fd T u M i = pu_sc T u i 16 := by
  unfold pu_fd at h2 ⊢
  by_cases e : M i = true
  · rw [if_pos ⟨e, h⟩]
  · rw [if_neg (fun q => e q.1)] at h2
    exact absurd rfl h2
theorem pu_fd_0 (T : Tb) (u i : Nat) : pu_fd T u (fun _ => false) i = 0 := by
  unfold pu_fd
  simp
theorem pu_pos64 {x : Int32} (h : 0 < x.toInt64) : ∃ c, c < 2 ^ 31 ∧ x.toInt64 = lN c := by
  have h2 : ¬ x < 0 := by
    rw [Int32.lt_iff_toInt_lt]
    rw [Int64.lt_iff_toInt_lt, Int32.toInt_toInt64] at h
    have e0 : (0 : Int32).toInt = 0 := by decide
    have e1 : (0 : Int64).toInt = 0 := by decide
    omega
  obtain ⟨j, hj, rfl⟩ := nI_of h2
  exact ⟨j, hj, nI_l hj⟩
theorem pu_rl_lN {T : Tb} (hT : pu_tb T) {u d : Nat} (hu : u < 12) : ∀ n, n ≤ 16 → ∃ x, x ≤ n * (5 * 2 ^ 31) ∧ pu_rl T u d n = lN x
  | 0, _ => ⟨0, Nat.zero_le _, rfl⟩
  | n + 1, hn => by
    obtain ⟨x, hx, e⟩ := pu_rl_lN hT (d := d) hu n (by omega)
    show ∃ y, _ ∧ (if d < pu_sz (pu_vr T u n) 16 then pu_rl T u d n + (nI (T u n)).toInt64 * pu_vl (pu_vr T u n) d else pu_rl T u d n) = lN y
    by_cases h : d < pu_sz (pu_vr T u n) 16
    · rw [if_pos h, e]
      have ht := hT u n hu (by omega)
      have hv : ∃ c, c < 2 ^ 31 ∧ pu_vl (pu_vr T u n) d = lN c := by
        unfold pu_vl
        cases he : pu_en (pu_vr T u n) d with
        | none => exact ⟨0, by omega, rfl⟩
        | some i =>
          obtain ⟨hi, hp, -⟩ := pu_en_some he
          show ∃ c, c < 2 ^ 31 ∧ pu_vr T u n i = lN c
          unfold pu_vr at hp ⊢
          by_cases e2 : T u n = 0
          · rw [if_pos e2] at hp
            exact absurd hp (by show ¬ (0 : Int64) < 0; decide)
          · rw [if_neg e2] at hp ⊢
            exact pu_pos64 hp
      obtain ⟨c, hc, ec⟩ := hv
      refine ⟨x + T u n * c, ?_, by rw [ec, nI_l (by omega), lN_mul, lN_add]⟩
      have : T u n * c ≤ 5 * 2 ^ 31 := Nat.mul_le_mul ht (Nat.le_of_lt hc)
      omega
    · rw [if_neg h, e]
      exact ⟨x, Nat.le_trans hx (Nat.mul_le_mul_right _ (Nat.le_succ n)), rfl⟩
theorem pu_rl_nn {T : Tb} (hT : pu_tb T) {u d : Nat} (hu : u < 12) : ¬ pu_rl T u d 16 < 0 := by
  obtain ⟨x, hx, e⟩ := pu_rl_lN hT (d := d) hu 16 (Nat.le_refl _)
  rw [e]
  intro h
  have := (pk_lLT (a := x) (b := 0) (by omega) (by decide)).mp h
  omega
theorem pu_ab_s {T : Tb} {u : Nat} {M : Nat → Bool} {lim : Int64} (hl : ¬ lim < 0) (n : Nat) : pu_ab T u M lim (n + 1) = pu_ab T u M lim n + (if lim < pu_fd T u M n then 1 else 0) := by
  show pu_ct _ n + (if decide (M n = true ∧ T u n = 0 ∧ lim < pu_sc T u n 16) = true then 1 else 0) = _
  by_cases h : M n = true ∧ T u n = 0
  · unfold pu_fd
    rw [if_pos h]
    by_cases e : lim < pu_sc T u n 16
    · rw [if_pos (decide_eq_true ⟨h.1, h.2, e⟩), if_pos e]
      rfl
    · rw [if_neg (fun q => e (of_decide_eq_true q).2.2), if_neg e]
      rfl
  · unfold pu_fd
    rw [if_neg h, if_neg (fun q => h ⟨(of_decide_eq_true q).1, (of_decide_eq_true q).2.1⟩), if_neg hl]
    rfl
theorem pu_vr_z {T : Tb} {u j : Nat} (h : T u j = 0) : pu_vr T u j = fun _ => 0 := if_pos h
theorem pu_vr_n {T : Tb} {u j : Nat} (h : ¬ T u j = 0) : pu_vr T u j = pu_vn T j := if_neg h
theorem pu_rcle (T : Tb) (u d n : Nat) : pu_rc T u d n ≤ n := pu_ct_n _ _
theorem pu_able (T : Tb) (u : Nat) (M : Nat → Bool) (lim : Int64) (n : Nat) : pu_ab T u M lim n ≤ n := pu_ct_n _ _
theorem pu_beg_z {I : Mi} {L : Ml} {T : Tb} {u j x : Nat} (h : ∀ x, x < j → pu_RK I L x (pu_vr T u x) 16) (h2 : pu_RK I L j (fun _ => 0) 16) (h0 : T u j = 0) (hx : x ≤ j) : pu_RK I L x (pu_vr T u x) 16 := by
  by_cases e : x = j
  · rw [e, pu_vr_z h0]
    exact h2
  · exact h x (by omega)
theorem pu_beg_n {I : Mi} {L : Ml} {T : Tb} {u j x : Nat} (h : ∀ x, x < j → pu_RK I L x (pu_vr T u x) 16) (h2 : pu_RK I L j (pu_vn T j) 16) (h0 : ¬ T u j = 0) (hx : x ≤ j) : pu_RK I L x (pu_vr T u x) 16 := by
  by_cases e : x = j
  · rw [e, pu_vr_n h0]
    exact h2
  · exact h x (by omega)
