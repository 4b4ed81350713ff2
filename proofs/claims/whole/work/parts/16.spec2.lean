/-! what the calls answer, case by case -/
theorem sp_bad3 {u i r : Int32} (h : ¬ gR u 12 ∨ ¬ gR i 16 ∨ ¬ gR r 6) : (bR u 12 && bR i 16 && bR r 6) = false := by
  rcases h with h | h | h
  · rw [bR_f h (by decide)]; rfl
  · rw [bR_f h (by decide)]; simp
  · rw [bR_f h (by decide)]; simp
theorem sp_rate_off {σ : Sa} {u i r : Int32} (h : σ.2.1.2.1 = 0) : sp_rate σ u i r = (-3, σ) := if_pos h
theorem sp_rate_bad {σ : Sa} {u i r : Int32} (hp : ¬ σ.2.1.2.1 = 0) (h : ¬ gR u 12 ∨ ¬ gR i 16 ∨ ¬ gR r 6) : sp_rate σ u i r = (-2, σ) := by
  unfold sp_rate
  rw [if_neg hp, if_pos (sp_bad3 h)]
theorem sp_ok3 {u i r : Nat} (hu : u < 12) (hi : i < 16) (hr : r < 6) : ¬ (bR (nI u) 12 && bR (nI i) 16 && bR (nI r) 6) = false := by
  rw [bR_n hu (by decide), bR_n hi (by decide), bR_n hr (by decide)]
  decide
theorem sp_rate_full {T : Tb} {d : Dk} {cur base u i r : Nat} (hp : ¬ d.2.1 = 0) (hu : u < 12) (hi : i < 16) (hr : r < 6) (hf : cur = base + 40) : sp_rate (T, d, cur, base) (nI u) (nI i) (nI r) = (-4, (T, d, cur, base)) := by
  unfold sp_rate
  rw [if_neg hp, if_neg (sp_ok3 hu hi hr), if_pos hf]
theorem sp_rate_go {T : Tb} {d d1 : Dk} {cur base u i r : Nat} (hp : ¬ d.2.1 = 0) (hu : u < 12) (hi : i < 16) (hr : r < 6) (hf : ¬ cur = base + 40) (hd : pu_puts d (pu_at3 (cur + 1)) (pu_rec (cur + 1) (1000 * u + 10 * i + r)) 3 = d1) : sp_rate (T, d, cur, base) (nI u) (nI i) (nI r) = if d1.2.1 = 0 then (-3, (T, d1, cur, base)) else (nI (T u i), (pu_T T u i r, d1, cur + 1, base)) := by
  unfold sp_rate
  rw [if_neg hp, if_neg (sp_ok3 hu hi hr), if_neg hf]
  simp only [nI_clamp (show u < 2 ^ 31 by omega), nI_clamp (show i < 2 ^ 31 by omega), nI_clamp (show r < 2 ^ 31 by omega)]
  rw [← hd]
theorem sp_snap_off {σ : Sa} (h : σ.2.1.2.1 = 0) : sp_snapshot σ = (-3, σ) := if_pos h
theorem sp_snap_go {T : Tb} {d d1 : Dk} {cur base : Nat} (hp : ¬ d.2.1 = 0) (hd : pu_puts d (26 * pu_wo d.1) (pu_row (nI cur) T) 26 = d1) : sp_snapshot (T, d, cur, base) = if d1.2.1 = 0 then (-3, (T, d1, cur, base)) else (26, (T, d1, cur, cur)) := by
  unfold sp_snapshot
  rw [if_neg hp, ← hd]
theorem sp_bad2 {u i : Int32} {a b : Nat} (ha : a < 2 ^ 31) (hb : b < 2 ^ 31) (h : ¬ gR u a ∨ ¬ gR i b) : (bR u a && bR i b) = false := by
  rcases h with h | h
  · rw [bR_f h ha]; rfl
  · rw [bR_f h hb]; simp
theorem sp_ok2 {u i a b : Nat} (ha : a < 2 ^ 31) (hb : b < 2 ^ 31) (hu : u < a) (hi : i < b) : ¬ (bR (nI u) a && bR (nI i) b) = false := by
  rw [bR_n hu ha, bR_n hi hb]
  decide
theorem sp_bad3s {u i j : Int32} (h : ¬ gR u 12 ∨ ¬ gR i 16 ∨ ¬ gR j 16) : (bR u 12 && bR i 16 && bR j 16) = false := by
  rcases h with h | h | h
  · rw [bR_f h (by decide)]; rfl
  · rw [bR_f h (by decide)]; simp
  · rw [bR_f h (by decide)]; simp
theorem sp_ok3s {u i r : Nat} (hu : u < 12) (hi : i < 16) (hr : r < 16) : ¬ (bR (nI u) 12 && bR (nI i) 16 && bR (nI r) 16) = false := by
  rw [bR_n hu (by decide), bR_n hi (by decide), bR_n hr (by decide)]
  decide
theorem sp_ok1 {u a : Nat} (ha : a < 2 ^ 31) (hu : u < a) : ¬ bR (nI u) a = false := by
  rw [bR_n hu ha]
  decide
theorem sp_badk {u k : Int32} (h : ¬ gR u 12 ∨ gR k 1 ∨ ¬ gR k 17) : (bR u 12 && !bR k 1 && bR k 17) = false := by
  rcases h with h | h | h
  · rw [bR_f h (by decide)]; rfl
  · rw [bR_t h (by decide)]; simp
  · rw [bR_f h (by decide)]; simp
theorem sp_okk {u k : Nat} (hu : u < 12) (hk : 1 ≤ k) (hk2 : k < 17) : ¬ (bR (nI u) 12 && !bR (nI k) 1 && bR (nI k) 17) = false := by
  have h1 : ¬ gR (nI k) 1 := fun ⟨j, hj, e⟩ => by
    have := (nI_eq (by omega) (by omega)).mp e
    omega
  rw [bR_n hu (by decide), bR_n hk2 (by decide), bR_f h1 (by decide)]
  decide
/-- the number on a good snapshot -/
theorem pu_ldn_n (f : Nat → Int32) : ∃ n, n ≤ 1000000000 ∧ pu_ldn f = nI n := by
  unfold pu_ldn
  by_cases h : pu_nw f = 2
  · exact ⟨0, by omega, by rw [if_pos h]; exact nI_0.symm⟩
  · rw [if_neg h]
    have key : ∀ w, w < 2 → pu_good f (26 * w) = true → ∃ n, n ≤ 1000000000 ∧ f (26 * w) = nI n := by
      intro w _ hg
      obtain ⟨h1, h2, -⟩ := of_decide_eq_true hg
      exact nI_of2 (M := 1000000000) (by decide) h1 (Int32.not_lt.mp h2)
    have hn : (pu_nw f = 0 ∧ pu_good f 0 = true) ∨ (pu_nw f = 1 ∧ pu_good f 26 = true) := by
      unfold pu_nw at h ⊢
      cases h0 : pu_good f 0 <;> cases h1 : pu_good f 26 <;> simp [h0, h1] at h ⊢
      by_cases q : f 0 < f 26
      · exact Or.inr q
      · exact Or.inl (Int32.not_lt.mp q)
    rcases hn with ⟨e, g⟩ | ⟨e, g⟩
    · rw [e]
      exact key 0 (by decide) g
    · rw [e]
      exact key 1 (by decide) g
theorem pu_ldT_tb (f : Nat → Int32) : pu_tb (pu_ldT f) := by
  intro u i _ _
  unfold pu_ldT
  split
  · exact Nat.zero_le _
  · exact pu_nib_le _ _
theorem pu_hd_of {f : Nat → Int32} {n : Nat} (h : pu_hd f n = true) : ∃ c, c < 2 ^ 31 ∧ f (pu_at3 n + 1) = nI c ∧ (f (pu_at3 n + 1)).toNatClampNeg = c ∧ c / 1000 < 12 ∧ c % 1000 / 10 < 16 ∧ c % 10 ≤ 5 := by
  obtain ⟨-, -, h3⟩ := of_decide_eq_true h
  obtain ⟨c, hc, e, q⟩ := pu_nm_of h3
  exact ⟨c, hc, e, by rw [e, nI_clamp hc], q⟩
theorem pu_tb_T {T : Tb} {u i r : Nat} (h : pu_tb T) (hr : r ≤ 5) : pu_tb (pu_T T u i r) := by
  intro a b ha hb
  by_cases e : a = u ∧ b = i
  · rw [e.1, e.2, pu_T_eq]
    exact hr
  · rw [pu_T_ne e]
    exact h a b ha hb
theorem pu_redo_s {f : Nat → Int32} {m n c : Nat} {T : Tb} (h : pu_hd f (n + 1) = true) (hc : (f (pu_at3 (n + 1) + 1)).toNatClampNeg = c) : pu_redo f (m + 1) T n = pu_redo f m (pu_T T (c / 1000) (c % 1000 / 10) (c % 10)) (n + 1) := by
  subst hc
  exact if_pos h
theorem pu_redo_e {f : Nat → Int32} {m n : Nat} {T : Tb} (h : pu_hd f (n + 1) = false) : pu_redo f m T n = (T, n) := by
  cases m with
  | zero => rfl
  | succ m => exact if_neg (by rw [h]; decide)
theorem sp_restart_e {T T1 : Tb} {d : Dk} {cur base n0 n1 : Nat} (h0 : n0 < 2 ^ 31) (hn : pu_ldn d.1 = nI n0) (h : pu_redo d.1 40 (pu_ldT d.1) n0 = (T1, n1)) : sp_restart (T, d, cur, base) = (nI (n1 - n0), (T1, (d.1, 1, -1), n1, n0)) := by
  unfold sp_restart
  simp only [hn, nI_clamp h0, h]
/-- reading, in the reference's order -/
theorem pu_rc_mono {T : Tb} {u d n : Nat} (h : pu_rc T u d n = 0) : pu_rc T u (d + 1) n = 0 := by
  have := pu_ct_le (P := fun j => decide (d + 1 < pu_sz (pu_vr T u j) 16)) (Q := fun j => decide (d < pu_sz (pu_vr T u j) 16)) (n := n) (fun x _ hx => decide_eq_true (by have := of_decide_eq_true hx; omega))
  unfold pu_rc at *
  omega
theorem pu_rr_end {T : Tb} {u k d acc : Nat} {M : Nat → Bool} (hd : d < 16) (h : pu_rc T u (d + 1) 16 = 0 ∨ k ≤ pu_ab T u (pu_rm T u d M 16) (pu_rl T u d 16) 16) : pu_rr T u k (16 - d) d M acc = acc + pu_rc T u d 16 := by
  rw [pu_rr_s hd]
  by_cases e : pu_rc T u d 16 = 0
  · rw [if_pos e, e]
    rfl
  · rw [if_neg e]
    by_cases e2 : k ≤ pu_ab T u (pu_rm T u d M 16) (pu_rl T u d 16) 16
    · rw [if_pos e2]
    · rw [if_neg e2]
      have h1 := h.resolve_right e2
      by_cases e3 : d + 1 < 16
      · rw [pu_rr_s e3, if_pos h1]
      · rw [show 16 - (d + 1) = 0 by omega]
        rfl
theorem pu_rr_next {T : Tb} {u k d acc : Nat} {M : Nat → Bool} (hd : d < 16) (h : ¬ pu_rc T u (d + 1) 16 = 0) (h2 : ¬ k ≤ pu_ab T u (pu_rm T u d M 16) (pu_rl T u d 16) 16) : pu_rr T u k (16 - d) d M acc = pu_rr T u k (16 - (d + 1)) (d + 1) (pu_rm T u d M 16) (acc + pu_rc T u d 16) := by
  rw [pu_rr_s hd, if_neg (fun e => h (pu_rc_mono e)), if_neg h2]
theorem pu_ent_c {val : Nat → Int64} {d : Nat} {r : Int32} (hd : d < 2 ^ 31) (h : pu_ent val (nI d) = r) : (∃ i, i < 16 ∧ pu_en val d = some i ∧ nI i = r) ∨ (pu_en val d = none ∧ -1 = r) := by
  cases e : pu_en val d with
  | none =>
    right
    refine ⟨rfl, ?_⟩
    rw [← h]
    unfold pu_ent
    rw [if_neg (nI_pos hd), nI_clamp hd, e]
  | some i =>
    left
    exact ⟨i, (pu_en_some e).1, rfl, by rw [← h, pu_ent_n hd e]⟩
theorem pu_en_lt {val : Nat → Int64} {d i : Nat} (h : pu_en val d = some i) : d < pu_sz val 16 := by
  obtain ⟨h1, h2, h3⟩ := pu_en_some h
  have := pu_rk_sz h1 h2
  omega
/-- how many values are above 0, against the ranks -/
theorem pu_sz_rk {val : Nat → Int64} : ∀ {m p : Nat}, p < pu_sz val m → ∃ i, i < m ∧ 0 < val i ∧ pu_rk val m i = p
  | 0, p, h => absurd h (Nat.not_lt_zero _)
  | m + 1, p, h => by
    rw [pu_sz_s] at h
    by_cases hv : 0 < val m
    · rw [if_pos hv] at h
      by_cases e : p = pu_rk val m m
      · exact ⟨m, by omega, hv, by rw [pu_rk_ss, e]⟩
      · have hr := pu_rkle val m
        by_cases g : p < pu_rk val m m
        · obtain ⟨i, hi, hpi, he⟩ := pu_sz_rk (val := val) (m := m) (p := p) (by omega)
          have b := pu_rk_new hi hpi
          refine ⟨i, by omega, hpi, ?_⟩
          rw [pu_rk_s hi, if_neg (fun z => by have := b.mp z.2; omega)]
          exact he
        · obtain ⟨i, hi, hpi, he⟩ := pu_sz_rk (val := val) (m := m) (p := p - 1) (by omega)
          have b := pu_rk_new hi hpi
          refine ⟨i, by omega, hpi, ?_⟩
          rw [pu_rk_s hi, if_pos ⟨hv, b.mpr (by omega)⟩]
          omega
    · rw [if_neg hv] at h
      obtain ⟨i, hi, hpi, he⟩ := pu_sz_rk (val := val) (m := m) (p := p) (by omega)
      refine ⟨i, by omega, hpi, ?_⟩
      rw [pu_rk_s hi, if_neg (fun z => hv z.1)]
      exact he
theorem pu_en_no {val : Nat → Int64} {d : Nat} (h : pu_en val d = none) : ¬ d < pu_sz val 16 := fun q => by
  obtain ⟨i, hi, hp, he⟩ := pu_sz_rk q
  rw [pu_en_of hi hp he] at h
  cases h
theorem pu_vr_0 {T : Tb} {u j d : Nat} (h : T u j = 0) : ¬ d < pu_sz (pu_vr T u j) 16 := by
  rw [pu_vr_z h, pu_sz0]
  omega
theorem pu_rl_y {T : Tb} {u d j i : Nat} (h0 : ¬ T u j = 0) (h : pu_en (pu_vn T j) d = some i) : pu_rl T u d (j + 1) = pu_rl T u d j + (nI (T u j)).toInt64 * (nI (pu_w T i j)).toInt64 := by
  have e : pu_en (pu_vr T u j) d = some i := by rw [pu_vr_n h0]; exact h
  show (if d < pu_sz (pu_vr T u j) 16 then pu_rl T u d j + (nI (T u j)).toInt64 * pu_vl (pu_vr T u j) d else _) = _
  rw [if_pos (pu_en_lt e)]
  unfold pu_vl
  rw [e]
  show _ + _ * pu_vr T u j i = _
  rw [pu_vr_n h0]
  rfl
theorem pu_rl_n {T : Tb} {u d j : Nat} (h : ¬ d < pu_sz (pu_vr T u j) 16) : pu_rl T u d (j + 1) = pu_rl T u d j := if_neg h
theorem pu_vb_p {T : Tb} {u i : Nat} (h : pu_of T u i = true) : pu_vb T u i = pu_sc T u i 16 ∧ 0 < pu_vb T u i := by
  have := of_decide_eq_true h
  unfold pu_vb
  rw [if_pos this.1]
  exact ⟨rfl, this.2⟩
theorem pu_vb_n {T : Tb} {u i : Nat} (h : pu_of T u i = false) : ¬ 0 < pu_vb T u i := by
  have := of_decide_eq_false h
  unfold pu_vb
  by_cases e : T u i = 0
  · rw [if_pos e]
    exact fun q => this ⟨e, q⟩
  · rw [if_neg e]
    decide
theorem pu_be_n {val : Nat → Int64} {x i : Nat} (h : ¬ 0 < val x) : pu_be val x i = false := decide_eq_false (fun q => h q.1)
theorem pu_le0 {x : Int32} (h : 0 ≤ x) : ¬ x < 0 := Int32.not_lt.mpr h
theorem pu_tMset {I I1 I2 : Mi} {T : Tb} {u i r k : Nat} {x : Int32} (hT : tM I T) (hU : gU I 93 (16 * u + i) (nI r) I1) (hU2 : gU I1 92 k x I2) (_ : (93 : Nat) ≠ 92) (hi : i < 16) : tM I2 (pu_T T u i r) := by
  intro a b ha hb
  rw [hU2.2 93 (by decide)]
  by_cases e : a = u ∧ b = i
  · rw [e.1, e.2, pu_T_eq]
    exact gU_eq hU
  · rw [pu_T_ne e, gU_ne hU (by omega)]
    exact hT a b ha hb
theorem dkM_left {I I1 : Mi} {d : Dk} {x : Int32} (h : dkM I = d) (hU : gU I 92 5 x I1) : dkM I1 = (d.1, d.2.1, x) := by
  rw [← h]
  unfold dkM
  rw [gU_eq hU, gU_ne hU (by decide), hU.2 94 (by decide)]
theorem dkM_word {I I1 : Mi} {d : Dk} {j : Nat} {x : Int32} (h : dkM I = d) (hU : gU I 94 j x I1) : dkM I1 = (upd d.1 j x, d.2) := by
  rw [← h]
  unfold dkM
  rw [hU.1, hU.2 92 (by decide)]
theorem sp_power_f {σ : Sa} {n : Int32} (h : n < -1 ∨ 100 < n) : sp_power σ n = (0, σ) := if_pos h
theorem sp_power_t {T : Tb} {d : Dk} {cur base : Nat} {n : Int32} (h1 : ¬ n < -1) (h2 : ¬ 100 < n) : sp_power (T, d, cur, base) n = (1, (T, (d.1, d.2.1, n), cur, base)) := if_neg (fun q => q.elim h1 h2)
theorem sp_spoil_f {σ : Sa} {a x : Int32} (h : ¬ gR a 172) : sp_spoil σ a x = (0, σ) := if_neg (fun q => h ((bR_iff (by decide)).mp q))
theorem sp_spoil_t {T : Tb} {d : Dk} {cur base j : Nat} {x : Int32} (h : j < 172) : sp_spoil (T, d, cur, base) (nI j) x = (1, (T, (upd d.1 j x, d.2), cur, base)) := by
  unfold sp_spoil
  rw [if_pos (bR_n h (by decide)), nI_clamp (by omega)]
theorem pu_ldT_1 {f : Nat → Int32} {st u i : Nat} (h : pu_nw f ≠ 2) (e : st = 26 * pu_nw f) : pu_ldT f u i = pu_nib (f (st + 1 + 2 * u + i / 8)) (i % 8) := by
  unfold pu_ldT pu_ld
  rw [if_neg h, e]
theorem pu_ldT_2 {f : Nat → Int32} {u i : Nat} (h : pu_nw f = 2) : pu_ldT f u i = 0 := by
  unfold pu_ldT
  rw [if_pos h]
theorem pu_nib_t {p : Int32} {i v : Nat} (e : p.toBitVec.toNat / 2 ^ (4 * i) % 16 = v) (h : v ≤ 5) : pu_nib p i = v := by
  unfold pu_nib
  rw [e, if_pos h]
theorem pu_nib_f {p : Int32} {i v : Nat} (e : p.toBitVec.toNat / 2 ^ (4 * i) % 16 = v) (h : 5 < v) : pu_nib p i = 0 := by
  unfold pu_nib
  rw [e, if_neg (by omega)]
theorem pu_mrow {T : Tb} {I I1 : Mi} {u i : Nat} {x : Int32} (hq : ∀ a b, (a < u ∨ (a = u ∧ b < i)) → a < 12 → b < 16 → I 93 (16 * a + b) = nI (T a b)) (hU : gU I 93 (16 * u + i) x I1) (hi : i < 16) (hx : nI (T u i) = x) : ∀ a b, (a < u ∨ (a = u ∧ b < i + 1)) → a < 12 → b < 16 → I1 93 (16 * a + b) = nI (T a b) := by
  intro a b hab ha hb
  by_cases e : a = u ∧ b = i
  · rw [e.1, e.2, gU_eq hU]
    exact hx.symm
  · rw [gU_ne hU (by omega)]
    exact hq a b (by omega) ha hb
theorem pu_wo_of {f : Nat → Int32} {k w : Nat} (h : pu_nw f = k) (hw : (if k = 1 then 0 else 1) = w) : pu_wo f = w := by
  unfold pu_wo
  rw [h]
  exact hw
theorem pu_nw_yy1 {f : Nat → Int32} (h0 : pu_good f 0 = true) (h1 : pu_good f 26 = true) (h : f 0 < f 26) : pu_nw f = 1 := by
  unfold pu_nw
  rw [h0, h1]
  exact if_pos h
theorem pu_nw_yy0 {f : Nat → Int32} (h0 : pu_good f 0 = true) (h1 : pu_good f 26 = true) (h : ¬ f 0 < f 26) : pu_nw f = 0 := by
  unfold pu_nw
  rw [h0, h1]
  exact if_neg h
theorem pu_nw_yn {f : Nat → Int32} (h0 : pu_good f 0 = true) (h1 : pu_good f 26 = false) : pu_nw f = 0 := by
  unfold pu_nw
  rw [h0, h1]
  rfl
theorem pu_nw_ny {f : Nat → Int32} (h0 : pu_good f 0 = false) (h1 : pu_good f 26 = true) : pu_nw f = 1 := by
  unfold pu_nw
  rw [h0, h1]
  rfl
theorem pu_nw_nn {f : Nat → Int32} (h0 : pu_good f 0 = false) (h1 : pu_good f 26 = false) : pu_nw f = 2 := by
  unfold pu_nw
  rw [h0, h1]
  rfl
theorem pu_ldn_1 {f : Nat → Int32} {st : Nat} (h : pu_nw f ≠ 2) (e : st = 26 * pu_nw f) : pu_ldn f = f st := by
  unfold pu_ldn
  rw [if_neg h, e]
theorem pu_ldn_0 {f : Nat → Int32} (h : pu_nw f = 2) : pu_ldn f = 0 := if_pos h
theorem pu_dkrs {I I7 I1 : Mi} {d : Dk} (hd : dkM I = d) (h : I7 94 = I 94) (h2 : I1 94 = I7 94) (h4 : I1 92 4 = 0) (h5 : I1 92 5 = -1) : dkM I1 = (d.1, 1, -1) := by
  rw [← hd]
  unfold dkM
  rw [h2, h, h4, h5]
  rfl
theorem pu_c1_192 {T : Tb} : pu_c1 (fun k => T (k / 16) (k % 16)) 192 = pu_cn T 12 := pu_c1_ex 12
theorem tM_at {I : Mi} {T : Tb} {k : Nat} (h : tM I T) (hk : k < 192) : I 93 k = nI (T (k / 16) (k % 16)) := by
  have := h (k / 16) (k % 16) (by omega) (by omega)
  rw [show 16 * (k / 16) + k % 16 = k by omega] at this
  exact this
theorem pu_be_no1 {val : Nat → Int64} {x i : Nat} (h : ¬ val i < val x) (h2 : ¬ val x = val i) : pu_be val x i = false := decide_eq_false (fun q => q.2.elim h (fun z => h2 z.1))
theorem pu_be_no2 {val : Nat → Int64} {x i : Nat} (h : ¬ val i < val x) (h2 : ¬ x < i) : pu_be val x i = false := decide_eq_false (fun q => q.2.elim h (fun z => h2 z.2))
theorem pu_be_y1 {val : Nat → Int64} {x i : Nat} (h0 : 0 < val x) (h : val i < val x) : pu_be val x i = true := decide_eq_true ⟨h0, Or.inl h⟩
theorem pu_be_y2 {val : Nat → Int64} {x i : Nat} (h0 : 0 < val x) (h : val x = val i) (h2 : x < i) : pu_be val x i = true := decide_eq_true ⟨h0, Or.inr ⟨h, h2⟩⟩
theorem pu_gk {k : Int32} (h1 : ¬ k < 1) (h2 : k ≤ 16) : ∃ j, 1 ≤ j ∧ j < 17 ∧ k = nI j := by
  have h0 : ¬ k < 0 := fun q => by
    rw [Int32.lt_iff_toInt_lt] at h1 q
    have e0 : (0 : Int32).toInt = 0 := by decide
    have e1 : (1 : Int32).toInt = 1 := by decide
    omega
  obtain ⟨j, hj, rfl⟩ := pu_gR11 (n := 16) (by decide) h0 h2
  refine ⟨j, ?_, hj, rfl⟩
  exact g_nlt (a := j) (b := 1) h1 (by omega) (by decide)
theorem pu_k1 {k : Int32} (h : k < 1) : gR k 1 ∨ ¬ gR k 17 := by
  by_cases h0 : k < 0
  · exact Or.inr (gR_neg (by decide) h0)
  · left
    obtain ⟨j, hj, rfl⟩ := nI_of h0
    exact gR_n (g_lt (a := j) (b := 1) h hj (by decide))
def pu_mok (M : Nat → Bool) (I : Mi) : Prop := ∀ a, a < 16 → I 97 a = if M a = true then 1 else 0
theorem pu_mok_s {M : Nat → Bool} {I I1 : Mi} {i : Nat} (h : pu_mok M I) (hU : gU I 97 i 1 I1) : pu_mok (pu_ad M i) I1 := by
  intro a ha
  by_cases e : a = i
  · rw [e, gU_eq hU]
    unfold pu_ad
    simp
  · rw [gU_ne hU e, h a ha]
    unfold pu_ad
    simp [e]
theorem pu_rc_y {T : Tb} {u d j i : Nat} (h0 : ¬ T u j = 0) (h : pu_en (pu_vn T j) d = some i) : pu_rc T u d (j + 1) = pu_rc T u d j + 1 := by
  rw [pu_rc_s, if_pos (pu_en_lt (by rw [pu_vr_n h0]; exact h))]
theorem pu_rc_n {T : Tb} {u d j : Nat} (h : ¬ d < pu_sz (pu_vr T u j) 16) : pu_rc T u d (j + 1) = pu_rc T u d j := by
  rw [pu_rc_s, if_neg h]
  rfl
theorem pu_vr_no {T : Tb} {u j d : Nat} (h0 : ¬ T u j = 0) (h : pu_en (pu_vn T j) d = none) : ¬ d < pu_sz (pu_vr T u j) 16 := by
  rw [pu_vr_n h0]
  exact pu_en_no h
theorem pu_rm_y {T : Tb} {u d j i : Nat} {M : Nat → Bool} (h0 : ¬ T u j = 0) (h : pu_en (pu_vn T j) d = some i) : pu_rm T u d M (j + 1) = pu_ad (pu_rm T u d M j) i := pu_rm_some (by rw [pu_vr_n h0]; exact h)
theorem pu_cmp_p {x y : Int64} (h : 0 < lg_cmp x y) : y < x := pu_cmp_gt (fun q => pu_le q h)
theorem pu_cmp_np {x y : Int64} (h : ¬ 0 < lg_cmp x y) : ¬ y < x := pu_cmp_le (Int32.not_lt.mp h)
theorem pu_winv_mem {T : Tb} {I I1 : Mi} (h : pu_winv T I 16 0) (e : I1 95 = I 95) : pu_winv T I1 16 0 := fun a b q ha hb => by
  rw [e]
  exact h a b q ha hb
theorem pu_mok_0 {I : Mi} (h : ∀ a, a < 16 → I 97 a = 0) : pu_mok (fun _ => false) I := fun a ha => by
  rw [h a ha]
  rfl
theorem pu_cmp_self (x : Int64) : lg_cmp x x = 0 := by
  unfold lg_cmp
  rw [if_neg (by rw [gt_iff_lt, Int64.lt_iff_toInt_lt]; omega), if_pos rfl]
theorem pu_tout3 {x : Int32} (h0 : ¬ x = 0) (h1 : ¬ x = 1) (h2 : ¬ x = 2) : x.toInt < 0 ∨ 2 < x.toInt := by
  have a := lv_neT h0 (show (0 : Int32).toInt = 0 by decide)
  have b := lv_neT h1 (show (1 : Int32).toInt = 1 by decide)
  have c := lv_neT h2 (show (2 : Int32).toInt = 2 by decide)
  omega
theorem dkN_left {I I1 : Mi} {d : Dk} {x : Int32} (h : dkN I = d) (hU : gU I 1 2 x I1) : dkN I1 = (d.1, d.2.1, x) := by
  rw [← h]
  unfold dkN
  rw [gU_eq hU, gU_ne hU (by decide), hU.2 2 (by decide)]
theorem dkN_word {I I1 : Mi} {d : Dk} {j : Nat} {x : Int32} (h : dkN I = d) (hU : gU I 2 j x I1) : dkN I1 = (upd d.1 j x, d.2) := by
  rw [← h]
  unfold dkN
  rw [hU.1, hU.2 1 (by decide)]
theorem dkN_mem {I I1 : Mi} (h1 : I1 1 = I 1) (h2 : I1 2 = I 2) : dkN I1 = dkN I := by
  unfold dkN
  rw [h1, h2]
theorem repN_of {I : Mi} {T : Tb} {d : Dk} {cur base : Nat} (h1 : pN I T) (h2 : dkN I = d) (h3 : d.2.1 = 0 ∨ d.2.1 = 1) (h4 : I 0 6 = nI cur) (h5 : I 0 7 = nI base) (h6 : base ≤ cur) (h7 : cur ≤ base + 40) : repN I (T, d, cur, base) := ⟨⟨h1.1, h3, h6, h7⟩, h1, h2, h4, h5⟩
