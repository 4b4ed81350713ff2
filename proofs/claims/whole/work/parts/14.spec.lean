/-! WHAT THE SYSTEM IS: ratings, disk, number, base; and what each call answers and makes of it -/
abbrev Sa : Type := Tb × Dk × Nat × Nat
def bR (x : Int32) (n : Nat) : Bool := decide (¬ x < 0 ∧ x.toNatClampNeg < n)
theorem bR_iff {x : Int32} {n : Nat} (hn : n < 2 ^ 31) : bR x n = true ↔ gR x n := by
  unfold bR
  rw [decide_eq_true_iff]
  constructor
  · rintro ⟨h1, h2⟩
    obtain ⟨j, hj, rfl⟩ := nI_of h1
    rw [nI_clamp hj] at h2
    exact gR_n h2
  · rintro ⟨j, hj, rfl⟩
    rw [nI_clamp (by omega)]
    exact ⟨nI_pos (by omega), hj⟩
theorem bR_t {x : Int32} {n : Nat} (h : gR x n) (hn : n < 2 ^ 31) : bR x n = true := (bR_iff hn).mpr h
theorem bR_f {x : Int32} {n : Nat} (h : ¬ gR x n) (hn : n < 2 ^ 31) : bR x n = false := pu_bf (bR_iff hn) h
theorem bR_n {j n : Nat} (h : j < n) (hn : n < 2 ^ 31) : bR (nI j) n = true := bR_t (gR_n h) hn
def sp_rate (σ : Sa) (u i r : Int32) : Int32 × Sa :=
  if σ.2.1.2.1 = 0 then (-3, σ) else if (bR u 12 && bR i 16 && bR r 6) = false then (-2, σ) else if σ.2.2.1 = σ.2.2.2 + 40 then (-4, σ)
  else if (pu_puts σ.2.1 (pu_at3 (σ.2.2.1 + 1)) (pu_rec (σ.2.2.1 + 1) (1000 * u.toNatClampNeg + 10 * i.toNatClampNeg + r.toNatClampNeg)) 3).2.1 = 0 then (-3, (σ.1, pu_puts σ.2.1 (pu_at3 (σ.2.2.1 + 1)) (pu_rec (σ.2.2.1 + 1) (1000 * u.toNatClampNeg + 10 * i.toNatClampNeg + r.toNatClampNeg)) 3, σ.2.2.1, σ.2.2.2))
  else (nI (σ.1 u.toNatClampNeg i.toNatClampNeg), (pu_T σ.1 u.toNatClampNeg i.toNatClampNeg r.toNatClampNeg, pu_puts σ.2.1 (pu_at3 (σ.2.2.1 + 1)) (pu_rec (σ.2.2.1 + 1) (1000 * u.toNatClampNeg + 10 * i.toNatClampNeg + r.toNatClampNeg)) 3, σ.2.2.1 + 1, σ.2.2.2))
def sp_snapshot (σ : Sa) : Int32 × Sa :=
  if σ.2.1.2.1 = 0 then (-3, σ) else if (pu_puts σ.2.1 (26 * pu_wo σ.2.1.1) (pu_row (nI σ.2.2.1) σ.1) 26).2.1 = 0 then (-3, (σ.1, pu_puts σ.2.1 (26 * pu_wo σ.2.1.1) (pu_row (nI σ.2.2.1) σ.1) 26, σ.2.2.1, σ.2.2.2))
  else (26, (σ.1, pu_puts σ.2.1 (26 * pu_wo σ.2.1.1) (pu_row (nI σ.2.2.1) σ.1) 26, σ.2.2.1, σ.2.2.1))
def sp_power (σ : Sa) (n : Int32) : Int32 × Sa := if n < -1 ∨ 100 < n then (0, σ) else (1, (σ.1, (σ.2.1.1, σ.2.1.2.1, n), σ.2.2.1, σ.2.2.2))
def pu_redo (f : Nat → Int32) : Nat → Tb → Nat → Tb × Nat
  | 0, T, n => (T, n)
  | m + 1, T, n => if pu_hd f (n + 1) = true then pu_redo f m (pu_T T ((f (pu_at3 (n + 1) + 1)).toNatClampNeg / 1000) ((f (pu_at3 (n + 1) + 1)).toNatClampNeg % 1000 / 10) ((f (pu_at3 (n + 1) + 1)).toNatClampNeg % 10)) (n + 1) else (T, n)
def sp_restart (σ : Sa) : Int32 × Sa :=
  (nI ((pu_redo σ.2.1.1 40 (pu_ldT σ.2.1.1) (pu_ldn σ.2.1.1).toNatClampNeg).2 - (pu_ldn σ.2.1.1).toNatClampNeg),
   ((pu_redo σ.2.1.1 40 (pu_ldT σ.2.1.1) (pu_ldn σ.2.1.1).toNatClampNeg).1, (σ.2.1.1, 1, -1), (pu_redo σ.2.1.1 40 (pu_ldT σ.2.1.1) (pu_ldn σ.2.1.1).toNatClampNeg).2, (pu_ldn σ.2.1.1).toNatClampNeg))
def sp_isOn (σ : Sa) : Int32 := σ.2.1.2.1
def sp_word (σ : Sa) (a : Int32) : Int32 := pu_at σ.2.1.1 a
def sp_spoil (σ : Sa) (a x : Int32) : Int32 × Sa := if bR a 172 = true then (1, (σ.1, (upd σ.2.1.1 a.toNatClampNeg x, σ.2.1.2), σ.2.2)) else (0, σ)
def sp_rating (σ : Sa) (u i : Int32) : Int32 := if σ.2.1.2.1 = 0 then -3 else if (bR u 12 && bR i 16) = false then -2 else nI (σ.1 u.toNatClampNeg i.toNatClampNeg)
def sp_weight (σ : Sa) (i j : Int32) : Int32 := if σ.2.1.2.1 = 0 then -3 else if (bR i 16 && bR j 16) = false then -2 else nI (pu_w σ.1 i.toNatClampNeg j.toNatClampNeg)
def sp_neighbour (σ : Sa) (j p : Int32) : Int32 := if σ.2.1.2.1 = 0 then -3 else if bR j 16 = false then -2 else pu_ent (pu_vn σ.1 j.toNatClampNeg) p
def sp_score (σ : Sa) (u i : Int32) : Int64 := if σ.2.1.2.1 = 0 then -3 else if (bR u 12 && bR i 16) = false then -2 else pu_sc σ.1 u.toNatClampNeg i.toNatClampNeg 16
def sp_best (σ : Sa) (u p : Int32) : Int32 := if σ.2.1.2.1 = 0 then -3 else if bR u 12 = false then -2 else pu_ent (pu_vb σ.1 u.toNatClampNeg) p
def sp_reads (σ : Sa) (u k : Int32) : Int32 := if σ.2.1.2.1 = 0 then -3 else if (bR u 12 && !bR k 1 && bR k 17) = false then -2 else nI (pu_rr σ.1 u.toNatClampNeg k.toNatClampNeg 16 0 (fun _ => false) 0)
def sp_share (σ : Sa) (u i j : Int32) : Int64 := if σ.2.1.2.1 = 0 then -3 else if (bR u 12 && bR i 16 && bR j 16) = false then -2 else pu_sh σ.1 u.toNatClampNeg i.toNatClampNeg j.toNatClampNeg
def sp_number (σ : Sa) (h : Int32) : Int32 := if σ.2.1.2.1 = 0 then -3 else if h = 0 then nI σ.2.2.1 else if h = 1 then nI σ.2.2.2 else if h = 2 then nI (pu_cn σ.1 12) else -2
def sp_in (σ : Sa) : Prop := pu_tb σ.1 ∧ (σ.2.1.2.1 = 0 ∨ σ.2.1.2.1 = 1) ∧ σ.2.2.2 ≤ σ.2.2.1 ∧ σ.2.2.1 ≤ σ.2.2.2 + 40
/-- the system holds it -/
def repN (I : Mi) (σ : Sa) : Prop := sp_in σ ∧ pN I σ.1 ∧ dkN I = σ.2.1 ∧ I 0 6 = nI σ.2.2.1 ∧ I 0 7 = nI σ.2.2.2
/-- the reference holds it -/
def tM (I : Mi) (T : Tb) : Prop := ∀ u i, u < 12 → i < 16 → I 93 (16 * u + i) = nI (T u i)
def dkM (I : Mi) : Dk := (I 94, 1 - I 92 4, I 92 5)
def dark01 (I : Mi) : Prop := I 92 4 = 0 ∨ I 92 4 = 1
def repM (I : Mi) (σ : Sa) : Prop := sp_in σ ∧ tM I σ.1 ∧ dark01 I ∧ dkM I = σ.2.1 ∧ I 92 2 = nI σ.2.2.1 ∧ I 92 3 = nI σ.2.2.2
theorem repN_mem {I I1 : Mi} {σ : Sa} (h : repN I σ) (he : ∀ a, a < 38 → I1 a = I a) : repN I1 σ := by
  obtain ⟨h1, h2, h3, h4, h5⟩ := h
  refine ⟨h1, pN_mem (fun a q1 q2 => he a q2) h2, ?_, by rw [he 0 (by decide)]; exact h4, by rw [he 0 (by decide)]; exact h5⟩
  rw [← h3]
  unfold dkN
  rw [he 1 (by decide), he 2 (by decide)]
theorem repM_mem {I I1 : Mi} {σ : Sa} (h : repM I σ) (h1 : I1 92 = I 92) (h2 : I1 93 = I 93) (h3 : I1 94 = I 94) : repM I1 σ := by
  unfold repM tM dark01 dkM
  rw [h1, h2, h3]
  exact h
theorem tM_mem {I I1 : Mi} {T : Tb} (h : tM I T) (h1 : I1 93 = I 93) : tM I1 T := by
  unfold tM
  rw [h1]
  exact h
theorem pu_m1d {x : Int32} : (x = 0 → (1 : Int32) - x = 1) ∧ (x = 1 → (1 : Int32) - x = 0) := ⟨fun h => by rw [h]; rfl, fun h => by rw [h]; rfl⟩
theorem dk_on {I : Mi} (h : I 92 4 = 0) : (dkM I).2.1 = 1 := pu_m1d.1 h
theorem dk_off {I : Mi} (h : I 92 4 = 1) : (dkM I).2.1 = 0 := pu_m1d.2 h
theorem pu_mput_dark {I : Mi} {j : Nat} {x : Int32} (h : I 92 4 = 1) : pu_put (dkM I) j x = dkM I := pu_put_dark (dk_off h)
theorem pu_mput_off {I I1 : Mi} {j : Nat} {x : Int32} (h1 : I 92 4 = 0) (hw : I 92 5 = 0) (hU : gU I 92 4 1 I1) : pu_put (dkM I) j x = dkM I1 := by
  obtain ⟨a, b⟩ := hU
  unfold pu_put
  rw [dk_on h1, if_neg (by decide), if_pos (show (dkM I).2.2 = 0 from hw)]
  unfold dkM
  rw [a, b 94 (by decide)]
  simp [upd]
theorem pu_mput_dec {I I1 I2 : Mi} {j : Nat} {x : Int32} (h1 : I 92 4 = 0) (hw : ¬ I 92 5 = 0) (hw2 : ¬ I 92 5 ≤ 0) (hU : gU I 92 5 (I 92 5 - 1) I1) (hU2 : gU I1 94 j x I2) : pu_put (dkM I) j x = dkM I2 := by
  obtain ⟨a, b⟩ := hU
  obtain ⟨a2, b2⟩ := hU2
  unfold pu_put
  rw [dk_on h1, if_neg (by decide), if_neg (show ¬ (dkM I).2.2 = 0 from hw), if_pos (show 0 < (dkM I).2.2 from pu_nle hw2)]
  unfold dkM
  rw [a2, b2 92 (by decide), a, b 94 (by decide)]
  show _ = (_, 1 - I 92 4, _)
  rw [h1]
  rfl
theorem pu_mput_on {I I1 I2 : Mi} {j : Nat} {x : Int32} (h1 : I 92 4 = 0) (hw : ¬ I 92 5 = 0) (hw2 : I 92 5 ≤ 0) (hU : gU I 92 5 (I 92 5) I1) (hU2 : gU I1 94 j x I2) : pu_put (dkM I) j x = dkM I2 := by
  obtain ⟨a, b⟩ := hU
  obtain ⟨a2, b2⟩ := hU2
  unfold pu_put
  rw [dk_on h1, if_neg (by decide), if_neg (show ¬ (dkM I).2.2 = 0 from hw), if_neg (show ¬ 0 < (dkM I).2.2 from pu_le hw2)]
  unfold dkM
  rw [a2, b2 92 (by decide), a, b 94 (by decide)]
  show _ = (_, 1 - I 92 4, _)
  rw [h1]
  rfl
def pu_hn (t : Nat → Nat) : Nat → Nat
  | 0 => 0
  | m + 1 => 16 * pu_hn t m + t (7 - m)
theorem pu_hn_8 (t : Nat → Nat) : pu_hn t 8 = pu_pk t 8 := by
  simp [pu_hn, pu_pk]
  omega
def pu_dn (m : Nat) : Int32 := 7 - nI m
theorem pu_dn_n : ∀ m, m < 8 → pu_dn m = nI (7 - m) := by decide
theorem pu_dn_8 : pu_dn 8 < 0 := by decide
theorem pu_dn_nn : ∀ m, m < 8 → ¬ pu_dn m < 0 := by decide
theorem pu_dn_s : ∀ m, m < 8 → nI (7 - m) + Int32.ofInt (-1) = pu_dn (m + 1) := by decide
theorem pu_c1_ex {T : Tb} : ∀ u, pu_c1 (fun k => T (k / 16) (k % 16)) (16 * u) = pu_cn T u
  | 0 => rfl
  | u + 1 => by
    show _ = pu_cn T u + pu_c1 (T u) 16
    rw [← pu_c1_ex u]
    have key : ∀ n, n ≤ 16 → pu_c1 (fun k => T (k / 16) (k % 16)) (16 * u + n) = pu_c1 (fun k => T (k / 16) (k % 16)) (16 * u) + pu_c1 (T u) n := by
      intro n
      induction n with
      | zero => intro _; rfl
      | succ n ih =>
        intro hn
        show pu_c1 _ (16 * u + n) + (if T ((16 * u + n) / 16) ((16 * u + n) % 16) = 0 then 0 else 1) = _ + (pu_c1 (T u) n + _)
        rw [ih (by omega), show (16 * u + n) / 16 = u by omega, show (16 * u + n) % 16 = n by omega]
        omega
    exact key 16 (Nat.le_refl _)
/-- the reference's own shift -/
theorem pu_nibM (p : Int32) (k : Nat) (hk : k < 8) : (p >>> (nI (4 * k) &&& 31)) &&& 15 = nI (p.toBitVec.toNat / 2 ^ (4 * k) % 16) := by
  rw [pk_and _ 4 (by decide)]
  congr 1
  have h1 := pk_shr p (nI (4 * k) &&& 31) (4 * k) (pu_shl k hk)
  rw [Int.shiftRight_eq_div_pow] at h1
  generalize p >>> (nI (4 * k) &&& 31) = q at h1 ⊢
  have h2 : q.toInt = q.toBitVec.toInt := rfl
  have h3 : p.toInt = p.toBitVec.toInt := rfl
  have h4 := BitVec.toInt_eq_toNat_cond p.toBitVec
  have h5 := BitVec.toInt_eq_toNat_cond q.toBitVec
  have h6 := p.toBitVec.isLt
  have h7 := q.toBitVec.isLt
  rw [h2, h3, h4, h5] at h1
  generalize p.toBitVec.toNat = a at h1 h6 ⊢
  generalize q.toBitVec.toNat = b at h1 h7 ⊢
  rcases (show k = 0 ∨ k = 1 ∨ k = 2 ∨ k = 3 ∨ k = 4 ∨ k = 5 ∨ k = 6 ∨ k = 7 by omega) with rfl | rfl | rfl | rfl | rfl | rfl | rfl | rfl <;> simp only [Nat.reduceMul, Nat.reducePow, Int.reducePow] at * <;> split at h1 <;> split at h1 <;> omega
theorem pu_gR11 {x : Int32} {n : Nat} (hn : n < 2 ^ 30) (h0 : ¬ x < 0) (h : x ≤ nI n) : gR x (n + 1) := by
  obtain ⟨j, hj, rfl⟩ := nI_of h0
  have := (nI_leI hj (by omega)).mp h
  exact gR_n (by omega)
theorem pu_gR12 {x : Int32} {n : Nat} (hn : n < 2 ^ 30) (h : ¬ x ≤ nI n) : ¬ gR x (n + 1) := by
  rintro ⟨j, hj, rfl⟩
  exact h ((nI_leI (by omega) (by omega)).mpr (by omega))
theorem pu_d1 {I : Mi} (h : dark01 I) (h2 : ¬ I 92 4 = 0) : I 92 4 = 1 := h.resolve_left h2
theorem pu_dt_pos {T : Tb} {i j : Nat} : ∀ n, pu_dt T i j n ≠ 0 → 0 < pu_dt T i i n ∧ 0 < pu_dt T j j n
  | 0, h => absurd rfl h
  | n + 1, h => by
    have h1 : pu_dt T i j n + T n i * T n j ≠ 0 := h
    show 0 < pu_dt T i i n + T n i * T n i ∧ 0 < pu_dt T j j n + T n j * T n j
    by_cases e : pu_dt T i j n = 0
    · have h2 : T n i * T n j ≠ 0 := by omega
      have h3 : T n i ≠ 0 := fun z => h2 (by rw [z, Nat.zero_mul])
      have h4 : T n j ≠ 0 := fun z => h2 (by rw [z, Nat.mul_zero])
      have h5 := Nat.mul_pos (Nat.pos_of_ne_zero h3) (Nat.pos_of_ne_zero h3)
      have h6 := Nat.mul_pos (Nat.pos_of_ne_zero h4) (Nat.pos_of_ne_zero h4)
      omega
    · have := pu_dt_pos n e
      omega
theorem pu_dot_pos {T : Tb} {i j : Nat} (h : ¬ pu_dot T i j = 0) : 0 < pu_dot T i i * pu_dot T j j :=
  Nat.mul_pos (pu_dt_pos 12 h).1 (pu_dt_pos 12 h).2
theorem pu_w_d0 {T : Tb} {i j : Nat} (h : pu_dot T i j = 0) : pu_w T i j = 0 := by
  unfold pu_w
  rw [h]
  simp
def pu_winv (T : Tb) (I : Mi) (i j : Nat) : Prop := ∀ a b, (a < i ∨ (a = i ∧ b < j)) → a < 16 → b < 16 → I 95 (16 * a + b) = nI (pu_w T a b)
theorem pu_wst {T : Tb} {I I1 : Mi} {i j : Nat} {x : Int32} (h : pu_winv T I i j) (hU : gU I 95 (16 * i + j) x I1) (hx : nI (pu_w T i j) = x) : pu_winv T I1 i (j + 1) := by
  intro a b hab ha hb
  by_cases e : a = i ∧ b = j
  · rw [e.1, e.2, gU_eq hU]
    exact hx.symm
  · rw [gU_ne hU (by omega)]
    exact h a b (by omega) ha hb
def pu_nr (T : Tb) (j x y : Nat) : Bool := decide (nI (pu_w T y j) < nI (pu_w T x j) ∨ (nI (pu_w T x j) = nI (pu_w T y j) ∧ x < y))
theorem pu_no1 {a b : Int32} {x y : Nat} (h : ¬ b < a) (h2 : ¬ a = b) : ¬ (b < a ∨ (a = b ∧ x < y)) := fun q => q.elim h (fun z => h2 z.1)
theorem pu_no2 {a b : Int32} {x y : Nat} (h : ¬ b < a) (h2 : ¬ x < y) : ¬ (b < a ∨ (a = b ∧ x < y)) := fun q => q.elim h (fun z => h2 z.2)
theorem pu_64lt {a b : Int32} : a.toInt64 < b.toInt64 ↔ a < b := by
  rw [Int64.lt_iff_toInt_lt, Int32.lt_iff_toInt_lt, Int32.toInt_toInt64, Int32.toInt_toInt64]
theorem pu_64eq {a b : Int32} : a.toInt64 = b.toInt64 ↔ a = b := by
  rw [← Int64.toInt_inj, Int32.toInt_toInt64, Int32.toInt_toInt64, Int32.toInt_inj]
theorem pu_vn_p {T : Tb} {i j : Nat} (h : ¬ nI (pu_w T i j) ≤ 0) : 0 < pu_vn T j i := (pu_64lt (a := 0)).mpr (pu_nle h)
theorem pu_vn_np {T : Tb} {i j : Nat} (h : nI (pu_w T i j) ≤ 0) : ¬ 0 < pu_vn T j i := fun q => pu_le h ((pu_64lt (a := 0)).mp q)
theorem pu_nr_rk {T : Tb} {i j : Nat} (h : 0 < pu_vn T j i) : pu_ct (fun x => pu_nr T j x i) 16 = pu_rk (pu_vn T j) 16 i := by
  refine pu_ct_congr (fun x _ => ?_)
  unfold pu_nr pu_be
  apply decide_eq_decide.mpr
  have e1 : (pu_vn T j i < pu_vn T j x) ↔ nI (pu_w T i j) < nI (pu_w T x j) := pu_64lt
  have e2 : (pu_vn T j x = pu_vn T j i) ↔ nI (pu_w T x j) = nI (pu_w T i j) := pu_64eq
  rw [e1, e2]
  refine ⟨fun q => ⟨?_, q⟩, fun q => q.2⟩
  rcases q with q | q
  · have := e1.mpr q
    rw [Int64.lt_iff_toInt_lt] at h this ⊢
    omega
  · rw [e2.mpr q.1]
    exact h
theorem pu_ent_some {val : Nat → Int64} {i : Nat} (hi : i < 16) (h : 0 < val i) : pu_ent val (nI (pu_rk val 16 i)) = nI i := by
  have h1 := pu_rk_sz hi h
  have h2 := pu_szle val 16
  exact pu_ent_n (by omega) (pu_en_of hi h rfl)
theorem pu_ent_no {val : Nat → Int64} {p : Int32} (h : ∀ x, x < 16 → 0 < val x → ¬ nI (pu_rk val 16 x) = p) : pu_ent val p = -1 := by
  unfold pu_ent
  by_cases e : p < 0
  · rw [if_pos e]
  · rw [if_neg e]
    obtain ⟨j, hj, rfl⟩ := nI_of e
    rw [nI_clamp hj, pu_en_none (fun i hi hp z => h i hi hp (by rw [z]))]
def pu_of (T : Tb) (u i : Nat) : Bool := decide (T u i = 0 ∧ 0 < pu_sc T u i 16)
theorem pu_ab_c {T : Tb} {u : Nat} {M : Nat → Bool} {lim : Int64} {n : Nat} : pu_ab T u M lim (n + 1) = pu_ab T u M lim n + (if M n = true ∧ T u n = 0 ∧ lim < pu_sc T u n 16 then 1 else 0) := by
  show pu_ct _ n + (if decide (M n = true ∧ T u n = 0 ∧ lim < pu_sc T u n 16) = true then 1 else 0) = _
  by_cases h : M n = true ∧ T u n = 0 ∧ lim < pu_sc T u n 16
  · rw [if_pos (decide_eq_true h), if_pos h]
    rfl
  · rw [if_neg (fun q => h (of_decide_eq_true q)), if_neg h]
    rfl
