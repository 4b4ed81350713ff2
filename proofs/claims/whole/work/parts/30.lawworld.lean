def pm (k : Nat) : Nat := if k = 9 then 22 else if k < 3 then k else if k < 10 then k + 1 else if k < 22 then k else if k < 38 then k + 1 else if k < 89 then k + 4 else if k < 92 then k - 50 else k + 1
def adr (b0 k : Nat) : Nat := b0 + pm k
theorem pm_inj : ∀ i, i < 98 → ∀ j, j < 98 → pm i = pm j → i = j := by decide +kernel
def I0 : Mi := fun k j => if k = 2 then wd0 j else if k = 94 then wd0 j else if k = 1 then (if j = 1 then 1 else if j = 2 then -1 else 0) else if k = 92 then (if j = 5 then -1 else 0) else 0
def L0 : Ml := fun _ _ => 0
def lw_s0 : Sa := (fun _ _ => 0, (wd0, 1, -1), 0, 0)
theorem refs_congr {D : va_G} {H : Heap} {q n : Nat} {t : ClassId} {f g : Nat → Option Nat} (h : va_at D vwCl (q, .inl (t, n, .inr (.inr (.inr (.inr f))))) H) (e : ∀ j, j < n → f j = g j) : va_at D vwCl (q, .inl (t, n, .inr (.inr (.inr (.inr g))))) H := by
  have h1 : H[q]? = some (vp_cell t (n, .inr (.inr (.inr (.inr f))))) := h
  show H[q]? = some (vp_cell t (n, .inr (.inr (.inr (.inr g)))))
  rw [h1, vp_cell_q, vp_cell_q]
  unfold arrV
  have e2 : (fun j : Fin n => va_rf (f j.val)) = (fun j : Fin n => va_rf (g j.val)) := funext fun j => by rw [e j.val j.isLt]
  rw [e2]
theorem all_lt0 {Pq : Nat → Prop} : ∀ k, k < 0 → Pq k := fun k h => absurd h (Nat.not_lt_zero k)
theorem all_lt1 {Pq : Nat → Prop} {n : Nat} (h : ∀ k, k < n → Pq k) (h2 : Pq n) : ∀ k, k < n + 1 → Pq k := fun k hk => by
  by_cases e : k = n
  · rw [e]; exact h2
  · exact h k (by omega)
set_option maxHeartbeats 4000000 in
set_option maxRecDepth 100000 in
theorem lw_cells {D : va_G} {tc : Nat → ClassId} {b0 : Nat} {H : Heap} (hP : va_P D vwCl (kW b0 (syL tc b0 ++ mdL tc (b0 + 93))) H) : ∀ k, k < 98 → va_at D vwCl (adr b0 k, gc (adr b0) tc k (I0 k) (L0 k)) H := by
  have hp : ∀ (i : Nat) (e : va_E), (syL tc b0 ++ mdL tc (b0 + 93))[i]? = some e → va_at D vwCl (b0 + i, e) H := fun i e he => hP i _ (kW_at he)
  have h0 : va_at D vwCl (adr b0 0, gc (adr b0) tc 0 (I0 0) (L0 0)) H := (hp 0 (.inr (6, [.ref (b0 + 1), .ref (b0 + 4), .ref (b0 + 6), .ref (b0 + 8), .ref (b0 + 39), .ref (b0 + 42), .int 0, .int 0])) rfl : va_at D vwCl (b0 + 0, .inr (6, [.ref (b0 + 1), .ref (b0 + 4), .ref (b0 + 6), .ref (b0 + 8), .ref (b0 + 39), .ref (b0 + 42), .int 0, .int 0])) H)
  have h1 : va_at D vwCl (adr b0 1, gc (adr b0) tc 1 (I0 1) (L0 1)) H := (hp 1 (.inr (0, [.ref (b0 + 2), .int 1, .int (-1)])) rfl : va_at D vwCl (b0 + 1, .inr (0, [.ref (b0 + 2), .int 1, .int (-1)])) H)
  have h2 : va_at D vwCl (adr b0 2, gc (adr b0) tc 2 (I0 2) (L0 2)) H := (hp 2 (.inl (tc 0, 172, .inl wd0)) rfl : va_at D vwCl (b0 + 2, .inl (tc 0, 172, .inl wd0)) H)
  have h3 : va_at D vwCl (adr b0 3, gc (adr b0) tc 3 (I0 3) (L0 3)) H := (hp 4 (.inr (5, [.ref (b0 + 5)])) rfl : va_at D vwCl (b0 + 4, .inr (5, [.ref (b0 + 5)])) H)
  have h4 : va_at D vwCl (adr b0 4, gc (adr b0) tc 4 (I0 4) (L0 4)) H := (hp 5 (.inl (tc 0, 26, .inl (fun _ => 0))) rfl : va_at D vwCl (b0 + 5, .inl (tc 0, 26, .inl (fun _ => 0))) H)
  have h5 : va_at D vwCl (adr b0 5, gc (adr b0) tc 5 (I0 5) (L0 5)) H := (hp 6 (.inr (4, [.ref (b0 + 7)])) rfl : va_at D vwCl (b0 + 6, .inr (4, [.ref (b0 + 7)])) H)
  have h6 : va_at D vwCl (adr b0 6, gc (adr b0) tc 6 (I0 6) (L0 6)) H := (hp 7 (.inl (tc 0, 3, .inl (fun _ => 0))) rfl : va_at D vwCl (b0 + 7, .inl (tc 0, 3, .inl (fun _ => 0))) H)
  have h7 : va_at D vwCl (adr b0 7, gc (adr b0) tc 7 (I0 7) (L0 7)) H := (hp 8 (.inr (2, [.ref (b0 + 9), .ref (b0 + 22)])) rfl : va_at D vwCl (b0 + 8, .inr (2, [.ref (b0 + 9), .ref (b0 + 22)])) H)
  have h8 : va_at D vwCl (adr b0 8, gc (adr b0) tc 8 (I0 8) (L0 8)) H := refs_congr (f := kOut (b0 + 8) 12 1) (g := fun j => some (adr b0 (10 + j))) (t := tc 3) (n := 12) (hp 9 _ rfl) (fun j hj => by
    show (if j < 12 then some _ else none) = some (adr b0 (10 + j))
    rw [if_pos hj]
    unfold adr pm
    refine congrArg some ?_
    split <;> (try split) <;> (try split) <;> (try split) <;> (try split) <;> (try split) <;> (try split) <;> (try split) <;> omega)
  have h9 : va_at D vwCl (adr b0 9, gc (adr b0) tc 9 (I0 9) (L0 9)) H := refs_congr (f := kOut (b0 + 8) 16 14) (g := fun j => some (adr b0 (22 + j))) (t := tc 3) (n := 16) (hp 22 _ rfl) (fun j hj => by
    show (if j < 16 then some _ else none) = some (adr b0 (22 + j))
    rw [if_pos hj]
    unfold adr pm
    refine congrArg some ?_
    split <;> (try split) <;> (try split) <;> (try split) <;> (try split) <;> (try split) <;> (try split) <;> (try split) <;> omega)
  have h10 : va_at D vwCl (adr b0 10, gc (adr b0) tc 10 (I0 10) (L0 10)) H := (hp 10 (.inl (tc 0, 16, .inl (fun _ => 0))) rfl : va_at D vwCl (b0 + 10, .inl (tc 0, 16, .inl (fun _ => 0))) H)
  have h11 : va_at D vwCl (adr b0 11, gc (adr b0) tc 11 (I0 11) (L0 11)) H := (hp 11 (.inl (tc 0, 16, .inl (fun _ => 0))) rfl : va_at D vwCl (b0 + 11, .inl (tc 0, 16, .inl (fun _ => 0))) H)
  have h12 : va_at D vwCl (adr b0 12, gc (adr b0) tc 12 (I0 12) (L0 12)) H := (hp 12 (.inl (tc 0, 16, .inl (fun _ => 0))) rfl : va_at D vwCl (b0 + 12, .inl (tc 0, 16, .inl (fun _ => 0))) H)
  have h13 : va_at D vwCl (adr b0 13, gc (adr b0) tc 13 (I0 13) (L0 13)) H := (hp 13 (.inl (tc 0, 16, .inl (fun _ => 0))) rfl : va_at D vwCl (b0 + 13, .inl (tc 0, 16, .inl (fun _ => 0))) H)
  have h14 : va_at D vwCl (adr b0 14, gc (adr b0) tc 14 (I0 14) (L0 14)) H := (hp 14 (.inl (tc 0, 16, .inl (fun _ => 0))) rfl : va_at D vwCl (b0 + 14, .inl (tc 0, 16, .inl (fun _ => 0))) H)
  have h15 : va_at D vwCl (adr b0 15, gc (adr b0) tc 15 (I0 15) (L0 15)) H := (hp 15 (.inl (tc 0, 16, .inl (fun _ => 0))) rfl : va_at D vwCl (b0 + 15, .inl (tc 0, 16, .inl (fun _ => 0))) H)
  have h16 : va_at D vwCl (adr b0 16, gc (adr b0) tc 16 (I0 16) (L0 16)) H := (hp 16 (.inl (tc 0, 16, .inl (fun _ => 0))) rfl : va_at D vwCl (b0 + 16, .inl (tc 0, 16, .inl (fun _ => 0))) H)
  have h17 : va_at D vwCl (adr b0 17, gc (adr b0) tc 17 (I0 17) (L0 17)) H := (hp 17 (.inl (tc 0, 16, .inl (fun _ => 0))) rfl : va_at D vwCl (b0 + 17, .inl (tc 0, 16, .inl (fun _ => 0))) H)
  have h18 : va_at D vwCl (adr b0 18, gc (adr b0) tc 18 (I0 18) (L0 18)) H := (hp 18 (.inl (tc 0, 16, .inl (fun _ => 0))) rfl : va_at D vwCl (b0 + 18, .inl (tc 0, 16, .inl (fun _ => 0))) H)
  have h19 : va_at D vwCl (adr b0 19, gc (adr b0) tc 19 (I0 19) (L0 19)) H := (hp 19 (.inl (tc 0, 16, .inl (fun _ => 0))) rfl : va_at D vwCl (b0 + 19, .inl (tc 0, 16, .inl (fun _ => 0))) H)
  have h20 : va_at D vwCl (adr b0 20, gc (adr b0) tc 20 (I0 20) (L0 20)) H := (hp 20 (.inl (tc 0, 16, .inl (fun _ => 0))) rfl : va_at D vwCl (b0 + 20, .inl (tc 0, 16, .inl (fun _ => 0))) H)
  have h21 : va_at D vwCl (adr b0 21, gc (adr b0) tc 21 (I0 21) (L0 21)) H := (hp 21 (.inl (tc 0, 16, .inl (fun _ => 0))) rfl : va_at D vwCl (b0 + 21, .inl (tc 0, 16, .inl (fun _ => 0))) H)
  have h22 : va_at D vwCl (adr b0 22, gc (adr b0) tc 22 (I0 22) (L0 22)) H := (hp 23 (.inl (tc 0, 16, .inl (fun _ => 0))) rfl : va_at D vwCl (b0 + 23, .inl (tc 0, 16, .inl (fun _ => 0))) H)
  have h23 : va_at D vwCl (adr b0 23, gc (adr b0) tc 23 (I0 23) (L0 23)) H := (hp 24 (.inl (tc 0, 16, .inl (fun _ => 0))) rfl : va_at D vwCl (b0 + 24, .inl (tc 0, 16, .inl (fun _ => 0))) H)
  have h24 : va_at D vwCl (adr b0 24, gc (adr b0) tc 24 (I0 24) (L0 24)) H := (hp 25 (.inl (tc 0, 16, .inl (fun _ => 0))) rfl : va_at D vwCl (b0 + 25, .inl (tc 0, 16, .inl (fun _ => 0))) H)
  have h25 : va_at D vwCl (adr b0 25, gc (adr b0) tc 25 (I0 25) (L0 25)) H := (hp 26 (.inl (tc 0, 16, .inl (fun _ => 0))) rfl : va_at D vwCl (b0 + 26, .inl (tc 0, 16, .inl (fun _ => 0))) H)
  have h26 : va_at D vwCl (adr b0 26, gc (adr b0) tc 26 (I0 26) (L0 26)) H := (hp 27 (.inl (tc 0, 16, .inl (fun _ => 0))) rfl : va_at D vwCl (b0 + 27, .inl (tc 0, 16, .inl (fun _ => 0))) H)
  have h27 : va_at D vwCl (adr b0 27, gc (adr b0) tc 27 (I0 27) (L0 27)) H := (hp 28 (.inl (tc 0, 16, .inl (fun _ => 0))) rfl : va_at D vwCl (b0 + 28, .inl (tc 0, 16, .inl (fun _ => 0))) H)
  have h28 : va_at D vwCl (adr b0 28, gc (adr b0) tc 28 (I0 28) (L0 28)) H := (hp 29 (.inl (tc 0, 16, .inl (fun _ => 0))) rfl : va_at D vwCl (b0 + 29, .inl (tc 0, 16, .inl (fun _ => 0))) H)
  have h29 : va_at D vwCl (adr b0 29, gc (adr b0) tc 29 (I0 29) (L0 29)) H := (hp 30 (.inl (tc 0, 16, .inl (fun _ => 0))) rfl : va_at D vwCl (b0 + 30, .inl (tc 0, 16, .inl (fun _ => 0))) H)
  have h30 : va_at D vwCl (adr b0 30, gc (adr b0) tc 30 (I0 30) (L0 30)) H := (hp 31 (.inl (tc 0, 16, .inl (fun _ => 0))) rfl : va_at D vwCl (b0 + 31, .inl (tc 0, 16, .inl (fun _ => 0))) H)
  have h31 : va_at D vwCl (adr b0 31, gc (adr b0) tc 31 (I0 31) (L0 31)) H := (hp 32 (.inl (tc 0, 16, .inl (fun _ => 0))) rfl : va_at D vwCl (b0 + 32, .inl (tc 0, 16, .inl (fun _ => 0))) H)
  have h32 : va_at D vwCl (adr b0 32, gc (adr b0) tc 32 (I0 32) (L0 32)) H := (hp 33 (.inl (tc 0, 16, .inl (fun _ => 0))) rfl : va_at D vwCl (b0 + 33, .inl (tc 0, 16, .inl (fun _ => 0))) H)
  have h33 : va_at D vwCl (adr b0 33, gc (adr b0) tc 33 (I0 33) (L0 33)) H := (hp 34 (.inl (tc 0, 16, .inl (fun _ => 0))) rfl : va_at D vwCl (b0 + 34, .inl (tc 0, 16, .inl (fun _ => 0))) H)
  have h34 : va_at D vwCl (adr b0 34, gc (adr b0) tc 34 (I0 34) (L0 34)) H := (hp 35 (.inl (tc 0, 16, .inl (fun _ => 0))) rfl : va_at D vwCl (b0 + 35, .inl (tc 0, 16, .inl (fun _ => 0))) H)
  have h35 : va_at D vwCl (adr b0 35, gc (adr b0) tc 35 (I0 35) (L0 35)) H := (hp 36 (.inl (tc 0, 16, .inl (fun _ => 0))) rfl : va_at D vwCl (b0 + 36, .inl (tc 0, 16, .inl (fun _ => 0))) H)
  have h36 : va_at D vwCl (adr b0 36, gc (adr b0) tc 36 (I0 36) (L0 36)) H := (hp 37 (.inl (tc 0, 16, .inl (fun _ => 0))) rfl : va_at D vwCl (b0 + 37, .inl (tc 0, 16, .inl (fun _ => 0))) H)
  have h37 : va_at D vwCl (adr b0 37, gc (adr b0) tc 37 (I0 37) (L0 37)) H := (hp 38 (.inl (tc 0, 16, .inl (fun _ => 0))) rfl : va_at D vwCl (b0 + 38, .inl (tc 0, 16, .inl (fun _ => 0))) H)
  have h38 : va_at D vwCl (adr b0 38, gc (adr b0) tc 38 (I0 38) (L0 38)) H := (hp 42 (.inr (3, [.ref (b0 + 43), .ref (b0 + 44), .int 0])) rfl : va_at D vwCl (b0 + 42, .inr (3, [.ref (b0 + 43), .ref (b0 + 44), .int 0])) H)
  have h39 : va_at D vwCl (adr b0 39, gc (adr b0) tc 39 (I0 39) (L0 39)) H := refs_congr (f := rdO (b0 + 42) 16) (g := fun j => some (adr b0 (41 + 3 * j))) (t := tc 4) (n := 16) (hp 43 _ rfl) (fun j hj => by
    show (if j < 16 then some _ else none) = some (adr b0 (41 + 3 * j))
    rw [if_pos hj]
    unfold adr pm
    refine congrArg some ?_
    split <;> (try split) <;> (try split) <;> (try split) <;> (try split) <;> (try split) <;> (try split) <;> (try split) <;> omega)
  have h40 : va_at D vwCl (adr b0 40, gc (adr b0) tc 40 (I0 40) (L0 40)) H := (hp 44 (.inl (tc 1, 16, .inr (.inl (fun _ => 0)))) rfl : va_at D vwCl (b0 + 44, .inl (tc 1, 16, .inr (.inl (fun _ => 0)))) H)
  have h41 : va_at D vwCl (adr b0 41, gc (adr b0) tc 41 (I0 41) (L0 41)) H := (hp 45 (.inr (1, [.ref (b0 + 46), .ref (b0 + 47), .int 0])) rfl : va_at D vwCl (b0 + 45, .inr (1, [.ref (b0 + 46), .ref (b0 + 47), .int 0])) H)
  have h42 : va_at D vwCl (adr b0 42, gc (adr b0) tc 42 (I0 42) (L0 42)) H := (hp 46 (.inl (tc 0, 16, .inl (fun _ => 0))) rfl : va_at D vwCl (b0 + 46, .inl (tc 0, 16, .inl (fun _ => 0))) H)
  have h43 : va_at D vwCl (adr b0 43, gc (adr b0) tc 43 (I0 43) (L0 43)) H := (hp 47 (.inl (tc 1, 16, .inr (.inl (fun _ => 0)))) rfl : va_at D vwCl (b0 + 47, .inl (tc 1, 16, .inr (.inl (fun _ => 0)))) H)
  have h44 : va_at D vwCl (adr b0 44, gc (adr b0) tc 44 (I0 44) (L0 44)) H := (hp 48 (.inr (1, [.ref (b0 + 49), .ref (b0 + 50), .int 0])) rfl : va_at D vwCl (b0 + 48, .inr (1, [.ref (b0 + 49), .ref (b0 + 50), .int 0])) H)
  have h45 : va_at D vwCl (adr b0 45, gc (adr b0) tc 45 (I0 45) (L0 45)) H := (hp 49 (.inl (tc 0, 16, .inl (fun _ => 0))) rfl : va_at D vwCl (b0 + 49, .inl (tc 0, 16, .inl (fun _ => 0))) H)
  have h46 : va_at D vwCl (adr b0 46, gc (adr b0) tc 46 (I0 46) (L0 46)) H := (hp 50 (.inl (tc 1, 16, .inr (.inl (fun _ => 0)))) rfl : va_at D vwCl (b0 + 50, .inl (tc 1, 16, .inr (.inl (fun _ => 0)))) H)
  have h47 : va_at D vwCl (adr b0 47, gc (adr b0) tc 47 (I0 47) (L0 47)) H := (hp 51 (.inr (1, [.ref (b0 + 52), .ref (b0 + 53), .int 0])) rfl : va_at D vwCl (b0 + 51, .inr (1, [.ref (b0 + 52), .ref (b0 + 53), .int 0])) H)
  have h48 : va_at D vwCl (adr b0 48, gc (adr b0) tc 48 (I0 48) (L0 48)) H := (hp 52 (.inl (tc 0, 16, .inl (fun _ => 0))) rfl : va_at D vwCl (b0 + 52, .inl (tc 0, 16, .inl (fun _ => 0))) H)
  have h49 : va_at D vwCl (adr b0 49, gc (adr b0) tc 49 (I0 49) (L0 49)) H := (hp 53 (.inl (tc 1, 16, .inr (.inl (fun _ => 0)))) rfl : va_at D vwCl (b0 + 53, .inl (tc 1, 16, .inr (.inl (fun _ => 0)))) H)
  have h50 : va_at D vwCl (adr b0 50, gc (adr b0) tc 50 (I0 50) (L0 50)) H := (hp 54 (.inr (1, [.ref (b0 + 55), .ref (b0 + 56), .int 0])) rfl : va_at D vwCl (b0 + 54, .inr (1, [.ref (b0 + 55), .ref (b0 + 56), .int 0])) H)
  have h51 : va_at D vwCl (adr b0 51, gc (adr b0) tc 51 (I0 51) (L0 51)) H := (hp 55 (.inl (tc 0, 16, .inl (fun _ => 0))) rfl : va_at D vwCl (b0 + 55, .inl (tc 0, 16, .inl (fun _ => 0))) H)
  have h52 : va_at D vwCl (adr b0 52, gc (adr b0) tc 52 (I0 52) (L0 52)) H := (hp 56 (.inl (tc 1, 16, .inr (.inl (fun _ => 0)))) rfl : va_at D vwCl (b0 + 56, .inl (tc 1, 16, .inr (.inl (fun _ => 0)))) H)
  have h53 : va_at D vwCl (adr b0 53, gc (adr b0) tc 53 (I0 53) (L0 53)) H := (hp 57 (.inr (1, [.ref (b0 + 58), .ref (b0 + 59), .int 0])) rfl : va_at D vwCl (b0 + 57, .inr (1, [.ref (b0 + 58), .ref (b0 + 59), .int 0])) H)
  have h54 : va_at D vwCl (adr b0 54, gc (adr b0) tc 54 (I0 54) (L0 54)) H := (hp 58 (.inl (tc 0, 16, .inl (fun _ => 0))) rfl : va_at D vwCl (b0 + 58, .inl (tc 0, 16, .inl (fun _ => 0))) H)
  have h55 : va_at D vwCl (adr b0 55, gc (adr b0) tc 55 (I0 55) (L0 55)) H := (hp 59 (.inl (tc 1, 16, .inr (.inl (fun _ => 0)))) rfl : va_at D vwCl (b0 + 59, .inl (tc 1, 16, .inr (.inl (fun _ => 0)))) H)
  have h56 : va_at D vwCl (adr b0 56, gc (adr b0) tc 56 (I0 56) (L0 56)) H := (hp 60 (.inr (1, [.ref (b0 + 61), .ref (b0 + 62), .int 0])) rfl : va_at D vwCl (b0 + 60, .inr (1, [.ref (b0 + 61), .ref (b0 + 62), .int 0])) H)
  have h57 : va_at D vwCl (adr b0 57, gc (adr b0) tc 57 (I0 57) (L0 57)) H := (hp 61 (.inl (tc 0, 16, .inl (fun _ => 0))) rfl : va_at D vwCl (b0 + 61, .inl (tc 0, 16, .inl (fun _ => 0))) H)
  have h58 : va_at D vwCl (adr b0 58, gc (adr b0) tc 58 (I0 58) (L0 58)) H := (hp 62 (.inl (tc 1, 16, .inr (.inl (fun _ => 0)))) rfl : va_at D vwCl (b0 + 62, .inl (tc 1, 16, .inr (.inl (fun _ => 0)))) H)
  have h59 : va_at D vwCl (adr b0 59, gc (adr b0) tc 59 (I0 59) (L0 59)) H := (hp 63 (.inr (1, [.ref (b0 + 64), .ref (b0 + 65), .int 0])) rfl : va_at D vwCl (b0 + 63, .inr (1, [.ref (b0 + 64), .ref (b0 + 65), .int 0])) H)
  have h60 : va_at D vwCl (adr b0 60, gc (adr b0) tc 60 (I0 60) (L0 60)) H := (hp 64 (.inl (tc 0, 16, .inl (fun _ => 0))) rfl : va_at D vwCl (b0 + 64, .inl (tc 0, 16, .inl (fun _ => 0))) H)
  have h61 : va_at D vwCl (adr b0 61, gc (adr b0) tc 61 (I0 61) (L0 61)) H := (hp 65 (.inl (tc 1, 16, .inr (.inl (fun _ => 0)))) rfl : va_at D vwCl (b0 + 65, .inl (tc 1, 16, .inr (.inl (fun _ => 0)))) H)
  have h62 : va_at D vwCl (adr b0 62, gc (adr b0) tc 62 (I0 62) (L0 62)) H := (hp 66 (.inr (1, [.ref (b0 + 67), .ref (b0 + 68), .int 0])) rfl : va_at D vwCl (b0 + 66, .inr (1, [.ref (b0 + 67), .ref (b0 + 68), .int 0])) H)
  have h63 : va_at D vwCl (adr b0 63, gc (adr b0) tc 63 (I0 63) (L0 63)) H := (hp 67 (.inl (tc 0, 16, .inl (fun _ => 0))) rfl : va_at D vwCl (b0 + 67, .inl (tc 0, 16, .inl (fun _ => 0))) H)
  have h64 : va_at D vwCl (adr b0 64, gc (adr b0) tc 64 (I0 64) (L0 64)) H := (hp 68 (.inl (tc 1, 16, .inr (.inl (fun _ => 0)))) rfl : va_at D vwCl (b0 + 68, .inl (tc 1, 16, .inr (.inl (fun _ => 0)))) H)
  have h65 : va_at D vwCl (adr b0 65, gc (adr b0) tc 65 (I0 65) (L0 65)) H := (hp 69 (.inr (1, [.ref (b0 + 70), .ref (b0 + 71), .int 0])) rfl : va_at D vwCl (b0 + 69, .inr (1, [.ref (b0 + 70), .ref (b0 + 71), .int 0])) H)
  have h66 : va_at D vwCl (adr b0 66, gc (adr b0) tc 66 (I0 66) (L0 66)) H := (hp 70 (.inl (tc 0, 16, .inl (fun _ => 0))) rfl : va_at D vwCl (b0 + 70, .inl (tc 0, 16, .inl (fun _ => 0))) H)
  have h67 : va_at D vwCl (adr b0 67, gc (adr b0) tc 67 (I0 67) (L0 67)) H := (hp 71 (.inl (tc 1, 16, .inr (.inl (fun _ => 0)))) rfl : va_at D vwCl (b0 + 71, .inl (tc 1, 16, .inr (.inl (fun _ => 0)))) H)
  have h68 : va_at D vwCl (adr b0 68, gc (adr b0) tc 68 (I0 68) (L0 68)) H := (hp 72 (.inr (1, [.ref (b0 + 73), .ref (b0 + 74), .int 0])) rfl : va_at D vwCl (b0 + 72, .inr (1, [.ref (b0 + 73), .ref (b0 + 74), .int 0])) H)
  have h69 : va_at D vwCl (adr b0 69, gc (adr b0) tc 69 (I0 69) (L0 69)) H := (hp 73 (.inl (tc 0, 16, .inl (fun _ => 0))) rfl : va_at D vwCl (b0 + 73, .inl (tc 0, 16, .inl (fun _ => 0))) H)
  have h70 : va_at D vwCl (adr b0 70, gc (adr b0) tc 70 (I0 70) (L0 70)) H := (hp 74 (.inl (tc 1, 16, .inr (.inl (fun _ => 0)))) rfl : va_at D vwCl (b0 + 74, .inl (tc 1, 16, .inr (.inl (fun _ => 0)))) H)
  have h71 : va_at D vwCl (adr b0 71, gc (adr b0) tc 71 (I0 71) (L0 71)) H := (hp 75 (.inr (1, [.ref (b0 + 76), .ref (b0 + 77), .int 0])) rfl : va_at D vwCl (b0 + 75, .inr (1, [.ref (b0 + 76), .ref (b0 + 77), .int 0])) H)
  have h72 : va_at D vwCl (adr b0 72, gc (adr b0) tc 72 (I0 72) (L0 72)) H := (hp 76 (.inl (tc 0, 16, .inl (fun _ => 0))) rfl : va_at D vwCl (b0 + 76, .inl (tc 0, 16, .inl (fun _ => 0))) H)
  have h73 : va_at D vwCl (adr b0 73, gc (adr b0) tc 73 (I0 73) (L0 73)) H := (hp 77 (.inl (tc 1, 16, .inr (.inl (fun _ => 0)))) rfl : va_at D vwCl (b0 + 77, .inl (tc 1, 16, .inr (.inl (fun _ => 0)))) H)
  have h74 : va_at D vwCl (adr b0 74, gc (adr b0) tc 74 (I0 74) (L0 74)) H := (hp 78 (.inr (1, [.ref (b0 + 79), .ref (b0 + 80), .int 0])) rfl : va_at D vwCl (b0 + 78, .inr (1, [.ref (b0 + 79), .ref (b0 + 80), .int 0])) H)
  have h75 : va_at D vwCl (adr b0 75, gc (adr b0) tc 75 (I0 75) (L0 75)) H := (hp 79 (.inl (tc 0, 16, .inl (fun _ => 0))) rfl : va_at D vwCl (b0 + 79, .inl (tc 0, 16, .inl (fun _ => 0))) H)
  have h76 : va_at D vwCl (adr b0 76, gc (adr b0) tc 76 (I0 76) (L0 76)) H := (hp 80 (.inl (tc 1, 16, .inr (.inl (fun _ => 0)))) rfl : va_at D vwCl (b0 + 80, .inl (tc 1, 16, .inr (.inl (fun _ => 0)))) H)
  have h77 : va_at D vwCl (adr b0 77, gc (adr b0) tc 77 (I0 77) (L0 77)) H := (hp 81 (.inr (1, [.ref (b0 + 82), .ref (b0 + 83), .int 0])) rfl : va_at D vwCl (b0 + 81, .inr (1, [.ref (b0 + 82), .ref (b0 + 83), .int 0])) H)
  have h78 : va_at D vwCl (adr b0 78, gc (adr b0) tc 78 (I0 78) (L0 78)) H := (hp 82 (.inl (tc 0, 16, .inl (fun _ => 0))) rfl : va_at D vwCl (b0 + 82, .inl (tc 0, 16, .inl (fun _ => 0))) H)
  have h79 : va_at D vwCl (adr b0 79, gc (adr b0) tc 79 (I0 79) (L0 79)) H := (hp 83 (.inl (tc 1, 16, .inr (.inl (fun _ => 0)))) rfl : va_at D vwCl (b0 + 83, .inl (tc 1, 16, .inr (.inl (fun _ => 0)))) H)
  have h80 : va_at D vwCl (adr b0 80, gc (adr b0) tc 80 (I0 80) (L0 80)) H := (hp 84 (.inr (1, [.ref (b0 + 85), .ref (b0 + 86), .int 0])) rfl : va_at D vwCl (b0 + 84, .inr (1, [.ref (b0 + 85), .ref (b0 + 86), .int 0])) H)
  have h81 : va_at D vwCl (adr b0 81, gc (adr b0) tc 81 (I0 81) (L0 81)) H := (hp 85 (.inl (tc 0, 16, .inl (fun _ => 0))) rfl : va_at D vwCl (b0 + 85, .inl (tc 0, 16, .inl (fun _ => 0))) H)
  have h82 : va_at D vwCl (adr b0 82, gc (adr b0) tc 82 (I0 82) (L0 82)) H := (hp 86 (.inl (tc 1, 16, .inr (.inl (fun _ => 0)))) rfl : va_at D vwCl (b0 + 86, .inl (tc 1, 16, .inr (.inl (fun _ => 0)))) H)
  have h83 : va_at D vwCl (adr b0 83, gc (adr b0) tc 83 (I0 83) (L0 83)) H := (hp 87 (.inr (1, [.ref (b0 + 88), .ref (b0 + 89), .int 0])) rfl : va_at D vwCl (b0 + 87, .inr (1, [.ref (b0 + 88), .ref (b0 + 89), .int 0])) H)
  have h84 : va_at D vwCl (adr b0 84, gc (adr b0) tc 84 (I0 84) (L0 84)) H := (hp 88 (.inl (tc 0, 16, .inl (fun _ => 0))) rfl : va_at D vwCl (b0 + 88, .inl (tc 0, 16, .inl (fun _ => 0))) H)
  have h85 : va_at D vwCl (adr b0 85, gc (adr b0) tc 85 (I0 85) (L0 85)) H := (hp 89 (.inl (tc 1, 16, .inr (.inl (fun _ => 0)))) rfl : va_at D vwCl (b0 + 89, .inl (tc 1, 16, .inr (.inl (fun _ => 0)))) H)
  have h86 : va_at D vwCl (adr b0 86, gc (adr b0) tc 86 (I0 86) (L0 86)) H := (hp 90 (.inr (1, [.ref (b0 + 91), .ref (b0 + 92), .int 0])) rfl : va_at D vwCl (b0 + 90, .inr (1, [.ref (b0 + 91), .ref (b0 + 92), .int 0])) H)
  have h87 : va_at D vwCl (adr b0 87, gc (adr b0) tc 87 (I0 87) (L0 87)) H := (hp 91 (.inl (tc 0, 16, .inl (fun _ => 0))) rfl : va_at D vwCl (b0 + 91, .inl (tc 0, 16, .inl (fun _ => 0))) H)
  have h88 : va_at D vwCl (adr b0 88, gc (adr b0) tc 88 (I0 88) (L0 88)) H := (hp 92 (.inl (tc 1, 16, .inr (.inl (fun _ => 0)))) rfl : va_at D vwCl (b0 + 92, .inl (tc 1, 16, .inr (.inl (fun _ => 0)))) H)
  have h89 : va_at D vwCl (adr b0 89, gc (adr b0) tc 89 (I0 89) (L0 89)) H := (hp 39 (.inr (1, [.ref (b0 + 40), .ref (b0 + 41), .int 0])) rfl : va_at D vwCl (b0 + 39, .inr (1, [.ref (b0 + 40), .ref (b0 + 41), .int 0])) H)
  have h90 : va_at D vwCl (adr b0 90, gc (adr b0) tc 90 (I0 90) (L0 90)) H := (hp 40 (.inl (tc 0, 16, .inl (fun _ => 0))) rfl : va_at D vwCl (b0 + 40, .inl (tc 0, 16, .inl (fun _ => 0))) H)
  have h91 : va_at D vwCl (adr b0 91, gc (adr b0) tc 91 (I0 91) (L0 91)) H := (hp 41 (.inl (tc 1, 16, .inr (.inl (fun _ => 0)))) rfl : va_at D vwCl (b0 + 41, .inl (tc 1, 16, .inr (.inl (fun _ => 0)))) H)
  have h92 : va_at D vwCl (adr b0 92, gc (adr b0) tc 92 (I0 92) (L0 92)) H := (hp 93 (.inr (7, [.ref (b0 + 94), .ref (b0 + 95), .int 0, .int 0, .int 0, .int (-1), .ref (b0 + 96), .ref (b0 + 97), .ref (b0 + 98)])) rfl : va_at D vwCl (b0 + 93, .inr (7, [.ref (b0 + 94), .ref (b0 + 95), .int 0, .int 0, .int 0, .int (-1), .ref (b0 + 96), .ref (b0 + 97), .ref (b0 + 98)])) H)
  have h93 : va_at D vwCl (adr b0 93, gc (adr b0) tc 93 (I0 93) (L0 93)) H := (hp 94 (.inl (tc 0, 192, .inl (fun _ => 0))) rfl : va_at D vwCl (b0 + 94, .inl (tc 0, 192, .inl (fun _ => 0))) H)
  have h94 : va_at D vwCl (adr b0 94, gc (adr b0) tc 94 (I0 94) (L0 94)) H := (hp 95 (.inl (tc 0, 172, .inl wd0)) rfl : va_at D vwCl (b0 + 95, .inl (tc 0, 172, .inl wd0)) H)
  have h95 : va_at D vwCl (adr b0 95, gc (adr b0) tc 95 (I0 95) (L0 95)) H := (hp 96 (.inl (tc 0, 256, .inl (fun _ => 0))) rfl : va_at D vwCl (b0 + 96, .inl (tc 0, 256, .inl (fun _ => 0))) H)
  have h96 : va_at D vwCl (adr b0 96, gc (adr b0) tc 96 (I0 96) (L0 96)) H := (hp 97 (.inl (tc 1, 16, .inr (.inl (fun _ => 0)))) rfl : va_at D vwCl (b0 + 97, .inl (tc 1, 16, .inr (.inl (fun _ => 0)))) H)
  have h97 : va_at D vwCl (adr b0 97, gc (adr b0) tc 97 (I0 97) (L0 97)) H := (hp 98 (.inl (tc 2, 16, .inl (fun _ => 0))) rfl : va_at D vwCl (b0 + 98, .inl (tc 2, 16, .inl (fun _ => 0))) H)
  exact (all_lt1 (all_lt1 (all_lt1 (all_lt1 (all_lt1 (all_lt1 (all_lt1 (all_lt1 (all_lt1 (all_lt1 (all_lt1 (all_lt1 (all_lt1 (all_lt1 (all_lt1 (all_lt1 (all_lt1 (all_lt1 (all_lt1 (all_lt1 (all_lt1 (all_lt1 (all_lt1 (all_lt1 (all_lt1 (all_lt1 (all_lt1 (all_lt1 (all_lt1 (all_lt1 (all_lt1 (all_lt1 (all_lt1 (all_lt1 (all_lt1 (all_lt1 (all_lt1 (all_lt1 (all_lt1 (all_lt1 (all_lt1 (all_lt1 (all_lt1 (all_lt1 (all_lt1 (all_lt1 (all_lt1 (all_lt1 (all_lt1 (all_lt1 (all_lt1 (all_lt1 (all_lt1 (all_lt1 (all_lt1 (all_lt1 (all_lt1 (all_lt1 (all_lt1 (all_lt1 (all_lt1 (all_lt1 (all_lt1 (all_lt1 (all_lt1 (all_lt1 (all_lt1 (all_lt1 (all_lt1 (all_lt1 (all_lt1 (all_lt1 (all_lt1 (all_lt1 (all_lt1 (all_lt1 (all_lt1 (all_lt1 (all_lt1 (all_lt1 (all_lt1 (all_lt1 (all_lt1 (all_lt1 (all_lt1 (all_lt1 (all_lt1 (all_lt1 (all_lt1 (all_lt1 (all_lt1 (all_lt1 (all_lt1 (all_lt1 (all_lt1 (all_lt1 (all_lt1 (all_lt1 all_lt0 h0) h1) h2) h3) h4) h5) h6) h7) h8) h9) h10) h11) h12) h13) h14) h15) h16) h17) h18) h19) h20) h21) h22) h23) h24) h25) h26) h27) h28) h29) h30) h31) h32) h33) h34) h35) h36) h37) h38) h39) h40) h41) h42) h43) h44) h45) h46) h47) h48) h49) h50) h51) h52) h53) h54) h55) h56) h57) h58) h59) h60) h61) h62) h63) h64) h65) h66) h67) h68) h69) h70) h71) h72) h73) h74) h75) h76) h77) h78) h79) h80) h81) h82) h83) h84) h85) h86) h87) h88) h89) h90) h91) h92) h93) h94) h95) h96) h97)
theorem lw_world {D : va_G} {tc : Nat → ClassId} {b0 : Nat} {H0 H : Heap} {locs : List Loc} (hG : kG D b0 H0 (syL tc b0 ++ mdL tc (b0 + 93)) H locs) : gG D (adr b0) tc (kA b0) H0 I0 L0 H locs := by
  refine ⟨fun k q hq => ?_, hG.2.2⟩
  obtain ⟨hk, rfl⟩ := gW_of hq
  exact lw_cells hG.2.1 k hk
theorem lw_in0 : sp_in lw_s0 := ⟨fun _ _ _ _ => Nat.zero_le _, Or.inr rfl, Nat.le_refl _, Nat.zero_le _⟩
theorem lw_dt0 (i j : Nat) : ∀ n, pu_dt (fun _ _ => 0) i j n = 0
  | 0 => rfl
  | n + 1 => by
    unfold pu_dt
    rw [lw_dt0 i j n]
theorem lw_I0 (k j : Nat) (h : 3 ≤ k) (h2 : k < 92 ∨ k = 93) : I0 k j = 0 := by
  unfold I0
  rw [if_neg (by omega), if_neg (by omega), if_neg (by omega), if_neg (by omega)]
theorem lw_N0 : repN I0 lw_s0 := by
  refine ⟨lw_in0, ⟨lw_in0.1, fun u i hu hi => ?_, fun i j hi hj => ?_⟩, rfl, rfl, rfl⟩
  · rw [lw_I0 _ _ (by omega) (by omega)]
    rfl
  · rw [lw_I0 _ _ (by omega) (by omega)]
    show (0 : Int32) = nI (pu_dt (fun _ _ => 0) i j 12)
    rw [lw_dt0]
    rfl
theorem lw_M0 : repM I0 lw_s0 := by
  refine ⟨lw_in0, fun u i hu hi => ?_, Or.inl rfl, ?_, rfl, rfl⟩
  · rw [lw_I0 _ _ (by omega) (by omega)]
    rfl
  · unfold dkM
    rfl
