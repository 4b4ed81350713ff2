set_option maxHeartbeats 4000000 in
set_option maxRecDepth 100000 in
theorem c_X7_mix (l : Launch) (h x : Int32) : Met l yX7_mix wsX7_mix ({ frames := 0, cells := 0, slots := 0, locals := 0 } : Room) (va_Pc [.int h, .int x] (fun _ => True)) (vp_Si (fun r => pu_mix h x = r)) 0 0 gN := by
  refine g_of0 (by decide) rfl (Nat.le_of_ble_eq_true rfl) ?_
  intro p e s m below meth c hcx hr hlocks ls hl
  obtain ⟨hx, hb, hml, hown, hts⟩ := id hcx
  have hl : lv_has ls 3 [(0, .int h), (1, .int x)] := hl
  refine lv_iload_n hx hb dX7_mix_0 rfl (lv_at hl 0 rfl) ?_
  refine lv_iload_n hx hb dX7_mix_1 rfl (lv_at hl 1 rfl) ?_
  refine lv_ixor hx hb dX7_mix_2 ?_
  refine lv_ldc hx hb (v := 668265263) hown (hts (.constant RX7 35 (668265263)) (by decide +kernel)) dX7_mix_3 ?_
  refine lv_imul hx hb dX7_mix_5 ?_
  refine lv_ldc hx hb (v := 374761393) hown (hts (.constant RX7 36 (374761393)) (by decide +kernel)) dX7_mix_6 ?_
  refine lv_iadd hx hb dX7_mix_8 ?_
  refine lv_istore_n (lv' := [(2, .int (((h ^^^ x) * 668265263) + 374761393)), (0, .int h), (1, .int x)]) hx hb dX7_mix_9 rfl hl (by decide) rfl (fun ls hl => ?_)
  refine lv_iload_n hx hb dX7_mix_10 rfl (lv_at hl 0 rfl) ?_
  refine lv_iload_n hx hb dX7_mix_11 rfl (lv_at hl 0 rfl) ?_
  refine lv_bipush (v := 15) hx hb dX7_mix_12 (by decide) ?_
  refine lv_iushr (v := ((((h ^^^ x) * 668265263) + 374761393).toUInt32 >>> ((15 : Int32).toUInt32 &&& Int32.toUInt32 31)).toInt32) hx hb dX7_mix_14 rfl ?_
  refine lv_ixor hx hb dX7_mix_15 ?_
  exact g_riS hx hb hr hlocks rfl dX7_mix_16

set_option maxHeartbeats 4000000 in
set_option maxRecDepth 100000 in
theorem c_X7_checked (l : Launch) (D : va_G) (ad : Nat → Nat) (tc : Nat → ClassId) (I : Mi) (L : Ml) (sd : Int32) (st cnt : Nat) (hc : st + cnt ≤ 172) : Met l yX7_checked wsX7_checked ({ frames := 1, cells := 0, slots := 0, locals := 22 } : Room) (va_Pc [.ref (ad 92), .int sd, .int (nI st), .int (nI cnt)] (gPc D ad tc I L)) (vp_Si (fun r => pu_chk (fun j => I 94 (st + j)) sd cnt ||| 1 = r)) 0 0 gN := by
  refine g_of (by decide) rfl (Nat.le_of_ble_eq_true rfl) ?_
  intro p e s m below meth c hcx hr hlocks hK hG ls hl
  obtain ⟨hx, hb, hml, hown, hts⟩ := id hcx
  have hl : lv_has ls 6 [(0, .ref (ad 92)), (1, .int sd), (2, .int (nI st)), (3, .int (nI cnt))] := hl
  refine lv_iload_n hx hb dX7_checked_0 rfl (lv_at hl 1 rfl) ?_
  refine lv_istore (lv' := [(4, .int sd), (0, .ref (ad 92)), (1, .int sd), (2, .int (nI st)), (3, .int (nI cnt))]) hx hb dX7_checked_1 hl (by decide) rfl (fun ls hl => ?_)
  refine lv_iconst (v := 0) hx hb dX7_checked_3 (by decide) ?_
  refine lv_istore (lv' := [(5, .int 0), (4, .int sd), (0, .ref (ad 92)), (1, .int sd), (2, .int (nI st)), (3, .int (nI cnt))]) hx hb dX7_checked_4 hl (by decide) rfl (fun ls hl => ?_)
  have lp6 : ∀ (n : Nat) (k : Nat), (k ≤ cnt) → (cnt + 1 ≤ k + n) → ∀ ls : Array Slot, lv_has ls 6 [(0, .ref (ad 92)), (1, .int sd), (2, .int (nI st)), (3, .int (nI cnt)), (4, .int (pu_chk (fun j => I 94 (st + j)) sd k)), (5, .int (nI k))] → W p l e (headSpec wsX7_checked ({ frames := 1, cells := 0, slots := 0, locals := 22 } : Room)).room s m ([.ref (ad 92), .int sd, .int (nI st), .int (nI cnt)] : List Value).toArray below meth c s.heap [] 0 0 (MQ below (vp_Si (fun r => pu_chk (fun j => I 94 (st + j)) sd cnt ||| 1 = r)) ([.ref (ad 92), .int sd, .int (nI st), .int (nI cnt)] : List Value).toArray s 0 0 gN) (F0 m 6 ls []) := by
    intro n
    induction n with
    | zero =>
      intro k hk hn ls hl
      exact absurd hn (by omega)
    | succ n ih6 =>
      intro k hk hn ls hl
      refine lv_iload hx hb dX7_checked_6 (lv_at hl 5 rfl) ?_
      refine lv_iload_n hx hb dX7_checked_8 rfl (lv_at hl 3 rfl) ?_
      refine lv_icmp_ge (tgt := 34) hx hb dX7_checked_9 (by decide) (fun c9 => ?_) (fun c9 => ?_)
      · -- 9: jumps
        have b9 := g_le (a := cnt) (b := k) c9 (by omega) (by omega)
        refine lv_iload hx hb dX7_checked_34 (lv_at hl 4 rfl) ?_
        refine lv_iconst (v := 1) hx hb dX7_checked_36 (by decide) ?_
        refine lv_ior hx hb dX7_checked_37 ?_
        exact g_riS hx hb hr hlocks (by rw [show cnt = k by omega]) dX7_checked_38
      · -- 9: goes on
        have b9 := g_nle (a := cnt) (b := k) c9 (by omega) (by omega)
        refine lv_iload hx hb dX7_checked_12 (lv_at hl 4 rfl) ?_
        refine lv_aload_n hx hb dX7_checked_14 rfl (lv_at hl 0 rfl) ?_
        refine g_get (v := .ref (ad 94)) hx hb hts (by decide +kernel) hown hK hG 92 (by decide) gc_92 rfl 1 (by decide) (hts (.fieldLink RX7 13 "NeighbourScoresModel" "disk" "[I") (by decide +kernel)) (fun _ h9 => h9) rfl dX7_checked_15 ?_
        refine lv_iload_n hx hb dX7_checked_18 rfl (lv_at hl 2 rfl) ?_
        refine lv_iload hx hb dX7_checked_19 (lv_at hl 5 rfl) ?_
        refine lv_iadd hx hb dX7_checked_21 ?_
        refine g_i (y := nI (st + k)) (nI_add st k) ?_
        refine g_iald hx hb hK hG 94 (by decide) gc_94 (st + k) rfl (by omega) (by omega) dX7_checked_22 ?_
        refine g_si (va_runS (As := [.int (pu_chk (fun j => I 94 (st + j)) sd k), .int (I 94 (st + k))]) (rest := []) hcx (c_X7_mix l (pu_chk (fun j => I 94 (st + j)) sd k) (I 94 (st + k))) (va_cwS 2 hts gX7_checked_X7_mix rfl rfl rfl (by decide +kernel) ⟨Nat.le_of_ble_eq_true rfl, Nat.le_of_ble_eq_true rfl⟩) (g_p0) rfl rfl hl.1 rfl (lv_room (Nat.le_of_ble_eq_true rfl)) dX7_checked_23 ⟨Nat.le_refl _, Nat.le_refl _⟩) (fun r_23 hw_23 => ?_)
        subst hw_23
        refine lv_istore (lv' := [(4, .int (pu_mix (pu_chk (fun j => I 94 (st + j)) sd k) (I 94 (st + k)))), (0, .ref (ad 92)), (1, .int sd), (2, .int (nI st)), (3, .int (nI cnt)), (5, .int (nI k))]) hx hb dX7_checked_26 hl (by decide) rfl (fun ls hl => ?_)
        refine lv_iinc (v := nI (k + 1)) (lv' := [(5, .int (nI (k + 1))), (4, .int (pu_mix (pu_chk (fun j => I 94 (st + j)) sd k) (I 94 (st + k)))), (0, .ref (ad 92)), (1, .int sd), (2, .int (nI st)), (3, .int (nI cnt))]) hx hb dX7_checked_28 hl (k := 5) rfl (nI_1 _) (by decide) rfl (fun ls hl => ?_)
        refine lv_goto (tgt := 6) hx hb dX7_checked_31 (by decide) ?_
        exact ih6 (k + 1) (by omega) (by omega) ls (lv_sub hl [2, 3, 4, 5, 1, 0] rfl)
  exact lp6 (cnt + 1) 0 (by omega) (by omega) ls (lv_sub hl [2, 3, 4, 5, 1, 0] rfl)

set_option maxHeartbeats 4000000 in
set_option maxRecDepth 100000 in
theorem c_X7_noUser (l : Launch) (a : Int32) : Met l yX7_noUser wsX7_noUser ({ frames := 0, cells := 0, slots := 0, locals := 0 } : Room) (va_Pc [.int a] (fun _ => True)) (vp_Si (fun r => (¬ gR a 12 ∧ 1 = r) ∨ (gR a 12 ∧ 0 = r))) 0 0 gN := by
  refine g_of0 (by decide) rfl (Nat.le_of_ble_eq_true rfl) ?_
  intro p e s m below meth c hcx hr hlocks ls hl
  obtain ⟨hx, hb, hml, hown, hts⟩ := id hcx
  have hl : lv_has ls 1 [(0, .int a)] := hl
  refine lv_iload_n hx hb dX7_noUser_0 rfl (lv_at hl 0 rfl) ?_
  refine lv_if_lt (tgt := 10) hx hb dX7_noUser_1 (by decide) (fun c1 => ?_) (fun c1 => ?_)
  · -- 1: jumps
    refine lv_iconst (v := 1) hx hb dX7_noUser_10 (by decide) ?_
    refine lv_goto (tgt := 15) hx hb dX7_noUser_11 (by decide) ?_
    exact g_rzS hx hb hr hlocks (Or.inr rfl) (Or.inl ⟨gR_neg (by decide) c1, rfl⟩) dX7_noUser_15
  · -- 1: goes on
    refine lv_iload_n hx hb dX7_noUser_4 rfl (lv_at hl 0 rfl) ?_
    refine lv_bipush (v := 11) hx hb dX7_noUser_5 (by decide) ?_
    refine lv_icmp_le (tgt := 14) hx hb dX7_noUser_7 (by decide) (fun c7 => ?_) (fun c7 => ?_)
    · -- 7: jumps
      refine lv_iconst (v := 0) hx hb dX7_noUser_14 (by decide) ?_
      exact g_rzS hx hb hr hlocks (Or.inl rfl) (Or.inr ⟨pu_gR11 (n := 11) (by decide) c1 c7, rfl⟩) dX7_noUser_15
    · -- 7: goes on
      refine lv_iconst (v := 1) hx hb dX7_noUser_10 (by decide) ?_
      refine lv_goto (tgt := 15) hx hb dX7_noUser_11 (by decide) ?_
      exact g_rzS hx hb hr hlocks (Or.inr rfl) (Or.inl ⟨pu_gR12 (n := 11) (by decide) c7, rfl⟩) dX7_noUser_15

set_option maxHeartbeats 4000000 in
set_option maxRecDepth 100000 in
theorem c_X7_noItem (l : Launch) (a : Int32) : Met l yX7_noItem wsX7_noItem ({ frames := 0, cells := 0, slots := 0, locals := 0 } : Room) (va_Pc [.int a] (fun _ => True)) (vp_Si (fun r => (¬ gR a 16 ∧ 1 = r) ∨ (gR a 16 ∧ 0 = r))) 0 0 gN := by
  refine g_of0 (by decide) rfl (Nat.le_of_ble_eq_true rfl) ?_
  intro p e s m below meth c hcx hr hlocks ls hl
  obtain ⟨hx, hb, hml, hown, hts⟩ := id hcx
  have hl : lv_has ls 1 [(0, .int a)] := hl
  refine lv_iload_n hx hb dX7_noItem_0 rfl (lv_at hl 0 rfl) ?_
  refine lv_if_lt (tgt := 10) hx hb dX7_noItem_1 (by decide) (fun c1 => ?_) (fun c1 => ?_)
  · -- 1: jumps
    refine lv_iconst (v := 1) hx hb dX7_noItem_10 (by decide) ?_
    refine lv_goto (tgt := 15) hx hb dX7_noItem_11 (by decide) ?_
    exact g_rzS hx hb hr hlocks (Or.inr rfl) (Or.inl ⟨gR_neg (by decide) c1, rfl⟩) dX7_noItem_15
  · -- 1: goes on
    refine lv_iload_n hx hb dX7_noItem_4 rfl (lv_at hl 0 rfl) ?_
    refine lv_bipush (v := 15) hx hb dX7_noItem_5 (by decide) ?_
    refine lv_icmp_le (tgt := 14) hx hb dX7_noItem_7 (by decide) (fun c7 => ?_) (fun c7 => ?_)
    · -- 7: jumps
      refine lv_iconst (v := 0) hx hb dX7_noItem_14 (by decide) ?_
      exact g_rzS hx hb hr hlocks (Or.inl rfl) (Or.inr ⟨pu_gR11 (n := 15) (by decide) c1 c7, rfl⟩) dX7_noItem_15
    · -- 7: goes on
      refine lv_iconst (v := 1) hx hb dX7_noItem_10 (by decide) ?_
      refine lv_goto (tgt := 15) hx hb dX7_noItem_11 (by decide) ?_
      exact g_rzS hx hb hr hlocks (Or.inr rfl) (Or.inl ⟨pu_gR12 (n := 15) (by decide) c7, rfl⟩) dX7_noItem_15

set_option maxHeartbeats 4000000 in
set_option maxRecDepth 100000 in
theorem c_X7_put (l : Launch) (D : va_G) (ad : Nat → Nat) (tc : Nat → ClassId) (I : Mi) (L : Ml) (j : Nat) (hj : j < 172) (x : Int32) (hd : dark01 I) : Met l yX7_put wsX7_put ({ frames := 0, cells := 0, slots := 0, locals := 0 } : Room) (va_Pc [.ref (ad 92), .int (nI j), .int x] (gPc D ad tc I L)) (gQv D ad tc (fun I1 L1 => pu_put (dkM I) j x = dkM I1 ∧ dark01 I1 ∧ (∀ a, a ≠ 92 → a ≠ 94 → I1 a = I a) ∧ I1 92 2 = I 92 2 ∧ I1 92 3 = I 92 3 ∧ L = L1)) 0 0 (gA ad) := by
  refine g_of (by decide) rfl (Nat.le_of_ble_eq_true rfl) ?_
  intro p e s m below meth c hcx hr hlocks hK hG ls hl
  obtain ⟨hx, hb, hml, hown, hts⟩ := id hcx
  have hl : lv_has ls 3 [(0, .ref (ad 92)), (1, .int (nI j)), (2, .int x)] := hl
  refine lv_aload_n hx hb dX7_put_0 rfl (lv_at hl 0 rfl) ?_
  refine g_get (v := .int (I 92 4)) hx hb hts (by decide +kernel) hown hK hG 92 (by decide) gc_92 rfl 4 (by decide) (hts (.fieldLink RX7 41 "NeighbourScoresModel" "dark" "Z") (by decide +kernel)) (fun _ h9 => h9) rfl dX7_put_1 ?_
  refine lv_if_eq (tgt := 8) hx hb dX7_put_4 (by decide) (fun c4 => ?_) (fun c4 => ?_)
  · -- 4: jumps
    refine lv_aload_n hx hb dX7_put_8 rfl (lv_at hl 0 rfl) ?_
    refine g_get (v := .int (I 92 5)) hx hb hts (by decide +kernel) hown hK hG 92 (by decide) gc_92 rfl 5 (by decide) (hts (.fieldLink RX7 16 "NeighbourScoresModel" "left" "I") (by decide +kernel)) (fun _ h9 => h9) rfl dX7_put_9 ?_
    refine lv_if_ne (tgt := 21) hx hb dX7_put_12 (by decide) (fun c12 => ?_) (fun c12 => ?_)
    · -- 12: jumps
      refine lv_aload_n hx hb dX7_put_21 rfl (lv_at hl 0 rfl) ?_
      refine lv_aload_n hx hb dX7_put_22 rfl (lv_at hl 0 rfl) ?_
      refine g_get (v := .int (I 92 5)) hx hb hts (by decide +kernel) hown hK hG 92 (by decide) gc_92 rfl 5 (by decide) (hts (.fieldLink RX7 16 "NeighbourScoresModel" "left" "I") (by decide +kernel)) (fun _ h9 => h9) rfl dX7_put_23 ?_
      refine lv_if_le (tgt := 38) hx hb dX7_put_26 (by decide) (fun c26 => ?_) (fun c26 => ?_)
      · -- 26: jumps
        refine lv_aload_n hx hb dX7_put_38 rfl (lv_at hl 0 rfl) ?_
        refine g_get (v := .int (I 92 5)) hx hb hts (by decide +kernel) hown hK hG 92 (by decide) gc_92 rfl 5 (by decide) (hts (.fieldLink RX7 16 "NeighbourScoresModel" "left" "I") (by decide +kernel)) (fun _ h9 => h9) rfl dX7_put_39 ?_
        refine g_put (ty := .int) hx hb hts (by decide +kernel) tyX7 tyX7_ok nmX7 hown hK hG 92 (by decide) gc_92 rfl 5 (by decide) (hts (.fieldLink RX7 16 "NeighbourScoresModel" "left" "I") (by decide +kernel)) (fun _ h9 => h9) rfl (by decide +kernel) rfl rfl (Nat.le_of_ble_eq_true rfl) (by rw [gc_92]; rfl) dX7_put_42 (fun I_42 H locs hU_42 hG => ?_)
        refine lv_aload_n hx hb dX7_put_45 rfl (lv_at hl 0 rfl) ?_
        refine g_get (v := .ref (ad 94)) hx hb hts (by decide +kernel) hown hK hG 92 (by decide) gc_92 rfl 1 (by decide) (hts (.fieldLink RX7 13 "NeighbourScoresModel" "disk" "[I") (by decide +kernel)) (fun _ h9 => h9) rfl dX7_put_46 ?_
        refine lv_iload_n hx hb dX7_put_49 rfl (lv_at hl 1 rfl) ?_
        refine lv_iload_n hx hb dX7_put_50 rfl (lv_at hl 2 rfl) ?_
        refine g_iast hx hb hK hG 94 (by decide) (fun _ => gc_94) j rfl (by omega) (by omega) dX7_put_51 (fun I_51 H locs hU_51 hG => ?_)
        exact g_rv hx hb hr hlocks hG ⟨pu_mput_on c4 c12 c26 hU_42 hU_51, Or.inl (by rw [hU_51.2 92 (by decide), gU_ne hU_42 (by decide)]; exact c4), fun a h1 h2 => (hU_51.2 a h2).trans (hU_42.2 a h1), by rw [hU_51.2 92 (by decide), gU_ne hU_42 (by decide)], by rw [hU_51.2 92 (by decide), gU_ne hU_42 (by decide)], rfl⟩ dX7_put_52
      · -- 26: goes on
        refine lv_aload_n hx hb dX7_put_29 rfl (lv_at hl 0 rfl) ?_
        refine g_get (v := .int (I 92 5)) hx hb hts (by decide +kernel) hown hK hG 92 (by decide) gc_92 rfl 5 (by decide) (hts (.fieldLink RX7 16 "NeighbourScoresModel" "left" "I") (by decide +kernel)) (fun _ h9 => h9) rfl dX7_put_30 ?_
        refine lv_iconst (v := 1) hx hb dX7_put_33 (by decide) ?_
        refine lv_isub hx hb dX7_put_34 ?_
        refine lv_goto (tgt := 42) hx hb dX7_put_35 (by decide) ?_
        refine g_put (ty := .int) hx hb hts (by decide +kernel) tyX7 tyX7_ok nmX7 hown hK hG 92 (by decide) gc_92 rfl 5 (by decide) (hts (.fieldLink RX7 16 "NeighbourScoresModel" "left" "I") (by decide +kernel)) (fun _ h9 => h9) rfl (by decide +kernel) rfl rfl (Nat.le_of_ble_eq_true rfl) (by rw [gc_92]; rfl) dX7_put_42 (fun I_42 H locs hU_42 hG => ?_)
        refine lv_aload_n hx hb dX7_put_45 rfl (lv_at hl 0 rfl) ?_
        refine g_get (v := .ref (ad 94)) hx hb hts (by decide +kernel) hown hK hG 92 (by decide) gc_92 rfl 1 (by decide) (hts (.fieldLink RX7 13 "NeighbourScoresModel" "disk" "[I") (by decide +kernel)) (fun _ h9 => h9) rfl dX7_put_46 ?_
        refine lv_iload_n hx hb dX7_put_49 rfl (lv_at hl 1 rfl) ?_
        refine lv_iload_n hx hb dX7_put_50 rfl (lv_at hl 2 rfl) ?_
        refine g_iast hx hb hK hG 94 (by decide) (fun _ => gc_94) j rfl (by omega) (by omega) dX7_put_51 (fun I_51 H locs hU_51 hG => ?_)
        exact g_rv hx hb hr hlocks hG ⟨pu_mput_dec c4 c12 c26 hU_42 hU_51, Or.inl (by rw [hU_51.2 92 (by decide), gU_ne hU_42 (by decide)]; exact c4), fun a h1 h2 => (hU_51.2 a h2).trans (hU_42.2 a h1), by rw [hU_51.2 92 (by decide), gU_ne hU_42 (by decide)], by rw [hU_51.2 92 (by decide), gU_ne hU_42 (by decide)], rfl⟩ dX7_put_52
    · -- 12: goes on
      refine lv_aload_n hx hb dX7_put_15 rfl (lv_at hl 0 rfl) ?_
      refine lv_iconst (v := 1) hx hb dX7_put_16 (by decide) ?_
      refine g_put (ty := .boolean) hx hb hts (by decide +kernel) tyX7 tyX7_ok nmX7 hown hK hG 92 (by decide) gc_92 rfl 4 (by decide) (hts (.fieldLink RX7 41 "NeighbourScoresModel" "dark" "Z") (by decide +kernel)) (fun _ h9 => h9) rfl (by decide +kernel) rfl rfl (Nat.le_of_ble_eq_true rfl) (by rw [gc_92]; rfl) dX7_put_17 (fun I_17 H locs hU_17 hG => ?_)
      exact g_rv hx hb hr hlocks hG ⟨pu_mput_off c4 c12 hU_17, Or.inr (gU_eq hU_17), fun a h1 h2 => hU_17.2 a h1, gU_ne hU_17 (by decide), gU_ne hU_17 (by decide), rfl⟩ dX7_put_20
  · -- 4: goes on
    exact g_rv hx hb hr hlocks hG ⟨pu_mput_dark (pu_d1 hd c4), hd, fun _ _ _ => rfl, rfl, rfl, rfl⟩ dX7_put_7

set_option maxHeartbeats 4000000 in
set_option maxRecDepth 100000 in
theorem c_X7_good (l : Launch) (D : va_G) (ad : Nat → Nat) (tc : Nat → ClassId) (I : Mi) (L : Ml) (st : Nat) (hst : st + 25 < 172) : Met l yX7_good wsX7_good ({ frames := 2, cells := 0, slots := 0, locals := 47 } : Room) (va_Pc [.ref (ad 92), .int (nI st)] (gPc D ad tc I L)) (vp_Si (fun r => (pu_good (I 94) st = true ∧ 1 = r) ∨ (pu_good (I 94) st = false ∧ 0 = r))) 0 0 gN := by
  refine g_of (by decide) rfl (Nat.le_of_ble_eq_true rfl) ?_
  intro p e s m below meth c hcx hr hlocks hK hG ls hl
  obtain ⟨hx, hb, hml, hown, hts⟩ := id hcx
  have hl : lv_has ls 2 [(0, .ref (ad 92)), (1, .int (nI st))] := hl
  refine lv_aload_n hx hb dX7_good_0 rfl (lv_at hl 0 rfl) ?_
  refine g_get (v := .ref (ad 94)) hx hb hts (by decide +kernel) hown hK hG 92 (by decide) gc_92 rfl 1 (by decide) (hts (.fieldLink RX7 13 "NeighbourScoresModel" "disk" "[I") (by decide +kernel)) (fun _ h9 => h9) rfl dX7_good_1 ?_
  refine lv_iload_n hx hb dX7_good_4 rfl (lv_at hl 1 rfl) ?_
  refine lv_bipush (v := 25) hx hb dX7_good_5 (by decide) ?_
  refine lv_iadd hx hb dX7_good_7 ?_
  refine g_i (y := nI (st + 25)) (nI_add st 25) ?_
  refine g_iald hx hb hK hG 94 (by decide) gc_94 (st + 25) rfl (by omega) (by omega) dX7_good_8 ?_
  refine lv_aload_n hx hb dX7_good_9 rfl (lv_at hl 0 rfl) ?_
  refine lv_iconst (v := 1) hx hb dX7_good_10 (by decide) ?_
  refine lv_iload_n hx hb dX7_good_11 rfl (lv_at hl 1 rfl) ?_
  refine lv_bipush (v := 25) hx hb dX7_good_12 (by decide) ?_
  refine g_si (va_runV (As := [.int 1, .int (nI st), .int 25]) (rest := [.int (I 94 (st + 25))]) hcx (c_X7_checked l D ad tc I L 1 st 25 (by omega)) (cwV 3 hts gX7_good_X7_checked rfl rfl rfl (by decide +kernel) ⟨Nat.le_of_ble_eq_true rfl, Nat.le_of_ble_eq_true rfl⟩) (g_pV hK hG 92 (by decide) gc_92 rfl) rfl rfl hl.1 rfl (lv_room (Nat.le_of_ble_eq_true rfl)) dX7_good_14 ⟨Nat.le_refl _, Nat.le_refl _⟩) (fun r_14 hw_14 => ?_)
  subst hw_14
  refine lv_icmp_ne (tgt := 44) hx hb dX7_good_17 (by decide) (fun c17 => ?_) (fun c17 => ?_)
  · -- 17: jumps
    refine lv_iconst (v := 0) hx hb dX7_good_44 (by decide) ?_
    exact g_rzS hx hb hr hlocks (Or.inl rfl) (Or.inr ⟨pu_good_f (Or.inr (Or.inr c17)), rfl⟩) dX7_good_45
  · -- 17: goes on
    refine lv_aload_n hx hb dX7_good_20 rfl (lv_at hl 0 rfl) ?_
    refine g_get (v := .ref (ad 94)) hx hb hts (by decide +kernel) hown hK hG 92 (by decide) gc_92 rfl 1 (by decide) (hts (.fieldLink RX7 13 "NeighbourScoresModel" "disk" "[I") (by decide +kernel)) (fun _ h9 => h9) rfl dX7_good_21 ?_
    refine lv_iload_n hx hb dX7_good_24 rfl (lv_at hl 1 rfl) ?_
    refine g_iald hx hb hK hG 94 (by decide) gc_94 st rfl (by omega) (by omega) dX7_good_25 ?_
    refine lv_if_lt (tgt := 44) hx hb dX7_good_26 (by decide) (fun c26 => ?_) (fun c26 => ?_)
    · -- 26: jumps
      refine lv_iconst (v := 0) hx hb dX7_good_44 (by decide) ?_
      exact g_rzS hx hb hr hlocks (Or.inl rfl) (Or.inr ⟨pu_good_f (Or.inl c26), rfl⟩) dX7_good_45
    · -- 26: goes on
      refine lv_aload_n hx hb dX7_good_29 rfl (lv_at hl 0 rfl) ?_
      refine g_get (v := .ref (ad 94)) hx hb hts (by decide +kernel) hown hK hG 92 (by decide) gc_92 rfl 1 (by decide) (hts (.fieldLink RX7 13 "NeighbourScoresModel" "disk" "[I") (by decide +kernel)) (fun _ h9 => h9) rfl dX7_good_30 ?_
      refine lv_iload_n hx hb dX7_good_33 rfl (lv_at hl 1 rfl) ?_
      refine g_iald hx hb hK hG 94 (by decide) gc_94 st rfl (by omega) (by omega) dX7_good_34 ?_
      refine lv_ldc hx hb (v := 1000000000) hown (hts (.constant RX7 62 (1000000000)) (by decide +kernel)) dX7_good_35 ?_
      refine lv_icmp_gt (tgt := 44) hx hb dX7_good_37 (by decide) (fun c37 => ?_) (fun c37 => ?_)
      · -- 37: jumps
        refine lv_iconst (v := 0) hx hb dX7_good_44 (by decide) ?_
        exact g_rzS hx hb hr hlocks (Or.inl rfl) (Or.inr ⟨pu_good_f (Or.inr (Or.inl c37)), rfl⟩) dX7_good_45
      · -- 37: goes on
        refine lv_iconst (v := 1) hx hb dX7_good_40 (by decide) ?_
        refine lv_goto (tgt := 45) hx hb dX7_good_41 (by decide) ?_
        exact g_rzS hx hb hr hlocks (Or.inr rfl) (Or.inl ⟨pu_good_t c26 c37 c17, rfl⟩) dX7_good_45

set_option maxHeartbeats 4000000 in
set_option maxRecDepth 100000 in
theorem c_X7_packed (l : Launch) (D : va_G) (ad : Nat → Nat) (tc : Nat → ClassId) (I : Mi) (L : Ml) (T : Tb) (hTb : pu_tb T) (hT : tM I T) (u half : Nat) (hu : u < 12) (hh : half < 2) : Met l yX7_packed wsX7_packed ({ frames := 0, cells := 0, slots := 0, locals := 0 } : Room) (va_Pc [.ref (ad 92), .int (nI u), .int (nI half)] (gPc D ad tc I L)) (vp_Si (fun r => nI (pu_pk (fun x => T u (8 * half + x)) 8) = r)) 0 0 gN := by
  refine g_of (by decide) rfl (Nat.le_of_ble_eq_true rfl) ?_
  intro p e s m below meth c hcx hr hlocks hK hG ls hl
  obtain ⟨hx, hb, hml, hown, hts⟩ := id hcx
  have hl : lv_has ls 5 [(0, .ref (ad 92)), (1, .int (nI u)), (2, .int (nI half))] := hl
  refine lv_iconst (v := 0) hx hb dX7_packed_0 (by decide) ?_
  refine lv_istore_n (lv' := [(3, .int 0), (0, .ref (ad 92)), (1, .int (nI u)), (2, .int (nI half))]) hx hb dX7_packed_1 rfl hl (by decide) rfl (fun ls hl => ?_)
  refine lv_bipush (v := 7) hx hb dX7_packed_2 (by decide) ?_
  refine lv_istore (lv' := [(4, .int 7), (3, .int 0), (0, .ref (ad 92)), (1, .int (nI u)), (2, .int (nI half))]) hx hb dX7_packed_4 hl (by decide) rfl (fun ls hl => ?_)
  have lp6 : ∀ (n : Nat) (k : Nat), (k ≤ 8) → (9 ≤ k + n) → ∀ ls : Array Slot, lv_has ls 5 [(0, .ref (ad 92)), (1, .int (nI u)), (2, .int (nI half)), (3, .int (nI (pu_hn (fun x => T u (8 * half + x)) k))), (4, .int (pu_dn k))] → W p l e (headSpec wsX7_packed ({ frames := 0, cells := 0, slots := 0, locals := 0 } : Room)).room s m ([.ref (ad 92), .int (nI u), .int (nI half)] : List Value).toArray below meth c s.heap [] 0 0 (MQ below (vp_Si (fun r => nI (pu_pk (fun x => T u (8 * half + x)) 8) = r)) ([.ref (ad 92), .int (nI u), .int (nI half)] : List Value).toArray s 0 0 gN) (F0 m 6 ls []) := by
    intro n
    induction n with
    | zero =>
      intro k hk hn ls hl
      exact absurd hn (by omega)
    | succ n ih6 =>
      intro k hk hn ls hl
      refine lv_iload hx hb dX7_packed_6 (lv_at hl 4 rfl) ?_
      refine lv_if_lt (tgt := 40) hx hb dX7_packed_8 (by decide) (fun c8 => ?_) (fun c8 => ?_)
      · -- 8: jumps
        have hk8 : k = 8 := Classical.byContradiction (fun e => pu_dn_nn k (by omega) c8)
        subst hk8
        refine lv_iload_n hx hb dX7_packed_40 rfl (lv_at hl 3 rfl) ?_
        exact g_riS hx hb hr hlocks (by rw [pu_hn_8]) dX7_packed_41
      · -- 8: goes on
        have hk8 : k < 8 := Nat.lt_of_le_of_ne hk (fun e => c8 (by rw [e]; exact pu_dn_8))
        rw [pu_dn_n k hk8] at hl
        refine lv_bipush (v := 16) hx hb dX7_packed_11 (by decide) ?_
        refine lv_iload_n hx hb dX7_packed_13 rfl (lv_at hl 3 rfl) ?_
        refine lv_imul hx hb dX7_packed_14 ?_
        refine g_i (y := nI (16 * (pu_hn (fun x => T u (8 * half + x)) k))) (pk_mul 16 (pu_hn (fun x => T u (8 * half + x)) k)) ?_
        refine lv_aload_n hx hb dX7_packed_15 rfl (lv_at hl 0 rfl) ?_
        refine g_get (v := .ref (ad 93)) hx hb hts (by decide +kernel) hown hK hG 92 (by decide) gc_92 rfl 0 (by decide) (hts (.fieldLink RX7 7 "NeighbourScoresModel" "rated" "[I") (by decide +kernel)) (fun _ h9 => h9) rfl dX7_packed_16 ?_
        refine lv_bipush (v := 16) hx hb dX7_packed_19 (by decide) ?_
        refine lv_iload_n hx hb dX7_packed_21 rfl (lv_at hl 1 rfl) ?_
        refine lv_imul hx hb dX7_packed_22 ?_
        refine g_i (y := nI (16 * u)) (pk_mul 16 u) ?_
        refine lv_bipush (v := 8) hx hb dX7_packed_23 (by decide) ?_
        refine lv_iload_n hx hb dX7_packed_25 rfl (lv_at hl 2 rfl) ?_
        refine lv_imul hx hb dX7_packed_26 ?_
        refine g_i (y := nI (8 * half)) (pk_mul 8 half) ?_
        refine lv_iadd hx hb dX7_packed_27 ?_
        refine g_i (y := nI ((16 * u) + (8 * half))) (nI_add (16 * u) (8 * half)) ?_
        refine lv_iload hx hb dX7_packed_28 (lv_at hl 4 rfl) ?_
        refine lv_iadd hx hb dX7_packed_30 ?_
        refine g_i (y := nI (((16 * u) + (8 * half)) + (7 - k))) (nI_add ((16 * u) + (8 * half)) (7 - k)) ?_
        refine g_iald hx hb hK hG 93 (by decide) gc_93 (((16 * u) + (8 * half)) + (7 - k)) rfl (by omega) (by omega) dX7_packed_31 ?_
        refine g_i (y := nI (T u (8 * half + (7 - k)))) (by rw [Nat.add_assoc]; exact hT u (8 * half + (7 - k)) hu (by omega)) ?_
        refine lv_iadd hx hb dX7_packed_32 ?_
        refine g_i (y := nI ((16 * (pu_hn (fun x => T u (8 * half + x)) k)) + (T u (8 * half + (7 - k))))) (nI_add (16 * (pu_hn (fun x => T u (8 * half + x)) k)) (T u (8 * half + (7 - k)))) ?_
        refine lv_istore_n (lv' := [(3, .int (nI ((16 * (pu_hn (fun x => T u (8 * half + x)) k)) + (T u (8 * half + (7 - k)))))), (0, .ref (ad 92)), (1, .int (nI u)), (2, .int (nI half)), (4, .int (nI (7 - k)))]) hx hb dX7_packed_33 rfl hl (by decide) rfl (fun ls hl => ?_)
        refine lv_iinc (v := pu_dn (k + 1)) (lv' := [(4, .int (pu_dn (k + 1))), (3, .int (nI ((16 * (pu_hn (fun x => T u (8 * half + x)) k)) + (T u (8 * half + (7 - k)))))), (0, .ref (ad 92)), (1, .int (nI u)), (2, .int (nI half))]) hx hb dX7_packed_34 hl (k := 4) rfl (pu_dn_s k hk8) (by decide) rfl (fun ls hl => ?_)
        refine lv_goto (tgt := 6) hx hb dX7_packed_37 (by decide) ?_
        exact ih6 (k + 1) (by omega) (by omega) ls (lv_sub hl [2, 3, 4, 1, 0] rfl)
  exact lp6 9 0 (by omega) (by omega) ls (lv_sub hl [2, 3, 4, 1, 0] rfl)

set_option maxHeartbeats 4000000 in
set_option maxRecDepth 100000 in
theorem c_X7_dot (l : Launch) (D : va_G) (ad : Nat → Nat) (tc : Nat → ClassId) (I : Mi) (L : Ml) (T : Tb) (hTb : pu_tb T) (hT : tM I T) (i j : Nat) (hi : i < 16) (hj : j < 16) : Met l yX7_dot wsX7_dot ({ frames := 0, cells := 0, slots := 0, locals := 0 } : Room) (va_Pc [.ref (ad 92), .int (nI i), .int (nI j)] (gPc D ad tc I L)) (vp_Sl (fun r => lN (pu_dot T i j) = r)) 0 0 gN := by
  refine g_of (by decide) rfl (Nat.le_of_ble_eq_true rfl) ?_
  intro p e s m below meth c hcx hr hlocks hK hG ls hl
  obtain ⟨hx, hb, hml, hown, hts⟩ := id hcx
  have hl : lv_has ls 6 [(0, .ref (ad 92)), (1, .int (nI i)), (2, .int (nI j))] := hl
  refine lv_lconst (v := 0) hx hb dX7_dot_0 (by decide) ?_
  refine lv_lstore_n (lv' := [(3, .long 0), (0, .ref (ad 92)), (1, .int (nI i)), (2, .int (nI j))]) hx hb dX7_dot_1 rfl hl (by decide) rfl (fun ls hl => ?_)
  refine lv_iconst (v := 0) hx hb dX7_dot_2 (by decide) ?_
  refine lv_istore (lv' := [(5, .int 0), (3, .long 0), (0, .ref (ad 92)), (1, .int (nI i)), (2, .int (nI j))]) hx hb dX7_dot_3 hl (by decide) rfl (fun ls hl => ?_)
  have lp5 : ∀ (n : Nat) (k : Nat), (k ≤ 12) → (13 ≤ k + n) → ∀ ls : Array Slot, lv_has ls 6 [(0, .ref (ad 92)), (1, .int (nI i)), (2, .int (nI j)), (3, .long (lN (pu_dt T i j k))), (5, .int (nI k))] → W p l e (headSpec wsX7_dot ({ frames := 0, cells := 0, slots := 0, locals := 0 } : Room)).room s m ([.ref (ad 92), .int (nI i), .int (nI j)] : List Value).toArray below meth c s.heap [] 0 0 (MQ below (vp_Sl (fun r => lN (pu_dot T i j) = r)) ([.ref (ad 92), .int (nI i), .int (nI j)] : List Value).toArray s 0 0 gN) (F0 m 5 ls []) := by
    intro n
    induction n with
    | zero =>
      intro k hk hn ls hl
      exact absurd hn (by omega)
    | succ n ih5 =>
      intro k hk hn ls hl
      refine lv_iload hx hb dX7_dot_5 (lv_at hl 4 rfl) ?_
      refine lv_bipush (v := 12) hx hb dX7_dot_7 (by decide) ?_
      refine lv_icmp_ge (tgt := 47) hx hb dX7_dot_9 (by decide) (fun c9 => ?_) (fun c9 => ?_)
      · -- 9: jumps
        have b9 := g_le (a := 12) (b := k) c9 (by omega) (by omega)
        refine lv_lload_n hx hb dX7_dot_47 rfl (lv_at hl 3 rfl) ?_
        exact g_rlS hx hb hr hlocks (by rw [show k = 12 by omega]; rfl) dX7_dot_48
      · -- 9: goes on
        have b9 := g_nle (a := 12) (b := k) c9 (by omega) (by omega)
        have p9 : T k i * T k j ≤ 5 * 5 := Nat.mul_le_mul (hTb k i (by omega) hi) (hTb k j (by omega) hj)
        refine lv_lload_n hx hb dX7_dot_12 rfl (lv_at hl 3 rfl) ?_
        refine lv_aload_n hx hb dX7_dot_13 rfl (lv_at hl 0 rfl) ?_
        refine g_get (v := .ref (ad 93)) hx hb hts (by decide +kernel) hown hK hG 92 (by decide) gc_92 rfl 0 (by decide) (hts (.fieldLink RX7 7 "NeighbourScoresModel" "rated" "[I") (by decide +kernel)) (fun _ h9 => h9) rfl dX7_dot_14 ?_
        refine lv_bipush (v := 16) hx hb dX7_dot_17 (by decide) ?_
        refine lv_iload hx hb dX7_dot_19 (lv_at hl 4 rfl) ?_
        refine lv_imul hx hb dX7_dot_21 ?_
        refine g_i (y := nI (16 * k)) (pk_mul 16 k) ?_
        refine lv_iload_n hx hb dX7_dot_22 rfl (lv_at hl 1 rfl) ?_
        refine lv_iadd hx hb dX7_dot_23 ?_
        refine g_i (y := nI ((16 * k) + i)) (nI_add (16 * k) i) ?_
        refine g_iald hx hb hK hG 93 (by decide) gc_93 ((16 * k) + i) rfl (by omega) (by omega) dX7_dot_24 ?_
        refine g_i (y := nI (T k i)) (hT k i (by omega) hi) ?_
        refine lv_aload_n hx hb dX7_dot_25 rfl (lv_at hl 0 rfl) ?_
        refine g_get (v := .ref (ad 93)) hx hb hts (by decide +kernel) hown hK hG 92 (by decide) gc_92 rfl 0 (by decide) (hts (.fieldLink RX7 7 "NeighbourScoresModel" "rated" "[I") (by decide +kernel)) (fun _ h9 => h9) rfl dX7_dot_26 ?_
        refine lv_bipush (v := 16) hx hb dX7_dot_29 (by decide) ?_
        refine lv_iload hx hb dX7_dot_31 (lv_at hl 4 rfl) ?_
        refine lv_imul hx hb dX7_dot_33 ?_
        refine g_i (y := nI (16 * k)) (pk_mul 16 k) ?_
        refine lv_iload_n hx hb dX7_dot_34 rfl (lv_at hl 2 rfl) ?_
        refine lv_iadd hx hb dX7_dot_35 ?_
        refine g_i (y := nI ((16 * k) + j)) (nI_add (16 * k) j) ?_
        refine g_iald hx hb hK hG 93 (by decide) gc_93 ((16 * k) + j) rfl (by omega) (by omega) dX7_dot_36 ?_
        refine g_i (y := nI (T k j)) (hT k j (by omega) hj) ?_
        refine lv_imul hx hb dX7_dot_37 ?_
        refine g_i (y := nI ((T k i) * (T k j))) (pk_mul (T k i) (T k j)) ?_
        refine lv_i2l (v := lN ((T k i) * (T k j))) hx hb dX7_dot_38 (nI_l (by omega)) ?_
        refine lv_ladd hx hb dX7_dot_39 ?_
        refine g_l (y := lN ((pu_dt T i j k) + ((T k i) * (T k j)))) (lN_add (pu_dt T i j k) ((T k i) * (T k j))) ?_
        refine lv_lstore_n (lv' := [(3, .long (lN ((pu_dt T i j k) + ((T k i) * (T k j))))), (0, .ref (ad 92)), (1, .int (nI i)), (2, .int (nI j)), (5, .int (nI k))]) hx hb dX7_dot_40 rfl hl (by decide) rfl (fun ls hl => ?_)
        refine lv_iinc (v := nI (k + 1)) (lv' := [(5, .int (nI (k + 1))), (3, .long (lN ((pu_dt T i j k) + ((T k i) * (T k j))))), (0, .ref (ad 92)), (1, .int (nI i)), (2, .int (nI j))]) hx hb dX7_dot_41 hl (k := 4) rfl (nI_1 _) (by decide) rfl (fun ls hl => ?_)
        refine lv_goto (tgt := 5) hx hb dX7_dot_44 (by decide) ?_
        exact ih5 (k + 1) (by omega) (by omega) ls (lv_sub hl [2, 3, 4, 1, 0] rfl)
  exact lp5 13 0 (by omega) (by omega) ls (lv_sub hl [2, 3, 4, 1, 0] rfl)

set_option maxHeartbeats 4000000 in
set_option maxRecDepth 100000 in
theorem c_X7_weigh (l : Launch) (D : va_G) (ad : Nat → Nat) (tc : Nat → ClassId) (I : Mi) (L : Ml) (T : Tb) (hTb : pu_tb T) (hT : tM I T)  : Met l yX7_weigh wsX7_weigh ({ frames := 1, cells := 0, slots := 0, locals := 25 } : Room) (va_Pc [.ref (ad 92)] (gPc D ad tc I L)) (gQv D ad tc (fun I1 L1 => pu_winv T I1 16 0 ∧ (∀ a, a ≠ 95 → I1 a = I a) ∧ L = L1)) 0 0 (gA ad) := by
  refine g_of (by decide) rfl (Nat.le_of_ble_eq_true rfl) ?_
  intro p e s m below meth c hcx hr hlocks hK hG ls hl
  obtain ⟨hx, hb, hml, hown, hts⟩ := id hcx
  have hl : lv_has ls 5 [(0, .ref (ad 92))] := hl
  refine lv_iconst (v := 0) hx hb dX7_weigh_0 (by decide) ?_
  refine lv_istore_n (lv' := [(1, .int 0), (0, .ref (ad 92))]) hx hb dX7_weigh_1 rfl hl (by decide) rfl (fun ls hl => ?_)
  have lp2 : ∀ (n : Nat) (i : Nat) (I_2 : Mi) (H : Heap) (locs : List Loc), (i ≤ 16) → (17 ≤ i + n) → (pu_winv T I_2 i 0) → (∀ a, a ≠ 95 → I_2 a = I a) → gG D ad tc (gA ad) s.heap I_2 L H locs → ∀ ls : Array Slot, lv_has ls 5 [(0, .ref (ad 92)), (1, .int (nI i))] → W p l e (headSpec wsX7_weigh ({ frames := 1, cells := 0, slots := 0, locals := 25 } : Room)).room s m ([.ref (ad 92)] : List Value).toArray below meth c H locs 0 0 (MQ below (gQv D ad tc (fun I1 L1 => pu_winv T I1 16 0 ∧ (∀ a, a ≠ 95 → I1 a = I a) ∧ L = L1)) ([.ref (ad 92)] : List Value).toArray s 0 0 (gA ad)) (F0 m 2 ls []) := by
    intro n
    induction n with
    | zero =>
      intro i I_2 H locs hi hn hw1 hf hG ls hl
      exact absurd hn (by omega)
    | succ n ih2 =>
      intro i I_2 H locs hi hn hw1 hf hG ls hl
      refine lv_iload_n hx hb dX7_weigh_2 rfl (lv_at hl 1 rfl) ?_
      refine lv_bipush (v := 16) hx hb dX7_weigh_3 (by decide) ?_
      refine lv_icmp_ge (tgt := 83) hx hb dX7_weigh_5 (by decide) (fun c5 => ?_) (fun c5 => ?_)
      · -- 5: jumps
        have b5 := g_le (a := 16) (b := i) c5 (by omega) (by omega)
        exact g_rv hx hb hr hlocks hG ⟨fun a b h ha hb => hw1 a b (by omega) ha hb, hf, rfl⟩ dX7_weigh_83
      · -- 5: goes on
        have b5 := g_nle (a := 16) (b := i) c5 (by omega) (by omega)
        refine lv_iconst (v := 0) hx hb dX7_weigh_8 (by decide) ?_
        refine lv_istore_n (lv' := [(2, .int 0), (0, .ref (ad 92)), (1, .int (nI i))]) hx hb dX7_weigh_9 rfl hl (by decide) rfl (fun ls hl => ?_)
        have lp10 : ∀ (n : Nat) (j : Nat) (I_10 : Mi) (H : Heap) (locs : List Loc), (j ≤ 16) → (17 ≤ j + n) → (pu_winv T I_10 i j) → (∀ a, a ≠ 95 → I_10 a = I a) → gG D ad tc (gA ad) s.heap I_10 L H locs → ∀ ls : Array Slot, lv_has ls 5 [(0, .ref (ad 92)), (1, .int (nI i)), (2, .int (nI j))] → W p l e (headSpec wsX7_weigh ({ frames := 1, cells := 0, slots := 0, locals := 25 } : Room)).room s m ([.ref (ad 92)] : List Value).toArray below meth c H locs 0 0 (MQ below (gQv D ad tc (fun I1 L1 => pu_winv T I1 16 0 ∧ (∀ a, a ≠ 95 → I1 a = I a) ∧ L = L1)) ([.ref (ad 92)] : List Value).toArray s 0 0 (gA ad)) (F0 m 10 ls []) := by
          intro n
          induction n with
          | zero =>
            intro j I_10 H locs hj hn2 hw2 hf2 hG ls hl
            exact absurd hn2 (by omega)
          | succ n ih10 =>
            intro j I_10 H locs hj hn2 hw2 hf2 hG ls hl
            refine lv_iload_n hx hb dX7_weigh_10 rfl (lv_at hl 2 rfl) ?_
            refine lv_bipush (v := 16) hx hb dX7_weigh_11 (by decide) ?_
            refine lv_icmp_ge (tgt := 77) hx hb dX7_weigh_13 (by decide) (fun c13 => ?_) (fun c13 => ?_)
            · -- 13: jumps
              have b13 := g_le (a := 16) (b := j) c13 (by omega) (by omega)
              refine lv_iinc (v := nI (i + 1)) (lv' := [(1, .int (nI (i + 1))), (0, .ref (ad 92)), (2, .int (nI j))]) hx hb dX7_weigh_77 hl (k := 1) rfl (nI_1 _) (by decide) rfl (fun ls hl => ?_)
              refine lv_goto (tgt := 2) hx hb dX7_weigh_80 (by decide) ?_
              exact ih2 (i + 1) _ _ _ (by omega) (by omega) (fun a b h ha hb => hw2 a b (by omega) ha hb) hf2 hG ls (lv_sub hl [1, 0] rfl)
            · -- 13: goes on
              have b13 := g_nle (a := 16) (b := j) c13 (by omega) (by omega)
              refine lv_aload_n hx hb dX7_weigh_16 rfl (lv_at hl 0 rfl) ?_
              refine lv_iload_n hx hb dX7_weigh_17 rfl (lv_at hl 1 rfl) ?_
              refine lv_iload_n hx hb dX7_weigh_18 rfl (lv_at hl 2 rfl) ?_
              refine g_sl (va_runV (As := [.int (nI i), .int (nI j)]) (rest := []) hcx (c_X7_dot l D ad tc I_10 L T hTb (tM_mem hT (hf2 93 (by decide))) i j (by omega) (by omega)) (cwV 2 hts gX7_weigh_X7_dot rfl rfl rfl (by decide +kernel) ⟨Nat.le_of_ble_eq_true rfl, Nat.le_of_ble_eq_true rfl⟩) (g_pV hK hG 92 (by decide) gc_92 rfl) rfl rfl hl.1 rfl (lv_room (Nat.le_of_ble_eq_true rfl)) dX7_weigh_19 ⟨Nat.le_refl _, Nat.le_refl _⟩) (fun r_19 hw_19 => ?_)
              subst hw_19
              refine lv_lstore_n (lv' := [(3, .long (lN (pu_dot T i j))), (0, .ref (ad 92)), (1, .int (nI i)), (2, .int (nI j))]) hx hb dX7_weigh_22 rfl hl (by decide) rfl (fun ls hl => ?_)
              refine lv_aload_n hx hb dX7_weigh_23 rfl (lv_at hl 1 rfl) ?_
              refine g_get (v := .ref (ad 95)) hx hb hts (by decide +kernel) hown hK hG 92 (by decide) gc_92 rfl 6 (by decide) (hts (.fieldLink RX7 20 "NeighbourScoresModel" "weights" "[I") (by decide +kernel)) (fun _ h9 => h9) rfl dX7_weigh_24 ?_
              refine lv_bipush (v := 16) hx hb dX7_weigh_27 (by decide) ?_
              refine lv_iload_n hx hb dX7_weigh_29 rfl (lv_at hl 2 rfl) ?_
              refine lv_imul hx hb dX7_weigh_30 ?_
              refine g_i (y := nI (16 * i)) (pk_mul 16 i) ?_
              refine lv_iload_n hx hb dX7_weigh_31 rfl (lv_at hl 3 rfl) ?_
              refine lv_iadd hx hb dX7_weigh_32 ?_
              refine g_i (y := nI ((16 * i) + j)) (nI_add (16 * i) j) ?_
              refine lv_iload_n hx hb dX7_weigh_33 rfl (lv_at hl 2 rfl) ?_
              refine lv_iload_n hx hb dX7_weigh_34 rfl (lv_at hl 3 rfl) ?_
              refine lv_icmp_eq (tgt := 44) hx hb dX7_weigh_35 (by decide) (fun c35 => ?_) (fun c35 => ?_)
              · -- 35: jumps
                have b35 := g_eq (a := i) (b := j) c35 (by omega) (by omega)
                refine lv_iconst (v := 0) hx hb dX7_weigh_44 (by decide) ?_
                refine lv_goto (tgt := 70) hx hb dX7_weigh_45 (by decide) ?_
                refine g_iast hx hb hK hG 95 (by decide) (fun _ => gc_95) ((16 * i) + j) rfl (by omega) (by omega) dX7_weigh_70 (fun I_70 H locs hU_70 hG => ?_)
                refine lv_iinc (v := nI (j + 1)) (lv' := [(2, .int (nI (j + 1))), (3, .long (lN (pu_dot T i j))), (0, .ref (ad 92)), (1, .int (nI i))]) hx hb dX7_weigh_71 hl (k := 3) rfl (nI_1 _) (by decide) rfl (fun ls hl => ?_)
                refine lv_goto (tgt := 10) hx hb dX7_weigh_74 (by decide) ?_
                exact ih10 (j + 1) _ _ _ (by omega) (by omega) (pu_wst hw2 hU_70 (by rw [show pu_w T i j = 0 from if_pos b35]; rfl)) (fun a ha => (hU_70.2 a ha).trans (hf2 a ha)) hG ls (lv_sub hl [2, 3, 0] rfl)
              · -- 35: goes on
                have b35 := g_ne (a := i) (b := j) c35 (by omega) (by omega)
                have q1 := pu_dot_le hTb (i := i) (j := j) (by omega) (by omega)
                refine lv_lload_n hx hb dX7_weigh_38 rfl (lv_at hl 0 rfl) ?_
                refine lv_lconst (v := 0) hx hb dX7_weigh_39 (by decide) ?_
                refine W.lcmp hx hb dX7_weigh_40 ?_
                refine lv_if_ne (tgt := 48) hx hb dX7_weigh_41 (by decide) (fun c41 => ?_) (fun c41 => ?_)
                · -- 41: jumps
                  have hd0 : ¬ pu_dot T i j = 0 := fun z => c41 (by rw [z]; rfl)
                  have hs := pu_dot_pos hd0
                  have q1 := pu_dot_le hTb (i := i) (j := j) (by omega) (by omega)
                  have q2 := pu_dot_le hTb (i := i) (j := i) (by omega) (by omega)
                  have q3 := pu_dot_le hTb (i := j) (j := j) (by omega) (by omega)
                  have q4 : pu_dot T i i * pu_dot T j j ≤ 300 * 300 := Nat.mul_le_mul q2 q3
                  have q5 : 1048576 * pu_dot T i j * pu_dot T i j ≤ 1048576 * 300 * 300 := Nat.mul_le_mul (Nat.mul_le_mul_left _ q1) q1
                  refine lv_ldc2 hx hb (v := 1048576) hown (hts (.constantLong RX7 77 (1048576)) (by decide +kernel)) dX7_weigh_48 ?_
                  refine lv_lload_n hx hb dX7_weigh_51 rfl (lv_at hl 0 rfl) ?_
                  refine lv_lmul hx hb dX7_weigh_52 ?_
                  refine g_l (y := lN (1048576 * (pu_dot T i j))) (lN_mul 1048576 (pu_dot T i j)) ?_
                  refine lv_lload_n hx hb dX7_weigh_53 rfl (lv_at hl 0 rfl) ?_
                  refine lv_lmul hx hb dX7_weigh_54 ?_
                  refine g_l (y := lN ((1048576 * (pu_dot T i j)) * (pu_dot T i j))) (lN_mul (1048576 * (pu_dot T i j)) (pu_dot T i j)) ?_
                  refine lv_aload_n hx hb dX7_weigh_55 rfl (lv_at hl 1 rfl) ?_
                  refine lv_iload_n hx hb dX7_weigh_56 rfl (lv_at hl 2 rfl) ?_
                  refine lv_iload_n hx hb dX7_weigh_57 rfl (lv_at hl 2 rfl) ?_
                  refine g_sl (va_runV (As := [.int (nI i), .int (nI i)]) (rest := [.long (lN ((1048576 * (pu_dot T i j)) * (pu_dot T i j))), .int (nI ((16 * i) + j)), .ref (ad 95)]) hcx (c_X7_dot l D ad tc I_10 L T hTb (tM_mem hT (hf2 93 (by decide))) i i (by omega) (by omega)) (cwV 2 hts gX7_weigh_X7_dot rfl rfl rfl (by decide +kernel) ⟨Nat.le_of_ble_eq_true rfl, Nat.le_of_ble_eq_true rfl⟩) (g_pV hK hG 92 (by decide) gc_92 rfl) rfl rfl hl.1 rfl (lv_room (Nat.le_of_ble_eq_true rfl)) dX7_weigh_58 ⟨Nat.le_refl _, Nat.le_refl _⟩) (fun r_58 hw_58 => ?_)
                  subst hw_58
                  refine lv_aload_n hx hb dX7_weigh_61 rfl (lv_at hl 1 rfl) ?_
                  refine lv_iload_n hx hb dX7_weigh_62 rfl (lv_at hl 3 rfl) ?_
                  refine lv_iload_n hx hb dX7_weigh_63 rfl (lv_at hl 3 rfl) ?_
                  refine g_sl (va_runV (As := [.int (nI j), .int (nI j)]) (rest := [.long (lN (pu_dot T i i)), .long (lN ((1048576 * (pu_dot T i j)) * (pu_dot T i j))), .int (nI ((16 * i) + j)), .ref (ad 95)]) hcx (c_X7_dot l D ad tc I_10 L T hTb (tM_mem hT (hf2 93 (by decide))) j j (by omega) (by omega)) (cwV 2 hts gX7_weigh_X7_dot rfl rfl rfl (by decide +kernel) ⟨Nat.le_of_ble_eq_true rfl, Nat.le_of_ble_eq_true rfl⟩) (g_pV hK hG 92 (by decide) gc_92 rfl) rfl rfl hl.1 rfl (lv_room (Nat.le_of_ble_eq_true rfl)) dX7_weigh_64 ⟨Nat.le_refl _, Nat.le_refl _⟩) (fun r_64 hw_64 => ?_)
                  subst hw_64
                  refine lv_lmul hx hb dX7_weigh_67 ?_
                  refine g_l (y := lN ((pu_dot T i i) * (pu_dot T j j))) (lN_mul (pu_dot T i i) (pu_dot T j j)) ?_
                  refine lv_ldiv hx hb dX7_weigh_68 (fun z => by have := (pk_lEQ (b := 0) (by omega) (by decide)).mp z; omega) ?_
                  refine g_l (y := lN (1048576 * pu_dot T i j * pu_dot T i j / (pu_dot T i i * pu_dot T j j))) (pk_lDiv (by omega) hs (by omega)) ?_
                  refine lv_l2i (v := (lN (1048576 * pu_dot T i j * pu_dot T i j / (pu_dot T i i * pu_dot T j j))).toInt32) hx hb dX7_weigh_69 rfl ?_
                  refine g_i (y := nI (1048576 * pu_dot T i j * pu_dot T i j / (pu_dot T i i * pu_dot T j j))) (lN_i _) ?_
                  refine g_iast hx hb hK hG 95 (by decide) (fun _ => gc_95) ((16 * i) + j) rfl (by omega) (by omega) dX7_weigh_70 (fun I_70 H locs hU_70 hG => ?_)
                  refine lv_iinc (v := nI (j + 1)) (lv' := [(2, .int (nI (j + 1))), (3, .long (lN (pu_dot T i j))), (0, .ref (ad 92)), (1, .int (nI i))]) hx hb dX7_weigh_71 hl (k := 3) rfl (nI_1 _) (by decide) rfl (fun ls hl => ?_)
                  refine lv_goto (tgt := 10) hx hb dX7_weigh_74 (by decide) ?_
                  exact ih10 (j + 1) _ _ _ (by omega) (by omega) (pu_wst hw2 hU_70 (by unfold pu_w; rw [if_neg b35])) (fun a ha => (hU_70.2 a ha).trans (hf2 a ha)) hG ls (lv_sub hl [2, 3, 0] rfl)
                · -- 41: goes on
                  refine lv_iconst (v := 0) hx hb dX7_weigh_44 (by decide) ?_
                  refine lv_goto (tgt := 70) hx hb dX7_weigh_45 (by decide) ?_
                  refine g_iast hx hb hK hG 95 (by decide) (fun _ => gc_95) ((16 * i) + j) rfl (by omega) (by omega) dX7_weigh_70 (fun I_70 H locs hU_70 hG => ?_)
                  refine lv_iinc (v := nI (j + 1)) (lv' := [(2, .int (nI (j + 1))), (3, .long (lN (pu_dot T i j))), (0, .ref (ad 92)), (1, .int (nI i))]) hx hb dX7_weigh_71 hl (k := 3) rfl (nI_1 _) (by decide) rfl (fun ls hl => ?_)
                  refine lv_goto (tgt := 10) hx hb dX7_weigh_74 (by decide) ?_
                  exact ih10 (j + 1) _ _ _ (by omega) (by omega) (pu_wst hw2 hU_70 (by rw [pu_w_d0 ((pk_lEQ (b := 0) (by omega) (by decide)).mp (pu_cmp0 c41))]; rfl)) (fun a ha => (hU_70.2 a ha).trans (hf2 a ha)) hG ls (lv_sub hl [2, 3, 0] rfl)
        exact lp10 17 0 _ _ _ (by omega) (by omega) hw1 hf hG ls (lv_sub hl [1, 2, 0] rfl)
  exact lp2 17 0 _ _ _ (by omega) (by omega) (fun a b h => by omega) (fun _ _ => rfl) hG ls (lv_sub hl [1, 0] rfl)

set_option maxHeartbeats 4000000 in
set_option maxRecDepth 100000 in
theorem c_X7_nearer (l : Launch) (D : va_G) (ad : Nat → Nat) (tc : Nat → ClassId) (I : Mi) (L : Ml) (T : Tb) (hW : pu_winv T I 16 0) (x y j : Nat) (hx0 : x < 16) (hy : y < 16) (hj : j < 16) : Met l yX7_nearer wsX7_nearer ({ frames := 0, cells := 0, slots := 0, locals := 0 } : Room) (va_Pc [.ref (ad 92), .int (nI x), .int (nI y), .int (nI j)] (gPc D ad tc I L)) (vp_Si (fun r => (pu_nr T j x y = true ∧ 1 = r) ∨ (pu_nr T j x y = false ∧ 0 = r))) 0 0 gN := by
  refine g_of (by decide) rfl (Nat.le_of_ble_eq_true rfl) ?_
  intro p e s m below meth c hcx hr hlocks hK hG ls hl
  obtain ⟨hx, hb, hml, hown, hts⟩ := id hcx
  have hl : lv_has ls 6 [(0, .ref (ad 92)), (1, .int (nI x)), (2, .int (nI y)), (3, .int (nI j))] := hl
  refine lv_aload_n hx hb dX7_nearer_0 rfl (lv_at hl 0 rfl) ?_
  refine g_get (v := .ref (ad 95)) hx hb hts (by decide +kernel) hown hK hG 92 (by decide) gc_92 rfl 6 (by decide) (hts (.fieldLink RX7 20 "NeighbourScoresModel" "weights" "[I") (by decide +kernel)) (fun _ h9 => h9) rfl dX7_nearer_1 ?_
  refine lv_bipush (v := 16) hx hb dX7_nearer_4 (by decide) ?_
  refine lv_iload_n hx hb dX7_nearer_6 rfl (lv_at hl 1 rfl) ?_
  refine lv_imul hx hb dX7_nearer_7 ?_
  refine g_i (y := nI (16 * x)) (pk_mul 16 x) ?_
  refine lv_iload_n hx hb dX7_nearer_8 rfl (lv_at hl 3 rfl) ?_
  refine lv_iadd hx hb dX7_nearer_9 ?_
  refine g_i (y := nI ((16 * x) + j)) (nI_add (16 * x) j) ?_
  refine g_iald hx hb hK hG 95 (by decide) gc_95 ((16 * x) + j) rfl (by omega) (by omega) dX7_nearer_10 ?_
  refine g_i (y := nI (pu_w T x j)) (hW x j (by omega) hx0 hj) ?_
  refine lv_istore (lv' := [(4, .int (nI (pu_w T x j))), (0, .ref (ad 92)), (1, .int (nI x)), (2, .int (nI y)), (3, .int (nI j))]) hx hb dX7_nearer_11 hl (by decide) rfl (fun ls hl => ?_)
  refine lv_aload_n hx hb dX7_nearer_13 rfl (lv_at hl 1 rfl) ?_
  refine g_get (v := .ref (ad 95)) hx hb hts (by decide +kernel) hown hK hG 92 (by decide) gc_92 rfl 6 (by decide) (hts (.fieldLink RX7 20 "NeighbourScoresModel" "weights" "[I") (by decide +kernel)) (fun _ h9 => h9) rfl dX7_nearer_14 ?_
  refine lv_bipush (v := 16) hx hb dX7_nearer_17 (by decide) ?_
  refine lv_iload_n hx hb dX7_nearer_19 rfl (lv_at hl 3 rfl) ?_
  refine lv_imul hx hb dX7_nearer_20 ?_
  refine g_i (y := nI (16 * y)) (pk_mul 16 y) ?_
  refine lv_iload_n hx hb dX7_nearer_21 rfl (lv_at hl 4 rfl) ?_
  refine lv_iadd hx hb dX7_nearer_22 ?_
  refine g_i (y := nI ((16 * y) + j)) (nI_add (16 * y) j) ?_
  refine g_iald hx hb hK hG 95 (by decide) gc_95 ((16 * y) + j) rfl (by omega) (by omega) dX7_nearer_23 ?_
  refine g_i (y := nI (pu_w T y j)) (hW y j (by omega) hy hj) ?_
  refine lv_istore (lv' := [(5, .int (nI (pu_w T y j))), (4, .int (nI (pu_w T x j))), (0, .ref (ad 92)), (1, .int (nI x)), (2, .int (nI y)), (3, .int (nI j))]) hx hb dX7_nearer_24 hl (by decide) rfl (fun ls hl => ?_)
  refine lv_iload hx hb dX7_nearer_26 (lv_at hl 1 rfl) ?_
  refine lv_iload hx hb dX7_nearer_28 (lv_at hl 0 rfl) ?_
  refine lv_icmp_gt (tgt := 45) hx hb dX7_nearer_30 (by decide) (fun c30 => ?_) (fun c30 => ?_)
  · -- 30: jumps
    refine lv_iconst (v := 1) hx hb dX7_nearer_45 (by decide) ?_
    refine lv_goto (tgt := 50) hx hb dX7_nearer_46 (by decide) ?_
    exact g_rzS hx hb hr hlocks (Or.inr rfl) (Or.inl ⟨decide_eq_true (Or.inl c30), rfl⟩) dX7_nearer_50
  · -- 30: goes on
    refine lv_iload hx hb dX7_nearer_33 (lv_at hl 1 rfl) ?_
    refine lv_iload hx hb dX7_nearer_35 (lv_at hl 0 rfl) ?_
    refine lv_icmp_ne (tgt := 49) hx hb dX7_nearer_37 (by decide) (fun c37 => ?_) (fun c37 => ?_)
    · -- 37: jumps
      refine lv_iconst (v := 0) hx hb dX7_nearer_49 (by decide) ?_
      exact g_rzS hx hb hr hlocks (Or.inl rfl) (Or.inr ⟨decide_eq_false (pu_no1 c30 c37), rfl⟩) dX7_nearer_50
    · -- 37: goes on
      refine lv_iload_n hx hb dX7_nearer_40 rfl (lv_at hl 3 rfl) ?_
      refine lv_iload_n hx hb dX7_nearer_41 rfl (lv_at hl 4 rfl) ?_
      refine lv_icmp_ge (tgt := 49) hx hb dX7_nearer_42 (by decide) (fun c42 => ?_) (fun c42 => ?_)
      · -- 42: jumps
        have b42 := g_le (a := y) (b := x) c42 (by omega) (by omega)
        refine lv_iconst (v := 0) hx hb dX7_nearer_49 (by decide) ?_
        exact g_rzS hx hb hr hlocks (Or.inl rfl) (Or.inr ⟨decide_eq_false (pu_no2 c30 (by omega)), rfl⟩) dX7_nearer_50
      · -- 42: goes on
        have b42 := g_nle (a := y) (b := x) c42 (by omega) (by omega)
        refine lv_iconst (v := 1) hx hb dX7_nearer_45 (by decide) ?_
        refine lv_goto (tgt := 50) hx hb dX7_nearer_46 (by decide) ?_
        exact g_rzS hx hb hr hlocks (Or.inr rfl) (Or.inl ⟨decide_eq_true (Or.inr ⟨c37, b42⟩), rfl⟩) dX7_nearer_50

set_option maxHeartbeats 4000000 in
set_option maxRecDepth 100000 in
theorem c_X7_entry (l : Launch) (D : va_G) (ad : Nat → Nat) (tc : Nat → ClassId) (I : Mi) (L : Ml) (T : Tb) (hW : pu_winv T I 16 0) (j : Nat) (hj : j < 16) (p0 : Int32) : Met l yX7_entry wsX7_entry ({ frames := 1, cells := 0, slots := 0, locals := 25 } : Room) (va_Pc [.ref (ad 92), .int (nI j), .int p0] (gPc D ad tc I L)) (vp_Si (fun r => pu_ent (pu_vn T j) p0 = r)) 0 0 gN := by
  refine g_of (by decide) rfl (Nat.le_of_ble_eq_true rfl) ?_
  intro p e s m below meth c hcx hr hlocks hK hG ls hl
  obtain ⟨hx, hb, hml, hown, hts⟩ := id hcx
  have hl : lv_has ls 6 [(0, .ref (ad 92)), (1, .int (nI j)), (2, .int p0)] := hl
  refine lv_iconst (v := 0) hx hb dX7_entry_0 (by decide) ?_
  refine lv_istore_n (lv' := [(3, .int 0), (0, .ref (ad 92)), (1, .int (nI j)), (2, .int p0)]) hx hb dX7_entry_1 rfl hl (by decide) rfl (fun ls hl => ?_)
  have lp2 : ∀ (n : Nat) (i : Nat), (i ≤ 16) → (17 ≤ i + n) → (∀ x, x < i → 0 < pu_vn T j x → ¬ nI (pu_rk (pu_vn T j) 16 x) = p0) → ∀ ls : Array Slot, lv_has ls 6 [(0, .ref (ad 92)), (1, .int (nI j)), (2, .int p0), (3, .int (nI i))] → W p l e (headSpec wsX7_entry ({ frames := 1, cells := 0, slots := 0, locals := 25 } : Room)).room s m ([.ref (ad 92), .int (nI j), .int p0] : List Value).toArray below meth c s.heap [] 0 0 (MQ below (vp_Si (fun r => pu_ent (pu_vn T j) p0 = r)) ([.ref (ad 92), .int (nI j), .int p0] : List Value).toArray s 0 0 gN) (F0 m 2 ls []) := by
    intro n
    induction n with
    | zero =>
      intro i hi hn hq ls hl
      exact absurd hn (by omega)
    | succ n ih2 =>
      intro i hi hn hq ls hl
      refine lv_iload_n hx hb dX7_entry_2 rfl (lv_at hl 3 rfl) ?_
      refine lv_bipush (v := 16) hx hb dX7_entry_3 (by decide) ?_
      refine lv_icmp_ge (tgt := 77) hx hb dX7_entry_5 (by decide) (fun c5 => ?_) (fun c5 => ?_)
      · -- 5: jumps
        have b5 := g_le (a := 16) (b := i) c5 (by omega) (by omega)
        refine lv_iconst (v := -1) hx hb dX7_entry_77 (by decide) ?_
        exact g_riS hx hb hr hlocks (pu_ent_no (fun x hx hp => hq x (by omega) hp)) dX7_entry_78
      · -- 5: goes on
        have b5 := g_nle (a := 16) (b := i) c5 (by omega) (by omega)
        refine lv_aload_n hx hb dX7_entry_8 rfl (lv_at hl 0 rfl) ?_
        refine g_get (v := .ref (ad 95)) hx hb hts (by decide +kernel) hown hK hG 92 (by decide) gc_92 rfl 6 (by decide) (hts (.fieldLink RX7 20 "NeighbourScoresModel" "weights" "[I") (by decide +kernel)) (fun _ h9 => h9) rfl dX7_entry_9 ?_
        refine lv_bipush (v := 16) hx hb dX7_entry_12 (by decide) ?_
        refine lv_iload_n hx hb dX7_entry_14 rfl (lv_at hl 3 rfl) ?_
        refine lv_imul hx hb dX7_entry_15 ?_
        refine g_i (y := nI (16 * i)) (pk_mul 16 i) ?_
        refine lv_iload_n hx hb dX7_entry_16 rfl (lv_at hl 1 rfl) ?_
        refine lv_iadd hx hb dX7_entry_17 ?_
        refine g_i (y := nI ((16 * i) + j)) (nI_add (16 * i) j) ?_
        refine g_iald hx hb hK hG 95 (by decide) gc_95 ((16 * i) + j) rfl (by omega) (by omega) dX7_entry_18 ?_
        refine g_i (y := nI (pu_w T i j)) (hW i j (by omega) (by omega) hj) ?_
        refine lv_if_le (tgt := 71) hx hb dX7_entry_19 (by decide) (fun c19 => ?_) (fun c19 => ?_)
        · -- 19: jumps
          refine lv_iinc (v := nI (i + 1)) (lv' := [(3, .int (nI (i + 1))), (0, .ref (ad 92)), (1, .int (nI j)), (2, .int p0)]) hx hb dX7_entry_71 hl (k := 3) rfl (nI_1 _) (by decide) rfl (fun ls hl => ?_)
          refine lv_goto (tgt := 2) hx hb dX7_entry_74 (by decide) ?_
          exact ih2 (i + 1) (by omega) (by omega) (fun x hx hp => by by_cases e : x = i; (rw [e] at hp; exact absurd hp (pu_vn_np c19)); exact hq x (by omega) hp) ls (lv_sub hl [1, 2, 3, 0] rfl)
        · -- 19: goes on
          refine lv_iconst (v := 0) hx hb dX7_entry_22 (by decide) ?_
          refine lv_istore (lv' := [(4, .int 0), (0, .ref (ad 92)), (1, .int (nI j)), (2, .int p0), (3, .int (nI i))]) hx hb dX7_entry_23 hl (by decide) rfl (fun ls hl => ?_)
          refine lv_iconst (v := 0) hx hb dX7_entry_25 (by decide) ?_
          refine lv_istore (lv' := [(5, .int 0), (4, .int 0), (0, .ref (ad 92)), (1, .int (nI j)), (2, .int p0), (3, .int (nI i))]) hx hb dX7_entry_26 hl (by decide) rfl (fun ls hl => ?_)
          have lp28 : ∀ (n : Nat) (x : Nat), (x ≤ 16) → (17 ≤ x + n) → ∀ ls : Array Slot, lv_has ls 6 [(0, .ref (ad 92)), (1, .int (nI j)), (2, .int p0), (3, .int (nI i)), (4, .int (nI (pu_ct (fun x => pu_nr T j x i) x))), (5, .int (nI x))] → W p l e (headSpec wsX7_entry ({ frames := 1, cells := 0, slots := 0, locals := 25 } : Room)).room s m ([.ref (ad 92), .int (nI j), .int p0] : List Value).toArray below meth c s.heap [] 0 0 (MQ below (vp_Si (fun r => pu_ent (pu_vn T j) p0 = r)) ([.ref (ad 92), .int (nI j), .int p0] : List Value).toArray s 0 0 gN) (F0 m 28 ls []) := by
            intro n
            induction n with
            | zero =>
              intro x hx1 hn2 ls hl
              exact absurd hn2 (by omega)
            | succ n ih28 =>
              intro x hx1 hn2 ls hl
              refine lv_iload hx hb dX7_entry_28 (lv_at hl 5 rfl) ?_
              refine lv_bipush (v := 16) hx hb dX7_entry_30 (by decide) ?_
              refine lv_icmp_ge (tgt := 63) hx hb dX7_entry_32 (by decide) (fun c32 => ?_) (fun c32 => ?_)
              · -- 32: jumps
                have b32 := g_le (a := 16) (b := x) c32 (by omega) (by omega)
                have hx16 : x = 16 := by omega
                refine lv_iload hx hb dX7_entry_63 (lv_at hl 4 rfl) ?_
                refine lv_iload_n hx hb dX7_entry_65 rfl (lv_at hl 2 rfl) ?_
                refine lv_icmp_ne (tgt := 71) hx hb dX7_entry_66 (by decide) (fun c66 => ?_) (fun c66 => ?_)
                · -- 66: jumps
                  refine lv_iinc (v := nI (i + 1)) (lv' := [(3, .int (nI (i + 1))), (0, .ref (ad 92)), (1, .int (nI j)), (2, .int p0), (4, .int (nI (pu_ct (fun x => pu_nr T j x i) x))), (5, .int (nI x))]) hx hb dX7_entry_71 hl (k := 3) rfl (nI_1 _) (by decide) rfl (fun ls hl => ?_)
                  refine lv_goto (tgt := 2) hx hb dX7_entry_74 (by decide) ?_
                  exact ih2 (i + 1) (by omega) (by omega) (fun x hx hp => by by_cases e : x = i; (rw [hx16] at c66; rw [e, ← pu_nr_rk (pu_vn_p c19)]; exact c66); exact hq x (by omega) hp) ls (lv_sub hl [1, 2, 3, 0] rfl)
                · -- 66: goes on
                  refine lv_iload_n hx hb dX7_entry_69 rfl (lv_at hl 3 rfl) ?_
                  exact g_riS hx hb hr hlocks (by rw [← c66, hx16, pu_nr_rk (pu_vn_p c19)]; exact pu_ent_some (by omega) (pu_vn_p c19)) dX7_entry_70
              · -- 32: goes on
                have b32 := g_nle (a := 16) (b := x) c32 (by omega) (by omega)
                refine lv_aload_n hx hb dX7_entry_35 rfl (lv_at hl 0 rfl) ?_
                refine lv_iload hx hb dX7_entry_36 (lv_at hl 5 rfl) ?_
                refine lv_iload_n hx hb dX7_entry_38 rfl (lv_at hl 3 rfl) ?_
                refine lv_iload_n hx hb dX7_entry_39 rfl (lv_at hl 1 rfl) ?_
                refine g_si (va_runV (As := [.int (nI x), .int (nI i), .int (nI j)]) (rest := []) hcx (c_X7_nearer l D ad tc I L T hW x i j (by omega) (by omega) (by omega)) (cwV 3 hts gX7_entry_X7_nearer rfl rfl rfl (by decide +kernel) ⟨Nat.le_of_ble_eq_true rfl, Nat.le_of_ble_eq_true rfl⟩) (g_pV hK hG 92 (by decide) gc_92 rfl) rfl rfl hl.1 rfl (lv_room (Nat.le_of_ble_eq_true rfl)) dX7_entry_40 ⟨Nat.le_refl _, Nat.le_refl _⟩) (fun r_40 hw_40 => ?_)
                rcases hw_40 with ⟨hw_40, rfl⟩ | ⟨hw_40, rfl⟩
                · -- 40: yes
                  refine lv_if_eq (tgt := 53) hx hb dX7_entry_43 (by decide) (fun c43 => absurd c43 (by decide)) (fun _ => ?_)
                  refine lv_iload hx hb dX7_entry_46 (lv_at hl 4 rfl) ?_
                  refine lv_iconst (v := 1) hx hb dX7_entry_48 (by decide) ?_
                  refine lv_iadd hx hb dX7_entry_49 ?_
                  refine g_i (y := nI ((pu_ct (fun x => pu_nr T j x i) x) + 1)) (nI_add (pu_ct (fun x => pu_nr T j x i) x) 1) ?_
                  refine lv_goto (tgt := 55) hx hb dX7_entry_50 (by decide) ?_
                  refine lv_istore (lv' := [(4, .int (nI ((pu_ct (fun x => pu_nr T j x i) x) + 1))), (0, .ref (ad 92)), (1, .int (nI j)), (2, .int p0), (3, .int (nI i)), (5, .int (nI x))]) hx hb dX7_entry_55 hl (by decide) rfl (fun ls hl => ?_)
                  refine lv_iinc (v := nI (x + 1)) (lv' := [(5, .int (nI (x + 1))), (4, .int (nI ((pu_ct (fun x => pu_nr T j x i) x) + 1))), (0, .ref (ad 92)), (1, .int (nI j)), (2, .int p0), (3, .int (nI i))]) hx hb dX7_entry_57 hl (k := 5) rfl (nI_1 _) (by decide) rfl (fun ls hl => ?_)
                  refine lv_goto (tgt := 28) hx hb dX7_entry_60 (by decide) ?_
                  have e9 : pu_ct (fun x => pu_nr T j x i) (x + 1) = pu_ct (fun x => pu_nr T j x i) x + 1 := by
                    show pu_ct _ _ + (if (fun x => pu_nr T j x i) x = true then 1 else 0) = _
                    simp [hw_40]
                  rw [← e9] at hl
                  exact ih28 (x + 1) (by omega) (by omega) ls (lv_sub hl [2, 3, 4, 5, 1, 0] rfl)
                · -- 40: no
                  refine lv_if_eq (tgt := 53) hx hb dX7_entry_43 (by decide) (fun _ => ?_) (fun c43 => absurd (by decide) c43)
                  refine lv_iload hx hb dX7_entry_53 (lv_at hl 4 rfl) ?_
                  refine lv_istore (lv' := [(4, .int (nI (pu_ct (fun x => pu_nr T j x i) x))), (0, .ref (ad 92)), (1, .int (nI j)), (2, .int p0), (3, .int (nI i)), (5, .int (nI x))]) hx hb dX7_entry_55 hl (by decide) rfl (fun ls hl => ?_)
                  refine lv_iinc (v := nI (x + 1)) (lv' := [(5, .int (nI (x + 1))), (4, .int (nI (pu_ct (fun x => pu_nr T j x i) x))), (0, .ref (ad 92)), (1, .int (nI j)), (2, .int p0), (3, .int (nI i))]) hx hb dX7_entry_57 hl (k := 5) rfl (nI_1 _) (by decide) rfl (fun ls hl => ?_)
                  refine lv_goto (tgt := 28) hx hb dX7_entry_60 (by decide) ?_
                  have e9 : pu_ct (fun x => pu_nr T j x i) (x + 1) = pu_ct (fun x => pu_nr T j x i) x := by
                    show pu_ct _ _ + (if (fun x => pu_nr T j x i) x = true then 1 else 0) = _
                    simp [hw_40]
                  rw [← e9] at hl
                  exact ih28 (x + 1) (by omega) (by omega) ls (lv_sub hl [2, 3, 4, 5, 1, 0] rfl)
          exact lp28 17 0 (by omega) (by omega) ls (lv_sub hl [2, 3, 4, 5, 1, 0] rfl)
  exact lp2 17 0 (by omega) (by omega) (fun _ h => absurd h (Nat.not_lt_zero _)) ls (lv_sub hl [1, 2, 3, 0] rfl)

set_option maxHeartbeats 4000000 in
set_option maxRecDepth 100000 in
theorem c_X7_scoreAll (l : Launch) (D : va_G) (ad : Nat → Nat) (tc : Nat → ClassId) (I : Mi) (L : Ml) (T : Tb) (hTb : pu_tb T) (hT : tM I T) (u : Nat) (hu : u < 12) : Met l yX7_scoreAll wsX7_scoreAll ({ frames := 2, cells := 0, slots := 0, locals := 49 } : Room) (va_Pc [.ref (ad 92), .int (nI u)] (gPc D ad tc I L)) (gQv D ad tc (fun I1 L1 => pu_winv T I1 16 0 ∧ (∀ a, a < 16 → L1 96 a = pu_sc T u a 16) ∧ (∀ a, a ≠ 95 → I1 a = I a) ∧ ∀ a, a ≠ 96 → L1 a = L a)) 0 0 (gA ad) := by
  refine g_of (by decide) rfl (Nat.le_of_ble_eq_true rfl) ?_
  intro p e s m below meth c hcx hr hlocks hK hG ls hl
  obtain ⟨hx, hb, hml, hown, hts⟩ := id hcx
  have hl : lv_has ls 4 [(0, .ref (ad 92)), (1, .int (nI u))] := hl
  refine lv_aload_n hx hb dX7_scoreAll_0 rfl (lv_at hl 0 rfl) ?_
  refine g_cv (va_runV (As := []) (rest := []) hcx (c_X7_weigh l D ad tc I L T hTb hT) (cwV 0 hts gX7_scoreAll_X7_weigh rfl rfl rfl (by decide +kernel) ⟨Nat.le_of_ble_eq_true rfl, Nat.le_of_ble_eq_true rfl⟩) (g_pV hK hG 92 (by decide) gc_92 rfl) rfl rfl hl.1 rfl (lv_room (Nat.le_of_ble_eq_true rfl)) dX7_scoreAll_1 ⟨Nat.le_refl _, Nat.le_refl _⟩) hK hG (fun I_1 L_1 H locs hw_1 hG => ?_)
  obtain ⟨hW, hfI, rfl⟩ := hw_1
  have hT1 := tM_mem hT (hfI 93 (by decide))
  refine lv_iconst (v := 0) hx hb dX7_scoreAll_4 (by decide) ?_
  refine lv_istore_n (lv' := [(2, .int 0), (0, .ref (ad 92)), (1, .int (nI u))]) hx hb dX7_scoreAll_5 rfl hl (by decide) rfl (fun ls hl => ?_)
  have lp6 : ∀ (n : Nat) (i : Nat) (L_6 : Ml) (H : Heap) (locs : List Loc), (i ≤ 16) → (17 ≤ i + n) → (∀ a, a < i → L_6 96 a = pu_sc T u a 16) → (∀ a, a ≠ 96 → L_6 a = L a) → gG D ad tc (gA ad) s.heap I_1 L_6 H locs → ∀ ls : Array Slot, lv_has ls 4 [(0, .ref (ad 92)), (1, .int (nI u)), (2, .int (nI i))] → W p l e (headSpec wsX7_scoreAll ({ frames := 2, cells := 0, slots := 0, locals := 49 } : Room)).room s m ([.ref (ad 92), .int (nI u)] : List Value).toArray below meth c H locs 0 0 (MQ below (gQv D ad tc (fun I1 L1 => pu_winv T I1 16 0 ∧ (∀ a, a < 16 → L1 96 a = pu_sc T u a 16) ∧ (∀ a, a ≠ 95 → I1 a = I a) ∧ ∀ a, a ≠ 96 → L1 a = L a)) ([.ref (ad 92), .int (nI u)] : List Value).toArray s 0 0 (gA ad)) (F0 m 6 ls []) := by
    intro n
    induction n with
    | zero =>
      intro i L_6 H locs hi hn hs1 hf hG ls hl
      exact absurd hn (by omega)
    | succ n ih6 =>
      intro i L_6 H locs hi hn hs1 hf hG ls hl
      refine lv_iload_n hx hb dX7_scoreAll_6 rfl (lv_at hl 2 rfl) ?_
      refine lv_bipush (v := 16) hx hb dX7_scoreAll_7 (by decide) ?_
      refine lv_icmp_ge (tgt := 77) hx hb dX7_scoreAll_9 (by decide) (fun c9 => ?_) (fun c9 => ?_)
      · -- 9: jumps
        have b9 := g_le (a := 16) (b := i) c9 (by omega) (by omega)
        exact g_rv hx hb hr hlocks hG ⟨hW, fun a ha => hs1 a (by omega), hfI, hf⟩ dX7_scoreAll_77
      · -- 9: goes on
        have b9 := g_nle (a := 16) (b := i) c9 (by omega) (by omega)
        refine lv_aload_n hx hb dX7_scoreAll_12 rfl (lv_at hl 0 rfl) ?_
        refine g_get (v := .ref (ad 96)) hx hb hts (by decide +kernel) hown hK hG 92 (by decide) gc_92 rfl 7 (by decide) (hts (.fieldLink RX7 23 "NeighbourScoresModel" "scores" "[J") (by decide +kernel)) (fun _ h9 => h9) rfl dX7_scoreAll_13 ?_
        refine lv_iload_n hx hb dX7_scoreAll_16 rfl (lv_at hl 2 rfl) ?_
        refine lv_lconst (v := 0) hx hb dX7_scoreAll_17 (by decide) ?_
        refine g_last hx hb hK hG 96 (by decide) (fun _ => gc_96) i rfl (by omega) (by omega) dX7_scoreAll_18 (fun L_18 H locs hU_18 hG => ?_)
        refine lv_iconst (v := 0) hx hb dX7_scoreAll_19 (by decide) ?_
        refine lv_istore_n (lv' := [(3, .int 0), (0, .ref (ad 92)), (1, .int (nI u)), (2, .int (nI i))]) hx hb dX7_scoreAll_20 rfl hl (by decide) rfl (fun ls hl => ?_)
        have lp21 : ∀ (n : Nat) (j : Nat) (L_21 : Ml) (H : Heap) (locs : List Loc), (j ≤ 16) → (17 ≤ j + n) → (L_21 96 i = pu_sc T u i j) → (∀ a, a < i → L_21 96 a = pu_sc T u a 16) → (∀ a, a ≠ 96 → L_21 a = L a) → gG D ad tc (gA ad) s.heap I_1 L_21 H locs → ∀ ls : Array Slot, lv_has ls 4 [(0, .ref (ad 92)), (1, .int (nI u)), (2, .int (nI i)), (3, .int (nI j))] → W p l e (headSpec wsX7_scoreAll ({ frames := 2, cells := 0, slots := 0, locals := 49 } : Room)).room s m ([.ref (ad 92), .int (nI u)] : List Value).toArray below meth c H locs 0 0 (MQ below (gQv D ad tc (fun I1 L1 => pu_winv T I1 16 0 ∧ (∀ a, a < 16 → L1 96 a = pu_sc T u a 16) ∧ (∀ a, a ≠ 95 → I1 a = I a) ∧ ∀ a, a ≠ 96 → L1 a = L a)) ([.ref (ad 92), .int (nI u)] : List Value).toArray s 0 0 (gA ad)) (F0 m 21 ls []) := by
          intro n
          induction n with
          | zero =>
            intro j L_21 H locs hj hn2 hs2 hs3 hf2 hG ls hl
            exact absurd hn2 (by omega)
          | succ n ih21 =>
            intro j L_21 H locs hj hn2 hs2 hs3 hf2 hG ls hl
            refine lv_iload_n hx hb dX7_scoreAll_21 rfl (lv_at hl 3 rfl) ?_
            refine lv_bipush (v := 16) hx hb dX7_scoreAll_22 (by decide) ?_
            refine lv_icmp_ge (tgt := 71) hx hb dX7_scoreAll_24 (by decide) (fun c24 => ?_) (fun c24 => ?_)
            · -- 24: jumps
              have b24 := g_le (a := 16) (b := j) c24 (by omega) (by omega)
              refine lv_iinc (v := nI (i + 1)) (lv' := [(2, .int (nI (i + 1))), (0, .ref (ad 92)), (1, .int (nI u)), (3, .int (nI j))]) hx hb dX7_scoreAll_71 hl (k := 2) rfl (nI_1 _) (by decide) rfl (fun ls hl => ?_)
              refine lv_goto (tgt := 6) hx hb dX7_scoreAll_74 (by decide) ?_
              exact ih6 (i + 1) _ _ _ (by omega) (by omega) (fun a ha => by by_cases e : a = i; (rw [e, hs2, show j = 16 by omega]); exact hs3 a (by omega)) hf2 hG ls (lv_sub hl [1, 2, 0] rfl)
            · -- 24: goes on
              have b24 := g_nle (a := 16) (b := j) c24 (by omega) (by omega)
              refine lv_aload_n hx hb dX7_scoreAll_27 rfl (lv_at hl 0 rfl) ?_
              refine g_get (v := .ref (ad 96)) hx hb hts (by decide +kernel) hown hK hG 92 (by decide) gc_92 rfl 7 (by decide) (hts (.fieldLink RX7 23 "NeighbourScoresModel" "scores" "[J") (by decide +kernel)) (fun _ h9 => h9) rfl dX7_scoreAll_28 ?_
              refine lv_iload_n hx hb dX7_scoreAll_31 rfl (lv_at hl 2 rfl) ?_
              refine lv_aload_n hx hb dX7_scoreAll_32 rfl (lv_at hl 0 rfl) ?_
              refine g_get (v := .ref (ad 96)) hx hb hts (by decide +kernel) hown hK hG 92 (by decide) gc_92 rfl 7 (by decide) (hts (.fieldLink RX7 23 "NeighbourScoresModel" "scores" "[J") (by decide +kernel)) (fun _ h9 => h9) rfl dX7_scoreAll_33 ?_
              refine lv_iload_n hx hb dX7_scoreAll_36 rfl (lv_at hl 2 rfl) ?_
              refine g_lald hx hb hK hG 96 (by decide) gc_96 i rfl (by omega) (by omega) dX7_scoreAll_37 ?_
              refine g_l (y := pu_sc T u i j) hs2 ?_
              refine lv_aload_n hx hb dX7_scoreAll_38 rfl (lv_at hl 0 rfl) ?_
              refine g_get (v := .ref (ad 95)) hx hb hts (by decide +kernel) hown hK hG 92 (by decide) gc_92 rfl 6 (by decide) (hts (.fieldLink RX7 20 "NeighbourScoresModel" "weights" "[I") (by decide +kernel)) (fun _ h9 => h9) rfl dX7_scoreAll_39 ?_
              refine lv_bipush (v := 16) hx hb dX7_scoreAll_42 (by decide) ?_
              refine lv_iload_n hx hb dX7_scoreAll_44 rfl (lv_at hl 2 rfl) ?_
              refine lv_imul hx hb dX7_scoreAll_45 ?_
              refine g_i (y := nI (16 * i)) (pk_mul 16 i) ?_
              refine lv_iload_n hx hb dX7_scoreAll_46 rfl (lv_at hl 3 rfl) ?_
              refine lv_iadd hx hb dX7_scoreAll_47 ?_
              refine g_i (y := nI ((16 * i) + j)) (nI_add (16 * i) j) ?_
              refine g_iald hx hb hK hG 95 (by decide) gc_95 ((16 * i) + j) rfl (by omega) (by omega) dX7_scoreAll_48 ?_
              refine g_i (y := nI (pu_w T i j)) (hW i j (by omega) (by omega) (by omega)) ?_
              refine lv_i2l (v := (nI (pu_w T i j)).toInt64) hx hb dX7_scoreAll_49 rfl ?_
              refine lv_aload_n hx hb dX7_scoreAll_50 rfl (lv_at hl 0 rfl) ?_
              refine g_get (v := .ref (ad 93)) hx hb hts (by decide +kernel) hown hK hG 92 (by decide) gc_92 rfl 0 (by decide) (hts (.fieldLink RX7 7 "NeighbourScoresModel" "rated" "[I") (by decide +kernel)) (fun _ h9 => h9) rfl dX7_scoreAll_51 ?_
              refine lv_bipush (v := 16) hx hb dX7_scoreAll_54 (by decide) ?_
              refine lv_iload_n hx hb dX7_scoreAll_56 rfl (lv_at hl 1 rfl) ?_
              refine lv_imul hx hb dX7_scoreAll_57 ?_
              refine g_i (y := nI (16 * u)) (pk_mul 16 u) ?_
              refine lv_iload_n hx hb dX7_scoreAll_58 rfl (lv_at hl 3 rfl) ?_
              refine lv_iadd hx hb dX7_scoreAll_59 ?_
              refine g_i (y := nI ((16 * u) + j)) (nI_add (16 * u) j) ?_
              refine g_iald hx hb hK hG 93 (by decide) gc_93 ((16 * u) + j) rfl (by omega) (by omega) dX7_scoreAll_60 ?_
              refine g_i (y := nI (T u j)) (hT1 u j hu (by omega)) ?_
              refine lv_i2l (v := (nI (T u j)).toInt64) hx hb dX7_scoreAll_61 rfl ?_
              refine lv_lmul hx hb dX7_scoreAll_62 ?_
              refine lv_ladd hx hb dX7_scoreAll_63 ?_
              refine g_last hx hb hK hG 96 (by decide) (fun _ => gc_96) i rfl (by omega) (by omega) dX7_scoreAll_64 (fun L_64 H locs hU_64 hG => ?_)
              refine lv_iinc (v := nI (j + 1)) (lv' := [(3, .int (nI (j + 1))), (0, .ref (ad 92)), (1, .int (nI u)), (2, .int (nI i))]) hx hb dX7_scoreAll_65 hl (k := 3) rfl (nI_1 _) (by decide) rfl (fun ls hl => ?_)
              refine lv_goto (tgt := 21) hx hb dX7_scoreAll_68 (by decide) ?_
              exact ih21 (j + 1) _ _ _ (by omega) (by omega) (gV_eq hU_64) (fun a ha => by rw [gV_ne hU_64 (by omega)]; exact hs3 a ha) (fun a ha => (hU_64.2 a ha).trans (hf2 a ha)) hG ls (lv_sub hl [1, 2, 3, 0] rfl)
        exact lp21 17 0 _ _ _ (by omega) (by omega) (gV_eq hU_18) (fun a ha => by rw [gV_ne hU_18 (by omega)]; exact hs1 a ha) (fun a ha => (hU_18.2 a ha).trans (hf a ha)) hG ls (lv_sub hl [1, 2, 3, 0] rfl)
  exact lp6 17 0 _ _ _ (by omega) (by omega) (fun _ h => absurd h (Nat.not_lt_zero _)) (fun _ _ => rfl) hG ls (lv_sub hl [1, 2, 0] rfl)

set_option maxHeartbeats 4000000 in
set_option maxRecDepth 100000 in
theorem c_X7_offered (l : Launch) (D : va_G) (ad : Nat → Nat) (tc : Nat → ClassId) (I : Mi) (L : Ml) (T : Tb) (hTb : pu_tb T) (hT : tM I T) (u i : Nat) (hu : u < 12) (hi : i < 16) (hS : ∀ a, a < 16 → L 96 a = pu_sc T u a 16)  : Met l yX7_offered wsX7_offered ({ frames := 0, cells := 0, slots := 0, locals := 0 } : Room) (va_Pc [.ref (ad 92), .int (nI u), .int (nI i)] (gPc D ad tc I L)) (vp_Si (fun r => (pu_of T u i = true ∧ 1 = r) ∨ (pu_of T u i = false ∧ 0 = r))) 0 0 gN := by
  refine g_of (by decide) rfl (Nat.le_of_ble_eq_true rfl) ?_
  intro p e s m below meth c hcx hr hlocks hK hG ls hl
  obtain ⟨hx, hb, hml, hown, hts⟩ := id hcx
  have hl : lv_has ls 3 [(0, .ref (ad 92)), (1, .int (nI u)), (2, .int (nI i))] := hl
  refine lv_aload_n hx hb dX7_offered_0 rfl (lv_at hl 0 rfl) ?_
  refine g_get (v := .ref (ad 93)) hx hb hts (by decide +kernel) hown hK hG 92 (by decide) gc_92 rfl 0 (by decide) (hts (.fieldLink RX7 7 "NeighbourScoresModel" "rated" "[I") (by decide +kernel)) (fun _ h9 => h9) rfl dX7_offered_1 ?_
  refine lv_bipush (v := 16) hx hb dX7_offered_4 (by decide) ?_
  refine lv_iload_n hx hb dX7_offered_6 rfl (lv_at hl 1 rfl) ?_
  refine lv_imul hx hb dX7_offered_7 ?_
  refine g_i (y := nI (16 * u)) (pk_mul 16 u) ?_
  refine lv_iload_n hx hb dX7_offered_8 rfl (lv_at hl 2 rfl) ?_
  refine lv_iadd hx hb dX7_offered_9 ?_
  refine g_i (y := nI ((16 * u) + i)) (nI_add (16 * u) i) ?_
  refine g_iald hx hb hK hG 93 (by decide) gc_93 ((16 * u) + i) rfl (by omega) (by omega) dX7_offered_10 ?_
  refine g_i (y := nI (T u i)) (hT u i hu hi) ?_
  have ht5 := hTb u i hu hi
  refine lv_if_ne (tgt := 29) hx hb dX7_offered_11 (by decide) (fun c11 => ?_) (fun c11 => ?_)
  · -- 11: jumps
    have b11 := g_ne (a := (T u i)) (b := 0) c11 (by omega) (by omega)
    refine lv_iconst (v := 0) hx hb dX7_offered_29 (by decide) ?_
    exact g_rzS hx hb hr hlocks (Or.inl rfl) (Or.inr ⟨decide_eq_false (fun q => b11 q.1), rfl⟩) dX7_offered_30
  · -- 11: goes on
    have b11 := g_eq (a := (T u i)) (b := 0) c11 (by omega) (by omega)
    refine lv_aload_n hx hb dX7_offered_14 rfl (lv_at hl 0 rfl) ?_
    refine g_get (v := .ref (ad 96)) hx hb hts (by decide +kernel) hown hK hG 92 (by decide) gc_92 rfl 7 (by decide) (hts (.fieldLink RX7 23 "NeighbourScoresModel" "scores" "[J") (by decide +kernel)) (fun _ h9 => h9) rfl dX7_offered_15 ?_
    refine lv_iload_n hx hb dX7_offered_18 rfl (lv_at hl 2 rfl) ?_
    refine g_lald hx hb hK hG 96 (by decide) gc_96 i rfl (by omega) (by omega) dX7_offered_19 ?_
    refine g_l (y := pu_sc T u i 16) (hS i hi) ?_
    refine lv_lconst (v := 0) hx hb dX7_offered_20 (by decide) ?_
    refine W.lcmp hx hb dX7_offered_21 ?_
    refine lv_if_le (tgt := 29) hx hb dX7_offered_22 (by decide) (fun c22 => ?_) (fun c22 => ?_)
    · -- 22: jumps
      refine lv_iconst (v := 0) hx hb dX7_offered_29 (by decide) ?_
      exact g_rzS hx hb hr hlocks (Or.inl rfl) (Or.inr ⟨decide_eq_false (fun q => pu_cmp_le c22 q.2), rfl⟩) dX7_offered_30
    · -- 22: goes on
      refine lv_iconst (v := 1) hx hb dX7_offered_25 (by decide) ?_
      refine lv_goto (tgt := 30) hx hb dX7_offered_26 (by decide) ?_
      exact g_rzS hx hb hr hlocks (Or.inr rfl) (Or.inl ⟨decide_eq_true ⟨b11, pu_cmp_gt c22⟩, rfl⟩) dX7_offered_30

set_option maxHeartbeats 4000000 in
set_option maxRecDepth 100000 in
theorem c_X7_above (l : Launch) (D : va_G) (ad : Nat → Nat) (tc : Nat → ClassId) (I : Mi) (L : Ml) (T : Tb) (hTb : pu_tb T) (hT : tM I T) (u : Nat) (M : Nat → Bool) (lim : Int64) (hu : u < 12) (hS : ∀ a, a < 16 → L 96 a = pu_sc T u a 16) (hM : ∀ a, a < 16 → I 97 a = if M a = true then 1 else 0) : Met l yX7_above wsX7_above ({ frames := 0, cells := 0, slots := 0, locals := 0 } : Room) (va_Pc [.ref (ad 92), .int (nI u), .long lim] (gPc D ad tc I L)) (vp_Si (fun r => nI (pu_ab T u M lim 16) = r)) 0 0 gN := by
  refine g_of (by decide) rfl (Nat.le_of_ble_eq_true rfl) ?_
  intro p e s m below meth c hcx hr hlocks hK hG ls hl
  obtain ⟨hx, hb, hml, hown, hts⟩ := id hcx
  have hl : lv_has ls 6 [(0, .ref (ad 92)), (1, .int (nI u)), (2, .long lim)] := hl
  refine lv_iconst (v := 0) hx hb dX7_above_0 (by decide) ?_
  refine lv_istore (lv' := [(4, .int 0), (0, .ref (ad 92)), (1, .int (nI u)), (2, .long lim)]) hx hb dX7_above_1 hl (by decide) rfl (fun ls hl => ?_)
  refine lv_iconst (v := 0) hx hb dX7_above_3 (by decide) ?_
  refine lv_istore (lv' := [(5, .int 0), (4, .int 0), (0, .ref (ad 92)), (1, .int (nI u)), (2, .long lim)]) hx hb dX7_above_4 hl (by decide) rfl (fun ls hl => ?_)
  have lp6 : ∀ (n : Nat) (k : Nat), (k ≤ 16) → (17 ≤ k + n) → ∀ ls : Array Slot, lv_has ls 6 [(0, .ref (ad 92)), (1, .int (nI u)), (2, .long lim), (4, .int (nI (pu_ab T u M lim k))), (5, .int (nI k))] → W p l e (headSpec wsX7_above ({ frames := 0, cells := 0, slots := 0, locals := 0 } : Room)).room s m ([.ref (ad 92), .int (nI u), .long lim] : List Value).toArray below meth c s.heap [] 0 0 (MQ below (vp_Si (fun r => nI (pu_ab T u M lim 16) = r)) ([.ref (ad 92), .int (nI u), .long lim] : List Value).toArray s 0 0 gN) (F0 m 6 ls []) := by
    intro n
    induction n with
    | zero =>
      intro k hk hn ls hl
      exact absurd hn (by omega)
    | succ n ih6 =>
      intro k hk hn ls hl
      refine lv_iload hx hb dX7_above_6 (lv_at hl 4 rfl) ?_
      refine lv_bipush (v := 16) hx hb dX7_above_8 (by decide) ?_
      refine lv_icmp_ge (tgt := 67) hx hb dX7_above_10 (by decide) (fun c10 => ?_) (fun c10 => ?_)
      · -- 10: jumps
        have b10 := g_le (a := 16) (b := k) c10 (by omega) (by omega)
        refine lv_iload hx hb dX7_above_67 (lv_at hl 3 rfl) ?_
        exact g_riS hx hb hr hlocks (by rw [show k = 16 by omega]) dX7_above_69
      · -- 10: goes on
        have b10 := g_nle (a := 16) (b := k) c10 (by omega) (by omega)
        refine lv_aload_n hx hb dX7_above_13 rfl (lv_at hl 0 rfl) ?_
        refine g_get (v := .ref (ad 97)) hx hb hts (by decide +kernel) hown hK hG 92 (by decide) gc_92 rfl 8 (by decide) (hts (.fieldLink RX7 27 "NeighbourScoresModel" "met" "[Z") (by decide +kernel)) (fun _ h9 => h9) rfl dX7_above_14 ?_
        refine lv_iload hx hb dX7_above_17 (lv_at hl 4 rfl) ?_
        refine g_zald hx hb hK hG 97 (by decide) gc_97 k rfl (by omega) (by omega) dX7_above_19 ?_
        refine g_i (y := if M k = true then 1 else 0) (hM k (by omega)) ?_
        refine lv_if_eq (tgt := 57) hx hb dX7_above_20 (by decide) (fun c20 => ?_) (fun c20 => ?_)
        · -- 20: jumps
          refine lv_iload hx hb dX7_above_57 (lv_at hl 3 rfl) ?_
          refine lv_istore (lv' := [(4, .int (nI (pu_ab T u M lim k))), (0, .ref (ad 92)), (1, .int (nI u)), (2, .long lim), (5, .int (nI k))]) hx hb dX7_above_59 hl (by decide) rfl (fun ls hl => ?_)
          refine lv_iinc (v := nI (k + 1)) (lv' := [(5, .int (nI (k + 1))), (4, .int (nI (pu_ab T u M lim k))), (0, .ref (ad 92)), (1, .int (nI u)), (2, .long lim)]) hx hb dX7_above_61 hl (k := 4) rfl (nI_1 _) (by decide) rfl (fun ls hl => ?_)
          refine lv_goto (tgt := 6) hx hb dX7_above_64 (by decide) ?_
          have e9 : pu_ab T u M lim (k + 1) = pu_ab T u M lim k := by
            rw [pu_ab_c, if_neg (fun q => by rw [if_pos q.1] at c20; exact absurd c20 (by decide)), Nat.add_zero]
          rw [← e9] at hl
          exact ih6 (k + 1) (by omega) (by omega) ls (lv_sub hl [2, 3, 4, 1, 0] rfl)
        · -- 20: goes on
          refine lv_aload_n hx hb dX7_above_23 rfl (lv_at hl 0 rfl) ?_
          refine g_get (v := .ref (ad 93)) hx hb hts (by decide +kernel) hown hK hG 92 (by decide) gc_92 rfl 0 (by decide) (hts (.fieldLink RX7 7 "NeighbourScoresModel" "rated" "[I") (by decide +kernel)) (fun _ h9 => h9) rfl dX7_above_24 ?_
          refine lv_bipush (v := 16) hx hb dX7_above_27 (by decide) ?_
          refine lv_iload_n hx hb dX7_above_29 rfl (lv_at hl 1 rfl) ?_
          refine lv_imul hx hb dX7_above_30 ?_
          refine g_i (y := nI (16 * u)) (pk_mul 16 u) ?_
          refine lv_iload hx hb dX7_above_31 (lv_at hl 4 rfl) ?_
          refine lv_iadd hx hb dX7_above_33 ?_
          refine g_i (y := nI ((16 * u) + k)) (nI_add (16 * u) k) ?_
          refine g_iald hx hb hK hG 93 (by decide) gc_93 ((16 * u) + k) rfl (by omega) (by omega) dX7_above_34 ?_
          refine g_i (y := nI (T u k)) (hT u k hu (by omega)) ?_
          have ht5 := hTb u k hu (by omega)
          refine lv_if_ne (tgt := 57) hx hb dX7_above_35 (by decide) (fun c35 => ?_) (fun c35 => ?_)
          · -- 35: jumps
            have b35 := g_ne (a := (T u k)) (b := 0) c35 (by omega) (by omega)
            refine lv_iload hx hb dX7_above_57 (lv_at hl 3 rfl) ?_
            refine lv_istore (lv' := [(4, .int (nI (pu_ab T u M lim k))), (0, .ref (ad 92)), (1, .int (nI u)), (2, .long lim), (5, .int (nI k))]) hx hb dX7_above_59 hl (by decide) rfl (fun ls hl => ?_)
            refine lv_iinc (v := nI (k + 1)) (lv' := [(5, .int (nI (k + 1))), (4, .int (nI (pu_ab T u M lim k))), (0, .ref (ad 92)), (1, .int (nI u)), (2, .long lim)]) hx hb dX7_above_61 hl (k := 4) rfl (nI_1 _) (by decide) rfl (fun ls hl => ?_)
            refine lv_goto (tgt := 6) hx hb dX7_above_64 (by decide) ?_
            have e9 : pu_ab T u M lim (k + 1) = pu_ab T u M lim k := by
              rw [pu_ab_c, if_neg (fun q => b35 q.2.1), Nat.add_zero]
            rw [← e9] at hl
            exact ih6 (k + 1) (by omega) (by omega) ls (lv_sub hl [2, 3, 4, 1, 0] rfl)
          · -- 35: goes on
            have b35 := g_eq (a := (T u k)) (b := 0) c35 (by omega) (by omega)
            refine lv_aload_n hx hb dX7_above_38 rfl (lv_at hl 0 rfl) ?_
            refine g_get (v := .ref (ad 96)) hx hb hts (by decide +kernel) hown hK hG 92 (by decide) gc_92 rfl 7 (by decide) (hts (.fieldLink RX7 23 "NeighbourScoresModel" "scores" "[J") (by decide +kernel)) (fun _ h9 => h9) rfl dX7_above_39 ?_
            refine lv_iload hx hb dX7_above_42 (lv_at hl 4 rfl) ?_
            refine g_lald hx hb hK hG 96 (by decide) gc_96 k rfl (by omega) (by omega) dX7_above_44 ?_
            refine g_l (y := pu_sc T u k 16) (hS k (by omega)) ?_
            refine lv_lload_n hx hb dX7_above_45 rfl (lv_at hl 2 rfl) ?_
            refine W.lcmp hx hb dX7_above_46 ?_
            refine lv_if_le (tgt := 57) hx hb dX7_above_47 (by decide) (fun c47 => ?_) (fun c47 => ?_)
            · -- 47: jumps
              refine lv_iload hx hb dX7_above_57 (lv_at hl 3 rfl) ?_
              refine lv_istore (lv' := [(4, .int (nI (pu_ab T u M lim k))), (0, .ref (ad 92)), (1, .int (nI u)), (2, .long lim), (5, .int (nI k))]) hx hb dX7_above_59 hl (by decide) rfl (fun ls hl => ?_)
              refine lv_iinc (v := nI (k + 1)) (lv' := [(5, .int (nI (k + 1))), (4, .int (nI (pu_ab T u M lim k))), (0, .ref (ad 92)), (1, .int (nI u)), (2, .long lim)]) hx hb dX7_above_61 hl (k := 4) rfl (nI_1 _) (by decide) rfl (fun ls hl => ?_)
              refine lv_goto (tgt := 6) hx hb dX7_above_64 (by decide) ?_
              have e9 : pu_ab T u M lim (k + 1) = pu_ab T u M lim k := by
                rw [pu_ab_c, if_neg (fun q => pu_cmp_le c47 q.2.2), Nat.add_zero]
              rw [← e9] at hl
              exact ih6 (k + 1) (by omega) (by omega) ls (lv_sub hl [2, 3, 4, 1, 0] rfl)
            · -- 47: goes on
              refine lv_iload hx hb dX7_above_50 (lv_at hl 3 rfl) ?_
              refine lv_iconst (v := 1) hx hb dX7_above_52 (by decide) ?_
              refine lv_iadd hx hb dX7_above_53 ?_
              refine g_i (y := nI ((pu_ab T u M lim k) + 1)) (nI_add (pu_ab T u M lim k) 1) ?_
              refine lv_goto (tgt := 59) hx hb dX7_above_54 (by decide) ?_
              refine lv_istore (lv' := [(4, .int (nI ((pu_ab T u M lim k) + 1))), (0, .ref (ad 92)), (1, .int (nI u)), (2, .long lim), (5, .int (nI k))]) hx hb dX7_above_59 hl (by decide) rfl (fun ls hl => ?_)
              refine lv_iinc (v := nI (k + 1)) (lv' := [(5, .int (nI (k + 1))), (4, .int (nI ((pu_ab T u M lim k) + 1))), (0, .ref (ad 92)), (1, .int (nI u)), (2, .long lim)]) hx hb dX7_above_61 hl (k := 4) rfl (nI_1 _) (by decide) rfl (fun ls hl => ?_)
              refine lv_goto (tgt := 6) hx hb dX7_above_64 (by decide) ?_
              have e9 : pu_ab T u M lim (k + 1) = pu_ab T u M lim k + 1 := by
                rw [pu_ab_c, if_pos ⟨by by_cases q : M k = true; exact q; rw [if_neg q] at c20; exact absurd rfl c20, b35, pu_cmp_gt c47⟩]
              rw [← e9] at hl
              exact ih6 (k + 1) (by omega) (by omega) ls (lv_sub hl [2, 3, 4, 1, 0] rfl)
  exact lp6 17 0 (by omega) (by omega) ls (lv_sub hl [2, 3, 4, 1, 0] rfl)
