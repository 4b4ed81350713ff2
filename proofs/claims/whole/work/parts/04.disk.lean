set_option maxHeartbeats 4000000 in
set_option maxRecDepth 100000 in
/-- Disk.mix -/
theorem c_X0_mix (l : Launch) (h x : Int32) : Met l yX0_mix wsX0_mix ({ frames := 0, cells := 0, slots := 0, locals := 0 } : Room) (va_Pc [.int h, .int x] (fun _ => True)) (vp_Si (fun r => pu_mix h x = r)) 0 0 gN := by
  refine g_of0 (by decide) rfl (Nat.le_of_ble_eq_true rfl) ?_
  intro p e s m below meth c hcx hr hlocks ls hl
  obtain ⟨hx, hb, hml, hown, hts⟩ := id hcx
  have hl : lv_has ls 3 [(0, .int h), (1, .int x)] := hl
  refine lv_iload_n hx hb dX0_mix_0 rfl (lv_at hl 0 rfl) ?_
  refine lv_iload_n hx hb dX0_mix_1 rfl (lv_at hl 1 rfl) ?_
  refine lv_ixor hx hb dX0_mix_2 ?_
  refine lv_ldc hx hb (v := 668265263) hown (hts (.constant RX0 46 (668265263)) (by decide +kernel)) dX0_mix_3 ?_
  refine lv_imul hx hb dX0_mix_5 ?_
  refine lv_ldc hx hb (v := 374761393) hown (hts (.constant RX0 47 (374761393)) (by decide +kernel)) dX0_mix_6 ?_
  refine lv_iadd hx hb dX0_mix_8 ?_
  refine lv_istore_n (lv' := [(2, .int (((h ^^^ x) * 668265263) + 374761393)), (0, .int h), (1, .int x)]) hx hb dX0_mix_9 rfl hl (by decide) rfl (fun ls hl => ?_)
  refine lv_iload_n hx hb dX0_mix_10 rfl (lv_at hl 0 rfl) ?_
  refine lv_iload_n hx hb dX0_mix_11 rfl (lv_at hl 0 rfl) ?_
  refine lv_bipush (v := 15) hx hb dX0_mix_12 (by decide) ?_
  refine lv_iushr (v := ((((h ^^^ x) * 668265263) + 374761393).toUInt32 >>> ((15 : Int32).toUInt32 &&& Int32.toUInt32 31)).toInt32) hx hb dX0_mix_14 rfl ?_
  refine lv_ixor hx hb dX0_mix_15 ?_
  exact g_riS hx hb hr hlocks rfl dX0_mix_16

set_option maxHeartbeats 4000000 in
set_option maxRecDepth 100000 in
/-- Disk.checkOf: of any row -/
theorem c_X0_checkOf (l : Launch) (ra : Nat) (cA : ClassId) (N : Nat) (f : Nat → Int32) (st cnt : Nat) (sd : Int32) (hc : st + cnt ≤ N) (hNH : N < 2 ^ 31) : Met l yX0_checkOf wsX0_checkOf ({ frames := 1, cells := 0, slots := 0, locals := 22 } : Room) (va_Pc [.ref ra, .int (nI st), .int (nI cnt), .int sd] (gH ra cA N f)) (vp_Si (fun r => pu_chk (fun j => f (st + j)) sd cnt ||| 1 = r)) 0 0 gN := by
  refine g_ofH (by decide) rfl (Nat.le_of_ble_eq_true rfl) ?_
  intro p e s m below meth c hcx hr hlocks h1H h2H ls hl
  obtain ⟨hx, hb, hml, hown, hts⟩ := id hcx
  have hl : lv_has ls 6 [(0, .ref ra), (1, .int (nI st)), (2, .int (nI cnt)), (3, .int sd)] := hl
  have hcm : cnt < 2 ^ 31 := by omega
  refine lv_iload_n hx hb dX0_checkOf_0 rfl (lv_at hl 3 rfl) ?_
  refine lv_istore (lv' := [(4, .int sd), (0, .ref ra), (1, .int (nI st)), (2, .int (nI cnt)), (3, .int sd)]) hx hb dX0_checkOf_1 hl (by decide) rfl (fun ls hl => ?_)
  refine lv_iconst (v := 0) hx hb dX0_checkOf_3 (by decide) ?_
  refine lv_istore (lv' := [(5, .int 0), (4, .int sd), (0, .ref ra), (1, .int (nI st)), (2, .int (nI cnt)), (3, .int sd)]) hx hb dX0_checkOf_4 hl (by decide) rfl (fun ls hl => ?_)
  have lp6 : ∀ (n : Nat) (k : Nat), (k ≤ cnt) → (cnt + 1 ≤ k + n) → ∀ ls : Array Slot, lv_has ls 6 [(0, .ref ra), (1, .int (nI st)), (2, .int (nI cnt)), (3, .int sd), (4, .int (pu_chk (fun j => f (st + j)) sd k)), (5, .int (nI k))] → W p l e (headSpec wsX0_checkOf ({ frames := 1, cells := 0, slots := 0, locals := 22 } : Room)).room s m ([.ref ra, .int (nI st), .int (nI cnt), .int sd] : List Value).toArray below meth c s.heap [] 0 0 (MQ below (vp_Si (fun r => pu_chk (fun j => f (st + j)) sd cnt ||| 1 = r)) ([.ref ra, .int (nI st), .int (nI cnt), .int sd] : List Value).toArray s 0 0 gN) (F0 m 6 ls []) := by
    intro n
    induction n with
    | zero =>
      intro k hk hn ls hl
      exact absurd hn (by omega)
    | succ n ih6 =>
      intro k hk hn ls hl
      refine lv_iload hx hb dX0_checkOf_6 (lv_at hl 5 rfl) ?_
      refine lv_iload_n hx hb dX0_checkOf_8 rfl (lv_at hl 2 rfl) ?_
      refine lv_icmp_ge (tgt := 31) hx hb dX0_checkOf_9 (by decide) (fun c9 => ?_) (fun c9 => ?_)
      · -- 9: jumps
        have b9 := g_le (a := cnt) (b := k) c9 (by omega) (by omega)
        refine lv_iload hx hb dX0_checkOf_31 (lv_at hl 4 rfl) ?_
        refine lv_iconst (v := 1) hx hb dX0_checkOf_33 (by decide) ?_
        refine lv_ior hx hb dX0_checkOf_34 ?_
        exact g_riS hx hb hr hlocks (by rw [show cnt = k by omega]) dX0_checkOf_35
      · -- 9: goes on
        have b9 := g_nle (a := cnt) (b := k) c9 (by omega) (by omega)
        refine lv_iload hx hb dX0_checkOf_12 (lv_at hl 4 rfl) ?_
        refine lv_aload_n hx hb dX0_checkOf_14 rfl (lv_at hl 0 rfl) ?_
        refine lv_iload_n hx hb dX0_checkOf_15 rfl (lv_at hl 1 rfl) ?_
        refine lv_iload hx hb dX0_checkOf_16 (lv_at hl 5 rfl) ?_
        refine lv_iadd hx hb dX0_checkOf_18 ?_
        refine g_i (y := nI (st + k)) (nI_add st k) ?_
        refine g_ialdH hx hb h1H h2H (st + k) rfl (by omega) hNH dX0_checkOf_19 ?_
        refine g_si (va_runS (As := [.int (pu_chk (fun j => f (st + j)) sd k), .int (f (st + k))]) (rest := []) hcx (c_X0_mix l (pu_chk (fun j => f (st + j)) sd k) (f (st + k))) (va_cwS 2 hts gX0_checkOf_X0_mix rfl rfl rfl (by decide +kernel) ⟨Nat.le_of_ble_eq_true rfl, Nat.le_of_ble_eq_true rfl⟩) (g_p0) rfl rfl hl.1 rfl (lv_room (Nat.le_of_ble_eq_true rfl)) dX0_checkOf_20 ⟨Nat.le_refl _, Nat.le_refl _⟩) (fun r_20 hw_20 => ?_)
        subst hw_20
        refine lv_istore (lv' := [(4, .int (pu_mix (pu_chk (fun j => f (st + j)) sd k) (f (st + k)))), (0, .ref ra), (1, .int (nI st)), (2, .int (nI cnt)), (3, .int sd), (5, .int (nI k))]) hx hb dX0_checkOf_23 hl (by decide) rfl (fun ls hl => ?_)
        refine lv_iinc (v := nI (k + 1)) (lv' := [(5, .int (nI (k + 1))), (4, .int (pu_mix (pu_chk (fun j => f (st + j)) sd k) (f (st + k)))), (0, .ref ra), (1, .int (nI st)), (2, .int (nI cnt)), (3, .int sd)]) hx hb dX0_checkOf_25 hl (k := 5) rfl (nI_1 _) (by decide) rfl (fun ls hl => ?_)
        refine lv_goto (tgt := 6) hx hb dX0_checkOf_28 (by decide) ?_
        exact ih6 (k + 1) (by omega) (by omega) ls (lv_sub hl [2, 3, 4, 5, 1, 0] rfl)
  exact lp6 (cnt + 1) 0 (by omega) (by omega) ls (lv_sub hl [2, 3, 4, 5, 1, 0] rfl)

set_option maxHeartbeats 4000000 in
set_option maxRecDepth 100000 in
/-- Disk.isPowered -/
theorem c_X0_isPowered (l : Launch) (D : va_G) (ad : Nat → Nat) (tc : Nat → ClassId) (I : Mi) (L : Ml) (hp : I 1 1 = 0 ∨ I 1 1 = 1) : Met l yX0_isPowered wsX0_isPowered ({ frames := 0, cells := 0, slots := 0, locals := 0 } : Room) (va_Pc [.ref (ad 1)] (gPc D ad tc I L)) (vp_Si (fun r => I 1 1 = r)) 0 0 gN := by
  refine g_of (by decide) rfl (Nat.le_of_ble_eq_true rfl) ?_
  intro p e s m below meth c hcx hr hlocks hK hG ls hl
  obtain ⟨hx, hb, hml, hown, hts⟩ := id hcx
  have hl : lv_has ls 1 [(0, .ref (ad 1))] := hl
  refine lv_aload_n hx hb dX0_isPowered_0 rfl (lv_at hl 0 rfl) ?_
  refine g_get (v := .int (I 1 1)) hx hb hts (by decide +kernel) hown hK hG 1 (by decide) gc_1 rfl 1 (by decide) (hts (.fieldLink RX0 13 "NeighbourScores$Disk" "powered" "Z") (by decide +kernel)) (fun _ h9 => h9) rfl dX0_isPowered_1 ?_
  exact g_rzS hx hb hr hlocks hp rfl dX0_isPowered_4

set_option maxHeartbeats 4000000 in
set_option maxRecDepth 100000 in
/-- Disk.failAfter -/
theorem c_X0_failAfter (l : Launch) (D : va_G) (ad : Nat → Nat) (tc : Nat → ClassId) (I : Mi) (L : Ml) (x : Int32) : Met l yX0_failAfter wsX0_failAfter ({ frames := 0, cells := 0, slots := 0, locals := 0 } : Room) (va_Pc [.ref (ad 1), .int x] (gPc D ad tc I L)) (gQv D ad tc (fun I1 L1 => gU I 1 2 x I1 ∧ L = L1)) 0 0 (gA ad) := by
  refine g_of (by decide) rfl (Nat.le_of_ble_eq_true rfl) ?_
  intro p e s m below meth c hcx hr hlocks hK hG ls hl
  obtain ⟨hx, hb, hml, hown, hts⟩ := id hcx
  have hl : lv_has ls 2 [(0, .ref (ad 1)), (1, .int x)] := hl
  refine lv_aload_n hx hb dX0_failAfter_0 rfl (lv_at hl 0 rfl) ?_
  refine lv_iload_n hx hb dX0_failAfter_1 rfl (lv_at hl 1 rfl) ?_
  refine g_put (ty := .int) hx hb hts (by decide +kernel) tyX0 tyX0_ok nmX0 hown hK hG 1 (by decide) gc_1 rfl 2 (by decide) (hts (.fieldLink RX0 17 "NeighbourScores$Disk" "wordsToFailure" "I") (by decide +kernel)) (fun _ h9 => h9) rfl (by decide +kernel) rfl rfl (Nat.le_of_ble_eq_true rfl) (by rw [gc_1]; rfl) dX0_failAfter_2 (fun I_2 H locs hU_2 hG => ?_)
  exact g_rv hx hb hr hlocks hG ⟨hU_2, rfl⟩ dX0_failAfter_5

set_option maxHeartbeats 4000000 in
set_option maxRecDepth 100000 in
/-- Disk.switchOn -/
theorem c_X0_switchOn (l : Launch) (D : va_G) (ad : Nat → Nat) (tc : Nat → ClassId) (I : Mi) (L : Ml)  : Met l yX0_switchOn wsX0_switchOn ({ frames := 0, cells := 0, slots := 0, locals := 0 } : Room) (va_Pc [.ref (ad 1)] (gPc D ad tc I L)) (gQv D ad tc (fun I1 L1 => I1 1 1 = 1 ∧ I1 1 2 = -1 ∧ (∀ a, a ≠ 1 → I1 a = I a) ∧ L = L1)) 0 0 (gA ad) := by
  refine g_of (by decide) rfl (Nat.le_of_ble_eq_true rfl) ?_
  intro p e s m below meth c hcx hr hlocks hK hG ls hl
  obtain ⟨hx, hb, hml, hown, hts⟩ := id hcx
  have hl : lv_has ls 1 [(0, .ref (ad 1))] := hl
  refine lv_aload_n hx hb dX0_switchOn_0 rfl (lv_at hl 0 rfl) ?_
  refine lv_iconst (v := 1) hx hb dX0_switchOn_1 (by decide) ?_
  refine g_put (ty := .boolean) hx hb hts (by decide +kernel) tyX0 tyX0_ok nmX0 hown hK hG 1 (by decide) gc_1 rfl 1 (by decide) (hts (.fieldLink RX0 13 "NeighbourScores$Disk" "powered" "Z") (by decide +kernel)) (fun _ h9 => h9) rfl (by decide +kernel) rfl rfl (Nat.le_of_ble_eq_true rfl) (by rw [gc_1]; rfl) dX0_switchOn_2 (fun I_2 H locs hU_2 hG => ?_)
  refine lv_aload_n hx hb dX0_switchOn_5 rfl (lv_at hl 0 rfl) ?_
  refine lv_iconst (v := -1) hx hb dX0_switchOn_6 (by decide) ?_
  refine g_put (ty := .int) hx hb hts (by decide +kernel) tyX0 tyX0_ok nmX0 hown hK hG 1 (by decide) gc_1 rfl 2 (by decide) (hts (.fieldLink RX0 17 "NeighbourScores$Disk" "wordsToFailure" "I") (by decide +kernel)) (fun _ h9 => h9) rfl (by decide +kernel) rfl rfl (Nat.le_of_ble_eq_true rfl) (by rw [gc_1]; rfl) dX0_switchOn_7 (fun I_7 H locs hU_7 hG => ?_)
  exact g_rv hx hb hr hlocks hG ⟨by rw [hU_7.1, hU_2.1]; rfl, by rw [hU_7.1]; rfl, fun a ha => (hU_7.2 a ha).trans (hU_2.2 a ha), rfl⟩ dX0_switchOn_10

set_option maxHeartbeats 4000000 in
set_option maxRecDepth 100000 in
/-- Disk.has -/
theorem c_X0_has (l : Launch) (D : va_G) (ad : Nat → Nat) (tc : Nat → ClassId) (I : Mi) (L : Ml) (a : Int32) : Met l yX0_has wsX0_has ({ frames := 0, cells := 0, slots := 0, locals := 0 } : Room) (va_Pc [.ref (ad 1), .int a] (gPc D ad tc I L)) (vp_Si (fun r => (gR a 172 ∧ 1 = r) ∨ (¬ gR a 172 ∧ 0 = r))) 0 0 gN := by
  refine g_of (by decide) rfl (Nat.le_of_ble_eq_true rfl) ?_
  intro p e s m below meth c hcx hr hlocks hK hG ls hl
  obtain ⟨hx, hb, hml, hown, hts⟩ := id hcx
  have hl : lv_has ls 2 [(0, .ref (ad 1)), (1, .int a)] := hl
  refine lv_iload_n hx hb dX0_has_0 rfl (lv_at hl 1 rfl) ?_
  refine lv_if_lt (tgt := 15) hx hb dX0_has_1 (by decide) (fun c1 => ?_) (fun c1 => ?_)
  · -- 1: jumps
    refine lv_iconst (v := 0) hx hb dX0_has_15 (by decide) ?_
    exact g_rzS hx hb hr hlocks (Or.inl rfl) (by first | exact Or.inl ⟨gR_of (by decide) c1 c8, rfl⟩ | exact Or.inr ⟨gR_neg (by decide) c1, rfl⟩ | exact Or.inr ⟨gR_big (by decide) c8, rfl⟩) dX0_has_16
  · -- 1: goes on
    refine lv_iload_n hx hb dX0_has_4 rfl (lv_at hl 1 rfl) ?_
    refine lv_sipush (v := 172) hx hb dX0_has_5 (by decide) ?_
    refine lv_icmp_ge (tgt := 15) hx hb dX0_has_8 (by decide) (fun c8 => ?_) (fun c8 => ?_)
    · -- 8: jumps
      refine lv_iconst (v := 0) hx hb dX0_has_15 (by decide) ?_
      exact g_rzS hx hb hr hlocks (Or.inl rfl) (by first | exact Or.inl ⟨gR_of (by decide) c1 c8, rfl⟩ | exact Or.inr ⟨gR_neg (by decide) c1, rfl⟩ | exact Or.inr ⟨gR_big (by decide) c8, rfl⟩) dX0_has_16
    · -- 8: goes on
      refine lv_iconst (v := 1) hx hb dX0_has_11 (by decide) ?_
      refine lv_goto (tgt := 16) hx hb dX0_has_12 (by decide) ?_
      exact g_rzS hx hb hr hlocks (Or.inr rfl) (by first | exact Or.inl ⟨gR_of (by decide) c1 c8, rfl⟩ | exact Or.inr ⟨gR_neg (by decide) c1, rfl⟩ | exact Or.inr ⟨gR_big (by decide) c8, rfl⟩) dX0_has_16

set_option maxHeartbeats 4000000 in
set_option maxRecDepth 100000 in
/-- Disk.at -/
theorem c_X0_at (l : Launch) (D : va_G) (ad : Nat → Nat) (tc : Nat → ClassId) (I : Mi) (L : Ml) (a : Int32) : Met l yX0_at wsX0_at ({ frames := 1, cells := 0, slots := 0, locals := 21 } : Room) (va_Pc [.ref (ad 1), .int a] (gPc D ad tc I L)) (vp_Si (fun r => pu_at (I 2) a = r)) 0 0 gN := by
  refine g_of (by decide) rfl (Nat.le_of_ble_eq_true rfl) ?_
  intro p e s m below meth c hcx hr hlocks hK hG ls hl
  obtain ⟨hx, hb, hml, hown, hts⟩ := id hcx
  have hl : lv_has ls 2 [(0, .ref (ad 1)), (1, .int a)] := hl
  refine lv_aload_n hx hb dX0_at_0 rfl (lv_at hl 0 rfl) ?_
  refine lv_iload_n hx hb dX0_at_1 rfl (lv_at hl 1 rfl) ?_
  refine g_si (va_runV (As := [.int a]) (rest := []) hcx (c_X0_has l D ad tc I L a) (cwV 1 hts gX0_at_X0_has rfl rfl rfl (by decide +kernel) ⟨Nat.le_of_ble_eq_true rfl, Nat.le_of_ble_eq_true rfl⟩) (g_pV hK hG 1 (by decide) gc_1 rfl) rfl rfl hl.1 rfl (lv_room (Nat.le_of_ble_eq_true rfl)) dX0_at_2 ⟨Nat.le_refl _, Nat.le_refl _⟩) (fun r_2 hw_2 => ?_)
  rcases hw_2 with ⟨hw_2, rfl⟩ | ⟨hw_2, rfl⟩
  · -- 2: yes
    refine lv_if_eq (tgt := 17) hx hb dX0_at_5 (by decide) (fun c5 => absurd c5 (by decide)) (fun _ => ?_)
    obtain ⟨j, hj, rfl⟩ := hw_2
    refine lv_aload_n hx hb dX0_at_8 rfl (lv_at hl 0 rfl) ?_
    refine g_get (v := .ref (ad 2)) hx hb hts (by decide +kernel) hown hK hG 1 (by decide) gc_1 rfl 0 (by decide) (hts (.fieldLink RX0 9 "NeighbourScores$Disk" "words" "[I") (by decide +kernel)) (fun _ h9 => h9) rfl dX0_at_9 ?_
    refine lv_iload_n hx hb dX0_at_12 rfl (lv_at hl 1 rfl) ?_
    refine g_iald hx hb hK hG 2 (by decide) gc_2 j rfl (by omega) (by omega) dX0_at_13 ?_
    refine lv_goto (tgt := 18) hx hb dX0_at_14 (by decide) ?_
    exact g_riS hx hb hr hlocks (by first | exact pu_at_in hj | exact pu_at_out hw_2) dX0_at_18
  · -- 2: no
    refine lv_if_eq (tgt := 17) hx hb dX0_at_5 (by decide) (fun _ => ?_) (fun c5 => absurd (by decide) c5)
    refine lv_iconst (v := 0) hx hb dX0_at_17 (by decide) ?_
    exact g_riS hx hb hr hlocks (by first | exact pu_at_in hj | exact pu_at_out hw_2) dX0_at_18

set_option maxHeartbeats 4000000 in
set_option maxRecDepth 100000 in
/-- Disk.put -/
theorem c_X0_put (l : Launch) (D : va_G) (ad : Nat → Nat) (tc : Nat → ClassId) (I : Mi) (L : Ml) (a x : Int32) : Met l yX0_put wsX0_put ({ frames := 1, cells := 0, slots := 0, locals := 21 } : Room) (va_Pc [.ref (ad 1), .int a, .int x] (gPc D ad tc I L)) (gQi D ad tc (fun r I1 L1 => pu_putP I a x r I1 ∧ L = L1)) 0 0 (gA ad) := by
  refine g_of (by decide) rfl (Nat.le_of_ble_eq_true rfl) ?_
  intro p e s m below meth c hcx hr hlocks hK hG ls hl
  obtain ⟨hx, hb, hml, hown, hts⟩ := id hcx
  have hl : lv_has ls 3 [(0, .ref (ad 1)), (1, .int a), (2, .int x)] := hl
  refine lv_aload_n hx hb dX0_put_0 rfl (lv_at hl 0 rfl) ?_
  refine lv_iload_n hx hb dX0_put_1 rfl (lv_at hl 1 rfl) ?_
  refine g_si (va_runV (As := [.int a]) (rest := []) hcx (c_X0_has l D ad tc I L a) (cwV 1 hts gX0_put_X0_has rfl rfl rfl (by decide +kernel) ⟨Nat.le_of_ble_eq_true rfl, Nat.le_of_ble_eq_true rfl⟩) (g_pV hK hG 1 (by decide) gc_1 rfl) rfl rfl hl.1 rfl (lv_room (Nat.le_of_ble_eq_true rfl)) dX0_put_2 ⟨Nat.le_refl _, Nat.le_refl _⟩) (fun r_2 hw_2 => ?_)
  rcases hw_2 with ⟨hw_2, rfl⟩ | ⟨hw_2, rfl⟩
  · -- 2: yes
    refine lv_if_ne (tgt := 10) hx hb dX0_put_5 (by decide) (fun _ => ?_) (fun c5 => absurd c5 (by decide))
    obtain ⟨j, hj, rfl⟩ := hw_2
    refine lv_aload_n hx hb dX0_put_10 rfl (lv_at hl 0 rfl) ?_
    refine g_get (v := .ref (ad 2)) hx hb hts (by decide +kernel) hown hK hG 1 (by decide) gc_1 rfl 0 (by decide) (hts (.fieldLink RX0 9 "NeighbourScores$Disk" "words" "[I") (by decide +kernel)) (fun _ h9 => h9) rfl dX0_put_11 ?_
    refine lv_iload_n hx hb dX0_put_14 rfl (lv_at hl 1 rfl) ?_
    refine lv_iload_n hx hb dX0_put_15 rfl (lv_at hl 2 rfl) ?_
    refine g_iast hx hb hK hG 2 (by decide) (fun _ => gc_2) j rfl (by omega) (by omega) dX0_put_16 (fun I_16 H locs hU_16 hG => ?_)
    refine lv_iconst (v := 1) hx hb dX0_put_17 (by decide) ?_
    exact g_rz hx hb hr hlocks (Or.inr rfl) hG ⟨Or.inl ⟨j, hj, rfl, hU_16, rfl⟩, rfl⟩ dX0_put_18
  · -- 2: no
    refine lv_if_ne (tgt := 10) hx hb dX0_put_5 (by decide) (fun c5 => absurd (by decide) c5) (fun _ => ?_)
    refine lv_iconst (v := 0) hx hb dX0_put_8 (by decide) ?_
    exact g_rz hx hb hr hlocks (Or.inl rfl) hG ⟨Or.inr ⟨hw_2, rfl, rfl⟩, rfl⟩ dX0_put_9

set_option maxHeartbeats 4000000 in
set_option maxRecDepth 100000 in
/-- Disk.writeWord, in range, with power -/
theorem c_X0_writeWord (l : Launch) (D : va_G) (ad : Nat → Nat) (tc : Nat → ClassId) (I : Mi) (L : Ml) (j : Nat) (hj : j < 172) (x : Int32) (h1 : I 1 1 = 1) : Met l yX0_writeWord wsX0_writeWord ({ frames := 2, cells := 0, slots := 0, locals := 43 } : Room) (va_Pc [.ref (ad 1), .int (nI j), .int x] (gPc D ad tc I L)) (gQi D ad tc (fun r I1 L1 => pu_put (dkN I) j x = dkN I1 ∧ I1 1 1 = r ∧ (r = 0 ∨ r = 1) ∧ (∀ a, a ≠ 1 → a ≠ 2 → I1 a = I a) ∧ L = L1)) 0 0 (gA ad) := by
  refine g_of (by decide) rfl (Nat.le_of_ble_eq_true rfl) ?_
  intro p e s m below meth c hcx hr hlocks hK hG ls hl
  obtain ⟨hx, hb, hml, hown, hts⟩ := id hcx
  have hl : lv_has ls 3 [(0, .ref (ad 1)), (1, .int (nI j)), (2, .int x)] := hl
  refine lv_aload_n hx hb dX0_writeWord_0 rfl (lv_at hl 0 rfl) ?_
  refine g_get (v := .int (I 1 2)) hx hb hts (by decide +kernel) hown hK hG 1 (by decide) gc_1 rfl 2 (by decide) (hts (.fieldLink RX0 17 "NeighbourScores$Disk" "wordsToFailure" "I") (by decide +kernel)) (fun _ h9 => h9) rfl dX0_writeWord_1 ?_
  refine lv_if_ne (tgt := 14) hx hb dX0_writeWord_4 (by decide) (fun c4 => ?_) (fun c4 => ?_)
  · -- 4: jumps
    refine lv_aload_n hx hb dX0_writeWord_14 rfl (lv_at hl 0 rfl) ?_
    refine g_get (v := .int (I 1 2)) hx hb hts (by decide +kernel) hown hK hG 1 (by decide) gc_1 rfl 2 (by decide) (hts (.fieldLink RX0 17 "NeighbourScores$Disk" "wordsToFailure" "I") (by decide +kernel)) (fun _ h9 => h9) rfl dX0_writeWord_15 ?_
    refine lv_if_le (tgt := 31) hx hb dX0_writeWord_18 (by decide) (fun c18 => ?_) (fun c18 => ?_)
    · -- 18: jumps
      refine lv_aload_n hx hb dX0_writeWord_31 rfl (lv_at hl 0 rfl) ?_
      refine lv_iload_n hx hb dX0_writeWord_32 rfl (lv_at hl 1 rfl) ?_
      refine lv_iload_n hx hb dX0_writeWord_33 rfl (lv_at hl 2 rfl) ?_
      refine g_ci (va_runV (As := [.int (nI j), .int x]) (rest := []) hcx (c_X0_put l D ad tc I L (nI j) x) (cwV 2 hts gX0_writeWord_X0_put rfl rfl rfl (by decide +kernel) ⟨Nat.le_of_ble_eq_true rfl, Nat.le_of_ble_eq_true rfl⟩) (g_pV hK hG 1 (by decide) gc_1 rfl) rfl rfl hl.1 rfl (lv_room (Nat.le_of_ble_eq_true rfl)) dX0_writeWord_34 ⟨Nat.le_refl _, Nat.le_refl _⟩) hK hG (fun r_34 I_34 L_34 H locs hw_34 hG => ?_)
      obtain ⟨hw_34, rfl⟩ := hw_34
      obtain ⟨hU_34, rfl⟩ := pu_putin hj hw_34
      exact g_rz hx hb hr hlocks (Or.inr rfl) hG (by first | exact ⟨pu_put_on h1 c4 c18 hU_34, by rw [hU_34.2 1 (by decide)]; exact h1, Or.inr rfl, fun a q1 q2 => hU_34.2 a q2, rfl⟩ | exact ⟨pu_put_dec h1 c4 c18 hU_28 hU_34, by rw [hU_34.2 1 (by decide), hU_28.1]; exact h1, Or.inr rfl, fun a q1 q2 => (hU_34.2 a q2).trans (hU_28.2 a q1), rfl⟩) dX0_writeWord_37
    · -- 18: goes on
      refine lv_aload_n hx hb dX0_writeWord_21 rfl (lv_at hl 0 rfl) ?_
      refine lv_dup hx hb dX0_writeWord_22 rfl ?_
      refine g_get (v := .int (I 1 2)) hx hb hts (by decide +kernel) hown hK hG 1 (by decide) gc_1 rfl 2 (by decide) (hts (.fieldLink RX0 17 "NeighbourScores$Disk" "wordsToFailure" "I") (by decide +kernel)) (fun _ h9 => h9) rfl dX0_writeWord_23 ?_
      refine lv_iconst (v := 1) hx hb dX0_writeWord_26 (by decide) ?_
      refine lv_isub hx hb dX0_writeWord_27 ?_
      refine g_put (ty := .int) hx hb hts (by decide +kernel) tyX0 tyX0_ok nmX0 hown hK hG 1 (by decide) gc_1 rfl 2 (by decide) (hts (.fieldLink RX0 17 "NeighbourScores$Disk" "wordsToFailure" "I") (by decide +kernel)) (fun _ h9 => h9) rfl (by decide +kernel) rfl rfl (Nat.le_of_ble_eq_true rfl) (by rw [gc_1]; rfl) dX0_writeWord_28 (fun I_28 H locs hU_28 hG => ?_)
      refine lv_aload_n hx hb dX0_writeWord_31 rfl (lv_at hl 0 rfl) ?_
      refine lv_iload_n hx hb dX0_writeWord_32 rfl (lv_at hl 1 rfl) ?_
      refine lv_iload_n hx hb dX0_writeWord_33 rfl (lv_at hl 2 rfl) ?_
      refine g_ci (va_runV (As := [.int (nI j), .int x]) (rest := []) hcx (c_X0_put l D ad tc I_28 L (nI j) x) (cwV 2 hts gX0_writeWord_X0_put rfl rfl rfl (by decide +kernel) ⟨Nat.le_of_ble_eq_true rfl, Nat.le_of_ble_eq_true rfl⟩) (g_pV hK hG 1 (by decide) gc_1 rfl) rfl rfl hl.1 rfl (lv_room (Nat.le_of_ble_eq_true rfl)) dX0_writeWord_34 ⟨Nat.le_refl _, Nat.le_refl _⟩) hK hG (fun r_34 I_34 L_34 H locs hw_34 hG => ?_)
      obtain ⟨hw_34, rfl⟩ := hw_34
      obtain ⟨hU_34, rfl⟩ := pu_putin hj hw_34
      exact g_rz hx hb hr hlocks (Or.inr rfl) hG (by first | exact ⟨pu_put_on h1 c4 c18 hU_34, by rw [hU_34.2 1 (by decide)]; exact h1, Or.inr rfl, fun a q1 q2 => hU_34.2 a q2, rfl⟩ | exact ⟨pu_put_dec h1 c4 c18 hU_28 hU_34, by rw [hU_34.2 1 (by decide), hU_28.1]; exact h1, Or.inr rfl, fun a q1 q2 => (hU_34.2 a q2).trans (hU_28.2 a q1), rfl⟩) dX0_writeWord_37
  · -- 4: goes on
    refine lv_aload_n hx hb dX0_writeWord_7 rfl (lv_at hl 0 rfl) ?_
    refine lv_iconst (v := 0) hx hb dX0_writeWord_8 (by decide) ?_
    refine g_put (ty := .boolean) hx hb hts (by decide +kernel) tyX0 tyX0_ok nmX0 hown hK hG 1 (by decide) gc_1 rfl 1 (by decide) (hts (.fieldLink RX0 13 "NeighbourScores$Disk" "powered" "Z") (by decide +kernel)) (fun _ h9 => h9) rfl (by decide +kernel) rfl rfl (Nat.le_of_ble_eq_true rfl) (by rw [gc_1]; rfl) dX0_writeWord_9 (fun I_9 H locs hU_9 hG => ?_)
    refine lv_iconst (v := 0) hx hb dX0_writeWord_12 (by decide) ?_
    exact g_rz hx hb hr hlocks (Or.inl rfl) hG ⟨pu_put_off h1 c4 hU_9, by rw [hU_9.1]; rfl, Or.inl rfl, fun a q1 q2 => hU_9.2 a q1, rfl⟩ dX0_writeWord_13

set_option maxHeartbeats 4000000 in
set_option maxRecDepth 100000 in
/-- Disk.writeRow -/
theorem c_X0_writeRow (l : Launch) (D : va_G) (ad : Nat → Nat) (tc : Nat → ClassId) (I : Mi) (L : Ml) (st kr N : Nat) (hkr : kr < 98) (hk1 : kr ≠ 1) (hk2 : kr ≠ 2) (hrow : ∀ i l, gc ad tc kr i l = .inl (tc 0, N, .inl i)) (hst : st + N ≤ 172) (h1 : I 1 1 = 1) : Met l yX0_writeRow wsX0_writeRow ({ frames := 3, cells := 0, slots := 0, locals := 65 } : Room) (va_Pc [.ref (ad 1), .int (nI st), .ref (ad kr)] (gPc D ad tc I L)) (gQi D ad tc (fun r I1 L1 => pu_puts (dkN I) st (I kr) N = dkN I1 ∧ I1 1 1 = r ∧ (r = 0 ∨ r = 1) ∧ (∀ a, a ≠ 1 → a ≠ 2 → I1 a = I a) ∧ L = L1)) 0 0 (gA ad) := by
  refine g_of (by decide) rfl (Nat.le_of_ble_eq_true rfl) ?_
  intro p e s m below meth c hcx hr hlocks hK hG ls hl
  obtain ⟨hx, hb, hml, hown, hts⟩ := id hcx
  have hl : lv_has ls 4 [(0, .ref (ad 1)), (1, .int (nI st)), (2, .ref (ad kr))] := hl
  refine lv_iconst (v := 0) hx hb dX0_writeRow_0 (by decide) ?_
  refine lv_istore_n (lv' := [(3, .int 0), (0, .ref (ad 1)), (1, .int (nI st)), (2, .ref (ad kr))]) hx hb dX0_writeRow_1 rfl hl (by decide) rfl (fun ls hl => ?_)
  have lp2 : ∀ (n : Nat) (k : Nat) (I_2 : Mi) (H : Heap) (locs : List Loc), (k ≤ N) → (N + 1 ≤ k + n) → (pu_puts (dkN I) st (I kr) k = dkN I_2) → (I_2 1 1 = 1) → (∀ a, a ≠ 1 → a ≠ 2 → I_2 a = I a) → gG D ad tc (gA ad) s.heap I_2 L H locs → ∀ ls : Array Slot, lv_has ls 4 [(0, .ref (ad 1)), (1, .int (nI st)), (2, .ref (ad kr)), (3, .int (nI k))] → W p l e (headSpec wsX0_writeRow ({ frames := 3, cells := 0, slots := 0, locals := 65 } : Room)).room s m ([.ref (ad 1), .int (nI st), .ref (ad kr)] : List Value).toArray below meth c H locs 0 0 (MQ below (gQi D ad tc (fun r I1 L1 => pu_puts (dkN I) st (I kr) N = dkN I1 ∧ I1 1 1 = r ∧ (r = 0 ∨ r = 1) ∧ (∀ a, a ≠ 1 → a ≠ 2 → I1 a = I a) ∧ L = L1)) ([.ref (ad 1), .int (nI st), .ref (ad kr)] : List Value).toArray s 0 0 (gA ad)) (F0 m 2 ls []) := by
    intro n
    induction n with
    | zero =>
      intro k I_2 H locs hk hn hd h1 hf hG ls hl
      exact absurd hn (by omega)
    | succ n ih2 =>
      intro k I_2 H locs hk hn hd h1 hf hG ls hl
      refine lv_iload_n hx hb dX0_writeRow_2 rfl (lv_at hl 3 rfl) ?_
      refine lv_aload_n hx hb dX0_writeRow_3 rfl (lv_at hl 2 rfl) ?_
      refine g_alen hx hb hK hG kr 0 hkr (hrow _ _) rfl rfl dX0_writeRow_4 ?_
      refine lv_icmp_ge (tgt := 29) hx hb dX0_writeRow_5 (by decide) (fun c5 => ?_) (fun c5 => ?_)
      · -- 5: jumps
        have b5 := g_le (a := N) (b := k) c5 (by omega) (by omega)
        refine lv_iconst (v := 1) hx hb dX0_writeRow_29 (by decide) ?_
        exact g_rz hx hb hr hlocks (Or.inr rfl) hG ⟨by rw [show N = k by omega]; exact hd, h1, Or.inr rfl, hf, rfl⟩ dX0_writeRow_30
      · -- 5: goes on
        have b5 := g_nle (a := N) (b := k) c5 (by omega) (by omega)
        refine lv_aload_n hx hb dX0_writeRow_8 rfl (lv_at hl 0 rfl) ?_
        refine lv_iload_n hx hb dX0_writeRow_9 rfl (lv_at hl 1 rfl) ?_
        refine lv_iload_n hx hb dX0_writeRow_10 rfl (lv_at hl 3 rfl) ?_
        refine lv_iadd hx hb dX0_writeRow_11 ?_
        refine g_i (y := nI (st + k)) (nI_add st k) ?_
        refine lv_aload_n hx hb dX0_writeRow_12 rfl (lv_at hl 2 rfl) ?_
        refine lv_iload_n hx hb dX0_writeRow_13 rfl (lv_at hl 3 rfl) ?_
        refine g_iald hx hb hK hG kr hkr (hrow _ _) k rfl (by omega) (by omega) dX0_writeRow_14 ?_
        refine g_ci (va_runV (As := [.int (nI (st + k)), .int (I_2 kr k)]) (rest := []) hcx (c_X0_writeWord l D ad tc I_2 L (st + k) (by omega) (I_2 kr k) h1) (cwV 2 hts gX0_writeRow_X0_writeWord rfl rfl rfl (by decide +kernel) ⟨Nat.le_of_ble_eq_true rfl, Nat.le_of_ble_eq_true rfl⟩) (g_pV hK hG 1 (by decide) gc_1 rfl) rfl rfl hl.1 rfl (lv_room (Nat.le_of_ble_eq_true rfl)) dX0_writeRow_15 ⟨Nat.le_refl _, Nat.le_refl _⟩) hK hG (fun r_15 I_15 L_15 H locs hw_15 hG => ?_)
        obtain ⟨ha15, hb15, hz15, hc15, rfl⟩ := hw_15
        have hd2 : pu_puts (dkN I) st (I kr) (k + 1) = dkN I_15 := by
          show pu_put _ _ _ = _
          rw [hd, ← hf kr hk1 hk2]
          exact ha15
        have hf2 : ∀ a, a ≠ 1 → a ≠ 2 → I_15 a = I a := fun a q1 q2 => (hc15 a q1 q2).trans (hf a q1 q2)
        refine lv_if_ne (tgt := 23) hx hb dX0_writeRow_18 (by decide) (fun c18 => ?_) (fun c18 => ?_)
        · -- 18: jumps
          have hr15 : I_15 1 1 = 1 := by
            rw [hb15]
            rcases hz15 with h | h
            · exact absurd h c18
            · exact h
          refine lv_iinc (v := nI (k + 1)) (lv' := [(3, .int (nI (k + 1))), (0, .ref (ad 1)), (1, .int (nI st)), (2, .ref (ad kr))]) hx hb dX0_writeRow_23 hl (k := 3) rfl (nI_1 _) (by decide) rfl (fun ls hl => ?_)
          refine lv_goto (tgt := 2) hx hb dX0_writeRow_26 (by decide) ?_
          exact ih2 (k + 1) _ _ _ (by omega) (by omega) hd2 hr15 hf2 hG ls (lv_sub hl [1, 2, 3, 0] rfl)
        · -- 18: goes on
          refine lv_iconst (v := 0) hx hb dX0_writeRow_21 (by decide) ?_
          exact g_rz hx hb hr hlocks (Or.inl rfl) hG ⟨by rw [pu_puts_dark (n := k + 1) (by rw [hd2]; exact hb15.trans c18) N (by omega)]; exact hd2, hb15.trans c18, Or.inl rfl, hf2, rfl⟩ dX0_writeRow_22
  exact lp2 (N + 1) 0 _ _ _ (by omega) (by omega) rfl h1 (fun _ _ _ => rfl) hG ls (lv_sub hl [1, 2, 3, 0] rfl)

set_option maxHeartbeats 4000000 in
set_option maxRecDepth 100000 in
/-- Disk.isCheckRight -/
theorem c_X0_isCheckRight (l : Launch) (D : va_G) (ad : Nat → Nat) (tc : Nat → ClassId) (I : Mi) (L : Ml) (st cnt : Nat) (sd : Int32) (hst : st + cnt < 172) : Met l yX0_isCheckRight wsX0_isCheckRight ({ frames := 2, cells := 0, slots := 0, locals := 47 } : Room) (va_Pc [.ref (ad 1), .int (nI st), .int (nI cnt), .int sd] (gPc D ad tc I L)) (vp_Si (fun r => (I 2 (st + cnt) = pu_chk (fun j => I 2 (st + j)) sd cnt ||| 1 ∧ 1 = r) ∨ (¬ I 2 (st + cnt) = pu_chk (fun j => I 2 (st + j)) sd cnt ||| 1 ∧ 0 = r))) 0 0 gN := by
  refine g_of (by decide) rfl (Nat.le_of_ble_eq_true rfl) ?_
  intro p e s m below meth c hcx hr hlocks hK hG ls hl
  obtain ⟨hx, hb, hml, hown, hts⟩ := id hcx
  have hl : lv_has ls 4 [(0, .ref (ad 1)), (1, .int (nI st)), (2, .int (nI cnt)), (3, .int sd)] := hl
  refine lv_aload_n hx hb dX0_isCheckRight_0 rfl (lv_at hl 0 rfl) ?_
  refine lv_iload_n hx hb dX0_isCheckRight_1 rfl (lv_at hl 1 rfl) ?_
  refine lv_iload_n hx hb dX0_isCheckRight_2 rfl (lv_at hl 2 rfl) ?_
  refine lv_iadd hx hb dX0_isCheckRight_3 ?_
  refine g_i (y := nI (st + cnt)) (nI_add st cnt) ?_
  refine g_si (va_runV (As := [.int (nI (st + cnt))]) (rest := []) hcx (c_X0_at l D ad tc I L (nI (st + cnt))) (cwV 1 hts gX0_isCheckRight_X0_at rfl rfl rfl (by decide +kernel) ⟨Nat.le_of_ble_eq_true rfl, Nat.le_of_ble_eq_true rfl⟩) (g_pV hK hG 1 (by decide) gc_1 rfl) rfl rfl hl.1 rfl (lv_room (Nat.le_of_ble_eq_true rfl)) dX0_isCheckRight_4 ⟨Nat.le_refl _, Nat.le_refl _⟩) (fun r_4 hw_4 => ?_)
  subst hw_4
  refine g_i (y := I 2 (st + cnt)) (pu_at_in (by omega)) ?_
  refine lv_aload_n hx hb dX0_isCheckRight_7 rfl (lv_at hl 0 rfl) ?_
  refine g_get (v := .ref (ad 2)) hx hb hts (by decide +kernel) hown hK hG 1 (by decide) gc_1 rfl 0 (by decide) (hts (.fieldLink RX0 9 "NeighbourScores$Disk" "words" "[I") (by decide +kernel)) (fun _ h9 => h9) rfl dX0_isCheckRight_8 ?_
  refine lv_iload_n hx hb dX0_isCheckRight_11 rfl (lv_at hl 1 rfl) ?_
  refine lv_iload_n hx hb dX0_isCheckRight_12 rfl (lv_at hl 2 rfl) ?_
  refine lv_iload_n hx hb dX0_isCheckRight_13 rfl (lv_at hl 3 rfl) ?_
  refine g_si (va_runS (As := [.ref (ad 2), .int (nI st), .int (nI cnt), .int sd]) (rest := [.int (I 2 (st + cnt))]) hcx (c_X0_checkOf l (ad 2) (tc 0) 172 (I 2) st cnt sd (by omega) (by decide)) (va_cwS 4 hts gX0_isCheckRight_X0_checkOf rfl rfl rfl (by decide +kernel) ⟨Nat.le_of_ble_eq_true rfl, Nat.le_of_ble_eq_true rfl⟩) (g_H hK hG (by decide) gc_2) rfl rfl hl.1 rfl (lv_room (Nat.le_of_ble_eq_true rfl)) dX0_isCheckRight_14 ⟨Nat.le_refl _, Nat.le_refl _⟩) (fun r_14 hw_14 => ?_)
  subst hw_14
  refine lv_icmp_ne (tgt := 24) hx hb dX0_isCheckRight_17 (by decide) (fun c17 => ?_) (fun c17 => ?_)
  · -- 17: jumps
    refine lv_iconst (v := 0) hx hb dX0_isCheckRight_24 (by decide) ?_
    exact g_rzS hx hb hr hlocks (Or.inl rfl) (by first | exact Or.inl ⟨c17, rfl⟩ | exact Or.inr ⟨c17, rfl⟩) dX0_isCheckRight_25
  · -- 17: goes on
    refine lv_iconst (v := 1) hx hb dX0_isCheckRight_20 (by decide) ?_
    refine lv_goto (tgt := 25) hx hb dX0_isCheckRight_21 (by decide) ?_
    exact g_rzS hx hb hr hlocks (Or.inr rfl) (by first | exact Or.inl ⟨c17, rfl⟩ | exact Or.inr ⟨c17, rfl⟩) dX0_isCheckRight_25
