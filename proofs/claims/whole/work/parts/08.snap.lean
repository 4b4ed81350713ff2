set_option maxHeartbeats 4000000 in
set_option maxRecDepth 100000 in
theorem c_X6_isUser (l : Launch) (a : Int32) : Met l yX6_isUser wsX6_isUser ({ frames := 0, cells := 0, slots := 0, locals := 0 } : Room) (va_Pc [.int a] (fun _ => True)) (vp_Si (fun r => (gR a 12 ∧ 1 = r) ∨ (¬ gR a 12 ∧ 0 = r))) 0 0 gN := by
  refine g_of0 (by decide) rfl (Nat.le_of_ble_eq_true rfl) ?_
  intro p e s m below meth c hcx hr hlocks ls hl
  obtain ⟨hx, hb, hml, hown, hts⟩ := id hcx
  have hl : lv_has ls 1 [(0, .int a)] := hl
  refine lv_iload_n hx hb dX6_isUser_0 rfl (lv_at hl 0 rfl) ?_
  refine lv_if_lt (tgt := 14) hx hb dX6_isUser_1 (by decide) (fun c1 => ?_) (fun c1 => ?_)
  · -- 1: jumps
    refine lv_iconst (v := 0) hx hb dX6_isUser_14 (by decide) ?_
    exact g_rzS hx hb hr hlocks (Or.inl rfl) (by first | exact Or.inl ⟨gR_of (by decide) c1 c7, rfl⟩ | exact Or.inr ⟨gR_neg (by decide) c1, rfl⟩ | exact Or.inr ⟨gR_big (by decide) c7, rfl⟩) dX6_isUser_15
  · -- 1: goes on
    refine lv_iload_n hx hb dX6_isUser_4 rfl (lv_at hl 0 rfl) ?_
    refine lv_bipush (v := 12) hx hb dX6_isUser_5 (by decide) ?_
    refine lv_icmp_ge (tgt := 14) hx hb dX6_isUser_7 (by decide) (fun c7 => ?_) (fun c7 => ?_)
    · -- 7: jumps
      refine lv_iconst (v := 0) hx hb dX6_isUser_14 (by decide) ?_
      exact g_rzS hx hb hr hlocks (Or.inl rfl) (by first | exact Or.inl ⟨gR_of (by decide) c1 c7, rfl⟩ | exact Or.inr ⟨gR_neg (by decide) c1, rfl⟩ | exact Or.inr ⟨gR_big (by decide) c7, rfl⟩) dX6_isUser_15
    · -- 7: goes on
      refine lv_iconst (v := 1) hx hb dX6_isUser_10 (by decide) ?_
      refine lv_goto (tgt := 15) hx hb dX6_isUser_11 (by decide) ?_
      exact g_rzS hx hb hr hlocks (Or.inr rfl) (by first | exact Or.inl ⟨gR_of (by decide) c1 c7, rfl⟩ | exact Or.inr ⟨gR_neg (by decide) c1, rfl⟩ | exact Or.inr ⟨gR_big (by decide) c7, rfl⟩) dX6_isUser_15

set_option maxHeartbeats 4000000 in
set_option maxRecDepth 100000 in
theorem c_X6_isItem (l : Launch) (a : Int32) : Met l yX6_isItem wsX6_isItem ({ frames := 0, cells := 0, slots := 0, locals := 0 } : Room) (va_Pc [.int a] (fun _ => True)) (vp_Si (fun r => (gR a 16 ∧ 1 = r) ∨ (¬ gR a 16 ∧ 0 = r))) 0 0 gN := by
  refine g_of0 (by decide) rfl (Nat.le_of_ble_eq_true rfl) ?_
  intro p e s m below meth c hcx hr hlocks ls hl
  obtain ⟨hx, hb, hml, hown, hts⟩ := id hcx
  have hl : lv_has ls 1 [(0, .int a)] := hl
  refine lv_iload_n hx hb dX6_isItem_0 rfl (lv_at hl 0 rfl) ?_
  refine lv_if_lt (tgt := 14) hx hb dX6_isItem_1 (by decide) (fun c1 => ?_) (fun c1 => ?_)
  · -- 1: jumps
    refine lv_iconst (v := 0) hx hb dX6_isItem_14 (by decide) ?_
    exact g_rzS hx hb hr hlocks (Or.inl rfl) (by first | exact Or.inl ⟨gR_of (by decide) c1 c7, rfl⟩ | exact Or.inr ⟨gR_neg (by decide) c1, rfl⟩ | exact Or.inr ⟨gR_big (by decide) c7, rfl⟩) dX6_isItem_15
  · -- 1: goes on
    refine lv_iload_n hx hb dX6_isItem_4 rfl (lv_at hl 0 rfl) ?_
    refine lv_bipush (v := 16) hx hb dX6_isItem_5 (by decide) ?_
    refine lv_icmp_ge (tgt := 14) hx hb dX6_isItem_7 (by decide) (fun c7 => ?_) (fun c7 => ?_)
    · -- 7: jumps
      refine lv_iconst (v := 0) hx hb dX6_isItem_14 (by decide) ?_
      exact g_rzS hx hb hr hlocks (Or.inl rfl) (by first | exact Or.inl ⟨gR_of (by decide) c1 c7, rfl⟩ | exact Or.inr ⟨gR_neg (by decide) c1, rfl⟩ | exact Or.inr ⟨gR_big (by decide) c7, rfl⟩) dX6_isItem_15
    · -- 7: goes on
      refine lv_iconst (v := 1) hx hb dX6_isItem_10 (by decide) ?_
      refine lv_goto (tgt := 15) hx hb dX6_isItem_11 (by decide) ?_
      exact g_rzS hx hb hr hlocks (Or.inr rfl) (by first | exact Or.inl ⟨gR_of (by decide) c1 c7, rfl⟩ | exact Or.inr ⟨gR_neg (by decide) c1, rfl⟩ | exact Or.inr ⟨gR_big (by decide) c7, rfl⟩) dX6_isItem_15

set_option maxHeartbeats 4000000 in
set_option maxRecDepth 100000 in
theorem c_X5_startOf (l : Launch) (a : Nat) : Met l yX5_startOf wsX5_startOf ({ frames := 0, cells := 0, slots := 0, locals := 0 } : Room) (va_Pc [.int (nI a)] (fun _ => True)) (vp_Si (fun r => nI (26 * a) = r)) 0 0 gN := by
  refine g_of0 (by decide) rfl (Nat.le_of_ble_eq_true rfl) ?_
  intro p e s m below meth c hcx hr hlocks ls hl
  obtain ⟨hx, hb, hml, hown, hts⟩ := id hcx
  have hl : lv_has ls 1 [(0, .int (nI a))] := hl
  refine lv_bipush (v := 26) hx hb dX5_startOf_0 (by decide) ?_
  refine lv_iload_n hx hb dX5_startOf_2 rfl (lv_at hl 0 rfl) ?_
  refine lv_imul hx hb dX5_startOf_3 ?_
  refine g_i (y := nI (26 * a)) (pk_mul 26 a) ?_
  exact g_riS hx hb hr hlocks rfl dX5_startOf_4

set_option maxHeartbeats 4000000 in
set_option maxRecDepth 100000 in
theorem c_X5_placeOf (l : Launch) (a b : Nat) : Met l yX5_placeOf wsX5_placeOf ({ frames := 0, cells := 0, slots := 0, locals := 0 } : Room) (va_Pc [.int (nI a), .int (nI b)] (fun _ => True)) (vp_Si (fun r => nI (2 * a + 1 + b) = r)) 0 0 gN := by
  refine g_of0 (by decide) rfl (Nat.le_of_ble_eq_true rfl) ?_
  intro p e s m below meth c hcx hr hlocks ls hl
  obtain ⟨hx, hb, hml, hown, hts⟩ := id hcx
  have hl : lv_has ls 2 [(0, .int (nI a)), (1, .int (nI b))] := hl
  refine lv_iconst (v := 2) hx hb dX5_placeOf_0 (by decide) ?_
  refine lv_iload_n hx hb dX5_placeOf_1 rfl (lv_at hl 0 rfl) ?_
  refine lv_imul hx hb dX5_placeOf_2 ?_
  refine g_i (y := nI (2 * a)) (pk_mul 2 a) ?_
  refine lv_iconst (v := 1) hx hb dX5_placeOf_3 (by decide) ?_
  refine lv_iadd hx hb dX5_placeOf_4 ?_
  refine g_i (y := nI ((2 * a) + 1)) (nI_add (2 * a) 1) ?_
  refine lv_iload_n hx hb dX5_placeOf_5 rfl (lv_at hl 1 rfl) ?_
  refine lv_iadd hx hb dX5_placeOf_6 ?_
  refine g_i (y := nI (((2 * a) + 1) + b)) (nI_add ((2 * a) + 1) b) ?_
  exact g_riS hx hb hr hlocks rfl dX5_placeOf_7

set_option maxHeartbeats 4000000 in
set_option maxRecDepth 100000 in
theorem c_X5_isGood (l : Launch) (D : va_G) (ad : Nat → Nat) (tc : Nat → ClassId) (I : Mi) (L : Ml) (w : Nat) (hwl : w < 2) : Met l yX5_isGood wsX5_isGood ({ frames := 3, cells := 0, slots := 0, locals := 70 } : Room) (va_Pc [.ref (ad 1), .int (nI w)] (gPc D ad tc I L)) (vp_Si (fun r => (pu_good (I 2) (26 * w) = true ∧ 1 = r) ∨ (pu_good (I 2) (26 * w) = false ∧ 0 = r))) 0 0 gN := by
  refine g_of (by decide) rfl (Nat.le_of_ble_eq_true rfl) ?_
  intro p e s m below meth c hcx hr hlocks hK hG ls hl
  obtain ⟨hx, hb, hml, hown, hts⟩ := id hcx
  have hl : lv_has ls 4 [(0, .ref (ad 1)), (1, .int (nI w))] := hl
  refine lv_iload_n hx hb dX5_isGood_0 rfl (lv_at hl 1 rfl) ?_
  refine g_si (va_runS (As := [.int (nI w)]) (rest := []) hcx (c_X5_startOf l w) (va_cwS 1 hts gX5_isGood_X5_startOf rfl rfl rfl (by decide +kernel) ⟨Nat.le_of_ble_eq_true rfl, Nat.le_of_ble_eq_true rfl⟩) (g_p0) rfl rfl hl.1 rfl (lv_room (Nat.le_of_ble_eq_true rfl)) dX5_isGood_1 ⟨Nat.le_refl _, Nat.le_refl _⟩) (fun r_1 hw_1 => ?_)
  subst hw_1
  refine lv_istore_n (lv' := [(2, .int (nI (26 * w))), (0, .ref (ad 1)), (1, .int (nI w))]) hx hb dX5_isGood_4 rfl hl (by decide) rfl (fun ls hl => ?_)
  refine lv_aload_n hx hb dX5_isGood_5 rfl (lv_at hl 1 rfl) ?_
  refine lv_iload_n hx hb dX5_isGood_6 rfl (lv_at hl 0 rfl) ?_
  refine g_si (va_runV (As := [.int (nI (26 * w))]) (rest := []) hcx (c_X0_at l D ad tc I L (nI (26 * w))) (cwV 1 hts gX5_isGood_X0_at rfl rfl rfl (by decide +kernel) ⟨Nat.le_of_ble_eq_true rfl, Nat.le_of_ble_eq_true rfl⟩) (g_pV hK hG 1 (by decide) gc_1 rfl) rfl rfl hl.1 rfl (lv_room (Nat.le_of_ble_eq_true rfl)) dX5_isGood_7 ⟨Nat.le_refl _, Nat.le_refl _⟩) (fun r_7 hw_7 => ?_)
  subst hw_7
  refine g_i (y := I 2 (26 * w)) (pu_at_in (by omega)) ?_
  refine lv_istore_n (lv' := [(3, .int (I 2 (26 * w))), (2, .int (nI (26 * w))), (0, .ref (ad 1)), (1, .int (nI w))]) hx hb dX5_isGood_10 rfl hl (by decide) rfl (fun ls hl => ?_)
  refine lv_iload_n hx hb dX5_isGood_11 rfl (lv_at hl 0 rfl) ?_
  refine lv_if_lt (tgt := 36) hx hb dX5_isGood_12 (by decide) (fun c12 => ?_) (fun c12 => ?_)
  · -- 12: jumps
    refine lv_iconst (v := 0) hx hb dX5_isGood_36 (by decide) ?_
    exact g_rzS hx hb hr hlocks (Or.inl rfl) (by first | exact Or.inl ⟨pu_good_t c12 c18 hw_26, rfl⟩ | exact Or.inr ⟨pu_good_f (Or.inl c12), rfl⟩ | exact Or.inr ⟨pu_good_f (Or.inr (Or.inl c18)), rfl⟩ | exact Or.inr ⟨pu_good_f (Or.inr (Or.inr hw_26)), rfl⟩) dX5_isGood_37
  · -- 12: goes on
    refine lv_iload_n hx hb dX5_isGood_15 rfl (lv_at hl 0 rfl) ?_
    refine lv_ldc hx hb (v := 1000000000) hown (hts (.constant RX5 56 (1000000000)) (by decide +kernel)) dX5_isGood_16 ?_
    refine lv_icmp_gt (tgt := 36) hx hb dX5_isGood_18 (by decide) (fun c18 => ?_) (fun c18 => ?_)
    · -- 18: jumps
      refine lv_iconst (v := 0) hx hb dX5_isGood_36 (by decide) ?_
      exact g_rzS hx hb hr hlocks (Or.inl rfl) (by first | exact Or.inl ⟨pu_good_t c12 c18 hw_26, rfl⟩ | exact Or.inr ⟨pu_good_f (Or.inl c12), rfl⟩ | exact Or.inr ⟨pu_good_f (Or.inr (Or.inl c18)), rfl⟩ | exact Or.inr ⟨pu_good_f (Or.inr (Or.inr hw_26)), rfl⟩) dX5_isGood_37
    · -- 18: goes on
      refine lv_aload_n hx hb dX5_isGood_21 rfl (lv_at hl 2 rfl) ?_
      refine lv_iload_n hx hb dX5_isGood_22 rfl (lv_at hl 1 rfl) ?_
      refine lv_bipush (v := 25) hx hb dX5_isGood_23 (by decide) ?_
      refine lv_iconst (v := 1) hx hb dX5_isGood_25 (by decide) ?_
      refine g_si (va_runV (As := [.int (nI (26 * w)), .int 25, .int 1]) (rest := []) hcx (c_X0_isCheckRight l D ad tc I L (26 * w) 25 1 (by omega)) (cwV 3 hts gX5_isGood_X0_isCheckRight rfl rfl rfl (by decide +kernel) ⟨Nat.le_of_ble_eq_true rfl, Nat.le_of_ble_eq_true rfl⟩) (g_pV hK hG 1 (by decide) gc_1 rfl) rfl rfl hl.1 rfl (lv_room (Nat.le_of_ble_eq_true rfl)) dX5_isGood_26 ⟨Nat.le_refl _, Nat.le_refl _⟩) (fun r_26 hw_26 => ?_)
      rcases hw_26 with ⟨hw_26, rfl⟩ | ⟨hw_26, rfl⟩
      · -- 26: yes
        refine lv_if_eq (tgt := 36) hx hb dX5_isGood_29 (by decide) (fun c29 => absurd c29 (by decide)) (fun _ => ?_)
        refine lv_iconst (v := 1) hx hb dX5_isGood_32 (by decide) ?_
        refine lv_goto (tgt := 37) hx hb dX5_isGood_33 (by decide) ?_
        exact g_rzS hx hb hr hlocks (Or.inr rfl) (by first | exact Or.inl ⟨pu_good_t c12 c18 hw_26, rfl⟩ | exact Or.inr ⟨pu_good_f (Or.inl c12), rfl⟩ | exact Or.inr ⟨pu_good_f (Or.inr (Or.inl c18)), rfl⟩ | exact Or.inr ⟨pu_good_f (Or.inr (Or.inr hw_26)), rfl⟩) dX5_isGood_37
      · -- 26: no
        refine lv_if_eq (tgt := 36) hx hb dX5_isGood_29 (by decide) (fun _ => ?_) (fun c29 => absurd (by decide) c29)
        refine lv_iconst (v := 0) hx hb dX5_isGood_36 (by decide) ?_
        exact g_rzS hx hb hr hlocks (Or.inl rfl) (by first | exact Or.inl ⟨pu_good_t c12 c18 hw_26, rfl⟩ | exact Or.inr ⟨pu_good_f (Or.inl c12), rfl⟩ | exact Or.inr ⟨pu_good_f (Or.inr (Or.inl c18)), rfl⟩ | exact Or.inr ⟨pu_good_f (Or.inr (Or.inr hw_26)), rfl⟩) dX5_isGood_37

set_option maxHeartbeats 4000000 in
set_option maxRecDepth 100000 in
theorem c_X5_newest (l : Launch) (D : va_G) (ad : Nat → Nat) (tc : Nat → ClassId) (I : Mi) (L : Ml)  : Met l yX5_newest wsX5_newest ({ frames := 4, cells := 0, slots := 0, locals := 93 } : Room) (va_Pc [.ref (ad 1)] (gPc D ad tc I L)) (vp_Si (fun r => (pu_nw (I 2) = 0 ∧ 0 = r) ∨ (pu_nw (I 2) = 1 ∧ 1 = r) ∨ (pu_nw (I 2) = 2 ∧ -1 = r))) 0 0 gN := by
  refine g_of (by decide) rfl (Nat.le_of_ble_eq_true rfl) ?_
  intro p e s m below meth c hcx hr hlocks hK hG ls hl
  obtain ⟨hx, hb, hml, hown, hts⟩ := id hcx
  have hl : lv_has ls 3 [(0, .ref (ad 1))] := hl
  refine lv_aload_n hx hb dX5_newest_0 rfl (lv_at hl 0 rfl) ?_
  refine lv_iconst (v := 0) hx hb dX5_newest_1 (by decide) ?_
  refine g_si (va_runS (As := [.ref (ad 1), .int 0]) (rest := []) hcx (c_X5_isGood l D ad tc I L 0 (by omega)) (va_cwS 2 hts gX5_newest_X5_isGood rfl rfl rfl (by decide +kernel) ⟨Nat.le_of_ble_eq_true rfl, Nat.le_of_ble_eq_true rfl⟩) (g_pS hK hG) rfl rfl hl.1 rfl (lv_room (Nat.le_of_ble_eq_true rfl)) dX5_newest_2 ⟨Nat.le_refl _, Nat.le_refl _⟩) (fun r_2 hw_2 => ?_)
  rcases hw_2 with ⟨hw_2, rfl⟩ | ⟨hw_2, rfl⟩
  · -- 2: yes
    refine lv_istore_n (lv' := [(1, .int 1), (0, .ref (ad 1))]) hx hb dX5_newest_5 rfl hl (by decide) rfl (fun ls hl => ?_)
    refine lv_aload_n hx hb dX5_newest_6 rfl (lv_at hl 1 rfl) ?_
    refine lv_iconst (v := 1) hx hb dX5_newest_7 (by decide) ?_
    refine g_si (va_runS (As := [.ref (ad 1), .int 1]) (rest := []) hcx (c_X5_isGood l D ad tc I L 1 (by omega)) (va_cwS 2 hts gX5_newest_X5_isGood rfl rfl rfl (by decide +kernel) ⟨Nat.le_of_ble_eq_true rfl, Nat.le_of_ble_eq_true rfl⟩) (g_pS hK hG) rfl rfl hl.1 rfl (lv_room (Nat.le_of_ble_eq_true rfl)) dX5_newest_8 ⟨Nat.le_refl _, Nat.le_refl _⟩) (fun r_8 hw_8 => ?_)
    rcases hw_8 with ⟨hw_8, rfl⟩ | ⟨hw_8, rfl⟩
    · -- 8: yes
      refine lv_istore_n (lv' := [(2, .int 1), (1, .int 1), (0, .ref (ad 1))]) hx hb dX5_newest_11 rfl hl (by decide) rfl (fun ls hl => ?_)
      refine lv_iload_n hx hb dX5_newest_12 rfl (lv_at hl 1 rfl) ?_
      refine lv_if_eq (tgt := 45) hx hb dX5_newest_13 (by decide) (fun c13 => absurd c13 (by decide)) (fun _ => ?_)
      refine lv_iload_n hx hb dX5_newest_16 rfl (lv_at hl 0 rfl) ?_
      refine lv_if_eq (tgt := 45) hx hb dX5_newest_17 (by decide) (fun c17 => absurd c17 (by decide)) (fun _ => ?_)
      refine lv_aload_n hx hb dX5_newest_20 rfl (lv_at hl 2 rfl) ?_
      refine lv_iconst (v := 1) hx hb dX5_newest_21 (by decide) ?_
      refine g_si (va_runS (As := [.int 1]) (rest := [.ref (ad 1)]) hcx (c_X5_startOf l 1) (va_cwS 1 hts gX5_newest_X5_startOf rfl rfl rfl (by decide +kernel) ⟨Nat.le_of_ble_eq_true rfl, Nat.le_of_ble_eq_true rfl⟩) (g_p0) rfl rfl hl.1 rfl (lv_room (Nat.le_of_ble_eq_true rfl)) dX5_newest_22 ⟨Nat.le_refl _, Nat.le_refl _⟩) (fun r_22 hw_22 => ?_)
      subst hw_22
      refine g_si (va_runV (As := [.int (nI (26 * 1))]) (rest := []) hcx (c_X0_at l D ad tc I L (nI (26 * 1))) (cwV 1 hts gX5_newest_X0_at rfl rfl rfl (by decide +kernel) ⟨Nat.le_of_ble_eq_true rfl, Nat.le_of_ble_eq_true rfl⟩) (g_pV hK hG 1 (by decide) gc_1 rfl) rfl rfl hl.1 rfl (lv_room (Nat.le_of_ble_eq_true rfl)) dX5_newest_25 ⟨Nat.le_refl _, Nat.le_refl _⟩) (fun r_25 hw_25 => ?_)
      subst hw_25
      refine g_i (y := I 2 26) (pu_at_in (j := 26) (by decide)) ?_
      refine lv_aload_n hx hb dX5_newest_28 rfl (lv_at hl 2 rfl) ?_
      refine lv_iconst (v := 0) hx hb dX5_newest_29 (by decide) ?_
      refine g_si (va_runS (As := [.int 0]) (rest := [.ref (ad 1), .int (I 2 26)]) hcx (c_X5_startOf l 0) (va_cwS 1 hts gX5_newest_X5_startOf rfl rfl rfl (by decide +kernel) ⟨Nat.le_of_ble_eq_true rfl, Nat.le_of_ble_eq_true rfl⟩) (g_p0) rfl rfl hl.1 rfl (lv_room (Nat.le_of_ble_eq_true rfl)) dX5_newest_30 ⟨Nat.le_refl _, Nat.le_refl _⟩) (fun r_30 hw_30 => ?_)
      subst hw_30
      refine g_si (va_runV (As := [.int (nI (26 * 0))]) (rest := [.int (I 2 26)]) hcx (c_X0_at l D ad tc I L (nI (26 * 0))) (cwV 1 hts gX5_newest_X0_at rfl rfl rfl (by decide +kernel) ⟨Nat.le_of_ble_eq_true rfl, Nat.le_of_ble_eq_true rfl⟩) (g_pV hK hG 1 (by decide) gc_1 rfl) rfl rfl hl.1 rfl (lv_room (Nat.le_of_ble_eq_true rfl)) dX5_newest_33 ⟨Nat.le_refl _, Nat.le_refl _⟩) (fun r_33 hw_33 => ?_)
      subst hw_33
      refine g_i (y := I 2 0) (pu_at_in (j := 0) (by decide)) ?_
      refine lv_icmp_le (tgt := 43) hx hb dX5_newest_36 (by decide) (fun c36 => ?_) (fun c36 => ?_)
      · -- 36: jumps
        refine lv_iconst (v := 0) hx hb dX5_newest_43 (by decide) ?_
        exact g_riS hx hb hr hlocks (Or.inl ⟨by simp [pu_nw, show pu_good (I 2) 0 = _ from hw_2, show pu_good (I 2) 26 = _ from hw_8, (Int32.not_lt.mpr c36)], rfl⟩) dX5_newest_44
      · -- 36: goes on
        refine lv_iconst (v := 1) hx hb dX5_newest_39 (by decide) ?_
        refine lv_goto (tgt := 44) hx hb dX5_newest_40 (by decide) ?_
        exact g_riS hx hb hr hlocks (Or.inr (Or.inl ⟨by simp [pu_nw, show pu_good (I 2) 0 = _ from hw_2, show pu_good (I 2) 26 = _ from hw_8, pu_nle c36], rfl⟩)) dX5_newest_44
    · -- 8: no
      refine lv_istore_n (lv' := [(2, .int 0), (1, .int 1), (0, .ref (ad 1))]) hx hb dX5_newest_11 rfl hl (by decide) rfl (fun ls hl => ?_)
      refine lv_iload_n hx hb dX5_newest_12 rfl (lv_at hl 1 rfl) ?_
      refine lv_if_eq (tgt := 45) hx hb dX5_newest_13 (by decide) (fun c13 => absurd c13 (by decide)) (fun _ => ?_)
      refine lv_iload_n hx hb dX5_newest_16 rfl (lv_at hl 0 rfl) ?_
      refine lv_if_eq (tgt := 45) hx hb dX5_newest_17 (by decide) (fun _ => ?_) (fun c17 => absurd (by decide) c17)
      refine lv_iload_n hx hb dX5_newest_45 rfl (lv_at hl 1 rfl) ?_
      refine lv_if_eq (tgt := 51) hx hb dX5_newest_46 (by decide) (fun c46 => absurd c46 (by decide)) (fun _ => ?_)
      refine lv_iconst (v := 0) hx hb dX5_newest_49 (by decide) ?_
      exact g_riS hx hb hr hlocks (Or.inl ⟨by simp [pu_nw, show pu_good (I 2) 0 = _ from hw_2, show pu_good (I 2) 26 = _ from hw_8], rfl⟩) dX5_newest_50
  · -- 2: no
    refine lv_istore_n (lv' := [(1, .int 0), (0, .ref (ad 1))]) hx hb dX5_newest_5 rfl hl (by decide) rfl (fun ls hl => ?_)
    refine lv_aload_n hx hb dX5_newest_6 rfl (lv_at hl 1 rfl) ?_
    refine lv_iconst (v := 1) hx hb dX5_newest_7 (by decide) ?_
    refine g_si (va_runS (As := [.ref (ad 1), .int 1]) (rest := []) hcx (c_X5_isGood l D ad tc I L 1 (by omega)) (va_cwS 2 hts gX5_newest_X5_isGood rfl rfl rfl (by decide +kernel) ⟨Nat.le_of_ble_eq_true rfl, Nat.le_of_ble_eq_true rfl⟩) (g_pS hK hG) rfl rfl hl.1 rfl (lv_room (Nat.le_of_ble_eq_true rfl)) dX5_newest_8 ⟨Nat.le_refl _, Nat.le_refl _⟩) (fun r_8 hw_8 => ?_)
    rcases hw_8 with ⟨hw_8, rfl⟩ | ⟨hw_8, rfl⟩
    · -- 8: yes
      refine lv_istore_n (lv' := [(2, .int 1), (1, .int 0), (0, .ref (ad 1))]) hx hb dX5_newest_11 rfl hl (by decide) rfl (fun ls hl => ?_)
      refine lv_iload_n hx hb dX5_newest_12 rfl (lv_at hl 1 rfl) ?_
      refine lv_if_eq (tgt := 45) hx hb dX5_newest_13 (by decide) (fun _ => ?_) (fun c13 => absurd (by decide) c13)
      refine lv_iload_n hx hb dX5_newest_45 rfl (lv_at hl 1 rfl) ?_
      refine lv_if_eq (tgt := 51) hx hb dX5_newest_46 (by decide) (fun _ => ?_) (fun c46 => absurd (by decide) c46)
      refine lv_iload_n hx hb dX5_newest_51 rfl (lv_at hl 0 rfl) ?_
      refine lv_if_eq (tgt := 59) hx hb dX5_newest_52 (by decide) (fun c52 => absurd c52 (by decide)) (fun _ => ?_)
      refine lv_iconst (v := 1) hx hb dX5_newest_55 (by decide) ?_
      refine lv_goto (tgt := 60) hx hb dX5_newest_56 (by decide) ?_
      exact g_riS hx hb hr hlocks (Or.inr (Or.inl ⟨by simp [pu_nw, show pu_good (I 2) 0 = _ from hw_2, show pu_good (I 2) 26 = _ from hw_8], rfl⟩)) dX5_newest_60
    · -- 8: no
      refine lv_istore_n (lv' := [(2, .int 0), (1, .int 0), (0, .ref (ad 1))]) hx hb dX5_newest_11 rfl hl (by decide) rfl (fun ls hl => ?_)
      refine lv_iload_n hx hb dX5_newest_12 rfl (lv_at hl 1 rfl) ?_
      refine lv_if_eq (tgt := 45) hx hb dX5_newest_13 (by decide) (fun _ => ?_) (fun c13 => absurd (by decide) c13)
      refine lv_iload_n hx hb dX5_newest_45 rfl (lv_at hl 1 rfl) ?_
      refine lv_if_eq (tgt := 51) hx hb dX5_newest_46 (by decide) (fun _ => ?_) (fun c46 => absurd (by decide) c46)
      refine lv_iload_n hx hb dX5_newest_51 rfl (lv_at hl 0 rfl) ?_
      refine lv_if_eq (tgt := 59) hx hb dX5_newest_52 (by decide) (fun _ => ?_) (fun c52 => absurd (by decide) c52)
      refine lv_iconst (v := -1) hx hb dX5_newest_59 (by decide) ?_
      exact g_riS hx hb hr hlocks (Or.inr (Or.inr ⟨by simp [pu_nw, show pu_good (I 2) 0 = _ from hw_2, show pu_good (I 2) 26 = _ from hw_8], rfl⟩)) dX5_newest_60

set_option maxHeartbeats 4000000 in
set_option maxRecDepth 100000 in
theorem c_X5_writeOverOlder (l : Launch) (D : va_G) (ad : Nat → Nat) (tc : Nat → ClassId) (I : Mi) (L : Ml) (T : Tb) (hT : pN I T) (num : Int32) (h1 : I 1 1 = 1) : Met l yX5_writeOverOlder wsX5_writeOverOlder ({ frames := 5, cells := 0, slots := 0, locals := 115 } : Room) (va_Pc [.ref (ad 3), .ref (ad 1), .int num, .ref (ad 7)] (gPc D ad tc I L)) (gQi D ad tc (fun r I1 L1 => pu_puts (dkN I) (26 * pu_wo (I 2)) (pu_row num T) 26 = dkN I1 ∧ I1 1 1 = r ∧ (r = 0 ∨ r = 1) ∧ (∀ a, a ≠ 1 → a ≠ 2 → a ≠ 4 → I1 a = I a) ∧ L = L1)) 0 0 (gA ad) := by
  refine g_of (by decide) rfl (Nat.le_of_ble_eq_true rfl) ?_
  intro p e s m below meth c hcx hr hlocks hK hG ls hl
  obtain ⟨hx, hb, hml, hown, hts⟩ := id hcx
  have hl : lv_has ls 6 [(0, .ref (ad 3)), (1, .ref (ad 1)), (2, .int num), (3, .ref (ad 7))] := hl
  refine lv_aload_n hx hb dX5_writeOverOlder_0 rfl (lv_at hl 0 rfl) ?_
  refine g_get (v := .ref (ad 4)) hx hb hts (by decide +kernel) hown hK hG 3 (by decide) gc_3 rfl 0 (by decide) (hts (.fieldLink RX5 11 "NeighbourScores$Snapshots" "row" "[I") (by decide +kernel)) (fun _ h9 => h9) rfl dX5_writeOverOlder_1 ?_
  refine lv_iconst (v := 0) hx hb dX5_writeOverOlder_4 (by decide) ?_
  refine lv_iload_n hx hb dX5_writeOverOlder_5 rfl (lv_at hl 2 rfl) ?_
  refine g_iast hx hb hK hG 4 (by decide) (fun _ => gc_4) 0 rfl (by omega) (by omega) dX5_writeOverOlder_6 (fun I_6 H locs hU_6 hG => ?_)
  refine lv_iconst (v := 0) hx hb dX5_writeOverOlder_7 (by decide) ?_
  refine lv_istore (lv' := [(4, .int 0), (0, .ref (ad 3)), (1, .ref (ad 1)), (2, .int num), (3, .ref (ad 7))]) hx hb dX5_writeOverOlder_8 hl (by decide) rfl (fun ls hl => ?_)
  have lp10 : ∀ (n : Nat) (u : Nat) (I_10 : Mi) (H : Heap) (locs : List Loc), (u ≤ 12) → (13 ≤ u + n) → (∀ j, j < 2 * u + 1 → I_10 4 j = pu_row0 num T j) → (∀ a, a ≠ 4 → I_10 a = I a) → gG D ad tc (gA ad) s.heap I_10 L H locs → ∀ ls : Array Slot, lv_has ls 6 [(0, .ref (ad 3)), (1, .ref (ad 1)), (2, .int num), (3, .ref (ad 7)), (4, .int (nI u))] → W p l e (headSpec wsX5_writeOverOlder ({ frames := 5, cells := 0, slots := 0, locals := 115 } : Room)).room s m ([.ref (ad 3), .ref (ad 1), .int num, .ref (ad 7)] : List Value).toArray below meth c H locs 0 0 (MQ below (gQi D ad tc (fun r I1 L1 => pu_puts (dkN I) (26 * pu_wo (I 2)) (pu_row num T) 26 = dkN I1 ∧ I1 1 1 = r ∧ (r = 0 ∨ r = 1) ∧ (∀ a, a ≠ 1 → a ≠ 2 → a ≠ 4 → I1 a = I a) ∧ L = L1)) ([.ref (ad 3), .ref (ad 1), .int num, .ref (ad 7)] : List Value).toArray s 0 0 (gA ad)) (F0 m 10 ls []) := by
    intro n
    induction n with
    | zero =>
      intro u I_10 H locs hu hn hrw hf hG ls hl
      exact absurd hn (by omega)
    | succ n ih10 =>
      intro u I_10 H locs hu hn hrw hf hG ls hl
      refine lv_iload hx hb dX5_writeOverOlder_10 (lv_at hl 4 rfl) ?_
      refine lv_bipush (v := 12) hx hb dX5_writeOverOlder_12 (by decide) ?_
      refine lv_icmp_ge (tgt := 58) hx hb dX5_writeOverOlder_14 (by decide) (fun c14 => ?_) (fun c14 => ?_)
      · -- 14: jumps
        have b14 := g_le (a := 12) (b := u) c14 (by omega) (by omega)
        refine lv_aload_n hx hb dX5_writeOverOlder_58 rfl (lv_at hl 0 rfl) ?_
        refine g_get (v := .ref (ad 4)) hx hb hts (by decide +kernel) hown hK hG 3 (by decide) gc_3 rfl 0 (by decide) (hts (.fieldLink RX5 11 "NeighbourScores$Snapshots" "row" "[I") (by decide +kernel)) (fun _ h9 => h9) rfl dX5_writeOverOlder_59 ?_
        refine lv_bipush (v := 25) hx hb dX5_writeOverOlder_62 (by decide) ?_
        refine lv_aload_n hx hb dX5_writeOverOlder_64 rfl (lv_at hl 0 rfl) ?_
        refine g_get (v := .ref (ad 4)) hx hb hts (by decide +kernel) hown hK hG 3 (by decide) gc_3 rfl 0 (by decide) (hts (.fieldLink RX5 11 "NeighbourScores$Snapshots" "row" "[I") (by decide +kernel)) (fun _ h9 => h9) rfl dX5_writeOverOlder_65 ?_
        refine lv_iconst (v := 0) hx hb dX5_writeOverOlder_68 (by decide) ?_
        refine lv_bipush (v := 25) hx hb dX5_writeOverOlder_69 (by decide) ?_
        refine lv_iconst (v := 1) hx hb dX5_writeOverOlder_71 (by decide) ?_
        refine g_si (va_runS (As := [.ref (ad 4), .int 0, .int 25, .int 1]) (rest := [.int 25, .ref (ad 4)]) hcx (c_X0_checkOf l (ad 4) (tc 0) 26 (I_10 4) 0 25 1 (by omega) (by decide)) (va_cwS 4 hts gX5_writeOverOlder_X0_checkOf rfl rfl rfl (by decide +kernel) ⟨Nat.le_of_ble_eq_true rfl, Nat.le_of_ble_eq_true rfl⟩) (g_H hK hG (by decide) gc_4) rfl rfl hl.1 rfl (lv_room (Nat.le_of_ble_eq_true rfl)) dX5_writeOverOlder_72 ⟨Nat.le_refl _, Nat.le_refl _⟩) (fun r_72 hw_72 => ?_)
        subst hw_72
        refine g_iast hx hb hK hG 4 (by decide) (fun _ => gc_4) 25 rfl (by omega) (by omega) dX5_writeOverOlder_75 (fun I_75 H locs hU_75 hG => ?_)
        have hd75 : dkN I_75 = dkN I := by unfold dkN; rw [hU_75.2 2 (by decide), hU_75.2 1 (by decide), hf 2 (by decide), hf 1 (by decide)]
        have h2 : I_75 2 = I 2 := by rw [hU_75.2 2 (by decide), hf 2 (by decide)]
        have h101 : I_75 1 1 = 1 := by rw [hU_75.2 1 (by decide), hf 1 (by decide)]; exact h1
        have hu12 : u = 12 := by omega
        have hrow : ∀ j, j < 26 → I_75 4 j = pu_row num T j := by
          intro j hj
          unfold pu_row
          by_cases e : j = 25
          · subst e
            rw [if_pos rfl, gU_eq hU_75]
            exact congrArg (fun z => z ||| 1) (pu_chk_congr (fun i hi => by rw [show 0 + i = i by omega]; exact hrw i (by omega)))
          · rw [if_neg e, gU_ne hU_75 e]
            exact hrw j (by omega)
        refine lv_aload_n hx hb dX5_writeOverOlder_76 rfl (lv_at hl 1 rfl) ?_
        refine g_si (va_runS (As := [.ref (ad 1)]) (rest := []) hcx (c_X5_newest l D ad tc I_75 L ) (va_cwS 1 hts gX5_writeOverOlder_X5_newest rfl rfl rfl (by decide +kernel) ⟨Nat.le_of_ble_eq_true rfl, Nat.le_of_ble_eq_true rfl⟩) (g_pS hK hG) rfl rfl hl.1 rfl (lv_room (Nat.le_of_ble_eq_true rfl)) dX5_writeOverOlder_77 ⟨Nat.le_refl _, Nat.le_refl _⟩) (fun r_77 hw_77 => ?_)
        rcases hw_77 with ⟨hw_77, rfl⟩ | ⟨hw_77, rfl⟩ | ⟨hw_77, rfl⟩
        · -- 77: first
          refine lv_iconst (v := 1) hx hb dX5_writeOverOlder_80 (by decide) ?_
          refine lv_icmp_ne (tgt := 88) hx hb dX5_writeOverOlder_81 (by decide) (fun _ => ?_) (fun c81 => absurd c81 (by decide))
          refine lv_iconst (v := 1) hx hb dX5_writeOverOlder_88 (by decide) ?_
          refine lv_istore (lv' := [(4, .int 1), (0, .ref (ad 3)), (1, .ref (ad 1)), (2, .int num), (3, .ref (ad 7))]) hx hb dX5_writeOverOlder_89 hl (by decide) rfl (fun ls hl => ?_)
          refine lv_aload_n hx hb dX5_writeOverOlder_91 rfl (lv_at hl 2 rfl) ?_
          refine lv_iload hx hb dX5_writeOverOlder_92 (lv_at hl 0 rfl) ?_
          refine g_si (va_runS (As := [.int 1]) (rest := [.ref (ad 1)]) hcx (c_X5_startOf l 1) (va_cwS 1 hts gX5_writeOverOlder_X5_startOf rfl rfl rfl (by decide +kernel) ⟨Nat.le_of_ble_eq_true rfl, Nat.le_of_ble_eq_true rfl⟩) (g_p0) rfl rfl hl.1 rfl (lv_room (Nat.le_of_ble_eq_true rfl)) dX5_writeOverOlder_94 ⟨Nat.le_refl _, Nat.le_refl _⟩) (fun r_94 hw_94 => ?_)
          subst hw_94
          refine lv_aload_n hx hb dX5_writeOverOlder_97 rfl (lv_at hl 1 rfl) ?_
          refine g_get (v := .ref (ad 4)) hx hb hts (by decide +kernel) hown hK hG 3 (by decide) gc_3 rfl 0 (by decide) (hts (.fieldLink RX5 11 "NeighbourScores$Snapshots" "row" "[I") (by decide +kernel)) (fun _ h9 => h9) rfl dX5_writeOverOlder_98 ?_
          refine g_ci (va_runV (As := [.int (nI (26 * 1)), .ref (ad 4)]) (rest := []) hcx (c_X0_writeRow l D ad tc I_75 L (26 * 1) 4 26 (by decide) (by decide) (by decide) (fun _ _ => gc_4) (by omega) h101) (cwV 2 hts gX5_writeOverOlder_X0_writeRow rfl rfl rfl (by decide +kernel) ⟨Nat.le_of_ble_eq_true rfl, Nat.le_of_ble_eq_true rfl⟩) (g_pV hK hG 1 (by decide) gc_1 rfl) rfl rfl hl.1 rfl (lv_room (Nat.le_of_ble_eq_true rfl)) dX5_writeOverOlder_101 ⟨Nat.le_refl _, Nat.le_refl _⟩) hK hG (fun r_101 I_101 L_101 H locs hw_101 hG => ?_)
          obtain ⟨ha, hb2, hz, hc, rfl⟩ := hw_101
          exact g_rz hx hb hr hlocks hz hG ⟨by rw [show pu_wo (I 2) = _ from pu_woE (h2 ▸ hw_77), ← hd75, ← ha]; exact pu_puts_congr (fun j hj => (hrow j hj).symm), hb2, hz, fun a q1 q2 q4 => (hc a q1 q2).trans ((hU_75.2 a q4).trans (hf a q4)), rfl⟩ dX5_writeOverOlder_104
        · -- 77: second
          refine lv_iconst (v := 1) hx hb dX5_writeOverOlder_80 (by decide) ?_
          refine lv_icmp_ne (tgt := 88) hx hb dX5_writeOverOlder_81 (by decide) (fun c81 => absurd (by decide) c81) (fun _ => ?_)
          refine lv_iconst (v := 0) hx hb dX5_writeOverOlder_84 (by decide) ?_
          refine lv_goto (tgt := 89) hx hb dX5_writeOverOlder_85 (by decide) ?_
          refine lv_istore (lv' := [(4, .int 0), (0, .ref (ad 3)), (1, .ref (ad 1)), (2, .int num), (3, .ref (ad 7))]) hx hb dX5_writeOverOlder_89 hl (by decide) rfl (fun ls hl => ?_)
          refine lv_aload_n hx hb dX5_writeOverOlder_91 rfl (lv_at hl 2 rfl) ?_
          refine lv_iload hx hb dX5_writeOverOlder_92 (lv_at hl 0 rfl) ?_
          refine g_si (va_runS (As := [.int 0]) (rest := [.ref (ad 1)]) hcx (c_X5_startOf l 0) (va_cwS 1 hts gX5_writeOverOlder_X5_startOf rfl rfl rfl (by decide +kernel) ⟨Nat.le_of_ble_eq_true rfl, Nat.le_of_ble_eq_true rfl⟩) (g_p0) rfl rfl hl.1 rfl (lv_room (Nat.le_of_ble_eq_true rfl)) dX5_writeOverOlder_94 ⟨Nat.le_refl _, Nat.le_refl _⟩) (fun r_94 hw_94 => ?_)
          subst hw_94
          refine lv_aload_n hx hb dX5_writeOverOlder_97 rfl (lv_at hl 1 rfl) ?_
          refine g_get (v := .ref (ad 4)) hx hb hts (by decide +kernel) hown hK hG 3 (by decide) gc_3 rfl 0 (by decide) (hts (.fieldLink RX5 11 "NeighbourScores$Snapshots" "row" "[I") (by decide +kernel)) (fun _ h9 => h9) rfl dX5_writeOverOlder_98 ?_
          refine g_ci (va_runV (As := [.int (nI (26 * 0)), .ref (ad 4)]) (rest := []) hcx (c_X0_writeRow l D ad tc I_75 L (26 * 0) 4 26 (by decide) (by decide) (by decide) (fun _ _ => gc_4) (by omega) h101) (cwV 2 hts gX5_writeOverOlder_X0_writeRow rfl rfl rfl (by decide +kernel) ⟨Nat.le_of_ble_eq_true rfl, Nat.le_of_ble_eq_true rfl⟩) (g_pV hK hG 1 (by decide) gc_1 rfl) rfl rfl hl.1 rfl (lv_room (Nat.le_of_ble_eq_true rfl)) dX5_writeOverOlder_101 ⟨Nat.le_refl _, Nat.le_refl _⟩) hK hG (fun r_101 I_101 L_101 H locs hw_101 hG => ?_)
          obtain ⟨ha, hb2, hz, hc, rfl⟩ := hw_101
          exact g_rz hx hb hr hlocks hz hG ⟨by rw [show pu_wo (I 2) = _ from pu_woE (h2 ▸ hw_77), ← hd75, ← ha]; exact pu_puts_congr (fun j hj => (hrow j hj).symm), hb2, hz, fun a q1 q2 q4 => (hc a q1 q2).trans ((hU_75.2 a q4).trans (hf a q4)), rfl⟩ dX5_writeOverOlder_104
        · -- 77: none
          refine lv_iconst (v := 1) hx hb dX5_writeOverOlder_80 (by decide) ?_
          refine lv_icmp_ne (tgt := 88) hx hb dX5_writeOverOlder_81 (by decide) (fun _ => ?_) (fun c81 => absurd c81 (by decide))
          refine lv_iconst (v := 1) hx hb dX5_writeOverOlder_88 (by decide) ?_
          refine lv_istore (lv' := [(4, .int 1), (0, .ref (ad 3)), (1, .ref (ad 1)), (2, .int num), (3, .ref (ad 7))]) hx hb dX5_writeOverOlder_89 hl (by decide) rfl (fun ls hl => ?_)
          refine lv_aload_n hx hb dX5_writeOverOlder_91 rfl (lv_at hl 2 rfl) ?_
          refine lv_iload hx hb dX5_writeOverOlder_92 (lv_at hl 0 rfl) ?_
          refine g_si (va_runS (As := [.int 1]) (rest := [.ref (ad 1)]) hcx (c_X5_startOf l 1) (va_cwS 1 hts gX5_writeOverOlder_X5_startOf rfl rfl rfl (by decide +kernel) ⟨Nat.le_of_ble_eq_true rfl, Nat.le_of_ble_eq_true rfl⟩) (g_p0) rfl rfl hl.1 rfl (lv_room (Nat.le_of_ble_eq_true rfl)) dX5_writeOverOlder_94 ⟨Nat.le_refl _, Nat.le_refl _⟩) (fun r_94 hw_94 => ?_)
          subst hw_94
          refine lv_aload_n hx hb dX5_writeOverOlder_97 rfl (lv_at hl 1 rfl) ?_
          refine g_get (v := .ref (ad 4)) hx hb hts (by decide +kernel) hown hK hG 3 (by decide) gc_3 rfl 0 (by decide) (hts (.fieldLink RX5 11 "NeighbourScores$Snapshots" "row" "[I") (by decide +kernel)) (fun _ h9 => h9) rfl dX5_writeOverOlder_98 ?_
          refine g_ci (va_runV (As := [.int (nI (26 * 1)), .ref (ad 4)]) (rest := []) hcx (c_X0_writeRow l D ad tc I_75 L (26 * 1) 4 26 (by decide) (by decide) (by decide) (fun _ _ => gc_4) (by omega) h101) (cwV 2 hts gX5_writeOverOlder_X0_writeRow rfl rfl rfl (by decide +kernel) ⟨Nat.le_of_ble_eq_true rfl, Nat.le_of_ble_eq_true rfl⟩) (g_pV hK hG 1 (by decide) gc_1 rfl) rfl rfl hl.1 rfl (lv_room (Nat.le_of_ble_eq_true rfl)) dX5_writeOverOlder_101 ⟨Nat.le_refl _, Nat.le_refl _⟩) hK hG (fun r_101 I_101 L_101 H locs hw_101 hG => ?_)
          obtain ⟨ha, hb2, hz, hc, rfl⟩ := hw_101
          exact g_rz hx hb hr hlocks hz hG ⟨by rw [show pu_wo (I 2) = _ from pu_woE (h2 ▸ hw_77), ← hd75, ← ha]; exact pu_puts_congr (fun j hj => (hrow j hj).symm), hb2, hz, fun a q1 q2 q4 => (hc a q1 q2).trans ((hU_75.2 a q4).trans (hf a q4)), rfl⟩ dX5_writeOverOlder_104
      · -- 14: goes on
        have b14 := g_nle (a := 12) (b := u) c14 (by omega) (by omega)
        refine lv_iconst (v := 0) hx hb dX5_writeOverOlder_17 (by decide) ?_
        refine lv_istore (lv' := [(5, .int 0), (0, .ref (ad 3)), (1, .ref (ad 1)), (2, .int num), (3, .ref (ad 7)), (4, .int (nI u))]) hx hb dX5_writeOverOlder_18 hl (by decide) rfl (fun ls hl => ?_)
        have lp20 : ∀ (n : Nat) (half : Nat) (I_20 : Mi) (H : Heap) (locs : List Loc), (half ≤ 2) → (3 ≤ half + n) → (∀ j, j < 2 * u + 1 + half → I_20 4 j = pu_row0 num T j) → (∀ a, a ≠ 4 → I_20 a = I a) → gG D ad tc (gA ad) s.heap I_20 L H locs → ∀ ls : Array Slot, lv_has ls 6 [(0, .ref (ad 3)), (1, .ref (ad 1)), (2, .int num), (3, .ref (ad 7)), (4, .int (nI u)), (5, .int (nI half))] → W p l e (headSpec wsX5_writeOverOlder ({ frames := 5, cells := 0, slots := 0, locals := 115 } : Room)).room s m ([.ref (ad 3), .ref (ad 1), .int num, .ref (ad 7)] : List Value).toArray below meth c H locs 0 0 (MQ below (gQi D ad tc (fun r I1 L1 => pu_puts (dkN I) (26 * pu_wo (I 2)) (pu_row num T) 26 = dkN I1 ∧ I1 1 1 = r ∧ (r = 0 ∨ r = 1) ∧ (∀ a, a ≠ 1 → a ≠ 2 → a ≠ 4 → I1 a = I a) ∧ L = L1)) ([.ref (ad 3), .ref (ad 1), .int num, .ref (ad 7)] : List Value).toArray s 0 0 (gA ad)) (F0 m 20 ls []) := by
          intro n
          induction n with
          | zero =>
            intro half I_20 H locs hh hn2 hr2 hf2 hG ls hl
            exact absurd hn2 (by omega)
          | succ n ih20 =>
            intro half I_20 H locs hh hn2 hr2 hf2 hG ls hl
            refine lv_iload hx hb dX5_writeOverOlder_20 (lv_at hl 5 rfl) ?_
            refine lv_iconst (v := 2) hx hb dX5_writeOverOlder_22 (by decide) ?_
            refine lv_icmp_ge (tgt := 52) hx hb dX5_writeOverOlder_23 (by decide) (fun c23 => ?_) (fun c23 => ?_)
            · -- 23: jumps
              have b23 := g_le (a := 2) (b := half) c23 (by omega) (by omega)
              refine lv_iinc (v := nI (u + 1)) (lv' := [(4, .int (nI (u + 1))), (0, .ref (ad 3)), (1, .ref (ad 1)), (2, .int num), (3, .ref (ad 7)), (5, .int (nI half))]) hx hb dX5_writeOverOlder_52 hl (k := 4) rfl (nI_1 _) (by decide) rfl (fun ls hl => ?_)
              refine lv_goto (tgt := 10) hx hb dX5_writeOverOlder_55 (by decide) ?_
              exact ih10 (u + 1) _ _ _ (by omega) (by omega) (fun j hj => hr2 j (by omega)) hf2 hG ls (lv_sub hl [1, 2, 3, 4, 0] rfl)
            · -- 23: goes on
              have b23 := g_nle (a := 2) (b := half) c23 (by omega) (by omega)
              refine lv_aload_n hx hb dX5_writeOverOlder_26 rfl (lv_at hl 0 rfl) ?_
              refine g_get (v := .ref (ad 4)) hx hb hts (by decide +kernel) hown hK hG 3 (by decide) gc_3 rfl 0 (by decide) (hts (.fieldLink RX5 11 "NeighbourScores$Snapshots" "row" "[I") (by decide +kernel)) (fun _ h9 => h9) rfl dX5_writeOverOlder_27 ?_
              refine lv_iload hx hb dX5_writeOverOlder_30 (lv_at hl 4 rfl) ?_
              refine lv_iload hx hb dX5_writeOverOlder_32 (lv_at hl 5 rfl) ?_
              refine g_si (va_runS (As := [.int (nI u), .int (nI half)]) (rest := [.ref (ad 4)]) hcx (c_X5_placeOf l u half) (va_cwS 2 hts gX5_writeOverOlder_X5_placeOf rfl rfl rfl (by decide +kernel) ⟨Nat.le_of_ble_eq_true rfl, Nat.le_of_ble_eq_true rfl⟩) (g_p0) rfl rfl hl.1 rfl (lv_room (Nat.le_of_ble_eq_true rfl)) dX5_writeOverOlder_34 ⟨Nat.le_refl _, Nat.le_refl _⟩) (fun r_34 hw_34 => ?_)
              subst hw_34
              refine lv_aload_n hx hb dX5_writeOverOlder_37 rfl (lv_at hl 3 rfl) ?_
              refine lv_iload hx hb dX5_writeOverOlder_38 (lv_at hl 4 rfl) ?_
              refine lv_iload hx hb dX5_writeOverOlder_40 (lv_at hl 5 rfl) ?_
              refine g_si (va_runV (As := [.int (nI u), .int (nI half)]) (rest := [.int (nI (2 * u + 1 + half)), .ref (ad 4)]) hcx (c_X2_packed l D ad tc I_20 L T (pN_mem (fun a _ _ => hf2 a (by omega)) hT) u half (by omega) (by omega)) (cwV 2 hts gX5_writeOverOlder_X2_packed rfl rfl rfl (by decide +kernel) ⟨Nat.le_of_ble_eq_true rfl, Nat.le_of_ble_eq_true rfl⟩) (g_pV hK hG 7 (by decide) gc_7 rfl) rfl rfl hl.1 rfl (lv_room (Nat.le_of_ble_eq_true rfl)) dX5_writeOverOlder_42 ⟨Nat.le_refl _, Nat.le_refl _⟩) (fun r_42 hw_42 => ?_)
              subst hw_42
              refine g_iast hx hb hK hG 4 (by decide) (fun _ => gc_4) (2 * u + 1 + half) rfl (by omega) (by omega) dX5_writeOverOlder_45 (fun I_45 H locs hU_45 hG => ?_)
              refine lv_iinc (v := nI (half + 1)) (lv' := [(5, .int (nI (half + 1))), (0, .ref (ad 3)), (1, .ref (ad 1)), (2, .int num), (3, .ref (ad 7)), (4, .int (nI u))]) hx hb dX5_writeOverOlder_46 hl (k := 5) rfl (nI_1 _) (by decide) rfl (fun ls hl => ?_)
              refine lv_goto (tgt := 20) hx hb dX5_writeOverOlder_49 (by decide) ?_
              exact ih20 (half + 1) _ _ _ (by omega) (by omega) (fun j hj => by by_cases e : j = 2 * u + 1 + half; (rw [e, gU_eq hU_45]; exact (pu_row0_s (by omega)).symm); (rw [gU_ne hU_45 e]; exact hr2 j (by omega))) (fun a ha => (hU_45.2 a ha).trans (hf2 a ha)) hG ls (lv_sub hl [1, 2, 3, 4, 5, 0] rfl)
        exact lp20 3 0 _ _ _ (by omega) (by omega) (fun j hj => hrw j (by omega)) hf hG ls (lv_sub hl [1, 2, 3, 4, 5, 0] rfl)
  exact lp10 13 0 _ _ _ (by omega) (by omega) (fun j hj => by rw [show j = 0 by omega, gU_eq hU_6]; rfl) (fun a ha => hU_6.2 a ha) hG ls (lv_sub hl [1, 2, 3, 4, 0] rfl)
