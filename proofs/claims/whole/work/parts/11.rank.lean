set_option maxHeartbeats 4000000 in
set_option maxRecDepth 100000 in
theorem c_X1_clear (l : Launch) (D : va_G) (ad : Nat → Nat) (tc : Nat → ClassId) (I : Mi) (L : Ml) (q : Nat) (hq : q < 17)  : Met l yX1_clear wsX1_clear ({ frames := 0, cells := 0, slots := 0, locals := 0 } : Room) (va_Pc [.ref (ad (41 + 3 * q))] (gPc D ad tc I L)) (gQv D ad tc (fun I1 L1 => gU I (41 + 3 * q) 2 0 I1 ∧ L = L1)) 0 0 (gA ad) := by
  refine g_of (by decide) rfl (Nat.le_of_ble_eq_true rfl) ?_
  intro p e s m below meth c hcx hr hlocks hK hG ls hl
  obtain ⟨hx, hb, hml, hown, hts⟩ := id hcx
  have hl : lv_has ls 1 [(0, .ref (ad (41 + 3 * q)))] := hl
  refine lv_aload_n hx hb dX1_clear_0 rfl (lv_at hl 0 rfl) ?_
  refine lv_iconst (v := 0) hx hb dX1_clear_1 (by decide) ?_
  refine g_put (ty := .int) hx hb hts (by decide +kernel) tyX1 tyX1_ok nmX1 hown hK hG (41 + 3 * q) (by omega) (gc_rk (q := q) (by omega)) rfl 2 (by decide) (hts (.fieldLink RX1 19 "NeighbourScores$Ranking" "size" "I") (by decide +kernel)) (fun _ h9 => h9) rfl (by decide +kernel) rfl rfl (Nat.le_of_ble_eq_true rfl) (by rw [(gc_rk (q := q) (by omega))]; rfl) dX1_clear_2 (fun I_2 H locs hU_2 hG => ?_)
  exact g_rv hx hb hr hlocks hG ⟨hU_2, rfl⟩ dX1_clear_5

set_option maxHeartbeats 4000000 in
set_option maxRecDepth 100000 in
theorem c_X1_has (l : Launch) (D : va_G) (ad : Nat → Nat) (tc : Nat → ClassId) (I : Mi) (L : Ml) (q : Nat) (hq : q < 17) (a : Int32) (k : Nat) (hk : k ≤ 16) (hs : I (41 + 3 * q) 2 = nI k) : Met l yX1_has wsX1_has ({ frames := 0, cells := 0, slots := 0, locals := 0 } : Room) (va_Pc [.ref (ad (41 + 3 * q)), .int a] (gPc D ad tc I L)) (vp_Si (fun r => (gR a k ∧ 1 = r) ∨ (¬ gR a k ∧ 0 = r))) 0 0 gN := by
  refine g_of (by decide) rfl (Nat.le_of_ble_eq_true rfl) ?_
  intro p e s m below meth c hcx hr hlocks hK hG ls hl
  obtain ⟨hx, hb, hml, hown, hts⟩ := id hcx
  have hl : lv_has ls 2 [(0, .ref (ad (41 + 3 * q))), (1, .int a)] := hl
  refine lv_iload_n hx hb dX1_has_0 rfl (lv_at hl 1 rfl) ?_
  refine lv_if_lt (tgt := 16) hx hb dX1_has_1 (by decide) (fun c1 => ?_) (fun c1 => ?_)
  · -- 1: jumps
    refine lv_iconst (v := 0) hx hb dX1_has_16 (by decide) ?_
    exact g_rzS hx hb hr hlocks (Or.inl rfl) (by first | exact Or.inl ⟨gR_of (by omega) c1 c9, rfl⟩ | exact Or.inr ⟨gR_neg (by omega) c1, rfl⟩ | exact Or.inr ⟨gR_big (by omega) c9, rfl⟩) dX1_has_17
  · -- 1: goes on
    refine lv_iload_n hx hb dX1_has_4 rfl (lv_at hl 1 rfl) ?_
    refine lv_aload_n hx hb dX1_has_5 rfl (lv_at hl 0 rfl) ?_
    refine g_get (v := .int (I (41 + 3 * q) 2)) hx hb hts (by decide +kernel) hown hK hG (41 + 3 * q) (by omega) (gc_rk (q := q) (by omega)) rfl 2 (by decide) (hts (.fieldLink RX1 19 "NeighbourScores$Ranking" "size" "I") (by decide +kernel)) (fun _ h9 => h9) rfl dX1_has_6 ?_
    refine g_i (y := nI k) hs ?_
    refine lv_icmp_ge (tgt := 16) hx hb dX1_has_9 (by decide) (fun c9 => ?_) (fun c9 => ?_)
    · -- 9: jumps
      refine lv_iconst (v := 0) hx hb dX1_has_16 (by decide) ?_
      exact g_rzS hx hb hr hlocks (Or.inl rfl) (by first | exact Or.inl ⟨gR_of (by omega) c1 c9, rfl⟩ | exact Or.inr ⟨gR_neg (by omega) c1, rfl⟩ | exact Or.inr ⟨gR_big (by omega) c9, rfl⟩) dX1_has_17
    · -- 9: goes on
      refine lv_iconst (v := 1) hx hb dX1_has_12 (by decide) ?_
      refine lv_goto (tgt := 17) hx hb dX1_has_13 (by decide) ?_
      exact g_rzS hx hb hr hlocks (Or.inr rfl) (by first | exact Or.inl ⟨gR_of (by omega) c1 c9, rfl⟩ | exact Or.inr ⟨gR_neg (by omega) c1, rfl⟩ | exact Or.inr ⟨gR_big (by omega) c9, rfl⟩) dX1_has_17

set_option maxHeartbeats 4000000 in
set_option maxRecDepth 100000 in
theorem c_X1_itemAt (l : Launch) (D : va_G) (ad : Nat → Nat) (tc : Nat → ClassId) (I : Mi) (L : Ml) (q : Nat) (hq : q < 17) (a : Int32) (val : Nat → Int64) (hR : pu_RK I L q val 16)  : Met l yX1_itemAt wsX1_itemAt ({ frames := 1, cells := 0, slots := 0, locals := 21 } : Room) (va_Pc [.ref (ad (41 + 3 * q)), .int a] (gPc D ad tc I L)) (vp_Si (fun r => pu_ent val a = r)) 0 0 gN := by
  refine g_of (by decide) rfl (Nat.le_of_ble_eq_true rfl) ?_
  intro p e s m below meth c hcx hr hlocks hK hG ls hl
  obtain ⟨hx, hb, hml, hown, hts⟩ := id hcx
  have hl : lv_has ls 2 [(0, .ref (ad (41 + 3 * q))), (1, .int a)] := hl
  have hz := pu_szle val 16
  refine lv_aload_n hx hb dX1_itemAt_0 rfl (lv_at hl 0 rfl) ?_
  refine lv_iload_n hx hb dX1_itemAt_1 rfl (lv_at hl 1 rfl) ?_
  refine g_si (va_runV (As := [.int a]) (rest := []) hcx (c_X1_has l D ad tc I L q hq a (pu_sz val 16) hz hR.1) (cwV 1 hts gX1_itemAt_X1_has rfl rfl rfl (by decide +kernel) ⟨Nat.le_of_ble_eq_true rfl, Nat.le_of_ble_eq_true rfl⟩) (g_pV hK hG (41 + 3 * q) (by omega) (gc_rk (q := q) (by omega)) rfl) rfl rfl hl.1 rfl (lv_room (Nat.le_of_ble_eq_true rfl)) dX1_itemAt_2 ⟨Nat.le_refl _, Nat.le_refl _⟩) (fun r_2 hw_2 => ?_)
  rcases hw_2 with ⟨hw_2, rfl⟩ | ⟨hw_2, rfl⟩
  · -- 2: yes
    refine lv_if_eq (tgt := 17) hx hb dX1_itemAt_5 (by decide) (fun c5 => absurd c5 (by decide)) (fun _ => ?_)
    obtain ⟨j, hj, rfl⟩ := hw_2
    refine lv_aload_n hx hb dX1_itemAt_8 rfl (lv_at hl 0 rfl) ?_
    refine g_get (v := .ref (ad (42 + 3 * q))) hx hb hts (by decide +kernel) hown hK hG (41 + 3 * q) (by omega) (gc_rk (q := q) (by omega)) rfl 0 (by decide) (hts (.fieldLink RX1 9 "NeighbourScores$Ranking" "items" "[I") (by decide +kernel)) (fun _ h9 => h9) rfl dX1_itemAt_9 ?_
    refine lv_iload_n hx hb dX1_itemAt_12 rfl (lv_at hl 1 rfl) ?_
    refine g_iald hx hb hK hG (42 + 3 * q) (by omega) (gc_it (q := q) (by omega)) j rfl (by omega) (by omega) dX1_itemAt_13 ?_
    refine lv_goto (tgt := 18) hx hb dX1_itemAt_14 (by decide) ?_
    exact g_riS hx hb hr hlocks (by first | exact pu_ent_in hR hj | exact pu_ent_out hw_2) dX1_itemAt_18
  · -- 2: no
    refine lv_if_eq (tgt := 17) hx hb dX1_itemAt_5 (by decide) (fun _ => ?_) (fun c5 => absurd (by decide) c5)
    refine lv_iconst (v := -1) hx hb dX1_itemAt_17 (by decide) ?_
    exact g_riS hx hb hr hlocks (by first | exact pu_ent_in hR hj | exact pu_ent_out hw_2) dX1_itemAt_18

set_option maxHeartbeats 4000000 in
set_option maxRecDepth 100000 in
theorem c_X1_valueAt (l : Launch) (D : va_G) (ad : Nat → Nat) (tc : Nat → ClassId) (I : Mi) (L : Ml) (q : Nat) (hq : q < 17) (d : Nat) (hd : d < 16) (val : Nat → Int64) (hR : pu_RK I L q val 16)  : Met l yX1_valueAt wsX1_valueAt ({ frames := 1, cells := 0, slots := 0, locals := 21 } : Room) (va_Pc [.ref (ad (41 + 3 * q)), .int (nI d)] (gPc D ad tc I L)) (vp_Sl (fun r => pu_vl val d = r)) 0 0 gN := by
  refine g_of (by decide) rfl (Nat.le_of_ble_eq_true rfl) ?_
  intro p e s m below meth c hcx hr hlocks hK hG ls hl
  obtain ⟨hx, hb, hml, hown, hts⟩ := id hcx
  have hl : lv_has ls 2 [(0, .ref (ad (41 + 3 * q))), (1, .int (nI d))] := hl
  have hz := pu_szle val 16
  refine lv_aload_n hx hb dX1_valueAt_0 rfl (lv_at hl 0 rfl) ?_
  refine lv_iload_n hx hb dX1_valueAt_1 rfl (lv_at hl 1 rfl) ?_
  refine g_si (va_runV (As := [.int (nI d)]) (rest := []) hcx (c_X1_has l D ad tc I L q hq (nI d) (pu_sz val 16) hz hR.1) (cwV 1 hts gX1_valueAt_X1_has rfl rfl rfl (by decide +kernel) ⟨Nat.le_of_ble_eq_true rfl, Nat.le_of_ble_eq_true rfl⟩) (g_pV hK hG (41 + 3 * q) (by omega) (gc_rk (q := q) (by omega)) rfl) rfl rfl hl.1 rfl (lv_room (Nat.le_of_ble_eq_true rfl)) dX1_valueAt_2 ⟨Nat.le_refl _, Nat.le_refl _⟩) (fun r_2 hw_2 => ?_)
  rcases hw_2 with ⟨hw_2, rfl⟩ | ⟨hw_2, rfl⟩
  · -- 2: yes
    refine lv_if_eq (tgt := 17) hx hb dX1_valueAt_5 (by decide) (fun c5 => absurd c5 (by decide)) (fun _ => ?_)
    have hj := pu_gRn hw_2 (by omega) (by omega)
    refine lv_aload_n hx hb dX1_valueAt_8 rfl (lv_at hl 0 rfl) ?_
    refine g_get (v := .ref (ad (43 + 3 * q))) hx hb hts (by decide +kernel) hown hK hG (41 + 3 * q) (by omega) (gc_rk (q := q) (by omega)) rfl 1 (by decide) (hts (.fieldLink RX1 15 "NeighbourScores$Ranking" "values" "[J") (by decide +kernel)) (fun _ h9 => h9) rfl dX1_valueAt_9 ?_
    refine lv_iload_n hx hb dX1_valueAt_12 rfl (lv_at hl 1 rfl) ?_
    refine g_lald hx hb hK hG (43 + 3 * q) (by omega) (gc_va (q := q) (by omega)) d rfl (by omega) (by omega) dX1_valueAt_13 ?_
    refine lv_goto (tgt := 18) hx hb dX1_valueAt_14 (by decide) ?_
    exact g_rlS hx hb hr hlocks (by first | exact pu_vl_in hR hj | exact pu_vl_out hj) dX1_valueAt_18
  · -- 2: no
    refine lv_if_eq (tgt := 17) hx hb dX1_valueAt_5 (by decide) (fun _ => ?_) (fun c5 => absurd (by decide) c5)
    have hj : pu_sz val 16 ≤ d := Nat.le_of_not_lt fun z => hw_2 (gR_n z)
    refine lv_lconst (v := 0) hx hb dX1_valueAt_17 (by decide) ?_
    exact g_rlS hx hb hr hlocks (by first | exact pu_vl_in hR hj | exact pu_vl_out hj) dX1_valueAt_18

set_option maxHeartbeats 4000000 in
set_option maxRecDepth 100000 in
theorem c_X1_add (l : Launch) (D : va_G) (ad : Nat → Nat) (tc : Nat → ClassId) (I : Mi) (L : Ml) (q : Nat) (hq : q < 17) (x : Nat) (v : Int64) (k r : Nat) (hk : k < 16) (hr1 : r ≤ k) (hs : I (41 + 3 * q) 2 = nI k) (hcut : ∀ p, p < k → (L (43 + 3 * q) p < v ↔ r ≤ p)) : Met l yX1_add wsX1_add ({ frames := 0, cells := 0, slots := 0, locals := 0 } : Room) (va_Pc [.ref (ad (41 + 3 * q)), .int (nI x), .long v] (gPc D ad tc I L)) (gQv D ad tc (fun I1 L1 => pu_addP I L q x v k r I1 L1)) 0 0 (gA ad) := by
  refine g_of (by decide) rfl (Nat.le_of_ble_eq_true rfl) ?_
  intro p e s m below meth c hcx hr hlocks hK hG ls hl
  obtain ⟨hx, hb, hml, hown, hts⟩ := id hcx
  have hl : lv_has ls 5 [(0, .ref (ad (41 + 3 * q))), (1, .int (nI x)), (2, .long v)] := hl
  refine lv_lload_n hx hb dX1_add_0 rfl (lv_at hl 2 rfl) ?_
  refine lv_lconst (v := 0) hx hb dX1_add_1 (by decide) ?_
  refine W.lcmp hx hb dX1_add_2 ?_
  refine lv_if_le (tgt := 15) hx hb dX1_add_3 (by decide) (fun c3 => ?_) (fun c3 => ?_)
  · -- 3: jumps
    exact g_rv hx hb hr hlocks hG (Or.inl ⟨pu_cmp_le c3, rfl, rfl⟩) dX1_add_15
  · -- 3: goes on
    refine lv_aload_n hx hb dX1_add_6 rfl (lv_at hl 0 rfl) ?_
    refine g_get (v := .int (I (41 + 3 * q) 2)) hx hb hts (by decide +kernel) hown hK hG (41 + 3 * q) (by omega) (gc_rk (q := q) (by omega)) rfl 2 (by decide) (hts (.fieldLink RX1 19 "NeighbourScores$Ranking" "size" "I") (by decide +kernel)) (fun _ h9 => h9) rfl dX1_add_7 ?_
    refine g_i (y := nI k) hs ?_
    refine lv_bipush (v := 16) hx hb dX1_add_10 (by decide) ?_
    refine lv_icmp_lt (tgt := 16) hx hb dX1_add_12 (by decide) (fun c12 => ?_) (fun c12 => absurd (nI_lt hk (by decide)) c12)
    refine lv_aload_n hx hb dX1_add_16 rfl (lv_at hl 0 rfl) ?_
    refine g_get (v := .int (I (41 + 3 * q) 2)) hx hb hts (by decide +kernel) hown hK hG (41 + 3 * q) (by omega) (gc_rk (q := q) (by omega)) rfl 2 (by decide) (hts (.fieldLink RX1 19 "NeighbourScores$Ranking" "size" "I") (by decide +kernel)) (fun _ h9 => h9) rfl dX1_add_17 ?_
    refine g_i (y := nI k) hs ?_
    refine lv_istore (lv' := [(4, .int (nI k)), (0, .ref (ad (41 + 3 * q))), (1, .int (nI x)), (2, .long v)]) hx hb dX1_add_20 hl (by decide) rfl (fun ls hl => ?_)
    have lp22 : ∀ (n : Nat) (c0 : Nat) (I_22 : Mi) (L_22 : Ml) (H : Heap) (locs : List Loc), (r ≤ c0) → (c0 ≤ k) → (c0 + 1 ≤ n) → (∀ p, p < c0 → I_22 (42 + 3 * q) p = I (42 + 3 * q) p) → (∀ p, c0 < p → p ≤ k → I_22 (42 + 3 * q) p = I (42 + 3 * q) (p - 1)) → (∀ p, p < c0 → L_22 (43 + 3 * q) p = L (43 + 3 * q) p) → (∀ p, c0 < p → p ≤ k → L_22 (43 + 3 * q) p = L (43 + 3 * q) (p - 1)) → (∀ a, a ≠ 42 + 3 * q → I_22 a = I a) → (∀ a, a ≠ 43 + 3 * q → L_22 a = L a) → gG D ad tc (gA ad) s.heap I_22 L_22 H locs → ∀ ls : Array Slot, lv_has ls 5 [(0, .ref (ad (41 + 3 * q))), (1, .int (nI x)), (2, .long v), (4, .int (nI c0))] → W p l e (headSpec wsX1_add ({ frames := 0, cells := 0, slots := 0, locals := 0 } : Room)).room s m ([.ref (ad (41 + 3 * q)), .int (nI x), .long v] : List Value).toArray below meth c H locs 0 0 (MQ below (gQv D ad tc (fun I1 L1 => pu_addP I L q x v k r I1 L1)) ([.ref (ad (41 + 3 * q)), .int (nI x), .long v] : List Value).toArray s 0 0 (gA ad)) (F0 m 22 ls []) := by
      intro n
      induction n with
      | zero =>
        intro c0 I_22 L_22 H locs hc1 hc2 hn hi1 hi2 hl1 hl2 hfI hfL hG ls hl
        exact absurd hn (by omega)
      | succ n ih22 =>
        intro c0 I_22 L_22 H locs hc1 hc2 hn hi1 hi2 hl1 hl2 hfI hfL hG ls hl
        refine lv_iload hx hb dX1_add_22 (lv_at hl 3 rfl) ?_
        refine lv_if_le (tgt := 79) hx hb dX1_add_24 (by decide) (fun c24 => ?_) (fun c24 => ?_)
        · -- 24: jumps
          have b24 := g_le (a := c0) (b := 0) c24 (by omega) (by omega)
          obtain rfl : c0 = r := by omega
          refine lv_aload_n hx hb dX1_add_79 rfl (lv_at hl 0 rfl) ?_
          refine g_get (v := .ref (ad (42 + 3 * q))) hx hb hts (by decide +kernel) hown hK hG (41 + 3 * q) (by omega) (gc_rk (q := q) (by omega)) rfl 0 (by decide) (hts (.fieldLink RX1 9 "NeighbourScores$Ranking" "items" "[I") (by decide +kernel)) (fun _ h9 => h9) rfl dX1_add_80 ?_
          refine lv_iload hx hb dX1_add_83 (lv_at hl 3 rfl) ?_
          refine lv_iload_n hx hb dX1_add_85 rfl (lv_at hl 1 rfl) ?_
          refine g_iast hx hb hK hG (42 + 3 * q) (by omega) (fun _ => (gc_it (q := q) (by omega))) c0 rfl (by omega) (by omega) dX1_add_86 (fun I_86 H locs hU_86 hG => ?_)
          refine lv_aload_n hx hb dX1_add_87 rfl (lv_at hl 0 rfl) ?_
          refine g_get (v := .ref (ad (43 + 3 * q))) hx hb hts (by decide +kernel) hown hK hG (41 + 3 * q) (by omega) (gc_rk (q := q) (by omega)) rfl 1 (by decide) (hts (.fieldLink RX1 15 "NeighbourScores$Ranking" "values" "[J") (by decide +kernel)) (fun _ h9 => h9) rfl dX1_add_88 ?_
          refine lv_iload hx hb dX1_add_91 (lv_at hl 3 rfl) ?_
          refine lv_lload_n hx hb dX1_add_93 rfl (lv_at hl 2 rfl) ?_
          refine g_last hx hb hK hG (43 + 3 * q) (by omega) (fun _ => (gc_va (q := q) (by omega))) c0 rfl (by omega) (by omega) dX1_add_94 (fun L_94 H locs hU_94 hG => ?_)
          refine lv_aload_n hx hb dX1_add_95 rfl (lv_at hl 0 rfl) ?_
          refine lv_dup hx hb dX1_add_96 rfl ?_
          refine g_get (v := .int (I_86 (41 + 3 * q) 2)) hx hb hts (by decide +kernel) hown hK hG (41 + 3 * q) (by omega) (gc_rk (q := q) (by omega)) rfl 2 (by decide) (hts (.fieldLink RX1 19 "NeighbourScores$Ranking" "size" "I") (by decide +kernel)) (fun _ h9 => h9) rfl dX1_add_97 ?_
          refine g_i (y := nI k) (by rw [hU_86.2 _ (by omega), hfI _ (by omega)]; exact hs) ?_
          refine lv_iconst (v := 1) hx hb dX1_add_100 (by decide) ?_
          refine lv_iadd hx hb dX1_add_101 ?_
          refine g_i (y := nI (k + 1)) (nI_add k 1) ?_
          refine g_put (ty := .int) hx hb hts (by decide +kernel) tyX1 tyX1_ok nmX1 hown hK hG (41 + 3 * q) (by omega) (gc_rk (q := q) (by omega)) rfl 2 (by decide) (hts (.fieldLink RX1 19 "NeighbourScores$Ranking" "size" "I") (by decide +kernel)) (fun _ h9 => h9) rfl (by decide +kernel) rfl rfl (Nat.le_of_ble_eq_true rfl) (by rw [(gc_rk (q := q) (by omega))]; rfl) dX1_add_102 (fun I_102 H locs hU_102 hG => ?_)
          exact g_rv hx hb hr hlocks hG (Or.inr ⟨pu_cmp_gt c3, gU_eq hU_102, pu_ins_of hi1 hi2 (fun p hp => by rw [hU_102.2 _ (by omega), gU_ne hU_86 hp]) (by rw [hU_102.2 _ (by omega), gU_eq hU_86]), pu_ins_of hl1 hl2 (fun p hp => gV_ne hU_94 hp) (gV_eq hU_94), fun a h1 h2 => by rw [hU_102.2 a h1, hU_86.2 a h2, hfI a h2], fun a h1 => by rw [hU_94.2 a h1, hfL a h1]⟩) dX1_add_105
        · -- 24: goes on
          have b24 := g_nle (a := c0) (b := 0) c24 (by omega) (by omega)
          refine lv_aload_n hx hb dX1_add_27 rfl (lv_at hl 0 rfl) ?_
          refine g_get (v := .ref (ad (43 + 3 * q))) hx hb hts (by decide +kernel) hown hK hG (41 + 3 * q) (by omega) (gc_rk (q := q) (by omega)) rfl 1 (by decide) (hts (.fieldLink RX1 15 "NeighbourScores$Ranking" "values" "[J") (by decide +kernel)) (fun _ h9 => h9) rfl dX1_add_28 ?_
          refine lv_iload hx hb dX1_add_31 (lv_at hl 3 rfl) ?_
          refine lv_iconst (v := 1) hx hb dX1_add_33 (by decide) ?_
          refine lv_isub hx hb dX1_add_34 ?_
          refine g_i (y := nI (c0 - 1)) (pk_sub (a := c0) (b := 1) (by omega)) ?_
          refine g_lald hx hb hK hG (43 + 3 * q) (by omega) (gc_va (q := q) (by omega)) (c0 - 1) rfl (by omega) (by omega) dX1_add_35 ?_
          refine lv_lload_n hx hb dX1_add_36 rfl (lv_at hl 2 rfl) ?_
          refine W.lcmp hx hb dX1_add_37 ?_
          refine lv_if_ge (tgt := 79) hx hb dX1_add_38 (by decide) (fun c38 => ?_) (fun c38 => ?_)
          · -- 38: jumps
            have hcc : ¬ r ≤ c0 - 1 := fun z => pu_cmp_ge c38 (by rw [hl1 (c0 - 1) (by omega)]; exact (hcut (c0 - 1) (by omega)).mpr z)
            obtain rfl : c0 = r := by omega
            refine lv_aload_n hx hb dX1_add_79 rfl (lv_at hl 0 rfl) ?_
            refine g_get (v := .ref (ad (42 + 3 * q))) hx hb hts (by decide +kernel) hown hK hG (41 + 3 * q) (by omega) (gc_rk (q := q) (by omega)) rfl 0 (by decide) (hts (.fieldLink RX1 9 "NeighbourScores$Ranking" "items" "[I") (by decide +kernel)) (fun _ h9 => h9) rfl dX1_add_80 ?_
            refine lv_iload hx hb dX1_add_83 (lv_at hl 3 rfl) ?_
            refine lv_iload_n hx hb dX1_add_85 rfl (lv_at hl 1 rfl) ?_
            refine g_iast hx hb hK hG (42 + 3 * q) (by omega) (fun _ => (gc_it (q := q) (by omega))) c0 rfl (by omega) (by omega) dX1_add_86 (fun I_86 H locs hU_86 hG => ?_)
            refine lv_aload_n hx hb dX1_add_87 rfl (lv_at hl 0 rfl) ?_
            refine g_get (v := .ref (ad (43 + 3 * q))) hx hb hts (by decide +kernel) hown hK hG (41 + 3 * q) (by omega) (gc_rk (q := q) (by omega)) rfl 1 (by decide) (hts (.fieldLink RX1 15 "NeighbourScores$Ranking" "values" "[J") (by decide +kernel)) (fun _ h9 => h9) rfl dX1_add_88 ?_
            refine lv_iload hx hb dX1_add_91 (lv_at hl 3 rfl) ?_
            refine lv_lload_n hx hb dX1_add_93 rfl (lv_at hl 2 rfl) ?_
            refine g_last hx hb hK hG (43 + 3 * q) (by omega) (fun _ => (gc_va (q := q) (by omega))) c0 rfl (by omega) (by omega) dX1_add_94 (fun L_94 H locs hU_94 hG => ?_)
            refine lv_aload_n hx hb dX1_add_95 rfl (lv_at hl 0 rfl) ?_
            refine lv_dup hx hb dX1_add_96 rfl ?_
            refine g_get (v := .int (I_86 (41 + 3 * q) 2)) hx hb hts (by decide +kernel) hown hK hG (41 + 3 * q) (by omega) (gc_rk (q := q) (by omega)) rfl 2 (by decide) (hts (.fieldLink RX1 19 "NeighbourScores$Ranking" "size" "I") (by decide +kernel)) (fun _ h9 => h9) rfl dX1_add_97 ?_
            refine g_i (y := nI k) (by rw [hU_86.2 _ (by omega), hfI _ (by omega)]; exact hs) ?_
            refine lv_iconst (v := 1) hx hb dX1_add_100 (by decide) ?_
            refine lv_iadd hx hb dX1_add_101 ?_
            refine g_i (y := nI (k + 1)) (nI_add k 1) ?_
            refine g_put (ty := .int) hx hb hts (by decide +kernel) tyX1 tyX1_ok nmX1 hown hK hG (41 + 3 * q) (by omega) (gc_rk (q := q) (by omega)) rfl 2 (by decide) (hts (.fieldLink RX1 19 "NeighbourScores$Ranking" "size" "I") (by decide +kernel)) (fun _ h9 => h9) rfl (by decide +kernel) rfl rfl (Nat.le_of_ble_eq_true rfl) (by rw [(gc_rk (q := q) (by omega))]; rfl) dX1_add_102 (fun I_102 H locs hU_102 hG => ?_)
            exact g_rv hx hb hr hlocks hG (Or.inr ⟨pu_cmp_gt c3, gU_eq hU_102, pu_ins_of hi1 hi2 (fun p hp => by rw [hU_102.2 _ (by omega), gU_ne hU_86 hp]) (by rw [hU_102.2 _ (by omega), gU_eq hU_86]), pu_ins_of hl1 hl2 (fun p hp => gV_ne hU_94 hp) (gV_eq hU_94), fun a h1 h2 => by rw [hU_102.2 a h1, hU_86.2 a h2, hfI a h2], fun a h1 => by rw [hU_94.2 a h1, hfL a h1]⟩) dX1_add_105
          · -- 38: goes on
            refine lv_aload_n hx hb dX1_add_41 rfl (lv_at hl 0 rfl) ?_
            refine g_get (v := .ref (ad (42 + 3 * q))) hx hb hts (by decide +kernel) hown hK hG (41 + 3 * q) (by omega) (gc_rk (q := q) (by omega)) rfl 0 (by decide) (hts (.fieldLink RX1 9 "NeighbourScores$Ranking" "items" "[I") (by decide +kernel)) (fun _ h9 => h9) rfl dX1_add_42 ?_
            refine lv_iload hx hb dX1_add_45 (lv_at hl 3 rfl) ?_
            refine lv_aload_n hx hb dX1_add_47 rfl (lv_at hl 0 rfl) ?_
            refine g_get (v := .ref (ad (42 + 3 * q))) hx hb hts (by decide +kernel) hown hK hG (41 + 3 * q) (by omega) (gc_rk (q := q) (by omega)) rfl 0 (by decide) (hts (.fieldLink RX1 9 "NeighbourScores$Ranking" "items" "[I") (by decide +kernel)) (fun _ h9 => h9) rfl dX1_add_48 ?_
            refine lv_iload hx hb dX1_add_51 (lv_at hl 3 rfl) ?_
            refine lv_iconst (v := 1) hx hb dX1_add_53 (by decide) ?_
            refine lv_isub hx hb dX1_add_54 ?_
            refine g_i (y := nI (c0 - 1)) (pk_sub (a := c0) (b := 1) (by omega)) ?_
            refine g_iald hx hb hK hG (42 + 3 * q) (by omega) (gc_it (q := q) (by omega)) (c0 - 1) rfl (by omega) (by omega) dX1_add_55 ?_
            refine g_iast hx hb hK hG (42 + 3 * q) (by omega) (fun _ => (gc_it (q := q) (by omega))) c0 rfl (by omega) (by omega) dX1_add_56 (fun I_56 H locs hU_56 hG => ?_)
            refine lv_aload_n hx hb dX1_add_57 rfl (lv_at hl 0 rfl) ?_
            refine g_get (v := .ref (ad (43 + 3 * q))) hx hb hts (by decide +kernel) hown hK hG (41 + 3 * q) (by omega) (gc_rk (q := q) (by omega)) rfl 1 (by decide) (hts (.fieldLink RX1 15 "NeighbourScores$Ranking" "values" "[J") (by decide +kernel)) (fun _ h9 => h9) rfl dX1_add_58 ?_
            refine lv_iload hx hb dX1_add_61 (lv_at hl 3 rfl) ?_
            refine lv_aload_n hx hb dX1_add_63 rfl (lv_at hl 0 rfl) ?_
            refine g_get (v := .ref (ad (43 + 3 * q))) hx hb hts (by decide +kernel) hown hK hG (41 + 3 * q) (by omega) (gc_rk (q := q) (by omega)) rfl 1 (by decide) (hts (.fieldLink RX1 15 "NeighbourScores$Ranking" "values" "[J") (by decide +kernel)) (fun _ h9 => h9) rfl dX1_add_64 ?_
            refine lv_iload hx hb dX1_add_67 (lv_at hl 3 rfl) ?_
            refine lv_iconst (v := 1) hx hb dX1_add_69 (by decide) ?_
            refine lv_isub hx hb dX1_add_70 ?_
            refine g_i (y := nI (c0 - 1)) (pk_sub (a := c0) (b := 1) (by omega)) ?_
            refine g_lald hx hb hK hG (43 + 3 * q) (by omega) (gc_va (q := q) (by omega)) (c0 - 1) rfl (by omega) (by omega) dX1_add_71 ?_
            refine g_last hx hb hK hG (43 + 3 * q) (by omega) (fun _ => (gc_va (q := q) (by omega))) c0 rfl (by omega) (by omega) dX1_add_72 (fun L_72 H locs hU_72 hG => ?_)
            refine lv_iinc (v := nI (c0 - 1)) (lv' := [(4, .int (nI (c0 - 1))), (0, .ref (ad (41 + 3 * q))), (1, .int (nI x)), (2, .long v)]) hx hb dX1_add_73 hl (k := 3) rfl (sb_m1 (by omega)) (by decide) rfl (fun ls hl => ?_)
            refine lv_goto (tgt := 22) hx hb dX1_add_76 (by decide) ?_
            have hcc := (hcut (c0 - 1) (by omega)).mp (by rw [← hl1 (c0 - 1) (by omega)]; exact pu_cmp_nge c38)
            exact ih22 (c0 - 1) _ _ _ _ (by omega) (by omega) (by omega) (fun p hp => by rw [gU_ne hU_56 (by omega)]; exact hi1 p (by omega)) (fun p h1 h2 => by by_cases e : p = c0; (rw [e, gU_eq hU_56]; exact hi1 _ (by omega)); (rw [gU_ne hU_56 e]; exact hi2 p (by omega) h2)) (fun p hp => by rw [gV_ne hU_72 (by omega)]; exact hl1 p (by omega)) (fun p h1 h2 => by by_cases e : p = c0; (rw [e, gV_eq hU_72]; exact hl1 _ (by omega)); (rw [gV_ne hU_72 e]; exact hl2 p (by omega) h2)) (fun a ha => (hU_56.2 a ha).trans (hfI a ha)) (fun a ha => (hU_72.2 a ha).trans (hfL a ha)) hG ls (lv_sub hl [1, 2, 3, 0] rfl)
    exact lp22 (k + 1) k _ _ _ _ hr1 (Nat.le_refl _) (Nat.le_refl _) (fun _ _ => rfl) (fun p h1 h2 => by omega) (fun _ _ => rfl) (fun p h1 h2 => by omega) (fun _ _ => rfl) (fun _ _ => rfl) hG ls (lv_sub hl [1, 2, 3, 0] rfl)

set_option maxHeartbeats 4000000 in
set_option maxRecDepth 100000 in
theorem c_X1_rankNeighbours (l : Launch) (D : va_G) (ad : Nat → Nat) (tc : Nat → ClassId) (I : Mi) (L : Ml) (q : Nat) (hq : q < 17) (T : Tb) (hT : pN I T) (j : Nat) (hj : j < 16) : Met l yX1_rankNeighbours wsX1_rankNeighbours ({ frames := 1, cells := 0, slots := 0, locals := 26 } : Room) (va_Pc [.ref (ad (41 + 3 * q)), .ref (ad 7), .int (nI j)] (gPc D ad tc I L)) (gQv D ad tc (fun I1 L1 => pu_RK I1 L1 q (pu_vn T j) 16 ∧ ∀ a, a < 41 + 3 * q ∨ 43 + 3 * q < a → I1 a = I a ∧ L1 a = L a)) 0 0 (gA ad) := by
  refine g_of (by decide) rfl (Nat.le_of_ble_eq_true rfl) ?_
  intro p e s m below meth c hcx hr hlocks hK hG ls hl
  obtain ⟨hx, hb, hml, hown, hts⟩ := id hcx
  have hl : lv_has ls 4 [(0, .ref (ad (41 + 3 * q))), (1, .ref (ad 7)), (2, .int (nI j))] := hl
  refine lv_aload_n hx hb dX1_rankNeighbours_0 rfl (lv_at hl 0 rfl) ?_
  refine g_cv (va_runV (As := []) (rest := []) hcx (c_X1_clear l D ad tc I L q (by omega)) (cwV 0 hts gX1_rankNeighbours_X1_clear rfl rfl rfl (by decide +kernel) ⟨Nat.le_of_ble_eq_true rfl, Nat.le_of_ble_eq_true rfl⟩) (g_pV hK hG (41 + 3 * q) (by omega) (gc_rk (q := q) (by omega)) rfl) rfl rfl hl.1 rfl (lv_room (Nat.le_of_ble_eq_true rfl)) dX1_rankNeighbours_1 ⟨Nat.le_refl _, Nat.le_refl _⟩) hK hG (fun I_1 L_1 H locs hw_1 hG => ?_)
  obtain rfl := hw_1.2
  refine lv_iconst (v := 0) hx hb dX1_rankNeighbours_4 (by decide) ?_
  refine lv_istore_n (lv' := [(3, .int 0), (0, .ref (ad (41 + 3 * q))), (1, .ref (ad 7)), (2, .int (nI j))]) hx hb dX1_rankNeighbours_5 rfl hl (by decide) rfl (fun ls hl => ?_)
  have lp6 : ∀ (n : Nat) (k : Nat) (I_6 : Mi) (L_6 : Ml) (H : Heap) (locs : List Loc), (k ≤ 16) → (17 ≤ k + n) → (pu_RK I_6 L_6 q (pu_vn T j) k) → (∀ a, a < 41 + 3 * q ∨ 43 + 3 * q < a → I_6 a = I a ∧ L_6 a = L a) → gG D ad tc (gA ad) s.heap I_6 L_6 H locs → ∀ ls : Array Slot, lv_has ls 4 [(0, .ref (ad (41 + 3 * q))), (1, .ref (ad 7)), (2, .int (nI j)), (3, .int (nI k))] → W p l e (headSpec wsX1_rankNeighbours ({ frames := 1, cells := 0, slots := 0, locals := 26 } : Room)).room s m ([.ref (ad (41 + 3 * q)), .ref (ad 7), .int (nI j)] : List Value).toArray below meth c H locs 0 0 (MQ below (gQv D ad tc (fun I1 L1 => pu_RK I1 L1 q (pu_vn T j) 16 ∧ ∀ a, a < 41 + 3 * q ∨ 43 + 3 * q < a → I1 a = I a ∧ L1 a = L a)) ([.ref (ad (41 + 3 * q)), .ref (ad 7), .int (nI j)] : List Value).toArray s 0 0 (gA ad)) (F0 m 6 ls []) := by
    intro n
    induction n with
    | zero =>
      intro k I_6 L_6 H locs hk hn hR hf hG ls hl
      exact absurd hn (by omega)
    | succ n ih6 =>
      intro k I_6 L_6 H locs hk hn hR hf hG ls hl
      refine lv_iload_n hx hb dX1_rankNeighbours_6 rfl (lv_at hl 3 rfl) ?_
      refine lv_bipush (v := 16) hx hb dX1_rankNeighbours_7 (by decide) ?_
      refine lv_icmp_ge (tgt := 30) hx hb dX1_rankNeighbours_9 (by decide) (fun c9 => ?_) (fun c9 => ?_)
      · -- 9: jumps
        have b9 := g_le (a := 16) (b := k) c9 (by omega) (by omega)
        exact g_rv hx hb hr hlocks hG ⟨by rw [show (16 : Nat) = k by omega]; exact hR, hf⟩ dX1_rankNeighbours_30
      · -- 9: goes on
        have b9 := g_nle (a := 16) (b := k) c9 (by omega) (by omega)
        refine lv_aload_n hx hb dX1_rankNeighbours_12 rfl (lv_at hl 0 rfl) ?_
        refine lv_iload_n hx hb dX1_rankNeighbours_13 rfl (lv_at hl 3 rfl) ?_
        refine lv_aload_n hx hb dX1_rankNeighbours_14 rfl (lv_at hl 1 rfl) ?_
        refine lv_iload_n hx hb dX1_rankNeighbours_15 rfl (lv_at hl 3 rfl) ?_
        refine lv_iload_n hx hb dX1_rankNeighbours_16 rfl (lv_at hl 2 rfl) ?_
        refine g_si (va_runV (As := [.int (nI k), .int (nI j)]) (rest := [.int (nI k), .ref (ad (41 + 3 * q))]) hcx (c_X2_weightOf l D ad tc I_6 L_6 T (pN_mem (fun a h1 h2 => (hf a (by omega)).1) hT) k j (by omega) hj) (cwV 2 hts gX1_rankNeighbours_X2_weightOf rfl rfl rfl (by decide +kernel) ⟨Nat.le_of_ble_eq_true rfl, Nat.le_of_ble_eq_true rfl⟩) (g_pV hK hG 7 (by decide) gc_7 rfl) rfl rfl hl.1 rfl (lv_room (Nat.le_of_ble_eq_true rfl)) dX1_rankNeighbours_17 ⟨Nat.le_refl _, Nat.le_refl _⟩) (fun r_17 hw_17 => ?_)
        subst hw_17
        refine lv_i2l (v := (nI (pu_w T k j)).toInt64) hx hb dX1_rankNeighbours_20 rfl ?_
        refine g_cv (va_runV (As := [.int (nI k), .long ((nI (pu_w T k j)).toInt64)]) (rest := []) hcx (c_X1_add l D ad tc I_6 L_6 q hq k ((nI (pu_w T k j)).toInt64) (pu_sz (pu_vn T j) k) (pu_rk (pu_vn T j) k k) (by have := pu_szle (pu_vn T j) k; omega) (pu_rkle _ _) hR.1 (pu_RK_cut hR)) (cwV 2 hts gX1_rankNeighbours_X1_add rfl rfl rfl (by decide +kernel) ⟨Nat.le_of_ble_eq_true rfl, Nat.le_of_ble_eq_true rfl⟩) (g_pV hK hG (41 + 3 * q) (by omega) (gc_rk (q := q) (by omega)) rfl) rfl rfl hl.1 rfl (lv_room (Nat.le_of_ble_eq_true rfl)) dX1_rankNeighbours_21 ⟨Nat.le_refl _, Nat.le_refl _⟩) hK hG (fun I_21 L_21 H locs hw_21 hG => ?_)
        have hRK := pu_addRK hR hw_21
        refine lv_iinc (v := nI (k + 1)) (lv' := [(3, .int (nI (k + 1))), (0, .ref (ad (41 + 3 * q))), (1, .ref (ad 7)), (2, .int (nI j))]) hx hb dX1_rankNeighbours_24 hl (k := 3) rfl (nI_1 _) (by decide) rfl (fun ls hl => ?_)
        refine lv_goto (tgt := 6) hx hb dX1_rankNeighbours_27 (by decide) ?_
        exact ih6 (k + 1) _ _ _ _ (by omega) (by omega) hRK.1 (fun a ha => ⟨(hRK.2 a ha).1.trans (hf a ha).1, (hRK.2 a ha).2.trans (hf a ha).2⟩) hG ls (lv_sub hl [1, 2, 3, 0] rfl)
  exact lp6 17 0 _ _ _ _ (by omega) (by omega) (pu_RK_0 (by rw [hw_1.1.1]; rfl)) (fun a ha => ⟨hw_1.1.2 a (by omega), rfl⟩) hG ls (lv_sub hl [1, 2, 3, 0] rfl)

set_option maxHeartbeats 4000000 in
set_option maxRecDepth 100000 in
theorem c_X1_rankBest (l : Launch) (D : va_G) (ad : Nat → Nat) (tc : Nat → ClassId) (I : Mi) (L : Ml) (q : Nat) (hq : q < 17) (T : Tb) (hT : pN I T) (u : Nat) (hu : u < 12) : Met l yX1_rankBest wsX1_rankBest ({ frames := 3, cells := 0, slots := 0, locals := 74 } : Room) (va_Pc [.ref (ad (41 + 3 * q)), .ref (ad 7), .int (nI u)] (gPc D ad tc I L)) (gQv D ad tc (fun I1 L1 => pu_RK I1 L1 q (pu_vb T u) 16 ∧ ∀ a, a < 41 + 3 * q ∨ 43 + 3 * q < a → I1 a = I a ∧ L1 a = L a)) 0 0 (gA ad) := by
  refine g_of (by decide) rfl (Nat.le_of_ble_eq_true rfl) ?_
  intro p e s m below meth c hcx hr hlocks hK hG ls hl
  obtain ⟨hx, hb, hml, hown, hts⟩ := id hcx
  have hl : lv_has ls 4 [(0, .ref (ad (41 + 3 * q))), (1, .ref (ad 7)), (2, .int (nI u))] := hl
  refine lv_aload_n hx hb dX1_rankBest_0 rfl (lv_at hl 0 rfl) ?_
  refine g_cv (va_runV (As := []) (rest := []) hcx (c_X1_clear l D ad tc I L q (by omega)) (cwV 0 hts gX1_rankBest_X1_clear rfl rfl rfl (by decide +kernel) ⟨Nat.le_of_ble_eq_true rfl, Nat.le_of_ble_eq_true rfl⟩) (g_pV hK hG (41 + 3 * q) (by omega) (gc_rk (q := q) (by omega)) rfl) rfl rfl hl.1 rfl (lv_room (Nat.le_of_ble_eq_true rfl)) dX1_rankBest_1 ⟨Nat.le_refl _, Nat.le_refl _⟩) hK hG (fun I_1 L_1 H locs hw_1 hG => ?_)
  obtain rfl := hw_1.2
  refine lv_iconst (v := 0) hx hb dX1_rankBest_4 (by decide) ?_
  refine lv_istore_n (lv' := [(3, .int 0), (0, .ref (ad (41 + 3 * q))), (1, .ref (ad 7)), (2, .int (nI u))]) hx hb dX1_rankBest_5 rfl hl (by decide) rfl (fun ls hl => ?_)
  have lp6 : ∀ (n : Nat) (k : Nat) (I_6 : Mi) (L_6 : Ml) (H : Heap) (locs : List Loc), (k ≤ 16) → (17 ≤ k + n) → (pu_RK I_6 L_6 q (pu_vb T u) k) → (∀ a, a < 41 + 3 * q ∨ 43 + 3 * q < a → I_6 a = I a ∧ L_6 a = L a) → gG D ad tc (gA ad) s.heap I_6 L_6 H locs → ∀ ls : Array Slot, lv_has ls 4 [(0, .ref (ad (41 + 3 * q))), (1, .ref (ad 7)), (2, .int (nI u)), (3, .int (nI k))] → W p l e (headSpec wsX1_rankBest ({ frames := 3, cells := 0, slots := 0, locals := 74 } : Room)).room s m ([.ref (ad (41 + 3 * q)), .ref (ad 7), .int (nI u)] : List Value).toArray below meth c H locs 0 0 (MQ below (gQv D ad tc (fun I1 L1 => pu_RK I1 L1 q (pu_vb T u) 16 ∧ ∀ a, a < 41 + 3 * q ∨ 43 + 3 * q < a → I1 a = I a ∧ L1 a = L a)) ([.ref (ad (41 + 3 * q)), .ref (ad 7), .int (nI u)] : List Value).toArray s 0 0 (gA ad)) (F0 m 6 ls []) := by
    intro n
    induction n with
    | zero =>
      intro k I_6 L_6 H locs hk hn hR hf hG ls hl
      exact absurd hn (by omega)
    | succ n ih6 =>
      intro k I_6 L_6 H locs hk hn hR hf hG ls hl
      refine lv_iload_n hx hb dX1_rankBest_6 rfl (lv_at hl 3 rfl) ?_
      refine lv_bipush (v := 16) hx hb dX1_rankBest_7 (by decide) ?_
      refine lv_icmp_ge (tgt := 38) hx hb dX1_rankBest_9 (by decide) (fun c9 => ?_) (fun c9 => ?_)
      · -- 9: jumps
        have b9 := g_le (a := 16) (b := k) c9 (by omega) (by omega)
        exact g_rv hx hb hr hlocks hG ⟨by rw [show (16 : Nat) = k by omega]; exact hR, hf⟩ dX1_rankBest_38
      · -- 9: goes on
        have b9 := g_nle (a := 16) (b := k) c9 (by omega) (by omega)
        refine lv_aload_n hx hb dX1_rankBest_12 rfl (lv_at hl 1 rfl) ?_
        refine lv_iload_n hx hb dX1_rankBest_13 rfl (lv_at hl 2 rfl) ?_
        refine lv_iload_n hx hb dX1_rankBest_14 rfl (lv_at hl 3 rfl) ?_
        refine g_si (va_runV (As := [.int (nI u), .int (nI k)]) (rest := []) hcx (c_X2_at l D ad tc I_6 L_6 T (pN_mem (fun a h1 h2 => (hf a (by omega)).1) hT) u k hu (by omega)) (cwV 2 hts gX1_rankBest_X2_at rfl rfl rfl (by decide +kernel) ⟨Nat.le_of_ble_eq_true rfl, Nat.le_of_ble_eq_true rfl⟩) (g_pV hK hG 7 (by decide) gc_7 rfl) rfl rfl hl.1 rfl (lv_room (Nat.le_of_ble_eq_true rfl)) dX1_rankBest_15 ⟨Nat.le_refl _, Nat.le_refl _⟩) (fun r_15 hw_15 => ?_)
        subst hw_15
        have hb15 : T u k ≤ 5 := hT.1 u k hu (by omega)
        refine lv_if_ne (tgt := 32) hx hb dX1_rankBest_18 (by decide) (fun c18 => ?_) (fun c18 => ?_)
        · -- 18: jumps
          have b18 := g_ne (a := (T u k)) (b := 0) c18 (by omega) (by omega)
          refine lv_iinc (v := nI (k + 1)) (lv' := [(3, .int (nI (k + 1))), (0, .ref (ad (41 + 3 * q))), (1, .ref (ad 7)), (2, .int (nI u))]) hx hb dX1_rankBest_32 hl (k := 3) rfl (nI_1 _) (by decide) rfl (fun ls hl => ?_)
          refine lv_goto (tgt := 6) hx hb dX1_rankBest_35 (by decide) ?_
          exact ih6 (k + 1) _ _ _ _ (by omega) (by omega) (pu_RK_not hR (by unfold pu_vb; rw [if_neg b18]; decide)) hf hG ls (lv_sub hl [1, 2, 3, 0] rfl)
        · -- 18: goes on
          have b18 := g_eq (a := (T u k)) (b := 0) c18 (by omega) (by omega)
          refine lv_aload_n hx hb dX1_rankBest_21 rfl (lv_at hl 0 rfl) ?_
          refine lv_iload_n hx hb dX1_rankBest_22 rfl (lv_at hl 3 rfl) ?_
          refine lv_aload_n hx hb dX1_rankBest_23 rfl (lv_at hl 1 rfl) ?_
          refine lv_iload_n hx hb dX1_rankBest_24 rfl (lv_at hl 2 rfl) ?_
          refine lv_iload_n hx hb dX1_rankBest_25 rfl (lv_at hl 3 rfl) ?_
          refine g_sl (va_runV (As := [.int (nI u), .int (nI k)]) (rest := [.int (nI k), .ref (ad (41 + 3 * q))]) hcx (c_X2_scoreOf l D ad tc I_6 L_6 T (pN_mem (fun a h1 h2 => (hf a (by omega)).1) hT) u k hu (by omega)) (cwV 2 hts gX1_rankBest_X2_scoreOf rfl rfl rfl (by decide +kernel) ⟨Nat.le_of_ble_eq_true rfl, Nat.le_of_ble_eq_true rfl⟩) (g_pV hK hG 7 (by decide) gc_7 rfl) rfl rfl hl.1 rfl (lv_room (Nat.le_of_ble_eq_true rfl)) dX1_rankBest_26 ⟨Nat.le_refl _, Nat.le_refl _⟩) (fun r_26 hw_26 => ?_)
          subst hw_26
          refine g_cv (va_runV (As := [.int (nI k), .long (pu_sc T u k 16)]) (rest := []) hcx (c_X1_add l D ad tc I_6 L_6 q hq k (pu_sc T u k 16) (pu_sz (pu_vb T u) k) (pu_rk (pu_vb T u) k k) (by have := pu_szle (pu_vb T u) k; omega) (pu_rkle _ _) hR.1 (by have hv : pu_sc T u k 16 = pu_vb T u k := (if_pos b18).symm; rw [hv]; exact pu_RK_cut hR)) (cwV 2 hts gX1_rankBest_X1_add rfl rfl rfl (by decide +kernel) ⟨Nat.le_of_ble_eq_true rfl, Nat.le_of_ble_eq_true rfl⟩) (g_pV hK hG (41 + 3 * q) (by omega) (gc_rk (q := q) (by omega)) rfl) rfl rfl hl.1 rfl (lv_room (Nat.le_of_ble_eq_true rfl)) dX1_rankBest_29 ⟨Nat.le_refl _, Nat.le_refl _⟩) hK hG (fun I_29 L_29 H locs hw_29 hG => ?_)
          have hv : pu_sc T u k 16 = pu_vb T u k := (if_pos b18).symm
          rw [hv] at hw_29
          have hRK := pu_addRK hR hw_29
          refine lv_iinc (v := nI (k + 1)) (lv' := [(3, .int (nI (k + 1))), (0, .ref (ad (41 + 3 * q))), (1, .ref (ad 7)), (2, .int (nI u))]) hx hb dX1_rankBest_32 hl (k := 3) rfl (nI_1 _) (by decide) rfl (fun ls hl => ?_)
          refine lv_goto (tgt := 6) hx hb dX1_rankBest_35 (by decide) ?_
          exact ih6 (k + 1) _ _ _ _ (by omega) (by omega) hRK.1 (fun a ha => ⟨(hRK.2 a ha).1.trans (hf a ha).1, (hRK.2 a ha).2.trans (hf a ha).2⟩) hG ls (lv_sub hl [1, 2, 3, 0] rfl)
  exact lp6 17 0 _ _ _ _ (by omega) (by omega) (pu_RK_0 (by rw [hw_1.1.1]; rfl)) (fun a ha => ⟨hw_1.1.2 a (by omega), rfl⟩) hG ls (lv_sub hl [1, 2, 3, 0] rfl)
