set_option maxHeartbeats 4000000 in
set_option maxRecDepth 100000 in
theorem c_X6_rating (l : Launch) (D : va_G) (ad : Nat → Nat) (tc : Nat → ClassId) (I : Mi) (L : Ml) (T : Tb) (d : Dk) (cur base : Nat) (hσ : repN I (T, d, cur, base)) (ua ia : Int32) : Met l yX6_rating wsX6_rating ({ frames := 1, cells := 0, slots := 0, locals := 22 } : Room) (va_Pc [.ref (ad 0), .int ua, .int ia] (gPc D ad tc I L)) (vp_Si (fun r => sp_rating (T, d, cur, base) ua ia = r)) 0 0 gN := by
  refine g_of (by decide) rfl (Nat.le_of_ble_eq_true rfl) ?_
  intro p e s m below meth c hcx hr hlocks hK hG ls hl
  obtain ⟨hx, hb, hml, hown, hts⟩ := id hcx
  have hl : lv_has ls 3 [(0, .ref (ad 0)), (1, .int ua), (2, .int ia)] := hl
  have hin : sp_in (T, d, cur, base) := hσ.1
  have hTb : pu_tb T := hin.1
  have hT : pN I T := hσ.2.1
  have hd : dkN I = d := hσ.2.2.1
  have hcu : I 0 6 = nI cur := hσ.2.2.2.1
  have hba : I 0 7 = nI base := hσ.2.2.2.2
  have hle1 : base ≤ cur := hin.2.2.1
  have hle2 : cur ≤ base + 40 := hin.2.2.2
  have hp01 : I 1 1 = 0 ∨ I 1 1 = 1 := by have := hin.2.1; rw [← hd] at this; exact this
  refine lv_aload_n hx hb dX6_rating_0 rfl (lv_at hl 0 rfl) ?_
  refine g_get (v := .ref (ad 1)) hx hb hts (by decide +kernel) hown hK hG 0 (by decide) gc_0 rfl 0 (by decide) (hts (.fieldLink RX6 10 "NeighbourScores" "disk" "LNeighbourScores$Disk;") (by decide +kernel)) (fun _ h9 => h9) rfl dX6_rating_1 ?_
  refine g_si (va_runV (As := []) (rest := []) hcx (c_X0_isPowered l D ad tc I L hp01) (cwV 0 hts gX6_rating_X0_isPowered rfl rfl rfl (by decide +kernel) ⟨Nat.le_of_ble_eq_true rfl, Nat.le_of_ble_eq_true rfl⟩) (g_pV hK hG 1 (by decide) gc_1 rfl) rfl rfl hl.1 rfl (lv_room (Nat.le_of_ble_eq_true rfl)) dX6_rating_4 ⟨Nat.le_refl _, Nat.le_refl _⟩) (fun r_4 hw_4 => ?_)
  subst hw_4
  refine lv_if_ne (tgt := 13) hx hb dX6_rating_7 (by decide) (fun c7 => ?_) (fun c7 => ?_)
  · -- 7: jumps
    have hp : ¬ d.2.1 = 0 := by rw [← hd]; exact c7
    have h1 : I 1 1 = 1 := hp01.resolve_left c7
    refine lv_iload_n hx hb dX6_rating_13 rfl (lv_at hl 1 rfl) ?_
    refine g_si (va_runS (As := [.int ua]) (rest := []) hcx (c_X6_isUser l ua) (va_cwS 1 hts gX6_rating_X6_isUser rfl rfl rfl (by decide +kernel) ⟨Nat.le_of_ble_eq_true rfl, Nat.le_of_ble_eq_true rfl⟩) (g_p0) rfl rfl hl.1 rfl (lv_room (Nat.le_of_ble_eq_true rfl)) dX6_rating_14 ⟨Nat.le_refl _, Nat.le_refl _⟩) (fun r_14 hw_14 => ?_)
    rcases hw_14 with ⟨hw_14, rfl⟩ | ⟨hw_14, rfl⟩
    · -- 14: yes
      refine lv_if_eq (tgt := 27) hx hb dX6_rating_17 (by decide) (fun c17 => absurd c17 (by decide)) (fun _ => ?_)
      refine lv_iload_n hx hb dX6_rating_20 rfl (lv_at hl 2 rfl) ?_
      refine g_si (va_runS (As := [.int ia]) (rest := []) hcx (c_X6_isItem l ia) (va_cwS 1 hts gX6_rating_X6_isItem rfl rfl rfl (by decide +kernel) ⟨Nat.le_of_ble_eq_true rfl, Nat.le_of_ble_eq_true rfl⟩) (g_p0) rfl rfl hl.1 rfl (lv_room (Nat.le_of_ble_eq_true rfl)) dX6_rating_21 ⟨Nat.le_refl _, Nat.le_refl _⟩) (fun r_21 hw_21 => ?_)
      rcases hw_21 with ⟨hw_21, rfl⟩ | ⟨hw_21, rfl⟩
      · -- 21: yes
        refine lv_if_ne (tgt := 30) hx hb dX6_rating_24 (by decide) (fun _ => ?_) (fun c24 => absurd c24 (by decide))
        obtain ⟨u, hu, rfl⟩ := hw_14
        obtain ⟨i, hi, rfl⟩ := hw_21
        refine lv_aload_n hx hb dX6_rating_30 rfl (lv_at hl 0 rfl) ?_
        refine g_get (v := .ref (ad 7)) hx hb hts (by decide +kernel) hown hK hG 0 (by decide) gc_0 rfl 3 (by decide) (hts (.fieldLink RX6 33 "NeighbourScores" "ratings" "LNeighbourScores$Ratings;") (by decide +kernel)) (fun _ h9 => h9) rfl dX6_rating_31 ?_
        refine lv_iload_n hx hb dX6_rating_34 rfl (lv_at hl 1 rfl) ?_
        refine lv_iload_n hx hb dX6_rating_35 rfl (lv_at hl 2 rfl) ?_
        refine g_si (va_runV (As := [.int (nI u), .int (nI i)]) (rest := []) hcx (c_X2_at l D ad tc I L T hT u i hu hi) (cwV 2 hts gX6_rating_X2_at rfl rfl rfl (by decide +kernel) ⟨Nat.le_of_ble_eq_true rfl, Nat.le_of_ble_eq_true rfl⟩) (g_pV hK hG 7 (by decide) gc_7 rfl) rfl rfl hl.1 rfl (lv_room (Nat.le_of_ble_eq_true rfl)) dX6_rating_36 ⟨Nat.le_refl _, Nat.le_refl _⟩) (fun r_36 hw_36 => ?_)
        subst hw_36
        exact g_riS hx hb hr hlocks (by unfold sp_rating; rw [if_neg hp, if_neg (sp_ok2 (by decide) (by decide) hu hi), nI_clamp (by omega), nI_clamp (by omega)]) dX6_rating_39
      · -- 21: no
        refine lv_if_ne (tgt := 30) hx hb dX6_rating_24 (by decide) (fun c24 => absurd (by decide) c24) (fun _ => ?_)
        refine lv_bipush (v := -2) hx hb dX6_rating_27 (by decide) ?_
        exact g_riS hx hb hr hlocks (by unfold sp_rating; rw [if_neg hp, if_pos (sp_bad2 (by decide) (by decide) (Or.inr hw_21))]) dX6_rating_29
    · -- 14: no
      refine lv_if_eq (tgt := 27) hx hb dX6_rating_17 (by decide) (fun _ => ?_) (fun c17 => absurd (by decide) c17)
      refine lv_bipush (v := -2) hx hb dX6_rating_27 (by decide) ?_
      exact g_riS hx hb hr hlocks (by unfold sp_rating; rw [if_neg hp, if_pos (sp_bad2 (by decide) (by decide) (Or.inl hw_14))]) dX6_rating_29
  · -- 7: goes on
    have hp0 : d.2.1 = 0 := by rw [← hd]; exact c7
    refine lv_bipush (v := -3) hx hb dX6_rating_10 (by decide) ?_
    exact g_riS hx hb hr hlocks (by unfold sp_rating; rw [if_pos hp0]) dX6_rating_12

set_option maxHeartbeats 4000000 in
set_option maxRecDepth 100000 in
theorem c_X6_weight (l : Launch) (D : va_G) (ad : Nat → Nat) (tc : Nat → ClassId) (I : Mi) (L : Ml) (T : Tb) (d : Dk) (cur base : Nat) (hσ : repN I (T, d, cur, base)) (ia ja : Int32) : Met l yX6_weight wsX6_weight ({ frames := 1, cells := 0, slots := 0, locals := 26 } : Room) (va_Pc [.ref (ad 0), .int ia, .int ja] (gPc D ad tc I L)) (vp_Si (fun r => sp_weight (T, d, cur, base) ia ja = r)) 0 0 gN := by
  refine g_of (by decide) rfl (Nat.le_of_ble_eq_true rfl) ?_
  intro p e s m below meth c hcx hr hlocks hK hG ls hl
  obtain ⟨hx, hb, hml, hown, hts⟩ := id hcx
  have hl : lv_has ls 3 [(0, .ref (ad 0)), (1, .int ia), (2, .int ja)] := hl
  have hin : sp_in (T, d, cur, base) := hσ.1
  have hTb : pu_tb T := hin.1
  have hT : pN I T := hσ.2.1
  have hd : dkN I = d := hσ.2.2.1
  have hcu : I 0 6 = nI cur := hσ.2.2.2.1
  have hba : I 0 7 = nI base := hσ.2.2.2.2
  have hle1 : base ≤ cur := hin.2.2.1
  have hle2 : cur ≤ base + 40 := hin.2.2.2
  have hp01 : I 1 1 = 0 ∨ I 1 1 = 1 := by have := hin.2.1; rw [← hd] at this; exact this
  refine lv_aload_n hx hb dX6_weight_0 rfl (lv_at hl 0 rfl) ?_
  refine g_get (v := .ref (ad 1)) hx hb hts (by decide +kernel) hown hK hG 0 (by decide) gc_0 rfl 0 (by decide) (hts (.fieldLink RX6 10 "NeighbourScores" "disk" "LNeighbourScores$Disk;") (by decide +kernel)) (fun _ h9 => h9) rfl dX6_weight_1 ?_
  refine g_si (va_runV (As := []) (rest := []) hcx (c_X0_isPowered l D ad tc I L hp01) (cwV 0 hts gX6_weight_X0_isPowered rfl rfl rfl (by decide +kernel) ⟨Nat.le_of_ble_eq_true rfl, Nat.le_of_ble_eq_true rfl⟩) (g_pV hK hG 1 (by decide) gc_1 rfl) rfl rfl hl.1 rfl (lv_room (Nat.le_of_ble_eq_true rfl)) dX6_weight_4 ⟨Nat.le_refl _, Nat.le_refl _⟩) (fun r_4 hw_4 => ?_)
  subst hw_4
  refine lv_if_ne (tgt := 13) hx hb dX6_weight_7 (by decide) (fun c7 => ?_) (fun c7 => ?_)
  · -- 7: jumps
    have hp : ¬ d.2.1 = 0 := by rw [← hd]; exact c7
    have h1 : I 1 1 = 1 := hp01.resolve_left c7
    refine lv_iload_n hx hb dX6_weight_13 rfl (lv_at hl 1 rfl) ?_
    refine g_si (va_runS (As := [.int ia]) (rest := []) hcx (c_X6_isItem l ia) (va_cwS 1 hts gX6_weight_X6_isItem rfl rfl rfl (by decide +kernel) ⟨Nat.le_of_ble_eq_true rfl, Nat.le_of_ble_eq_true rfl⟩) (g_p0) rfl rfl hl.1 rfl (lv_room (Nat.le_of_ble_eq_true rfl)) dX6_weight_14 ⟨Nat.le_refl _, Nat.le_refl _⟩) (fun r_14 hw_14 => ?_)
    rcases hw_14 with ⟨hw_14, rfl⟩ | ⟨hw_14, rfl⟩
    · -- 14: yes
      refine lv_if_eq (tgt := 27) hx hb dX6_weight_17 (by decide) (fun c17 => absurd c17 (by decide)) (fun _ => ?_)
      refine lv_iload_n hx hb dX6_weight_20 rfl (lv_at hl 2 rfl) ?_
      refine g_si (va_runS (As := [.int ja]) (rest := []) hcx (c_X6_isItem l ja) (va_cwS 1 hts gX6_weight_X6_isItem rfl rfl rfl (by decide +kernel) ⟨Nat.le_of_ble_eq_true rfl, Nat.le_of_ble_eq_true rfl⟩) (g_p0) rfl rfl hl.1 rfl (lv_room (Nat.le_of_ble_eq_true rfl)) dX6_weight_21 ⟨Nat.le_refl _, Nat.le_refl _⟩) (fun r_21 hw_21 => ?_)
      rcases hw_21 with ⟨hw_21, rfl⟩ | ⟨hw_21, rfl⟩
      · -- 21: yes
        refine lv_if_ne (tgt := 30) hx hb dX6_weight_24 (by decide) (fun _ => ?_) (fun c24 => absurd c24 (by decide))
        obtain ⟨i, hi, rfl⟩ := hw_14
        obtain ⟨j, hj, rfl⟩ := hw_21
        refine lv_aload_n hx hb dX6_weight_30 rfl (lv_at hl 0 rfl) ?_
        refine g_get (v := .ref (ad 7)) hx hb hts (by decide +kernel) hown hK hG 0 (by decide) gc_0 rfl 3 (by decide) (hts (.fieldLink RX6 33 "NeighbourScores" "ratings" "LNeighbourScores$Ratings;") (by decide +kernel)) (fun _ h9 => h9) rfl dX6_weight_31 ?_
        refine lv_iload_n hx hb dX6_weight_34 rfl (lv_at hl 1 rfl) ?_
        refine lv_iload_n hx hb dX6_weight_35 rfl (lv_at hl 2 rfl) ?_
        refine g_si (va_runV (As := [.int (nI i), .int (nI j)]) (rest := []) hcx (c_X2_weightOf l D ad tc I L T hT i j hi hj) (cwV 2 hts gX6_weight_X2_weightOf rfl rfl rfl (by decide +kernel) ⟨Nat.le_of_ble_eq_true rfl, Nat.le_of_ble_eq_true rfl⟩) (g_pV hK hG 7 (by decide) gc_7 rfl) rfl rfl hl.1 rfl (lv_room (Nat.le_of_ble_eq_true rfl)) dX6_weight_36 ⟨Nat.le_refl _, Nat.le_refl _⟩) (fun r_36 hw_36 => ?_)
        subst hw_36
        exact g_riS hx hb hr hlocks (by unfold sp_weight; rw [if_neg hp, if_neg (sp_ok2 (by decide) (by decide) hi hj), nI_clamp (by omega), nI_clamp (by omega)]) dX6_weight_39
      · -- 21: no
        refine lv_if_ne (tgt := 30) hx hb dX6_weight_24 (by decide) (fun c24 => absurd (by decide) c24) (fun _ => ?_)
        refine lv_bipush (v := -2) hx hb dX6_weight_27 (by decide) ?_
        exact g_riS hx hb hr hlocks (by unfold sp_weight; rw [if_neg hp, if_pos (sp_bad2 (by decide) (by decide) (Or.inr hw_21))]) dX6_weight_29
    · -- 14: no
      refine lv_if_eq (tgt := 27) hx hb dX6_weight_17 (by decide) (fun _ => ?_) (fun c17 => absurd (by decide) c17)
      refine lv_bipush (v := -2) hx hb dX6_weight_27 (by decide) ?_
      exact g_riS hx hb hr hlocks (by unfold sp_weight; rw [if_neg hp, if_pos (sp_bad2 (by decide) (by decide) (Or.inl hw_14))]) dX6_weight_29
  · -- 7: goes on
    have hp0 : d.2.1 = 0 := by rw [← hd]; exact c7
    refine lv_bipush (v := -3) hx hb dX6_weight_10 (by decide) ?_
    exact g_riS hx hb hr hlocks (by unfold sp_weight; rw [if_pos hp0]) dX6_weight_12

set_option maxHeartbeats 4000000 in
set_option maxRecDepth 100000 in
theorem c_X6_score (l : Launch) (D : va_G) (ad : Nat → Nat) (tc : Nat → ClassId) (I : Mi) (L : Ml) (T : Tb) (d : Dk) (cur base : Nat) (hσ : repN I (T, d, cur, base)) (ua ia : Int32) : Met l yX6_score wsX6_score ({ frames := 3, cells := 0, slots := 0, locals := 74 } : Room) (va_Pc [.ref (ad 0), .int ua, .int ia] (gPc D ad tc I L)) (vp_Sl (fun r => sp_score (T, d, cur, base) ua ia = r)) 0 0 gN := by
  refine g_of (by decide) rfl (Nat.le_of_ble_eq_true rfl) ?_
  intro p e s m below meth c hcx hr hlocks hK hG ls hl
  obtain ⟨hx, hb, hml, hown, hts⟩ := id hcx
  have hl : lv_has ls 3 [(0, .ref (ad 0)), (1, .int ua), (2, .int ia)] := hl
  have hin : sp_in (T, d, cur, base) := hσ.1
  have hTb : pu_tb T := hin.1
  have hT : pN I T := hσ.2.1
  have hd : dkN I = d := hσ.2.2.1
  have hcu : I 0 6 = nI cur := hσ.2.2.2.1
  have hba : I 0 7 = nI base := hσ.2.2.2.2
  have hle1 : base ≤ cur := hin.2.2.1
  have hle2 : cur ≤ base + 40 := hin.2.2.2
  have hp01 : I 1 1 = 0 ∨ I 1 1 = 1 := by have := hin.2.1; rw [← hd] at this; exact this
  refine lv_aload_n hx hb dX6_score_0 rfl (lv_at hl 0 rfl) ?_
  refine g_get (v := .ref (ad 1)) hx hb hts (by decide +kernel) hown hK hG 0 (by decide) gc_0 rfl 0 (by decide) (hts (.fieldLink RX6 10 "NeighbourScores" "disk" "LNeighbourScores$Disk;") (by decide +kernel)) (fun _ h9 => h9) rfl dX6_score_1 ?_
  refine g_si (va_runV (As := []) (rest := []) hcx (c_X0_isPowered l D ad tc I L hp01) (cwV 0 hts gX6_score_X0_isPowered rfl rfl rfl (by decide +kernel) ⟨Nat.le_of_ble_eq_true rfl, Nat.le_of_ble_eq_true rfl⟩) (g_pV hK hG 1 (by decide) gc_1 rfl) rfl rfl hl.1 rfl (lv_room (Nat.le_of_ble_eq_true rfl)) dX6_score_4 ⟨Nat.le_refl _, Nat.le_refl _⟩) (fun r_4 hw_4 => ?_)
  subst hw_4
  refine lv_if_ne (tgt := 14) hx hb dX6_score_7 (by decide) (fun c7 => ?_) (fun c7 => ?_)
  · -- 7: jumps
    have hp : ¬ d.2.1 = 0 := by rw [← hd]; exact c7
    have h1 : I 1 1 = 1 := hp01.resolve_left c7
    refine lv_iload_n hx hb dX6_score_14 rfl (lv_at hl 1 rfl) ?_
    refine g_si (va_runS (As := [.int ua]) (rest := []) hcx (c_X6_isUser l ua) (va_cwS 1 hts gX6_score_X6_isUser rfl rfl rfl (by decide +kernel) ⟨Nat.le_of_ble_eq_true rfl, Nat.le_of_ble_eq_true rfl⟩) (g_p0) rfl rfl hl.1 rfl (lv_room (Nat.le_of_ble_eq_true rfl)) dX6_score_15 ⟨Nat.le_refl _, Nat.le_refl _⟩) (fun r_15 hw_15 => ?_)
    rcases hw_15 with ⟨hw_15, rfl⟩ | ⟨hw_15, rfl⟩
    · -- 15: yes
      refine lv_if_eq (tgt := 28) hx hb dX6_score_18 (by decide) (fun c18 => absurd c18 (by decide)) (fun _ => ?_)
      refine lv_iload_n hx hb dX6_score_21 rfl (lv_at hl 2 rfl) ?_
      refine g_si (va_runS (As := [.int ia]) (rest := []) hcx (c_X6_isItem l ia) (va_cwS 1 hts gX6_score_X6_isItem rfl rfl rfl (by decide +kernel) ⟨Nat.le_of_ble_eq_true rfl, Nat.le_of_ble_eq_true rfl⟩) (g_p0) rfl rfl hl.1 rfl (lv_room (Nat.le_of_ble_eq_true rfl)) dX6_score_22 ⟨Nat.le_refl _, Nat.le_refl _⟩) (fun r_22 hw_22 => ?_)
      rcases hw_22 with ⟨hw_22, rfl⟩ | ⟨hw_22, rfl⟩
      · -- 22: yes
        refine lv_if_ne (tgt := 32) hx hb dX6_score_25 (by decide) (fun _ => ?_) (fun c25 => absurd c25 (by decide))
        obtain ⟨u, hu, rfl⟩ := hw_15
        obtain ⟨i, hi, rfl⟩ := hw_22
        refine lv_aload_n hx hb dX6_score_32 rfl (lv_at hl 0 rfl) ?_
        refine g_get (v := .ref (ad 7)) hx hb hts (by decide +kernel) hown hK hG 0 (by decide) gc_0 rfl 3 (by decide) (hts (.fieldLink RX6 33 "NeighbourScores" "ratings" "LNeighbourScores$Ratings;") (by decide +kernel)) (fun _ h9 => h9) rfl dX6_score_33 ?_
        refine lv_iload_n hx hb dX6_score_36 rfl (lv_at hl 1 rfl) ?_
        refine lv_iload_n hx hb dX6_score_37 rfl (lv_at hl 2 rfl) ?_
        refine g_sl (va_runV (As := [.int (nI u), .int (nI i)]) (rest := []) hcx (c_X2_scoreOf l D ad tc I L T hT u i hu hi) (cwV 2 hts gX6_score_X2_scoreOf rfl rfl rfl (by decide +kernel) ⟨Nat.le_of_ble_eq_true rfl, Nat.le_of_ble_eq_true rfl⟩) (g_pV hK hG 7 (by decide) gc_7 rfl) rfl rfl hl.1 rfl (lv_room (Nat.le_of_ble_eq_true rfl)) dX6_score_38 ⟨Nat.le_refl _, Nat.le_refl _⟩) (fun r_38 hw_38 => ?_)
        subst hw_38
        exact g_rlS hx hb hr hlocks (by unfold sp_score; rw [if_neg hp, if_neg (sp_ok2 (by decide) (by decide) hu hi), nI_clamp (by omega), nI_clamp (by omega)]) dX6_score_41
      · -- 22: no
        refine lv_if_ne (tgt := 32) hx hb dX6_score_25 (by decide) (fun c25 => absurd (by decide) c25) (fun _ => ?_)
        refine lv_ldc2 hx hb (v := (-2)) hown (hts (.constantLong RX6 123 (-2)) (by decide +kernel)) dX6_score_28 ?_
        exact g_rlS hx hb hr hlocks (by unfold sp_score; rw [if_neg hp, if_pos (sp_bad2 (by decide) (by decide) (Or.inr hw_22))]) dX6_score_31
    · -- 15: no
      refine lv_if_eq (tgt := 28) hx hb dX6_score_18 (by decide) (fun _ => ?_) (fun c18 => absurd (by decide) c18)
      refine lv_ldc2 hx hb (v := (-2)) hown (hts (.constantLong RX6 123 (-2)) (by decide +kernel)) dX6_score_28 ?_
      exact g_rlS hx hb hr hlocks (by unfold sp_score; rw [if_neg hp, if_pos (sp_bad2 (by decide) (by decide) (Or.inl hw_15))]) dX6_score_31
  · -- 7: goes on
    have hp0 : d.2.1 = 0 := by rw [← hd]; exact c7
    refine lv_ldc2 hx hb (v := (-3)) hown (hts (.constantLong RX6 121 (-3)) (by decide +kernel)) dX6_score_10 ?_
    exact g_rlS hx hb hr hlocks (by unfold sp_score; rw [if_pos hp0]) dX6_score_13

set_option maxHeartbeats 4000000 in
set_option maxRecDepth 100000 in
theorem c_X6_share (l : Launch) (D : va_G) (ad : Nat → Nat) (tc : Nat → ClassId) (I : Mi) (L : Ml) (T : Tb) (d : Dk) (cur base : Nat) (hσ : repN I (T, d, cur, base)) (ua ia ja : Int32) : Met l yX6_share wsX6_share ({ frames := 2, cells := 0, slots := 0, locals := 49 } : Room) (va_Pc [.ref (ad 0), .int ua, .int ia, .int ja] (gPc D ad tc I L)) (vp_Sl (fun r => sp_share (T, d, cur, base) ua ia ja = r)) 0 0 gN := by
  refine g_of (by decide) rfl (Nat.le_of_ble_eq_true rfl) ?_
  intro p e s m below meth c hcx hr hlocks hK hG ls hl
  obtain ⟨hx, hb, hml, hown, hts⟩ := id hcx
  have hl : lv_has ls 4 [(0, .ref (ad 0)), (1, .int ua), (2, .int ia), (3, .int ja)] := hl
  have hin : sp_in (T, d, cur, base) := hσ.1
  have hTb : pu_tb T := hin.1
  have hT : pN I T := hσ.2.1
  have hd : dkN I = d := hσ.2.2.1
  have hcu : I 0 6 = nI cur := hσ.2.2.2.1
  have hba : I 0 7 = nI base := hσ.2.2.2.2
  have hle1 : base ≤ cur := hin.2.2.1
  have hle2 : cur ≤ base + 40 := hin.2.2.2
  have hp01 : I 1 1 = 0 ∨ I 1 1 = 1 := by have := hin.2.1; rw [← hd] at this; exact this
  refine lv_aload_n hx hb dX6_share_0 rfl (lv_at hl 0 rfl) ?_
  refine g_get (v := .ref (ad 1)) hx hb hts (by decide +kernel) hown hK hG 0 (by decide) gc_0 rfl 0 (by decide) (hts (.fieldLink RX6 10 "NeighbourScores" "disk" "LNeighbourScores$Disk;") (by decide +kernel)) (fun _ h9 => h9) rfl dX6_share_1 ?_
  refine g_si (va_runV (As := []) (rest := []) hcx (c_X0_isPowered l D ad tc I L hp01) (cwV 0 hts gX6_share_X0_isPowered rfl rfl rfl (by decide +kernel) ⟨Nat.le_of_ble_eq_true rfl, Nat.le_of_ble_eq_true rfl⟩) (g_pV hK hG 1 (by decide) gc_1 rfl) rfl rfl hl.1 rfl (lv_room (Nat.le_of_ble_eq_true rfl)) dX6_share_4 ⟨Nat.le_refl _, Nat.le_refl _⟩) (fun r_4 hw_4 => ?_)
  subst hw_4
  refine lv_if_ne (tgt := 14) hx hb dX6_share_7 (by decide) (fun c7 => ?_) (fun c7 => ?_)
  · -- 7: jumps
    have hp : ¬ d.2.1 = 0 := by rw [← hd]; exact c7
    have h1 : I 1 1 = 1 := hp01.resolve_left c7
    refine lv_iload_n hx hb dX6_share_14 rfl (lv_at hl 1 rfl) ?_
    refine g_si (va_runS (As := [.int ua]) (rest := []) hcx (c_X6_isUser l ua) (va_cwS 1 hts gX6_share_X6_isUser rfl rfl rfl (by decide +kernel) ⟨Nat.le_of_ble_eq_true rfl, Nat.le_of_ble_eq_true rfl⟩) (g_p0) rfl rfl hl.1 rfl (lv_room (Nat.le_of_ble_eq_true rfl)) dX6_share_15 ⟨Nat.le_refl _, Nat.le_refl _⟩) (fun r_15 hw_15 => ?_)
    rcases hw_15 with ⟨hw_15, rfl⟩ | ⟨hw_15, rfl⟩
    · -- 15: yes
      refine lv_if_eq (tgt := 35) hx hb dX6_share_18 (by decide) (fun c18 => absurd c18 (by decide)) (fun _ => ?_)
      refine lv_iload_n hx hb dX6_share_21 rfl (lv_at hl 2 rfl) ?_
      refine g_si (va_runS (As := [.int ia]) (rest := []) hcx (c_X6_isItem l ia) (va_cwS 1 hts gX6_share_X6_isItem rfl rfl rfl (by decide +kernel) ⟨Nat.le_of_ble_eq_true rfl, Nat.le_of_ble_eq_true rfl⟩) (g_p0) rfl rfl hl.1 rfl (lv_room (Nat.le_of_ble_eq_true rfl)) dX6_share_22 ⟨Nat.le_refl _, Nat.le_refl _⟩) (fun r_22 hw_22 => ?_)
      rcases hw_22 with ⟨hw_22, rfl⟩ | ⟨hw_22, rfl⟩
      · -- 22: yes
        refine lv_if_eq (tgt := 35) hx hb dX6_share_25 (by decide) (fun c25 => absurd c25 (by decide)) (fun _ => ?_)
        refine lv_iload_n hx hb dX6_share_28 rfl (lv_at hl 3 rfl) ?_
        refine g_si (va_runS (As := [.int ja]) (rest := []) hcx (c_X6_isItem l ja) (va_cwS 1 hts gX6_share_X6_isItem rfl rfl rfl (by decide +kernel) ⟨Nat.le_of_ble_eq_true rfl, Nat.le_of_ble_eq_true rfl⟩) (g_p0) rfl rfl hl.1 rfl (lv_room (Nat.le_of_ble_eq_true rfl)) dX6_share_29 ⟨Nat.le_refl _, Nat.le_refl _⟩) (fun r_29 hw_29 => ?_)
        rcases hw_29 with ⟨hw_29, rfl⟩ | ⟨hw_29, rfl⟩
        · -- 29: yes
          refine lv_if_ne (tgt := 39) hx hb dX6_share_32 (by decide) (fun _ => ?_) (fun c32 => absurd c32 (by decide))
          obtain ⟨u, hu, rfl⟩ := hw_15
          obtain ⟨i, hi, rfl⟩ := hw_22
          obtain ⟨j, hj, rfl⟩ := hw_29
          refine lv_aload_n hx hb dX6_share_39 rfl (lv_at hl 0 rfl) ?_
          refine g_get (v := .ref (ad 7)) hx hb hts (by decide +kernel) hown hK hG 0 (by decide) gc_0 rfl 3 (by decide) (hts (.fieldLink RX6 33 "NeighbourScores" "ratings" "LNeighbourScores$Ratings;") (by decide +kernel)) (fun _ h9 => h9) rfl dX6_share_40 ?_
          refine lv_iload_n hx hb dX6_share_43 rfl (lv_at hl 1 rfl) ?_
          refine lv_iload_n hx hb dX6_share_44 rfl (lv_at hl 2 rfl) ?_
          refine lv_iload_n hx hb dX6_share_45 rfl (lv_at hl 3 rfl) ?_
          refine g_sl (va_runV (As := [.int (nI u), .int (nI i), .int (nI j)]) (rest := []) hcx (c_X2_shareOf l D ad tc I L T hT u i j hu hi hj) (cwV 3 hts gX6_share_X2_shareOf rfl rfl rfl (by decide +kernel) ⟨Nat.le_of_ble_eq_true rfl, Nat.le_of_ble_eq_true rfl⟩) (g_pV hK hG 7 (by decide) gc_7 rfl) rfl rfl hl.1 rfl (lv_room (Nat.le_of_ble_eq_true rfl)) dX6_share_46 ⟨Nat.le_refl _, Nat.le_refl _⟩) (fun r_46 hw_46 => ?_)
          subst hw_46
          exact g_rlS hx hb hr hlocks (by unfold sp_share; rw [if_neg hp, if_neg (sp_ok3s hu hi hj), nI_clamp (by omega), nI_clamp (by omega), nI_clamp (by omega)]) dX6_share_49
        · -- 29: no
          refine lv_if_ne (tgt := 39) hx hb dX6_share_32 (by decide) (fun c32 => absurd (by decide) c32) (fun _ => ?_)
          refine lv_ldc2 hx hb (v := (-2)) hown (hts (.constantLong RX6 123 (-2)) (by decide +kernel)) dX6_share_35 ?_
          exact g_rlS hx hb hr hlocks (by unfold sp_share; rw [if_neg hp, if_pos (sp_bad3s (Or.inr (Or.inr hw_29)))]) dX6_share_38
      · -- 22: no
        refine lv_if_eq (tgt := 35) hx hb dX6_share_25 (by decide) (fun _ => ?_) (fun c25 => absurd (by decide) c25)
        refine lv_ldc2 hx hb (v := (-2)) hown (hts (.constantLong RX6 123 (-2)) (by decide +kernel)) dX6_share_35 ?_
        exact g_rlS hx hb hr hlocks (by unfold sp_share; rw [if_neg hp, if_pos (sp_bad3s (Or.inr (Or.inl hw_22)))]) dX6_share_38
    · -- 15: no
      refine lv_if_eq (tgt := 35) hx hb dX6_share_18 (by decide) (fun _ => ?_) (fun c18 => absurd (by decide) c18)
      refine lv_ldc2 hx hb (v := (-2)) hown (hts (.constantLong RX6 123 (-2)) (by decide +kernel)) dX6_share_35 ?_
      exact g_rlS hx hb hr hlocks (by unfold sp_share; rw [if_neg hp, if_pos (sp_bad3s (Or.inl hw_15))]) dX6_share_38
  · -- 7: goes on
    have hp0 : d.2.1 = 0 := by rw [← hd]; exact c7
    refine lv_ldc2 hx hb (v := (-3)) hown (hts (.constantLong RX6 121 (-3)) (by decide +kernel)) dX6_share_10 ?_
    exact g_rlS hx hb hr hlocks (by unfold sp_share; rw [if_pos hp0]) dX6_share_13

set_option maxHeartbeats 4000000 in
set_option maxRecDepth 100000 in
theorem c_X6_neighbour (l : Launch) (D : va_G) (ad : Nat → Nat) (tc : Nat → ClassId) (I : Mi) (L : Ml) (T : Tb) (d : Dk) (cur base : Nat) (hσ : repN I (T, d, cur, base)) (ja pa : Int32) : Met l yX6_neighbour wsX6_neighbour ({ frames := 2, cells := 0, slots := 0, locals := 49 } : Room) (va_Pc [.ref (ad 0), .int ja, .int pa] (gPc D ad tc I L)) (gQi D ad tc (fun z I1 L1 => sp_neighbour (T, d, cur, base) ja pa = z ∧ repN I1 (T, d, cur, base) ∧ ∀ a, 92 ≤ a → I1 a = I a)) 0 0 (gA ad) := by
  refine g_of (by decide) rfl (Nat.le_of_ble_eq_true rfl) ?_
  intro p e s m below meth c hcx hr hlocks hK hG ls hl
  obtain ⟨hx, hb, hml, hown, hts⟩ := id hcx
  have hl : lv_has ls 3 [(0, .ref (ad 0)), (1, .int ja), (2, .int pa)] := hl
  have hin : sp_in (T, d, cur, base) := hσ.1
  have hTb : pu_tb T := hin.1
  have hT : pN I T := hσ.2.1
  have hd : dkN I = d := hσ.2.2.1
  have hcu : I 0 6 = nI cur := hσ.2.2.2.1
  have hba : I 0 7 = nI base := hσ.2.2.2.2
  have hle1 : base ≤ cur := hin.2.2.1
  have hle2 : cur ≤ base + 40 := hin.2.2.2
  have hp01 : I 1 1 = 0 ∨ I 1 1 = 1 := by have := hin.2.1; rw [← hd] at this; exact this
  refine lv_aload_n hx hb dX6_neighbour_0 rfl (lv_at hl 0 rfl) ?_
  refine g_get (v := .ref (ad 1)) hx hb hts (by decide +kernel) hown hK hG 0 (by decide) gc_0 rfl 0 (by decide) (hts (.fieldLink RX6 10 "NeighbourScores" "disk" "LNeighbourScores$Disk;") (by decide +kernel)) (fun _ h9 => h9) rfl dX6_neighbour_1 ?_
  refine g_si (va_runV (As := []) (rest := []) hcx (c_X0_isPowered l D ad tc I L hp01) (cwV 0 hts gX6_neighbour_X0_isPowered rfl rfl rfl (by decide +kernel) ⟨Nat.le_of_ble_eq_true rfl, Nat.le_of_ble_eq_true rfl⟩) (g_pV hK hG 1 (by decide) gc_1 rfl) rfl rfl hl.1 rfl (lv_room (Nat.le_of_ble_eq_true rfl)) dX6_neighbour_4 ⟨Nat.le_refl _, Nat.le_refl _⟩) (fun r_4 hw_4 => ?_)
  subst hw_4
  refine lv_if_ne (tgt := 13) hx hb dX6_neighbour_7 (by decide) (fun c7 => ?_) (fun c7 => ?_)
  · -- 7: jumps
    have hp : ¬ d.2.1 = 0 := by rw [← hd]; exact c7
    have h1 : I 1 1 = 1 := hp01.resolve_left c7
    refine lv_iload_n hx hb dX6_neighbour_13 rfl (lv_at hl 1 rfl) ?_
    refine g_si (va_runS (As := [.int ja]) (rest := []) hcx (c_X6_isItem l ja) (va_cwS 1 hts gX6_neighbour_X6_isItem rfl rfl rfl (by decide +kernel) ⟨Nat.le_of_ble_eq_true rfl, Nat.le_of_ble_eq_true rfl⟩) (g_p0) rfl rfl hl.1 rfl (lv_room (Nat.le_of_ble_eq_true rfl)) dX6_neighbour_14 ⟨Nat.le_refl _, Nat.le_refl _⟩) (fun r_14 hw_14 => ?_)
    rcases hw_14 with ⟨hw_14, rfl⟩ | ⟨hw_14, rfl⟩
    · -- 14: yes
      refine lv_if_ne (tgt := 23) hx hb dX6_neighbour_17 (by decide) (fun _ => ?_) (fun c17 => absurd c17 (by decide))
      obtain ⟨j, hj, rfl⟩ := hw_14
      refine lv_aload_n hx hb dX6_neighbour_23 rfl (lv_at hl 0 rfl) ?_
      refine g_get (v := .ref (ad 89)) hx hb hts (by decide +kernel) hown hK hG 0 (by decide) gc_0 rfl 4 (by decide) (hts (.fieldLink RX6 40 "NeighbourScores" "ranking" "LNeighbourScores$Ranking;") (by decide +kernel)) (fun _ h9 => h9) rfl dX6_neighbour_24 ?_
      refine lv_aload_n hx hb dX6_neighbour_27 rfl (lv_at hl 0 rfl) ?_
      refine g_get (v := .ref (ad 7)) hx hb hts (by decide +kernel) hown hK hG 0 (by decide) gc_0 rfl 3 (by decide) (hts (.fieldLink RX6 33 "NeighbourScores" "ratings" "LNeighbourScores$Ratings;") (by decide +kernel)) (fun _ h9 => h9) rfl dX6_neighbour_28 ?_
      refine lv_iload_n hx hb dX6_neighbour_31 rfl (lv_at hl 1 rfl) ?_
      refine g_cv (va_runV (As := [.ref (ad 7), .int (nI j)]) (rest := []) hcx (c_X1_rankNeighbours l D ad tc I L 16 (by decide) T hT j hj) (cwV 2 hts gX6_neighbour_X1_rankNeighbours rfl rfl rfl (by decide +kernel) ⟨Nat.le_of_ble_eq_true rfl, Nat.le_of_ble_eq_true rfl⟩) (g_pV hK hG 89 (by decide) (gc_rk (q := 16) (by decide)) rfl) rfl rfl hl.1 rfl (lv_room (Nat.le_of_ble_eq_true rfl)) dX6_neighbour_32 ⟨Nat.le_refl _, Nat.le_refl _⟩) hK hG (fun I_32 L_32 H locs hw_32 hG => ?_)
      refine lv_aload_n hx hb dX6_neighbour_35 rfl (lv_at hl 0 rfl) ?_
      refine g_get (v := .ref (ad 89)) hx hb hts (by decide +kernel) hown hK hG 0 (by decide) gc_0 rfl 4 (by decide) (hts (.fieldLink RX6 40 "NeighbourScores" "ranking" "LNeighbourScores$Ranking;") (by decide +kernel)) (fun _ h9 => h9) rfl dX6_neighbour_36 ?_
      refine lv_iload_n hx hb dX6_neighbour_39 rfl (lv_at hl 2 rfl) ?_
      refine g_si (va_runV (As := [.int pa]) (rest := []) hcx (c_X1_itemAt l D ad tc I_32 L_32 16 (by decide) pa (pu_vn T j) hw_32.1) (cwV 1 hts gX6_neighbour_X1_itemAt rfl rfl rfl (by decide +kernel) ⟨Nat.le_of_ble_eq_true rfl, Nat.le_of_ble_eq_true rfl⟩) (g_pV hK hG 89 (by decide) (gc_rk (q := 16) (by decide)) rfl) rfl rfl hl.1 rfl (lv_room (Nat.le_of_ble_eq_true rfl)) dX6_neighbour_40 ⟨Nat.le_refl _, Nat.le_refl _⟩) (fun r_40 hw_40 => ?_)
      exact g_ri hx hb hr hlocks hG ⟨by unfold sp_neighbour; rw [if_neg hp, if_neg (sp_ok1 (by decide) hj), nI_clamp (by omega)]; exact hw_40, repN_mem hσ (fun a ha => (hw_32.2 a (by omega)).1), fun a ha => (hw_32.2 a (by omega)).1⟩ dX6_neighbour_43
    · -- 14: no
      refine lv_if_ne (tgt := 23) hx hb dX6_neighbour_17 (by decide) (fun c17 => absurd (by decide) c17) (fun _ => ?_)
      refine lv_bipush (v := -2) hx hb dX6_neighbour_20 (by decide) ?_
      exact g_ri hx hb hr hlocks hG ⟨by unfold sp_neighbour; rw [if_neg hp, if_pos (bR_f hw_14 (by decide))], hσ, fun _ _ => rfl⟩ dX6_neighbour_22
  · -- 7: goes on
    have hp0 : d.2.1 = 0 := by rw [← hd]; exact c7
    refine lv_bipush (v := -3) hx hb dX6_neighbour_10 (by decide) ?_
    exact g_ri hx hb hr hlocks hG ⟨by unfold sp_neighbour; rw [if_pos hp0], hσ, fun _ _ => rfl⟩ dX6_neighbour_12

set_option maxHeartbeats 4000000 in
set_option maxRecDepth 100000 in
theorem c_X6_best (l : Launch) (D : va_G) (ad : Nat → Nat) (tc : Nat → ClassId) (I : Mi) (L : Ml) (T : Tb) (d : Dk) (cur base : Nat) (hσ : repN I (T, d, cur, base)) (ua pa : Int32) : Met l yX6_best wsX6_best ({ frames := 4, cells := 0, slots := 0, locals := 97 } : Room) (va_Pc [.ref (ad 0), .int ua, .int pa] (gPc D ad tc I L)) (gQi D ad tc (fun z I1 L1 => sp_best (T, d, cur, base) ua pa = z ∧ repN I1 (T, d, cur, base) ∧ ∀ a, 92 ≤ a → I1 a = I a)) 0 0 (gA ad) := by
  refine g_of (by decide) rfl (Nat.le_of_ble_eq_true rfl) ?_
  intro p e s m below meth c hcx hr hlocks hK hG ls hl
  obtain ⟨hx, hb, hml, hown, hts⟩ := id hcx
  have hl : lv_has ls 3 [(0, .ref (ad 0)), (1, .int ua), (2, .int pa)] := hl
  have hin : sp_in (T, d, cur, base) := hσ.1
  have hTb : pu_tb T := hin.1
  have hT : pN I T := hσ.2.1
  have hd : dkN I = d := hσ.2.2.1
  have hcu : I 0 6 = nI cur := hσ.2.2.2.1
  have hba : I 0 7 = nI base := hσ.2.2.2.2
  have hle1 : base ≤ cur := hin.2.2.1
  have hle2 : cur ≤ base + 40 := hin.2.2.2
  have hp01 : I 1 1 = 0 ∨ I 1 1 = 1 := by have := hin.2.1; rw [← hd] at this; exact this
  refine lv_aload_n hx hb dX6_best_0 rfl (lv_at hl 0 rfl) ?_
  refine g_get (v := .ref (ad 1)) hx hb hts (by decide +kernel) hown hK hG 0 (by decide) gc_0 rfl 0 (by decide) (hts (.fieldLink RX6 10 "NeighbourScores" "disk" "LNeighbourScores$Disk;") (by decide +kernel)) (fun _ h9 => h9) rfl dX6_best_1 ?_
  refine g_si (va_runV (As := []) (rest := []) hcx (c_X0_isPowered l D ad tc I L hp01) (cwV 0 hts gX6_best_X0_isPowered rfl rfl rfl (by decide +kernel) ⟨Nat.le_of_ble_eq_true rfl, Nat.le_of_ble_eq_true rfl⟩) (g_pV hK hG 1 (by decide) gc_1 rfl) rfl rfl hl.1 rfl (lv_room (Nat.le_of_ble_eq_true rfl)) dX6_best_4 ⟨Nat.le_refl _, Nat.le_refl _⟩) (fun r_4 hw_4 => ?_)
  subst hw_4
  refine lv_if_ne (tgt := 13) hx hb dX6_best_7 (by decide) (fun c7 => ?_) (fun c7 => ?_)
  · -- 7: jumps
    have hp : ¬ d.2.1 = 0 := by rw [← hd]; exact c7
    have h1 : I 1 1 = 1 := hp01.resolve_left c7
    refine lv_iload_n hx hb dX6_best_13 rfl (lv_at hl 1 rfl) ?_
    refine g_si (va_runS (As := [.int ua]) (rest := []) hcx (c_X6_isUser l ua) (va_cwS 1 hts gX6_best_X6_isUser rfl rfl rfl (by decide +kernel) ⟨Nat.le_of_ble_eq_true rfl, Nat.le_of_ble_eq_true rfl⟩) (g_p0) rfl rfl hl.1 rfl (lv_room (Nat.le_of_ble_eq_true rfl)) dX6_best_14 ⟨Nat.le_refl _, Nat.le_refl _⟩) (fun r_14 hw_14 => ?_)
    rcases hw_14 with ⟨hw_14, rfl⟩ | ⟨hw_14, rfl⟩
    · -- 14: yes
      refine lv_if_ne (tgt := 23) hx hb dX6_best_17 (by decide) (fun _ => ?_) (fun c17 => absurd c17 (by decide))
      obtain ⟨u, hu, rfl⟩ := hw_14
      refine lv_aload_n hx hb dX6_best_23 rfl (lv_at hl 0 rfl) ?_
      refine g_get (v := .ref (ad 89)) hx hb hts (by decide +kernel) hown hK hG 0 (by decide) gc_0 rfl 4 (by decide) (hts (.fieldLink RX6 40 "NeighbourScores" "ranking" "LNeighbourScores$Ranking;") (by decide +kernel)) (fun _ h9 => h9) rfl dX6_best_24 ?_
      refine lv_aload_n hx hb dX6_best_27 rfl (lv_at hl 0 rfl) ?_
      refine g_get (v := .ref (ad 7)) hx hb hts (by decide +kernel) hown hK hG 0 (by decide) gc_0 rfl 3 (by decide) (hts (.fieldLink RX6 33 "NeighbourScores" "ratings" "LNeighbourScores$Ratings;") (by decide +kernel)) (fun _ h9 => h9) rfl dX6_best_28 ?_
      refine lv_iload_n hx hb dX6_best_31 rfl (lv_at hl 1 rfl) ?_
      refine g_cv (va_runV (As := [.ref (ad 7), .int (nI u)]) (rest := []) hcx (c_X1_rankBest l D ad tc I L 16 (by decide) T hT u hu) (cwV 2 hts gX6_best_X1_rankBest rfl rfl rfl (by decide +kernel) ⟨Nat.le_of_ble_eq_true rfl, Nat.le_of_ble_eq_true rfl⟩) (g_pV hK hG 89 (by decide) (gc_rk (q := 16) (by decide)) rfl) rfl rfl hl.1 rfl (lv_room (Nat.le_of_ble_eq_true rfl)) dX6_best_32 ⟨Nat.le_refl _, Nat.le_refl _⟩) hK hG (fun I_32 L_32 H locs hw_32 hG => ?_)
      refine lv_aload_n hx hb dX6_best_35 rfl (lv_at hl 0 rfl) ?_
      refine g_get (v := .ref (ad 89)) hx hb hts (by decide +kernel) hown hK hG 0 (by decide) gc_0 rfl 4 (by decide) (hts (.fieldLink RX6 40 "NeighbourScores" "ranking" "LNeighbourScores$Ranking;") (by decide +kernel)) (fun _ h9 => h9) rfl dX6_best_36 ?_
      refine lv_iload_n hx hb dX6_best_39 rfl (lv_at hl 2 rfl) ?_
      refine g_si (va_runV (As := [.int pa]) (rest := []) hcx (c_X1_itemAt l D ad tc I_32 L_32 16 (by decide) pa (pu_vb T u) hw_32.1) (cwV 1 hts gX6_best_X1_itemAt rfl rfl rfl (by decide +kernel) ⟨Nat.le_of_ble_eq_true rfl, Nat.le_of_ble_eq_true rfl⟩) (g_pV hK hG 89 (by decide) (gc_rk (q := 16) (by decide)) rfl) rfl rfl hl.1 rfl (lv_room (Nat.le_of_ble_eq_true rfl)) dX6_best_40 ⟨Nat.le_refl _, Nat.le_refl _⟩) (fun r_40 hw_40 => ?_)
      exact g_ri hx hb hr hlocks hG ⟨by unfold sp_best; rw [if_neg hp, if_neg (sp_ok1 (by decide) hu), nI_clamp (by omega)]; exact hw_40, repN_mem hσ (fun a ha => (hw_32.2 a (by omega)).1), fun a ha => (hw_32.2 a (by omega)).1⟩ dX6_best_43
    · -- 14: no
      refine lv_if_ne (tgt := 23) hx hb dX6_best_17 (by decide) (fun c17 => absurd (by decide) c17) (fun _ => ?_)
      refine lv_bipush (v := -2) hx hb dX6_best_20 (by decide) ?_
      exact g_ri hx hb hr hlocks hG ⟨by unfold sp_best; rw [if_neg hp, if_pos (bR_f hw_14 (by decide))], hσ, fun _ _ => rfl⟩ dX6_best_22
  · -- 7: goes on
    have hp0 : d.2.1 = 0 := by rw [← hd]; exact c7
    refine lv_bipush (v := -3) hx hb dX6_best_10 (by decide) ?_
    exact g_ri hx hb hr hlocks hG ⟨by unfold sp_best; rw [if_pos hp0], hσ, fun _ _ => rfl⟩ dX6_best_12

set_option maxHeartbeats 4000000 in
set_option maxRecDepth 100000 in
theorem c_X6_reads (l : Launch) (D : va_G) (ad : Nat → Nat) (tc : Nat → ClassId) (I : Mi) (L : Ml) (T : Tb) (d : Dk) (cur base : Nat) (hσ : repN I (T, d, cur, base)) (ua ka : Int32) : Met l yX6_reads wsX6_reads ({ frames := 6, cells := 0, slots := 0, locals := 149 } : Room) (va_Pc [.ref (ad 0), .int ua, .int ka] (gPc D ad tc I L)) (gQi D ad tc (fun z I1 L1 => sp_reads (T, d, cur, base) ua ka = z ∧ repN I1 (T, d, cur, base) ∧ ∀ a, 92 ≤ a → I1 a = I a)) 0 0 (gA ad) := by
  refine g_of (by decide) rfl (Nat.le_of_ble_eq_true rfl) ?_
  intro p e s m below meth c hcx hr hlocks hK hG ls hl
  obtain ⟨hx, hb, hml, hown, hts⟩ := id hcx
  have hl : lv_has ls 3 [(0, .ref (ad 0)), (1, .int ua), (2, .int ka)] := hl
  have hin : sp_in (T, d, cur, base) := hσ.1
  have hTb : pu_tb T := hin.1
  have hT : pN I T := hσ.2.1
  have hd : dkN I = d := hσ.2.2.1
  have hcu : I 0 6 = nI cur := hσ.2.2.2.1
  have hba : I 0 7 = nI base := hσ.2.2.2.2
  have hle1 : base ≤ cur := hin.2.2.1
  have hle2 : cur ≤ base + 40 := hin.2.2.2
  have hp01 : I 1 1 = 0 ∨ I 1 1 = 1 := by have := hin.2.1; rw [← hd] at this; exact this
  refine lv_aload_n hx hb dX6_reads_0 rfl (lv_at hl 0 rfl) ?_
  refine g_get (v := .ref (ad 1)) hx hb hts (by decide +kernel) hown hK hG 0 (by decide) gc_0 rfl 0 (by decide) (hts (.fieldLink RX6 10 "NeighbourScores" "disk" "LNeighbourScores$Disk;") (by decide +kernel)) (fun _ h9 => h9) rfl dX6_reads_1 ?_
  refine g_si (va_runV (As := []) (rest := []) hcx (c_X0_isPowered l D ad tc I L hp01) (cwV 0 hts gX6_reads_X0_isPowered rfl rfl rfl (by decide +kernel) ⟨Nat.le_of_ble_eq_true rfl, Nat.le_of_ble_eq_true rfl⟩) (g_pV hK hG 1 (by decide) gc_1 rfl) rfl rfl hl.1 rfl (lv_room (Nat.le_of_ble_eq_true rfl)) dX6_reads_4 ⟨Nat.le_refl _, Nat.le_refl _⟩) (fun r_4 hw_4 => ?_)
  subst hw_4
  refine lv_if_ne (tgt := 13) hx hb dX6_reads_7 (by decide) (fun c7 => ?_) (fun c7 => ?_)
  · -- 7: jumps
    have hp : ¬ d.2.1 = 0 := by rw [← hd]; exact c7
    have h1 : I 1 1 = 1 := hp01.resolve_left c7
    refine lv_iload_n hx hb dX6_reads_13 rfl (lv_at hl 1 rfl) ?_
    refine g_si (va_runS (As := [.int ua]) (rest := []) hcx (c_X6_isUser l ua) (va_cwS 1 hts gX6_reads_X6_isUser rfl rfl rfl (by decide +kernel) ⟨Nat.le_of_ble_eq_true rfl, Nat.le_of_ble_eq_true rfl⟩) (g_p0) rfl rfl hl.1 rfl (lv_room (Nat.le_of_ble_eq_true rfl)) dX6_reads_14 ⟨Nat.le_refl _, Nat.le_refl _⟩) (fun r_14 hw_14 => ?_)
    rcases hw_14 with ⟨hw_14, rfl⟩ | ⟨hw_14, rfl⟩
    · -- 14: yes
      refine lv_if_eq (tgt := 31) hx hb dX6_reads_17 (by decide) (fun c17 => absurd c17 (by decide)) (fun _ => ?_)
      refine lv_iload_n hx hb dX6_reads_20 rfl (lv_at hl 2 rfl) ?_
      refine lv_iconst (v := 1) hx hb dX6_reads_21 (by decide) ?_
      refine lv_icmp_lt (tgt := 31) hx hb dX6_reads_22 (by decide) (fun c22 => ?_) (fun c22 => ?_)
      · -- 22: jumps
        refine lv_bipush (v := -2) hx hb dX6_reads_31 (by decide) ?_
        exact g_ri hx hb hr hlocks hG ⟨by unfold sp_reads; rw [if_neg hp, if_pos (sp_badk (Or.inr (pu_k1 c22)))], hσ, fun _ _ => rfl⟩ dX6_reads_33
      · -- 22: goes on
        refine lv_iload_n hx hb dX6_reads_25 rfl (lv_at hl 2 rfl) ?_
        refine lv_bipush (v := 16) hx hb dX6_reads_26 (by decide) ?_
        refine lv_icmp_le (tgt := 34) hx hb dX6_reads_28 (by decide) (fun c28 => ?_) (fun c28 => ?_)
        · -- 28: jumps
          obtain ⟨u, hu, rfl⟩ := hw_14
          obtain ⟨k, hk1, hk2, rfl⟩ := pu_gk c22 c28
          refine lv_aload_n hx hb dX6_reads_34 rfl (lv_at hl 0 rfl) ?_
          refine g_get (v := .ref (ad 38)) hx hb hts (by decide +kernel) hown hK hG 0 (by decide) gc_0 rfl 5 (by decide) (hts (.fieldLink RX6 47 "NeighbourScores" "reading" "LNeighbourScores$Reading;") (by decide +kernel)) (fun _ h9 => h9) rfl dX6_reads_35 ?_
          refine lv_aload_n hx hb dX6_reads_38 rfl (lv_at hl 0 rfl) ?_
          refine g_get (v := .ref (ad 7)) hx hb hts (by decide +kernel) hown hK hG 0 (by decide) gc_0 rfl 3 (by decide) (hts (.fieldLink RX6 33 "NeighbourScores" "ratings" "LNeighbourScores$Ratings;") (by decide +kernel)) (fun _ h9 => h9) rfl dX6_reads_39 ?_
          refine lv_iload_n hx hb dX6_reads_42 rfl (lv_at hl 1 rfl) ?_
          refine lv_iload_n hx hb dX6_reads_43 rfl (lv_at hl 2 rfl) ?_
          refine g_ci (va_runV (As := [.ref (ad 7), .int (nI u), .int (nI k)]) (rest := []) hcx (c_X3_countEntries l D ad tc I L T hT u k hu (by omega)) (cwV 3 hts gX6_reads_X3_countEntries rfl rfl rfl (by decide +kernel) ⟨Nat.le_of_ble_eq_true rfl, Nat.le_of_ble_eq_true rfl⟩) (g_pV hK hG 38 (by decide) gc_38 rfl) rfl rfl hl.1 rfl (lv_room (Nat.le_of_ble_eq_true rfl)) dX6_reads_44 ⟨Nat.le_refl _, Nat.le_refl _⟩) hK hG (fun r_44 I_44 L_44 H locs hw_44 hG => ?_)
          obtain ⟨hrr, hfr⟩ := hw_44
          exact g_ri hx hb hr hlocks hG ⟨by unfold sp_reads; rw [if_neg hp, if_neg (sp_okk hu hk1 hk2), nI_clamp (show u < 2 ^ 31 by omega), nI_clamp (show k < 2 ^ 31 by omega)]; exact hrr, repN_mem hσ (fun a ha => (hfr a (by omega)).1), fun a ha => (hfr a (by omega)).1⟩ dX6_reads_47
        · -- 28: goes on
          refine lv_bipush (v := -2) hx hb dX6_reads_31 (by decide) ?_
          exact g_ri hx hb hr hlocks hG ⟨by unfold sp_reads; rw [if_neg hp, if_pos (sp_badk (Or.inr (Or.inr (pu_gR12 (n := 16) (by decide) c28))))], hσ, fun _ _ => rfl⟩ dX6_reads_33
    · -- 14: no
      refine lv_if_eq (tgt := 31) hx hb dX6_reads_17 (by decide) (fun _ => ?_) (fun c17 => absurd (by decide) c17)
      refine lv_bipush (v := -2) hx hb dX6_reads_31 (by decide) ?_
      exact g_ri hx hb hr hlocks hG ⟨by unfold sp_reads; rw [if_neg hp, if_pos (sp_badk (Or.inl hw_14))], hσ, fun _ _ => rfl⟩ dX6_reads_33
  · -- 7: goes on
    have hp0 : d.2.1 = 0 := by rw [← hd]; exact c7
    refine lv_bipush (v := -3) hx hb dX6_reads_10 (by decide) ?_
    exact g_ri hx hb hr hlocks hG ⟨by unfold sp_reads; rw [if_pos hp0], hσ, fun _ _ => rfl⟩ dX6_reads_12

set_option maxHeartbeats 4000000 in
set_option maxRecDepth 100000 in
theorem c_X6_number (l : Launch) (D : va_G) (ad : Nat → Nat) (tc : Nat → ClassId) (I : Mi) (L : Ml) (T : Tb) (d : Dk) (cur base : Nat) (hσ : repN I (T, d, cur, base)) (h : Int32) : Met l yX6_number wsX6_number ({ frames := 1, cells := 0, slots := 0, locals := 23 } : Room) (va_Pc [.ref (ad 0), .int h] (gPc D ad tc I L)) (vp_Si (fun r => sp_number (T, d, cur, base) h = r)) 0 0 gN := by
  refine g_of (by decide) rfl (Nat.le_of_ble_eq_true rfl) ?_
  intro p e s m below meth c hcx hr hlocks hK hG ls hl
  obtain ⟨hx, hb, hml, hown, hts⟩ := id hcx
  have hl : lv_has ls 2 [(0, .ref (ad 0)), (1, .int h)] := hl
  have hin : sp_in (T, d, cur, base) := hσ.1
  have hTb : pu_tb T := hin.1
  have hT : pN I T := hσ.2.1
  have hd : dkN I = d := hσ.2.2.1
  have hcu : I 0 6 = nI cur := hσ.2.2.2.1
  have hba : I 0 7 = nI base := hσ.2.2.2.2
  have hle1 : base ≤ cur := hin.2.2.1
  have hle2 : cur ≤ base + 40 := hin.2.2.2
  have hp01 : I 1 1 = 0 ∨ I 1 1 = 1 := by have := hin.2.1; rw [← hd] at this; exact this
  refine lv_aload_n hx hb dX6_number_0 rfl (lv_at hl 0 rfl) ?_
  refine g_get (v := .ref (ad 1)) hx hb hts (by decide +kernel) hown hK hG 0 (by decide) gc_0 rfl 0 (by decide) (hts (.fieldLink RX6 10 "NeighbourScores" "disk" "LNeighbourScores$Disk;") (by decide +kernel)) (fun _ h9 => h9) rfl dX6_number_1 ?_
  refine g_si (va_runV (As := []) (rest := []) hcx (c_X0_isPowered l D ad tc I L hp01) (cwV 0 hts gX6_number_X0_isPowered rfl rfl rfl (by decide +kernel) ⟨Nat.le_of_ble_eq_true rfl, Nat.le_of_ble_eq_true rfl⟩) (g_pV hK hG 1 (by decide) gc_1 rfl) rfl rfl hl.1 rfl (lv_room (Nat.le_of_ble_eq_true rfl)) dX6_number_4 ⟨Nat.le_refl _, Nat.le_refl _⟩) (fun r_4 hw_4 => ?_)
  subst hw_4
  refine lv_if_ne (tgt := 13) hx hb dX6_number_7 (by decide) (fun c7 => ?_) (fun c7 => ?_)
  · -- 7: jumps
    have hp : ¬ d.2.1 = 0 := by rw [← hd]; exact c7
    have h1 : I 1 1 = 1 := hp01.resolve_left c7
    refine lv_iload_n hx hb dX6_number_13 rfl (lv_at hl 1 rfl) ?_
    by_cases q14_0 : h = 0
    · -- 14: case 0
      refine lv_tableIn (x := h) (off := 26) (tgt := 40) hx hb dX6_number_14 (by rw [q14_0]; decide) (by rw [q14_0]; decide) (by rw [q14_0]; decide) (by decide) ?_
      refine lv_aload_n hx hb dX6_number_40 rfl (lv_at hl 0 rfl) ?_
      refine g_get (v := .int (I 0 6)) hx hb hts (by decide +kernel) hown hK hG 0 (by decide) gc_0 rfl 6 (by decide) (hts (.fieldLink RX6 51 "NeighbourScores" "systemNumber" "I") (by decide +kernel)) (fun _ h9 => h9) rfl dX6_number_41 ?_
      exact g_riS hx hb hr hlocks (by unfold sp_number; rw [if_neg hp, if_pos q14_0]; exact hcu.symm) dX6_number_44
    by_cases q14_1 : h = 1
    · -- 14: case 1
      refine lv_tableIn (x := h) (off := 31) (tgt := 45) hx hb dX6_number_14 (by rw [q14_1]; decide) (by rw [q14_1]; decide) (by rw [q14_1]; decide) (by decide) ?_
      refine lv_aload_n hx hb dX6_number_45 rfl (lv_at hl 0 rfl) ?_
      refine g_get (v := .int (I 0 7)) hx hb hts (by decide +kernel) hown hK hG 0 (by decide) gc_0 rfl 7 (by decide) (hts (.fieldLink RX6 55 "NeighbourScores" "baseNumber" "I") (by decide +kernel)) (fun _ h9 => h9) rfl dX6_number_46 ?_
      exact g_riS hx hb hr hlocks (by unfold sp_number; rw [if_neg hp, if_neg q14_0, if_pos q14_1]; exact hba.symm) dX6_number_49
    by_cases q14_2 : h = 2
    · -- 14: case 2
      refine lv_tableIn (x := h) (off := 36) (tgt := 50) hx hb dX6_number_14 (by rw [q14_2]; decide) (by rw [q14_2]; decide) (by rw [q14_2]; decide) (by decide) ?_
      refine lv_aload_n hx hb dX6_number_50 rfl (lv_at hl 0 rfl) ?_
      refine g_get (v := .ref (ad 7)) hx hb hts (by decide +kernel) hown hK hG 0 (by decide) gc_0 rfl 3 (by decide) (hts (.fieldLink RX6 33 "NeighbourScores" "ratings" "LNeighbourScores$Ratings;") (by decide +kernel)) (fun _ h9 => h9) rfl dX6_number_51 ?_
      refine g_si (va_runV (As := []) (rest := []) hcx (c_X2_countRated l D ad tc I L T hT) (cwV 0 hts gX6_number_X2_countRated rfl rfl rfl (by decide +kernel) ⟨Nat.le_of_ble_eq_true rfl, Nat.le_of_ble_eq_true rfl⟩) (g_pV hK hG 7 (by decide) gc_7 rfl) rfl rfl hl.1 rfl (lv_room (Nat.le_of_ble_eq_true rfl)) dX6_number_54 ⟨Nat.le_refl _, Nat.le_refl _⟩) (fun r_54 hw_54 => ?_)
      subst hw_54
      exact g_riS hx hb hr hlocks (by unfold sp_number; rw [if_neg hp, if_neg q14_0, if_neg q14_1, if_pos q14_2]) dX6_number_57
    refine lv_tableOut (tgt := 58) hx hb dX6_number_14 (pu_tout3 q14_0 q14_1 q14_2) (by decide) ?_
    refine lv_bipush (v := -2) hx hb dX6_number_58 (by decide) ?_
    exact g_riS hx hb hr hlocks (by unfold sp_number; rw [if_neg hp, if_neg q14_0, if_neg q14_1, if_neg q14_2]) dX6_number_60
  · -- 7: goes on
    have hp0 : d.2.1 = 0 := by rw [← hd]; exact c7
    refine lv_bipush (v := -3) hx hb dX6_number_10 (by decide) ?_
    exact g_riS hx hb hr hlocks (by unfold sp_number; rw [if_pos hp0]) dX6_number_12
