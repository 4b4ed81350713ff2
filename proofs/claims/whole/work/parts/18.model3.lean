set_option maxHeartbeats 4000000 in
set_option maxRecDepth 100000 in
theorem c_X7_rating (l : Launch) (D : va_G) (ad : Nat → Nat) (tc : Nat → ClassId) (I : Mi) (L : Ml) (T : Tb) (d : Dk) (cur base : Nat) (hσ : repM I (T, d, cur, base)) (ua ia : Int32) : Met l yX7_rating wsX7_rating ({ frames := 1, cells := 0, slots := 0, locals := 20 } : Room) (va_Pc [.ref (ad 92), .int ua, .int ia] (gPc D ad tc I L)) (vp_Si (fun r => sp_rating (T, d, cur, base) ua ia = r)) 0 0 gN := by
  refine g_of (by decide) rfl (Nat.le_of_ble_eq_true rfl) ?_
  intro p e s m below meth c hcx hr hlocks hK hG ls hl
  obtain ⟨hx, hb, hml, hown, hts⟩ := id hcx
  have hl : lv_has ls 3 [(0, .ref (ad 92)), (1, .int ua), (2, .int ia)] := hl
  have hin : sp_in (T, d, cur, base) := hσ.1
  have hTb : pu_tb T := hin.1
  have hT : tM I T := hσ.2.1
  have hd0 : dark01 I := hσ.2.2.1
  have hd : dkM I = d := hσ.2.2.2.1
  have hcu : I 92 2 = nI cur := hσ.2.2.2.2.1
  have hba : I 92 3 = nI base := hσ.2.2.2.2.2
  have hle1 : base ≤ cur := hin.2.2.1
  have hle2 : cur ≤ base + 40 := hin.2.2.2
  refine lv_aload_n hx hb dX7_rating_0 rfl (lv_at hl 0 rfl) ?_
  refine g_get (v := .int (I 92 4)) hx hb hts (by decide +kernel) hown hK hG 92 (by decide) gc_92 rfl 4 (by decide) (hts (.fieldLink RX7 41 "NeighbourScoresModel" "dark" "Z") (by decide +kernel)) (fun _ h9 => h9) rfl dX7_rating_1 ?_
  refine lv_if_eq (tgt := 12) hx hb dX7_rating_4 (by decide) (fun c4 => ?_) (fun c4 => ?_)
  · -- 4: jumps
    have hp1 : d.2.1 = 1 := by rw [← hd]; exact dk_on c4
    have hp : ¬ d.2.1 = 0 := by rw [hp1]; decide
    refine lv_iload_n hx hb dX7_rating_12 rfl (lv_at hl 1 rfl) ?_
    refine g_si (va_runS (As := [.int ua]) (rest := []) hcx (c_X7_noUser l ua) (va_cwS 1 hts gX7_rating_X7_noUser rfl rfl rfl (by decide +kernel) ⟨Nat.le_of_ble_eq_true rfl, Nat.le_of_ble_eq_true rfl⟩) (g_p0) rfl rfl hl.1 rfl (lv_room (Nat.le_of_ble_eq_true rfl)) dX7_rating_13 ⟨Nat.le_refl _, Nat.le_refl _⟩) (fun r_13 hw_13 => ?_)
    rcases hw_13 with ⟨hw_13, rfl⟩ | ⟨hw_13, rfl⟩
    · -- 13: yes
      refine lv_if_ne (tgt := 26) hx hb dX7_rating_16 (by decide) (fun _ => ?_) (fun c16 => absurd c16 (by decide))
      refine lv_bipush (v := -2) hx hb dX7_rating_26 (by decide) ?_
      refine lv_goto (tgt := 42) hx hb dX7_rating_28 (by decide) ?_
      exact g_riS hx hb hr hlocks (by unfold sp_rating; rw [if_neg hp, if_pos (sp_bad2 (by decide) (by decide) (Or.inl hw_13))]) dX7_rating_42
    · -- 13: no
      refine lv_if_ne (tgt := 26) hx hb dX7_rating_16 (by decide) (fun c16 => absurd (by decide) c16) (fun _ => ?_)
      refine lv_iload_n hx hb dX7_rating_19 rfl (lv_at hl 2 rfl) ?_
      refine g_si (va_runS (As := [.int ia]) (rest := []) hcx (c_X7_noItem l ia) (va_cwS 1 hts gX7_rating_X7_noItem rfl rfl rfl (by decide +kernel) ⟨Nat.le_of_ble_eq_true rfl, Nat.le_of_ble_eq_true rfl⟩) (g_p0) rfl rfl hl.1 rfl (lv_room (Nat.le_of_ble_eq_true rfl)) dX7_rating_20 ⟨Nat.le_refl _, Nat.le_refl _⟩) (fun r_20 hw_20 => ?_)
      rcases hw_20 with ⟨hw_20, rfl⟩ | ⟨hw_20, rfl⟩
      · -- 20: yes
        refine lv_if_eq (tgt := 31) hx hb dX7_rating_23 (by decide) (fun c23 => absurd c23 (by decide)) (fun _ => ?_)
        refine lv_bipush (v := -2) hx hb dX7_rating_26 (by decide) ?_
        refine lv_goto (tgt := 42) hx hb dX7_rating_28 (by decide) ?_
        exact g_riS hx hb hr hlocks (by unfold sp_rating; rw [if_neg hp, if_pos (sp_bad2 (by decide) (by decide) (Or.inr hw_20))]) dX7_rating_42
      · -- 20: no
        refine lv_if_eq (tgt := 31) hx hb dX7_rating_23 (by decide) (fun _ => ?_) (fun c23 => absurd (by decide) c23)
        obtain ⟨u, hu, rfl⟩ := hw_13
        obtain ⟨i, hi, rfl⟩ := hw_20
        refine lv_aload_n hx hb dX7_rating_31 rfl (lv_at hl 0 rfl) ?_
        refine g_get (v := .ref (ad 93)) hx hb hts (by decide +kernel) hown hK hG 92 (by decide) gc_92 rfl 0 (by decide) (hts (.fieldLink RX7 7 "NeighbourScoresModel" "rated" "[I") (by decide +kernel)) (fun _ h9 => h9) rfl dX7_rating_32 ?_
        refine lv_bipush (v := 16) hx hb dX7_rating_35 (by decide) ?_
        refine lv_iload_n hx hb dX7_rating_37 rfl (lv_at hl 1 rfl) ?_
        refine lv_imul hx hb dX7_rating_38 ?_
        refine g_i (y := nI (16 * u)) (pk_mul 16 u) ?_
        refine lv_iload_n hx hb dX7_rating_39 rfl (lv_at hl 2 rfl) ?_
        refine lv_iadd hx hb dX7_rating_40 ?_
        refine g_i (y := nI ((16 * u) + i)) (nI_add (16 * u) i) ?_
        refine g_iald hx hb hK hG 93 (by decide) gc_93 ((16 * u) + i) rfl (by omega) (by omega) dX7_rating_41 ?_
        refine g_i (y := nI (T u i)) (hT u i hu hi) ?_
        exact g_riS hx hb hr hlocks (by unfold sp_rating; rw [if_neg hp, if_neg (sp_ok2 (by decide) (by decide) hu hi), nI_clamp (by omega), nI_clamp (by omega)]) dX7_rating_42
  · -- 4: goes on
    have hp0 : d.2.1 = 0 := by rw [← hd]; exact dk_off (pu_d1 hd0 c4)
    refine lv_bipush (v := -3) hx hb dX7_rating_7 (by decide) ?_
    refine lv_goto (tgt := 42) hx hb dX7_rating_9 (by decide) ?_
    exact g_riS hx hb hr hlocks (by unfold sp_rating; rw [if_pos hp0]) dX7_rating_42

set_option maxHeartbeats 4000000 in
set_option maxRecDepth 100000 in
theorem c_X7_weight (l : Launch) (D : va_G) (ad : Nat → Nat) (tc : Nat → ClassId) (I : Mi) (L : Ml) (T : Tb) (d : Dk) (cur base : Nat) (hσ : repM I (T, d, cur, base)) (ia ja : Int32) : Met l yX7_weight wsX7_weight ({ frames := 2, cells := 0, slots := 0, locals := 49 } : Room) (va_Pc [.ref (ad 92), .int ia, .int ja] (gPc D ad tc I L)) (gQi D ad tc (fun z I1 L1 => sp_weight (T, d, cur, base) ia ja = z ∧ repM I1 (T, d, cur, base) ∧ ∀ a, a < 92 → I1 a = I a)) 0 0 (gA ad) := by
  refine g_of (by decide) rfl (Nat.le_of_ble_eq_true rfl) ?_
  intro p e s m below meth c hcx hr hlocks hK hG ls hl
  obtain ⟨hx, hb, hml, hown, hts⟩ := id hcx
  have hl : lv_has ls 3 [(0, .ref (ad 92)), (1, .int ia), (2, .int ja)] := hl
  have hin : sp_in (T, d, cur, base) := hσ.1
  have hTb : pu_tb T := hin.1
  have hT : tM I T := hσ.2.1
  have hd0 : dark01 I := hσ.2.2.1
  have hd : dkM I = d := hσ.2.2.2.1
  have hcu : I 92 2 = nI cur := hσ.2.2.2.2.1
  have hba : I 92 3 = nI base := hσ.2.2.2.2.2
  have hle1 : base ≤ cur := hin.2.2.1
  have hle2 : cur ≤ base + 40 := hin.2.2.2
  refine lv_aload_n hx hb dX7_weight_0 rfl (lv_at hl 0 rfl) ?_
  refine g_get (v := .int (I 92 4)) hx hb hts (by decide +kernel) hown hK hG 92 (by decide) gc_92 rfl 4 (by decide) (hts (.fieldLink RX7 41 "NeighbourScoresModel" "dark" "Z") (by decide +kernel)) (fun _ h9 => h9) rfl dX7_weight_1 ?_
  refine lv_if_ne (tgt := 21) hx hb dX7_weight_4 (by decide) (fun c4 => ?_) (fun c4 => ?_)
  · -- 4: jumps
    have hp0 : d.2.1 = 0 := by rw [← hd]; exact dk_off (pu_d1 hd0 c4)
    refine lv_aload_n hx hb dX7_weight_21 rfl (lv_at hl 0 rfl) ?_
    refine g_get (v := .int (I 92 4)) hx hb hts (by decide +kernel) hown hK hG 92 (by decide) gc_92 rfl 4 (by decide) (hts (.fieldLink RX7 41 "NeighbourScoresModel" "dark" "Z") (by decide +kernel)) (fun _ h9 => h9) rfl dX7_weight_22 ?_
    refine lv_if_eq (tgt := 33) hx hb dX7_weight_25 (by decide) (fun c25 => absurd c25 c4) (fun c25 => ?_)
    refine lv_bipush (v := -3) hx hb dX7_weight_28 (by decide) ?_
    refine lv_goto (tgt := 35) hx hb dX7_weight_30 (by decide) ?_
    exact g_ri hx hb hr hlocks hG ⟨by unfold sp_weight; rw [if_pos hp0], hσ, fun _ _ => rfl⟩ dX7_weight_35
  · -- 4: goes on
    have c4b : I 92 4 = 0 := c4
    have hp1 : d.2.1 = 1 := by rw [← hd]; exact dk_on c4
    have hp : ¬ d.2.1 = 0 := by rw [hp1]; decide
    refine lv_iload_n hx hb dX7_weight_7 rfl (lv_at hl 1 rfl) ?_
    refine g_si (va_runS (As := [.int ia]) (rest := []) hcx (c_X7_noItem l ia) (va_cwS 1 hts gX7_weight_X7_noItem rfl rfl rfl (by decide +kernel) ⟨Nat.le_of_ble_eq_true rfl, Nat.le_of_ble_eq_true rfl⟩) (g_p0) rfl rfl hl.1 rfl (lv_room (Nat.le_of_ble_eq_true rfl)) dX7_weight_8 ⟨Nat.le_refl _, Nat.le_refl _⟩) (fun r_8 hw_8 => ?_)
    rcases hw_8 with ⟨hw_8, rfl⟩ | ⟨hw_8, rfl⟩
    · -- 8: yes
      refine lv_if_ne (tgt := 21) hx hb dX7_weight_11 (by decide) (fun _ => ?_) (fun c11 => absurd c11 (by decide))
      refine lv_aload_n hx hb dX7_weight_21 rfl (lv_at hl 0 rfl) ?_
      refine g_get (v := .int (I 92 4)) hx hb hts (by decide +kernel) hown hK hG 92 (by decide) gc_92 rfl 4 (by decide) (hts (.fieldLink RX7 41 "NeighbourScoresModel" "dark" "Z") (by decide +kernel)) (fun _ h9 => h9) rfl dX7_weight_22 ?_
      refine lv_if_eq (tgt := 33) hx hb dX7_weight_25 (by decide) (fun c25 => ?_) (fun c25 => absurd c4 c25)
      refine lv_bipush (v := -2) hx hb dX7_weight_33 (by decide) ?_
      exact g_ri hx hb hr hlocks hG ⟨by unfold sp_weight; rw [if_neg hp, if_pos (sp_bad2 (by decide) (by decide) (Or.inl hw_8))], hσ, fun _ _ => rfl⟩ dX7_weight_35
    · -- 8: no
      refine lv_if_ne (tgt := 21) hx hb dX7_weight_11 (by decide) (fun c11 => absurd (by decide) c11) (fun _ => ?_)
      refine lv_iload_n hx hb dX7_weight_14 rfl (lv_at hl 2 rfl) ?_
      refine g_si (va_runS (As := [.int ja]) (rest := []) hcx (c_X7_noItem l ja) (va_cwS 1 hts gX7_weight_X7_noItem rfl rfl rfl (by decide +kernel) ⟨Nat.le_of_ble_eq_true rfl, Nat.le_of_ble_eq_true rfl⟩) (g_p0) rfl rfl hl.1 rfl (lv_room (Nat.le_of_ble_eq_true rfl)) dX7_weight_15 ⟨Nat.le_refl _, Nat.le_refl _⟩) (fun r_15 hw_15 => ?_)
      rcases hw_15 with ⟨hw_15, rfl⟩ | ⟨hw_15, rfl⟩
      · -- 15: yes
        refine lv_if_eq (tgt := 36) hx hb dX7_weight_18 (by decide) (fun c18 => absurd c18 (by decide)) (fun _ => ?_)
        refine lv_aload_n hx hb dX7_weight_21 rfl (lv_at hl 0 rfl) ?_
        refine g_get (v := .int (I 92 4)) hx hb hts (by decide +kernel) hown hK hG 92 (by decide) gc_92 rfl 4 (by decide) (hts (.fieldLink RX7 41 "NeighbourScoresModel" "dark" "Z") (by decide +kernel)) (fun _ h9 => h9) rfl dX7_weight_22 ?_
        refine lv_if_eq (tgt := 33) hx hb dX7_weight_25 (by decide) (fun c25 => ?_) (fun c25 => absurd c4 c25)
        refine lv_bipush (v := -2) hx hb dX7_weight_33 (by decide) ?_
        exact g_ri hx hb hr hlocks hG ⟨by unfold sp_weight; rw [if_neg hp, if_pos (sp_bad2 (by decide) (by decide) (Or.inr hw_15))], hσ, fun _ _ => rfl⟩ dX7_weight_35
      · -- 15: no
        refine lv_if_eq (tgt := 36) hx hb dX7_weight_18 (by decide) (fun _ => ?_) (fun c18 => absurd (by decide) c18)
        obtain ⟨i, hi, rfl⟩ := hw_8
        obtain ⟨j, hj, rfl⟩ := hw_15
        refine lv_aload_n hx hb dX7_weight_36 rfl (lv_at hl 0 rfl) ?_
        refine g_cv (va_runV (As := []) (rest := []) hcx (c_X7_weigh l D ad tc I L T hTb hT) (cwV 0 hts gX7_weight_X7_weigh rfl rfl rfl (by decide +kernel) ⟨Nat.le_of_ble_eq_true rfl, Nat.le_of_ble_eq_true rfl⟩) (g_pV hK hG 92 (by decide) gc_92 rfl) rfl rfl hl.1 rfl (lv_room (Nat.le_of_ble_eq_true rfl)) dX7_weight_37 ⟨Nat.le_refl _, Nat.le_refl _⟩) hK hG (fun I_37 L_37 H locs hw_37 hG => ?_)
        obtain ⟨hW, hf, rfl⟩ := hw_37
        refine lv_aload_n hx hb dX7_weight_40 rfl (lv_at hl 0 rfl) ?_
        refine g_get (v := .ref (ad 95)) hx hb hts (by decide +kernel) hown hK hG 92 (by decide) gc_92 rfl 6 (by decide) (hts (.fieldLink RX7 20 "NeighbourScoresModel" "weights" "[I") (by decide +kernel)) (fun _ h9 => h9) rfl dX7_weight_41 ?_
        refine lv_bipush (v := 16) hx hb dX7_weight_44 (by decide) ?_
        refine lv_iload_n hx hb dX7_weight_46 rfl (lv_at hl 1 rfl) ?_
        refine lv_imul hx hb dX7_weight_47 ?_
        refine g_i (y := nI (16 * i)) (pk_mul 16 i) ?_
        refine lv_iload_n hx hb dX7_weight_48 rfl (lv_at hl 2 rfl) ?_
        refine lv_iadd hx hb dX7_weight_49 ?_
        refine g_i (y := nI ((16 * i) + j)) (nI_add (16 * i) j) ?_
        refine g_iald hx hb hK hG 95 (by decide) gc_95 ((16 * i) + j) rfl (by omega) (by omega) dX7_weight_50 ?_
        refine g_i (y := nI (pu_w T i j)) (hW i j (by omega) hi hj) ?_
        exact g_ri hx hb hr hlocks hG ⟨by unfold sp_weight; rw [if_neg hp, if_neg (sp_ok2 (by decide) (by decide) hi hj), nI_clamp (by omega), nI_clamp (by omega)], repM_mem hσ (hf 92 (by decide)) (hf 93 (by decide)) (hf 94 (by decide)), fun a ha => hf a (by omega)⟩ dX7_weight_51

set_option maxHeartbeats 4000000 in
set_option maxRecDepth 100000 in
theorem c_X7_neighbour (l : Launch) (D : va_G) (ad : Nat → Nat) (tc : Nat → ClassId) (I : Mi) (L : Ml) (T : Tb) (d : Dk) (cur base : Nat) (hσ : repM I (T, d, cur, base)) (ja pa : Int32) : Met l yX7_neighbour wsX7_neighbour ({ frames := 2, cells := 0, slots := 0, locals := 50 } : Room) (va_Pc [.ref (ad 92), .int ja, .int pa] (gPc D ad tc I L)) (gQi D ad tc (fun z I1 L1 => sp_neighbour (T, d, cur, base) ja pa = z ∧ repM I1 (T, d, cur, base) ∧ ∀ a, a < 92 → I1 a = I a)) 0 0 (gA ad) := by
  refine g_of (by decide) rfl (Nat.le_of_ble_eq_true rfl) ?_
  intro p e s m below meth c hcx hr hlocks hK hG ls hl
  obtain ⟨hx, hb, hml, hown, hts⟩ := id hcx
  have hl : lv_has ls 3 [(0, .ref (ad 92)), (1, .int ja), (2, .int pa)] := hl
  have hin : sp_in (T, d, cur, base) := hσ.1
  have hTb : pu_tb T := hin.1
  have hT : tM I T := hσ.2.1
  have hd0 : dark01 I := hσ.2.2.1
  have hd : dkM I = d := hσ.2.2.2.1
  have hcu : I 92 2 = nI cur := hσ.2.2.2.2.1
  have hba : I 92 3 = nI base := hσ.2.2.2.2.2
  have hle1 : base ≤ cur := hin.2.2.1
  have hle2 : cur ≤ base + 40 := hin.2.2.2
  refine lv_aload_n hx hb dX7_neighbour_0 rfl (lv_at hl 0 rfl) ?_
  refine g_get (v := .int (I 92 4)) hx hb hts (by decide +kernel) hown hK hG 92 (by decide) gc_92 rfl 4 (by decide) (hts (.fieldLink RX7 41 "NeighbourScoresModel" "dark" "Z") (by decide +kernel)) (fun _ h9 => h9) rfl dX7_neighbour_1 ?_
  refine lv_if_ne (tgt := 14) hx hb dX7_neighbour_4 (by decide) (fun c4 => ?_) (fun c4 => ?_)
  · -- 4: jumps
    have hp0 : d.2.1 = 0 := by rw [← hd]; exact dk_off (pu_d1 hd0 c4)
    refine lv_aload_n hx hb dX7_neighbour_14 rfl (lv_at hl 0 rfl) ?_
    refine g_get (v := .int (I 92 4)) hx hb hts (by decide +kernel) hown hK hG 92 (by decide) gc_92 rfl 4 (by decide) (hts (.fieldLink RX7 41 "NeighbourScoresModel" "dark" "Z") (by decide +kernel)) (fun _ h9 => h9) rfl dX7_neighbour_15 ?_
    refine lv_if_eq (tgt := 26) hx hb dX7_neighbour_18 (by decide) (fun c18 => absurd c18 c4) (fun c18 => ?_)
    refine lv_bipush (v := -3) hx hb dX7_neighbour_21 (by decide) ?_
    refine lv_goto (tgt := 28) hx hb dX7_neighbour_23 (by decide) ?_
    exact g_ri hx hb hr hlocks hG ⟨by unfold sp_neighbour; rw [if_pos hp0], hσ, fun _ _ => rfl⟩ dX7_neighbour_28
  · -- 4: goes on
    have hp1 : d.2.1 = 1 := by rw [← hd]; exact dk_on c4
    have hp : ¬ d.2.1 = 0 := by rw [hp1]; decide
    refine lv_iload_n hx hb dX7_neighbour_7 rfl (lv_at hl 1 rfl) ?_
    refine g_si (va_runS (As := [.int ja]) (rest := []) hcx (c_X7_noItem l ja) (va_cwS 1 hts gX7_neighbour_X7_noItem rfl rfl rfl (by decide +kernel) ⟨Nat.le_of_ble_eq_true rfl, Nat.le_of_ble_eq_true rfl⟩) (g_p0) rfl rfl hl.1 rfl (lv_room (Nat.le_of_ble_eq_true rfl)) dX7_neighbour_8 ⟨Nat.le_refl _, Nat.le_refl _⟩) (fun r_8 hw_8 => ?_)
    rcases hw_8 with ⟨hw_8, rfl⟩ | ⟨hw_8, rfl⟩
    · -- 8: yes
      refine lv_if_eq (tgt := 29) hx hb dX7_neighbour_11 (by decide) (fun c11 => absurd c11 (by decide)) (fun _ => ?_)
      refine lv_aload_n hx hb dX7_neighbour_14 rfl (lv_at hl 0 rfl) ?_
      refine g_get (v := .int (I 92 4)) hx hb hts (by decide +kernel) hown hK hG 92 (by decide) gc_92 rfl 4 (by decide) (hts (.fieldLink RX7 41 "NeighbourScoresModel" "dark" "Z") (by decide +kernel)) (fun _ h9 => h9) rfl dX7_neighbour_15 ?_
      refine lv_if_eq (tgt := 26) hx hb dX7_neighbour_18 (by decide) (fun c18 => ?_) (fun c18 => absurd c4 c18)
      refine lv_bipush (v := -2) hx hb dX7_neighbour_26 (by decide) ?_
      exact g_ri hx hb hr hlocks hG ⟨by unfold sp_neighbour; rw [if_neg hp, if_pos (bR_f hw_8 (by decide))], hσ, fun _ _ => rfl⟩ dX7_neighbour_28
    · -- 8: no
      refine lv_if_eq (tgt := 29) hx hb dX7_neighbour_11 (by decide) (fun _ => ?_) (fun c11 => absurd (by decide) c11)
      obtain ⟨j, hj, rfl⟩ := hw_8
      refine lv_aload_n hx hb dX7_neighbour_29 rfl (lv_at hl 0 rfl) ?_
      refine g_cv (va_runV (As := []) (rest := []) hcx (c_X7_weigh l D ad tc I L T hTb hT) (cwV 0 hts gX7_neighbour_X7_weigh rfl rfl rfl (by decide +kernel) ⟨Nat.le_of_ble_eq_true rfl, Nat.le_of_ble_eq_true rfl⟩) (g_pV hK hG 92 (by decide) gc_92 rfl) rfl rfl hl.1 rfl (lv_room (Nat.le_of_ble_eq_true rfl)) dX7_neighbour_30 ⟨Nat.le_refl _, Nat.le_refl _⟩) hK hG (fun I_30 L_30 H locs hw_30 hG => ?_)
      obtain ⟨hW, hf, rfl⟩ := hw_30
      refine lv_aload_n hx hb dX7_neighbour_33 rfl (lv_at hl 0 rfl) ?_
      refine lv_iload_n hx hb dX7_neighbour_34 rfl (lv_at hl 1 rfl) ?_
      refine lv_iload_n hx hb dX7_neighbour_35 rfl (lv_at hl 2 rfl) ?_
      refine g_si (va_runV (As := [.int (nI j), .int pa]) (rest := []) hcx (c_X7_entry l D ad tc I_30 L T hW j hj pa) (cwV 2 hts gX7_neighbour_X7_entry rfl rfl rfl (by decide +kernel) ⟨Nat.le_of_ble_eq_true rfl, Nat.le_of_ble_eq_true rfl⟩) (g_pV hK hG 92 (by decide) gc_92 rfl) rfl rfl hl.1 rfl (lv_room (Nat.le_of_ble_eq_true rfl)) dX7_neighbour_36 ⟨Nat.le_refl _, Nat.le_refl _⟩) (fun r_36 hw_36 => ?_)
      subst hw_36
      exact g_ri hx hb hr hlocks hG ⟨by unfold sp_neighbour; rw [if_neg hp, if_neg (sp_ok1 (by decide) hj), nI_clamp (by omega)], repM_mem hσ (hf 92 (by decide)) (hf 93 (by decide)) (hf 94 (by decide)), fun a ha => hf a (by omega)⟩ dX7_neighbour_39

set_option maxHeartbeats 4000000 in
set_option maxRecDepth 100000 in
theorem c_X7_score (l : Launch) (D : va_G) (ad : Nat → Nat) (tc : Nat → ClassId) (I : Mi) (L : Ml) (T : Tb) (d : Dk) (cur base : Nat) (hσ : repM I (T, d, cur, base)) (ua ia : Int32) : Met l yX7_score wsX7_score ({ frames := 3, cells := 0, slots := 0, locals := 72 } : Room) (va_Pc [.ref (ad 92), .int ua, .int ia] (gPc D ad tc I L)) (gQl D ad tc (fun z I1 L1 => sp_score (T, d, cur, base) ua ia = z ∧ repM I1 (T, d, cur, base) ∧ ∀ a, a < 92 → I1 a = I a)) 0 0 (gA ad) := by
  refine g_of (by decide) rfl (Nat.le_of_ble_eq_true rfl) ?_
  intro p e s m below meth c hcx hr hlocks hK hG ls hl
  obtain ⟨hx, hb, hml, hown, hts⟩ := id hcx
  have hl : lv_has ls 3 [(0, .ref (ad 92)), (1, .int ua), (2, .int ia)] := hl
  have hin : sp_in (T, d, cur, base) := hσ.1
  have hTb : pu_tb T := hin.1
  have hT : tM I T := hσ.2.1
  have hd0 : dark01 I := hσ.2.2.1
  have hd : dkM I = d := hσ.2.2.2.1
  have hcu : I 92 2 = nI cur := hσ.2.2.2.2.1
  have hba : I 92 3 = nI base := hσ.2.2.2.2.2
  have hle1 : base ≤ cur := hin.2.2.1
  have hle2 : cur ≤ base + 40 := hin.2.2.2
  refine lv_aload_n hx hb dX7_score_0 rfl (lv_at hl 0 rfl) ?_
  refine g_get (v := .int (I 92 4)) hx hb hts (by decide +kernel) hown hK hG 92 (by decide) gc_92 rfl 4 (by decide) (hts (.fieldLink RX7 41 "NeighbourScoresModel" "dark" "Z") (by decide +kernel)) (fun _ h9 => h9) rfl dX7_score_1 ?_
  refine lv_if_ne (tgt := 21) hx hb dX7_score_4 (by decide) (fun c4 => ?_) (fun c4 => ?_)
  · -- 4: jumps
    have hp0 : d.2.1 = 0 := by rw [← hd]; exact dk_off (pu_d1 hd0 c4)
    refine lv_aload_n hx hb dX7_score_21 rfl (lv_at hl 0 rfl) ?_
    refine g_get (v := .int (I 92 4)) hx hb hts (by decide +kernel) hown hK hG 92 (by decide) gc_92 rfl 4 (by decide) (hts (.fieldLink RX7 41 "NeighbourScoresModel" "dark" "Z") (by decide +kernel)) (fun _ h9 => h9) rfl dX7_score_22 ?_
    refine lv_if_eq (tgt := 34) hx hb dX7_score_25 (by decide) (fun c25 => absurd c25 c4) (fun c25 => ?_)
    refine lv_ldc2 hx hb (v := (-3)) hown (hts (.constantLong RX7 89 (-3)) (by decide +kernel)) dX7_score_28 ?_
    refine lv_goto (tgt := 37) hx hb dX7_score_31 (by decide) ?_
    exact g_rl hx hb hr hlocks hG ⟨by unfold sp_score; rw [if_pos hp0], hσ, fun _ _ => rfl⟩ dX7_score_37
  · -- 4: goes on
    have hp1 : d.2.1 = 1 := by rw [← hd]; exact dk_on c4
    have hp : ¬ d.2.1 = 0 := by rw [hp1]; decide
    refine lv_iload_n hx hb dX7_score_7 rfl (lv_at hl 1 rfl) ?_
    refine g_si (va_runS (As := [.int ua]) (rest := []) hcx (c_X7_noUser l ua) (va_cwS 1 hts gX7_score_X7_noUser rfl rfl rfl (by decide +kernel) ⟨Nat.le_of_ble_eq_true rfl, Nat.le_of_ble_eq_true rfl⟩) (g_p0) rfl rfl hl.1 rfl (lv_room (Nat.le_of_ble_eq_true rfl)) dX7_score_8 ⟨Nat.le_refl _, Nat.le_refl _⟩) (fun r_8 hw_8 => ?_)
    rcases hw_8 with ⟨hw_8, rfl⟩ | ⟨hw_8, rfl⟩
    · -- 8: yes
      refine lv_if_ne (tgt := 21) hx hb dX7_score_11 (by decide) (fun _ => ?_) (fun c11 => absurd c11 (by decide))
      refine lv_aload_n hx hb dX7_score_21 rfl (lv_at hl 0 rfl) ?_
      refine g_get (v := .int (I 92 4)) hx hb hts (by decide +kernel) hown hK hG 92 (by decide) gc_92 rfl 4 (by decide) (hts (.fieldLink RX7 41 "NeighbourScoresModel" "dark" "Z") (by decide +kernel)) (fun _ h9 => h9) rfl dX7_score_22 ?_
      refine lv_if_eq (tgt := 34) hx hb dX7_score_25 (by decide) (fun c25 => ?_) (fun c25 => absurd c4 c25)
      refine lv_ldc2 hx hb (v := (-2)) hown (hts (.constantLong RX7 91 (-2)) (by decide +kernel)) dX7_score_34 ?_
      exact g_rl hx hb hr hlocks hG ⟨by unfold sp_score; rw [if_neg hp, if_pos (sp_bad2 (by decide) (by decide) (Or.inl hw_8))], hσ, fun _ _ => rfl⟩ dX7_score_37
    · -- 8: no
      refine lv_if_ne (tgt := 21) hx hb dX7_score_11 (by decide) (fun c11 => absurd (by decide) c11) (fun _ => ?_)
      refine lv_iload_n hx hb dX7_score_14 rfl (lv_at hl 2 rfl) ?_
      refine g_si (va_runS (As := [.int ia]) (rest := []) hcx (c_X7_noItem l ia) (va_cwS 1 hts gX7_score_X7_noItem rfl rfl rfl (by decide +kernel) ⟨Nat.le_of_ble_eq_true rfl, Nat.le_of_ble_eq_true rfl⟩) (g_p0) rfl rfl hl.1 rfl (lv_room (Nat.le_of_ble_eq_true rfl)) dX7_score_15 ⟨Nat.le_refl _, Nat.le_refl _⟩) (fun r_15 hw_15 => ?_)
      rcases hw_15 with ⟨hw_15, rfl⟩ | ⟨hw_15, rfl⟩
      · -- 15: yes
        refine lv_if_eq (tgt := 38) hx hb dX7_score_18 (by decide) (fun c18 => absurd c18 (by decide)) (fun _ => ?_)
        refine lv_aload_n hx hb dX7_score_21 rfl (lv_at hl 0 rfl) ?_
        refine g_get (v := .int (I 92 4)) hx hb hts (by decide +kernel) hown hK hG 92 (by decide) gc_92 rfl 4 (by decide) (hts (.fieldLink RX7 41 "NeighbourScoresModel" "dark" "Z") (by decide +kernel)) (fun _ h9 => h9) rfl dX7_score_22 ?_
        refine lv_if_eq (tgt := 34) hx hb dX7_score_25 (by decide) (fun c25 => ?_) (fun c25 => absurd c4 c25)
        refine lv_ldc2 hx hb (v := (-2)) hown (hts (.constantLong RX7 91 (-2)) (by decide +kernel)) dX7_score_34 ?_
        exact g_rl hx hb hr hlocks hG ⟨by unfold sp_score; rw [if_neg hp, if_pos (sp_bad2 (by decide) (by decide) (Or.inr hw_15))], hσ, fun _ _ => rfl⟩ dX7_score_37
      · -- 15: no
        refine lv_if_eq (tgt := 38) hx hb dX7_score_18 (by decide) (fun _ => ?_) (fun c18 => absurd (by decide) c18)
        obtain ⟨u, hu, rfl⟩ := hw_8
        obtain ⟨i, hi, rfl⟩ := hw_15
        refine lv_aload_n hx hb dX7_score_38 rfl (lv_at hl 0 rfl) ?_
        refine lv_iload_n hx hb dX7_score_39 rfl (lv_at hl 1 rfl) ?_
        refine g_cv (va_runV (As := [.int (nI u)]) (rest := []) hcx (c_X7_scoreAll l D ad tc I L T hTb hT u hu) (cwV 1 hts gX7_score_X7_scoreAll rfl rfl rfl (by decide +kernel) ⟨Nat.le_of_ble_eq_true rfl, Nat.le_of_ble_eq_true rfl⟩) (g_pV hK hG 92 (by decide) gc_92 rfl) rfl rfl hl.1 rfl (lv_room (Nat.le_of_ble_eq_true rfl)) dX7_score_40 ⟨Nat.le_refl _, Nat.le_refl _⟩) hK hG (fun I_40 L_40 H locs hw_40 hG => ?_)
        obtain ⟨hW, hs, hf, hfL⟩ := hw_40
        refine lv_aload_n hx hb dX7_score_43 rfl (lv_at hl 0 rfl) ?_
        refine g_get (v := .ref (ad 96)) hx hb hts (by decide +kernel) hown hK hG 92 (by decide) gc_92 rfl 7 (by decide) (hts (.fieldLink RX7 23 "NeighbourScoresModel" "scores" "[J") (by decide +kernel)) (fun _ h9 => h9) rfl dX7_score_44 ?_
        refine lv_iload_n hx hb dX7_score_47 rfl (lv_at hl 2 rfl) ?_
        refine g_lald hx hb hK hG 96 (by decide) gc_96 i rfl (by omega) (by omega) dX7_score_48 ?_
        refine g_l (y := pu_sc T u i 16) (hs i hi) ?_
        exact g_rl hx hb hr hlocks hG ⟨by unfold sp_score; rw [if_neg hp, if_neg (sp_ok2 (by decide) (by decide) hu hi), nI_clamp (by omega), nI_clamp (by omega)], repM_mem hσ (hf 92 (by decide)) (hf 93 (by decide)) (hf 94 (by decide)), fun a ha => hf a (by omega)⟩ dX7_score_49

set_option maxHeartbeats 4000000 in
set_option maxRecDepth 100000 in
theorem c_X7_share (l : Launch) (D : va_G) (ad : Nat → Nat) (tc : Nat → ClassId) (I : Mi) (L : Ml) (T : Tb) (d : Dk) (cur base : Nat) (hσ : repM I (T, d, cur, base)) (ua ia ja : Int32) : Met l yX7_share wsX7_share ({ frames := 2, cells := 0, slots := 0, locals := 49 } : Room) (va_Pc [.ref (ad 92), .int ua, .int ia, .int ja] (gPc D ad tc I L)) (gQl D ad tc (fun z I1 L1 => sp_share (T, d, cur, base) ua ia ja = z ∧ repM I1 (T, d, cur, base) ∧ ∀ a, a < 92 → I1 a = I a)) 0 0 (gA ad) := by
  refine g_of (by decide) rfl (Nat.le_of_ble_eq_true rfl) ?_
  intro p e s m below meth c hcx hr hlocks hK hG ls hl
  obtain ⟨hx, hb, hml, hown, hts⟩ := id hcx
  have hl : lv_has ls 4 [(0, .ref (ad 92)), (1, .int ua), (2, .int ia), (3, .int ja)] := hl
  have hin : sp_in (T, d, cur, base) := hσ.1
  have hTb : pu_tb T := hin.1
  have hT : tM I T := hσ.2.1
  have hd0 : dark01 I := hσ.2.2.1
  have hd : dkM I = d := hσ.2.2.2.1
  have hcu : I 92 2 = nI cur := hσ.2.2.2.2.1
  have hba : I 92 3 = nI base := hσ.2.2.2.2.2
  have hle1 : base ≤ cur := hin.2.2.1
  have hle2 : cur ≤ base + 40 := hin.2.2.2
  refine lv_aload_n hx hb dX7_share_0 rfl (lv_at hl 0 rfl) ?_
  refine g_get (v := .int (I 92 4)) hx hb hts (by decide +kernel) hown hK hG 92 (by decide) gc_92 rfl 4 (by decide) (hts (.fieldLink RX7 41 "NeighbourScoresModel" "dark" "Z") (by decide +kernel)) (fun _ h9 => h9) rfl dX7_share_1 ?_
  refine lv_if_ne (tgt := 28) hx hb dX7_share_4 (by decide) (fun c4 => ?_) (fun c4 => ?_)
  · -- 4: jumps
    have hp0 : d.2.1 = 0 := by rw [← hd]; exact dk_off (pu_d1 hd0 c4)
    refine lv_aload_n hx hb dX7_share_28 rfl (lv_at hl 0 rfl) ?_
    refine g_get (v := .int (I 92 4)) hx hb hts (by decide +kernel) hown hK hG 92 (by decide) gc_92 rfl 4 (by decide) (hts (.fieldLink RX7 41 "NeighbourScoresModel" "dark" "Z") (by decide +kernel)) (fun _ h9 => h9) rfl dX7_share_29 ?_
    refine lv_if_eq (tgt := 41) hx hb dX7_share_32 (by decide) (fun c32 => absurd c32 c4) (fun c32 => ?_)
    refine lv_ldc2 hx hb (v := (-3)) hown (hts (.constantLong RX7 89 (-3)) (by decide +kernel)) dX7_share_35 ?_
    refine lv_goto (tgt := 44) hx hb dX7_share_38 (by decide) ?_
    exact g_rl hx hb hr hlocks hG ⟨by unfold sp_share; rw [if_pos hp0], hσ, fun _ _ => rfl⟩ dX7_share_44
  · -- 4: goes on
    have hp1 : d.2.1 = 1 := by rw [← hd]; exact dk_on c4
    have hp : ¬ d.2.1 = 0 := by rw [hp1]; decide
    refine lv_iload_n hx hb dX7_share_7 rfl (lv_at hl 1 rfl) ?_
    refine g_si (va_runS (As := [.int ua]) (rest := []) hcx (c_X7_noUser l ua) (va_cwS 1 hts gX7_share_X7_noUser rfl rfl rfl (by decide +kernel) ⟨Nat.le_of_ble_eq_true rfl, Nat.le_of_ble_eq_true rfl⟩) (g_p0) rfl rfl hl.1 rfl (lv_room (Nat.le_of_ble_eq_true rfl)) dX7_share_8 ⟨Nat.le_refl _, Nat.le_refl _⟩) (fun r_8 hw_8 => ?_)
    rcases hw_8 with ⟨hw_8, rfl⟩ | ⟨hw_8, rfl⟩
    · -- 8: yes
      refine lv_if_ne (tgt := 28) hx hb dX7_share_11 (by decide) (fun _ => ?_) (fun c11 => absurd c11 (by decide))
      refine lv_aload_n hx hb dX7_share_28 rfl (lv_at hl 0 rfl) ?_
      refine g_get (v := .int (I 92 4)) hx hb hts (by decide +kernel) hown hK hG 92 (by decide) gc_92 rfl 4 (by decide) (hts (.fieldLink RX7 41 "NeighbourScoresModel" "dark" "Z") (by decide +kernel)) (fun _ h9 => h9) rfl dX7_share_29 ?_
      refine lv_if_eq (tgt := 41) hx hb dX7_share_32 (by decide) (fun c32 => ?_) (fun c32 => absurd c4 c32)
      refine lv_ldc2 hx hb (v := (-2)) hown (hts (.constantLong RX7 91 (-2)) (by decide +kernel)) dX7_share_41 ?_
      exact g_rl hx hb hr hlocks hG ⟨by unfold sp_share; rw [if_neg hp, if_pos (sp_bad3s (Or.inl hw_8))], hσ, fun _ _ => rfl⟩ dX7_share_44
    · -- 8: no
      refine lv_if_ne (tgt := 28) hx hb dX7_share_11 (by decide) (fun c11 => absurd (by decide) c11) (fun _ => ?_)
      refine lv_iload_n hx hb dX7_share_14 rfl (lv_at hl 2 rfl) ?_
      refine g_si (va_runS (As := [.int ia]) (rest := []) hcx (c_X7_noItem l ia) (va_cwS 1 hts gX7_share_X7_noItem rfl rfl rfl (by decide +kernel) ⟨Nat.le_of_ble_eq_true rfl, Nat.le_of_ble_eq_true rfl⟩) (g_p0) rfl rfl hl.1 rfl (lv_room (Nat.le_of_ble_eq_true rfl)) dX7_share_15 ⟨Nat.le_refl _, Nat.le_refl _⟩) (fun r_15 hw_15 => ?_)
      rcases hw_15 with ⟨hw_15, rfl⟩ | ⟨hw_15, rfl⟩
      · -- 15: yes
        refine lv_if_ne (tgt := 28) hx hb dX7_share_18 (by decide) (fun _ => ?_) (fun c18 => absurd c18 (by decide))
        refine lv_aload_n hx hb dX7_share_28 rfl (lv_at hl 0 rfl) ?_
        refine g_get (v := .int (I 92 4)) hx hb hts (by decide +kernel) hown hK hG 92 (by decide) gc_92 rfl 4 (by decide) (hts (.fieldLink RX7 41 "NeighbourScoresModel" "dark" "Z") (by decide +kernel)) (fun _ h9 => h9) rfl dX7_share_29 ?_
        refine lv_if_eq (tgt := 41) hx hb dX7_share_32 (by decide) (fun c32 => ?_) (fun c32 => absurd c4 c32)
        refine lv_ldc2 hx hb (v := (-2)) hown (hts (.constantLong RX7 91 (-2)) (by decide +kernel)) dX7_share_41 ?_
        exact g_rl hx hb hr hlocks hG ⟨by unfold sp_share; rw [if_neg hp, if_pos (sp_bad3s (Or.inr (Or.inl hw_15)))], hσ, fun _ _ => rfl⟩ dX7_share_44
      · -- 15: no
        refine lv_if_ne (tgt := 28) hx hb dX7_share_18 (by decide) (fun c18 => absurd (by decide) c18) (fun _ => ?_)
        refine lv_iload_n hx hb dX7_share_21 rfl (lv_at hl 3 rfl) ?_
        refine g_si (va_runS (As := [.int ja]) (rest := []) hcx (c_X7_noItem l ja) (va_cwS 1 hts gX7_share_X7_noItem rfl rfl rfl (by decide +kernel) ⟨Nat.le_of_ble_eq_true rfl, Nat.le_of_ble_eq_true rfl⟩) (g_p0) rfl rfl hl.1 rfl (lv_room (Nat.le_of_ble_eq_true rfl)) dX7_share_22 ⟨Nat.le_refl _, Nat.le_refl _⟩) (fun r_22 hw_22 => ?_)
        rcases hw_22 with ⟨hw_22, rfl⟩ | ⟨hw_22, rfl⟩
        · -- 22: yes
          refine lv_if_eq (tgt := 45) hx hb dX7_share_25 (by decide) (fun c25 => absurd c25 (by decide)) (fun _ => ?_)
          refine lv_aload_n hx hb dX7_share_28 rfl (lv_at hl 0 rfl) ?_
          refine g_get (v := .int (I 92 4)) hx hb hts (by decide +kernel) hown hK hG 92 (by decide) gc_92 rfl 4 (by decide) (hts (.fieldLink RX7 41 "NeighbourScoresModel" "dark" "Z") (by decide +kernel)) (fun _ h9 => h9) rfl dX7_share_29 ?_
          refine lv_if_eq (tgt := 41) hx hb dX7_share_32 (by decide) (fun c32 => ?_) (fun c32 => absurd c4 c32)
          refine lv_ldc2 hx hb (v := (-2)) hown (hts (.constantLong RX7 91 (-2)) (by decide +kernel)) dX7_share_41 ?_
          exact g_rl hx hb hr hlocks hG ⟨by unfold sp_share; rw [if_neg hp, if_pos (sp_bad3s (Or.inr (Or.inr hw_22)))], hσ, fun _ _ => rfl⟩ dX7_share_44
        · -- 22: no
          refine lv_if_eq (tgt := 45) hx hb dX7_share_25 (by decide) (fun _ => ?_) (fun c25 => absurd (by decide) c25)
          obtain ⟨u, hu, rfl⟩ := hw_8
          obtain ⟨i, hi, rfl⟩ := hw_15
          obtain ⟨j, hj, rfl⟩ := hw_22
          refine lv_aload_n hx hb dX7_share_45 rfl (lv_at hl 0 rfl) ?_
          refine g_cv (va_runV (As := []) (rest := []) hcx (c_X7_weigh l D ad tc I L T hTb hT) (cwV 0 hts gX7_share_X7_weigh rfl rfl rfl (by decide +kernel) ⟨Nat.le_of_ble_eq_true rfl, Nat.le_of_ble_eq_true rfl⟩) (g_pV hK hG 92 (by decide) gc_92 rfl) rfl rfl hl.1 rfl (lv_room (Nat.le_of_ble_eq_true rfl)) dX7_share_46 ⟨Nat.le_refl _, Nat.le_refl _⟩) hK hG (fun I_46 L_46 H locs hw_46 hG => ?_)
          obtain ⟨hW, hf, rfl⟩ := hw_46
          refine lv_aload_n hx hb dX7_share_49 rfl (lv_at hl 0 rfl) ?_
          refine g_get (v := .ref (ad 95)) hx hb hts (by decide +kernel) hown hK hG 92 (by decide) gc_92 rfl 6 (by decide) (hts (.fieldLink RX7 20 "NeighbourScoresModel" "weights" "[I") (by decide +kernel)) (fun _ h9 => h9) rfl dX7_share_50 ?_
          refine lv_bipush (v := 16) hx hb dX7_share_53 (by decide) ?_
          refine lv_iload_n hx hb dX7_share_55 rfl (lv_at hl 2 rfl) ?_
          refine lv_imul hx hb dX7_share_56 ?_
          refine g_i (y := nI (16 * i)) (pk_mul 16 i) ?_
          refine lv_iload_n hx hb dX7_share_57 rfl (lv_at hl 3 rfl) ?_
          refine lv_iadd hx hb dX7_share_58 ?_
          refine g_i (y := nI ((16 * i) + j)) (nI_add (16 * i) j) ?_
          refine g_iald hx hb hK hG 95 (by decide) gc_95 ((16 * i) + j) rfl (by omega) (by omega) dX7_share_59 ?_
          refine g_i (y := nI (pu_w T i j)) (hW i j (by omega) hi hj) ?_
          refine lv_i2l (v := (nI (pu_w T i j)).toInt64) hx hb dX7_share_60 rfl ?_
          refine lv_aload_n hx hb dX7_share_61 rfl (lv_at hl 0 rfl) ?_
          refine g_get (v := .ref (ad 93)) hx hb hts (by decide +kernel) hown hK hG 92 (by decide) gc_92 rfl 0 (by decide) (hts (.fieldLink RX7 7 "NeighbourScoresModel" "rated" "[I") (by decide +kernel)) (fun _ h9 => h9) rfl dX7_share_62 ?_
          refine lv_bipush (v := 16) hx hb dX7_share_65 (by decide) ?_
          refine lv_iload_n hx hb dX7_share_67 rfl (lv_at hl 1 rfl) ?_
          refine lv_imul hx hb dX7_share_68 ?_
          refine g_i (y := nI (16 * u)) (pk_mul 16 u) ?_
          refine lv_iload_n hx hb dX7_share_69 rfl (lv_at hl 3 rfl) ?_
          refine lv_iadd hx hb dX7_share_70 ?_
          refine g_i (y := nI ((16 * u) + j)) (nI_add (16 * u) j) ?_
          refine g_iald hx hb hK hG 93 (by decide) gc_93 ((16 * u) + j) rfl (by omega) (by omega) dX7_share_71 ?_
          refine g_i (y := nI (T u j)) (by rw [hf 93 (by decide)]; exact hT u j hu hj) ?_
          refine lv_i2l (v := (nI (T u j)).toInt64) hx hb dX7_share_72 rfl ?_
          refine lv_lmul hx hb dX7_share_73 ?_
          exact g_rl hx hb hr hlocks hG ⟨by unfold sp_share; rw [if_neg hp, if_neg (sp_ok3s hu hi hj), nI_clamp (by omega), nI_clamp (by omega), nI_clamp (by omega)]; rfl, repM_mem hσ (hf 92 (by decide)) (hf 93 (by decide)) (hf 94 (by decide)), fun a ha => hf a (by omega)⟩ dX7_share_74

set_option maxHeartbeats 4000000 in
set_option maxRecDepth 100000 in
theorem c_X7_number (l : Launch) (D : va_G) (ad : Nat → Nat) (tc : Nat → ClassId) (I : Mi) (L : Ml) (T : Tb) (d : Dk) (cur base : Nat) (hσ : repM I (T, d, cur, base)) (h : Int32) : Met l yX7_number wsX7_number ({ frames := 0, cells := 0, slots := 0, locals := 0 } : Room) (va_Pc [.ref (ad 92), .int h] (gPc D ad tc I L)) (vp_Si (fun r => sp_number (T, d, cur, base) h = r)) 0 0 gN := by
  refine g_of (by decide) rfl (Nat.le_of_ble_eq_true rfl) ?_
  intro p e s m below meth c hcx hr hlocks hK hG ls hl
  obtain ⟨hx, hb, hml, hown, hts⟩ := id hcx
  have hl : lv_has ls 4 [(0, .ref (ad 92)), (1, .int h)] := hl
  have hin : sp_in (T, d, cur, base) := hσ.1
  have hTb : pu_tb T := hin.1
  have hT : tM I T := hσ.2.1
  have hd0 : dark01 I := hσ.2.2.1
  have hd : dkM I = d := hσ.2.2.2.1
  have hcu : I 92 2 = nI cur := hσ.2.2.2.2.1
  have hba : I 92 3 = nI base := hσ.2.2.2.2.2
  have hle1 : base ≤ cur := hin.2.2.1
  have hle2 : cur ≤ base + 40 := hin.2.2.2
  refine lv_aload_n hx hb dX7_number_0 rfl (lv_at hl 0 rfl) ?_
  refine g_get (v := .int (I 92 4)) hx hb hts (by decide +kernel) hown hK hG 92 (by decide) gc_92 rfl 4 (by decide) (hts (.fieldLink RX7 41 "NeighbourScoresModel" "dark" "Z") (by decide +kernel)) (fun _ h9 => h9) rfl dX7_number_1 ?_
  refine lv_if_eq (tgt := 10) hx hb dX7_number_4 (by decide) (fun c4 => ?_) (fun c4 => ?_)
  · -- 4: jumps
    have hp1 : d.2.1 = 1 := by rw [← hd]; exact dk_on c4
    have hp : ¬ d.2.1 = 0 := by rw [hp1]; decide
    refine lv_iconst (v := 0) hx hb dX7_number_10 (by decide) ?_
    refine lv_istore_n (lv' := [(2, .int 0), (0, .ref (ad 92)), (1, .int h)]) hx hb dX7_number_11 rfl hl (by decide) rfl (fun ls hl => ?_)
    refine lv_iconst (v := 0) hx hb dX7_number_12 (by decide) ?_
    refine lv_istore_n (lv' := [(3, .int 0), (2, .int 0), (0, .ref (ad 92)), (1, .int h)]) hx hb dX7_number_13 rfl hl (by decide) rfl (fun ls hl => ?_)
    have lp14 : ∀ (n : Nat) (k : Nat), (k ≤ 192) → (193 ≤ k + n) → ∀ ls : Array Slot, lv_has ls 4 [(0, .ref (ad 92)), (1, .int h), (2, .int (nI (pu_c1 (fun k => T (k / 16) (k % 16)) k))), (3, .int (nI k))] → W p l e (headSpec wsX7_number ({ frames := 0, cells := 0, slots := 0, locals := 0 } : Room)).room s m ([.ref (ad 92), .int h] : List Value).toArray below meth c s.heap [] 0 0 (MQ below (vp_Si (fun r => sp_number (T, d, cur, base) h = r)) ([.ref (ad 92), .int h] : List Value).toArray s 0 0 gN) (F0 m 14 ls []) := by
      intro n
      induction n with
      | zero =>
        intro k hk hn ls hl
        exact absurd hn (by omega)
      | succ n ih14 =>
        intro k hk hn ls hl
        refine lv_iload_n hx hb dX7_number_14 rfl (lv_at hl 3 rfl) ?_
        refine lv_sipush (v := 192) hx hb dX7_number_15 (by decide) ?_
        refine lv_icmp_ge (tgt := 44) hx hb dX7_number_18 (by decide) (fun c18 => ?_) (fun c18 => ?_)
        · -- 18: jumps
          have b18 := g_le (a := 192) (b := k) c18 (by omega) (by omega)
          obtain rfl : k = 192 := by omega
          rw [pu_c1_192] at hl
          refine lv_iload_n hx hb dX7_number_44 rfl (lv_at hl 1 rfl) ?_
          refine lv_if_ne (tgt := 55) hx hb dX7_number_45 (by decide) (fun c45 => ?_) (fun c45 => ?_)
          · -- 45: jumps
            refine lv_iload_n hx hb dX7_number_55 rfl (lv_at hl 1 rfl) ?_
            refine lv_iconst (v := 1) hx hb dX7_number_56 (by decide) ?_
            refine lv_icmp_ne (tgt := 67) hx hb dX7_number_57 (by decide) (fun c57 => ?_) (fun c57 => ?_)
            · -- 57: jumps
              refine lv_iload_n hx hb dX7_number_67 rfl (lv_at hl 1 rfl) ?_
              refine lv_iconst (v := 2) hx hb dX7_number_68 (by decide) ?_
              refine lv_icmp_ne (tgt := 76) hx hb dX7_number_69 (by decide) (fun c69 => ?_) (fun c69 => ?_)
              · -- 69: jumps
                refine lv_bipush (v := -2) hx hb dX7_number_76 (by decide) ?_
                exact g_riS hx hb hr hlocks (by unfold sp_number; rw [if_neg hp, if_neg c45, if_neg c57, if_neg c69]) dX7_number_78
              · -- 69: goes on
                refine lv_iload_n hx hb dX7_number_72 rfl (lv_at hl 2 rfl) ?_
                refine lv_goto (tgt := 78) hx hb dX7_number_73 (by decide) ?_
                exact g_riS hx hb hr hlocks (by unfold sp_number; rw [if_neg hp, if_neg c45, if_neg c57, if_pos c69]) dX7_number_78
            · -- 57: goes on
              refine lv_aload_n hx hb dX7_number_60 rfl (lv_at hl 0 rfl) ?_
              refine g_get (v := .int (I 92 3)) hx hb hts (by decide +kernel) hown hK hG 92 (by decide) gc_92 rfl 3 (by decide) (hts (.fieldLink RX7 55 "NeighbourScoresModel" "base" "I") (by decide +kernel)) (fun _ h9 => h9) rfl dX7_number_61 ?_
              refine g_i (y := nI base) hba ?_
              refine lv_goto (tgt := 78) hx hb dX7_number_64 (by decide) ?_
              exact g_riS hx hb hr hlocks (by unfold sp_number; rw [if_neg hp, if_neg c45, if_pos c57]) dX7_number_78
          · -- 45: goes on
            refine lv_aload_n hx hb dX7_number_48 rfl (lv_at hl 0 rfl) ?_
            refine g_get (v := .int (I 92 2)) hx hb hts (by decide +kernel) hown hK hG 92 (by decide) gc_92 rfl 2 (by decide) (hts (.fieldLink RX7 52 "NeighbourScoresModel" "current" "I") (by decide +kernel)) (fun _ h9 => h9) rfl dX7_number_49 ?_
            refine g_i (y := nI cur) hcu ?_
            refine lv_goto (tgt := 78) hx hb dX7_number_52 (by decide) ?_
            exact g_riS hx hb hr hlocks (by unfold sp_number; rw [if_neg hp, if_pos c45]) dX7_number_78
        · -- 18: goes on
          have b18 := g_nle (a := 192) (b := k) c18 (by omega) (by omega)
          refine lv_aload_n hx hb dX7_number_21 rfl (lv_at hl 0 rfl) ?_
          refine g_get (v := .ref (ad 93)) hx hb hts (by decide +kernel) hown hK hG 92 (by decide) gc_92 rfl 0 (by decide) (hts (.fieldLink RX7 7 "NeighbourScoresModel" "rated" "[I") (by decide +kernel)) (fun _ h9 => h9) rfl dX7_number_22 ?_
          refine lv_iload_n hx hb dX7_number_25 rfl (lv_at hl 3 rfl) ?_
          refine g_iald hx hb hK hG 93 (by decide) gc_93 k rfl (by omega) (by omega) dX7_number_26 ?_
          refine g_i (y := nI (T (k / 16) (k % 16))) (tM_at hT (by omega)) ?_
          have ht5 := hTb (k / 16) (k % 16) (by omega) (by omega)
          refine lv_if_le (tgt := 36) hx hb dX7_number_27 (by decide) (fun c27 => ?_) (fun c27 => ?_)
          · -- 27: jumps
            have b27 := g_le (a := (T (k / 16) (k % 16))) (b := 0) c27 (by omega) (by omega)
            refine lv_iload_n hx hb dX7_number_36 rfl (lv_at hl 2 rfl) ?_
            refine lv_istore_n (lv' := [(2, .int (nI (pu_c1 (fun k => T (k / 16) (k % 16)) k))), (0, .ref (ad 92)), (1, .int h), (3, .int (nI k))]) hx hb dX7_number_37 rfl hl (by decide) rfl (fun ls hl => ?_)
            refine lv_iinc (v := nI (k + 1)) (lv' := [(3, .int (nI (k + 1))), (2, .int (nI (pu_c1 (fun k => T (k / 16) (k % 16)) k))), (0, .ref (ad 92)), (1, .int h)]) hx hb dX7_number_38 hl (k := 3) rfl (nI_1 _) (by decide) rfl (fun ls hl => ?_)
            refine lv_goto (tgt := 14) hx hb dX7_number_41 (by decide) ?_
            have e9 : pu_c1 (fun k => T (k / 16) (k % 16)) (k + 1) = pu_c1 (fun k => T (k / 16) (k % 16)) k := by
              show pu_c1 (fun k => T (k / 16) (k % 16)) k + (if T (k / 16) (k % 16) = 0 then 0 else 1) = _
              rw [if_pos (by omega), Nat.add_zero]
            rw [← e9] at hl
            exact ih14 (k + 1) (by omega) (by omega) ls (lv_sub hl [2, 3, 1, 0] rfl)
          · -- 27: goes on
            have b27 := g_nle (a := (T (k / 16) (k % 16))) (b := 0) c27 (by omega) (by omega)
            refine lv_iload_n hx hb dX7_number_30 rfl (lv_at hl 2 rfl) ?_
            refine lv_iconst (v := 1) hx hb dX7_number_31 (by decide) ?_
            refine lv_iadd hx hb dX7_number_32 ?_
            refine g_i (y := nI ((pu_c1 (fun k => T (k / 16) (k % 16)) k) + 1)) (nI_add (pu_c1 (fun k => T (k / 16) (k % 16)) k) 1) ?_
            refine lv_goto (tgt := 37) hx hb dX7_number_33 (by decide) ?_
            refine lv_istore_n (lv' := [(2, .int (nI ((pu_c1 (fun k => T (k / 16) (k % 16)) k) + 1))), (0, .ref (ad 92)), (1, .int h), (3, .int (nI k))]) hx hb dX7_number_37 rfl hl (by decide) rfl (fun ls hl => ?_)
            refine lv_iinc (v := nI (k + 1)) (lv' := [(3, .int (nI (k + 1))), (2, .int (nI ((pu_c1 (fun k => T (k / 16) (k % 16)) k) + 1))), (0, .ref (ad 92)), (1, .int h)]) hx hb dX7_number_38 hl (k := 3) rfl (nI_1 _) (by decide) rfl (fun ls hl => ?_)
            refine lv_goto (tgt := 14) hx hb dX7_number_41 (by decide) ?_
            have e9 : pu_c1 (fun k => T (k / 16) (k % 16)) (k + 1) = pu_c1 (fun k => T (k / 16) (k % 16)) k + 1 := by
              show pu_c1 (fun k => T (k / 16) (k % 16)) k + (if T (k / 16) (k % 16) = 0 then 0 else 1) = _
              rw [if_neg (by omega)]
            rw [← e9] at hl
            exact ih14 (k + 1) (by omega) (by omega) ls (lv_sub hl [2, 3, 1, 0] rfl)
    exact lp14 193 0 (by omega) (by omega) ls (lv_sub hl [2, 3, 1, 0] rfl)
  · -- 4: goes on
    have hp0 : d.2.1 = 0 := by rw [← hd]; exact dk_off (pu_d1 hd0 c4)
    refine lv_bipush (v := -3) hx hb dX7_number_7 (by decide) ?_
    exact g_riS hx hb hr hlocks (by unfold sp_number; rw [if_pos hp0]) dX7_number_9
