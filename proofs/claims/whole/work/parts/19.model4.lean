set_option maxHeartbeats 4000000 in
set_option maxRecDepth 100000 in
theorem c_X7_best (l : Launch) (D : va_G) (ad : Nat → Nat) (tc : Nat → ClassId) (I : Mi) (L : Ml) (T : Tb) (d : Dk) (cur base : Nat) (hσ : repM I (T, d, cur, base)) (ua pa : Int32) : Met l yX7_best wsX7_best ({ frames := 3, cells := 0, slots := 0, locals := 72 } : Room) (va_Pc [.ref (ad 92), .int ua, .int pa] (gPc D ad tc I L)) (gQi D ad tc (fun z I1 L1 => sp_best (T, d, cur, base) ua pa = z ∧ repM I1 (T, d, cur, base) ∧ ∀ a, a < 92 → I1 a = I a)) 0 0 (gA ad) := by
  refine g_of (by decide) rfl (Nat.le_of_ble_eq_true rfl) ?_
  intro p e s m below meth c hcx hr hlocks hK hG ls hl
  obtain ⟨hx, hb, hml, hown, hts⟩ := id hcx
  have hl : lv_has ls 7 [(0, .ref (ad 92)), (1, .int ua), (2, .int pa)] := hl
  have hin : sp_in (T, d, cur, base) := hσ.1
  have hTb : pu_tb T := hin.1
  have hT : tM I T := hσ.2.1
  have hd0 : dark01 I := hσ.2.2.1
  have hd : dkM I = d := hσ.2.2.2.1
  have hcu : I 92 2 = nI cur := hσ.2.2.2.2.1
  have hba : I 92 3 = nI base := hσ.2.2.2.2.2
  have hle1 : base ≤ cur := hin.2.2.1
  have hle2 : cur ≤ base + 40 := hin.2.2.2
  refine lv_aload_n hx hb dX7_best_0 rfl (lv_at hl 0 rfl) ?_
  refine g_get (v := .int (I 92 4)) hx hb hts (by decide +kernel) hown hK hG 92 (by decide) gc_92 rfl 4 (by decide) (hts (.fieldLink RX7 41 "NeighbourScoresModel" "dark" "Z") (by decide +kernel)) (fun _ h9 => h9) rfl dX7_best_1 ?_
  refine lv_if_ne (tgt := 14) hx hb dX7_best_4 (by decide) (fun c4 => ?_) (fun c4 => ?_)
  · -- 4: jumps
    have hp0 : d.2.1 = 0 := by rw [← hd]; exact dk_off (pu_d1 hd0 c4)
    refine lv_aload_n hx hb dX7_best_14 rfl (lv_at hl 0 rfl) ?_
    refine g_get (v := .int (I 92 4)) hx hb hts (by decide +kernel) hown hK hG 92 (by decide) gc_92 rfl 4 (by decide) (hts (.fieldLink RX7 41 "NeighbourScoresModel" "dark" "Z") (by decide +kernel)) (fun _ h9 => h9) rfl dX7_best_15 ?_
    refine lv_if_eq (tgt := 26) hx hb dX7_best_18 (by decide) (fun c18 => absurd c18 c4) (fun c18 => ?_)
    refine lv_bipush (v := -3) hx hb dX7_best_21 (by decide) ?_
    refine lv_goto (tgt := 28) hx hb dX7_best_23 (by decide) ?_
    exact g_ri hx hb hr hlocks hG ⟨by unfold sp_best; rw [if_pos hp0], hσ, fun _ _ => rfl⟩ dX7_best_28
  · -- 4: goes on
    have hp1 : d.2.1 = 1 := by rw [← hd]; exact dk_on c4
    have hp : ¬ d.2.1 = 0 := by rw [hp1]; decide
    refine lv_iload_n hx hb dX7_best_7 rfl (lv_at hl 1 rfl) ?_
    refine g_si (va_runS (As := [.int ua]) (rest := []) hcx (c_X7_noUser l ua) (va_cwS 1 hts gX7_best_X7_noUser rfl rfl rfl (by decide +kernel) ⟨Nat.le_of_ble_eq_true rfl, Nat.le_of_ble_eq_true rfl⟩) (g_p0) rfl rfl hl.1 rfl (lv_room (Nat.le_of_ble_eq_true rfl)) dX7_best_8 ⟨Nat.le_refl _, Nat.le_refl _⟩) (fun r_8 hw_8 => ?_)
    rcases hw_8 with ⟨hw_8, rfl⟩ | ⟨hw_8, rfl⟩
    · -- 8: yes
      refine lv_if_eq (tgt := 29) hx hb dX7_best_11 (by decide) (fun c11 => absurd c11 (by decide)) (fun _ => ?_)
      refine lv_aload_n hx hb dX7_best_14 rfl (lv_at hl 0 rfl) ?_
      refine g_get (v := .int (I 92 4)) hx hb hts (by decide +kernel) hown hK hG 92 (by decide) gc_92 rfl 4 (by decide) (hts (.fieldLink RX7 41 "NeighbourScoresModel" "dark" "Z") (by decide +kernel)) (fun _ h9 => h9) rfl dX7_best_15 ?_
      refine lv_if_eq (tgt := 26) hx hb dX7_best_18 (by decide) (fun c18 => ?_) (fun c18 => absurd c4 c18)
      refine lv_bipush (v := -2) hx hb dX7_best_26 (by decide) ?_
      exact g_ri hx hb hr hlocks hG ⟨by unfold sp_best; rw [if_neg hp, if_pos (bR_f hw_8 (by decide))], hσ, fun _ _ => rfl⟩ dX7_best_28
    · -- 8: no
      refine lv_if_eq (tgt := 29) hx hb dX7_best_11 (by decide) (fun _ => ?_) (fun c11 => absurd (by decide) c11)
      obtain ⟨u, hu, rfl⟩ := hw_8
      refine lv_aload_n hx hb dX7_best_29 rfl (lv_at hl 0 rfl) ?_
      refine lv_iload_n hx hb dX7_best_30 rfl (lv_at hl 1 rfl) ?_
      refine g_cv (va_runV (As := [.int (nI u)]) (rest := []) hcx (c_X7_scoreAll l D ad tc I L T hTb hT u hu) (cwV 1 hts gX7_best_X7_scoreAll rfl rfl rfl (by decide +kernel) ⟨Nat.le_of_ble_eq_true rfl, Nat.le_of_ble_eq_true rfl⟩) (g_pV hK hG 92 (by decide) gc_92 rfl) rfl rfl hl.1 rfl (lv_room (Nat.le_of_ble_eq_true rfl)) dX7_best_31 ⟨Nat.le_refl _, Nat.le_refl _⟩) hK hG (fun I_31 L_31 H locs hw_31 hG => ?_)
      obtain ⟨hW, hs, hf, hfL⟩ := hw_31
      refine lv_iconst (v := 0) hx hb dX7_best_34 (by decide) ?_
      refine lv_istore_n (lv' := [(3, .int 0), (0, .ref (ad 92)), (1, .int (nI u)), (2, .int pa)]) hx hb dX7_best_35 rfl hl (by decide) rfl (fun ls hl => ?_)
      have lp36 : ∀ (n : Nat) (i : Nat), (i ≤ 16) → (17 ≤ i + n) → (∀ y, y < i → 0 < pu_vb T u y → ¬ nI (pu_rk (pu_vb T u) 16 y) = pa) → ∀ ls : Array Slot, lv_has ls 7 [(0, .ref (ad 92)), (1, .int (nI u)), (2, .int pa), (3, .int (nI i))] → W p l e (headSpec wsX7_best ({ frames := 3, cells := 0, slots := 0, locals := 72 } : Room)).room s m ([.ref (ad 92), .int (nI u), .int pa] : List Value).toArray below meth c H locs 0 0 (MQ below (gQi D ad tc (fun z I1 L1 => sp_best (T, d, cur, base) (nI u) pa = z ∧ repM I1 (T, d, cur, base) ∧ ∀ a, a < 92 → I1 a = I a)) ([.ref (ad 92), .int (nI u), .int pa] : List Value).toArray s 0 0 (gA ad)) (F0 m 36 ls []) := by
        intro n
        induction n with
        | zero =>
          intro i hi hn hq ls hl
          exact absurd hn (by omega)
        | succ n ih36 =>
          intro i hi hn hq ls hl
          refine lv_iload_n hx hb dX7_best_36 rfl (lv_at hl 3 rfl) ?_
          refine lv_bipush (v := 16) hx hb dX7_best_37 (by decide) ?_
          refine lv_icmp_ge (tgt := 157) hx hb dX7_best_39 (by decide) (fun c39 => ?_) (fun c39 => ?_)
          · -- 39: jumps
            have b39 := g_le (a := 16) (b := i) c39 (by omega) (by omega)
            refine lv_iconst (v := -1) hx hb dX7_best_157 (by decide) ?_
            exact g_ri hx hb hr hlocks hG ⟨by unfold sp_best; rw [if_neg hp, if_neg (sp_ok1 (by decide) hu), nI_clamp (by omega)]; exact pu_ent_no (fun y hy hp => hq y (by omega) hp), repM_mem hσ (hf 92 (by decide)) (hf 93 (by decide)) (hf 94 (by decide)), fun a ha => hf a (by omega)⟩ dX7_best_158
          · -- 39: goes on
            have b39 := g_nle (a := 16) (b := i) c39 (by omega) (by omega)
            refine lv_aload_n hx hb dX7_best_42 rfl (lv_at hl 0 rfl) ?_
            refine lv_iload_n hx hb dX7_best_43 rfl (lv_at hl 1 rfl) ?_
            refine lv_iload_n hx hb dX7_best_44 rfl (lv_at hl 3 rfl) ?_
            refine g_si (va_runV (As := [.int (nI u), .int (nI i)]) (rest := []) hcx (c_X7_offered l D ad tc I_31 L_31 T hTb (tM_mem hT (hf 93 (by decide))) u i hu (by omega) hs) (cwV 2 hts gX7_best_X7_offered rfl rfl rfl (by decide +kernel) ⟨Nat.le_of_ble_eq_true rfl, Nat.le_of_ble_eq_true rfl⟩) (g_pV hK hG 92 (by decide) gc_92 rfl) rfl rfl hl.1 rfl (lv_room (Nat.le_of_ble_eq_true rfl)) dX7_best_45 ⟨Nat.le_refl _, Nat.le_refl _⟩) (fun r_45 hw_45 => ?_)
            rcases hw_45 with ⟨hw_45, rfl⟩ | ⟨hw_45, rfl⟩
            · -- 45: yes
              refine lv_if_eq (tgt := 151) hx hb dX7_best_48 (by decide) (fun c48 => absurd c48 (by decide)) (fun _ => ?_)
              refine lv_iconst (v := 0) hx hb dX7_best_51 (by decide) ?_
              refine lv_istore (lv' := [(4, .int 0), (0, .ref (ad 92)), (1, .int (nI u)), (2, .int pa), (3, .int (nI i))]) hx hb dX7_best_52 hl (by decide) rfl (fun ls hl => ?_)
              refine lv_iconst (v := 0) hx hb dX7_best_54 (by decide) ?_
              refine lv_istore (lv' := [(5, .int 0), (4, .int 0), (0, .ref (ad 92)), (1, .int (nI u)), (2, .int pa), (3, .int (nI i))]) hx hb dX7_best_55 hl (by decide) rfl (fun ls hl => ?_)
              have lp57 : ∀ (n : Nat) (y : Nat), (y ≤ 16) → (17 ≤ y + n) → ∀ ls : Array Slot, lv_has ls 7 [(0, .ref (ad 92)), (1, .int (nI u)), (2, .int pa), (3, .int (nI i)), (4, .int (nI (pu_ct (fun y => pu_be (pu_vb T u) y i) y))), (5, .int (nI y))] → W p l e (headSpec wsX7_best ({ frames := 3, cells := 0, slots := 0, locals := 72 } : Room)).room s m ([.ref (ad 92), .int (nI u), .int pa] : List Value).toArray below meth c H locs 0 0 (MQ below (gQi D ad tc (fun z I1 L1 => sp_best (T, d, cur, base) (nI u) pa = z ∧ repM I1 (T, d, cur, base) ∧ ∀ a, a < 92 → I1 a = I a)) ([.ref (ad 92), .int (nI u), .int pa] : List Value).toArray s 0 0 (gA ad)) (F0 m 57 ls []) := by
                intro n
                induction n with
                | zero =>
                  intro y hy1 hn2 ls hl
                  exact absurd hn2 (by omega)
                | succ n ih57 =>
                  intro y hy1 hn2 ls hl
                  refine lv_iload hx hb dX7_best_57 (lv_at hl 5 rfl) ?_
                  refine lv_bipush (v := 16) hx hb dX7_best_59 (by decide) ?_
                  refine lv_icmp_ge (tgt := 143) hx hb dX7_best_61 (by decide) (fun c61 => ?_) (fun c61 => ?_)
                  · -- 61: jumps
                    have b61 := g_le (a := 16) (b := y) c61 (by omega) (by omega)
                    have hx16 : y = 16 := by omega
                    refine lv_iload hx hb dX7_best_143 (lv_at hl 4 rfl) ?_
                    refine lv_iload_n hx hb dX7_best_145 rfl (lv_at hl 2 rfl) ?_
                    refine lv_icmp_ne (tgt := 151) hx hb dX7_best_146 (by decide) (fun c146 => ?_) (fun c146 => ?_)
                    · -- 146: jumps
                      have hp9 := (pu_vb_p hw_45).2
                      refine lv_iinc (v := nI (i + 1)) (lv' := [(3, .int (nI (i + 1))), (0, .ref (ad 92)), (1, .int (nI u)), (2, .int pa), (4, .int (nI (pu_ct (fun y => pu_be (pu_vb T u) y i) y))), (5, .int (nI y))]) hx hb dX7_best_151 hl (k := 3) rfl (nI_1 _) (by decide) rfl (fun ls hl => ?_)
                      refine lv_goto (tgt := 36) hx hb dX7_best_154 (by decide) ?_
                      exact ih36 (i + 1) (by omega) (by omega) (fun y hy hp => by by_cases e : y = i; (rw [hx16] at c146; rw [e]; exact c146); exact hq y (by omega) hp) ls (lv_sub hl [1, 2, 3, 0] rfl)
                    · -- 146: goes on
                      refine lv_iload_n hx hb dX7_best_149 rfl (lv_at hl 3 rfl) ?_
                      exact g_ri hx hb hr hlocks hG ⟨by unfold sp_best; rw [if_neg hp, if_neg (sp_ok1 (by decide) hu), nI_clamp (by omega)]; rw [hx16] at c146; rw [← c146]; exact pu_ent_some (by omega) (pu_vb_p hw_45).2, repM_mem hσ (hf 92 (by decide)) (hf 93 (by decide)) (hf 94 (by decide)), fun a ha => hf a (by omega)⟩ dX7_best_150
                  · -- 61: goes on
                    have b61 := g_nle (a := 16) (b := y) c61 (by omega) (by omega)
                    refine lv_aload_n hx hb dX7_best_64 rfl (lv_at hl 0 rfl) ?_
                    refine g_get (v := .ref (ad 96)) hx hb hts (by decide +kernel) hown hK hG 92 (by decide) gc_92 rfl 7 (by decide) (hts (.fieldLink RX7 23 "NeighbourScoresModel" "scores" "[J") (by decide +kernel)) (fun _ h9 => h9) rfl dX7_best_65 ?_
                    refine lv_iload hx hb dX7_best_68 (lv_at hl 5 rfl) ?_
                    refine g_lald hx hb hK hG 96 (by decide) gc_96 y rfl (by omega) (by omega) dX7_best_70 ?_
                    refine g_l (y := pu_sc T u y 16) (hs y (by omega)) ?_
                    refine lv_aload_n hx hb dX7_best_71 rfl (lv_at hl 0 rfl) ?_
                    refine g_get (v := .ref (ad 96)) hx hb hts (by decide +kernel) hown hK hG 92 (by decide) gc_92 rfl 7 (by decide) (hts (.fieldLink RX7 23 "NeighbourScoresModel" "scores" "[J") (by decide +kernel)) (fun _ h9 => h9) rfl dX7_best_72 ?_
                    refine lv_iload_n hx hb dX7_best_75 rfl (lv_at hl 3 rfl) ?_
                    refine g_lald hx hb hK hG 96 (by decide) gc_96 i rfl (by omega) (by omega) dX7_best_76 ?_
                    refine g_l (y := pu_sc T u i 16) (hs i (by omega)) ?_
                    refine W.lcmp hx hb dX7_best_77 ?_
                    refine lv_if_gt (tgt := 104) hx hb dX7_best_78 (by decide) (fun c78 => ?_) (fun c78 => ?_)
                    · -- 78: jumps
                      refine lv_iconst (v := 1) hx hb dX7_best_104 (by decide) ?_
                      refine lv_goto (tgt := 109) hx hb dX7_best_105 (by decide) ?_
                      refine lv_istore (lv' := [(6, .int 1), (0, .ref (ad 92)), (1, .int (nI u)), (2, .int pa), (3, .int (nI i)), (4, .int (nI (pu_ct (fun y => pu_be (pu_vb T u) y i) y))), (5, .int (nI y))]) hx hb dX7_best_109 hl (by decide) rfl (fun ls hl => ?_)
                      refine lv_aload_n hx hb dX7_best_111 rfl (lv_at hl 1 rfl) ?_
                      refine lv_iload_n hx hb dX7_best_112 rfl (lv_at hl 2 rfl) ?_
                      refine lv_iload hx hb dX7_best_113 (lv_at hl 6 rfl) ?_
                      refine g_si (va_runV (As := [.int (nI u), .int (nI y)]) (rest := []) hcx (c_X7_offered l D ad tc I_31 L_31 T hTb (tM_mem hT (hf 93 (by decide))) u y hu (by omega) hs) (cwV 2 hts gX7_best_X7_offered rfl rfl rfl (by decide +kernel) ⟨Nat.le_of_ble_eq_true rfl, Nat.le_of_ble_eq_true rfl⟩) (g_pV hK hG 92 (by decide) gc_92 rfl) rfl rfl hl.1 rfl (lv_room (Nat.le_of_ble_eq_true rfl)) dX7_best_115 ⟨Nat.le_refl _, Nat.le_refl _⟩) (fun r_115 hw_115 => ?_)
                      rcases hw_115 with ⟨hw_115, rfl⟩ | ⟨hw_115, rfl⟩
                      · -- 115: yes
                        refine lv_if_eq (tgt := 133) hx hb dX7_best_118 (by decide) (fun c118 => absurd c118 (by decide)) (fun _ => ?_)
                        refine lv_iload hx hb dX7_best_121 (lv_at hl 0 rfl) ?_
                        refine lv_if_eq (tgt := 133) hx hb dX7_best_123 (by decide) (fun c123 => absurd c123 (by decide)) (fun _ => ?_)
                        refine lv_iload hx hb dX7_best_126 (lv_at hl 5 rfl) ?_
                        refine lv_iconst (v := 1) hx hb dX7_best_128 (by decide) ?_
                        refine lv_iadd hx hb dX7_best_129 ?_
                        refine g_i (y := nI ((pu_ct (fun y => pu_be (pu_vb T u) y i) y) + 1)) (nI_add (pu_ct (fun y => pu_be (pu_vb T u) y i) y) 1) ?_
                        refine lv_goto (tgt := 135) hx hb dX7_best_130 (by decide) ?_
                        refine lv_istore (lv' := [(4, .int (nI ((pu_ct (fun y => pu_be (pu_vb T u) y i) y) + 1))), (6, .int 1), (0, .ref (ad 92)), (1, .int (nI u)), (2, .int pa), (3, .int (nI i)), (5, .int (nI y))]) hx hb dX7_best_135 hl (by decide) rfl (fun ls hl => ?_)
                        refine lv_iinc (v := nI (y + 1)) (lv' := [(5, .int (nI (y + 1))), (4, .int (nI ((pu_ct (fun y => pu_be (pu_vb T u) y i) y) + 1))), (6, .int 1), (0, .ref (ad 92)), (1, .int (nI u)), (2, .int pa), (3, .int (nI i))]) hx hb dX7_best_137 hl (k := 6) rfl (nI_1 _) (by decide) rfl (fun ls hl => ?_)
                        refine lv_goto (tgt := 57) hx hb dX7_best_140 (by decide) ?_
                        have e8 : pu_be (pu_vb T u) y i = true := pu_be_y1 (pu_vb_p hw_115).2 (by rw [(pu_vb_p hw_115).1, (pu_vb_p hw_45).1]; exact pu_cmp_p c78)
                        have e9 : pu_ct (fun y => pu_be (pu_vb T u) y i) (y + 1) = pu_ct (fun y => pu_be (pu_vb T u) y i) y + 1 := by
                          show pu_ct _ _ + (if pu_be (pu_vb T u) y i = true then 1 else 0) = _
                          rw [e8]
                          rfl
                        rw [← e9] at hl
                        exact ih57 (y + 1) (by omega) (by omega) ls (lv_sub hl [3, 4, 5, 6, 1, 0] rfl)
                      · -- 115: no
                        refine lv_if_eq (tgt := 133) hx hb dX7_best_118 (by decide) (fun _ => ?_) (fun c118 => absurd (by decide) c118)
                        refine lv_iload hx hb dX7_best_133 (lv_at hl 5 rfl) ?_
                        refine lv_istore (lv' := [(4, .int (nI (pu_ct (fun y => pu_be (pu_vb T u) y i) y))), (6, .int 1), (0, .ref (ad 92)), (1, .int (nI u)), (2, .int pa), (3, .int (nI i)), (5, .int (nI y))]) hx hb dX7_best_135 hl (by decide) rfl (fun ls hl => ?_)
                        refine lv_iinc (v := nI (y + 1)) (lv' := [(5, .int (nI (y + 1))), (4, .int (nI (pu_ct (fun y => pu_be (pu_vb T u) y i) y))), (6, .int 1), (0, .ref (ad 92)), (1, .int (nI u)), (2, .int pa), (3, .int (nI i))]) hx hb dX7_best_137 hl (k := 6) rfl (nI_1 _) (by decide) rfl (fun ls hl => ?_)
                        refine lv_goto (tgt := 57) hx hb dX7_best_140 (by decide) ?_
                        have e8 : pu_be (pu_vb T u) y i = false := pu_be_n (pu_vb_n hw_115)
                        have e9 : pu_ct (fun y => pu_be (pu_vb T u) y i) (y + 1) = pu_ct (fun y => pu_be (pu_vb T u) y i) y := by
                          show pu_ct _ _ + (if pu_be (pu_vb T u) y i = true then 1 else 0) = _
                          rw [e8]
                          rfl
                        rw [← e9] at hl
                        exact ih57 (y + 1) (by omega) (by omega) ls (lv_sub hl [3, 4, 5, 6, 1, 0] rfl)
                    · -- 78: goes on
                      refine lv_aload_n hx hb dX7_best_81 rfl (lv_at hl 0 rfl) ?_
                      refine g_get (v := .ref (ad 96)) hx hb hts (by decide +kernel) hown hK hG 92 (by decide) gc_92 rfl 7 (by decide) (hts (.fieldLink RX7 23 "NeighbourScoresModel" "scores" "[J") (by decide +kernel)) (fun _ h9 => h9) rfl dX7_best_82 ?_
                      refine lv_iload hx hb dX7_best_85 (lv_at hl 5 rfl) ?_
                      refine g_lald hx hb hK hG 96 (by decide) gc_96 y rfl (by omega) (by omega) dX7_best_87 ?_
                      refine g_l (y := pu_sc T u y 16) (hs y (by omega)) ?_
                      refine lv_aload_n hx hb dX7_best_88 rfl (lv_at hl 0 rfl) ?_
                      refine g_get (v := .ref (ad 96)) hx hb hts (by decide +kernel) hown hK hG 92 (by decide) gc_92 rfl 7 (by decide) (hts (.fieldLink RX7 23 "NeighbourScoresModel" "scores" "[J") (by decide +kernel)) (fun _ h9 => h9) rfl dX7_best_89 ?_
                      refine lv_iload_n hx hb dX7_best_92 rfl (lv_at hl 3 rfl) ?_
                      refine g_lald hx hb hK hG 96 (by decide) gc_96 i rfl (by omega) (by omega) dX7_best_93 ?_
                      refine g_l (y := pu_sc T u i 16) (hs i (by omega)) ?_
                      refine W.lcmp hx hb dX7_best_94 ?_
                      refine lv_if_ne (tgt := 108) hx hb dX7_best_95 (by decide) (fun c95 => ?_) (fun c95 => ?_)
                      · -- 95: jumps
                        refine lv_iconst (v := 0) hx hb dX7_best_108 (by decide) ?_
                        refine lv_istore (lv' := [(6, .int 0), (0, .ref (ad 92)), (1, .int (nI u)), (2, .int pa), (3, .int (nI i)), (4, .int (nI (pu_ct (fun y => pu_be (pu_vb T u) y i) y))), (5, .int (nI y))]) hx hb dX7_best_109 hl (by decide) rfl (fun ls hl => ?_)
                        refine lv_aload_n hx hb dX7_best_111 rfl (lv_at hl 1 rfl) ?_
                        refine lv_iload_n hx hb dX7_best_112 rfl (lv_at hl 2 rfl) ?_
                        refine lv_iload hx hb dX7_best_113 (lv_at hl 6 rfl) ?_
                        refine g_si (va_runV (As := [.int (nI u), .int (nI y)]) (rest := []) hcx (c_X7_offered l D ad tc I_31 L_31 T hTb (tM_mem hT (hf 93 (by decide))) u y hu (by omega) hs) (cwV 2 hts gX7_best_X7_offered rfl rfl rfl (by decide +kernel) ⟨Nat.le_of_ble_eq_true rfl, Nat.le_of_ble_eq_true rfl⟩) (g_pV hK hG 92 (by decide) gc_92 rfl) rfl rfl hl.1 rfl (lv_room (Nat.le_of_ble_eq_true rfl)) dX7_best_115 ⟨Nat.le_refl _, Nat.le_refl _⟩) (fun r_115 hw_115 => ?_)
                        rcases hw_115 with ⟨hw_115, rfl⟩ | ⟨hw_115, rfl⟩
                        · -- 115: yes
                          refine lv_if_eq (tgt := 133) hx hb dX7_best_118 (by decide) (fun c118 => absurd c118 (by decide)) (fun _ => ?_)
                          refine lv_iload hx hb dX7_best_121 (lv_at hl 0 rfl) ?_
                          refine lv_if_eq (tgt := 133) hx hb dX7_best_123 (by decide) (fun _ => ?_) (fun c123 => absurd (by decide) c123)
                          refine lv_iload hx hb dX7_best_133 (lv_at hl 5 rfl) ?_
                          refine lv_istore (lv' := [(4, .int (nI (pu_ct (fun y => pu_be (pu_vb T u) y i) y))), (6, .int 0), (0, .ref (ad 92)), (1, .int (nI u)), (2, .int pa), (3, .int (nI i)), (5, .int (nI y))]) hx hb dX7_best_135 hl (by decide) rfl (fun ls hl => ?_)
                          refine lv_iinc (v := nI (y + 1)) (lv' := [(5, .int (nI (y + 1))), (4, .int (nI (pu_ct (fun y => pu_be (pu_vb T u) y i) y))), (6, .int 0), (0, .ref (ad 92)), (1, .int (nI u)), (2, .int pa), (3, .int (nI i))]) hx hb dX7_best_137 hl (k := 6) rfl (nI_1 _) (by decide) rfl (fun ls hl => ?_)
                          refine lv_goto (tgt := 57) hx hb dX7_best_140 (by decide) ?_
                          have e8 : pu_be (pu_vb T u) y i = false := pu_be_no1 (by rw [(pu_vb_p hw_115).1, (pu_vb_p hw_45).1]; exact pu_cmp_np c78) (by rw [(pu_vb_p hw_115).1, (pu_vb_p hw_45).1]; exact fun z => c95 (by rw [z]; exact pu_cmp_self _))
                          have e9 : pu_ct (fun y => pu_be (pu_vb T u) y i) (y + 1) = pu_ct (fun y => pu_be (pu_vb T u) y i) y := by
                            show pu_ct _ _ + (if pu_be (pu_vb T u) y i = true then 1 else 0) = _
                            rw [e8]
                            rfl
                          rw [← e9] at hl
                          exact ih57 (y + 1) (by omega) (by omega) ls (lv_sub hl [3, 4, 5, 6, 1, 0] rfl)
                        · -- 115: no
                          refine lv_if_eq (tgt := 133) hx hb dX7_best_118 (by decide) (fun _ => ?_) (fun c118 => absurd (by decide) c118)
                          refine lv_iload hx hb dX7_best_133 (lv_at hl 5 rfl) ?_
                          refine lv_istore (lv' := [(4, .int (nI (pu_ct (fun y => pu_be (pu_vb T u) y i) y))), (6, .int 0), (0, .ref (ad 92)), (1, .int (nI u)), (2, .int pa), (3, .int (nI i)), (5, .int (nI y))]) hx hb dX7_best_135 hl (by decide) rfl (fun ls hl => ?_)
                          refine lv_iinc (v := nI (y + 1)) (lv' := [(5, .int (nI (y + 1))), (4, .int (nI (pu_ct (fun y => pu_be (pu_vb T u) y i) y))), (6, .int 0), (0, .ref (ad 92)), (1, .int (nI u)), (2, .int pa), (3, .int (nI i))]) hx hb dX7_best_137 hl (k := 6) rfl (nI_1 _) (by decide) rfl (fun ls hl => ?_)
                          refine lv_goto (tgt := 57) hx hb dX7_best_140 (by decide) ?_
                          have e8 : pu_be (pu_vb T u) y i = false := pu_be_n (pu_vb_n hw_115)
                          have e9 : pu_ct (fun y => pu_be (pu_vb T u) y i) (y + 1) = pu_ct (fun y => pu_be (pu_vb T u) y i) y := by
                            show pu_ct _ _ + (if pu_be (pu_vb T u) y i = true then 1 else 0) = _
                            rw [e8]
                            rfl
                          rw [← e9] at hl
                          exact ih57 (y + 1) (by omega) (by omega) ls (lv_sub hl [3, 4, 5, 6, 1, 0] rfl)
                      · -- 95: goes on
                        refine lv_iload hx hb dX7_best_98 (lv_at hl 5 rfl) ?_
                        refine lv_iload_n hx hb dX7_best_100 rfl (lv_at hl 3 rfl) ?_
                        refine lv_icmp_ge (tgt := 108) hx hb dX7_best_101 (by decide) (fun c101 => ?_) (fun c101 => ?_)
                        · -- 101: jumps
                          have b101 := g_le (a := i) (b := y) c101 (by omega) (by omega)
                          refine lv_iconst (v := 0) hx hb dX7_best_108 (by decide) ?_
                          refine lv_istore (lv' := [(6, .int 0), (0, .ref (ad 92)), (1, .int (nI u)), (2, .int pa), (3, .int (nI i)), (4, .int (nI (pu_ct (fun y => pu_be (pu_vb T u) y i) y))), (5, .int (nI y))]) hx hb dX7_best_109 hl (by decide) rfl (fun ls hl => ?_)
                          refine lv_aload_n hx hb dX7_best_111 rfl (lv_at hl 1 rfl) ?_
                          refine lv_iload_n hx hb dX7_best_112 rfl (lv_at hl 2 rfl) ?_
                          refine lv_iload hx hb dX7_best_113 (lv_at hl 6 rfl) ?_
                          refine g_si (va_runV (As := [.int (nI u), .int (nI y)]) (rest := []) hcx (c_X7_offered l D ad tc I_31 L_31 T hTb (tM_mem hT (hf 93 (by decide))) u y hu (by omega) hs) (cwV 2 hts gX7_best_X7_offered rfl rfl rfl (by decide +kernel) ⟨Nat.le_of_ble_eq_true rfl, Nat.le_of_ble_eq_true rfl⟩) (g_pV hK hG 92 (by decide) gc_92 rfl) rfl rfl hl.1 rfl (lv_room (Nat.le_of_ble_eq_true rfl)) dX7_best_115 ⟨Nat.le_refl _, Nat.le_refl _⟩) (fun r_115 hw_115 => ?_)
                          rcases hw_115 with ⟨hw_115, rfl⟩ | ⟨hw_115, rfl⟩
                          · -- 115: yes
                            refine lv_if_eq (tgt := 133) hx hb dX7_best_118 (by decide) (fun c118 => absurd c118 (by decide)) (fun _ => ?_)
                            refine lv_iload hx hb dX7_best_121 (lv_at hl 0 rfl) ?_
                            refine lv_if_eq (tgt := 133) hx hb dX7_best_123 (by decide) (fun _ => ?_) (fun c123 => absurd (by decide) c123)
                            refine lv_iload hx hb dX7_best_133 (lv_at hl 5 rfl) ?_
                            refine lv_istore (lv' := [(4, .int (nI (pu_ct (fun y => pu_be (pu_vb T u) y i) y))), (6, .int 0), (0, .ref (ad 92)), (1, .int (nI u)), (2, .int pa), (3, .int (nI i)), (5, .int (nI y))]) hx hb dX7_best_135 hl (by decide) rfl (fun ls hl => ?_)
                            refine lv_iinc (v := nI (y + 1)) (lv' := [(5, .int (nI (y + 1))), (4, .int (nI (pu_ct (fun y => pu_be (pu_vb T u) y i) y))), (6, .int 0), (0, .ref (ad 92)), (1, .int (nI u)), (2, .int pa), (3, .int (nI i))]) hx hb dX7_best_137 hl (k := 6) rfl (nI_1 _) (by decide) rfl (fun ls hl => ?_)
                            refine lv_goto (tgt := 57) hx hb dX7_best_140 (by decide) ?_
                            have e8 : pu_be (pu_vb T u) y i = false := pu_be_no2 (by rw [(pu_vb_p hw_115).1, (pu_vb_p hw_45).1]; exact pu_cmp_np c78) (by omega)
                            have e9 : pu_ct (fun y => pu_be (pu_vb T u) y i) (y + 1) = pu_ct (fun y => pu_be (pu_vb T u) y i) y := by
                              show pu_ct _ _ + (if pu_be (pu_vb T u) y i = true then 1 else 0) = _
                              rw [e8]
                              rfl
                            rw [← e9] at hl
                            exact ih57 (y + 1) (by omega) (by omega) ls (lv_sub hl [3, 4, 5, 6, 1, 0] rfl)
                          · -- 115: no
                            refine lv_if_eq (tgt := 133) hx hb dX7_best_118 (by decide) (fun _ => ?_) (fun c118 => absurd (by decide) c118)
                            refine lv_iload hx hb dX7_best_133 (lv_at hl 5 rfl) ?_
                            refine lv_istore (lv' := [(4, .int (nI (pu_ct (fun y => pu_be (pu_vb T u) y i) y))), (6, .int 0), (0, .ref (ad 92)), (1, .int (nI u)), (2, .int pa), (3, .int (nI i)), (5, .int (nI y))]) hx hb dX7_best_135 hl (by decide) rfl (fun ls hl => ?_)
                            refine lv_iinc (v := nI (y + 1)) (lv' := [(5, .int (nI (y + 1))), (4, .int (nI (pu_ct (fun y => pu_be (pu_vb T u) y i) y))), (6, .int 0), (0, .ref (ad 92)), (1, .int (nI u)), (2, .int pa), (3, .int (nI i))]) hx hb dX7_best_137 hl (k := 6) rfl (nI_1 _) (by decide) rfl (fun ls hl => ?_)
                            refine lv_goto (tgt := 57) hx hb dX7_best_140 (by decide) ?_
                            have e8 : pu_be (pu_vb T u) y i = false := pu_be_n (pu_vb_n hw_115)
                            have e9 : pu_ct (fun y => pu_be (pu_vb T u) y i) (y + 1) = pu_ct (fun y => pu_be (pu_vb T u) y i) y := by
                              show pu_ct _ _ + (if pu_be (pu_vb T u) y i = true then 1 else 0) = _
                              rw [e8]
                              rfl
                            rw [← e9] at hl
                            exact ih57 (y + 1) (by omega) (by omega) ls (lv_sub hl [3, 4, 5, 6, 1, 0] rfl)
                        · -- 101: goes on
                          have b101 := g_nle (a := i) (b := y) c101 (by omega) (by omega)
                          refine lv_iconst (v := 1) hx hb dX7_best_104 (by decide) ?_
                          refine lv_goto (tgt := 109) hx hb dX7_best_105 (by decide) ?_
                          refine lv_istore (lv' := [(6, .int 1), (0, .ref (ad 92)), (1, .int (nI u)), (2, .int pa), (3, .int (nI i)), (4, .int (nI (pu_ct (fun y => pu_be (pu_vb T u) y i) y))), (5, .int (nI y))]) hx hb dX7_best_109 hl (by decide) rfl (fun ls hl => ?_)
                          refine lv_aload_n hx hb dX7_best_111 rfl (lv_at hl 1 rfl) ?_
                          refine lv_iload_n hx hb dX7_best_112 rfl (lv_at hl 2 rfl) ?_
                          refine lv_iload hx hb dX7_best_113 (lv_at hl 6 rfl) ?_
                          refine g_si (va_runV (As := [.int (nI u), .int (nI y)]) (rest := []) hcx (c_X7_offered l D ad tc I_31 L_31 T hTb (tM_mem hT (hf 93 (by decide))) u y hu (by omega) hs) (cwV 2 hts gX7_best_X7_offered rfl rfl rfl (by decide +kernel) ⟨Nat.le_of_ble_eq_true rfl, Nat.le_of_ble_eq_true rfl⟩) (g_pV hK hG 92 (by decide) gc_92 rfl) rfl rfl hl.1 rfl (lv_room (Nat.le_of_ble_eq_true rfl)) dX7_best_115 ⟨Nat.le_refl _, Nat.le_refl _⟩) (fun r_115 hw_115 => ?_)
                          rcases hw_115 with ⟨hw_115, rfl⟩ | ⟨hw_115, rfl⟩
                          · -- 115: yes
                            refine lv_if_eq (tgt := 133) hx hb dX7_best_118 (by decide) (fun c118 => absurd c118 (by decide)) (fun _ => ?_)
                            refine lv_iload hx hb dX7_best_121 (lv_at hl 0 rfl) ?_
                            refine lv_if_eq (tgt := 133) hx hb dX7_best_123 (by decide) (fun c123 => absurd c123 (by decide)) (fun _ => ?_)
                            refine lv_iload hx hb dX7_best_126 (lv_at hl 5 rfl) ?_
                            refine lv_iconst (v := 1) hx hb dX7_best_128 (by decide) ?_
                            refine lv_iadd hx hb dX7_best_129 ?_
                            refine g_i (y := nI ((pu_ct (fun y => pu_be (pu_vb T u) y i) y) + 1)) (nI_add (pu_ct (fun y => pu_be (pu_vb T u) y i) y) 1) ?_
                            refine lv_goto (tgt := 135) hx hb dX7_best_130 (by decide) ?_
                            refine lv_istore (lv' := [(4, .int (nI ((pu_ct (fun y => pu_be (pu_vb T u) y i) y) + 1))), (6, .int 1), (0, .ref (ad 92)), (1, .int (nI u)), (2, .int pa), (3, .int (nI i)), (5, .int (nI y))]) hx hb dX7_best_135 hl (by decide) rfl (fun ls hl => ?_)
                            refine lv_iinc (v := nI (y + 1)) (lv' := [(5, .int (nI (y + 1))), (4, .int (nI ((pu_ct (fun y => pu_be (pu_vb T u) y i) y) + 1))), (6, .int 1), (0, .ref (ad 92)), (1, .int (nI u)), (2, .int pa), (3, .int (nI i))]) hx hb dX7_best_137 hl (k := 6) rfl (nI_1 _) (by decide) rfl (fun ls hl => ?_)
                            refine lv_goto (tgt := 57) hx hb dX7_best_140 (by decide) ?_
                            have e8 : pu_be (pu_vb T u) y i = true := pu_be_y2 (pu_vb_p hw_115).2 (by rw [(pu_vb_p hw_115).1, (pu_vb_p hw_45).1]; exact pu_cmp0 c95) b101
                            have e9 : pu_ct (fun y => pu_be (pu_vb T u) y i) (y + 1) = pu_ct (fun y => pu_be (pu_vb T u) y i) y + 1 := by
                              show pu_ct _ _ + (if pu_be (pu_vb T u) y i = true then 1 else 0) = _
                              rw [e8]
                              rfl
                            rw [← e9] at hl
                            exact ih57 (y + 1) (by omega) (by omega) ls (lv_sub hl [3, 4, 5, 6, 1, 0] rfl)
                          · -- 115: no
                            refine lv_if_eq (tgt := 133) hx hb dX7_best_118 (by decide) (fun _ => ?_) (fun c118 => absurd (by decide) c118)
                            refine lv_iload hx hb dX7_best_133 (lv_at hl 5 rfl) ?_
                            refine lv_istore (lv' := [(4, .int (nI (pu_ct (fun y => pu_be (pu_vb T u) y i) y))), (6, .int 1), (0, .ref (ad 92)), (1, .int (nI u)), (2, .int pa), (3, .int (nI i)), (5, .int (nI y))]) hx hb dX7_best_135 hl (by decide) rfl (fun ls hl => ?_)
                            refine lv_iinc (v := nI (y + 1)) (lv' := [(5, .int (nI (y + 1))), (4, .int (nI (pu_ct (fun y => pu_be (pu_vb T u) y i) y))), (6, .int 1), (0, .ref (ad 92)), (1, .int (nI u)), (2, .int pa), (3, .int (nI i))]) hx hb dX7_best_137 hl (k := 6) rfl (nI_1 _) (by decide) rfl (fun ls hl => ?_)
                            refine lv_goto (tgt := 57) hx hb dX7_best_140 (by decide) ?_
                            have e8 : pu_be (pu_vb T u) y i = false := pu_be_n (pu_vb_n hw_115)
                            have e9 : pu_ct (fun y => pu_be (pu_vb T u) y i) (y + 1) = pu_ct (fun y => pu_be (pu_vb T u) y i) y := by
                              show pu_ct _ _ + (if pu_be (pu_vb T u) y i = true then 1 else 0) = _
                              rw [e8]
                              rfl
                            rw [← e9] at hl
                            exact ih57 (y + 1) (by omega) (by omega) ls (lv_sub hl [3, 4, 5, 6, 1, 0] rfl)
              exact lp57 17 0 (by omega) (by omega) ls (lv_sub hl [2, 3, 4, 5, 1, 0] rfl)
            · -- 45: no
              refine lv_if_eq (tgt := 151) hx hb dX7_best_48 (by decide) (fun _ => ?_) (fun c48 => absurd (by decide) c48)
              refine lv_iinc (v := nI (i + 1)) (lv' := [(3, .int (nI (i + 1))), (0, .ref (ad 92)), (1, .int (nI u)), (2, .int pa)]) hx hb dX7_best_151 hl (k := 3) rfl (nI_1 _) (by decide) rfl (fun ls hl => ?_)
              refine lv_goto (tgt := 36) hx hb dX7_best_154 (by decide) ?_
              exact ih36 (i + 1) (by omega) (by omega) (fun y hy hp => by by_cases e : y = i; (rw [e] at hp; exact absurd hp (pu_vb_n hw_45)); exact hq y (by omega) hp) ls (lv_sub hl [1, 2, 3, 0] rfl)
      exact lp36 17 0 (by omega) (by omega) (fun _ h => absurd h (Nat.not_lt_zero _)) ls (lv_sub hl [1, 2, 3, 0] rfl)

set_option maxHeartbeats 4000000 in
set_option maxRecDepth 100000 in
theorem c_X7_reads (l : Launch) (D : va_G) (ad : Nat → Nat) (tc : Nat → ClassId) (I : Mi) (L : Ml) (T : Tb) (d : Dk) (cur base : Nat) (hσ : repM I (T, d, cur, base)) (ua ka : Int32) : Met l yX7_reads wsX7_reads ({ frames := 3, cells := 0, slots := 0, locals := 72 } : Room) (va_Pc [.ref (ad 92), .int ua, .int ka] (gPc D ad tc I L)) (gQi D ad tc (fun z I1 L1 => sp_reads (T, d, cur, base) ua ka = z ∧ repM I1 (T, d, cur, base) ∧ ∀ a, a < 92 → I1 a = I a)) 0 0 (gA ad) := by
  refine g_of (by decide) rfl (Nat.le_of_ble_eq_true rfl) ?_
  intro p e s m below meth c hcx hr hlocks hK hG ls hl
  obtain ⟨hx, hb, hml, hown, hts⟩ := id hcx
  have hl : lv_has ls 12 [(0, .ref (ad 92)), (1, .int ua), (2, .int ka)] := hl
  have hin : sp_in (T, d, cur, base) := hσ.1
  have hTb : pu_tb T := hin.1
  have hT : tM I T := hσ.2.1
  have hd0 : dark01 I := hσ.2.2.1
  have hd : dkM I = d := hσ.2.2.2.1
  have hcu : I 92 2 = nI cur := hσ.2.2.2.2.1
  have hba : I 92 3 = nI base := hσ.2.2.2.2.2
  have hle1 : base ≤ cur := hin.2.2.1
  have hle2 : cur ≤ base + 40 := hin.2.2.2
  refine lv_aload_n hx hb dX7_reads_0 rfl (lv_at hl 0 rfl) ?_
  refine g_get (v := .int (I 92 4)) hx hb hts (by decide +kernel) hown hK hG 92 (by decide) gc_92 rfl 4 (by decide) (hts (.fieldLink RX7 41 "NeighbourScoresModel" "dark" "Z") (by decide +kernel)) (fun _ h9 => h9) rfl dX7_reads_1 ?_
  refine lv_if_eq (tgt := 10) hx hb dX7_reads_4 (by decide) (fun c4 => ?_) (fun c4 => ?_)
  · -- 4: jumps
    have hp1 : d.2.1 = 1 := by rw [← hd]; exact dk_on c4
    have hp : ¬ d.2.1 = 0 := by rw [hp1]; decide
    refine lv_iload_n hx hb dX7_reads_10 rfl (lv_at hl 1 rfl) ?_
    refine g_si (va_runS (As := [.int ua]) (rest := []) hcx (c_X7_noUser l ua) (va_cwS 1 hts gX7_reads_X7_noUser rfl rfl rfl (by decide +kernel) ⟨Nat.le_of_ble_eq_true rfl, Nat.le_of_ble_eq_true rfl⟩) (g_p0) rfl rfl hl.1 rfl (lv_room (Nat.le_of_ble_eq_true rfl)) dX7_reads_11 ⟨Nat.le_refl _, Nat.le_refl _⟩) (fun r_11 hw_11 => ?_)
    rcases hw_11 with ⟨hw_11, rfl⟩ | ⟨hw_11, rfl⟩
    · -- 11: yes
      refine lv_if_ne (tgt := 28) hx hb dX7_reads_14 (by decide) (fun _ => ?_) (fun c14 => absurd c14 (by decide))
      refine lv_bipush (v := -2) hx hb dX7_reads_28 (by decide) ?_
      exact g_ri hx hb hr hlocks hG ⟨by unfold sp_reads; rw [if_neg hp, if_pos (sp_badk (Or.inl hw_11))], hσ, fun _ _ => rfl⟩ dX7_reads_30
    · -- 11: no
      refine lv_if_ne (tgt := 28) hx hb dX7_reads_14 (by decide) (fun c14 => absurd (by decide) c14) (fun _ => ?_)
      refine lv_iload_n hx hb dX7_reads_17 rfl (lv_at hl 2 rfl) ?_
      refine lv_iconst (v := 1) hx hb dX7_reads_18 (by decide) ?_
      refine lv_icmp_lt (tgt := 28) hx hb dX7_reads_19 (by decide) (fun c19 => ?_) (fun c19 => ?_)
      · -- 19: jumps
        refine lv_bipush (v := -2) hx hb dX7_reads_28 (by decide) ?_
        exact g_ri hx hb hr hlocks hG ⟨by unfold sp_reads; rw [if_neg hp, if_pos (sp_badk (Or.inr (pu_k1 c19)))], hσ, fun _ _ => rfl⟩ dX7_reads_30
      · -- 19: goes on
        refine lv_iload_n hx hb dX7_reads_22 rfl (lv_at hl 2 rfl) ?_
        refine lv_bipush (v := 16) hx hb dX7_reads_23 (by decide) ?_
        refine lv_icmp_le (tgt := 31) hx hb dX7_reads_25 (by decide) (fun c25 => ?_) (fun c25 => ?_)
        · -- 25: jumps
          obtain ⟨u, hu, rfl⟩ := hw_11
          obtain ⟨k, hk1, hk2, rfl⟩ := pu_gk c19 c25
          refine lv_aload_n hx hb dX7_reads_31 rfl (lv_at hl 0 rfl) ?_
          refine lv_iload_n hx hb dX7_reads_32 rfl (lv_at hl 1 rfl) ?_
          refine g_cv (va_runV (As := [.int (nI u)]) (rest := []) hcx (c_X7_scoreAll l D ad tc I L T hTb hT u hu) (cwV 1 hts gX7_reads_X7_scoreAll rfl rfl rfl (by decide +kernel) ⟨Nat.le_of_ble_eq_true rfl, Nat.le_of_ble_eq_true rfl⟩) (g_pV hK hG 92 (by decide) gc_92 rfl) rfl rfl hl.1 rfl (lv_room (Nat.le_of_ble_eq_true rfl)) dX7_reads_33 ⟨Nat.le_refl _, Nat.le_refl _⟩) hK hG (fun I_33 L_33 H locs hw_33 hG => ?_)
          obtain ⟨hW, hs, hf, hfL⟩ := hw_33
          refine lv_iconst (v := 0) hx hb dX7_reads_36 (by decide) ?_
          refine lv_istore_n (lv' := [(3, .int 0), (0, .ref (ad 92)), (1, .int (nI u)), (2, .int (nI k))]) hx hb dX7_reads_37 rfl hl (by decide) rfl (fun ls hl => ?_)
          have lp38 : ∀ (n : Nat) (i : Nat) (I_38 : Mi) (H : Heap) (locs : List Loc), (i ≤ 16) → (17 ≤ i + n) → (∀ a, a < i → I_38 97 a = 0) → (∀ a, a ≠ 97 → I_38 a = I_33 a) → gG D ad tc (gA ad) s.heap I_38 L_33 H locs → ∀ ls : Array Slot, lv_has ls 12 [(0, .ref (ad 92)), (1, .int (nI u)), (2, .int (nI k)), (3, .int (nI i))] → W p l e (headSpec wsX7_reads ({ frames := 3, cells := 0, slots := 0, locals := 72 } : Room)).room s m ([.ref (ad 92), .int (nI u), .int (nI k)] : List Value).toArray below meth c H locs 0 0 (MQ below (gQi D ad tc (fun z I1 L1 => sp_reads (T, d, cur, base) (nI u) (nI k) = z ∧ repM I1 (T, d, cur, base) ∧ ∀ a, a < 92 → I1 a = I a)) ([.ref (ad 92), .int (nI u), .int (nI k)] : List Value).toArray s 0 0 (gA ad)) (F0 m 38 ls []) := by
            intro n
            induction n with
            | zero =>
              intro i I_38 H locs hi hn hz hf0 hG ls hl
              exact absurd hn (by omega)
            | succ n ih38 =>
              intro i I_38 H locs hi hn hz hf0 hG ls hl
              refine lv_iload_n hx hb dX7_reads_38 rfl (lv_at hl 3 rfl) ?_
              refine lv_bipush (v := 16) hx hb dX7_reads_39 (by decide) ?_
              refine lv_icmp_ge (tgt := 57) hx hb dX7_reads_41 (by decide) (fun c41 => ?_) (fun c41 => ?_)
              · -- 41: jumps
                have b41 := g_le (a := 16) (b := i) c41 (by omega) (by omega)
                refine lv_iconst (v := 0) hx hb dX7_reads_57 (by decide) ?_
                refine lv_istore_n (lv' := [(3, .int 0), (0, .ref (ad 92)), (1, .int (nI u)), (2, .int (nI k))]) hx hb dX7_reads_58 rfl hl (by decide) rfl (fun ls hl => ?_)
                refine lv_iconst (v := 0) hx hb dX7_reads_59 (by decide) ?_
                refine lv_istore (lv' := [(4, .int 0), (3, .int 0), (0, .ref (ad 92)), (1, .int (nI u)), (2, .int (nI k))]) hx hb dX7_reads_60 hl (by decide) rfl (fun ls hl => ?_)
                have lp62 : ∀ (n : Nat) (d9 : Nat) (M : Nat → Bool) (acc : Nat) (I_62 : Mi) (H : Heap) (locs : List Loc), (d9 ≤ 16) → (17 ≤ d9 + n) → (pu_rr T u k (16 - d9) d9 M acc = pu_rr T u k 16 0 (fun _ => false) 0) → (pu_mok M I_62) → (∀ a, a ≠ 97 → I_62 a = I_33 a) → gG D ad tc (gA ad) s.heap I_62 L_33 H locs → ∀ ls : Array Slot, lv_has ls 12 [(0, .ref (ad 92)), (1, .int (nI u)), (2, .int (nI k)), (3, .int (nI acc)), (4, .int (nI d9))] → W p l e (headSpec wsX7_reads ({ frames := 3, cells := 0, slots := 0, locals := 72 } : Room)).room s m ([.ref (ad 92), .int (nI u), .int (nI k)] : List Value).toArray below meth c H locs 0 0 (MQ below (gQi D ad tc (fun z I1 L1 => sp_reads (T, d, cur, base) (nI u) (nI k) = z ∧ repM I1 (T, d, cur, base) ∧ ∀ a, a < 92 → I1 a = I a)) ([.ref (ad 92), .int (nI u), .int (nI k)] : List Value).toArray s 0 0 (gA ad)) (F0 m 62 ls []) := by
                  intro n
                  induction n with
                  | zero =>
                    intro d9 M acc I_62 H locs hd9 hn hrr hM hf1 hG ls hl
                    exact absurd hn (by omega)
                  | succ n ih62 =>
                    intro d9 M acc I_62 H locs hd9 hn hrr hM hf1 hG ls hl
                    refine lv_iload hx hb dX7_reads_62 (lv_at hl 4 rfl) ?_
                    refine lv_bipush (v := 16) hx hb dX7_reads_64 (by decide) ?_
                    refine lv_icmp_ge (tgt := 219) hx hb dX7_reads_66 (by decide) (fun c66 => ?_) (fun c66 => ?_)
                    · -- 66: jumps
                      have b66 := g_le (a := 16) (b := d9) c66 (by omega) (by omega)
                      refine lv_iload_n hx hb dX7_reads_219 rfl (lv_at hl 3 rfl) ?_
                      exact g_ri hx hb hr hlocks hG ⟨by unfold sp_reads; rw [if_neg hp, if_neg (sp_okk hu hk1 hk2), nI_clamp (show u < 2 ^ 31 by omega), nI_clamp (show k < 2 ^ 31 by omega)]; rw [← hrr, show 16 - d9 = 0 by omega]; rfl, repM_mem hσ (by rw [hf1 92 (by decide), hf 92 (by decide)]) (by rw [hf1 93 (by decide), hf 93 (by decide)]) (by rw [hf1 94 (by decide), hf 94 (by decide)]), fun a ha => (hf1 a (by omega)).trans (hf a (by omega))⟩ dX7_reads_220
                    · -- 66: goes on
                      have b66 := g_nle (a := 16) (b := d9) c66 (by omega) (by omega)
                      refine lv_iconst (v := 0) hx hb dX7_reads_69 (by decide) ?_
                      refine lv_istore (lv' := [(5, .int 0), (0, .ref (ad 92)), (1, .int (nI u)), (2, .int (nI k)), (3, .int (nI acc)), (4, .int (nI d9))]) hx hb dX7_reads_70 hl (by decide) rfl (fun ls hl => ?_)
                      refine lv_iconst (v := 0) hx hb dX7_reads_72 (by decide) ?_
                      refine lv_istore (lv' := [(6, .int 0), (5, .int 0), (0, .ref (ad 92)), (1, .int (nI u)), (2, .int (nI k)), (3, .int (nI acc)), (4, .int (nI d9))]) hx hb dX7_reads_73 hl (by decide) rfl (fun ls hl => ?_)
                      refine lv_lconst (v := 0) hx hb dX7_reads_75 (by decide) ?_
                      refine lv_lstore (lv' := [(7, .long 0), (6, .int 0), (5, .int 0), (0, .ref (ad 92)), (1, .int (nI u)), (2, .int (nI k)), (3, .int (nI acc)), (4, .int (nI d9))]) hx hb dX7_reads_76 hl (by decide) rfl (fun ls hl => ?_)
                      refine lv_iconst (v := 0) hx hb dX7_reads_78 (by decide) ?_
                      refine lv_istore (lv' := [(9, .int 0), (7, .long 0), (6, .int 0), (5, .int 0), (0, .ref (ad 92)), (1, .int (nI u)), (2, .int (nI k)), (3, .int (nI acc)), (4, .int (nI d9))]) hx hb dX7_reads_79 hl (by decide) rfl (fun ls hl => ?_)
                      have lp81 : ∀ (n : Nat) (j : Nat) (I_81 : Mi) (H : Heap) (locs : List Loc), (j ≤ 16) → (17 ≤ j + n) → (pu_mok (pu_rm T u d9 M j) I_81) → (∀ a, a ≠ 97 → I_81 a = I_33 a) → gG D ad tc (gA ad) s.heap I_81 L_33 H locs → ∀ ls : Array Slot, lv_has ls 12 [(0, .ref (ad 92)), (1, .int (nI u)), (2, .int (nI k)), (3, .int (nI acc)), (4, .int (nI d9)), (5, .int (nI (pu_rc T u (d9 + 1) j))), (6, .int (nI (pu_rc T u d9 j))), (7, .long (pu_rl T u d9 j)), (9, .int (nI j))] → W p l e (headSpec wsX7_reads ({ frames := 3, cells := 0, slots := 0, locals := 72 } : Room)).room s m ([.ref (ad 92), .int (nI u), .int (nI k)] : List Value).toArray below meth c H locs 0 0 (MQ below (gQi D ad tc (fun z I1 L1 => sp_reads (T, d, cur, base) (nI u) (nI k) = z ∧ repM I1 (T, d, cur, base) ∧ ∀ a, a < 92 → I1 a = I a)) ([.ref (ad 92), .int (nI u), .int (nI k)] : List Value).toArray s 0 0 (gA ad)) (F0 m 81 ls []) := by
                        intro n
                        induction n with
                        | zero =>
                          intro j I_81 H locs hj hn2 hMj hf2 hG ls hl
                          exact absurd hn2 (by omega)
                        | succ n ih81 =>
                          intro j I_81 H locs hj hn2 hMj hf2 hG ls hl
                          refine lv_iload hx hb dX7_reads_81 (lv_at hl 8 rfl) ?_
                          refine lv_bipush (v := 16) hx hb dX7_reads_83 (by decide) ?_
                          refine lv_icmp_ge (tgt := 190) hx hb dX7_reads_85 (by decide) (fun c85 => ?_) (fun c85 => ?_)
                          · -- 85: jumps
                            have b85 := g_le (a := 16) (b := j) c85 (by omega) (by omega)
                            obtain rfl : j = 16 := by omega
                            have hrc1 := pu_rcle T u (d9 + 1) 16
                            have hrc0 := pu_rcle T u d9 16
                            have hab := pu_able T u (pu_rm T u d9 M 16) (pu_rl T u d9 16) 16
                            refine lv_iload_n hx hb dX7_reads_190 rfl (lv_at hl 3 rfl) ?_
                            refine lv_iload hx hb dX7_reads_191 (lv_at hl 6 rfl) ?_
                            refine lv_iadd hx hb dX7_reads_193 ?_
                            refine g_i (y := nI (acc + (pu_rc T u d9 16))) (nI_add acc (pu_rc T u d9 16)) ?_
                            refine lv_istore_n (lv' := [(3, .int (nI (acc + (pu_rc T u d9 16)))), (0, .ref (ad 92)), (1, .int (nI u)), (2, .int (nI k)), (4, .int (nI d9)), (5, .int (nI (pu_rc T u (d9 + 1) 16))), (6, .int (nI (pu_rc T u d9 16))), (7, .long (pu_rl T u d9 16)), (9, .int (nI 16))]) hx hb dX7_reads_194 rfl hl (by decide) rfl (fun ls hl => ?_)
                            refine lv_iload hx hb dX7_reads_195 (lv_at hl 5 rfl) ?_
                            refine lv_if_eq (tgt := 211) hx hb dX7_reads_197 (by decide) (fun c197 => ?_) (fun c197 => ?_)
                            · -- 197: jumps
                              have b197 := g_eq (a := (pu_rc T u (d9 + 1) 16)) (b := 0) c197 (by omega) (by omega)
                              refine lv_iload_n hx hb dX7_reads_211 rfl (lv_at hl 0 rfl) ?_
                              exact g_ri hx hb hr hlocks hG ⟨by unfold sp_reads; rw [if_neg hp, if_neg (sp_okk hu hk1 hk2), nI_clamp (show u < 2 ^ 31 by omega), nI_clamp (show k < 2 ^ 31 by omega)]; rw [← hrr, pu_rr_end (by omega) (Or.inl b197)], repM_mem hσ (by rw [hf2 92 (by decide), hf 92 (by decide)]) (by rw [hf2 93 (by decide), hf 93 (by decide)]) (by rw [hf2 94 (by decide), hf 94 (by decide)]), fun a ha => (hf2 a (by omega)).trans (hf a (by omega))⟩ dX7_reads_212
                            · -- 197: goes on
                              have b197 := g_ne (a := (pu_rc T u (d9 + 1) 16)) (b := 0) c197 (by omega) (by omega)
                              refine lv_aload_n hx hb dX7_reads_200 rfl (lv_at hl 1 rfl) ?_
                              refine lv_iload_n hx hb dX7_reads_201 rfl (lv_at hl 2 rfl) ?_
                              refine lv_lload hx hb dX7_reads_202 (lv_at hl 7 rfl) ?_
                              refine g_si (va_runV (As := [.int (nI u), .long (pu_rl T u d9 16)]) (rest := []) hcx (c_X7_above l D ad tc I_81 L_33 T hTb (tM_mem hT (by rw [hf2 93 (by decide), hf 93 (by decide)])) u (pu_rm T u d9 M 16) (pu_rl T u d9 16) hu hs hMj) (cwV 2 hts gX7_reads_X7_above rfl rfl rfl (by decide +kernel) ⟨Nat.le_of_ble_eq_true rfl, Nat.le_of_ble_eq_true rfl⟩) (g_pV hK hG 92 (by decide) gc_92 rfl) rfl rfl hl.1 rfl (lv_room (Nat.le_of_ble_eq_true rfl)) dX7_reads_204 ⟨Nat.le_refl _, Nat.le_refl _⟩) (fun r_204 hw_204 => ?_)
                              subst hw_204
                              refine lv_iload_n hx hb dX7_reads_207 rfl (lv_at hl 3 rfl) ?_
                              refine lv_icmp_lt (tgt := 213) hx hb dX7_reads_208 (by decide) (fun c208 => ?_) (fun c208 => ?_)
                              · -- 208: jumps
                                have b208 := g_lt (a := (pu_ab T u (pu_rm T u d9 M 16) (pu_rl T u d9 16) 16)) (b := k) c208 (by omega) (by omega)
                                refine lv_iinc (v := nI (d9 + 1)) (lv' := [(4, .int (nI (d9 + 1))), (3, .int (nI (acc + (pu_rc T u d9 16)))), (0, .ref (ad 92)), (1, .int (nI u)), (2, .int (nI k)), (5, .int (nI (pu_rc T u (d9 + 1) 16))), (6, .int (nI (pu_rc T u d9 16))), (7, .long (pu_rl T u d9 16)), (9, .int (nI 16))]) hx hb dX7_reads_213 hl (k := 4) rfl (nI_1 _) (by decide) rfl (fun ls hl => ?_)
                                refine lv_goto (tgt := 62) hx hb dX7_reads_216 (by decide) ?_
                                exact ih62 (d9 + 1) (pu_rm T u d9 M 16) (acc + pu_rc T u d9 16) _ _ _ (by omega) (by omega) (by rw [← hrr, pu_rr_next (by omega) b197 (by omega)]) hMj hf2 hG ls (lv_sub hl [2, 3, 4, 1, 0] rfl)
                              · -- 208: goes on
                                have b208 := g_nlt (a := (pu_ab T u (pu_rm T u d9 M 16) (pu_rl T u d9 16) 16)) (b := k) c208 (by omega) (by omega)
                                refine lv_iload_n hx hb dX7_reads_211 rfl (lv_at hl 0 rfl) ?_
                                exact g_ri hx hb hr hlocks hG ⟨by unfold sp_reads; rw [if_neg hp, if_neg (sp_okk hu hk1 hk2), nI_clamp (show u < 2 ^ 31 by omega), nI_clamp (show k < 2 ^ 31 by omega)]; rw [← hrr, pu_rr_end (by omega) (Or.inr b208)], repM_mem hσ (by rw [hf2 92 (by decide), hf 92 (by decide)]) (by rw [hf2 93 (by decide), hf 93 (by decide)]) (by rw [hf2 94 (by decide), hf 94 (by decide)]), fun a ha => (hf2 a (by omega)).trans (hf a (by omega))⟩ dX7_reads_212
                          · -- 85: goes on
                            have b85 := g_nle (a := 16) (b := j) c85 (by omega) (by omega)
                            refine lv_aload_n hx hb dX7_reads_88 rfl (lv_at hl 0 rfl) ?_
                            refine g_get (v := .ref (ad 93)) hx hb hts (by decide +kernel) hown hK hG 92 (by decide) gc_92 rfl 0 (by decide) (hts (.fieldLink RX7 7 "NeighbourScoresModel" "rated" "[I") (by decide +kernel)) (fun _ h9 => h9) rfl dX7_reads_89 ?_
                            refine lv_bipush (v := 16) hx hb dX7_reads_92 (by decide) ?_
                            refine lv_iload_n hx hb dX7_reads_94 rfl (lv_at hl 1 rfl) ?_
                            refine lv_imul hx hb dX7_reads_95 ?_
                            refine g_i (y := nI (16 * u)) (pk_mul 16 u) ?_
                            refine lv_iload hx hb dX7_reads_96 (lv_at hl 8 rfl) ?_
                            refine lv_iadd hx hb dX7_reads_98 ?_
                            refine g_i (y := nI ((16 * u) + j)) (nI_add (16 * u) j) ?_
                            refine g_iald hx hb hK hG 93 (by decide) gc_93 ((16 * u) + j) rfl (by omega) (by omega) dX7_reads_99 ?_
                            refine g_i (y := nI (T u j)) (by rw [hf2 93 (by decide), hf 93 (by decide)]; exact hT u j hu (by omega)) ?_
                            refine lv_istore (lv' := [(10, .int (nI (T u j))), (0, .ref (ad 92)), (1, .int (nI u)), (2, .int (nI k)), (3, .int (nI acc)), (4, .int (nI d9)), (5, .int (nI (pu_rc T u (d9 + 1) j))), (6, .int (nI (pu_rc T u d9 j))), (7, .long (pu_rl T u d9 j)), (9, .int (nI j))]) hx hb dX7_reads_100 hl (by decide) rfl (fun ls hl => ?_)
                            refine lv_iload hx hb dX7_reads_102 (lv_at hl 0 rfl) ?_
                            have ht5 := hTb u j hu (by omega)
                            refine lv_if_ne (tgt := 111) hx hb dX7_reads_104 (by decide) (fun c104 => ?_) (fun c104 => ?_)
                            · -- 104: jumps
                              have b104 := g_ne (a := (T u j)) (b := 0) c104 (by omega) (by omega)
                              refine lv_aload_n hx hb dX7_reads_111 rfl (lv_at hl 1 rfl) ?_
                              refine lv_iload hx hb dX7_reads_112 (lv_at hl 9 rfl) ?_
                              refine lv_iload hx hb dX7_reads_114 (lv_at hl 5 rfl) ?_
                              refine g_si (va_runV (As := [.int (nI j), .int (nI d9)]) (rest := []) hcx (c_X7_entry l D ad tc I_81 L_33 T (pu_winv_mem hW (hf2 95 (by decide))) j (by omega) (nI d9)) (cwV 2 hts gX7_reads_X7_entry rfl rfl rfl (by decide +kernel) ⟨Nat.le_of_ble_eq_true rfl, Nat.le_of_ble_eq_true rfl⟩) (g_pV hK hG 92 (by decide) gc_92 rfl) rfl rfl hl.1 rfl (lv_room (Nat.le_of_ble_eq_true rfl)) dX7_reads_116 ⟨Nat.le_refl _, Nat.le_refl _⟩) (fun r_116 hw_116 => ?_)
                              rcases pu_ent_c (by omega) hw_116 with ⟨i, ib, ie, rfl⟩ | ⟨ie, rfl⟩
                              · -- 116: some
                                refine lv_istore (lv' := [(11, .int (nI i)), (10, .int (nI (T u j))), (0, .ref (ad 92)), (1, .int (nI u)), (2, .int (nI k)), (3, .int (nI acc)), (4, .int (nI d9)), (5, .int (nI (pu_rc T u (d9 + 1) j))), (6, .int (nI (pu_rc T u d9 j))), (7, .long (pu_rl T u d9 j)), (9, .int (nI j))]) hx hb dX7_reads_119 hl (by decide) rfl (fun ls hl => ?_)
                                refine lv_iload hx hb dX7_reads_121 (lv_at hl 0 rfl) ?_
                                refine lv_if_lt (tgt := 184) hx hb dX7_reads_123 (by decide) (fun c123 => absurd c123 (nI_pos (by omega))) (fun c123 => ?_)
                                refine lv_aload_n hx hb dX7_reads_126 rfl (lv_at hl 2 rfl) ?_
                                refine g_get (v := .ref (ad 97)) hx hb hts (by decide +kernel) hown hK hG 92 (by decide) gc_92 rfl 8 (by decide) (hts (.fieldLink RX7 27 "NeighbourScoresModel" "met" "[Z") (by decide +kernel)) (fun _ h9 => h9) rfl dX7_reads_127 ?_
                                refine lv_iload hx hb dX7_reads_130 (lv_at hl 0 rfl) ?_
                                refine lv_iconst (v := 1) hx hb dX7_reads_132 (by decide) ?_
                                refine g_zast hx hb hK hG 97 (by decide) (fun _ => gc_97) i rfl (by omega) (by omega) rfl dX7_reads_133 (fun I_133 H locs hU_133 hG => ?_)
                                have hf3 : ∀ a, a ≠ 97 → I_133 a = I_33 a := fun a ha => (hU_133.2 a ha).trans (hf2 a ha)
                                refine lv_iinc (v := nI (pu_rc T u d9 j + 1)) (lv' := [(6, .int (nI (pu_rc T u d9 j + 1))), (11, .int (nI i)), (10, .int (nI (T u j))), (0, .ref (ad 92)), (1, .int (nI u)), (2, .int (nI k)), (3, .int (nI acc)), (4, .int (nI d9)), (5, .int (nI (pu_rc T u (d9 + 1) j))), (7, .long (pu_rl T u d9 j)), (9, .int (nI j))]) hx hb dX7_reads_134 hl (k := 8) rfl (nI_1 _) (by decide) rfl (fun ls hl => ?_)
                                refine lv_lload hx hb dX7_reads_137 (lv_at hl 9 rfl) ?_
                                refine lv_iload hx hb dX7_reads_139 (lv_at hl 2 rfl) ?_
                                refine lv_i2l (v := (nI (T u j)).toInt64) hx hb dX7_reads_141 rfl ?_
                                refine lv_aload_n hx hb dX7_reads_142 rfl (lv_at hl 3 rfl) ?_
                                refine g_get (v := .ref (ad 95)) hx hb hts (by decide +kernel) hown hK hG 92 (by decide) gc_92 rfl 6 (by decide) (hts (.fieldLink RX7 20 "NeighbourScoresModel" "weights" "[I") (by decide +kernel)) (fun _ h9 => h9) rfl dX7_reads_143 ?_
                                refine lv_bipush (v := 16) hx hb dX7_reads_146 (by decide) ?_
                                refine lv_iload hx hb dX7_reads_148 (lv_at hl 1 rfl) ?_
                                refine lv_imul hx hb dX7_reads_150 ?_
                                refine g_i (y := nI (16 * i)) (pk_mul 16 i) ?_
                                refine lv_iload hx hb dX7_reads_151 (lv_at hl 10 rfl) ?_
                                refine lv_iadd hx hb dX7_reads_153 ?_
                                refine g_i (y := nI ((16 * i) + j)) (nI_add (16 * i) j) ?_
                                refine g_iald hx hb hK hG 95 (by decide) gc_95 ((16 * i) + j) rfl (by omega) (by omega) dX7_reads_154 ?_
                                refine g_i (y := nI (pu_w T i j)) (by rw [hf3 95 (by decide)]; exact hW i j (by omega) ib (by omega)) ?_
                                refine lv_i2l (v := (nI (pu_w T i j)).toInt64) hx hb dX7_reads_155 rfl ?_
                                refine lv_lmul hx hb dX7_reads_156 ?_
                                refine lv_ladd hx hb dX7_reads_157 ?_
                                refine g_l (y := pu_rl T u d9 (j + 1)) (pu_rl_y b104 ie).symm ?_
                                refine lv_lstore (lv' := [(7, .long (pu_rl T u d9 (j + 1))), (6, .int (nI (pu_rc T u d9 j + 1))), (11, .int (nI i)), (10, .int (nI (T u j))), (0, .ref (ad 92)), (1, .int (nI u)), (2, .int (nI k)), (3, .int (nI acc)), (4, .int (nI d9)), (5, .int (nI (pu_rc T u (d9 + 1) j))), (9, .int (nI j))]) hx hb dX7_reads_158 hl (by decide) rfl (fun ls hl => ?_)
                                refine lv_aload_n hx hb dX7_reads_160 rfl (lv_at hl 4 rfl) ?_
                                refine lv_iload hx hb dX7_reads_161 (lv_at hl 10 rfl) ?_
                                refine lv_iload hx hb dX7_reads_163 (lv_at hl 8 rfl) ?_
                                refine lv_iconst (v := 1) hx hb dX7_reads_165 (by decide) ?_
                                refine lv_iadd hx hb dX7_reads_166 ?_
                                refine g_i (y := nI (d9 + 1)) (nI_add d9 1) ?_
                                refine g_si (va_runV (As := [.int (nI j), .int (nI (d9 + 1))]) (rest := []) hcx (c_X7_entry l D ad tc I_133 L_33 T (pu_winv_mem hW (hf3 95 (by decide))) j (by omega) (nI (d9 + 1))) (cwV 2 hts gX7_reads_X7_entry rfl rfl rfl (by decide +kernel) ⟨Nat.le_of_ble_eq_true rfl, Nat.le_of_ble_eq_true rfl⟩) (g_pV hK hG 92 (by decide) gc_92 rfl) rfl rfl hl.1 rfl (lv_room (Nat.le_of_ble_eq_true rfl)) dX7_reads_167 ⟨Nat.le_refl _, Nat.le_refl _⟩) (fun r_167 hw_167 => ?_)
                                rcases pu_ent_c (by omega) hw_167 with ⟨i2, i2b, i2e, rfl⟩ | ⟨i2e, rfl⟩
                                · -- 167: some
                                  refine lv_if_lt (tgt := 180) hx hb dX7_reads_170 (by decide) (fun c170 => absurd c170 (nI_pos (by omega))) (fun c170 => ?_)
                                  refine lv_iload hx hb dX7_reads_173 (lv_at hl 9 rfl) ?_
                                  refine lv_iconst (v := 1) hx hb dX7_reads_175 (by decide) ?_
                                  refine lv_iadd hx hb dX7_reads_176 ?_
                                  refine g_i (y := nI ((pu_rc T u (d9 + 1) j) + 1)) (nI_add (pu_rc T u (d9 + 1) j) 1) ?_
                                  refine lv_goto (tgt := 182) hx hb dX7_reads_177 (by decide) ?_
                                  refine lv_istore (lv' := [(5, .int (nI ((pu_rc T u (d9 + 1) j) + 1))), (7, .long (pu_rl T u d9 (j + 1))), (6, .int (nI (pu_rc T u d9 j + 1))), (11, .int (nI i)), (10, .int (nI (T u j))), (0, .ref (ad 92)), (1, .int (nI u)), (2, .int (nI k)), (3, .int (nI acc)), (4, .int (nI d9)), (9, .int (nI j))]) hx hb dX7_reads_182 hl (by decide) rfl (fun ls hl => ?_)
                                  refine lv_iinc (v := nI (j + 1)) (lv' := [(9, .int (nI (j + 1))), (5, .int (nI ((pu_rc T u (d9 + 1) j) + 1))), (7, .long (pu_rl T u d9 (j + 1))), (6, .int (nI (pu_rc T u d9 j + 1))), (11, .int (nI i)), (10, .int (nI (T u j))), (0, .ref (ad 92)), (1, .int (nI u)), (2, .int (nI k)), (3, .int (nI acc)), (4, .int (nI d9))]) hx hb dX7_reads_184 hl (k := 10) rfl (nI_1 _) (by decide) rfl (fun ls hl => ?_)
                                  refine lv_goto (tgt := 81) hx hb dX7_reads_187 (by decide) ?_
                                  have e5 : pu_rc T u (d9 + 1) (j + 1) = pu_rc T u (d9 + 1) j + 1 := pu_rc_y b104 i2e
                                  have e6 : pu_rc T u d9 (j + 1) = pu_rc T u d9 j + 1 := pu_rc_y b104 ie
                                  rw [← e5, ← e6] at hl
                                  exact ih81 (j + 1) _ _ _ (by omega) (by omega) (by rw [pu_rm_y b104 ie]; exact pu_mok_s hMj hU_133) hf3 hG ls (lv_sub hl [6, 7, 8, 9, 10, 1, 3, 2, 0] rfl)
                                · -- 167: none
                                  refine lv_if_lt (tgt := 180) hx hb dX7_reads_170 (by decide) (fun _ => ?_) (fun c170 => absurd (by decide) c170)
                                  refine lv_iload hx hb dX7_reads_180 (lv_at hl 9 rfl) ?_
                                  refine lv_istore (lv' := [(5, .int (nI (pu_rc T u (d9 + 1) j))), (7, .long (pu_rl T u d9 (j + 1))), (6, .int (nI (pu_rc T u d9 j + 1))), (11, .int (nI i)), (10, .int (nI (T u j))), (0, .ref (ad 92)), (1, .int (nI u)), (2, .int (nI k)), (3, .int (nI acc)), (4, .int (nI d9)), (9, .int (nI j))]) hx hb dX7_reads_182 hl (by decide) rfl (fun ls hl => ?_)
                                  refine lv_iinc (v := nI (j + 1)) (lv' := [(9, .int (nI (j + 1))), (5, .int (nI (pu_rc T u (d9 + 1) j))), (7, .long (pu_rl T u d9 (j + 1))), (6, .int (nI (pu_rc T u d9 j + 1))), (11, .int (nI i)), (10, .int (nI (T u j))), (0, .ref (ad 92)), (1, .int (nI u)), (2, .int (nI k)), (3, .int (nI acc)), (4, .int (nI d9))]) hx hb dX7_reads_184 hl (k := 10) rfl (nI_1 _) (by decide) rfl (fun ls hl => ?_)
                                  refine lv_goto (tgt := 81) hx hb dX7_reads_187 (by decide) ?_
                                  have e5 : pu_rc T u (d9 + 1) (j + 1) = pu_rc T u (d9 + 1) j := pu_rc_n (pu_vr_no b104 i2e)
                                  have e6 : pu_rc T u d9 (j + 1) = pu_rc T u d9 j + 1 := pu_rc_y b104 ie
                                  rw [← e5, ← e6] at hl
                                  exact ih81 (j + 1) _ _ _ (by omega) (by omega) (by rw [pu_rm_y b104 ie]; exact pu_mok_s hMj hU_133) hf3 hG ls (lv_sub hl [6, 7, 8, 9, 10, 1, 3, 2, 0] rfl)
                              · -- 116: none
                                refine lv_istore (lv' := [(11, .int (-1)), (10, .int (nI (T u j))), (0, .ref (ad 92)), (1, .int (nI u)), (2, .int (nI k)), (3, .int (nI acc)), (4, .int (nI d9)), (5, .int (nI (pu_rc T u (d9 + 1) j))), (6, .int (nI (pu_rc T u d9 j))), (7, .long (pu_rl T u d9 j)), (9, .int (nI j))]) hx hb dX7_reads_119 hl (by decide) rfl (fun ls hl => ?_)
                                refine lv_iload hx hb dX7_reads_121 (lv_at hl 0 rfl) ?_
                                refine lv_if_lt (tgt := 184) hx hb dX7_reads_123 (by decide) (fun _ => ?_) (fun c123 => absurd (by decide) c123)
                                refine lv_iinc (v := nI (j + 1)) (lv' := [(9, .int (nI (j + 1))), (11, .int (-1)), (10, .int (nI (T u j))), (0, .ref (ad 92)), (1, .int (nI u)), (2, .int (nI k)), (3, .int (nI acc)), (4, .int (nI d9)), (5, .int (nI (pu_rc T u (d9 + 1) j))), (6, .int (nI (pu_rc T u d9 j))), (7, .long (pu_rl T u d9 j))]) hx hb dX7_reads_184 hl (k := 10) rfl (nI_1 _) (by decide) rfl (fun ls hl => ?_)
                                refine lv_goto (tgt := 81) hx hb dX7_reads_187 (by decide) ?_
                                have hno : ¬ d9 < pu_sz (pu_vr T u j) 16 := pu_vr_no b104 ie
                                have hno2 : ¬ d9 + 1 < pu_sz (pu_vr T u j) 16 := by omega
                                have e5 : pu_rc T u (d9 + 1) (j + 1) = pu_rc T u (d9 + 1) j := pu_rc_n hno2
                                have e6 : pu_rc T u d9 (j + 1) = pu_rc T u d9 j := pu_rc_n hno
                                have e7 : pu_rl T u d9 (j + 1) = pu_rl T u d9 j := pu_rl_n hno
                                rw [← e5, ← e6, ← e7] at hl
                                exact ih81 (j + 1) _ _ _ (by omega) (by omega) (by rw [pu_rm_none hno]; exact hMj) hf2 hG ls (lv_sub hl [3, 4, 5, 6, 7, 8, 9, 10, 0] rfl)
                            · -- 104: goes on
                              have b104 := g_eq (a := (T u j)) (b := 0) c104 (by omega) (by omega)
                              refine lv_iconst (v := -1) hx hb dX7_reads_107 (by decide) ?_
                              refine lv_goto (tgt := 119) hx hb dX7_reads_108 (by decide) ?_
                              refine lv_istore (lv' := [(11, .int (-1)), (10, .int (nI (T u j))), (0, .ref (ad 92)), (1, .int (nI u)), (2, .int (nI k)), (3, .int (nI acc)), (4, .int (nI d9)), (5, .int (nI (pu_rc T u (d9 + 1) j))), (6, .int (nI (pu_rc T u d9 j))), (7, .long (pu_rl T u d9 j)), (9, .int (nI j))]) hx hb dX7_reads_119 hl (by decide) rfl (fun ls hl => ?_)
                              refine lv_iload hx hb dX7_reads_121 (lv_at hl 0 rfl) ?_
                              refine lv_if_lt (tgt := 184) hx hb dX7_reads_123 (by decide) (fun _ => ?_) (fun c123 => absurd (by decide) c123)
                              refine lv_iinc (v := nI (j + 1)) (lv' := [(9, .int (nI (j + 1))), (11, .int (-1)), (10, .int (nI (T u j))), (0, .ref (ad 92)), (1, .int (nI u)), (2, .int (nI k)), (3, .int (nI acc)), (4, .int (nI d9)), (5, .int (nI (pu_rc T u (d9 + 1) j))), (6, .int (nI (pu_rc T u d9 j))), (7, .long (pu_rl T u d9 j))]) hx hb dX7_reads_184 hl (k := 10) rfl (nI_1 _) (by decide) rfl (fun ls hl => ?_)
                              refine lv_goto (tgt := 81) hx hb dX7_reads_187 (by decide) ?_
                              have hno : ¬ d9 < pu_sz (pu_vr T u j) 16 := pu_vr_0 b104
                              have hno2 : ¬ d9 + 1 < pu_sz (pu_vr T u j) 16 := by omega
                              have e5 : pu_rc T u (d9 + 1) (j + 1) = pu_rc T u (d9 + 1) j := pu_rc_n hno2
                              have e6 : pu_rc T u d9 (j + 1) = pu_rc T u d9 j := pu_rc_n hno
                              have e7 : pu_rl T u d9 (j + 1) = pu_rl T u d9 j := pu_rl_n hno
                              rw [← e5, ← e6, ← e7] at hl
                              exact ih81 (j + 1) _ _ _ (by omega) (by omega) (by rw [pu_rm_none hno]; exact hMj) hf2 hG ls (lv_sub hl [3, 4, 5, 6, 7, 8, 9, 10, 0] rfl)
                      exact lp81 17 0 _ _ _ (by omega) (by omega) hM hf1 hG ls (lv_sub hl [4, 5, 6, 7, 8, 3, 2, 1, 0] rfl)
                exact lp62 17 0 (fun _ => false) 0 _ _ _ (by omega) (by omega) rfl (pu_mok_0 (fun a ha => hz a (by omega))) hf0 hG ls (lv_sub hl [2, 3, 4, 1, 0] rfl)
              · -- 41: goes on
                have b41 := g_nle (a := 16) (b := i) c41 (by omega) (by omega)
                refine lv_aload_n hx hb dX7_reads_44 rfl (lv_at hl 0 rfl) ?_
                refine g_get (v := .ref (ad 97)) hx hb hts (by decide +kernel) hown hK hG 92 (by decide) gc_92 rfl 8 (by decide) (hts (.fieldLink RX7 27 "NeighbourScoresModel" "met" "[Z") (by decide +kernel)) (fun _ h9 => h9) rfl dX7_reads_45 ?_
                refine lv_iload_n hx hb dX7_reads_48 rfl (lv_at hl 3 rfl) ?_
                refine lv_iconst (v := 0) hx hb dX7_reads_49 (by decide) ?_
                refine g_zast hx hb hK hG 97 (by decide) (fun _ => gc_97) i rfl (by omega) (by omega) rfl dX7_reads_50 (fun I_50 H locs hU_50 hG => ?_)
                refine lv_iinc (v := nI (i + 1)) (lv' := [(3, .int (nI (i + 1))), (0, .ref (ad 92)), (1, .int (nI u)), (2, .int (nI k))]) hx hb dX7_reads_51 hl (k := 3) rfl (nI_1 _) (by decide) rfl (fun ls hl => ?_)
                refine lv_goto (tgt := 38) hx hb dX7_reads_54 (by decide) ?_
                exact ih38 (i + 1) _ _ _ (by omega) (by omega) (fun a ha => by by_cases e : a = i; (rw [e, gU_eq hU_50]); (rw [gU_ne hU_50 e]; exact hz a (by omega))) (fun a ha => (hU_50.2 a ha).trans (hf0 a ha)) hG ls (lv_sub hl [1, 2, 3, 0] rfl)
          exact lp38 17 0 _ _ _ (by omega) (by omega) (fun _ h => absurd h (Nat.not_lt_zero _)) (fun _ _ => rfl) hG ls (lv_sub hl [1, 2, 3, 0] rfl)
        · -- 25: goes on
          refine lv_bipush (v := -2) hx hb dX7_reads_28 (by decide) ?_
          exact g_ri hx hb hr hlocks hG ⟨by unfold sp_reads; rw [if_neg hp, if_pos (sp_badk (Or.inr (Or.inr (pu_gR12 (n := 16) (by decide) c25))))], hσ, fun _ _ => rfl⟩ dX7_reads_30
  · -- 4: goes on
    have hp0 : d.2.1 = 0 := by rw [← hd]; exact dk_off (pu_d1 hd0 c4)
    refine lv_bipush (v := -3) hx hb dX7_reads_7 (by decide) ?_
    exact g_ri hx hb hr hlocks hG ⟨by unfold sp_reads; rw [if_pos hp0], hσ, fun _ _ => rfl⟩ dX7_reads_9
