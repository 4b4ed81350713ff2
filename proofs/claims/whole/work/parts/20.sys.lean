set_option maxHeartbeats 4000000 in
set_option maxRecDepth 100000 in
theorem c_X6_rate (l : Launch) (D : va_G) (ad : Nat → Nat) (tc : Nat → ClassId) (I : Mi) (L : Ml) (T : Tb) (d : Dk) (cur base : Nat) (hσ : repN I (T, d, cur, base)) (ua ia ra : Int32) (hcb : cur < 2000000000) : Met l yX6_rate wsX6_rate ({ frames := 5, cells := 0, slots := 0, locals := 113 } : Room) (va_Pc [.ref (ad 0), .int ua, .int ia, .int ra] (gPc D ad tc I L)) (gQi D ad tc (fun z I1 L1 => (sp_rate (T, d, cur, base) ua ia ra).1 = z ∧ repN I1 (sp_rate (T, d, cur, base) ua ia ra).2 ∧ ∀ a, 92 ≤ a → I1 a = I a)) 0 0 (gA ad) := by
  refine g_of (by decide) rfl (Nat.le_of_ble_eq_true rfl) ?_
  intro p e s m below meth c hcx hr hlocks hK hG ls hl
  obtain ⟨hx, hb, hml, hown, hts⟩ := id hcx
  have hl : lv_has ls 5 [(0, .ref (ad 0)), (1, .int ua), (2, .int ia), (3, .int ra)] := hl
  have hin : sp_in (T, d, cur, base) := hσ.1
  have hTb : pu_tb T := hin.1
  have hT : pN I T := hσ.2.1
  have hd : dkN I = d := hσ.2.2.1
  have hcu : I 0 6 = nI cur := hσ.2.2.2.1
  have hba : I 0 7 = nI base := hσ.2.2.2.2
  have hle1 : base ≤ cur := hin.2.2.1
  have hle2 : cur ≤ base + 40 := hin.2.2.2
  have hp01 : I 1 1 = 0 ∨ I 1 1 = 1 := by have := hin.2.1; rw [← hd] at this; exact this
  refine lv_aload_n hx hb dX6_rate_0 rfl (lv_at hl 0 rfl) ?_
  refine g_get (v := .ref (ad 1)) hx hb hts (by decide +kernel) hown hK hG 0 (by decide) gc_0 rfl 0 (by decide) (hts (.fieldLink RX6 10 "NeighbourScores" "disk" "LNeighbourScores$Disk;") (by decide +kernel)) (fun _ h9 => h9) rfl dX6_rate_1 ?_
  refine g_si (va_runV (As := []) (rest := []) hcx (c_X0_isPowered l D ad tc I L hp01) (cwV 0 hts gX6_rate_X0_isPowered rfl rfl rfl (by decide +kernel) ⟨Nat.le_of_ble_eq_true rfl, Nat.le_of_ble_eq_true rfl⟩) (g_pV hK hG 1 (by decide) gc_1 rfl) rfl rfl hl.1 rfl (lv_room (Nat.le_of_ble_eq_true rfl)) dX6_rate_4 ⟨Nat.le_refl _, Nat.le_refl _⟩) (fun r_4 hw_4 => ?_)
  subst hw_4
  refine lv_if_ne (tgt := 13) hx hb dX6_rate_7 (by decide) (fun c7 => ?_) (fun c7 => ?_)
  · -- 7: jumps
    have hp : ¬ d.2.1 = 0 := by rw [← hd]; exact c7
    have h1 : I 1 1 = 1 := hp01.resolve_left c7
    refine lv_iload_n hx hb dX6_rate_13 rfl (lv_at hl 1 rfl) ?_
    refine g_si (va_runS (As := [.int ua]) (rest := []) hcx (c_X6_isUser l ua) (va_cwS 1 hts gX6_rate_X6_isUser rfl rfl rfl (by decide +kernel) ⟨Nat.le_of_ble_eq_true rfl, Nat.le_of_ble_eq_true rfl⟩) (g_p0) rfl rfl hl.1 rfl (lv_room (Nat.le_of_ble_eq_true rfl)) dX6_rate_14 ⟨Nat.le_refl _, Nat.le_refl _⟩) (fun r_14 hw_14 => ?_)
    rcases hw_14 with ⟨hw_14, rfl⟩ | ⟨hw_14, rfl⟩
    · -- 14: yes
      refine lv_if_eq (tgt := 36) hx hb dX6_rate_17 (by decide) (fun c17 => absurd c17 (by decide)) (fun _ => ?_)
      refine lv_iload_n hx hb dX6_rate_20 rfl (lv_at hl 2 rfl) ?_
      refine g_si (va_runS (As := [.int ia]) (rest := []) hcx (c_X6_isItem l ia) (va_cwS 1 hts gX6_rate_X6_isItem rfl rfl rfl (by decide +kernel) ⟨Nat.le_of_ble_eq_true rfl, Nat.le_of_ble_eq_true rfl⟩) (g_p0) rfl rfl hl.1 rfl (lv_room (Nat.le_of_ble_eq_true rfl)) dX6_rate_21 ⟨Nat.le_refl _, Nat.le_refl _⟩) (fun r_21 hw_21 => ?_)
      rcases hw_21 with ⟨hw_21, rfl⟩ | ⟨hw_21, rfl⟩
      · -- 21: yes
        refine lv_if_eq (tgt := 36) hx hb dX6_rate_24 (by decide) (fun c24 => absurd c24 (by decide)) (fun _ => ?_)
        refine lv_iload_n hx hb dX6_rate_27 rfl (lv_at hl 3 rfl) ?_
        refine lv_if_lt (tgt := 36) hx hb dX6_rate_28 (by decide) (fun c28 => ?_) (fun c28 => ?_)
        · -- 28: jumps
          refine lv_bipush (v := -2) hx hb dX6_rate_36 (by decide) ?_
          exact g_ri hx hb hr hlocks hG ⟨by rw [sp_rate_bad hp (Or.inr (Or.inr (gR_neg (by decide) c28)))], by rw [sp_rate_bad hp (Or.inr (Or.inr (gR_neg (by decide) c28)))]; exact hσ, fun _ _ => rfl⟩ dX6_rate_38
        · -- 28: goes on
          refine lv_iload_n hx hb dX6_rate_31 rfl (lv_at hl 3 rfl) ?_
          refine lv_iconst (v := 5) hx hb dX6_rate_32 (by decide) ?_
          refine lv_icmp_le (tgt := 39) hx hb dX6_rate_33 (by decide) (fun c33 => ?_) (fun c33 => ?_)
          · -- 33: jumps
            obtain ⟨u, hu, rfl⟩ := hw_14
            obtain ⟨i, hi, rfl⟩ := hw_21
            obtain ⟨r, hr6, rfl⟩ := pu_gR11 (n := 5) (by decide) c28 c33
            refine lv_aload_n hx hb dX6_rate_39 rfl (lv_at hl 0 rfl) ?_
            refine g_get (v := .int (I 0 6)) hx hb hts (by decide +kernel) hown hK hG 0 (by decide) gc_0 rfl 6 (by decide) (hts (.fieldLink RX6 51 "NeighbourScores" "systemNumber" "I") (by decide +kernel)) (fun _ h9 => h9) rfl dX6_rate_40 ?_
            refine g_i (y := nI cur) hcu ?_
            refine lv_aload_n hx hb dX6_rate_43 rfl (lv_at hl 0 rfl) ?_
            refine g_get (v := .int (I 0 7)) hx hb hts (by decide +kernel) hown hK hG 0 (by decide) gc_0 rfl 7 (by decide) (hts (.fieldLink RX6 55 "NeighbourScores" "baseNumber" "I") (by decide +kernel)) (fun _ h9 => h9) rfl dX6_rate_44 ?_
            refine g_i (y := nI base) hba ?_
            refine lv_isub hx hb dX6_rate_47 ?_
            refine g_i (y := nI (cur - base)) (pk_sub hle1) ?_
            refine lv_bipush (v := 40) hx hb dX6_rate_48 (by decide) ?_
            refine lv_icmp_lt (tgt := 56) hx hb dX6_rate_50 (by decide) (fun c50 => ?_) (fun c50 => ?_)
            · -- 50: jumps
              have b50 := g_lt (a := (cur - base)) (b := 40) c50 (by omega) (by omega)
              refine lv_aload_n hx hb dX6_rate_56 rfl (lv_at hl 0 rfl) ?_
              refine g_get (v := .ref (ad 5)) hx hb hts (by decide +kernel) hown hK hG 0 (by decide) gc_0 rfl 2 (by decide) (hts (.fieldLink RX6 26 "NeighbourScores" "records" "LNeighbourScores$Records;") (by decide +kernel)) (fun _ h9 => h9) rfl dX6_rate_57 ?_
              refine lv_aload_n hx hb dX6_rate_60 rfl (lv_at hl 0 rfl) ?_
              refine g_get (v := .ref (ad 1)) hx hb hts (by decide +kernel) hown hK hG 0 (by decide) gc_0 rfl 0 (by decide) (hts (.fieldLink RX6 10 "NeighbourScores" "disk" "LNeighbourScores$Disk;") (by decide +kernel)) (fun _ h9 => h9) rfl dX6_rate_61 ?_
              refine lv_aload_n hx hb dX6_rate_64 rfl (lv_at hl 0 rfl) ?_
              refine g_get (v := .int (I 0 6)) hx hb hts (by decide +kernel) hown hK hG 0 (by decide) gc_0 rfl 6 (by decide) (hts (.fieldLink RX6 51 "NeighbourScores" "systemNumber" "I") (by decide +kernel)) (fun _ h9 => h9) rfl dX6_rate_65 ?_
              refine g_i (y := nI cur) hcu ?_
              refine lv_iconst (v := 1) hx hb dX6_rate_68 (by decide) ?_
              refine lv_iadd hx hb dX6_rate_69 ?_
              refine g_i (y := nI (cur + 1)) (nI_add cur 1) ?_
              refine lv_iload_n hx hb dX6_rate_70 rfl (lv_at hl 1 rfl) ?_
              refine lv_iload_n hx hb dX6_rate_71 rfl (lv_at hl 2 rfl) ?_
              refine lv_iload_n hx hb dX6_rate_72 rfl (lv_at hl 3 rfl) ?_
              refine g_ci (va_runV (As := [.ref (ad 1), .int (nI (cur + 1)), .int (nI u), .int (nI i), .int (nI r)]) (rest := []) hcx (c_X4_writeRecord l D ad tc I L (cur + 1) u i r (by omega) h1) (cwV 5 hts gX6_rate_X4_writeRecord rfl rfl rfl (by decide +kernel) ⟨Nat.le_of_ble_eq_true rfl, Nat.le_of_ble_eq_true rfl⟩) (g_pV hK hG 5 (by decide) gc_5 rfl) rfl rfl hl.1 rfl (lv_room (Nat.le_of_ble_eq_true rfl)) dX6_rate_73 ⟨Nat.le_refl _, Nat.le_refl _⟩) hK hG (fun r_73 I_73 L_73 H locs hw_73 hG => ?_)
              obtain ⟨ha, hb2, hz, hc, rfl⟩ := hw_73
              have hd3 : pu_puts d (pu_at3 (cur + 1)) (pu_rec (cur + 1) (1000 * u + 10 * i + r)) 3 = dkN I_73 := by rw [← hd]; exact ha
              have hE := sp_rate_go (T := T) (base := base) hp hu hi hr6 (by omega) hd3
              have hT3 : pN I_73 T := pN_mem (fun a q1 q2 => hc a (by omega) (by omega) (by omega)) hT
              refine lv_if_ne (tgt := 82) hx hb dX6_rate_76 (by decide) (fun c76 => ?_) (fun c76 => ?_)
              · -- 76: jumps
                rw [if_neg (show ¬ (dkN I_73).2.1 = 0 from fun q => c76 (hb2.symm.trans q))] at hE
                refine lv_aload_n hx hb dX6_rate_82 rfl (lv_at hl 0 rfl) ?_
                refine g_get (v := .ref (ad 7)) hx hb hts (by decide +kernel) hown hK hG 0 (by decide) gc_0 rfl 3 (by decide) (hts (.fieldLink RX6 33 "NeighbourScores" "ratings" "LNeighbourScores$Ratings;") (by decide +kernel)) (fun _ h9 => h9) rfl dX6_rate_83 ?_
                refine lv_iload_n hx hb dX6_rate_86 rfl (lv_at hl 1 rfl) ?_
                refine lv_iload_n hx hb dX6_rate_87 rfl (lv_at hl 2 rfl) ?_
                refine g_si (va_runV (As := [.int (nI u), .int (nI i)]) (rest := []) hcx (c_X2_at l D ad tc I_73 L T hT3 u i hu hi) (cwV 2 hts gX6_rate_X2_at rfl rfl rfl (by decide +kernel) ⟨Nat.le_of_ble_eq_true rfl, Nat.le_of_ble_eq_true rfl⟩) (g_pV hK hG 7 (by decide) gc_7 rfl) rfl rfl hl.1 rfl (lv_room (Nat.le_of_ble_eq_true rfl)) dX6_rate_88 ⟨Nat.le_refl _, Nat.le_refl _⟩) (fun r_88 hw_88 => ?_)
                subst hw_88
                refine lv_istore (lv' := [(4, .int (nI (T u i))), (0, .ref (ad 0)), (1, .int (nI u)), (2, .int (nI i)), (3, .int (nI r))]) hx hb dX6_rate_91 hl (by decide) rfl (fun ls hl => ?_)
                refine lv_aload_n hx hb dX6_rate_93 rfl (lv_at hl 1 rfl) ?_
                refine g_get (v := .ref (ad 7)) hx hb hts (by decide +kernel) hown hK hG 0 (by decide) gc_0 rfl 3 (by decide) (hts (.fieldLink RX6 33 "NeighbourScores" "ratings" "LNeighbourScores$Ratings;") (by decide +kernel)) (fun _ h9 => h9) rfl dX6_rate_94 ?_
                refine lv_iload_n hx hb dX6_rate_97 rfl (lv_at hl 2 rfl) ?_
                refine lv_iload_n hx hb dX6_rate_98 rfl (lv_at hl 3 rfl) ?_
                refine lv_iload_n hx hb dX6_rate_99 rfl (lv_at hl 4 rfl) ?_
                refine g_cv (va_runV (As := [.int (nI u), .int (nI i), .int (nI r)]) (rest := []) hcx (c_X2_set l D ad tc I_73 L T hT3 u i r hu hi (by omega)) (cwV 3 hts gX6_rate_X2_set rfl rfl rfl (by decide +kernel) ⟨Nat.le_of_ble_eq_true rfl, Nat.le_of_ble_eq_true rfl⟩) (g_pV hK hG 7 (by decide) gc_7 rfl) rfl rfl hl.1 rfl (lv_room (Nat.le_of_ble_eq_true rfl)) dX6_rate_100 ⟨Nat.le_refl _, Nat.le_refl _⟩) hK hG (fun I_100 L_100 H locs hw_100 hG => ?_)
                obtain ⟨hT4, hfs, rfl⟩ := hw_100
                refine lv_aload_n hx hb dX6_rate_103 rfl (lv_at hl 1 rfl) ?_
                refine lv_dup hx hb dX6_rate_104 rfl ?_
                refine g_get (v := .int (I_100 0 6)) hx hb hts (by decide +kernel) hown hK hG 0 (by decide) gc_0 rfl 6 (by decide) (hts (.fieldLink RX6 51 "NeighbourScores" "systemNumber" "I") (by decide +kernel)) (fun _ h9 => h9) rfl dX6_rate_105 ?_
                refine g_i (y := nI cur) (by rw [hfs 0 (by omega), hc 0 (by decide) (by decide) (by decide)]; exact hcu) ?_
                refine lv_iconst (v := 1) hx hb dX6_rate_108 (by decide) ?_
                refine lv_iadd hx hb dX6_rate_109 ?_
                refine g_i (y := nI (cur + 1)) (nI_add cur 1) ?_
                refine g_put (ty := .int) hx hb hts (by decide +kernel) tyX6 tyX6_ok nmX6 hown hK hG 0 (by decide) gc_0 rfl 6 (by decide) (hts (.fieldLink RX6 51 "NeighbourScores" "systemNumber" "I") (by decide +kernel)) (fun _ h9 => h9) rfl (by decide +kernel) rfl rfl (Nat.le_of_ble_eq_true rfl) (by rw [gc_0]; rfl) dX6_rate_110 (fun I_110 H locs hU_110 hG => ?_)
                refine lv_iload hx hb dX6_rate_113 (lv_at hl 0 rfl) ?_
                exact g_ri hx hb hr hlocks hG ⟨by rw [hE], by rw [hE]; exact repN_of (pN_mem (fun a q1 q2 => hU_110.2 a (by omega)) hT4) (dkN_mem (by rw [hU_110.2 1 (by decide), hfs 1 (by omega)]) (by rw [hU_110.2 2 (by decide), hfs 2 (by omega)])) (Or.inr (hb2.trans (hz.resolve_left c76))) (gU_eq hU_110) (by rw [gU_ne hU_110 (by decide), hfs 0 (by omega), hc 0 (by decide) (by decide) (by decide)]; exact hba) (by omega) (by omega), fun a ha2 => by rw [hU_110.2 a (by omega), hfs a (by omega), hc a (by omega) (by omega) (by omega)]⟩ dX6_rate_115
              · -- 76: goes on
                rw [if_pos (show (dkN I_73).2.1 = 0 from hb2.trans c76)] at hE
                refine lv_bipush (v := -3) hx hb dX6_rate_79 (by decide) ?_
                exact g_ri hx hb hr hlocks hG ⟨by rw [hE], by rw [hE]; exact repN_of hT3 rfl (Or.inl (hb2.trans c76)) (by rw [hc 0 (by decide) (by decide) (by decide)]; exact hcu) (by rw [hc 0 (by decide) (by decide) (by decide)]; exact hba) hle1 hle2, fun a ha2 => hc a (by omega) (by omega) (by omega)⟩ dX6_rate_81
            · -- 50: goes on
              have b50 := g_nlt (a := (cur - base)) (b := 40) c50 (by omega) (by omega)
              refine lv_bipush (v := -4) hx hb dX6_rate_53 (by decide) ?_
              exact g_ri hx hb hr hlocks hG ⟨by rw [sp_rate_full hp hu hi hr6 (by omega)], by rw [sp_rate_full hp hu hi hr6 (by omega)]; exact hσ, fun _ _ => rfl⟩ dX6_rate_55
          · -- 33: goes on
            refine lv_bipush (v := -2) hx hb dX6_rate_36 (by decide) ?_
            exact g_ri hx hb hr hlocks hG ⟨by rw [sp_rate_bad hp (Or.inr (Or.inr (pu_gR12 (n := 5) (by decide) c33)))], by rw [sp_rate_bad hp (Or.inr (Or.inr (pu_gR12 (n := 5) (by decide) c33)))]; exact hσ, fun _ _ => rfl⟩ dX6_rate_38
      · -- 21: no
        refine lv_if_eq (tgt := 36) hx hb dX6_rate_24 (by decide) (fun _ => ?_) (fun c24 => absurd (by decide) c24)
        refine lv_bipush (v := -2) hx hb dX6_rate_36 (by decide) ?_
        exact g_ri hx hb hr hlocks hG ⟨by rw [sp_rate_bad hp (Or.inr (Or.inl hw_21))], by rw [sp_rate_bad hp (Or.inr (Or.inl hw_21))]; exact hσ, fun _ _ => rfl⟩ dX6_rate_38
    · -- 14: no
      refine lv_if_eq (tgt := 36) hx hb dX6_rate_17 (by decide) (fun _ => ?_) (fun c17 => absurd (by decide) c17)
      refine lv_bipush (v := -2) hx hb dX6_rate_36 (by decide) ?_
      exact g_ri hx hb hr hlocks hG ⟨by rw [sp_rate_bad hp (Or.inl hw_14)], by rw [sp_rate_bad hp (Or.inl hw_14)]; exact hσ, fun _ _ => rfl⟩ dX6_rate_38
  · -- 7: goes on
    have hp0 : d.2.1 = 0 := by rw [← hd]; exact c7
    refine lv_bipush (v := -3) hx hb dX6_rate_10 (by decide) ?_
    exact g_ri hx hb hr hlocks hG ⟨by rw [sp_rate_off hp0], by rw [sp_rate_off hp0]; exact hσ, fun _ _ => rfl⟩ dX6_rate_12

set_option maxHeartbeats 4000000 in
set_option maxRecDepth 100000 in
theorem c_X6_snapshot (l : Launch) (D : va_G) (ad : Nat → Nat) (tc : Nat → ClassId) (I : Mi) (L : Ml) (T : Tb) (d : Dk) (cur base : Nat) (hσ : repN I (T, d, cur, base))  : Met l yX6_snapshot wsX6_snapshot ({ frames := 6, cells := 0, slots := 0, locals := 140 } : Room) (va_Pc [.ref (ad 0)] (gPc D ad tc I L)) (gQi D ad tc (fun z I1 L1 => (sp_snapshot (T, d, cur, base)).1 = z ∧ repN I1 (sp_snapshot (T, d, cur, base)).2 ∧ ∀ a, 92 ≤ a → I1 a = I a)) 0 0 (gA ad) := by
  refine g_of (by decide) rfl (Nat.le_of_ble_eq_true rfl) ?_
  intro p e s m below meth c hcx hr hlocks hK hG ls hl
  obtain ⟨hx, hb, hml, hown, hts⟩ := id hcx
  have hl : lv_has ls 1 [(0, .ref (ad 0))] := hl
  have hin : sp_in (T, d, cur, base) := hσ.1
  have hTb : pu_tb T := hin.1
  have hT : pN I T := hσ.2.1
  have hd : dkN I = d := hσ.2.2.1
  have hcu : I 0 6 = nI cur := hσ.2.2.2.1
  have hba : I 0 7 = nI base := hσ.2.2.2.2
  have hle1 : base ≤ cur := hin.2.2.1
  have hle2 : cur ≤ base + 40 := hin.2.2.2
  have hp01 : I 1 1 = 0 ∨ I 1 1 = 1 := by have := hin.2.1; rw [← hd] at this; exact this
  refine lv_aload_n hx hb dX6_snapshot_0 rfl (lv_at hl 0 rfl) ?_
  refine g_get (v := .ref (ad 1)) hx hb hts (by decide +kernel) hown hK hG 0 (by decide) gc_0 rfl 0 (by decide) (hts (.fieldLink RX6 10 "NeighbourScores" "disk" "LNeighbourScores$Disk;") (by decide +kernel)) (fun _ h9 => h9) rfl dX6_snapshot_1 ?_
  refine g_si (va_runV (As := []) (rest := []) hcx (c_X0_isPowered l D ad tc I L hp01) (cwV 0 hts gX6_snapshot_X0_isPowered rfl rfl rfl (by decide +kernel) ⟨Nat.le_of_ble_eq_true rfl, Nat.le_of_ble_eq_true rfl⟩) (g_pV hK hG 1 (by decide) gc_1 rfl) rfl rfl hl.1 rfl (lv_room (Nat.le_of_ble_eq_true rfl)) dX6_snapshot_4 ⟨Nat.le_refl _, Nat.le_refl _⟩) (fun r_4 hw_4 => ?_)
  subst hw_4
  refine lv_if_ne (tgt := 13) hx hb dX6_snapshot_7 (by decide) (fun c7 => ?_) (fun c7 => ?_)
  · -- 7: jumps
    have hp : ¬ d.2.1 = 0 := by rw [← hd]; exact c7
    have h1 : I 1 1 = 1 := hp01.resolve_left c7
    refine lv_aload_n hx hb dX6_snapshot_13 rfl (lv_at hl 0 rfl) ?_
    refine g_get (v := .ref (ad 3)) hx hb hts (by decide +kernel) hown hK hG 0 (by decide) gc_0 rfl 1 (by decide) (hts (.fieldLink RX6 19 "NeighbourScores" "snapshots" "LNeighbourScores$Snapshots;") (by decide +kernel)) (fun _ h9 => h9) rfl dX6_snapshot_14 ?_
    refine lv_aload_n hx hb dX6_snapshot_17 rfl (lv_at hl 0 rfl) ?_
    refine g_get (v := .ref (ad 1)) hx hb hts (by decide +kernel) hown hK hG 0 (by decide) gc_0 rfl 0 (by decide) (hts (.fieldLink RX6 10 "NeighbourScores" "disk" "LNeighbourScores$Disk;") (by decide +kernel)) (fun _ h9 => h9) rfl dX6_snapshot_18 ?_
    refine lv_aload_n hx hb dX6_snapshot_21 rfl (lv_at hl 0 rfl) ?_
    refine g_get (v := .int (I 0 6)) hx hb hts (by decide +kernel) hown hK hG 0 (by decide) gc_0 rfl 6 (by decide) (hts (.fieldLink RX6 51 "NeighbourScores" "systemNumber" "I") (by decide +kernel)) (fun _ h9 => h9) rfl dX6_snapshot_22 ?_
    refine g_i (y := nI cur) hcu ?_
    refine lv_aload_n hx hb dX6_snapshot_25 rfl (lv_at hl 0 rfl) ?_
    refine g_get (v := .ref (ad 7)) hx hb hts (by decide +kernel) hown hK hG 0 (by decide) gc_0 rfl 3 (by decide) (hts (.fieldLink RX6 33 "NeighbourScores" "ratings" "LNeighbourScores$Ratings;") (by decide +kernel)) (fun _ h9 => h9) rfl dX6_snapshot_26 ?_
    refine g_ci (va_runV (As := [.ref (ad 1), .int (nI cur), .ref (ad 7)]) (rest := []) hcx (c_X5_writeOverOlder l D ad tc I L T hT (nI cur) h1) (cwV 3 hts gX6_snapshot_X5_writeOverOlder rfl rfl rfl (by decide +kernel) ⟨Nat.le_of_ble_eq_true rfl, Nat.le_of_ble_eq_true rfl⟩) (g_pV hK hG 3 (by decide) gc_3 rfl) rfl rfl hl.1 rfl (lv_room (Nat.le_of_ble_eq_true rfl)) dX6_snapshot_29 ⟨Nat.le_refl _, Nat.le_refl _⟩) hK hG (fun r_29 I_29 L_29 H locs hw_29 hG => ?_)
    obtain ⟨ha, hb2, hz, hc, rfl⟩ := hw_29
    have hd3 : pu_puts d (26 * pu_wo d.1) (pu_row (nI cur) T) 26 = dkN I_29 := by rw [← hd]; exact ha
    have hE := sp_snap_go (T := T) (base := base) hp hd3
    have hT3 : pN I_29 T := pN_mem (fun a q1 q2 => hc a (by omega) (by omega) (by omega)) hT
    have hc0 : I_29 0 = I 0 := hc 0 (by decide) (by decide) (by decide)
    refine lv_if_ne (tgt := 38) hx hb dX6_snapshot_32 (by decide) (fun c32 => ?_) (fun c32 => ?_)
    · -- 32: jumps
      rw [if_neg (show ¬ (dkN I_29).2.1 = 0 from fun q => c32 (hb2.symm.trans q))] at hE
      refine lv_aload_n hx hb dX6_snapshot_38 rfl (lv_at hl 0 rfl) ?_
      refine lv_aload_n hx hb dX6_snapshot_39 rfl (lv_at hl 0 rfl) ?_
      refine g_get (v := .int (I_29 0 6)) hx hb hts (by decide +kernel) hown hK hG 0 (by decide) gc_0 rfl 6 (by decide) (hts (.fieldLink RX6 51 "NeighbourScores" "systemNumber" "I") (by decide +kernel)) (fun _ h9 => h9) rfl dX6_snapshot_40 ?_
      refine g_i (y := nI cur) (by rw [hc0]; exact hcu) ?_
      refine g_put (ty := .int) hx hb hts (by decide +kernel) tyX6 tyX6_ok nmX6 hown hK hG 0 (by decide) gc_0 rfl 7 (by decide) (hts (.fieldLink RX6 55 "NeighbourScores" "baseNumber" "I") (by decide +kernel)) (fun _ h9 => h9) rfl (by decide +kernel) rfl rfl (Nat.le_of_ble_eq_true rfl) (by rw [gc_0]; rfl) dX6_snapshot_43 (fun I_43 H locs hU_43 hG => ?_)
      refine lv_bipush (v := 26) hx hb dX6_snapshot_46 (by decide) ?_
      exact g_ri hx hb hr hlocks hG ⟨by rw [hE], by rw [hE]; exact repN_of (pN_mem (fun a q1 q2 => hU_43.2 a (by omega)) hT3) (dkN_mem (hU_43.2 1 (by decide)) (hU_43.2 2 (by decide))) (Or.inr (hb2.trans (hz.resolve_left c32))) (by rw [gU_ne hU_43 (by decide), hc0]; exact hcu) (gU_eq hU_43) (Nat.le_refl _) (by omega), fun a ha2 => by rw [hU_43.2 a (by omega), hc a (by omega) (by omega) (by omega)]⟩ dX6_snapshot_48
    · -- 32: goes on
      rw [if_pos (show (dkN I_29).2.1 = 0 from hb2.trans c32)] at hE
      refine lv_bipush (v := -3) hx hb dX6_snapshot_35 (by decide) ?_
      exact g_ri hx hb hr hlocks hG ⟨by rw [hE], by rw [hE]; exact repN_of hT3 rfl (Or.inl (hb2.trans c32)) (by rw [hc0]; exact hcu) (by rw [hc0]; exact hba) hle1 hle2, fun a ha2 => hc a (by omega) (by omega) (by omega)⟩ dX6_snapshot_37
  · -- 7: goes on
    have hp0 : d.2.1 = 0 := by rw [← hd]; exact c7
    refine lv_bipush (v := -3) hx hb dX6_snapshot_10 (by decide) ?_
    exact g_ri hx hb hr hlocks hG ⟨by rw [sp_snap_off hp0], by rw [sp_snap_off hp0]; exact hσ, fun _ _ => rfl⟩ dX6_snapshot_12

set_option maxHeartbeats 4000000 in
set_option maxRecDepth 100000 in
theorem c_X6_power (l : Launch) (D : va_G) (ad : Nat → Nat) (tc : Nat → ClassId) (I : Mi) (L : Ml) (T : Tb) (d : Dk) (cur base : Nat) (hσ : repN I (T, d, cur, base)) (k : Int32) : Met l yX6_power wsX6_power ({ frames := 1, cells := 0, slots := 0, locals := 21 } : Room) (va_Pc [.ref (ad 0), .int k] (gPc D ad tc I L)) (gQi D ad tc (fun z I1 L1 => (sp_power (T, d, cur, base) k).1 = z ∧ repN I1 (sp_power (T, d, cur, base) k).2 ∧ ∀ a, 92 ≤ a → I1 a = I a)) 0 0 (gA ad) := by
  refine g_of (by decide) rfl (Nat.le_of_ble_eq_true rfl) ?_
  intro p e s m below meth c hcx hr hlocks hK hG ls hl
  obtain ⟨hx, hb, hml, hown, hts⟩ := id hcx
  have hl : lv_has ls 2 [(0, .ref (ad 0)), (1, .int k)] := hl
  have hin : sp_in (T, d, cur, base) := hσ.1
  have hTb : pu_tb T := hin.1
  have hT : pN I T := hσ.2.1
  have hd : dkN I = d := hσ.2.2.1
  have hcu : I 0 6 = nI cur := hσ.2.2.2.1
  have hba : I 0 7 = nI base := hσ.2.2.2.2
  have hle1 : base ≤ cur := hin.2.2.1
  have hle2 : cur ≤ base + 40 := hin.2.2.2
  have hp01 : I 1 1 = 0 ∨ I 1 1 = 1 := by have := hin.2.1; rw [← hd] at this; exact this
  refine lv_iload_n hx hb dX6_power_0 rfl (lv_at hl 1 rfl) ?_
  refine lv_iconst (v := -1) hx hb dX6_power_1 (by decide) ?_
  refine lv_icmp_lt (tgt := 11) hx hb dX6_power_2 (by decide) (fun c2 => ?_) (fun c2 => ?_)
  · -- 2: jumps
    refine lv_iconst (v := 0) hx hb dX6_power_11 (by decide) ?_
    exact g_rz hx hb hr hlocks (Or.inl rfl) hG ⟨by rw [sp_power_f (Or.inl c2)], by rw [sp_power_f (Or.inl c2)]; exact hσ, fun _ _ => rfl⟩ dX6_power_12
  · -- 2: goes on
    refine lv_iload_n hx hb dX6_power_5 rfl (lv_at hl 1 rfl) ?_
    refine lv_bipush (v := 100) hx hb dX6_power_6 (by decide) ?_
    refine lv_icmp_le (tgt := 13) hx hb dX6_power_8 (by decide) (fun c8 => ?_) (fun c8 => ?_)
    · -- 8: jumps
      refine lv_aload_n hx hb dX6_power_13 rfl (lv_at hl 0 rfl) ?_
      refine g_get (v := .ref (ad 1)) hx hb hts (by decide +kernel) hown hK hG 0 (by decide) gc_0 rfl 0 (by decide) (hts (.fieldLink RX6 10 "NeighbourScores" "disk" "LNeighbourScores$Disk;") (by decide +kernel)) (fun _ h9 => h9) rfl dX6_power_14 ?_
      refine lv_iload_n hx hb dX6_power_17 rfl (lv_at hl 1 rfl) ?_
      refine g_cv (va_runV (As := [.int k]) (rest := []) hcx (c_X0_failAfter l D ad tc I L k) (cwV 1 hts gX6_power_X0_failAfter rfl rfl rfl (by decide +kernel) ⟨Nat.le_of_ble_eq_true rfl, Nat.le_of_ble_eq_true rfl⟩) (g_pV hK hG 1 (by decide) gc_1 rfl) rfl rfl hl.1 rfl (lv_room (Nat.le_of_ble_eq_true rfl)) dX6_power_18 ⟨Nat.le_refl _, Nat.le_refl _⟩) hK hG (fun I_18 L_18 H locs hw_18 hG => ?_)
      obtain ⟨hU_18, rfl⟩ := hw_18
      refine lv_iconst (v := 1) hx hb dX6_power_21 (by decide) ?_
      exact g_rz hx hb hr hlocks (Or.inr rfl) hG ⟨by rw [sp_power_t c2 (pu_le c8)], by rw [sp_power_t c2 (pu_le c8)]; exact repN_of (pN_mem (fun a q1 q2 => hU_18.2 a (by omega)) hT) (dkN_left hd hU_18) hin.2.1 (by rw [hU_18.2 0 (by decide)]; exact hcu) (by rw [hU_18.2 0 (by decide)]; exact hba) hle1 hle2, fun a ha => hU_18.2 a (by omega)⟩ dX6_power_22
    · -- 8: goes on
      refine lv_iconst (v := 0) hx hb dX6_power_11 (by decide) ?_
      exact g_rz hx hb hr hlocks (Or.inl rfl) hG ⟨by rw [sp_power_f (Or.inr (pu_nle c8))], by rw [sp_power_f (Or.inr (pu_nle c8))]; exact hσ, fun _ _ => rfl⟩ dX6_power_12

set_option maxHeartbeats 4000000 in
set_option maxRecDepth 100000 in
theorem c_X6_isOn (l : Launch) (D : va_G) (ad : Nat → Nat) (tc : Nat → ClassId) (I : Mi) (L : Ml) (T : Tb) (d : Dk) (cur base : Nat) (hσ : repN I (T, d, cur, base))  : Met l yX6_isOn wsX6_isOn ({ frames := 1, cells := 0, slots := 0, locals := 20 } : Room) (va_Pc [.ref (ad 0)] (gPc D ad tc I L)) (vp_Si (fun r => sp_isOn (T, d, cur, base) = r)) 0 0 gN := by
  refine g_of (by decide) rfl (Nat.le_of_ble_eq_true rfl) ?_
  intro p e s m below meth c hcx hr hlocks hK hG ls hl
  obtain ⟨hx, hb, hml, hown, hts⟩ := id hcx
  have hl : lv_has ls 1 [(0, .ref (ad 0))] := hl
  have hin : sp_in (T, d, cur, base) := hσ.1
  have hTb : pu_tb T := hin.1
  have hT : pN I T := hσ.2.1
  have hd : dkN I = d := hσ.2.2.1
  have hcu : I 0 6 = nI cur := hσ.2.2.2.1
  have hba : I 0 7 = nI base := hσ.2.2.2.2
  have hle1 : base ≤ cur := hin.2.2.1
  have hle2 : cur ≤ base + 40 := hin.2.2.2
  have hp01 : I 1 1 = 0 ∨ I 1 1 = 1 := by have := hin.2.1; rw [← hd] at this; exact this
  refine lv_aload_n hx hb dX6_isOn_0 rfl (lv_at hl 0 rfl) ?_
  refine g_get (v := .ref (ad 1)) hx hb hts (by decide +kernel) hown hK hG 0 (by decide) gc_0 rfl 0 (by decide) (hts (.fieldLink RX6 10 "NeighbourScores" "disk" "LNeighbourScores$Disk;") (by decide +kernel)) (fun _ h9 => h9) rfl dX6_isOn_1 ?_
  refine g_si (va_runV (As := []) (rest := []) hcx (c_X0_isPowered l D ad tc I L hp01) (cwV 0 hts gX6_isOn_X0_isPowered rfl rfl rfl (by decide +kernel) ⟨Nat.le_of_ble_eq_true rfl, Nat.le_of_ble_eq_true rfl⟩) (g_pV hK hG 1 (by decide) gc_1 rfl) rfl rfl hl.1 rfl (lv_room (Nat.le_of_ble_eq_true rfl)) dX6_isOn_4 ⟨Nat.le_refl _, Nat.le_refl _⟩) (fun r_4 hw_4 => ?_)
  subst hw_4
  exact g_rzS hx hb hr hlocks hp01 (show d.2.1 = I 1 1 by rw [← hd]; rfl) dX6_isOn_7

set_option maxHeartbeats 4000000 in
set_option maxRecDepth 100000 in
theorem c_X6_word (l : Launch) (D : va_G) (ad : Nat → Nat) (tc : Nat → ClassId) (I : Mi) (L : Ml) (T : Tb) (d : Dk) (cur base : Nat) (hσ : repN I (T, d, cur, base)) (a : Int32) : Met l yX6_word wsX6_word ({ frames := 2, cells := 0, slots := 0, locals := 42 } : Room) (va_Pc [.ref (ad 0), .int a] (gPc D ad tc I L)) (vp_Si (fun r => sp_word (T, d, cur, base) a = r)) 0 0 gN := by
  refine g_of (by decide) rfl (Nat.le_of_ble_eq_true rfl) ?_
  intro p e s m below meth c hcx hr hlocks hK hG ls hl
  obtain ⟨hx, hb, hml, hown, hts⟩ := id hcx
  have hl : lv_has ls 2 [(0, .ref (ad 0)), (1, .int a)] := hl
  have hin : sp_in (T, d, cur, base) := hσ.1
  have hTb : pu_tb T := hin.1
  have hT : pN I T := hσ.2.1
  have hd : dkN I = d := hσ.2.2.1
  have hcu : I 0 6 = nI cur := hσ.2.2.2.1
  have hba : I 0 7 = nI base := hσ.2.2.2.2
  have hle1 : base ≤ cur := hin.2.2.1
  have hle2 : cur ≤ base + 40 := hin.2.2.2
  have hp01 : I 1 1 = 0 ∨ I 1 1 = 1 := by have := hin.2.1; rw [← hd] at this; exact this
  refine lv_aload_n hx hb dX6_word_0 rfl (lv_at hl 0 rfl) ?_
  refine g_get (v := .ref (ad 1)) hx hb hts (by decide +kernel) hown hK hG 0 (by decide) gc_0 rfl 0 (by decide) (hts (.fieldLink RX6 10 "NeighbourScores" "disk" "LNeighbourScores$Disk;") (by decide +kernel)) (fun _ h9 => h9) rfl dX6_word_1 ?_
  refine lv_iload_n hx hb dX6_word_4 rfl (lv_at hl 1 rfl) ?_
  refine g_si (va_runV (As := [.int a]) (rest := []) hcx (c_X0_at l D ad tc I L a) (cwV 1 hts gX6_word_X0_at rfl rfl rfl (by decide +kernel) ⟨Nat.le_of_ble_eq_true rfl, Nat.le_of_ble_eq_true rfl⟩) (g_pV hK hG 1 (by decide) gc_1 rfl) rfl rfl hl.1 rfl (lv_room (Nat.le_of_ble_eq_true rfl)) dX6_word_5 ⟨Nat.le_refl _, Nat.le_refl _⟩) (fun r_5 hw_5 => ?_)
  subst hw_5
  exact g_riS hx hb hr hlocks (show pu_at d.1 a = _ by rw [← hd]; rfl) dX6_word_8

set_option maxHeartbeats 4000000 in
set_option maxRecDepth 100000 in
theorem c_X6_spoil (l : Launch) (D : va_G) (ad : Nat → Nat) (tc : Nat → ClassId) (I : Mi) (L : Ml) (T : Tb) (d : Dk) (cur base : Nat) (hσ : repN I (T, d, cur, base)) (a x : Int32) : Met l yX6_spoil wsX6_spoil ({ frames := 2, cells := 0, slots := 0, locals := 43 } : Room) (va_Pc [.ref (ad 0), .int a, .int x] (gPc D ad tc I L)) (gQi D ad tc (fun z I1 L1 => (sp_spoil (T, d, cur, base) a x).1 = z ∧ repN I1 (sp_spoil (T, d, cur, base) a x).2 ∧ ∀ a, 92 ≤ a → I1 a = I a)) 0 0 (gA ad) := by
  refine g_of (by decide) rfl (Nat.le_of_ble_eq_true rfl) ?_
  intro p e s m below meth c hcx hr hlocks hK hG ls hl
  obtain ⟨hx, hb, hml, hown, hts⟩ := id hcx
  have hl : lv_has ls 3 [(0, .ref (ad 0)), (1, .int a), (2, .int x)] := hl
  have hin : sp_in (T, d, cur, base) := hσ.1
  have hTb : pu_tb T := hin.1
  have hT : pN I T := hσ.2.1
  have hd : dkN I = d := hσ.2.2.1
  have hcu : I 0 6 = nI cur := hσ.2.2.2.1
  have hba : I 0 7 = nI base := hσ.2.2.2.2
  have hle1 : base ≤ cur := hin.2.2.1
  have hle2 : cur ≤ base + 40 := hin.2.2.2
  have hp01 : I 1 1 = 0 ∨ I 1 1 = 1 := by have := hin.2.1; rw [← hd] at this; exact this
  refine lv_aload_n hx hb dX6_spoil_0 rfl (lv_at hl 0 rfl) ?_
  refine g_get (v := .ref (ad 1)) hx hb hts (by decide +kernel) hown hK hG 0 (by decide) gc_0 rfl 0 (by decide) (hts (.fieldLink RX6 10 "NeighbourScores" "disk" "LNeighbourScores$Disk;") (by decide +kernel)) (fun _ h9 => h9) rfl dX6_spoil_1 ?_
  refine lv_iload_n hx hb dX6_spoil_4 rfl (lv_at hl 1 rfl) ?_
  refine lv_iload_n hx hb dX6_spoil_5 rfl (lv_at hl 2 rfl) ?_
  refine g_ci (va_runV (As := [.int a, .int x]) (rest := []) hcx (c_X0_put l D ad tc I L a x) (cwV 2 hts gX6_spoil_X0_put rfl rfl rfl (by decide +kernel) ⟨Nat.le_of_ble_eq_true rfl, Nat.le_of_ble_eq_true rfl⟩) (g_pV hK hG 1 (by decide) gc_1 rfl) rfl rfl hl.1 rfl (lv_room (Nat.le_of_ble_eq_true rfl)) dX6_spoil_6 ⟨Nat.le_refl _, Nat.le_refl _⟩) hK hG (fun r_6 I_6 L_6 H locs hw_6 hG => ?_)
  obtain ⟨⟨j, hj, rfl, hU_6, rfl⟩ | ⟨hno, rfl, rfl⟩, rfl⟩ := hw_6
  · -- 6: in
    exact g_rz hx hb hr hlocks (Or.inr rfl) hG ⟨by rw [sp_spoil_t hj], by rw [sp_spoil_t hj]; exact repN_of (pN_mem (fun a q1 q2 => hU_6.2 a (by omega)) hT) (dkN_word hd hU_6) hin.2.1 (by rw [hU_6.2 0 (by decide)]; exact hcu) (by rw [hU_6.2 0 (by decide)]; exact hba) hle1 hle2, fun a ha => hU_6.2 a (by omega)⟩ dX6_spoil_9
  · -- 6: out
    exact g_rz hx hb hr hlocks (Or.inl rfl) hG ⟨by rw [sp_spoil_f hno], by rw [sp_spoil_f hno]; exact hσ, fun _ _ => rfl⟩ dX6_spoil_9

set_option maxHeartbeats 4000000 in
set_option maxRecDepth 100000 in
theorem c_X6_restart (l : Launch) (D : va_G) (ad : Nat → Nat) (tc : Nat → ClassId) (I : Mi) (L : Ml) (T : Tb) (d : Dk) (cur base : Nat) (hσ : repN I (T, d, cur, base))  : Met l yX6_restart wsX6_restart ({ frames := 6, cells := 0, slots := 0, locals := 140 } : Room) (va_Pc [.ref (ad 0)] (gPc D ad tc I L)) (gQi D ad tc (fun z I1 L1 => (sp_restart (T, d, cur, base)).1 = z ∧ repN I1 (sp_restart (T, d, cur, base)).2 ∧ ∀ a, 92 ≤ a → I1 a = I a)) 0 0 (gA ad) := by
  refine g_of (by decide) rfl (Nat.le_of_ble_eq_true rfl) ?_
  intro p e s m below meth c hcx hr hlocks hK hG ls hl
  obtain ⟨hx, hb, hml, hown, hts⟩ := id hcx
  have hl : lv_has ls 2 [(0, .ref (ad 0))] := hl
  have hin : sp_in (T, d, cur, base) := hσ.1
  have hTb : pu_tb T := hin.1
  have hT : pN I T := hσ.2.1
  have hd : dkN I = d := hσ.2.2.1
  have hcu : I 0 6 = nI cur := hσ.2.2.2.1
  have hba : I 0 7 = nI base := hσ.2.2.2.2
  have hle1 : base ≤ cur := hin.2.2.1
  have hle2 : cur ≤ base + 40 := hin.2.2.2
  have hp01 : I 1 1 = 0 ∨ I 1 1 = 1 := by have := hin.2.1; rw [← hd] at this; exact this
  refine lv_aload_n hx hb dX6_restart_0 rfl (lv_at hl 0 rfl) ?_
  refine g_get (v := .ref (ad 1)) hx hb hts (by decide +kernel) hown hK hG 0 (by decide) gc_0 rfl 0 (by decide) (hts (.fieldLink RX6 10 "NeighbourScores" "disk" "LNeighbourScores$Disk;") (by decide +kernel)) (fun _ h9 => h9) rfl dX6_restart_1 ?_
  refine g_cv (va_runV (As := []) (rest := []) hcx (c_X0_switchOn l D ad tc I L ) (cwV 0 hts gX6_restart_X0_switchOn rfl rfl rfl (by decide +kernel) ⟨Nat.le_of_ble_eq_true rfl, Nat.le_of_ble_eq_true rfl⟩) (g_pV hK hG 1 (by decide) gc_1 rfl) rfl rfl hl.1 rfl (lv_room (Nat.le_of_ble_eq_true rfl)) dX6_restart_4 ⟨Nat.le_refl _, Nat.le_refl _⟩) hK hG (fun I_4 L_4 H locs hw_4 hG => ?_)
  obtain ⟨hs1, hs2, hsf, rfl⟩ := hw_4
  have h24 : I_4 2 = I 2 := hsf 2 (by decide)
  refine lv_aload_n hx hb dX6_restart_7 rfl (lv_at hl 0 rfl) ?_
  refine lv_aload_n hx hb dX6_restart_8 rfl (lv_at hl 0 rfl) ?_
  refine g_get (v := .ref (ad 1)) hx hb hts (by decide +kernel) hown hK hG 0 (by decide) gc_0 rfl 0 (by decide) (hts (.fieldLink RX6 10 "NeighbourScores" "disk" "LNeighbourScores$Disk;") (by decide +kernel)) (fun _ h9 => h9) rfl dX6_restart_9 ?_
  refine lv_aload_n hx hb dX6_restart_12 rfl (lv_at hl 0 rfl) ?_
  refine g_get (v := .ref (ad 7)) hx hb hts (by decide +kernel) hown hK hG 0 (by decide) gc_0 rfl 3 (by decide) (hts (.fieldLink RX6 33 "NeighbourScores" "ratings" "LNeighbourScores$Ratings;") (by decide +kernel)) (fun _ h9 => h9) rfl dX6_restart_13 ?_
  refine g_ci (va_runS (As := [.ref (ad 1), .ref (ad 7)]) (rest := [.ref (ad 0)]) hcx (c_X5_loadNewest l D ad tc I_4 L T (pN_mem (fun a q1 q2 => hsf a (by omega)) hT)) (va_cwS 2 hts gX6_restart_X5_loadNewest rfl rfl rfl (by decide +kernel) ⟨Nat.le_of_ble_eq_true rfl, Nat.le_of_ble_eq_true rfl⟩) (g_pS hK hG) rfl rfl hl.1 rfl (lv_room (Nat.le_of_ble_eq_true rfl)) dX6_restart_16 ⟨Nat.le_refl _, Nat.le_refl _⟩) hK hG (fun r_16 I_16 L_16 H locs hw_16 hG => ?_)
  obtain ⟨hl1, hl2, hl3, rfl⟩ := hw_16
  rw [h24] at hl1 hl2
  obtain ⟨n0, hn0, en0⟩ := pu_ldn_n (I 2)
  rw [en0] at hl1
  subst hl1
  refine g_put (ty := .int) hx hb hts (by decide +kernel) tyX6 tyX6_ok nmX6 hown hK hG 0 (by decide) gc_0 rfl 7 (by decide) (hts (.fieldLink RX6 55 "NeighbourScores" "baseNumber" "I") (by decide +kernel)) (fun _ h9 => h9) rfl (by decide +kernel) rfl rfl (Nat.le_of_ble_eq_true rfl) (by rw [gc_0]; rfl) dX6_restart_19 (fun I_19 H locs hU_19 hG => ?_)
  refine lv_aload_n hx hb dX6_restart_22 rfl (lv_at hl 0 rfl) ?_
  refine lv_aload_n hx hb dX6_restart_23 rfl (lv_at hl 0 rfl) ?_
  refine g_get (v := .int (I_19 0 7)) hx hb hts (by decide +kernel) hown hK hG 0 (by decide) gc_0 rfl 7 (by decide) (hts (.fieldLink RX6 55 "NeighbourScores" "baseNumber" "I") (by decide +kernel)) (fun _ h9 => h9) rfl dX6_restart_24 ?_
  refine g_i (y := nI n0) (gU_eq hU_19) ?_
  refine g_put (ty := .int) hx hb hts (by decide +kernel) tyX6 tyX6_ok nmX6 hown hK hG 0 (by decide) gc_0 rfl 6 (by decide) (hts (.fieldLink RX6 51 "NeighbourScores" "systemNumber" "I") (by decide +kernel)) (fun _ h9 => h9) rfl (by decide +kernel) rfl rfl (Nat.le_of_ble_eq_true rfl) (by rw [gc_0]; rfl) dX6_restart_27 (fun I_27 H locs hU_27 hG => ?_)
  refine lv_iconst (v := 0) hx hb dX6_restart_30 (by decide) ?_
  refine lv_istore_n (lv' := [(1, .int 0), (0, .ref (ad 0))]) hx hb dX6_restart_31 rfl hl (by decide) rfl (fun ls hl => ?_)
  have lp32 : ∀ (n : Nat) (dn : Nat) (T1 : Tb) (I_32 : Mi) (H : Heap) (locs : List Loc), (dn ≤ 40) → (41 ≤ dn + n) → (pN I_32 T1) → (I_32 0 6 = nI (n0 + dn)) → (I_32 0 7 = nI n0) → (pu_redo (I 2) (40 - dn) T1 (n0 + dn) = pu_redo (I 2) 40 (pu_ldT (I 2)) n0) → (I_32 2 = I 2) → (I_32 1 = I_4 1) → (∀ a, 92 ≤ a → I_32 a = I a) → gG D ad tc (gA ad) s.heap I_32 L H locs → ∀ ls : Array Slot, lv_has ls 2 [(0, .ref (ad 0)), (1, .int (nI dn))] → W p l e (headSpec wsX6_restart ({ frames := 6, cells := 0, slots := 0, locals := 140 } : Room)).room s m ([.ref (ad 0)] : List Value).toArray below meth c H locs 0 0 (MQ below (gQi D ad tc (fun z I1 L1 => (sp_restart (T, d, cur, base)).1 = z ∧ repN I1 (sp_restart (T, d, cur, base)).2 ∧ ∀ a, 92 ≤ a → I1 a = I a)) ([.ref (ad 0)] : List Value).toArray s 0 0 (gA ad)) (F0 m 32 ls []) := by
    intro n
    induction n with
    | zero =>
      intro dn T1 I_32 H locs hdn hn hT1 hc1 hb1 hr1 hf2 hd1 hfr hG ls hl
      exact absurd hn (by omega)
    | succ n ih32 =>
      intro dn T1 I_32 H locs hdn hn hT1 hc1 hb1 hr1 hf2 hd1 hfr hG ls hl
      refine lv_iload_n hx hb dX6_restart_32 rfl (lv_at hl 1 rfl) ?_
      refine lv_bipush (v := 40) hx hb dX6_restart_33 (by decide) ?_
      refine lv_icmp_ge (tgt := 85) hx hb dX6_restart_35 (by decide) (fun c35 => ?_) (fun c35 => ?_)
      · -- 35: jumps
        have b35 := g_le (a := 40) (b := dn) c35 (by omega) (by omega)
        refine lv_iload_n hx hb dX6_restart_85 rfl (lv_at hl 1 rfl) ?_
        exact g_ri hx hb hr hlocks hG ⟨by rw [(sp_restart_e (T := T) (d := d) (cur := cur) (base := base) (n0 := n0) (n1 := n0 + dn) (T1 := T1) (by omega) (by rw [← hd]; exact en0) (by rw [← hd]; show pu_redo (I 2) 40 (pu_ldT (I 2)) n0 = _; exact (by rw [← hr1, show 40 - dn = 0 by omega]; rfl))), show n0 + dn - n0 = dn by omega], by rw [(sp_restart_e (T := T) (d := d) (cur := cur) (base := base) (n0 := n0) (n1 := n0 + dn) (T1 := T1) (by omega) (by rw [← hd]; exact en0) (by rw [← hd]; show pu_redo (I 2) 40 (pu_ldT (I 2)) n0 = _; exact (by rw [← hr1, show 40 - dn = 0 by omega]; rfl)))]; exact repN_of hT1 (by rw [← hd]; unfold dkN; rw [hd1, hf2, hs1, hs2]) (Or.inr rfl) hc1 hb1 (by omega) (by omega), hfr⟩ dX6_restart_86
      · -- 35: goes on
        have b35 := g_nle (a := 40) (b := dn) c35 (by omega) (by omega)
        refine lv_aload_n hx hb dX6_restart_38 rfl (lv_at hl 0 rfl) ?_
        refine g_get (v := .ref (ad 1)) hx hb hts (by decide +kernel) hown hK hG 0 (by decide) gc_0 rfl 0 (by decide) (hts (.fieldLink RX6 10 "NeighbourScores" "disk" "LNeighbourScores$Disk;") (by decide +kernel)) (fun _ h9 => h9) rfl dX6_restart_39 ?_
        refine lv_aload_n hx hb dX6_restart_42 rfl (lv_at hl 0 rfl) ?_
        refine g_get (v := .int (I_32 0 6)) hx hb hts (by decide +kernel) hown hK hG 0 (by decide) gc_0 rfl 6 (by decide) (hts (.fieldLink RX6 51 "NeighbourScores" "systemNumber" "I") (by decide +kernel)) (fun _ h9 => h9) rfl dX6_restart_43 ?_
        refine g_i (y := nI (n0 + dn)) hc1 ?_
        refine lv_iconst (v := 1) hx hb dX6_restart_46 (by decide) ?_
        refine lv_iadd hx hb dX6_restart_47 ?_
        refine g_i (y := nI ((n0 + dn) + 1)) (nI_add (n0 + dn) 1) ?_
        refine g_si (va_runS (As := [.ref (ad 1), .int (nI ((n0 + dn) + 1))]) (rest := []) hcx (c_X4_holds l D ad tc I_32 L (n0 + dn + 1) (by omega)) (va_cwS 2 hts gX6_restart_X4_holds rfl rfl rfl (by decide +kernel) ⟨Nat.le_of_ble_eq_true rfl, Nat.le_of_ble_eq_true rfl⟩) (g_pS hK hG) rfl rfl hl.1 rfl (lv_room (Nat.le_of_ble_eq_true rfl)) dX6_restart_48 ⟨Nat.le_refl _, Nat.le_refl _⟩) (fun r_48 hw_48 => ?_)
        rcases hw_48 with ⟨hw_48, rfl⟩ | ⟨hw_48, rfl⟩
        · -- 48: yes
          refine lv_if_eq (tgt := 85) hx hb dX6_restart_51 (by decide) (fun c51 => absurd c51 (by decide)) (fun _ => ?_)
          rw [hf2] at hw_48
          obtain ⟨w, hw2, ew, ewn, wq1, wq2, wq3⟩ := pu_hd_of hw_48
          refine lv_aload_n hx hb dX6_restart_54 rfl (lv_at hl 0 rfl) ?_
          refine lv_dup hx hb dX6_restart_55 rfl ?_
          refine g_get (v := .int (I_32 0 6)) hx hb hts (by decide +kernel) hown hK hG 0 (by decide) gc_0 rfl 6 (by decide) (hts (.fieldLink RX6 51 "NeighbourScores" "systemNumber" "I") (by decide +kernel)) (fun _ h9 => h9) rfl dX6_restart_56 ?_
          refine g_i (y := nI (n0 + dn)) hc1 ?_
          refine lv_iconst (v := 1) hx hb dX6_restart_59 (by decide) ?_
          refine lv_iadd hx hb dX6_restart_60 ?_
          refine g_i (y := nI ((n0 + dn) + 1)) (nI_add (n0 + dn) 1) ?_
          refine g_put (ty := .int) hx hb hts (by decide +kernel) tyX6 tyX6_ok nmX6 hown hK hG 0 (by decide) gc_0 rfl 6 (by decide) (hts (.fieldLink RX6 51 "NeighbourScores" "systemNumber" "I") (by decide +kernel)) (fun _ h9 => h9) rfl (by decide +kernel) rfl rfl (Nat.le_of_ble_eq_true rfl) (by rw [gc_0]; rfl) dX6_restart_61 (fun I_61 H locs hU_61 hG => ?_)
          refine lv_aload_n hx hb dX6_restart_64 rfl (lv_at hl 0 rfl) ?_
          refine g_get (v := .ref (ad 1)) hx hb hts (by decide +kernel) hown hK hG 0 (by decide) gc_0 rfl 0 (by decide) (hts (.fieldLink RX6 10 "NeighbourScores" "disk" "LNeighbourScores$Disk;") (by decide +kernel)) (fun _ h9 => h9) rfl dX6_restart_65 ?_
          refine lv_aload_n hx hb dX6_restart_68 rfl (lv_at hl 0 rfl) ?_
          refine g_get (v := .int (I_61 0 6)) hx hb hts (by decide +kernel) hown hK hG 0 (by decide) gc_0 rfl 6 (by decide) (hts (.fieldLink RX6 51 "NeighbourScores" "systemNumber" "I") (by decide +kernel)) (fun _ h9 => h9) rfl dX6_restart_69 ?_
          refine g_i (y := nI (n0 + dn + 1)) (gU_eq hU_61) ?_
          refine lv_aload_n hx hb dX6_restart_72 rfl (lv_at hl 0 rfl) ?_
          refine g_get (v := .ref (ad 7)) hx hb hts (by decide +kernel) hown hK hG 0 (by decide) gc_0 rfl 3 (by decide) (hts (.fieldLink RX6 33 "NeighbourScores" "ratings" "LNeighbourScores$Ratings;") (by decide +kernel)) (fun _ h9 => h9) rfl dX6_restart_73 ?_
          refine g_cv (va_runS (As := [.ref (ad 1), .int (nI (n0 + dn + 1)), .ref (ad 7)]) (rest := []) hcx (c_X4_repeat l D ad tc I_61 L T1 (pN_mem (fun a q1 q2 => hU_61.2 a (by omega)) hT1) (n0 + dn + 1) w (by omega) hw2 (by rw [hU_61.2 2 (by decide), hf2]; exact ew) wq1 wq2 wq3) (va_cwS 3 hts gX6_restart_X4_repeat rfl rfl rfl (by decide +kernel) ⟨Nat.le_of_ble_eq_true rfl, Nat.le_of_ble_eq_true rfl⟩) (g_pS hK hG) rfl rfl hl.1 rfl (lv_room (Nat.le_of_ble_eq_true rfl)) dX6_restart_76 ⟨Nat.le_refl _, Nat.le_refl _⟩) hK hG (fun I_76 L_76 H locs hw_76 hG => ?_)
          obtain ⟨hT5, hf5, rfl⟩ := hw_76
          refine lv_iinc (v := nI (dn + 1)) (lv' := [(1, .int (nI (dn + 1))), (0, .ref (ad 0))]) hx hb dX6_restart_79 hl (k := 1) rfl (nI_1 _) (by decide) rfl (fun ls hl => ?_)
          refine lv_goto (tgt := 32) hx hb dX6_restart_82 (by decide) ?_
          exact ih32 (dn + 1) _ _ _ _ (by omega) (by omega) hT5 (by rw [hf5 0 (by omega)]; exact gU_eq hU_61) (by rw [hf5 0 (by omega), gU_ne hU_61 (by decide)]; exact hb1) (by rw [← hr1, show 40 - dn = (40 - (dn + 1)) + 1 by omega, pu_redo_s hw_48 ewn]; rfl) (by rw [hf5 2 (by omega), hU_61.2 2 (by decide)]; exact hf2) (by rw [hf5 1 (by omega), hU_61.2 1 (by decide)]; exact hd1) (fun a ha => by rw [hf5 a (by omega), hU_61.2 a (by omega)]; exact hfr a ha) hG ls (lv_sub hl [1, 0] rfl)
        · -- 48: no
          refine lv_if_eq (tgt := 85) hx hb dX6_restart_51 (by decide) (fun _ => ?_) (fun c51 => absurd (by decide) c51)
          refine lv_iload_n hx hb dX6_restart_85 rfl (lv_at hl 1 rfl) ?_
          exact g_ri hx hb hr hlocks hG ⟨by rw [(sp_restart_e (T := T) (d := d) (cur := cur) (base := base) (n0 := n0) (n1 := n0 + dn) (T1 := T1) (by omega) (by rw [← hd]; exact en0) (by rw [← hd]; show pu_redo (I 2) 40 (pu_ldT (I 2)) n0 = _; exact (by rw [← hr1]; exact pu_redo_e (by rw [← hf2]; exact hw_48)))), show n0 + dn - n0 = dn by omega], by rw [(sp_restart_e (T := T) (d := d) (cur := cur) (base := base) (n0 := n0) (n1 := n0 + dn) (T1 := T1) (by omega) (by rw [← hd]; exact en0) (by rw [← hd]; show pu_redo (I 2) 40 (pu_ldT (I 2)) n0 = _; exact (by rw [← hr1]; exact pu_redo_e (by rw [← hf2]; exact hw_48))))]; exact repN_of hT1 (by rw [← hd]; unfold dkN; rw [hd1, hf2, hs1, hs2]) (Or.inr rfl) hc1 hb1 (by omega) (by omega), hfr⟩ dX6_restart_86
  exact lp32 41 0 (pu_ldT (I 2)) _ _ _ (by omega) (by omega) (pN_mem (fun a q1 q2 => by rw [hU_27.2 a (by omega), hU_19.2 a (by omega)]) hl2) (gU_eq hU_27) (by rw [gU_ne hU_27 (by decide)]; exact gU_eq hU_19) rfl (by rw [hU_27.2 2 (by decide), hU_19.2 2 (by decide), hl3 2 (by omega), h24]) (by rw [hU_27.2 1 (by decide), hU_19.2 1 (by decide), hl3 1 (by omega)]) (fun a ha => by rw [hU_27.2 a (by omega), hU_19.2 a (by omega), hl3 a (by omega), hsf a (by omega)]) hG ls (lv_sub hl [1, 0] rfl)
