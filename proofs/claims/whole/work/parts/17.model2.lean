set_option maxHeartbeats 4000000 in
set_option maxRecDepth 100000 in
theorem c_X7_redo (l : Launch) (D : va_G) (ad : Nat → Nat) (tc : Nat → ClassId) (I : Mi) (L : Ml) (T : Tb) (hTb : pu_tb T) (hT : tM I T) (cur : Nat) (hcu : I 92 2 = nI cur) (hcb : cur < 2000000000) : Met l yX7_redo wsX7_redo ({ frames := 2, cells := 0, slots := 0, locals := 47 } : Room) (va_Pc [.ref (ad 92)] (gPc D ad tc I L)) (gQi D ad tc (fun r I1 L1 => ((pu_hd (I 94) (cur + 1) = true ∧ 1 = r ∧ ∃ w, I 94 (pu_at3 (cur + 1) + 1) = nI w ∧ tM I1 (pu_T T (w / 1000) (w % 1000 / 10) (w % 10)) ∧ pu_tb (pu_T T (w / 1000) (w % 1000 / 10) (w % 10)) ∧ I1 92 2 = nI (cur + 1) ∧ (∀ a, a ≠ 92 → a ≠ 93 → I1 a = I a) ∧ ∀ k, k ≠ 2 → I1 92 k = I 92 k) ∨ (pu_hd (I 94) (cur + 1) = false ∧ 0 = r ∧ I = I1)) ∧ L = L1)) 0 0 (gA ad) := by
  refine g_of (by decide) rfl (Nat.le_of_ble_eq_true rfl) ?_
  intro p e s m below meth c hcx hr hlocks hK hG ls hl
  obtain ⟨hx, hb, hml, hown, hts⟩ := id hcx
  have hl : lv_has ls 7 [(0, .ref (ad 92))] := hl
  have h3 := pu_at3_lt (cur + 1)
  refine lv_aload_n hx hb dX7_redo_0 rfl (lv_at hl 0 rfl) ?_
  refine g_get (v := .int (I 92 2)) hx hb hts (by decide +kernel) hown hK hG 92 (by decide) gc_92 rfl 2 (by decide) (hts (.fieldLink RX7 52 "NeighbourScoresModel" "current" "I") (by decide +kernel)) (fun _ h9 => h9) rfl dX7_redo_1 ?_
  refine g_i (y := nI cur) hcu ?_
  refine lv_iconst (v := 1) hx hb dX7_redo_4 (by decide) ?_
  refine lv_iadd hx hb dX7_redo_5 ?_
  refine g_i (y := nI (cur + 1)) (nI_add cur 1) ?_
  refine lv_istore_n (lv' := [(1, .int (nI (cur + 1))), (0, .ref (ad 92))]) hx hb dX7_redo_6 rfl hl (by decide) rfl (fun ls hl => ?_)
  refine lv_bipush (v := 52) hx hb dX7_redo_7 (by decide) ?_
  refine lv_iconst (v := 3) hx hb dX7_redo_9 (by decide) ?_
  refine lv_iload_n hx hb dX7_redo_10 rfl (lv_at hl 0 rfl) ?_
  refine lv_bipush (v := 40) hx hb dX7_redo_11 (by decide) ?_
  refine lv_irem hx hb dX7_redo_13 (by decide) ?_
  refine g_i (y := nI ((cur + 1) % 40)) (pk_rem (a := cur + 1) (d := 40) (by omega) (by decide) (by decide)) ?_
  refine lv_imul hx hb dX7_redo_14 ?_
  refine g_i (y := nI (3 * ((cur + 1) % 40))) (pk_mul 3 ((cur + 1) % 40)) ?_
  refine lv_iadd hx hb dX7_redo_15 ?_
  refine g_i (y := nI (pu_at3 (cur + 1))) (nI_add 52 (3 * ((cur + 1) % 40))) ?_
  refine lv_istore_n (lv' := [(2, .int (nI (pu_at3 (cur + 1)))), (1, .int (nI (cur + 1))), (0, .ref (ad 92))]) hx hb dX7_redo_16 rfl hl (by decide) rfl (fun ls hl => ?_)
  refine lv_aload_n hx hb dX7_redo_17 rfl (lv_at hl 2 rfl) ?_
  refine g_get (v := .ref (ad 94)) hx hb hts (by decide +kernel) hown hK hG 92 (by decide) gc_92 rfl 1 (by decide) (hts (.fieldLink RX7 13 "NeighbourScoresModel" "disk" "[I") (by decide +kernel)) (fun _ h9 => h9) rfl dX7_redo_18 ?_
  refine lv_iload_n hx hb dX7_redo_21 rfl (lv_at hl 0 rfl) ?_
  refine lv_iconst (v := 1) hx hb dX7_redo_22 (by decide) ?_
  refine lv_iadd hx hb dX7_redo_23 ?_
  refine g_i (y := nI ((pu_at3 (cur + 1)) + 1)) (nI_add (pu_at3 (cur + 1)) 1) ?_
  refine g_iald hx hb hK hG 94 (by decide) gc_94 ((pu_at3 (cur + 1)) + 1) rfl (by omega) (by omega) dX7_redo_24 ?_
  refine lv_istore_n (lv' := [(3, .int (I 94 ((pu_at3 (cur + 1)) + 1))), (2, .int (nI (pu_at3 (cur + 1)))), (1, .int (nI (cur + 1))), (0, .ref (ad 92))]) hx hb dX7_redo_25 rfl hl (by decide) rfl (fun ls hl => ?_)
  refine lv_aload_n hx hb dX7_redo_26 rfl (lv_at hl 3 rfl) ?_
  refine g_get (v := .ref (ad 94)) hx hb hts (by decide +kernel) hown hK hG 92 (by decide) gc_92 rfl 1 (by decide) (hts (.fieldLink RX7 13 "NeighbourScoresModel" "disk" "[I") (by decide +kernel)) (fun _ h9 => h9) rfl dX7_redo_27 ?_
  refine lv_iload_n hx hb dX7_redo_30 rfl (lv_at hl 1 rfl) ?_
  refine g_iald hx hb hK hG 94 (by decide) gc_94 (pu_at3 (cur + 1)) rfl (by omega) (by omega) dX7_redo_31 ?_
  refine lv_iload_n hx hb dX7_redo_32 rfl (lv_at hl 2 rfl) ?_
  refine lv_icmp_ne (tgt := 58) hx hb dX7_redo_33 (by decide) (fun c33 => ?_) (fun c33 => ?_)
  · -- 33: jumps
    refine lv_iconst (v := 0) hx hb dX7_redo_58 (by decide) ?_
    exact g_rz hx hb hr hlocks (Or.inl rfl) hG ⟨Or.inr ⟨pu_hd_f (Or.inl c33), rfl, rfl⟩, rfl⟩ dX7_redo_59
  · -- 33: goes on
    refine lv_aload_n hx hb dX7_redo_36 rfl (lv_at hl 3 rfl) ?_
    refine g_get (v := .ref (ad 94)) hx hb hts (by decide +kernel) hown hK hG 92 (by decide) gc_92 rfl 1 (by decide) (hts (.fieldLink RX7 13 "NeighbourScoresModel" "disk" "[I") (by decide +kernel)) (fun _ h9 => h9) rfl dX7_redo_37 ?_
    refine lv_iload_n hx hb dX7_redo_40 rfl (lv_at hl 1 rfl) ?_
    refine lv_iconst (v := 2) hx hb dX7_redo_41 (by decide) ?_
    refine lv_iadd hx hb dX7_redo_42 ?_
    refine g_i (y := nI ((pu_at3 (cur + 1)) + 2)) (nI_add (pu_at3 (cur + 1)) 2) ?_
    refine g_iald hx hb hK hG 94 (by decide) gc_94 ((pu_at3 (cur + 1)) + 2) rfl (by omega) (by omega) dX7_redo_43 ?_
    refine lv_aload_n hx hb dX7_redo_44 rfl (lv_at hl 3 rfl) ?_
    refine lv_iconst (v := 2) hx hb dX7_redo_45 (by decide) ?_
    refine lv_iload_n hx hb dX7_redo_46 rfl (lv_at hl 1 rfl) ?_
    refine lv_iconst (v := 2) hx hb dX7_redo_47 (by decide) ?_
    refine g_si (va_runV (As := [.int 2, .int (nI (pu_at3 (cur + 1))), .int 2]) (rest := [.int (I 94 ((pu_at3 (cur + 1)) + 2))]) hcx (c_X7_checked l D ad tc I L 2 (pu_at3 (cur + 1)) 2 (by omega)) (cwV 3 hts gX7_redo_X7_checked rfl rfl rfl (by decide +kernel) ⟨Nat.le_of_ble_eq_true rfl, Nat.le_of_ble_eq_true rfl⟩) (g_pV hK hG 92 (by decide) gc_92 rfl) rfl rfl hl.1 rfl (lv_room (Nat.le_of_ble_eq_true rfl)) dX7_redo_48 ⟨Nat.le_refl _, Nat.le_refl _⟩) (fun r_48 hw_48 => ?_)
    subst hw_48
    refine lv_icmp_ne (tgt := 58) hx hb dX7_redo_51 (by decide) (fun c51 => ?_) (fun c51 => ?_)
    · -- 51: jumps
      refine lv_iconst (v := 0) hx hb dX7_redo_58 (by decide) ?_
      exact g_rz hx hb hr hlocks (Or.inl rfl) hG ⟨Or.inr ⟨pu_hd_f (Or.inr (Or.inl c51)), rfl, rfl⟩, rfl⟩ dX7_redo_59
    · -- 51: goes on
      refine lv_iload_n hx hb dX7_redo_54 rfl (lv_at hl 0 rfl) ?_
      refine lv_if_ge (tgt := 60) hx hb dX7_redo_55 (by decide) (fun c55 => ?_) (fun c55 => ?_)
      · -- 55: jumps
        obtain ⟨w, hw2, ew⟩ : ∃ w, w < 2 ^ 31 ∧ I 94 ((pu_at3 (cur + 1)) + 1) = nI w := nI_of (pu_le0 c55)
        rw [ew] at hl
        refine lv_iload_n hx hb dX7_redo_60 rfl (lv_at hl 0 rfl) ?_
        refine lv_sipush (v := 1000) hx hb dX7_redo_61 (by decide) ?_
        refine lv_idiv hx hb dX7_redo_64 (by decide) ?_
        refine g_i (y := nI (w / 1000)) (pk_div (a := w) (d := 1000) hw2 (by decide) (by decide)) ?_
        refine lv_istore (lv' := [(4, .int (nI (w / 1000))), (3, .int (nI w)), (2, .int (nI (pu_at3 (cur + 1)))), (1, .int (nI (cur + 1))), (0, .ref (ad 92))]) hx hb dX7_redo_65 hl (by decide) rfl (fun ls hl => ?_)
        refine lv_iload_n hx hb dX7_redo_67 rfl (lv_at hl 1 rfl) ?_
        refine lv_sipush (v := 1000) hx hb dX7_redo_68 (by decide) ?_
        refine lv_irem hx hb dX7_redo_71 (by decide) ?_
        refine g_i (y := nI (w % 1000)) (pk_rem (a := w) (d := 1000) hw2 (by decide) (by decide)) ?_
        refine lv_bipush (v := 10) hx hb dX7_redo_72 (by decide) ?_
        refine lv_idiv hx hb dX7_redo_74 (by decide) ?_
        refine g_i (y := nI (w % 1000 / 10)) (pk_div (a := w % 1000) (d := 10) (by omega) (by decide) (by decide)) ?_
        refine lv_istore (lv' := [(5, .int (nI (w % 1000 / 10))), (4, .int (nI (w / 1000))), (3, .int (nI w)), (2, .int (nI (pu_at3 (cur + 1)))), (1, .int (nI (cur + 1))), (0, .ref (ad 92))]) hx hb dX7_redo_75 hl (by decide) rfl (fun ls hl => ?_)
        refine lv_iload_n hx hb dX7_redo_77 rfl (lv_at hl 2 rfl) ?_
        refine lv_bipush (v := 10) hx hb dX7_redo_78 (by decide) ?_
        refine lv_irem hx hb dX7_redo_80 (by decide) ?_
        refine g_i (y := nI (w % 10)) (pk_rem (a := w) (d := 10) hw2 (by decide) (by decide)) ?_
        refine lv_istore (lv' := [(6, .int (nI (w % 10))), (5, .int (nI (w % 1000 / 10))), (4, .int (nI (w / 1000))), (3, .int (nI w)), (2, .int (nI (pu_at3 (cur + 1)))), (1, .int (nI (cur + 1))), (0, .ref (ad 92))]) hx hb dX7_redo_81 hl (by decide) rfl (fun ls hl => ?_)
        refine lv_iload hx hb dX7_redo_83 (lv_at hl 2 rfl) ?_
        refine g_si (va_runS (As := [.int (nI (w / 1000))]) (rest := []) hcx (c_X7_noUser l (nI (w / 1000))) (va_cwS 1 hts gX7_redo_X7_noUser rfl rfl rfl (by decide +kernel) ⟨Nat.le_of_ble_eq_true rfl, Nat.le_of_ble_eq_true rfl⟩) (g_p0) rfl rfl hl.1 rfl (lv_room (Nat.le_of_ble_eq_true rfl)) dX7_redo_85 ⟨Nat.le_refl _, Nat.le_refl _⟩) (fun r_85 hw_85 => ?_)
        rcases hw_85 with ⟨hw_85, rfl⟩ | ⟨hw_85, rfl⟩
        · -- 85: yes
          refine lv_if_ne (tgt := 105) hx hb dX7_redo_88 (by decide) (fun _ => ?_) (fun c88 => absurd c88 (by decide))
          refine lv_iconst (v := 0) hx hb dX7_redo_105 (by decide) ?_
          exact g_rz hx hb hr hlocks (Or.inl rfl) hG ⟨Or.inr ⟨pu_hd_f (Or.inr (Or.inr (by rw [ew]; exact pu_bf (pu_nm_n hw2) (fun q => hw_85 (gR_n q.1))))), rfl, rfl⟩, rfl⟩ dX7_redo_106
        · -- 85: no
          refine lv_if_ne (tgt := 105) hx hb dX7_redo_88 (by decide) (fun c88 => absurd (by decide) c88) (fun _ => ?_)
          refine lv_iload hx hb dX7_redo_91 (lv_at hl 1 rfl) ?_
          refine g_si (va_runS (As := [.int (nI (w % 1000 / 10))]) (rest := []) hcx (c_X7_noItem l (nI (w % 1000 / 10))) (va_cwS 1 hts gX7_redo_X7_noItem rfl rfl rfl (by decide +kernel) ⟨Nat.le_of_ble_eq_true rfl, Nat.le_of_ble_eq_true rfl⟩) (g_p0) rfl rfl hl.1 rfl (lv_room (Nat.le_of_ble_eq_true rfl)) dX7_redo_93 ⟨Nat.le_refl _, Nat.le_refl _⟩) (fun r_93 hw_93 => ?_)
          rcases hw_93 with ⟨hw_93, rfl⟩ | ⟨hw_93, rfl⟩
          · -- 93: yes
            refine lv_if_ne (tgt := 105) hx hb dX7_redo_96 (by decide) (fun _ => ?_) (fun c96 => absurd c96 (by decide))
            refine lv_iconst (v := 0) hx hb dX7_redo_105 (by decide) ?_
            exact g_rz hx hb hr hlocks (Or.inl rfl) hG ⟨Or.inr ⟨pu_hd_f (Or.inr (Or.inr (by rw [ew]; exact pu_bf (pu_nm_n hw2) (fun q => hw_93 (gR_n q.2.1))))), rfl, rfl⟩, rfl⟩ dX7_redo_106
          · -- 93: no
            refine lv_if_ne (tgt := 105) hx hb dX7_redo_96 (by decide) (fun c96 => absurd (by decide) c96) (fun _ => ?_)
            refine lv_iload hx hb dX7_redo_99 (lv_at hl 0 rfl) ?_
            refine lv_iconst (v := 5) hx hb dX7_redo_101 (by decide) ?_
            refine lv_icmp_le (tgt := 107) hx hb dX7_redo_102 (by decide) (fun c102 => ?_) (fun c102 => ?_)
            · -- 102: jumps
              have b102 := g_le (a := (w % 10)) (b := 5) c102 (by omega) (by omega)
              have hwu := pu_gRn hw_85 (by omega) (by omega)
              have hwi := pu_gRn hw_93 (by omega) (by omega)
              refine lv_aload_n hx hb dX7_redo_107 rfl (lv_at hl 6 rfl) ?_
              refine g_get (v := .ref (ad 93)) hx hb hts (by decide +kernel) hown hK hG 92 (by decide) gc_92 rfl 0 (by decide) (hts (.fieldLink RX7 7 "NeighbourScoresModel" "rated" "[I") (by decide +kernel)) (fun _ h9 => h9) rfl dX7_redo_108 ?_
              refine lv_bipush (v := 16) hx hb dX7_redo_111 (by decide) ?_
              refine lv_iload hx hb dX7_redo_113 (lv_at hl 2 rfl) ?_
              refine lv_imul hx hb dX7_redo_115 ?_
              refine g_i (y := nI (16 * (w / 1000))) (pk_mul 16 (w / 1000)) ?_
              refine lv_iload hx hb dX7_redo_116 (lv_at hl 1 rfl) ?_
              refine lv_iadd hx hb dX7_redo_118 ?_
              refine g_i (y := nI ((16 * (w / 1000)) + (w % 1000 / 10))) (nI_add (16 * (w / 1000)) (w % 1000 / 10)) ?_
              refine lv_iload hx hb dX7_redo_119 (lv_at hl 0 rfl) ?_
              refine g_iast hx hb hK hG 93 (by decide) (fun _ => gc_93) ((16 * (w / 1000)) + (w % 1000 / 10)) rfl (by omega) (by omega) dX7_redo_121 (fun I_121 H locs hU_121 hG => ?_)
              refine lv_aload_n hx hb dX7_redo_122 rfl (lv_at hl 6 rfl) ?_
              refine lv_iload_n hx hb dX7_redo_123 rfl (lv_at hl 5 rfl) ?_
              refine g_put (ty := .int) hx hb hts (by decide +kernel) tyX7 tyX7_ok nmX7 hown hK hG 92 (by decide) gc_92 rfl 2 (by decide) (hts (.fieldLink RX7 52 "NeighbourScoresModel" "current" "I") (by decide +kernel)) (fun _ h9 => h9) rfl (by decide +kernel) rfl rfl (Nat.le_of_ble_eq_true rfl) (by rw [gc_92]; rfl) dX7_redo_124 (fun I_124 H locs hU_124 hG => ?_)
              refine lv_iconst (v := 1) hx hb dX7_redo_127 (by decide) ?_
              exact g_rz hx hb hr hlocks (Or.inr rfl) hG ⟨Or.inl ⟨pu_hd_t c33 c51 (by rw [ew]; exact (pu_nm_n hw2).mpr ⟨hwu, hwi, b102⟩), rfl, w, ew, pu_tMset hT hU_121 hU_124 (by decide) hwi, pu_tb_T hTb b102, gU_eq hU_124, fun a h1 h2 => (hU_124.2 a h1).trans (hU_121.2 a h2), fun k hk => by rw [gU_ne hU_124 hk, hU_121.2 92 (by decide)]⟩, rfl⟩ dX7_redo_128
            · -- 102: goes on
              have b102 := g_nle (a := (w % 10)) (b := 5) c102 (by omega) (by omega)
              refine lv_iconst (v := 0) hx hb dX7_redo_105 (by decide) ?_
              exact g_rz hx hb hr hlocks (Or.inl rfl) hG ⟨Or.inr ⟨pu_hd_f (Or.inr (Or.inr (by rw [ew]; exact pu_bf (pu_nm_n hw2) (fun q => by omega)))), rfl, rfl⟩, rfl⟩ dX7_redo_106
      · -- 55: goes on
        refine lv_iconst (v := 0) hx hb dX7_redo_58 (by decide) ?_
        exact g_rz hx hb hr hlocks (Or.inl rfl) hG ⟨Or.inr ⟨pu_hd_f (Or.inr (Or.inr (pu_nm_neg (Int32.not_le.mp c55)))), rfl, rfl⟩, rfl⟩ dX7_redo_59

set_option maxHeartbeats 4000000 in
set_option maxRecDepth 100000 in
theorem c_X7_rate (l : Launch) (D : va_G) (ad : Nat → Nat) (tc : Nat → ClassId) (I : Mi) (L : Ml) (T : Tb) (d : Dk) (cur base : Nat) (hσ : repM I (T, d, cur, base)) (ua ia ra : Int32) (hcb : cur < 2000000000) : Met l yX7_rate wsX7_rate ({ frames := 1, cells := 0, slots := 0, locals := 22 } : Room) (va_Pc [.ref (ad 92), .int ua, .int ia, .int ra] (gPc D ad tc I L)) (gQi D ad tc (fun z I1 L1 => (sp_rate (T, d, cur, base) ua ia ra).1 = z ∧ repM I1 (sp_rate (T, d, cur, base) ua ia ra).2 ∧ ∀ a, a < 92 → I1 a = I a)) 0 0 (gA ad) := by
  refine g_of (by decide) rfl (Nat.le_of_ble_eq_true rfl) ?_
  intro p e s m below meth c hcx hr hlocks hK hG ls hl
  obtain ⟨hx, hb, hml, hown, hts⟩ := id hcx
  have hl : lv_has ls 8 [(0, .ref (ad 92)), (1, .int ua), (2, .int ia), (3, .int ra)] := hl
  have hin : sp_in (T, d, cur, base) := hσ.1
  have hTb : pu_tb T := hin.1
  have hT : tM I T := hσ.2.1
  have hd0 : dark01 I := hσ.2.2.1
  have hd : dkM I = d := hσ.2.2.2.1
  have hcu : I 92 2 = nI cur := hσ.2.2.2.2.1
  have hba : I 92 3 = nI base := hσ.2.2.2.2.2
  have hle1 : base ≤ cur := hin.2.2.1
  have hle2 : cur ≤ base + 40 := hin.2.2.2
  have h3 := pu_at3_lt (cur + 1)
  refine lv_aload_n hx hb dX7_rate_0 rfl (lv_at hl 0 rfl) ?_
  refine g_get (v := .int (I 92 4)) hx hb hts (by decide +kernel) hown hK hG 92 (by decide) gc_92 rfl 4 (by decide) (hts (.fieldLink RX7 41 "NeighbourScoresModel" "dark" "Z") (by decide +kernel)) (fun _ h9 => h9) rfl dX7_rate_1 ?_
  refine lv_if_eq (tgt := 10) hx hb dX7_rate_4 (by decide) (fun c4 => ?_) (fun c4 => ?_)
  · -- 4: jumps
    have hp1 : d.2.1 = 1 := by rw [← hd]; exact dk_on c4
    have hp : ¬ d.2.1 = 0 := by rw [hp1]; decide
    refine lv_iload_n hx hb dX7_rate_10 rfl (lv_at hl 1 rfl) ?_
    refine g_si (va_runS (As := [.int ua]) (rest := []) hcx (c_X7_noUser l ua) (va_cwS 1 hts gX7_rate_X7_noUser rfl rfl rfl (by decide +kernel) ⟨Nat.le_of_ble_eq_true rfl, Nat.le_of_ble_eq_true rfl⟩) (g_p0) rfl rfl hl.1 rfl (lv_room (Nat.le_of_ble_eq_true rfl)) dX7_rate_11 ⟨Nat.le_refl _, Nat.le_refl _⟩) (fun r_11 hw_11 => ?_)
    rcases hw_11 with ⟨hw_11, rfl⟩ | ⟨hw_11, rfl⟩
    · -- 11: yes
      refine lv_if_ne (tgt := 33) hx hb dX7_rate_14 (by decide) (fun _ => ?_) (fun c14 => absurd c14 (by decide))
      refine lv_bipush (v := -2) hx hb dX7_rate_33 (by decide) ?_
      exact g_ri hx hb hr hlocks hG ⟨by rw [sp_rate_bad hp (Or.inl hw_11)], by rw [sp_rate_bad hp (Or.inl hw_11)]; exact hσ, fun _ _ => rfl⟩ dX7_rate_35
    · -- 11: no
      refine lv_if_ne (tgt := 33) hx hb dX7_rate_14 (by decide) (fun c14 => absurd (by decide) c14) (fun _ => ?_)
      refine lv_iload_n hx hb dX7_rate_17 rfl (lv_at hl 2 rfl) ?_
      refine g_si (va_runS (As := [.int ia]) (rest := []) hcx (c_X7_noItem l ia) (va_cwS 1 hts gX7_rate_X7_noItem rfl rfl rfl (by decide +kernel) ⟨Nat.le_of_ble_eq_true rfl, Nat.le_of_ble_eq_true rfl⟩) (g_p0) rfl rfl hl.1 rfl (lv_room (Nat.le_of_ble_eq_true rfl)) dX7_rate_18 ⟨Nat.le_refl _, Nat.le_refl _⟩) (fun r_18 hw_18 => ?_)
      rcases hw_18 with ⟨hw_18, rfl⟩ | ⟨hw_18, rfl⟩
      · -- 18: yes
        refine lv_if_ne (tgt := 33) hx hb dX7_rate_21 (by decide) (fun _ => ?_) (fun c21 => absurd c21 (by decide))
        refine lv_bipush (v := -2) hx hb dX7_rate_33 (by decide) ?_
        exact g_ri hx hb hr hlocks hG ⟨by rw [sp_rate_bad hp (Or.inr (Or.inl hw_18))], by rw [sp_rate_bad hp (Or.inr (Or.inl hw_18))]; exact hσ, fun _ _ => rfl⟩ dX7_rate_35
      · -- 18: no
        refine lv_if_ne (tgt := 33) hx hb dX7_rate_21 (by decide) (fun c21 => absurd (by decide) c21) (fun _ => ?_)
        refine lv_iload_n hx hb dX7_rate_24 rfl (lv_at hl 3 rfl) ?_
        refine lv_if_lt (tgt := 33) hx hb dX7_rate_25 (by decide) (fun c25 => ?_) (fun c25 => ?_)
        · -- 25: jumps
          refine lv_bipush (v := -2) hx hb dX7_rate_33 (by decide) ?_
          exact g_ri hx hb hr hlocks hG ⟨by rw [sp_rate_bad hp (Or.inr (Or.inr (gR_neg (by decide) c25)))], by rw [sp_rate_bad hp (Or.inr (Or.inr (gR_neg (by decide) c25)))]; exact hσ, fun _ _ => rfl⟩ dX7_rate_35
        · -- 25: goes on
          refine lv_iload_n hx hb dX7_rate_28 rfl (lv_at hl 3 rfl) ?_
          refine lv_iconst (v := 5) hx hb dX7_rate_29 (by decide) ?_
          refine lv_icmp_le (tgt := 36) hx hb dX7_rate_30 (by decide) (fun c30 => ?_) (fun c30 => ?_)
          · -- 30: jumps
            obtain ⟨u, hu, rfl⟩ := hw_11
            obtain ⟨i, hi, rfl⟩ := hw_18
            obtain ⟨r, hr6, rfl⟩ := pu_gR11 (n := 5) (by decide) c25 c30
            refine lv_aload_n hx hb dX7_rate_36 rfl (lv_at hl 0 rfl) ?_
            refine g_get (v := .int (I 92 2)) hx hb hts (by decide +kernel) hown hK hG 92 (by decide) gc_92 rfl 2 (by decide) (hts (.fieldLink RX7 52 "NeighbourScoresModel" "current" "I") (by decide +kernel)) (fun _ h9 => h9) rfl dX7_rate_37 ?_
            refine g_i (y := nI cur) hcu ?_
            refine lv_aload_n hx hb dX7_rate_40 rfl (lv_at hl 0 rfl) ?_
            refine g_get (v := .int (I 92 3)) hx hb hts (by decide +kernel) hown hK hG 92 (by decide) gc_92 rfl 3 (by decide) (hts (.fieldLink RX7 55 "NeighbourScoresModel" "base" "I") (by decide +kernel)) (fun _ h9 => h9) rfl dX7_rate_41 ?_
            refine g_i (y := nI base) hba ?_
            refine lv_bipush (v := 40) hx hb dX7_rate_44 (by decide) ?_
            refine lv_iadd hx hb dX7_rate_46 ?_
            refine g_i (y := nI (base + 40)) (nI_add base 40) ?_
            refine lv_icmp_ne (tgt := 53) hx hb dX7_rate_47 (by decide) (fun c47 => ?_) (fun c47 => ?_)
            · -- 47: jumps
              have b47 := g_ne (a := cur) (b := (base + 40)) c47 (by omega) (by omega)
              refine lv_aload_n hx hb dX7_rate_53 rfl (lv_at hl 0 rfl) ?_
              refine g_get (v := .int (I 92 2)) hx hb hts (by decide +kernel) hown hK hG 92 (by decide) gc_92 rfl 2 (by decide) (hts (.fieldLink RX7 52 "NeighbourScoresModel" "current" "I") (by decide +kernel)) (fun _ h9 => h9) rfl dX7_rate_54 ?_
              refine g_i (y := nI cur) hcu ?_
              refine lv_iconst (v := 1) hx hb dX7_rate_57 (by decide) ?_
              refine lv_iadd hx hb dX7_rate_58 ?_
              refine g_i (y := nI (cur + 1)) (nI_add cur 1) ?_
              refine lv_istore (lv' := [(4, .int (nI (cur + 1))), (0, .ref (ad 92)), (1, .int (nI u)), (2, .int (nI i)), (3, .int (nI r))]) hx hb dX7_rate_59 hl (by decide) rfl (fun ls hl => ?_)
              refine lv_bipush (v := 52) hx hb dX7_rate_61 (by decide) ?_
              refine lv_iconst (v := 3) hx hb dX7_rate_63 (by decide) ?_
              refine lv_iload hx hb dX7_rate_64 (lv_at hl 0 rfl) ?_
              refine lv_bipush (v := 40) hx hb dX7_rate_66 (by decide) ?_
              refine lv_irem hx hb dX7_rate_68 (by decide) ?_
              refine g_i (y := nI ((cur + 1) % 40)) (pk_rem (a := cur + 1) (d := 40) (by omega) (by decide) (by decide)) ?_
              refine lv_imul hx hb dX7_rate_69 ?_
              refine g_i (y := nI (3 * ((cur + 1) % 40))) (pk_mul 3 ((cur + 1) % 40)) ?_
              refine lv_iadd hx hb dX7_rate_70 ?_
              refine g_i (y := nI (pu_at3 (cur + 1))) (nI_add 52 (3 * ((cur + 1) % 40))) ?_
              refine lv_istore (lv' := [(5, .int (nI (pu_at3 (cur + 1)))), (4, .int (nI (cur + 1))), (0, .ref (ad 92)), (1, .int (nI u)), (2, .int (nI i)), (3, .int (nI r))]) hx hb dX7_rate_71 hl (by decide) rfl (fun ls hl => ?_)
              refine lv_sipush (v := 1000) hx hb dX7_rate_73 (by decide) ?_
              refine lv_iload_n hx hb dX7_rate_76 rfl (lv_at hl 3 rfl) ?_
              refine lv_imul hx hb dX7_rate_77 ?_
              refine g_i (y := nI (1000 * u)) (pk_mul 1000 u) ?_
              refine lv_bipush (v := 10) hx hb dX7_rate_78 (by decide) ?_
              refine lv_iload_n hx hb dX7_rate_80 rfl (lv_at hl 4 rfl) ?_
              refine lv_imul hx hb dX7_rate_81 ?_
              refine g_i (y := nI (10 * i)) (pk_mul 10 i) ?_
              refine lv_iadd hx hb dX7_rate_82 ?_
              refine g_i (y := nI ((1000 * u) + (10 * i))) (nI_add (1000 * u) (10 * i)) ?_
              refine lv_iload_n hx hb dX7_rate_83 rfl (lv_at hl 5 rfl) ?_
              refine lv_iadd hx hb dX7_rate_84 ?_
              refine g_i (y := nI (((1000 * u) + (10 * i)) + r)) (nI_add ((1000 * u) + (10 * i)) r) ?_
              refine lv_istore (lv' := [(6, .int (nI (((1000 * u) + (10 * i)) + r))), (5, .int (nI (pu_at3 (cur + 1)))), (4, .int (nI (cur + 1))), (0, .ref (ad 92)), (1, .int (nI u)), (2, .int (nI i)), (3, .int (nI r))]) hx hb dX7_rate_85 hl (by decide) rfl (fun ls hl => ?_)
              refine lv_aload_n hx hb dX7_rate_87 rfl (lv_at hl 3 rfl) ?_
              refine lv_iload hx hb dX7_rate_88 (lv_at hl 1 rfl) ?_
              refine lv_iload hx hb dX7_rate_90 (lv_at hl 2 rfl) ?_
              refine g_cv (va_runV (As := [.int (nI (pu_at3 (cur + 1))), .int (nI (cur + 1))]) (rest := []) hcx (c_X7_put l D ad tc I L (pu_at3 (cur + 1)) (by omega) (nI (cur + 1)) hd0) (cwV 2 hts gX7_rate_X7_put rfl rfl rfl (by decide +kernel) ⟨Nat.le_of_ble_eq_true rfl, Nat.le_of_ble_eq_true rfl⟩) (g_pV hK hG 92 (by decide) gc_92 rfl) rfl rfl hl.1 rfl (lv_room (Nat.le_of_ble_eq_true rfl)) dX7_rate_92 ⟨Nat.le_refl _, Nat.le_refl _⟩) hK hG (fun I_92 L_92 H locs hw_92 hG => ?_)
              obtain ⟨p1, d1, f1, g1, k1, rfl⟩ := hw_92
              refine lv_aload_n hx hb dX7_rate_95 rfl (lv_at hl 3 rfl) ?_
              refine lv_iload hx hb dX7_rate_96 (lv_at hl 1 rfl) ?_
              refine lv_iconst (v := 1) hx hb dX7_rate_98 (by decide) ?_
              refine lv_iadd hx hb dX7_rate_99 ?_
              refine g_i (y := nI ((pu_at3 (cur + 1)) + 1)) (nI_add (pu_at3 (cur + 1)) 1) ?_
              refine lv_iload hx hb dX7_rate_100 (lv_at hl 0 rfl) ?_
              refine g_cv (va_runV (As := [.int (nI ((pu_at3 (cur + 1)) + 1)), .int (nI (((1000 * u) + (10 * i)) + r))]) (rest := []) hcx (c_X7_put l D ad tc I_92 L ((pu_at3 (cur + 1)) + 1) (by omega) (nI (((1000 * u) + (10 * i)) + r)) d1) (cwV 2 hts gX7_rate_X7_put rfl rfl rfl (by decide +kernel) ⟨Nat.le_of_ble_eq_true rfl, Nat.le_of_ble_eq_true rfl⟩) (g_pV hK hG 92 (by decide) gc_92 rfl) rfl rfl hl.1 rfl (lv_room (Nat.le_of_ble_eq_true rfl)) dX7_rate_102 ⟨Nat.le_refl _, Nat.le_refl _⟩) hK hG (fun I_102 L_102 H locs hw_102 hG => ?_)
              obtain ⟨p2, d2, f2, g2, k2, rfl⟩ := hw_102
              refine lv_aload_n hx hb dX7_rate_105 rfl (lv_at hl 3 rfl) ?_
              refine lv_iload hx hb dX7_rate_106 (lv_at hl 1 rfl) ?_
              refine lv_iconst (v := 2) hx hb dX7_rate_108 (by decide) ?_
              refine lv_iadd hx hb dX7_rate_109 ?_
              refine g_i (y := nI ((pu_at3 (cur + 1)) + 2)) (nI_add (pu_at3 (cur + 1)) 2) ?_
              refine lv_iconst (v := 2) hx hb dX7_rate_110 (by decide) ?_
              refine lv_iload hx hb dX7_rate_111 (lv_at hl 2 rfl) ?_
              refine g_si (va_runS (As := [.int 2, .int (nI (cur + 1))]) (rest := [.int (nI ((pu_at3 (cur + 1)) + 2)), .ref (ad 92)]) hcx (c_X7_mix l 2 (nI (cur + 1))) (va_cwS 2 hts gX7_rate_X7_mix rfl rfl rfl (by decide +kernel) ⟨Nat.le_of_ble_eq_true rfl, Nat.le_of_ble_eq_true rfl⟩) (g_p0) rfl rfl hl.1 rfl (lv_room (Nat.le_of_ble_eq_true rfl)) dX7_rate_113 ⟨Nat.le_refl _, Nat.le_refl _⟩) (fun r_113 hw_113 => ?_)
              subst hw_113
              refine lv_iload hx hb dX7_rate_116 (lv_at hl 0 rfl) ?_
              refine g_si (va_runS (As := [.int (pu_mix 2 (nI (cur + 1))), .int (nI (((1000 * u) + (10 * i)) + r))]) (rest := [.int (nI ((pu_at3 (cur + 1)) + 2)), .ref (ad 92)]) hcx (c_X7_mix l (pu_mix 2 (nI (cur + 1))) (nI (((1000 * u) + (10 * i)) + r))) (va_cwS 2 hts gX7_rate_X7_mix rfl rfl rfl (by decide +kernel) ⟨Nat.le_of_ble_eq_true rfl, Nat.le_of_ble_eq_true rfl⟩) (g_p0) rfl rfl hl.1 rfl (lv_room (Nat.le_of_ble_eq_true rfl)) dX7_rate_118 ⟨Nat.le_refl _, Nat.le_refl _⟩) (fun r_118 hw_118 => ?_)
              subst hw_118
              refine lv_iconst (v := 1) hx hb dX7_rate_121 (by decide) ?_
              refine lv_ior hx hb dX7_rate_122 ?_
              refine g_cv (va_runV (As := [.int (nI ((pu_at3 (cur + 1)) + 2)), .int ((pu_mix (pu_mix 2 (nI (cur + 1))) (nI (((1000 * u) + (10 * i)) + r))) ||| 1)]) (rest := []) hcx (c_X7_put l D ad tc I_102 L ((pu_at3 (cur + 1)) + 2) (by omega) ((pu_mix (pu_mix 2 (nI (cur + 1))) (nI (((1000 * u) + (10 * i)) + r))) ||| 1) d2) (cwV 2 hts gX7_rate_X7_put rfl rfl rfl (by decide +kernel) ⟨Nat.le_of_ble_eq_true rfl, Nat.le_of_ble_eq_true rfl⟩) (g_pV hK hG 92 (by decide) gc_92 rfl) rfl rfl hl.1 rfl (lv_room (Nat.le_of_ble_eq_true rfl)) dX7_rate_123 ⟨Nat.le_refl _, Nat.le_refl _⟩) hK hG (fun I_123 L_123 H locs hw_123 hG => ?_)
              obtain ⟨p3, d3, f3, g3, k3, rfl⟩ := hw_123
              have hd3 : pu_puts d (pu_at3 (cur + 1)) (pu_rec (cur + 1) (1000 * u + 10 * i + r)) 3 = dkM I_123 := by rw [← p3, ← p2, ← p1, hd]; rfl
              have hE := sp_rate_go (T := T) (base := base) hp hu hi hr6 b47 hd3
              have hT3 : tM I_123 T := tM_mem hT (by rw [f3 93 (by decide) (by decide), f2 93 (by decide) (by decide), f1 93 (by decide) (by decide)])
              have hcu3 : I_123 92 2 = nI cur := by rw [g3, g2, g1]; exact hcu
              have hba3 : I_123 92 3 = nI base := by rw [k3, k2, k1]; exact hba
              have hfr : ∀ a, a < 92 → I_123 a = I a := fun a ha => by rw [f3 a (by omega) (by omega), f2 a (by omega) (by omega), f1 a (by omega) (by omega)]
              refine lv_aload_n hx hb dX7_rate_126 rfl (lv_at hl 3 rfl) ?_
              refine g_get (v := .int (I_123 92 4)) hx hb hts (by decide +kernel) hown hK hG 92 (by decide) gc_92 rfl 4 (by decide) (hts (.fieldLink RX7 41 "NeighbourScoresModel" "dark" "Z") (by decide +kernel)) (fun _ h9 => h9) rfl dX7_rate_127 ?_
              refine lv_if_eq (tgt := 136) hx hb dX7_rate_130 (by decide) (fun c130 => ?_) (fun c130 => ?_)
              · -- 130: jumps
                rw [if_neg (by rw [dk_on c130]; decide)] at hE
                refine lv_aload_n hx hb dX7_rate_136 rfl (lv_at hl 3 rfl) ?_
                refine g_get (v := .ref (ad 93)) hx hb hts (by decide +kernel) hown hK hG 92 (by decide) gc_92 rfl 0 (by decide) (hts (.fieldLink RX7 7 "NeighbourScoresModel" "rated" "[I") (by decide +kernel)) (fun _ h9 => h9) rfl dX7_rate_137 ?_
                refine lv_bipush (v := 16) hx hb dX7_rate_140 (by decide) ?_
                refine lv_iload_n hx hb dX7_rate_142 rfl (lv_at hl 4 rfl) ?_
                refine lv_imul hx hb dX7_rate_143 ?_
                refine g_i (y := nI (16 * u)) (pk_mul 16 u) ?_
                refine lv_iload_n hx hb dX7_rate_144 rfl (lv_at hl 5 rfl) ?_
                refine lv_iadd hx hb dX7_rate_145 ?_
                refine g_i (y := nI ((16 * u) + i)) (nI_add (16 * u) i) ?_
                refine g_iald hx hb hK hG 93 (by decide) gc_93 ((16 * u) + i) rfl (by omega) (by omega) dX7_rate_146 ?_
                refine g_i (y := nI (T u i)) (hT3 u i hu hi) ?_
                refine lv_istore (lv' := [(7, .int (nI (T u i))), (6, .int (nI (((1000 * u) + (10 * i)) + r))), (5, .int (nI (pu_at3 (cur + 1)))), (4, .int (nI (cur + 1))), (0, .ref (ad 92)), (1, .int (nI u)), (2, .int (nI i)), (3, .int (nI r))]) hx hb dX7_rate_147 hl (by decide) rfl (fun ls hl => ?_)
                refine lv_aload_n hx hb dX7_rate_149 rfl (lv_at hl 4 rfl) ?_
                refine g_get (v := .ref (ad 93)) hx hb hts (by decide +kernel) hown hK hG 92 (by decide) gc_92 rfl 0 (by decide) (hts (.fieldLink RX7 7 "NeighbourScoresModel" "rated" "[I") (by decide +kernel)) (fun _ h9 => h9) rfl dX7_rate_150 ?_
                refine lv_bipush (v := 16) hx hb dX7_rate_153 (by decide) ?_
                refine lv_iload_n hx hb dX7_rate_155 rfl (lv_at hl 5 rfl) ?_
                refine lv_imul hx hb dX7_rate_156 ?_
                refine g_i (y := nI (16 * u)) (pk_mul 16 u) ?_
                refine lv_iload_n hx hb dX7_rate_157 rfl (lv_at hl 6 rfl) ?_
                refine lv_iadd hx hb dX7_rate_158 ?_
                refine g_i (y := nI ((16 * u) + i)) (nI_add (16 * u) i) ?_
                refine lv_iload_n hx hb dX7_rate_159 rfl (lv_at hl 7 rfl) ?_
                refine g_iast hx hb hK hG 93 (by decide) (fun _ => gc_93) ((16 * u) + i) rfl (by omega) (by omega) dX7_rate_160 (fun I_160 H locs hU_160 hG => ?_)
                refine lv_aload_n hx hb dX7_rate_161 rfl (lv_at hl 4 rfl) ?_
                refine lv_iload hx hb dX7_rate_162 (lv_at hl 3 rfl) ?_
                refine g_put (ty := .int) hx hb hts (by decide +kernel) tyX7 tyX7_ok nmX7 hown hK hG 92 (by decide) gc_92 rfl 2 (by decide) (hts (.fieldLink RX7 52 "NeighbourScoresModel" "current" "I") (by decide +kernel)) (fun _ h9 => h9) rfl (by decide +kernel) rfl rfl (Nat.le_of_ble_eq_true rfl) (by rw [gc_92]; rfl) dX7_rate_164 (fun I_164 H locs hU_164 hG => ?_)
                refine lv_iload hx hb dX7_rate_167 (lv_at hl 0 rfl) ?_
                exact g_ri hx hb hr hlocks hG ⟨by rw [hE], by rw [hE]; exact ⟨⟨pu_tb_T hTb (by omega), Or.inr (dk_on c130), by show base ≤ cur + 1; omega, by show cur + 1 ≤ base + 40; omega⟩, pu_tMset hT3 hU_160 hU_164 (by decide) hi, by unfold dark01; rw [gU_ne hU_164 (by decide), hU_160.2 92 (by decide)]; exact Or.inl c130, by unfold dkM; rw [gU_ne hU_164 (by decide), gU_ne hU_164 (by decide), hU_160.2 92 (by decide), hU_164.2 94 (by decide), hU_160.2 94 (by decide)], gU_eq hU_164, by rw [gU_ne hU_164 (by decide), hU_160.2 92 (by decide)]; exact hba3⟩, fun a ha => by rw [hU_164.2 a (by omega), hU_160.2 a (by omega)]; exact hfr a ha⟩ dX7_rate_169
              · -- 130: goes on
                rw [if_pos (dk_off (pu_d1 d3 c130))] at hE
                refine lv_bipush (v := -3) hx hb dX7_rate_133 (by decide) ?_
                exact g_ri hx hb hr hlocks hG ⟨by rw [hE], by rw [hE]; exact ⟨⟨hTb, Or.inl (dk_off (pu_d1 d3 c130)), hle1, hle2⟩, hT3, d3, rfl, hcu3, hba3⟩, hfr⟩ dX7_rate_135
            · -- 47: goes on
              have b47 := g_eq (a := cur) (b := (base + 40)) c47 (by omega) (by omega)
              refine lv_bipush (v := -4) hx hb dX7_rate_50 (by decide) ?_
              exact g_ri hx hb hr hlocks hG ⟨by rw [sp_rate_full hp hu hi hr6 b47], by rw [sp_rate_full hp hu hi hr6 b47]; exact hσ, fun _ _ => rfl⟩ dX7_rate_52
          · -- 30: goes on
            refine lv_bipush (v := -2) hx hb dX7_rate_33 (by decide) ?_
            exact g_ri hx hb hr hlocks hG ⟨by rw [sp_rate_bad hp (Or.inr (Or.inr (pu_gR12 (n := 5) (by decide) c30)))], by rw [sp_rate_bad hp (Or.inr (Or.inr (pu_gR12 (n := 5) (by decide) c30)))]; exact hσ, fun _ _ => rfl⟩ dX7_rate_35
  · -- 4: goes on
    have hp0 : d.2.1 = 0 := by rw [← hd]; exact dk_off (pu_d1 hd0 c4)
    refine lv_bipush (v := -3) hx hb dX7_rate_7 (by decide) ?_
    exact g_ri hx hb hr hlocks hG ⟨by rw [sp_rate_off hp0], by rw [sp_rate_off hp0]; exact hσ, fun _ _ => rfl⟩ dX7_rate_9
