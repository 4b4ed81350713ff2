set_option maxHeartbeats 4000000 in
set_option maxRecDepth 100000 in
theorem c_X7_redo (l : Launch) (D : va_G) (ad : Nat → Nat) (tc : Nat → ClassId) (I : Mi) (L : Ml) (T : Tb) (hTb : pu_tb T) (hT : tM I T) (cur : Nat) (hcu : I 92 2 = nI cur) (hcb : cur < 2000000000) : Met l yX7_redo wsX7_redo ({ frames := 2, cells := 0, slots := 0, locals := 47 } : Room) (va_Pc [.ref (ad 92)] (gPc D ad tc I L)) (gQi D ad tc (fun r I1 L1 => ((pu_hd (I 94) (cur + 1) = true ∧ 1 = r ∧ ∃ w, w < 2 ^ 31 ∧ I 94 (pu_at3 (cur + 1) + 1) = nI w ∧ tM I1 (pu_T T (w / 1000) (w % 1000 / 10) (w % 10)) ∧ pu_tb (pu_T T (w / 1000) (w % 1000 / 10) (w % 10)) ∧ I1 92 2 = nI (cur + 1) ∧ (∀ a, a ≠ 92 → a ≠ 93 → I1 a = I a) ∧ ∀ k, k ≠ 2 → I1 92 k = I 92 k) ∨ (pu_hd (I 94) (cur + 1) = false ∧ 0 = r ∧ I = I1)) ∧ L = L1)) 0 0 (gA ad) := by
  refine g_of (by decide) rfl (Nat.le_of_ble_eq_true rfl) ?_
  intro p e s m below meth c hcx hr hlocks hK hG ls hl
  obtain ⟨hx, hb, hml, hown, hts⟩ := id hcx
  have hl : lv_has ls 7 [(0, .ref (ad 92))] := hl
  have h3 := pu_at3_lt (cur + 1)
  refine lv_aload_n hx hb dX7_redo_0 rfl (lv_at hl 0 rfl) ?_
  refine g_get (v := .int (I 92 2)) hx hb hts (by decide +kernel) hown hK hG 92 (by decide) gc_92 rfl 2 (by decide) (hts (.fieldLink RX7 52 "NeighbourScoresModel" "current" "I") (by decide +kernel)) (fun _ h9 => h9) rfl dX7_redo_1 ?_
  refine g_i (y := nI cur) hcu ?_
  refine lv_iconst (v := 1) hx hb dX7_redo_4 (by decide) ?_
  refine lv_iadd hx hb dX7_redo_5 ?_
  refine g_i (y := nI (cur + 1)) (nI_add cur 1) ?_
  refine lv_istore_n (lv' := [(1, .int (nI (cur + 1))), (0, .ref (ad 92))]) hx hb dX7_redo_6 rfl hl (by decide) rfl (fun ls hl => ?_)
  refine lv_bipush (v := 52) hx hb dX7_redo_7 (by decide) ?_
  refine lv_iconst (v := 3) hx hb dX7_redo_9 (by decide) ?_
  refine lv_iload_n hx hb dX7_redo_10 rfl (lv_at hl 0 rfl) ?_
  refine lv_bipush (v := 40) hx hb dX7_redo_11 (by decide) ?_
  refine lv_irem hx hb dX7_redo_13 (by decide) ?_
  refine g_i (y := nI ((cur + 1) % 40)) (pk_rem (a := cur + 1) (d := 40) (by omega) (by decide) (by decide)) ?_
  refine lv_imul hx hb dX7_redo_14 ?_
  refine g_i (y := nI (3 * ((cur + 1) % 40))) (pk_mul 3 ((cur + 1) % 40)) ?_
  refine lv_iadd hx hb dX7_redo_15 ?_
  refine g_i (y := nI (pu_at3 (cur + 1))) (nI_add 52 (3 * ((cur + 1) % 40))) ?_
  refine lv_istore_n (lv' := [(2, .int (nI (pu_at3 (cur + 1)))), (1, .int (nI (cur + 1))), (0, .ref (ad 92))]) hx hb dX7_redo_16 rfl hl (by decide) rfl (fun ls hl => ?_)
  refine lv_aload_n hx hb dX7_redo_17 rfl (lv_at hl 2 rfl) ?_
  refine g_get (v := .ref (ad 94)) hx hb hts (by decide +kernel) hown hK hG 92 (by decide) gc_92 rfl 1 (by decide) (hts (.fieldLink RX7 13 "NeighbourScoresModel" "disk" "[I") (by decide +kernel)) (fun _ h9 => h9) rfl dX7_redo_18 ?_
  refine lv_iload_n hx hb dX7_redo_21 rfl (lv_at hl 0 rfl) ?_
  refine lv_iconst (v := 1) hx hb dX7_redo_22 (by decide) ?_
  refine lv_iadd hx hb dX7_redo_23 ?_
  refine g_i (y := nI ((pu_at3 (cur + 1)) + 1)) (nI_add (pu_at3 (cur + 1)) 1) ?_
  refine g_iald hx hb hK hG 94 (by decide) gc_94 ((pu_at3 (cur + 1)) + 1) rfl (by omega) (by omega) dX7_redo_24 ?_
  refine lv_istore_n (lv' := [(3, .int (I 94 ((pu_at3 (cur + 1)) + 1))), (2, .int (nI (pu_at3 (cur + 1)))), (1, .int (nI (cur + 1))), (0, .ref (ad 92))]) hx hb dX7_redo_25 rfl hl (by decide) rfl (fun ls hl => ?_)
  refine lv_aload_n hx hb dX7_redo_26 rfl (lv_at hl 3 rfl) ?_
  refine g_get (v := .ref (ad 94)) hx hb hts (by decide +kernel) hown hK hG 92 (by decide) gc_92 rfl 1 (by decide) (hts (.fieldLink RX7 13 "NeighbourScoresModel" "disk" "[I") (by decide +kernel)) (fun _ h9 => h9) rfl dX7_redo_27 ?_
  refine lv_iload_n hx hb dX7_redo_30 rfl (lv_at hl 1 rfl) ?_
  refine g_iald hx hb hK hG 94 (by decide) gc_94 (pu_at3 (cur + 1)) rfl (by omega) (by omega) dX7_redo_31 ?_
  refine lv_iload_n hx hb dX7_redo_32 rfl (lv_at hl 2 rfl) ?_
  refine lv_icmp_ne (tgt := 58) hx hb dX7_redo_33 (by decide) (fun c33 => ?_) (fun c33 => ?_)
  · -- 33: jumps
    refine lv_iconst (v := 0) hx hb dX7_redo_58 (by decide) ?_
    exact g_rz hx hb hr hlocks (Or.inl rfl) hG ⟨Or.inr ⟨pu_hd_f (Or.inl c33), rfl, rfl⟩, rfl⟩ dX7_redo_59
  · -- 33: goes on
    refine lv_aload_n hx hb dX7_redo_36 rfl (lv_at hl 3 rfl) ?_
    refine g_get (v := .ref (ad 94)) hx hb hts (by decide +kernel) hown hK hG 92 (by decide) gc_92 rfl 1 (by decide) (hts (.fieldLink RX7 13 "NeighbourScoresModel" "disk" "[I") (by decide +kernel)) (fun _ h9 => h9) rfl dX7_redo_37 ?_
    refine lv_iload_n hx hb dX7_redo_40 rfl (lv_at hl 1 rfl) ?_
    refine lv_iconst (v := 2) hx hb dX7_redo_41 (by decide) ?_
    refine lv_iadd hx hb dX7_redo_42 ?_
    refine g_i (y := nI ((pu_at3 (cur + 1)) + 2)) (nI_add (pu_at3 (cur + 1)) 2) ?_
    refine g_iald hx hb hK hG 94 (by decide) gc_94 ((pu_at3 (cur + 1)) + 2) rfl (by omega) (by omega) dX7_redo_43 ?_
    refine lv_aload_n hx hb dX7_redo_44 rfl (lv_at hl 3 rfl) ?_
    refine lv_iconst (v := 2) hx hb dX7_redo_45 (by decide) ?_
    refine lv_iload_n hx hb dX7_redo_46 rfl (lv_at hl 1 rfl) ?_
    refine lv_iconst (v := 2) hx hb dX7_redo_47 (by decide) ?_
    refine g_si (va_runV (As := [.int 2, .int (nI (pu_at3 (cur + 1))), .int 2]) (rest := [.int (I 94 ((pu_at3 (cur + 1)) + 2))]) hcx (c_X7_checked l D ad tc I L 2 (pu_at3 (cur + 1)) 2 (by omega)) (cwV 3 hts gX7_redo_X7_checked rfl rfl rfl (by decide +kernel) ⟨Nat.le_of_ble_eq_true rfl, Nat.le_of_ble_eq_true rfl⟩) (g_pV hK hG 92 (by decide) gc_92 rfl) rfl rfl hl.1 rfl (lv_room (Nat.le_of_ble_eq_true rfl)) dX7_redo_48 ⟨Nat.le_refl _, Nat.le_refl _⟩) (fun r_48 hw_48 => ?_)
    subst hw_48
    refine lv_icmp_ne (tgt := 58) hx hb dX7_redo_51 (by decide) (fun c51 => ?_) (fun c51 => ?_)
    · -- 51: jumps
      refine lv_iconst (v := 0) hx hb dX7_redo_58 (by decide) ?_
      exact g_rz hx hb hr hlocks (Or.inl rfl) hG ⟨Or.inr ⟨pu_hd_f (Or.inr (Or.inl c51)), rfl, rfl⟩, rfl⟩ dX7_redo_59
    · -- 51: goes on
      refine lv_iload_n hx hb dX7_redo_54 rfl (lv_at hl 0 rfl) ?_
      refine lv_if_ge (tgt := 60) hx hb dX7_redo_55 (by decide) (fun c55 => ?_) (fun c55 => ?_)
      · -- 55: jumps
        obtain ⟨w, hw2, ew⟩ : ∃ w, w < 2 ^ 31 ∧ I 94 ((pu_at3 (cur + 1)) + 1) = nI w := nI_of (pu_le0 c55)
        rw [ew] at hl
        refine lv_iload_n hx hb dX7_redo_60 rfl (lv_at hl 0 rfl) ?_
        refine lv_sipush (v := 1000) hx hb dX7_redo_61 (by decide) ?_
        refine lv_idiv hx hb dX7_redo_64 (by decide) ?_
        refine g_i (y := nI (w / 1000)) (pk_div (a := w) (d := 1000) hw2 (by decide) (by decide)) ?_
        refine lv_istore (lv' := [(4, .int (nI (w / 1000))), (3, .int (nI w)), (2, .int (nI (pu_at3 (cur + 1)))), (1, .int (nI (cur + 1))), (0, .ref (ad 92))]) hx hb dX7_redo_65 hl (by decide) rfl (fun ls hl => ?_)
        refine lv_iload_n hx hb dX7_redo_67 rfl (lv_at hl 1 rfl) ?_
        refine lv_sipush (v := 1000) hx hb dX7_redo_68 (by decide) ?_
        refine lv_irem hx hb dX7_redo_71 (by decide) ?_
        refine g_i (y := nI (w % 1000)) (pk_rem (a := w) (d := 1000) hw2 (by decide) (by decide)) ?_
        refine lv_bipush (v := 10) hx hb dX7_redo_72 (by decide) ?_
        refine lv_idiv hx hb dX7_redo_74 (by decide) ?_
        refine g_i (y := nI (w % 1000 / 10)) (pk_div (a := w % 1000) (d := 10) (by omega) (by decide) (by decide)) ?_
        refine lv_istore (lv' := [(5, .int (nI (w % 1000 / 10))), (4, .int (nI (w / 1000))), (3, .int (nI w)), (2, .int (nI (pu_at3 (cur + 1)))), (1, .int (nI (cur + 1))), (0, .ref (ad 92))]) hx hb dX7_redo_75 hl (by decide) rfl (fun ls hl => ?_)
        refine lv_iload_n hx hb dX7_redo_77 rfl (lv_at hl 2 rfl) ?_
        refine lv_bipush (v := 10) hx hb dX7_redo_78 (by decide) ?_
        refine lv_irem hx hb dX7_redo_80 (by decide) ?_
        refine g_i (y := nI (w % 10)) (pk_rem (a := w) (d := 10) hw2 (by decide) (by decide)) ?_
        refine lv_istore (lv' := [(6, .int (nI (w % 10))), (5, .int (nI (w % 1000 / 10))), (4, .int (nI (w / 1000))), (3, .int (nI w)), (2, .int (nI (pu_at3 (cur + 1)))), (1, .int (nI (cur + 1))), (0, .ref (ad 92))]) hx hb dX7_redo_81 hl (by decide) rfl (fun ls hl => ?_)
        refine lv_iload hx hb dX7_redo_83 (lv_at hl 2 rfl) ?_
        refine g_si (va_runS (As := [.int (nI (w / 1000))]) (rest := []) hcx (c_X7_noUser l (nI (w / 1000))) (va_cwS 1 hts gX7_redo_X7_noUser rfl rfl rfl (by decide +kernel) ⟨Nat.le_of_ble_eq_true rfl, Nat.le_of_ble_eq_true rfl⟩) (g_p0) rfl rfl hl.1 rfl (lv_room (Nat.le_of_ble_eq_true rfl)) dX7_redo_85 ⟨Nat.le_refl _, Nat.le_refl _⟩) (fun r_85 hw_85 => ?_)
        rcases hw_85 with ⟨hw_85, rfl⟩ | ⟨hw_85, rfl⟩
        · -- 85: yes
          refine lv_if_ne (tgt := 105) hx hb dX7_redo_88 (by decide) (fun _ => ?_) (fun c88 => absurd c88 (by decide))
          refine lv_iconst (v := 0) hx hb dX7_redo_105 (by decide) ?_
          exact g_rz hx hb hr hlocks (Or.inl rfl) hG ⟨Or.inr ⟨pu_hd_f (Or.inr (Or.inr (by rw [ew]; exact pu_bf (pu_nm_n hw2) (fun q => hw_85 (gR_n q.1))))), rfl, rfl⟩, rfl⟩ dX7_redo_106
        · -- 85: no
          refine lv_if_ne (tgt := 105) hx hb dX7_redo_88 (by decide) (fun c88 => absurd (by decide) c88) (fun _ => ?_)
          refine lv_iload hx hb dX7_redo_91 (lv_at hl 1 rfl) ?_
          refine g_si (va_runS (As := [.int (nI (w % 1000 / 10))]) (rest := []) hcx (c_X7_noItem l (nI (w % 1000 / 10))) (va_cwS 1 hts gX7_redo_X7_noItem rfl rfl rfl (by decide +kernel) ⟨Nat.le_of_ble_eq_true rfl, Nat.le_of_ble_eq_true rfl⟩) (g_p0) rfl rfl hl.1 rfl (lv_room (Nat.le_of_ble_eq_true rfl)) dX7_redo_93 ⟨Nat.le_refl _, Nat.le_refl _⟩) (fun r_93 hw_93 => ?_)
          rcases hw_93 with ⟨hw_93, rfl⟩ | ⟨hw_93, rfl⟩
          · -- 93: yes
            refine lv_if_ne (tgt := 105) hx hb dX7_redo_96 (by decide) (fun _ => ?_) (fun c96 => absurd c96 (by decide))
            refine lv_iconst (v := 0) hx hb dX7_redo_105 (by decide) ?_
            exact g_rz hx hb hr hlocks (Or.inl rfl) hG ⟨Or.inr ⟨pu_hd_f (Or.inr (Or.inr (by rw [ew]; exact pu_bf (pu_nm_n hw2) (fun q => hw_93 (gR_n q.2.1))))), rfl, rfl⟩, rfl⟩ dX7_redo_106
          · -- 93: no
            refine lv_if_ne (tgt := 105) hx hb dX7_redo_96 (by decide) (fun c96 => absurd (by decide) c96) (fun _ => ?_)
            refine lv_iload hx hb dX7_redo_99 (lv_at hl 0 rfl) ?_
            refine lv_iconst (v := 5) hx hb dX7_redo_101 (by decide) ?_
            refine lv_icmp_le (tgt := 107) hx hb dX7_redo_102 (by decide) (fun c102 => ?_) (fun c102 => ?_)
            · -- 102: jumps
              have b102 := g_le (a := (w % 10)) (b := 5) c102 (by omega) (by omega)
              have hwu := pu_gRn hw_85 (by omega) (by omega)
              have hwi := pu_gRn hw_93 (by omega) (by omega)
              refine lv_aload_n hx hb dX7_redo_107 rfl (lv_at hl 6 rfl) ?_
              refine g_get (v := .ref (ad 93)) hx hb hts (by decide +kernel) hown hK hG 92 (by decide) gc_92 rfl 0 (by decide) (hts (.fieldLink RX7 7 "NeighbourScoresModel" "rated" "[I") (by decide +kernel)) (fun _ h9 => h9) rfl dX7_redo_108 ?_
              refine lv_bipush (v := 16) hx hb dX7_redo_111 (by decide) ?_
              refine lv_iload hx hb dX7_redo_113 (lv_at hl 2 rfl) ?_
              refine lv_imul hx hb dX7_redo_115 ?_
              refine g_i (y := nI (16 * (w / 1000))) (pk_mul 16 (w / 1000)) ?_
              refine lv_iload hx hb dX7_redo_116 (lv_at hl 1 rfl) ?_
              refine lv_iadd hx hb dX7_redo_118 ?_
              refine g_i (y := nI ((16 * (w / 1000)) + (w % 1000 / 10))) (nI_add (16 * (w / 1000)) (w % 1000 / 10)) ?_
              refine lv_iload hx hb dX7_redo_119 (lv_at hl 0 rfl) ?_
              refine g_iast hx hb hK hG 93 (by decide) (fun _ => gc_93) ((16 * (w / 1000)) + (w % 1000 / 10)) rfl (by omega) (by omega) dX7_redo_121 (fun I_121 H locs hU_121 hG => ?_)
              refine lv_aload_n hx hb dX7_redo_122 rfl (lv_at hl 6 rfl) ?_
              refine lv_iload_n hx hb dX7_redo_123 rfl (lv_at hl 5 rfl) ?_
              refine g_put (ty := .int) hx hb hts (by decide +kernel) tyX7 tyX7_ok nmX7 hown hK hG 92 (by decide) gc_92 rfl 2 (by decide) (hts (.fieldLink RX7 52 "NeighbourScoresModel" "current" "I") (by decide +kernel)) (fun _ h9 => h9) rfl (by decide +kernel) rfl rfl (Nat.le_of_ble_eq_true rfl) (by rw [gc_92]; rfl) dX7_redo_124 (fun I_124 H locs hU_124 hG => ?_)
              refine lv_iconst (v := 1) hx hb dX7_redo_127 (by decide) ?_
              exact g_rz hx hb hr hlocks (Or.inr rfl) hG ⟨Or.inl ⟨pu_hd_t c33 c51 (by rw [ew]; exact (pu_nm_n hw2).mpr ⟨hwu, hwi, b102⟩), rfl, w, hw2, ew, pu_tMset hT hU_121 hU_124 (by decide) hwi, pu_tb_T hTb b102, gU_eq hU_124, fun a h1 h2 => (hU_124.2 a h1).trans (hU_121.2 a h2), fun k hk => by rw [gU_ne hU_124 hk, hU_121.2 92 (by decide)]⟩, rfl⟩ dX7_redo_128
            · -- 102: goes on
              have b102 := g_nle (a := (w % 10)) (b := 5) c102 (by omega) (by omega)
              refine lv_iconst (v := 0) hx hb dX7_redo_105 (by decide) ?_
              exact g_rz hx hb hr hlocks (Or.inl rfl) hG ⟨Or.inr ⟨pu_hd_f (Or.inr (Or.inr (by rw [ew]; exact pu_bf (pu_nm_n hw2) (fun q => by omega)))), rfl, rfl⟩, rfl⟩ dX7_redo_106
      · -- 55: goes on
        refine lv_iconst (v := 0) hx hb dX7_redo_58 (by decide) ?_
        exact g_rz hx hb hr hlocks (Or.inl rfl) hG ⟨Or.inr ⟨pu_hd_f (Or.inr (Or.inr (pu_nm_neg (Int32.not_le.mp c55)))), rfl, rfl⟩, rfl⟩ dX7_redo_59

set_option maxHeartbeats 4000000 in
set_option maxRecDepth 100000 in
theorem c_X7_rate (l : Launch) (D : va_G) (ad : Nat → Nat) (tc : Nat → ClassId) (I : Mi) (L : Ml) (T : Tb) (d : Dk) (cur base : Nat) (hσ : repM I (T, d, cur, base)) (ua ia ra : Int32) (hcb : cur < 2000000000) : Met l yX7_rate wsX7_rate ({ frames := 1, cells := 0, slots := 0, locals := 22 } : Room) (va_Pc [.ref (ad 92), .int ua, .int ia, .int ra] (gPc D ad tc I L)) (gQi D ad tc (fun z I1 L1 => (sp_rate (T, d, cur, base) ua ia ra).1 = z ∧ repM I1 (sp_rate (T, d, cur, base) ua ia ra).2 ∧ ∀ a, a < 92 → I1 a = I a)) 0 0 (gA ad) := by
  refine g_of (by decide) rfl (Nat.le_of_ble_eq_true rfl) ?_
  intro p e s m below meth c hcx hr hlocks hK hG ls hl
  obtain ⟨hx, hb, hml, hown, hts⟩ := id hcx
  have hl : lv_has ls 8 [(0, .ref (ad 92)), (1, .int ua), (2, .int ia), (3, .int ra)] := hl
  have hin : sp_in (T, d, cur, base) := hσ.1
  have hTb : pu_tb T := hin.1
  have hT : tM I T := hσ.2.1
  have hd0 : dark01 I := hσ.2.2.1
  have hd : dkM I = d := hσ.2.2.2.1
  have hcu : I 92 2 = nI cur := hσ.2.2.2.2.1
  have hba : I 92 3 = nI base := hσ.2.2.2.2.2
  have hle1 : base ≤ cur := hin.2.2.1
  have hle2 : cur ≤ base + 40 := hin.2.2.2
  have h3 := pu_at3_lt (cur + 1)
  refine lv_aload_n hx hb dX7_rate_0 rfl (lv_at hl 0 rfl) ?_
  refine g_get (v := .int (I 92 4)) hx hb hts (by decide +kernel) hown hK hG 92 (by decide) gc_92 rfl 4 (by decide) (hts (.fieldLink RX7 41 "NeighbourScoresModel" "dark" "Z") (by decide +kernel)) (fun _ h9 => h9) rfl dX7_rate_1 ?_
  refine lv_if_eq (tgt := 10) hx hb dX7_rate_4 (by decide) (fun c4 => ?_) (fun c4 => ?_)
  · -- 4: jumps
    have hp1 : d.2.1 = 1 := by rw [← hd]; exact dk_on c4
    have hp : ¬ d.2.1 = 0 := by rw [hp1]; decide
    refine lv_iload_n hx hb dX7_rate_10 rfl (lv_at hl 1 rfl) ?_
    refine g_si (va_runS (As := [.int ua]) (rest := []) hcx (c_X7_noUser l ua) (va_cwS 1 hts gX7_rate_X7_noUser rfl rfl rfl (by decide +kernel) ⟨Nat.le_of_ble_eq_true rfl, Nat.le_of_ble_eq_true rfl⟩) (g_p0) rfl rfl hl.1 rfl (lv_room (Nat.le_of_ble_eq_true rfl)) dX7_rate_11 ⟨Nat.le_refl _, Nat.le_refl _⟩) (fun r_11 hw_11 => ?_)
    rcases hw_11 with ⟨hw_11, rfl⟩ | ⟨hw_11, rfl⟩
    · -- 11: yes
      refine lv_if_ne (tgt := 33) hx hb dX7_rate_14 (by decide) (fun _ => ?_) (fun c14 => absurd c14 (by decide))
      refine lv_bipush (v := -2) hx hb dX7_rate_33 (by decide) ?_
      exact g_ri hx hb hr hlocks hG ⟨by rw [sp_rate_bad hp (Or.inl hw_11)], by rw [sp_rate_bad hp (Or.inl hw_11)]; exact hσ, fun _ _ => rfl⟩ dX7_rate_35
    · -- 11: no
      refine lv_if_ne (tgt := 33) hx hb dX7_rate_14 (by decide) (fun c14 => absurd (by decide) c14) (fun _ => ?_)
      refine lv_iload_n hx hb dX7_rate_17 rfl (lv_at hl 2 rfl) ?_
      refine g_si (va_runS (As := [.int ia]) (rest := []) hcx (c_X7_noItem l ia) (va_cwS 1 hts gX7_rate_X7_noItem rfl rfl rfl (by decide +kernel) ⟨Nat.le_of_ble_eq_true rfl, Nat.le_of_ble_eq_true rfl⟩) (g_p0) rfl rfl hl.1 rfl (lv_room (Nat.le_of_ble_eq_true rfl)) dX7_rate_18 ⟨Nat.le_refl _, Nat.le_refl _⟩) (fun r_18 hw_18 => ?_)
      rcases hw_18 with ⟨hw_18, rfl⟩ | ⟨hw_18, rfl⟩
      · -- 18: yes
        refine lv_if_ne (tgt := 33) hx hb dX7_rate_21 (by decide) (fun _ => ?_) (fun c21 => absurd c21 (by decide))
        refine lv_bipush (v := -2) hx hb dX7_rate_33 (by decide) ?_
        exact g_ri hx hb hr hlocks hG ⟨by rw [sp_rate_bad hp (Or.inr (Or.inl hw_18))], by rw [sp_rate_bad hp (Or.inr (Or.inl hw_18))]; exact hσ, fun _ _ => rfl⟩ dX7_rate_35
      · -- 18: no
        refine lv_if_ne (tgt := 33) hx hb dX7_rate_21 (by decide) (fun c21 => absurd (by decide) c21) (fun _ => ?_)
        refine lv_iload_n hx hb dX7_rate_24 rfl (lv_at hl 3 rfl) ?_
        refine lv_if_lt (tgt := 33) hx hb dX7_rate_25 (by decide) (fun c25 => ?_) (fun c25 => ?_)
        · -- 25: jumps
          refine lv_bipush (v := -2) hx hb dX7_rate_33 (by decide) ?_
          exact g_ri hx hb hr hlocks hG ⟨by rw [sp_rate_bad hp (Or.inr (Or.inr (gR_neg (by decide) c25)))], by rw [sp_rate_bad hp (Or.inr (Or.inr (gR_neg (by decide) c25)))]; exact hσ, fun _ _ => rfl⟩ dX7_rate_35
        · -- 25: goes on
          refine lv_iload_n hx hb dX7_rate_28 rfl (lv_at hl 3 rfl) ?_
          refine lv_iconst (v := 5) hx hb dX7_rate_29 (by decide) ?_
          refine lv_icmp_le (tgt := 36) hx hb dX7_rate_30 (by decide) (fun c30 => ?_) (fun c30 => ?_)
          · -- 30: jumps
            obtain ⟨u, hu, rfl⟩ := hw_11
            obtain ⟨i, hi, rfl⟩ := hw_18
            obtain ⟨r, hr6, rfl⟩ := pu_gR11 (n := 5) (by decide) c25 c30
            refine lv_aload_n hx hb dX7_rate_36 rfl (lv_at hl 0 rfl) ?_
            refine g_get (v := .int (I 92 2)) hx hb hts (by decide +kernel) hown hK hG 92 (by decide) gc_92 rfl 2 (by decide) (hts (.fieldLink RX7 52 "NeighbourScoresModel" "current" "I") (by decide +kernel)) (fun _ h9 => h9) rfl dX7_rate_37 ?_
            refine g_i (y := nI cur) hcu ?_
            refine lv_aload_n hx hb dX7_rate_40 rfl (lv_at hl 0 rfl) ?_
            refine g_get (v := .int (I 92 3)) hx hb hts (by decide +kernel) hown hK hG 92 (by decide) gc_92 rfl 3 (by decide) (hts (.fieldLink RX7 55 "NeighbourScoresModel" "base" "I") (by decide +kernel)) (fun _ h9 => h9) rfl dX7_rate_41 ?_
            refine g_i (y := nI base) hba ?_
            refine lv_bipush (v := 40) hx hb dX7_rate_44 (by decide) ?_
            refine lv_iadd hx hb dX7_rate_46 ?_
            refine g_i (y := nI (base + 40)) (nI_add base 40) ?_
            refine lv_icmp_ne (tgt := 53) hx hb dX7_rate_47 (by decide) (fun c47 => ?_) (fun c47 => ?_)
            · -- 47: jumps
              have b47 := g_ne (a := cur) (b := (base + 40)) c47 (by omega) (by omega)
              refine lv_aload_n hx hb dX7_rate_53 rfl (lv_at hl 0 rfl) ?_
              refine g_get (v := .int (I 92 2)) hx hb hts (by decide +kernel) hown hK hG 92 (by decide) gc_92 rfl 2 (by decide) (hts (.fieldLink RX7 52 "NeighbourScoresModel" "current" "I") (by decide +kernel)) (fun _ h9 => h9) rfl dX7_rate_54 ?_
              refine g_i (y := nI cur) hcu ?_
              refine lv_iconst (v := 1) hx hb dX7_rate_57 (by decide) ?_
              refine lv_iadd hx hb dX7_rate_58 ?_
              refine g_i (y := nI (cur + 1)) (nI_add cur 1) ?_
              refine lv_istore (lv' := [(4, .int (nI (cur + 1))), (0, .ref (ad 92)), (1, .int (nI u)), (2, .int (nI i)), (3, .int (nI r))]) hx hb dX7_rate_59 hl (by decide) rfl (fun ls hl => ?_)
              refine lv_bipush (v := 52) hx hb dX7_rate_61 (by decide) ?_
              refine lv_iconst (v := 3) hx hb dX7_rate_63 (by decide) ?_
              refine lv_iload hx hb dX7_rate_64 (lv_at hl 0 rfl) ?_
              refine lv_bipush (v := 40) hx hb dX7_rate_66 (by decide) ?_
              refine lv_irem hx hb dX7_rate_68 (by decide) ?_
              refine g_i (y := nI ((cur + 1) % 40)) (pk_rem (a := cur + 1) (d := 40) (by omega) (by decide) (by decide)) ?_
              refine lv_imul hx hb dX7_rate_69 ?_
              refine g_i (y := nI (3 * ((cur + 1) % 40))) (pk_mul 3 ((cur + 1) % 40)) ?_
              refine lv_iadd hx hb dX7_rate_70 ?_
              refine g_i (y := nI (pu_at3 (cur + 1))) (nI_add 52 (3 * ((cur + 1) % 40))) ?_
              refine lv_istore (lv' := [(5, .int (nI (pu_at3 (cur + 1)))), (4, .int (nI (cur + 1))), (0, .ref (ad 92)), (1, .int (nI u)), (2, .int (nI i)), (3, .int (nI r))]) hx hb dX7_rate_71 hl (by decide) rfl (fun ls hl => ?_)
              refine lv_sipush (v := 1000) hx hb dX7_rate_73 (by decide) ?_
              refine lv_iload_n hx hb dX7_rate_76 rfl (lv_at hl 3 rfl) ?_
              refine lv_imul hx hb dX7_rate_77 ?_
              refine g_i (y := nI (1000 * u)) (pk_mul 1000 u) ?_
              refine lv_bipush (v := 10) hx hb dX7_rate_78 (by decide) ?_
              refine lv_iload_n hx hb dX7_rate_80 rfl (lv_at hl 4 rfl) ?_
              refine lv_imul hx hb dX7_rate_81 ?_
              refine g_i (y := nI (10 * i)) (pk_mul 10 i) ?_
              refine lv_iadd hx hb dX7_rate_82 ?_
              refine g_i (y := nI ((1000 * u) + (10 * i))) (nI_add (1000 * u) (10 * i)) ?_
              refine lv_iload_n hx hb dX7_rate_83 rfl (lv_at hl 5 rfl) ?_
              refine lv_iadd hx hb dX7_rate_84 ?_
              refine g_i (y := nI (((1000 * u) + (10 * i)) + r)) (nI_add ((1000 * u) + (10 * i)) r) ?_
              refine lv_istore (lv' := [(6, .int (nI (((1000 * u) + (10 * i)) + r))), (5, .int (nI (pu_at3 (cur + 1)))), (4, .int (nI (cur + 1))), (0, .ref (ad 92)), (1, .int (nI u)), (2, .int (nI i)), (3, .int (nI r))]) hx hb dX7_rate_85 hl (by decide) rfl (fun ls hl => ?_)
              refine lv_aload_n hx hb dX7_rate_87 rfl (lv_at hl 3 rfl) ?_
              refine lv_iload hx hb dX7_rate_88 (lv_at hl 1 rfl) ?_
              refine lv_iload hx hb dX7_rate_90 (lv_at hl 2 rfl) ?_
              refine g_cv (va_runV (As := [.int (nI (pu_at3 (cur + 1))), .int (nI (cur + 1))]) (rest := []) hcx (c_X7_put l D ad tc I L (pu_at3 (cur + 1)) (by omega) (nI (cur + 1)) hd0) (cwV 2 hts gX7_rate_X7_put rfl rfl rfl (by decide +kernel) ⟨Nat.le_of_ble_eq_true rfl, Nat.le_of_ble_eq_true rfl⟩) (g_pV hK hG 92 (by decide) gc_92 rfl) rfl rfl hl.1 rfl (lv_room (Nat.le_of_ble_eq_true rfl)) dX7_rate_92 ⟨Nat.le_refl _, Nat.le_refl _⟩) hK hG (fun I_92 L_92 H locs hw_92 hG => ?_)
              obtain ⟨p1, d1, f1, g1, k1, rfl⟩ := hw_92
              refine lv_aload_n hx hb dX7_rate_95 rfl (lv_at hl 3 rfl) ?_
              refine lv_iload hx hb dX7_rate_96 (lv_at hl 1 rfl) ?_
              refine lv_iconst (v := 1) hx hb dX7_rate_98 (by decide) ?_
              refine lv_iadd hx hb dX7_rate_99 ?_
              refine g_i (y := nI ((pu_at3 (cur + 1)) + 1)) (nI_add (pu_at3 (cur + 1)) 1) ?_
              refine lv_iload hx hb dX7_rate_100 (lv_at hl 0 rfl) ?_
              refine g_cv (va_runV (As := [.int (nI ((pu_at3 (cur + 1)) + 1)), .int (nI (((1000 * u) + (10 * i)) + r))]) (rest := []) hcx (c_X7_put l D ad tc I_92 L ((pu_at3 (cur + 1)) + 1) (by omega) (nI (((1000 * u) + (10 * i)) + r)) d1) (cwV 2 hts gX7_rate_X7_put rfl rfl rfl (by decide +kernel) ⟨Nat.le_of_ble_eq_true rfl, Nat.le_of_ble_eq_true rfl⟩) (g_pV hK hG 92 (by decide) gc_92 rfl) rfl rfl hl.1 rfl (lv_room (Nat.le_of_ble_eq_true rfl)) dX7_rate_102 ⟨Nat.le_refl _, Nat.le_refl _⟩) hK hG (fun I_102 L_102 H locs hw_102 hG => ?_)
              obtain ⟨p2, d2, f2, g2, k2, rfl⟩ := hw_102
              refine lv_aload_n hx hb dX7_rate_105 rfl (lv_at hl 3 rfl) ?_
              refine lv_iload hx hb dX7_rate_106 (lv_at hl 1 rfl) ?_
              refine lv_iconst (v := 2) hx hb dX7_rate_108 (by decide) ?_
              refine lv_iadd hx hb dX7_rate_109 ?_
              refine g_i (y := nI ((pu_at3 (cur + 1)) + 2)) (nI_add (pu_at3 (cur + 1)) 2) ?_
              refine lv_iconst (v := 2) hx hb dX7_rate_110 (by decide) ?_
              refine lv_iload hx hb dX7_rate_111 (lv_at hl 2 rfl) ?_
              refine g_si (va_runS (As := [.int 2, .int (nI (cur + 1))]) (rest := [.int (nI ((pu_at3 (cur + 1)) + 2)), .ref (ad 92)]) hcx (c_X7_mix l 2 (nI (cur + 1))) (va_cwS 2 hts gX7_rate_X7_mix rfl rfl rfl (by decide +kernel) ⟨Nat.le_of_ble_eq_true rfl, Nat.le_of_ble_eq_true rfl⟩) (g_p0) rfl rfl hl.1 rfl (lv_room (Nat.le_of_ble_eq_true rfl)) dX7_rate_113 ⟨Nat.le_refl _, Nat.le_refl _⟩) (fun r_113 hw_113 => ?_)
              subst hw_113
              refine lv_iload hx hb dX7_rate_116 (lv_at hl 0 rfl) ?_
              refine g_si (va_runS (As := [.int (pu_mix 2 (nI (cur + 1))), .int (nI (((1000 * u) + (10 * i)) + r))]) (rest := [.int (nI ((pu_at3 (cur + 1)) + 2)), .ref (ad 92)]) hcx (c_X7_mix l (pu_mix 2 (nI (cur + 1))) (nI (((1000 * u) + (10 * i)) + r))) (va_cwS 2 hts gX7_rate_X7_mix rfl rfl rfl (by decide +kernel) ⟨Nat.le_of_ble_eq_true rfl, Nat.le_of_ble_eq_true rfl⟩) (g_p0) rfl rfl hl.1 rfl (lv_room (Nat.le_of_ble_eq_true rfl)) dX7_rate_118 ⟨Nat.le_refl _, Nat.le_refl _⟩) (fun r_118 hw_118 => ?_)
              subst hw_118
              refine lv_iconst (v := 1) hx hb dX7_rate_121 (by decide) ?_
              refine lv_ior hx hb dX7_rate_122 ?_
              refine g_cv (va_runV (As := [.int (nI ((pu_at3 (cur + 1)) + 2)), .int ((pu_mix (pu_mix 2 (nI (cur + 1))) (nI (((1000 * u) + (10 * i)) + r))) ||| 1)]) (rest := []) hcx (c_X7_put l D ad tc I_102 L ((pu_at3 (cur + 1)) + 2) (by omega) ((pu_mix (pu_mix 2 (nI (cur + 1))) (nI (((1000 * u) + (10 * i)) + r))) ||| 1) d2) (cwV 2 hts gX7_rate_X7_put rfl rfl rfl (by decide +kernel) ⟨Nat.le_of_ble_eq_true rfl, Nat.le_of_ble_eq_true rfl⟩) (g_pV hK hG 92 (by decide) gc_92 rfl) rfl rfl hl.1 rfl (lv_room (Nat.le_of_ble_eq_true rfl)) dX7_rate_123 ⟨Nat.le_refl _, Nat.le_refl _⟩) hK hG (fun I_123 L_123 H locs hw_123 hG => ?_)
              obtain ⟨p3, d3, f3, g3, k3, rfl⟩ := hw_123
              have hd3 : pu_puts d (pu_at3 (cur + 1)) (pu_rec (cur + 1) (1000 * u + 10 * i + r)) 3 = dkM I_123 := by rw [← p3, ← p2, ← p1, hd]; rfl
              have hE := sp_rate_go (T := T) (base := base) hp hu hi hr6 b47 hd3
              have hT3 : tM I_123 T := tM_mem hT (by rw [f3 93 (by decide) (by decide), f2 93 (by decide) (by decide), f1 93 (by decide) (by decide)])
              have hcu3 : I_123 92 2 = nI cur := by rw [g3, g2, g1]; exact hcu
              have hba3 : I_123 92 3 = nI base := by rw [k3, k2, k1]; exact hba
              have hfr : ∀ a, a < 92 → I_123 a = I a := fun a ha => by rw [f3 a (by omega) (by omega), f2 a (by omega) (by omega), f1 a (by omega) (by omega)]
              refine lv_aload_n hx hb dX7_rate_126 rfl (lv_at hl 3 rfl) ?_
              refine g_get (v := .int (I_123 92 4)) hx hb hts (by decide +kernel) hown hK hG 92 (by decide) gc_92 rfl 4 (by decide) (hts (.fieldLink RX7 41 "NeighbourScoresModel" "dark" "Z") (by decide +kernel)) (fun _ h9 => h9) rfl dX7_rate_127 ?_
              refine lv_if_eq (tgt := 136) hx hb dX7_rate_130 (by decide) (fun c130 => ?_) (fun c130 => ?_)
              · -- 130: jumps
                rw [if_neg (by rw [dk_on c130]; decide)] at hE
                refine lv_aload_n hx hb dX7_rate_136 rfl (lv_at hl 3 rfl) ?_
                refine g_get (v := .ref (ad 93)) hx hb hts (by decide +kernel) hown hK hG 92 (by decide) gc_92 rfl 0 (by decide) (hts (.fieldLink RX7 7 "NeighbourScoresModel" "rated" "[I") (by decide +kernel)) (fun _ h9 => h9) rfl dX7_rate_137 ?_
                refine lv_bipush (v := 16) hx hb dX7_rate_140 (by decide) ?_
                refine lv_iload_n hx hb dX7_rate_142 rfl (lv_at hl 4 rfl) ?_
                refine lv_imul hx hb dX7_rate_143 ?_
                refine g_i (y := nI (16 * u)) (pk_mul 16 u) ?_
                refine lv_iload_n hx hb dX7_rate_144 rfl (lv_at hl 5 rfl) ?_
                refine lv_iadd hx hb dX7_rate_145 ?_
                refine g_i (y := nI ((16 * u) + i)) (nI_add (16 * u) i) ?_
                refine g_iald hx hb hK hG 93 (by decide) gc_93 ((16 * u) + i) rfl (by omega) (by omega) dX7_rate_146 ?_
                refine g_i (y := nI (T u i)) (hT3 u i hu hi) ?_
                refine lv_istore (lv' := [(7, .int (nI (T u i))), (6, .int (nI (((1000 * u) + (10 * i)) + r))), (5, .int (nI (pu_at3 (cur + 1)))), (4, .int (nI (cur + 1))), (0, .ref (ad 92)), (1, .int (nI u)), (2, .int (nI i)), (3, .int (nI r))]) hx hb dX7_rate_147 hl (by decide) rfl (fun ls hl => ?_)
                refine lv_aload_n hx hb dX7_rate_149 rfl (lv_at hl 4 rfl) ?_
                refine g_get (v := .ref (ad 93)) hx hb hts (by decide +kernel) hown hK hG 92 (by decide) gc_92 rfl 0 (by decide) (hts (.fieldLink RX7 7 "NeighbourScoresModel" "rated" "[I") (by decide +kernel)) (fun _ h9 => h9) rfl dX7_rate_150 ?_
                refine lv_bipush (v := 16) hx hb dX7_rate_153 (by decide) ?_
                refine lv_iload_n hx hb dX7_rate_155 rfl (lv_at hl 5 rfl) ?_
                refine lv_imul hx hb dX7_rate_156 ?_
                refine g_i (y := nI (16 * u)) (pk_mul 16 u) ?_
                refine lv_iload_n hx hb dX7_rate_157 rfl (lv_at hl 6 rfl) ?_
                refine lv_iadd hx hb dX7_rate_158 ?_
                refine g_i (y := nI ((16 * u) + i)) (nI_add (16 * u) i) ?_
                refine lv_iload_n hx hb dX7_rate_159 rfl (lv_at hl 7 rfl) ?_
                refine g_iast hx hb hK hG 93 (by decide) (fun _ => gc_93) ((16 * u) + i) rfl (by omega) (by omega) dX7_rate_160 (fun I_160 H locs hU_160 hG => ?_)
                refine lv_aload_n hx hb dX7_rate_161 rfl (lv_at hl 4 rfl) ?_
                refine lv_iload hx hb dX7_rate_162 (lv_at hl 3 rfl) ?_
                refine g_put (ty := .int) hx hb hts (by decide +kernel) tyX7 tyX7_ok nmX7 hown hK hG 92 (by decide) gc_92 rfl 2 (by decide) (hts (.fieldLink RX7 52 "NeighbourScoresModel" "current" "I") (by decide +kernel)) (fun _ h9 => h9) rfl (by decide +kernel) rfl rfl (Nat.le_of_ble_eq_true rfl) (by rw [gc_92]; rfl) dX7_rate_164 (fun I_164 H locs hU_164 hG => ?_)
                refine lv_iload hx hb dX7_rate_167 (lv_at hl 0 rfl) ?_
                exact g_ri hx hb hr hlocks hG ⟨by rw [hE], by rw [hE]; exact ⟨⟨pu_tb_T hTb (by omega), Or.inr (dk_on c130), by show base ≤ cur + 1; omega, by show cur + 1 ≤ base + 40; omega⟩, pu_tMset hT3 hU_160 hU_164 (by decide) hi, by unfold dark01; rw [gU_ne hU_164 (by decide), hU_160.2 92 (by decide)]; exact Or.inl c130, by unfold dkM; rw [gU_ne hU_164 (by decide), gU_ne hU_164 (by decide), hU_160.2 92 (by decide), hU_164.2 94 (by decide), hU_160.2 94 (by decide)], gU_eq hU_164, by rw [gU_ne hU_164 (by decide), hU_160.2 92 (by decide)]; exact hba3⟩, fun a ha => by rw [hU_164.2 a (by omega), hU_160.2 a (by omega)]; exact hfr a ha⟩ dX7_rate_169
              · -- 130: goes on
                rw [if_pos (dk_off (pu_d1 d3 c130))] at hE
                refine lv_bipush (v := -3) hx hb dX7_rate_133 (by decide) ?_
                exact g_ri hx hb hr hlocks hG ⟨by rw [hE], by rw [hE]; exact ⟨⟨hTb, Or.inl (dk_off (pu_d1 d3 c130)), hle1, hle2⟩, hT3, d3, rfl, hcu3, hba3⟩, hfr⟩ dX7_rate_135
            · -- 47: goes on
              have b47 := g_eq (a := cur) (b := (base + 40)) c47 (by omega) (by omega)
              refine lv_bipush (v := -4) hx hb dX7_rate_50 (by decide) ?_
              exact g_ri hx hb hr hlocks hG ⟨by rw [sp_rate_full hp hu hi hr6 b47], by rw [sp_rate_full hp hu hi hr6 b47]; exact hσ, fun _ _ => rfl⟩ dX7_rate_52
          · -- 30: goes on
            refine lv_bipush (v := -2) hx hb dX7_rate_33 (by decide) ?_
            exact g_ri hx hb hr hlocks hG ⟨by rw [sp_rate_bad hp (Or.inr (Or.inr (pu_gR12 (n := 5) (by decide) c30)))], by rw [sp_rate_bad hp (Or.inr (Or.inr (pu_gR12 (n := 5) (by decide) c30)))]; exact hσ, fun _ _ => rfl⟩ dX7_rate_35
  · -- 4: goes on
    have hp0 : d.2.1 = 0 := by rw [← hd]; exact dk_off (pu_d1 hd0 c4)
    refine lv_bipush (v := -3) hx hb dX7_rate_7 (by decide) ?_
    exact g_ri hx hb hr hlocks hG ⟨by rw [sp_rate_off hp0], by rw [sp_rate_off hp0]; exact hσ, fun _ _ => rfl⟩ dX7_rate_9

set_option maxHeartbeats 4000000 in
set_option maxRecDepth 100000 in
theorem c_X7_power (l : Launch) (D : va_G) (ad : Nat → Nat) (tc : Nat → ClassId) (I : Mi) (L : Ml) (T : Tb) (d : Dk) (cur base : Nat) (hσ : repM I (T, d, cur, base)) (k : Int32) : Met l yX7_power wsX7_power ({ frames := 0, cells := 0, slots := 0, locals := 0 } : Room) (va_Pc [.ref (ad 92), .int k] (gPc D ad tc I L)) (gQi D ad tc (fun z I1 L1 => (sp_power (T, d, cur, base) k).1 = z ∧ repM I1 (sp_power (T, d, cur, base) k).2 ∧ ∀ a, a < 92 → I1 a = I a)) 0 0 (gA ad) := by
  refine g_of (by decide) rfl (Nat.le_of_ble_eq_true rfl) ?_
  intro p e s m below meth c hcx hr hlocks hK hG ls hl
  obtain ⟨hx, hb, hml, hown, hts⟩ := id hcx
  have hl : lv_has ls 2 [(0, .ref (ad 92)), (1, .int k)] := hl
  have hin : sp_in (T, d, cur, base) := hσ.1
  have hTb : pu_tb T := hin.1
  have hT : tM I T := hσ.2.1
  have hd0 : dark01 I := hσ.2.2.1
  have hd : dkM I = d := hσ.2.2.2.1
  have hcu : I 92 2 = nI cur := hσ.2.2.2.2.1
  have hba : I 92 3 = nI base := hσ.2.2.2.2.2
  have hle1 : base ≤ cur := hin.2.2.1
  have hle2 : cur ≤ base + 40 := hin.2.2.2
  refine lv_iload_n hx hb dX7_power_0 rfl (lv_at hl 1 rfl) ?_
  refine lv_iconst (v := -1) hx hb dX7_power_1 (by decide) ?_
  refine lv_icmp_lt (tgt := 11) hx hb dX7_power_2 (by decide) (fun c2 => ?_) (fun c2 => ?_)
  · -- 2: jumps
    refine lv_iconst (v := 0) hx hb dX7_power_11 (by decide) ?_
    exact g_rz hx hb hr hlocks (Or.inl rfl) hG ⟨by rw [sp_power_f (Or.inl c2)], by rw [sp_power_f (Or.inl c2)]; exact hσ, fun _ _ => rfl⟩ dX7_power_12
  · -- 2: goes on
    refine lv_iload_n hx hb dX7_power_5 rfl (lv_at hl 1 rfl) ?_
    refine lv_bipush (v := 100) hx hb dX7_power_6 (by decide) ?_
    refine lv_icmp_le (tgt := 13) hx hb dX7_power_8 (by decide) (fun c8 => ?_) (fun c8 => ?_)
    · -- 8: jumps
      refine lv_aload_n hx hb dX7_power_13 rfl (lv_at hl 0 rfl) ?_
      refine lv_iload_n hx hb dX7_power_14 rfl (lv_at hl 1 rfl) ?_
      refine g_put (ty := .int) hx hb hts (by decide +kernel) tyX7 tyX7_ok nmX7 hown hK hG 92 (by decide) gc_92 rfl 5 (by decide) (hts (.fieldLink RX7 16 "NeighbourScoresModel" "left" "I") (by decide +kernel)) (fun _ h9 => h9) rfl (by decide +kernel) rfl rfl (Nat.le_of_ble_eq_true rfl) (by rw [gc_92]; rfl) dX7_power_15 (fun I_15 H locs hU_15 hG => ?_)
      refine lv_iconst (v := 1) hx hb dX7_power_18 (by decide) ?_
      exact g_rz hx hb hr hlocks (Or.inr rfl) hG ⟨by rw [sp_power_t c2 (pu_le c8)], by rw [sp_power_t c2 (pu_le c8)]; exact ⟨hin, tM_mem hT (hU_15.2 93 (by decide)), by unfold dark01; rw [gU_ne hU_15 (by decide)]; exact hd0, dkM_left hd hU_15, by rw [gU_ne hU_15 (by decide)]; exact hcu, by rw [gU_ne hU_15 (by decide)]; exact hba⟩, fun a ha => hU_15.2 a (by omega)⟩ dX7_power_19
    · -- 8: goes on
      refine lv_iconst (v := 0) hx hb dX7_power_11 (by decide) ?_
      exact g_rz hx hb hr hlocks (Or.inl rfl) hG ⟨by rw [sp_power_f (Or.inr (pu_nle c8))], by rw [sp_power_f (Or.inr (pu_nle c8))]; exact hσ, fun _ _ => rfl⟩ dX7_power_12

set_option maxHeartbeats 4000000 in
set_option maxRecDepth 100000 in
theorem c_X7_isOn (l : Launch) (D : va_G) (ad : Nat → Nat) (tc : Nat → ClassId) (I : Mi) (L : Ml) (T : Tb) (d : Dk) (cur base : Nat) (hσ : repM I (T, d, cur, base))  : Met l yX7_isOn wsX7_isOn ({ frames := 0, cells := 0, slots := 0, locals := 0 } : Room) (va_Pc [.ref (ad 92)] (gPc D ad tc I L)) (vp_Si (fun r => sp_isOn (T, d, cur, base) = r)) 0 0 gN := by
  refine g_of (by decide) rfl (Nat.le_of_ble_eq_true rfl) ?_
  intro p e s m below meth c hcx hr hlocks hK hG ls hl
  obtain ⟨hx, hb, hml, hown, hts⟩ := id hcx
  have hl : lv_has ls 1 [(0, .ref (ad 92))] := hl
  have hin : sp_in (T, d, cur, base) := hσ.1
  have hTb : pu_tb T := hin.1
  have hT : tM I T := hσ.2.1
  have hd0 : dark01 I := hσ.2.2.1
  have hd : dkM I = d := hσ.2.2.2.1
  have hcu : I 92 2 = nI cur := hσ.2.2.2.2.1
  have hba : I 92 3 = nI base := hσ.2.2.2.2.2
  have hle1 : base ≤ cur := hin.2.2.1
  have hle2 : cur ≤ base + 40 := hin.2.2.2
  refine lv_aload_n hx hb dX7_isOn_0 rfl (lv_at hl 0 rfl) ?_
  refine g_get (v := .int (I 92 4)) hx hb hts (by decide +kernel) hown hK hG 92 (by decide) gc_92 rfl 4 (by decide) (hts (.fieldLink RX7 41 "NeighbourScoresModel" "dark" "Z") (by decide +kernel)) (fun _ h9 => h9) rfl dX7_isOn_1 ?_
  refine lv_if_ne (tgt := 11) hx hb dX7_isOn_4 (by decide) (fun c4 => ?_) (fun c4 => ?_)
  · -- 4: jumps
    refine lv_iconst (v := 0) hx hb dX7_isOn_11 (by decide) ?_
    exact g_rzS hx hb hr hlocks (Or.inl rfl) (show sp_isOn (T, d, cur, base) = 0 from by show d.2.1 = 0; rw [← hd]; exact dk_off (pu_d1 hd0 c4)) dX7_isOn_12
  · -- 4: goes on
    refine lv_iconst (v := 1) hx hb dX7_isOn_7 (by decide) ?_
    refine lv_goto (tgt := 12) hx hb dX7_isOn_8 (by decide) ?_
    exact g_rzS hx hb hr hlocks (Or.inr rfl) (show sp_isOn (T, d, cur, base) = 1 from by show d.2.1 = 1; rw [← hd]; exact dk_on c4) dX7_isOn_12

set_option maxHeartbeats 4000000 in
set_option maxRecDepth 100000 in
theorem c_X7_word (l : Launch) (D : va_G) (ad : Nat → Nat) (tc : Nat → ClassId) (I : Mi) (L : Ml) (T : Tb) (d : Dk) (cur base : Nat) (hσ : repM I (T, d, cur, base)) (a : Int32) : Met l yX7_word wsX7_word ({ frames := 0, cells := 0, slots := 0, locals := 0 } : Room) (va_Pc [.ref (ad 92), .int a] (gPc D ad tc I L)) (vp_Si (fun r => sp_word (T, d, cur, base) a = r)) 0 0 gN := by
  refine g_of (by decide) rfl (Nat.le_of_ble_eq_true rfl) ?_
  intro p e s m below meth c hcx hr hlocks hK hG ls hl
  obtain ⟨hx, hb, hml, hown, hts⟩ := id hcx
  have hl : lv_has ls 2 [(0, .ref (ad 92)), (1, .int a)] := hl
  have hin : sp_in (T, d, cur, base) := hσ.1
  have hTb : pu_tb T := hin.1
  have hT : tM I T := hσ.2.1
  have hd0 : dark01 I := hσ.2.2.1
  have hd : dkM I = d := hσ.2.2.2.1
  have hcu : I 92 2 = nI cur := hσ.2.2.2.2.1
  have hba : I 92 3 = nI base := hσ.2.2.2.2.2
  have hle1 : base ≤ cur := hin.2.2.1
  have hle2 : cur ≤ base + 40 := hin.2.2.2
  refine lv_iload_n hx hb dX7_word_0 rfl (lv_at hl 1 rfl) ?_
  refine lv_if_lt (tgt := 11) hx hb dX7_word_1 (by decide) (fun c1 => ?_) (fun c1 => ?_)
  · -- 1: jumps
    refine lv_iconst (v := 0) hx hb dX7_word_11 (by decide) ?_
    refine lv_goto (tgt := 21) hx hb dX7_word_12 (by decide) ?_
    exact g_riS hx hb hr hlocks (show pu_at d.1 _ = _ from by rw [← hd]; exact pu_at_out (gR_neg (by decide) c1)) dX7_word_21
  · -- 1: goes on
    refine lv_iload_n hx hb dX7_word_4 rfl (lv_at hl 1 rfl) ?_
    refine lv_sipush (v := 171) hx hb dX7_word_5 (by decide) ?_
    refine lv_icmp_le (tgt := 15) hx hb dX7_word_8 (by decide) (fun c8 => ?_) (fun c8 => ?_)
    · -- 8: jumps
      obtain ⟨j, hj, rfl⟩ := pu_gR11 (n := 171) (by decide) c1 c8
      refine lv_aload_n hx hb dX7_word_15 rfl (lv_at hl 0 rfl) ?_
      refine g_get (v := .ref (ad 94)) hx hb hts (by decide +kernel) hown hK hG 92 (by decide) gc_92 rfl 1 (by decide) (hts (.fieldLink RX7 13 "NeighbourScoresModel" "disk" "[I") (by decide +kernel)) (fun _ h9 => h9) rfl dX7_word_16 ?_
      refine lv_iload_n hx hb dX7_word_19 rfl (lv_at hl 1 rfl) ?_
      refine g_iald hx hb hK hG 94 (by decide) gc_94 j rfl (by omega) (by omega) dX7_word_20 ?_
      exact g_riS hx hb hr hlocks (show pu_at d.1 _ = _ from by rw [← hd]; exact pu_at_in hj) dX7_word_21
    · -- 8: goes on
      refine lv_iconst (v := 0) hx hb dX7_word_11 (by decide) ?_
      refine lv_goto (tgt := 21) hx hb dX7_word_12 (by decide) ?_
      exact g_riS hx hb hr hlocks (show pu_at d.1 _ = _ from by rw [← hd]; exact pu_at_out (pu_gR12 (n := 171) (by decide) c8)) dX7_word_21

set_option maxHeartbeats 4000000 in
set_option maxRecDepth 100000 in
theorem c_X7_spoil (l : Launch) (D : va_G) (ad : Nat → Nat) (tc : Nat → ClassId) (I : Mi) (L : Ml) (T : Tb) (d : Dk) (cur base : Nat) (hσ : repM I (T, d, cur, base)) (a x : Int32) : Met l yX7_spoil wsX7_spoil ({ frames := 0, cells := 0, slots := 0, locals := 0 } : Room) (va_Pc [.ref (ad 92), .int a, .int x] (gPc D ad tc I L)) (gQi D ad tc (fun z I1 L1 => (sp_spoil (T, d, cur, base) a x).1 = z ∧ repM I1 (sp_spoil (T, d, cur, base) a x).2 ∧ ∀ a, a < 92 → I1 a = I a)) 0 0 (gA ad) := by
  refine g_of (by decide) rfl (Nat.le_of_ble_eq_true rfl) ?_
  intro p e s m below meth c hcx hr hlocks hK hG ls hl
  obtain ⟨hx, hb, hml, hown, hts⟩ := id hcx
  have hl : lv_has ls 3 [(0, .ref (ad 92)), (1, .int a), (2, .int x)] := hl
  have hin : sp_in (T, d, cur, base) := hσ.1
  have hTb : pu_tb T := hin.1
  have hT : tM I T := hσ.2.1
  have hd0 : dark01 I := hσ.2.2.1
  have hd : dkM I = d := hσ.2.2.2.1
  have hcu : I 92 2 = nI cur := hσ.2.2.2.2.1
  have hba : I 92 3 = nI base := hσ.2.2.2.2.2
  have hle1 : base ≤ cur := hin.2.2.1
  have hle2 : cur ≤ base + 40 := hin.2.2.2
  refine lv_iload_n hx hb dX7_spoil_0 rfl (lv_at hl 1 rfl) ?_
  refine lv_if_lt (tgt := 11) hx hb dX7_spoil_1 (by decide) (fun c1 => ?_) (fun c1 => ?_)
  · -- 1: jumps
    refine lv_iconst (v := 0) hx hb dX7_spoil_11 (by decide) ?_
    exact g_rz hx hb hr hlocks (Or.inl rfl) hG ⟨by rw [sp_spoil_f (gR_neg (by decide) c1)], by rw [sp_spoil_f (gR_neg (by decide) c1)]; exact hσ, fun _ _ => rfl⟩ dX7_spoil_12
  · -- 1: goes on
    refine lv_iload_n hx hb dX7_spoil_4 rfl (lv_at hl 1 rfl) ?_
    refine lv_sipush (v := 171) hx hb dX7_spoil_5 (by decide) ?_
    refine lv_icmp_le (tgt := 13) hx hb dX7_spoil_8 (by decide) (fun c8 => ?_) (fun c8 => ?_)
    · -- 8: jumps
      obtain ⟨j, hj, rfl⟩ := pu_gR11 (n := 171) (by decide) c1 c8
      refine lv_aload_n hx hb dX7_spoil_13 rfl (lv_at hl 0 rfl) ?_
      refine g_get (v := .ref (ad 94)) hx hb hts (by decide +kernel) hown hK hG 92 (by decide) gc_92 rfl 1 (by decide) (hts (.fieldLink RX7 13 "NeighbourScoresModel" "disk" "[I") (by decide +kernel)) (fun _ h9 => h9) rfl dX7_spoil_14 ?_
      refine lv_iload_n hx hb dX7_spoil_17 rfl (lv_at hl 1 rfl) ?_
      refine lv_iload_n hx hb dX7_spoil_18 rfl (lv_at hl 2 rfl) ?_
      refine g_iast hx hb hK hG 94 (by decide) (fun _ => gc_94) j rfl (by omega) (by omega) dX7_spoil_19 (fun I_19 H locs hU_19 hG => ?_)
      refine lv_iconst (v := 1) hx hb dX7_spoil_20 (by decide) ?_
      exact g_rz hx hb hr hlocks (Or.inr rfl) hG ⟨by rw [sp_spoil_t hj], by rw [sp_spoil_t hj]; exact ⟨hin, tM_mem hT (hU_19.2 93 (by decide)), by unfold dark01; rw [hU_19.2 92 (by decide)]; exact hd0, dkM_word hd hU_19, by rw [hU_19.2 92 (by decide)]; exact hcu, by rw [hU_19.2 92 (by decide)]; exact hba⟩, fun a ha => hU_19.2 a (by omega)⟩ dX7_spoil_21
    · -- 8: goes on
      refine lv_iconst (v := 0) hx hb dX7_spoil_11 (by decide) ?_
      exact g_rz hx hb hr hlocks (Or.inl rfl) hG ⟨by rw [sp_spoil_f (pu_gR12 (n := 171) (by decide) c8)], by rw [sp_spoil_f (pu_gR12 (n := 171) (by decide) c8)]; exact hσ, fun _ _ => rfl⟩ dX7_spoil_12

set_option maxHeartbeats 4000000 in
set_option maxRecDepth 100000 in
theorem c_X7_snapshot (l : Launch) (D : va_G) (ad : Nat → Nat) (tc : Nat → ClassId) (I : Mi) (L : Ml) (T : Tb) (d : Dk) (cur base : Nat) (hσ : repM I (T, d, cur, base))  : Met l yX7_snapshot wsX7_snapshot ({ frames := 3, cells := 0, slots := 0, locals := 68 } : Room) (va_Pc [.ref (ad 92)] (gPc D ad tc I L)) (gQi D ad tc (fun z I1 L1 => (sp_snapshot (T, d, cur, base)).1 = z ∧ repM I1 (sp_snapshot (T, d, cur, base)).2 ∧ ∀ a, a < 92 → I1 a = I a)) 0 0 (gA ad) := by
  refine g_of (by decide) rfl (Nat.le_of_ble_eq_true rfl) ?_
  intro p e s m below meth c hcx hr hlocks hK hG ls hl
  obtain ⟨hx, hb, hml, hown, hts⟩ := id hcx
  have hl : lv_has ls 8 [(0, .ref (ad 92))] := hl
  have hin : sp_in (T, d, cur, base) := hσ.1
  have hTb : pu_tb T := hin.1
  have hT : tM I T := hσ.2.1
  have hd0 : dark01 I := hσ.2.2.1
  have hd : dkM I = d := hσ.2.2.2.1
  have hcu : I 92 2 = nI cur := hσ.2.2.2.2.1
  have hba : I 92 3 = nI base := hσ.2.2.2.2.2
  have hle1 : base ≤ cur := hin.2.2.1
  have hle2 : cur ≤ base + 40 := hin.2.2.2
  refine lv_aload_n hx hb dX7_snapshot_0 rfl (lv_at hl 0 rfl) ?_
  refine g_get (v := .int (I 92 4)) hx hb hts (by decide +kernel) hown hK hG 92 (by decide) gc_92 rfl 4 (by decide) (hts (.fieldLink RX7 41 "NeighbourScoresModel" "dark" "Z") (by decide +kernel)) (fun _ h9 => h9) rfl dX7_snapshot_1 ?_
  refine lv_if_eq (tgt := 10) hx hb dX7_snapshot_4 (by decide) (fun c4 => ?_) (fun c4 => ?_)
  · -- 4: jumps
    have hp1 : d.2.1 = 1 := by rw [← hd]; exact dk_on c4
    have hp : ¬ d.2.1 = 0 := by rw [hp1]; decide
    refine lv_aload_n hx hb dX7_snapshot_10 rfl (lv_at hl 0 rfl) ?_
    have jn54 : ∀ (w : Nat), (w < 2) → (pu_wo (I 94) = w) → ∀ ls : Array Slot, lv_has ls 8 [(0, .ref (ad 92)), (3, .int (nI (26 * w)))] → W p l e (headSpec wsX7_snapshot ({ frames := 3, cells := 0, slots := 0, locals := 68 } : Room)).room s m ([.ref (ad 92)] : List Value).toArray below meth c s.heap [] 0 0 (MQ below (gQi D ad tc (fun z I1 L1 => (sp_snapshot (T, d, cur, base)).1 = z ∧ repM I1 (sp_snapshot (T, d, cur, base)).2 ∧ ∀ a, a < 92 → I1 a = I a)) ([.ref (ad 92)] : List Value).toArray s 0 0 (gA ad)) (F0 m 54 ls []) := by
      intro w hw2 hwo ls hl
      refine lv_iconst (v := 1) hx hb dX7_snapshot_54 (by decide) ?_
      refine lv_aload_n hx hb dX7_snapshot_55 rfl (lv_at hl 0 rfl) ?_
      refine g_get (v := .int (I 92 2)) hx hb hts (by decide +kernel) hown hK hG 92 (by decide) gc_92 rfl 2 (by decide) (hts (.fieldLink RX7 52 "NeighbourScoresModel" "current" "I") (by decide +kernel)) (fun _ h9 => h9) rfl dX7_snapshot_56 ?_
      refine g_i (y := nI cur) hcu ?_
      refine g_si (va_runS (As := [.int 1, .int (nI cur)]) (rest := []) hcx (c_X7_mix l 1 (nI cur)) (va_cwS 2 hts gX7_snapshot_X7_mix rfl rfl rfl (by decide +kernel) ⟨Nat.le_of_ble_eq_true rfl, Nat.le_of_ble_eq_true rfl⟩) (g_p0) rfl rfl hl.1 rfl (lv_room (Nat.le_of_ble_eq_true rfl)) dX7_snapshot_59 ⟨Nat.le_refl _, Nat.le_refl _⟩) (fun r_59 hw_59 => ?_)
      subst hw_59
      refine g_i (y := pu_chk (pu_row0 (nI cur) T) 1 (1)) rfl ?_
      refine lv_istore (lv' := [(4, .int (pu_chk (pu_row0 (nI cur) T) 1 (1))), (0, .ref (ad 92)), (3, .int (nI (26 * w)))]) hx hb dX7_snapshot_62 hl (by decide) rfl (fun ls hl => ?_)
      refine lv_aload_n hx hb dX7_snapshot_64 rfl (lv_at hl 1 rfl) ?_
      refine lv_iload_n hx hb dX7_snapshot_65 rfl (lv_at hl 2 rfl) ?_
      refine lv_aload_n hx hb dX7_snapshot_66 rfl (lv_at hl 1 rfl) ?_
      refine g_get (v := .int (I 92 2)) hx hb hts (by decide +kernel) hown hK hG 92 (by decide) gc_92 rfl 2 (by decide) (hts (.fieldLink RX7 52 "NeighbourScoresModel" "current" "I") (by decide +kernel)) (fun _ h9 => h9) rfl dX7_snapshot_67 ?_
      refine g_i (y := nI cur) hcu ?_
      refine g_cv (va_runV (As := [.int (nI (26 * w)), .int (nI cur)]) (rest := []) hcx (c_X7_put l D ad tc I L (26 * w) (by omega) (nI cur) hd0) (cwV 2 hts gX7_snapshot_X7_put rfl rfl rfl (by decide +kernel) ⟨Nat.le_of_ble_eq_true rfl, Nat.le_of_ble_eq_true rfl⟩) (g_pV hK hG 92 (by decide) gc_92 rfl) rfl rfl hl.1 rfl (lv_room (Nat.le_of_ble_eq_true rfl)) dX7_snapshot_70 ⟨Nat.le_refl _, Nat.le_refl _⟩) hK hG (fun I_70 L_70 H locs hw_70 hG => ?_)
      obtain ⟨p1, d1, f1, g1, k1, rfl⟩ := hw_70
      refine lv_iconst (v := 0) hx hb dX7_snapshot_73 (by decide) ?_
      refine lv_istore (lv' := [(5, .int 0), (4, .int (pu_chk (pu_row0 (nI cur) T) 1 (1))), (0, .ref (ad 92)), (3, .int (nI (26 * w)))]) hx hb dX7_snapshot_74 hl (by decide) rfl (fun ls hl => ?_)
      have lp76 : ∀ (n : Nat) (u : Nat) (I_76 : Mi) (H : Heap) (locs : List Loc), (u ≤ 12) → (13 ≤ u + n) → (pu_puts d (26 * w) (pu_row0 (nI cur) T) (2 * u + 1) = dkM I_76) → (dark01 I_76) → (∀ a, a ≠ 92 → a ≠ 94 → I_76 a = I a) → (I_76 92 2 = nI cur) → (I_76 92 3 = nI base) → gG D ad tc (gA ad) s.heap I_76 L H locs → ∀ ls : Array Slot, lv_has ls 8 [(0, .ref (ad 92)), (3, .int (nI (26 * w))), (4, .int (pu_chk (pu_row0 (nI cur) T) 1 (2 * u + 1))), (5, .int (nI u))] → W p l e (headSpec wsX7_snapshot ({ frames := 3, cells := 0, slots := 0, locals := 68 } : Room)).room s m ([.ref (ad 92)] : List Value).toArray below meth c H locs 0 0 (MQ below (gQi D ad tc (fun z I1 L1 => (sp_snapshot (T, d, cur, base)).1 = z ∧ repM I1 (sp_snapshot (T, d, cur, base)).2 ∧ ∀ a, a < 92 → I1 a = I a)) ([.ref (ad 92)] : List Value).toArray s 0 0 (gA ad)) (F0 m 76 ls []) := by
        intro n
        induction n with
        | zero =>
          intro u I_76 H locs hu hn hpp hd9 hf9 hg9 hk9 hG ls hl
          exact absurd hn (by omega)
        | succ n ih76 =>
          intro u I_76 H locs hu hn hpp hd9 hf9 hg9 hk9 hG ls hl
          refine lv_iload hx hb dX7_snapshot_76 (lv_at hl 3 rfl) ?_
          refine lv_bipush (v := 12) hx hb dX7_snapshot_78 (by decide) ?_
          refine lv_icmp_ge (tgt := 140) hx hb dX7_snapshot_80 (by decide) (fun c80 => ?_) (fun c80 => ?_)
          · -- 80: jumps
            have b80 := g_le (a := 12) (b := u) c80 (by omega) (by omega)
            obtain rfl : u = 12 := by omega
            refine lv_aload_n hx hb dX7_snapshot_140 rfl (lv_at hl 0 rfl) ?_
            refine lv_iload_n hx hb dX7_snapshot_141 rfl (lv_at hl 1 rfl) ?_
            refine lv_bipush (v := 25) hx hb dX7_snapshot_142 (by decide) ?_
            refine lv_iadd hx hb dX7_snapshot_144 ?_
            refine g_i (y := nI ((26 * w) + 25)) (nI_add (26 * w) 25) ?_
            refine lv_iload hx hb dX7_snapshot_145 (lv_at hl 2 rfl) ?_
            refine lv_iconst (v := 1) hx hb dX7_snapshot_147 (by decide) ?_
            refine lv_ior hx hb dX7_snapshot_148 ?_
            refine g_cv (va_runV (As := [.int (nI ((26 * w) + 25)), .int ((pu_chk (pu_row0 (nI cur) T) 1 (25)) ||| 1)]) (rest := []) hcx (c_X7_put l D ad tc I_76 L ((26 * w) + 25) (by omega) ((pu_chk (pu_row0 (nI cur) T) 1 (25)) ||| 1) hd9) (cwV 2 hts gX7_snapshot_X7_put rfl rfl rfl (by decide +kernel) ⟨Nat.le_of_ble_eq_true rfl, Nat.le_of_ble_eq_true rfl⟩) (g_pV hK hG 92 (by decide) gc_92 rfl) rfl rfl hl.1 rfl (lv_room (Nat.le_of_ble_eq_true rfl)) dX7_snapshot_149 ⟨Nat.le_refl _, Nat.le_refl _⟩) hK hG (fun I_149 L_149 H locs hw_149 hG => ?_)
            obtain ⟨p3, d3, f3, g3, k3, rfl⟩ := hw_149
            have hd3 : pu_puts d (26 * pu_wo d.1) (pu_row (nI cur) T) 26 = dkM I_149 := by
              rw [show d.1 = I 94 by rw [← hd]; rfl, hwo]
              show pu_put (pu_puts d (26 * w) (pu_row (nI cur) T) 25) (26 * w + 25) (pu_row (nI cur) T 25) = _
              rw [pu_puts_congr (f := pu_row (nI cur) T) (g := pu_row0 (nI cur) T) (fun j hj => if_neg (by omega)), show pu_row (nI cur) T 25 = pu_chk (pu_row0 (nI cur) T) 1 25 ||| 1 from if_pos rfl, show pu_puts d (26 * w) (pu_row0 (nI cur) T) 25 = dkM I_76 from hpp]
              exact p3
            have hE := sp_snap_go (T := T) (base := base) hp hd3
            have hg3 : I_149 92 2 = nI cur := g3.trans hg9
            have hk3 : I_149 92 3 = nI base := k3.trans hk9
            have hfr : ∀ a, a ≠ 92 → a ≠ 94 → I_149 a = I a := fun a h1 h2 => (f3 a h1 h2).trans (hf9 a h1 h2)
            have hT3 : tM I_149 T := tM_mem hT (hfr 93 (by decide) (by decide))
            refine lv_aload_n hx hb dX7_snapshot_152 rfl (lv_at hl 0 rfl) ?_
            refine g_get (v := .int (I_149 92 4)) hx hb hts (by decide +kernel) hown hK hG 92 (by decide) gc_92 rfl 4 (by decide) (hts (.fieldLink RX7 41 "NeighbourScoresModel" "dark" "Z") (by decide +kernel)) (fun _ h9 => h9) rfl dX7_snapshot_153 ?_
            refine lv_if_eq (tgt := 162) hx hb dX7_snapshot_156 (by decide) (fun c156 => ?_) (fun c156 => ?_)
            · -- 156: jumps
              rw [if_neg (by rw [dk_on c156]; decide)] at hE
              refine lv_aload_n hx hb dX7_snapshot_162 rfl (lv_at hl 0 rfl) ?_
              refine lv_aload_n hx hb dX7_snapshot_163 rfl (lv_at hl 0 rfl) ?_
              refine g_get (v := .int (I_149 92 2)) hx hb hts (by decide +kernel) hown hK hG 92 (by decide) gc_92 rfl 2 (by decide) (hts (.fieldLink RX7 52 "NeighbourScoresModel" "current" "I") (by decide +kernel)) (fun _ h9 => h9) rfl dX7_snapshot_164 ?_
              refine g_i (y := nI cur) hg3 ?_
              refine g_put (ty := .int) hx hb hts (by decide +kernel) tyX7 tyX7_ok nmX7 hown hK hG 92 (by decide) gc_92 rfl 3 (by decide) (hts (.fieldLink RX7 55 "NeighbourScoresModel" "base" "I") (by decide +kernel)) (fun _ h9 => h9) rfl (by decide +kernel) rfl rfl (Nat.le_of_ble_eq_true rfl) (by rw [gc_92]; rfl) dX7_snapshot_167 (fun I_167 H locs hU_167 hG => ?_)
              refine lv_bipush (v := 26) hx hb dX7_snapshot_170 (by decide) ?_
              exact g_ri hx hb hr hlocks hG ⟨by rw [hE], by rw [hE]; exact ⟨⟨hTb, Or.inr (dk_on c156), Nat.le_refl _, by show cur ≤ cur + 40; omega⟩, tM_mem hT3 (hU_167.2 93 (by decide)), by unfold dark01; rw [gU_ne hU_167 (by decide)]; exact d3, by unfold dkM; rw [gU_ne hU_167 (by decide), gU_ne hU_167 (by decide), hU_167.2 94 (by decide)], by rw [gU_ne hU_167 (by decide)]; exact hg3, gU_eq hU_167⟩, fun a ha => by rw [hU_167.2 a (by omega)]; exact hfr a (by omega) (by omega)⟩ dX7_snapshot_172
            · -- 156: goes on
              rw [if_pos (dk_off (pu_d1 d3 c156))] at hE
              refine lv_bipush (v := -3) hx hb dX7_snapshot_159 (by decide) ?_
              exact g_ri hx hb hr hlocks hG ⟨by rw [hE], by rw [hE]; exact ⟨⟨hTb, Or.inl (dk_off (pu_d1 d3 c156)), hle1, hle2⟩, hT3, d3, rfl, hg3, hk3⟩, fun a ha => hfr a (by omega) (by omega)⟩ dX7_snapshot_161
          · -- 80: goes on
            have b80 := g_nle (a := 12) (b := u) c80 (by omega) (by omega)
            refine lv_iconst (v := 0) hx hb dX7_snapshot_83 (by decide) ?_
            refine lv_istore (lv' := [(6, .int 0), (0, .ref (ad 92)), (3, .int (nI (26 * w))), (4, .int (pu_chk (pu_row0 (nI cur) T) 1 (2 * u + 1))), (5, .int (nI u))]) hx hb dX7_snapshot_84 hl (by decide) rfl (fun ls hl => ?_)
            have lp86 : ∀ (n : Nat) (half : Nat) (I_86 : Mi) (H : Heap) (locs : List Loc), (half ≤ 2) → (3 ≤ half + n) → (pu_puts d (26 * w) (pu_row0 (nI cur) T) (2 * u + 1 + half) = dkM I_86) → (dark01 I_86) → (∀ a, a ≠ 92 → a ≠ 94 → I_86 a = I a) → (I_86 92 2 = nI cur) → (I_86 92 3 = nI base) → gG D ad tc (gA ad) s.heap I_86 L H locs → ∀ ls : Array Slot, lv_has ls 8 [(0, .ref (ad 92)), (3, .int (nI (26 * w))), (4, .int (pu_chk (pu_row0 (nI cur) T) 1 (2 * u + 1 + half))), (5, .int (nI u)), (6, .int (nI half))] → W p l e (headSpec wsX7_snapshot ({ frames := 3, cells := 0, slots := 0, locals := 68 } : Room)).room s m ([.ref (ad 92)] : List Value).toArray below meth c H locs 0 0 (MQ below (gQi D ad tc (fun z I1 L1 => (sp_snapshot (T, d, cur, base)).1 = z ∧ repM I1 (sp_snapshot (T, d, cur, base)).2 ∧ ∀ a, a < 92 → I1 a = I a)) ([.ref (ad 92)] : List Value).toArray s 0 0 (gA ad)) (F0 m 86 ls []) := by
              intro n
              induction n with
              | zero =>
                intro half I_86 H locs hh hn2 hpp2 hd9b hf9b hg9b hk9b hG ls hl
                exact absurd hn2 (by omega)
              | succ n ih86 =>
                intro half I_86 H locs hh hn2 hpp2 hd9b hf9b hg9b hk9b hG ls hl
                refine lv_iload hx hb dX7_snapshot_86 (lv_at hl 4 rfl) ?_
                refine lv_iconst (v := 2) hx hb dX7_snapshot_88 (by decide) ?_
                refine lv_icmp_ge (tgt := 134) hx hb dX7_snapshot_89 (by decide) (fun c89 => ?_) (fun c89 => ?_)
                · -- 89: jumps
                  have b89 := g_le (a := 2) (b := half) c89 (by omega) (by omega)
                  obtain rfl : half = 2 := by omega
                  refine lv_iinc (v := nI (u + 1)) (lv' := [(5, .int (nI (u + 1))), (0, .ref (ad 92)), (3, .int (nI (26 * w))), (4, .int (pu_chk (pu_row0 (nI cur) T) 1 (2 * u + 1 + 2))), (6, .int 2)]) hx hb dX7_snapshot_134 hl (k := 3) rfl (nI_1 _) (by decide) rfl (fun ls hl => ?_)
                  refine lv_goto (tgt := 76) hx hb dX7_snapshot_137 (by decide) ?_
                  exact ih76 (u + 1) _ _ _ (by omega) (by omega) hpp2 hd9b hf9b hg9b hk9b hG ls (lv_sub hl [1, 2, 3, 0] rfl)
                · -- 89: goes on
                  have b89 := g_nle (a := 2) (b := half) c89 (by omega) (by omega)
                  refine lv_aload_n hx hb dX7_snapshot_92 rfl (lv_at hl 0 rfl) ?_
                  refine lv_iload hx hb dX7_snapshot_93 (lv_at hl 3 rfl) ?_
                  refine lv_iload hx hb dX7_snapshot_95 (lv_at hl 4 rfl) ?_
                  refine g_si (va_runV (As := [.int (nI u), .int (nI half)]) (rest := []) hcx (c_X7_packed l D ad tc I_86 L T hTb (tM_mem hT (hf9b 93 (by decide) (by decide))) u half (by omega) (by omega)) (cwV 2 hts gX7_snapshot_X7_packed rfl rfl rfl (by decide +kernel) ⟨Nat.le_of_ble_eq_true rfl, Nat.le_of_ble_eq_true rfl⟩) (g_pV hK hG 92 (by decide) gc_92 rfl) rfl rfl hl.1 rfl (lv_room (Nat.le_of_ble_eq_true rfl)) dX7_snapshot_97 ⟨Nat.le_refl _, Nat.le_refl _⟩) (fun r_97 hw_97 => ?_)
                  subst hw_97
                  refine lv_istore (lv' := [(7, .int (nI (pu_pk (fun x => T u (8 * half + x)) 8))), (0, .ref (ad 92)), (3, .int (nI (26 * w))), (4, .int (pu_chk (pu_row0 (nI cur) T) 1 (2 * u + 1 + half))), (5, .int (nI u)), (6, .int (nI half))]) hx hb dX7_snapshot_100 hl (by decide) rfl (fun ls hl => ?_)
                  refine lv_aload_n hx hb dX7_snapshot_102 rfl (lv_at hl 1 rfl) ?_
                  refine lv_iload_n hx hb dX7_snapshot_103 rfl (lv_at hl 2 rfl) ?_
                  refine lv_iconst (v := 1) hx hb dX7_snapshot_104 (by decide) ?_
                  refine lv_iadd hx hb dX7_snapshot_105 ?_
                  refine g_i (y := nI ((26 * w) + 1)) (nI_add (26 * w) 1) ?_
                  refine lv_iconst (v := 2) hx hb dX7_snapshot_106 (by decide) ?_
                  refine lv_iload hx hb dX7_snapshot_107 (lv_at hl 4 rfl) ?_
                  refine lv_imul hx hb dX7_snapshot_109 ?_
                  refine g_i (y := nI (2 * u)) (pk_mul 2 u) ?_
                  refine lv_iadd hx hb dX7_snapshot_110 ?_
                  refine g_i (y := nI (((26 * w) + 1) + (2 * u))) (nI_add ((26 * w) + 1) (2 * u)) ?_
                  refine lv_iload hx hb dX7_snapshot_111 (lv_at hl 5 rfl) ?_
                  refine lv_iadd hx hb dX7_snapshot_113 ?_
                  refine g_i (y := nI ((((26 * w) + 1) + (2 * u)) + half)) (nI_add (((26 * w) + 1) + (2 * u)) half) ?_
                  refine lv_iload hx hb dX7_snapshot_114 (lv_at hl 0 rfl) ?_
                  refine g_cv (va_runV (As := [.int (nI ((((26 * w) + 1) + (2 * u)) + half)), .int (nI (pu_pk (fun x => T u (8 * half + x)) 8))]) (rest := []) hcx (c_X7_put l D ad tc I_86 L ((((26 * w) + 1) + (2 * u)) + half) (by omega) (nI (pu_pk (fun x => T u (8 * half + x)) 8)) hd9b) (cwV 2 hts gX7_snapshot_X7_put rfl rfl rfl (by decide +kernel) ⟨Nat.le_of_ble_eq_true rfl, Nat.le_of_ble_eq_true rfl⟩) (g_pV hK hG 92 (by decide) gc_92 rfl) rfl rfl hl.1 rfl (lv_room (Nat.le_of_ble_eq_true rfl)) dX7_snapshot_116 ⟨Nat.le_refl _, Nat.le_refl _⟩) hK hG (fun I_116 L_116 H locs hw_116 hG => ?_)
                  obtain ⟨p2, d2, f2, g2, k2, rfl⟩ := hw_116
                  have hpp3 : pu_puts d (26 * w) (pu_row0 (nI cur) T) (2 * u + 1 + (half + 1)) = dkM I_116 := by
                    show pu_put (pu_puts d (26 * w) (pu_row0 (nI cur) T) (2 * u + 1 + half)) (26 * w + (2 * u + 1 + half)) (pu_row0 (nI cur) T (2 * u + 1 + half)) = _
                    rw [hpp2, pu_row0_s (by omega), show 26 * w + (2 * u + 1 + half) = 26 * w + 1 + 2 * u + half by omega]
                    exact p2
                  refine lv_iload hx hb dX7_snapshot_119 (lv_at hl 3 rfl) ?_
                  refine lv_iload hx hb dX7_snapshot_121 (lv_at hl 0 rfl) ?_
                  refine g_si (va_runS (As := [.int (pu_chk (pu_row0 (nI cur) T) 1 (2 * u + 1 + half)), .int (nI (pu_pk (fun x => T u (8 * half + x)) 8))]) (rest := []) hcx (c_X7_mix l (pu_chk (pu_row0 (nI cur) T) 1 (2 * u + 1 + half)) (nI (pu_pk (fun x => T u (8 * half + x)) 8))) (va_cwS 2 hts gX7_snapshot_X7_mix rfl rfl rfl (by decide +kernel) ⟨Nat.le_of_ble_eq_true rfl, Nat.le_of_ble_eq_true rfl⟩) (g_p0) rfl rfl hl.1 rfl (lv_room (Nat.le_of_ble_eq_true rfl)) dX7_snapshot_123 ⟨Nat.le_refl _, Nat.le_refl _⟩) (fun r_123 hw_123 => ?_)
                  subst hw_123
                  refine g_i (y := pu_chk (pu_row0 (nI cur) T) 1 (2 * u + 1 + (half + 1))) (by show pu_mix _ _ = pu_mix (pu_chk (pu_row0 (nI cur) T) 1 (2 * u + 1 + half)) (pu_row0 (nI cur) T (2 * u + 1 + half)); rw [pu_row0_s (by omega)]) ?_
                  refine lv_istore (lv' := [(4, .int (pu_chk (pu_row0 (nI cur) T) 1 (2 * u + 1 + (half + 1)))), (7, .int (nI (pu_pk (fun x => T u (8 * half + x)) 8))), (0, .ref (ad 92)), (3, .int (nI (26 * w))), (5, .int (nI u)), (6, .int (nI half))]) hx hb dX7_snapshot_126 hl (by decide) rfl (fun ls hl => ?_)
                  refine lv_iinc (v := nI (half + 1)) (lv' := [(6, .int (nI (half + 1))), (4, .int (pu_chk (pu_row0 (nI cur) T) 1 (2 * u + 1 + (half + 1)))), (7, .int (nI (pu_pk (fun x => T u (8 * half + x)) 8))), (0, .ref (ad 92)), (3, .int (nI (26 * w))), (5, .int (nI u))]) hx hb dX7_snapshot_128 hl (k := 5) rfl (nI_1 _) (by decide) rfl (fun ls hl => ?_)
                  refine lv_goto (tgt := 86) hx hb dX7_snapshot_131 (by decide) ?_
                  exact ih86 (half + 1) _ _ _ (by omega) (by omega) hpp3 d2 (fun a h1 h2 => (f2 a h1 h2).trans (hf9b a h1 h2)) (g2.trans hg9b) (k2.trans hk9b) hG ls (lv_sub hl [3, 4, 1, 5, 0] rfl)
            exact lp86 3 0 _ _ _ (by omega) (by omega) hpp hd9 hf9 hg9 hk9 hG ls (lv_sub hl [1, 2, 3, 4, 0] rfl)
      exact lp76 13 0 _ _ _ (by omega) (by omega) (by rw [← p1, hd]; rfl) d1 f1 (g1.trans hcu) (k1.trans hba) hG ls (lv_sub hl [2, 3, 1, 0] rfl)
    refine lv_iconst (v := 0) hx hb dX7_snapshot_11 (by decide) ?_
    refine g_si (va_runV (As := [.int 0]) (rest := []) hcx (c_X7_good l D ad tc I L 0 (by omega)) (cwV 1 hts gX7_snapshot_X7_good rfl rfl rfl (by decide +kernel) ⟨Nat.le_of_ble_eq_true rfl, Nat.le_of_ble_eq_true rfl⟩) (g_pV hK hG 92 (by decide) gc_92 rfl) rfl rfl hl.1 rfl (lv_room (Nat.le_of_ble_eq_true rfl)) dX7_snapshot_12 ⟨Nat.le_refl _, Nat.le_refl _⟩) (fun r_12 hw_12 => ?_)
    rcases hw_12 with ⟨hw_12, rfl⟩ | ⟨hw_12, rfl⟩
    · -- 12: yes
      refine lv_istore_n (lv' := [(1, .int 1), (0, .ref (ad 92))]) hx hb dX7_snapshot_15 rfl hl (by decide) rfl (fun ls hl => ?_)
      refine lv_aload_n hx hb dX7_snapshot_16 rfl (lv_at hl 1 rfl) ?_
      refine lv_bipush (v := 26) hx hb dX7_snapshot_17 (by decide) ?_
      refine g_si (va_runV (As := [.int 26]) (rest := []) hcx (c_X7_good l D ad tc I L 26 (by omega)) (cwV 1 hts gX7_snapshot_X7_good rfl rfl rfl (by decide +kernel) ⟨Nat.le_of_ble_eq_true rfl, Nat.le_of_ble_eq_true rfl⟩) (g_pV hK hG 92 (by decide) gc_92 rfl) rfl rfl hl.1 rfl (lv_room (Nat.le_of_ble_eq_true rfl)) dX7_snapshot_19 ⟨Nat.le_refl _, Nat.le_refl _⟩) (fun r_19 hw_19 => ?_)
      rcases hw_19 with ⟨hw_19, rfl⟩ | ⟨hw_19, rfl⟩
      · -- 19: yes
        refine lv_istore_n (lv' := [(2, .int 1), (1, .int 1), (0, .ref (ad 92))]) hx hb dX7_snapshot_22 rfl hl (by decide) rfl (fun ls hl => ?_)
        refine lv_iload_n hx hb dX7_snapshot_23 rfl (lv_at hl 0 rfl) ?_
        refine lv_if_eq (tgt := 51) hx hb dX7_snapshot_24 (by decide) (fun c24 => absurd c24 (by decide)) (fun _ => ?_)
        refine lv_iload_n hx hb dX7_snapshot_27 rfl (lv_at hl 1 rfl) ?_
        refine lv_if_eq (tgt := 47) hx hb dX7_snapshot_28 (by decide) (fun c28 => absurd c28 (by decide)) (fun _ => ?_)
        refine lv_aload_n hx hb dX7_snapshot_31 rfl (lv_at hl 2 rfl) ?_
        refine g_get (v := .ref (ad 94)) hx hb hts (by decide +kernel) hown hK hG 92 (by decide) gc_92 rfl 1 (by decide) (hts (.fieldLink RX7 13 "NeighbourScoresModel" "disk" "[I") (by decide +kernel)) (fun _ h9 => h9) rfl dX7_snapshot_32 ?_
        refine lv_iconst (v := 0) hx hb dX7_snapshot_35 (by decide) ?_
        refine g_iald hx hb hK hG 94 (by decide) gc_94 0 rfl (by omega) (by omega) dX7_snapshot_36 ?_
        refine lv_aload_n hx hb dX7_snapshot_37 rfl (lv_at hl 2 rfl) ?_
        refine g_get (v := .ref (ad 94)) hx hb hts (by decide +kernel) hown hK hG 92 (by decide) gc_92 rfl 1 (by decide) (hts (.fieldLink RX7 13 "NeighbourScoresModel" "disk" "[I") (by decide +kernel)) (fun _ h9 => h9) rfl dX7_snapshot_38 ?_
        refine lv_bipush (v := 26) hx hb dX7_snapshot_41 (by decide) ?_
        refine g_iald hx hb hK hG 94 (by decide) gc_94 26 rfl (by omega) (by omega) dX7_snapshot_43 ?_
        refine lv_icmp_ge (tgt := 51) hx hb dX7_snapshot_44 (by decide) (fun c44 => ?_) (fun c44 => ?_)
        · -- 44: jumps
          refine lv_bipush (v := 26) hx hb dX7_snapshot_51 (by decide) ?_
          refine lv_istore_n (lv' := [(3, .int 26), (2, .int 1), (1, .int 1), (0, .ref (ad 92))]) hx hb dX7_snapshot_53 rfl hl (by decide) rfl (fun ls hl => ?_)
          exact jn54 1 (by decide) (pu_wo_of (pu_nw_yy0 hw_12 hw_19 (Int32.not_lt.mpr c44)) rfl) ls (lv_sub hl [3, 0] rfl)
        · -- 44: goes on
          refine lv_iconst (v := 0) hx hb dX7_snapshot_47 (by decide) ?_
          refine lv_goto (tgt := 53) hx hb dX7_snapshot_48 (by decide) ?_
          refine lv_istore_n (lv' := [(3, .int 0), (2, .int 1), (1, .int 1), (0, .ref (ad 92))]) hx hb dX7_snapshot_53 rfl hl (by decide) rfl (fun ls hl => ?_)
          exact jn54 0 (by decide) (pu_wo_of (pu_nw_yy1 hw_12 hw_19 (Int32.not_le.mp c44)) rfl) ls (lv_sub hl [3, 0] rfl)
      · -- 19: no
        refine lv_istore_n (lv' := [(2, .int 0), (1, .int 1), (0, .ref (ad 92))]) hx hb dX7_snapshot_22 rfl hl (by decide) rfl (fun ls hl => ?_)
        refine lv_iload_n hx hb dX7_snapshot_23 rfl (lv_at hl 0 rfl) ?_
        refine lv_if_eq (tgt := 51) hx hb dX7_snapshot_24 (by decide) (fun _ => ?_) (fun c24 => absurd (by decide) c24)
        refine lv_bipush (v := 26) hx hb dX7_snapshot_51 (by decide) ?_
        refine lv_istore_n (lv' := [(3, .int 26), (2, .int 0), (1, .int 1), (0, .ref (ad 92))]) hx hb dX7_snapshot_53 rfl hl (by decide) rfl (fun ls hl => ?_)
        exact jn54 1 (by decide) (pu_wo_of (pu_nw_yn hw_12 hw_19) rfl) ls (lv_sub hl [3, 0] rfl)
    · -- 12: no
      refine lv_istore_n (lv' := [(1, .int 0), (0, .ref (ad 92))]) hx hb dX7_snapshot_15 rfl hl (by decide) rfl (fun ls hl => ?_)
      refine lv_aload_n hx hb dX7_snapshot_16 rfl (lv_at hl 1 rfl) ?_
      refine lv_bipush (v := 26) hx hb dX7_snapshot_17 (by decide) ?_
      refine g_si (va_runV (As := [.int 26]) (rest := []) hcx (c_X7_good l D ad tc I L 26 (by omega)) (cwV 1 hts gX7_snapshot_X7_good rfl rfl rfl (by decide +kernel) ⟨Nat.le_of_ble_eq_true rfl, Nat.le_of_ble_eq_true rfl⟩) (g_pV hK hG 92 (by decide) gc_92 rfl) rfl rfl hl.1 rfl (lv_room (Nat.le_of_ble_eq_true rfl)) dX7_snapshot_19 ⟨Nat.le_refl _, Nat.le_refl _⟩) (fun r_19 hw_19 => ?_)
      rcases hw_19 with ⟨hw_19, rfl⟩ | ⟨hw_19, rfl⟩
      · -- 19: yes
        refine lv_istore_n (lv' := [(2, .int 1), (1, .int 0), (0, .ref (ad 92))]) hx hb dX7_snapshot_22 rfl hl (by decide) rfl (fun ls hl => ?_)
        refine lv_iload_n hx hb dX7_snapshot_23 rfl (lv_at hl 0 rfl) ?_
        refine lv_if_eq (tgt := 51) hx hb dX7_snapshot_24 (by decide) (fun c24 => absurd c24 (by decide)) (fun _ => ?_)
        refine lv_iload_n hx hb dX7_snapshot_27 rfl (lv_at hl 1 rfl) ?_
        refine lv_if_eq (tgt := 47) hx hb dX7_snapshot_28 (by decide) (fun _ => ?_) (fun c28 => absurd (by decide) c28)
        refine lv_iconst (v := 0) hx hb dX7_snapshot_47 (by decide) ?_
        refine lv_goto (tgt := 53) hx hb dX7_snapshot_48 (by decide) ?_
        refine lv_istore_n (lv' := [(3, .int 0), (2, .int 1), (1, .int 0), (0, .ref (ad 92))]) hx hb dX7_snapshot_53 rfl hl (by decide) rfl (fun ls hl => ?_)
        exact jn54 0 (by decide) (pu_wo_of (pu_nw_ny hw_12 hw_19) rfl) ls (lv_sub hl [3, 0] rfl)
      · -- 19: no
        refine lv_istore_n (lv' := [(2, .int 0), (1, .int 0), (0, .ref (ad 92))]) hx hb dX7_snapshot_22 rfl hl (by decide) rfl (fun ls hl => ?_)
        refine lv_iload_n hx hb dX7_snapshot_23 rfl (lv_at hl 0 rfl) ?_
        refine lv_if_eq (tgt := 51) hx hb dX7_snapshot_24 (by decide) (fun _ => ?_) (fun c24 => absurd (by decide) c24)
        refine lv_bipush (v := 26) hx hb dX7_snapshot_51 (by decide) ?_
        refine lv_istore_n (lv' := [(3, .int 26), (2, .int 0), (1, .int 0), (0, .ref (ad 92))]) hx hb dX7_snapshot_53 rfl hl (by decide) rfl (fun ls hl => ?_)
        exact jn54 1 (by decide) (pu_wo_of (pu_nw_nn hw_12 hw_19) rfl) ls (lv_sub hl [3, 0] rfl)
  · -- 4: goes on
    have hp0 : d.2.1 = 0 := by rw [← hd]; exact dk_off (pu_d1 hd0 c4)
    refine lv_bipush (v := -3) hx hb dX7_snapshot_7 (by decide) ?_
    exact g_ri hx hb hr hlocks hG ⟨by rw [sp_snap_off hp0], by rw [sp_snap_off hp0]; exact hσ, fun _ _ => rfl⟩ dX7_snapshot_9

set_option maxHeartbeats 4000000 in
set_option maxRecDepth 100000 in
theorem c_X7_restart (l : Launch) (D : va_G) (ad : Nat → Nat) (tc : Nat → ClassId) (I : Mi) (L : Ml) (T : Tb) (d : Dk) (cur base : Nat) (hσ : repM I (T, d, cur, base))  : Met l yX7_restart wsX7_restart ({ frames := 3, cells := 0, slots := 0, locals := 73 } : Room) (va_Pc [.ref (ad 92)] (gPc D ad tc I L)) (gQi D ad tc (fun z I1 L1 => (sp_restart (T, d, cur, base)).1 = z ∧ repM I1 (sp_restart (T, d, cur, base)).2 ∧ ∀ a, a < 92 → I1 a = I a)) 0 0 (gA ad) := by
  refine g_of (by decide) rfl (Nat.le_of_ble_eq_true rfl) ?_
  intro p e s m below meth c hcx hr hlocks hK hG ls hl
  obtain ⟨hx, hb, hml, hown, hts⟩ := id hcx
  have hl : lv_has ls 8 [(0, .ref (ad 92))] := hl
  have hin : sp_in (T, d, cur, base) := hσ.1
  have hTb : pu_tb T := hin.1
  have hT : tM I T := hσ.2.1
  have hd0 : dark01 I := hσ.2.2.1
  have hd : dkM I = d := hσ.2.2.2.1
  have hcu : I 92 2 = nI cur := hσ.2.2.2.2.1
  have hba : I 92 3 = nI base := hσ.2.2.2.2.2
  have hle1 : base ≤ cur := hin.2.2.1
  have hle2 : cur ≤ base + 40 := hin.2.2.2
  refine lv_aload_n hx hb dX7_restart_0 rfl (lv_at hl 0 rfl) ?_
  refine lv_iconst (v := 0) hx hb dX7_restart_1 (by decide) ?_
  refine g_put (ty := .boolean) hx hb hts (by decide +kernel) tyX7 tyX7_ok nmX7 hown hK hG 92 (by decide) gc_92 rfl 4 (by decide) (hts (.fieldLink RX7 41 "NeighbourScoresModel" "dark" "Z") (by decide +kernel)) (fun _ h9 => h9) rfl (by decide +kernel) rfl rfl (Nat.le_of_ble_eq_true rfl) (by rw [gc_92]; rfl) dX7_restart_2 (fun I_2 H locs hU_2 hG => ?_)
  refine lv_aload_n hx hb dX7_restart_5 rfl (lv_at hl 0 rfl) ?_
  refine lv_iconst (v := -1) hx hb dX7_restart_6 (by decide) ?_
  refine g_put (ty := .int) hx hb hts (by decide +kernel) tyX7 tyX7_ok nmX7 hown hK hG 92 (by decide) gc_92 rfl 5 (by decide) (hts (.fieldLink RX7 16 "NeighbourScoresModel" "left" "I") (by decide +kernel)) (fun _ h9 => h9) rfl (by decide +kernel) rfl rfl (Nat.le_of_ble_eq_true rfl) (by rw [gc_92]; rfl) dX7_restart_7 (fun I_7 H locs hU_7 hG => ?_)
  have h94 : I_7 94 = I 94 := by rw [hU_7.2 94 (by decide), hU_2.2 94 (by decide)]
  refine lv_aload_n hx hb dX7_restart_10 rfl (lv_at hl 0 rfl) ?_
  have jn69 : ∀ (so : Nat) (st0 : Nat), ((so = 0 ∧ pu_nw (I_7 94) = 2 ∧ st0 = 0) ∨ (so = 1 ∧ pu_nw (I_7 94) ≠ 2 ∧ st0 = 26 * pu_nw (I_7 94))) → ∀ ls : Array Slot, lv_has ls 8 [(0, .ref (ad 92)), (3, .int (nI st0)), (4, .int (nI so))] → W p l e (headSpec wsX7_restart ({ frames := 3, cells := 0, slots := 0, locals := 73 } : Room)).room s m ([.ref (ad 92)] : List Value).toArray below meth c H locs 0 0 (MQ below (gQi D ad tc (fun z I1 L1 => (sp_restart (T, d, cur, base)).1 = z ∧ repM I1 (sp_restart (T, d, cur, base)).2 ∧ ∀ a, a < 92 → I1 a = I a)) ([.ref (ad 92)] : List Value).toArray s 0 0 (gA ad)) (F0 m 69 ls []) := by
    intro so st0 hso ls hl
    have hnl := pu_nw_le (I_7 94)
    have hst : st0 ≤ 26 := by omega
    have hsb : so ≤ 1 := by omega
    refine lv_iconst (v := 0) hx hb dX7_restart_69 (by decide) ?_
    refine lv_istore (lv' := [(5, .int 0), (0, .ref (ad 92)), (3, .int (nI st0)), (4, .int (nI so))]) hx hb dX7_restart_70 hl (by decide) rfl (fun ls hl => ?_)
    have lp72 : ∀ (n : Nat) (u : Nat) (I_72 : Mi) (H : Heap) (locs : List Loc), (u ≤ 12) → (13 ≤ u + n) → (∀ a b, (a < u ∨ (a = u ∧ b < 0)) → a < 12 → b < 16 → I_72 93 (16 * a + b) = nI (pu_ldT (I_7 94) a b)) → (∀ a, a ≠ 93 → I_72 a = I_7 a) → gG D ad tc (gA ad) s.heap I_72 L H locs → ∀ ls : Array Slot, lv_has ls 8 [(0, .ref (ad 92)), (3, .int (nI st0)), (4, .int (nI so)), (5, .int (nI u))] → W p l e (headSpec wsX7_restart ({ frames := 3, cells := 0, slots := 0, locals := 73 } : Room)).room s m ([.ref (ad 92)] : List Value).toArray below meth c H locs 0 0 (MQ below (gQi D ad tc (fun z I1 L1 => (sp_restart (T, d, cur, base)).1 = z ∧ repM I1 (sp_restart (T, d, cur, base)).2 ∧ ∀ a, a < 92 → I1 a = I a)) ([.ref (ad 92)] : List Value).toArray s 0 0 (gA ad)) (F0 m 72 ls []) := by
      intro n
      induction n with
      | zero =>
        intro u I_72 H locs hu hn hq hf hG ls hl
        exact absurd hn (by omega)
      | succ n ih72 =>
        intro u I_72 H locs hu hn hq hf hG ls hl
        refine lv_iload hx hb dX7_restart_72 (lv_at hl 3 rfl) ?_
        refine lv_bipush (v := 12) hx hb dX7_restart_74 (by decide) ?_
        refine lv_icmp_ge (tgt := 163) hx hb dX7_restart_76 (by decide) (fun c76 => ?_) (fun c76 => ?_)
        · -- 76: jumps
          have b76 := g_le (a := 12) (b := u) c76 (by omega) (by omega)
          obtain ⟨n0, hn0, en0⟩ := pu_ldn_n (I_7 94)
          have hT2 : tM I_72 (pu_ldT (I_7 94)) := fun a b ha hb => hq a b (by omega) ha hb
          refine lv_aload_n hx hb dX7_restart_163 rfl (lv_at hl 0 rfl) ?_
          refine lv_iload hx hb dX7_restart_164 (lv_at hl 2 rfl) ?_
          refine lv_if_eq (tgt := 178) hx hb dX7_restart_166 (by decide) (fun c166 => ?_) (fun c166 => ?_)
          · -- 166: jumps
            have b166 := g_eq (a := so) (b := 0) c166 (by omega) (by omega)
            refine lv_iconst (v := 0) hx hb dX7_restart_178 (by decide) ?_
            refine g_i (y := nI n0) (by rw [← en0]; exact (pu_ldn_0 (by omega)).symm) ?_
            refine g_put (ty := .int) hx hb hts (by decide +kernel) tyX7 tyX7_ok nmX7 hown hK hG 92 (by decide) gc_92 rfl 2 (by decide) (hts (.fieldLink RX7 52 "NeighbourScoresModel" "current" "I") (by decide +kernel)) (fun _ h9 => h9) rfl (by decide +kernel) rfl rfl (Nat.le_of_ble_eq_true rfl) (by rw [gc_92]; rfl) dX7_restart_179 (fun I_179 H locs hU_179 hG => ?_)
            refine lv_aload_n hx hb dX7_restart_182 rfl (lv_at hl 0 rfl) ?_
            refine lv_aload_n hx hb dX7_restart_183 rfl (lv_at hl 0 rfl) ?_
            refine g_get (v := .int (I_179 92 2)) hx hb hts (by decide +kernel) hown hK hG 92 (by decide) gc_92 rfl 2 (by decide) (hts (.fieldLink RX7 52 "NeighbourScoresModel" "current" "I") (by decide +kernel)) (fun _ h9 => h9) rfl dX7_restart_184 ?_
            refine g_i (y := nI n0) (gU_eq hU_179) ?_
            refine g_put (ty := .int) hx hb hts (by decide +kernel) tyX7 tyX7_ok nmX7 hown hK hG 92 (by decide) gc_92 rfl 3 (by decide) (hts (.fieldLink RX7 55 "NeighbourScoresModel" "base" "I") (by decide +kernel)) (fun _ h9 => h9) rfl (by decide +kernel) rfl rfl (Nat.le_of_ble_eq_true rfl) (by rw [gc_92]; rfl) dX7_restart_187 (fun I_187 H locs hU_187 hG => ?_)
            refine lv_iconst (v := 0) hx hb dX7_restart_190 (by decide) ?_
            refine lv_istore (lv' := [(5, .int 0), (0, .ref (ad 92)), (3, .int (nI st0)), (4, .int (nI so))]) hx hb dX7_restart_191 hl (by decide) rfl (fun ls hl => ?_)
            have lp193 : ∀ (n : Nat) (dn : Nat) (T1 : Tb) (I_193 : Mi) (H : Heap) (locs : List Loc), (dn ≤ 40) → (41 ≤ dn + n) → (tM I_193 T1) → (pu_tb T1) → (I_193 92 2 = nI (n0 + dn)) → (pu_redo (I_7 94) (40 - dn) T1 (n0 + dn) = pu_redo (I_7 94) 40 (pu_ldT (I_7 94)) n0) → (∀ a, a ≠ 92 → a ≠ 93 → I_193 a = I_7 a) → (∀ k, k ≠ 2 → I_193 92 k = I_187 92 k) → gG D ad tc (gA ad) s.heap I_193 L H locs → ∀ ls : Array Slot, lv_has ls 8 [(0, .ref (ad 92)), (5, .int (nI dn))] → W p l e (headSpec wsX7_restart ({ frames := 3, cells := 0, slots := 0, locals := 73 } : Room)).room s m ([.ref (ad 92)] : List Value).toArray below meth c H locs 0 0 (MQ below (gQi D ad tc (fun z I1 L1 => (sp_restart (T, d, cur, base)).1 = z ∧ repM I1 (sp_restart (T, d, cur, base)).2 ∧ ∀ a, a < 92 → I1 a = I a)) ([.ref (ad 92)] : List Value).toArray s 0 0 (gA ad)) (F0 m 193 ls []) := by
              intro n
              induction n with
              | zero =>
                intro dn T1 I_193 H locs hdn hn hT1 hTb1 hc1 hr1 hf1 hk1 hG ls hl
                exact absurd hn (by omega)
              | succ n ih193 =>
                intro dn T1 I_193 H locs hdn hn hT1 hTb1 hc1 hr1 hf1 hk1 hG ls hl
                refine lv_iload hx hb dX7_restart_193 (lv_at hl 1 rfl) ?_
                refine lv_bipush (v := 40) hx hb dX7_restart_195 (by decide) ?_
                refine lv_icmp_ge (tgt := 213) hx hb dX7_restart_197 (by decide) (fun c197 => ?_) (fun c197 => ?_)
                · -- 197: jumps
                  have b197 := g_le (a := 40) (b := dn) c197 (by omega) (by omega)
                  have hdk0 : I_193 92 4 = 0 := by rw [hk1 4 (by decide), gU_ne hU_187 (by decide), gU_ne hU_179 (by decide), hf 92 (by decide), gU_ne hU_7 (by decide)]; exact gU_eq hU_2
                  have hdk1 : I_193 92 5 = -1 := by rw [hk1 5 (by decide), gU_ne hU_187 (by decide), gU_ne hU_179 (by decide), hf 92 (by decide)]; exact gU_eq hU_7
                  have hdk3 : I_193 92 3 = nI n0 := by rw [hk1 3 (by decide)]; exact gU_eq hU_187
                  refine lv_iload hx hb dX7_restart_213 (lv_at hl 1 rfl) ?_
                  exact g_ri hx hb hr hlocks hG ⟨by rw [(sp_restart_e (T := T) (d := d) (cur := cur) (base := base) (n0 := n0) (n1 := n0 + dn) (T1 := T1) (by omega) (by rw [← hd]; show pu_ldn (I 94) = _; rw [← h94]; exact en0) (by rw [← hd]; show pu_redo (I 94) 40 (pu_ldT (I 94)) n0 = _; rw [← h94]; exact (by rw [← hr1, show 40 - dn = 0 by omega]; rfl))), show n0 + dn - n0 = dn by omega], by rw [(sp_restart_e (T := T) (d := d) (cur := cur) (base := base) (n0 := n0) (n1 := n0 + dn) (T1 := T1) (by omega) (by rw [← hd]; show pu_ldn (I 94) = _; rw [← h94]; exact en0) (by rw [← hd]; show pu_redo (I 94) 40 (pu_ldT (I 94)) n0 = _; rw [← h94]; exact (by rw [← hr1, show 40 - dn = 0 by omega]; rfl)))]; exact ⟨⟨hTb1, Or.inr rfl, Nat.le_add_right _ _, by show n0 + dn ≤ n0 + 40; omega⟩, hT1, Or.inl hdk0, pu_dkrs hd h94 (hf1 94 (by decide) (by decide)) hdk0 hdk1, hc1, hdk3⟩, fun a ha => by rw [hf1 a (by omega) (by omega), hU_7.2 a (by omega), hU_2.2 a (by omega)]⟩ dX7_restart_215
                · -- 197: goes on
                  have b197 := g_nle (a := 40) (b := dn) c197 (by omega) (by omega)
                  refine lv_aload_n hx hb dX7_restart_200 rfl (lv_at hl 0 rfl) ?_
                  refine g_ci (va_runV (As := []) (rest := []) hcx (c_X7_redo l D ad tc I_193 L T1 hTb1 hT1 (n0 + dn) hc1 (by omega)) (cwV 0 hts gX7_restart_X7_redo rfl rfl rfl (by decide +kernel) ⟨Nat.le_of_ble_eq_true rfl, Nat.le_of_ble_eq_true rfl⟩) (g_pV hK hG 92 (by decide) gc_92 rfl) rfl rfl hl.1 rfl (lv_room (Nat.le_of_ble_eq_true rfl)) dX7_restart_201 ⟨Nat.le_refl _, Nat.le_refl _⟩) hK hG (fun r_201 I_201 L_201 H locs hw_201 hG => ?_)
                  obtain ⟨⟨hh, rfl, w, hw3, ew, hTw, hTbw, hcw, hfw, hkw⟩ | ⟨hh, rfl, rfl⟩, rfl⟩ := hw_201
                  · -- 201: yes
                    refine lv_if_eq (tgt := 213) hx hb dX7_restart_204 (by decide) (fun c204 => absurd c204 (by decide)) (fun _ => ?_)
                    refine lv_iinc (v := nI (dn + 1)) (lv' := [(5, .int (nI (dn + 1))), (0, .ref (ad 92))]) hx hb dX7_restart_207 hl (k := 1) rfl (nI_1 _) (by decide) rfl (fun ls hl => ?_)
                    refine lv_goto (tgt := 193) hx hb dX7_restart_210 (by decide) ?_
                    have e94 : I_193 94 = I_7 94 := hf1 94 (by decide) (by decide)
                    rw [e94] at hh ew
                    exact ih193 (dn + 1) _ _ _ _ (by omega) (by omega) hTw hTbw hcw (by rw [← hr1, show 40 - dn = (40 - (dn + 1)) + 1 by omega, pu_redo_s (c := w) hh (by rw [ew]; exact nI_clamp hw3)]; rfl) (fun a h1 h2 => (hfw a h1 h2).trans (hf1 a h1 h2)) (fun k hk => (hkw k hk).trans (hk1 k hk)) hG ls (lv_sub hl [1, 0] rfl)
                  · -- 201: no
                    refine lv_if_eq (tgt := 213) hx hb dX7_restart_204 (by decide) (fun _ => ?_) (fun c204 => absurd (by decide) c204)
                    have hdk0 : I_193 92 4 = 0 := by rw [hk1 4 (by decide), gU_ne hU_187 (by decide), gU_ne hU_179 (by decide), hf 92 (by decide), gU_ne hU_7 (by decide)]; exact gU_eq hU_2
                    have hdk1 : I_193 92 5 = -1 := by rw [hk1 5 (by decide), gU_ne hU_187 (by decide), gU_ne hU_179 (by decide), hf 92 (by decide)]; exact gU_eq hU_7
                    have hdk3 : I_193 92 3 = nI n0 := by rw [hk1 3 (by decide)]; exact gU_eq hU_187
                    refine lv_iload hx hb dX7_restart_213 (lv_at hl 1 rfl) ?_
                    exact g_ri hx hb hr hlocks hG ⟨by rw [(sp_restart_e (T := T) (d := d) (cur := cur) (base := base) (n0 := n0) (n1 := n0 + dn) (T1 := T1) (by omega) (by rw [← hd]; show pu_ldn (I 94) = _; rw [← h94]; exact en0) (by rw [← hd]; show pu_redo (I 94) 40 (pu_ldT (I 94)) n0 = _; rw [← h94]; exact (by rw [← hr1]; exact pu_redo_e (by rw [← hf1 94 (by decide) (by decide)]; exact hh)))), show n0 + dn - n0 = dn by omega], by rw [(sp_restart_e (T := T) (d := d) (cur := cur) (base := base) (n0 := n0) (n1 := n0 + dn) (T1 := T1) (by omega) (by rw [← hd]; show pu_ldn (I 94) = _; rw [← h94]; exact en0) (by rw [← hd]; show pu_redo (I 94) 40 (pu_ldT (I 94)) n0 = _; rw [← h94]; exact (by rw [← hr1]; exact pu_redo_e (by rw [← hf1 94 (by decide) (by decide)]; exact hh))))]; exact ⟨⟨hTb1, Or.inr rfl, Nat.le_add_right _ _, by show n0 + dn ≤ n0 + 40; omega⟩, hT1, Or.inl hdk0, pu_dkrs hd h94 (hf1 94 (by decide) (by decide)) hdk0 hdk1, hc1, hdk3⟩, fun a ha => by rw [hf1 a (by omega) (by omega), hU_7.2 a (by omega), hU_2.2 a (by omega)]⟩ dX7_restart_215
            exact lp193 41 0 (pu_ldT (I_7 94)) _ _ _ (by omega) (by omega) (tM_mem hT2 (by rw [hU_187.2 93 (by decide), hU_179.2 93 (by decide)])) (pu_ldT_tb _) (by rw [gU_ne hU_187 (by decide)]; exact gU_eq hU_179) rfl (fun a h1 h2 => by rw [hU_187.2 a h1, hU_179.2 a h1]; exact hf a h2) (fun _ _ => rfl) hG ls (lv_sub hl [1, 0] rfl)
          · -- 166: goes on
            have b166 := g_ne (a := so) (b := 0) c166 (by omega) (by omega)
            refine lv_aload_n hx hb dX7_restart_169 rfl (lv_at hl 0 rfl) ?_
            refine g_get (v := .ref (ad 94)) hx hb hts (by decide +kernel) hown hK hG 92 (by decide) gc_92 rfl 1 (by decide) (hts (.fieldLink RX7 13 "NeighbourScoresModel" "disk" "[I") (by decide +kernel)) (fun _ h9 => h9) rfl dX7_restart_170 ?_
            refine lv_iload_n hx hb dX7_restart_173 rfl (lv_at hl 1 rfl) ?_
            refine g_iald hx hb hK hG 94 (by decide) gc_94 st0 rfl (by omega) (by omega) dX7_restart_174 ?_
            refine g_i (y := nI n0) (by rw [← en0, hf 94 (by decide)]; exact (pu_ldn_1 (by omega) (by omega)).symm) ?_
            refine lv_goto (tgt := 179) hx hb dX7_restart_175 (by decide) ?_
            refine g_put (ty := .int) hx hb hts (by decide +kernel) tyX7 tyX7_ok nmX7 hown hK hG 92 (by decide) gc_92 rfl 2 (by decide) (hts (.fieldLink RX7 52 "NeighbourScoresModel" "current" "I") (by decide +kernel)) (fun _ h9 => h9) rfl (by decide +kernel) rfl rfl (Nat.le_of_ble_eq_true rfl) (by rw [gc_92]; rfl) dX7_restart_179 (fun I_179 H locs hU_179 hG => ?_)
            refine lv_aload_n hx hb dX7_restart_182 rfl (lv_at hl 0 rfl) ?_
            refine lv_aload_n hx hb dX7_restart_183 rfl (lv_at hl 0 rfl) ?_
            refine g_get (v := .int (I_179 92 2)) hx hb hts (by decide +kernel) hown hK hG 92 (by decide) gc_92 rfl 2 (by decide) (hts (.fieldLink RX7 52 "NeighbourScoresModel" "current" "I") (by decide +kernel)) (fun _ h9 => h9) rfl dX7_restart_184 ?_
            refine g_i (y := nI n0) (gU_eq hU_179) ?_
            refine g_put (ty := .int) hx hb hts (by decide +kernel) tyX7 tyX7_ok nmX7 hown hK hG 92 (by decide) gc_92 rfl 3 (by decide) (hts (.fieldLink RX7 55 "NeighbourScoresModel" "base" "I") (by decide +kernel)) (fun _ h9 => h9) rfl (by decide +kernel) rfl rfl (Nat.le_of_ble_eq_true rfl) (by rw [gc_92]; rfl) dX7_restart_187 (fun I_187 H locs hU_187 hG => ?_)
            refine lv_iconst (v := 0) hx hb dX7_restart_190 (by decide) ?_
            refine lv_istore (lv' := [(5, .int 0), (0, .ref (ad 92)), (3, .int (nI st0)), (4, .int (nI so))]) hx hb dX7_restart_191 hl (by decide) rfl (fun ls hl => ?_)
            have lp193 : ∀ (n : Nat) (dn : Nat) (T1 : Tb) (I_193 : Mi) (H : Heap) (locs : List Loc), (dn ≤ 40) → (41 ≤ dn + n) → (tM I_193 T1) → (pu_tb T1) → (I_193 92 2 = nI (n0 + dn)) → (pu_redo (I_7 94) (40 - dn) T1 (n0 + dn) = pu_redo (I_7 94) 40 (pu_ldT (I_7 94)) n0) → (∀ a, a ≠ 92 → a ≠ 93 → I_193 a = I_7 a) → (∀ k, k ≠ 2 → I_193 92 k = I_187 92 k) → gG D ad tc (gA ad) s.heap I_193 L H locs → ∀ ls : Array Slot, lv_has ls 8 [(0, .ref (ad 92)), (5, .int (nI dn))] → W p l e (headSpec wsX7_restart ({ frames := 3, cells := 0, slots := 0, locals := 73 } : Room)).room s m ([.ref (ad 92)] : List Value).toArray below meth c H locs 0 0 (MQ below (gQi D ad tc (fun z I1 L1 => (sp_restart (T, d, cur, base)).1 = z ∧ repM I1 (sp_restart (T, d, cur, base)).2 ∧ ∀ a, a < 92 → I1 a = I a)) ([.ref (ad 92)] : List Value).toArray s 0 0 (gA ad)) (F0 m 193 ls []) := by
              intro n
              induction n with
              | zero =>
                intro dn T1 I_193 H locs hdn hn hT1 hTb1 hc1 hr1 hf1 hk1 hG ls hl
                exact absurd hn (by omega)
              | succ n ih193 =>
                intro dn T1 I_193 H locs hdn hn hT1 hTb1 hc1 hr1 hf1 hk1 hG ls hl
                refine lv_iload hx hb dX7_restart_193 (lv_at hl 1 rfl) ?_
                refine lv_bipush (v := 40) hx hb dX7_restart_195 (by decide) ?_
                refine lv_icmp_ge (tgt := 213) hx hb dX7_restart_197 (by decide) (fun c197 => ?_) (fun c197 => ?_)
                · -- 197: jumps
                  have b197 := g_le (a := 40) (b := dn) c197 (by omega) (by omega)
                  have hdk0 : I_193 92 4 = 0 := by rw [hk1 4 (by decide), gU_ne hU_187 (by decide), gU_ne hU_179 (by decide), hf 92 (by decide), gU_ne hU_7 (by decide)]; exact gU_eq hU_2
                  have hdk1 : I_193 92 5 = -1 := by rw [hk1 5 (by decide), gU_ne hU_187 (by decide), gU_ne hU_179 (by decide), hf 92 (by decide)]; exact gU_eq hU_7
                  have hdk3 : I_193 92 3 = nI n0 := by rw [hk1 3 (by decide)]; exact gU_eq hU_187
                  refine lv_iload hx hb dX7_restart_213 (lv_at hl 1 rfl) ?_
                  exact g_ri hx hb hr hlocks hG ⟨by rw [(sp_restart_e (T := T) (d := d) (cur := cur) (base := base) (n0 := n0) (n1 := n0 + dn) (T1 := T1) (by omega) (by rw [← hd]; show pu_ldn (I 94) = _; rw [← h94]; exact en0) (by rw [← hd]; show pu_redo (I 94) 40 (pu_ldT (I 94)) n0 = _; rw [← h94]; exact (by rw [← hr1, show 40 - dn = 0 by omega]; rfl))), show n0 + dn - n0 = dn by omega], by rw [(sp_restart_e (T := T) (d := d) (cur := cur) (base := base) (n0 := n0) (n1 := n0 + dn) (T1 := T1) (by omega) (by rw [← hd]; show pu_ldn (I 94) = _; rw [← h94]; exact en0) (by rw [← hd]; show pu_redo (I 94) 40 (pu_ldT (I 94)) n0 = _; rw [← h94]; exact (by rw [← hr1, show 40 - dn = 0 by omega]; rfl)))]; exact ⟨⟨hTb1, Or.inr rfl, Nat.le_add_right _ _, by show n0 + dn ≤ n0 + 40; omega⟩, hT1, Or.inl hdk0, pu_dkrs hd h94 (hf1 94 (by decide) (by decide)) hdk0 hdk1, hc1, hdk3⟩, fun a ha => by rw [hf1 a (by omega) (by omega), hU_7.2 a (by omega), hU_2.2 a (by omega)]⟩ dX7_restart_215
                · -- 197: goes on
                  have b197 := g_nle (a := 40) (b := dn) c197 (by omega) (by omega)
                  refine lv_aload_n hx hb dX7_restart_200 rfl (lv_at hl 0 rfl) ?_
                  refine g_ci (va_runV (As := []) (rest := []) hcx (c_X7_redo l D ad tc I_193 L T1 hTb1 hT1 (n0 + dn) hc1 (by omega)) (cwV 0 hts gX7_restart_X7_redo rfl rfl rfl (by decide +kernel) ⟨Nat.le_of_ble_eq_true rfl, Nat.le_of_ble_eq_true rfl⟩) (g_pV hK hG 92 (by decide) gc_92 rfl) rfl rfl hl.1 rfl (lv_room (Nat.le_of_ble_eq_true rfl)) dX7_restart_201 ⟨Nat.le_refl _, Nat.le_refl _⟩) hK hG (fun r_201 I_201 L_201 H locs hw_201 hG => ?_)
                  obtain ⟨⟨hh, rfl, w, hw3, ew, hTw, hTbw, hcw, hfw, hkw⟩ | ⟨hh, rfl, rfl⟩, rfl⟩ := hw_201
                  · -- 201: yes
                    refine lv_if_eq (tgt := 213) hx hb dX7_restart_204 (by decide) (fun c204 => absurd c204 (by decide)) (fun _ => ?_)
                    refine lv_iinc (v := nI (dn + 1)) (lv' := [(5, .int (nI (dn + 1))), (0, .ref (ad 92))]) hx hb dX7_restart_207 hl (k := 1) rfl (nI_1 _) (by decide) rfl (fun ls hl => ?_)
                    refine lv_goto (tgt := 193) hx hb dX7_restart_210 (by decide) ?_
                    have e94 : I_193 94 = I_7 94 := hf1 94 (by decide) (by decide)
                    rw [e94] at hh ew
                    exact ih193 (dn + 1) _ _ _ _ (by omega) (by omega) hTw hTbw hcw (by rw [← hr1, show 40 - dn = (40 - (dn + 1)) + 1 by omega, pu_redo_s (c := w) hh (by rw [ew]; exact nI_clamp hw3)]; rfl) (fun a h1 h2 => (hfw a h1 h2).trans (hf1 a h1 h2)) (fun k hk => (hkw k hk).trans (hk1 k hk)) hG ls (lv_sub hl [1, 0] rfl)
                  · -- 201: no
                    refine lv_if_eq (tgt := 213) hx hb dX7_restart_204 (by decide) (fun _ => ?_) (fun c204 => absurd (by decide) c204)
                    have hdk0 : I_193 92 4 = 0 := by rw [hk1 4 (by decide), gU_ne hU_187 (by decide), gU_ne hU_179 (by decide), hf 92 (by decide), gU_ne hU_7 (by decide)]; exact gU_eq hU_2
                    have hdk1 : I_193 92 5 = -1 := by rw [hk1 5 (by decide), gU_ne hU_187 (by decide), gU_ne hU_179 (by decide), hf 92 (by decide)]; exact gU_eq hU_7
                    have hdk3 : I_193 92 3 = nI n0 := by rw [hk1 3 (by decide)]; exact gU_eq hU_187
                    refine lv_iload hx hb dX7_restart_213 (lv_at hl 1 rfl) ?_
                    exact g_ri hx hb hr hlocks hG ⟨by rw [(sp_restart_e (T := T) (d := d) (cur := cur) (base := base) (n0 := n0) (n1 := n0 + dn) (T1 := T1) (by omega) (by rw [← hd]; show pu_ldn (I 94) = _; rw [← h94]; exact en0) (by rw [← hd]; show pu_redo (I 94) 40 (pu_ldT (I 94)) n0 = _; rw [← h94]; exact (by rw [← hr1]; exact pu_redo_e (by rw [← hf1 94 (by decide) (by decide)]; exact hh)))), show n0 + dn - n0 = dn by omega], by rw [(sp_restart_e (T := T) (d := d) (cur := cur) (base := base) (n0 := n0) (n1 := n0 + dn) (T1 := T1) (by omega) (by rw [← hd]; show pu_ldn (I 94) = _; rw [← h94]; exact en0) (by rw [← hd]; show pu_redo (I 94) 40 (pu_ldT (I 94)) n0 = _; rw [← h94]; exact (by rw [← hr1]; exact pu_redo_e (by rw [← hf1 94 (by decide) (by decide)]; exact hh))))]; exact ⟨⟨hTb1, Or.inr rfl, Nat.le_add_right _ _, by show n0 + dn ≤ n0 + 40; omega⟩, hT1, Or.inl hdk0, pu_dkrs hd h94 (hf1 94 (by decide) (by decide)) hdk0 hdk1, hc1, hdk3⟩, fun a ha => by rw [hf1 a (by omega) (by omega), hU_7.2 a (by omega), hU_2.2 a (by omega)]⟩ dX7_restart_215
            exact lp193 41 0 (pu_ldT (I_7 94)) _ _ _ (by omega) (by omega) (tM_mem hT2 (by rw [hU_187.2 93 (by decide), hU_179.2 93 (by decide)])) (pu_ldT_tb _) (by rw [gU_ne hU_187 (by decide)]; exact gU_eq hU_179) rfl (fun a h1 h2 => by rw [hU_187.2 a h1, hU_179.2 a h1]; exact hf a h2) (fun _ _ => rfl) hG ls (lv_sub hl [1, 0] rfl)
        · -- 76: goes on
          have b76 := g_nle (a := 12) (b := u) c76 (by omega) (by omega)
          refine lv_iconst (v := 0) hx hb dX7_restart_79 (by decide) ?_
          refine lv_istore (lv' := [(6, .int 0), (0, .ref (ad 92)), (3, .int (nI st0)), (4, .int (nI so)), (5, .int (nI u))]) hx hb dX7_restart_80 hl (by decide) rfl (fun ls hl => ?_)
          have lp82 : ∀ (n : Nat) (i : Nat) (I_82 : Mi) (H : Heap) (locs : List Loc), (i ≤ 16) → (17 ≤ i + n) → (∀ a b, (a < u ∨ (a = u ∧ b < i)) → a < 12 → b < 16 → I_82 93 (16 * a + b) = nI (pu_ldT (I_7 94) a b)) → (∀ a, a ≠ 93 → I_82 a = I_7 a) → gG D ad tc (gA ad) s.heap I_82 L H locs → ∀ ls : Array Slot, lv_has ls 8 [(0, .ref (ad 92)), (3, .int (nI st0)), (4, .int (nI so)), (5, .int (nI u)), (6, .int (nI i))] → W p l e (headSpec wsX7_restart ({ frames := 3, cells := 0, slots := 0, locals := 73 } : Room)).room s m ([.ref (ad 92)] : List Value).toArray below meth c H locs 0 0 (MQ below (gQi D ad tc (fun z I1 L1 => (sp_restart (T, d, cur, base)).1 = z ∧ repM I1 (sp_restart (T, d, cur, base)).2 ∧ ∀ a, a < 92 → I1 a = I a)) ([.ref (ad 92)] : List Value).toArray s 0 0 (gA ad)) (F0 m 82 ls []) := by
            intro n
            induction n with
            | zero =>
              intro i I_82 H locs hi hn2 hq2 hf2 hG ls hl
              exact absurd hn2 (by omega)
            | succ n ih82 =>
              intro i I_82 H locs hi hn2 hq2 hf2 hG ls hl
              refine lv_iload hx hb dX7_restart_82 (lv_at hl 4 rfl) ?_
              refine lv_bipush (v := 16) hx hb dX7_restart_84 (by decide) ?_
              refine lv_icmp_ge (tgt := 157) hx hb dX7_restart_86 (by decide) (fun c86 => ?_) (fun c86 => ?_)
              · -- 86: jumps
                have b86 := g_le (a := 16) (b := i) c86 (by omega) (by omega)
                refine lv_iinc (v := nI (u + 1)) (lv' := [(5, .int (nI (u + 1))), (0, .ref (ad 92)), (3, .int (nI st0)), (4, .int (nI so)), (6, .int (nI i))]) hx hb dX7_restart_157 hl (k := 3) rfl (nI_1 _) (by decide) rfl (fun ls hl => ?_)
                refine lv_goto (tgt := 72) hx hb dX7_restart_160 (by decide) ?_
                exact ih72 (u + 1) _ _ _ (by omega) (by omega) (fun a b h ha hb => hq2 a b (by omega) ha hb) hf2 hG ls (lv_sub hl [1, 2, 3, 0] rfl)
              · -- 86: goes on
                have b86 := g_nle (a := 16) (b := i) c86 (by omega) (by omega)
                refine lv_aload_n hx hb dX7_restart_89 rfl (lv_at hl 0 rfl) ?_
                refine g_get (v := .ref (ad 94)) hx hb hts (by decide +kernel) hown hK hG 92 (by decide) gc_92 rfl 1 (by decide) (hts (.fieldLink RX7 13 "NeighbourScoresModel" "disk" "[I") (by decide +kernel)) (fun _ h9 => h9) rfl dX7_restart_90 ?_
                refine lv_iload_n hx hb dX7_restart_93 rfl (lv_at hl 1 rfl) ?_
                refine lv_iconst (v := 1) hx hb dX7_restart_94 (by decide) ?_
                refine lv_iadd hx hb dX7_restart_95 ?_
                refine g_i (y := nI (st0 + 1)) (nI_add st0 1) ?_
                refine lv_iconst (v := 2) hx hb dX7_restart_96 (by decide) ?_
                refine lv_iload hx hb dX7_restart_97 (lv_at hl 3 rfl) ?_
                refine lv_imul hx hb dX7_restart_99 ?_
                refine g_i (y := nI (2 * u)) (pk_mul 2 u) ?_
                refine lv_iadd hx hb dX7_restart_100 ?_
                refine g_i (y := nI ((st0 + 1) + (2 * u))) (nI_add (st0 + 1) (2 * u)) ?_
                refine lv_iload hx hb dX7_restart_101 (lv_at hl 4 rfl) ?_
                refine lv_bipush (v := 8) hx hb dX7_restart_103 (by decide) ?_
                refine lv_idiv hx hb dX7_restart_105 (by decide) ?_
                refine g_i (y := nI (i / 8)) (pk_div (a := i) (d := 8) (by omega) (by decide) (by decide)) ?_
                refine lv_iadd hx hb dX7_restart_106 ?_
                refine g_i (y := nI (((st0 + 1) + (2 * u)) + (i / 8))) (nI_add ((st0 + 1) + (2 * u)) (i / 8)) ?_
                refine g_iald hx hb hK hG 94 (by decide) gc_94 (((st0 + 1) + (2 * u)) + (i / 8)) rfl (by omega) (by omega) dX7_restart_107 ?_
                refine g_i (y := I_7 94 (st0 + 1 + 2 * u + i / 8)) (by rw [hf2 94 (by decide)]) ?_
                refine lv_iconst (v := 4) hx hb dX7_restart_108 (by decide) ?_
                refine lv_iload hx hb dX7_restart_109 (lv_at hl 4 rfl) ?_
                refine lv_bipush (v := 8) hx hb dX7_restart_111 (by decide) ?_
                refine lv_irem hx hb dX7_restart_113 (by decide) ?_
                refine g_i (y := nI (i % 8)) (pk_rem (a := i) (d := 8) (by omega) (by decide) (by decide)) ?_
                refine lv_imul hx hb dX7_restart_114 ?_
                refine g_i (y := nI (4 * (i % 8))) (pk_mul 4 (i % 8)) ?_
                refine lv_ishr hx hb dX7_restart_115 ?_
                refine lv_bipush (v := 15) hx hb dX7_restart_116 (by decide) ?_
                refine lv_iand hx hb dX7_restart_118 ?_
                refine g_i (y := nI ((I_7 94 (st0 + 1 + 2 * u + i / 8)).toBitVec.toNat / 2 ^ (4 * (i % 8)) % 16)) (pu_nibM _ (i % 8) (by omega)) ?_
                refine lv_istore (lv' := [(7, .int (nI ((I_7 94 (st0 + 1 + 2 * u + i / 8)).toBitVec.toNat / 2 ^ (4 * (i % 8)) % 16))), (0, .ref (ad 92)), (3, .int (nI st0)), (4, .int (nI so)), (5, .int (nI u)), (6, .int (nI i))]) hx hb dX7_restart_119 hl (by decide) rfl (fun ls hl => ?_)
                refine lv_aload_n hx hb dX7_restart_121 rfl (lv_at hl 1 rfl) ?_
                refine g_get (v := .ref (ad 93)) hx hb hts (by decide +kernel) hown hK hG 92 (by decide) gc_92 rfl 0 (by decide) (hts (.fieldLink RX7 7 "NeighbourScoresModel" "rated" "[I") (by decide +kernel)) (fun _ h9 => h9) rfl dX7_restart_122 ?_
                refine lv_bipush (v := 16) hx hb dX7_restart_125 (by decide) ?_
                refine lv_iload hx hb dX7_restart_127 (lv_at hl 4 rfl) ?_
                refine lv_imul hx hb dX7_restart_129 ?_
                refine g_i (y := nI (16 * u)) (pk_mul 16 u) ?_
                refine lv_iload hx hb dX7_restart_130 (lv_at hl 5 rfl) ?_
                refine lv_iadd hx hb dX7_restart_132 ?_
                refine g_i (y := nI ((16 * u) + i)) (nI_add (16 * u) i) ?_
                refine lv_iload hx hb dX7_restart_133 (lv_at hl 3 rfl) ?_
                refine lv_if_eq (tgt := 149) hx hb dX7_restart_135 (by decide) (fun c135 => ?_) (fun c135 => ?_)
                · -- 135: jumps
                  have b135 := g_eq (a := so) (b := 0) c135 (by omega) (by omega)
                  refine lv_iconst (v := 0) hx hb dX7_restart_149 (by decide) ?_
                  refine g_iast hx hb hK hG 93 (by decide) (fun _ => gc_93) ((16 * u) + i) rfl (by omega) (by omega) dX7_restart_150 (fun I_150 H locs hU_150 hG => ?_)
                  refine lv_iinc (v := nI (i + 1)) (lv' := [(6, .int (nI (i + 1))), (7, .int (nI ((I_7 94 (st0 + 1 + 2 * u + i / 8)).toBitVec.toNat / 2 ^ (4 * (i % 8)) % 16))), (0, .ref (ad 92)), (3, .int (nI st0)), (4, .int (nI so)), (5, .int (nI u))]) hx hb dX7_restart_151 hl (k := 5) rfl (nI_1 _) (by decide) rfl (fun ls hl => ?_)
                  refine lv_goto (tgt := 82) hx hb dX7_restart_154 (by decide) ?_
                  exact ih82 (i + 1) _ _ _ (by omega) (by omega) (pu_mrow hq2 hU_150 (by omega) (by rw [pu_ldT_2 (by omega)]; exact nI_0)) (fun a ha => (hU_150.2 a ha).trans (hf2 a ha)) hG ls (lv_sub hl [2, 3, 4, 5, 0] rfl)
                · -- 135: goes on
                  have b135 := g_ne (a := so) (b := 0) c135 (by omega) (by omega)
                  refine lv_iload hx hb dX7_restart_138 (lv_at hl 0 rfl) ?_
                  refine lv_iconst (v := 5) hx hb dX7_restart_140 (by decide) ?_
                  refine lv_icmp_gt (tgt := 149) hx hb dX7_restart_141 (by decide) (fun c141 => ?_) (fun c141 => ?_)
                  · -- 141: jumps
                    have b141 := g_lt (a := 5) (b := ((I_7 94 (st0 + 1 + 2 * u + i / 8)).toBitVec.toNat / 2 ^ (4 * (i % 8)) % 16)) c141 (by omega) (by omega)
                    refine lv_iconst (v := 0) hx hb dX7_restart_149 (by decide) ?_
                    refine g_iast hx hb hK hG 93 (by decide) (fun _ => gc_93) ((16 * u) + i) rfl (by omega) (by omega) dX7_restart_150 (fun I_150 H locs hU_150 hG => ?_)
                    refine lv_iinc (v := nI (i + 1)) (lv' := [(6, .int (nI (i + 1))), (7, .int (nI ((I_7 94 (st0 + 1 + 2 * u + i / 8)).toBitVec.toNat / 2 ^ (4 * (i % 8)) % 16))), (0, .ref (ad 92)), (3, .int (nI st0)), (4, .int (nI so)), (5, .int (nI u))]) hx hb dX7_restart_151 hl (k := 5) rfl (nI_1 _) (by decide) rfl (fun ls hl => ?_)
                    refine lv_goto (tgt := 82) hx hb dX7_restart_154 (by decide) ?_
                    exact ih82 (i + 1) _ _ _ (by omega) (by omega) (pu_mrow hq2 hU_150 (by omega) (by rw [pu_ldT_1 (st := st0) (by omega) (by omega), pu_nib_f rfl b141]; exact nI_0)) (fun a ha => (hU_150.2 a ha).trans (hf2 a ha)) hG ls (lv_sub hl [2, 3, 4, 5, 0] rfl)
                  · -- 141: goes on
                    have b141 := g_nlt (a := 5) (b := ((I_7 94 (st0 + 1 + 2 * u + i / 8)).toBitVec.toNat / 2 ^ (4 * (i % 8)) % 16)) c141 (by omega) (by omega)
                    refine lv_iload hx hb dX7_restart_144 (lv_at hl 0 rfl) ?_
                    refine lv_goto (tgt := 150) hx hb dX7_restart_146 (by decide) ?_
                    refine g_iast hx hb hK hG 93 (by decide) (fun _ => gc_93) ((16 * u) + i) rfl (by omega) (by omega) dX7_restart_150 (fun I_150 H locs hU_150 hG => ?_)
                    refine lv_iinc (v := nI (i + 1)) (lv' := [(6, .int (nI (i + 1))), (7, .int (nI ((I_7 94 (st0 + 1 + 2 * u + i / 8)).toBitVec.toNat / 2 ^ (4 * (i % 8)) % 16))), (0, .ref (ad 92)), (3, .int (nI st0)), (4, .int (nI so)), (5, .int (nI u))]) hx hb dX7_restart_151 hl (k := 5) rfl (nI_1 _) (by decide) rfl (fun ls hl => ?_)
                    refine lv_goto (tgt := 82) hx hb dX7_restart_154 (by decide) ?_
                    exact ih82 (i + 1) _ _ _ (by omega) (by omega) (pu_mrow hq2 hU_150 (by omega) (by rw [pu_ldT_1 (st := st0) (by omega) (by omega), pu_nib_t rfl b141])) (fun a ha => (hU_150.2 a ha).trans (hf2 a ha)) hG ls (lv_sub hl [2, 3, 4, 5, 0] rfl)
          exact lp82 17 0 _ _ _ (by omega) (by omega) hq hf hG ls (lv_sub hl [1, 2, 3, 4, 0] rfl)
    exact lp72 13 0 _ _ _ (by omega) (by omega) (fun a b h => by omega) (fun _ _ => rfl) hG ls (lv_sub hl [1, 2, 3, 0] rfl)
  refine lv_iconst (v := 0) hx hb dX7_restart_11 (by decide) ?_
  refine g_si (va_runV (As := [.int 0]) (rest := []) hcx (c_X7_good l D ad tc I_7 L 0 (by decide)) (cwV 1 hts gX7_restart_X7_good rfl rfl rfl (by decide +kernel) ⟨Nat.le_of_ble_eq_true rfl, Nat.le_of_ble_eq_true rfl⟩) (g_pV hK hG 92 (by decide) gc_92 rfl) rfl rfl hl.1 rfl (lv_room (Nat.le_of_ble_eq_true rfl)) dX7_restart_12 ⟨Nat.le_refl _, Nat.le_refl _⟩) (fun r_12 hw_12 => ?_)
  rcases hw_12 with ⟨hw_12, rfl⟩ | ⟨hw_12, rfl⟩
  · -- 12: yes
    refine lv_istore_n (lv' := [(1, .int 1), (0, .ref (ad 92))]) hx hb dX7_restart_15 rfl hl (by decide) rfl (fun ls hl => ?_)
    refine lv_aload_n hx hb dX7_restart_16 rfl (lv_at hl 1 rfl) ?_
    refine lv_bipush (v := 26) hx hb dX7_restart_17 (by decide) ?_
    refine g_si (va_runV (As := [.int 26]) (rest := []) hcx (c_X7_good l D ad tc I_7 L 26 (by decide)) (cwV 1 hts gX7_restart_X7_good rfl rfl rfl (by decide +kernel) ⟨Nat.le_of_ble_eq_true rfl, Nat.le_of_ble_eq_true rfl⟩) (g_pV hK hG 92 (by decide) gc_92 rfl) rfl rfl hl.1 rfl (lv_room (Nat.le_of_ble_eq_true rfl)) dX7_restart_19 ⟨Nat.le_refl _, Nat.le_refl _⟩) (fun r_19 hw_19 => ?_)
    rcases hw_19 with ⟨hw_19, rfl⟩ | ⟨hw_19, rfl⟩
    · -- 19: yes
      refine lv_istore_n (lv' := [(2, .int 1), (1, .int 1), (0, .ref (ad 92))]) hx hb dX7_restart_22 rfl hl (by decide) rfl (fun ls hl => ?_)
      refine lv_iload_n hx hb dX7_restart_23 rfl (lv_at hl 0 rfl) ?_
      refine lv_if_eq (tgt := 52) hx hb dX7_restart_24 (by decide) (fun c24 => absurd c24 (by decide)) (fun _ => ?_)
      refine lv_iload_n hx hb dX7_restart_27 rfl (lv_at hl 1 rfl) ?_
      refine lv_if_eq (tgt := 47) hx hb dX7_restart_28 (by decide) (fun c28 => absurd c28 (by decide)) (fun _ => ?_)
      refine lv_aload_n hx hb dX7_restart_31 rfl (lv_at hl 2 rfl) ?_
      refine g_get (v := .ref (ad 94)) hx hb hts (by decide +kernel) hown hK hG 92 (by decide) gc_92 rfl 1 (by decide) (hts (.fieldLink RX7 13 "NeighbourScoresModel" "disk" "[I") (by decide +kernel)) (fun _ h9 => h9) rfl dX7_restart_32 ?_
      refine lv_bipush (v := 26) hx hb dX7_restart_35 (by decide) ?_
      refine g_iald hx hb hK hG 94 (by decide) gc_94 26 rfl (by omega) (by omega) dX7_restart_37 ?_
      refine lv_aload_n hx hb dX7_restart_38 rfl (lv_at hl 2 rfl) ?_
      refine g_get (v := .ref (ad 94)) hx hb hts (by decide +kernel) hown hK hG 92 (by decide) gc_92 rfl 1 (by decide) (hts (.fieldLink RX7 13 "NeighbourScoresModel" "disk" "[I") (by decide +kernel)) (fun _ h9 => h9) rfl dX7_restart_39 ?_
      refine lv_iconst (v := 0) hx hb dX7_restart_42 (by decide) ?_
      refine g_iald hx hb hK hG 94 (by decide) gc_94 0 rfl (by omega) (by omega) dX7_restart_43 ?_
      refine lv_icmp_le (tgt := 52) hx hb dX7_restart_44 (by decide) (fun c44 => ?_) (fun c44 => ?_)
      · -- 44: jumps
        refine lv_iconst (v := 0) hx hb dX7_restart_52 (by decide) ?_
        refine lv_istore_n (lv' := [(3, .int 0), (2, .int 1), (1, .int 1), (0, .ref (ad 92))]) hx hb dX7_restart_53 rfl hl (by decide) rfl (fun ls hl => ?_)
        refine lv_iload_n hx hb dX7_restart_54 rfl (lv_at hl 2 rfl) ?_
        refine lv_if_ne (tgt := 62) hx hb dX7_restart_55 (by decide) (fun _ => ?_) (fun c55 => absurd c55 (by decide))
        refine lv_iconst (v := 1) hx hb dX7_restart_62 (by decide) ?_
        refine lv_goto (tgt := 67) hx hb dX7_restart_63 (by decide) ?_
        refine lv_istore (lv' := [(4, .int 1), (3, .int 0), (2, .int 1), (1, .int 1), (0, .ref (ad 92))]) hx hb dX7_restart_67 hl (by decide) rfl (fun ls hl => ?_)
        exact jn69 1 0 (Or.inr ⟨rfl, by rw [pu_nw_yy0 hw_12 hw_19 (Int32.not_lt.mpr c44)]; decide, by rw [pu_nw_yy0 hw_12 hw_19 (Int32.not_lt.mpr c44)]⟩) ls (lv_sub hl [4, 1, 0] rfl)
      · -- 44: goes on
        refine lv_bipush (v := 26) hx hb dX7_restart_47 (by decide) ?_
        refine lv_goto (tgt := 53) hx hb dX7_restart_49 (by decide) ?_
        refine lv_istore_n (lv' := [(3, .int 26), (2, .int 1), (1, .int 1), (0, .ref (ad 92))]) hx hb dX7_restart_53 rfl hl (by decide) rfl (fun ls hl => ?_)
        refine lv_iload_n hx hb dX7_restart_54 rfl (lv_at hl 2 rfl) ?_
        refine lv_if_ne (tgt := 62) hx hb dX7_restart_55 (by decide) (fun _ => ?_) (fun c55 => absurd c55 (by decide))
        refine lv_iconst (v := 1) hx hb dX7_restart_62 (by decide) ?_
        refine lv_goto (tgt := 67) hx hb dX7_restart_63 (by decide) ?_
        refine lv_istore (lv' := [(4, .int 1), (3, .int 26), (2, .int 1), (1, .int 1), (0, .ref (ad 92))]) hx hb dX7_restart_67 hl (by decide) rfl (fun ls hl => ?_)
        exact jn69 1 26 (Or.inr ⟨rfl, by rw [pu_nw_yy1 hw_12 hw_19 (Int32.not_le.mp c44)]; decide, by rw [pu_nw_yy1 hw_12 hw_19 (Int32.not_le.mp c44)]⟩) ls (lv_sub hl [4, 1, 0] rfl)
    · -- 19: no
      refine lv_istore_n (lv' := [(2, .int 0), (1, .int 1), (0, .ref (ad 92))]) hx hb dX7_restart_22 rfl hl (by decide) rfl (fun ls hl => ?_)
      refine lv_iload_n hx hb dX7_restart_23 rfl (lv_at hl 0 rfl) ?_
      refine lv_if_eq (tgt := 52) hx hb dX7_restart_24 (by decide) (fun _ => ?_) (fun c24 => absurd (by decide) c24)
      refine lv_iconst (v := 0) hx hb dX7_restart_52 (by decide) ?_
      refine lv_istore_n (lv' := [(3, .int 0), (2, .int 0), (1, .int 1), (0, .ref (ad 92))]) hx hb dX7_restart_53 rfl hl (by decide) rfl (fun ls hl => ?_)
      refine lv_iload_n hx hb dX7_restart_54 rfl (lv_at hl 2 rfl) ?_
      refine lv_if_ne (tgt := 62) hx hb dX7_restart_55 (by decide) (fun _ => ?_) (fun c55 => absurd c55 (by decide))
      refine lv_iconst (v := 1) hx hb dX7_restart_62 (by decide) ?_
      refine lv_goto (tgt := 67) hx hb dX7_restart_63 (by decide) ?_
      refine lv_istore (lv' := [(4, .int 1), (3, .int 0), (2, .int 0), (1, .int 1), (0, .ref (ad 92))]) hx hb dX7_restart_67 hl (by decide) rfl (fun ls hl => ?_)
      exact jn69 1 0 (Or.inr ⟨rfl, by rw [pu_nw_yn hw_12 hw_19]; decide, by rw [pu_nw_yn hw_12 hw_19]⟩) ls (lv_sub hl [4, 1, 0] rfl)
  · -- 12: no
    refine lv_istore_n (lv' := [(1, .int 0), (0, .ref (ad 92))]) hx hb dX7_restart_15 rfl hl (by decide) rfl (fun ls hl => ?_)
    refine lv_aload_n hx hb dX7_restart_16 rfl (lv_at hl 1 rfl) ?_
    refine lv_bipush (v := 26) hx hb dX7_restart_17 (by decide) ?_
    refine g_si (va_runV (As := [.int 26]) (rest := []) hcx (c_X7_good l D ad tc I_7 L 26 (by decide)) (cwV 1 hts gX7_restart_X7_good rfl rfl rfl (by decide +kernel) ⟨Nat.le_of_ble_eq_true rfl, Nat.le_of_ble_eq_true rfl⟩) (g_pV hK hG 92 (by decide) gc_92 rfl) rfl rfl hl.1 rfl (lv_room (Nat.le_of_ble_eq_true rfl)) dX7_restart_19 ⟨Nat.le_refl _, Nat.le_refl _⟩) (fun r_19 hw_19 => ?_)
    rcases hw_19 with ⟨hw_19, rfl⟩ | ⟨hw_19, rfl⟩
    · -- 19: yes
      refine lv_istore_n (lv' := [(2, .int 1), (1, .int 0), (0, .ref (ad 92))]) hx hb dX7_restart_22 rfl hl (by decide) rfl (fun ls hl => ?_)
      refine lv_iload_n hx hb dX7_restart_23 rfl (lv_at hl 0 rfl) ?_
      refine lv_if_eq (tgt := 52) hx hb dX7_restart_24 (by decide) (fun c24 => absurd c24 (by decide)) (fun _ => ?_)
      refine lv_iload_n hx hb dX7_restart_27 rfl (lv_at hl 1 rfl) ?_
      refine lv_if_eq (tgt := 47) hx hb dX7_restart_28 (by decide) (fun _ => ?_) (fun c28 => absurd (by decide) c28)
      refine lv_bipush (v := 26) hx hb dX7_restart_47 (by decide) ?_
      refine lv_goto (tgt := 53) hx hb dX7_restart_49 (by decide) ?_
      refine lv_istore_n (lv' := [(3, .int 26), (2, .int 1), (1, .int 0), (0, .ref (ad 92))]) hx hb dX7_restart_53 rfl hl (by decide) rfl (fun ls hl => ?_)
      refine lv_iload_n hx hb dX7_restart_54 rfl (lv_at hl 2 rfl) ?_
      refine lv_if_ne (tgt := 62) hx hb dX7_restart_55 (by decide) (fun c55 => absurd (by decide) c55) (fun _ => ?_)
      refine lv_iload_n hx hb dX7_restart_58 rfl (lv_at hl 1 rfl) ?_
      refine lv_if_eq (tgt := 66) hx hb dX7_restart_59 (by decide) (fun c59 => absurd c59 (by decide)) (fun _ => ?_)
      refine lv_iconst (v := 1) hx hb dX7_restart_62 (by decide) ?_
      refine lv_goto (tgt := 67) hx hb dX7_restart_63 (by decide) ?_
      refine lv_istore (lv' := [(4, .int 1), (3, .int 26), (2, .int 1), (1, .int 0), (0, .ref (ad 92))]) hx hb dX7_restart_67 hl (by decide) rfl (fun ls hl => ?_)
      exact jn69 1 26 (Or.inr ⟨rfl, by rw [pu_nw_ny hw_12 hw_19]; decide, by rw [pu_nw_ny hw_12 hw_19]⟩) ls (lv_sub hl [4, 1, 0] rfl)
    · -- 19: no
      refine lv_istore_n (lv' := [(2, .int 0), (1, .int 0), (0, .ref (ad 92))]) hx hb dX7_restart_22 rfl hl (by decide) rfl (fun ls hl => ?_)
      refine lv_iload_n hx hb dX7_restart_23 rfl (lv_at hl 0 rfl) ?_
      refine lv_if_eq (tgt := 52) hx hb dX7_restart_24 (by decide) (fun _ => ?_) (fun c24 => absurd (by decide) c24)
      refine lv_iconst (v := 0) hx hb dX7_restart_52 (by decide) ?_
      refine lv_istore_n (lv' := [(3, .int 0), (2, .int 0), (1, .int 0), (0, .ref (ad 92))]) hx hb dX7_restart_53 rfl hl (by decide) rfl (fun ls hl => ?_)
      refine lv_iload_n hx hb dX7_restart_54 rfl (lv_at hl 2 rfl) ?_
      refine lv_if_ne (tgt := 62) hx hb dX7_restart_55 (by decide) (fun c55 => absurd (by decide) c55) (fun _ => ?_)
      refine lv_iload_n hx hb dX7_restart_58 rfl (lv_at hl 1 rfl) ?_
      refine lv_if_eq (tgt := 66) hx hb dX7_restart_59 (by decide) (fun _ => ?_) (fun c59 => absurd (by decide) c59)
      refine lv_iconst (v := 0) hx hb dX7_restart_66 (by decide) ?_
      refine lv_istore (lv' := [(4, .int 0), (3, .int 0), (2, .int 0), (1, .int 0), (0, .ref (ad 92))]) hx hb dX7_restart_67 hl (by decide) rfl (fun ls hl => ?_)
      exact jn69 0 0 (Or.inl ⟨rfl, pu_nw_nn hw_12 hw_19, rfl⟩) ls (lv_sub hl [4, 1, 0] rfl)
