def snL (tc : Nat → ClassId) (b0 : Nat) : List va_E := [.inr (5, [.ref (b0 + 1)]), .inl (tc 0, 26, .inl (fun _ => 0))]
set_option maxHeartbeats 4000000 in
set_option maxRecDepth 100000 in
theorem c_X5_init (l : Launch) (D : va_G) (tc : Nat → ClassId) (b0 : Nat) : Met l yX5_init wsX5_init ({ frames := 1, cells := 1, slots := 26, locals := 12 } : Room) (va_Pc [.ref (b0 + 0)] (kPc D tc b0 [.inr (5, [.null])])) (kQv D b0 (snL tc b0)) 1 26 (kA b0) := by
  refine k_of (by decide) rfl rfl (Nat.le_of_ble_eq_true rfl) ?_
  intro p e s m below meth c hcx hr hlocks hin hK hG ls hl
  obtain ⟨hx, hb, hml, hown, hts⟩ := id hcx
  have hl : lv_has ls 1 [(0, .ref (b0 + 0))] := hl
  refine lv_aload_n hx hb dX5_init_0 rfl (lv_at hl 0 rfl) ?_
  refine W.objInit hx hb hown (hts (.methodLink RX5 3 objectInit) (by decide +kernel)) (hts (.instanceMethod objectInit) (by decide +kernel)) (hts (.code objectInit ⟨#[0xb1]⟩ 1 none) (by decide +kernel)) rfl (by rw [hml]; exact hl.1) rfl dX5_init_1 (Nat.le_of_ble_eq_true rfl) (Nat.le_of_ble_eq_true rfl) ?_
  refine W.eq (g2 := F0 m 4 ls []) rfl ?_
  refine lv_aload_n hx hb dX5_init_4 rfl (lv_at hl 0 rfl) ?_
  refine lv_bipush (v := 26) hx hb dX5_init_5 (by decide) ?_
  refine k_newA hx hb (atype := .int) (ty := .int) (hts (.arrayClass .int) (by decide +kernel)) rfl 0 (cA := tc 0) rfl (fun _ h1 h2 => Option.some.inj (h1.symm.trans h2)) hK hG (a0 := (26, .inl (fun _ => 0))) (vp_cell_i ..) (N' := 26) (by decide +kernel) (by decide +kernel) (by decide +kernel) (Nat.le_of_ble_eq_true rfl) (Nat.le_of_ble_eq_true rfl) dX5_init_7 (fun H hG => ?_)
  have hG : kG D b0 s.heap ([.inr (5, [.null]), .inl (tc 0, 26, .inl (fun _ => 0))]) H _ := hG
  refine W.eq (g2 := F0 m 9 ls [.ref (b0 + 1), .ref (b0 + 0)]) rfl ?_
  refine k_putF (ty := .array .int) hx hb hts (by decide +kernel) tyX5 tyX5_ok nmX5 hown hK hG 0 rfl rfl 0 (by decide) (hts (.fieldLink RX5 11 "NeighbourScores$Snapshots" "row" "[I") (by decide +kernel)) (fun _ h9 => h9) rfl hin rfl (by decide +kernel) rfl rfl (Nat.le_of_ble_eq_true rfl) dX5_init_9 (fun H locs hG => ?_)
  have hG : kG D b0 s.heap ([.inr (5, [.ref (b0 + 1)]), .inl (tc 0, 26, .inl (fun _ => 0))]) H _ := hG
  exact k_ret hx hb hr hlocks hG dX5_init_12 (Nat.le_of_ble_eq_true rfl) (Nat.le_of_ble_eq_true rfl)

def rcL (tc : Nat → ClassId) (b0 : Nat) : List va_E := [.inr (4, [.ref (b0 + 1)]), .inl (tc 0, 3, .inl (fun _ => 0))]
set_option maxHeartbeats 4000000 in
set_option maxRecDepth 100000 in
theorem c_X4_init (l : Launch) (D : va_G) (tc : Nat → ClassId) (b0 : Nat) : Met l yX4_init wsX4_init ({ frames := 1, cells := 1, slots := 3, locals := 12 } : Room) (va_Pc [.ref (b0 + 0)] (kPc D tc b0 [.inr (4, [.null])])) (kQv D b0 (rcL tc b0)) 1 3 (kA b0) := by
  refine k_of (by decide) rfl rfl (Nat.le_of_ble_eq_true rfl) ?_
  intro p e s m below meth c hcx hr hlocks hin hK hG ls hl
  obtain ⟨hx, hb, hml, hown, hts⟩ := id hcx
  have hl : lv_has ls 1 [(0, .ref (b0 + 0))] := hl
  refine lv_aload_n hx hb dX4_init_0 rfl (lv_at hl 0 rfl) ?_
  refine W.objInit hx hb hown (hts (.methodLink RX4 5 objectInit) (by decide +kernel)) (hts (.instanceMethod objectInit) (by decide +kernel)) (hts (.code objectInit ⟨#[0xb1]⟩ 1 none) (by decide +kernel)) rfl (by rw [hml]; exact hl.1) rfl dX4_init_1 (Nat.le_of_ble_eq_true rfl) (Nat.le_of_ble_eq_true rfl) ?_
  refine W.eq (g2 := F0 m 4 ls []) rfl ?_
  refine lv_aload_n hx hb dX4_init_4 rfl (lv_at hl 0 rfl) ?_
  refine lv_iconst (v := 3) hx hb dX4_init_5 (by decide) ?_
  refine k_newA hx hb (atype := .int) (ty := .int) (hts (.arrayClass .int) (by decide +kernel)) rfl 0 (cA := tc 0) rfl (fun _ h1 h2 => Option.some.inj (h1.symm.trans h2)) hK hG (a0 := (3, .inl (fun _ => 0))) (vp_cell_i ..) (N' := 3) (by decide +kernel) (by decide +kernel) (by decide +kernel) (Nat.le_of_ble_eq_true rfl) (Nat.le_of_ble_eq_true rfl) dX4_init_6 (fun H hG => ?_)
  have hG : kG D b0 s.heap ([.inr (4, [.null]), .inl (tc 0, 3, .inl (fun _ => 0))]) H _ := hG
  refine W.eq (g2 := F0 m 8 ls [.ref (b0 + 1), .ref (b0 + 0)]) rfl ?_
  refine k_putF (ty := .array .int) hx hb hts (by decide +kernel) tyX4 tyX4_ok nmX4 hown hK hG 0 rfl rfl 0 (by decide) (hts (.fieldLink RX4 13 "NeighbourScores$Records" "row" "[I") (by decide +kernel)) (fun _ h9 => h9) rfl hin rfl (by decide +kernel) rfl rfl (Nat.le_of_ble_eq_true rfl) dX4_init_8 (fun H locs hG => ?_)
  have hG : kG D b0 s.heap ([.inr (4, [.ref (b0 + 1)]), .inl (tc 0, 3, .inl (fun _ => 0))]) H _ := hG
  exact k_ret hx hb hr hlocks hG dX4_init_11 (Nat.le_of_ble_eq_true rfl) (Nat.le_of_ble_eq_true rfl)

def rkL (tc : Nat → ClassId) (b0 : Nat) : List va_E := [.inr (1, [.ref (b0 + 1), .ref (b0 + 2), .int 0]), .inl (tc 0, 16, .inl (fun _ => 0)), .inl (tc 1, 16, .inr (.inl (fun _ => 0)))]
set_option maxHeartbeats 4000000 in
set_option maxRecDepth 100000 in
theorem c_X1_init (l : Launch) (D : va_G) (tc : Nat → ClassId) (b0 : Nat) : Met l yX1_init wsX1_init ({ frames := 1, cells := 2, slots := 32, locals := 12 } : Room) (va_Pc [.ref (b0 + 0)] (kPc D tc b0 [.inr (1, [.null, .null, .int 0])])) (kQv D b0 (rkL tc b0)) 2 32 (kA b0) := by
  refine k_of (by decide) rfl rfl (Nat.le_of_ble_eq_true rfl) ?_
  intro p e s m below meth c hcx hr hlocks hin hK hG ls hl
  obtain ⟨hx, hb, hml, hown, hts⟩ := id hcx
  have hl : lv_has ls 1 [(0, .ref (b0 + 0))] := hl
  refine lv_aload_n hx hb dX1_init_0 rfl (lv_at hl 0 rfl) ?_
  refine W.objInit hx hb hown (hts (.methodLink RX1 3 objectInit) (by decide +kernel)) (hts (.instanceMethod objectInit) (by decide +kernel)) (hts (.code objectInit ⟨#[0xb1]⟩ 1 none) (by decide +kernel)) rfl (by rw [hml]; exact hl.1) rfl dX1_init_1 (Nat.le_of_ble_eq_true rfl) (Nat.le_of_ble_eq_true rfl) ?_
  refine W.eq (g2 := F0 m 4 ls []) rfl ?_
  refine lv_aload_n hx hb dX1_init_4 rfl (lv_at hl 0 rfl) ?_
  refine lv_bipush (v := 16) hx hb dX1_init_5 (by decide) ?_
  refine k_newA hx hb (atype := .int) (ty := .int) (hts (.arrayClass .int) (by decide +kernel)) rfl 0 (cA := tc 0) rfl (fun _ h1 h2 => Option.some.inj (h1.symm.trans h2)) hK hG (a0 := (16, .inl (fun _ => 0))) (vp_cell_i ..) (N' := 16) (by decide +kernel) (by decide +kernel) (by decide +kernel) (Nat.le_of_ble_eq_true rfl) (Nat.le_of_ble_eq_true rfl) dX1_init_7 (fun H hG => ?_)
  have hG : kG D b0 s.heap ([.inr (1, [.null, .null, .int 0]), .inl (tc 0, 16, .inl (fun _ => 0))]) H _ := hG
  refine W.eq (g2 := F0 m 9 ls [.ref (b0 + 1), .ref (b0 + 0)]) rfl ?_
  refine k_putF (ty := .array .int) hx hb hts (by decide +kernel) tyX1 tyX1_ok nmX1 hown hK hG 0 rfl rfl 0 (by decide) (hts (.fieldLink RX1 9 "NeighbourScores$Ranking" "items" "[I") (by decide +kernel)) (fun _ h9 => h9) rfl hin rfl (by decide +kernel) rfl rfl (Nat.le_of_ble_eq_true rfl) dX1_init_9 (fun H locs hG => ?_)
  have hG : kG D b0 s.heap ([.inr (1, [.ref (b0 + 1), .null, .int 0]), .inl (tc 0, 16, .inl (fun _ => 0))]) H _ := hG
  refine lv_aload_n hx hb dX1_init_12 rfl (lv_at hl 0 rfl) ?_
  refine lv_bipush (v := 16) hx hb dX1_init_13 (by decide) ?_
  refine k_newA hx hb (atype := .long) (ty := .long) (hts (.arrayClass .long) (by decide +kernel)) rfl 1 (cA := tc 1) rfl (fun _ h1 h2 => Option.some.inj (h1.symm.trans h2)) hK hG (a0 := (16, .inr (.inl (fun _ => 0)))) (vp_cell_l ..) (N' := 16) (by decide +kernel) (by decide +kernel) (by decide +kernel) (Nat.le_of_ble_eq_true rfl) (Nat.le_of_ble_eq_true rfl) dX1_init_15 (fun H hG => ?_)
  have hG : kG D b0 s.heap ([.inr (1, [.ref (b0 + 1), .null, .int 0]), .inl (tc 0, 16, .inl (fun _ => 0)), .inl (tc 1, 16, .inr (.inl (fun _ => 0)))]) H _ := hG
  refine W.eq (g2 := F0 m 17 ls [.ref (b0 + 2), .ref (b0 + 0)]) rfl ?_
  refine k_putF (ty := .array .long) hx hb hts (by decide +kernel) tyX1 tyX1_ok nmX1 hown hK hG 0 rfl rfl 1 (by decide) (hts (.fieldLink RX1 15 "NeighbourScores$Ranking" "values" "[J") (by decide +kernel)) (fun _ h9 => h9) rfl hin rfl (by decide +kernel) rfl rfl (Nat.le_of_ble_eq_true rfl) dX1_init_17 (fun H locs hG => ?_)
  have hG : kG D b0 s.heap ([.inr (1, [.ref (b0 + 1), .ref (b0 + 2), .int 0]), .inl (tc 0, 16, .inl (fun _ => 0)), .inl (tc 1, 16, .inr (.inl (fun _ => 0)))]) H _ := hG
  refine lv_aload_n hx hb dX1_init_20 rfl (lv_at hl 0 rfl) ?_
  refine lv_iconst (v := 0) hx hb dX1_init_21 (by decide) ?_
  refine k_put (ty := .int) hx hb hts (by decide +kernel) tyX1 tyX1_ok nmX1 hown hK hG 0 rfl rfl 2 (by decide) (hts (.fieldLink RX1 19 "NeighbourScores$Ranking" "size" "I") (by decide +kernel)) (fun _ h9 => h9) rfl (by decide +kernel) rfl rfl (Nat.le_of_ble_eq_true rfl) dX1_init_22 (fun H locs hG => ?_)
  have hG : kG D b0 s.heap ([.inr (1, [.ref (b0 + 1), .ref (b0 + 2), .int 0]), .inl (tc 0, 16, .inl (fun _ => 0)), .inl (tc 1, 16, .inr (.inl (fun _ => 0)))]) H _ := hG
  exact k_ret hx hb hr hlocks hG dX1_init_25 (Nat.le_of_ble_eq_true rfl) (Nat.le_of_ble_eq_true rfl)

def rtL (tc : Nat → ClassId) (b0 : Nat) : List va_E := [.inr (2, [.ref (b0 + 1), .ref (b0 + 14)]), .inl (tc 3, 12, .inr (.inr (.inr (.inr (kOut b0 12 1))))), .inl (tc 0, 16, .inl (fun _ => 0)), .inl (tc 0, 16, .inl (fun _ => 0)), .inl (tc 0, 16, .inl (fun _ => 0)), .inl (tc 0, 16, .inl (fun _ => 0)), .inl (tc 0, 16, .inl (fun _ => 0)), .inl (tc 0, 16, .inl (fun _ => 0)), .inl (tc 0, 16, .inl (fun _ => 0)), .inl (tc 0, 16, .inl (fun _ => 0)), .inl (tc 0, 16, .inl (fun _ => 0)), .inl (tc 0, 16, .inl (fun _ => 0)), .inl (tc 0, 16, .inl (fun _ => 0)), .inl (tc 0, 16, .inl (fun _ => 0)), .inl (tc 3, 16, .inr (.inr (.inr (.inr (kOut b0 16 14))))), .inl (tc 0, 16, .inl (fun _ => 0)), .inl (tc 0, 16, .inl (fun _ => 0)), .inl (tc 0, 16, .inl (fun _ => 0)), .inl (tc 0, 16, .inl (fun _ => 0)), .inl (tc 0, 16, .inl (fun _ => 0)), .inl (tc 0, 16, .inl (fun _ => 0)), .inl (tc 0, 16, .inl (fun _ => 0)), .inl (tc 0, 16, .inl (fun _ => 0)), .inl (tc 0, 16, .inl (fun _ => 0)), .inl (tc 0, 16, .inl (fun _ => 0)), .inl (tc 0, 16, .inl (fun _ => 0)), .inl (tc 0, 16, .inl (fun _ => 0)), .inl (tc 0, 16, .inl (fun _ => 0)), .inl (tc 0, 16, .inl (fun _ => 0)), .inl (tc 0, 16, .inl (fun _ => 0)), .inl (tc 0, 16, .inl (fun _ => 0))]
set_option maxHeartbeats 4000000 in
set_option maxRecDepth 100000 in
theorem c_X2_init (l : Launch) (D : va_G) (tc : Nat → ClassId) (b0 : Nat) : Met l yX2_init wsX2_init ({ frames := 1, cells := 30, slots := 476, locals := 12 } : Room) (va_Pc [.ref (b0 + 0)] (kPc D tc b0 [.inr (2, [.null, .null])])) (kQv D b0 (rtL tc b0)) 30 476 (kA b0) := by
  refine k_of (by decide) rfl rfl (Nat.le_of_ble_eq_true rfl) ?_
  intro p e s m below meth c hcx hr hlocks hin hK hG ls hl
  obtain ⟨hx, hb, hml, hown, hts⟩ := id hcx
  have hl : lv_has ls 1 [(0, .ref (b0 + 0))] := hl
  refine lv_aload_n hx hb dX2_init_0 rfl (lv_at hl 0 rfl) ?_
  refine W.objInit hx hb hown (hts (.methodLink RX2 3 objectInit) (by decide +kernel)) (hts (.instanceMethod objectInit) (by decide +kernel)) (hts (.code objectInit ⟨#[0xb1]⟩ 1 none) (by decide +kernel)) rfl (by rw [hml]; exact hl.1) rfl dX2_init_1 (Nat.le_of_ble_eq_true rfl) (Nat.le_of_ble_eq_true rfl) ?_
  refine W.eq (g2 := F0 m 4 ls []) rfl ?_
  refine lv_aload_n hx hb dX2_init_4 rfl (lv_at hl 0 rfl) ?_
  refine lv_bipush (v := 12) hx hb dX2_init_5 (by decide) ?_
  refine lv_bipush (v := 16) hx hb dX2_init_7 (by decide) ?_
  refine k_newM hx hb hown (hts (.classLink RX2 9 "[[I") (by decide +kernel)) (hts (.arrayClass .int) (by decide +kernel)) hK hG (N' := 12) (K' := 16) (by decide) (by decide) (by decide) (by decide) (Nat.le_of_ble_eq_true rfl) (Nat.le_of_ble_eq_true rfl) dX2_init_9 (fun H hG => ?_)
  have hG : kG D b0 s.heap ([.inr (2, [.null, .null]), .inl (tc 3, 12, .inr (.inr (.inr (.inr (kOut b0 12 1))))), .inl (tc 0, 16, .inl (fun _ => 0)), .inl (tc 0, 16, .inl (fun _ => 0)), .inl (tc 0, 16, .inl (fun _ => 0)), .inl (tc 0, 16, .inl (fun _ => 0)), .inl (tc 0, 16, .inl (fun _ => 0)), .inl (tc 0, 16, .inl (fun _ => 0)), .inl (tc 0, 16, .inl (fun _ => 0)), .inl (tc 0, 16, .inl (fun _ => 0)), .inl (tc 0, 16, .inl (fun _ => 0)), .inl (tc 0, 16, .inl (fun _ => 0)), .inl (tc 0, 16, .inl (fun _ => 0)), .inl (tc 0, 16, .inl (fun _ => 0))]) H _ := hG
  refine W.eq (g2 := F0 m 13 ls [.ref (b0 + 1), .ref (b0 + 0)]) rfl ?_
  refine k_putF (ty := .array (.array .int)) hx hb hts (by decide +kernel) tyX2 tyX2_ok nmX2 hown hK hG 0 rfl rfl 0 (by decide) (hts (.fieldLink RX2 11 "NeighbourScores$Ratings" "table" "[[I") (by decide +kernel)) (fun _ h9 => h9) rfl hin rfl (by decide +kernel) rfl rfl (Nat.le_of_ble_eq_true rfl) dX2_init_13 (fun H locs hG => ?_)
  have hG : kG D b0 s.heap ([.inr (2, [.ref (b0 + 1), .null]), .inl (tc 3, 12, .inr (.inr (.inr (.inr (kOut b0 12 1))))), .inl (tc 0, 16, .inl (fun _ => 0)), .inl (tc 0, 16, .inl (fun _ => 0)), .inl (tc 0, 16, .inl (fun _ => 0)), .inl (tc 0, 16, .inl (fun _ => 0)), .inl (tc 0, 16, .inl (fun _ => 0)), .inl (tc 0, 16, .inl (fun _ => 0)), .inl (tc 0, 16, .inl (fun _ => 0)), .inl (tc 0, 16, .inl (fun _ => 0)), .inl (tc 0, 16, .inl (fun _ => 0)), .inl (tc 0, 16, .inl (fun _ => 0)), .inl (tc 0, 16, .inl (fun _ => 0)), .inl (tc 0, 16, .inl (fun _ => 0))]) H _ := hG
  refine lv_aload_n hx hb dX2_init_16 rfl (lv_at hl 0 rfl) ?_
  refine lv_bipush (v := 16) hx hb dX2_init_17 (by decide) ?_
  refine lv_bipush (v := 16) hx hb dX2_init_19 (by decide) ?_
  refine k_newM hx hb hown (hts (.classLink RX2 9 "[[I") (by decide +kernel)) (hts (.arrayClass .int) (by decide +kernel)) hK hG (N' := 16) (K' := 16) (by decide) (by decide) (by decide) (by decide) (Nat.le_of_ble_eq_true rfl) (Nat.le_of_ble_eq_true rfl) dX2_init_21 (fun H hG => ?_)
  have hG : kG D b0 s.heap ([.inr (2, [.ref (b0 + 1), .null]), .inl (tc 3, 12, .inr (.inr (.inr (.inr (kOut b0 12 1))))), .inl (tc 0, 16, .inl (fun _ => 0)), .inl (tc 0, 16, .inl (fun _ => 0)), .inl (tc 0, 16, .inl (fun _ => 0)), .inl (tc 0, 16, .inl (fun _ => 0)), .inl (tc 0, 16, .inl (fun _ => 0)), .inl (tc 0, 16, .inl (fun _ => 0)), .inl (tc 0, 16, .inl (fun _ => 0)), .inl (tc 0, 16, .inl (fun _ => 0)), .inl (tc 0, 16, .inl (fun _ => 0)), .inl (tc 0, 16, .inl (fun _ => 0)), .inl (tc 0, 16, .inl (fun _ => 0)), .inl (tc 0, 16, .inl (fun _ => 0)), .inl (tc 3, 16, .inr (.inr (.inr (.inr (kOut b0 16 14))))), .inl (tc 0, 16, .inl (fun _ => 0)), .inl (tc 0, 16, .inl (fun _ => 0)), .inl (tc 0, 16, .inl (fun _ => 0)), .inl (tc 0, 16, .inl (fun _ => 0)), .inl (tc 0, 16, .inl (fun _ => 0)), .inl (tc 0, 16, .inl (fun _ => 0)), .inl (tc 0, 16, .inl (fun _ => 0)), .inl (tc 0, 16, .inl (fun _ => 0)), .inl (tc 0, 16, .inl (fun _ => 0)), .inl (tc 0, 16, .inl (fun _ => 0)), .inl (tc 0, 16, .inl (fun _ => 0)), .inl (tc 0, 16, .inl (fun _ => 0)), .inl (tc 0, 16, .inl (fun _ => 0)), .inl (tc 0, 16, .inl (fun _ => 0)), .inl (tc 0, 16, .inl (fun _ => 0)), .inl (tc 0, 16, .inl (fun _ => 0))]) H _ := hG
  refine W.eq (g2 := F0 m 25 ls [.ref (b0 + 14), .ref (b0 + 0)]) rfl ?_
  refine k_putF (ty := .array (.array .int)) hx hb hts (by decide +kernel) tyX2 tyX2_ok nmX2 hown hK hG 0 rfl rfl 1 (by decide) (hts (.fieldLink RX2 16 "NeighbourScores$Ratings" "dots" "[[I") (by decide +kernel)) (fun _ h9 => h9) rfl hin rfl (by decide +kernel) rfl rfl (Nat.le_of_ble_eq_true rfl) dX2_init_25 (fun H locs hG => ?_)
  have hG : kG D b0 s.heap ([.inr (2, [.ref (b0 + 1), .ref (b0 + 14)]), .inl (tc 3, 12, .inr (.inr (.inr (.inr (kOut b0 12 1))))), .inl (tc 0, 16, .inl (fun _ => 0)), .inl (tc 0, 16, .inl (fun _ => 0)), .inl (tc 0, 16, .inl (fun _ => 0)), .inl (tc 0, 16, .inl (fun _ => 0)), .inl (tc 0, 16, .inl (fun _ => 0)), .inl (tc 0, 16, .inl (fun _ => 0)), .inl (tc 0, 16, .inl (fun _ => 0)), .inl (tc 0, 16, .inl (fun _ => 0)), .inl (tc 0, 16, .inl (fun _ => 0)), .inl (tc 0, 16, .inl (fun _ => 0)), .inl (tc 0, 16, .inl (fun _ => 0)), .inl (tc 0, 16, .inl (fun _ => 0)), .inl (tc 3, 16, .inr (.inr (.inr (.inr (kOut b0 16 14))))), .inl (tc 0, 16, .inl (fun _ => 0)), .inl (tc 0, 16, .inl (fun _ => 0)), .inl (tc 0, 16, .inl (fun _ => 0)), .inl (tc 0, 16, .inl (fun _ => 0)), .inl (tc 0, 16, .inl (fun _ => 0)), .inl (tc 0, 16, .inl (fun _ => 0)), .inl (tc 0, 16, .inl (fun _ => 0)), .inl (tc 0, 16, .inl (fun _ => 0)), .inl (tc 0, 16, .inl (fun _ => 0)), .inl (tc 0, 16, .inl (fun _ => 0)), .inl (tc 0, 16, .inl (fun _ => 0)), .inl (tc 0, 16, .inl (fun _ => 0)), .inl (tc 0, 16, .inl (fun _ => 0)), .inl (tc 0, 16, .inl (fun _ => 0)), .inl (tc 0, 16, .inl (fun _ => 0)), .inl (tc 0, 16, .inl (fun _ => 0))]) H _ := hG
  exact k_ret hx hb hr hlocks hG dX2_init_28 (Nat.le_of_ble_eq_true rfl) (Nat.le_of_ble_eq_true rfl)

def wd0 : Nat → Int32 := upd (fun _ => 0) 25 (pu_chk (fun _ => 0) 1 25 ||| 1)
def dkL (tc : Nat → ClassId) (b0 : Nat) : List va_E := [.inr (0, [.ref (b0 + 1), .int 1, .int (-1)]), .inl (tc 0, 172, .inl wd0), .inl (tc 0, 25, .inl (fun _ => 0))]
set_option maxHeartbeats 4000000 in
set_option maxRecDepth 100000 in
theorem c_X0_init (l : Launch) (D : va_G) (tc : Nat → ClassId) (b0 : Nat) : Met l yX0_init wsX0_init ({ frames := 2, cells := 2, slots := 197, locals := 47 } : Room) (va_Pc [.ref (b0 + 0)] (kPc D tc b0 [.inr (0, [.null, .int 0, .int 0])])) (kQv D b0 (dkL tc b0)) 2 197 (kA b0) := by
  refine k_of (by decide) rfl rfl (Nat.le_of_ble_eq_true rfl) ?_
  intro p e s m below meth c hcx hr hlocks hin hK hG ls hl
  obtain ⟨hx, hb, hml, hown, hts⟩ := id hcx
  have hl : lv_has ls 2 [(0, .ref (b0 + 0))] := hl
  refine lv_aload_n hx hb dX0_init_0 rfl (lv_at hl 0 rfl) ?_
  refine W.objInit hx hb hown (hts (.methodLink RX0 1 objectInit) (by decide +kernel)) (hts (.instanceMethod objectInit) (by decide +kernel)) (hts (.code objectInit ⟨#[0xb1]⟩ 1 none) (by decide +kernel)) rfl (by rw [hml]; exact hl.1) rfl dX0_init_1 (Nat.le_of_ble_eq_true rfl) (Nat.le_of_ble_eq_true rfl) ?_
  refine W.eq (g2 := F0 m 4 ls []) rfl ?_
  refine lv_aload_n hx hb dX0_init_4 rfl (lv_at hl 0 rfl) ?_
  refine lv_sipush (v := 172) hx hb dX0_init_5 (by decide) ?_
  refine k_newA hx hb (atype := .int) (ty := .int) (hts (.arrayClass .int) (by decide +kernel)) rfl 0 (cA := tc 0) rfl (fun _ h1 h2 => Option.some.inj (h1.symm.trans h2)) hK hG (a0 := (172, .inl (fun _ => 0))) (vp_cell_i ..) (N' := 172) (by decide +kernel) (by decide +kernel) (by decide +kernel) (Nat.le_of_ble_eq_true rfl) (Nat.le_of_ble_eq_true rfl) dX0_init_8 (fun H hG => ?_)
  have hG : kG D b0 s.heap ([.inr (0, [.null, .int 0, .int 0]), .inl (tc 0, 172, .inl (fun _ => 0))]) H _ := hG
  refine W.eq (g2 := F0 m 10 ls [.ref (b0 + 1), .ref (b0 + 0)]) rfl ?_
  refine k_putF (ty := .array .int) hx hb hts (by decide +kernel) tyX0 tyX0_ok nmX0 hown hK hG 0 rfl rfl 0 (by decide) (hts (.fieldLink RX0 9 "NeighbourScores$Disk" "words" "[I") (by decide +kernel)) (fun _ h9 => h9) rfl hin rfl (by decide +kernel) rfl rfl (Nat.le_of_ble_eq_true rfl) dX0_init_10 (fun H locs hG => ?_)
  have hG : kG D b0 s.heap ([.inr (0, [.ref (b0 + 1), .int 0, .int 0]), .inl (tc 0, 172, .inl (fun _ => 0))]) H _ := hG
  refine lv_aload_n hx hb dX0_init_13 rfl (lv_at hl 0 rfl) ?_
  refine lv_iconst (v := 1) hx hb dX0_init_14 (by decide) ?_
  refine k_put (ty := .boolean) hx hb hts (by decide +kernel) tyX0 tyX0_ok nmX0 hown hK hG 0 rfl rfl 1 (by decide) (hts (.fieldLink RX0 13 "NeighbourScores$Disk" "powered" "Z") (by decide +kernel)) (fun _ h9 => h9) rfl (by decide +kernel) rfl rfl (Nat.le_of_ble_eq_true rfl) dX0_init_15 (fun H locs hG => ?_)
  have hG : kG D b0 s.heap ([.inr (0, [.ref (b0 + 1), .int 1, .int 0]), .inl (tc 0, 172, .inl (fun _ => 0))]) H _ := hG
  refine lv_aload_n hx hb dX0_init_18 rfl (lv_at hl 0 rfl) ?_
  refine lv_iconst (v := (-1)) hx hb dX0_init_19 (by decide) ?_
  refine k_put (ty := .int) hx hb hts (by decide +kernel) tyX0 tyX0_ok nmX0 hown hK hG 0 rfl rfl 2 (by decide) (hts (.fieldLink RX0 17 "NeighbourScores$Disk" "wordsToFailure" "I") (by decide +kernel)) (fun _ h9 => h9) rfl (by decide +kernel) rfl rfl (Nat.le_of_ble_eq_true rfl) dX0_init_20 (fun H locs hG => ?_)
  have hG : kG D b0 s.heap ([.inr (0, [.ref (b0 + 1), .int 1, .int (-1)]), .inl (tc 0, 172, .inl (fun _ => 0))]) H _ := hG
  refine lv_bipush (v := 25) hx hb dX0_init_23 (by decide) ?_
  refine lv_istore_n (lv' := [(1, .int 25), (0, .ref (b0 + 0))]) hx hb dX0_init_25 rfl hl (by decide) rfl (fun ls hl => ?_)
  refine lv_aload_n hx hb dX0_init_26 rfl (lv_at hl 1 rfl) ?_
  refine k_get (v := .ref (b0 + 1)) hx hb hts (by decide +kernel) hown hK hG 0 rfl rfl 0 (by decide) (hts (.fieldLink RX0 9 "NeighbourScores$Disk" "words" "[I") (by decide +kernel)) (fun _ h9 => h9) rfl dX0_init_27 ?_
  refine lv_iload_n hx hb dX0_init_30 rfl (lv_at hl 0 rfl) ?_
  refine lv_iload_n hx hb dX0_init_31 rfl (lv_at hl 0 rfl) ?_
  refine k_newA hx hb (atype := .int) (ty := .int) (hts (.arrayClass .int) (by decide +kernel)) rfl 0 (cA := tc 0) rfl (fun _ h1 h2 => Option.some.inj (h1.symm.trans h2)) hK hG (a0 := (25, .inl (fun _ => 0))) (vp_cell_i ..) (N' := 25) (by decide +kernel) (by decide +kernel) (by decide +kernel) (Nat.le_of_ble_eq_true rfl) (Nat.le_of_ble_eq_true rfl) dX0_init_32 (fun H hG => ?_)
  have hG : kG D b0 s.heap ([.inr (0, [.ref (b0 + 1), .int 1, .int (-1)]), .inl (tc 0, 172, .inl (fun _ => 0)), .inl (tc 0, 25, .inl (fun _ => 0))]) H _ := hG
  refine W.eq (g2 := F0 m 34 ls [.ref (b0 + 2), .int 25, .ref (b0 + 1)]) rfl ?_
  refine lv_iconst (v := 0) hx hb dX0_init_34 (by decide) ?_
  refine lv_iload_n hx hb dX0_init_35 rfl (lv_at hl 0 rfl) ?_
  refine lv_iconst (v := 1) hx hb dX0_init_36 (by decide) ?_
  refine g_si (va_runS (As := [.ref (b0 + 2), .int (nI 0), .int (nI 25), .int 1]) (rest := [.int 25, .ref (b0 + 1)]) hcx (c_X0_checkOf l (b0 + 2) (tc 0) 25 (fun _ => 0) 0 25 1 (by decide) (by decide)) (va_cwS 4 hts gX0_init_X0_checkOf rfl rfl rfl (by decide +kernel) ⟨Nat.le_of_ble_eq_true rfl, Nat.le_of_ble_eq_true rfl⟩) (k_H (i := 2) hK hG rfl) rfl rfl hl.1 rfl (lv_room (Nat.le_of_ble_eq_true rfl)) dX0_init_37 ⟨Nat.le_of_ble_eq_true rfl, Nat.le_of_ble_eq_true rfl⟩) (fun r hw => ?_)
  subst hw
  refine k_iast hx hb hK hG 1 rfl 25 (by decide) (by decide) (by decide) dX0_init_40 (fun H locs hG => ?_)
  exact k_ret hx hb hr hlocks hG dX0_init_41 (Nat.le_of_ble_eq_true rfl) (Nat.le_of_ble_eq_true rfl)

def rdF (tc : Nat → ClassId) (b0 j : Nat) : List va_E := (List.range j).flatMap (fun i => rkL tc (b0 + (3 + 3 * i)))
def rdO (b0 j : Nat) : Nat → Option Nat := fun i => if i < j then some (b0 + (3 + 3 * i)) else none
theorem rdF_len (tc : Nat → ClassId) (b0 : Nat) : ∀ j, (rdF tc b0 j).length = 3 * j
  | 0 => rfl
  | j + 1 => by
    unfold rdF
    rw [List.range_succ, List.flatMap_append, List.length_append]
    have := rdF_len tc b0 j
    unfold rdF at this
    rw [this]
    show 3 * j + 3 = _
    omega
theorem rdF_succ (tc : Nat → ClassId) (b0 j : Nat) : rdF tc b0 (j + 1) = rdF tc b0 j ++ rkL tc (b0 + (3 + 3 * j)) := by
  unfold rdF
  rw [List.range_succ, List.flatMap_append]
  congr 1
theorem rdO_succ (b0 j : Nat) : va_up (rdO b0 j) j (some (b0 + (3 + 3 * j))) = rdO b0 (j + 1) := by
  funext i
  by_cases h : i = j
  · subst h
    simp [va_up, rdO]
  · by_cases h2 : i < j
    · simp [va_up, rdO, h, h2, Nat.lt_succ_of_lt h2]
    · simp [va_up, rdO, h, h2, show ¬ i < j + 1 by omega]
def rdS (tc : Nat → ClassId) (b0 j : Nat) : List va_E := .inr (3, [.ref (b0 + 1), .ref (b0 + 2), .int 0]) :: .inl (tc 4, 16, .inr (.inr (.inr (.inr (rdO b0 j))))) :: .inl (tc 1, 16, .inr (.inl (fun _ => 0))) :: rdF tc b0 j
theorem rdS_len (tc : Nat → ClassId) (b0 j : Nat) : (rdS tc b0 j).length = 3 + 3 * j := by
  show (rdF tc b0 j).length + 1 + 1 + 1 = _
  rw [rdF_len]
  omega

abbrev rdL (tc : Nat → ClassId) (b0 : Nat) : List va_E := rdS tc b0 16
set_option maxHeartbeats 4000000 in
set_option maxRecDepth 100000 in
theorem c_X3_init (l : Launch) (D : va_G) (tc : Nat → ClassId) (b0 : Nat) : Met l yX3_init wsX3_init ({ frames := 2, cells := 50, slots := 592, locals := 32 } : Room) (va_Pc [.ref (b0 + 0)] (kPc D tc b0 [.inr (3, [.null, .null, .int 0])])) (kQv D b0 (rdL tc b0)) 50 592 (kA b0) := by
  refine k_of (by decide) rfl rfl (Nat.le_of_ble_eq_true rfl) ?_
  intro p e s m below meth c hcx hr hlocks hin hK hG ls hl
  obtain ⟨hx, hb, hml, hown, hts⟩ := id hcx
  have hl : lv_has ls 2 [(0, .ref (b0 + 0))] := hl
  refine lv_aload_n hx hb dX3_init_0 rfl (lv_at hl 0 rfl) ?_
  refine W.objInit hx hb hown (hts (.methodLink RX3 3 objectInit) (by decide +kernel)) (hts (.instanceMethod objectInit) (by decide +kernel)) (hts (.code objectInit ⟨#[0xb1]⟩ 1 none) (by decide +kernel)) rfl (by rw [hml]; exact hl.1) rfl dX3_init_1 (Nat.le_of_ble_eq_true rfl) (Nat.le_of_ble_eq_true rfl) ?_
  refine W.eq (g2 := F0 m 4 ls []) rfl ?_
  refine lv_aload_n hx hb dX3_init_4 rfl (lv_at hl 0 rfl) ?_
  refine lv_bipush (v := 16) hx hb dX3_init_5 (by decide) ?_
  refine k_newQ hx hb hown (hts (.classLink RX3 9 RX1) (by decide +kernel)) hK.2.1.2.2.2.2.2.1 4 (cA := tc 4) rfl hK hG (N' := 16) (by decide) (by decide) (Nat.le_of_ble_eq_true rfl) (Nat.le_of_ble_eq_true rfl) dX3_init_7 (fun H hG => ?_)
  have hG : kG D b0 s.heap ([.inr (3, [.null, .null, .int 0]), .inl (tc 4, 16, .inr (.inr (.inr (.inr (fun _ => none)))))]) H _ := hG
  refine W.eq (g2 := F0 m 10 ls [.ref (b0 + 1), .ref (b0 + 0)]) rfl ?_
  refine k_putF (ty := .array (.object "NeighbourScores$Ranking")) hx hb hts (by decide +kernel) tyX3 tyX3_ok nmX3 hown hK hG 0 rfl rfl 0 (by decide) (hts (.fieldLink RX3 11 "NeighbourScores$Reading" "lists" "[LNeighbourScores$Ranking;") (by decide +kernel)) (fun _ h9 => h9) rfl hin rfl (by decide +kernel) rfl rfl (Nat.le_of_ble_eq_true rfl) dX3_init_10 (fun H locs hG => ?_)
  have hG : kG D b0 s.heap ([.inr (3, [.ref (b0 + 1), .null, .int 0]), .inl (tc 4, 16, .inr (.inr (.inr (.inr (fun _ => none)))))]) H _ := hG
  refine lv_aload_n hx hb dX3_init_13 rfl (lv_at hl 0 rfl) ?_
  refine lv_bipush (v := 16) hx hb dX3_init_14 (by decide) ?_
  refine k_newA hx hb (atype := .long) (ty := .long) (hts (.arrayClass .long) (by decide +kernel)) rfl 1 (cA := tc 1) rfl (fun _ h1 h2 => Option.some.inj (h1.symm.trans h2)) hK hG (a0 := (16, .inr (.inl (fun _ => 0)))) (vp_cell_l ..) (N' := 16) (by decide +kernel) (by decide +kernel) (by decide +kernel) (Nat.le_of_ble_eq_true rfl) (Nat.le_of_ble_eq_true rfl) dX3_init_16 (fun H hG => ?_)
  have hG : kG D b0 s.heap ([.inr (3, [.ref (b0 + 1), .null, .int 0]), .inl (tc 4, 16, .inr (.inr (.inr (.inr (fun _ => none))))), .inl (tc 1, 16, .inr (.inl (fun _ => 0)))]) H _ := hG
  refine W.eq (g2 := F0 m 18 ls [.ref (b0 + 2), .ref (b0 + 0)]) rfl ?_
  refine k_putF (ty := .array .long) hx hb hts (by decide +kernel) tyX3 tyX3_ok nmX3 hown hK hG 0 rfl rfl 1 (by decide) (hts (.fieldLink RX3 17 "NeighbourScores$Reading" "found" "[J") (by decide +kernel)) (fun _ h9 => h9) rfl hin rfl (by decide +kernel) rfl rfl (Nat.le_of_ble_eq_true rfl) dX3_init_18 (fun H locs hG => ?_)
  have hG : kG D b0 s.heap ([.inr (3, [.ref (b0 + 1), .ref (b0 + 2), .int 0]), .inl (tc 4, 16, .inr (.inr (.inr (.inr (fun _ => none))))), .inl (tc 1, 16, .inr (.inl (fun _ => 0)))]) H _ := hG
  refine lv_aload_n hx hb dX3_init_21 rfl (lv_at hl 0 rfl) ?_
  refine lv_iconst (v := 0) hx hb dX3_init_22 (by decide) ?_
  refine k_put (ty := .int) hx hb hts (by decide +kernel) tyX3 tyX3_ok nmX3 hown hK hG 0 rfl rfl 2 (by decide) (hts (.fieldLink RX3 21 "NeighbourScores$Reading" "entries" "I") (by decide +kernel)) (fun _ h9 => h9) rfl (by decide +kernel) rfl rfl (Nat.le_of_ble_eq_true rfl) dX3_init_23 (fun H locs hG => ?_)
  have hG : kG D b0 s.heap ([.inr (3, [.ref (b0 + 1), .ref (b0 + 2), .int 0]), .inl (tc 4, 16, .inr (.inr (.inr (.inr (fun _ => none))))), .inl (tc 1, 16, .inr (.inl (fun _ => 0)))]) H _ := hG
  have hG : kG D b0 s.heap (rdS tc b0 0) H _ := hG
  refine lv_iconst (v := 0) hx hb dX3_init_26 (by decide) ?_
  refine lv_istore_n (lv' := [(1, .int (nI 0)), (0, .ref (b0 + 0))]) hx hb dX3_init_27 rfl hl (by decide) rfl (fun ls hl => ?_)
  have lp : ∀ (n j : Nat), j ≤ 16 → 17 ≤ j + n → ∀ (H : Heap) (locs : List Loc), kG D b0 s.heap (rdS tc b0 j) H locs → ∀ ls : Array Slot, lv_has ls 2 [(1, .int (nI j)), (0, .ref (b0 + 0))] → W p l e (headSpec wsX3_init ({ frames := 2, cells := 50, slots := 592, locals := 32 } : Room)).room s m ([.ref (b0 + 0)] : List Value).toArray below meth c H locs (2 + 3 * j) (32 + 35 * j) (MQ below (kQv D b0 (rdS tc b0 16)) ([.ref (b0 + 0)] : List Value).toArray s 50 592 (kA b0)) (F0 m 28 ls []) := by
    intro n
    induction n with
    | zero =>
      intro j hj hn
      exact absurd hn (by omega)
    | succ n ih =>
      intro j hj hn H locs hG ls hl
      refine lv_iload_n hx hb dX3_init_28 rfl (lv_at hl 0 rfl) ?_
      refine lv_bipush (v := 16) hx hb dX3_init_29 (by decide) ?_
      refine lv_icmp_ge (tgt := 53) hx hb dX3_init_31 (by decide) (fun c31 => ?_) (fun c31 => ?_)
      · have b31 := g_le (a := 16) (b := j) c31 (by omega) (by omega)
        obtain rfl : j = 16 := by omega
        exact k_ret hx hb hr hlocks hG dX3_init_53 (Nat.le_of_ble_eq_true rfl) (Nat.le_of_ble_eq_true rfl)
      · have b31 := g_nle (a := 16) (b := j) c31 (by omega) (by omega)
        refine lv_aload_n hx hb dX3_init_34 rfl (lv_at hl 1 rfl) ?_
        refine k_get (v := .ref (b0 + 1)) hx hb hts (by decide +kernel) hown hK hG 0 rfl rfl 0 (by decide) (hts (.fieldLink RX3 11 "NeighbourScores$Reading" "lists" "[LNeighbourScores$Ranking;") (by decide +kernel)) (fun _ h9 => h9) rfl dX3_init_35 ?_
        refine lv_iload_n hx hb dX3_init_38 rfl (lv_at hl 0 rfl) ?_
        refine k_newO (ci := 1) (fs := [.null, .null, .int 0]) hx hb hts (by decide +kernel) tyX1 tyX1_ok hown (hts (.classLink RX3 9 RX1) (by decide +kernel)) (hts (.instantiable RX1 3) (by decide +kernel)) (hts (.initialized RX1) (by decide +kernel)) hK hG rfl (fun j hj => by rcases (show j = 0 ∨ j = 1 ∨ j = 2 by omega) with rfl | rfl | rfl <;> rfl) (by show _ ≤ 50; omega) (by show _ ≤ 592; omega) dX3_init_39 (fun H hG => ?_)
        refine g_r (y := b0 + (3 + 3 * j)) (by rw [rdS_len]) ?_
        refine lv_dup hx hb dX3_init_42 rfl ?_
        refine k_callP (P := rdS tc b0 j) (n := 3 + 3 * j) (va_runIN (As := []) (rest := [.ref (b0 + (3 + 3 * j)), .int (nI j), .ref (b0 + 1)]) hcx (c_X1_init l D tc (b0 + (3 + 3 * j))) ⟨va_cnB 0 hts ggX3_init_X1_init rfl rfl rfl hK.2.1.2.2.2.2.1 (hts (.initialized RX1) (by decide +kernel)) (by decide +kernel) ⟨Nat.le_of_ble_eq_true rfl, Nat.le_of_ble_eq_true rfl⟩, rfl, hts (.instanceMethod yX1_init) (by decide +kernel)⟩ (k_pSP (P := rdS tc b0 j) hK hG (rdS_len tc b0 j)) rfl rfl hl.1 rfl (lv_room (Nat.le_of_ble_eq_true rfl)) dX3_init_43 ⟨by show _ ≤ 50; omega, by show _ ≤ 592; omega⟩) hG (rdS_len tc b0 j) (fun H locs hG => ?_)
        have hv : (rdS tc b0 j ++ rkL tc (b0 + (3 + 3 * j)))[3 + 3 * j]? = some (.inr (1, [.ref (b0 + (3 + 3 * j) + 1), .ref (b0 + (3 + 3 * j) + 2), .int 0])) := by
          rw [List.getElem?_append_right (by rw [rdS_len]; exact Nat.le_refl _), rdS_len, Nat.sub_self]
          rfl
        refine k_aast hx hb hK hG 1 (3 + 3 * j) 4 1 (r := (RX1, TX1, 3)) rfl rfl hv rfl j rfl (by omega) (by decide) dX3_init_46 (fun H locs hG => ?_)
        have hG : kG D b0 s.heap (rdS tc b0 (j + 1)) H locs := by
          unfold rdS
          rw [rdF_succ, ← rdO_succ]
          exact hG
        refine lv_iinc (v := nI (j + 1)) (lv' := [(1, .int (nI (j + 1))), (0, .ref (b0 + 0))]) hx hb dX3_init_47 hl (k := 0) rfl (nI_1 _) (by decide) rfl (fun ls hl => ?_)
        refine lv_goto (tgt := 28) hx hb dX3_init_50 (by decide) ?_
        refine W.widen (k := 2 + 3 * (j + 1)) (n := 32 + 35 * (j + 1)) (by omega) (by omega) ?_
        exact ih (j + 1) (by omega) (by omega) H _ hG ls (lv_sub hl [0, 1] rfl)
  exact lp 17 0 (by omega) (by omega) _ _ hG ls (lv_sub hl [0, 1] rfl)

def syL (tc : Nat → ClassId) (b0 : Nat) : List va_E := [.inr (6, [.ref (b0 + 1), .ref (b0 + 4), .ref (b0 + 6), .ref (b0 + 8), .ref (b0 + 39), .ref (b0 + 42), .int 0, .int 0])] ++ (dkL tc (b0 + 1)) ++ (snL tc (b0 + 4)) ++ (rcL tc (b0 + 6)) ++ (rtL tc (b0 + 8)) ++ (rkL tc (b0 + 39)) ++ (rdL tc (b0 + 42))
set_option maxHeartbeats 4000000 in
set_option maxRecDepth 100000 in
theorem c_X6_init (l : Launch) (D : va_G) (tc : Nat → ClassId) (b0 : Nat) : Met l yX6_init wsX6_init ({ frames := 3, cells := 92, slots := 1339, locals := 68 } : Room) (va_Pc [.ref (b0 + 0)] (kPc D tc b0 [.inr (6, [.null, .null, .null, .null, .null, .null, .int 0, .int 0])])) (kQv D b0 (syL tc b0)) 92 1339 (kA b0) := by
  refine k_of (by decide) rfl rfl (Nat.le_of_ble_eq_true rfl) ?_
  intro p e s m below meth c hcx hr hlocks hin hK hG ls hl
  obtain ⟨hx, hb, hml, hown, hts⟩ := id hcx
  have hl : lv_has ls 1 [(0, .ref (b0 + 0))] := hl
  refine lv_aload_n hx hb dX6_init_0 rfl (lv_at hl 0 rfl) ?_
  refine W.objInit hx hb hown (hts (.methodLink RX6 1 objectInit) (by decide +kernel)) (hts (.instanceMethod objectInit) (by decide +kernel)) (hts (.code objectInit ⟨#[0xb1]⟩ 1 none) (by decide +kernel)) rfl (by rw [hml]; exact hl.1) rfl dX6_init_1 (Nat.le_of_ble_eq_true rfl) (Nat.le_of_ble_eq_true rfl) ?_
  refine W.eq (g2 := F0 m 4 ls []) rfl ?_
  refine lv_aload_n hx hb dX6_init_4 rfl (lv_at hl 0 rfl) ?_
  refine k_newO (ci := 0) (fs := [.null, .int 0, .int 0]) hx hb hts (by decide +kernel) tyX0 tyX0_ok hown (hts (.classLink RX6 7 RX0) (by decide +kernel)) (hts (.instantiable RX0 3) (by decide +kernel)) (hts (.initialized RX0) (by decide +kernel)) hK hG rfl (fun j hj => by rcases (show j = 0 ∨ j = 1 ∨ j = 2 by omega) with rfl | rfl | rfl <;> rfl) (Nat.le_of_ble_eq_true rfl) (Nat.le_of_ble_eq_true rfl) dX6_init_5 (fun H hG => ?_)
  have hG : kG D b0 s.heap ([.inr (6, [.null, .null, .null, .null, .null, .null, .int 0, .int 0]), .inr (0, [.null, .int 0, .int 0])]) H _ := hG
  refine W.eq (g2 := F0 m 8 ls [.ref (b0 + 1), .ref (b0 + 0)]) rfl ?_
  refine lv_dup hx hb dX6_init_8 rfl ?_
  refine k_callP (P := [.inr (6, [.null, .null, .null, .null, .null, .null, .int 0, .int 0])]) (va_runI (As := []) (rest := [.ref (b0 + 1), .ref (b0 + 0)]) hcx (c_X0_init l D tc (b0 + 1)) (cwI 0 hts ggX6_init_X0_init rfl rfl rfl (hts (.initialized RX0) (by decide +kernel)) (hts (.methodLink RX6 9 yX0_init) (by decide +kernel)) (hts (.instanceMethod yX0_init) (by decide +kernel)) rfl (by decide +kernel) ⟨Nat.le_of_ble_eq_true rfl, Nat.le_of_ble_eq_true rfl⟩) (k_pSP (P := [.inr (6, [.null, .null, .null, .null, .null, .null, .int 0, .int 0])]) hK hG rfl) rfl rfl hl.1 rfl (lv_room (Nat.le_of_ble_eq_true rfl)) dX6_init_9 ⟨Nat.le_of_ble_eq_true rfl, Nat.le_of_ble_eq_true rfl⟩) hG rfl (fun H locs hG => ?_)
  have hG : kG D b0 s.heap ([.inr (6, [.null, .null, .null, .null, .null, .null, .int 0, .int 0])] ++ (dkL tc (b0 + 1))) H _ := hG
  refine W.eq (g2 := F0 m 12 ls [.ref (b0 + 1), .ref (b0 + 0)]) rfl ?_
  refine k_putF (ty := .object "NeighbourScores$Disk") hx hb hts (by decide +kernel) tyX6 tyX6_ok nmX6 hown hK hG 0 rfl rfl 0 (by decide) (hts (.fieldLink RX6 10 "NeighbourScores" "disk" "LNeighbourScores$Disk;") (by decide +kernel)) (fun _ h9 => h9) rfl hin rfl (by decide +kernel) rfl rfl (Nat.le_of_ble_eq_true rfl) dX6_init_12 (fun H locs hG => ?_)
  have hG : kG D b0 s.heap ([.inr (6, [.ref (b0 + 1), .null, .null, .null, .null, .null, .int 0, .int 0])] ++ (dkL tc (b0 + 1))) H _ := hG
  refine lv_aload_n hx hb dX6_init_15 rfl (lv_at hl 0 rfl) ?_
  refine k_newO (ci := 5) (fs := [.null]) hx hb hts (by decide +kernel) tyX5 tyX5_ok hown (hts (.classLink RX6 16 RX5) (by decide +kernel)) (hts (.instantiable RX5 1) (by decide +kernel)) (hts (.initialized RX5) (by decide +kernel)) hK hG rfl (fun j hj => by rcases (show j = 0 by omega) with rfl <;> rfl) (Nat.le_of_ble_eq_true rfl) (Nat.le_of_ble_eq_true rfl) dX6_init_16 (fun H hG => ?_)
  have hG : kG D b0 s.heap ([.inr (6, [.ref (b0 + 1), .null, .null, .null, .null, .null, .int 0, .int 0])] ++ (dkL tc (b0 + 1)) ++ [.inr (5, [.null])]) H _ := hG
  refine W.eq (g2 := F0 m 19 ls [.ref (b0 + 4), .ref (b0 + 0)]) rfl ?_
  refine lv_dup hx hb dX6_init_19 rfl ?_
  refine k_callP (P := [.inr (6, [.ref (b0 + 1), .null, .null, .null, .null, .null, .int 0, .int 0])] ++ (dkL tc (b0 + 1))) (va_runIN (As := []) (rest := [.ref (b0 + 4), .ref (b0 + 0)]) hcx (c_X5_init l D tc (b0 + 4)) ⟨va_cnB 0 hts ggX6_init_X5_init rfl rfl rfl hK.2.1.1 (hts (.initialized RX5) (by decide +kernel)) (by decide +kernel) ⟨Nat.le_of_ble_eq_true rfl, Nat.le_of_ble_eq_true rfl⟩, rfl, hts (.instanceMethod yX5_init) (by decide +kernel)⟩ (k_pSP (P := [.inr (6, [.ref (b0 + 1), .null, .null, .null, .null, .null, .int 0, .int 0])] ++ (dkL tc (b0 + 1))) hK hG rfl) rfl rfl hl.1 rfl (lv_room (Nat.le_of_ble_eq_true rfl)) dX6_init_20 ⟨Nat.le_of_ble_eq_true rfl, Nat.le_of_ble_eq_true rfl⟩) hG rfl (fun H locs hG => ?_)
  have hG : kG D b0 s.heap ([.inr (6, [.ref (b0 + 1), .null, .null, .null, .null, .null, .int 0, .int 0])] ++ (dkL tc (b0 + 1)) ++ (snL tc (b0 + 4))) H _ := hG
  refine W.eq (g2 := F0 m 23 ls [.ref (b0 + 4), .ref (b0 + 0)]) rfl ?_
  refine k_putF (ty := .object "NeighbourScores$Snapshots") hx hb hts (by decide +kernel) tyX6 tyX6_ok nmX6 hown hK hG 0 rfl rfl 1 (by decide) (hts (.fieldLink RX6 19 "NeighbourScores" "snapshots" "LNeighbourScores$Snapshots;") (by decide +kernel)) (fun _ h9 => h9) rfl hin rfl (by decide +kernel) rfl rfl (Nat.le_of_ble_eq_true rfl) dX6_init_23 (fun H locs hG => ?_)
  have hG : kG D b0 s.heap ([.inr (6, [.ref (b0 + 1), .ref (b0 + 4), .null, .null, .null, .null, .int 0, .int 0])] ++ (dkL tc (b0 + 1)) ++ (snL tc (b0 + 4))) H _ := hG
  refine lv_aload_n hx hb dX6_init_26 rfl (lv_at hl 0 rfl) ?_
  refine k_newO (ci := 4) (fs := [.null]) hx hb hts (by decide +kernel) tyX4 tyX4_ok hown (hts (.classLink RX6 23 RX4) (by decide +kernel)) (hts (.instantiable RX4 1) (by decide +kernel)) (hts (.initialized RX4) (by decide +kernel)) hK hG rfl (fun j hj => by rcases (show j = 0 by omega) with rfl <;> rfl) (Nat.le_of_ble_eq_true rfl) (Nat.le_of_ble_eq_true rfl) dX6_init_27 (fun H hG => ?_)
  have hG : kG D b0 s.heap ([.inr (6, [.ref (b0 + 1), .ref (b0 + 4), .null, .null, .null, .null, .int 0, .int 0])] ++ (dkL tc (b0 + 1)) ++ (snL tc (b0 + 4)) ++ [.inr (4, [.null])]) H _ := hG
  refine W.eq (g2 := F0 m 30 ls [.ref (b0 + 6), .ref (b0 + 0)]) rfl ?_
  refine lv_dup hx hb dX6_init_30 rfl ?_
  refine k_callP (P := [.inr (6, [.ref (b0 + 1), .ref (b0 + 4), .null, .null, .null, .null, .int 0, .int 0])] ++ (dkL tc (b0 + 1)) ++ (snL tc (b0 + 4))) (va_runIN (As := []) (rest := [.ref (b0 + 6), .ref (b0 + 0)]) hcx (c_X4_init l D tc (b0 + 6)) ⟨va_cnB 0 hts ggX6_init_X4_init rfl rfl rfl hK.2.1.2.1 (hts (.initialized RX4) (by decide +kernel)) (by decide +kernel) ⟨Nat.le_of_ble_eq_true rfl, Nat.le_of_ble_eq_true rfl⟩, rfl, hts (.instanceMethod yX4_init) (by decide +kernel)⟩ (k_pSP (P := [.inr (6, [.ref (b0 + 1), .ref (b0 + 4), .null, .null, .null, .null, .int 0, .int 0])] ++ (dkL tc (b0 + 1)) ++ (snL tc (b0 + 4))) hK hG rfl) rfl rfl hl.1 rfl (lv_room (Nat.le_of_ble_eq_true rfl)) dX6_init_31 ⟨Nat.le_of_ble_eq_true rfl, Nat.le_of_ble_eq_true rfl⟩) hG rfl (fun H locs hG => ?_)
  have hG : kG D b0 s.heap ([.inr (6, [.ref (b0 + 1), .ref (b0 + 4), .null, .null, .null, .null, .int 0, .int 0])] ++ (dkL tc (b0 + 1)) ++ (snL tc (b0 + 4)) ++ (rcL tc (b0 + 6))) H _ := hG
  refine W.eq (g2 := F0 m 34 ls [.ref (b0 + 6), .ref (b0 + 0)]) rfl ?_
  refine k_putF (ty := .object "NeighbourScores$Records") hx hb hts (by decide +kernel) tyX6 tyX6_ok nmX6 hown hK hG 0 rfl rfl 2 (by decide) (hts (.fieldLink RX6 26 "NeighbourScores" "records" "LNeighbourScores$Records;") (by decide +kernel)) (fun _ h9 => h9) rfl hin rfl (by decide +kernel) rfl rfl (Nat.le_of_ble_eq_true rfl) dX6_init_34 (fun H locs hG => ?_)
  have hG : kG D b0 s.heap ([.inr (6, [.ref (b0 + 1), .ref (b0 + 4), .ref (b0 + 6), .null, .null, .null, .int 0, .int 0])] ++ (dkL tc (b0 + 1)) ++ (snL tc (b0 + 4)) ++ (rcL tc (b0 + 6))) H _ := hG
  refine lv_aload_n hx hb dX6_init_37 rfl (lv_at hl 0 rfl) ?_
  refine k_newO (ci := 2) (fs := [.null, .null]) hx hb hts (by decide +kernel) tyX2 tyX2_ok hown (hts (.classLink RX6 30 RX2) (by decide +kernel)) (hts (.instantiable RX2 2) (by decide +kernel)) (hts (.initialized RX2) (by decide +kernel)) hK hG rfl (fun j hj => by rcases (show j = 0 ∨ j = 1 by omega) with rfl | rfl <;> rfl) (Nat.le_of_ble_eq_true rfl) (Nat.le_of_ble_eq_true rfl) dX6_init_38 (fun H hG => ?_)
  have hG : kG D b0 s.heap ([.inr (6, [.ref (b0 + 1), .ref (b0 + 4), .ref (b0 + 6), .null, .null, .null, .int 0, .int 0])] ++ (dkL tc (b0 + 1)) ++ (snL tc (b0 + 4)) ++ (rcL tc (b0 + 6)) ++ [.inr (2, [.null, .null])]) H _ := hG
  refine W.eq (g2 := F0 m 41 ls [.ref (b0 + 8), .ref (b0 + 0)]) rfl ?_
  refine lv_dup hx hb dX6_init_41 rfl ?_
  refine k_callP (P := [.inr (6, [.ref (b0 + 1), .ref (b0 + 4), .ref (b0 + 6), .null, .null, .null, .int 0, .int 0])] ++ (dkL tc (b0 + 1)) ++ (snL tc (b0 + 4)) ++ (rcL tc (b0 + 6))) (va_runIN (As := []) (rest := [.ref (b0 + 8), .ref (b0 + 0)]) hcx (c_X2_init l D tc (b0 + 8)) ⟨va_cnB 0 hts ggX6_init_X2_init rfl rfl rfl hK.2.1.2.2.1 (hts (.initialized RX2) (by decide +kernel)) (by decide +kernel) ⟨Nat.le_of_ble_eq_true rfl, Nat.le_of_ble_eq_true rfl⟩, rfl, hts (.instanceMethod yX2_init) (by decide +kernel)⟩ (k_pSP (P := [.inr (6, [.ref (b0 + 1), .ref (b0 + 4), .ref (b0 + 6), .null, .null, .null, .int 0, .int 0])] ++ (dkL tc (b0 + 1)) ++ (snL tc (b0 + 4)) ++ (rcL tc (b0 + 6))) hK hG rfl) rfl rfl hl.1 rfl (lv_room (Nat.le_of_ble_eq_true rfl)) dX6_init_42 ⟨Nat.le_of_ble_eq_true rfl, Nat.le_of_ble_eq_true rfl⟩) hG rfl (fun H locs hG => ?_)
  have hG : kG D b0 s.heap ([.inr (6, [.ref (b0 + 1), .ref (b0 + 4), .ref (b0 + 6), .null, .null, .null, .int 0, .int 0])] ++ (dkL tc (b0 + 1)) ++ (snL tc (b0 + 4)) ++ (rcL tc (b0 + 6)) ++ (rtL tc (b0 + 8))) H _ := hG
  refine W.eq (g2 := F0 m 45 ls [.ref (b0 + 8), .ref (b0 + 0)]) rfl ?_
  refine k_putF (ty := .object "NeighbourScores$Ratings") hx hb hts (by decide +kernel) tyX6 tyX6_ok nmX6 hown hK hG 0 rfl rfl 3 (by decide) (hts (.fieldLink RX6 33 "NeighbourScores" "ratings" "LNeighbourScores$Ratings;") (by decide +kernel)) (fun _ h9 => h9) rfl hin rfl (by decide +kernel) rfl rfl (Nat.le_of_ble_eq_true rfl) dX6_init_45 (fun H locs hG => ?_)
  have hG : kG D b0 s.heap ([.inr (6, [.ref (b0 + 1), .ref (b0 + 4), .ref (b0 + 6), .ref (b0 + 8), .null, .null, .int 0, .int 0])] ++ (dkL tc (b0 + 1)) ++ (snL tc (b0 + 4)) ++ (rcL tc (b0 + 6)) ++ (rtL tc (b0 + 8))) H _ := hG
  refine lv_aload_n hx hb dX6_init_48 rfl (lv_at hl 0 rfl) ?_
  refine k_newO (ci := 1) (fs := [.null, .null, .int 0]) hx hb hts (by decide +kernel) tyX1 tyX1_ok hown (hts (.classLink RX6 37 RX1) (by decide +kernel)) (hts (.instantiable RX1 3) (by decide +kernel)) (hts (.initialized RX1) (by decide +kernel)) hK hG rfl (fun j hj => by rcases (show j = 0 ∨ j = 1 ∨ j = 2 by omega) with rfl | rfl | rfl <;> rfl) (Nat.le_of_ble_eq_true rfl) (Nat.le_of_ble_eq_true rfl) dX6_init_49 (fun H hG => ?_)
  have hG : kG D b0 s.heap ([.inr (6, [.ref (b0 + 1), .ref (b0 + 4), .ref (b0 + 6), .ref (b0 + 8), .null, .null, .int 0, .int 0])] ++ (dkL tc (b0 + 1)) ++ (snL tc (b0 + 4)) ++ (rcL tc (b0 + 6)) ++ (rtL tc (b0 + 8)) ++ [.inr (1, [.null, .null, .int 0])]) H _ := hG
  refine W.eq (g2 := F0 m 52 ls [.ref (b0 + 39), .ref (b0 + 0)]) rfl ?_
  refine lv_dup hx hb dX6_init_52 rfl ?_
  refine k_callP (P := [.inr (6, [.ref (b0 + 1), .ref (b0 + 4), .ref (b0 + 6), .ref (b0 + 8), .null, .null, .int 0, .int 0])] ++ (dkL tc (b0 + 1)) ++ (snL tc (b0 + 4)) ++ (rcL tc (b0 + 6)) ++ (rtL tc (b0 + 8))) (va_runIN (As := []) (rest := [.ref (b0 + 39), .ref (b0 + 0)]) hcx (c_X1_init l D tc (b0 + 39)) ⟨va_cnB 0 hts ggX6_init_X1_init rfl rfl rfl hK.2.1.2.2.2.1 (hts (.initialized RX1) (by decide +kernel)) (by decide +kernel) ⟨Nat.le_of_ble_eq_true rfl, Nat.le_of_ble_eq_true rfl⟩, rfl, hts (.instanceMethod yX1_init) (by decide +kernel)⟩ (k_pSP (P := [.inr (6, [.ref (b0 + 1), .ref (b0 + 4), .ref (b0 + 6), .ref (b0 + 8), .null, .null, .int 0, .int 0])] ++ (dkL tc (b0 + 1)) ++ (snL tc (b0 + 4)) ++ (rcL tc (b0 + 6)) ++ (rtL tc (b0 + 8))) hK hG rfl) rfl rfl hl.1 rfl (lv_room (Nat.le_of_ble_eq_true rfl)) dX6_init_53 ⟨Nat.le_of_ble_eq_true rfl, Nat.le_of_ble_eq_true rfl⟩) hG rfl (fun H locs hG => ?_)
  have hG : kG D b0 s.heap ([.inr (6, [.ref (b0 + 1), .ref (b0 + 4), .ref (b0 + 6), .ref (b0 + 8), .null, .null, .int 0, .int 0])] ++ (dkL tc (b0 + 1)) ++ (snL tc (b0 + 4)) ++ (rcL tc (b0 + 6)) ++ (rtL tc (b0 + 8)) ++ (rkL tc (b0 + 39))) H _ := hG
  refine W.eq (g2 := F0 m 56 ls [.ref (b0 + 39), .ref (b0 + 0)]) rfl ?_
  refine k_putF (ty := .object "NeighbourScores$Ranking") hx hb hts (by decide +kernel) tyX6 tyX6_ok nmX6 hown hK hG 0 rfl rfl 4 (by decide) (hts (.fieldLink RX6 40 "NeighbourScores" "ranking" "LNeighbourScores$Ranking;") (by decide +kernel)) (fun _ h9 => h9) rfl hin rfl (by decide +kernel) rfl rfl (Nat.le_of_ble_eq_true rfl) dX6_init_56 (fun H locs hG => ?_)
  have hG : kG D b0 s.heap ([.inr (6, [.ref (b0 + 1), .ref (b0 + 4), .ref (b0 + 6), .ref (b0 + 8), .ref (b0 + 39), .null, .int 0, .int 0])] ++ (dkL tc (b0 + 1)) ++ (snL tc (b0 + 4)) ++ (rcL tc (b0 + 6)) ++ (rtL tc (b0 + 8)) ++ (rkL tc (b0 + 39))) H _ := hG
  refine lv_aload_n hx hb dX6_init_59 rfl (lv_at hl 0 rfl) ?_
  refine k_newO (ci := 3) (fs := [.null, .null, .int 0]) hx hb hts (by decide +kernel) tyX3 tyX3_ok hown (hts (.classLink RX6 44 RX3) (by decide +kernel)) (hts (.instantiable RX3 3) (by decide +kernel)) (hts (.initialized RX3) (by decide +kernel)) hK hG rfl (fun j hj => by rcases (show j = 0 ∨ j = 1 ∨ j = 2 by omega) with rfl | rfl | rfl <;> rfl) (Nat.le_of_ble_eq_true rfl) (Nat.le_of_ble_eq_true rfl) dX6_init_60 (fun H hG => ?_)
  have hG : kG D b0 s.heap ([.inr (6, [.ref (b0 + 1), .ref (b0 + 4), .ref (b0 + 6), .ref (b0 + 8), .ref (b0 + 39), .null, .int 0, .int 0])] ++ (dkL tc (b0 + 1)) ++ (snL tc (b0 + 4)) ++ (rcL tc (b0 + 6)) ++ (rtL tc (b0 + 8)) ++ (rkL tc (b0 + 39)) ++ [.inr (3, [.null, .null, .int 0])]) H _ := hG
  refine W.eq (g2 := F0 m 63 ls [.ref (b0 + 42), .ref (b0 + 0)]) rfl ?_
  refine lv_dup hx hb dX6_init_63 rfl ?_
  refine k_callP (P := [.inr (6, [.ref (b0 + 1), .ref (b0 + 4), .ref (b0 + 6), .ref (b0 + 8), .ref (b0 + 39), .null, .int 0, .int 0])] ++ (dkL tc (b0 + 1)) ++ (snL tc (b0 + 4)) ++ (rcL tc (b0 + 6)) ++ (rtL tc (b0 + 8)) ++ (rkL tc (b0 + 39))) (va_runI (As := []) (rest := [.ref (b0 + 42), .ref (b0 + 0)]) hcx (c_X3_init l D tc (b0 + 42)) (cwI 0 hts ggX6_init_X3_init rfl rfl rfl (hts (.initialized RX3) (by decide +kernel)) (hts (.methodLink RX6 46 yX3_init) (by decide +kernel)) (hts (.instanceMethod yX3_init) (by decide +kernel)) rfl (by decide +kernel) ⟨Nat.le_of_ble_eq_true rfl, Nat.le_of_ble_eq_true rfl⟩) (k_pSP (P := [.inr (6, [.ref (b0 + 1), .ref (b0 + 4), .ref (b0 + 6), .ref (b0 + 8), .ref (b0 + 39), .null, .int 0, .int 0])] ++ (dkL tc (b0 + 1)) ++ (snL tc (b0 + 4)) ++ (rcL tc (b0 + 6)) ++ (rtL tc (b0 + 8)) ++ (rkL tc (b0 + 39))) hK hG rfl) rfl rfl hl.1 rfl (lv_room (Nat.le_of_ble_eq_true rfl)) dX6_init_64 ⟨Nat.le_of_ble_eq_true rfl, Nat.le_of_ble_eq_true rfl⟩) hG rfl (fun H locs hG => ?_)
  have hG : kG D b0 s.heap ([.inr (6, [.ref (b0 + 1), .ref (b0 + 4), .ref (b0 + 6), .ref (b0 + 8), .ref (b0 + 39), .null, .int 0, .int 0])] ++ (dkL tc (b0 + 1)) ++ (snL tc (b0 + 4)) ++ (rcL tc (b0 + 6)) ++ (rtL tc (b0 + 8)) ++ (rkL tc (b0 + 39)) ++ (rdL tc (b0 + 42))) H _ := hG
  refine W.eq (g2 := F0 m 67 ls [.ref (b0 + 42), .ref (b0 + 0)]) rfl ?_
  refine k_putF (ty := .object "NeighbourScores$Reading") hx hb hts (by decide +kernel) tyX6 tyX6_ok nmX6 hown hK hG 0 rfl rfl 5 (by decide) (hts (.fieldLink RX6 47 "NeighbourScores" "reading" "LNeighbourScores$Reading;") (by decide +kernel)) (fun _ h9 => h9) rfl hin rfl (by decide +kernel) rfl rfl (Nat.le_of_ble_eq_true rfl) dX6_init_67 (fun H locs hG => ?_)
  have hG : kG D b0 s.heap ([.inr (6, [.ref (b0 + 1), .ref (b0 + 4), .ref (b0 + 6), .ref (b0 + 8), .ref (b0 + 39), .ref (b0 + 42), .int 0, .int 0])] ++ (dkL tc (b0 + 1)) ++ (snL tc (b0 + 4)) ++ (rcL tc (b0 + 6)) ++ (rtL tc (b0 + 8)) ++ (rkL tc (b0 + 39)) ++ (rdL tc (b0 + 42))) H _ := hG
  refine lv_aload_n hx hb dX6_init_70 rfl (lv_at hl 0 rfl) ?_
  refine lv_iconst (v := 0) hx hb dX6_init_71 (by decide) ?_
  refine k_put (ty := .int) hx hb hts (by decide +kernel) tyX6 tyX6_ok nmX6 hown hK hG 0 rfl rfl 6 (by decide) (hts (.fieldLink RX6 51 "NeighbourScores" "systemNumber" "I") (by decide +kernel)) (fun _ h9 => h9) rfl (by decide +kernel) rfl rfl (Nat.le_of_ble_eq_true rfl) dX6_init_72 (fun H locs hG => ?_)
  have hG : kG D b0 s.heap ([.inr (6, [.ref (b0 + 1), .ref (b0 + 4), .ref (b0 + 6), .ref (b0 + 8), .ref (b0 + 39), .ref (b0 + 42), .int 0, .int 0])] ++ (dkL tc (b0 + 1)) ++ (snL tc (b0 + 4)) ++ (rcL tc (b0 + 6)) ++ (rtL tc (b0 + 8)) ++ (rkL tc (b0 + 39)) ++ (rdL tc (b0 + 42))) H _ := hG
  refine lv_aload_n hx hb dX6_init_75 rfl (lv_at hl 0 rfl) ?_
  refine lv_iconst (v := 0) hx hb dX6_init_76 (by decide) ?_
  refine k_put (ty := .int) hx hb hts (by decide +kernel) tyX6 tyX6_ok nmX6 hown hK hG 0 rfl rfl 7 (by decide) (hts (.fieldLink RX6 55 "NeighbourScores" "baseNumber" "I") (by decide +kernel)) (fun _ h9 => h9) rfl (by decide +kernel) rfl rfl (Nat.le_of_ble_eq_true rfl) dX6_init_77 (fun H locs hG => ?_)
  have hG : kG D b0 s.heap ([.inr (6, [.ref (b0 + 1), .ref (b0 + 4), .ref (b0 + 6), .ref (b0 + 8), .ref (b0 + 39), .ref (b0 + 42), .int 0, .int 0])] ++ (dkL tc (b0 + 1)) ++ (snL tc (b0 + 4)) ++ (rcL tc (b0 + 6)) ++ (rtL tc (b0 + 8)) ++ (rkL tc (b0 + 39)) ++ (rdL tc (b0 + 42))) H _ := hG
  exact k_ret hx hb hr hlocks hG dX6_init_80 (Nat.le_of_ble_eq_true rfl) (Nat.le_of_ble_eq_true rfl)

set_option maxHeartbeats 4000000 in
set_option maxRecDepth 100000 in
theorem k_X7_checked (l : Launch) (D : va_G) (tc : Nat → ClassId) (b0 : Nat) (es : List va_E) (fs : List Value) (f : Nat → Int32) (sd : Int32) (st cnt : Nat) (h0e : es[0]? = some (.inr (7, fs))) (h1e : fs[1]? = some (.ref (b0 + 2))) (h2e : es[2]? = some (.inl (tc 0, 172, .inl f))) (hc : st + cnt ≤ 172) : Met l yX7_checked wsX7_checked ({ frames := 1, cells := 0, slots := 0, locals := 22 } : Room) (va_Pc [.ref (b0 + 0), .int sd, .int (nI st), .int (nI cnt)] (kPc D tc b0 es)) (vp_Si (fun r => pu_chk (fun j => f (st + j)) sd cnt ||| 1 = r)) 0 0 gN := by
  refine k_ofV (by decide) rfl (Nat.le_of_ble_eq_true rfl) ?_
  intro p e s m below meth c hcx hr hlocks _ _ hGK ls hl
  obtain ⟨hG, hK⟩ := hGK
  obtain ⟨hx, hb, hml, hown, hts⟩ := id hcx
  have hl : lv_has ls 6 [(0, .ref (b0 + 0)), (1, .int sd), (2, .int (nI st)), (3, .int (nI cnt))] := hl
  refine lv_iload_n hx hb dX7_checked_0 rfl (lv_at hl 1 rfl) ?_
  refine lv_istore (lv' := [(4, .int sd), (0, .ref (b0 + 0)), (1, .int sd), (2, .int (nI st)), (3, .int (nI cnt))]) hx hb dX7_checked_1 hl (by decide) rfl (fun ls hl => ?_)
  refine lv_iconst (v := 0) hx hb dX7_checked_3 (by decide) ?_
  refine lv_istore (lv' := [(5, .int 0), (4, .int sd), (0, .ref (b0 + 0)), (1, .int sd), (2, .int (nI st)), (3, .int (nI cnt))]) hx hb dX7_checked_4 hl (by decide) rfl (fun ls hl => ?_)
  have lp6 : ∀ (n : Nat) (k : Nat), (k ≤ cnt) → (cnt + 1 ≤ k + n) → ∀ ls : Array Slot, lv_has ls 6 [(0, .ref (b0 + 0)), (1, .int sd), (2, .int (nI st)), (3, .int (nI cnt)), (4, .int (pu_chk (fun j => f (st + j)) sd k)), (5, .int (nI k))] → W p l e (headSpec wsX7_checked ({ frames := 1, cells := 0, slots := 0, locals := 22 } : Room)).room s m ([.ref (b0 + 0), .int sd, .int (nI st), .int (nI cnt)] : List Value).toArray below meth c s.heap [] 0 0 (MQ below (vp_Si (fun r => pu_chk (fun j => f (st + j)) sd cnt ||| 1 = r)) ([.ref (b0 + 0), .int sd, .int (nI st), .int (nI cnt)] : List Value).toArray s 0 0 gN) (F0 m 6 ls []) := by
    intro n
    induction n with
    | zero =>
      intro k hk hn ls hl
      exact absurd hn (by omega)
    | succ n ih6 =>
      intro k hk hn ls hl
      refine lv_iload hx hb dX7_checked_6 (lv_at hl 5 rfl) ?_
      refine lv_iload_n hx hb dX7_checked_8 rfl (lv_at hl 3 rfl) ?_
      refine lv_icmp_ge (tgt := 34) hx hb dX7_checked_9 (by decide) (fun c9 => ?_) (fun c9 => ?_)
      · -- 9: jumps
        have b9 := g_le (a := cnt) (b := k) c9 (by omega) (by omega)
        refine lv_iload hx hb dX7_checked_34 (lv_at hl 4 rfl) ?_
        refine lv_iconst (v := 1) hx hb dX7_checked_36 (by decide) ?_
        refine lv_ior hx hb dX7_checked_37 ?_
        exact g_riS hx hb hr hlocks (by rw [show cnt = k by omega]) dX7_checked_38
      · -- 9: goes on
        have b9 := g_nle (a := cnt) (b := k) c9 (by omega) (by omega)
        refine lv_iload hx hb dX7_checked_12 (lv_at hl 4 rfl) ?_
        refine lv_aload_n hx hb dX7_checked_14 rfl (lv_at hl 0 rfl) ?_
        refine k_get (v := .ref (b0 + 2)) hx hb hts (by decide +kernel) hown hK hG 0 h0e rfl 1 (by decide) (hts (.fieldLink RX7 13 "NeighbourScoresModel" "disk" "[I") (by decide +kernel)) (fun _ h9 => h9) h1e dX7_checked_15 ?_
        refine lv_iload_n hx hb dX7_checked_18 rfl (lv_at hl 2 rfl) ?_
        refine lv_iload hx hb dX7_checked_19 (lv_at hl 5 rfl) ?_
        refine lv_iadd hx hb dX7_checked_21 ?_
        refine g_i (y := nI (st + k)) (nI_add st k) ?_
        refine k_iald hx hb hK hG 2 h2e (st + k) rfl (by omega) (by omega) dX7_checked_22 ?_
        refine g_si (va_runS (As := [.int (pu_chk (fun j => f (st + j)) sd k), .int (f (st + k))]) (rest := []) hcx (c_X7_mix l (pu_chk (fun j => f (st + j)) sd k) (f (st + k))) (va_cwS 2 hts gX7_checked_X7_mix rfl rfl rfl (by decide +kernel) ⟨Nat.le_of_ble_eq_true rfl, Nat.le_of_ble_eq_true rfl⟩) (g_p0) rfl rfl hl.1 rfl (lv_room (Nat.le_of_ble_eq_true rfl)) dX7_checked_23 ⟨Nat.le_refl _, Nat.le_refl _⟩) (fun r_23 hw_23 => ?_)
        subst hw_23
        refine lv_istore (lv' := [(4, .int (pu_mix (pu_chk (fun j => f (st + j)) sd k) (f (st + k)))), (0, .ref (b0 + 0)), (1, .int sd), (2, .int (nI st)), (3, .int (nI cnt)), (5, .int (nI k))]) hx hb dX7_checked_26 hl (by decide) rfl (fun ls hl => ?_)
        refine lv_iinc (v := nI (k + 1)) (lv' := [(5, .int (nI (k + 1))), (4, .int (pu_mix (pu_chk (fun j => f (st + j)) sd k) (f (st + k)))), (0, .ref (b0 + 0)), (1, .int sd), (2, .int (nI st)), (3, .int (nI cnt))]) hx hb dX7_checked_28 hl (k := 5) rfl (nI_1 _) (by decide) rfl (fun ls hl => ?_)
        refine lv_goto (tgt := 6) hx hb dX7_checked_31 (by decide) ?_
        exact ih6 (k + 1) (by omega) (by omega) ls (lv_sub hl [2, 3, 4, 5, 1, 0] rfl)
  exact lp6 (cnt + 1) 0 (by omega) (by omega) ls (lv_sub hl [2, 3, 4, 5, 1, 0] rfl)


def mdL (tc : Nat → ClassId) (b0 : Nat) : List va_E := [.inr (7, [.ref (b0 + 1), .ref (b0 + 2), .int 0, .int 0, .int 0, .int (-1), .ref (b0 + 3), .ref (b0 + 4), .ref (b0 + 5)]), .inl (tc 0, 192, .inl (fun _ => 0)), .inl (tc 0, 172, .inl wd0), .inl (tc 0, 256, .inl (fun _ => 0)), .inl (tc 1, 16, .inr (.inl (fun _ => 0))), .inl (tc 2, 16, .inl (fun _ => 0))]
set_option maxHeartbeats 4000000 in
set_option maxRecDepth 100000 in
theorem c_X7_init (l : Launch) (D : va_G) (tc : Nat → ClassId) (b0 : Nat) : Met l yX7_init wsX7_init ({ frames := 2, cells := 5, slots := 652, locals := 47 } : Room) (va_Pc [.ref (b0 + 0)] (kPc D tc b0 [.inr (7, [.null, .null, .int 0, .int 0, .int 0, .int 0, .null, .null, .null])])) (kQv D b0 (mdL tc b0)) 5 652 (kA b0) := by
  refine k_of (by decide) rfl rfl (Nat.le_of_ble_eq_true rfl) ?_
  intro p e s m below meth c hcx hr hlocks hin hK hG ls hl
  obtain ⟨hx, hb, hml, hown, hts⟩ := id hcx
  have hl : lv_has ls 1 [(0, .ref (b0 + 0))] := hl
  refine lv_aload_n hx hb dX7_init_0 rfl (lv_at hl 0 rfl) ?_
  refine W.objInit hx hb hown (hts (.methodLink RX7 1 objectInit) (by decide +kernel)) (hts (.instanceMethod objectInit) (by decide +kernel)) (hts (.code objectInit ⟨#[0xb1]⟩ 1 none) (by decide +kernel)) rfl (by rw [hml]; exact hl.1) rfl dX7_init_1 (Nat.le_of_ble_eq_true rfl) (Nat.le_of_ble_eq_true rfl) ?_
  refine W.eq (g2 := F0 m 4 ls []) rfl ?_
  refine lv_aload_n hx hb dX7_init_4 rfl (lv_at hl 0 rfl) ?_
  refine lv_sipush (v := 192) hx hb dX7_init_5 (by decide) ?_
  refine k_newA hx hb (atype := .int) (ty := .int) (hts (.arrayClass .int) (by decide +kernel)) rfl 0 (cA := tc 0) rfl (fun _ h1 h2 => Option.some.inj (h1.symm.trans h2)) hK hG (a0 := (192, .inl (fun _ => 0))) (vp_cell_i ..) (N' := 192) (by decide +kernel) (by decide +kernel) (by decide +kernel) (Nat.le_of_ble_eq_true rfl) (Nat.le_of_ble_eq_true rfl) dX7_init_8 (fun H hG => ?_)
  have hG : kG D b0 s.heap ([.inr (7, [.null, .null, .int 0, .int 0, .int 0, .int 0, .null, .null, .null]), .inl (tc 0, 192, .inl (fun _ => 0))]) H _ := hG
  refine W.eq (g2 := F0 m 10 ls [.ref (b0 + 1), .ref (b0 + 0)]) rfl ?_
  refine k_putF (ty := .array .int) hx hb hts (by decide +kernel) tyX7 tyX7_ok nmX7 hown hK hG 0 rfl rfl 0 (by decide) (hts (.fieldLink RX7 7 "NeighbourScoresModel" "rated" "[I") (by decide +kernel)) (fun _ h9 => h9) rfl hin rfl (by decide +kernel) rfl rfl (Nat.le_of_ble_eq_true rfl) dX7_init_10 (fun H locs hG => ?_)
  have hG : kG D b0 s.heap ([.inr (7, [.ref (b0 + 1), .null, .int 0, .int 0, .int 0, .int 0, .null, .null, .null]), .inl (tc 0, 192, .inl (fun _ => 0))]) H _ := hG
  refine lv_aload_n hx hb dX7_init_13 rfl (lv_at hl 0 rfl) ?_
  refine lv_sipush (v := 172) hx hb dX7_init_14 (by decide) ?_
  refine k_newA hx hb (atype := .int) (ty := .int) (hts (.arrayClass .int) (by decide +kernel)) rfl 0 (cA := tc 0) rfl (fun _ h1 h2 => Option.some.inj (h1.symm.trans h2)) hK hG (a0 := (172, .inl (fun _ => 0))) (vp_cell_i ..) (N' := 172) (by decide +kernel) (by decide +kernel) (by decide +kernel) (Nat.le_of_ble_eq_true rfl) (Nat.le_of_ble_eq_true rfl) dX7_init_17 (fun H hG => ?_)
  have hG : kG D b0 s.heap ([.inr (7, [.ref (b0 + 1), .null, .int 0, .int 0, .int 0, .int 0, .null, .null, .null]), .inl (tc 0, 192, .inl (fun _ => 0)), .inl (tc 0, 172, .inl (fun _ => 0))]) H _ := hG
  refine W.eq (g2 := F0 m 19 ls [.ref (b0 + 2), .ref (b0 + 0)]) rfl ?_
  refine k_putF (ty := .array .int) hx hb hts (by decide +kernel) tyX7 tyX7_ok nmX7 hown hK hG 0 rfl rfl 1 (by decide) (hts (.fieldLink RX7 13 "NeighbourScoresModel" "disk" "[I") (by decide +kernel)) (fun _ h9 => h9) rfl hin rfl (by decide +kernel) rfl rfl (Nat.le_of_ble_eq_true rfl) dX7_init_19 (fun H locs hG => ?_)
  have hG : kG D b0 s.heap ([.inr (7, [.ref (b0 + 1), .ref (b0 + 2), .int 0, .int 0, .int 0, .int 0, .null, .null, .null]), .inl (tc 0, 192, .inl (fun _ => 0)), .inl (tc 0, 172, .inl (fun _ => 0))]) H _ := hG
  refine lv_aload_n hx hb dX7_init_22 rfl (lv_at hl 0 rfl) ?_
  refine lv_iconst (v := (-1)) hx hb dX7_init_23 (by decide) ?_
  refine k_put (ty := .int) hx hb hts (by decide +kernel) tyX7 tyX7_ok nmX7 hown hK hG 0 rfl rfl 5 (by decide) (hts (.fieldLink RX7 16 "NeighbourScoresModel" "left" "I") (by decide +kernel)) (fun _ h9 => h9) rfl (by decide +kernel) rfl rfl (Nat.le_of_ble_eq_true rfl) dX7_init_24 (fun H locs hG => ?_)
  have hG : kG D b0 s.heap ([.inr (7, [.ref (b0 + 1), .ref (b0 + 2), .int 0, .int 0, .int 0, .int (-1), .null, .null, .null]), .inl (tc 0, 192, .inl (fun _ => 0)), .inl (tc 0, 172, .inl (fun _ => 0))]) H _ := hG
  refine lv_aload_n hx hb dX7_init_27 rfl (lv_at hl 0 rfl) ?_
  refine lv_sipush (v := 256) hx hb dX7_init_28 (by decide) ?_
  refine k_newA hx hb (atype := .int) (ty := .int) (hts (.arrayClass .int) (by decide +kernel)) rfl 0 (cA := tc 0) rfl (fun _ h1 h2 => Option.some.inj (h1.symm.trans h2)) hK hG (a0 := (256, .inl (fun _ => 0))) (vp_cell_i ..) (N' := 256) (by decide +kernel) (by decide +kernel) (by decide +kernel) (Nat.le_of_ble_eq_true rfl) (Nat.le_of_ble_eq_true rfl) dX7_init_31 (fun H hG => ?_)
  have hG : kG D b0 s.heap ([.inr (7, [.ref (b0 + 1), .ref (b0 + 2), .int 0, .int 0, .int 0, .int (-1), .null, .null, .null]), .inl (tc 0, 192, .inl (fun _ => 0)), .inl (tc 0, 172, .inl (fun _ => 0)), .inl (tc 0, 256, .inl (fun _ => 0))]) H _ := hG
  refine W.eq (g2 := F0 m 33 ls [.ref (b0 + 3), .ref (b0 + 0)]) rfl ?_
  refine k_putF (ty := .array .int) hx hb hts (by decide +kernel) tyX7 tyX7_ok nmX7 hown hK hG 0 rfl rfl 6 (by decide) (hts (.fieldLink RX7 20 "NeighbourScoresModel" "weights" "[I") (by decide +kernel)) (fun _ h9 => h9) rfl hin rfl (by decide +kernel) rfl rfl (Nat.le_of_ble_eq_true rfl) dX7_init_33 (fun H locs hG => ?_)
  have hG : kG D b0 s.heap ([.inr (7, [.ref (b0 + 1), .ref (b0 + 2), .int 0, .int 0, .int 0, .int (-1), .ref (b0 + 3), .null, .null]), .inl (tc 0, 192, .inl (fun _ => 0)), .inl (tc 0, 172, .inl (fun _ => 0)), .inl (tc 0, 256, .inl (fun _ => 0))]) H _ := hG
  refine lv_aload_n hx hb dX7_init_36 rfl (lv_at hl 0 rfl) ?_
  refine lv_bipush (v := 16) hx hb dX7_init_37 (by decide) ?_
  refine k_newA hx hb (atype := .long) (ty := .long) (hts (.arrayClass .long) (by decide +kernel)) rfl 1 (cA := tc 1) rfl (fun _ h1 h2 => Option.some.inj (h1.symm.trans h2)) hK hG (a0 := (16, .inr (.inl (fun _ => 0)))) (vp_cell_l ..) (N' := 16) (by decide +kernel) (by decide +kernel) (by decide +kernel) (Nat.le_of_ble_eq_true rfl) (Nat.le_of_ble_eq_true rfl) dX7_init_39 (fun H hG => ?_)
  have hG : kG D b0 s.heap ([.inr (7, [.ref (b0 + 1), .ref (b0 + 2), .int 0, .int 0, .int 0, .int (-1), .ref (b0 + 3), .null, .null]), .inl (tc 0, 192, .inl (fun _ => 0)), .inl (tc 0, 172, .inl (fun _ => 0)), .inl (tc 0, 256, .inl (fun _ => 0)), .inl (tc 1, 16, .inr (.inl (fun _ => 0)))]) H _ := hG
  refine W.eq (g2 := F0 m 41 ls [.ref (b0 + 4), .ref (b0 + 0)]) rfl ?_
  refine k_putF (ty := .array .long) hx hb hts (by decide +kernel) tyX7 tyX7_ok nmX7 hown hK hG 0 rfl rfl 7 (by decide) (hts (.fieldLink RX7 23 "NeighbourScoresModel" "scores" "[J") (by decide +kernel)) (fun _ h9 => h9) rfl hin rfl (by decide +kernel) rfl rfl (Nat.le_of_ble_eq_true rfl) dX7_init_41 (fun H locs hG => ?_)
  have hG : kG D b0 s.heap ([.inr (7, [.ref (b0 + 1), .ref (b0 + 2), .int 0, .int 0, .int 0, .int (-1), .ref (b0 + 3), .ref (b0 + 4), .null]), .inl (tc 0, 192, .inl (fun _ => 0)), .inl (tc 0, 172, .inl (fun _ => 0)), .inl (tc 0, 256, .inl (fun _ => 0)), .inl (tc 1, 16, .inr (.inl (fun _ => 0)))]) H _ := hG
  refine lv_aload_n hx hb dX7_init_44 rfl (lv_at hl 0 rfl) ?_
  refine lv_bipush (v := 16) hx hb dX7_init_45 (by decide) ?_
  refine k_newA hx hb (atype := .boolean) (ty := .boolean) (hts (.arrayClass .boolean) (by decide +kernel)) rfl 2 (cA := tc 2) rfl (fun _ h1 h2 => Option.some.inj (h1.symm.trans h2)) hK hG (a0 := (16, .inl (fun _ => 0))) (vp_cell_i ..) (N' := 16) (by decide +kernel) (by decide +kernel) (by decide +kernel) (Nat.le_of_ble_eq_true rfl) (Nat.le_of_ble_eq_true rfl) dX7_init_47 (fun H hG => ?_)
  have hG : kG D b0 s.heap ([.inr (7, [.ref (b0 + 1), .ref (b0 + 2), .int 0, .int 0, .int 0, .int (-1), .ref (b0 + 3), .ref (b0 + 4), .null]), .inl (tc 0, 192, .inl (fun _ => 0)), .inl (tc 0, 172, .inl (fun _ => 0)), .inl (tc 0, 256, .inl (fun _ => 0)), .inl (tc 1, 16, .inr (.inl (fun _ => 0))), .inl (tc 2, 16, .inl (fun _ => 0))]) H _ := hG
  refine W.eq (g2 := F0 m 49 ls [.ref (b0 + 5), .ref (b0 + 0)]) rfl ?_
  refine k_putF (ty := .array .boolean) hx hb hts (by decide +kernel) tyX7 tyX7_ok nmX7 hown hK hG 0 rfl rfl 8 (by decide) (hts (.fieldLink RX7 27 "NeighbourScoresModel" "met" "[Z") (by decide +kernel)) (fun _ h9 => h9) rfl hin rfl (by decide +kernel) rfl rfl (Nat.le_of_ble_eq_true rfl) dX7_init_49 (fun H locs hG => ?_)
  have hG : kG D b0 s.heap ([.inr (7, [.ref (b0 + 1), .ref (b0 + 2), .int 0, .int 0, .int 0, .int (-1), .ref (b0 + 3), .ref (b0 + 4), .ref (b0 + 5)]), .inl (tc 0, 192, .inl (fun _ => 0)), .inl (tc 0, 172, .inl (fun _ => 0)), .inl (tc 0, 256, .inl (fun _ => 0)), .inl (tc 1, 16, .inr (.inl (fun _ => 0))), .inl (tc 2, 16, .inl (fun _ => 0))]) H _ := hG
  refine lv_aload_n hx hb dX7_init_52 rfl (lv_at hl 0 rfl) ?_
  refine k_get (v := .ref (b0 + 2)) hx hb hts (by decide +kernel) hown hK hG 0 rfl rfl 1 (by decide) (hts (.fieldLink RX7 13 "NeighbourScoresModel" "disk" "[I") (by decide +kernel)) (fun _ h9 => h9) rfl dX7_init_53 ?_
  refine lv_bipush (v := 25) hx hb dX7_init_56 (by decide) ?_
  refine lv_aload_n hx hb dX7_init_58 rfl (lv_at hl 0 rfl) ?_
  refine lv_iconst (v := 1) hx hb dX7_init_59 (by decide) ?_
  refine lv_iconst (v := 0) hx hb dX7_init_60 (by decide) ?_
  refine lv_bipush (v := 25) hx hb dX7_init_61 (by decide) ?_
  refine g_si (va_runV (As := [.int 1, .int (nI 0), .int (nI 25)]) (rest := [.int 25, .ref (b0 + 2)]) hcx (k_X7_checked l D tc b0 ([.inr (7, [.ref (b0 + 1), .ref (b0 + 2), .int 0, .int 0, .int 0, .int (-1), .ref (b0 + 3), .ref (b0 + 4), .ref (b0 + 5)]), .inl (tc 0, 192, .inl (fun _ => 0)), .inl (tc 0, 172, .inl (fun _ => 0)), .inl (tc 0, 256, .inl (fun _ => 0)), .inl (tc 1, 16, .inr (.inl (fun _ => 0))), .inl (tc 2, 16, .inl (fun _ => 0))]) _ _ 1 0 25 rfl rfl rfl (by decide)) (cwV 3 hts gX7_init_X7_checked rfl rfl rfl (by decide +kernel) ⟨Nat.le_of_ble_eq_true rfl, Nat.le_of_ble_eq_true rfl⟩) (k_pV hK hG 0 rfl rfl) rfl rfl hl.1 rfl (lv_room (Nat.le_of_ble_eq_true rfl)) dX7_init_63 ⟨Nat.le_of_ble_eq_true rfl, Nat.le_of_ble_eq_true rfl⟩) (fun r hw => ?_)
  subst hw
  refine k_iast hx hb hK hG 2 rfl 25 (by decide) (by decide) (by decide) dX7_init_66 (fun H locs hG => ?_)
  exact k_ret hx hb hr hlocks hG dX7_init_67 (Nat.le_of_ble_eq_true rfl) (Nat.le_of_ble_eq_true rfl)
