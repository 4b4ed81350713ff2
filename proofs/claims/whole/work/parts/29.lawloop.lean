set_option maxHeartbeats 4000000 in
set_option maxRecDepth 100000 in
theorem law_loop {p : Program} {l : Launch} {e : Env} {s : State} {m : MethodId} {below : List Frame} {meth : Method} {c : Code} {D : va_G} {ad : Nat → Nat} {tc : Nat → ClassId} {b L : Nat} {xs : Nat → Int32} (hL : L ≤ 2048) (C0 : lw_At p s m meth c b L xs) (hK : gK D ad tc (kA s.heap.size) s) :
    ∀ (n k : Nat) (σ : Sa) (I : Mi) (Lm : Ml) (H : Heap) (locs : List Loc), 4 * k ≤ L → L + 4 ≤ 4 * k + 4 * n → repN I σ → repM I σ → σ.2.2.1 ≤ 1000000040 + k → gG D ad tc (kA s.heap.size) s.heap I Lm H locs → ∀ (ls : Array Slot), lv_has ls 4 [(0, .ref b), (1, .ref (ad 0)), (2, .ref (ad 92)), (3, .int (nI (4 * k)))] → W p l e room_1 s m #[Value.ref b] below meth c H locs 600000 7302250 (lw_Z below #[Value.ref b] s) (F0 m 18 ls []) := by
  obtain ⟨hx, hb0, hr, hml, hown, hts, hX, hbl, hlocks, hgv⟩ := C0
  have hb : c.code = cL_law := hb0
  have htw : ∀ w ∈ wsL_law, w.before #[Value.ref b] s = true := fun w h => hts w (wsL_law_in w h)
  have hown : s.vm.findClass RL = some m.cls := hown
  have hcx : CallFix p m c cL_law 4 s #[Value.ref b] wsL_law RL := ⟨hx, hb, hml, hown, htw⟩
  have hbA : ¬ kA s.heap.size b := Nat.not_le.mpr hbl
  intro n
  induction n with
  | zero =>
    intro k σ I Lm H locs h1 h2
    exact absurd h2 (by omega)
  | succ n ih =>
    intro k σ I Lm H locs h1 h2 hN hM hcu hG ls hl
    refine lv_iload_n hx hb dL_law_18 rfl (lv_at hl 3 rfl) ?_
    refine lv_aload_n hx hb dL_law_19 rfl (lv_at hl 0 rfl) ?_
    refine va_slen hx hb hX hbl hbA hG.2 dL_law_20 ?_
    refine lv_iconst (v := 4) hx hb dL_law_21 (by decide) ?_
    refine lv_isub hx hb dL_law_22 ?_
    refine lv_icmp_gt (tgt := 541) hx hb dL_law_23 (by decide) (fun c23 => ?_) (fun c23 => ?_)
    · refine lv_iconst (v := 1) hx hb dL_law_541 (by decide) ?_
      refine va_forget (fun q hq => hG.2.2.2 q hq) ?_
      exact lw_ret hx hb0 hr hlocks dL_law_542
    · have hlt : 4 * k + 4 ≤ L := Nat.le_of_not_lt fun q => c23 ((lw_guard (by omega) hL).mpr q)
      have back : ∀ (σ1 : Sa) (I1 : Mi) (L1 : Ml) (H : Heap) (locs : List Loc), repN I1 σ1 → repM I1 σ1 → σ1.2.2.1 ≤ 1000000040 + (k + 1) → gG D ad tc (kA s.heap.size) s.heap I1 L1 H locs → W p l e room_1 s m #[Value.ref b] below meth c H locs 600000 7302250 (lw_Z below #[Value.ref b] s) (F0 m 535 ls []) := by
        intro σ1 I1 L1 H locs hN1 hM1 hcu1 hG1
        refine lv_iinc (v := nI (4 * (k + 1))) (lv' := [(3, .int (nI (4 * (k + 1)))), (0, .ref b), (1, .ref (ad 0)), (2, .ref (ad 92))]) hx hb dL_law_535 hl (k := 3) rfl (nI_add (4 * k) 4) (by decide) rfl (fun ls hl => ?_)
        refine lv_goto (tgt := 18) hx hb dL_law_538 (by decide) ?_
        exact ih (k + 1) σ1 I1 L1 H locs (by omega) (by omega) hN1 hM1 hcu1 hG1 ls (lv_sub hl [1, 2, 3, 0] rfl)
      have hcb : σ.2.2.1 < 2000000000 := by omega
      refine lv_aload_n hx hb dL_law_26 rfl (lv_at hl 0 rfl) ?_
      refine lv_iload_n hx hb dL_law_27 rfl (lv_at hl 3 rfl) ?_
      refine va_sld hx hb hX hbl hbA hG.2 (vp_in_nI (by omega) (by omega)) dL_law_28 ?_
      refine g_i (y := xs (4 * k)) (by rw [nI_clamp (by omega)]) ?_
      refine lv_bipush (v := 15) hx hb dL_law_29 (by decide) ?_
      refine lv_iand hx hb dL_law_31 ?_
      obtain ⟨j, hj, ej⟩ := pk_andE (xs (4 * k)) (m := 15) 4 (by decide)
      refine g_i (y := nI j) ej ?_
      have hj : j < 16 := hj
      rcases (show j = 0 ∨ j = 1 ∨ j = 2 ∨ j = 3 ∨ j = 4 ∨ j = 5 ∨ j = 6 ∨ j = 7 ∨ j = 8 ∨ j = 9 ∨ j = 10 ∨ j = 11 ∨ j = 12 ∨ j = 13 ∨ j = 14 ∨ j = 15 by omega) with rfl | rfl | rfl | rfl | rfl | rfl | rfl | rfl | rfl | rfl | rfl | rfl | rfl | rfl | rfl | rfl
      · -- rate
        refine lv_tableIn (x := nI 0) (off := 76) (tgt := 108) hx hb dL_law_32 (by decide) (by decide) rfl (by decide) ?_
        refine lv_aload_n hx hb dL_law_108 rfl (lv_at hl 1 rfl) ?_
        refine lv_aload_n hx hb dL_law_109 rfl (lv_at hl 0 rfl) ?_
        refine lv_iload_n hx hb dL_law_110 rfl (lv_at hl 3 rfl) ?_
        refine lv_iconst (v := 1) hx hb dL_law_111 (by decide) ?_
        refine lv_iadd hx hb dL_law_112 ?_
        refine g_i (y := nI (4 * k + 1)) (nI_add (4 * k) 1) ?_
        refine va_sld hx hb hX hbl hbA hG.2 (vp_in_nI (by omega) (by omega)) dL_law_113 ?_
        refine g_i (y := xs (4 * k + 1)) (by rw [nI_clamp (by omega)]) ?_
        refine lv_aload_n hx hb dL_law_114 rfl (lv_at hl 0 rfl) ?_
        refine lv_iload_n hx hb dL_law_115 rfl (lv_at hl 3 rfl) ?_
        refine lv_iconst (v := 2) hx hb dL_law_116 (by decide) ?_
        refine lv_iadd hx hb dL_law_117 ?_
        refine g_i (y := nI (4 * k + 2)) (nI_add (4 * k) 2) ?_
        refine va_sld hx hb hX hbl hbA hG.2 (vp_in_nI (by omega) (by omega)) dL_law_118 ?_
        refine g_i (y := xs (4 * k + 2)) (by rw [nI_clamp (by omega)]) ?_
        refine lv_aload_n hx hb dL_law_119 rfl (lv_at hl 0 rfl) ?_
        refine lv_iload_n hx hb dL_law_120 rfl (lv_at hl 3 rfl) ?_
        refine lv_iconst (v := 3) hx hb dL_law_121 (by decide) ?_
        refine lv_iadd hx hb dL_law_122 ?_
        refine g_i (y := nI (4 * k + 3)) (nI_add (4 * k) 3) ?_
        refine va_sld hx hb hX hbl hbA hG.2 (vp_in_nI (by omega) (by omega)) dL_law_123 ?_
        refine g_i (y := xs (4 * k + 3)) (by rw [nI_clamp (by omega)]) ?_
        refine g_ci (va_runV (As := [.int (xs (4 * k + 1)), .int (xs (4 * k + 2)), .int (xs (4 * k + 3))]) (rest := []) hcx (c_X6_rate l D ad tc I Lm σ.1 σ.2.1 σ.2.2.1 σ.2.2.2 hN (xs (4 * k + 1)) (xs (4 * k + 2)) (xs (4 * k + 3)) hcb) (cwV 3 htw gL_law_X6_rate rfl rfl rfl (by decide +kernel) ⟨Nat.le_of_ble_eq_true rfl, Nat.le_of_ble_eq_true rfl⟩) (g_pV hK hG 0 (by decide) gc_0 rfl) rfl rfl hl.1 rfl (lv_room (Nat.le_of_ble_eq_true rfl)) dL_law_124 ⟨Nat.le_of_ble_eq_true rfl, Nat.le_of_ble_eq_true rfl⟩) hK hG (fun r1 I1 L1 H locs hw1 hG => ?_)
        obtain ⟨e1, hN1, f1⟩ := hw1
        have hM1 : repM I1 σ := repM_mem hM (f1 92 (by decide)) (f1 93 (by decide)) (f1 94 (by decide))
        refine lv_aload_n hx hb dL_law_127 rfl (lv_at hl 2 rfl) ?_
        refine lv_aload_n hx hb dL_law_128 rfl (lv_at hl 0 rfl) ?_
        refine lv_iload_n hx hb dL_law_129 rfl (lv_at hl 3 rfl) ?_
        refine lv_iconst (v := 1) hx hb dL_law_130 (by decide) ?_
        refine lv_iadd hx hb dL_law_131 ?_
        refine g_i (y := nI (4 * k + 1)) (nI_add (4 * k) 1) ?_
        refine va_sld hx hb hX hbl hbA hG.2 (vp_in_nI (by omega) (by omega)) dL_law_132 ?_
        refine g_i (y := xs (4 * k + 1)) (by rw [nI_clamp (by omega)]) ?_
        refine lv_aload_n hx hb dL_law_133 rfl (lv_at hl 0 rfl) ?_
        refine lv_iload_n hx hb dL_law_134 rfl (lv_at hl 3 rfl) ?_
        refine lv_iconst (v := 2) hx hb dL_law_135 (by decide) ?_
        refine lv_iadd hx hb dL_law_136 ?_
        refine g_i (y := nI (4 * k + 2)) (nI_add (4 * k) 2) ?_
        refine va_sld hx hb hX hbl hbA hG.2 (vp_in_nI (by omega) (by omega)) dL_law_137 ?_
        refine g_i (y := xs (4 * k + 2)) (by rw [nI_clamp (by omega)]) ?_
        refine lv_aload_n hx hb dL_law_138 rfl (lv_at hl 0 rfl) ?_
        refine lv_iload_n hx hb dL_law_139 rfl (lv_at hl 3 rfl) ?_
        refine lv_iconst (v := 3) hx hb dL_law_140 (by decide) ?_
        refine lv_iadd hx hb dL_law_141 ?_
        refine g_i (y := nI (4 * k + 3)) (nI_add (4 * k) 3) ?_
        refine va_sld hx hb hX hbl hbA hG.2 (vp_in_nI (by omega) (by omega)) dL_law_142 ?_
        refine g_i (y := xs (4 * k + 3)) (by rw [nI_clamp (by omega)]) ?_
        refine g_ci (va_runV (As := [.int (xs (4 * k + 1)), .int (xs (4 * k + 2)), .int (xs (4 * k + 3))]) (rest := [.int r1]) hcx (c_X7_rate l D ad tc I1 L1 σ.1 σ.2.1 σ.2.2.1 σ.2.2.2 hM1 (xs (4 * k + 1)) (xs (4 * k + 2)) (xs (4 * k + 3)) hcb) (cwV 3 htw gL_law_X7_rate rfl rfl rfl (by decide +kernel) ⟨Nat.le_of_ble_eq_true rfl, Nat.le_of_ble_eq_true rfl⟩) (g_pV hK hG 92 (by decide) gc_92 rfl) rfl rfl hl.1 rfl (lv_room (Nat.le_of_ble_eq_true rfl)) dL_law_143 ⟨Nat.le_of_ble_eq_true rfl, Nat.le_of_ble_eq_true rfl⟩) hK hG (fun r2 I2 L2 H locs hw2 hG => ?_)
        obtain ⟨e2, hM2, f2⟩ := hw2
        have hN2 := repN_mem hN1 (I1 := I2) (fun a ha => f2 a (by omega))
        refine lv_icmp_eq (tgt := 535) hx hb dL_law_146 (by decide) (fun _ => ?_) (fun c9 => absurd (e1.symm.trans e2) c9)
        exact back (sp_rate σ (xs (4 * k + 1)) (xs (4 * k + 2)) (xs (4 * k + 3))).2 I2 L2 H locs hN2 hM2 (Nat.le_trans (cu_rate σ (xs (4 * k + 1)) (xs (4 * k + 2)) (xs (4 * k + 3))) (by omega)) hG
      · -- snapshot
        refine lv_tableIn (x := nI 1) (off := 119) (tgt := 151) hx hb dL_law_32 (by decide) (by decide) rfl (by decide) ?_
        refine lv_aload_n hx hb dL_law_151 rfl (lv_at hl 1 rfl) ?_
        refine g_ci (va_runV (As := []) (rest := []) hcx (c_X6_snapshot l D ad tc I Lm σ.1 σ.2.1 σ.2.2.1 σ.2.2.2 hN ) (cwV 0 htw gL_law_X6_snapshot rfl rfl rfl (by decide +kernel) ⟨Nat.le_of_ble_eq_true rfl, Nat.le_of_ble_eq_true rfl⟩) (g_pV hK hG 0 (by decide) gc_0 rfl) rfl rfl hl.1 rfl (lv_room (Nat.le_of_ble_eq_true rfl)) dL_law_152 ⟨Nat.le_of_ble_eq_true rfl, Nat.le_of_ble_eq_true rfl⟩) hK hG (fun r1 I1 L1 H locs hw1 hG => ?_)
        obtain ⟨e1, hN1, f1⟩ := hw1
        have hM1 : repM I1 σ := repM_mem hM (f1 92 (by decide)) (f1 93 (by decide)) (f1 94 (by decide))
        refine lv_aload_n hx hb dL_law_155 rfl (lv_at hl 2 rfl) ?_
        refine g_ci (va_runV (As := []) (rest := [.int r1]) hcx (c_X7_snapshot l D ad tc I1 L1 σ.1 σ.2.1 σ.2.2.1 σ.2.2.2 hM1 ) (cwV 0 htw gL_law_X7_snapshot rfl rfl rfl (by decide +kernel) ⟨Nat.le_of_ble_eq_true rfl, Nat.le_of_ble_eq_true rfl⟩) (g_pV hK hG 92 (by decide) gc_92 rfl) rfl rfl hl.1 rfl (lv_room (Nat.le_of_ble_eq_true rfl)) dL_law_156 ⟨Nat.le_of_ble_eq_true rfl, Nat.le_of_ble_eq_true rfl⟩) hK hG (fun r2 I2 L2 H locs hw2 hG => ?_)
        obtain ⟨e2, hM2, f2⟩ := hw2
        have hN2 := repN_mem hN1 (I1 := I2) (fun a ha => f2 a (by omega))
        refine lv_icmp_eq (tgt := 535) hx hb dL_law_159 (by decide) (fun _ => ?_) (fun c9 => absurd (e1.symm.trans e2) c9)
        exact back (sp_snapshot σ).2 I2 L2 H locs hN2 hM2 (by rw [cu_snapshot]; omega) hG
      · -- power
        refine lv_tableIn (x := nI 2) (off := 132) (tgt := 164) hx hb dL_law_32 (by decide) (by decide) rfl (by decide) ?_
        refine lv_aload_n hx hb dL_law_164 rfl (lv_at hl 1 rfl) ?_
        refine lv_aload_n hx hb dL_law_165 rfl (lv_at hl 0 rfl) ?_
        refine lv_iload_n hx hb dL_law_166 rfl (lv_at hl 3 rfl) ?_
        refine lv_iconst (v := 1) hx hb dL_law_167 (by decide) ?_
        refine lv_iadd hx hb dL_law_168 ?_
        refine g_i (y := nI (4 * k + 1)) (nI_add (4 * k) 1) ?_
        refine va_sld hx hb hX hbl hbA hG.2 (vp_in_nI (by omega) (by omega)) dL_law_169 ?_
        refine g_i (y := xs (4 * k + 1)) (by rw [nI_clamp (by omega)]) ?_
        refine g_ci (va_runV (As := [.int (xs (4 * k + 1))]) (rest := []) hcx (c_X6_power l D ad tc I Lm σ.1 σ.2.1 σ.2.2.1 σ.2.2.2 hN (xs (4 * k + 1))) (cwV 1 htw gL_law_X6_power rfl rfl rfl (by decide +kernel) ⟨Nat.le_of_ble_eq_true rfl, Nat.le_of_ble_eq_true rfl⟩) (g_pV hK hG 0 (by decide) gc_0 rfl) rfl rfl hl.1 rfl (lv_room (Nat.le_of_ble_eq_true rfl)) dL_law_170 ⟨Nat.le_of_ble_eq_true rfl, Nat.le_of_ble_eq_true rfl⟩) hK hG (fun r1 I1 L1 H locs hw1 hG => ?_)
        obtain ⟨e1, hN1, f1⟩ := hw1
        have hM1 : repM I1 σ := repM_mem hM (f1 92 (by decide)) (f1 93 (by decide)) (f1 94 (by decide))
        refine lv_aload_n hx hb dL_law_173 rfl (lv_at hl 2 rfl) ?_
        refine lv_aload_n hx hb dL_law_174 rfl (lv_at hl 0 rfl) ?_
        refine lv_iload_n hx hb dL_law_175 rfl (lv_at hl 3 rfl) ?_
        refine lv_iconst (v := 1) hx hb dL_law_176 (by decide) ?_
        refine lv_iadd hx hb dL_law_177 ?_
        refine g_i (y := nI (4 * k + 1)) (nI_add (4 * k) 1) ?_
        refine va_sld hx hb hX hbl hbA hG.2 (vp_in_nI (by omega) (by omega)) dL_law_178 ?_
        refine g_i (y := xs (4 * k + 1)) (by rw [nI_clamp (by omega)]) ?_
        refine g_ci (va_runV (As := [.int (xs (4 * k + 1))]) (rest := [.int r1]) hcx (c_X7_power l D ad tc I1 L1 σ.1 σ.2.1 σ.2.2.1 σ.2.2.2 hM1 (xs (4 * k + 1))) (cwV 1 htw gL_law_X7_power rfl rfl rfl (by decide +kernel) ⟨Nat.le_of_ble_eq_true rfl, Nat.le_of_ble_eq_true rfl⟩) (g_pV hK hG 92 (by decide) gc_92 rfl) rfl rfl hl.1 rfl (lv_room (Nat.le_of_ble_eq_true rfl)) dL_law_179 ⟨Nat.le_of_ble_eq_true rfl, Nat.le_of_ble_eq_true rfl⟩) hK hG (fun r2 I2 L2 H locs hw2 hG => ?_)
        obtain ⟨e2, hM2, f2⟩ := hw2
        have hN2 := repN_mem hN1 (I1 := I2) (fun a ha => f2 a (by omega))
        refine lv_icmp_eq (tgt := 535) hx hb dL_law_182 (by decide) (fun _ => ?_) (fun c9 => absurd (e1.symm.trans e2) c9)
        exact back (sp_power σ (xs (4 * k + 1))).2 I2 L2 H locs hN2 hM2 (by rw [cu_power]; omega) hG
      · -- restart
        refine lv_tableIn (x := nI 3) (off := 155) (tgt := 187) hx hb dL_law_32 (by decide) (by decide) rfl (by decide) ?_
        refine lv_aload_n hx hb dL_law_187 rfl (lv_at hl 1 rfl) ?_
        refine g_ci (va_runV (As := []) (rest := []) hcx (c_X6_restart l D ad tc I Lm σ.1 σ.2.1 σ.2.2.1 σ.2.2.2 hN ) (cwV 0 htw gL_law_X6_restart rfl rfl rfl (by decide +kernel) ⟨Nat.le_of_ble_eq_true rfl, Nat.le_of_ble_eq_true rfl⟩) (g_pV hK hG 0 (by decide) gc_0 rfl) rfl rfl hl.1 rfl (lv_room (Nat.le_of_ble_eq_true rfl)) dL_law_188 ⟨Nat.le_of_ble_eq_true rfl, Nat.le_of_ble_eq_true rfl⟩) hK hG (fun r1 I1 L1 H locs hw1 hG => ?_)
        obtain ⟨e1, hN1, f1⟩ := hw1
        have hM1 : repM I1 σ := repM_mem hM (f1 92 (by decide)) (f1 93 (by decide)) (f1 94 (by decide))
        refine lv_aload_n hx hb dL_law_191 rfl (lv_at hl 2 rfl) ?_
        refine g_ci (va_runV (As := []) (rest := [.int r1]) hcx (c_X7_restart l D ad tc I1 L1 σ.1 σ.2.1 σ.2.2.1 σ.2.2.2 hM1 ) (cwV 0 htw gL_law_X7_restart rfl rfl rfl (by decide +kernel) ⟨Nat.le_of_ble_eq_true rfl, Nat.le_of_ble_eq_true rfl⟩) (g_pV hK hG 92 (by decide) gc_92 rfl) rfl rfl hl.1 rfl (lv_room (Nat.le_of_ble_eq_true rfl)) dL_law_192 ⟨Nat.le_of_ble_eq_true rfl, Nat.le_of_ble_eq_true rfl⟩) hK hG (fun r2 I2 L2 H locs hw2 hG => ?_)
        obtain ⟨e2, hM2, f2⟩ := hw2
        have hN2 := repN_mem hN1 (I1 := I2) (fun a ha => f2 a (by omega))
        refine lv_icmp_eq (tgt := 535) hx hb dL_law_195 (by decide) (fun _ => ?_) (fun c9 => absurd (e1.symm.trans e2) c9)
        exact back (sp_restart σ).2 I2 L2 H locs hN2 hM2 (Nat.le_trans (cu_restart σ) (by omega)) hG
      · -- isOn
        refine lv_tableIn (x := nI 4) (off := 168) (tgt := 200) hx hb dL_law_32 (by decide) (by decide) rfl (by decide) ?_
        refine lv_aload_n hx hb dL_law_200 rfl (lv_at hl 1 rfl) ?_
        refine g_si (va_runV (As := []) (rest := []) hcx (c_X6_isOn l D ad tc I Lm σ.1 σ.2.1 σ.2.2.1 σ.2.2.2 hN ) (cwV 0 htw gL_law_X6_isOn rfl rfl rfl (by decide +kernel) ⟨Nat.le_of_ble_eq_true rfl, Nat.le_of_ble_eq_true rfl⟩) (g_pV hK hG 0 (by decide) gc_0 rfl) rfl rfl hl.1 rfl (lv_room (Nat.le_of_ble_eq_true rfl)) dL_law_201 ⟨Nat.le_of_ble_eq_true rfl, Nat.le_of_ble_eq_true rfl⟩) (fun r1 e1 => ?_)
        have hM1 := hM
        have hN1 := hN
        refine lv_aload_n hx hb dL_law_204 rfl (lv_at hl 2 rfl) ?_
        refine g_si (va_runV (As := []) (rest := [.int r1]) hcx (c_X7_isOn l D ad tc I Lm σ.1 σ.2.1 σ.2.2.1 σ.2.2.2 hM1 ) (cwV 0 htw gL_law_X7_isOn rfl rfl rfl (by decide +kernel) ⟨Nat.le_of_ble_eq_true rfl, Nat.le_of_ble_eq_true rfl⟩) (g_pV hK hG 92 (by decide) gc_92 rfl) rfl rfl hl.1 rfl (lv_room (Nat.le_of_ble_eq_true rfl)) dL_law_205 ⟨Nat.le_of_ble_eq_true rfl, Nat.le_of_ble_eq_true rfl⟩) (fun r2 e2 => ?_)
        refine lv_icmp_eq (tgt := 535) hx hb dL_law_208 (by decide) (fun _ => ?_) (fun c9 => absurd (e1.symm.trans e2) c9)
        exact back σ I Lm _ _ hN1 hM1 (by omega) hG
      · -- word
        refine lv_tableIn (x := nI 5) (off := 181) (tgt := 213) hx hb dL_law_32 (by decide) (by decide) rfl (by decide) ?_
        refine lv_aload_n hx hb dL_law_213 rfl (lv_at hl 1 rfl) ?_
        refine lv_aload_n hx hb dL_law_214 rfl (lv_at hl 0 rfl) ?_
        refine lv_iload_n hx hb dL_law_215 rfl (lv_at hl 3 rfl) ?_
        refine lv_iconst (v := 1) hx hb dL_law_216 (by decide) ?_
        refine lv_iadd hx hb dL_law_217 ?_
        refine g_i (y := nI (4 * k + 1)) (nI_add (4 * k) 1) ?_
        refine va_sld hx hb hX hbl hbA hG.2 (vp_in_nI (by omega) (by omega)) dL_law_218 ?_
        refine g_i (y := xs (4 * k + 1)) (by rw [nI_clamp (by omega)]) ?_
        refine g_si (va_runV (As := [.int (xs (4 * k + 1))]) (rest := []) hcx (c_X6_word l D ad tc I Lm σ.1 σ.2.1 σ.2.2.1 σ.2.2.2 hN (xs (4 * k + 1))) (cwV 1 htw gL_law_X6_word rfl rfl rfl (by decide +kernel) ⟨Nat.le_of_ble_eq_true rfl, Nat.le_of_ble_eq_true rfl⟩) (g_pV hK hG 0 (by decide) gc_0 rfl) rfl rfl hl.1 rfl (lv_room (Nat.le_of_ble_eq_true rfl)) dL_law_219 ⟨Nat.le_of_ble_eq_true rfl, Nat.le_of_ble_eq_true rfl⟩) (fun r1 e1 => ?_)
        have hM1 := hM
        have hN1 := hN
        refine lv_aload_n hx hb dL_law_222 rfl (lv_at hl 2 rfl) ?_
        refine lv_aload_n hx hb dL_law_223 rfl (lv_at hl 0 rfl) ?_
        refine lv_iload_n hx hb dL_law_224 rfl (lv_at hl 3 rfl) ?_
        refine lv_iconst (v := 1) hx hb dL_law_225 (by decide) ?_
        refine lv_iadd hx hb dL_law_226 ?_
        refine g_i (y := nI (4 * k + 1)) (nI_add (4 * k) 1) ?_
        refine va_sld hx hb hX hbl hbA hG.2 (vp_in_nI (by omega) (by omega)) dL_law_227 ?_
        refine g_i (y := xs (4 * k + 1)) (by rw [nI_clamp (by omega)]) ?_
        refine g_si (va_runV (As := [.int (xs (4 * k + 1))]) (rest := [.int r1]) hcx (c_X7_word l D ad tc I Lm σ.1 σ.2.1 σ.2.2.1 σ.2.2.2 hM1 (xs (4 * k + 1))) (cwV 1 htw gL_law_X7_word rfl rfl rfl (by decide +kernel) ⟨Nat.le_of_ble_eq_true rfl, Nat.le_of_ble_eq_true rfl⟩) (g_pV hK hG 92 (by decide) gc_92 rfl) rfl rfl hl.1 rfl (lv_room (Nat.le_of_ble_eq_true rfl)) dL_law_228 ⟨Nat.le_of_ble_eq_true rfl, Nat.le_of_ble_eq_true rfl⟩) (fun r2 e2 => ?_)
        refine lv_icmp_eq (tgt := 535) hx hb dL_law_231 (by decide) (fun _ => ?_) (fun c9 => absurd (e1.symm.trans e2) c9)
        exact back σ I Lm _ _ hN1 hM1 (by omega) hG
      · -- spoil
        refine lv_tableIn (x := nI 6) (off := 204) (tgt := 236) hx hb dL_law_32 (by decide) (by decide) rfl (by decide) ?_
        refine lv_aload_n hx hb dL_law_236 rfl (lv_at hl 1 rfl) ?_
        refine lv_aload_n hx hb dL_law_237 rfl (lv_at hl 0 rfl) ?_
        refine lv_iload_n hx hb dL_law_238 rfl (lv_at hl 3 rfl) ?_
        refine lv_iconst (v := 1) hx hb dL_law_239 (by decide) ?_
        refine lv_iadd hx hb dL_law_240 ?_
        refine g_i (y := nI (4 * k + 1)) (nI_add (4 * k) 1) ?_
        refine va_sld hx hb hX hbl hbA hG.2 (vp_in_nI (by omega) (by omega)) dL_law_241 ?_
        refine g_i (y := xs (4 * k + 1)) (by rw [nI_clamp (by omega)]) ?_
        refine lv_aload_n hx hb dL_law_242 rfl (lv_at hl 0 rfl) ?_
        refine lv_iload_n hx hb dL_law_243 rfl (lv_at hl 3 rfl) ?_
        refine lv_iconst (v := 2) hx hb dL_law_244 (by decide) ?_
        refine lv_iadd hx hb dL_law_245 ?_
        refine g_i (y := nI (4 * k + 2)) (nI_add (4 * k) 2) ?_
        refine va_sld hx hb hX hbl hbA hG.2 (vp_in_nI (by omega) (by omega)) dL_law_246 ?_
        refine g_i (y := xs (4 * k + 2)) (by rw [nI_clamp (by omega)]) ?_
        refine g_ci (va_runV (As := [.int (xs (4 * k + 1)), .int (xs (4 * k + 2))]) (rest := []) hcx (c_X6_spoil l D ad tc I Lm σ.1 σ.2.1 σ.2.2.1 σ.2.2.2 hN (xs (4 * k + 1)) (xs (4 * k + 2))) (cwV 2 htw gL_law_X6_spoil rfl rfl rfl (by decide +kernel) ⟨Nat.le_of_ble_eq_true rfl, Nat.le_of_ble_eq_true rfl⟩) (g_pV hK hG 0 (by decide) gc_0 rfl) rfl rfl hl.1 rfl (lv_room (Nat.le_of_ble_eq_true rfl)) dL_law_247 ⟨Nat.le_of_ble_eq_true rfl, Nat.le_of_ble_eq_true rfl⟩) hK hG (fun r1 I1 L1 H locs hw1 hG => ?_)
        obtain ⟨e1, hN1, f1⟩ := hw1
        have hM1 : repM I1 σ := repM_mem hM (f1 92 (by decide)) (f1 93 (by decide)) (f1 94 (by decide))
        refine lv_aload_n hx hb dL_law_250 rfl (lv_at hl 2 rfl) ?_
        refine lv_aload_n hx hb dL_law_251 rfl (lv_at hl 0 rfl) ?_
        refine lv_iload_n hx hb dL_law_252 rfl (lv_at hl 3 rfl) ?_
        refine lv_iconst (v := 1) hx hb dL_law_253 (by decide) ?_
        refine lv_iadd hx hb dL_law_254 ?_
        refine g_i (y := nI (4 * k + 1)) (nI_add (4 * k) 1) ?_
        refine va_sld hx hb hX hbl hbA hG.2 (vp_in_nI (by omega) (by omega)) dL_law_255 ?_
        refine g_i (y := xs (4 * k + 1)) (by rw [nI_clamp (by omega)]) ?_
        refine lv_aload_n hx hb dL_law_256 rfl (lv_at hl 0 rfl) ?_
        refine lv_iload_n hx hb dL_law_257 rfl (lv_at hl 3 rfl) ?_
        refine lv_iconst (v := 2) hx hb dL_law_258 (by decide) ?_
        refine lv_iadd hx hb dL_law_259 ?_
        refine g_i (y := nI (4 * k + 2)) (nI_add (4 * k) 2) ?_
        refine va_sld hx hb hX hbl hbA hG.2 (vp_in_nI (by omega) (by omega)) dL_law_260 ?_
        refine g_i (y := xs (4 * k + 2)) (by rw [nI_clamp (by omega)]) ?_
        refine g_ci (va_runV (As := [.int (xs (4 * k + 1)), .int (xs (4 * k + 2))]) (rest := [.int r1]) hcx (c_X7_spoil l D ad tc I1 L1 σ.1 σ.2.1 σ.2.2.1 σ.2.2.2 hM1 (xs (4 * k + 1)) (xs (4 * k + 2))) (cwV 2 htw gL_law_X7_spoil rfl rfl rfl (by decide +kernel) ⟨Nat.le_of_ble_eq_true rfl, Nat.le_of_ble_eq_true rfl⟩) (g_pV hK hG 92 (by decide) gc_92 rfl) rfl rfl hl.1 rfl (lv_room (Nat.le_of_ble_eq_true rfl)) dL_law_261 ⟨Nat.le_of_ble_eq_true rfl, Nat.le_of_ble_eq_true rfl⟩) hK hG (fun r2 I2 L2 H locs hw2 hG => ?_)
        obtain ⟨e2, hM2, f2⟩ := hw2
        have hN2 := repN_mem hN1 (I1 := I2) (fun a ha => f2 a (by omega))
        refine lv_icmp_eq (tgt := 535) hx hb dL_law_264 (by decide) (fun _ => ?_) (fun c9 => absurd (e1.symm.trans e2) c9)
        exact back (sp_spoil σ (xs (4 * k + 1)) (xs (4 * k + 2))).2 I2 L2 H locs hN2 hM2 (by rw [cu_spoil]; omega) hG
      · -- rating
        refine lv_tableIn (x := nI 7) (off := 237) (tgt := 269) hx hb dL_law_32 (by decide) (by decide) rfl (by decide) ?_
        refine lv_aload_n hx hb dL_law_269 rfl (lv_at hl 1 rfl) ?_
        refine lv_aload_n hx hb dL_law_270 rfl (lv_at hl 0 rfl) ?_
        refine lv_iload_n hx hb dL_law_271 rfl (lv_at hl 3 rfl) ?_
        refine lv_iconst (v := 1) hx hb dL_law_272 (by decide) ?_
        refine lv_iadd hx hb dL_law_273 ?_
        refine g_i (y := nI (4 * k + 1)) (nI_add (4 * k) 1) ?_
        refine va_sld hx hb hX hbl hbA hG.2 (vp_in_nI (by omega) (by omega)) dL_law_274 ?_
        refine g_i (y := xs (4 * k + 1)) (by rw [nI_clamp (by omega)]) ?_
        refine lv_aload_n hx hb dL_law_275 rfl (lv_at hl 0 rfl) ?_
        refine lv_iload_n hx hb dL_law_276 rfl (lv_at hl 3 rfl) ?_
        refine lv_iconst (v := 2) hx hb dL_law_277 (by decide) ?_
        refine lv_iadd hx hb dL_law_278 ?_
        refine g_i (y := nI (4 * k + 2)) (nI_add (4 * k) 2) ?_
        refine va_sld hx hb hX hbl hbA hG.2 (vp_in_nI (by omega) (by omega)) dL_law_279 ?_
        refine g_i (y := xs (4 * k + 2)) (by rw [nI_clamp (by omega)]) ?_
        refine g_si (va_runV (As := [.int (xs (4 * k + 1)), .int (xs (4 * k + 2))]) (rest := []) hcx (c_X6_rating l D ad tc I Lm σ.1 σ.2.1 σ.2.2.1 σ.2.2.2 hN (xs (4 * k + 1)) (xs (4 * k + 2))) (cwV 2 htw gL_law_X6_rating rfl rfl rfl (by decide +kernel) ⟨Nat.le_of_ble_eq_true rfl, Nat.le_of_ble_eq_true rfl⟩) (g_pV hK hG 0 (by decide) gc_0 rfl) rfl rfl hl.1 rfl (lv_room (Nat.le_of_ble_eq_true rfl)) dL_law_280 ⟨Nat.le_of_ble_eq_true rfl, Nat.le_of_ble_eq_true rfl⟩) (fun r1 e1 => ?_)
        have hM1 := hM
        have hN1 := hN
        refine lv_aload_n hx hb dL_law_283 rfl (lv_at hl 2 rfl) ?_
        refine lv_aload_n hx hb dL_law_284 rfl (lv_at hl 0 rfl) ?_
        refine lv_iload_n hx hb dL_law_285 rfl (lv_at hl 3 rfl) ?_
        refine lv_iconst (v := 1) hx hb dL_law_286 (by decide) ?_
        refine lv_iadd hx hb dL_law_287 ?_
        refine g_i (y := nI (4 * k + 1)) (nI_add (4 * k) 1) ?_
        refine va_sld hx hb hX hbl hbA hG.2 (vp_in_nI (by omega) (by omega)) dL_law_288 ?_
        refine g_i (y := xs (4 * k + 1)) (by rw [nI_clamp (by omega)]) ?_
        refine lv_aload_n hx hb dL_law_289 rfl (lv_at hl 0 rfl) ?_
        refine lv_iload_n hx hb dL_law_290 rfl (lv_at hl 3 rfl) ?_
        refine lv_iconst (v := 2) hx hb dL_law_291 (by decide) ?_
        refine lv_iadd hx hb dL_law_292 ?_
        refine g_i (y := nI (4 * k + 2)) (nI_add (4 * k) 2) ?_
        refine va_sld hx hb hX hbl hbA hG.2 (vp_in_nI (by omega) (by omega)) dL_law_293 ?_
        refine g_i (y := xs (4 * k + 2)) (by rw [nI_clamp (by omega)]) ?_
        refine g_si (va_runV (As := [.int (xs (4 * k + 1)), .int (xs (4 * k + 2))]) (rest := [.int r1]) hcx (c_X7_rating l D ad tc I Lm σ.1 σ.2.1 σ.2.2.1 σ.2.2.2 hM1 (xs (4 * k + 1)) (xs (4 * k + 2))) (cwV 2 htw gL_law_X7_rating rfl rfl rfl (by decide +kernel) ⟨Nat.le_of_ble_eq_true rfl, Nat.le_of_ble_eq_true rfl⟩) (g_pV hK hG 92 (by decide) gc_92 rfl) rfl rfl hl.1 rfl (lv_room (Nat.le_of_ble_eq_true rfl)) dL_law_294 ⟨Nat.le_of_ble_eq_true rfl, Nat.le_of_ble_eq_true rfl⟩) (fun r2 e2 => ?_)
        refine lv_icmp_eq (tgt := 535) hx hb dL_law_297 (by decide) (fun _ => ?_) (fun c9 => absurd (e1.symm.trans e2) c9)
        exact back σ I Lm _ _ hN1 hM1 (by omega) hG
      · -- weight
        refine lv_tableIn (x := nI 8) (off := 270) (tgt := 302) hx hb dL_law_32 (by decide) (by decide) rfl (by decide) ?_
        refine lv_aload_n hx hb dL_law_302 rfl (lv_at hl 1 rfl) ?_
        refine lv_aload_n hx hb dL_law_303 rfl (lv_at hl 0 rfl) ?_
        refine lv_iload_n hx hb dL_law_304 rfl (lv_at hl 3 rfl) ?_
        refine lv_iconst (v := 1) hx hb dL_law_305 (by decide) ?_
        refine lv_iadd hx hb dL_law_306 ?_
        refine g_i (y := nI (4 * k + 1)) (nI_add (4 * k) 1) ?_
        refine va_sld hx hb hX hbl hbA hG.2 (vp_in_nI (by omega) (by omega)) dL_law_307 ?_
        refine g_i (y := xs (4 * k + 1)) (by rw [nI_clamp (by omega)]) ?_
        refine lv_aload_n hx hb dL_law_308 rfl (lv_at hl 0 rfl) ?_
        refine lv_iload_n hx hb dL_law_309 rfl (lv_at hl 3 rfl) ?_
        refine lv_iconst (v := 2) hx hb dL_law_310 (by decide) ?_
        refine lv_iadd hx hb dL_law_311 ?_
        refine g_i (y := nI (4 * k + 2)) (nI_add (4 * k) 2) ?_
        refine va_sld hx hb hX hbl hbA hG.2 (vp_in_nI (by omega) (by omega)) dL_law_312 ?_
        refine g_i (y := xs (4 * k + 2)) (by rw [nI_clamp (by omega)]) ?_
        refine g_si (va_runV (As := [.int (xs (4 * k + 1)), .int (xs (4 * k + 2))]) (rest := []) hcx (c_X6_weight l D ad tc I Lm σ.1 σ.2.1 σ.2.2.1 σ.2.2.2 hN (xs (4 * k + 1)) (xs (4 * k + 2))) (cwV 2 htw gL_law_X6_weight rfl rfl rfl (by decide +kernel) ⟨Nat.le_of_ble_eq_true rfl, Nat.le_of_ble_eq_true rfl⟩) (g_pV hK hG 0 (by decide) gc_0 rfl) rfl rfl hl.1 rfl (lv_room (Nat.le_of_ble_eq_true rfl)) dL_law_313 ⟨Nat.le_of_ble_eq_true rfl, Nat.le_of_ble_eq_true rfl⟩) (fun r1 e1 => ?_)
        have hM1 := hM
        have hN1 := hN
        refine lv_aload_n hx hb dL_law_316 rfl (lv_at hl 2 rfl) ?_
        refine lv_aload_n hx hb dL_law_317 rfl (lv_at hl 0 rfl) ?_
        refine lv_iload_n hx hb dL_law_318 rfl (lv_at hl 3 rfl) ?_
        refine lv_iconst (v := 1) hx hb dL_law_319 (by decide) ?_
        refine lv_iadd hx hb dL_law_320 ?_
        refine g_i (y := nI (4 * k + 1)) (nI_add (4 * k) 1) ?_
        refine va_sld hx hb hX hbl hbA hG.2 (vp_in_nI (by omega) (by omega)) dL_law_321 ?_
        refine g_i (y := xs (4 * k + 1)) (by rw [nI_clamp (by omega)]) ?_
        refine lv_aload_n hx hb dL_law_322 rfl (lv_at hl 0 rfl) ?_
        refine lv_iload_n hx hb dL_law_323 rfl (lv_at hl 3 rfl) ?_
        refine lv_iconst (v := 2) hx hb dL_law_324 (by decide) ?_
        refine lv_iadd hx hb dL_law_325 ?_
        refine g_i (y := nI (4 * k + 2)) (nI_add (4 * k) 2) ?_
        refine va_sld hx hb hX hbl hbA hG.2 (vp_in_nI (by omega) (by omega)) dL_law_326 ?_
        refine g_i (y := xs (4 * k + 2)) (by rw [nI_clamp (by omega)]) ?_
        refine g_ci (va_runV (As := [.int (xs (4 * k + 1)), .int (xs (4 * k + 2))]) (rest := [.int r1]) hcx (c_X7_weight l D ad tc I Lm σ.1 σ.2.1 σ.2.2.1 σ.2.2.2 hM1 (xs (4 * k + 1)) (xs (4 * k + 2))) (cwV 2 htw gL_law_X7_weight rfl rfl rfl (by decide +kernel) ⟨Nat.le_of_ble_eq_true rfl, Nat.le_of_ble_eq_true rfl⟩) (g_pV hK hG 92 (by decide) gc_92 rfl) rfl rfl hl.1 rfl (lv_room (Nat.le_of_ble_eq_true rfl)) dL_law_327 ⟨Nat.le_of_ble_eq_true rfl, Nat.le_of_ble_eq_true rfl⟩) hK hG (fun r2 I2 L2 H locs hw2 hG => ?_)
        obtain ⟨e2, hM2, f2⟩ := hw2
        have hN2 := repN_mem hN1 (I1 := I2) (fun a ha => f2 a (by omega))
        refine lv_icmp_eq (tgt := 535) hx hb dL_law_330 (by decide) (fun _ => ?_) (fun c9 => absurd (e1.symm.trans e2) c9)
        exact back σ I2 L2 H locs hN2 hM2 (by omega) hG
      · -- neighbour
        refine lv_tableIn (x := nI 9) (off := 303) (tgt := 335) hx hb dL_law_32 (by decide) (by decide) rfl (by decide) ?_
        refine lv_aload_n hx hb dL_law_335 rfl (lv_at hl 1 rfl) ?_
        refine lv_aload_n hx hb dL_law_336 rfl (lv_at hl 0 rfl) ?_
        refine lv_iload_n hx hb dL_law_337 rfl (lv_at hl 3 rfl) ?_
        refine lv_iconst (v := 1) hx hb dL_law_338 (by decide) ?_
        refine lv_iadd hx hb dL_law_339 ?_
        refine g_i (y := nI (4 * k + 1)) (nI_add (4 * k) 1) ?_
        refine va_sld hx hb hX hbl hbA hG.2 (vp_in_nI (by omega) (by omega)) dL_law_340 ?_
        refine g_i (y := xs (4 * k + 1)) (by rw [nI_clamp (by omega)]) ?_
        refine lv_aload_n hx hb dL_law_341 rfl (lv_at hl 0 rfl) ?_
        refine lv_iload_n hx hb dL_law_342 rfl (lv_at hl 3 rfl) ?_
        refine lv_iconst (v := 2) hx hb dL_law_343 (by decide) ?_
        refine lv_iadd hx hb dL_law_344 ?_
        refine g_i (y := nI (4 * k + 2)) (nI_add (4 * k) 2) ?_
        refine va_sld hx hb hX hbl hbA hG.2 (vp_in_nI (by omega) (by omega)) dL_law_345 ?_
        refine g_i (y := xs (4 * k + 2)) (by rw [nI_clamp (by omega)]) ?_
        refine g_ci (va_runV (As := [.int (xs (4 * k + 1)), .int (xs (4 * k + 2))]) (rest := []) hcx (c_X6_neighbour l D ad tc I Lm σ.1 σ.2.1 σ.2.2.1 σ.2.2.2 hN (xs (4 * k + 1)) (xs (4 * k + 2))) (cwV 2 htw gL_law_X6_neighbour rfl rfl rfl (by decide +kernel) ⟨Nat.le_of_ble_eq_true rfl, Nat.le_of_ble_eq_true rfl⟩) (g_pV hK hG 0 (by decide) gc_0 rfl) rfl rfl hl.1 rfl (lv_room (Nat.le_of_ble_eq_true rfl)) dL_law_346 ⟨Nat.le_of_ble_eq_true rfl, Nat.le_of_ble_eq_true rfl⟩) hK hG (fun r1 I1 L1 H locs hw1 hG => ?_)
        obtain ⟨e1, hN1, f1⟩ := hw1
        have hM1 : repM I1 σ := repM_mem hM (f1 92 (by decide)) (f1 93 (by decide)) (f1 94 (by decide))
        refine lv_aload_n hx hb dL_law_349 rfl (lv_at hl 2 rfl) ?_
        refine lv_aload_n hx hb dL_law_350 rfl (lv_at hl 0 rfl) ?_
        refine lv_iload_n hx hb dL_law_351 rfl (lv_at hl 3 rfl) ?_
        refine lv_iconst (v := 1) hx hb dL_law_352 (by decide) ?_
        refine lv_iadd hx hb dL_law_353 ?_
        refine g_i (y := nI (4 * k + 1)) (nI_add (4 * k) 1) ?_
        refine va_sld hx hb hX hbl hbA hG.2 (vp_in_nI (by omega) (by omega)) dL_law_354 ?_
        refine g_i (y := xs (4 * k + 1)) (by rw [nI_clamp (by omega)]) ?_
        refine lv_aload_n hx hb dL_law_355 rfl (lv_at hl 0 rfl) ?_
        refine lv_iload_n hx hb dL_law_356 rfl (lv_at hl 3 rfl) ?_
        refine lv_iconst (v := 2) hx hb dL_law_357 (by decide) ?_
        refine lv_iadd hx hb dL_law_358 ?_
        refine g_i (y := nI (4 * k + 2)) (nI_add (4 * k) 2) ?_
        refine va_sld hx hb hX hbl hbA hG.2 (vp_in_nI (by omega) (by omega)) dL_law_359 ?_
        refine g_i (y := xs (4 * k + 2)) (by rw [nI_clamp (by omega)]) ?_
        refine g_ci (va_runV (As := [.int (xs (4 * k + 1)), .int (xs (4 * k + 2))]) (rest := [.int r1]) hcx (c_X7_neighbour l D ad tc I1 L1 σ.1 σ.2.1 σ.2.2.1 σ.2.2.2 hM1 (xs (4 * k + 1)) (xs (4 * k + 2))) (cwV 2 htw gL_law_X7_neighbour rfl rfl rfl (by decide +kernel) ⟨Nat.le_of_ble_eq_true rfl, Nat.le_of_ble_eq_true rfl⟩) (g_pV hK hG 92 (by decide) gc_92 rfl) rfl rfl hl.1 rfl (lv_room (Nat.le_of_ble_eq_true rfl)) dL_law_360 ⟨Nat.le_of_ble_eq_true rfl, Nat.le_of_ble_eq_true rfl⟩) hK hG (fun r2 I2 L2 H locs hw2 hG => ?_)
        obtain ⟨e2, hM2, f2⟩ := hw2
        have hN2 := repN_mem hN1 (I1 := I2) (fun a ha => f2 a (by omega))
        refine lv_icmp_eq (tgt := 535) hx hb dL_law_363 (by decide) (fun _ => ?_) (fun c9 => absurd (e1.symm.trans e2) c9)
        exact back σ I2 L2 H locs hN2 hM2 (by omega) hG
      · -- score
        refine lv_tableIn (x := nI 10) (off := 336) (tgt := 368) hx hb dL_law_32 (by decide) (by decide) rfl (by decide) ?_
        refine lv_aload_n hx hb dL_law_368 rfl (lv_at hl 1 rfl) ?_
        refine lv_aload_n hx hb dL_law_369 rfl (lv_at hl 0 rfl) ?_
        refine lv_iload_n hx hb dL_law_370 rfl (lv_at hl 3 rfl) ?_
        refine lv_iconst (v := 1) hx hb dL_law_371 (by decide) ?_
        refine lv_iadd hx hb dL_law_372 ?_
        refine g_i (y := nI (4 * k + 1)) (nI_add (4 * k) 1) ?_
        refine va_sld hx hb hX hbl hbA hG.2 (vp_in_nI (by omega) (by omega)) dL_law_373 ?_
        refine g_i (y := xs (4 * k + 1)) (by rw [nI_clamp (by omega)]) ?_
        refine lv_aload_n hx hb dL_law_374 rfl (lv_at hl 0 rfl) ?_
        refine lv_iload_n hx hb dL_law_375 rfl (lv_at hl 3 rfl) ?_
        refine lv_iconst (v := 2) hx hb dL_law_376 (by decide) ?_
        refine lv_iadd hx hb dL_law_377 ?_
        refine g_i (y := nI (4 * k + 2)) (nI_add (4 * k) 2) ?_
        refine va_sld hx hb hX hbl hbA hG.2 (vp_in_nI (by omega) (by omega)) dL_law_378 ?_
        refine g_i (y := xs (4 * k + 2)) (by rw [nI_clamp (by omega)]) ?_
        refine g_sl (va_runV (As := [.int (xs (4 * k + 1)), .int (xs (4 * k + 2))]) (rest := []) hcx (c_X6_score l D ad tc I Lm σ.1 σ.2.1 σ.2.2.1 σ.2.2.2 hN (xs (4 * k + 1)) (xs (4 * k + 2))) (cwV 2 htw gL_law_X6_score rfl rfl rfl (by decide +kernel) ⟨Nat.le_of_ble_eq_true rfl, Nat.le_of_ble_eq_true rfl⟩) (g_pV hK hG 0 (by decide) gc_0 rfl) rfl rfl hl.1 rfl (lv_room (Nat.le_of_ble_eq_true rfl)) dL_law_379 ⟨Nat.le_of_ble_eq_true rfl, Nat.le_of_ble_eq_true rfl⟩) (fun r1 e1 => ?_)
        have hM1 := hM
        have hN1 := hN
        refine lv_aload_n hx hb dL_law_382 rfl (lv_at hl 2 rfl) ?_
        refine lv_aload_n hx hb dL_law_383 rfl (lv_at hl 0 rfl) ?_
        refine lv_iload_n hx hb dL_law_384 rfl (lv_at hl 3 rfl) ?_
        refine lv_iconst (v := 1) hx hb dL_law_385 (by decide) ?_
        refine lv_iadd hx hb dL_law_386 ?_
        refine g_i (y := nI (4 * k + 1)) (nI_add (4 * k) 1) ?_
        refine va_sld hx hb hX hbl hbA hG.2 (vp_in_nI (by omega) (by omega)) dL_law_387 ?_
        refine g_i (y := xs (4 * k + 1)) (by rw [nI_clamp (by omega)]) ?_
        refine lv_aload_n hx hb dL_law_388 rfl (lv_at hl 0 rfl) ?_
        refine lv_iload_n hx hb dL_law_389 rfl (lv_at hl 3 rfl) ?_
        refine lv_iconst (v := 2) hx hb dL_law_390 (by decide) ?_
        refine lv_iadd hx hb dL_law_391 ?_
        refine g_i (y := nI (4 * k + 2)) (nI_add (4 * k) 2) ?_
        refine va_sld hx hb hX hbl hbA hG.2 (vp_in_nI (by omega) (by omega)) dL_law_392 ?_
        refine g_i (y := xs (4 * k + 2)) (by rw [nI_clamp (by omega)]) ?_
        refine g_cl (va_runV (As := [.int (xs (4 * k + 1)), .int (xs (4 * k + 2))]) (rest := [.long r1]) hcx (c_X7_score l D ad tc I Lm σ.1 σ.2.1 σ.2.2.1 σ.2.2.2 hM1 (xs (4 * k + 1)) (xs (4 * k + 2))) (cwV 2 htw gL_law_X7_score rfl rfl rfl (by decide +kernel) ⟨Nat.le_of_ble_eq_true rfl, Nat.le_of_ble_eq_true rfl⟩) (g_pV hK hG 92 (by decide) gc_92 rfl) rfl rfl hl.1 rfl (lv_room (Nat.le_of_ble_eq_true rfl)) dL_law_393 ⟨Nat.le_of_ble_eq_true rfl, Nat.le_of_ble_eq_true rfl⟩) hK hG (fun r2 I2 L2 H locs hw2 hG => ?_)
        obtain ⟨e2, hM2, f2⟩ := hw2
        have hN2 := repN_mem hN1 (I1 := I2) (fun a ha => f2 a (by omega))
        refine W.lcmp hx hb dL_law_396 ?_
        refine lv_if_eq (tgt := 535) hx hb dL_law_397 (by decide) (fun _ => ?_) (fun c9 => absurd (lw_cmpeq (e1.symm.trans e2)) c9)
        exact back σ I2 L2 H locs hN2 hM2 (by omega) hG
      · -- best
        refine lv_tableIn (x := nI 11) (off := 370) (tgt := 402) hx hb dL_law_32 (by decide) (by decide) rfl (by decide) ?_
        refine lv_aload_n hx hb dL_law_402 rfl (lv_at hl 1 rfl) ?_
        refine lv_aload_n hx hb dL_law_403 rfl (lv_at hl 0 rfl) ?_
        refine lv_iload_n hx hb dL_law_404 rfl (lv_at hl 3 rfl) ?_
        refine lv_iconst (v := 1) hx hb dL_law_405 (by decide) ?_
        refine lv_iadd hx hb dL_law_406 ?_
        refine g_i (y := nI (4 * k + 1)) (nI_add (4 * k) 1) ?_
        refine va_sld hx hb hX hbl hbA hG.2 (vp_in_nI (by omega) (by omega)) dL_law_407 ?_
        refine g_i (y := xs (4 * k + 1)) (by rw [nI_clamp (by omega)]) ?_
        refine lv_aload_n hx hb dL_law_408 rfl (lv_at hl 0 rfl) ?_
        refine lv_iload_n hx hb dL_law_409 rfl (lv_at hl 3 rfl) ?_
        refine lv_iconst (v := 2) hx hb dL_law_410 (by decide) ?_
        refine lv_iadd hx hb dL_law_411 ?_
        refine g_i (y := nI (4 * k + 2)) (nI_add (4 * k) 2) ?_
        refine va_sld hx hb hX hbl hbA hG.2 (vp_in_nI (by omega) (by omega)) dL_law_412 ?_
        refine g_i (y := xs (4 * k + 2)) (by rw [nI_clamp (by omega)]) ?_
        refine g_ci (va_runV (As := [.int (xs (4 * k + 1)), .int (xs (4 * k + 2))]) (rest := []) hcx (c_X6_best l D ad tc I Lm σ.1 σ.2.1 σ.2.2.1 σ.2.2.2 hN (xs (4 * k + 1)) (xs (4 * k + 2))) (cwV 2 htw gL_law_X6_best rfl rfl rfl (by decide +kernel) ⟨Nat.le_of_ble_eq_true rfl, Nat.le_of_ble_eq_true rfl⟩) (g_pV hK hG 0 (by decide) gc_0 rfl) rfl rfl hl.1 rfl (lv_room (Nat.le_of_ble_eq_true rfl)) dL_law_413 ⟨Nat.le_of_ble_eq_true rfl, Nat.le_of_ble_eq_true rfl⟩) hK hG (fun r1 I1 L1 H locs hw1 hG => ?_)
        obtain ⟨e1, hN1, f1⟩ := hw1
        have hM1 : repM I1 σ := repM_mem hM (f1 92 (by decide)) (f1 93 (by decide)) (f1 94 (by decide))
        refine lv_aload_n hx hb dL_law_416 rfl (lv_at hl 2 rfl) ?_
        refine lv_aload_n hx hb dL_law_417 rfl (lv_at hl 0 rfl) ?_
        refine lv_iload_n hx hb dL_law_418 rfl (lv_at hl 3 rfl) ?_
        refine lv_iconst (v := 1) hx hb dL_law_419 (by decide) ?_
        refine lv_iadd hx hb dL_law_420 ?_
        refine g_i (y := nI (4 * k + 1)) (nI_add (4 * k) 1) ?_
        refine va_sld hx hb hX hbl hbA hG.2 (vp_in_nI (by omega) (by omega)) dL_law_421 ?_
        refine g_i (y := xs (4 * k + 1)) (by rw [nI_clamp (by omega)]) ?_
        refine lv_aload_n hx hb dL_law_422 rfl (lv_at hl 0 rfl) ?_
        refine lv_iload_n hx hb dL_law_423 rfl (lv_at hl 3 rfl) ?_
        refine lv_iconst (v := 2) hx hb dL_law_424 (by decide) ?_
        refine lv_iadd hx hb dL_law_425 ?_
        refine g_i (y := nI (4 * k + 2)) (nI_add (4 * k) 2) ?_
        refine va_sld hx hb hX hbl hbA hG.2 (vp_in_nI (by omega) (by omega)) dL_law_426 ?_
        refine g_i (y := xs (4 * k + 2)) (by rw [nI_clamp (by omega)]) ?_
        refine g_ci (va_runV (As := [.int (xs (4 * k + 1)), .int (xs (4 * k + 2))]) (rest := [.int r1]) hcx (c_X7_best l D ad tc I1 L1 σ.1 σ.2.1 σ.2.2.1 σ.2.2.2 hM1 (xs (4 * k + 1)) (xs (4 * k + 2))) (cwV 2 htw gL_law_X7_best rfl rfl rfl (by decide +kernel) ⟨Nat.le_of_ble_eq_true rfl, Nat.le_of_ble_eq_true rfl⟩) (g_pV hK hG 92 (by decide) gc_92 rfl) rfl rfl hl.1 rfl (lv_room (Nat.le_of_ble_eq_true rfl)) dL_law_427 ⟨Nat.le_of_ble_eq_true rfl, Nat.le_of_ble_eq_true rfl⟩) hK hG (fun r2 I2 L2 H locs hw2 hG => ?_)
        obtain ⟨e2, hM2, f2⟩ := hw2
        have hN2 := repN_mem hN1 (I1 := I2) (fun a ha => f2 a (by omega))
        refine lv_icmp_eq (tgt := 535) hx hb dL_law_430 (by decide) (fun _ => ?_) (fun c9 => absurd (e1.symm.trans e2) c9)
        exact back σ I2 L2 H locs hN2 hM2 (by omega) hG
      · -- reads
        refine lv_tableIn (x := nI 12) (off := 403) (tgt := 435) hx hb dL_law_32 (by decide) (by decide) rfl (by decide) ?_
        refine lv_aload_n hx hb dL_law_435 rfl (lv_at hl 1 rfl) ?_
        refine lv_aload_n hx hb dL_law_436 rfl (lv_at hl 0 rfl) ?_
        refine lv_iload_n hx hb dL_law_437 rfl (lv_at hl 3 rfl) ?_
        refine lv_iconst (v := 1) hx hb dL_law_438 (by decide) ?_
        refine lv_iadd hx hb dL_law_439 ?_
        refine g_i (y := nI (4 * k + 1)) (nI_add (4 * k) 1) ?_
        refine va_sld hx hb hX hbl hbA hG.2 (vp_in_nI (by omega) (by omega)) dL_law_440 ?_
        refine g_i (y := xs (4 * k + 1)) (by rw [nI_clamp (by omega)]) ?_
        refine lv_aload_n hx hb dL_law_441 rfl (lv_at hl 0 rfl) ?_
        refine lv_iload_n hx hb dL_law_442 rfl (lv_at hl 3 rfl) ?_
        refine lv_iconst (v := 2) hx hb dL_law_443 (by decide) ?_
        refine lv_iadd hx hb dL_law_444 ?_
        refine g_i (y := nI (4 * k + 2)) (nI_add (4 * k) 2) ?_
        refine va_sld hx hb hX hbl hbA hG.2 (vp_in_nI (by omega) (by omega)) dL_law_445 ?_
        refine g_i (y := xs (4 * k + 2)) (by rw [nI_clamp (by omega)]) ?_
        refine g_ci (va_runV (As := [.int (xs (4 * k + 1)), .int (xs (4 * k + 2))]) (rest := []) hcx (c_X6_reads l D ad tc I Lm σ.1 σ.2.1 σ.2.2.1 σ.2.2.2 hN (xs (4 * k + 1)) (xs (4 * k + 2))) (cwV 2 htw gL_law_X6_reads rfl rfl rfl (by decide +kernel) ⟨Nat.le_of_ble_eq_true rfl, Nat.le_of_ble_eq_true rfl⟩) (g_pV hK hG 0 (by decide) gc_0 rfl) rfl rfl hl.1 rfl (lv_room (Nat.le_of_ble_eq_true rfl)) dL_law_446 ⟨Nat.le_of_ble_eq_true rfl, Nat.le_of_ble_eq_true rfl⟩) hK hG (fun r1 I1 L1 H locs hw1 hG => ?_)
        obtain ⟨e1, hN1, f1⟩ := hw1
        have hM1 : repM I1 σ := repM_mem hM (f1 92 (by decide)) (f1 93 (by decide)) (f1 94 (by decide))
        refine lv_aload_n hx hb dL_law_449 rfl (lv_at hl 2 rfl) ?_
        refine lv_aload_n hx hb dL_law_450 rfl (lv_at hl 0 rfl) ?_
        refine lv_iload_n hx hb dL_law_451 rfl (lv_at hl 3 rfl) ?_
        refine lv_iconst (v := 1) hx hb dL_law_452 (by decide) ?_
        refine lv_iadd hx hb dL_law_453 ?_
        refine g_i (y := nI (4 * k + 1)) (nI_add (4 * k) 1) ?_
        refine va_sld hx hb hX hbl hbA hG.2 (vp_in_nI (by omega) (by omega)) dL_law_454 ?_
        refine g_i (y := xs (4 * k + 1)) (by rw [nI_clamp (by omega)]) ?_
        refine lv_aload_n hx hb dL_law_455 rfl (lv_at hl 0 rfl) ?_
        refine lv_iload_n hx hb dL_law_456 rfl (lv_at hl 3 rfl) ?_
        refine lv_iconst (v := 2) hx hb dL_law_457 (by decide) ?_
        refine lv_iadd hx hb dL_law_458 ?_
        refine g_i (y := nI (4 * k + 2)) (nI_add (4 * k) 2) ?_
        refine va_sld hx hb hX hbl hbA hG.2 (vp_in_nI (by omega) (by omega)) dL_law_459 ?_
        refine g_i (y := xs (4 * k + 2)) (by rw [nI_clamp (by omega)]) ?_
        refine g_ci (va_runV (As := [.int (xs (4 * k + 1)), .int (xs (4 * k + 2))]) (rest := [.int r1]) hcx (c_X7_reads l D ad tc I1 L1 σ.1 σ.2.1 σ.2.2.1 σ.2.2.2 hM1 (xs (4 * k + 1)) (xs (4 * k + 2))) (cwV 2 htw gL_law_X7_reads rfl rfl rfl (by decide +kernel) ⟨Nat.le_of_ble_eq_true rfl, Nat.le_of_ble_eq_true rfl⟩) (g_pV hK hG 92 (by decide) gc_92 rfl) rfl rfl hl.1 rfl (lv_room (Nat.le_of_ble_eq_true rfl)) dL_law_460 ⟨Nat.le_of_ble_eq_true rfl, Nat.le_of_ble_eq_true rfl⟩) hK hG (fun r2 I2 L2 H locs hw2 hG => ?_)
        obtain ⟨e2, hM2, f2⟩ := hw2
        have hN2 := repN_mem hN1 (I1 := I2) (fun a ha => f2 a (by omega))
        refine lv_icmp_eq (tgt := 535) hx hb dL_law_463 (by decide) (fun _ => ?_) (fun c9 => absurd (e1.symm.trans e2) c9)
        exact back σ I2 L2 H locs hN2 hM2 (by omega) hG
      · -- share
        refine lv_tableIn (x := nI 13) (off := 436) (tgt := 468) hx hb dL_law_32 (by decide) (by decide) rfl (by decide) ?_
        refine lv_aload_n hx hb dL_law_468 rfl (lv_at hl 1 rfl) ?_
        refine lv_aload_n hx hb dL_law_469 rfl (lv_at hl 0 rfl) ?_
        refine lv_iload_n hx hb dL_law_470 rfl (lv_at hl 3 rfl) ?_
        refine lv_iconst (v := 1) hx hb dL_law_471 (by decide) ?_
        refine lv_iadd hx hb dL_law_472 ?_
        refine g_i (y := nI (4 * k + 1)) (nI_add (4 * k) 1) ?_
        refine va_sld hx hb hX hbl hbA hG.2 (vp_in_nI (by omega) (by omega)) dL_law_473 ?_
        refine g_i (y := xs (4 * k + 1)) (by rw [nI_clamp (by omega)]) ?_
        refine lv_aload_n hx hb dL_law_474 rfl (lv_at hl 0 rfl) ?_
        refine lv_iload_n hx hb dL_law_475 rfl (lv_at hl 3 rfl) ?_
        refine lv_iconst (v := 2) hx hb dL_law_476 (by decide) ?_
        refine lv_iadd hx hb dL_law_477 ?_
        refine g_i (y := nI (4 * k + 2)) (nI_add (4 * k) 2) ?_
        refine va_sld hx hb hX hbl hbA hG.2 (vp_in_nI (by omega) (by omega)) dL_law_478 ?_
        refine g_i (y := xs (4 * k + 2)) (by rw [nI_clamp (by omega)]) ?_
        refine lv_aload_n hx hb dL_law_479 rfl (lv_at hl 0 rfl) ?_
        refine lv_iload_n hx hb dL_law_480 rfl (lv_at hl 3 rfl) ?_
        refine lv_iconst (v := 3) hx hb dL_law_481 (by decide) ?_
        refine lv_iadd hx hb dL_law_482 ?_
        refine g_i (y := nI (4 * k + 3)) (nI_add (4 * k) 3) ?_
        refine va_sld hx hb hX hbl hbA hG.2 (vp_in_nI (by omega) (by omega)) dL_law_483 ?_
        refine g_i (y := xs (4 * k + 3)) (by rw [nI_clamp (by omega)]) ?_
        refine g_sl (va_runV (As := [.int (xs (4 * k + 1)), .int (xs (4 * k + 2)), .int (xs (4 * k + 3))]) (rest := []) hcx (c_X6_share l D ad tc I Lm σ.1 σ.2.1 σ.2.2.1 σ.2.2.2 hN (xs (4 * k + 1)) (xs (4 * k + 2)) (xs (4 * k + 3))) (cwV 3 htw gL_law_X6_share rfl rfl rfl (by decide +kernel) ⟨Nat.le_of_ble_eq_true rfl, Nat.le_of_ble_eq_true rfl⟩) (g_pV hK hG 0 (by decide) gc_0 rfl) rfl rfl hl.1 rfl (lv_room (Nat.le_of_ble_eq_true rfl)) dL_law_484 ⟨Nat.le_of_ble_eq_true rfl, Nat.le_of_ble_eq_true rfl⟩) (fun r1 e1 => ?_)
        have hM1 := hM
        have hN1 := hN
        refine lv_aload_n hx hb dL_law_487 rfl (lv_at hl 2 rfl) ?_
        refine lv_aload_n hx hb dL_law_488 rfl (lv_at hl 0 rfl) ?_
        refine lv_iload_n hx hb dL_law_489 rfl (lv_at hl 3 rfl) ?_
        refine lv_iconst (v := 1) hx hb dL_law_490 (by decide) ?_
        refine lv_iadd hx hb dL_law_491 ?_
        refine g_i (y := nI (4 * k + 1)) (nI_add (4 * k) 1) ?_
        refine va_sld hx hb hX hbl hbA hG.2 (vp_in_nI (by omega) (by omega)) dL_law_492 ?_
        refine g_i (y := xs (4 * k + 1)) (by rw [nI_clamp (by omega)]) ?_
        refine lv_aload_n hx hb dL_law_493 rfl (lv_at hl 0 rfl) ?_
        refine lv_iload_n hx hb dL_law_494 rfl (lv_at hl 3 rfl) ?_
        refine lv_iconst (v := 2) hx hb dL_law_495 (by decide) ?_
        refine lv_iadd hx hb dL_law_496 ?_
        refine g_i (y := nI (4 * k + 2)) (nI_add (4 * k) 2) ?_
        refine va_sld hx hb hX hbl hbA hG.2 (vp_in_nI (by omega) (by omega)) dL_law_497 ?_
        refine g_i (y := xs (4 * k + 2)) (by rw [nI_clamp (by omega)]) ?_
        refine lv_aload_n hx hb dL_law_498 rfl (lv_at hl 0 rfl) ?_
        refine lv_iload_n hx hb dL_law_499 rfl (lv_at hl 3 rfl) ?_
        refine lv_iconst (v := 3) hx hb dL_law_500 (by decide) ?_
        refine lv_iadd hx hb dL_law_501 ?_
        refine g_i (y := nI (4 * k + 3)) (nI_add (4 * k) 3) ?_
        refine va_sld hx hb hX hbl hbA hG.2 (vp_in_nI (by omega) (by omega)) dL_law_502 ?_
        refine g_i (y := xs (4 * k + 3)) (by rw [nI_clamp (by omega)]) ?_
        refine g_cl (va_runV (As := [.int (xs (4 * k + 1)), .int (xs (4 * k + 2)), .int (xs (4 * k + 3))]) (rest := [.long r1]) hcx (c_X7_share l D ad tc I Lm σ.1 σ.2.1 σ.2.2.1 σ.2.2.2 hM1 (xs (4 * k + 1)) (xs (4 * k + 2)) (xs (4 * k + 3))) (cwV 3 htw gL_law_X7_share rfl rfl rfl (by decide +kernel) ⟨Nat.le_of_ble_eq_true rfl, Nat.le_of_ble_eq_true rfl⟩) (g_pV hK hG 92 (by decide) gc_92 rfl) rfl rfl hl.1 rfl (lv_room (Nat.le_of_ble_eq_true rfl)) dL_law_503 ⟨Nat.le_of_ble_eq_true rfl, Nat.le_of_ble_eq_true rfl⟩) hK hG (fun r2 I2 L2 H locs hw2 hG => ?_)
        obtain ⟨e2, hM2, f2⟩ := hw2
        have hN2 := repN_mem hN1 (I1 := I2) (fun a ha => f2 a (by omega))
        refine W.lcmp hx hb dL_law_506 ?_
        refine lv_if_eq (tgt := 535) hx hb dL_law_507 (by decide) (fun _ => ?_) (fun c9 => absurd (lw_cmpeq (e1.symm.trans e2)) c9)
        exact back σ I2 L2 H locs hN2 hM2 (by omega) hG
      · -- number
        refine lv_tableIn (x := nI 14) (off := 480) (tgt := 512) hx hb dL_law_32 (by decide) (by decide) rfl (by decide) ?_
        refine lv_aload_n hx hb dL_law_512 rfl (lv_at hl 1 rfl) ?_
        refine lv_aload_n hx hb dL_law_513 rfl (lv_at hl 0 rfl) ?_
        refine lv_iload_n hx hb dL_law_514 rfl (lv_at hl 3 rfl) ?_
        refine lv_iconst (v := 1) hx hb dL_law_515 (by decide) ?_
        refine lv_iadd hx hb dL_law_516 ?_
        refine g_i (y := nI (4 * k + 1)) (nI_add (4 * k) 1) ?_
        refine va_sld hx hb hX hbl hbA hG.2 (vp_in_nI (by omega) (by omega)) dL_law_517 ?_
        refine g_i (y := xs (4 * k + 1)) (by rw [nI_clamp (by omega)]) ?_
        refine g_si (va_runV (As := [.int (xs (4 * k + 1))]) (rest := []) hcx (c_X6_number l D ad tc I Lm σ.1 σ.2.1 σ.2.2.1 σ.2.2.2 hN (xs (4 * k + 1))) (cwV 1 htw gL_law_X6_number rfl rfl rfl (by decide +kernel) ⟨Nat.le_of_ble_eq_true rfl, Nat.le_of_ble_eq_true rfl⟩) (g_pV hK hG 0 (by decide) gc_0 rfl) rfl rfl hl.1 rfl (lv_room (Nat.le_of_ble_eq_true rfl)) dL_law_518 ⟨Nat.le_of_ble_eq_true rfl, Nat.le_of_ble_eq_true rfl⟩) (fun r1 e1 => ?_)
        have hM1 := hM
        have hN1 := hN
        refine lv_aload_n hx hb dL_law_521 rfl (lv_at hl 2 rfl) ?_
        refine lv_aload_n hx hb dL_law_522 rfl (lv_at hl 0 rfl) ?_
        refine lv_iload_n hx hb dL_law_523 rfl (lv_at hl 3 rfl) ?_
        refine lv_iconst (v := 1) hx hb dL_law_524 (by decide) ?_
        refine lv_iadd hx hb dL_law_525 ?_
        refine g_i (y := nI (4 * k + 1)) (nI_add (4 * k) 1) ?_
        refine va_sld hx hb hX hbl hbA hG.2 (vp_in_nI (by omega) (by omega)) dL_law_526 ?_
        refine g_i (y := xs (4 * k + 1)) (by rw [nI_clamp (by omega)]) ?_
        refine g_si (va_runV (As := [.int (xs (4 * k + 1))]) (rest := [.int r1]) hcx (c_X7_number l D ad tc I Lm σ.1 σ.2.1 σ.2.2.1 σ.2.2.2 hM1 (xs (4 * k + 1))) (cwV 1 htw gL_law_X7_number rfl rfl rfl (by decide +kernel) ⟨Nat.le_of_ble_eq_true rfl, Nat.le_of_ble_eq_true rfl⟩) (g_pV hK hG 92 (by decide) gc_92 rfl) rfl rfl hl.1 rfl (lv_room (Nat.le_of_ble_eq_true rfl)) dL_law_527 ⟨Nat.le_of_ble_eq_true rfl, Nat.le_of_ble_eq_true rfl⟩) (fun r2 e2 => ?_)
        refine lv_icmp_eq (tgt := 535) hx hb dL_law_530 (by decide) (fun _ => ?_) (fun c9 => absurd (e1.symm.trans e2) c9)
        exact back σ I Lm _ _ hN1 hM1 (by omega) hG
      · refine lv_tableOut (x := nI 15) (tgt := 535) hx hb dL_law_32 (Or.inr (by decide)) (by decide) ?_
        exact back σ I Lm _ _ hN hM (by omega) hG
