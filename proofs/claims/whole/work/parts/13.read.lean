set_option maxHeartbeats 4000000 in
set_option maxRecDepth 100000 in
theorem c_X3_begin (l : Launch) (D : va_G) (ad : Nat → Nat) (tc : Nat → ClassId) (I : Mi) (L : Ml) (T : Tb) (hT : pN I T) (u : Nat) (hu : u < 12) : Met l yX3_begin wsX3_begin ({ frames := 2, cells := 0, slots := 0, locals := 49 } : Room) (va_Pc [.ref (ad 38), .ref (ad 7), .int (nI u)] (gPc D ad tc I L)) (gQv D ad tc (fun I1 L1 => I1 38 2 = 0 ∧ (∀ x, x < 16 → pu_RK I1 L1 x (pu_vr T u x) 16) ∧ (∀ x, x < 16 → L1 40 x = 0) ∧ ∀ a, a < 38 ∨ 89 ≤ a → I1 a = I a ∧ L1 a = L a)) 0 0 (gA ad) := by
  refine g_of (by decide) rfl (Nat.le_of_ble_eq_true rfl) ?_
  intro p e s m below meth c hcx hr hlocks hK hG ls hl
  obtain ⟨hx, hb, hml, hown, hts⟩ := id hcx
  have hl : lv_has ls 4 [(0, .ref (ad 38)), (1, .ref (ad 7)), (2, .int (nI u))] := hl
  refine lv_aload_n hx hb dX3_begin_0 rfl (lv_at hl 0 rfl) ?_
  refine lv_iconst (v := 0) hx hb dX3_begin_1 (by decide) ?_
  refine g_put (ty := .int) hx hb hts (by decide +kernel) tyX3 tyX3_ok nmX3 hown hK hG 38 (by decide) gc_38 rfl 2 (by decide) (hts (.fieldLink RX3 21 "NeighbourScores$Reading" "entries" "I") (by decide +kernel)) (fun _ h9 => h9) rfl (by decide +kernel) rfl rfl (Nat.le_of_ble_eq_true rfl) (by rw [gc_38]; rfl) dX3_begin_2 (fun I_2 H locs hU_2 hG => ?_)
  refine lv_iconst (v := 0) hx hb dX3_begin_5 (by decide) ?_
  refine lv_istore_n (lv' := [(3, .int 0), (0, .ref (ad 38)), (1, .ref (ad 7)), (2, .int (nI u))]) hx hb dX3_begin_6 rfl hl (by decide) rfl (fun ls hl => ?_)
  have lp7 : ∀ (n : Nat) (j : Nat) (I_7 : Mi) (L_7 : Ml) (H : Heap) (locs : List Loc), (j ≤ 16) → (17 ≤ j + n) → (I_7 38 2 = 0) → (∀ x, x < j → pu_RK I_7 L_7 x (pu_vr T u x) 16) → (∀ x, x < j → L_7 40 x = 0) → (∀ a, a < 38 ∨ 89 ≤ a → I_7 a = I a ∧ L_7 a = L a) → gG D ad tc (gA ad) s.heap I_7 L_7 H locs → ∀ ls : Array Slot, lv_has ls 4 [(0, .ref (ad 38)), (1, .ref (ad 7)), (2, .int (nI u)), (3, .int (nI j))] → W p l e (headSpec wsX3_begin ({ frames := 2, cells := 0, slots := 0, locals := 49 } : Room)).room s m ([.ref (ad 38), .ref (ad 7), .int (nI u)] : List Value).toArray below meth c H locs 0 0 (MQ below (gQv D ad tc (fun I1 L1 => I1 38 2 = 0 ∧ (∀ x, x < 16 → pu_RK I1 L1 x (pu_vr T u x) 16) ∧ (∀ x, x < 16 → L1 40 x = 0) ∧ ∀ a, a < 38 ∨ 89 ≤ a → I1 a = I a ∧ L1 a = L a)) ([.ref (ad 38), .ref (ad 7), .int (nI u)] : List Value).toArray s 0 0 (gA ad)) (F0 m 7 ls []) := by
    intro n
    induction n with
    | zero =>
      intro j I_7 L_7 H locs hj hn he hR hz hf hG ls hl
      exact absurd hn (by omega)
    | succ n ih7 =>
      intro j I_7 L_7 H locs hj hn he hR hz hf hG ls hl
      refine lv_iload_n hx hb dX3_begin_7 rfl (lv_at hl 3 rfl) ?_
      refine lv_bipush (v := 16) hx hb dX3_begin_8 (by decide) ?_
      refine lv_icmp_ge (tgt := 55) hx hb dX3_begin_10 (by decide) (fun c10 => ?_) (fun c10 => ?_)
      · -- 10: jumps
        have b10 := g_le (a := 16) (b := j) c10 (by omega) (by omega)
        exact g_rv hx hb hr hlocks hG ⟨he, fun x hx => hR x (by omega), fun x hx => hz x (by omega), hf⟩ dX3_begin_55
      · -- 10: goes on
        have b10 := g_nle (a := 16) (b := j) c10 (by omega) (by omega)
        refine lv_aload_n hx hb dX3_begin_13 rfl (lv_at hl 0 rfl) ?_
        refine g_get (v := .ref (ad 40)) hx hb hts (by decide +kernel) hown hK hG 38 (by decide) gc_38 rfl 1 (by decide) (hts (.fieldLink RX3 17 "NeighbourScores$Reading" "found" "[J") (by decide +kernel)) (fun _ h9 => h9) rfl dX3_begin_14 ?_
        refine lv_iload_n hx hb dX3_begin_17 rfl (lv_at hl 3 rfl) ?_
        refine lv_lconst (v := 0) hx hb dX3_begin_18 (by decide) ?_
        refine g_last hx hb hK hG 40 (by decide) (fun _ => gc_40) j rfl (by omega) (by omega) dX3_begin_19 (fun L_19 H locs hU_19 hG => ?_)
        refine lv_aload_n hx hb dX3_begin_20 rfl (lv_at hl 0 rfl) ?_
        refine g_get (v := .ref (ad 39)) hx hb hts (by decide +kernel) hown hK hG 38 (by decide) gc_38 rfl 0 (by decide) (hts (.fieldLink RX3 11 "NeighbourScores$Reading" "lists" "[LNeighbourScores$Ranking;") (by decide +kernel)) (fun _ h9 => h9) rfl dX3_begin_21 ?_
        refine lv_iload_n hx hb dX3_begin_24 rfl (lv_at hl 3 rfl) ?_
        refine g_aald hx hb hK hG 39 4 (by decide) gc_39 rfl rfl j rfl (by omega) (by decide) dX3_begin_25 ?_
        refine g_cv (va_runV (As := []) (rest := []) hcx (c_X1_clear l D ad tc I_7 L_19 j (by omega)) (cwV 0 hts gX3_begin_X1_clear rfl rfl rfl (by decide +kernel) ⟨Nat.le_of_ble_eq_true rfl, Nat.le_of_ble_eq_true rfl⟩) (g_pV hK hG (41 + 3 * j) (by omega) (gc_rk (q := j) (by omega)) rfl) rfl rfl hl.1 rfl (lv_room (Nat.le_of_ble_eq_true rfl)) dX3_begin_26 ⟨Nat.le_refl _, Nat.le_refl _⟩) hK hG (fun I_26 L_26 H locs hw_26 hG => ?_)
        obtain ⟨hU_26, rfl⟩ := hw_26
        have he2 : I_26 38 2 = 0 := by rw [hU_26.2 38 (by omega)]; exact he
        have hz2 : ∀ x, x < j + 1 → L_19 40 x = 0 := fun x hx => by by_cases e : x = j; (rw [e, gV_eq hU_19]); (rw [gV_ne hU_19 e]; exact hz x (by omega))
        have hf2 : ∀ a, a < 38 ∨ 89 ≤ a → I_26 a = I a ∧ L_19 a = L a := fun a ha => ⟨(hU_26.2 a (by omega)).trans (hf a ha).1, (hU_19.2 a (by omega)).trans (hf a ha).2⟩
        have hR2 : ∀ x, x < j → pu_RK I_26 L_19 x (pu_vr T u x) 16 := fun x hx => pu_RK_mem (hR x hx) (hU_26.2 _ (by omega)) (hU_26.2 _ (by omega)) (hU_19.2 _ (by omega))
        have hR3 : pu_RK I_26 L_19 j (fun _ => 0) 16 := pu_RK_z (gU_eq hU_26)
        have ht5 := hT.1 u j hu (by omega)
        refine lv_aload_n hx hb dX3_begin_29 rfl (lv_at hl 1 rfl) ?_
        refine lv_iload_n hx hb dX3_begin_30 rfl (lv_at hl 2 rfl) ?_
        refine lv_iload_n hx hb dX3_begin_31 rfl (lv_at hl 3 rfl) ?_
        refine g_si (va_runV (As := [.int (nI u), .int (nI j)]) (rest := []) hcx (c_X2_at l D ad tc I_26 L_19 T (pN_mem (fun a h1 h2 => (hf2 a (by omega)).1) hT) u j hu (by omega)) (cwV 2 hts gX3_begin_X2_at rfl rfl rfl (by decide +kernel) ⟨Nat.le_of_ble_eq_true rfl, Nat.le_of_ble_eq_true rfl⟩) (g_pV hK hG 7 (by decide) gc_7 rfl) rfl rfl hl.1 rfl (lv_room (Nat.le_of_ble_eq_true rfl)) dX3_begin_32 ⟨Nat.le_refl _, Nat.le_refl _⟩) (fun r_32 hw_32 => ?_)
        subst hw_32
        refine lv_if_eq (tgt := 49) hx hb dX3_begin_35 (by decide) (fun c35 => ?_) (fun c35 => ?_)
        · -- 35: jumps
          have b35 := g_eq (a := (T u j)) (b := 0) c35 (by omega) (by omega)
          refine lv_iinc (v := nI (j + 1)) (lv' := [(3, .int (nI (j + 1))), (0, .ref (ad 38)), (1, .ref (ad 7)), (2, .int (nI u))]) hx hb dX3_begin_49 hl (k := 3) rfl (nI_1 _) (by decide) rfl (fun ls hl => ?_)
          refine lv_goto (tgt := 7) hx hb dX3_begin_52 (by decide) ?_
          exact ih7 (j + 1) _ _ _ _ (by omega) (by omega) he2 (fun x hx => pu_beg_z hR2 hR3 b35 (by omega)) hz2 hf2 hG ls (lv_sub hl [1, 2, 3, 0] rfl)
        · -- 35: goes on
          have b35 := g_ne (a := (T u j)) (b := 0) c35 (by omega) (by omega)
          refine lv_aload_n hx hb dX3_begin_38 rfl (lv_at hl 0 rfl) ?_
          refine g_get (v := .ref (ad 39)) hx hb hts (by decide +kernel) hown hK hG 38 (by decide) gc_38 rfl 0 (by decide) (hts (.fieldLink RX3 11 "NeighbourScores$Reading" "lists" "[LNeighbourScores$Ranking;") (by decide +kernel)) (fun _ h9 => h9) rfl dX3_begin_39 ?_
          refine lv_iload_n hx hb dX3_begin_42 rfl (lv_at hl 3 rfl) ?_
          refine g_aald hx hb hK hG 39 4 (by decide) gc_39 rfl rfl j rfl (by omega) (by decide) dX3_begin_43 ?_
          refine lv_aload_n hx hb dX3_begin_44 rfl (lv_at hl 1 rfl) ?_
          refine lv_iload_n hx hb dX3_begin_45 rfl (lv_at hl 3 rfl) ?_
          refine g_cv (va_runV (As := [.ref (ad 7), .int (nI j)]) (rest := []) hcx (c_X1_rankNeighbours l D ad tc I_26 L_19 j (by omega) T (pN_mem (fun a h1 h2 => (hf2 a (by omega)).1) hT) j (by omega)) (cwV 2 hts gX3_begin_X1_rankNeighbours rfl rfl rfl (by decide +kernel) ⟨Nat.le_of_ble_eq_true rfl, Nat.le_of_ble_eq_true rfl⟩) (g_pV hK hG (41 + 3 * j) (by omega) (gc_rk (q := j) (by omega)) rfl) rfl rfl hl.1 rfl (lv_room (Nat.le_of_ble_eq_true rfl)) dX3_begin_46 ⟨Nat.le_refl _, Nat.le_refl _⟩) hK hG (fun I_46 L_46 H locs hw_46 hG => ?_)
          refine lv_iinc (v := nI (j + 1)) (lv' := [(3, .int (nI (j + 1))), (0, .ref (ad 38)), (1, .ref (ad 7)), (2, .int (nI u))]) hx hb dX3_begin_49 hl (k := 3) rfl (nI_1 _) (by decide) rfl (fun ls hl => ?_)
          refine lv_goto (tgt := 7) hx hb dX3_begin_52 (by decide) ?_
          have hR4 : ∀ x, x < j → pu_RK I_46 L_46 x (pu_vr T u x) 16 := fun x hx => pu_RK_mem (hR2 x hx) (hw_46.2 _ (by omega)).1 (hw_46.2 _ (by omega)).1 (hw_46.2 _ (by omega)).2
          exact ih7 (j + 1) _ _ _ _ (by omega) (by omega) (by rw [(hw_46.2 38 (by omega)).1]; exact he2) (fun x hx => pu_beg_n hR4 hw_46.1 b35 (by omega)) (fun x hx => by rw [(hw_46.2 40 (by omega)).2]; exact hz2 x hx) (fun a ha => ⟨(hw_46.2 a (by omega)).1.trans (hf2 a ha).1, (hw_46.2 a (by omega)).2.trans (hf2 a ha).2⟩) hG ls (lv_sub hl [1, 2, 3, 0] rfl)
  exact lp7 17 0 _ _ _ _ (by omega) (by omega) (gU_eq hU_2) (fun _ h => absurd h (Nat.not_lt_zero _)) (fun _ h => absurd h (Nat.not_lt_zero _)) (fun a ha => ⟨hU_2.2 a (by omega), rfl⟩) hG ls (lv_sub hl [1, 2, 3, 0] rfl)

set_option maxHeartbeats 4000000 in
set_option maxRecDepth 100000 in
theorem c_X3_isEntryLeft (l : Launch) (D : va_G) (ad : Nat → Nat) (tc : Nat → ClassId) (I : Mi) (L : Ml) (T : Tb) (u d : Nat) (hd : d < 16) (hR : ∀ x, x < 16 → pu_RK I L x (pu_vr T u x) 16)  : Met l yX3_isEntryLeft wsX3_isEntryLeft ({ frames := 1, cells := 0, slots := 0, locals := 21 } : Room) (va_Pc [.ref (ad 38), .int (nI d)] (gPc D ad tc I L)) (vp_Si (fun r => (pu_rc T u d 16 ≠ 0 ∧ 1 = r) ∨ (pu_rc T u d 16 = 0 ∧ 0 = r))) 0 0 gN := by
  refine g_of (by decide) rfl (Nat.le_of_ble_eq_true rfl) ?_
  intro p e s m below meth c hcx hr hlocks hK hG ls hl
  obtain ⟨hx, hb, hml, hown, hts⟩ := id hcx
  have hl : lv_has ls 3 [(0, .ref (ad 38)), (1, .int (nI d))] := hl
  refine lv_iconst (v := 0) hx hb dX3_isEntryLeft_0 (by decide) ?_
  refine lv_istore_n (lv' := [(2, .int 0), (0, .ref (ad 38)), (1, .int (nI d))]) hx hb dX3_isEntryLeft_1 rfl hl (by decide) rfl (fun ls hl => ?_)
  have lp2 : ∀ (n : Nat) (j : Nat), (j ≤ 16) → (17 ≤ j + n) → (∀ x, x < j → ¬ d < pu_sz (pu_vr T u x) 16) → ∀ ls : Array Slot, lv_has ls 3 [(0, .ref (ad 38)), (1, .int (nI d)), (2, .int (nI j))] → W p l e (headSpec wsX3_isEntryLeft ({ frames := 1, cells := 0, slots := 0, locals := 21 } : Room)).room s m ([.ref (ad 38), .int (nI d)] : List Value).toArray below meth c s.heap [] 0 0 (MQ below (vp_Si (fun r => (pu_rc T u d 16 ≠ 0 ∧ 1 = r) ∨ (pu_rc T u d 16 = 0 ∧ 0 = r))) ([.ref (ad 38), .int (nI d)] : List Value).toArray s 0 0 gN) (F0 m 2 ls []) := by
    intro n
    induction n with
    | zero =>
      intro j hj hn hq ls hl
      exact absurd hn (by omega)
    | succ n ih2 =>
      intro j hj hn hq ls hl
      refine lv_iload_n hx hb dX3_isEntryLeft_2 rfl (lv_at hl 2 rfl) ?_
      refine lv_bipush (v := 16) hx hb dX3_isEntryLeft_3 (by decide) ?_
      refine lv_icmp_ge (tgt := 29) hx hb dX3_isEntryLeft_5 (by decide) (fun c5 => ?_) (fun c5 => ?_)
      · -- 5: jumps
        have b5 := g_le (a := 16) (b := j) c5 (by omega) (by omega)
        refine lv_iconst (v := 0) hx hb dX3_isEntryLeft_29 (by decide) ?_
        exact g_rzS hx hb hr hlocks (Or.inl rfl) (Or.inr ⟨pu_ct_zero (fun x hx q => hq x (by omega) (of_decide_eq_true q)), rfl⟩) dX3_isEntryLeft_30
      · -- 5: goes on
        have b5 := g_nle (a := 16) (b := j) c5 (by omega) (by omega)
        refine lv_aload_n hx hb dX3_isEntryLeft_8 rfl (lv_at hl 0 rfl) ?_
        refine g_get (v := .ref (ad 39)) hx hb hts (by decide +kernel) hown hK hG 38 (by decide) gc_38 rfl 0 (by decide) (hts (.fieldLink RX3 11 "NeighbourScores$Reading" "lists" "[LNeighbourScores$Ranking;") (by decide +kernel)) (fun _ h9 => h9) rfl dX3_isEntryLeft_9 ?_
        refine lv_iload_n hx hb dX3_isEntryLeft_12 rfl (lv_at hl 2 rfl) ?_
        refine g_aald hx hb hK hG 39 4 (by decide) gc_39 rfl rfl j rfl (by omega) (by decide) dX3_isEntryLeft_13 ?_
        refine lv_iload_n hx hb dX3_isEntryLeft_14 rfl (lv_at hl 1 rfl) ?_
        refine g_si (va_runV (As := [.int (nI d)]) (rest := []) hcx (c_X1_has l D ad tc I L j (by omega) (nI d) (pu_sz (pu_vr T u j) 16) (pu_szle _ _) (hR j (by omega)).1) (cwV 1 hts gX3_isEntryLeft_X1_has rfl rfl rfl (by decide +kernel) ⟨Nat.le_of_ble_eq_true rfl, Nat.le_of_ble_eq_true rfl⟩) (g_pV hK hG (41 + 3 * j) (by omega) (gc_rk (q := j) (by omega)) rfl) rfl rfl hl.1 rfl (lv_room (Nat.le_of_ble_eq_true rfl)) dX3_isEntryLeft_15 ⟨Nat.le_refl _, Nat.le_refl _⟩) (fun r_15 hw_15 => ?_)
        rcases hw_15 with ⟨hw_15, rfl⟩ | ⟨hw_15, rfl⟩
        · -- 15: yes
          refine lv_if_eq (tgt := 23) hx hb dX3_isEntryLeft_18 (by decide) (fun c18 => absurd c18 (by decide)) (fun _ => ?_)
          refine lv_iconst (v := 1) hx hb dX3_isEntryLeft_21 (by decide) ?_
          exact g_rzS hx hb hr hlocks (Or.inr rfl) (Or.inl ⟨pu_ct_pos (k := j) (by omega) (decide_eq_true (pu_gRn hw_15 (by omega) (by have := pu_szle (pu_vr T u j) 16; omega))), rfl⟩) dX3_isEntryLeft_22
        · -- 15: no
          refine lv_if_eq (tgt := 23) hx hb dX3_isEntryLeft_18 (by decide) (fun _ => ?_) (fun c18 => absurd (by decide) c18)
          refine lv_iinc (v := nI (j + 1)) (lv' := [(2, .int (nI (j + 1))), (0, .ref (ad 38)), (1, .int (nI d))]) hx hb dX3_isEntryLeft_23 hl (k := 2) rfl (nI_1 _) (by decide) rfl (fun ls hl => ?_)
          refine lv_goto (tgt := 2) hx hb dX3_isEntryLeft_26 (by decide) ?_
          exact ih2 (j + 1) (by omega) (by omega) (fun x hx => by by_cases e : x = j; exact e ▸ (fun z => hw_15 (gR_n z)); exact hq x (by omega)) ls (lv_sub hl [1, 2, 0] rfl)
  exact lp2 17 0 (by omega) (by omega) (fun _ h => absurd h (Nat.not_lt_zero _)) ls (lv_sub hl [1, 2, 0] rfl)

set_option maxHeartbeats 4000000 in
set_option maxRecDepth 100000 in
theorem c_X3_find (l : Launch) (D : va_G) (ad : Nat → Nat) (tc : Nat → ClassId) (I : Mi) (L : Ml) (T : Tb) (hT : pN I T) (u i : Nat) (hu : u < 12) (hi : i < 16) (M : Nat → Bool) (hF : ∀ x, x < 16 → L 40 x = pu_fd T u M x) : Met l yX3_find wsX3_find ({ frames := 3, cells := 0, slots := 0, locals := 74 } : Room) (va_Pc [.ref (ad 38), .ref (ad 7), .int (nI u), .int (nI i)] (gPc D ad tc I L)) (gQv D ad tc (fun I1 L1 => (∀ x, x < 16 → L1 40 x = pu_fd T u (pu_ad M i) x) ∧ I = I1 ∧ ∀ a, a ≠ 40 → L1 a = L a)) 0 0 (gA ad) := by
  refine g_of (by decide) rfl (Nat.le_of_ble_eq_true rfl) ?_
  intro p e s m below meth c hcx hr hlocks hK hG ls hl
  obtain ⟨hx, hb, hml, hown, hts⟩ := id hcx
  have hl : lv_has ls 4 [(0, .ref (ad 38)), (1, .ref (ad 7)), (2, .int (nI u)), (3, .int (nI i))] := hl
  refine lv_aload_n hx hb dX3_find_0 rfl (lv_at hl 1 rfl) ?_
  refine lv_iload_n hx hb dX3_find_1 rfl (lv_at hl 2 rfl) ?_
  refine lv_iload_n hx hb dX3_find_2 rfl (lv_at hl 3 rfl) ?_
  refine g_si (va_runV (As := [.int (nI u), .int (nI i)]) (rest := []) hcx (c_X2_at l D ad tc I L T hT u i hu hi) (cwV 2 hts gX3_find_X2_at rfl rfl rfl (by decide +kernel) ⟨Nat.le_of_ble_eq_true rfl, Nat.le_of_ble_eq_true rfl⟩) (g_pV hK hG 7 (by decide) gc_7 rfl) rfl rfl hl.1 rfl (lv_room (Nat.le_of_ble_eq_true rfl)) dX3_find_3 ⟨Nat.le_refl _, Nat.le_refl _⟩) (fun r_3 hw_3 => ?_)
  subst hw_3
  have ht5 := hT.1 u i hu hi
  refine lv_if_ne (tgt := 32) hx hb dX3_find_6 (by decide) (fun c6 => ?_) (fun c6 => ?_)
  · -- 6: jumps
    have b6 := g_ne (a := (T u i)) (b := 0) c6 (by omega) (by omega)
    exact g_rv hx hb hr hlocks hG ⟨fun x hx => by by_cases e : x = i; (rw [e, hF i hi, pu_fd_rated b6, pu_fd_rated b6]); (rw [pu_fd_ne e]; exact hF x hx), rfl, fun _ _ => rfl⟩ dX3_find_32
  · -- 6: goes on
    have b6 := g_eq (a := (T u i)) (b := 0) c6 (by omega) (by omega)
    refine lv_aload_n hx hb dX3_find_9 rfl (lv_at hl 0 rfl) ?_
    refine g_get (v := .ref (ad 40)) hx hb hts (by decide +kernel) hown hK hG 38 (by decide) gc_38 rfl 1 (by decide) (hts (.fieldLink RX3 17 "NeighbourScores$Reading" "found" "[J") (by decide +kernel)) (fun _ h9 => h9) rfl dX3_find_10 ?_
    refine lv_iload_n hx hb dX3_find_13 rfl (lv_at hl 3 rfl) ?_
    refine g_lald hx hb hK hG 40 (by decide) gc_40 i rfl (by omega) (by omega) dX3_find_14 ?_
    refine g_l (y := pu_fd T u M i) (hF i hi) ?_
    refine lv_lconst (v := 0) hx hb dX3_find_15 (by decide) ?_
    refine W.lcmp hx hb dX3_find_16 ?_
    refine lv_if_ne (tgt := 32) hx hb dX3_find_17 (by decide) (fun c17 => ?_) (fun c17 => ?_)
    · -- 17: jumps
      exact g_rv hx hb hr hlocks hG ⟨fun x hx => by by_cases e : x = i; (rw [e, hF i hi, pu_fd_eq b6]; exact pu_fd_had b6 (fun z => c17 (by rw [z]; rfl))); (rw [pu_fd_ne e]; exact hF x hx), rfl, fun _ _ => rfl⟩ dX3_find_32
    · -- 17: goes on
      refine lv_aload_n hx hb dX3_find_20 rfl (lv_at hl 0 rfl) ?_
      refine g_get (v := .ref (ad 40)) hx hb hts (by decide +kernel) hown hK hG 38 (by decide) gc_38 rfl 1 (by decide) (hts (.fieldLink RX3 17 "NeighbourScores$Reading" "found" "[J") (by decide +kernel)) (fun _ h9 => h9) rfl dX3_find_21 ?_
      refine lv_iload_n hx hb dX3_find_24 rfl (lv_at hl 3 rfl) ?_
      refine lv_aload_n hx hb dX3_find_25 rfl (lv_at hl 1 rfl) ?_
      refine lv_iload_n hx hb dX3_find_26 rfl (lv_at hl 2 rfl) ?_
      refine lv_iload_n hx hb dX3_find_27 rfl (lv_at hl 3 rfl) ?_
      refine g_sl (va_runV (As := [.int (nI u), .int (nI i)]) (rest := [.int (nI i), .ref (ad 40)]) hcx (c_X2_scoreOf l D ad tc I L T hT u i hu hi) (cwV 2 hts gX3_find_X2_scoreOf rfl rfl rfl (by decide +kernel) ⟨Nat.le_of_ble_eq_true rfl, Nat.le_of_ble_eq_true rfl⟩) (g_pV hK hG 7 (by decide) gc_7 rfl) rfl rfl hl.1 rfl (lv_room (Nat.le_of_ble_eq_true rfl)) dX3_find_28 ⟨Nat.le_refl _, Nat.le_refl _⟩) (fun r_28 hw_28 => ?_)
      subst hw_28
      refine g_last hx hb hK hG 40 (by decide) (fun _ => gc_40) i rfl (by omega) (by omega) dX3_find_31 (fun L_31 H locs hU_31 hG => ?_)
      exact g_rv hx hb hr hlocks hG ⟨fun x hx => by by_cases e : x = i; (rw [e, gV_eq hU_31, pu_fd_eq b6]); (rw [gV_ne hU_31 e, pu_fd_ne e]; exact hF x hx), rfl, fun a ha => hU_31.2 a ha⟩ dX3_find_32

set_option maxHeartbeats 4000000 in
set_option maxRecDepth 100000 in
theorem c_X3_readRound (l : Launch) (D : va_G) (ad : Nat → Nat) (tc : Nat → ClassId) (I : Mi) (L : Ml) (T : Tb) (hT : pN I T) (u d E : Nat) (hu : u < 12) (hd : d < 16) (M : Nat → Bool) (hR : ∀ x, x < 16 → pu_RK I L x (pu_vr T u x) 16) (he0 : I 38 2 = nI E) (hF0 : ∀ x, x < 16 → L 40 x = pu_fd T u M x) : Met l yX3_readRound wsX3_readRound ({ frames := 4, cells := 0, slots := 0, locals := 97 } : Room) (va_Pc [.ref (ad 38), .ref (ad 7), .int (nI u), .int (nI d)] (gPc D ad tc I L)) (gQl D ad tc (fun r I1 L1 => pu_rl T u d 16 = r ∧ I1 38 2 = nI (E + pu_rc T u d 16) ∧ (∀ x, x < 16 → L1 40 x = pu_fd T u (pu_rm T u d M 16) x) ∧ (∀ a, a ≠ 38 → I1 a = I a) ∧ ∀ a, a ≠ 40 → L1 a = L a)) 0 0 (gA ad) := by
  refine g_of (by decide) rfl (Nat.le_of_ble_eq_true rfl) ?_
  intro p e s m below meth c hcx hr hlocks hK hG ls hl
  obtain ⟨hx, hb, hml, hown, hts⟩ := id hcx
  have hl : lv_has ls 7 [(0, .ref (ad 38)), (1, .ref (ad 7)), (2, .int (nI u)), (3, .int (nI d))] := hl
  refine lv_lconst (v := 0) hx hb dX3_readRound_0 (by decide) ?_
  refine lv_lstore (lv' := [(4, .long 0), (0, .ref (ad 38)), (1, .ref (ad 7)), (2, .int (nI u)), (3, .int (nI d))]) hx hb dX3_readRound_1 hl (by decide) rfl (fun ls hl => ?_)
  refine lv_iconst (v := 0) hx hb dX3_readRound_3 (by decide) ?_
  refine lv_istore (lv' := [(6, .int 0), (4, .long 0), (0, .ref (ad 38)), (1, .ref (ad 7)), (2, .int (nI u)), (3, .int (nI d))]) hx hb dX3_readRound_4 hl (by decide) rfl (fun ls hl => ?_)
  have lp6 : ∀ (n : Nat) (j : Nat) (I_6 : Mi) (L_6 : Ml) (H : Heap) (locs : List Loc), (j ≤ 16) → (17 ≤ j + n) → (I_6 38 2 = nI (E + pu_rc T u d j)) → (∀ x, x < 16 → L_6 40 x = pu_fd T u (pu_rm T u d M j) x) → (∀ a, a ≠ 38 → I_6 a = I a) → (∀ a, a ≠ 40 → L_6 a = L a) → gG D ad tc (gA ad) s.heap I_6 L_6 H locs → ∀ ls : Array Slot, lv_has ls 7 [(0, .ref (ad 38)), (1, .ref (ad 7)), (2, .int (nI u)), (3, .int (nI d)), (4, .long (pu_rl T u d j)), (6, .int (nI j))] → W p l e (headSpec wsX3_readRound ({ frames := 4, cells := 0, slots := 0, locals := 97 } : Room)).room s m ([.ref (ad 38), .ref (ad 7), .int (nI u), .int (nI d)] : List Value).toArray below meth c H locs 0 0 (MQ below (gQl D ad tc (fun r I1 L1 => pu_rl T u d 16 = r ∧ I1 38 2 = nI (E + pu_rc T u d 16) ∧ (∀ x, x < 16 → L1 40 x = pu_fd T u (pu_rm T u d M 16) x) ∧ (∀ a, a ≠ 38 → I1 a = I a) ∧ ∀ a, a ≠ 40 → L1 a = L a)) ([.ref (ad 38), .ref (ad 7), .int (nI u), .int (nI d)] : List Value).toArray s 0 0 (gA ad)) (F0 m 6 ls []) := by
    intro n
    induction n with
    | zero =>
      intro j I_6 L_6 H locs hj hn he hF hfI hfL hG ls hl
      exact absurd hn (by omega)
    | succ n ih6 =>
      intro j I_6 L_6 H locs hj hn he hF hfI hfL hG ls hl
      refine lv_iload hx hb dX3_readRound_6 (lv_at hl 5 rfl) ?_
      refine lv_bipush (v := 16) hx hb dX3_readRound_8 (by decide) ?_
      refine lv_icmp_ge (tgt := 85) hx hb dX3_readRound_10 (by decide) (fun c10 => ?_) (fun c10 => ?_)
      · -- 10: jumps
        have b10 := g_le (a := 16) (b := j) c10 (by omega) (by omega)
        refine lv_lload hx hb dX3_readRound_85 (lv_at hl 4 rfl) ?_
        exact g_rl hx hb hr hlocks hG ⟨by rw [show (16 : Nat) = j by omega], by rw [show (16 : Nat) = j by omega]; exact he, fun x hx => by rw [show (16 : Nat) = j by omega]; exact hF x hx, hfI, hfL⟩ dX3_readRound_87
      · -- 10: goes on
        have b10 := g_nle (a := 16) (b := j) c10 (by omega) (by omega)
        refine lv_aload_n hx hb dX3_readRound_13 rfl (lv_at hl 0 rfl) ?_
        refine g_get (v := .ref (ad 39)) hx hb hts (by decide +kernel) hown hK hG 38 (by decide) gc_38 rfl 0 (by decide) (hts (.fieldLink RX3 11 "NeighbourScores$Reading" "lists" "[LNeighbourScores$Ranking;") (by decide +kernel)) (fun _ h9 => h9) rfl dX3_readRound_14 ?_
        refine lv_iload hx hb dX3_readRound_17 (lv_at hl 5 rfl) ?_
        refine g_aald hx hb hK hG 39 4 (by decide) gc_39 rfl rfl j rfl (by omega) (by decide) dX3_readRound_19 ?_
        refine lv_iload_n hx hb dX3_readRound_20 rfl (lv_at hl 3 rfl) ?_
        refine g_si (va_runV (As := [.int (nI d)]) (rest := []) hcx (c_X1_has l D ad tc I_6 L_6 j (by omega) (nI d) (pu_sz (pu_vr T u j) 16) (pu_szle _ _) (pu_RK_mem (hR j (by omega)) (hfI _ (by omega)) (hfI _ (by omega)) (hfL _ (by omega))).1) (cwV 1 hts gX3_readRound_X1_has rfl rfl rfl (by decide +kernel) ⟨Nat.le_of_ble_eq_true rfl, Nat.le_of_ble_eq_true rfl⟩) (g_pV hK hG (41 + 3 * j) (by omega) (gc_rk (q := j) (by omega)) rfl) rfl rfl hl.1 rfl (lv_room (Nat.le_of_ble_eq_true rfl)) dX3_readRound_21 ⟨Nat.le_refl _, Nat.le_refl _⟩) (fun r_21 hw_21 => ?_)
        rcases hw_21 with ⟨hw_21, rfl⟩ | ⟨hw_21, rfl⟩
        · -- 21: yes
          refine lv_if_eq (tgt := 79) hx hb dX3_readRound_24 (by decide) (fun c24 => absurd c24 (by decide)) (fun _ => ?_)
          have hjd : d < pu_sz (pu_vr T u j) 16 := pu_gRn hw_21 (by omega) (by have := pu_szle (pu_vr T u j) 16; omega)
          have hrcj := pu_rcle T u d j
          refine lv_aload_n hx hb dX3_readRound_27 rfl (lv_at hl 0 rfl) ?_
          refine lv_dup hx hb dX3_readRound_28 rfl ?_
          refine g_get (v := .int (I_6 38 2)) hx hb hts (by decide +kernel) hown hK hG 38 (by decide) gc_38 rfl 2 (by decide) (hts (.fieldLink RX3 21 "NeighbourScores$Reading" "entries" "I") (by decide +kernel)) (fun _ h9 => h9) rfl dX3_readRound_29 ?_
          refine g_i (y := nI (E + pu_rc T u d j)) he ?_
          refine lv_iconst (v := 1) hx hb dX3_readRound_32 (by decide) ?_
          refine lv_iadd hx hb dX3_readRound_33 ?_
          refine g_i (y := nI (E + (pu_rc T u d j + 1))) (by rw [nI_1, Nat.add_assoc]) ?_
          refine g_put (ty := .int) hx hb hts (by decide +kernel) tyX3 tyX3_ok nmX3 hown hK hG 38 (by decide) gc_38 rfl 2 (by decide) (hts (.fieldLink RX3 21 "NeighbourScores$Reading" "entries" "I") (by decide +kernel)) (fun _ h9 => h9) rfl (by decide +kernel) rfl rfl (Nat.le_of_ble_eq_true rfl) (by rw [gc_38]; rfl) dX3_readRound_34 (fun I_34 H locs hU_34 hG => ?_)
          have hfI2 : ∀ a, a ≠ 38 → I_34 a = I a := fun a ha => (hU_34.2 a ha).trans (hfI a ha)
          refine lv_lload hx hb dX3_readRound_37 (lv_at hl 4 rfl) ?_
          refine lv_aload_n hx hb dX3_readRound_39 rfl (lv_at hl 1 rfl) ?_
          refine lv_iload_n hx hb dX3_readRound_40 rfl (lv_at hl 2 rfl) ?_
          refine lv_iload hx hb dX3_readRound_41 (lv_at hl 5 rfl) ?_
          refine g_si (va_runV (As := [.int (nI u), .int (nI j)]) (rest := [.long (pu_rl T u d j)]) hcx (c_X2_at l D ad tc I_34 L_6 T (pN_mem (fun a h1 h2 => hfI2 a (by omega)) hT) u j hu (by omega)) (cwV 2 hts gX3_readRound_X2_at rfl rfl rfl (by decide +kernel) ⟨Nat.le_of_ble_eq_true rfl, Nat.le_of_ble_eq_true rfl⟩) (g_pV hK hG 7 (by decide) gc_7 rfl) rfl rfl hl.1 rfl (lv_room (Nat.le_of_ble_eq_true rfl)) dX3_readRound_43 ⟨Nat.le_refl _, Nat.le_refl _⟩) (fun r_43 hw_43 => ?_)
          subst hw_43
          refine lv_i2l (v := (nI (T u j)).toInt64) hx hb dX3_readRound_46 rfl ?_
          refine lv_aload_n hx hb dX3_readRound_47 rfl (lv_at hl 0 rfl) ?_
          refine g_get (v := .ref (ad 39)) hx hb hts (by decide +kernel) hown hK hG 38 (by decide) gc_38 rfl 0 (by decide) (hts (.fieldLink RX3 11 "NeighbourScores$Reading" "lists" "[LNeighbourScores$Ranking;") (by decide +kernel)) (fun _ h9 => h9) rfl dX3_readRound_48 ?_
          refine lv_iload hx hb dX3_readRound_51 (lv_at hl 5 rfl) ?_
          refine g_aald hx hb hK hG 39 4 (by decide) gc_39 rfl rfl j rfl (by omega) (by decide) dX3_readRound_53 ?_
          refine lv_iload_n hx hb dX3_readRound_54 rfl (lv_at hl 3 rfl) ?_
          refine g_sl (va_runV (As := [.int (nI d)]) (rest := [.long ((nI (T u j)).toInt64), .long (pu_rl T u d j)]) hcx (c_X1_valueAt l D ad tc I_34 L_6 j (by omega) d hd (pu_vr T u j) (pu_RK_mem (hR j (by omega)) (hfI2 _ (by omega)) (hfI2 _ (by omega)) (hfL _ (by omega)))) (cwV 1 hts gX3_readRound_X1_valueAt rfl rfl rfl (by decide +kernel) ⟨Nat.le_of_ble_eq_true rfl, Nat.le_of_ble_eq_true rfl⟩) (g_pV hK hG (41 + 3 * j) (by omega) (gc_rk (q := j) (by omega)) rfl) rfl rfl hl.1 rfl (lv_room (Nat.le_of_ble_eq_true rfl)) dX3_readRound_55 ⟨Nat.le_refl _, Nat.le_refl _⟩) (fun r_55 hw_55 => ?_)
          subst hw_55
          refine lv_lmul hx hb dX3_readRound_58 ?_
          refine lv_ladd hx hb dX3_readRound_59 ?_
          refine lv_lstore (lv' := [(4, .long ((pu_rl T u d j) + (((nI (T u j)).toInt64) * (pu_vl (pu_vr T u j) d)))), (0, .ref (ad 38)), (1, .ref (ad 7)), (2, .int (nI u)), (3, .int (nI d)), (6, .int (nI j))]) hx hb dX3_readRound_60 hl (by decide) rfl (fun ls hl => ?_)
          refine lv_aload_n hx hb dX3_readRound_62 rfl (lv_at hl 1 rfl) ?_
          refine lv_aload_n hx hb dX3_readRound_63 rfl (lv_at hl 2 rfl) ?_
          refine lv_iload_n hx hb dX3_readRound_64 rfl (lv_at hl 3 rfl) ?_
          refine lv_aload_n hx hb dX3_readRound_65 rfl (lv_at hl 1 rfl) ?_
          refine g_get (v := .ref (ad 39)) hx hb hts (by decide +kernel) hown hK hG 38 (by decide) gc_38 rfl 0 (by decide) (hts (.fieldLink RX3 11 "NeighbourScores$Reading" "lists" "[LNeighbourScores$Ranking;") (by decide +kernel)) (fun _ h9 => h9) rfl dX3_readRound_66 ?_
          refine lv_iload hx hb dX3_readRound_69 (lv_at hl 5 rfl) ?_
          refine g_aald hx hb hK hG 39 4 (by decide) gc_39 rfl rfl j rfl (by omega) (by decide) dX3_readRound_71 ?_
          refine lv_iload_n hx hb dX3_readRound_72 rfl (lv_at hl 4 rfl) ?_
          refine g_si (va_runV (As := [.int (nI d)]) (rest := [.int (nI u), .ref (ad 7), .ref (ad 38)]) hcx (c_X1_itemAt l D ad tc I_34 L_6 j (by omega) (nI d) (pu_vr T u j) (pu_RK_mem (hR j (by omega)) (hfI2 _ (by omega)) (hfI2 _ (by omega)) (hfL _ (by omega)))) (cwV 1 hts gX3_readRound_X1_itemAt rfl rfl rfl (by decide +kernel) ⟨Nat.le_of_ble_eq_true rfl, Nat.le_of_ble_eq_true rfl⟩) (g_pV hK hG (41 + 3 * j) (by omega) (gc_rk (q := j) (by omega)) rfl) rfl rfl hl.1 rfl (lv_room (Nat.le_of_ble_eq_true rfl)) dX3_readRound_73 ⟨Nat.le_refl _, Nat.le_refl _⟩) (fun r_73 hw_73 => ?_)
          obtain ⟨i, hen, hi16, -, -⟩ := pu_RK_in (hR j (by omega)) hjd
          rw [pu_ent_n (by omega) hen] at hw_73
          subst hw_73
          refine g_cv (va_runV (As := [.ref (ad 7), .int (nI u), .int (nI i)]) (rest := []) hcx (c_X3_find l D ad tc I_34 L_6 T (pN_mem (fun a h1 h2 => hfI2 a (by omega)) hT) u i hu hi16 (pu_rm T u d M j) hF) (cwV 3 hts gX3_readRound_X3_find rfl rfl rfl (by decide +kernel) ⟨Nat.le_of_ble_eq_true rfl, Nat.le_of_ble_eq_true rfl⟩) (g_pV hK hG 38 (by decide) gc_38 rfl) rfl rfl hl.1 rfl (lv_room (Nat.le_of_ble_eq_true rfl)) dX3_readRound_76 ⟨Nat.le_refl _, Nat.le_refl _⟩) hK hG (fun I_76 L_76 H locs hw_76 hG => ?_)
          obtain ⟨ha76, rfl, hc76⟩ := hw_76
          refine lv_iinc (v := nI (j + 1)) (lv' := [(6, .int (nI (j + 1))), (4, .long ((pu_rl T u d j) + (((nI (T u j)).toInt64) * (pu_vl (pu_vr T u j) d)))), (0, .ref (ad 38)), (1, .ref (ad 7)), (2, .int (nI u)), (3, .int (nI d))]) hx hb dX3_readRound_79 hl (k := 5) rfl (nI_1 _) (by decide) rfl (fun ls hl => ?_)
          refine lv_goto (tgt := 6) hx hb dX3_readRound_82 (by decide) ?_
          have erl : pu_rl T u d (j + 1) = pu_rl T u d j + (nI (T u j)).toInt64 * pu_vl (pu_vr T u j) d := if_pos hjd
          rw [← erl] at hl
          exact ih6 (j + 1) _ _ _ _ (by omega) (by omega) (by rw [← Nat.add_assoc (m := pu_rc T u d j)] at hU_34; rw [pu_rc_s, if_pos hjd]; exact gU_eq hU_34) (fun x hx => by rw [pu_rm_some hen]; exact ha76 x hx) hfI2 (fun a ha => (hc76 a ha).trans (hfL a ha)) hG ls (lv_sub hl [2, 3, 4, 5, 1, 0] rfl)
        · -- 21: no
          refine lv_if_eq (tgt := 79) hx hb dX3_readRound_24 (by decide) (fun _ => ?_) (fun c24 => absurd (by decide) c24)
          have hnd : ¬ d < pu_sz (pu_vr T u j) 16 := fun z => hw_21 (gR_n z)
          refine lv_iinc (v := nI (j + 1)) (lv' := [(6, .int (nI (j + 1))), (0, .ref (ad 38)), (1, .ref (ad 7)), (2, .int (nI u)), (3, .int (nI d)), (4, .long (pu_rl T u d j))]) hx hb dX3_readRound_79 hl (k := 5) rfl (nI_1 _) (by decide) rfl (fun ls hl => ?_)
          refine lv_goto (tgt := 6) hx hb dX3_readRound_82 (by decide) ?_
          have erl : pu_rl T u d (j + 1) = pu_rl T u d j := if_neg hnd
          rw [← erl] at hl
          exact ih6 (j + 1) _ _ _ _ (by omega) (by omega) (by rw [pu_rc_s, if_neg hnd]; exact he) (fun x hx => by rw [pu_rm_none hnd]; exact hF x hx) hfI hfL hG ls (lv_sub hl [1, 2, 3, 4, 5, 0] rfl)
  exact lp6 17 0 _ _ _ _ (by omega) (by omega) he0 hF0 (fun _ _ => rfl) (fun _ _ => rfl) hG ls (lv_sub hl [2, 3, 4, 5, 1, 0] rfl)

set_option maxHeartbeats 4000000 in
set_option maxRecDepth 100000 in
theorem c_X3_countFoundAbove (l : Launch) (D : va_G) (ad : Nat → Nat) (tc : Nat → ClassId) (I : Mi) (L : Ml) (T : Tb) (u : Nat) (M : Nat → Bool) (lim : Int64) (hl0 : ¬ lim < 0) (hF : ∀ x, x < 16 → L 40 x = pu_fd T u M x) : Met l yX3_countFoundAbove wsX3_countFoundAbove ({ frames := 0, cells := 0, slots := 0, locals := 0 } : Room) (va_Pc [.ref (ad 38), .long lim] (gPc D ad tc I L)) (vp_Si (fun r => nI (pu_ab T u M lim 16) = r)) 0 0 gN := by
  refine g_of (by decide) rfl (Nat.le_of_ble_eq_true rfl) ?_
  intro p e s m below meth c hcx hr hlocks hK hG ls hl
  obtain ⟨hx, hb, hml, hown, hts⟩ := id hcx
  have hl : lv_has ls 5 [(0, .ref (ad 38)), (1, .long lim)] := hl
  refine lv_iconst (v := 0) hx hb dX3_countFoundAbove_0 (by decide) ?_
  refine lv_istore_n (lv' := [(3, .int 0), (0, .ref (ad 38)), (1, .long lim)]) hx hb dX3_countFoundAbove_1 rfl hl (by decide) rfl (fun ls hl => ?_)
  refine lv_iconst (v := 0) hx hb dX3_countFoundAbove_2 (by decide) ?_
  refine lv_istore (lv' := [(4, .int 0), (3, .int 0), (0, .ref (ad 38)), (1, .long lim)]) hx hb dX3_countFoundAbove_3 hl (by decide) rfl (fun ls hl => ?_)
  have lp5 : ∀ (n : Nat) (j : Nat), (j ≤ 16) → (17 ≤ j + n) → ∀ ls : Array Slot, lv_has ls 5 [(0, .ref (ad 38)), (1, .long lim), (3, .int (nI (pu_ab T u M lim j))), (4, .int (nI j))] → W p l e (headSpec wsX3_countFoundAbove ({ frames := 0, cells := 0, slots := 0, locals := 0 } : Room)).room s m ([.ref (ad 38), .long lim] : List Value).toArray below meth c s.heap [] 0 0 (MQ below (vp_Si (fun r => nI (pu_ab T u M lim 16) = r)) ([.ref (ad 38), .long lim] : List Value).toArray s 0 0 gN) (F0 m 5 ls []) := by
    intro n
    induction n with
    | zero =>
      intro j hj hn ls hl
      exact absurd hn (by omega)
    | succ n ih5 =>
      intro j hj hn ls hl
      refine lv_iload hx hb dX3_countFoundAbove_5 (lv_at hl 3 rfl) ?_
      refine lv_bipush (v := 16) hx hb dX3_countFoundAbove_7 (by decide) ?_
      refine lv_icmp_ge (tgt := 33) hx hb dX3_countFoundAbove_9 (by decide) (fun c9 => ?_) (fun c9 => ?_)
      · -- 9: jumps
        have b9 := g_le (a := 16) (b := j) c9 (by omega) (by omega)
        refine lv_iload_n hx hb dX3_countFoundAbove_33 rfl (lv_at hl 2 rfl) ?_
        exact g_riS hx hb hr hlocks (by rw [show (16 : Nat) = j by omega]) dX3_countFoundAbove_34
      · -- 9: goes on
        have b9 := g_nle (a := 16) (b := j) c9 (by omega) (by omega)
        refine lv_aload_n hx hb dX3_countFoundAbove_12 rfl (lv_at hl 0 rfl) ?_
        refine g_get (v := .ref (ad 40)) hx hb hts (by decide +kernel) hown hK hG 38 (by decide) gc_38 rfl 1 (by decide) (hts (.fieldLink RX3 17 "NeighbourScores$Reading" "found" "[J") (by decide +kernel)) (fun _ h9 => h9) rfl dX3_countFoundAbove_13 ?_
        refine lv_iload hx hb dX3_countFoundAbove_16 (lv_at hl 3 rfl) ?_
        refine g_lald hx hb hK hG 40 (by decide) gc_40 j rfl (by omega) (by omega) dX3_countFoundAbove_18 ?_
        refine g_l (y := pu_fd T u M j) (hF j (by omega)) ?_
        refine lv_lload_n hx hb dX3_countFoundAbove_19 rfl (lv_at hl 1 rfl) ?_
        refine W.lcmp hx hb dX3_countFoundAbove_20 ?_
        refine lv_if_le (tgt := 27) hx hb dX3_countFoundAbove_21 (by decide) (fun c21 => ?_) (fun c21 => ?_)
        · -- 21: jumps
          refine lv_iinc (v := nI (j + 1)) (lv' := [(4, .int (nI (j + 1))), (0, .ref (ad 38)), (1, .long lim), (3, .int (nI (pu_ab T u M lim j)))]) hx hb dX3_countFoundAbove_27 hl (k := 3) rfl (nI_1 _) (by decide) rfl (fun ls hl => ?_)
          refine lv_goto (tgt := 5) hx hb dX3_countFoundAbove_30 (by decide) ?_
          have e9 : pu_ab T u M lim (j + 1) = pu_ab T u M lim j := by rw [pu_ab_s hl0, if_neg (pu_cmp_le c21), Nat.add_zero]
          rw [← e9] at hl
          exact ih5 (j + 1) (by omega) (by omega) ls (lv_sub hl [1, 2, 3, 0] rfl)
        · -- 21: goes on
          refine lv_iinc (v := nI (pu_ab T u M lim j + 1)) (lv' := [(3, .int (nI (pu_ab T u M lim j + 1))), (0, .ref (ad 38)), (1, .long lim), (4, .int (nI j))]) hx hb dX3_countFoundAbove_24 hl (k := 2) rfl (nI_1 _) (by decide) rfl (fun ls hl => ?_)
          refine lv_iinc (v := nI (j + 1)) (lv' := [(4, .int (nI (j + 1))), (3, .int (nI (pu_ab T u M lim j + 1))), (0, .ref (ad 38)), (1, .long lim)]) hx hb dX3_countFoundAbove_27 hl (k := 3) rfl (nI_1 _) (by decide) rfl (fun ls hl => ?_)
          refine lv_goto (tgt := 5) hx hb dX3_countFoundAbove_30 (by decide) ?_
          have e9 : pu_ab T u M lim (j + 1) = pu_ab T u M lim j + 1 := by rw [pu_ab_s hl0, if_pos (pu_cmp_gt c21)]
          rw [← e9] at hl
          exact ih5 (j + 1) (by omega) (by omega) ls (lv_sub hl [2, 3, 1, 0] rfl)
  exact lp5 17 0 (by omega) (by omega) ls (lv_sub hl [2, 3, 1, 0] rfl)

set_option maxHeartbeats 4000000 in
set_option maxRecDepth 100000 in
theorem c_X3_countEntries (l : Launch) (D : va_G) (ad : Nat → Nat) (tc : Nat → ClassId) (I : Mi) (L : Ml) (T : Tb) (hT : pN I T) (u k : Nat) (hu : u < 12) (hk : k < 2 ^ 31) : Met l yX3_countEntries wsX3_countEntries ({ frames := 5, cells := 0, slots := 0, locals := 123 } : Room) (va_Pc [.ref (ad 38), .ref (ad 7), .int (nI u), .int (nI k)] (gPc D ad tc I L)) (gQi D ad tc (fun r I1 L1 => nI (pu_rr T u k 16 0 (fun _ => false) 0) = r ∧ ∀ a, a < 38 ∨ 89 ≤ a → I1 a = I a ∧ L1 a = L a)) 0 0 (gA ad) := by
  refine g_of (by decide) rfl (Nat.le_of_ble_eq_true rfl) ?_
  intro p e s m below meth c hcx hr hlocks hK hG ls hl
  obtain ⟨hx, hb, hml, hown, hts⟩ := id hcx
  have hl : lv_has ls 7 [(0, .ref (ad 38)), (1, .ref (ad 7)), (2, .int (nI u)), (3, .int (nI k))] := hl
  refine lv_aload_n hx hb dX3_countEntries_0 rfl (lv_at hl 0 rfl) ?_
  refine lv_aload_n hx hb dX3_countEntries_1 rfl (lv_at hl 1 rfl) ?_
  refine lv_iload_n hx hb dX3_countEntries_2 rfl (lv_at hl 2 rfl) ?_
  refine g_cv (va_runV (As := [.ref (ad 7), .int (nI u)]) (rest := []) hcx (c_X3_begin l D ad tc I L T hT u hu) (cwV 2 hts gX3_countEntries_X3_begin rfl rfl rfl (by decide +kernel) ⟨Nat.le_of_ble_eq_true rfl, Nat.le_of_ble_eq_true rfl⟩) (g_pV hK hG 38 (by decide) gc_38 rfl) rfl rfl hl.1 rfl (lv_room (Nat.le_of_ble_eq_true rfl)) dX3_countEntries_3 ⟨Nat.le_refl _, Nat.le_refl _⟩) hK hG (fun I_3 L_3 H locs hw_3 hG => ?_)
  refine lv_iconst (v := 0) hx hb dX3_countEntries_6 (by decide) ?_
  refine lv_istore (lv' := [(4, .int 0), (0, .ref (ad 38)), (1, .ref (ad 7)), (2, .int (nI u)), (3, .int (nI k))]) hx hb dX3_countEntries_7 hl (by decide) rfl (fun ls hl => ?_)
  have lp9 : ∀ (n : Nat) (d : Nat) (M : Nat → Bool) (E : Nat) (I_9 : Mi) (L_9 : Ml) (H : Heap) (locs : List Loc), (d ≤ 16) → (17 ≤ d + n) → (E ≤ 16 * d) → (pu_rr T u k (16 - d) d M E = pu_rr T u k 16 0 (fun _ => false) 0) → (I_9 38 2 = nI E) → (∀ x, x < 16 → pu_RK I_9 L_9 x (pu_vr T u x) 16) → (∀ x, x < 16 → L_9 40 x = pu_fd T u M x) → (∀ a, a < 38 ∨ 89 ≤ a → I_9 a = I a ∧ L_9 a = L a) → gG D ad tc (gA ad) s.heap I_9 L_9 H locs → ∀ ls : Array Slot, lv_has ls 7 [(0, .ref (ad 38)), (1, .ref (ad 7)), (2, .int (nI u)), (3, .int (nI k)), (4, .int (nI d))] → W p l e (headSpec wsX3_countEntries ({ frames := 5, cells := 0, slots := 0, locals := 123 } : Room)).room s m ([.ref (ad 38), .ref (ad 7), .int (nI u), .int (nI k)] : List Value).toArray below meth c H locs 0 0 (MQ below (gQi D ad tc (fun r I1 L1 => nI (pu_rr T u k 16 0 (fun _ => false) 0) = r ∧ ∀ a, a < 38 ∨ 89 ≤ a → I1 a = I a ∧ L1 a = L a)) ([.ref (ad 38), .ref (ad 7), .int (nI u), .int (nI k)] : List Value).toArray s 0 0 (gA ad)) (F0 m 9 ls []) := by
    intro n
    induction n with
    | zero =>
      intro d M E I_9 L_9 H locs hd hn hE hrr he hR hF hf hG ls hl
      exact absurd hn (by omega)
    | succ n ih9 =>
      intro d M E I_9 L_9 H locs hd hn hE hrr he hR hF hf hG ls hl
      refine lv_iload hx hb dX3_countEntries_9 (lv_at hl 4 rfl) ?_
      refine lv_bipush (v := 16) hx hb dX3_countEntries_11 (by decide) ?_
      refine lv_icmp_ge (tgt := 54) hx hb dX3_countEntries_13 (by decide) (fun c13 => ?_) (fun c13 => ?_)
      · -- 13: jumps
        have b13 := g_le (a := 16) (b := d) c13 (by omega) (by omega)
        refine lv_aload_n hx hb dX3_countEntries_54 rfl (lv_at hl 0 rfl) ?_
        refine g_get (v := .int (I_9 38 2)) hx hb hts (by decide +kernel) hown hK hG 38 (by decide) gc_38 rfl 2 (by decide) (hts (.fieldLink RX3 21 "NeighbourScores$Reading" "entries" "I") (by decide +kernel)) (fun _ h9 => h9) rfl dX3_countEntries_55 ?_
        exact g_ri hx hb hr hlocks hG ⟨by rw [he, ← hrr, show 16 - d = 0 by omega]; rfl, hf⟩ dX3_countEntries_58
      · -- 13: goes on
        have b13 := g_nle (a := 16) (b := d) c13 (by omega) (by omega)
        refine lv_aload_n hx hb dX3_countEntries_16 rfl (lv_at hl 0 rfl) ?_
        refine lv_iload hx hb dX3_countEntries_17 (lv_at hl 4 rfl) ?_
        refine g_si (va_runV (As := [.int (nI d)]) (rest := []) hcx (c_X3_isEntryLeft l D ad tc I_9 L_9 T u d (by omega) hR) (cwV 1 hts gX3_countEntries_X3_isEntryLeft rfl rfl rfl (by decide +kernel) ⟨Nat.le_of_ble_eq_true rfl, Nat.le_of_ble_eq_true rfl⟩) (g_pV hK hG 38 (by decide) gc_38 rfl) rfl rfl hl.1 rfl (lv_room (Nat.le_of_ble_eq_true rfl)) dX3_countEntries_19 ⟨Nat.le_refl _, Nat.le_refl _⟩) (fun r_19 hw_19 => ?_)
        rcases hw_19 with ⟨hw_19, rfl⟩ | ⟨hw_19, rfl⟩
        · -- 19: yes
          refine lv_if_eq (tgt := 54) hx hb dX3_countEntries_22 (by decide) (fun c22 => absurd c22 (by decide)) (fun _ => ?_)
          refine lv_aload_n hx hb dX3_countEntries_25 rfl (lv_at hl 0 rfl) ?_
          refine lv_aload_n hx hb dX3_countEntries_26 rfl (lv_at hl 1 rfl) ?_
          refine lv_iload_n hx hb dX3_countEntries_27 rfl (lv_at hl 2 rfl) ?_
          refine lv_iload hx hb dX3_countEntries_28 (lv_at hl 4 rfl) ?_
          refine g_cl (va_runV (As := [.ref (ad 7), .int (nI u), .int (nI d)]) (rest := []) hcx (c_X3_readRound l D ad tc I_9 L_9 T (pN_mem (fun a h1 h2 => (hf a (by omega)).1) hT) u d E hu (by omega) M hR he hF) (cwV 3 hts gX3_countEntries_X3_readRound rfl rfl rfl (by decide +kernel) ⟨Nat.le_of_ble_eq_true rfl, Nat.le_of_ble_eq_true rfl⟩) (g_pV hK hG 38 (by decide) gc_38 rfl) rfl rfl hl.1 rfl (lv_room (Nat.le_of_ble_eq_true rfl)) dX3_countEntries_30 ⟨Nat.le_refl _, Nat.le_refl _⟩) hK hG (fun r_30 I_30 L_30 H locs hw_30 hG => ?_)
          obtain ⟨ha30, hb30, hc30, hd30, he30⟩ := hw_30
          subst ha30
          have hrc := pu_rcle T u d 16
          have hab := pu_able T u (pu_rm T u d M 16) (pu_rl T u d 16) 16
          refine lv_lstore (lv' := [(5, .long (pu_rl T u d 16)), (0, .ref (ad 38)), (1, .ref (ad 7)), (2, .int (nI u)), (3, .int (nI k)), (4, .int (nI d))]) hx hb dX3_countEntries_33 hl (by decide) rfl (fun ls hl => ?_)
          refine lv_aload_n hx hb dX3_countEntries_35 rfl (lv_at hl 1 rfl) ?_
          refine lv_lload hx hb dX3_countEntries_36 (lv_at hl 0 rfl) ?_
          refine g_si (va_runV (As := [.long (pu_rl T u d 16)]) (rest := []) hcx (c_X3_countFoundAbove l D ad tc I_30 L_30 T u (pu_rm T u d M 16) (pu_rl T u d 16) (pu_rl_nn hT.1 hu) hc30) (cwV 1 hts gX3_countEntries_X3_countFoundAbove rfl rfl rfl (by decide +kernel) ⟨Nat.le_of_ble_eq_true rfl, Nat.le_of_ble_eq_true rfl⟩) (g_pV hK hG 38 (by decide) gc_38 rfl) rfl rfl hl.1 rfl (lv_room (Nat.le_of_ble_eq_true rfl)) dX3_countEntries_38 ⟨Nat.le_refl _, Nat.le_refl _⟩) (fun r_38 hw_38 => ?_)
          subst hw_38
          refine lv_iload_n hx hb dX3_countEntries_41 rfl (lv_at hl 4 rfl) ?_
          refine lv_icmp_lt (tgt := 48) hx hb dX3_countEntries_42 (by decide) (fun c42 => ?_) (fun c42 => ?_)
          · -- 42: jumps
            have b42 := g_lt (a := (pu_ab T u (pu_rm T u d M 16) (pu_rl T u d 16) 16)) (b := k) c42 (by omega) (by omega)
            refine lv_iinc (v := nI (d + 1)) (lv' := [(4, .int (nI (d + 1))), (5, .long (pu_rl T u d 16)), (0, .ref (ad 38)), (1, .ref (ad 7)), (2, .int (nI u)), (3, .int (nI k))]) hx hb dX3_countEntries_48 hl (k := 5) rfl (nI_1 _) (by decide) rfl (fun ls hl => ?_)
            refine lv_goto (tgt := 9) hx hb dX3_countEntries_51 (by decide) ?_
            exact ih9 (d + 1) (pu_rm T u d M 16) (E + pu_rc T u d 16) _ _ _ _ (by omega) (by omega) (by omega) (by rw [← hrr, pu_rr_s (d := d) (by omega), if_neg hw_19, if_neg (by omega)]) hb30 (fun x hx => pu_RK_mem (hR x hx) (hd30 _ (by omega)) (hd30 _ (by omega)) (he30 _ (by omega))) hc30 (fun a ha => ⟨(hd30 a (by omega)).trans (hf a ha).1, (he30 a (by omega)).trans (hf a ha).2⟩) hG ls (lv_sub hl [2, 3, 4, 5, 0] rfl)
          · -- 42: goes on
            have b42 := g_nlt (a := (pu_ab T u (pu_rm T u d M 16) (pu_rl T u d 16) 16)) (b := k) c42 (by omega) (by omega)
            refine lv_goto (tgt := 54) hx hb dX3_countEntries_45 (by decide) ?_
            refine lv_aload_n hx hb dX3_countEntries_54 rfl (lv_at hl 1 rfl) ?_
            refine g_get (v := .int (I_30 38 2)) hx hb hts (by decide +kernel) hown hK hG 38 (by decide) gc_38 rfl 2 (by decide) (hts (.fieldLink RX3 21 "NeighbourScores$Reading" "entries" "I") (by decide +kernel)) (fun _ h9 => h9) rfl dX3_countEntries_55 ?_
            exact g_ri hx hb hr hlocks hG ⟨by rw [hb30, ← hrr, pu_rr_s (d := d) (by omega), if_neg hw_19, if_pos b42], (fun a ha => ⟨(hd30 a (by omega)).trans (hf a ha).1, (he30 a (by omega)).trans (hf a ha).2⟩)⟩ dX3_countEntries_58
        · -- 19: no
          refine lv_if_eq (tgt := 54) hx hb dX3_countEntries_22 (by decide) (fun _ => ?_) (fun c22 => absurd (by decide) c22)
          refine lv_aload_n hx hb dX3_countEntries_54 rfl (lv_at hl 0 rfl) ?_
          refine g_get (v := .int (I_9 38 2)) hx hb hts (by decide +kernel) hown hK hG 38 (by decide) gc_38 rfl 2 (by decide) (hts (.fieldLink RX3 21 "NeighbourScores$Reading" "entries" "I") (by decide +kernel)) (fun _ h9 => h9) rfl dX3_countEntries_55 ?_
          exact g_ri hx hb hr hlocks hG ⟨by rw [he, ← hrr, pu_rr_s (d := d) (by omega), if_pos hw_19], hf⟩ dX3_countEntries_58
  exact lp9 17 0 (fun _ => false) 0 _ _ _ _ (by omega) (by omega) (by omega) rfl hw_3.1 hw_3.2.1 (fun x hx => by rw [pu_fd_0]; exact hw_3.2.2.1 x hx) hw_3.2.2.2 hG ls (lv_sub hl [1, 2, 3, 4, 0] rfl)
