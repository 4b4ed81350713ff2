set_option maxHeartbeats 4000000 in
set_option maxRecDepth 100000 in
theorem c_X5_loadNewest (l : Launch) (D : va_G) (ad : Nat → Nat) (tc : Nat → ClassId) (I : Mi) (L : Ml) (T : Tb) (hT : pN I T)  : Met l yX5_loadNewest wsX5_loadNewest ({ frames := 5, cells := 0, slots := 0, locals := 115 } : Room) (va_Pc [.ref (ad 1), .ref (ad 7)] (gPc D ad tc I L)) (gQi D ad tc (fun r I1 L1 => pu_ldn (I 2) = r ∧ pN I1 (pu_ldT (I 2)) ∧ (∀ a, a < 10 ∨ 38 ≤ a → I1 a = I a) ∧ L = L1)) 0 0 (gA ad) := by
  refine g_of (by decide) rfl (Nat.le_of_ble_eq_true rfl) ?_
  intro p e s m below meth c hcx hr hlocks hK hG ls hl
  obtain ⟨hx, hb, hml, hown, hts⟩ := id hcx
  have hl : lv_has ls 6 [(0, .ref (ad 1)), (1, .ref (ad 7))] := hl
  refine lv_aload_n hx hb dX5_loadNewest_0 rfl (lv_at hl 0 rfl) ?_
  refine g_si (va_runS (As := [.ref (ad 1)]) (rest := []) hcx (c_X5_newest l D ad tc I L ) (va_cwS 1 hts gX5_loadNewest_X5_newest rfl rfl rfl (by decide +kernel) ⟨Nat.le_of_ble_eq_true rfl, Nat.le_of_ble_eq_true rfl⟩) (g_pS hK hG) rfl rfl hl.1 rfl (lv_room (Nat.le_of_ble_eq_true rfl)) dX5_loadNewest_1 ⟨Nat.le_refl _, Nat.le_refl _⟩) (fun r_1 hw_1 => ?_)
  rcases hw_1 with ⟨hw_1, rfl⟩ | ⟨hw_1, rfl⟩ | ⟨hw_1, rfl⟩
  · -- 1: first
    refine lv_istore_n (lv' := [(2, .int 0), (0, .ref (ad 1)), (1, .ref (ad 7))]) hx hb dX5_loadNewest_4 rfl hl (by decide) rfl (fun ls hl => ?_)
    refine lv_iload_n hx hb dX5_loadNewest_5 rfl (lv_at hl 0 rfl) ?_
    refine lv_iconst (v := -1) hx hb dX5_loadNewest_6 (by decide) ?_
    refine lv_icmp_ne (tgt := 16) hx hb dX5_loadNewest_7 (by decide) (fun _ => ?_) (fun c7 => absurd c7 (by decide))
    refine lv_iload_n hx hb dX5_loadNewest_16 rfl (lv_at hl 0 rfl) ?_
    refine g_si (va_runS (As := [.int 0]) (rest := []) hcx (c_X5_startOf l 0) (va_cwS 1 hts gX5_loadNewest_X5_startOf rfl rfl rfl (by decide +kernel) ⟨Nat.le_of_ble_eq_true rfl, Nat.le_of_ble_eq_true rfl⟩) (g_p0) rfl rfl hl.1 rfl (lv_room (Nat.le_of_ble_eq_true rfl)) dX5_loadNewest_17 ⟨Nat.le_refl _, Nat.le_refl _⟩) (fun r_17 hw_17 => ?_)
    subst hw_17
    refine lv_istore_n (lv' := [(3, .int (nI (26 * 0))), (2, .int 0), (0, .ref (ad 1)), (1, .ref (ad 7))]) hx hb dX5_loadNewest_20 rfl hl (by decide) rfl (fun ls hl => ?_)
    refine lv_iconst (v := 0) hx hb dX5_loadNewest_21 (by decide) ?_
    refine lv_istore (lv' := [(4, .int 0), (3, .int (nI (26 * 0))), (2, .int 0), (0, .ref (ad 1)), (1, .ref (ad 7))]) hx hb dX5_loadNewest_22 hl (by decide) rfl (fun ls hl => ?_)
    have lp24 : ∀ (n : Nat) (u : Nat) (T1 : Tb) (I_24 : Mi) (H : Heap) (locs : List Loc), (u ≤ 12) → (13 ≤ u + n) → (pN I_24 T1) → (∀ a b, a < u → b < 16 → T1 a b = pu_ld (I 2) (26 * 0) a b) → (∀ a, a < 10 ∨ 38 ≤ a → I_24 a = I a) → gG D ad tc (gA ad) s.heap I_24 L H locs → ∀ ls : Array Slot, lv_has ls 6 [(0, .ref (ad 1)), (1, .ref (ad 7)), (3, .int (nI (26 * 0))), (4, .int (nI u))] → W p l e (headSpec wsX5_loadNewest ({ frames := 5, cells := 0, slots := 0, locals := 115 } : Room)).room s m ([.ref (ad 1), .ref (ad 7)] : List Value).toArray below meth c H locs 0 0 (MQ below (gQi D ad tc (fun r I1 L1 => pu_ldn (I 2) = r ∧ pN I1 (pu_ldT (I 2)) ∧ (∀ a, a < 10 ∨ 38 ≤ a → I1 a = I a) ∧ L = L1)) ([.ref (ad 1), .ref (ad 7)] : List Value).toArray s 0 0 (gA ad)) (F0 m 24 ls []) := by
      intro n
      induction n with
      | zero =>
        intro u T1 I_24 H locs hu hn h1 hq hf hG ls hl
        exact absurd hn (by omega)
      | succ n ih24 =>
        intro u T1 I_24 H locs hu hn h1 hq hf hG ls hl
        refine lv_iload hx hb dX5_loadNewest_24 (lv_at hl 3 rfl) ?_
        refine lv_bipush (v := 12) hx hb dX5_loadNewest_26 (by decide) ?_
        refine lv_icmp_ge (tgt := 73) hx hb dX5_loadNewest_28 (by decide) (fun c28 => ?_) (fun c28 => ?_)
        · -- 28: jumps
          have b28 := g_le (a := 12) (b := u) c28 (by omega) (by omega)
          refine lv_aload_n hx hb dX5_loadNewest_73 rfl (lv_at hl 0 rfl) ?_
          refine lv_iload_n hx hb dX5_loadNewest_74 rfl (lv_at hl 2 rfl) ?_
          refine g_si (va_runV (As := [.int (nI (26 * 0))]) (rest := []) hcx (c_X0_at l D ad tc I_24 L (nI (26 * 0))) (cwV 1 hts gX5_loadNewest_X0_at rfl rfl rfl (by decide +kernel) ⟨Nat.le_of_ble_eq_true rfl, Nat.le_of_ble_eq_true rfl⟩) (g_pV hK hG 1 (by decide) gc_1 rfl) rfl rfl hl.1 rfl (lv_room (Nat.le_of_ble_eq_true rfl)) dX5_loadNewest_75 ⟨Nat.le_refl _, Nat.le_refl _⟩) (fun r_75 hw_75 => ?_)
          subst hw_75
          refine g_i (y := I_24 2 (26 * 0)) (pu_at_in (by omega)) ?_
          exact g_ri hx hb hr hlocks hG ⟨by unfold pu_ldn; rw [hw_1, hf 2 (by omega)]; rfl, by unfold pu_ldT; rw [hw_1]; exact pN_congr (fun a b ha hb => hq a b (by omega) hb) h1, hf, rfl⟩ dX5_loadNewest_78
        · -- 28: goes on
          have b28 := g_nle (a := 12) (b := u) c28 (by omega) (by omega)
          refine lv_iconst (v := 0) hx hb dX5_loadNewest_31 (by decide) ?_
          refine lv_istore (lv' := [(5, .int 0), (0, .ref (ad 1)), (1, .ref (ad 7)), (3, .int (nI (26 * 0))), (4, .int (nI u))]) hx hb dX5_loadNewest_32 hl (by decide) rfl (fun ls hl => ?_)
          have lp34 : ∀ (n : Nat) (half : Nat) (T2 : Tb) (I_34 : Mi) (H : Heap) (locs : List Loc), (half ≤ 2) → (3 ≤ half + n) → (pN I_34 T2) → (∀ a b, (a < u ∨ (a = u ∧ b < 8 * half)) → b < 16 → T2 a b = pu_ld (I 2) (26 * 0) a b) → (∀ a, a < 10 ∨ 38 ≤ a → I_34 a = I a) → gG D ad tc (gA ad) s.heap I_34 L H locs → ∀ ls : Array Slot, lv_has ls 6 [(0, .ref (ad 1)), (1, .ref (ad 7)), (3, .int (nI (26 * 0))), (4, .int (nI u)), (5, .int (nI half))] → W p l e (headSpec wsX5_loadNewest ({ frames := 5, cells := 0, slots := 0, locals := 115 } : Room)).room s m ([.ref (ad 1), .ref (ad 7)] : List Value).toArray below meth c H locs 0 0 (MQ below (gQi D ad tc (fun r I1 L1 => pu_ldn (I 2) = r ∧ pN I1 (pu_ldT (I 2)) ∧ (∀ a, a < 10 ∨ 38 ≤ a → I1 a = I a) ∧ L = L1)) ([.ref (ad 1), .ref (ad 7)] : List Value).toArray s 0 0 (gA ad)) (F0 m 34 ls []) := by
            intro n
            induction n with
            | zero =>
              intro half T2 I_34 H locs hh hn2 h2 hq2 hf2 hG ls hl
              exact absurd hn2 (by omega)
            | succ n ih34 =>
              intro half T2 I_34 H locs hh hn2 h2 hq2 hf2 hG ls hl
              refine lv_iload hx hb dX5_loadNewest_34 (lv_at hl 4 rfl) ?_
              refine lv_iconst (v := 2) hx hb dX5_loadNewest_36 (by decide) ?_
              refine lv_icmp_ge (tgt := 67) hx hb dX5_loadNewest_37 (by decide) (fun c37 => ?_) (fun c37 => ?_)
              · -- 37: jumps
                have b37 := g_le (a := 2) (b := half) c37 (by omega) (by omega)
                refine lv_iinc (v := nI (u + 1)) (lv' := [(4, .int (nI (u + 1))), (0, .ref (ad 1)), (1, .ref (ad 7)), (3, .int (nI (26 * 0))), (5, .int (nI half))]) hx hb dX5_loadNewest_67 hl (k := 3) rfl (nI_1 _) (by decide) rfl (fun ls hl => ?_)
                refine lv_goto (tgt := 24) hx hb dX5_loadNewest_70 (by decide) ?_
                exact ih24 (u + 1) T2 _ _ _ (by omega) (by omega) h2 (fun a b ha hb => hq2 a b (by omega) hb) hf2 hG ls (lv_sub hl [1, 2, 3, 0] rfl)
              · -- 37: goes on
                have b37 := g_nle (a := 2) (b := half) c37 (by omega) (by omega)
                refine lv_aload_n hx hb dX5_loadNewest_40 rfl (lv_at hl 1 rfl) ?_
                refine lv_iload hx hb dX5_loadNewest_41 (lv_at hl 3 rfl) ?_
                refine lv_iload hx hb dX5_loadNewest_43 (lv_at hl 4 rfl) ?_
                refine lv_aload_n hx hb dX5_loadNewest_45 rfl (lv_at hl 0 rfl) ?_
                refine lv_iload_n hx hb dX5_loadNewest_46 rfl (lv_at hl 2 rfl) ?_
                refine lv_iload hx hb dX5_loadNewest_47 (lv_at hl 3 rfl) ?_
                refine lv_iload hx hb dX5_loadNewest_49 (lv_at hl 4 rfl) ?_
                refine g_si (va_runS (As := [.int (nI u), .int (nI half)]) (rest := [.int (nI (26 * 0)), .ref (ad 1), .int (nI half), .int (nI u), .ref (ad 7)]) hcx (c_X5_placeOf l u half) (va_cwS 2 hts gX5_loadNewest_X5_placeOf rfl rfl rfl (by decide +kernel) ⟨Nat.le_of_ble_eq_true rfl, Nat.le_of_ble_eq_true rfl⟩) (g_p0) rfl rfl hl.1 rfl (lv_room (Nat.le_of_ble_eq_true rfl)) dX5_loadNewest_51 ⟨Nat.le_refl _, Nat.le_refl _⟩) (fun r_51 hw_51 => ?_)
                subst hw_51
                refine lv_iadd hx hb dX5_loadNewest_54 ?_
                refine g_i (y := nI ((26 * 0) + (2 * u + 1 + half))) (nI_add (26 * 0) (2 * u + 1 + half)) ?_
                refine g_si (va_runV (As := [.int (nI ((26 * 0) + (2 * u + 1 + half)))]) (rest := [.int (nI half), .int (nI u), .ref (ad 7)]) hcx (c_X0_at l D ad tc I_34 L (nI ((26 * 0) + (2 * u + 1 + half)))) (cwV 1 hts gX5_loadNewest_X0_at rfl rfl rfl (by decide +kernel) ⟨Nat.le_of_ble_eq_true rfl, Nat.le_of_ble_eq_true rfl⟩) (g_pV hK hG 1 (by decide) gc_1 rfl) rfl rfl hl.1 rfl (lv_room (Nat.le_of_ble_eq_true rfl)) dX5_loadNewest_55 ⟨Nat.le_refl _, Nat.le_refl _⟩) (fun r_55 hw_55 => ?_)
                subst hw_55
                refine g_i (y := I_34 2 (26 * 0 + (2 * u + 1 + half))) (pu_at_in (by omega)) ?_
                refine g_cv (va_runV (As := [.int (nI u), .int (nI half), .int (I_34 2 (26 * 0 + (2 * u + 1 + half)))]) (rest := []) hcx (c_X2_unpack l D ad tc I_34 L T2 h2 u half (I_34 2 (26 * 0 + (2 * u + 1 + half))) (by omega) (by omega)) (cwV 3 hts gX5_loadNewest_X2_unpack rfl rfl rfl (by decide +kernel) ⟨Nat.le_of_ble_eq_true rfl, Nat.le_of_ble_eq_true rfl⟩) (g_pV hK hG 7 (by decide) gc_7 rfl) rfl rfl hl.1 rfl (lv_room (Nat.le_of_ble_eq_true rfl)) dX5_loadNewest_58 ⟨Nat.le_refl _, Nat.le_refl _⟩) hK hG (fun I_58 L_58 H locs hw_58 hG => ?_)
                obtain rfl := hw_58.2.2
                refine lv_iinc (v := nI (half + 1)) (lv' := [(5, .int (nI (half + 1))), (0, .ref (ad 1)), (1, .ref (ad 7)), (3, .int (nI (26 * 0))), (4, .int (nI u))]) hx hb dX5_loadNewest_61 hl (k := 4) rfl (nI_1 _) (by decide) rfl (fun ls hl => ?_)
                refine lv_goto (tgt := 34) hx hb dX5_loadNewest_64 (by decide) ?_
                exact ih34 (half + 1) _ _ _ _ (by omega) (by omega) hw_58.1 (fun a b ha hb => pu_un_ld (by omega) (hf2 2 (by omega)) hq2 ha hb) (fun a ha => (hw_58.2.1 a ha).trans (hf2 a ha)) hG ls (lv_sub hl [1, 2, 3, 4, 0] rfl)
          exact lp34 3 0 T1 _ _ _ (by omega) (by omega) h1 (fun a b ha hb => hq a b (by omega) hb) hf hG ls (lv_sub hl [1, 2, 3, 4, 0] rfl)
    exact lp24 13 0 T _ _ _ (by omega) (by omega) hT (fun _ _ h => absurd h (Nat.not_lt_zero _)) (fun _ _ => rfl) hG ls (lv_sub hl [3, 4, 1, 0] rfl)
  · -- 1: second
    refine lv_istore_n (lv' := [(2, .int 1), (0, .ref (ad 1)), (1, .ref (ad 7))]) hx hb dX5_loadNewest_4 rfl hl (by decide) rfl (fun ls hl => ?_)
    refine lv_iload_n hx hb dX5_loadNewest_5 rfl (lv_at hl 0 rfl) ?_
    refine lv_iconst (v := -1) hx hb dX5_loadNewest_6 (by decide) ?_
    refine lv_icmp_ne (tgt := 16) hx hb dX5_loadNewest_7 (by decide) (fun _ => ?_) (fun c7 => absurd c7 (by decide))
    refine lv_iload_n hx hb dX5_loadNewest_16 rfl (lv_at hl 0 rfl) ?_
    refine g_si (va_runS (As := [.int 1]) (rest := []) hcx (c_X5_startOf l 1) (va_cwS 1 hts gX5_loadNewest_X5_startOf rfl rfl rfl (by decide +kernel) ⟨Nat.le_of_ble_eq_true rfl, Nat.le_of_ble_eq_true rfl⟩) (g_p0) rfl rfl hl.1 rfl (lv_room (Nat.le_of_ble_eq_true rfl)) dX5_loadNewest_17 ⟨Nat.le_refl _, Nat.le_refl _⟩) (fun r_17 hw_17 => ?_)
    subst hw_17
    refine lv_istore_n (lv' := [(3, .int (nI (26 * 1))), (2, .int 1), (0, .ref (ad 1)), (1, .ref (ad 7))]) hx hb dX5_loadNewest_20 rfl hl (by decide) rfl (fun ls hl => ?_)
    refine lv_iconst (v := 0) hx hb dX5_loadNewest_21 (by decide) ?_
    refine lv_istore (lv' := [(4, .int 0), (3, .int (nI (26 * 1))), (2, .int 1), (0, .ref (ad 1)), (1, .ref (ad 7))]) hx hb dX5_loadNewest_22 hl (by decide) rfl (fun ls hl => ?_)
    have lp24 : ∀ (n : Nat) (u : Nat) (T1 : Tb) (I_24 : Mi) (H : Heap) (locs : List Loc), (u ≤ 12) → (13 ≤ u + n) → (pN I_24 T1) → (∀ a b, a < u → b < 16 → T1 a b = pu_ld (I 2) (26 * 1) a b) → (∀ a, a < 10 ∨ 38 ≤ a → I_24 a = I a) → gG D ad tc (gA ad) s.heap I_24 L H locs → ∀ ls : Array Slot, lv_has ls 6 [(0, .ref (ad 1)), (1, .ref (ad 7)), (3, .int (nI (26 * 1))), (4, .int (nI u))] → W p l e (headSpec wsX5_loadNewest ({ frames := 5, cells := 0, slots := 0, locals := 115 } : Room)).room s m ([.ref (ad 1), .ref (ad 7)] : List Value).toArray below meth c H locs 0 0 (MQ below (gQi D ad tc (fun r I1 L1 => pu_ldn (I 2) = r ∧ pN I1 (pu_ldT (I 2)) ∧ (∀ a, a < 10 ∨ 38 ≤ a → I1 a = I a) ∧ L = L1)) ([.ref (ad 1), .ref (ad 7)] : List Value).toArray s 0 0 (gA ad)) (F0 m 24 ls []) := by
      intro n
      induction n with
      | zero =>
        intro u T1 I_24 H locs hu hn h1 hq hf hG ls hl
        exact absurd hn (by omega)
      | succ n ih24 =>
        intro u T1 I_24 H locs hu hn h1 hq hf hG ls hl
        refine lv_iload hx hb dX5_loadNewest_24 (lv_at hl 3 rfl) ?_
        refine lv_bipush (v := 12) hx hb dX5_loadNewest_26 (by decide) ?_
        refine lv_icmp_ge (tgt := 73) hx hb dX5_loadNewest_28 (by decide) (fun c28 => ?_) (fun c28 => ?_)
        · -- 28: jumps
          have b28 := g_le (a := 12) (b := u) c28 (by omega) (by omega)
          refine lv_aload_n hx hb dX5_loadNewest_73 rfl (lv_at hl 0 rfl) ?_
          refine lv_iload_n hx hb dX5_loadNewest_74 rfl (lv_at hl 2 rfl) ?_
          refine g_si (va_runV (As := [.int (nI (26 * 1))]) (rest := []) hcx (c_X0_at l D ad tc I_24 L (nI (26 * 1))) (cwV 1 hts gX5_loadNewest_X0_at rfl rfl rfl (by decide +kernel) ⟨Nat.le_of_ble_eq_true rfl, Nat.le_of_ble_eq_true rfl⟩) (g_pV hK hG 1 (by decide) gc_1 rfl) rfl rfl hl.1 rfl (lv_room (Nat.le_of_ble_eq_true rfl)) dX5_loadNewest_75 ⟨Nat.le_refl _, Nat.le_refl _⟩) (fun r_75 hw_75 => ?_)
          subst hw_75
          refine g_i (y := I_24 2 (26 * 1)) (pu_at_in (by omega)) ?_
          exact g_ri hx hb hr hlocks hG ⟨by unfold pu_ldn; rw [hw_1, hf 2 (by omega)]; rfl, by unfold pu_ldT; rw [hw_1]; exact pN_congr (fun a b ha hb => hq a b (by omega) hb) h1, hf, rfl⟩ dX5_loadNewest_78
        · -- 28: goes on
          have b28 := g_nle (a := 12) (b := u) c28 (by omega) (by omega)
          refine lv_iconst (v := 0) hx hb dX5_loadNewest_31 (by decide) ?_
          refine lv_istore (lv' := [(5, .int 0), (0, .ref (ad 1)), (1, .ref (ad 7)), (3, .int (nI (26 * 1))), (4, .int (nI u))]) hx hb dX5_loadNewest_32 hl (by decide) rfl (fun ls hl => ?_)
          have lp34 : ∀ (n : Nat) (half : Nat) (T2 : Tb) (I_34 : Mi) (H : Heap) (locs : List Loc), (half ≤ 2) → (3 ≤ half + n) → (pN I_34 T2) → (∀ a b, (a < u ∨ (a = u ∧ b < 8 * half)) → b < 16 → T2 a b = pu_ld (I 2) (26 * 1) a b) → (∀ a, a < 10 ∨ 38 ≤ a → I_34 a = I a) → gG D ad tc (gA ad) s.heap I_34 L H locs → ∀ ls : Array Slot, lv_has ls 6 [(0, .ref (ad 1)), (1, .ref (ad 7)), (3, .int (nI (26 * 1))), (4, .int (nI u)), (5, .int (nI half))] → W p l e (headSpec wsX5_loadNewest ({ frames := 5, cells := 0, slots := 0, locals := 115 } : Room)).room s m ([.ref (ad 1), .ref (ad 7)] : List Value).toArray below meth c H locs 0 0 (MQ below (gQi D ad tc (fun r I1 L1 => pu_ldn (I 2) = r ∧ pN I1 (pu_ldT (I 2)) ∧ (∀ a, a < 10 ∨ 38 ≤ a → I1 a = I a) ∧ L = L1)) ([.ref (ad 1), .ref (ad 7)] : List Value).toArray s 0 0 (gA ad)) (F0 m 34 ls []) := by
            intro n
            induction n with
            | zero =>
              intro half T2 I_34 H locs hh hn2 h2 hq2 hf2 hG ls hl
              exact absurd hn2 (by omega)
            | succ n ih34 =>
              intro half T2 I_34 H locs hh hn2 h2 hq2 hf2 hG ls hl
              refine lv_iload hx hb dX5_loadNewest_34 (lv_at hl 4 rfl) ?_
              refine lv_iconst (v := 2) hx hb dX5_loadNewest_36 (by decide) ?_
              refine lv_icmp_ge (tgt := 67) hx hb dX5_loadNewest_37 (by decide) (fun c37 => ?_) (fun c37 => ?_)
              · -- 37: jumps
                have b37 := g_le (a := 2) (b := half) c37 (by omega) (by omega)
                refine lv_iinc (v := nI (u + 1)) (lv' := [(4, .int (nI (u + 1))), (0, .ref (ad 1)), (1, .ref (ad 7)), (3, .int (nI (26 * 1))), (5, .int (nI half))]) hx hb dX5_loadNewest_67 hl (k := 3) rfl (nI_1 _) (by decide) rfl (fun ls hl => ?_)
                refine lv_goto (tgt := 24) hx hb dX5_loadNewest_70 (by decide) ?_
                exact ih24 (u + 1) T2 _ _ _ (by omega) (by omega) h2 (fun a b ha hb => hq2 a b (by omega) hb) hf2 hG ls (lv_sub hl [1, 2, 3, 0] rfl)
              · -- 37: goes on
                have b37 := g_nle (a := 2) (b := half) c37 (by omega) (by omega)
                refine lv_aload_n hx hb dX5_loadNewest_40 rfl (lv_at hl 1 rfl) ?_
                refine lv_iload hx hb dX5_loadNewest_41 (lv_at hl 3 rfl) ?_
                refine lv_iload hx hb dX5_loadNewest_43 (lv_at hl 4 rfl) ?_
                refine lv_aload_n hx hb dX5_loadNewest_45 rfl (lv_at hl 0 rfl) ?_
                refine lv_iload_n hx hb dX5_loadNewest_46 rfl (lv_at hl 2 rfl) ?_
                refine lv_iload hx hb dX5_loadNewest_47 (lv_at hl 3 rfl) ?_
                refine lv_iload hx hb dX5_loadNewest_49 (lv_at hl 4 rfl) ?_
                refine g_si (va_runS (As := [.int (nI u), .int (nI half)]) (rest := [.int (nI (26 * 1)), .ref (ad 1), .int (nI half), .int (nI u), .ref (ad 7)]) hcx (c_X5_placeOf l u half) (va_cwS 2 hts gX5_loadNewest_X5_placeOf rfl rfl rfl (by decide +kernel) ⟨Nat.le_of_ble_eq_true rfl, Nat.le_of_ble_eq_true rfl⟩) (g_p0) rfl rfl hl.1 rfl (lv_room (Nat.le_of_ble_eq_true rfl)) dX5_loadNewest_51 ⟨Nat.le_refl _, Nat.le_refl _⟩) (fun r_51 hw_51 => ?_)
                subst hw_51
                refine lv_iadd hx hb dX5_loadNewest_54 ?_
                refine g_i (y := nI ((26 * 1) + (2 * u + 1 + half))) (nI_add (26 * 1) (2 * u + 1 + half)) ?_
                refine g_si (va_runV (As := [.int (nI ((26 * 1) + (2 * u + 1 + half)))]) (rest := [.int (nI half), .int (nI u), .ref (ad 7)]) hcx (c_X0_at l D ad tc I_34 L (nI ((26 * 1) + (2 * u + 1 + half)))) (cwV 1 hts gX5_loadNewest_X0_at rfl rfl rfl (by decide +kernel) ⟨Nat.le_of_ble_eq_true rfl, Nat.le_of_ble_eq_true rfl⟩) (g_pV hK hG 1 (by decide) gc_1 rfl) rfl rfl hl.1 rfl (lv_room (Nat.le_of_ble_eq_true rfl)) dX5_loadNewest_55 ⟨Nat.le_refl _, Nat.le_refl _⟩) (fun r_55 hw_55 => ?_)
                subst hw_55
                refine g_i (y := I_34 2 (26 * 1 + (2 * u + 1 + half))) (pu_at_in (by omega)) ?_
                refine g_cv (va_runV (As := [.int (nI u), .int (nI half), .int (I_34 2 (26 * 1 + (2 * u + 1 + half)))]) (rest := []) hcx (c_X2_unpack l D ad tc I_34 L T2 h2 u half (I_34 2 (26 * 1 + (2 * u + 1 + half))) (by omega) (by omega)) (cwV 3 hts gX5_loadNewest_X2_unpack rfl rfl rfl (by decide +kernel) ⟨Nat.le_of_ble_eq_true rfl, Nat.le_of_ble_eq_true rfl⟩) (g_pV hK hG 7 (by decide) gc_7 rfl) rfl rfl hl.1 rfl (lv_room (Nat.le_of_ble_eq_true rfl)) dX5_loadNewest_58 ⟨Nat.le_refl _, Nat.le_refl _⟩) hK hG (fun I_58 L_58 H locs hw_58 hG => ?_)
                obtain rfl := hw_58.2.2
                refine lv_iinc (v := nI (half + 1)) (lv' := [(5, .int (nI (half + 1))), (0, .ref (ad 1)), (1, .ref (ad 7)), (3, .int (nI (26 * 1))), (4, .int (nI u))]) hx hb dX5_loadNewest_61 hl (k := 4) rfl (nI_1 _) (by decide) rfl (fun ls hl => ?_)
                refine lv_goto (tgt := 34) hx hb dX5_loadNewest_64 (by decide) ?_
                exact ih34 (half + 1) _ _ _ _ (by omega) (by omega) hw_58.1 (fun a b ha hb => pu_un_ld (by omega) (hf2 2 (by omega)) hq2 ha hb) (fun a ha => (hw_58.2.1 a ha).trans (hf2 a ha)) hG ls (lv_sub hl [1, 2, 3, 4, 0] rfl)
          exact lp34 3 0 T1 _ _ _ (by omega) (by omega) h1 (fun a b ha hb => hq a b (by omega) hb) hf hG ls (lv_sub hl [1, 2, 3, 4, 0] rfl)
    exact lp24 13 0 T _ _ _ (by omega) (by omega) hT (fun _ _ h => absurd h (Nat.not_lt_zero _)) (fun _ _ => rfl) hG ls (lv_sub hl [3, 4, 1, 0] rfl)
  · -- 1: none
    refine lv_istore_n (lv' := [(2, .int (-1)), (0, .ref (ad 1)), (1, .ref (ad 7))]) hx hb dX5_loadNewest_4 rfl hl (by decide) rfl (fun ls hl => ?_)
    refine lv_iload_n hx hb dX5_loadNewest_5 rfl (lv_at hl 0 rfl) ?_
    refine lv_iconst (v := -1) hx hb dX5_loadNewest_6 (by decide) ?_
    refine lv_icmp_ne (tgt := 16) hx hb dX5_loadNewest_7 (by decide) (fun c7 => absurd (by decide) c7) (fun _ => ?_)
    refine lv_aload_n hx hb dX5_loadNewest_10 rfl (lv_at hl 2 rfl) ?_
    refine g_cv (va_runV (As := []) (rest := []) hcx (c_X2_clear l D ad tc I L T hT) (cwV 0 hts gX5_loadNewest_X2_clear rfl rfl rfl (by decide +kernel) ⟨Nat.le_of_ble_eq_true rfl, Nat.le_of_ble_eq_true rfl⟩) (g_pV hK hG 7 (by decide) gc_7 rfl) rfl rfl hl.1 rfl (lv_room (Nat.le_of_ble_eq_true rfl)) dX5_loadNewest_11 ⟨Nat.le_refl _, Nat.le_refl _⟩) hK hG (fun I_11 L_11 H locs hw_11 hG => ?_)
    obtain ⟨ha, hb2, rfl⟩ := hw_11
    refine lv_iconst (v := 0) hx hb dX5_loadNewest_14 (by decide) ?_
    exact g_ri hx hb hr hlocks hG ⟨by unfold pu_ldn; rw [if_pos hw_1], by unfold pu_ldT; rw [if_pos hw_1]; exact ha, hb2, rfl⟩ dX5_loadNewest_15

set_option maxHeartbeats 4000000 in
set_option maxRecDepth 100000 in
theorem c_J9_floorMod (l : Launch) (k : Nat) (hk : k < 2 ^ 31) : Met l yJ9_floorMod_7cf53 wsJ9_floorMod_7cf53 ({ frames := 0, cells := 0, slots := 0, locals := 0 } : Room) (va_Pc [.int (nI k), .int 40] (fun _ => True)) (vp_Si (fun r => nI (k % 40) = r)) 0 0 gN := by
  refine g_ofF (by decide +kernel) rfl (Nat.le_of_ble_eq_true rfl) ?_
  intro p e s m below meth c hcx hr hlocks ls hl
  obtain ⟨hx, hb, hml, hown, hts⟩ := id hcx
  have hl : lv_has ls 3 [(0, .int (nI k)), (1, .int 40)] := hl
  refine lv_iload_n hx hb dJ9_floorMod_7cf53_0 rfl (lv_at hl 0 rfl) ?_
  refine lv_iload_n hx hb dJ9_floorMod_7cf53_1 rfl (lv_at hl 1 rfl) ?_
  refine lv_irem hx hb dJ9_floorMod_7cf53_2 (by decide) ?_
  refine g_i (y := nI (k % 40)) (pk_rem (a := k) (d := 40) hk (by decide) (by decide)) ?_
  refine lv_istore_n (lv' := [(2, .int (nI (k % 40))), (0, .int (nI k)), (1, .int 40)]) hx hb dJ9_floorMod_7cf53_3 rfl hl (by decide) rfl (fun ls hl => ?_)
  refine lv_iload_n hx hb dJ9_floorMod_7cf53_4 rfl (lv_at hl 1 rfl) ?_
  refine lv_iload_n hx hb dJ9_floorMod_7cf53_5 rfl (lv_at hl 2 rfl) ?_
  refine lv_ixor hx hb dJ9_floorMod_7cf53_6 ?_
  refine lv_if_ge (tgt := 18) hx hb dJ9_floorMod_7cf53_7 (by decide) (fun c7 => ?_) (fun c7 => absurd (pu_xor40 hk) c7)
  refine lv_iload_n hx hb dJ9_floorMod_7cf53_18 rfl (lv_at hl 0 rfl) ?_
  exact g_riS hx hb hr hlocks rfl dJ9_floorMod_7cf53_19

set_option maxHeartbeats 4000000 in
set_option maxRecDepth 100000 in
theorem c_X4_startOf (l : Launch) (k : Nat) (hk : k < 2 ^ 31) : Met l yX4_startOf wsX4_startOf ({ frames := 1, cells := 0, slots := 0, locals := 22 } : Room) (va_Pc [.int (nI k)] (fun _ => True)) (vp_Si (fun r => nI (pu_at3 k) = r)) 0 0 gN := by
  refine g_of0 (by decide) rfl (Nat.le_of_ble_eq_true rfl) ?_
  intro p e s m below meth c hcx hr hlocks ls hl
  obtain ⟨hx, hb, hml, hown, hts⟩ := id hcx
  have hl : lv_has ls 1 [(0, .int (nI k))] := hl
  refine lv_bipush (v := 52) hx hb dX4_startOf_0 (by decide) ?_
  refine lv_iconst (v := 3) hx hb dX4_startOf_2 (by decide) ?_
  refine lv_iload_n hx hb dX4_startOf_3 rfl (lv_at hl 0 rfl) ?_
  refine lv_bipush (v := 40) hx hb dX4_startOf_4 (by decide) ?_
  refine g_si (va_runS (As := [.int (nI k), .int 40]) (rest := [.int 3, .int 52]) hcx (c_J9_floorMod l k (by omega)) (va_cwS 2 hts gX4_startOf_J9_floorMod_7cf53 rfl rfl rfl (by decide +kernel) ⟨Nat.le_of_ble_eq_true rfl, Nat.le_of_ble_eq_true rfl⟩) (g_p0) rfl rfl hl.1 rfl (lv_room (Nat.le_of_ble_eq_true rfl)) dX4_startOf_6 ⟨Nat.le_refl _, Nat.le_refl _⟩) (fun r_6 hw_6 => ?_)
  subst hw_6
  refine lv_imul hx hb dX4_startOf_9 ?_
  refine g_i (y := nI (3 * (k % 40))) (pk_mul 3 (k % 40)) ?_
  refine lv_iadd hx hb dX4_startOf_10 ?_
  refine g_i (y := nI (52 + (3 * (k % 40)))) (nI_add 52 (3 * (k % 40))) ?_
  exact g_riS hx hb hr hlocks rfl dX4_startOf_11

set_option maxHeartbeats 4000000 in
set_option maxRecDepth 100000 in
theorem c_X4_userIn (l : Launch) (k : Nat) (hk : k < 2 ^ 31) : Met l yX4_userIn wsX4_userIn ({ frames := 0, cells := 0, slots := 0, locals := 0 } : Room) (va_Pc [.int (nI k)] (fun _ => True)) (vp_Si (fun r => nI (k / 1000) = r)) 0 0 gN := by
  refine g_of0 (by decide) rfl (Nat.le_of_ble_eq_true rfl) ?_
  intro p e s m below meth c hcx hr hlocks ls hl
  obtain ⟨hx, hb, hml, hown, hts⟩ := id hcx
  have hl : lv_has ls 1 [(0, .int (nI k))] := hl
  refine lv_iload_n hx hb dX4_userIn_0 rfl (lv_at hl 0 rfl) ?_
  refine lv_sipush (v := 1000) hx hb dX4_userIn_1 (by decide) ?_
  refine lv_idiv hx hb dX4_userIn_4 (by decide) ?_
  refine g_i (y := nI (k / 1000)) (pk_div (a := k) (d := 1000) hk (by decide) (by decide)) ?_
  exact g_riS hx hb hr hlocks rfl dX4_userIn_5

set_option maxHeartbeats 4000000 in
set_option maxRecDepth 100000 in
theorem c_X4_itemIn (l : Launch) (k : Nat) (hk : k < 2 ^ 31) : Met l yX4_itemIn wsX4_itemIn ({ frames := 0, cells := 0, slots := 0, locals := 0 } : Room) (va_Pc [.int (nI k)] (fun _ => True)) (vp_Si (fun r => nI (k % 1000 / 10) = r)) 0 0 gN := by
  refine g_of0 (by decide) rfl (Nat.le_of_ble_eq_true rfl) ?_
  intro p e s m below meth c hcx hr hlocks ls hl
  obtain ⟨hx, hb, hml, hown, hts⟩ := id hcx
  have hl : lv_has ls 1 [(0, .int (nI k))] := hl
  refine lv_iload_n hx hb dX4_itemIn_0 rfl (lv_at hl 0 rfl) ?_
  refine lv_sipush (v := 1000) hx hb dX4_itemIn_1 (by decide) ?_
  refine lv_irem hx hb dX4_itemIn_4 (by decide) ?_
  refine g_i (y := nI (k % 1000)) (pk_rem (a := k) (d := 1000) hk (by decide) (by decide)) ?_
  refine lv_bipush (v := 10) hx hb dX4_itemIn_5 (by decide) ?_
  refine lv_idiv hx hb dX4_itemIn_7 (by decide) ?_
  refine g_i (y := nI (k % 1000 / 10)) (pk_div (a := k % 1000) (d := 10) (by omega) (by decide) (by decide)) ?_
  exact g_riS hx hb hr hlocks rfl dX4_itemIn_8

set_option maxHeartbeats 4000000 in
set_option maxRecDepth 100000 in
theorem c_X4_ratingIn (l : Launch) (k : Nat) (hk : k < 2 ^ 31) : Met l yX4_ratingIn wsX4_ratingIn ({ frames := 0, cells := 0, slots := 0, locals := 0 } : Room) (va_Pc [.int (nI k)] (fun _ => True)) (vp_Si (fun r => nI (k % 10) = r)) 0 0 gN := by
  refine g_of0 (by decide) rfl (Nat.le_of_ble_eq_true rfl) ?_
  intro p e s m below meth c hcx hr hlocks ls hl
  obtain ⟨hx, hb, hml, hown, hts⟩ := id hcx
  have hl : lv_has ls 1 [(0, .int (nI k))] := hl
  refine lv_iload_n hx hb dX4_ratingIn_0 rfl (lv_at hl 0 rfl) ?_
  refine lv_bipush (v := 10) hx hb dX4_ratingIn_1 (by decide) ?_
  refine lv_irem hx hb dX4_ratingIn_3 (by decide) ?_
  refine g_i (y := nI (k % 10)) (pk_rem (a := k) (d := 10) hk (by decide) (by decide)) ?_
  exact g_riS hx hb hr hlocks rfl dX4_ratingIn_4

set_option maxHeartbeats 4000000 in
set_option maxRecDepth 100000 in
theorem c_X4_namesRating (l : Launch) (D : va_G) (ad : Nat → Nat) (tc : Nat → ClassId) (I : Mi) (L : Ml) (x : Int32) : Met l yX4_namesRating wsX4_namesRating ({ frames := 1, cells := 0, slots := 0, locals := 20 } : Room) (va_Pc [.int x] (gPc D ad tc I L)) (vp_Si (fun r => (pu_nm x = true ∧ 1 = r) ∨ (pu_nm x = false ∧ 0 = r))) 0 0 gN := by
  refine g_of (by decide) rfl (Nat.le_of_ble_eq_true rfl) ?_
  intro p e s m below meth c hcx hr hlocks hK hG ls hl
  obtain ⟨hx, hb, hml, hown, hts⟩ := id hcx
  have hl : lv_has ls 1 [(0, .int x)] := hl
  refine lv_iload_n hx hb dX4_namesRating_0 rfl (lv_at hl 0 rfl) ?_
  refine lv_if_lt (tgt := 36) hx hb dX4_namesRating_1 (by decide) (fun c1 => ?_) (fun c1 => ?_)
  · -- 1: jumps
    refine lv_iconst (v := 0) hx hb dX4_namesRating_36 (by decide) ?_
    exact g_rzS hx hb hr hlocks (Or.inl rfl) (Or.inr ⟨pu_nm_neg c1, rfl⟩) dX4_namesRating_37
  · -- 1: goes on
    obtain ⟨k, hk, rfl⟩ := nI_of c1
    refine lv_iload_n hx hb dX4_namesRating_4 rfl (lv_at hl 0 rfl) ?_
    refine g_si (va_runS (As := [.int (nI k)]) (rest := []) hcx (c_X4_userIn l k (by omega)) (va_cwS 1 hts gX4_namesRating_X4_userIn rfl rfl rfl (by decide +kernel) ⟨Nat.le_of_ble_eq_true rfl, Nat.le_of_ble_eq_true rfl⟩) (g_p0) rfl rfl hl.1 rfl (lv_room (Nat.le_of_ble_eq_true rfl)) dX4_namesRating_5 ⟨Nat.le_refl _, Nat.le_refl _⟩) (fun r_5 hw_5 => ?_)
    subst hw_5
    refine g_si (va_runSN (As := [.int (nI (k / 1000))]) (rest := []) hcx (c_X6_isUser l (nI (k / 1000))) ⟨va_cnB 1 hts ggX4_namesRating_X6_isUser rfl rfl rfl hK.2.2.2.1 (hts (.initialized RX6) (by decide +kernel)) (by decide +kernel) ⟨Nat.le_of_ble_eq_true rfl, Nat.le_of_ble_eq_true rfl⟩, hts (.static yX6_isUser) (by decide +kernel), trivial⟩ (g_p0) rfl rfl hl.1 rfl (lv_room (Nat.le_of_ble_eq_true rfl)) dX4_namesRating_8 ⟨Nat.le_refl _, Nat.le_refl _⟩) (fun r_8 hw_8 => ?_)
    rcases hw_8 with ⟨hw_8, rfl⟩ | ⟨hw_8, rfl⟩
    · -- 8: yes
      refine lv_if_eq (tgt := 36) hx hb dX4_namesRating_11 (by decide) (fun c11 => absurd c11 (by decide)) (fun _ => ?_)
      refine lv_iload_n hx hb dX4_namesRating_14 rfl (lv_at hl 0 rfl) ?_
      refine g_si (va_runS (As := [.int (nI k)]) (rest := []) hcx (c_X4_itemIn l k (by omega)) (va_cwS 1 hts gX4_namesRating_X4_itemIn rfl rfl rfl (by decide +kernel) ⟨Nat.le_of_ble_eq_true rfl, Nat.le_of_ble_eq_true rfl⟩) (g_p0) rfl rfl hl.1 rfl (lv_room (Nat.le_of_ble_eq_true rfl)) dX4_namesRating_15 ⟨Nat.le_refl _, Nat.le_refl _⟩) (fun r_15 hw_15 => ?_)
      subst hw_15
      refine g_si (va_runSN (As := [.int (nI (k % 1000 / 10))]) (rest := []) hcx (c_X6_isItem l (nI (k % 1000 / 10))) ⟨va_cnB 1 hts ggX4_namesRating_X6_isItem rfl rfl rfl hK.2.2.2.2 (hts (.initialized RX6) (by decide +kernel)) (by decide +kernel) ⟨Nat.le_of_ble_eq_true rfl, Nat.le_of_ble_eq_true rfl⟩, hts (.static yX6_isItem) (by decide +kernel), trivial⟩ (g_p0) rfl rfl hl.1 rfl (lv_room (Nat.le_of_ble_eq_true rfl)) dX4_namesRating_18 ⟨Nat.le_refl _, Nat.le_refl _⟩) (fun r_18 hw_18 => ?_)
      rcases hw_18 with ⟨hw_18, rfl⟩ | ⟨hw_18, rfl⟩
      · -- 18: yes
        refine lv_if_eq (tgt := 36) hx hb dX4_namesRating_21 (by decide) (fun c21 => absurd c21 (by decide)) (fun _ => ?_)
        refine lv_iload_n hx hb dX4_namesRating_24 rfl (lv_at hl 0 rfl) ?_
        refine g_si (va_runS (As := [.int (nI k)]) (rest := []) hcx (c_X4_ratingIn l k (by omega)) (va_cwS 1 hts gX4_namesRating_X4_ratingIn rfl rfl rfl (by decide +kernel) ⟨Nat.le_of_ble_eq_true rfl, Nat.le_of_ble_eq_true rfl⟩) (g_p0) rfl rfl hl.1 rfl (lv_room (Nat.le_of_ble_eq_true rfl)) dX4_namesRating_25 ⟨Nat.le_refl _, Nat.le_refl _⟩) (fun r_25 hw_25 => ?_)
        subst hw_25
        refine lv_iconst (v := 5) hx hb dX4_namesRating_28 (by decide) ?_
        refine lv_icmp_gt (tgt := 36) hx hb dX4_namesRating_29 (by decide) (fun c29 => ?_) (fun c29 => ?_)
        · -- 29: jumps
          have b29 := g_lt (a := 5) (b := (k % 10)) c29 (by omega) (by omega)
          refine lv_iconst (v := 0) hx hb dX4_namesRating_36 (by decide) ?_
          exact g_rzS hx hb hr hlocks (Or.inl rfl) (Or.inr ⟨pu_bf (pu_nm_n hk) (fun q => by omega), rfl⟩) dX4_namesRating_37
        · -- 29: goes on
          have b29 := g_nlt (a := 5) (b := (k % 10)) c29 (by omega) (by omega)
          refine lv_iconst (v := 1) hx hb dX4_namesRating_32 (by decide) ?_
          refine lv_goto (tgt := 37) hx hb dX4_namesRating_33 (by decide) ?_
          exact g_rzS hx hb hr hlocks (Or.inr rfl) (Or.inl ⟨(pu_nm_n hk).mpr ⟨pu_gRn hw_8 (by omega) (by omega), pu_gRn hw_18 (by omega) (by omega), b29⟩, rfl⟩) dX4_namesRating_37
      · -- 18: no
        refine lv_if_eq (tgt := 36) hx hb dX4_namesRating_21 (by decide) (fun _ => ?_) (fun c21 => absurd (by decide) c21)
        refine lv_iconst (v := 0) hx hb dX4_namesRating_36 (by decide) ?_
        exact g_rzS hx hb hr hlocks (Or.inl rfl) (Or.inr ⟨pu_bf (pu_nm_n hk) (fun q => hw_18 (gR_n q.2.1)), rfl⟩) dX4_namesRating_37
    · -- 8: no
      refine lv_if_eq (tgt := 36) hx hb dX4_namesRating_11 (by decide) (fun _ => ?_) (fun c11 => absurd (by decide) c11)
      refine lv_iconst (v := 0) hx hb dX4_namesRating_36 (by decide) ?_
      exact g_rzS hx hb hr hlocks (Or.inl rfl) (Or.inr ⟨pu_bf (pu_nm_n hk) (fun q => hw_8 (gR_n q.1)), rfl⟩) dX4_namesRating_37

set_option maxHeartbeats 4000000 in
set_option maxRecDepth 100000 in
theorem c_X4_holds (l : Launch) (D : va_G) (ad : Nat → Nat) (tc : Nat → ClassId) (I : Mi) (L : Ml) (k : Nat) (hk : k < 2 ^ 31) : Met l yX4_holds wsX4_holds ({ frames := 3, cells := 0, slots := 0, locals := 70 } : Room) (va_Pc [.ref (ad 1), .int (nI k)] (gPc D ad tc I L)) (vp_Si (fun r => (pu_hd (I 2) k = true ∧ 1 = r) ∨ (pu_hd (I 2) k = false ∧ 0 = r))) 0 0 gN := by
  refine g_of (by decide) rfl (Nat.le_of_ble_eq_true rfl) ?_
  intro p e s m below meth c hcx hr hlocks hK hG ls hl
  obtain ⟨hx, hb, hml, hown, hts⟩ := id hcx
  have hl : lv_has ls 3 [(0, .ref (ad 1)), (1, .int (nI k))] := hl
  have h3 := pu_at3_lt k
  refine lv_iload_n hx hb dX4_holds_0 rfl (lv_at hl 1 rfl) ?_
  refine g_si (va_runS (As := [.int (nI k)]) (rest := []) hcx (c_X4_startOf l k (by omega)) (va_cwS 1 hts gX4_holds_X4_startOf rfl rfl rfl (by decide +kernel) ⟨Nat.le_of_ble_eq_true rfl, Nat.le_of_ble_eq_true rfl⟩) (g_p0) rfl rfl hl.1 rfl (lv_room (Nat.le_of_ble_eq_true rfl)) dX4_holds_1 ⟨Nat.le_refl _, Nat.le_refl _⟩) (fun r_1 hw_1 => ?_)
  subst hw_1
  refine lv_istore_n (lv' := [(2, .int (nI (pu_at3 k))), (0, .ref (ad 1)), (1, .int (nI k))]) hx hb dX4_holds_4 rfl hl (by decide) rfl (fun ls hl => ?_)
  refine lv_aload_n hx hb dX4_holds_5 rfl (lv_at hl 1 rfl) ?_
  refine lv_iload_n hx hb dX4_holds_6 rfl (lv_at hl 0 rfl) ?_
  refine g_si (va_runV (As := [.int (nI (pu_at3 k))]) (rest := []) hcx (c_X0_at l D ad tc I L (nI (pu_at3 k))) (cwV 1 hts gX4_holds_X0_at rfl rfl rfl (by decide +kernel) ⟨Nat.le_of_ble_eq_true rfl, Nat.le_of_ble_eq_true rfl⟩) (g_pV hK hG 1 (by decide) gc_1 rfl) rfl rfl hl.1 rfl (lv_room (Nat.le_of_ble_eq_true rfl)) dX4_holds_7 ⟨Nat.le_refl _, Nat.le_refl _⟩) (fun r_7 hw_7 => ?_)
  subst hw_7
  refine g_i (y := I 2 (pu_at3 k)) (pu_at_in (by omega)) ?_
  refine lv_iload_n hx hb dX4_holds_10 rfl (lv_at hl 2 rfl) ?_
  refine lv_icmp_ne (tgt := 41) hx hb dX4_holds_11 (by decide) (fun c11 => ?_) (fun c11 => ?_)
  · -- 11: jumps
    refine lv_iconst (v := 0) hx hb dX4_holds_41 (by decide) ?_
    exact g_rzS hx hb hr hlocks (Or.inl rfl) (Or.inr ⟨pu_hd_f (Or.inl c11), rfl⟩) dX4_holds_42
  · -- 11: goes on
    refine lv_aload_n hx hb dX4_holds_14 rfl (lv_at hl 1 rfl) ?_
    refine lv_iload_n hx hb dX4_holds_15 rfl (lv_at hl 0 rfl) ?_
    refine lv_iconst (v := 2) hx hb dX4_holds_16 (by decide) ?_
    refine lv_iconst (v := 2) hx hb dX4_holds_17 (by decide) ?_
    refine g_si (va_runV (As := [.int (nI (pu_at3 k)), .int 2, .int 2]) (rest := []) hcx (c_X0_isCheckRight l D ad tc I L (pu_at3 k) 2 2 (by omega)) (cwV 3 hts gX4_holds_X0_isCheckRight rfl rfl rfl (by decide +kernel) ⟨Nat.le_of_ble_eq_true rfl, Nat.le_of_ble_eq_true rfl⟩) (g_pV hK hG 1 (by decide) gc_1 rfl) rfl rfl hl.1 rfl (lv_room (Nat.le_of_ble_eq_true rfl)) dX4_holds_18 ⟨Nat.le_refl _, Nat.le_refl _⟩) (fun r_18 hw_18 => ?_)
    rcases hw_18 with ⟨hw_18, rfl⟩ | ⟨hw_18, rfl⟩
    · -- 18: yes
      refine lv_if_eq (tgt := 41) hx hb dX4_holds_21 (by decide) (fun c21 => absurd c21 (by decide)) (fun _ => ?_)
      refine lv_aload_n hx hb dX4_holds_24 rfl (lv_at hl 1 rfl) ?_
      refine lv_iload_n hx hb dX4_holds_25 rfl (lv_at hl 0 rfl) ?_
      refine lv_iconst (v := 1) hx hb dX4_holds_26 (by decide) ?_
      refine lv_iadd hx hb dX4_holds_27 ?_
      refine g_i (y := nI ((pu_at3 k) + 1)) (nI_add (pu_at3 k) 1) ?_
      refine g_si (va_runV (As := [.int (nI ((pu_at3 k) + 1))]) (rest := []) hcx (c_X0_at l D ad tc I L (nI ((pu_at3 k) + 1))) (cwV 1 hts gX4_holds_X0_at rfl rfl rfl (by decide +kernel) ⟨Nat.le_of_ble_eq_true rfl, Nat.le_of_ble_eq_true rfl⟩) (g_pV hK hG 1 (by decide) gc_1 rfl) rfl rfl hl.1 rfl (lv_room (Nat.le_of_ble_eq_true rfl)) dX4_holds_28 ⟨Nat.le_refl _, Nat.le_refl _⟩) (fun r_28 hw_28 => ?_)
      subst hw_28
      refine g_i (y := I 2 (pu_at3 k + 1)) (pu_at_in (by omega)) ?_
      refine g_si (va_runS (As := [.int (I 2 (pu_at3 k + 1))]) (rest := []) hcx (c_X4_namesRating l D ad tc I L (I 2 (pu_at3 k + 1))) (va_cwS 1 hts gX4_holds_X4_namesRating rfl rfl rfl (by decide +kernel) ⟨Nat.le_of_ble_eq_true rfl, Nat.le_of_ble_eq_true rfl⟩) (g_pS hK hG) rfl rfl hl.1 rfl (lv_room (Nat.le_of_ble_eq_true rfl)) dX4_holds_31 ⟨Nat.le_refl _, Nat.le_refl _⟩) (fun r_31 hw_31 => ?_)
      rcases hw_31 with ⟨hw_31, rfl⟩ | ⟨hw_31, rfl⟩
      · -- 31: yes
        refine lv_if_eq (tgt := 41) hx hb dX4_holds_34 (by decide) (fun c34 => absurd c34 (by decide)) (fun _ => ?_)
        refine lv_iconst (v := 1) hx hb dX4_holds_37 (by decide) ?_
        refine lv_goto (tgt := 42) hx hb dX4_holds_38 (by decide) ?_
        exact g_rzS hx hb hr hlocks (Or.inr rfl) (Or.inl ⟨pu_hd_t c11 hw_18 hw_31, rfl⟩) dX4_holds_42
      · -- 31: no
        refine lv_if_eq (tgt := 41) hx hb dX4_holds_34 (by decide) (fun _ => ?_) (fun c34 => absurd (by decide) c34)
        refine lv_iconst (v := 0) hx hb dX4_holds_41 (by decide) ?_
        exact g_rzS hx hb hr hlocks (Or.inl rfl) (Or.inr ⟨pu_hd_f (Or.inr (Or.inr hw_31)), rfl⟩) dX4_holds_42
    · -- 18: no
      refine lv_if_eq (tgt := 41) hx hb dX4_holds_21 (by decide) (fun _ => ?_) (fun c21 => absurd (by decide) c21)
      refine lv_iconst (v := 0) hx hb dX4_holds_41 (by decide) ?_
      exact g_rzS hx hb hr hlocks (Or.inl rfl) (Or.inr ⟨pu_hd_f (Or.inr (Or.inl hw_18)), rfl⟩) dX4_holds_42

set_option maxHeartbeats 4000000 in
set_option maxRecDepth 100000 in
theorem c_X4_repeat (l : Launch) (D : va_G) (ad : Nat → Nat) (tc : Nat → ClassId) (I : Mi) (L : Ml) (T : Tb) (hT : pN I T) (k x : Nat) (hk : k < 2 ^ 31) (hx0 : x < 2 ^ 31) (hx1 : I 2 (pu_at3 k + 1) = nI x) (hu : x / 1000 < 12) (hi : x % 1000 / 10 < 16) (hq : x % 10 ≤ 5) : Met l yX4_repeat wsX4_repeat ({ frames := 2, cells := 0, slots := 0, locals := 42 } : Room) (va_Pc [.ref (ad 1), .int (nI k), .ref (ad 7)] (gPc D ad tc I L)) (gQv D ad tc (fun I1 L1 => pN I1 (pu_T T (x / 1000) (x % 1000 / 10) (x % 10)) ∧ (∀ a, a < 10 ∨ 38 ≤ a → I1 a = I a) ∧ L = L1)) 0 0 (gA ad) := by
  refine g_of (by decide) rfl (Nat.le_of_ble_eq_true rfl) ?_
  intro p e s m below meth c hcx hr hlocks hK hG ls hl
  obtain ⟨hx, hb, hml, hown, hts⟩ := id hcx
  have hl : lv_has ls 4 [(0, .ref (ad 1)), (1, .int (nI k)), (2, .ref (ad 7))] := hl
  have h3 := pu_at3_lt k
  refine lv_aload_n hx hb dX4_repeat_0 rfl (lv_at hl 0 rfl) ?_
  refine lv_iload_n hx hb dX4_repeat_1 rfl (lv_at hl 1 rfl) ?_
  refine g_si (va_runS (As := [.int (nI k)]) (rest := [.ref (ad 1)]) hcx (c_X4_startOf l k (by omega)) (va_cwS 1 hts gX4_repeat_X4_startOf rfl rfl rfl (by decide +kernel) ⟨Nat.le_of_ble_eq_true rfl, Nat.le_of_ble_eq_true rfl⟩) (g_p0) rfl rfl hl.1 rfl (lv_room (Nat.le_of_ble_eq_true rfl)) dX4_repeat_2 ⟨Nat.le_refl _, Nat.le_refl _⟩) (fun r_2 hw_2 => ?_)
  subst hw_2
  refine lv_iconst (v := 1) hx hb dX4_repeat_5 (by decide) ?_
  refine lv_iadd hx hb dX4_repeat_6 ?_
  refine g_i (y := nI ((pu_at3 k) + 1)) (nI_add (pu_at3 k) 1) ?_
  refine g_si (va_runV (As := [.int (nI ((pu_at3 k) + 1))]) (rest := []) hcx (c_X0_at l D ad tc I L (nI ((pu_at3 k) + 1))) (cwV 1 hts gX4_repeat_X0_at rfl rfl rfl (by decide +kernel) ⟨Nat.le_of_ble_eq_true rfl, Nat.le_of_ble_eq_true rfl⟩) (g_pV hK hG 1 (by decide) gc_1 rfl) rfl rfl hl.1 rfl (lv_room (Nat.le_of_ble_eq_true rfl)) dX4_repeat_7 ⟨Nat.le_refl _, Nat.le_refl _⟩) (fun r_7 hw_7 => ?_)
  subst hw_7
  refine g_i (y := nI x) ((pu_at_in (by omega)).trans hx1) ?_
  refine lv_istore_n (lv' := [(3, .int (nI x)), (0, .ref (ad 1)), (1, .int (nI k)), (2, .ref (ad 7))]) hx hb dX4_repeat_10 rfl hl (by decide) rfl (fun ls hl => ?_)
  refine lv_aload_n hx hb dX4_repeat_11 rfl (lv_at hl 3 rfl) ?_
  refine lv_iload_n hx hb dX4_repeat_12 rfl (lv_at hl 0 rfl) ?_
  refine g_si (va_runS (As := [.int (nI x)]) (rest := [.ref (ad 7)]) hcx (c_X4_userIn l x (by omega)) (va_cwS 1 hts gX4_repeat_X4_userIn rfl rfl rfl (by decide +kernel) ⟨Nat.le_of_ble_eq_true rfl, Nat.le_of_ble_eq_true rfl⟩) (g_p0) rfl rfl hl.1 rfl (lv_room (Nat.le_of_ble_eq_true rfl)) dX4_repeat_13 ⟨Nat.le_refl _, Nat.le_refl _⟩) (fun r_13 hw_13 => ?_)
  subst hw_13
  refine lv_iload_n hx hb dX4_repeat_16 rfl (lv_at hl 0 rfl) ?_
  refine g_si (va_runS (As := [.int (nI x)]) (rest := [.int (nI (x / 1000)), .ref (ad 7)]) hcx (c_X4_itemIn l x (by omega)) (va_cwS 1 hts gX4_repeat_X4_itemIn rfl rfl rfl (by decide +kernel) ⟨Nat.le_of_ble_eq_true rfl, Nat.le_of_ble_eq_true rfl⟩) (g_p0) rfl rfl hl.1 rfl (lv_room (Nat.le_of_ble_eq_true rfl)) dX4_repeat_17 ⟨Nat.le_refl _, Nat.le_refl _⟩) (fun r_17 hw_17 => ?_)
  subst hw_17
  refine lv_iload_n hx hb dX4_repeat_20 rfl (lv_at hl 0 rfl) ?_
  refine g_si (va_runS (As := [.int (nI x)]) (rest := [.int (nI (x % 1000 / 10)), .int (nI (x / 1000)), .ref (ad 7)]) hcx (c_X4_ratingIn l x (by omega)) (va_cwS 1 hts gX4_repeat_X4_ratingIn rfl rfl rfl (by decide +kernel) ⟨Nat.le_of_ble_eq_true rfl, Nat.le_of_ble_eq_true rfl⟩) (g_p0) rfl rfl hl.1 rfl (lv_room (Nat.le_of_ble_eq_true rfl)) dX4_repeat_21 ⟨Nat.le_refl _, Nat.le_refl _⟩) (fun r_21 hw_21 => ?_)
  subst hw_21
  refine g_cv (va_runV (As := [.int (nI (x / 1000)), .int (nI (x % 1000 / 10)), .int (nI (x % 10))]) (rest := []) hcx (c_X2_set l D ad tc I L T hT (x / 1000) (x % 1000 / 10) (x % 10) (by omega) (by omega) (by omega)) (cwV 3 hts gX4_repeat_X2_set rfl rfl rfl (by decide +kernel) ⟨Nat.le_of_ble_eq_true rfl, Nat.le_of_ble_eq_true rfl⟩) (g_pV hK hG 7 (by decide) gc_7 rfl) rfl rfl hl.1 rfl (lv_room (Nat.le_of_ble_eq_true rfl)) dX4_repeat_24 ⟨Nat.le_refl _, Nat.le_refl _⟩) hK hG (fun I_24 L_24 H locs hw_24 hG => ?_)
  exact g_rv hx hb hr hlocks hG hw_24 dX4_repeat_27

set_option maxHeartbeats 4000000 in
set_option maxRecDepth 100000 in
theorem c_X4_writeRecord (l : Launch) (D : va_G) (ad : Nat → Nat) (tc : Nat → ClassId) (I : Mi) (L : Ml) (k u i r : Nat) (hk : k < 2 ^ 31) (h1 : I 1 1 = 1) : Met l yX4_writeRecord wsX4_writeRecord ({ frames := 4, cells := 0, slots := 0, locals := 88 } : Room) (va_Pc [.ref (ad 5), .ref (ad 1), .int (nI k), .int (nI u), .int (nI i), .int (nI r)] (gPc D ad tc I L)) (gQi D ad tc (fun z I1 L1 => pu_puts (dkN I) (pu_at3 k) (pu_rec k (1000 * u + 10 * i + r)) 3 = dkN I1 ∧ I1 1 1 = z ∧ (z = 0 ∨ z = 1) ∧ (∀ a, a ≠ 1 → a ≠ 2 → a ≠ 6 → I1 a = I a) ∧ L = L1)) 0 0 (gA ad) := by
  refine g_of (by decide) rfl (Nat.le_of_ble_eq_true rfl) ?_
  intro p e s m below meth c hcx hr hlocks hK hG ls hl
  obtain ⟨hx, hb, hml, hown, hts⟩ := id hcx
  have hl : lv_has ls 6 [(0, .ref (ad 5)), (1, .ref (ad 1)), (2, .int (nI k)), (3, .int (nI u)), (4, .int (nI i)), (5, .int (nI r))] := hl
  have h3 := pu_at3_lt k
  refine lv_aload_n hx hb dX4_writeRecord_0 rfl (lv_at hl 0 rfl) ?_
  refine g_get (v := .ref (ad 6)) hx hb hts (by decide +kernel) hown hK hG 5 (by decide) gc_5 rfl 0 (by decide) (hts (.fieldLink RX4 13 "NeighbourScores$Records" "row" "[I") (by decide +kernel)) (fun _ h9 => h9) rfl dX4_writeRecord_1 ?_
  refine lv_iconst (v := 0) hx hb dX4_writeRecord_4 (by decide) ?_
  refine lv_iload_n hx hb dX4_writeRecord_5 rfl (lv_at hl 2 rfl) ?_
  refine g_iast hx hb hK hG 6 (by decide) (fun _ => gc_6) 0 rfl (by omega) (by omega) dX4_writeRecord_6 (fun I_6 H locs hU_6 hG => ?_)
  refine lv_aload_n hx hb dX4_writeRecord_7 rfl (lv_at hl 0 rfl) ?_
  refine g_get (v := .ref (ad 6)) hx hb hts (by decide +kernel) hown hK hG 5 (by decide) gc_5 rfl 0 (by decide) (hts (.fieldLink RX4 13 "NeighbourScores$Records" "row" "[I") (by decide +kernel)) (fun _ h9 => h9) rfl dX4_writeRecord_8 ?_
  refine lv_iconst (v := 1) hx hb dX4_writeRecord_11 (by decide) ?_
  refine lv_sipush (v := 1000) hx hb dX4_writeRecord_12 (by decide) ?_
  refine lv_iload_n hx hb dX4_writeRecord_15 rfl (lv_at hl 3 rfl) ?_
  refine lv_imul hx hb dX4_writeRecord_16 ?_
  refine g_i (y := nI (1000 * u)) (pk_mul 1000 u) ?_
  refine lv_bipush (v := 10) hx hb dX4_writeRecord_17 (by decide) ?_
  refine lv_iload hx hb dX4_writeRecord_19 (lv_at hl 4 rfl) ?_
  refine lv_imul hx hb dX4_writeRecord_21 ?_
  refine g_i (y := nI (10 * i)) (pk_mul 10 i) ?_
  refine lv_iadd hx hb dX4_writeRecord_22 ?_
  refine g_i (y := nI ((1000 * u) + (10 * i))) (nI_add (1000 * u) (10 * i)) ?_
  refine lv_iload hx hb dX4_writeRecord_23 (lv_at hl 5 rfl) ?_
  refine lv_iadd hx hb dX4_writeRecord_25 ?_
  refine g_i (y := nI (((1000 * u) + (10 * i)) + r)) (nI_add ((1000 * u) + (10 * i)) r) ?_
  refine g_iast hx hb hK hG 6 (by decide) (fun _ => gc_6) 1 rfl (by omega) (by omega) dX4_writeRecord_26 (fun I_26 H locs hU_26 hG => ?_)
  refine lv_aload_n hx hb dX4_writeRecord_27 rfl (lv_at hl 0 rfl) ?_
  refine g_get (v := .ref (ad 6)) hx hb hts (by decide +kernel) hown hK hG 5 (by decide) gc_5 rfl 0 (by decide) (hts (.fieldLink RX4 13 "NeighbourScores$Records" "row" "[I") (by decide +kernel)) (fun _ h9 => h9) rfl dX4_writeRecord_28 ?_
  refine lv_iconst (v := 2) hx hb dX4_writeRecord_31 (by decide) ?_
  refine lv_aload_n hx hb dX4_writeRecord_32 rfl (lv_at hl 0 rfl) ?_
  refine g_get (v := .ref (ad 6)) hx hb hts (by decide +kernel) hown hK hG 5 (by decide) gc_5 rfl 0 (by decide) (hts (.fieldLink RX4 13 "NeighbourScores$Records" "row" "[I") (by decide +kernel)) (fun _ h9 => h9) rfl dX4_writeRecord_33 ?_
  refine lv_iconst (v := 0) hx hb dX4_writeRecord_36 (by decide) ?_
  refine lv_iconst (v := 2) hx hb dX4_writeRecord_37 (by decide) ?_
  refine lv_iconst (v := 2) hx hb dX4_writeRecord_38 (by decide) ?_
  refine g_si (va_runS (As := [.ref (ad 6), .int 0, .int 2, .int 2]) (rest := [.int 2, .ref (ad 6)]) hcx (c_X0_checkOf l (ad 6) (tc 0) 3 (I_26 6) 0 2 2 (by omega) (by decide)) (va_cwS 4 hts gX4_writeRecord_X0_checkOf rfl rfl rfl (by decide +kernel) ⟨Nat.le_of_ble_eq_true rfl, Nat.le_of_ble_eq_true rfl⟩) (g_H hK hG (by decide) gc_6) rfl rfl hl.1 rfl (lv_room (Nat.le_of_ble_eq_true rfl)) dX4_writeRecord_39 ⟨Nat.le_refl _, Nat.le_refl _⟩) (fun r_39 hw_39 => ?_)
  subst hw_39
  refine g_iast hx hb hK hG 6 (by decide) (fun _ => gc_6) 2 rfl (by omega) (by omega) dX4_writeRecord_42 (fun I_42 H locs hU_42 hG => ?_)
  have hd42 : dkN I_42 = dkN I := by unfold dkN; rw [hU_42.2 2 (by decide), hU_26.2 2 (by decide), hU_6.2 2 (by decide), hU_42.2 1 (by decide), hU_26.2 1 (by decide), hU_6.2 1 (by decide)]
  have h52 : I_42 1 1 = 1 := by rw [hU_42.2 1 (by decide), hU_26.2 1 (by decide), hU_6.2 1 (by decide)]; exact h1
  have hrow : ∀ j, j < 3 → I_42 6 j = pu_rec k (1000 * u + 10 * i + r) j := by
    intro j hj
    rcases (show j = 0 ∨ j = 1 ∨ j = 2 by omega) with rfl | rfl | rfl
    · rw [gU_ne hU_42 (by decide), gU_ne hU_26 (by decide), gU_eq hU_6]; rfl
    · rw [gU_ne hU_42 (by decide), gU_eq hU_26]; rfl
    · rw [gU_eq hU_42]
      show pu_mix (pu_mix 2 (I_26 6 (0 + 0))) (I_26 6 (0 + 1)) ||| 1 = _
      rw [show I_26 6 (0 + 0) = nI k by rw [gU_ne hU_26 (by decide), gU_eq hU_6], show I_26 6 (0 + 1) = nI (1000 * u + 10 * i + r) from gU_eq hU_26]; rfl
  refine lv_aload_n hx hb dX4_writeRecord_43 rfl (lv_at hl 1 rfl) ?_
  refine lv_iload_n hx hb dX4_writeRecord_44 rfl (lv_at hl 2 rfl) ?_
  refine g_si (va_runS (As := [.int (nI k)]) (rest := [.ref (ad 1)]) hcx (c_X4_startOf l k (by omega)) (va_cwS 1 hts gX4_writeRecord_X4_startOf rfl rfl rfl (by decide +kernel) ⟨Nat.le_of_ble_eq_true rfl, Nat.le_of_ble_eq_true rfl⟩) (g_p0) rfl rfl hl.1 rfl (lv_room (Nat.le_of_ble_eq_true rfl)) dX4_writeRecord_45 ⟨Nat.le_refl _, Nat.le_refl _⟩) (fun r_45 hw_45 => ?_)
  subst hw_45
  refine lv_aload_n hx hb dX4_writeRecord_48 rfl (lv_at hl 0 rfl) ?_
  refine g_get (v := .ref (ad 6)) hx hb hts (by decide +kernel) hown hK hG 5 (by decide) gc_5 rfl 0 (by decide) (hts (.fieldLink RX4 13 "NeighbourScores$Records" "row" "[I") (by decide +kernel)) (fun _ h9 => h9) rfl dX4_writeRecord_49 ?_
  refine g_ci (va_runV (As := [.int (nI (pu_at3 k)), .ref (ad 6)]) (rest := []) hcx (c_X0_writeRow l D ad tc I_42 L (pu_at3 k) 6 3 (by decide) (by decide) (by decide) (fun _ _ => gc_6) (by omega) h52) (cwV 2 hts gX4_writeRecord_X0_writeRow rfl rfl rfl (by decide +kernel) ⟨Nat.le_of_ble_eq_true rfl, Nat.le_of_ble_eq_true rfl⟩) (g_pV hK hG 1 (by decide) gc_1 rfl) rfl rfl hl.1 rfl (lv_room (Nat.le_of_ble_eq_true rfl)) dX4_writeRecord_52 ⟨Nat.le_refl _, Nat.le_refl _⟩) hK hG (fun r_52 I_52 L_52 H locs hw_52 hG => ?_)
  obtain ⟨ha, hb2, hz, hc, rfl⟩ := hw_52
  exact g_rz hx hb hr hlocks hz hG ⟨by rw [← hd42, ← ha]; exact pu_puts_congr (fun j hj => (hrow j hj).symm), hb2, hz, fun a q1 q2 q6 => (hc a q1 q2).trans ((hU_42.2 a q6).trans ((hU_26.2 a q6).trans (hU_6.2 a q6))), rfl⟩ dX4_writeRecord_55
