set_option maxHeartbeats 4000000 in
set_option maxRecDepth 100000 in
theorem c_X2_at (l : Launch) (D : va_G) (ad : Nat → Nat) (tc : Nat → ClassId) (I : Mi) (L : Ml) (T : Tb) (hT : pN I T) (u i : Nat) (hu : u < 12) (hi : i < 16)  : Met l yX2_at wsX2_at ({ frames := 0, cells := 0, slots := 0, locals := 0 } : Room) (va_Pc [.ref (ad 7), .int (nI u), .int (nI i)] (gPc D ad tc I L)) (vp_Si (fun r => nI (T u i) = r)) 0 0 gN := by
  refine g_of (by decide) rfl (Nat.le_of_ble_eq_true rfl) ?_
  intro p e s m below meth c hcx hr hlocks hK hG ls hl
  obtain ⟨hx, hb, hml, hown, hts⟩ := id hcx
  have hl : lv_has ls 3 [(0, .ref (ad 7)), (1, .int (nI u)), (2, .int (nI i))] := hl
  refine lv_aload_n hx hb dX2_at_0 rfl (lv_at hl 0 rfl) ?_
  refine g_get (v := .ref (ad 8)) hx hb hts (by decide +kernel) hown hK hG 7 (by decide) gc_7 rfl 0 (by decide) (hts (.fieldLink RX2 11 "NeighbourScores$Ratings" "table" "[[I") (by decide +kernel)) (fun _ h9 => h9) rfl dX2_at_1 ?_
  refine lv_iload_n hx hb dX2_at_4 rfl (lv_at hl 1 rfl) ?_
  refine g_aald hx hb hK hG 8 3 (by decide) gc_8 rfl rfl u rfl (by omega) (by decide) dX2_at_5 ?_
  refine lv_iload_n hx hb dX2_at_6 rfl (lv_at hl 2 rfl) ?_
  refine g_iald hx hb hK hG (10 + u) (by omega) (gc_tab (u := u) (by omega)) i rfl (by omega) (by omega) dX2_at_7 ?_
  refine g_i (y := nI (T u i)) (hT.2.1 u i hu hi) ?_
  exact g_riS hx hb hr hlocks rfl dX2_at_8

set_option maxHeartbeats 4000000 in
set_option maxRecDepth 100000 in
theorem c_X2_set (l : Launch) (D : va_G) (ad : Nat → Nat) (tc : Nat → ClassId) (I : Mi) (L : Ml) (T : Tb) (hT : pN I T) (u i r : Nat) (hu : u < 12) (hi : i < 16) (hr5 : r ≤ 5) : Met l yX2_set wsX2_set ({ frames := 0, cells := 0, slots := 0, locals := 0 } : Room) (va_Pc [.ref (ad 7), .int (nI u), .int (nI i), .int (nI r)] (gPc D ad tc I L)) (gQv D ad tc (fun I1 L1 => pN I1 (pu_T T u i r) ∧ (∀ a, a < 10 ∨ 38 ≤ a → I1 a = I a) ∧ L = L1)) 0 0 (gA ad) := by
  refine g_of (by decide) rfl (Nat.le_of_ble_eq_true rfl) ?_
  intro p e s m below meth c hcx hr hlocks hK hG ls hl
  obtain ⟨hx, hb, hml, hown, hts⟩ := id hcx
  have hl : lv_has ls 7 [(0, .ref (ad 7)), (1, .int (nI u)), (2, .int (nI i)), (3, .int (nI r))] := hl
  refine lv_aload_n hx hb dX2_set_0 rfl (lv_at hl 0 rfl) ?_
  refine g_get (v := .ref (ad 8)) hx hb hts (by decide +kernel) hown hK hG 7 (by decide) gc_7 rfl 0 (by decide) (hts (.fieldLink RX2 11 "NeighbourScores$Ratings" "table" "[[I") (by decide +kernel)) (fun _ h9 => h9) rfl dX2_set_1 ?_
  refine lv_iload_n hx hb dX2_set_4 rfl (lv_at hl 1 rfl) ?_
  refine g_aald hx hb hK hG 8 3 (by decide) gc_8 rfl rfl u rfl (by omega) (by decide) dX2_set_5 ?_
  refine lv_astore (lv' := [(4, .ref (ad (10 + u))), (0, .ref (ad 7)), (1, .int (nI u)), (2, .int (nI i)), (3, .int (nI r))]) hx hb dX2_set_6 hl (by decide) rfl (fun ls hl => ?_)
  refine lv_aload hx hb dX2_set_8 (lv_at hl 0 rfl) ?_
  refine lv_iload_n hx hb dX2_set_10 rfl (lv_at hl 3 rfl) ?_
  refine g_iald hx hb hK hG (10 + u) (by omega) (gc_tab (u := u) (by omega)) i rfl (by omega) (by omega) dX2_set_11 ?_
  refine g_i (y := nI (T u i)) (hT.2.1 u i hu hi) ?_
  refine lv_istore (lv' := [(5, .int (nI (T u i))), (4, .ref (ad (10 + u))), (0, .ref (ad 7)), (1, .int (nI u)), (2, .int (nI i)), (3, .int (nI r))]) hx hb dX2_set_12 hl (by decide) rfl (fun ls hl => ?_)
  refine lv_iconst (v := 0) hx hb dX2_set_14 (by decide) ?_
  refine lv_istore (lv' := [(6, .int 0), (5, .int (nI (T u i))), (4, .ref (ad (10 + u))), (0, .ref (ad 7)), (1, .int (nI u)), (2, .int (nI i)), (3, .int (nI r))]) hx hb dX2_set_15 hl (by decide) rfl (fun ls hl => ?_)
  have lp17 : ∀ (n : Nat) (k : Nat) (I_17 : Mi) (H : Heap) (locs : List Loc), (k ≤ 16) → (17 ≤ k + n) → (pu_dinv T (pu_T T u i r) i k I_17) → (∀ a, a < 22 ∨ 38 ≤ a → I_17 a = I a) → gG D ad tc (gA ad) s.heap I_17 L H locs → ∀ ls : Array Slot, lv_has ls 7 [(0, .ref (ad 7)), (1, .int (nI u)), (2, .int (nI i)), (3, .int (nI r)), (4, .ref (ad (10 + u))), (5, .int (nI (T u i))), (6, .int (nI k))] → W p l e (headSpec wsX2_set ({ frames := 0, cells := 0, slots := 0, locals := 0 } : Room)).room s m ([.ref (ad 7), .int (nI u), .int (nI i), .int (nI r)] : List Value).toArray below meth c H locs 0 0 (MQ below (gQv D ad tc (fun I1 L1 => pN I1 (pu_T T u i r) ∧ (∀ a, a < 10 ∨ 38 ≤ a → I1 a = I a) ∧ L = L1)) ([.ref (ad 7), .int (nI u), .int (nI i), .int (nI r)] : List Value).toArray s 0 0 (gA ad)) (F0 m 17 ls []) := by
    intro n
    induction n with
    | zero =>
      intro k I_17 H locs hk hn hd ht hG ls hl
      exact absurd hn (by omega)
    | succ n ih17 =>
      intro k I_17 H locs hk hn hd ht hG ls hl
      refine lv_iload hx hb dX2_set_17 (lv_at hl 6 rfl) ?_
      refine lv_bipush (v := 16) hx hb dX2_set_19 (by decide) ?_
      refine lv_icmp_ge (tgt := 76) hx hb dX2_set_21 (by decide) (fun c21 => ?_) (fun c21 => ?_)
      · -- 21: jumps
        have b21 := g_le (a := 16) (b := k) c21 (by omega) (by omega)
        obtain rfl : k = 16 := by omega
        refine lv_aload_n hx hb dX2_set_76 rfl (lv_at hl 0 rfl) ?_
        refine g_get (v := .ref (ad 9)) hx hb hts (by decide +kernel) hown hK hG 7 (by decide) gc_7 rfl 1 (by decide) (hts (.fieldLink RX2 16 "NeighbourScores$Ratings" "dots" "[[I") (by decide +kernel)) (fun _ h9 => h9) rfl dX2_set_77 ?_
        refine lv_iload_n hx hb dX2_set_80 rfl (lv_at hl 2 rfl) ?_
        refine g_aald hx hb hK hG 9 3 (by decide) gc_9 rfl rfl i rfl (by omega) (by decide) dX2_set_81 ?_
        refine lv_iload_n hx hb dX2_set_82 rfl (lv_at hl 2 rfl) ?_
        refine lv_dup2_11 hx hb dX2_set_83 rfl rfl ?_
        refine g_iald hx hb hK hG (22 + i) (by omega) (gc_dot (u := i) (by omega)) i rfl (by omega) (by omega) dX2_set_84 ?_
        refine g_i (y := nI (pu_dot T i i)) (by rw [hd i i hi hi, if_neg (by omega)]) ?_
        refine lv_iload_n hx hb dX2_set_85 rfl (lv_at hl 3 rfl) ?_
        refine lv_iload_n hx hb dX2_set_86 rfl (lv_at hl 3 rfl) ?_
        refine lv_imul hx hb dX2_set_87 ?_
        refine g_i (y := nI (r * r)) (pk_mul r r) ?_
        refine lv_iload hx hb dX2_set_88 (lv_at hl 5 rfl) ?_
        refine lv_iload hx hb dX2_set_90 (lv_at hl 5 rfl) ?_
        refine lv_imul hx hb dX2_set_92 ?_
        refine g_i (y := nI ((T u i) * (T u i))) (pk_mul (T u i) (T u i)) ?_
        refine lv_isub hx hb dX2_set_93 ?_
        refine lv_iadd hx hb dX2_set_94 ?_
        refine g_i (y := nI (pu_dot (pu_T T u i r) i i)) (pu_dot_upd hu) ?_
        refine g_iast hx hb hK hG (22 + i) (by omega) (fun _ => (gc_dot (u := i) (by omega))) i rfl (by omega) (by omega) dX2_set_95 (fun I_95 H locs hU_95 hG => ?_)
        refine lv_aload hx hb dX2_set_96 (lv_at hl 4 rfl) ?_
        refine lv_iload_n hx hb dX2_set_98 rfl (lv_at hl 2 rfl) ?_
        refine lv_iload_n hx hb dX2_set_99 rfl (lv_at hl 3 rfl) ?_
        refine g_iast hx hb hK hG (10 + u) (by omega) (fun _ => (gc_tab (u := u) (by omega))) i rfl (by omega) (by omega) dX2_set_100 (fun I_100 H locs hU_100 hG => ?_)
        exact g_rv hx hb hr hlocks hG ⟨(pu_dend hT hd ht hu hi hr5 hU_95 hU_100).1, (pu_dend hT hd ht hu hi hr5 hU_95 hU_100).2, rfl⟩ dX2_set_101
      · -- 21: goes on
        have b21 := g_nle (a := 16) (b := k) c21 (by omega) (by omega)
        refine lv_iload hx hb dX2_set_24 (lv_at hl 6 rfl) ?_
        refine lv_iload_n hx hb dX2_set_26 rfl (lv_at hl 2 rfl) ?_
        refine lv_icmp_eq (tgt := 70) hx hb dX2_set_27 (by decide) (fun c27 => ?_) (fun c27 => ?_)
        · -- 27: jumps
          have b27 := g_eq (a := k) (b := i) c27 (by omega) (by omega)
          refine lv_iinc (v := nI (k + 1)) (lv' := [(6, .int (nI (k + 1))), (0, .ref (ad 7)), (1, .int (nI u)), (2, .int (nI i)), (3, .int (nI r)), (4, .ref (ad (10 + u))), (5, .int (nI (T u i)))]) hx hb dX2_set_70 hl (k := 6) rfl (nI_1 _) (by decide) rfl (fun ls hl => ?_)
          refine lv_goto (tgt := 17) hx hb dX2_set_73 (by decide) ?_
          exact ih17 (k + 1) _ _ _ (by omega) (by omega) (pu_dskip hd (by omega)) ht hG ls (lv_sub hl [1, 2, 3, 4, 5, 6, 0] rfl)
        · -- 27: goes on
          have b27 := g_ne (a := k) (b := i) c27 (by omega) (by omega)
          refine lv_aload_n hx hb dX2_set_30 rfl (lv_at hl 0 rfl) ?_
          refine g_get (v := .ref (ad 9)) hx hb hts (by decide +kernel) hown hK hG 7 (by decide) gc_7 rfl 1 (by decide) (hts (.fieldLink RX2 16 "NeighbourScores$Ratings" "dots" "[[I") (by decide +kernel)) (fun _ h9 => h9) rfl dX2_set_31 ?_
          refine lv_iload_n hx hb dX2_set_34 rfl (lv_at hl 2 rfl) ?_
          refine g_aald hx hb hK hG 9 3 (by decide) gc_9 rfl rfl i rfl (by omega) (by decide) dX2_set_35 ?_
          refine lv_iload hx hb dX2_set_36 (lv_at hl 6 rfl) ?_
          refine lv_dup2_11 hx hb dX2_set_38 rfl rfl ?_
          refine g_iald hx hb hK hG (22 + i) (by omega) (gc_dot (u := i) (by omega)) k rfl (by omega) (by omega) dX2_set_39 ?_
          refine g_i (y := nI (pu_dot T i k)) (pu_dinv_row hd hi (by omega)) ?_
          refine lv_iload_n hx hb dX2_set_40 rfl (lv_at hl 3 rfl) ?_
          refine lv_iload hx hb dX2_set_41 (lv_at hl 5 rfl) ?_
          refine lv_isub hx hb dX2_set_43 ?_
          refine lv_aload hx hb dX2_set_44 (lv_at hl 4 rfl) ?_
          refine lv_iload hx hb dX2_set_46 (lv_at hl 6 rfl) ?_
          refine g_iald hx hb hK hG (10 + u) (by omega) (gc_tab (u := u) (by omega)) k rfl (by omega) (by omega) dX2_set_48 ?_
          refine g_i (y := nI (T u k)) (by rw [ht _ (by omega)]; exact hT.2.1 u k hu (by omega)) ?_
          refine lv_imul hx hb dX2_set_49 ?_
          refine lv_iadd hx hb dX2_set_50 ?_
          refine g_i (y := nI (pu_dot (pu_T T u i r) i k)) (pu_dot_up hu (by omega)) ?_
          refine g_iast hx hb hK hG (22 + i) (by omega) (fun _ => (gc_dot (u := i) (by omega))) k rfl (by omega) (by omega) dX2_set_51 (fun I_51 H locs hU_51 hG => ?_)
          refine lv_aload_n hx hb dX2_set_52 rfl (lv_at hl 0 rfl) ?_
          refine g_get (v := .ref (ad 9)) hx hb hts (by decide +kernel) hown hK hG 7 (by decide) gc_7 rfl 1 (by decide) (hts (.fieldLink RX2 16 "NeighbourScores$Ratings" "dots" "[[I") (by decide +kernel)) (fun _ h9 => h9) rfl dX2_set_53 ?_
          refine lv_iload hx hb dX2_set_56 (lv_at hl 6 rfl) ?_
          refine g_aald hx hb hK hG 9 3 (by decide) gc_9 rfl rfl k rfl (by omega) (by decide) dX2_set_58 ?_
          refine lv_iload_n hx hb dX2_set_59 rfl (lv_at hl 2 rfl) ?_
          refine lv_aload_n hx hb dX2_set_60 rfl (lv_at hl 0 rfl) ?_
          refine g_get (v := .ref (ad 9)) hx hb hts (by decide +kernel) hown hK hG 7 (by decide) gc_7 rfl 1 (by decide) (hts (.fieldLink RX2 16 "NeighbourScores$Ratings" "dots" "[[I") (by decide +kernel)) (fun _ h9 => h9) rfl dX2_set_61 ?_
          refine lv_iload_n hx hb dX2_set_64 rfl (lv_at hl 2 rfl) ?_
          refine g_aald hx hb hK hG 9 3 (by decide) gc_9 rfl rfl i rfl (by omega) (by decide) dX2_set_65 ?_
          refine lv_iload hx hb dX2_set_66 (lv_at hl 6 rfl) ?_
          refine g_iald hx hb hK hG (22 + i) (by omega) (gc_dot (u := i) (by omega)) k rfl (by omega) (by omega) dX2_set_68 ?_
          refine g_i (y := nI (pu_dot (pu_T T u i r) k i)) (by rw [hU_51.1, pk_us, pu_dot_comm]) ?_
          refine g_iast hx hb hK hG (22 + k) (by omega) (fun _ => (gc_dot (u := k) (by omega))) i rfl (by omega) (by omega) dX2_set_69 (fun I_69 H locs hU_69 hG => ?_)
          refine lv_iinc (v := nI (k + 1)) (lv' := [(6, .int (nI (k + 1))), (0, .ref (ad 7)), (1, .int (nI u)), (2, .int (nI i)), (3, .int (nI r)), (4, .ref (ad (10 + u))), (5, .int (nI (T u i)))]) hx hb dX2_set_70 hl (k := 6) rfl (nI_1 _) (by decide) rfl (fun ls hl => ?_)
          refine lv_goto (tgt := 17) hx hb dX2_set_73 (by decide) ?_
          exact ih17 (k + 1) _ _ _ (by omega) (by omega) (pu_dstep hd hi (by omega) (by omega) hU_51 hU_69) (fun a ha => by rw [hU_69.2 a (by omega), hU_51.2 a (by omega)]; exact ht a ha) hG ls (lv_sub hl [1, 2, 3, 4, 5, 6, 0] rfl)
  exact lp17 17 0 _ _ _ (by omega) (by omega) (fun a b ha hb => by rw [hT.2.2 a b ha hb, if_neg (by omega)]) (fun _ _ => rfl) hG ls (lv_sub hl [3, 4, 5, 6, 2, 1, 0] rfl)

set_option maxHeartbeats 4000000 in
set_option maxRecDepth 100000 in
theorem c_X2_clear (l : Launch) (D : va_G) (ad : Nat → Nat) (tc : Nat → ClassId) (I : Mi) (L : Ml) (T : Tb) (hT : pN I T)  : Met l yX2_clear wsX2_clear ({ frames := 1, cells := 0, slots := 0, locals := 26 } : Room) (va_Pc [.ref (ad 7)] (gPc D ad tc I L)) (gQv D ad tc (fun I1 L1 => pN I1 (fun _ _ => 0) ∧ (∀ a, a < 10 ∨ 38 ≤ a → I1 a = I a) ∧ L = L1)) 0 0 (gA ad) := by
  refine g_of (by decide) rfl (Nat.le_of_ble_eq_true rfl) ?_
  intro p e s m below meth c hcx hr hlocks hK hG ls hl
  obtain ⟨hx, hb, hml, hown, hts⟩ := id hcx
  have hl : lv_has ls 3 [(0, .ref (ad 7))] := hl
  refine lv_iconst (v := 0) hx hb dX2_clear_0 (by decide) ?_
  refine lv_istore_n (lv' := [(1, .int 0), (0, .ref (ad 7))]) hx hb dX2_clear_1 rfl hl (by decide) rfl (fun ls hl => ?_)
  have lp2 : ∀ (n : Nat) (u : Nat) (T1 : Tb) (I_2 : Mi) (H : Heap) (locs : List Loc), (u ≤ 12) → (13 ≤ u + n) → (pN I_2 T1) → (∀ a b, a < u → b < 16 → T1 a b = 0) → (∀ a, a < 10 ∨ 38 ≤ a → I_2 a = I a) → gG D ad tc (gA ad) s.heap I_2 L H locs → ∀ ls : Array Slot, lv_has ls 3 [(0, .ref (ad 7)), (1, .int (nI u))] → W p l e (headSpec wsX2_clear ({ frames := 1, cells := 0, slots := 0, locals := 26 } : Room)).room s m ([.ref (ad 7)] : List Value).toArray below meth c H locs 0 0 (MQ below (gQv D ad tc (fun I1 L1 => pN I1 (fun _ _ => 0) ∧ (∀ a, a < 10 ∨ 38 ≤ a → I1 a = I a) ∧ L = L1)) ([.ref (ad 7)] : List Value).toArray s 0 0 (gA ad)) (F0 m 2 ls []) := by
    intro n
    induction n with
    | zero =>
      intro u T1 I_2 H locs hu hn h1 hz hf hG ls hl
      exact absurd hn (by omega)
    | succ n ih2 =>
      intro u T1 I_2 H locs hu hn h1 hz hf hG ls hl
      refine lv_iload_n hx hb dX2_clear_2 rfl (lv_at hl 1 rfl) ?_
      refine lv_bipush (v := 12) hx hb dX2_clear_3 (by decide) ?_
      refine lv_icmp_ge (tgt := 35) hx hb dX2_clear_5 (by decide) (fun c5 => ?_) (fun c5 => ?_)
      · -- 5: jumps
        have b5 := g_le (a := 12) (b := u) c5 (by omega) (by omega)
        exact g_rv hx hb hr hlocks hG ⟨pN_congr (fun a b ha hb => hz a b (by omega) hb) h1, hf, rfl⟩ dX2_clear_35
      · -- 5: goes on
        have b5 := g_nle (a := 12) (b := u) c5 (by omega) (by omega)
        refine lv_iconst (v := 0) hx hb dX2_clear_8 (by decide) ?_
        refine lv_istore_n (lv' := [(2, .int 0), (0, .ref (ad 7)), (1, .int (nI u))]) hx hb dX2_clear_9 rfl hl (by decide) rfl (fun ls hl => ?_)
        have lp10 : ∀ (n : Nat) (i : Nat) (T2 : Tb) (I_10 : Mi) (H : Heap) (locs : List Loc), (i ≤ 16) → (17 ≤ i + n) → (pN I_10 T2) → (∀ a b, a < u → b < 16 → T2 a b = 0) → (∀ b, b < i → T2 u b = 0) → (∀ a, a < 10 ∨ 38 ≤ a → I_10 a = I a) → gG D ad tc (gA ad) s.heap I_10 L H locs → ∀ ls : Array Slot, lv_has ls 3 [(0, .ref (ad 7)), (1, .int (nI u)), (2, .int (nI i))] → W p l e (headSpec wsX2_clear ({ frames := 1, cells := 0, slots := 0, locals := 26 } : Room)).room s m ([.ref (ad 7)] : List Value).toArray below meth c H locs 0 0 (MQ below (gQv D ad tc (fun I1 L1 => pN I1 (fun _ _ => 0) ∧ (∀ a, a < 10 ∨ 38 ≤ a → I1 a = I a) ∧ L = L1)) ([.ref (ad 7)] : List Value).toArray s 0 0 (gA ad)) (F0 m 10 ls []) := by
          intro n
          induction n with
          | zero =>
            intro i T2 I_10 H locs hi hn2 h2 hz2 hy hf2 hG ls hl
            exact absurd hn2 (by omega)
          | succ n ih10 =>
            intro i T2 I_10 H locs hi hn2 h2 hz2 hy hf2 hG ls hl
            refine lv_iload_n hx hb dX2_clear_10 rfl (lv_at hl 2 rfl) ?_
            refine lv_bipush (v := 16) hx hb dX2_clear_11 (by decide) ?_
            refine lv_icmp_ge (tgt := 29) hx hb dX2_clear_13 (by decide) (fun c13 => ?_) (fun c13 => ?_)
            · -- 13: jumps
              have b13 := g_le (a := 16) (b := i) c13 (by omega) (by omega)
              refine lv_iinc (v := nI (u + 1)) (lv' := [(1, .int (nI (u + 1))), (0, .ref (ad 7)), (2, .int (nI i))]) hx hb dX2_clear_29 hl (k := 1) rfl (nI_1 _) (by decide) rfl (fun ls hl => ?_)
              refine lv_goto (tgt := 2) hx hb dX2_clear_32 (by decide) ?_
              exact ih2 (u + 1) T2 _ _ _ (by omega) (by omega) h2 (fun a b ha hb => by rcases Nat.lt_or_ge a u with q | q; exact hz2 a b q hb; exact (show a = u by omega) ▸ hy b (by omega)) hf2 hG ls (lv_sub hl [1, 0] rfl)
            · -- 13: goes on
              have b13 := g_nle (a := 16) (b := i) c13 (by omega) (by omega)
              refine lv_aload_n hx hb dX2_clear_16 rfl (lv_at hl 0 rfl) ?_
              refine lv_iload_n hx hb dX2_clear_17 rfl (lv_at hl 1 rfl) ?_
              refine lv_iload_n hx hb dX2_clear_18 rfl (lv_at hl 2 rfl) ?_
              refine lv_iconst (v := 0) hx hb dX2_clear_19 (by decide) ?_
              refine g_cv (va_runV (As := [.int (nI u), .int (nI i), .int 0]) (rest := []) hcx (c_X2_set l D ad tc I_10 L T2 h2 u i 0 (by omega) (by omega) (by omega)) (cwV 3 hts gX2_clear_X2_set rfl rfl rfl (by decide +kernel) ⟨Nat.le_of_ble_eq_true rfl, Nat.le_of_ble_eq_true rfl⟩) (g_pV hK hG 7 (by decide) gc_7 rfl) rfl rfl hl.1 rfl (lv_room (Nat.le_of_ble_eq_true rfl)) dX2_clear_20 ⟨Nat.le_refl _, Nat.le_refl _⟩) hK hG (fun I_20 L_20 H locs hw_20 hG => ?_)
              obtain rfl := hw_20.2.2
              refine lv_iinc (v := nI (i + 1)) (lv' := [(2, .int (nI (i + 1))), (0, .ref (ad 7)), (1, .int (nI u))]) hx hb dX2_clear_23 hl (k := 2) rfl (nI_1 _) (by decide) rfl (fun ls hl => ?_)
              refine lv_goto (tgt := 10) hx hb dX2_clear_26 (by decide) ?_
              exact ih10 (i + 1) (pu_T T2 u i 0) _ _ _ (by omega) (by omega) hw_20.1 (fun a b ha hb => by rw [pu_T_ne (by omega)]; exact hz2 a b ha hb) (fun b hb => by by_cases e : b = i; rw [e, pu_T_eq]; rw [pu_T_ne (by omega)]; exact hy b (by omega)) (fun a ha => (hw_20.2.1 a ha).trans (hf2 a ha)) hG ls (lv_sub hl [1, 2, 0] rfl)
        exact lp10 17 0 T1 _ _ _ (by omega) (by omega) h1 hz (fun _ h => absurd h (Nat.not_lt_zero _)) hf hG ls (lv_sub hl [1, 2, 0] rfl)
  exact lp2 13 0 T _ _ _ (by omega) (by omega) hT (fun _ _ h => absurd h (Nat.not_lt_zero _)) (fun _ _ => rfl) hG ls (lv_sub hl [1, 0] rfl)

set_option maxHeartbeats 4000000 in
set_option maxRecDepth 100000 in
theorem c_X2_countRated (l : Launch) (D : va_G) (ad : Nat → Nat) (tc : Nat → ClassId) (I : Mi) (L : Ml) (T : Tb) (hT : pN I T)  : Met l yX2_countRated wsX2_countRated ({ frames := 0, cells := 0, slots := 0, locals := 0 } : Room) (va_Pc [.ref (ad 7)] (gPc D ad tc I L)) (vp_Si (fun r => nI (pu_cn T 12) = r)) 0 0 gN := by
  refine g_of (by decide) rfl (Nat.le_of_ble_eq_true rfl) ?_
  intro p e s m below meth c hcx hr hlocks hK hG ls hl
  obtain ⟨hx, hb, hml, hown, hts⟩ := id hcx
  have hl : lv_has ls 4 [(0, .ref (ad 7))] := hl
  refine lv_iconst (v := 0) hx hb dX2_countRated_0 (by decide) ?_
  refine lv_istore_n (lv' := [(1, .int 0), (0, .ref (ad 7))]) hx hb dX2_countRated_1 rfl hl (by decide) rfl (fun ls hl => ?_)
  refine lv_iconst (v := 0) hx hb dX2_countRated_2 (by decide) ?_
  refine lv_istore_n (lv' := [(2, .int 0), (1, .int 0), (0, .ref (ad 7))]) hx hb dX2_countRated_3 rfl hl (by decide) rfl (fun ls hl => ?_)
  have lp4 : ∀ (n : Nat) (u : Nat), (u ≤ 12) → (13 ≤ u + n) → ∀ ls : Array Slot, lv_has ls 4 [(0, .ref (ad 7)), (1, .int (nI (pu_cn T u))), (2, .int (nI u))] → W p l e (headSpec wsX2_countRated ({ frames := 0, cells := 0, slots := 0, locals := 0 } : Room)).room s m ([.ref (ad 7)] : List Value).toArray below meth c s.heap [] 0 0 (MQ below (vp_Si (fun r => nI (pu_cn T 12) = r)) ([.ref (ad 7)] : List Value).toArray s 0 0 gN) (F0 m 4 ls []) := by
    intro n
    induction n with
    | zero =>
      intro u hu hn ls hl
      exact absurd hn (by omega)
    | succ n ih4 =>
      intro u hu hn ls hl
      refine lv_iload_n hx hb dX2_countRated_4 rfl (lv_at hl 2 rfl) ?_
      refine lv_bipush (v := 12) hx hb dX2_countRated_5 (by decide) ?_
      refine lv_icmp_ge (tgt := 44) hx hb dX2_countRated_7 (by decide) (fun c7 => ?_) (fun c7 => ?_)
      · -- 7: jumps
        have b7 := g_le (a := 12) (b := u) c7 (by omega) (by omega)
        refine lv_iload_n hx hb dX2_countRated_44 rfl (lv_at hl 1 rfl) ?_
        exact g_riS hx hb hr hlocks (by rw [show u = 12 by omega]) dX2_countRated_45
      · -- 7: goes on
        have b7 := g_nle (a := 12) (b := u) c7 (by omega) (by omega)
        refine lv_iconst (v := 0) hx hb dX2_countRated_10 (by decide) ?_
        refine lv_istore_n (lv' := [(3, .int 0), (0, .ref (ad 7)), (1, .int (nI (pu_cn T u))), (2, .int (nI u))]) hx hb dX2_countRated_11 rfl hl (by decide) rfl (fun ls hl => ?_)
        have lp12 : ∀ (n : Nat) (i : Nat), (i ≤ 16) → (17 ≤ i + n) → ∀ ls : Array Slot, lv_has ls 4 [(0, .ref (ad 7)), (1, .int (nI (pu_cn T u + pu_c1 (T u) i))), (2, .int (nI u)), (3, .int (nI i))] → W p l e (headSpec wsX2_countRated ({ frames := 0, cells := 0, slots := 0, locals := 0 } : Room)).room s m ([.ref (ad 7)] : List Value).toArray below meth c s.heap [] 0 0 (MQ below (vp_Si (fun r => nI (pu_cn T 12) = r)) ([.ref (ad 7)] : List Value).toArray s 0 0 gN) (F0 m 12 ls []) := by
          intro n
          induction n with
          | zero =>
            intro i hi hn2 ls hl
            exact absurd hn2 (by omega)
          | succ n ih12 =>
            intro i hi hn2 ls hl
            refine lv_iload_n hx hb dX2_countRated_12 rfl (lv_at hl 3 rfl) ?_
            refine lv_bipush (v := 16) hx hb dX2_countRated_13 (by decide) ?_
            refine lv_icmp_ge (tgt := 38) hx hb dX2_countRated_15 (by decide) (fun c15 => ?_) (fun c15 => ?_)
            · -- 15: jumps
              have b15 := g_le (a := 16) (b := i) c15 (by omega) (by omega)
              refine lv_iinc (v := nI (u + 1)) (lv' := [(2, .int (nI (u + 1))), (0, .ref (ad 7)), (1, .int (nI (pu_cn T u + pu_c1 (T u) i))), (3, .int (nI i))]) hx hb dX2_countRated_38 hl (k := 2) rfl (nI_1 _) (by decide) rfl (fun ls hl => ?_)
              refine lv_goto (tgt := 4) hx hb dX2_countRated_41 (by decide) ?_
              obtain rfl : i = 16 := by omega
              exact ih4 (u + 1) (by omega) (by omega) ls (lv_sub hl [1, 2, 0] rfl)
            · -- 15: goes on
              have b15 := g_nle (a := 16) (b := i) c15 (by omega) (by omega)
              refine lv_aload_n hx hb dX2_countRated_18 rfl (lv_at hl 0 rfl) ?_
              refine g_get (v := .ref (ad 8)) hx hb hts (by decide +kernel) hown hK hG 7 (by decide) gc_7 rfl 0 (by decide) (hts (.fieldLink RX2 11 "NeighbourScores$Ratings" "table" "[[I") (by decide +kernel)) (fun _ h9 => h9) rfl dX2_countRated_19 ?_
              refine lv_iload_n hx hb dX2_countRated_22 rfl (lv_at hl 2 rfl) ?_
              refine g_aald hx hb hK hG 8 3 (by decide) gc_8 rfl rfl u rfl (by omega) (by decide) dX2_countRated_23 ?_
              refine lv_iload_n hx hb dX2_countRated_24 rfl (lv_at hl 3 rfl) ?_
              refine g_iald hx hb hK hG (10 + u) (by omega) (gc_tab (u := u) (by omega)) i rfl (by omega) (by omega) dX2_countRated_25 ?_
              refine g_i (y := nI (T u i)) (hT.2.1 u i (by omega) (by omega)) ?_
              have hb25 := hT.1 u i (by omega) (by omega)
              refine lv_if_eq (tgt := 32) hx hb dX2_countRated_26 (by decide) (fun c26 => ?_) (fun c26 => ?_)
              · -- 26: jumps
                have b26 := g_eq (a := (T u i)) (b := 0) c26 (by omega) (by omega)
                refine lv_iinc (v := nI (i + 1)) (lv' := [(3, .int (nI (i + 1))), (0, .ref (ad 7)), (1, .int (nI (pu_cn T u + pu_c1 (T u) i))), (2, .int (nI u))]) hx hb dX2_countRated_32 hl (k := 3) rfl (nI_1 _) (by decide) rfl (fun ls hl => ?_)
                refine lv_goto (tgt := 12) hx hb dX2_countRated_35 (by decide) ?_
                have e9 : pu_cn T u + pu_c1 (T u) (i + 1) = pu_cn T u + pu_c1 (T u) i := by
                  show pu_cn T u + (pu_c1 (T u) i + (if T u i = 0 then 0 else 1)) = _
                  simp [b26] <;> omega
                rw [← e9] at hl
                exact ih12 (i + 1) (by omega) (by omega) ls (lv_sub hl [1, 2, 3, 0] rfl)
              · -- 26: goes on
                have b26 := g_ne (a := (T u i)) (b := 0) c26 (by omega) (by omega)
                refine lv_iinc (v := nI (pu_cn T u + pu_c1 (T u) i + 1)) (lv' := [(1, .int (nI (pu_cn T u + pu_c1 (T u) i + 1))), (0, .ref (ad 7)), (2, .int (nI u)), (3, .int (nI i))]) hx hb dX2_countRated_29 hl (k := 1) rfl (nI_1 _) (by decide) rfl (fun ls hl => ?_)
                refine lv_iinc (v := nI (i + 1)) (lv' := [(3, .int (nI (i + 1))), (1, .int (nI (pu_cn T u + pu_c1 (T u) i + 1))), (0, .ref (ad 7)), (2, .int (nI u))]) hx hb dX2_countRated_32 hl (k := 3) rfl (nI_1 _) (by decide) rfl (fun ls hl => ?_)
                refine lv_goto (tgt := 12) hx hb dX2_countRated_35 (by decide) ?_
                have e9 : pu_cn T u + pu_c1 (T u) (i + 1) = pu_cn T u + pu_c1 (T u) i + 1 := by
                  show pu_cn T u + (pu_c1 (T u) i + (if T u i = 0 then 0 else 1)) = _
                  simp [b26] <;> omega
                rw [← e9] at hl
                exact ih12 (i + 1) (by omega) (by omega) ls (lv_sub hl [2, 1, 3, 0] rfl)
        exact lp12 17 0 (by omega) (by omega) ls (lv_sub hl [1, 2, 3, 0] rfl)
  exact lp4 13 0 (by omega) (by omega) ls (lv_sub hl [2, 1, 0] rfl)

set_option maxHeartbeats 4000000 in
set_option maxRecDepth 100000 in
theorem c_X2_weightOf (l : Launch) (D : va_G) (ad : Nat → Nat) (tc : Nat → ClassId) (I : Mi) (L : Ml) (T : Tb) (hT : pN I T) (i j : Nat) (hi : i < 16) (hj : j < 16) : Met l yX2_weightOf wsX2_weightOf ({ frames := 0, cells := 0, slots := 0, locals := 0 } : Room) (va_Pc [.ref (ad 7), .int (nI i), .int (nI j)] (gPc D ad tc I L)) (vp_Si (fun r => nI (pu_w T i j) = r)) 0 0 gN := by
  refine g_of (by decide) rfl (Nat.le_of_ble_eq_true rfl) ?_
  intro p e s m below meth c hcx hr hlocks hK hG ls hl
  obtain ⟨hx, hb, hml, hown, hts⟩ := id hcx
  have hl : lv_has ls 7 [(0, .ref (ad 7)), (1, .int (nI i)), (2, .int (nI j))] := hl
  have q1 := pu_dot_le hT.1 hi hj
  have q2 := pu_dot_le hT.1 hi hi
  have q3 := pu_dot_le hT.1 hj hj
  have q4 : pu_dot T i i * pu_dot T j j ≤ 300 * 300 := Nat.mul_le_mul q2 q3
  have q5 : 1048576 * pu_dot T i j * pu_dot T i j ≤ 1048576 * 300 * 300 := Nat.mul_le_mul (Nat.mul_le_mul_left _ q1) q1
  refine lv_aload_n hx hb dX2_weightOf_0 rfl (lv_at hl 0 rfl) ?_
  refine g_get (v := .ref (ad 9)) hx hb hts (by decide +kernel) hown hK hG 7 (by decide) gc_7 rfl 1 (by decide) (hts (.fieldLink RX2 16 "NeighbourScores$Ratings" "dots" "[[I") (by decide +kernel)) (fun _ h9 => h9) rfl dX2_weightOf_1 ?_
  refine lv_iload_n hx hb dX2_weightOf_4 rfl (lv_at hl 1 rfl) ?_
  refine g_aald hx hb hK hG 9 3 (by decide) gc_9 rfl rfl i rfl (by omega) (by decide) dX2_weightOf_5 ?_
  refine lv_iload_n hx hb dX2_weightOf_6 rfl (lv_at hl 2 rfl) ?_
  refine g_iald hx hb hK hG (22 + i) (by omega) (gc_dot (u := i) (by omega)) j rfl (by omega) (by omega) dX2_weightOf_7 ?_
  refine g_i (y := nI (pu_dot T i j)) (hT.2.2 i j hi hj) ?_
  refine lv_i2l (v := lN (pu_dot T i j)) hx hb dX2_weightOf_8 (nI_l (by omega)) ?_
  refine lv_lstore_n (lv' := [(3, .long (lN (pu_dot T i j))), (0, .ref (ad 7)), (1, .int (nI i)), (2, .int (nI j))]) hx hb dX2_weightOf_9 rfl hl (by decide) rfl (fun ls hl => ?_)
  refine lv_aload_n hx hb dX2_weightOf_10 rfl (lv_at hl 1 rfl) ?_
  refine g_get (v := .ref (ad 9)) hx hb hts (by decide +kernel) hown hK hG 7 (by decide) gc_7 rfl 1 (by decide) (hts (.fieldLink RX2 16 "NeighbourScores$Ratings" "dots" "[[I") (by decide +kernel)) (fun _ h9 => h9) rfl dX2_weightOf_11 ?_
  refine lv_iload_n hx hb dX2_weightOf_14 rfl (lv_at hl 2 rfl) ?_
  refine g_aald hx hb hK hG 9 3 (by decide) gc_9 rfl rfl i rfl (by omega) (by decide) dX2_weightOf_15 ?_
  refine lv_iload_n hx hb dX2_weightOf_16 rfl (lv_at hl 2 rfl) ?_
  refine g_iald hx hb hK hG (22 + i) (by omega) (gc_dot (u := i) (by omega)) i rfl (by omega) (by omega) dX2_weightOf_17 ?_
  refine g_i (y := nI (pu_dot T i i)) (hT.2.2 i i hi hi) ?_
  refine lv_i2l (v := lN (pu_dot T i i)) hx hb dX2_weightOf_18 (nI_l (by omega)) ?_
  refine lv_aload_n hx hb dX2_weightOf_19 rfl (lv_at hl 1 rfl) ?_
  refine g_get (v := .ref (ad 9)) hx hb hts (by decide +kernel) hown hK hG 7 (by decide) gc_7 rfl 1 (by decide) (hts (.fieldLink RX2 16 "NeighbourScores$Ratings" "dots" "[[I") (by decide +kernel)) (fun _ h9 => h9) rfl dX2_weightOf_20 ?_
  refine lv_iload_n hx hb dX2_weightOf_23 rfl (lv_at hl 3 rfl) ?_
  refine g_aald hx hb hK hG 9 3 (by decide) gc_9 rfl rfl j rfl (by omega) (by decide) dX2_weightOf_24 ?_
  refine lv_iload_n hx hb dX2_weightOf_25 rfl (lv_at hl 3 rfl) ?_
  refine g_iald hx hb hK hG (22 + j) (by omega) (gc_dot (u := j) (by omega)) j rfl (by omega) (by omega) dX2_weightOf_26 ?_
  refine g_i (y := nI (pu_dot T j j)) (hT.2.2 j j hj hj) ?_
  refine lv_i2l (v := lN (pu_dot T j j)) hx hb dX2_weightOf_27 (nI_l (by omega)) ?_
  refine lv_lmul hx hb dX2_weightOf_28 ?_
  refine g_l (y := lN ((pu_dot T i i) * (pu_dot T j j))) (lN_mul (pu_dot T i i) (pu_dot T j j)) ?_
  refine lv_lstore (lv' := [(5, .long (lN ((pu_dot T i i) * (pu_dot T j j)))), (3, .long (lN (pu_dot T i j))), (0, .ref (ad 7)), (1, .int (nI i)), (2, .int (nI j))]) hx hb dX2_weightOf_29 hl (by decide) rfl (fun ls hl => ?_)
  refine lv_iload_n hx hb dX2_weightOf_31 rfl (lv_at hl 3 rfl) ?_
  refine lv_iload_n hx hb dX2_weightOf_32 rfl (lv_at hl 4 rfl) ?_
  refine lv_icmp_eq (tgt := 43) hx hb dX2_weightOf_33 (by decide) (fun c33 => ?_) (fun c33 => ?_)
  · -- 33: jumps
    have b33 := g_eq (a := i) (b := j) c33 (by omega) (by omega)
    refine lv_iconst (v := 0) hx hb dX2_weightOf_43 (by decide) ?_
    exact g_riS hx hb hr hlocks (by first | (rw [show pu_w T i j = 0 from if_pos b33]; exact nI_0) | (rw [pu_w_0 ((pk_lEQ (by omega) (by decide)).mp (pu_cmp0 c40))]; exact nI_0)) dX2_weightOf_44
  · -- 33: goes on
    have b33 := g_ne (a := i) (b := j) c33 (by omega) (by omega)
    refine lv_lload hx hb dX2_weightOf_36 (lv_at hl 0 rfl) ?_
    refine lv_lconst (v := 0) hx hb dX2_weightOf_38 (by decide) ?_
    refine W.lcmp hx hb dX2_weightOf_39 ?_
    refine lv_if_ne (tgt := 45) hx hb dX2_weightOf_40 (by decide) (fun c40 => ?_) (fun c40 => ?_)
    · -- 40: jumps
      have hs : 0 < pu_dot T i i * pu_dot T j j := Nat.pos_of_ne_zero (fun h => c40 (by rw [h]; rfl))
      refine lv_ldc2 hx hb (v := 1048576) hown (hts (.constantLong RX2 23 (1048576)) (by decide +kernel)) dX2_weightOf_45 ?_
      refine lv_lload_n hx hb dX2_weightOf_48 rfl (lv_at hl 1 rfl) ?_
      refine lv_lmul hx hb dX2_weightOf_49 ?_
      refine g_l (y := lN (1048576 * (pu_dot T i j))) (lN_mul 1048576 (pu_dot T i j)) ?_
      refine lv_lload_n hx hb dX2_weightOf_50 rfl (lv_at hl 1 rfl) ?_
      refine lv_lmul hx hb dX2_weightOf_51 ?_
      refine g_l (y := lN ((1048576 * (pu_dot T i j)) * (pu_dot T i j))) (lN_mul (1048576 * (pu_dot T i j)) (pu_dot T i j)) ?_
      refine lv_lload hx hb dX2_weightOf_52 (lv_at hl 0 rfl) ?_
      refine lv_ldiv hx hb dX2_weightOf_54 (fun h => c40 (by rw [h]; rfl)) ?_
      refine g_l (y := lN (1048576 * pu_dot T i j * pu_dot T i j / (pu_dot T i i * pu_dot T j j))) (pk_lDiv (by omega) (by omega) (by omega)) ?_
      refine lv_l2i (v := (lN (1048576 * pu_dot T i j * pu_dot T i j / (pu_dot T i i * pu_dot T j j))).toInt32) hx hb dX2_weightOf_55 rfl ?_
      refine g_i (y := nI (1048576 * pu_dot T i j * pu_dot T i j / (pu_dot T i i * pu_dot T j j))) (lN_i _) ?_
      exact g_riS hx hb hr hlocks (by unfold pu_w; rw [if_neg b33]) dX2_weightOf_56
    · -- 40: goes on
      refine lv_iconst (v := 0) hx hb dX2_weightOf_43 (by decide) ?_
      exact g_riS hx hb hr hlocks (by first | (rw [show pu_w T i j = 0 from if_pos b33]; exact nI_0) | (rw [pu_w_0 ((pk_lEQ (by omega) (by decide)).mp (pu_cmp0 c40))]; exact nI_0)) dX2_weightOf_44

set_option maxHeartbeats 4000000 in
set_option maxRecDepth 100000 in
theorem c_X2_shareOf (l : Launch) (D : va_G) (ad : Nat → Nat) (tc : Nat → ClassId) (I : Mi) (L : Ml) (T : Tb) (hT : pN I T) (u i j : Nat) (hu : u < 12) (hi : i < 16) (hj : j < 16) : Met l yX2_shareOf wsX2_shareOf ({ frames := 1, cells := 0, slots := 0, locals := 26 } : Room) (va_Pc [.ref (ad 7), .int (nI u), .int (nI i), .int (nI j)] (gPc D ad tc I L)) (vp_Sl (fun r => pu_sh T u i j = r)) 0 0 gN := by
  refine g_of (by decide) rfl (Nat.le_of_ble_eq_true rfl) ?_
  intro p e s m below meth c hcx hr hlocks hK hG ls hl
  obtain ⟨hx, hb, hml, hown, hts⟩ := id hcx
  have hl : lv_has ls 4 [(0, .ref (ad 7)), (1, .int (nI u)), (2, .int (nI i)), (3, .int (nI j))] := hl
  refine lv_aload_n hx hb dX2_shareOf_0 rfl (lv_at hl 0 rfl) ?_
  refine lv_iload_n hx hb dX2_shareOf_1 rfl (lv_at hl 2 rfl) ?_
  refine lv_iload_n hx hb dX2_shareOf_2 rfl (lv_at hl 3 rfl) ?_
  refine g_si (va_runV (As := [.int (nI i), .int (nI j)]) (rest := []) hcx (c_X2_weightOf l D ad tc I L T hT i j (by omega) (by omega)) (cwV 2 hts gX2_shareOf_X2_weightOf rfl rfl rfl (by decide +kernel) ⟨Nat.le_of_ble_eq_true rfl, Nat.le_of_ble_eq_true rfl⟩) (g_pV hK hG 7 (by decide) gc_7 rfl) rfl rfl hl.1 rfl (lv_room (Nat.le_of_ble_eq_true rfl)) dX2_shareOf_3 ⟨Nat.le_refl _, Nat.le_refl _⟩) (fun r_3 hw_3 => ?_)
  subst hw_3
  refine lv_i2l (v := (nI (pu_w T i j)).toInt64) hx hb dX2_shareOf_6 rfl ?_
  refine lv_aload_n hx hb dX2_shareOf_7 rfl (lv_at hl 0 rfl) ?_
  refine g_get (v := .ref (ad 8)) hx hb hts (by decide +kernel) hown hK hG 7 (by decide) gc_7 rfl 0 (by decide) (hts (.fieldLink RX2 11 "NeighbourScores$Ratings" "table" "[[I") (by decide +kernel)) (fun _ h9 => h9) rfl dX2_shareOf_8 ?_
  refine lv_iload_n hx hb dX2_shareOf_11 rfl (lv_at hl 1 rfl) ?_
  refine g_aald hx hb hK hG 8 3 (by decide) gc_8 rfl rfl u rfl (by omega) (by decide) dX2_shareOf_12 ?_
  refine lv_iload_n hx hb dX2_shareOf_13 rfl (lv_at hl 3 rfl) ?_
  refine g_iald hx hb hK hG (10 + u) (by omega) (gc_tab (u := u) (by omega)) j rfl (by omega) (by omega) dX2_shareOf_14 ?_
  refine g_i (y := nI (T u j)) (hT.2.1 u j hu hj) ?_
  refine lv_i2l (v := (nI (T u j)).toInt64) hx hb dX2_shareOf_15 rfl ?_
  refine lv_lmul hx hb dX2_shareOf_16 ?_
  exact g_rlS hx hb hr hlocks rfl dX2_shareOf_17

set_option maxHeartbeats 4000000 in
set_option maxRecDepth 100000 in
theorem c_X2_scoreOf (l : Launch) (D : va_G) (ad : Nat → Nat) (tc : Nat → ClassId) (I : Mi) (L : Ml) (T : Tb) (hT : pN I T) (u i : Nat) (hu : u < 12) (hi : i < 16)  : Met l yX2_scoreOf wsX2_scoreOf ({ frames := 2, cells := 0, slots := 0, locals := 49 } : Room) (va_Pc [.ref (ad 7), .int (nI u), .int (nI i)] (gPc D ad tc I L)) (vp_Sl (fun r => pu_sc T u i 16 = r)) 0 0 gN := by
  refine g_of (by decide) rfl (Nat.le_of_ble_eq_true rfl) ?_
  intro p e s m below meth c hcx hr hlocks hK hG ls hl
  obtain ⟨hx, hb, hml, hown, hts⟩ := id hcx
  have hl : lv_has ls 6 [(0, .ref (ad 7)), (1, .int (nI u)), (2, .int (nI i))] := hl
  refine lv_lconst (v := 0) hx hb dX2_scoreOf_0 (by decide) ?_
  refine lv_lstore_n (lv' := [(3, .long 0), (0, .ref (ad 7)), (1, .int (nI u)), (2, .int (nI i))]) hx hb dX2_scoreOf_1 rfl hl (by decide) rfl (fun ls hl => ?_)
  refine lv_iconst (v := 0) hx hb dX2_scoreOf_2 (by decide) ?_
  refine lv_istore (lv' := [(5, .int 0), (3, .long 0), (0, .ref (ad 7)), (1, .int (nI u)), (2, .int (nI i))]) hx hb dX2_scoreOf_3 hl (by decide) rfl (fun ls hl => ?_)
  have lp5 : ∀ (n : Nat) (k : Nat), (k ≤ 16) → (17 ≤ k + n) → ∀ ls : Array Slot, lv_has ls 6 [(0, .ref (ad 7)), (1, .int (nI u)), (2, .int (nI i)), (3, .long (pu_sc T u i k)), (5, .int (nI k))] → W p l e (headSpec wsX2_scoreOf ({ frames := 2, cells := 0, slots := 0, locals := 49 } : Room)).room s m ([.ref (ad 7), .int (nI u), .int (nI i)] : List Value).toArray below meth c s.heap [] 0 0 (MQ below (vp_Sl (fun r => pu_sc T u i 16 = r)) ([.ref (ad 7), .int (nI u), .int (nI i)] : List Value).toArray s 0 0 gN) (F0 m 5 ls []) := by
    intro n
    induction n with
    | zero =>
      intro k hk hn ls hl
      exact absurd hn (by omega)
    | succ n ih5 =>
      intro k hk hn ls hl
      refine lv_iload hx hb dX2_scoreOf_5 (lv_at hl 4 rfl) ?_
      refine lv_bipush (v := 16) hx hb dX2_scoreOf_7 (by decide) ?_
      refine lv_icmp_ge (tgt := 29) hx hb dX2_scoreOf_9 (by decide) (fun c9 => ?_) (fun c9 => ?_)
      · -- 9: jumps
        have b9 := g_le (a := 16) (b := k) c9 (by omega) (by omega)
        refine lv_lload_n hx hb dX2_scoreOf_29 rfl (lv_at hl 3 rfl) ?_
        exact g_rlS hx hb hr hlocks (by rw [show k = 16 by omega]) dX2_scoreOf_30
      · -- 9: goes on
        have b9 := g_nle (a := 16) (b := k) c9 (by omega) (by omega)
        refine lv_lload_n hx hb dX2_scoreOf_12 rfl (lv_at hl 3 rfl) ?_
        refine lv_aload_n hx hb dX2_scoreOf_13 rfl (lv_at hl 0 rfl) ?_
        refine lv_iload_n hx hb dX2_scoreOf_14 rfl (lv_at hl 1 rfl) ?_
        refine lv_iload_n hx hb dX2_scoreOf_15 rfl (lv_at hl 2 rfl) ?_
        refine lv_iload hx hb dX2_scoreOf_16 (lv_at hl 4 rfl) ?_
        refine g_sl (va_runV (As := [.int (nI u), .int (nI i), .int (nI k)]) (rest := [.long (pu_sc T u i k)]) hcx (c_X2_shareOf l D ad tc I L T hT u i k (by omega) (by omega) (by omega)) (cwV 3 hts gX2_scoreOf_X2_shareOf rfl rfl rfl (by decide +kernel) ⟨Nat.le_of_ble_eq_true rfl, Nat.le_of_ble_eq_true rfl⟩) (g_pV hK hG 7 (by decide) gc_7 rfl) rfl rfl hl.1 rfl (lv_room (Nat.le_of_ble_eq_true rfl)) dX2_scoreOf_18 ⟨Nat.le_refl _, Nat.le_refl _⟩) (fun r_18 hw_18 => ?_)
        subst hw_18
        refine lv_ladd hx hb dX2_scoreOf_21 ?_
        refine lv_lstore_n (lv' := [(3, .long ((pu_sc T u i k) + (pu_sh T u i k))), (0, .ref (ad 7)), (1, .int (nI u)), (2, .int (nI i)), (5, .int (nI k))]) hx hb dX2_scoreOf_22 rfl hl (by decide) rfl (fun ls hl => ?_)
        refine lv_iinc (v := nI (k + 1)) (lv' := [(5, .int (nI (k + 1))), (3, .long ((pu_sc T u i k) + (pu_sh T u i k))), (0, .ref (ad 7)), (1, .int (nI u)), (2, .int (nI i))]) hx hb dX2_scoreOf_23 hl (k := 4) rfl (nI_1 _) (by decide) rfl (fun ls hl => ?_)
        refine lv_goto (tgt := 5) hx hb dX2_scoreOf_26 (by decide) ?_
        exact ih5 (k + 1) (by omega) (by omega) ls (lv_sub hl [2, 3, 4, 1, 0] rfl)
  exact lp5 17 0 (by omega) (by omega) ls (lv_sub hl [2, 3, 4, 1, 0] rfl)

set_option maxHeartbeats 4000000 in
set_option maxRecDepth 100000 in
theorem c_X2_packed (l : Launch) (D : va_G) (ad : Nat → Nat) (tc : Nat → ClassId) (I : Mi) (L : Ml) (T : Tb) (hT : pN I T) (u half : Nat) (hu : u < 12) (hh : half < 2) : Met l yX2_packed wsX2_packed ({ frames := 0, cells := 0, slots := 0, locals := 0 } : Room) (va_Pc [.ref (ad 7), .int (nI u), .int (nI half)] (gPc D ad tc I L)) (vp_Si (fun r => nI (pu_pk (fun x => T u (8 * half + x)) 8) = r)) 0 0 gN := by
  refine g_of (by decide) rfl (Nat.le_of_ble_eq_true rfl) ?_
  intro p e s m below meth c hcx hr hlocks hK hG ls hl
  obtain ⟨hx, hb, hml, hown, hts⟩ := id hcx
  have hl : lv_has ls 5 [(0, .ref (ad 7)), (1, .int (nI u)), (2, .int (nI half))] := hl
  refine lv_iconst (v := 0) hx hb dX2_packed_0 (by decide) ?_
  refine lv_istore_n (lv' := [(3, .int 0), (0, .ref (ad 7)), (1, .int (nI u)), (2, .int (nI half))]) hx hb dX2_packed_1 rfl hl (by decide) rfl (fun ls hl => ?_)
  refine lv_iconst (v := 0) hx hb dX2_packed_2 (by decide) ?_
  refine lv_istore (lv' := [(4, .int 0), (3, .int 0), (0, .ref (ad 7)), (1, .int (nI u)), (2, .int (nI half))]) hx hb dX2_packed_3 hl (by decide) rfl (fun ls hl => ?_)
  have lp5 : ∀ (n : Nat) (k : Nat), (k ≤ 8) → (9 ≤ k + n) → ∀ ls : Array Slot, lv_has ls 5 [(0, .ref (ad 7)), (1, .int (nI u)), (2, .int (nI half)), (3, .int (nI (pu_pk (fun x => T u (8 * half + x)) k))), (4, .int (nI k))] → W p l e (headSpec wsX2_packed ({ frames := 0, cells := 0, slots := 0, locals := 0 } : Room)).room s m ([.ref (ad 7), .int (nI u), .int (nI half)] : List Value).toArray below meth c s.heap [] 0 0 (MQ below (vp_Si (fun r => nI (pu_pk (fun x => T u (8 * half + x)) 8) = r)) ([.ref (ad 7), .int (nI u), .int (nI half)] : List Value).toArray s 0 0 gN) (F0 m 5 ls []) := by
    intro n
    induction n with
    | zero =>
      intro k hk hn ls hl
      exact absurd hn (by omega)
    | succ n ih5 =>
      intro k hk hn ls hl
      refine lv_iload hx hb dX2_packed_5 (lv_at hl 4 rfl) ?_
      refine lv_bipush (v := 8) hx hb dX2_packed_7 (by decide) ?_
      refine lv_icmp_ge (tgt := 40) hx hb dX2_packed_9 (by decide) (fun c9 => ?_) (fun c9 => ?_)
      · -- 9: jumps
        have b9 := g_le (a := 8) (b := k) c9 (by omega) (by omega)
        refine lv_iload_n hx hb dX2_packed_40 rfl (lv_at hl 3 rfl) ?_
        exact g_riS hx hb hr hlocks (by rw [show k = 8 by omega]) dX2_packed_41
      · -- 9: goes on
        have b9 := g_nle (a := 8) (b := k) c9 (by omega) (by omega)
        refine lv_iload_n hx hb dX2_packed_12 rfl (lv_at hl 3 rfl) ?_
        refine lv_aload_n hx hb dX2_packed_13 rfl (lv_at hl 0 rfl) ?_
        refine g_get (v := .ref (ad 8)) hx hb hts (by decide +kernel) hown hK hG 7 (by decide) gc_7 rfl 0 (by decide) (hts (.fieldLink RX2 11 "NeighbourScores$Ratings" "table" "[[I") (by decide +kernel)) (fun _ h9 => h9) rfl dX2_packed_14 ?_
        refine lv_iload_n hx hb dX2_packed_17 rfl (lv_at hl 1 rfl) ?_
        refine g_aald hx hb hK hG 8 3 (by decide) gc_8 rfl rfl u rfl (by omega) (by decide) dX2_packed_18 ?_
        refine lv_bipush (v := 8) hx hb dX2_packed_19 (by decide) ?_
        refine lv_iload_n hx hb dX2_packed_21 rfl (lv_at hl 2 rfl) ?_
        refine lv_imul hx hb dX2_packed_22 ?_
        refine g_i (y := nI (8 * half)) (pk_mul 8 half) ?_
        refine lv_iload hx hb dX2_packed_23 (lv_at hl 4 rfl) ?_
        refine lv_iadd hx hb dX2_packed_25 ?_
        refine g_i (y := nI ((8 * half) + k)) (nI_add (8 * half) k) ?_
        refine g_iald hx hb hK hG (10 + u) (by omega) (gc_tab (u := u) (by omega)) ((8 * half) + k) rfl (by omega) (by omega) dX2_packed_26 ?_
        refine g_i (y := nI (T u (8 * half + k))) (hT.2.1 u (8 * half + k) hu (by omega)) ?_
        refine lv_iconst (v := 4) hx hb dX2_packed_27 (by decide) ?_
        refine lv_iload hx hb dX2_packed_28 (lv_at hl 4 rfl) ?_
        refine lv_imul hx hb dX2_packed_30 ?_
        refine g_i (y := nI (4 * k)) (pk_mul 4 k) ?_
        refine lv_ishl hx hb dX2_packed_31 ?_
        refine g_i (y := nI (T u (8 * half + k) * 2 ^ (4 * k))) (pk_shlN _ (4 * k) (pu_shl k (by omega)) (by have := hT.1 u (8 * half + k) hu (by omega); have := Nat.mul_le_mul this (pu_pow k (by omega)); omega)) ?_
        refine lv_iadd hx hb dX2_packed_32 ?_
        refine g_i (y := nI ((pu_pk (fun x => T u (8 * half + x)) k) + (T u (8 * half + k) * 2 ^ (4 * k)))) (nI_add (pu_pk (fun x => T u (8 * half + x)) k) (T u (8 * half + k) * 2 ^ (4 * k))) ?_
        refine lv_istore_n (lv' := [(3, .int (nI ((pu_pk (fun x => T u (8 * half + x)) k) + (T u (8 * half + k) * 2 ^ (4 * k))))), (0, .ref (ad 7)), (1, .int (nI u)), (2, .int (nI half)), (4, .int (nI k))]) hx hb dX2_packed_33 rfl hl (by decide) rfl (fun ls hl => ?_)
        refine lv_iinc (v := nI (k + 1)) (lv' := [(4, .int (nI (k + 1))), (3, .int (nI ((pu_pk (fun x => T u (8 * half + x)) k) + (T u (8 * half + k) * 2 ^ (4 * k))))), (0, .ref (ad 7)), (1, .int (nI u)), (2, .int (nI half))]) hx hb dX2_packed_34 hl (k := 4) rfl (nI_1 _) (by decide) rfl (fun ls hl => ?_)
        refine lv_goto (tgt := 5) hx hb dX2_packed_37 (by decide) ?_
        exact ih5 (k + 1) (by omega) (by omega) ls (lv_sub hl [2, 3, 4, 1, 0] rfl)
  exact lp5 9 0 (by omega) (by omega) ls (lv_sub hl [2, 3, 4, 1, 0] rfl)

set_option maxHeartbeats 4000000 in
set_option maxRecDepth 100000 in
theorem c_X2_unpack (l : Launch) (D : va_G) (ad : Nat → Nat) (tc : Nat → ClassId) (I : Mi) (L : Ml) (T : Tb) (hT : pN I T) (u half : Nat) (pv : Int32) (hu : u < 12) (hh : half < 2) : Met l yX2_unpack wsX2_unpack ({ frames := 1, cells := 0, slots := 0, locals := 26 } : Room) (va_Pc [.ref (ad 7), .int (nI u), .int (nI half), .int pv] (gPc D ad tc I L)) (gQv D ad tc (fun I1 L1 => pN I1 (pu_un T u half pv 8) ∧ (∀ a, a < 10 ∨ 38 ≤ a → I1 a = I a) ∧ L = L1)) 0 0 (gA ad) := by
  refine g_of (by decide) rfl (Nat.le_of_ble_eq_true rfl) ?_
  intro p e s m below meth c hcx hr hlocks hK hG ls hl
  obtain ⟨hx, hb, hml, hown, hts⟩ := id hcx
  have hl : lv_has ls 6 [(0, .ref (ad 7)), (1, .int (nI u)), (2, .int (nI half)), (3, .int pv)] := hl
  refine lv_iconst (v := 0) hx hb dX2_unpack_0 (by decide) ?_
  refine lv_istore (lv' := [(4, .int 0), (0, .ref (ad 7)), (1, .int (nI u)), (2, .int (nI half)), (3, .int pv)]) hx hb dX2_unpack_1 hl (by decide) rfl (fun ls hl => ?_)
  have lp3 : ∀ (n : Nat) (k : Nat) (I_3 : Mi) (H : Heap) (locs : List Loc), (k ≤ 8) → (9 ≤ k + n) → (pN I_3 (pu_un T u half pv k)) → (∀ a, a < 10 ∨ 38 ≤ a → I_3 a = I a) → gG D ad tc (gA ad) s.heap I_3 L H locs → ∀ ls : Array Slot, lv_has ls 6 [(0, .ref (ad 7)), (1, .int (nI u)), (2, .int (nI half)), (3, .int pv), (4, .int (nI k))] → W p l e (headSpec wsX2_unpack ({ frames := 1, cells := 0, slots := 0, locals := 26 } : Room)).room s m ([.ref (ad 7), .int (nI u), .int (nI half), .int pv] : List Value).toArray below meth c H locs 0 0 (MQ below (gQv D ad tc (fun I1 L1 => pN I1 (pu_un T u half pv 8) ∧ (∀ a, a < 10 ∨ 38 ≤ a → I1 a = I a) ∧ L = L1)) ([.ref (ad 7), .int (nI u), .int (nI half), .int pv] : List Value).toArray s 0 0 (gA ad)) (F0 m 3 ls []) := by
    intro n
    induction n with
    | zero =>
      intro k I_3 H locs hk hn h1 hf hG ls hl
      exact absurd hn (by omega)
    | succ n ih3 =>
      intro k I_3 H locs hk hn h1 hf hG ls hl
      refine lv_iload hx hb dX2_unpack_3 (lv_at hl 4 rfl) ?_
      refine lv_bipush (v := 8) hx hb dX2_unpack_5 (by decide) ?_
      refine lv_icmp_ge (tgt := 51) hx hb dX2_unpack_7 (by decide) (fun c7 => ?_) (fun c7 => ?_)
      · -- 7: jumps
        have b7 := g_le (a := 8) (b := k) c7 (by omega) (by omega)
        exact g_rv hx hb hr hlocks hG ⟨by rw [show k = 8 by omega] at h1; exact h1, hf, rfl⟩ dX2_unpack_51
      · -- 7: goes on
        have b7 := g_nle (a := 8) (b := k) c7 (by omega) (by omega)
        refine lv_iload_n hx hb dX2_unpack_10 rfl (lv_at hl 3 rfl) ?_
        refine lv_iconst (v := 4) hx hb dX2_unpack_11 (by decide) ?_
        refine lv_iload hx hb dX2_unpack_12 (lv_at hl 4 rfl) ?_
        refine lv_imul hx hb dX2_unpack_14 ?_
        refine g_i (y := nI (4 * k)) (pk_mul 4 k) ?_
        refine lv_iushr (v := (pv.toUInt32 >>> ((nI (4 * k) : Int32).toUInt32 &&& Int32.toUInt32 31)).toInt32) hx hb dX2_unpack_15 rfl ?_
        refine lv_bipush (v := 15) hx hb dX2_unpack_16 (by decide) ?_
        refine lv_iand hx hb dX2_unpack_18 ?_
        refine g_i (y := nI (pv.toBitVec.toNat / 2 ^ (4 * k) % 16)) (pu_nibE pv k (by omega)) ?_
        refine lv_istore (lv' := [(5, .int (nI (pv.toBitVec.toNat / 2 ^ (4 * k) % 16))), (0, .ref (ad 7)), (1, .int (nI u)), (2, .int (nI half)), (3, .int pv), (4, .int (nI k))]) hx hb dX2_unpack_19 hl (by decide) rfl (fun ls hl => ?_)
        refine lv_aload_n hx hb dX2_unpack_21 rfl (lv_at hl 1 rfl) ?_
        refine lv_iload_n hx hb dX2_unpack_22 rfl (lv_at hl 2 rfl) ?_
        refine lv_bipush (v := 8) hx hb dX2_unpack_23 (by decide) ?_
        refine lv_iload_n hx hb dX2_unpack_25 rfl (lv_at hl 3 rfl) ?_
        refine lv_imul hx hb dX2_unpack_26 ?_
        refine g_i (y := nI (8 * half)) (pk_mul 8 half) ?_
        refine lv_iload hx hb dX2_unpack_27 (lv_at hl 5 rfl) ?_
        refine lv_iadd hx hb dX2_unpack_29 ?_
        refine g_i (y := nI ((8 * half) + k)) (nI_add (8 * half) k) ?_
        refine lv_iload hx hb dX2_unpack_30 (lv_at hl 0 rfl) ?_
        refine lv_iconst (v := 5) hx hb dX2_unpack_32 (by decide) ?_
        refine lv_icmp_le (tgt := 40) hx hb dX2_unpack_33 (by decide) (fun c33 => ?_) (fun c33 => ?_)
        · -- 33: jumps
          have b33 := g_le (a := (pv.toBitVec.toNat / 2 ^ (4 * k) % 16)) (b := 5) c33 (by omega) (by omega)
          refine lv_iload hx hb dX2_unpack_40 (lv_at hl 0 rfl) ?_
          refine g_cv (va_runV (As := [.int (nI u), .int (nI ((8 * half) + k)), .int (nI (pv.toBitVec.toNat / 2 ^ (4 * k) % 16))]) (rest := []) hcx (c_X2_set l D ad tc I_3 L _ h1 u (8 * half + k) (pv.toBitVec.toNat / 2 ^ (4 * k) % 16) hu (by omega) (by omega)) (cwV 3 hts gX2_unpack_X2_set rfl rfl rfl (by decide +kernel) ⟨Nat.le_of_ble_eq_true rfl, Nat.le_of_ble_eq_true rfl⟩) (g_pV hK hG 7 (by decide) gc_7 rfl) rfl rfl hl.1 rfl (lv_room (Nat.le_of_ble_eq_true rfl)) dX2_unpack_42 ⟨Nat.le_refl _, Nat.le_refl _⟩) hK hG (fun I_42 L_42 H locs hw_42 hG => ?_)
          obtain rfl := hw_42.2.2
          have e9 : pu_nib pv k = pv.toBitVec.toNat / 2 ^ (4 * k) % 16 := by unfold pu_nib; first | rw [if_neg (by omega)] | rw [if_pos (by omega)]
          refine lv_iinc (v := nI (k + 1)) (lv' := [(4, .int (nI (k + 1))), (5, .int (nI (pv.toBitVec.toNat / 2 ^ (4 * k) % 16))), (0, .ref (ad 7)), (1, .int (nI u)), (2, .int (nI half)), (3, .int pv)]) hx hb dX2_unpack_45 hl (k := 5) rfl (nI_1 _) (by decide) rfl (fun ls hl => ?_)
          refine lv_goto (tgt := 3) hx hb dX2_unpack_48 (by decide) ?_
          exact ih3 (k + 1) _ _ _ (by omega) (by omega) (pN_congr (fun a b _ _ => pu_un_s (by omega) e9) hw_42.1) (fun a ha => (hw_42.2.1 a ha).trans (hf a ha)) hG ls (lv_sub hl [2, 3, 4, 5, 0] rfl)
        · -- 33: goes on
          have b33 := g_nle (a := (pv.toBitVec.toNat / 2 ^ (4 * k) % 16)) (b := 5) c33 (by omega) (by omega)
          refine lv_iconst (v := 0) hx hb dX2_unpack_36 (by decide) ?_
          refine lv_goto (tgt := 42) hx hb dX2_unpack_37 (by decide) ?_
          refine g_cv (va_runV (As := [.int (nI u), .int (nI ((8 * half) + k)), .int 0]) (rest := []) hcx (c_X2_set l D ad tc I_3 L _ h1 u (8 * half + k) 0 hu (by omega) (by omega)) (cwV 3 hts gX2_unpack_X2_set rfl rfl rfl (by decide +kernel) ⟨Nat.le_of_ble_eq_true rfl, Nat.le_of_ble_eq_true rfl⟩) (g_pV hK hG 7 (by decide) gc_7 rfl) rfl rfl hl.1 rfl (lv_room (Nat.le_of_ble_eq_true rfl)) dX2_unpack_42 ⟨Nat.le_refl _, Nat.le_refl _⟩) hK hG (fun I_42 L_42 H locs hw_42 hG => ?_)
          obtain rfl := hw_42.2.2
          have e9 : pu_nib pv k = 0 := by unfold pu_nib; first | rw [if_neg (by omega)] | rw [if_pos (by omega)]
          refine lv_iinc (v := nI (k + 1)) (lv' := [(4, .int (nI (k + 1))), (5, .int (nI (pv.toBitVec.toNat / 2 ^ (4 * k) % 16))), (0, .ref (ad 7)), (1, .int (nI u)), (2, .int (nI half)), (3, .int pv)]) hx hb dX2_unpack_45 hl (k := 5) rfl (nI_1 _) (by decide) rfl (fun ls hl => ?_)
          refine lv_goto (tgt := 3) hx hb dX2_unpack_48 (by decide) ?_
          exact ih3 (k + 1) _ _ _ (by omega) (by omega) (pN_congr (fun a b _ _ => pu_un_s (by omega) e9) hw_42.1) (fun a ha => (hw_42.2.1 a ha).trans (hf a ha)) hG ls (lv_sub hl [2, 3, 4, 5, 0] rfl)
  exact lp3 9 0 _ _ _ (by omega) (by omega) (pN_congr (fun a b _ _ => (if_neg (by omega)).symm) hT) (fun _ _ => rfl) hG ls (lv_sub hl [1, 2, 3, 4, 0] rfl)
