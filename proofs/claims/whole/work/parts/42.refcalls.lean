set_option maxRecDepth 100000 in
set_option maxHeartbeats 4000000 in
theorem m_X6_worth (l : Launch) (D : va_G) (cs : CS3) (ad : Nat → Nat) (t : St) (b : St) (P R C : Nat) (r : Int32) (hB : WF b P R C) (hA : AM b t): CT l yX6_worth cX6_worth 2 (some .int) (rmk 3 73) (wM cs ad) (tyX cs) D [.ref (ad 0), .int r] t (va_Qi (fun z u => z = (G_worth b P R r).1 ∧ AM (G_worth b P R r).2 u)) := by
  refine CT.of (own := RX6) (by decide) rfl (Nat.le_of_ble_eq_true rfl) ?_
  intro p9 e9 s m9 args below meth c9 A Q hC hr hlk hW hQ ls hl
  obtain ⟨hx, hb, hml, hown, hts⟩ := id hC
  have hl : lv_has ls 2 [(0, .ref (ad 0)), (1, .int r)] := hl
  obtain ⟨⟨bP, hP8, bR, hR5, bC, hC8, hlen⟩, hl4, hPR, hrg, hrd⟩ := id hB
  obtain ⟨⟨a0, a1, a2, a3, a4⟩, ⟨v4, v5, v6, v7, v8, v16, v17⟩, hsh⟩ := id hA
  have hP : t.1 2 = nI P := a2.trans bP
  have hR : t.1 3 = nI R := a3.trans bR
  have hc4 : t.1 12 = nI C := a4.trans bC
  refine lv_aload_n hx hb dX6_worth_0 rfl (lv_at hl 0 rfl) ?_
  refine lv_iload_n hx hb dX6_worth_1 rfl (lv_at hl 1 rfl) ?_
  refine fin_i (run_V (rest := []) hC hW (m_X6_isRider l D cs ad t R r hR) k_yX6_isRider ⟨rfl, rfl⟩ q_ml_RX6_121 eM_0 rfl rfl hl.1 rfl (Nat.le_of_ble_eq_true rfl) ⟨Nat.le_of_ble_eq_true rfl, Nat.le_of_ble_eq_true rfl⟩ dX6_worth_2 ⟨Nat.zero_le _, Nat.zero_le _⟩) hW (fun r1 u1 H locs hp1 hW => ?_)
  have hW := hx_congr hW hp1.2
  refine r_top hp1.1 ?_
  refine lv_if_eq (tgt := 27) hx hb dX6_worth_5 (by decide) (fun c_5_2 => ?_) (fun c_5_2 => ?_)
  · have c_5_2 := bI_z.mp c_5_2
    refine lv_iconst (v := (-1)) hx hb dX6_worth_27 (by decide) ?_
    have hF : G_worth b P R r = ((-1), b) := by unfold G_worth; rw [if_neg c_5_2]  <;> (try rfl)
    exact r_ireti hC hr hlk hW hQ (⟨by rw [hF], by rw [hF]; exact hA⟩) dX6_worth_28
  · have c_5_2 := bI_nz c_5_2
    obtain ⟨q_r, hq_r, rfl⟩ := inN_ex c_5_2 (by omega)
    refine lv_aload_n hx hb dX6_worth_8 rfl (lv_at hl 0 rfl) ?_
    refine lv_iload_n hx hb dX6_worth_9 rfl (lv_at hl 1 rfl) ?_
    refine lv_iconst (v := 1) hx hb dX6_worth_10 (by decide) ?_
    refine fin_i (run_V (rest := []) hC hW (m_X6_othersHeights1 l D cs ad t P R q_r hP hP8 hR hR5 (by omega)) k_yX6_othersHeights ⟨rfl, rfl⟩ q_ml_RX6_190 eM_0 rfl rfl hl.1 rfl (Nat.le_of_ble_eq_true rfl) ⟨Nat.le_of_ble_eq_true rfl, Nat.le_of_ble_eq_true rfl⟩ dX6_worth_11 ⟨Nat.zero_le _, Nat.zero_le _⟩) hW (fun r3 u3 H locs hp3 hW => ?_)
    obtain ⟨hru3, hgu3⟩ := hp3
    have hlu3 := hgu3.lm
    rw [hA.eh P, hA.eb] at hru3
    refine r_top hru3 ?_
    refine lv_aload_n hx hb dX6_worth_14 rfl (lv_at hl 0 rfl) ?_
    refine lv_iload_n hx hb dX6_worth_15 rfl (lv_at hl 1 rfl) ?_
    refine lv_iconst (v := 0) hx hb dX6_worth_16 (by decide) ?_
    refine fin_i (run_V (rest := [.int (hoF (hX P b) R q_r true R 0 (beg b) 0)]) hC hW (m_X6_othersHeights0 l D cs ad u3 P R q_r ((hlu3.1 2 (by omega)).trans hP) hP8 ((hlu3.1 3 (by omega)).trans hR) hR5 (by omega)) k_yX6_othersHeights ⟨rfl, rfl⟩ q_ml_RX6_190 eM_0 rfl rfl hl.1 rfl (Nat.le_of_ble_eq_true rfl) ⟨Nat.le_of_ble_eq_true rfl, Nat.le_of_ble_eq_true rfl⟩ dX6_worth_17 ⟨Nat.zero_le _, Nat.zero_le _⟩) hW (fun r4 u4 H locs hp4 hW => ?_)
    obtain ⟨hru4, hgu4⟩ := hp4
    rw [hlu3.eh, hlu3.eb] at hru4
    have hlu4 := hlu3.tr hgu4.lm
    rw [hA.eh P, hA.eb] at hru4
    refine r_top hru4 ?_
    refine lv_isub hx hb dX6_worth_20 ?_
    refine lv_bipush (v := 100) hx hb dX6_worth_21 (by decide) ?_
    refine lv_iadd hx hb dX6_worth_23 ?_
    refine lv_goto (tgt := 28) hx hb dX6_worth_24 (by decide) ?_
    have hF : G_worth b P R (nI q_r) = (((hoF (hX P b) R q_r true R 0 (beg b) 0) - (hoF (hX P b) R q_r false R 0 (beg b) 0)) + 100, b) := by unfold G_worth; rw [if_pos c_5_2, nI_clamp (show q_r < 2 ^ 31 by omega)] <;> (try rw [nI_clamp (show q_r < 2 ^ 31 by omega)]) <;> (try rfl)
    exact r_ireti hC hr hlk hW hQ (⟨by rw [hF], by rw [hF]; exact hA.lm hlu4⟩) dX6_worth_28
set_option maxRecDepth 100000 in
set_option maxHeartbeats 4000000 in
theorem m_X6_sand (l : Launch) (D : va_G) (cs : CS3) (ad : Nat → Nat) (t : St) (b : St) (P R C : Nat) (r : Int32) (hB : WF b P R C) (hA : AM b t): CT l yX6_sand cX6_sand 4 (some .int) (rmk 2 48) (wM cs ad) (tyX cs) D [.ref (ad 0), .int r] t (va_Qi (fun z u => z = (G_sand b P R r).1 ∧ AM (G_sand b P R r).2 u)) := by
  refine CT.of (own := RX6) (by decide) rfl (Nat.le_of_ble_eq_true rfl) ?_
  intro p9 e9 s m9 args below meth c9 A Q hC hr hlk hW hQ ls hl
  obtain ⟨hx, hb, hml, hown, hts⟩ := id hC
  have hl : lv_has ls 4 [(0, .ref (ad 0)), (1, .int r)] := hl
  obtain ⟨⟨bP, hP8, bR, hR5, bC, hC8, hlen⟩, hl4, hPR, hrg, hrd⟩ := id hB
  obtain ⟨⟨a0, a1, a2, a3, a4⟩, ⟨v4, v5, v6, v7, v8, v16, v17⟩, hsh⟩ := id hA
  have hP : t.1 2 = nI P := a2.trans bP
  have hR : t.1 3 = nI R := a3.trans bR
  have hc4 : t.1 12 = nI C := a4.trans bC
  refine lv_aload_n hx hb dX6_sand_0 rfl (lv_at hl 0 rfl) ?_
  refine lv_iload_n hx hb dX6_sand_1 rfl (lv_at hl 1 rfl) ?_
  refine fin_i (run_V (rest := []) hC hW (m_X6_isRider l D cs ad t R r hR) k_yX6_isRider ⟨rfl, rfl⟩ q_ml_RX6_121 eM_0 rfl rfl hl.1 rfl (Nat.le_of_ble_eq_true rfl) ⟨Nat.le_of_ble_eq_true rfl, Nat.le_of_ble_eq_true rfl⟩ dX6_sand_2 ⟨Nat.zero_le _, Nat.zero_le _⟩) hW (fun r1 u1 H locs hp1 hW => ?_)
  have hW := hx_congr hW hp1.2
  refine r_top hp1.1 ?_
  refine lv_if_ne (tgt := 10) hx hb dX6_sand_5 (by decide) (fun c_5_2 => ?_) (fun c_5_2 => ?_)
  · have c_5_2 := bI_nz c_5_2
    obtain ⟨q_r, hq_r, rfl⟩ := inN_ex c_5_2 (by omega)
    refine lv_iconst (v := 1) hx hb dX6_sand_10 (by decide) ?_
    refine lv_aload_n hx hb dX6_sand_11 rfl (lv_at hl 0 rfl) ?_
    refine gM_paces hC hW q_fl_RX6_71 dX6_sand_12 ?_
    refine r_top (y := nI P) hP ?_
    refine lv_ishl hx hb dX6_sand_15 ?_
    refine r_top (y := nI (2 ^ P)) (shl_1 (by omega)) ?_
    have hp8 := pow8 hP8
    refine lv_iconst (v := 1) hx hb dX6_sand_16 (by decide) ?_
    refine lv_isub hx hb dX6_sand_17 ?_
    refine r_top (y := nI (2 ^ P - 1)) (by rw [show (1 : Int32) = nI 1 from rfl, pk_sub (by omega)]) ?_
    refine lv_istore_n (lv' := [(2, .int (nI (2 ^ P - 1))), (0, .ref (ad 0)), (1, .int (nI q_r))]) hx hb dX6_sand_18 rfl hl (by decide) rfl (fun ls hl => ?_)
    refine lv_iconst (v := 0) hx hb dX6_sand_19 (by decide) ?_
    refine lv_istore_n (lv' := [(3, .int 0), (2, .int (nI (2 ^ P - 1))), (0, .ref (ad 0)), (1, .int (nI q_r))]) hx hb dX6_sand_20 rfl hl (by decide) rfl (fun ls hl => ?_)
    have loop_21_3 : ∀ (f9 : Nat) (z : Nat) (g : Nat), (z ≤ 2 ^ P) → (g < 2 ^ P) → (sandU (hX P b) (b.2 3) q_r (b.2 5 q_r) (2 ^ P - z) z g = sandU (hX P b) (b.2 3) q_r (b.2 5 q_r) (2 ^ P) 0 (2 ^ P - 1)) → 2 ^ P - z < f9 → ∀ (H : Heap) (locs : List Loc), HX (wM cs ad) (tyX cs) D A s.heap s t H locs → ∀ ls : Array Slot, lv_has ls 4 [(3, .int (nI z)), (2, .int (nI g)), (0, .ref (ad 0)), (1, .int (nI q_r))] → W p9 l e9 (rmk 2 48) s m9 args below meth c9 H locs 0 0 Q (F0 m9 21 ls []) := by
      intro f_21
      induction f_21 with
      | zero => intro z g hz hg hE hm_21 H locs hW ls hl; exact absurd hm_21 (Nat.not_lt_zero _)
      | succ f_21 ih_21 =>
        intro z g hz hg hE hm_21 H locs hW ls hl
        have hq1 := pcN_le 9 z
        have hq2 := pcN_le 9 g
        refine lv_iload_n hx hb dX6_sand_21 rfl (lv_at hl 0 rfl) ?_
        refine lv_iconst (v := 1) hx hb dX6_sand_22 (by decide) ?_
        refine lv_aload_n hx hb dX6_sand_23 rfl (lv_at hl 2 rfl) ?_
        refine gM_paces hC hW q_fl_RX6_71 dX6_sand_24 ?_
        refine r_top (y := nI P) hP ?_
        refine lv_ishl hx hb dX6_sand_27 ?_
        refine r_top (y := nI (2 ^ P)) (shl_1 (by omega)) ?_
        refine lv_icmp_ge (tgt := 63) hx hb dX6_sand_28 (by decide) (fun c_28_4 => ?_) (fun c_28_4 => ?_)
        · have c_28_4 : 2 ^ P ≤ z := (nI_leI (a := 2 ^ P) (b := z) (by omega) (by omega)).mp c_28_4
          refine lv_iload_n hx hb dX6_sand_63 rfl (lv_at hl 1 rfl) ?_
          have hF : G_sand b P R (nI q_r) = (nI g, b) := by unfold G_sand; rw [if_pos c_5_2, nI_clamp (show q_r < 2 ^ 31 by omega)] <;> (try rw [nI_clamp (show q_r < 2 ^ 31 by omega)]) <;> (try rfl) <;> (rw [← hE, show 2 ^ P - z = 0 by omega] <;> rfl)
          exact r_ireti hC hr hlk hW hQ (⟨by rw [hF], by rw [hF]; exact hA⟩) dX6_sand_64
        · have c_28_4 : ¬ (2 ^ P) ≤ z := fun h => c_28_4 ((nI_leI (a := 2 ^ P) (b := z) (by omega) (by omega)).mpr h)
          refine lv_iload_n hx hb dX6_sand_31 rfl (lv_at hl 0 rfl) ?_
          refine fin_pi (run_P (rest := []) hC hW.2.2.2.2.2 (m_X6_size l z (by omega)) k_yX6_size ⟨rfl, rfl⟩ q_ml_RX6_178 rfl hl.1 rfl (Nat.le_of_ble_eq_true rfl) ⟨Nat.le_of_ble_eq_true rfl, Nat.le_of_ble_eq_true rfl⟩ dX6_sand_32 ⟨Nat.zero_le _, Nat.zero_le _⟩) (fun rz9 hr9 => ?_)
          refine r_top hr9 ?_
          refine lv_iload_n hx hb dX6_sand_35 rfl (lv_at hl 1 rfl) ?_
          refine fin_pi (run_P (rest := [.int (nI (pcN 9 z))]) hC hW.2.2.2.2.2 (m_X6_size l g (by omega)) k_yX6_size ⟨rfl, rfl⟩ q_ml_RX6_178 rfl hl.1 rfl (Nat.le_of_ble_eq_true rfl) ⟨Nat.le_of_ble_eq_true rfl, Nat.le_of_ble_eq_true rfl⟩ dX6_sand_36 ⟨Nat.zero_le _, Nat.zero_le _⟩) (fun rz9 hr9 => ?_)
          refine r_top hr9 ?_
          refine lv_icmp_ge (tgt := 55) hx hb dX6_sand_39 (by decide) (fun c_39_5 => ?_) (fun c_39_5 => ?_)
          · have c_39_5 : pcN 9 g ≤ pcN 9 z := (nI_leI (a := pcN 9 g) (b := pcN 9 z) (by omega) (by omega)).mp c_39_5
            refine lv_iload_n hx hb dX6_sand_55 rfl (lv_at hl 1 rfl) ?_
            refine lv_istore_n (lv' := [(2, .int (nI g)), (3, .int (nI z)), (0, .ref (ad 0)), (1, .int (nI q_r))]) hx hb dX6_sand_56 rfl hl (by decide) rfl (fun ls hl => ?_)
            refine lv_iinc (v := nI (z + 1)) (lv' := [(3, .int (nI (z + 1))), (2, .int (nI g)), (0, .ref (ad 0)), (1, .int (nI q_r))]) hx hb dX6_sand_57 hl (k := 1) rfl (nI_1 _) (by decide) rfl (fun ls hl => ?_)
            refine lv_goto (tgt := 21) hx hb dX6_sand_60 (by decide) ?_
            exact ih_21 (z + 1) g (by omega) (by omega) (by rw [← hE, show 2 ^ P - z = (2 ^ P - (z + 1)) + 1 by omega, sandU, if_neg (fun h9 => absurd h9.1 (by omega))]) (by omega) _ _ hW ls (lv_sub hl [0, 1, 2, 3] rfl)
          · have c_39_5 : ¬ (pcN 9 g) ≤ (pcN 9 z) := fun h => c_39_5 ((nI_leI (a := pcN 9 g) (b := pcN 9 z) (by omega) (by omega)).mpr h)
            refine lv_aload_n hx hb dX6_sand_42 rfl (lv_at hl 2 rfl) ?_
            refine lv_iload_n hx hb dX6_sand_43 rfl (lv_at hl 3 rfl) ?_
            refine lv_iload_n hx hb dX6_sand_44 rfl (lv_at hl 0 rfl) ?_
            refine fin_i (run_V (rest := []) hC hW (m_X6_isUpBySand l D cs ad t P R q_r (nI z) hP hP8 hR hR5 (by omega)) k_yX6_isUpBySand ⟨rfl, rfl⟩ q_ml_RX6_181 eM_0 rfl rfl hl.1 rfl (Nat.le_of_ble_eq_true rfl) ⟨Nat.le_of_ble_eq_true rfl, Nat.le_of_ble_eq_true rfl⟩ dX6_sand_45 ⟨Nat.zero_le _, Nat.zero_le _⟩) hW (fun r6 u6 H locs hp6 hW => ?_)
            have hW := hx_congr hW hp6.2
            have hr9 : r6 = bI (ssum (hX P b) (b.2 3) q_r (nI z) P 0 0 ≤ b.2 5 q_r) := by rw [hp6.1, hA.eh P, v5, v7]
            refine r_top hr9 ?_
            refine lv_if_eq (tgt := 55) hx hb dX6_sand_48 (by decide) (fun c_48_7 => ?_) (fun c_48_7 => ?_)
            · have c_48_7 := bI_z.mp c_48_7
              refine lv_iload_n hx hb dX6_sand_55 rfl (lv_at hl 1 rfl) ?_
              refine lv_istore_n (lv' := [(2, .int (nI g)), (3, .int (nI z)), (0, .ref (ad 0)), (1, .int (nI q_r))]) hx hb dX6_sand_56 rfl hl (by decide) rfl (fun ls hl => ?_)
              refine lv_iinc (v := nI (z + 1)) (lv' := [(3, .int (nI (z + 1))), (2, .int (nI g)), (0, .ref (ad 0)), (1, .int (nI q_r))]) hx hb dX6_sand_57 hl (k := 1) rfl (nI_1 _) (by decide) rfl (fun ls hl => ?_)
              refine lv_goto (tgt := 21) hx hb dX6_sand_60 (by decide) ?_
              exact ih_21 (z + 1) g (by omega) (by omega) (by rw [← hE, show 2 ^ P - z = (2 ^ P - (z + 1)) + 1 by omega, sandU, if_neg (fun h9 => c_48_7 h9.2)]) (by omega) _ _ hW ls (lv_sub hl [0, 1, 2, 3] rfl)
            · have c_48_7 := bI_nz c_48_7
              refine lv_iload_n hx hb dX6_sand_51 rfl (lv_at hl 0 rfl) ?_
              refine lv_goto (tgt := 56) hx hb dX6_sand_52 (by decide) ?_
              refine lv_istore_n (lv' := [(2, .int (nI z)), (3, .int (nI z)), (0, .ref (ad 0)), (1, .int (nI q_r))]) hx hb dX6_sand_56 rfl hl (by decide) rfl (fun ls hl => ?_)
              refine lv_iinc (v := nI (z + 1)) (lv' := [(3, .int (nI (z + 1))), (2, .int (nI z)), (0, .ref (ad 0)), (1, .int (nI q_r))]) hx hb dX6_sand_57 hl (k := 1) rfl (nI_1 _) (by decide) rfl (fun ls hl => ?_)
              refine lv_goto (tgt := 21) hx hb dX6_sand_60 (by decide) ?_
              exact ih_21 (z + 1) z (by omega) (by omega) (by rw [← hE, show 2 ^ P - z = (2 ^ P - (z + 1)) + 1 by omega, sandU, if_pos ⟨by omega, c_48_7⟩]) (by omega) _ _ hW ls (lv_sub hl [0, 1, 2, 3] rfl)
    exact loop_21_3 _ 0 (2 ^ P - 1) (Nat.zero_le _) (by omega) (rfl) (Nat.lt_succ_self _) _ _ hW ls (lv_sub hl [0, 1, 2, 3] rfl)
  · have c_5_2 := bI_z.mp c_5_2
    refine lv_iconst (v := (-1)) hx hb dX6_sand_8 (by decide) ?_
    have hF : G_sand b P R r = ((-1), b) := by unfold G_sand; rw [if_neg c_5_2]  <;> (try rfl)
    exact r_ireti hC hr hlk hW hQ (⟨by rw [hF], by rw [hF]; exact hA⟩) dX6_sand_9
set_option maxRecDepth 100000 in
set_option maxHeartbeats 4000000 in
theorem m_X6_game (l : Launch) (D : va_G) (cs : CS3) (ad : Nat → Nat) (t : St) (b : St) (P R C : Nat) (r o n : Int32) (hB : WF b P R C) (hA : AM b t): CT l yX6_game cX6_game 6 (some .int) (rmk 3 75) (wM cs ad) (tyX cs) D [.ref (ad 0), .int r, .int o, .int n] t (va_Qi (fun z u => z = (G_game b P R r o n).1 ∧ AM (G_game b P R r o n).2 u)) := by
  refine CT.of (own := RX6) (by decide) rfl (Nat.le_of_ble_eq_true rfl) ?_
  intro p9 e9 s m9 args below meth c9 A Q hC hr hlk hW hQ ls hl
  obtain ⟨hx, hb, hml, hown, hts⟩ := id hC
  have hl : lv_has ls 6 [(0, .ref (ad 0)), (1, .int r), (2, .int o), (3, .int n)] := hl
  obtain ⟨⟨bP, hP8, bR, hR5, bC, hC8, hlen⟩, hl4, hPR, hrg, hrd⟩ := id hB
  obtain ⟨⟨a0, a1, a2, a3, a4⟩, ⟨v4, v5, v6, v7, v8, v16, v17⟩, hsh⟩ := id hA
  have hP : t.1 2 = nI P := a2.trans bP
  have hR : t.1 3 = nI R := a3.trans bR
  have hc4 : t.1 12 = nI C := a4.trans bC
  refine lv_aload_n hx hb dX6_game_0 rfl (lv_at hl 0 rfl) ?_
  refine lv_iload_n hx hb dX6_game_1 rfl (lv_at hl 1 rfl) ?_
  refine fin_i (run_V (rest := []) hC hW (m_X6_isRider l D cs ad t R r hR) k_yX6_isRider ⟨rfl, rfl⟩ q_ml_RX6_121 eM_0 rfl rfl hl.1 rfl (Nat.le_of_ble_eq_true rfl) ⟨Nat.le_of_ble_eq_true rfl, Nat.le_of_ble_eq_true rfl⟩ dX6_game_2 ⟨Nat.zero_le _, Nat.zero_le _⟩) hW (fun r1 u1 H locs hp1 hW => ?_)
  have hW := hx_congr hW hp1.2
  refine r_top hp1.1 ?_
  refine lv_if_eq (tgt := 16) hx hb dX6_game_5 (by decide) (fun c_5_2 => ?_) (fun c_5_2 => ?_)
  · have c_5_2 := bI_z.mp c_5_2
    refine lv_iconst (v := (-1)) hx hb dX6_game_16 (by decide) ?_
    have hF : G_game b P R r o n = ((-1), b) := by unfold G_game; rw [if_neg c_5_2]  <;> (try rfl)
    exact r_ireti hC hr hlk hW hQ (⟨by rw [hF], by rw [hF]; exact hA⟩) dX6_game_17
  · have c_5_2 := bI_nz c_5_2
    obtain ⟨q_r, hq_r, rfl⟩ := inN_ex c_5_2 (by omega)
    refine lv_aload_n hx hb dX6_game_8 rfl (lv_at hl 0 rfl) ?_
    refine lv_iload_n hx hb dX6_game_9 rfl (lv_at hl 2 rfl) ?_
    refine fin_i (run_V (rest := []) hC hW (m_X6_isRider l D cs ad t R o hR) k_yX6_isRider ⟨rfl, rfl⟩ q_ml_RX6_121 eM_0 rfl rfl hl.1 rfl (Nat.le_of_ble_eq_true rfl) ⟨Nat.le_of_ble_eq_true rfl, Nat.le_of_ble_eq_true rfl⟩ dX6_game_10 ⟨Nat.zero_le _, Nat.zero_le _⟩) hW (fun r3 u3 H locs hp3 hW => ?_)
    have hW := hx_congr hW hp3.2
    refine r_top hp3.1 ?_
    refine lv_if_ne (tgt := 18) hx hb dX6_game_13 (by decide) (fun c_13_4 => ?_) (fun c_13_4 => ?_)
    · have c_13_4 := bI_nz c_13_4
      obtain ⟨q_o, hq_o, rfl⟩ := inN_ex c_13_4 (by omega)
      refine lv_iload_n hx hb dX6_game_18 rfl (lv_at hl 1 rfl) ?_
      refine lv_iload_n hx hb dX6_game_19 rfl (lv_at hl 2 rfl) ?_
      refine lv_icmp_eq (tgt := 33) hx hb dX6_game_20 (by decide) (fun c_20_5 => ?_) (fun c_20_5 => ?_)
      · have c_20_5 : q_r = q_o := (nI_eq (a := q_r) (b := q_o) (by omega) (by omega)).mp c_20_5
        refine lv_bipush (v := (-2)) hx hb dX6_game_33 (by decide) ?_
        have hF : G_game b P R (nI q_r) (nI q_o) n = ((-2), b) := by unfold G_game; rw [if_pos c_5_2, nI_clamp (show q_r < 2 ^ 31 by omega), if_pos c_13_4, nI_clamp (show q_o < 2 ^ 31 by omega), if_pos (congrArg nI c_20_5)] <;> (try rw [nI_clamp (show q_r < 2 ^ 31 by omega)]) <;> (try rw [nI_clamp (show q_o < 2 ^ 31 by omega)]) <;> (try rfl)
        exact r_ireti hC hr hlk hW hQ (⟨by rw [hF], by rw [hF]; exact hA⟩) dX6_game_35
      · have c_20_5 : ¬ q_r = q_o := fun h => c_20_5 ((nI_eq (a := q_r) (b := q_o) (by omega) (by omega)).mpr h)
        refine lv_iload_n hx hb dX6_game_23 rfl (lv_at hl 3 rfl) ?_
        refine lv_iconst (v := 0) hx hb dX6_game_24 (by decide) ?_
        refine lv_bipush (v := 10) hx hb dX6_game_25 (by decide) ?_
        refine fin_pi (run_P (rest := []) hC hW.2.2.2.2.2 (m_X6_within l n 0 10) k_yX6_within ⟨rfl, rfl⟩ q_ml_RX6_67 rfl hl.1 rfl (Nat.le_of_ble_eq_true rfl) ⟨Nat.le_of_ble_eq_true rfl, Nat.le_of_ble_eq_true rfl⟩ dX6_game_27 ⟨Nat.zero_le _, Nat.zero_le _⟩) (fun rz9 hr9 => ?_)
        refine r_top hr9 ?_
        refine lv_if_ne (tgt := 36) hx hb dX6_game_30 (by decide) (fun c_30_6 => ?_) (fun c_30_6 => ?_)
        · have c_30_6 := bI_nz c_30_6
          obtain ⟨n0, hn0, rfl⟩ := rng_ex (M := 10) (n := 10) (by decide) c_30_6
          have h1024 : 2 ^ n0 ≤ 1024 := Nat.pow_le_pow_right (n := 2) (by decide) hn0
          refine lv_iconst (v := 0) hx hb dX6_game_36 (by decide) ?_
          refine lv_istore (lv' := [(4, .int 0), (0, .ref (ad 0)), (1, .int (nI q_r)), (2, .int (nI q_o)), (3, .int (nI n0))]) hx hb dX6_game_37 hl (by decide) rfl (fun ls hl => ?_)
          have loop_39_7 : ∀ (f9 : Nat) (z : Nat) (u : St), (z ≤ 2 ^ n0) → (LM t u) → (∀ j, j < z → u.2 15 j = (fun row => eoF (hX P b) q_r q_o row n0 0 (beg b)) j) → 2 ^ n0 - z < f9 → ∀ (H : Heap) (locs : List Loc), HX (wM cs ad) (tyX cs) D A s.heap s u H locs → ∀ ls : Array Slot, lv_has ls 6 [(4, .int (nI z)), (0, .ref (ad 0)), (1, .int (nI q_r)), (2, .int (nI q_o)), (3, .int (nI n0))] → W p9 l e9 (rmk 3 75) s m9 args below meth c9 H locs 0 0 Q (F0 m9 39 ls []) := by
            intro f_39
            induction f_39 with
            | zero => intro z u hz hlm hez hm_39 H locs hW ls hl; exact absurd hm_39 (Nat.not_lt_zero _)
            | succ f_39 ih_39 =>
              intro z u hz hlm hez hm_39 H locs hW ls hl
              refine lv_iload hx hb dX6_game_39 (lv_at hl 0 rfl) ?_
              refine lv_iconst (v := 1) hx hb dX6_game_41 (by decide) ?_
              refine lv_iload_n hx hb dX6_game_42 rfl (lv_at hl 4 rfl) ?_
              refine lv_ishl hx hb dX6_game_43 ?_
              refine r_top (y := nI (2 ^ n0)) (shl_1 (by omega)) ?_
              refine lv_icmp_ge (tgt := 69) hx hb dX6_game_44 (by decide) (fun c_44_8 => ?_) (fun c_44_8 => ?_)
              · have c_44_8 : 2 ^ n0 ≤ z := (nI_leI (a := 2 ^ n0) (b := z) (by omega) (by omega)).mp c_44_8
                refine lv_iload_n hx hb dX6_game_69 rfl (lv_at hl 4 rfl) ?_
                refine lv_iconst (v := 1) hx hb dX6_game_70 (by decide) ?_
                refine lv_isub hx hb dX6_game_71 ?_
                refine lv_istore (lv' := [(4, .int (nI n0 - 1)), (0, .ref (ad 0)), (1, .int (nI q_r)), (2, .int (nI q_o)), (3, .int (nI n0))]) hx hb dX6_game_72 hl (by decide) rfl (fun ls hl => ?_)
                have loop_74_9 : ∀ (f9 : Nat) (k0 : Nat) (E : Nat → Int32) (u2 : St), (k0 ≤ n0) → (LM t u2) → (∀ j, j < 2 ^ k0 → u2.2 15 j = E j) → (gmD k0 E 0 = gmD n0 (fun row => eoF (hX P b) q_r q_o row n0 0 (beg b)) 0) → k0 < f9 → ∀ (H : Heap) (locs : List Loc), HX (wM cs ad) (tyX cs) D A s.heap s u2 H locs → ∀ ls : Array Slot, lv_has ls 6 [(4, .int (nI k0 - 1)), (0, .ref (ad 0)), (1, .int (nI q_r)), (2, .int (nI q_o)), (3, .int (nI n0))] → W p9 l e9 (rmk 3 75) s m9 args below meth c9 H locs 0 0 Q (F0 m9 74 ls []) := by
                  intro f_74
                  induction f_74 with
                  | zero => intro k0 E u2 hk0 hlm2 hes hgm hm_74 H locs hW ls hl; exact absurd hm_74 (Nat.not_lt_zero _)
                  | succ f_74 ih_74 =>
                    intro k0 E u2 hk0 hlm2 hes hgm hm_74 H locs hW ls hl
                    refine lv_iload hx hb dX6_game_74 (lv_at hl 0 rfl) ?_
                    refine lv_if_lt (tgt := 144) hx hb dX6_game_76 (by decide) (fun c_76_10 => ?_) (fun c_76_10 => ?_)
                    · refine lv_aload_n hx hb dX6_game_144 rfl (lv_at hl 1 rfl) ?_
                      refine gM_ends hC hW q_fl_RX6_52 dX6_game_145 ?_
                      refine lv_iconst (v := 0) hx hb dX6_game_148 (by decide) ?_
                      refine r_ildN (t0 := 0) (j := 0) hC hW eM_15 rfl (rfl) (by omega) (by decide) dX6_game_149 ?_
                      refine r_top (y := E 0) (hes 0 (Nat.pow_pos (by decide))) ?_
                      have hF : G_game b P R (nI q_r) (nI q_o) (nI n0) = (E 0, b) := by unfold G_game; rw [if_pos c_5_2, nI_clamp (show q_r < 2 ^ 31 by omega), if_pos c_13_4, nI_clamp (show q_o < 2 ^ 31 by omega), if_neg (fun h9 => c_20_5 ((nI_eq (by omega) (by omega)).mp h9)), if_pos c_30_6, nI_clamp (show n0 < 2 ^ 31 by omega)] <;> (try rw [nI_clamp (show q_r < 2 ^ 31 by omega)]) <;> (try rw [nI_clamp (show q_o < 2 ^ 31 by omega)]) <;> (try rw [nI_clamp (show n0 < 2 ^ 31 by omega)]) <;> (try rfl) <;> (have hk9 : k0 = 0 := (pred_neg (by omega)).mp c_76_10) <;> (rw [← hgm, hk9] <;> rfl)
                      exact r_ireti hC hr hlk hW hQ (⟨by rw [hF], by rw [hF]; exact hA.lm hlm2⟩) dX6_game_150
                    · obtain ⟨k1, rfl⟩ : ∃ k1, k0 = k1 + 1 := ⟨k0 - 1, by have h9 := mt (pred_neg (by omega)).mpr c_76_10; omega⟩
                      rw [nI_pred] at hl
                      have hk10 : k1 + 1 ≤ 10 := by omega
                      have hpw : 2 ^ k1 + 2 ^ k1 ≤ 1024 := by have h9 := Nat.pow_le_pow_right (n := 2) (by decide) hk10; rw [Nat.pow_succ] at h9; omega
                      refine lv_iconst (v := 0) hx hb dX6_game_79 (by decide) ?_
                      refine lv_istore (lv' := [(5, .int 0), (4, .int (nI k1)), (0, .ref (ad 0)), (1, .int (nI q_r)), (2, .int (nI q_o)), (3, .int (nI n0))]) hx hb dX6_game_80 hl (by decide) rfl (fun ls hl => ?_)
                      have loop_82_11 : ∀ (f9 : Nat) (z2 : Nat) (u3 : St), (z2 ≤ 2 ^ k1) → (LM t u3) → (∀ j, j < 2 ^ (k1 + 1) → u3.2 15 j = levF E k1 z2 j) → 2 ^ k1 - z2 < f9 → ∀ (H : Heap) (locs : List Loc), HX (wM cs ad) (tyX cs) D A s.heap s u3 H locs → ∀ ls : Array Slot, lv_has ls 6 [(5, .int (nI z2)), (4, .int (nI k1)), (0, .ref (ad 0)), (1, .int (nI q_r)), (2, .int (nI q_o)), (3, .int (nI n0))] → W p9 l e9 (rmk 3 75) s m9 args below meth c9 H locs 0 0 Q (F0 m9 82 ls []) := by
                        intro f_82
                        induction f_82 with
                        | zero => intro z2 u3 hz2 hlm3 hes3 hm_82 H locs hW ls hl; exact absurd hm_82 (Nat.not_lt_zero _)
                        | succ f_82 ih_82 =>
                          intro z2 u3 hz2 hlm3 hes3 hm_82 H locs hW ls hl
                          refine lv_iload hx hb dX6_game_82 (lv_at hl 0 rfl) ?_
                          refine lv_iconst (v := 1) hx hb dX6_game_84 (by decide) ?_
                          refine lv_iload hx hb dX6_game_85 (lv_at hl 1 rfl) ?_
                          refine lv_ishl hx hb dX6_game_87 ?_
                          refine r_top (y := nI (2 ^ k1)) (shl_1 (by omega)) ?_
                          refine lv_icmp_ge (tgt := 138) hx hb dX6_game_88 (by decide) (fun c_88_12 => ?_) (fun c_88_12 => ?_)
                          · have c_88_12 : 2 ^ k1 ≤ z2 := (nI_leI (a := 2 ^ k1) (b := z2) (by omega) (by omega)).mp c_88_12
                            refine lv_iinc (v := nI k1 - 1) (lv' := [(4, .int (nI k1 - 1)), (5, .int (nI z2)), (0, .ref (ad 0)), (1, .int (nI q_r)), (2, .int (nI q_o)), (3, .int (nI n0))]) hx hb dX6_game_138 hl (k := 1) rfl (by rw [Int32.sub_eq_add_neg]; rfl) (by decide) rfl (fun ls hl => ?_)
                            refine lv_goto (tgt := 74) hx hb dX6_game_141 (by decide) ?_
                            have hzz : z2 = 2 ^ k1 := by omega
                            rw [hzz] at hes3
                            exact ih_74 k1 (levF E k1 (2 ^ k1)) u3 (by omega) (hlm3) (fun j hj => hes3 j (by rw [Nat.pow_succ]; omega)) (hgm) (by omega) _ _ hW ls (lv_sub hl [0, 2, 3, 4, 5] rfl)
                          · have c_88_12 : ¬ (2 ^ k1) ≤ z2 := fun h => c_88_12 ((nI_leI (a := 2 ^ k1) (b := z2) (by omega) (by omega)).mpr h)
                            refine lv_aload_n hx hb dX6_game_91 rfl (lv_at hl 2 rfl) ?_
                            refine gM_ends hC hW q_fl_RX6_52 dX6_game_92 ?_
                            refine lv_iload hx hb dX6_game_95 (lv_at hl 0 rfl) ?_
                            refine lv_aload_n hx hb dX6_game_97 rfl (lv_at hl 2 rfl) ?_
                            refine gM_ends hC hW q_fl_RX6_52 dX6_game_98 ?_
                            refine lv_iload hx hb dX6_game_101 (lv_at hl 0 rfl) ?_
                            refine r_ildN (t0 := 0) (j := z2) hC hW eM_15 rfl (rfl) (by omega) (by decide) dX6_game_103 ?_
                            refine r_top (y := E z2) ((hes3 z2 (by rw [Nat.pow_succ]; omega)).trans (if_neg (by omega))) ?_
                            refine lv_aload_n hx hb dX6_game_104 rfl (lv_at hl 2 rfl) ?_
                            refine gM_ends hC hW q_fl_RX6_52 dX6_game_105 ?_
                            refine lv_iload hx hb dX6_game_108 (lv_at hl 0 rfl) ?_
                            refine lv_iconst (v := 1) hx hb dX6_game_110 (by decide) ?_
                            refine lv_iload hx hb dX6_game_111 (lv_at hl 1 rfl) ?_
                            refine lv_ishl hx hb dX6_game_113 ?_
                            refine r_top (y := nI (2 ^ k1)) (shl_1 (by omega)) ?_
                            refine lv_ior hx hb dX6_game_114 ?_
                            refine r_top (y := nI (z2 + 2 ^ k1)) (nI_orp (by omega)) ?_
                            refine r_ildN (t0 := 0) (j := z2 + 2 ^ k1) hC hW eM_15 rfl (rfl) (by omega) (by decide) dX6_game_115 ?_
                            refine r_top (y := E (z2 + 2 ^ k1)) ((hes3 (z2 + 2 ^ k1) (by rw [Nat.pow_succ]; omega)).trans (if_neg (by omega))) ?_
                            refine lv_iload hx hb dX6_game_116 (lv_at hl 1 rfl) ?_
                            refine lv_iconst (v := 2) hx hb dX6_game_118 (by decide) ?_
                            refine lv_irem hx hb dX6_game_119 (by decide) ?_
                            refine r_top (y := nI (k1 % 2)) (by exact pk_rem (a := k1) (d := 2) (by omega) (by decide) (by decide)) ?_
                            refine lv_if_ne (tgt := 127) hx hb dX6_game_120 (by decide) (fun c_120_13 => ?_) (fun c_120_13 => ?_)
                            · have c_120_13 : ¬ (k1 % 2) = 0 := fun h => c_120_13 ((nI_eq (a := k1 % 2) (b := 0) (by omega) (by omega)).mpr h)
                              refine lv_iconst (v := 2) hx hb dX6_game_127 (by decide) ?_
                              refine fin_pi (run_P (rest := [.int (nI z2), .ref (ad 15)]) hC hW.2.2.2.2.2 (m_X6_better l (E z2) (E (z2 + 2 ^ k1)) 2) k_yX6_better ⟨rfl, rfl⟩ q_ml_RX6_187 rfl hl.1 rfl (Nat.le_of_ble_eq_true rfl) ⟨Nat.le_of_ble_eq_true rfl, Nat.le_of_ble_eq_true rfl⟩ dX6_game_128 ⟨Nat.zero_le _, Nat.zero_le _⟩) (fun rz9 hr9 => ?_)
                              refine r_top hr9 ?_
                              refine r_istN (t0 := 0) (j := z2) hC hW eM_15 rfl (rfl) (by omega) (by decide) (sM_15 _) dX6_game_131 (fun H locs hW => ?_)
                              have hW : HX (wM cs ad) (tyX cs) D A s.heap s (u3.1, va_up u3.2 15 (upd (u3.2 15) z2 (bet (E z2) (E (z2 + 2 ^ k1)) 2))) H locs := hW
                              refine lv_iinc (v := nI (z2 + 1)) (lv' := [(5, .int (nI (z2 + 1))), (4, .int (nI k1)), (0, .ref (ad 0)), (1, .int (nI q_r)), (2, .int (nI q_o)), (3, .int (nI n0))]) hx hb dX6_game_132 hl (k := 0) rfl (nI_1 _) (by decide) rfl (fun ls hl => ?_)
                              refine lv_goto (tgt := 82) hx hb dX6_game_135 (by decide) ?_
                              exact ih_82 (z2 + 1) (u3.1, va_up u3.2 15 (upd (u3.2 15) z2 (bet (E z2) (E (z2 + 2 ^ k1)) 2))) (by omega) (hlm3.arr _ (by decide) (by decide) (by decide)) (fun j hj => by show va_up u3.2 15 (upd (u3.2 15) z2 _) 15 j = _; rw [va_up_self, ← levF_s, if_neg c_120_13]; by_cases h9 : j = z2; rw [h9, pk_us, pk_us]; rw [pk_un h9, pk_un h9]; exact hes3 j hj) (by omega) _ _ hW ls (lv_sub hl [0, 1, 2, 3, 4, 5] rfl)
                            · have c_120_13 : k1 % 2 = 0 := (nI_eq (a := k1 % 2) (b := 0) (by omega) (by omega)).mp c_120_13
                              refine lv_iconst (v := 1) hx hb dX6_game_123 (by decide) ?_
                              refine lv_goto (tgt := 128) hx hb dX6_game_124 (by decide) ?_
                              refine fin_pi (run_P (rest := [.int (nI z2), .ref (ad 15)]) hC hW.2.2.2.2.2 (m_X6_better l (E z2) (E (z2 + 2 ^ k1)) 1) k_yX6_better ⟨rfl, rfl⟩ q_ml_RX6_187 rfl hl.1 rfl (Nat.le_of_ble_eq_true rfl) ⟨Nat.le_of_ble_eq_true rfl, Nat.le_of_ble_eq_true rfl⟩ dX6_game_128 ⟨Nat.zero_le _, Nat.zero_le _⟩) (fun rz9 hr9 => ?_)
                              refine r_top hr9 ?_
                              refine r_istN (t0 := 0) (j := z2) hC hW eM_15 rfl (rfl) (by omega) (by decide) (sM_15 _) dX6_game_131 (fun H locs hW => ?_)
                              have hW : HX (wM cs ad) (tyX cs) D A s.heap s (u3.1, va_up u3.2 15 (upd (u3.2 15) z2 (bet (E z2) (E (z2 + 2 ^ k1)) 1))) H locs := hW
                              refine lv_iinc (v := nI (z2 + 1)) (lv' := [(5, .int (nI (z2 + 1))), (4, .int (nI k1)), (0, .ref (ad 0)), (1, .int (nI q_r)), (2, .int (nI q_o)), (3, .int (nI n0))]) hx hb dX6_game_132 hl (k := 0) rfl (nI_1 _) (by decide) rfl (fun ls hl => ?_)
                              refine lv_goto (tgt := 82) hx hb dX6_game_135 (by decide) ?_
                              exact ih_82 (z2 + 1) (u3.1, va_up u3.2 15 (upd (u3.2 15) z2 (bet (E z2) (E (z2 + 2 ^ k1)) 1))) (by omega) (hlm3.arr _ (by decide) (by decide) (by decide)) (fun j hj => by show va_up u3.2 15 (upd (u3.2 15) z2 _) 15 j = _; rw [va_up_self, ← levF_s, if_pos c_120_13]; by_cases h9 : j = z2; rw [h9, pk_us, pk_us]; rw [pk_un h9, pk_un h9]; exact hes3 j hj) (by omega) _ _ hW ls (lv_sub hl [0, 1, 2, 3, 4, 5] rfl)
                      exact loop_82_11 _ 0 u2 (Nat.zero_le _) (hlm2) (by rw [levF_0]; exact hes) (Nat.lt_succ_self _) _ _ hW ls (lv_sub hl [0, 1, 2, 3, 4, 5] rfl)
                have hz9 : z = 2 ^ n0 := by omega
                rw [hz9] at hez
                exact loop_74_9 _ n0 (fun row => eoF (hX P b) q_r q_o row n0 0 (beg b)) u (Nat.le_refl _) (hlm) (hez) (rfl) (Nat.lt_succ_self _) _ _ hW ls (lv_sub hl [0, 1, 2, 3, 4] rfl)
              · have c_44_8 : ¬ (2 ^ n0) ≤ z := fun h => c_44_8 ((nI_leI (a := 2 ^ n0) (b := z) (by omega) (by omega)).mpr h)
                refine lv_aload_n hx hb dX6_game_47 rfl (lv_at hl 1 rfl) ?_
                refine gM_ends hC hW q_fl_RX6_52 dX6_game_48 ?_
                refine lv_iload hx hb dX6_game_51 (lv_at hl 0 rfl) ?_
                refine lv_aload_n hx hb dX6_game_53 rfl (lv_at hl 1 rfl) ?_
                refine lv_iload_n hx hb dX6_game_54 rfl (lv_at hl 2 rfl) ?_
                refine lv_iload_n hx hb dX6_game_55 rfl (lv_at hl 3 rfl) ?_
                refine lv_iload_n hx hb dX6_game_56 rfl (lv_at hl 4 rfl) ?_
                refine lv_iload hx hb dX6_game_57 (lv_at hl 0 rfl) ?_
                refine fin_i (run_V (rest := [.int (nI z), .ref (ad 15)]) hC hW (m_X6_endOf l D cs ad u P R q_r q_o n0 z ((hlm.1 2 (by omega)).trans hP) hP8 ((hlm.1 3 (by omega)).trans hR) hR5 hq_r hq_o (by omega)) k_yX6_endOf ⟨rfl, rfl⟩ q_ml_RX6_184 eM_0 rfl rfl hl.1 rfl (Nat.le_of_ble_eq_true rfl) ⟨Nat.le_of_ble_eq_true rfl, Nat.le_of_ble_eq_true rfl⟩ dX6_game_59 ⟨Nat.zero_le _, Nat.zero_le _⟩) hW (fun r14 u14 H locs hp14 hW => ?_)
                obtain ⟨hru14, hgu14⟩ := hp14
                rw [hlm.eh, hlm.eb, hA.eh P, hA.eb] at hru14
                refine r_top hru14 ?_
                refine r_istN (t0 := 0) (j := z) hC hW eM_15 rfl (rfl) (by omega) (by decide) (sM_15 _) dX6_game_62 (fun H locs hW => ?_)
                have hW : HX (wM cs ad) (tyX cs) D A s.heap s (u14.1, va_up u14.2 15 (upd (u14.2 15) z (eoF (hX P b) q_r q_o z n0 0 (beg b)))) H locs := hW
                refine lv_iinc (v := nI (z + 1)) (lv' := [(4, .int (nI (z + 1))), (0, .ref (ad 0)), (1, .int (nI q_r)), (2, .int (nI q_o)), (3, .int (nI n0))]) hx hb dX6_game_63 hl (k := 0) rfl (nI_1 _) (by decide) rfl (fun ls hl => ?_)
                refine lv_goto (tgt := 39) hx hb dX6_game_66 (by decide) ?_
                have hlm9 := hlm.tr hgu14.lm
                exact ih_39 (z + 1) (u14.1, va_up u14.2 15 (upd (u14.2 15) z (eoF (hX P b) q_r q_o z n0 0 (beg b)))) (by omega) (hlm9.arr _ (by decide) (by decide) (by decide)) (fun j hj => by show va_up u14.2 15 (upd (u14.2 15) z _) 15 j = _; rw [va_up_self]; by_cases h9 : j = z; rw [h9]; exact pk_us; rw [pk_un h9]; exact (congrFun (hgu14.2 15 (by omega) (by omega) (by omega)) j).trans (hez j (by omega))) (by omega) _ _ hW ls (lv_sub hl [0, 1, 2, 3, 4] rfl)
          exact loop_39_7 _ 0 t (Nat.zero_le _) (LM.rf t) (fun j h => absurd h (by omega)) (Nat.lt_succ_self _) _ _ hW ls (lv_sub hl [0, 1, 2, 3, 4] rfl)
        · have c_30_6 := bI_z.mp c_30_6
          refine lv_bipush (v := (-2)) hx hb dX6_game_33 (by decide) ?_
          have hF : G_game b P R (nI q_r) (nI q_o) n = ((-2), b) := by unfold G_game; rw [if_pos c_5_2, nI_clamp (show q_r < 2 ^ 31 by omega), if_pos c_13_4, nI_clamp (show q_o < 2 ^ 31 by omega), if_neg (fun h9 => c_20_5 ((nI_eq (by omega) (by omega)).mp h9)), if_neg c_30_6] <;> (try rw [nI_clamp (show q_r < 2 ^ 31 by omega)]) <;> (try rw [nI_clamp (show q_o < 2 ^ 31 by omega)]) <;> (try rfl)
          exact r_ireti hC hr hlk hW hQ (⟨by rw [hF], by rw [hF]; exact hA⟩) dX6_game_35
    · have c_13_4 := bI_z.mp c_13_4
      refine lv_iconst (v := (-1)) hx hb dX6_game_16 (by decide) ?_
      have hF : G_game b P R (nI q_r) o n = ((-1), b) := by unfold G_game; rw [if_pos c_5_2, nI_clamp (show q_r < 2 ^ 31 by omega), if_neg c_13_4] <;> (try rw [nI_clamp (show q_r < 2 ^ 31 by omega)]) <;> (try rfl)
      exact r_ireti hC hr hlk hW hQ (⟨by rw [hF], by rw [hF]; exact hA⟩) dX6_game_17
