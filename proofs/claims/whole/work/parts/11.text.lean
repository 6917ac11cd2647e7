set_option maxRecDepth 100000 in
set_option maxHeartbeats 4000000 in
theorem m_X4_firstFault (l : Launch) (D : va_G) (cs : CS3) (ad : Nat → Nat) (t : St) (k : Nat) (hk : k < 4) (i n : Nat) (hin : i + n ≤ 60): CT l yX4_firstFault cX4_firstFault 6 (some .int) (rmk 2 45) (wX cs ad) (tyX cs) D [.ref (ad (14 + 2 * k)), .int (nI i), .int (nI n)] t (va_Qi (fun r u => r = ff (t.2 (15 + 2 * k)) i n n 0 0 ∧ u = t)) := by
  refine CT.of (own := RX4) (by decide) rfl (Nat.le_of_ble_eq_true rfl) ?_
  intro p9 e9 s m9 args below meth c9 A Q hC hr hlk hW hQ ls hl
  obtain ⟨hx, hb, hml, hown, hts⟩ := id hC
  have hl : lv_has ls 6 [(0, .ref (ad (14 + 2 * k))), (1, .int (nI i)), (2, .int (nI n))] := hl
  refine lv_iconst (v := 0) hx hb dX4_firstFault_0 (by decide) ?_
  refine lv_istore_n (lv' := [(3, .int 0), (0, .ref (ad (14 + 2 * k))), (1, .int (nI i)), (2, .int (nI n))]) hx hb dX4_firstFault_1 rfl hl (by decide) rfl (fun ls hl => ?_)
  refine lv_iconst (v := 0) hx hb dX4_firstFault_2 (by decide) ?_
  refine lv_istore (lv' := [(4, .int 0), (3, .int 0), (0, .ref (ad (14 + 2 * k))), (1, .int (nI i)), (2, .int (nI n))]) hx hb dX4_firstFault_3 hl (by decide) rfl (fun ls hl => ?_)
  have loop_5_1 : ∀ (f9 : Nat) (z : Nat) (P : Nat), (z ≤ n) → (P ≤ 8) → (ff (t.2 (15 + 2 * k)) i n (n - z) z P = ff (t.2 (15 + 2 * k)) i n n 0 0) → n - z < f9 → ∀ (H : Heap) (locs : List Loc), HX (wX cs ad) (tyX cs) D A s.heap s t H locs → ∀ ls : Array Slot, lv_has ls 6 [(4, .int (nI z)), (3, .int (nI P)), (0, .ref (ad (14 + 2 * k))), (1, .int (nI i)), (2, .int (nI n))] → W p9 l e9 (rmk 2 45) s m9 args below meth c9 H locs 0 0 Q (F0 m9 5 ls []) := by
    intro f_5
    induction f_5 with
    | zero => intro z P hz hP hE hm_5 H locs hW ls hl; exact absurd hm_5 (Nat.not_lt_zero _)
    | succ f_5 ih_5 =>
      intro z P hz hP hE hm_5 H locs hW ls hl
      refine lv_iload hx hb dX4_firstFault_5 (lv_at hl 0 rfl) ?_
      refine lv_iload_n hx hb dX4_firstFault_7 rfl (lv_at hl 4 rfl) ?_
      refine lv_icmp_ge (tgt := 54) hx hb dX4_firstFault_8 (by decide) (fun c_8_2 => ?_) (fun c_8_2 => ?_)
      · have c_8_2 : n ≤ z := (nI_leI (a := n) (b := z) (by omega) (by omega)).mp c_8_2
        refine lv_iload_n hx hb dX4_firstFault_54 rfl (lv_at hl 4 rfl) ?_
        refine lv_iconst (v := 2) hx hb dX4_firstFault_55 (by decide) ?_
        refine lv_isub hx hb dX4_firstFault_56 ?_
        refine lv_iload_n hx hb dX4_firstFault_57 rfl (lv_at hl 1 rfl) ?_
        refine lv_isub hx hb dX4_firstFault_58 ?_
        refine lv_istore (lv' := [(4, .int (nI n - 2 - nI P)), (3, .int (nI P)), (0, .ref (ad (14 + 2 * k))), (1, .int (nI i)), (2, .int (nI n))]) hx hb dX4_firstFault_59 hl (by decide) rfl (fun ls hl => ?_)
        refine lv_iload hx hb dX4_firstFault_61 (lv_at hl 0 rfl) ?_
        refine lv_if_le (tgt := 78) hx hb dX4_firstFault_63 (by decide) (fun c_63_3 => ?_) (fun c_63_3 => ?_)
        · have hn2 : n - z = 0 := by omega
          have hF : ff (t.2 (15 + 2 * k)) i n n 0 0 = if 2 + P < n ∧ (n - 2 - P) % 5 = 0 then -9 else nI n := by rw [← hE, hn2]; rfl
          have hc2 : ¬ 2 + P < n := codes_le (by omega) (by omega) c_63_3
          refine lv_iload_n hx hb dX4_firstFault_78 rfl (lv_at hl 4 rfl) ?_
          exact r_ireti hC hr hlk hW hQ (⟨by rw [hF, if_neg (fun h9 => hc2 h9.1)], rfl⟩) dX4_firstFault_79
        · have hn2 : n - z = 0 := by omega
          have hF : ff (t.2 (15 + 2 * k)) i n n 0 0 = if 2 + P < n ∧ (n - 2 - P) % 5 = 0 then -9 else nI n := by rw [← hE, hn2]; rfl
          have hc2 : 2 + P < n := codes_gt (by omega) (by omega) c_63_3
          have eb : nI n - 2 - nI P = nI (n - 2 - P) := by rw [show (2 : Int32) = nI 2 from rfl, pk_sub (by omega), pk_sub (by omega)]
          rw [eb] at hl
          refine lv_iload hx hb dX4_firstFault_66 (lv_at hl 0 rfl) ?_
          refine lv_iconst (v := 5) hx hb dX4_firstFault_68 (by decide) ?_
          refine lv_irem hx hb dX4_firstFault_69 (by decide) ?_
          refine r_top (y := nI ((n - 2 - P) % 5)) (by exact pk_rem (a := n - 2 - P) (d := 5) (by omega) (by decide) (by decide)) ?_
          refine lv_if_ne (tgt := 78) hx hb dX4_firstFault_70 (by decide) (fun c_70_4 => ?_) (fun c_70_4 => ?_)
          · have c_70_4 : ¬ ((n - 2 - P) % 5) = 0 := fun h => c_70_4 ((nI_eq (a := (n - 2 - P) % 5) (b := 0) (by omega) (by omega)).mpr h)
            refine lv_iload_n hx hb dX4_firstFault_78 rfl (lv_at hl 4 rfl) ?_
            exact r_ireti hC hr hlk hW hQ (⟨by rw [hF, if_neg (fun h9 => c_70_4 h9.2)], rfl⟩) dX4_firstFault_79
          · have c_70_4 : (n - 2 - P) % 5 = 0 := (nI_eq (a := (n - 2 - P) % 5) (b := 0) (by omega) (by omega)).mp c_70_4
            refine lv_bipush (v := (-9)) hx hb dX4_firstFault_73 (by decide) ?_
            refine lv_goto (tgt := 79) hx hb dX4_firstFault_75 (by decide) ?_
            exact r_ireti hC hr hlk hW hQ (⟨by rw [hF, if_pos ⟨hc2, c_70_4⟩], rfl⟩) dX4_firstFault_79
      · have c_8_2 : ¬ n ≤ z := fun h => c_8_2 ((nI_leI (a := n) (b := z) (by omega) (by omega)).mpr h)
        refine lv_aload_n hx hb dX4_firstFault_11 rfl (lv_at hl 2 rfl) ?_
        refine gX_R_cells k hk hC hW q_fl_RX4_9 dX4_firstFault_12 ?_
        refine lv_iload_n hx hb dX4_firstFault_15 rfl (lv_at hl 3 rfl) ?_
        refine lv_iload hx hb dX4_firstFault_16 (lv_at hl 0 rfl) ?_
        refine lv_iadd hx hb dX4_firstFault_18 ?_
        refine r_top (y := nI (i + z)) (nI_add i z) ?_
        refine r_ildN (t0 := 0) (j := i + z) hC hW (eX_Rc k hk) rfl (rfl) (by omega) (by decide) dX4_firstFault_19 ?_
        refine lv_istore (lv' := [(5, .int (t.2 (15 + 2 * k) (i + z))), (4, .int (nI z)), (3, .int (nI P)), (0, .ref (ad (14 + 2 * k))), (1, .int (nI i)), (2, .int (nI n))]) hx hb dX4_firstFault_20 hl (by decide) rfl (fun ls hl => ?_)
        refine lv_iload hx hb dX4_firstFault_22 (lv_at hl 1 rfl) ?_
        refine lv_iload hx hb dX4_firstFault_24 (lv_at hl 0 rfl) ?_
        refine lv_iload_n hx hb dX4_firstFault_26 rfl (lv_at hl 2 rfl) ?_
        refine fin_pi (run_P (rest := []) hC hW.2.2.2.2.2 (m_X4_goesOn l z (t.2 (15 + 2 * k) (i + z)) P (by omega) (by omega)) k_yX4_goesOn ⟨rfl, rfl⟩ q_ml_RX4_15 rfl hl.1 rfl (Nat.le_of_ble_eq_true rfl) ⟨Nat.le_of_ble_eq_true rfl, Nat.le_of_ble_eq_true rfl⟩ dX4_firstFault_27 ⟨Nat.zero_le _, Nat.zero_le _⟩) (fun r hr9 => ?_)
        refine r_top hr9 ?_
        refine lv_if_ne (tgt := 36) hx hb dX4_firstFault_30 (by decide) (fun c_30_5 => ?_) (fun c_30_5 => ?_)
        · have c_30_5 := bI_nz c_30_5
          refine lv_iload hx hb dX4_firstFault_36 (lv_at hl 1 rfl) ?_
          refine lv_iconst (v := 1) hx hb dX4_firstFault_38 (by decide) ?_
          refine lv_icmp_ne (tgt := 48) hx hb dX4_firstFault_39 (by decide) (fun c_39_6 => ?_) (fun c_39_6 => ?_)
          · have c_39_6 : ¬ z = 1 := fun h => c_39_6 ((nI_eq (a := z) (b := 1) (by omega) (by omega)).mpr h)
            refine lv_iinc (v := nI (z + 1)) (lv' := [(4, .int (nI (z + 1))), (5, .int (t.2 (15 + 2 * k) (i + z))), (3, .int (nI P)), (0, .ref (ad (14 + 2 * k))), (1, .int (nI i)), (2, .int (nI n))]) hx hb dX4_firstFault_48 hl (k := 1) rfl (nI_1 _) (by decide) rfl (fun ls hl => ?_)
            refine lv_goto (tgt := 5) hx hb dX4_firstFault_51 (by decide) ?_
            exact ih_5 (z + 1) P (by omega) (by omega) (by rw [← hE, show n - z = (n - (z + 1)) + 1 by omega]; show _ = ite _ _ _; rw [if_pos c_30_5]; rw [show ffP (t.2 (15 + 2 * k)) i z P = P from if_neg c_39_6]) (by omega) _ _ hW ls (lv_sub hl [0, 2, 3, 4, 5] rfl)
          · have c_39_6 : z = 1 := (nI_eq (a := z) (b := 1) (by omega) (by omega)).mp c_39_6
            refine lv_iload hx hb dX4_firstFault_42 (lv_at hl 0 rfl) ?_
            refine lv_bipush (v := 48) hx hb dX4_firstFault_44 (by decide) ?_
            refine lv_isub hx hb dX4_firstFault_46 ?_
            have hg1 : 50 ≤ t.2 (15 + 2 * k) (i + z) ∧ t.2 (15 + 2 * k) (i + z) ≤ 56 := by have h9 : goP z (t.2 (15 + 2 * k) (i + z)) P := c_30_5; unfold goP at h9; rw [if_neg (by omega), if_pos c_39_6] at h9; exact h9
            obtain ⟨Q0, hQ0, hQ1, eQ⟩ := code_ex hg1.1 hg1.2
            have eQ : t.2 (15 + 2 * k) (i + 1) - 48 = nI Q0 := by rw [← c_39_6]; exact eQ
            refine r_top (y := nI Q0) (by rw [← eQ, c_39_6]) ?_
            refine lv_istore_n (lv' := [(3, .int (nI Q0)), (5, .int (t.2 (15 + 2 * k) (i + z))), (4, .int (nI z)), (0, .ref (ad (14 + 2 * k))), (1, .int (nI i)), (2, .int (nI n))]) hx hb dX4_firstFault_47 rfl hl (by decide) rfl (fun ls hl => ?_)
            refine lv_iinc (v := nI (z + 1)) (lv' := [(4, .int (nI (z + 1))), (3, .int (nI Q0)), (5, .int (t.2 (15 + 2 * k) (i + z))), (0, .ref (ad (14 + 2 * k))), (1, .int (nI i)), (2, .int (nI n))]) hx hb dX4_firstFault_48 hl (k := 2) rfl (nI_1 _) (by decide) rfl (fun ls hl => ?_)
            refine lv_goto (tgt := 5) hx hb dX4_firstFault_51 (by decide) ?_
            exact ih_5 (z + 1) Q0 (by omega) (by omega) (by rw [← hE, show n - z = (n - (z + 1)) + 1 by omega]; show _ = ite _ _ _; rw [if_pos c_30_5]; rw [show ffP (t.2 (15 + 2 * k)) i z P = Q0 from by unfold ffP; rw [if_pos c_39_6, eQ, nI_clamp (by omega)]]) (by omega) _ _ hW ls (lv_sub hl [0, 1, 3, 4, 5] rfl)
        · have c_30_5 := bI_z.mp c_30_5
          refine lv_iload hx hb dX4_firstFault_33 (lv_at hl 1 rfl) ?_
          exact r_ireti hC hr hlk hW hQ (⟨by rw [← hE, show n - z = (n - (z + 1)) + 1 by omega]; show _ = ite _ _ _; rw [if_neg c_30_5], rfl⟩) dX4_firstFault_35
  exact loop_5_1 _ 0 0 (Nat.zero_le _) (Nat.zero_le _) (rfl) (Nat.lt_succ_self _) _ _ hW ls (lv_sub hl [0, 1, 2, 3, 4] rfl)
set_option maxRecDepth 100000 in
set_option maxHeartbeats 4000000 in
theorem m_X5_faultOfCells (l : Launch) (D : va_G) (cs : CS3) (ad : Nat → Nat) (t : St) (k : Nat) (hk : k < 4) (a i n : Int32) : CT l yX5_faultOfCells cX5_faultOfCells 4 (some .int) (rmk 1 22) (wX cs ad) (tyX cs) D [.ref (ad (14 + 2 * k)), .int a, .int i, .int n] t (va_Qi (fun r u => r = focF (t.1 (5 + 2 * k)) (t.1 (6 + 2 * k)) a i n ∧ u = t)) := by
  refine CT.of (own := RX5) (by decide) rfl (Nat.le_of_ble_eq_true rfl) ?_
  intro p9 e9 s m9 args below meth c9 A Q hC hr hlk hW hQ ls hl
  obtain ⟨hx, hb, hml, hown, hts⟩ := id hC
  have hl : lv_has ls 4 [(0, .ref (ad (14 + 2 * k))), (1, .int a), (2, .int i), (3, .int n)] := hl
  refine lv_aload_n hx hb dX5_faultOfCells_0 rfl (lv_at hl 0 rfl) ?_
  refine fin_i (run_V (rest := []) hC hW (m_X2_isNothing l D cs ad t k (hk)) k_yX2_isNothing ⟨rfl, rfl⟩ q_ml_RX5_198 (eX_R k (hk)) rfl rfl hl.1 rfl (Nat.le_of_ble_eq_true rfl) ⟨Nat.le_of_ble_eq_true rfl, Nat.le_of_ble_eq_true rfl⟩ dX5_faultOfCells_1 ⟨Nat.zero_le _, Nat.zero_le _⟩) hW (fun r1 u1 H locs hp1 hW => ?_)
  have hW := hx_congr hW hp1.2
  refine r_top hp1.1 ?_
  refine lv_if_eq (tgt := 9) hx hb dX5_faultOfCells_4 (by decide) (fun c_4_2 => ?_) (fun c_4_2 => ?_)
  · have c_4_2 := bI_z.mp c_4_2
    refine lv_aload_n hx hb dX5_faultOfCells_9 rfl (lv_at hl 0 rfl) ?_
    refine gX_R_lane k hk hC hW q_fl_RX5_201 dX5_faultOfCells_10 ?_
    refine lv_iload_n hx hb dX5_faultOfCells_13 rfl (lv_at hl 1 rfl) ?_
    refine lv_icmp_eq (tgt := 19) hx hb dX5_faultOfCells_14 (by decide) (fun c_14_3 => ?_) (fun c_14_3 => ?_)
    · refine lv_iload_n hx hb dX5_faultOfCells_19 rfl (lv_at hl 3 rfl) ?_
      refine lv_if_ge (tgt := 25) hx hb dX5_faultOfCells_20 (by decide) (fun c_20_4 => ?_) (fun c_20_4 => ?_)
      · refine lv_aload_n hx hb dX5_faultOfCells_25 rfl (lv_at hl 0 rfl) ?_
        refine lv_iload_n hx hb dX5_faultOfCells_26 rfl (lv_at hl 2 rfl) ?_
        refine lv_iload_n hx hb dX5_faultOfCells_27 rfl (lv_at hl 3 rfl) ?_
        refine fin_i (run_V (rest := []) hC hW (m_X2_holds l D cs ad t k (hk) i n) k_yX2_holds ⟨rfl, rfl⟩ q_ml_RX5_210 (eX_R k (hk)) rfl rfl hl.1 rfl (Nat.le_of_ble_eq_true rfl) ⟨Nat.le_of_ble_eq_true rfl, Nat.le_of_ble_eq_true rfl⟩ dX5_faultOfCells_28 ⟨Nat.zero_le _, Nat.zero_le _⟩) hW (fun r5 u5 H locs hp5 hW => ?_)
        have hW := hx_congr hW hp5.2
        refine r_top hp5.1 ?_
        refine lv_if_eq (tgt := 38) hx hb dX5_faultOfCells_31 (by decide) (fun c_31_6 => ?_) (fun c_31_6 => ?_)
        · have c_31_6 := bI_z.mp c_31_6
          refine lv_iconst (v := 3) hx hb dX5_faultOfCells_38 (by decide) ?_
          exact r_ireti hC hr hlk hW hQ (⟨by unfold focF; rw [if_neg c_4_2, if_neg (not_not_intro c_14_3), if_neg (Int32.not_lt.mpr c_20_4), if_neg c_31_6], rfl⟩) dX5_faultOfCells_39
        · have c_31_6 := bI_nz c_31_6
          refine lv_iconst (v := 0) hx hb dX5_faultOfCells_34 (by decide) ?_
          refine lv_goto (tgt := 39) hx hb dX5_faultOfCells_35 (by decide) ?_
          exact r_ireti hC hr hlk hW hQ (⟨by unfold focF; rw [if_neg c_4_2, if_neg (not_not_intro c_14_3), if_neg (Int32.not_lt.mpr c_20_4), if_pos c_31_6], rfl⟩) dX5_faultOfCells_39
      · refine lv_iconst (v := 4) hx hb dX5_faultOfCells_23 (by decide) ?_
        exact r_ireti hC hr hlk hW hQ (⟨by unfold focF; rw [if_neg c_4_2, if_neg (not_not_intro c_14_3), if_pos (Int32.not_le.mp c_20_4)], rfl⟩) dX5_faultOfCells_24
    · refine lv_iconst (v := 2) hx hb dX5_faultOfCells_17 (by decide) ?_
      exact r_ireti hC hr hlk hW hQ (⟨by unfold focF; rw [if_neg c_4_2, if_pos c_14_3], rfl⟩) dX5_faultOfCells_18
  · have c_4_2 := bI_nz c_4_2
    refine lv_iconst (v := 1) hx hb dX5_faultOfCells_7 (by decide) ?_
    exact r_ireti hC hr hlk hW hQ (⟨by unfold focF; rw [if_pos c_4_2], rfl⟩) dX5_faultOfCells_8
