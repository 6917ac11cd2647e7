set_option maxRecDepth 100000 in
set_option maxHeartbeats 4000000 in
theorem m_X6_within (l : Launch) (v a b : Int32) : PT l yX6_within cX6_within 3 (some .boolean) (rmk 0 0) [.int v, .int a, .int b] (vp_Si (fun r => r = bI (a ≤ v ∧ v ≤ b))) := by
  refine PT.of (own := RX6) (by decide) rfl (Nat.le_of_ble_eq_true rfl) ?_
  intro p9 e9 s m9 args below meth c9 Q hC hr hlk hN hQ ls hl
  obtain ⟨hx, hb, hml, hown, hts⟩ := id hC
  have hl : lv_has ls 3 [(0, .int v), (1, .int a), (2, .int b)] := hl
  refine lv_iload_n hx hb dX6_within_0 rfl (lv_at hl 0 rfl) ?_
  refine lv_iload_n hx hb dX6_within_1 rfl (lv_at hl 1 rfl) ?_
  refine lv_icmp_lt (tgt := 14) hx hb dX6_within_2 (by decide) (fun c_2_1 => ?_) (fun c_2_1 => ?_)
  · refine lv_iconst (v := 0) hx hb dX6_within_14 (by decide) ?_
    exact r_pz hC hr hlk hQ (bI_f (by intro h9; simp_all [← Int32.not_le])) (rfl) dX6_within_15
  · refine lv_iload_n hx hb dX6_within_5 rfl (lv_at hl 0 rfl) ?_
    refine lv_iload_n hx hb dX6_within_6 rfl (lv_at hl 2 rfl) ?_
    refine lv_icmp_gt (tgt := 14) hx hb dX6_within_7 (by decide) (fun c_7_2 => ?_) (fun c_7_2 => ?_)
    · refine lv_iconst (v := 0) hx hb dX6_within_14 (by decide) ?_
      exact r_pz hC hr hlk hQ (bI_f (by intro h9; simp_all [← Int32.not_le])) (rfl) dX6_within_15
    · refine lv_iconst (v := 1) hx hb dX6_within_10 (by decide) ?_
      refine lv_goto (tgt := 15) hx hb dX6_within_11 (by decide) ?_
      exact r_pz hC hr hlk hQ (bI_t (by simp_all [Int32.not_lt])) (rfl) dX6_within_15
set_option maxRecDepth 100000 in
set_option maxHeartbeats 4000000 in
theorem m_X6_isSheet (l : Launch) (v : Int32) : PT l yX6_isSheet cX6_isSheet 1 (some .boolean) (rmk 1 22) [.int v] (vp_Si (fun r => r = bI (0 ≤ v ∧ v ≤ 3))) := by
  refine PT.of (own := RX6) (by decide) rfl (Nat.le_of_ble_eq_true rfl) ?_
  intro p9 e9 s m9 args below meth c9 Q hC hr hlk hN hQ ls hl
  obtain ⟨hx, hb, hml, hown, hts⟩ := id hC
  have hl : lv_has ls 1 [(0, .int v)] := hl
  refine lv_iload_n hx hb dX6_isSheet_0 rfl (lv_at hl 0 rfl) ?_
  refine lv_iconst (v := 0) hx hb dX6_isSheet_1 (by decide) ?_
  refine lv_iconst (v := 3) hx hb dX6_isSheet_2 (by decide) ?_
  refine fin_pi (run_P (rest := []) hC hN (m_X6_within l v 0 3) k_yX6_within ⟨rfl, rfl⟩ q_ml_RX6_67 rfl hl.1 rfl (Nat.le_of_ble_eq_true rfl) ⟨Nat.le_of_ble_eq_true rfl, Nat.le_of_ble_eq_true rfl⟩ dX6_isSheet_3 ⟨Nat.zero_le _, Nat.zero_le _⟩) (fun rz9 hr9 => ?_)
  refine r_top hr9 ?_
  exact r_pz hC hr hlk hQ (rfl) (bI_nar _) dX6_isSheet_6
set_option maxRecDepth 100000 in
set_option maxHeartbeats 4000000 in
theorem m_X6_isSort (l : Launch) (v : Int32) : PT l yX6_isSort cX6_isSort 1 (some .boolean) (rmk 1 22) [.int v] (vp_Si (fun r => r = bI (0 ≤ v ∧ v ≤ 2))) := by
  refine PT.of (own := RX6) (by decide) rfl (Nat.le_of_ble_eq_true rfl) ?_
  intro p9 e9 s m9 args below meth c9 Q hC hr hlk hN hQ ls hl
  obtain ⟨hx, hb, hml, hown, hts⟩ := id hC
  have hl : lv_has ls 1 [(0, .int v)] := hl
  refine lv_iload_n hx hb dX6_isSort_0 rfl (lv_at hl 0 rfl) ?_
  refine lv_iconst (v := 0) hx hb dX6_isSort_1 (by decide) ?_
  refine lv_iconst (v := 2) hx hb dX6_isSort_2 (by decide) ?_
  refine fin_pi (run_P (rest := []) hC hN (m_X6_within l v 0 2) k_yX6_within ⟨rfl, rfl⟩ q_ml_RX6_67 rfl hl.1 rfl (Nat.le_of_ble_eq_true rfl) ⟨Nat.le_of_ble_eq_true rfl, Nat.le_of_ble_eq_true rfl⟩ dX6_isSort_3 ⟨Nat.zero_le _, Nat.zero_le _⟩) (fun rz9 hr9 => ?_)
  refine r_top hr9 ?_
  exact r_pz hC hr hlk hQ (rfl) (bI_nar _) dX6_isSort_6
set_option maxRecDepth 100000 in
set_option maxHeartbeats 4000000 in
theorem m_X6_isNine (l : Launch) (v : Int32) : PT l yX6_isNine cX6_isNine 1 (some .boolean) (rmk 1 22) [.int v] (vp_Si (fun r => r = bI (0 ≤ v ∧ v ≤ 9))) := by
  refine PT.of (own := RX6) (by decide) rfl (Nat.le_of_ble_eq_true rfl) ?_
  intro p9 e9 s m9 args below meth c9 Q hC hr hlk hN hQ ls hl
  obtain ⟨hx, hb, hml, hown, hts⟩ := id hC
  have hl : lv_has ls 1 [(0, .int v)] := hl
  refine lv_iload_n hx hb dX6_isNine_0 rfl (lv_at hl 0 rfl) ?_
  refine lv_iconst (v := 0) hx hb dX6_isNine_1 (by decide) ?_
  refine lv_bipush (v := 9) hx hb dX6_isNine_2 (by decide) ?_
  refine fin_pi (run_P (rest := []) hC hN (m_X6_within l v 0 9) k_yX6_within ⟨rfl, rfl⟩ q_ml_RX6_67 rfl hl.1 rfl (Nat.le_of_ble_eq_true rfl) ⟨Nat.le_of_ble_eq_true rfl, Nat.le_of_ble_eq_true rfl⟩ dX6_isNine_4 ⟨Nat.zero_le _, Nat.zero_le _⟩) (fun rz9 hr9 => ?_)
  refine r_top hr9 ?_
  exact r_pz hC hr hlk hQ (rfl) (bI_nar _) dX6_isNine_7
set_option maxRecDepth 100000 in
set_option maxHeartbeats 4000000 in
theorem m_X6_isRow (l : Launch) (a n : Int32) : PT l yX6_isRow cX6_isRow 2 (some .boolean) (rmk 2 42) [.int a, .int n] (vp_Si (fun r => r = bI ((0 ≤ a ∧ a ≤ 2) ∧ 0 ≤ n ∧ n ≤ 30))) := by
  refine PT.of (own := RX6) (by decide) rfl (Nat.le_of_ble_eq_true rfl) ?_
  intro p9 e9 s m9 args below meth c9 Q hC hr hlk hN hQ ls hl
  obtain ⟨hx, hb, hml, hown, hts⟩ := id hC
  have hl : lv_has ls 2 [(0, .int a), (1, .int n)] := hl
  refine lv_iload_n hx hb dX6_isRow_0 rfl (lv_at hl 0 rfl) ?_
  refine fin_pi (run_P (rest := []) hC hN (m_X6_isSort l a) k_yX6_isSort ⟨rfl, rfl⟩ q_ml_RX6_84 rfl hl.1 rfl (Nat.le_of_ble_eq_true rfl) ⟨Nat.le_of_ble_eq_true rfl, Nat.le_of_ble_eq_true rfl⟩ dX6_isRow_1 ⟨Nat.zero_le _, Nat.zero_le _⟩) (fun rz9 hr9 => ?_)
  refine r_top hr9 ?_
  refine lv_if_eq (tgt := 21) hx hb dX6_isRow_4 (by decide) (fun c_4_1 => ?_) (fun c_4_1 => ?_)
  · have c_4_1 := bI_z.mp c_4_1
    refine lv_iconst (v := 0) hx hb dX6_isRow_21 (by decide) ?_
    exact r_pz hC hr hlk hQ (bI_f (fun h9 => c_4_1 h9.1)) (rfl) dX6_isRow_22
  · have c_4_1 := bI_nz c_4_1
    refine lv_iload_n hx hb dX6_isRow_7 rfl (lv_at hl 1 rfl) ?_
    refine lv_iconst (v := 0) hx hb dX6_isRow_8 (by decide) ?_
    refine lv_bipush (v := 30) hx hb dX6_isRow_9 (by decide) ?_
    refine fin_pi (run_P (rest := []) hC hN (m_X6_within l n 0 30) k_yX6_within ⟨rfl, rfl⟩ q_ml_RX6_67 rfl hl.1 rfl (Nat.le_of_ble_eq_true rfl) ⟨Nat.le_of_ble_eq_true rfl, Nat.le_of_ble_eq_true rfl⟩ dX6_isRow_11 ⟨Nat.zero_le _, Nat.zero_le _⟩) (fun rz9 hr9 => ?_)
    refine r_top hr9 ?_
    refine lv_if_eq (tgt := 21) hx hb dX6_isRow_14 (by decide) (fun c_14_2 => ?_) (fun c_14_2 => ?_)
    · have c_14_2 := bI_z.mp c_14_2
      refine lv_iconst (v := 0) hx hb dX6_isRow_21 (by decide) ?_
      exact r_pz hC hr hlk hQ (bI_f (fun h9 => c_14_2 h9.2)) (rfl) dX6_isRow_22
    · have c_14_2 := bI_nz c_14_2
      refine lv_iconst (v := 1) hx hb dX6_isRow_17 (by decide) ?_
      refine lv_goto (tgt := 22) hx hb dX6_isRow_18 (by decide) ?_
      exact r_pz hC hr hlk hQ (bI_t ⟨c_4_1, c_14_2⟩) (rfl) dX6_isRow_22
set_option maxRecDepth 100000 in
set_option maxHeartbeats 4000000 in
theorem m_X6_isRider (l : Launch) (D : va_G) (cs : CS3) (ad : Nat → Nat) (t : St) (R : Nat) (v : Int32) (h : t.1 3 = nI R): CT l yX6_isRider cX6_isRider 2 (some .boolean) (rmk 0 0) (wM cs ad) (tyX cs) D [.ref (ad 0), .int v] t (va_Qi (fun r u => r = bI (inN v R) ∧ u = t)) := by
  refine CT.of (own := RX6) (by decide) rfl (Nat.le_of_ble_eq_true rfl) ?_
  intro p9 e9 s m9 args below meth c9 A Q hC hr hlk hW hQ ls hl
  obtain ⟨hx, hb, hml, hown, hts⟩ := id hC
  have hl : lv_has ls 2 [(0, .ref (ad 0)), (1, .int v)] := hl
  refine lv_iload_n hx hb dX6_isRider_0 rfl (lv_at hl 1 rfl) ?_
  refine lv_if_lt (tgt := 16) hx hb dX6_isRider_1 (by decide) (fun c_1_1 => ?_) (fun c_1_1 => ?_)
  · refine lv_iconst (v := 0) hx hb dX6_isRider_16 (by decide) ?_
    exact r_iretz hC hr hlk hW hQ (⟨bI_f (fun h9 => Int32.not_lt.mpr h9.1 c_1_1), rfl⟩) (rfl) dX6_isRider_17
  · refine lv_iload_n hx hb dX6_isRider_4 rfl (lv_at hl 1 rfl) ?_
    refine lv_aload_n hx hb dX6_isRider_5 rfl (lv_at hl 0 rfl) ?_
    refine gM_riders hC hW q_fl_RX6_74 dX6_isRider_6 ?_
    refine r_top (y := nI R) h ?_
    refine lv_icmp_ge (tgt := 16) hx hb dX6_isRider_9 (by decide) (fun c_9_2 => ?_) (fun c_9_2 => ?_)
    · refine lv_iconst (v := 0) hx hb dX6_isRider_16 (by decide) ?_
      exact r_iretz hC hr hlk hW hQ (⟨bI_f (fun h9 => Int32.not_le.mpr h9.2 c_9_2), rfl⟩) (rfl) dX6_isRider_17
    · refine lv_iconst (v := 1) hx hb dX6_isRider_12 (by decide) ?_
      refine lv_goto (tgt := 17) hx hb dX6_isRider_13 (by decide) ?_
      exact r_iretz hC hr hlk hW hQ (⟨bI_t ⟨Int32.not_lt.mp c_1_1, Int32.not_le.mp c_9_2⟩, rfl⟩) (rfl) dX6_isRider_17
set_option maxRecDepth 100000 in
set_option maxHeartbeats 4000000 in
theorem m_X6_isPace (l : Launch) (D : va_G) (cs : CS3) (ad : Nat → Nat) (t : St) (P : Nat) (v : Int32) (h : t.1 2 = nI P): CT l yX6_isPace cX6_isPace 2 (some .boolean) (rmk 0 0) (wM cs ad) (tyX cs) D [.ref (ad 0), .int v] t (va_Qi (fun r u => r = bI (inN v P) ∧ u = t)) := by
  refine CT.of (own := RX6) (by decide) rfl (Nat.le_of_ble_eq_true rfl) ?_
  intro p9 e9 s m9 args below meth c9 A Q hC hr hlk hW hQ ls hl
  obtain ⟨hx, hb, hml, hown, hts⟩ := id hC
  have hl : lv_has ls 2 [(0, .ref (ad 0)), (1, .int v)] := hl
  refine lv_iload_n hx hb dX6_isPace_0 rfl (lv_at hl 1 rfl) ?_
  refine lv_if_lt (tgt := 16) hx hb dX6_isPace_1 (by decide) (fun c_1_1 => ?_) (fun c_1_1 => ?_)
  · refine lv_iconst (v := 0) hx hb dX6_isPace_16 (by decide) ?_
    exact r_iretz hC hr hlk hW hQ (⟨bI_f (fun h9 => Int32.not_lt.mpr h9.1 c_1_1), rfl⟩) (rfl) dX6_isPace_17
  · refine lv_iload_n hx hb dX6_isPace_4 rfl (lv_at hl 1 rfl) ?_
    refine lv_aload_n hx hb dX6_isPace_5 rfl (lv_at hl 0 rfl) ?_
    refine gM_paces hC hW q_fl_RX6_71 dX6_isPace_6 ?_
    refine r_top (y := nI P) h ?_
    refine lv_icmp_ge (tgt := 16) hx hb dX6_isPace_9 (by decide) (fun c_9_2 => ?_) (fun c_9_2 => ?_)
    · refine lv_iconst (v := 0) hx hb dX6_isPace_16 (by decide) ?_
      exact r_iretz hC hr hlk hW hQ (⟨bI_f (fun h9 => Int32.not_le.mpr h9.2 c_9_2), rfl⟩) (rfl) dX6_isPace_17
    · refine lv_iconst (v := 1) hx hb dX6_isPace_12 (by decide) ?_
      refine lv_goto (tgt := 17) hx hb dX6_isPace_13 (by decide) ?_
      exact r_iretz hC hr hlk hW hQ (⟨bI_t ⟨Int32.not_lt.mp c_1_1, Int32.not_le.mp c_9_2⟩, rfl⟩) (rfl) dX6_isPace_17
set_option maxRecDepth 100000 in
set_option maxHeartbeats 4000000 in
theorem m_X6_fails (l : Launch) (D : va_G) (cs : CS3) (ad : Nat → Nat) (t : St) (n : Int32) : CT l yX6_fails cX6_fails 2 (some .int) (rmk 0 0) (wM cs ad) (tyX cs) D [.ref (ad 0), .int n] t (va_Qi (fun r u => r = (-10) - n ∧ u = (va_up t.1 0 n, t.2))) := by
  refine CT.of (own := RX6) (by decide) rfl (Nat.le_of_ble_eq_true rfl) ?_
  intro p9 e9 s m9 args below meth c9 A Q hC hr hlk hW hQ ls hl
  obtain ⟨hx, hb, hml, hown, hts⟩ := id hC
  have hl : lv_has ls 2 [(0, .ref (ad 0)), (1, .int n)] := hl
  refine lv_aload_n hx hb dX6_fails_0 rfl (lv_at hl 0 rfl) ?_
  refine lv_iload_n hx hb dX6_fails_1 rfl (lv_at hl 1 rfl) ?_
  refine pM_fault hC hW q_fl_RX6_61 dX6_fails_2 (fun H locs hW => ?_)
  have hW : HX (wM cs ad) (tyX cs) D A s.heap s (va_up t.1 0 n, t.2) H locs := hW
  refine lv_bipush (v := (-10)) hx hb dX6_fails_5 (by decide) ?_
  refine lv_iload_n hx hb dX6_fails_7 rfl (lv_at hl 1 rfl) ?_
  refine lv_isub hx hb dX6_fails_8 ?_
  exact r_ireti hC hr hlk hW hQ (⟨rfl, rfl⟩) dX6_fails_9
set_option maxRecDepth 100000 in
set_option maxHeartbeats 4000000 in
theorem m_X6_lost (l : Launch) (D : va_G) (cs : CS3) (ad : Nat → Nat) (t : St) (n : Int32) : CT l yX6_lost cX6_lost 2 (some .long) (rmk 0 0) (wM cs ad) (tyX cs) D [.ref (ad 0), .int n] t (va_Ql (fun r u => r = LOSTv ∧ u = (va_up t.1 0 n, t.2))) := by
  refine CT.of (own := RX6) (by decide) rfl (Nat.le_of_ble_eq_true rfl) ?_
  intro p9 e9 s m9 args below meth c9 A Q hC hr hlk hW hQ ls hl
  obtain ⟨hx, hb, hml, hown, hts⟩ := id hC
  have hl : lv_has ls 2 [(0, .ref (ad 0)), (1, .int n)] := hl
  refine lv_aload_n hx hb dX6_lost_0 rfl (lv_at hl 0 rfl) ?_
  refine lv_iload_n hx hb dX6_lost_1 rfl (lv_at hl 1 rfl) ?_
  refine pM_fault hC hW q_fl_RX6_61 dX6_lost_2 (fun H locs hW => ?_)
  have hW : HX (wM cs ad) (tyX cs) D A s.heap s (va_up t.1 0 n, t.2) H locs := hW
  refine lv_ldc2 hx hb hown (hts _ q_k_RX6_65) dX6_lost_5 ?_
  exact r_lret hC hr hlk hW hQ (⟨rfl, rfl⟩) dX6_lost_8
set_option maxRecDepth 100000 in
set_option maxHeartbeats 4000000 in
theorem m_X6_begins (l : Launch) (D : va_G) (cs : CS3) (ad : Nat → Nat) (t : St) (n : Int32) : CT l yX6_begins cX6_begins 2 none (rmk 0 0) (wM cs ad) (tyX cs) D [.ref (ad 0), .int n] t (va_Qv (fun u => u = (va_up t.1 1 (31 * t.1 1 + n), t.2))) := by
  refine CT.of (own := RX6) (by decide) rfl (Nat.le_of_ble_eq_true rfl) ?_
  intro p9 e9 s m9 args below meth c9 A Q hC hr hlk hW hQ ls hl
  obtain ⟨hx, hb, hml, hown, hts⟩ := id hC
  have hl : lv_has ls 2 [(0, .ref (ad 0)), (1, .int n)] := hl
  refine lv_aload_n hx hb dX6_begins_0 rfl (lv_at hl 0 rfl) ?_
  refine lv_bipush (v := 31) hx hb dX6_begins_1 (by decide) ?_
  refine lv_aload_n hx hb dX6_begins_3 rfl (lv_at hl 0 rfl) ?_
  refine gM_trace hC hW q_fl_RX6_213 dX6_begins_4 ?_
  refine lv_imul hx hb dX6_begins_7 ?_
  refine lv_iload_n hx hb dX6_begins_8 rfl (lv_at hl 1 rfl) ?_
  refine lv_iadd hx hb dX6_begins_9 ?_
  refine pM_trace hC hW q_fl_RX6_213 dX6_begins_10 (fun H locs hW => ?_)
  have hW : HX (wM cs ad) (tyX cs) D A s.heap s (va_up t.1 1 ((31 * (t.1 1)) + n), t.2) H locs := hW
  exact r_vret hC hr hlk hW hQ (rfl) dX6_begins_13
set_option maxRecDepth 100000 in
set_option maxHeartbeats 4000000 in
theorem m_X6_trace (l : Launch) (D : va_G) (cs : CS3) (ad : Nat → Nat) (t : St) : CT l yX6_trace cX6_trace 1 (some .int) (rmk 0 0) (wM cs ad) (tyX cs) D [.ref (ad 0)] t (va_Qi (fun r u => r = t.1 1 ∧ u = t)) := by
  refine CT.of (own := RX6) (by decide) rfl (Nat.le_of_ble_eq_true rfl) ?_
  intro p9 e9 s m9 args below meth c9 A Q hC hr hlk hW hQ ls hl
  obtain ⟨hx, hb, hml, hown, hts⟩ := id hC
  have hl : lv_has ls 1 [(0, .ref (ad 0))] := hl
  refine lv_aload_n hx hb dX6_trace_0 rfl (lv_at hl 0 rfl) ?_
  refine gM_trace hC hW q_fl_RX6_213 dX6_trace_1 ?_
  exact r_ireti hC hr hlk hW hQ (⟨rfl, rfl⟩) dX6_trace_4
set_option maxRecDepth 100000 in
set_option maxHeartbeats 4000000 in
theorem m_X6_fault (l : Launch) (D : va_G) (cs : CS3) (ad : Nat → Nat) (t : St) : CT l yX6_fault cX6_fault 1 (some .int) (rmk 0 0) (wM cs ad) (tyX cs) D [.ref (ad 0)] t (va_Qi (fun r u => r = t.1 0 ∧ u = t)) := by
  refine CT.of (own := RX6) (by decide) rfl (Nat.le_of_ble_eq_true rfl) ?_
  intro p9 e9 s m9 args below meth c9 A Q hC hr hlk hW hQ ls hl
  obtain ⟨hx, hb, hml, hown, hts⟩ := id hC
  have hl : lv_has ls 1 [(0, .ref (ad 0))] := hl
  refine lv_aload_n hx hb dX6_fault_0 rfl (lv_at hl 0 rfl) ?_
  refine gM_fault hC hW q_fl_RX6_61 dX6_fault_1 ?_
  exact r_ireti hC hr hlk hW hQ (⟨rfl, rfl⟩) dX6_fault_4
set_option maxRecDepth 100000 in
set_option maxHeartbeats 4000000 in
theorem m_X6_takesOf (l : Launch) (D : va_G) (cs : CS3) (ad : Nat → Nat) (t : St) (P : Nat) (h : HL) (q k : Nat) (x : Int32) (hh : hM P t = h) (hq : q < 5) (hk : k < 8): CT l yX6_takesOf cX6_takesOf 5 (some .int) (rmk 0 0) (wM cs ad) (tyX cs) D [.ref (ad 0), .int (nI q), .int (nI k), .int x] t (va_Qi (fun r u => r = toll h q k x ∧ u = t)) := by
  refine CT.of (own := RX6) (by decide) rfl (Nat.le_of_ble_eq_true rfl) ?_
  intro p9 e9 s m9 args below meth c9 A Q hC hr hlk hW hQ ls hl
  obtain ⟨hx, hb, hml, hown, hts⟩ := id hC
  have hl : lv_has ls 5 [(0, .ref (ad 0)), (1, .int (nI q)), (2, .int (nI k)), (3, .int x)] := hl
  refine lv_aload_n hx hb dX6_takesOf_0 rfl (lv_at hl 0 rfl) ?_
  refine gM_slick hC hW q_fl_RX6_19 dX6_takesOf_1 ?_
  refine lv_iload_n hx hb dX6_takesOf_4 rfl (lv_at hl 2 rfl) ?_
  refine r_ildN (t0 := 0) (j := k) hC hW eM_4 rfl (rfl) (by omega) (by decide) dX6_takesOf_5 ?_
  refine lv_iload_n hx hb dX6_takesOf_6 rfl (lv_at hl 3 rfl) ?_
  refine lv_isub hx hb dX6_takesOf_7 ?_
  refine lv_aload_n hx hb dX6_takesOf_8 rfl (lv_at hl 0 rfl) ?_
  refine gM_nailsOf hC hW q_fl_RX6_31 dX6_takesOf_9 ?_
  refine lv_iload_n hx hb dX6_takesOf_12 rfl (lv_at hl 1 rfl) ?_
  refine r_ildN (t0 := 0) (j := q) hC hW eM_8 rfl (rfl) (by omega) (by decide) dX6_takesOf_13 ?_
  refine lv_isub hx hb dX6_takesOf_14 ?_
  refine lv_aload_n hx hb dX6_takesOf_15 rfl (lv_at hl 0 rfl) ?_
  refine gM_kind hC hW q_fl_RX6_25 dX6_takesOf_16 ?_
  refine lv_iload_n hx hb dX6_takesOf_19 rfl (lv_at hl 1 rfl) ?_
  refine r_ildN (t0 := 0) (j := q) hC hW eM_6 rfl (rfl) (by omega) (by decide) dX6_takesOf_20 ?_
  refine lv_iconst (v := 1) hx hb dX6_takesOf_21 (by decide) ?_
  refine lv_icmp_ne (tgt := 29) hx hb dX6_takesOf_22 (by decide) (fun c_22_1 => ?_) (fun c_22_1 => ?_)
  · refine lv_iconst (v := 0) hx hb dX6_takesOf_29 (by decide) ?_
    refine lv_isub hx hb dX6_takesOf_30 ?_
    refine lv_istore (lv' := [(4, .int ((((t.2 4 k) - x) - (t.2 8 q)) - 0)), (0, .ref (ad 0)), (1, .int (nI q)), (2, .int (nI k)), (3, .int x)]) hx hb dX6_takesOf_31 hl (by decide) rfl (fun ls hl => ?_)
    refine lv_iload hx hb dX6_takesOf_33 (lv_at hl 0 rfl) ?_
    refine lv_if_ge (tgt := 42) hx hb dX6_takesOf_35 (by decide) (fun c_35_2 => ?_) (fun c_35_2 => ?_)
    · refine lv_iload hx hb dX6_takesOf_42 (lv_at hl 0 rfl) ?_
      exact r_ireti hC hr hlk hW hQ (⟨by rw [← hh]; show _ = mx0 (if (hM P t).2.2.1 q = 1 then _ else _); rw [if_neg (show ¬ (hM P t).2.2.1 q = 1 from c_22_1)]; exact (sub0 _).trans (mx0_ge (by have h9 := c_35_2; rw [sub0] at h9; exact h9)).symm, rfl⟩) dX6_takesOf_44
    · refine lv_iconst (v := 0) hx hb dX6_takesOf_38 (by decide) ?_
      refine lv_goto (tgt := 44) hx hb dX6_takesOf_39 (by decide) ?_
      exact r_ireti hC hr hlk hW hQ (⟨by rw [← hh]; show _ = mx0 (if (hM P t).2.2.1 q = 1 then _ else _); rw [if_neg (show ¬ (hM P t).2.2.1 q = 1 from c_22_1)]; exact (mx0_lt (Int32.not_le.mp (by have h9 := c_35_2; rw [sub0] at h9; exact h9))).symm, rfl⟩) dX6_takesOf_44
  · refine lv_iconst (v := 1) hx hb dX6_takesOf_25 (by decide) ?_
    refine lv_goto (tgt := 30) hx hb dX6_takesOf_26 (by decide) ?_
    refine lv_isub hx hb dX6_takesOf_30 ?_
    refine lv_istore (lv' := [(4, .int ((((t.2 4 k) - x) - (t.2 8 q)) - 1)), (0, .ref (ad 0)), (1, .int (nI q)), (2, .int (nI k)), (3, .int x)]) hx hb dX6_takesOf_31 hl (by decide) rfl (fun ls hl => ?_)
    refine lv_iload hx hb dX6_takesOf_33 (lv_at hl 0 rfl) ?_
    refine lv_if_ge (tgt := 42) hx hb dX6_takesOf_35 (by decide) (fun c_35_3 => ?_) (fun c_35_3 => ?_)
    · refine lv_iload hx hb dX6_takesOf_42 (lv_at hl 0 rfl) ?_
      exact r_ireti hC hr hlk hW hQ (⟨by rw [← hh]; show _ = mx0 (if (hM P t).2.2.1 q = 1 then _ else _); rw [if_pos (show  (hM P t).2.2.1 q = 1 from c_22_1)]; exact (mx0_ge c_35_3).symm, rfl⟩) dX6_takesOf_44
    · refine lv_iconst (v := 0) hx hb dX6_takesOf_38 (by decide) ?_
      refine lv_goto (tgt := 44) hx hb dX6_takesOf_39 (by decide) ?_
      exact r_ireti hC hr hlk hW hQ (⟨by rw [← hh]; show _ = mx0 (if (hM P t).2.2.1 q = 1 then _ else _); rw [if_pos (show  (hM P t).2.2.1 q = 1 from c_22_1)]; exact (mx0_lt (Int32.not_le.mp c_35_3)).symm, rfl⟩) dX6_takesOf_44
set_option maxRecDepth 100000 in
set_option maxHeartbeats 4000000 in
theorem m_X6_begin (l : Launch) (D : va_G) (cs : CS3) (ad : Nat → Nat) (t : St) (P R : Nat) (hP : t.1 2 = nI P) (hP8 : P ≤ 8) (hR : t.1 3 = nI R) (hR5 : R ≤ 5): CT l yX6_begin cX6_begin 2 none (rmk 0 0) (wM cs ad) (tyX cs) D [.ref (ad 0)] t (va_Qv (fun u => agrM t u ∧ CE P R (cm u) (bgM t))) := by
  refine CT.of (own := RX6) (by decide) rfl (Nat.le_of_ble_eq_true rfl) ?_
  intro p9 e9 s m9 args below meth c9 A Q hC hr hlk hW hQ ls hl
  obtain ⟨hx, hb, hml, hown, hts⟩ := id hC
  have hl : lv_has ls 2 [(0, .ref (ad 0))] := hl
  refine lv_iconst (v := 0) hx hb dX6_begin_0 (by decide) ?_
  refine lv_istore_n (lv' := [(1, .int 0), (0, .ref (ad 0))]) hx hb dX6_begin_1 rfl hl (by decide) rfl (fun ls hl => ?_)
  have hW : HX (wM cs ad) (tyX cs) D A s.heap s (t.1, va_up t.2 11 (selF (t.2 5) (t.2 11) 0)) _ _ := hx_congr hW (by rw [selF_0, va_upid])
  have loop_2_1 : ∀ (f9 : Nat) (z : Nat), (z ≤ P) → P - z < f9 → ∀ (H : Heap) (locs : List Loc), HX (wM cs ad) (tyX cs) D A s.heap s (t.1, va_up t.2 11 (selF (t.2 5) (t.2 11) z)) H locs → ∀ ls : Array Slot, lv_has ls 2 [(1, .int (nI z)), (0, .ref (ad 0))] → W p9 l e9 (rmk 0 0) s m9 args below meth c9 H locs 0 0 Q (F0 m9 2 ls []) := by
    intro f_2
    induction f_2 with
    | zero => intro z hz hm_2 H locs hW ls hl; exact absurd hm_2 (Nat.not_lt_zero _)
    | succ f_2 ih_2 =>
      intro z hz hm_2 H locs hW ls hl
      refine lv_iload_n hx hb dX6_begin_2 rfl (lv_at hl 0 rfl) ?_
      refine lv_aload_n hx hb dX6_begin_3 rfl (lv_at hl 1 rfl) ?_
      refine gM_paces hC hW q_fl_RX6_71 dX6_begin_4 ?_
      refine r_top (y := nI P) hP ?_
      refine lv_icmp_ge (tgt := 28) hx hb dX6_begin_7 (by decide) (fun c_7_2 => ?_) (fun c_7_2 => ?_)
      · have c_7_2 : P ≤ z := (nI_leI (a := P) (b := z) (by omega) (by omega)).mp c_7_2
        refine lv_iconst (v := 0) hx hb dX6_begin_28 (by decide) ?_
        refine lv_istore_n (lv' := [(1, .int 0), (0, .ref (ad 0))]) hx hb dX6_begin_29 rfl hl (by decide) rfl (fun ls hl => ?_)
        have ezP : z = P := by omega
        rw [ezP] at hW
        have hW : HX (wM cs ad) (tyX cs) D A s.heap s (t.1, va_up (va_up (va_up t.2 11 (selF (t.2 5) (t.2 11) P)) 12 (selF (fun _ => 0) (t.2 12) 0)) 13 (selF (fun _ => -9) (t.2 13) 0)) _ _ := hx_congr hW (by rw [selF_0, selF_0]; exact Prod.ext rfl (by funext k9; simp only [va_up]; (repeat' split) <;> first | rfl | simp_all))
        have loop_30_3 : ∀ (f9 : Nat) (z : Nat), (z ≤ R) → R - z < f9 → ∀ (H : Heap) (locs : List Loc), HX (wM cs ad) (tyX cs) D A s.heap s (t.1, va_up (va_up (va_up t.2 11 (selF (t.2 5) (t.2 11) P)) 12 (selF (fun _ => 0) (t.2 12) z)) 13 (selF (fun _ => -9) (t.2 13) z)) H locs → ∀ ls : Array Slot, lv_has ls 2 [(1, .int (nI z)), (0, .ref (ad 0))] → W p9 l e9 (rmk 0 0) s m9 args below meth c9 H locs 0 0 Q (F0 m9 30 ls []) := by
          intro f_30
          induction f_30 with
          | zero => intro z hz2 hm_30 H locs hW ls hl; exact absurd hm_30 (Nat.not_lt_zero _)
          | succ f_30 ih_30 =>
            intro z hz2 hm_30 H locs hW ls hl
            refine lv_iload_n hx hb dX6_begin_30 rfl (lv_at hl 0 rfl) ?_
            refine lv_aload_n hx hb dX6_begin_31 rfl (lv_at hl 1 rfl) ?_
            refine gM_riders hC hW q_fl_RX6_74 dX6_begin_32 ?_
            refine r_top (y := nI R) hR ?_
            refine lv_icmp_ge (tgt := 59) hx hb dX6_begin_35 (by decide) (fun c_35_4 => ?_) (fun c_35_4 => ?_)
            · have c_35_4 : R ≤ z := (nI_leI (a := R) (b := z) (by omega) (by omega)).mp c_35_4
              refine lv_aload_n hx hb dX6_begin_59 rfl (lv_at hl 1 rfl) ?_
              refine lv_iconst (v := 0) hx hb dX6_begin_60 (by decide) ?_
              refine pM_up hC hW q_fl_RX6_130 dX6_begin_61 (fun H locs hW => ?_)
              have hW : HX (wM cs ad) (tyX cs) D A s.heap s (va_up t.1 7 0, va_up (va_up (va_up t.2 11 (selF (t.2 5) (t.2 11) P)) 12 (selF (fun _ => 0) (t.2 12) z)) 13 (selF (fun _ => -9) (t.2 13) z)) H locs := hW
              exact r_vret hC hr hlk hW hQ (⟨⟨fun k h => by simp (disch := omega) only [va_up_ne], fun k h1 h2 h3 => by simp (disch := omega) only [va_up_ne]⟩, ⟨fun p hp => if_pos hp, fun r hr => if_pos (by omega), fun r hr => if_pos (by omega), rfl⟩⟩) dX6_begin_64
            · have c_35_4 : ¬ R ≤ z := fun h => c_35_4 ((nI_leI (a := R) (b := z) (by omega) (by omega)).mpr h)
              refine lv_aload_n hx hb dX6_begin_38 rfl (lv_at hl 1 rfl) ?_
              refine gM_tries hC hW q_fl_RX6_43 dX6_begin_39 ?_
              refine lv_iload_n hx hb dX6_begin_42 rfl (lv_at hl 0 rfl) ?_
              refine lv_iconst (v := 0) hx hb dX6_begin_43 (by decide) ?_
              refine r_istN (t0 := 0) (j := z) hC hW eM_12 rfl (rfl) (by omega) (by decide) (sM_12 _) dX6_begin_44 (fun H locs hW => ?_)
              have hW : HX (wM cs ad) (tyX cs) D A s.heap s (t.1, va_up (va_up (va_up t.2 11 (selF (t.2 5) (t.2 11) P)) 13 (selF (fun _ => -9) (t.2 13) z)) 12 (upd (selF (fun _ => 0) (t.2 12) z) z 0)) H locs := hx_congr hW (by first | rfl | (simp only [va_upup]; done) | (refine Prod.ext (funext fun k => ?_) (funext fun k => ?_) <;> simp only [va_up] <;> (repeat' split) <;> first | rfl | omega | simp_all))
              refine lv_aload_n hx hb dX6_begin_45 rfl (lv_at hl 1 rfl) ?_
              refine gM_height hC hW q_fl_RX6_46 dX6_begin_46 ?_
              refine lv_iload_n hx hb dX6_begin_49 rfl (lv_at hl 0 rfl) ?_
              refine lv_bipush (v := (-9)) hx hb dX6_begin_50 (by decide) ?_
              refine r_istN (t0 := 0) (j := z) hC hW eM_13 rfl (rfl) (by omega) (by decide) (sM_13 _) dX6_begin_52 (fun H locs hW => ?_)
              have hW : HX (wM cs ad) (tyX cs) D A s.heap s (t.1, va_up (va_up (va_up t.2 11 (selF (t.2 5) (t.2 11) P)) 12 (upd (selF (fun _ => 0) (t.2 12) z) z 0)) 13 (upd (selF (fun _ => -9) (t.2 13) z) z (-9))) H locs := hx_congr hW (by first | rfl | (simp only [va_upup]; done) | (refine Prod.ext (funext fun k => ?_) (funext fun k => ?_) <;> simp only [va_up] <;> (repeat' split) <;> first | rfl | omega | simp_all))
              refine lv_iinc (v := nI (z + 1)) (lv' := [(1, .int (nI (z + 1))), (0, .ref (ad 0))]) hx hb dX6_begin_53 hl (k := 0) rfl (nI_1 _) (by decide) rfl (fun ls hl => ?_)
              refine lv_goto (tgt := 30) hx hb dX6_begin_56 (by decide) ?_
              have hW : HX (wM cs ad) (tyX cs) D A s.heap s (t.1, va_up (va_up (va_up t.2 11 (selF (t.2 5) (t.2 11) P)) 12 (selF (fun _ => 0) (t.2 12) (z + 1))) 13 (selF (fun _ => -9) (t.2 13) (z + 1))) _ _ := hx_congr hW (by rw [selF_s _ _ _ _ rfl, selF_s _ _ _ _ rfl])
              exact ih_30 (z + 1) (by omega) (by omega) _ _ hW ls (lv_sub hl [0, 1] rfl)
        exact loop_30_3 _ 0 (Nat.zero_le _) (Nat.lt_succ_self _) _ _ hW ls (lv_sub hl [0, 1] rfl)
      · have c_7_2 : ¬ P ≤ z := fun h => c_7_2 ((nI_leI (a := P) (b := z) (by omega) (by omega)).mpr h)
        refine lv_aload_n hx hb dX6_begin_10 rfl (lv_at hl 1 rfl) ?_
        refine gM_scratches hC hW q_fl_RX6_40 dX6_begin_11 ?_
        refine lv_iload_n hx hb dX6_begin_14 rfl (lv_at hl 0 rfl) ?_
        refine lv_aload_n hx hb dX6_begin_15 rfl (lv_at hl 1 rfl) ?_
        refine gM_ahead hC hW q_fl_RX6_22 dX6_begin_16 ?_
        refine lv_iload_n hx hb dX6_begin_19 rfl (lv_at hl 0 rfl) ?_
        refine r_ildN (t0 := 0) (j := z) hC hW eM_5 rfl (rfl) (by omega) (by decide) dX6_begin_20 ?_
        refine r_top (y := t.2 5 z) (by first | rfl | simp only [va_up_self]) ?_
        refine r_istN (t0 := 0) (j := z) hC hW eM_11 rfl (rfl) (by omega) (by decide) (sM_11 _) dX6_begin_21 (fun H locs hW => ?_)
        have hW : HX (wM cs ad) (tyX cs) D A s.heap s (t.1, va_up t.2 11 (upd (selF (t.2 5) (t.2 11) z) z (t.2 5 z))) H locs := hx_congr hW (by first | rfl | (simp only [va_upup]; done) | (refine Prod.ext (funext fun k => ?_) (funext fun k => ?_) <;> simp only [va_up] <;> (repeat' split) <;> first | rfl | omega | simp_all))
        refine lv_iinc (v := nI (z + 1)) (lv' := [(1, .int (nI (z + 1))), (0, .ref (ad 0))]) hx hb dX6_begin_22 hl (k := 0) rfl (nI_1 _) (by decide) rfl (fun ls hl => ?_)
        refine lv_goto (tgt := 2) hx hb dX6_begin_25 (by decide) ?_
        have hW : HX (wM cs ad) (tyX cs) D A s.heap s (t.1, va_up t.2 11 (selF (t.2 5) (t.2 11) (z + 1))) _ _ := hx_congr hW (by rw [selF_s _ _ _ _ rfl])
        exact ih_2 (z + 1) (by omega) (by omega) _ _ hW ls (lv_sub hl [0, 1] rfl)
  exact loop_2_1 _ 0 (Nat.zero_le _) (Nat.lt_succ_self _) _ _ hW ls (lv_sub hl [0, 1] rfl)
set_option maxRecDepth 100000 in
set_option maxHeartbeats 4000000 in
theorem m_X6_isUp (l : Launch) (D : va_G) (cs : CS3) (ad : Nat → Nat) (t : St) (q : Nat) : CT l yX6_isUp cX6_isUp 2 (some .boolean) (rmk 0 0) (wM cs ad) (tyX cs) D [.ref (ad 0), .int (nI q)] t (va_Qi (fun r u => r = bI (isup (t.1 7) q) ∧ u = t)) := by
  refine CT.of (own := RX6) (by decide) rfl (Nat.le_of_ble_eq_true rfl) ?_
  intro p9 e9 s m9 args below meth c9 A Q hC hr hlk hW hQ ls hl
  obtain ⟨hx, hb, hml, hown, hts⟩ := id hC
  have hl : lv_has ls 2 [(0, .ref (ad 0)), (1, .int (nI q))] := hl
  refine lv_aload_n hx hb dX6_isUp_0 rfl (lv_at hl 0 rfl) ?_
  refine gM_up hC hW q_fl_RX6_130 dX6_isUp_1 ?_
  refine lv_iload_n hx hb dX6_isUp_4 rfl (lv_at hl 1 rfl) ?_
  refine lv_ishr hx hb dX6_isUp_5 ?_
  refine lv_iconst (v := 1) hx hb dX6_isUp_6 (by decide) ?_
  refine lv_iand hx hb dX6_isUp_7 ?_
  refine lv_iconst (v := 1) hx hb dX6_isUp_8 (by decide) ?_
  refine lv_icmp_ne (tgt := 16) hx hb dX6_isUp_9 (by decide) (fun c_9_1 => ?_) (fun c_9_1 => ?_)
  · refine lv_iconst (v := 0) hx hb dX6_isUp_16 (by decide) ?_
    exact r_iretz hC hr hlk hW hQ (⟨bI_f c_9_1, rfl⟩) (rfl) dX6_isUp_17
  · refine lv_iconst (v := 1) hx hb dX6_isUp_12 (by decide) ?_
    refine lv_goto (tgt := 17) hx hb dX6_isUp_13 (by decide) ?_
    exact r_iretz hC hr hlk hW hQ (⟨bI_t c_9_1, rfl⟩) (rfl) dX6_isUp_17
set_option maxRecDepth 100000 in
set_option maxHeartbeats 4000000 in
theorem m_X6_tryOnce (l : Launch) (D : va_G) (cs : CS3) (ad : Nat → Nat) (t : St) (P R q : Nat) (hP : t.1 2 = nI P) (hP8 : P ≤ 8) (hR : t.1 3 = nI R) (hR5 : R ≤ 5) (hq : q < R): CT l yX6_tryOnce cX6_tryOnce 6 none (rmk 1 24) (wM cs ad) (tyX cs) D [.ref (ad 0), .int (nI q)] t (va_Qv (fun u => agrM t u ∧ cm u = att (hM P t) q (cm t))) := by
  refine CT.of (own := RX6) (by decide) rfl (Nat.le_of_ble_eq_true rfl) ?_
  intro p9 e9 s m9 args below meth c9 A Q hC hr hlk hW hQ ls hl
  obtain ⟨hx, hb, hml, hown, hts⟩ := id hC
  have hl : lv_has ls 6 [(0, .ref (ad 0)), (1, .int (nI q))] := hl
  refine lv_aload_n hx hb dX6_tryOnce_0 rfl (lv_at hl 0 rfl) ?_
  refine gM_speedOf hC hW q_fl_RX6_28 dX6_tryOnce_1 ?_
  refine lv_iload_n hx hb dX6_tryOnce_4 rfl (lv_at hl 1 rfl) ?_
  refine r_ildN (t0 := 0) (j := q) hC hW eM_7 rfl (rfl) (by omega) (by decide) dX6_tryOnce_5 ?_
  refine lv_aload_n hx hb dX6_tryOnce_6 rfl (lv_at hl 0 rfl) ?_
  refine gM_tries hC hW q_fl_RX6_43 dX6_tryOnce_7 ?_
  refine lv_iload_n hx hb dX6_tryOnce_10 rfl (lv_at hl 1 rfl) ?_
  refine r_ildN (t0 := 0) (j := q) hC hW eM_12 rfl (rfl) (by omega) (by decide) dX6_tryOnce_11 ?_
  refine lv_isub hx hb dX6_tryOnce_12 ?_
  refine lv_istore_n (lv' := [(2, .int ((t.2 7 q) - (t.2 12 q))), (0, .ref (ad 0)), (1, .int (nI q))]) hx hb dX6_tryOnce_13 rfl hl (by decide) rfl (fun ls hl => ?_)
  refine lv_iload_n hx hb dX6_tryOnce_14 rfl (lv_at hl 0 rfl) ?_
  refine lv_if_ge (tgt := 22) hx hb dX6_tryOnce_15 (by decide) (fun c_15_1 => ?_) (fun c_15_1 => ?_)
  · refine lv_iload_n hx hb dX6_tryOnce_22 rfl (lv_at hl 0 rfl) ?_
    refine r_top (y := left0 (hM P t) q (cm t)) ((mx0_ge c_15_1).symm) ?_
    refine lv_istore_n (lv' := [(2, .int (left0 (hM P t) q (cm t))), (0, .ref (ad 0)), (1, .int (nI q))]) hx hb dX6_tryOnce_23 rfl hl (by decide) rfl (fun ls hl => ?_)
    refine lv_aload_n hx hb dX6_tryOnce_24 rfl (lv_at hl 1 rfl) ?_
    refine gM_tries hC hW q_fl_RX6_43 dX6_tryOnce_25 ?_
    refine lv_iload_n hx hb dX6_tryOnce_28 rfl (lv_at hl 2 rfl) ?_
    refine lv_dup2_11 hx hb dX6_tryOnce_29 rfl rfl ?_
    refine r_ildN (t0 := 0) (j := q) hC hW eM_12 rfl (rfl) (by omega) (by decide) dX6_tryOnce_30 ?_
    refine lv_iconst (v := 1) hx hb dX6_tryOnce_31 (by decide) ?_
    refine lv_iadd hx hb dX6_tryOnce_32 ?_
    refine r_istN (t0 := 0) (j := q) hC hW eM_12 rfl (rfl) (by omega) (by decide) (sM_12 _) dX6_tryOnce_33 (fun H locs hW => ?_)
    have hW : HX (wM cs ad) (tyX cs) D A s.heap s (t.1, va_up t.2 12 (upd (t.2 12) q ((t.2 12 q) + 1))) H locs := hW
    refine lv_iconst (v := 0) hx hb dX6_tryOnce_34 (by decide) ?_
    refine lv_istore_n (lv' := [(3, .int 0), (2, .int (left0 (hM P t) q (cm t))), (0, .ref (ad 0)), (1, .int (nI q))]) hx hb dX6_tryOnce_35 rfl hl (by decide) rfl (fun ls hl => ?_)
    have loop_36_2 : ∀ (f9 : Nat) (k : Nat) (lf : Int32), (k ≤ P) → (hgt (hM P t) q (t.2 11) (P - k) k lf = high (hM P t) q (cm t)) → P - k < f9 → ∀ (H : Heap) (locs : List Loc), HX (wM cs ad) (tyX cs) D A s.heap s (t.1, va_up t.2 12 (upd (t.2 12) q (t.2 12 q + 1))) H locs → ∀ ls : Array Slot, lv_has ls 6 [(3, .int (nI k)), (2, .int lf), (0, .ref (ad 0)), (1, .int (nI q))] → W p9 l e9 (rmk 1 24) s m9 args below meth c9 H locs 0 0 Q (F0 m9 36 ls []) := by
      intro f_36
      induction f_36 with
      | zero => intro k lf hk hE hm_36 H locs hW ls hl; exact absurd hm_36 (Nat.not_lt_zero _)
      | succ f_36 ih_36 =>
        intro k lf hk hE hm_36 H locs hW ls hl
        refine lv_iload_n hx hb dX6_tryOnce_36 rfl (lv_at hl 0 rfl) ?_
        refine lv_aload_n hx hb dX6_tryOnce_37 rfl (lv_at hl 2 rfl) ?_
        refine gM_paces hC hW q_fl_RX6_71 dX6_tryOnce_38 ?_
        refine r_top (y := nI P) hP ?_
        refine lv_icmp_ge (tgt := 81) hx hb dX6_tryOnce_41 (by decide) (fun c_41_3 => ?_) (fun c_41_3 => ?_)
        · have c_41_3 : P ≤ k := (nI_leI (a := P) (b := k) (by omega) (by omega)).mp c_41_3
          have hN : high (hM P t) q (cm t) = k := by rw [← hE, show P - k = 0 by omega]; rfl
          refine lv_aload_n hx hb dX6_tryOnce_81 rfl (lv_at hl 2 rfl) ?_
          refine gM_height hC hW q_fl_RX6_46 dX6_tryOnce_82 ?_
          refine lv_iload_n hx hb dX6_tryOnce_85 rfl (lv_at hl 3 rfl) ?_
          refine lv_iload_n hx hb dX6_tryOnce_86 rfl (lv_at hl 0 rfl) ?_
          refine r_istN (t0 := 0) (j := q) hC hW eM_13 rfl (rfl) (by omega) (by decide) (sM_13 _) dX6_tryOnce_87 (fun H locs hW => ?_)
          have hW : HX (wM cs ad) (tyX cs) D A s.heap s (t.1, va_up (va_up t.2 12 (upd (t.2 12) q (t.2 12 q + 1))) 13 (upd (t.2 13) q (nI k))) H locs := hW
          refine lv_iload_n hx hb dX6_tryOnce_88 rfl (lv_at hl 0 rfl) ?_
          refine lv_aload_n hx hb dX6_tryOnce_89 rfl (lv_at hl 2 rfl) ?_
          refine gM_paces hC hW q_fl_RX6_71 dX6_tryOnce_90 ?_
          refine r_top (y := nI P) hP ?_
          refine lv_icmp_ne (tgt := 109) hx hb dX6_tryOnce_93 (by decide) (fun c_93_4 => ?_) (fun c_93_4 => ?_)
          · have c_93_4 : ¬ k = P := fun h => c_93_4 ((nI_eq (a := k) (b := P) (by omega) (by omega)).mpr h)
            exfalso; omega
          · have c_93_4 : k = P := (nI_eq (a := k) (b := P) (by omega) (by omega)).mp c_93_4
            refine lv_aload_n hx hb dX6_tryOnce_96 rfl (lv_at hl 2 rfl) ?_
            refine lv_dup hx hb dX6_tryOnce_97 rfl ?_
            refine gM_up hC hW q_fl_RX6_130 dX6_tryOnce_98 ?_
            refine r_top (y := t.1 7) rfl ?_
            refine lv_iconst (v := 1) hx hb dX6_tryOnce_101 (by decide) ?_
            refine lv_iload_n hx hb dX6_tryOnce_102 rfl (lv_at hl 3 rfl) ?_
            refine lv_ishl hx hb dX6_tryOnce_103 ?_
            refine lv_ior hx hb dX6_tryOnce_104 ?_
            refine pM_up hC hW q_fl_RX6_130 dX6_tryOnce_105 (fun H locs hW => ?_)
            have hW : HX (wM cs ad) (tyX cs) D A s.heap s (va_up t.1 7 ((t.1 7) ||| (1 <<< ((nI q) &&& 31))), va_up (va_up t.2 12 (upd (t.2 12) q (t.2 12 q + 1))) 13 (upd (t.2 13) q (nI k))) H locs := hW
            exact r_vret hC hr hlk hW hQ (⟨⟨fun k h => by simp (disch := omega) only [va_up_ne], fun k h1 h2 h3 => by simp (disch := omega) only [va_up_ne]⟩, by unfold att; rw [hN, if_pos (show k = (hM P t).1 from c_93_4), if_pos (show k = (hM P t).1 from c_93_4)]; rfl⟩) dX6_tryOnce_108
        · have c_41_3 : ¬ P ≤ k := fun h => c_41_3 ((nI_leI (a := P) (b := k) (by omega) (by omega)).mpr h)
          refine lv_aload_n hx hb dX6_tryOnce_44 rfl (lv_at hl 2 rfl) ?_
          refine lv_iload_n hx hb dX6_tryOnce_45 rfl (lv_at hl 3 rfl) ?_
          refine lv_iload_n hx hb dX6_tryOnce_46 rfl (lv_at hl 0 rfl) ?_
          refine lv_aload_n hx hb dX6_tryOnce_47 rfl (lv_at hl 2 rfl) ?_
          refine gM_scratches hC hW q_fl_RX6_40 dX6_tryOnce_48 ?_
          refine lv_iload_n hx hb dX6_tryOnce_51 rfl (lv_at hl 0 rfl) ?_
          refine r_ildN (t0 := 0) (j := k) hC hW eM_11 rfl (rfl) (by omega) (by decide) dX6_tryOnce_52 ?_
          refine r_top (y := t.2 11 k) (by first | rfl | simp only [va_up_self]) ?_
          refine fin_i (run_V (rest := []) hC hW (m_X6_takesOf l D cs ad (t.1, va_up t.2 12 (upd (t.2 12) q (t.2 12 q + 1))) P (hM P t) q k (t.2 11 k) rfl (by omega) (by omega)) k_yX6_takesOf ⟨rfl, rfl⟩ q_ml_RX6_127 eM_0 rfl rfl hl.1 rfl (Nat.le_of_ble_eq_true rfl) ⟨Nat.le_of_ble_eq_true rfl, Nat.le_of_ble_eq_true rfl⟩ dX6_tryOnce_53 ⟨Nat.zero_le _, Nat.zero_le _⟩) hW (fun r5 u5 H locs hp5 hW => ?_)
          have hW := hx_congr hW hp5.2
          refine r_top hp5.1 ?_
          refine lv_iload_n hx hb dX6_tryOnce_56 rfl (lv_at hl 1 rfl) ?_
          refine lv_icmp_gt (tgt := 81) hx hb dX6_tryOnce_57 (by decide) (fun c_57_6 => ?_) (fun c_57_6 => ?_)
          · have hN : high (hM P t) q (cm t) = k := by rw [← hE, show P - k = (P - (k + 1)) + 1 by omega]; show ite _ _ _ = _; rw [if_neg (Int32.not_le.mpr c_57_6)]
            refine lv_aload_n hx hb dX6_tryOnce_81 rfl (lv_at hl 2 rfl) ?_
            refine gM_height hC hW q_fl_RX6_46 dX6_tryOnce_82 ?_
            refine lv_iload_n hx hb dX6_tryOnce_85 rfl (lv_at hl 3 rfl) ?_
            refine lv_iload_n hx hb dX6_tryOnce_86 rfl (lv_at hl 0 rfl) ?_
            refine r_istN (t0 := 0) (j := q) hC hW eM_13 rfl (rfl) (by omega) (by decide) (sM_13 _) dX6_tryOnce_87 (fun H locs hW => ?_)
            have hW : HX (wM cs ad) (tyX cs) D A s.heap s (t.1, va_up (va_up t.2 12 (upd (t.2 12) q (t.2 12 q + 1))) 13 (upd (t.2 13) q (nI k))) H locs := hW
            refine lv_iload_n hx hb dX6_tryOnce_88 rfl (lv_at hl 0 rfl) ?_
            refine lv_aload_n hx hb dX6_tryOnce_89 rfl (lv_at hl 2 rfl) ?_
            refine gM_paces hC hW q_fl_RX6_71 dX6_tryOnce_90 ?_
            refine r_top (y := nI P) hP ?_
            refine lv_icmp_ne (tgt := 109) hx hb dX6_tryOnce_93 (by decide) (fun c_93_7 => ?_) (fun c_93_7 => ?_)
            · have c_93_7 : ¬ k = P := fun h => c_93_7 ((nI_eq (a := k) (b := P) (by omega) (by omega)).mpr h)
              refine lv_aload_n hx hb dX6_tryOnce_109 rfl (lv_at hl 2 rfl) ?_
              refine gM_kind hC hW q_fl_RX6_25 dX6_tryOnce_110 ?_
              refine lv_iload_n hx hb dX6_tryOnce_113 rfl (lv_at hl 3 rfl) ?_
              refine r_ildN (t0 := 0) (j := q) hC hW eM_6 rfl (rfl) (by omega) (by decide) dX6_tryOnce_114 ?_
              refine r_top (y := t.2 6 q) (by first | rfl | simp only [va_up_self]) ?_
              refine lv_iconst (v := 2) hx hb dX6_tryOnce_115 (by decide) ?_
              refine lv_icmp_ne (tgt := 123) hx hb dX6_tryOnce_116 (by decide) (fun c_116_8 => ?_) (fun c_116_8 => ?_)
              · refine lv_iconst (v := 1) hx hb dX6_tryOnce_123 (by decide) ?_
                refine r_top (y := marks (hM P t) q) (if_neg (show ¬ (hM P t).2.2.1 q = 2 from c_116_8)).symm ?_
                refine lv_istore (lv' := [(4, .int (marks (hM P t) q)), (3, .int (nI k)), (2, .int lf), (0, .ref (ad 0)), (1, .int (nI q))]) hx hb dX6_tryOnce_124 hl (by decide) rfl (fun ls hl => ?_)
                refine lv_iconst (v := 0) hx hb dX6_tryOnce_126 (by decide) ?_
                refine lv_istore (lv' := [(5, .int 0), (4, .int (marks (hM P t) q)), (3, .int (nI k)), (2, .int lf), (0, .ref (ad 0)), (1, .int (nI q))]) hx hb dX6_tryOnce_127 hl (by decide) rfl (fun ls hl => ?_)
                have hW : HX (wM cs ad) (tyX cs) D A s.heap s (t.1, va_up (va_up (va_up t.2 12 (upd (t.2 12) q (t.2 12 q + 1))) 13 (upd (t.2 13) q (nI k))) 11 (slideF (t.2 11) 0 (marks (hM P t) q))) _ _ := hx_congr hW (by rw [show slideF (t.2 11) 0 (marks (hM P t) q) = t.2 11 from by funext p9; simp [slideF]]; exact Prod.ext rfl (by funext k9; simp only [va_up]; (repeat' split) <;> first | rfl | simp_all))
                have loop_129_9 : ∀ (f9 : Nat) (z : Nat), (z ≤ k) → k - z < f9 → ∀ (H : Heap) (locs : List Loc), HX (wM cs ad) (tyX cs) D A s.heap s (t.1, va_up (va_up (va_up t.2 12 (upd (t.2 12) q (t.2 12 q + 1))) 13 (upd (t.2 13) q (nI k))) 11 (slideF (t.2 11) z (marks (hM P t) q))) H locs → ∀ ls : Array Slot, lv_has ls 6 [(5, .int (nI z)), (4, .int (marks (hM P t) q)), (3, .int (nI k)), (0, .ref (ad 0))] → W p9 l e9 (rmk 1 24) s m9 args below meth c9 H locs 0 0 Q (F0 m9 129 ls []) := by
                  intro f_129
                  induction f_129 with
                  | zero => intro z hz hm_129 H locs hW ls hl; exact absurd hm_129 (Nat.not_lt_zero _)
                  | succ f_129 ih_129 =>
                    intro z hz hm_129 H locs hW ls hl
                    refine lv_iload hx hb dX6_tryOnce_129 (lv_at hl 0 rfl) ?_
                    refine lv_iload_n hx hb dX6_tryOnce_131 rfl (lv_at hl 2 rfl) ?_
                    refine lv_icmp_ge (tgt := 178) hx hb dX6_tryOnce_132 (by decide) (fun c_132_10 => ?_) (fun c_132_10 => ?_)
                    · have c_132_10 : k ≤ z := (nI_leI (a := k) (b := z) (by omega) (by omega)).mp c_132_10
                      have ezk : z = k := by omega
                      rw [ezk] at hW
                      exact r_vret hC hr hlk hW hQ (⟨⟨fun k h => by simp (disch := omega) only [va_up_ne], fun k h1 h2 h3 => by simp (disch := omega) only [va_up_ne]⟩, by unfold att; rw [hN, if_neg (show ¬ k = (hM P t).1 from c_93_7), if_neg (show ¬ k = (hM P t).1 from c_93_7)]; rfl⟩) dX6_tryOnce_178
                    · have c_132_10 : ¬ k ≤ z := fun h => c_132_10 ((nI_leI (a := k) (b := z) (by omega) (by omega)).mpr h)
                      refine lv_aload_n hx hb dX6_tryOnce_135 rfl (lv_at hl 3 rfl) ?_
                      refine gM_scratches hC hW q_fl_RX6_40 dX6_tryOnce_136 ?_
                      refine lv_iload hx hb dX6_tryOnce_139 (lv_at hl 0 rfl) ?_
                      refine lv_aload_n hx hb dX6_tryOnce_141 rfl (lv_at hl 3 rfl) ?_
                      refine gM_scratches hC hW q_fl_RX6_40 dX6_tryOnce_142 ?_
                      refine lv_iload hx hb dX6_tryOnce_145 (lv_at hl 0 rfl) ?_
                      refine r_ildN (t0 := 0) (j := z) hC hW eM_11 rfl (rfl) (by omega) (by decide) dX6_tryOnce_147 ?_
                      refine r_top (y := (slideF (t.2 11) z (marks (hM P t) q)) z) (by first | rfl | simp only [va_up_self]) ?_
                      refine lv_iload hx hb dX6_tryOnce_148 (lv_at hl 1 rfl) ?_
                      refine lv_iadd hx hb dX6_tryOnce_150 ?_
                      refine lv_bipush (v := 9) hx hb dX6_tryOnce_151 (by decide) ?_
                      refine lv_icmp_le (tgt := 161) hx hb dX6_tryOnce_153 (by decide) (fun c_153_11 => ?_) (fun c_153_11 => ?_)
                      · refine lv_aload_n hx hb dX6_tryOnce_161 rfl (lv_at hl 3 rfl) ?_
                        refine gM_scratches hC hW q_fl_RX6_40 dX6_tryOnce_162 ?_
                        refine lv_iload hx hb dX6_tryOnce_165 (lv_at hl 0 rfl) ?_
                        refine r_ildN (t0 := 0) (j := z) hC hW eM_11 rfl (rfl) (by omega) (by decide) dX6_tryOnce_167 ?_
                        refine r_top (y := (slideF (t.2 11) z (marks (hM P t) q)) z) (by first | rfl | simp only [va_up_self]) ?_
                        refine lv_iload hx hb dX6_tryOnce_168 (lv_at hl 1 rfl) ?_
                        refine lv_iadd hx hb dX6_tryOnce_170 ?_
                        refine r_top (y := mn9 (slideF (t.2 11) z (marks (hM P t) q) z + marks (hM P t) q)) (mn9_le c_153_11).symm ?_
                        refine r_istN (t0 := 0) (j := z) hC hW eM_11 rfl (rfl) (by omega) (by decide) (sM_11 _) dX6_tryOnce_171 (fun H locs hW => ?_)
                        have hW : HX (wM cs ad) (tyX cs) D A s.heap s (t.1, va_up (va_up (va_up t.2 12 (upd (t.2 12) q (t.2 12 q + 1))) 13 (upd (t.2 13) q (nI k))) 11 (upd (slideF (t.2 11) z (marks (hM P t) q)) z (mn9 (slideF (t.2 11) z (marks (hM P t) q) z + marks (hM P t) q)))) H locs := hx_congr hW (by first | rfl | (simp only [va_upup]; done) | (refine Prod.ext (funext fun k => ?_) (funext fun k => ?_) <;> simp only [va_up] <;> (repeat' split) <;> first | rfl | omega | simp_all))
                        refine lv_iinc (v := nI (z + 1)) (lv' := [(5, .int (nI (z + 1))), (4, .int (marks (hM P t) q)), (3, .int (nI k)), (0, .ref (ad 0))]) hx hb dX6_tryOnce_172 hl (k := 0) rfl (nI_1 _) (by decide) rfl (fun ls hl => ?_)
                        refine lv_goto (tgt := 129) hx hb dX6_tryOnce_175 (by decide) ?_
                        have hW : HX (wM cs ad) (tyX cs) D A s.heap s (t.1, va_up (va_up (va_up t.2 12 (upd (t.2 12) q (t.2 12 q + 1))) 13 (upd (t.2 13) q (nI k))) 11 (slideF (t.2 11) (z + 1) (marks (hM P t) q))) _ _ := hx_congr hW (by rw [slideF_s])
                        exact ih_129 (z + 1) (by omega) (by omega) _ _ hW ls (lv_sub hl [0, 1, 2, 3] rfl)
                      · refine lv_bipush (v := 9) hx hb dX6_tryOnce_156 (by decide) ?_
                        refine lv_goto (tgt := 171) hx hb dX6_tryOnce_158 (by decide) ?_
                        refine r_top (y := mn9 (slideF (t.2 11) z (marks (hM P t) q) z + marks (hM P t) q)) (mn9_gt c_153_11).symm ?_
                        refine r_istN (t0 := 0) (j := z) hC hW eM_11 rfl (rfl) (by omega) (by decide) (sM_11 _) dX6_tryOnce_171 (fun H locs hW => ?_)
                        have hW : HX (wM cs ad) (tyX cs) D A s.heap s (t.1, va_up (va_up (va_up t.2 12 (upd (t.2 12) q (t.2 12 q + 1))) 13 (upd (t.2 13) q (nI k))) 11 (upd (slideF (t.2 11) z (marks (hM P t) q)) z (mn9 (slideF (t.2 11) z (marks (hM P t) q) z + marks (hM P t) q)))) H locs := hx_congr hW (by first | rfl | (simp only [va_upup]; done) | (refine Prod.ext (funext fun k => ?_) (funext fun k => ?_) <;> simp only [va_up] <;> (repeat' split) <;> first | rfl | omega | simp_all))
                        refine lv_iinc (v := nI (z + 1)) (lv' := [(5, .int (nI (z + 1))), (4, .int (marks (hM P t) q)), (3, .int (nI k)), (0, .ref (ad 0))]) hx hb dX6_tryOnce_172 hl (k := 0) rfl (nI_1 _) (by decide) rfl (fun ls hl => ?_)
                        refine lv_goto (tgt := 129) hx hb dX6_tryOnce_175 (by decide) ?_
                        have hW : HX (wM cs ad) (tyX cs) D A s.heap s (t.1, va_up (va_up (va_up t.2 12 (upd (t.2 12) q (t.2 12 q + 1))) 13 (upd (t.2 13) q (nI k))) 11 (slideF (t.2 11) (z + 1) (marks (hM P t) q))) _ _ := hx_congr hW (by rw [slideF_s])
                        exact ih_129 (z + 1) (by omega) (by omega) _ _ hW ls (lv_sub hl [0, 1, 2, 3] rfl)
                exact loop_129_9 _ 0 (Nat.zero_le _) (Nat.lt_succ_self _) _ _ hW ls (lv_sub hl [0, 1, 2, 4] rfl)
              · refine lv_iconst (v := 2) hx hb dX6_tryOnce_119 (by decide) ?_
                refine lv_goto (tgt := 124) hx hb dX6_tryOnce_120 (by decide) ?_
                refine r_top (y := marks (hM P t) q) (if_pos (show (hM P t).2.2.1 q = 2 from c_116_8)).symm ?_
                refine lv_istore (lv' := [(4, .int (marks (hM P t) q)), (3, .int (nI k)), (2, .int lf), (0, .ref (ad 0)), (1, .int (nI q))]) hx hb dX6_tryOnce_124 hl (by decide) rfl (fun ls hl => ?_)
                refine lv_iconst (v := 0) hx hb dX6_tryOnce_126 (by decide) ?_
                refine lv_istore (lv' := [(5, .int 0), (4, .int (marks (hM P t) q)), (3, .int (nI k)), (2, .int lf), (0, .ref (ad 0)), (1, .int (nI q))]) hx hb dX6_tryOnce_127 hl (by decide) rfl (fun ls hl => ?_)
                have hW : HX (wM cs ad) (tyX cs) D A s.heap s (t.1, va_up (va_up (va_up t.2 12 (upd (t.2 12) q (t.2 12 q + 1))) 13 (upd (t.2 13) q (nI k))) 11 (slideF (t.2 11) 0 (marks (hM P t) q))) _ _ := hx_congr hW (by rw [show slideF (t.2 11) 0 (marks (hM P t) q) = t.2 11 from by funext p9; simp [slideF]]; exact Prod.ext rfl (by funext k9; simp only [va_up]; (repeat' split) <;> first | rfl | simp_all))
                have loop_129_12 : ∀ (f9 : Nat) (z : Nat), (z ≤ k) → k - z < f9 → ∀ (H : Heap) (locs : List Loc), HX (wM cs ad) (tyX cs) D A s.heap s (t.1, va_up (va_up (va_up t.2 12 (upd (t.2 12) q (t.2 12 q + 1))) 13 (upd (t.2 13) q (nI k))) 11 (slideF (t.2 11) z (marks (hM P t) q))) H locs → ∀ ls : Array Slot, lv_has ls 6 [(5, .int (nI z)), (4, .int (marks (hM P t) q)), (3, .int (nI k)), (0, .ref (ad 0))] → W p9 l e9 (rmk 1 24) s m9 args below meth c9 H locs 0 0 Q (F0 m9 129 ls []) := by
                  intro f_129
                  induction f_129 with
                  | zero => intro z hz hm_129 H locs hW ls hl; exact absurd hm_129 (Nat.not_lt_zero _)
                  | succ f_129 ih_129 =>
                    intro z hz hm_129 H locs hW ls hl
                    refine lv_iload hx hb dX6_tryOnce_129 (lv_at hl 0 rfl) ?_
                    refine lv_iload_n hx hb dX6_tryOnce_131 rfl (lv_at hl 2 rfl) ?_
                    refine lv_icmp_ge (tgt := 178) hx hb dX6_tryOnce_132 (by decide) (fun c_132_13 => ?_) (fun c_132_13 => ?_)
                    · have c_132_13 : k ≤ z := (nI_leI (a := k) (b := z) (by omega) (by omega)).mp c_132_13
                      have ezk : z = k := by omega
                      rw [ezk] at hW
                      exact r_vret hC hr hlk hW hQ (⟨⟨fun k h => by simp (disch := omega) only [va_up_ne], fun k h1 h2 h3 => by simp (disch := omega) only [va_up_ne]⟩, by unfold att; rw [hN, if_neg (show ¬ k = (hM P t).1 from c_93_7), if_neg (show ¬ k = (hM P t).1 from c_93_7)]; rfl⟩) dX6_tryOnce_178
                    · have c_132_13 : ¬ k ≤ z := fun h => c_132_13 ((nI_leI (a := k) (b := z) (by omega) (by omega)).mpr h)
                      refine lv_aload_n hx hb dX6_tryOnce_135 rfl (lv_at hl 3 rfl) ?_
                      refine gM_scratches hC hW q_fl_RX6_40 dX6_tryOnce_136 ?_
                      refine lv_iload hx hb dX6_tryOnce_139 (lv_at hl 0 rfl) ?_
                      refine lv_aload_n hx hb dX6_tryOnce_141 rfl (lv_at hl 3 rfl) ?_
                      refine gM_scratches hC hW q_fl_RX6_40 dX6_tryOnce_142 ?_
                      refine lv_iload hx hb dX6_tryOnce_145 (lv_at hl 0 rfl) ?_
                      refine r_ildN (t0 := 0) (j := z) hC hW eM_11 rfl (rfl) (by omega) (by decide) dX6_tryOnce_147 ?_
                      refine r_top (y := (slideF (t.2 11) z (marks (hM P t) q)) z) (by first | rfl | simp only [va_up_self]) ?_
                      refine lv_iload hx hb dX6_tryOnce_148 (lv_at hl 1 rfl) ?_
                      refine lv_iadd hx hb dX6_tryOnce_150 ?_
                      refine lv_bipush (v := 9) hx hb dX6_tryOnce_151 (by decide) ?_
                      refine lv_icmp_le (tgt := 161) hx hb dX6_tryOnce_153 (by decide) (fun c_153_14 => ?_) (fun c_153_14 => ?_)
                      · refine lv_aload_n hx hb dX6_tryOnce_161 rfl (lv_at hl 3 rfl) ?_
                        refine gM_scratches hC hW q_fl_RX6_40 dX6_tryOnce_162 ?_
                        refine lv_iload hx hb dX6_tryOnce_165 (lv_at hl 0 rfl) ?_
                        refine r_ildN (t0 := 0) (j := z) hC hW eM_11 rfl (rfl) (by omega) (by decide) dX6_tryOnce_167 ?_
                        refine r_top (y := (slideF (t.2 11) z (marks (hM P t) q)) z) (by first | rfl | simp only [va_up_self]) ?_
                        refine lv_iload hx hb dX6_tryOnce_168 (lv_at hl 1 rfl) ?_
                        refine lv_iadd hx hb dX6_tryOnce_170 ?_
                        refine r_top (y := mn9 (slideF (t.2 11) z (marks (hM P t) q) z + marks (hM P t) q)) (mn9_le c_153_14).symm ?_
                        refine r_istN (t0 := 0) (j := z) hC hW eM_11 rfl (rfl) (by omega) (by decide) (sM_11 _) dX6_tryOnce_171 (fun H locs hW => ?_)
                        have hW : HX (wM cs ad) (tyX cs) D A s.heap s (t.1, va_up (va_up (va_up t.2 12 (upd (t.2 12) q (t.2 12 q + 1))) 13 (upd (t.2 13) q (nI k))) 11 (upd (slideF (t.2 11) z (marks (hM P t) q)) z (mn9 (slideF (t.2 11) z (marks (hM P t) q) z + marks (hM P t) q)))) H locs := hx_congr hW (by first | rfl | (simp only [va_upup]; done) | (refine Prod.ext (funext fun k => ?_) (funext fun k => ?_) <;> simp only [va_up] <;> (repeat' split) <;> first | rfl | omega | simp_all))
                        refine lv_iinc (v := nI (z + 1)) (lv' := [(5, .int (nI (z + 1))), (4, .int (marks (hM P t) q)), (3, .int (nI k)), (0, .ref (ad 0))]) hx hb dX6_tryOnce_172 hl (k := 0) rfl (nI_1 _) (by decide) rfl (fun ls hl => ?_)
                        refine lv_goto (tgt := 129) hx hb dX6_tryOnce_175 (by decide) ?_
                        have hW : HX (wM cs ad) (tyX cs) D A s.heap s (t.1, va_up (va_up (va_up t.2 12 (upd (t.2 12) q (t.2 12 q + 1))) 13 (upd (t.2 13) q (nI k))) 11 (slideF (t.2 11) (z + 1) (marks (hM P t) q))) _ _ := hx_congr hW (by rw [slideF_s])
                        exact ih_129 (z + 1) (by omega) (by omega) _ _ hW ls (lv_sub hl [0, 1, 2, 3] rfl)
                      · refine lv_bipush (v := 9) hx hb dX6_tryOnce_156 (by decide) ?_
                        refine lv_goto (tgt := 171) hx hb dX6_tryOnce_158 (by decide) ?_
                        refine r_top (y := mn9 (slideF (t.2 11) z (marks (hM P t) q) z + marks (hM P t) q)) (mn9_gt c_153_14).symm ?_
                        refine r_istN (t0 := 0) (j := z) hC hW eM_11 rfl (rfl) (by omega) (by decide) (sM_11 _) dX6_tryOnce_171 (fun H locs hW => ?_)
                        have hW : HX (wM cs ad) (tyX cs) D A s.heap s (t.1, va_up (va_up (va_up t.2 12 (upd (t.2 12) q (t.2 12 q + 1))) 13 (upd (t.2 13) q (nI k))) 11 (upd (slideF (t.2 11) z (marks (hM P t) q)) z (mn9 (slideF (t.2 11) z (marks (hM P t) q) z + marks (hM P t) q)))) H locs := hx_congr hW (by first | rfl | (simp only [va_upup]; done) | (refine Prod.ext (funext fun k => ?_) (funext fun k => ?_) <;> simp only [va_up] <;> (repeat' split) <;> first | rfl | omega | simp_all))
                        refine lv_iinc (v := nI (z + 1)) (lv' := [(5, .int (nI (z + 1))), (4, .int (marks (hM P t) q)), (3, .int (nI k)), (0, .ref (ad 0))]) hx hb dX6_tryOnce_172 hl (k := 0) rfl (nI_1 _) (by decide) rfl (fun ls hl => ?_)
                        refine lv_goto (tgt := 129) hx hb dX6_tryOnce_175 (by decide) ?_
                        have hW : HX (wM cs ad) (tyX cs) D A s.heap s (t.1, va_up (va_up (va_up t.2 12 (upd (t.2 12) q (t.2 12 q + 1))) 13 (upd (t.2 13) q (nI k))) 11 (slideF (t.2 11) (z + 1) (marks (hM P t) q))) _ _ := hx_congr hW (by rw [slideF_s])
                        exact ih_129 (z + 1) (by omega) (by omega) _ _ hW ls (lv_sub hl [0, 1, 2, 3] rfl)
                exact loop_129_12 _ 0 (Nat.zero_le _) (Nat.lt_succ_self _) _ _ hW ls (lv_sub hl [0, 1, 2, 4] rfl)
            · have c_93_7 : k = P := (nI_eq (a := k) (b := P) (by omega) (by omega)).mp c_93_7
              exfalso; omega
          · refine lv_iload_n hx hb dX6_tryOnce_60 rfl (lv_at hl 1 rfl) ?_
            refine lv_aload_n hx hb dX6_tryOnce_61 rfl (lv_at hl 2 rfl) ?_
            refine lv_iload_n hx hb dX6_tryOnce_62 rfl (lv_at hl 3 rfl) ?_
            refine lv_iload_n hx hb dX6_tryOnce_63 rfl (lv_at hl 0 rfl) ?_
            refine lv_aload_n hx hb dX6_tryOnce_64 rfl (lv_at hl 2 rfl) ?_
            refine gM_scratches hC hW q_fl_RX6_40 dX6_tryOnce_65 ?_
            refine lv_iload_n hx hb dX6_tryOnce_68 rfl (lv_at hl 0 rfl) ?_
            refine r_ildN (t0 := 0) (j := k) hC hW eM_11 rfl (rfl) (by omega) (by decide) dX6_tryOnce_69 ?_
            refine r_top (y := t.2 11 k) (by first | rfl | simp only [va_up_self]) ?_
            refine fin_i (run_V (rest := [.int lf]) hC hW (m_X6_takesOf l D cs ad (t.1, va_up t.2 12 (upd (t.2 12) q (t.2 12 q + 1))) P (hM P t) q k (t.2 11 k) rfl (by omega) (by omega)) k_yX6_takesOf ⟨rfl, rfl⟩ q_ml_RX6_127 eM_0 rfl rfl hl.1 rfl (Nat.le_of_ble_eq_true rfl) ⟨Nat.le_of_ble_eq_true rfl, Nat.le_of_ble_eq_true rfl⟩ dX6_tryOnce_70 ⟨Nat.zero_le _, Nat.zero_le _⟩) hW (fun r15 u15 H locs hp15 hW => ?_)
            have hW := hx_congr hW hp15.2
            refine r_top hp15.1 ?_
            refine lv_isub hx hb dX6_tryOnce_73 ?_
            refine lv_istore_n (lv' := [(2, .int (lf - (toll (hM P t) q k (t.2 11 k)))), (3, .int (nI k)), (0, .ref (ad 0)), (1, .int (nI q))]) hx hb dX6_tryOnce_74 rfl hl (by decide) rfl (fun ls hl => ?_)
            refine lv_iinc (v := nI (k + 1)) (lv' := [(3, .int (nI (k + 1))), (2, .int (lf - (toll (hM P t) q k (t.2 11 k)))), (0, .ref (ad 0)), (1, .int (nI q))]) hx hb dX6_tryOnce_75 hl (k := 1) rfl (nI_1 _) (by decide) rfl (fun ls hl => ?_)
            refine lv_goto (tgt := 36) hx hb dX6_tryOnce_78 (by decide) ?_
            exact ih_36 (k + 1) (lf - (toll (hM P t) q k (t.2 11 k))) (by omega) (by rw [← hE, show P - k = (P - (k + 1)) + 1 by omega]; show _ = ite _ _ _; rw [if_pos (Int32.not_lt.mp c_57_6)]) (by omega) _ _ hW ls (lv_sub hl [0, 1, 2, 3] rfl)
    exact loop_36_2 _ 0 (left0 (hM P t) q (cm t)) (Nat.zero_le _) (rfl) (Nat.lt_succ_self _) _ _ hW ls (lv_sub hl [0, 1, 2, 3] rfl)
  · refine lv_iconst (v := 0) hx hb dX6_tryOnce_18 (by decide) ?_
    refine lv_goto (tgt := 23) hx hb dX6_tryOnce_19 (by decide) ?_
    refine r_top (y := left0 (hM P t) q (cm t)) ((mx0_lt (Int32.not_le.mp c_15_1)).symm) ?_
    refine lv_istore_n (lv' := [(2, .int (left0 (hM P t) q (cm t))), (0, .ref (ad 0)), (1, .int (nI q))]) hx hb dX6_tryOnce_23 rfl hl (by decide) rfl (fun ls hl => ?_)
    refine lv_aload_n hx hb dX6_tryOnce_24 rfl (lv_at hl 1 rfl) ?_
    refine gM_tries hC hW q_fl_RX6_43 dX6_tryOnce_25 ?_
    refine lv_iload_n hx hb dX6_tryOnce_28 rfl (lv_at hl 2 rfl) ?_
    refine lv_dup2_11 hx hb dX6_tryOnce_29 rfl rfl ?_
    refine r_ildN (t0 := 0) (j := q) hC hW eM_12 rfl (rfl) (by omega) (by decide) dX6_tryOnce_30 ?_
    refine lv_iconst (v := 1) hx hb dX6_tryOnce_31 (by decide) ?_
    refine lv_iadd hx hb dX6_tryOnce_32 ?_
    refine r_istN (t0 := 0) (j := q) hC hW eM_12 rfl (rfl) (by omega) (by decide) (sM_12 _) dX6_tryOnce_33 (fun H locs hW => ?_)
    have hW : HX (wM cs ad) (tyX cs) D A s.heap s (t.1, va_up t.2 12 (upd (t.2 12) q ((t.2 12 q) + 1))) H locs := hW
    refine lv_iconst (v := 0) hx hb dX6_tryOnce_34 (by decide) ?_
    refine lv_istore_n (lv' := [(3, .int 0), (2, .int (left0 (hM P t) q (cm t))), (0, .ref (ad 0)), (1, .int (nI q))]) hx hb dX6_tryOnce_35 rfl hl (by decide) rfl (fun ls hl => ?_)
    have loop_36_16 : ∀ (f9 : Nat) (k : Nat) (lf : Int32), (k ≤ P) → (hgt (hM P t) q (t.2 11) (P - k) k lf = high (hM P t) q (cm t)) → P - k < f9 → ∀ (H : Heap) (locs : List Loc), HX (wM cs ad) (tyX cs) D A s.heap s (t.1, va_up t.2 12 (upd (t.2 12) q (t.2 12 q + 1))) H locs → ∀ ls : Array Slot, lv_has ls 6 [(3, .int (nI k)), (2, .int lf), (0, .ref (ad 0)), (1, .int (nI q))] → W p9 l e9 (rmk 1 24) s m9 args below meth c9 H locs 0 0 Q (F0 m9 36 ls []) := by
      intro f_36
      induction f_36 with
      | zero => intro k lf hk hE hm_36 H locs hW ls hl; exact absurd hm_36 (Nat.not_lt_zero _)
      | succ f_36 ih_36 =>
        intro k lf hk hE hm_36 H locs hW ls hl
        refine lv_iload_n hx hb dX6_tryOnce_36 rfl (lv_at hl 0 rfl) ?_
        refine lv_aload_n hx hb dX6_tryOnce_37 rfl (lv_at hl 2 rfl) ?_
        refine gM_paces hC hW q_fl_RX6_71 dX6_tryOnce_38 ?_
        refine r_top (y := nI P) hP ?_
        refine lv_icmp_ge (tgt := 81) hx hb dX6_tryOnce_41 (by decide) (fun c_41_17 => ?_) (fun c_41_17 => ?_)
        · have c_41_17 : P ≤ k := (nI_leI (a := P) (b := k) (by omega) (by omega)).mp c_41_17
          have hN : high (hM P t) q (cm t) = k := by rw [← hE, show P - k = 0 by omega]; rfl
          refine lv_aload_n hx hb dX6_tryOnce_81 rfl (lv_at hl 2 rfl) ?_
          refine gM_height hC hW q_fl_RX6_46 dX6_tryOnce_82 ?_
          refine lv_iload_n hx hb dX6_tryOnce_85 rfl (lv_at hl 3 rfl) ?_
          refine lv_iload_n hx hb dX6_tryOnce_86 rfl (lv_at hl 0 rfl) ?_
          refine r_istN (t0 := 0) (j := q) hC hW eM_13 rfl (rfl) (by omega) (by decide) (sM_13 _) dX6_tryOnce_87 (fun H locs hW => ?_)
          have hW : HX (wM cs ad) (tyX cs) D A s.heap s (t.1, va_up (va_up t.2 12 (upd (t.2 12) q (t.2 12 q + 1))) 13 (upd (t.2 13) q (nI k))) H locs := hW
          refine lv_iload_n hx hb dX6_tryOnce_88 rfl (lv_at hl 0 rfl) ?_
          refine lv_aload_n hx hb dX6_tryOnce_89 rfl (lv_at hl 2 rfl) ?_
          refine gM_paces hC hW q_fl_RX6_71 dX6_tryOnce_90 ?_
          refine r_top (y := nI P) hP ?_
          refine lv_icmp_ne (tgt := 109) hx hb dX6_tryOnce_93 (by decide) (fun c_93_18 => ?_) (fun c_93_18 => ?_)
          · have c_93_18 : ¬ k = P := fun h => c_93_18 ((nI_eq (a := k) (b := P) (by omega) (by omega)).mpr h)
            exfalso; omega
          · have c_93_18 : k = P := (nI_eq (a := k) (b := P) (by omega) (by omega)).mp c_93_18
            refine lv_aload_n hx hb dX6_tryOnce_96 rfl (lv_at hl 2 rfl) ?_
            refine lv_dup hx hb dX6_tryOnce_97 rfl ?_
            refine gM_up hC hW q_fl_RX6_130 dX6_tryOnce_98 ?_
            refine r_top (y := t.1 7) rfl ?_
            refine lv_iconst (v := 1) hx hb dX6_tryOnce_101 (by decide) ?_
            refine lv_iload_n hx hb dX6_tryOnce_102 rfl (lv_at hl 3 rfl) ?_
            refine lv_ishl hx hb dX6_tryOnce_103 ?_
            refine lv_ior hx hb dX6_tryOnce_104 ?_
            refine pM_up hC hW q_fl_RX6_130 dX6_tryOnce_105 (fun H locs hW => ?_)
            have hW : HX (wM cs ad) (tyX cs) D A s.heap s (va_up t.1 7 ((t.1 7) ||| (1 <<< ((nI q) &&& 31))), va_up (va_up t.2 12 (upd (t.2 12) q (t.2 12 q + 1))) 13 (upd (t.2 13) q (nI k))) H locs := hW
            exact r_vret hC hr hlk hW hQ (⟨⟨fun k h => by simp (disch := omega) only [va_up_ne], fun k h1 h2 h3 => by simp (disch := omega) only [va_up_ne]⟩, by unfold att; rw [hN, if_pos (show k = (hM P t).1 from c_93_18), if_pos (show k = (hM P t).1 from c_93_18)]; rfl⟩) dX6_tryOnce_108
        · have c_41_17 : ¬ P ≤ k := fun h => c_41_17 ((nI_leI (a := P) (b := k) (by omega) (by omega)).mpr h)
          refine lv_aload_n hx hb dX6_tryOnce_44 rfl (lv_at hl 2 rfl) ?_
          refine lv_iload_n hx hb dX6_tryOnce_45 rfl (lv_at hl 3 rfl) ?_
          refine lv_iload_n hx hb dX6_tryOnce_46 rfl (lv_at hl 0 rfl) ?_
          refine lv_aload_n hx hb dX6_tryOnce_47 rfl (lv_at hl 2 rfl) ?_
          refine gM_scratches hC hW q_fl_RX6_40 dX6_tryOnce_48 ?_
          refine lv_iload_n hx hb dX6_tryOnce_51 rfl (lv_at hl 0 rfl) ?_
          refine r_ildN (t0 := 0) (j := k) hC hW eM_11 rfl (rfl) (by omega) (by decide) dX6_tryOnce_52 ?_
          refine r_top (y := t.2 11 k) (by first | rfl | simp only [va_up_self]) ?_
          refine fin_i (run_V (rest := []) hC hW (m_X6_takesOf l D cs ad (t.1, va_up t.2 12 (upd (t.2 12) q (t.2 12 q + 1))) P (hM P t) q k (t.2 11 k) rfl (by omega) (by omega)) k_yX6_takesOf ⟨rfl, rfl⟩ q_ml_RX6_127 eM_0 rfl rfl hl.1 rfl (Nat.le_of_ble_eq_true rfl) ⟨Nat.le_of_ble_eq_true rfl, Nat.le_of_ble_eq_true rfl⟩ dX6_tryOnce_53 ⟨Nat.zero_le _, Nat.zero_le _⟩) hW (fun r19 u19 H locs hp19 hW => ?_)
          have hW := hx_congr hW hp19.2
          refine r_top hp19.1 ?_
          refine lv_iload_n hx hb dX6_tryOnce_56 rfl (lv_at hl 1 rfl) ?_
          refine lv_icmp_gt (tgt := 81) hx hb dX6_tryOnce_57 (by decide) (fun c_57_20 => ?_) (fun c_57_20 => ?_)
          · have hN : high (hM P t) q (cm t) = k := by rw [← hE, show P - k = (P - (k + 1)) + 1 by omega]; show ite _ _ _ = _; rw [if_neg (Int32.not_le.mpr c_57_20)]
            refine lv_aload_n hx hb dX6_tryOnce_81 rfl (lv_at hl 2 rfl) ?_
            refine gM_height hC hW q_fl_RX6_46 dX6_tryOnce_82 ?_
            refine lv_iload_n hx hb dX6_tryOnce_85 rfl (lv_at hl 3 rfl) ?_
            refine lv_iload_n hx hb dX6_tryOnce_86 rfl (lv_at hl 0 rfl) ?_
            refine r_istN (t0 := 0) (j := q) hC hW eM_13 rfl (rfl) (by omega) (by decide) (sM_13 _) dX6_tryOnce_87 (fun H locs hW => ?_)
            have hW : HX (wM cs ad) (tyX cs) D A s.heap s (t.1, va_up (va_up t.2 12 (upd (t.2 12) q (t.2 12 q + 1))) 13 (upd (t.2 13) q (nI k))) H locs := hW
            refine lv_iload_n hx hb dX6_tryOnce_88 rfl (lv_at hl 0 rfl) ?_
            refine lv_aload_n hx hb dX6_tryOnce_89 rfl (lv_at hl 2 rfl) ?_
            refine gM_paces hC hW q_fl_RX6_71 dX6_tryOnce_90 ?_
            refine r_top (y := nI P) hP ?_
            refine lv_icmp_ne (tgt := 109) hx hb dX6_tryOnce_93 (by decide) (fun c_93_21 => ?_) (fun c_93_21 => ?_)
            · have c_93_21 : ¬ k = P := fun h => c_93_21 ((nI_eq (a := k) (b := P) (by omega) (by omega)).mpr h)
              refine lv_aload_n hx hb dX6_tryOnce_109 rfl (lv_at hl 2 rfl) ?_
              refine gM_kind hC hW q_fl_RX6_25 dX6_tryOnce_110 ?_
              refine lv_iload_n hx hb dX6_tryOnce_113 rfl (lv_at hl 3 rfl) ?_
              refine r_ildN (t0 := 0) (j := q) hC hW eM_6 rfl (rfl) (by omega) (by decide) dX6_tryOnce_114 ?_
              refine r_top (y := t.2 6 q) (by first | rfl | simp only [va_up_self]) ?_
              refine lv_iconst (v := 2) hx hb dX6_tryOnce_115 (by decide) ?_
              refine lv_icmp_ne (tgt := 123) hx hb dX6_tryOnce_116 (by decide) (fun c_116_22 => ?_) (fun c_116_22 => ?_)
              · refine lv_iconst (v := 1) hx hb dX6_tryOnce_123 (by decide) ?_
                refine r_top (y := marks (hM P t) q) (if_neg (show ¬ (hM P t).2.2.1 q = 2 from c_116_22)).symm ?_
                refine lv_istore (lv' := [(4, .int (marks (hM P t) q)), (3, .int (nI k)), (2, .int lf), (0, .ref (ad 0)), (1, .int (nI q))]) hx hb dX6_tryOnce_124 hl (by decide) rfl (fun ls hl => ?_)
                refine lv_iconst (v := 0) hx hb dX6_tryOnce_126 (by decide) ?_
                refine lv_istore (lv' := [(5, .int 0), (4, .int (marks (hM P t) q)), (3, .int (nI k)), (2, .int lf), (0, .ref (ad 0)), (1, .int (nI q))]) hx hb dX6_tryOnce_127 hl (by decide) rfl (fun ls hl => ?_)
                have hW : HX (wM cs ad) (tyX cs) D A s.heap s (t.1, va_up (va_up (va_up t.2 12 (upd (t.2 12) q (t.2 12 q + 1))) 13 (upd (t.2 13) q (nI k))) 11 (slideF (t.2 11) 0 (marks (hM P t) q))) _ _ := hx_congr hW (by rw [show slideF (t.2 11) 0 (marks (hM P t) q) = t.2 11 from by funext p9; simp [slideF]]; exact Prod.ext rfl (by funext k9; simp only [va_up]; (repeat' split) <;> first | rfl | simp_all))
                have loop_129_23 : ∀ (f9 : Nat) (z : Nat), (z ≤ k) → k - z < f9 → ∀ (H : Heap) (locs : List Loc), HX (wM cs ad) (tyX cs) D A s.heap s (t.1, va_up (va_up (va_up t.2 12 (upd (t.2 12) q (t.2 12 q + 1))) 13 (upd (t.2 13) q (nI k))) 11 (slideF (t.2 11) z (marks (hM P t) q))) H locs → ∀ ls : Array Slot, lv_has ls 6 [(5, .int (nI z)), (4, .int (marks (hM P t) q)), (3, .int (nI k)), (0, .ref (ad 0))] → W p9 l e9 (rmk 1 24) s m9 args below meth c9 H locs 0 0 Q (F0 m9 129 ls []) := by
                  intro f_129
                  induction f_129 with
                  | zero => intro z hz hm_129 H locs hW ls hl; exact absurd hm_129 (Nat.not_lt_zero _)
                  | succ f_129 ih_129 =>
                    intro z hz hm_129 H locs hW ls hl
                    refine lv_iload hx hb dX6_tryOnce_129 (lv_at hl 0 rfl) ?_
                    refine lv_iload_n hx hb dX6_tryOnce_131 rfl (lv_at hl 2 rfl) ?_
                    refine lv_icmp_ge (tgt := 178) hx hb dX6_tryOnce_132 (by decide) (fun c_132_24 => ?_) (fun c_132_24 => ?_)
                    · have c_132_24 : k ≤ z := (nI_leI (a := k) (b := z) (by omega) (by omega)).mp c_132_24
                      have ezk : z = k := by omega
                      rw [ezk] at hW
                      exact r_vret hC hr hlk hW hQ (⟨⟨fun k h => by simp (disch := omega) only [va_up_ne], fun k h1 h2 h3 => by simp (disch := omega) only [va_up_ne]⟩, by unfold att; rw [hN, if_neg (show ¬ k = (hM P t).1 from c_93_21), if_neg (show ¬ k = (hM P t).1 from c_93_21)]; rfl⟩) dX6_tryOnce_178
                    · have c_132_24 : ¬ k ≤ z := fun h => c_132_24 ((nI_leI (a := k) (b := z) (by omega) (by omega)).mpr h)
                      refine lv_aload_n hx hb dX6_tryOnce_135 rfl (lv_at hl 3 rfl) ?_
                      refine gM_scratches hC hW q_fl_RX6_40 dX6_tryOnce_136 ?_
                      refine lv_iload hx hb dX6_tryOnce_139 (lv_at hl 0 rfl) ?_
                      refine lv_aload_n hx hb dX6_tryOnce_141 rfl (lv_at hl 3 rfl) ?_
                      refine gM_scratches hC hW q_fl_RX6_40 dX6_tryOnce_142 ?_
                      refine lv_iload hx hb dX6_tryOnce_145 (lv_at hl 0 rfl) ?_
                      refine r_ildN (t0 := 0) (j := z) hC hW eM_11 rfl (rfl) (by omega) (by decide) dX6_tryOnce_147 ?_
                      refine r_top (y := (slideF (t.2 11) z (marks (hM P t) q)) z) (by first | rfl | simp only [va_up_self]) ?_
                      refine lv_iload hx hb dX6_tryOnce_148 (lv_at hl 1 rfl) ?_
                      refine lv_iadd hx hb dX6_tryOnce_150 ?_
                      refine lv_bipush (v := 9) hx hb dX6_tryOnce_151 (by decide) ?_
                      refine lv_icmp_le (tgt := 161) hx hb dX6_tryOnce_153 (by decide) (fun c_153_25 => ?_) (fun c_153_25 => ?_)
                      · refine lv_aload_n hx hb dX6_tryOnce_161 rfl (lv_at hl 3 rfl) ?_
                        refine gM_scratches hC hW q_fl_RX6_40 dX6_tryOnce_162 ?_
                        refine lv_iload hx hb dX6_tryOnce_165 (lv_at hl 0 rfl) ?_
                        refine r_ildN (t0 := 0) (j := z) hC hW eM_11 rfl (rfl) (by omega) (by decide) dX6_tryOnce_167 ?_
                        refine r_top (y := (slideF (t.2 11) z (marks (hM P t) q)) z) (by first | rfl | simp only [va_up_self]) ?_
                        refine lv_iload hx hb dX6_tryOnce_168 (lv_at hl 1 rfl) ?_
                        refine lv_iadd hx hb dX6_tryOnce_170 ?_
                        refine r_top (y := mn9 (slideF (t.2 11) z (marks (hM P t) q) z + marks (hM P t) q)) (mn9_le c_153_25).symm ?_
                        refine r_istN (t0 := 0) (j := z) hC hW eM_11 rfl (rfl) (by omega) (by decide) (sM_11 _) dX6_tryOnce_171 (fun H locs hW => ?_)
                        have hW : HX (wM cs ad) (tyX cs) D A s.heap s (t.1, va_up (va_up (va_up t.2 12 (upd (t.2 12) q (t.2 12 q + 1))) 13 (upd (t.2 13) q (nI k))) 11 (upd (slideF (t.2 11) z (marks (hM P t) q)) z (mn9 (slideF (t.2 11) z (marks (hM P t) q) z + marks (hM P t) q)))) H locs := hx_congr hW (by first | rfl | (simp only [va_upup]; done) | (refine Prod.ext (funext fun k => ?_) (funext fun k => ?_) <;> simp only [va_up] <;> (repeat' split) <;> first | rfl | omega | simp_all))
                        refine lv_iinc (v := nI (z + 1)) (lv' := [(5, .int (nI (z + 1))), (4, .int (marks (hM P t) q)), (3, .int (nI k)), (0, .ref (ad 0))]) hx hb dX6_tryOnce_172 hl (k := 0) rfl (nI_1 _) (by decide) rfl (fun ls hl => ?_)
                        refine lv_goto (tgt := 129) hx hb dX6_tryOnce_175 (by decide) ?_
                        have hW : HX (wM cs ad) (tyX cs) D A s.heap s (t.1, va_up (va_up (va_up t.2 12 (upd (t.2 12) q (t.2 12 q + 1))) 13 (upd (t.2 13) q (nI k))) 11 (slideF (t.2 11) (z + 1) (marks (hM P t) q))) _ _ := hx_congr hW (by rw [slideF_s])
                        exact ih_129 (z + 1) (by omega) (by omega) _ _ hW ls (lv_sub hl [0, 1, 2, 3] rfl)
                      · refine lv_bipush (v := 9) hx hb dX6_tryOnce_156 (by decide) ?_
                        refine lv_goto (tgt := 171) hx hb dX6_tryOnce_158 (by decide) ?_
                        refine r_top (y := mn9 (slideF (t.2 11) z (marks (hM P t) q) z + marks (hM P t) q)) (mn9_gt c_153_25).symm ?_
                        refine r_istN (t0 := 0) (j := z) hC hW eM_11 rfl (rfl) (by omega) (by decide) (sM_11 _) dX6_tryOnce_171 (fun H locs hW => ?_)
                        have hW : HX (wM cs ad) (tyX cs) D A s.heap s (t.1, va_up (va_up (va_up t.2 12 (upd (t.2 12) q (t.2 12 q + 1))) 13 (upd (t.2 13) q (nI k))) 11 (upd (slideF (t.2 11) z (marks (hM P t) q)) z (mn9 (slideF (t.2 11) z (marks (hM P t) q) z + marks (hM P t) q)))) H locs := hx_congr hW (by first | rfl | (simp only [va_upup]; done) | (refine Prod.ext (funext fun k => ?_) (funext fun k => ?_) <;> simp only [va_up] <;> (repeat' split) <;> first | rfl | omega | simp_all))
                        refine lv_iinc (v := nI (z + 1)) (lv' := [(5, .int (nI (z + 1))), (4, .int (marks (hM P t) q)), (3, .int (nI k)), (0, .ref (ad 0))]) hx hb dX6_tryOnce_172 hl (k := 0) rfl (nI_1 _) (by decide) rfl (fun ls hl => ?_)
                        refine lv_goto (tgt := 129) hx hb dX6_tryOnce_175 (by decide) ?_
                        have hW : HX (wM cs ad) (tyX cs) D A s.heap s (t.1, va_up (va_up (va_up t.2 12 (upd (t.2 12) q (t.2 12 q + 1))) 13 (upd (t.2 13) q (nI k))) 11 (slideF (t.2 11) (z + 1) (marks (hM P t) q))) _ _ := hx_congr hW (by rw [slideF_s])
                        exact ih_129 (z + 1) (by omega) (by omega) _ _ hW ls (lv_sub hl [0, 1, 2, 3] rfl)
                exact loop_129_23 _ 0 (Nat.zero_le _) (Nat.lt_succ_self _) _ _ hW ls (lv_sub hl [0, 1, 2, 4] rfl)
              · refine lv_iconst (v := 2) hx hb dX6_tryOnce_119 (by decide) ?_
                refine lv_goto (tgt := 124) hx hb dX6_tryOnce_120 (by decide) ?_
                refine r_top (y := marks (hM P t) q) (if_pos (show (hM P t).2.2.1 q = 2 from c_116_22)).symm ?_
                refine lv_istore (lv' := [(4, .int (marks (hM P t) q)), (3, .int (nI k)), (2, .int lf), (0, .ref (ad 0)), (1, .int (nI q))]) hx hb dX6_tryOnce_124 hl (by decide) rfl (fun ls hl => ?_)
                refine lv_iconst (v := 0) hx hb dX6_tryOnce_126 (by decide) ?_
                refine lv_istore (lv' := [(5, .int 0), (4, .int (marks (hM P t) q)), (3, .int (nI k)), (2, .int lf), (0, .ref (ad 0)), (1, .int (nI q))]) hx hb dX6_tryOnce_127 hl (by decide) rfl (fun ls hl => ?_)
                have hW : HX (wM cs ad) (tyX cs) D A s.heap s (t.1, va_up (va_up (va_up t.2 12 (upd (t.2 12) q (t.2 12 q + 1))) 13 (upd (t.2 13) q (nI k))) 11 (slideF (t.2 11) 0 (marks (hM P t) q))) _ _ := hx_congr hW (by rw [show slideF (t.2 11) 0 (marks (hM P t) q) = t.2 11 from by funext p9; simp [slideF]]; exact Prod.ext rfl (by funext k9; simp only [va_up]; (repeat' split) <;> first | rfl | simp_all))
                have loop_129_26 : ∀ (f9 : Nat) (z : Nat), (z ≤ k) → k - z < f9 → ∀ (H : Heap) (locs : List Loc), HX (wM cs ad) (tyX cs) D A s.heap s (t.1, va_up (va_up (va_up t.2 12 (upd (t.2 12) q (t.2 12 q + 1))) 13 (upd (t.2 13) q (nI k))) 11 (slideF (t.2 11) z (marks (hM P t) q))) H locs → ∀ ls : Array Slot, lv_has ls 6 [(5, .int (nI z)), (4, .int (marks (hM P t) q)), (3, .int (nI k)), (0, .ref (ad 0))] → W p9 l e9 (rmk 1 24) s m9 args below meth c9 H locs 0 0 Q (F0 m9 129 ls []) := by
                  intro f_129
                  induction f_129 with
                  | zero => intro z hz hm_129 H locs hW ls hl; exact absurd hm_129 (Nat.not_lt_zero _)
                  | succ f_129 ih_129 =>
                    intro z hz hm_129 H locs hW ls hl
                    refine lv_iload hx hb dX6_tryOnce_129 (lv_at hl 0 rfl) ?_
                    refine lv_iload_n hx hb dX6_tryOnce_131 rfl (lv_at hl 2 rfl) ?_
                    refine lv_icmp_ge (tgt := 178) hx hb dX6_tryOnce_132 (by decide) (fun c_132_27 => ?_) (fun c_132_27 => ?_)
                    · have c_132_27 : k ≤ z := (nI_leI (a := k) (b := z) (by omega) (by omega)).mp c_132_27
                      have ezk : z = k := by omega
                      rw [ezk] at hW
                      exact r_vret hC hr hlk hW hQ (⟨⟨fun k h => by simp (disch := omega) only [va_up_ne], fun k h1 h2 h3 => by simp (disch := omega) only [va_up_ne]⟩, by unfold att; rw [hN, if_neg (show ¬ k = (hM P t).1 from c_93_21), if_neg (show ¬ k = (hM P t).1 from c_93_21)]; rfl⟩) dX6_tryOnce_178
                    · have c_132_27 : ¬ k ≤ z := fun h => c_132_27 ((nI_leI (a := k) (b := z) (by omega) (by omega)).mpr h)
                      refine lv_aload_n hx hb dX6_tryOnce_135 rfl (lv_at hl 3 rfl) ?_
                      refine gM_scratches hC hW q_fl_RX6_40 dX6_tryOnce_136 ?_
                      refine lv_iload hx hb dX6_tryOnce_139 (lv_at hl 0 rfl) ?_
                      refine lv_aload_n hx hb dX6_tryOnce_141 rfl (lv_at hl 3 rfl) ?_
                      refine gM_scratches hC hW q_fl_RX6_40 dX6_tryOnce_142 ?_
                      refine lv_iload hx hb dX6_tryOnce_145 (lv_at hl 0 rfl) ?_
                      refine r_ildN (t0 := 0) (j := z) hC hW eM_11 rfl (rfl) (by omega) (by decide) dX6_tryOnce_147 ?_
                      refine r_top (y := (slideF (t.2 11) z (marks (hM P t) q)) z) (by first | rfl | simp only [va_up_self]) ?_
                      refine lv_iload hx hb dX6_tryOnce_148 (lv_at hl 1 rfl) ?_
                      refine lv_iadd hx hb dX6_tryOnce_150 ?_
                      refine lv_bipush (v := 9) hx hb dX6_tryOnce_151 (by decide) ?_
                      refine lv_icmp_le (tgt := 161) hx hb dX6_tryOnce_153 (by decide) (fun c_153_28 => ?_) (fun c_153_28 => ?_)
                      · refine lv_aload_n hx hb dX6_tryOnce_161 rfl (lv_at hl 3 rfl) ?_
                        refine gM_scratches hC hW q_fl_RX6_40 dX6_tryOnce_162 ?_
                        refine lv_iload hx hb dX6_tryOnce_165 (lv_at hl 0 rfl) ?_
                        refine r_ildN (t0 := 0) (j := z) hC hW eM_11 rfl (rfl) (by omega) (by decide) dX6_tryOnce_167 ?_
                        refine r_top (y := (slideF (t.2 11) z (marks (hM P t) q)) z) (by first | rfl | simp only [va_up_self]) ?_
                        refine lv_iload hx hb dX6_tryOnce_168 (lv_at hl 1 rfl) ?_
                        refine lv_iadd hx hb dX6_tryOnce_170 ?_
                        refine r_top (y := mn9 (slideF (t.2 11) z (marks (hM P t) q) z + marks (hM P t) q)) (mn9_le c_153_28).symm ?_
                        refine r_istN (t0 := 0) (j := z) hC hW eM_11 rfl (rfl) (by omega) (by decide) (sM_11 _) dX6_tryOnce_171 (fun H locs hW => ?_)
                        have hW : HX (wM cs ad) (tyX cs) D A s.heap s (t.1, va_up (va_up (va_up t.2 12 (upd (t.2 12) q (t.2 12 q + 1))) 13 (upd (t.2 13) q (nI k))) 11 (upd (slideF (t.2 11) z (marks (hM P t) q)) z (mn9 (slideF (t.2 11) z (marks (hM P t) q) z + marks (hM P t) q)))) H locs := hx_congr hW (by first | rfl | (simp only [va_upup]; done) | (refine Prod.ext (funext fun k => ?_) (funext fun k => ?_) <;> simp only [va_up] <;> (repeat' split) <;> first | rfl | omega | simp_all))
                        refine lv_iinc (v := nI (z + 1)) (lv' := [(5, .int (nI (z + 1))), (4, .int (marks (hM P t) q)), (3, .int (nI k)), (0, .ref (ad 0))]) hx hb dX6_tryOnce_172 hl (k := 0) rfl (nI_1 _) (by decide) rfl (fun ls hl => ?_)
                        refine lv_goto (tgt := 129) hx hb dX6_tryOnce_175 (by decide) ?_
                        have hW : HX (wM cs ad) (tyX cs) D A s.heap s (t.1, va_up (va_up (va_up t.2 12 (upd (t.2 12) q (t.2 12 q + 1))) 13 (upd (t.2 13) q (nI k))) 11 (slideF (t.2 11) (z + 1) (marks (hM P t) q))) _ _ := hx_congr hW (by rw [slideF_s])
                        exact ih_129 (z + 1) (by omega) (by omega) _ _ hW ls (lv_sub hl [0, 1, 2, 3] rfl)
                      · refine lv_bipush (v := 9) hx hb dX6_tryOnce_156 (by decide) ?_
                        refine lv_goto (tgt := 171) hx hb dX6_tryOnce_158 (by decide) ?_
                        refine r_top (y := mn9 (slideF (t.2 11) z (marks (hM P t) q) z + marks (hM P t) q)) (mn9_gt c_153_28).symm ?_
                        refine r_istN (t0 := 0) (j := z) hC hW eM_11 rfl (rfl) (by omega) (by decide) (sM_11 _) dX6_tryOnce_171 (fun H locs hW => ?_)
                        have hW : HX (wM cs ad) (tyX cs) D A s.heap s (t.1, va_up (va_up (va_up t.2 12 (upd (t.2 12) q (t.2 12 q + 1))) 13 (upd (t.2 13) q (nI k))) 11 (upd (slideF (t.2 11) z (marks (hM P t) q)) z (mn9 (slideF (t.2 11) z (marks (hM P t) q) z + marks (hM P t) q)))) H locs := hx_congr hW (by first | rfl | (simp only [va_upup]; done) | (refine Prod.ext (funext fun k => ?_) (funext fun k => ?_) <;> simp only [va_up] <;> (repeat' split) <;> first | rfl | omega | simp_all))
                        refine lv_iinc (v := nI (z + 1)) (lv' := [(5, .int (nI (z + 1))), (4, .int (marks (hM P t) q)), (3, .int (nI k)), (0, .ref (ad 0))]) hx hb dX6_tryOnce_172 hl (k := 0) rfl (nI_1 _) (by decide) rfl (fun ls hl => ?_)
                        refine lv_goto (tgt := 129) hx hb dX6_tryOnce_175 (by decide) ?_
                        have hW : HX (wM cs ad) (tyX cs) D A s.heap s (t.1, va_up (va_up (va_up t.2 12 (upd (t.2 12) q (t.2 12 q + 1))) 13 (upd (t.2 13) q (nI k))) 11 (slideF (t.2 11) (z + 1) (marks (hM P t) q))) _ _ := hx_congr hW (by rw [slideF_s])
                        exact ih_129 (z + 1) (by omega) (by omega) _ _ hW ls (lv_sub hl [0, 1, 2, 3] rfl)
                exact loop_129_26 _ 0 (Nat.zero_le _) (Nat.lt_succ_self _) _ _ hW ls (lv_sub hl [0, 1, 2, 4] rfl)
            · have c_93_21 : k = P := (nI_eq (a := k) (b := P) (by omega) (by omega)).mp c_93_21
              exfalso; omega
          · refine lv_iload_n hx hb dX6_tryOnce_60 rfl (lv_at hl 1 rfl) ?_
            refine lv_aload_n hx hb dX6_tryOnce_61 rfl (lv_at hl 2 rfl) ?_
            refine lv_iload_n hx hb dX6_tryOnce_62 rfl (lv_at hl 3 rfl) ?_
            refine lv_iload_n hx hb dX6_tryOnce_63 rfl (lv_at hl 0 rfl) ?_
            refine lv_aload_n hx hb dX6_tryOnce_64 rfl (lv_at hl 2 rfl) ?_
            refine gM_scratches hC hW q_fl_RX6_40 dX6_tryOnce_65 ?_
            refine lv_iload_n hx hb dX6_tryOnce_68 rfl (lv_at hl 0 rfl) ?_
            refine r_ildN (t0 := 0) (j := k) hC hW eM_11 rfl (rfl) (by omega) (by decide) dX6_tryOnce_69 ?_
            refine r_top (y := t.2 11 k) (by first | rfl | simp only [va_up_self]) ?_
            refine fin_i (run_V (rest := [.int lf]) hC hW (m_X6_takesOf l D cs ad (t.1, va_up t.2 12 (upd (t.2 12) q (t.2 12 q + 1))) P (hM P t) q k (t.2 11 k) rfl (by omega) (by omega)) k_yX6_takesOf ⟨rfl, rfl⟩ q_ml_RX6_127 eM_0 rfl rfl hl.1 rfl (Nat.le_of_ble_eq_true rfl) ⟨Nat.le_of_ble_eq_true rfl, Nat.le_of_ble_eq_true rfl⟩ dX6_tryOnce_70 ⟨Nat.zero_le _, Nat.zero_le _⟩) hW (fun r29 u29 H locs hp29 hW => ?_)
            have hW := hx_congr hW hp29.2
            refine r_top hp29.1 ?_
            refine lv_isub hx hb dX6_tryOnce_73 ?_
            refine lv_istore_n (lv' := [(2, .int (lf - (toll (hM P t) q k (t.2 11 k)))), (3, .int (nI k)), (0, .ref (ad 0)), (1, .int (nI q))]) hx hb dX6_tryOnce_74 rfl hl (by decide) rfl (fun ls hl => ?_)
            refine lv_iinc (v := nI (k + 1)) (lv' := [(3, .int (nI (k + 1))), (2, .int (lf - (toll (hM P t) q k (t.2 11 k)))), (0, .ref (ad 0)), (1, .int (nI q))]) hx hb dX6_tryOnce_75 hl (k := 1) rfl (nI_1 _) (by decide) rfl (fun ls hl => ?_)
            refine lv_goto (tgt := 36) hx hb dX6_tryOnce_78 (by decide) ?_
            exact ih_36 (k + 1) (lf - (toll (hM P t) q k (t.2 11 k))) (by omega) (by rw [← hE, show P - k = (P - (k + 1)) + 1 by omega]; show _ = ite _ _ _; rw [if_pos (Int32.not_lt.mp c_57_20)]) (by omega) _ _ hW ls (lv_sub hl [0, 1, 2, 3] rfl)
    exact loop_36_16 _ 0 (left0 (hM P t) q (cm t)) (Nat.zero_le _) (rfl) (Nat.lt_succ_self _) _ _ hW ls (lv_sub hl [0, 1, 2, 3] rfl)
set_option maxRecDepth 100000 in
set_option maxHeartbeats 4000000 in
theorem m_X6_rain (l : Launch) (D : va_G) (cs : CS3) (ad : Nat → Nat) (t : St) (P : Nat) (hP : t.1 2 = nI P) (hP8 : P ≤ 8) (hw : CW P (cm t)): CT l yX6_rain cX6_rain 2 none (rmk 0 0) (wM cs ad) (tyX cs) D [.ref (ad 0)] t (va_Qv (fun u => agrM t u ∧ cm u = rain P (cm t))) := by
  refine CT.of (own := RX6) (by decide) rfl (Nat.le_of_ble_eq_true rfl) ?_
  intro p9 e9 s m9 args below meth c9 A Q hC hr hlk hW hQ ls hl
  obtain ⟨hx, hb, hml, hown, hts⟩ := id hC
  have hl : lv_has ls 2 [(0, .ref (ad 0))] := hl
  refine lv_iconst (v := 0) hx hb dX6_rain_0 (by decide) ?_
  refine lv_istore_n (lv' := [(1, .int 0), (0, .ref (ad 0))]) hx hb dX6_rain_1 rfl hl (by decide) rfl (fun ls hl => ?_)
  have hW : HX (wM cs ad) (tyX cs) D A s.heap s (t.1, va_up t.2 11 (rainF (t.2 11) 0)) _ _ := hx_congr hW (by rw [show rainF (t.2 11) 0 = t.2 11 from by funext p9; simp [rainF], va_upid])
  have loop_2_1 : ∀ (f9 : Nat) (z : Nat), (z ≤ P) → P - z < f9 → ∀ (H : Heap) (locs : List Loc), HX (wM cs ad) (tyX cs) D A s.heap s (t.1, va_up t.2 11 (rainF (t.2 11) z)) H locs → ∀ ls : Array Slot, lv_has ls 2 [(1, .int (nI z)), (0, .ref (ad 0))] → W p9 l e9 (rmk 0 0) s m9 args below meth c9 H locs 0 0 Q (F0 m9 2 ls []) := by
    intro f_2
    induction f_2 with
    | zero => intro z hz hm_2 H locs hW ls hl; exact absurd hm_2 (Nat.not_lt_zero _)
    | succ f_2 ih_2 =>
      intro z hz hm_2 H locs hW ls hl
      refine lv_iload_n hx hb dX6_rain_2 rfl (lv_at hl 0 rfl) ?_
      refine lv_aload_n hx hb dX6_rain_3 rfl (lv_at hl 1 rfl) ?_
      refine gM_paces hC hW q_fl_RX6_71 dX6_rain_4 ?_
      refine r_top (y := nI P) hP ?_
      refine lv_icmp_ge (tgt := 39) hx hb dX6_rain_7 (by decide) (fun c_7_2 => ?_) (fun c_7_2 => ?_)
      · have c_7_2 : P ≤ z := (nI_leI (a := P) (b := z) (by omega) (by omega)).mp c_7_2
        have ezP : z = P := by omega
        rw [ezP] at hW
        exact r_vret hC hr hlk hW hQ (⟨⟨fun k h => by simp (disch := omega) only [va_up_ne], fun k h1 h2 h3 => by simp (disch := omega) only [va_up_ne]⟩, rfl⟩) dX6_rain_39
      · have c_7_2 : ¬ P ≤ z := fun h => c_7_2 ((nI_leI (a := P) (b := z) (by omega) (by omega)).mpr h)
        refine lv_aload_n hx hb dX6_rain_10 rfl (lv_at hl 1 rfl) ?_
        refine gM_scratches hC hW q_fl_RX6_40 dX6_rain_11 ?_
        refine lv_iload_n hx hb dX6_rain_14 rfl (lv_at hl 0 rfl) ?_
        refine lv_dup2_11 hx hb dX6_rain_15 rfl rfl ?_
        refine r_ildN (t0 := 0) (j := z) hC hW eM_11 rfl (rfl) (by omega) (by decide) dX6_rain_16 ?_
        refine r_top (y := (rainF (t.2 11) z) z) (by first | rfl | simp only [va_up_self]) ?_
        refine lv_aload_n hx hb dX6_rain_17 rfl (lv_at hl 1 rfl) ?_
        refine gM_scratches hC hW q_fl_RX6_40 dX6_rain_18 ?_
        refine lv_iload_n hx hb dX6_rain_21 rfl (lv_at hl 0 rfl) ?_
        refine r_ildN (t0 := 0) (j := z) hC hW eM_11 rfl (rfl) (by omega) (by decide) dX6_rain_22 ?_
        refine r_top (y := (rainF (t.2 11) z) z) (by first | rfl | simp only [va_up_self]) ?_
        refine lv_if_le (tgt := 30) hx hb dX6_rain_23 (by decide) (fun c_23_3 => ?_) (fun c_23_3 => ?_)
        · refine lv_iconst (v := 0) hx hb dX6_rain_30 (by decide) ?_
          refine lv_isub hx hb dX6_rain_31 ?_
          have ez : rainF (t.2 11) z z = t.2 11 z := if_neg (Nat.lt_irrefl z)
          obtain ⟨j9, hj9, ej9⟩ := hw z (by omega)
          have ej9 : t.2 11 z = nI j9 := ej9
          refine r_top (y := mx0 (rainF (t.2 11) z z - 1)) (by have h9 := rn_p j9 hj9; rw [(if_neg (show ¬ 0 < nI j9 from by rw [← ej9, ← ez]; exact Int32.not_lt.mpr c_23_3))] at h9; rw [ez, ej9]; exact h9) ?_
          refine r_istN (t0 := 0) (j := z) hC hW eM_11 rfl (rfl) (by omega) (by decide) (sM_11 _) dX6_rain_32 (fun H locs hW => ?_)
          have hW : HX (wM cs ad) (tyX cs) D A s.heap s (t.1, va_up t.2 11 (upd (rainF (t.2 11) z) z (mx0 (rainF (t.2 11) z z - 1)))) H locs := hx_congr hW (by first | rfl | (simp only [va_upup]; done) | (refine Prod.ext (funext fun k => ?_) (funext fun k => ?_) <;> simp only [va_up] <;> (repeat' split) <;> first | rfl | omega | simp_all))
          refine lv_iinc (v := nI (z + 1)) (lv' := [(1, .int (nI (z + 1))), (0, .ref (ad 0))]) hx hb dX6_rain_33 hl (k := 0) rfl (nI_1 _) (by decide) rfl (fun ls hl => ?_)
          refine lv_goto (tgt := 2) hx hb dX6_rain_36 (by decide) ?_
          have hW : HX (wM cs ad) (tyX cs) D A s.heap s (t.1, va_up t.2 11 (rainF (t.2 11) (z + 1))) _ _ := hx_congr hW (by rw [rainF_s])
          exact ih_2 (z + 1) (by omega) (by omega) _ _ hW ls (lv_sub hl [0, 1] rfl)
        · refine lv_iconst (v := 1) hx hb dX6_rain_26 (by decide) ?_
          refine lv_goto (tgt := 31) hx hb dX6_rain_27 (by decide) ?_
          refine lv_isub hx hb dX6_rain_31 ?_
          have ez : rainF (t.2 11) z z = t.2 11 z := if_neg (Nat.lt_irrefl z)
          obtain ⟨j9, hj9, ej9⟩ := hw z (by omega)
          have ej9 : t.2 11 z = nI j9 := ej9
          refine r_top (y := mx0 (rainF (t.2 11) z z - 1)) (by have h9 := rn_p j9 hj9; rw [(if_pos (show 0 < nI j9 from by rw [← ej9, ← ez]; exact Int32.not_le.mp c_23_3))] at h9; rw [ez, ej9]; exact h9) ?_
          refine r_istN (t0 := 0) (j := z) hC hW eM_11 rfl (rfl) (by omega) (by decide) (sM_11 _) dX6_rain_32 (fun H locs hW => ?_)
          have hW : HX (wM cs ad) (tyX cs) D A s.heap s (t.1, va_up t.2 11 (upd (rainF (t.2 11) z) z (mx0 (rainF (t.2 11) z z - 1)))) H locs := hx_congr hW (by first | rfl | (simp only [va_upup]; done) | (refine Prod.ext (funext fun k => ?_) (funext fun k => ?_) <;> simp only [va_up] <;> (repeat' split) <;> first | rfl | omega | simp_all))
          refine lv_iinc (v := nI (z + 1)) (lv' := [(1, .int (nI (z + 1))), (0, .ref (ad 0))]) hx hb dX6_rain_33 hl (k := 0) rfl (nI_1 _) (by decide) rfl (fun ls hl => ?_)
          refine lv_goto (tgt := 2) hx hb dX6_rain_36 (by decide) ?_
          have hW : HX (wM cs ad) (tyX cs) D A s.heap s (t.1, va_up t.2 11 (rainF (t.2 11) (z + 1))) _ _ := hx_congr hW (by rw [rainF_s])
          exact ih_2 (z + 1) (by omega) (by omega) _ _ hW ls (lv_sub hl [0, 1] rfl)
  exact loop_2_1 _ 0 (Nat.zero_le _) (Nat.lt_succ_self _) _ _ hW ls (lv_sub hl [0, 1] rfl)
