set_option maxRecDepth 100000 in
set_option maxHeartbeats 4000000 in
theorem m_X5_isIn (l : Launch) (v a b : Int32) : PT l yX5_isIn cX5_isIn 3 (some .boolean) (rmk 0 0) [.int v, .int a, .int b] (vp_Si (fun r => r = bI (a ≤ v ∧ v ≤ b))) := by
  refine PT.of (own := RX5) (by decide) rfl (Nat.le_of_ble_eq_true rfl) ?_
  intro p9 e9 s m9 args below meth c9 Q hC hr hlk hN hQ ls hl
  obtain ⟨hx, hb, hml, hown, hts⟩ := id hC
  have hl : lv_has ls 3 [(0, .int v), (1, .int a), (2, .int b)] := hl
  refine lv_iload_n hx hb dX5_isIn_0 rfl (lv_at hl 0 rfl) ?_
  refine lv_iload_n hx hb dX5_isIn_1 rfl (lv_at hl 1 rfl) ?_
  refine lv_icmp_lt (tgt := 14) hx hb dX5_isIn_2 (by decide) (fun c_2_1 => ?_) (fun c_2_1 => ?_)
  · refine lv_iconst (v := 0) hx hb dX5_isIn_14 (by decide) ?_
    exact r_pz hC hr hlk hQ (bI_f (by intro h9; simp_all [← Int32.not_le])) (rfl) dX5_isIn_15
  · refine lv_iload_n hx hb dX5_isIn_5 rfl (lv_at hl 0 rfl) ?_
    refine lv_iload_n hx hb dX5_isIn_6 rfl (lv_at hl 2 rfl) ?_
    refine lv_icmp_gt (tgt := 14) hx hb dX5_isIn_7 (by decide) (fun c_7_2 => ?_) (fun c_7_2 => ?_)
    · refine lv_iconst (v := 0) hx hb dX5_isIn_14 (by decide) ?_
      exact r_pz hC hr hlk hQ (bI_f (by intro h9; simp_all [← Int32.not_le])) (rfl) dX5_isIn_15
    · refine lv_iconst (v := 1) hx hb dX5_isIn_10 (by decide) ?_
      refine lv_goto (tgt := 15) hx hb dX5_isIn_11 (by decide) ?_
      exact r_pz hC hr hlk hQ (bI_t (by simp_all [Int32.not_lt])) (rfl) dX5_isIn_15
set_option maxRecDepth 100000 in
set_option maxHeartbeats 4000000 in
theorem m_X5_isSheet (l : Launch) (v : Int32) : PT l yX5_isSheet cX5_isSheet 1 (some .boolean) (rmk 1 22) [.int v] (vp_Si (fun r => r = bI (0 ≤ v ∧ v ≤ 3))) := by
  refine PT.of (own := RX5) (by decide) rfl (Nat.le_of_ble_eq_true rfl) ?_
  intro p9 e9 s m9 args below meth c9 Q hC hr hlk hN hQ ls hl
  obtain ⟨hx, hb, hml, hown, hts⟩ := id hC
  have hl : lv_has ls 1 [(0, .int v)] := hl
  refine lv_iload_n hx hb dX5_isSheet_0 rfl (lv_at hl 0 rfl) ?_
  refine lv_iconst (v := 0) hx hb dX5_isSheet_1 (by decide) ?_
  refine lv_iconst (v := 3) hx hb dX5_isSheet_2 (by decide) ?_
  refine fin_pi (run_P (rest := []) hC hN (m_X5_isIn l v 0 3) k_yX5_isIn ⟨rfl, rfl⟩ q_ml_RX5_86 rfl hl.1 rfl (Nat.le_of_ble_eq_true rfl) ⟨Nat.le_of_ble_eq_true rfl, Nat.le_of_ble_eq_true rfl⟩ dX5_isSheet_3 ⟨Nat.zero_le _, Nat.zero_le _⟩) (fun rz9 hr9 => ?_)
  refine r_top hr9 ?_
  exact r_pz hC hr hlk hQ (rfl) (bI_nar _) dX5_isSheet_6
set_option maxRecDepth 100000 in
set_option maxHeartbeats 4000000 in
theorem m_X5_isLane (l : Launch) (v : Int32) : PT l yX5_isLane cX5_isLane 1 (some .boolean) (rmk 1 22) [.int v] (vp_Si (fun r => r = bI (0 ≤ v ∧ v ≤ 2))) := by
  refine PT.of (own := RX5) (by decide) rfl (Nat.le_of_ble_eq_true rfl) ?_
  intro p9 e9 s m9 args below meth c9 Q hC hr hlk hN hQ ls hl
  obtain ⟨hx, hb, hml, hown, hts⟩ := id hC
  have hl : lv_has ls 1 [(0, .int v)] := hl
  refine lv_iload_n hx hb dX5_isLane_0 rfl (lv_at hl 0 rfl) ?_
  refine lv_iconst (v := 0) hx hb dX5_isLane_1 (by decide) ?_
  refine lv_iconst (v := 2) hx hb dX5_isLane_2 (by decide) ?_
  refine fin_pi (run_P (rest := []) hC hN (m_X5_isIn l v 0 2) k_yX5_isIn ⟨rfl, rfl⟩ q_ml_RX5_86 rfl hl.1 rfl (Nat.le_of_ble_eq_true rfl) ⟨Nat.le_of_ble_eq_true rfl, Nat.le_of_ble_eq_true rfl⟩ dX5_isLane_3 ⟨Nat.zero_le _, Nat.zero_le _⟩) (fun rz9 hr9 => ?_)
  refine r_top hr9 ?_
  exact r_pz hC hr hlk hQ (rfl) (bI_nar _) dX5_isLane_6
set_option maxRecDepth 100000 in
set_option maxHeartbeats 4000000 in
theorem m_X5_isRider (l : Launch) (D : va_G) (cs : CS3) (ad : Nat → Nat) (t : St) (R : Nat) (v : Int32) (h : t.1 3 = nI R) (h5 : R ≤ 5): CT l yX5_isRider cX5_isRider 2 (some .boolean) (rmk 1 22) (wX cs ad) (tyX cs) D [.ref (ad 0), .int v] t (va_Qi (fun r u => r = bI (inN v R) ∧ u = t)) := by
  refine CT.of (own := RX5) (by decide) rfl (Nat.le_of_ble_eq_true rfl) ?_
  intro p9 e9 s m9 args below meth c9 A Q hC hr hlk hW hQ ls hl
  obtain ⟨hx, hb, hml, hown, hts⟩ := id hC
  have hl : lv_has ls 2 [(0, .ref (ad 0)), (1, .int v)] := hl
  refine lv_iload_n hx hb dX5_isRider_0 rfl (lv_at hl 1 rfl) ?_
  refine lv_iconst (v := 0) hx hb dX5_isRider_1 (by decide) ?_
  refine lv_aload_n hx hb dX5_isRider_2 rfl (lv_at hl 0 rfl) ?_
  refine gX_G_slope hC hW q_fl_RX5_12 dX5_isRider_3 ?_
  refine gX_S_riders hC hW q_fl_RX5_80 dX5_isRider_6 ?_
  refine r_top (y := nI R) h ?_
  refine lv_iconst (v := 1) hx hb dX5_isRider_9 (by decide) ?_
  refine lv_isub hx hb dX5_isRider_10 ?_
  refine fin_pi (run_P (rest := []) hC hW.2.2.2.2.2 (m_X5_isIn l v 0 ((nI R) - 1)) k_yX5_isIn ⟨rfl, rfl⟩ q_ml_RX5_86 rfl hl.1 rfl (Nat.le_of_ble_eq_true rfl) ⟨Nat.le_of_ble_eq_true rfl, Nat.le_of_ble_eq_true rfl⟩ dX5_isRider_11 ⟨Nat.zero_le _, Nat.zero_le _⟩) (fun rz9 hr9 => ?_)
  refine r_top hr9 ?_
  exact r_iretz hC hr hlk hW hQ (⟨bI_c (and_congr Iff.rfl (le_pred (by omega))), rfl⟩) (bI_nar _) dX5_isRider_14
set_option maxRecDepth 100000 in
set_option maxHeartbeats 4000000 in
theorem m_X5_isPace (l : Launch) (D : va_G) (cs : CS3) (ad : Nat → Nat) (t : St) (P : Nat) (v : Int32) (h : t.1 2 = nI P) (h8 : P ≤ 8): CT l yX5_isPace cX5_isPace 2 (some .boolean) (rmk 1 22) (wX cs ad) (tyX cs) D [.ref (ad 0), .int v] t (va_Qi (fun r u => r = bI (inN v P) ∧ u = t)) := by
  refine CT.of (own := RX5) (by decide) rfl (Nat.le_of_ble_eq_true rfl) ?_
  intro p9 e9 s m9 args below meth c9 A Q hC hr hlk hW hQ ls hl
  obtain ⟨hx, hb, hml, hown, hts⟩ := id hC
  have hl : lv_has ls 2 [(0, .ref (ad 0)), (1, .int v)] := hl
  refine lv_iload_n hx hb dX5_isPace_0 rfl (lv_at hl 1 rfl) ?_
  refine lv_iconst (v := 0) hx hb dX5_isPace_1 (by decide) ?_
  refine lv_aload_n hx hb dX5_isPace_2 rfl (lv_at hl 0 rfl) ?_
  refine gX_G_slope hC hW q_fl_RX5_12 dX5_isPace_3 ?_
  refine gX_S_paces hC hW q_fl_RX5_137 dX5_isPace_6 ?_
  refine r_top (y := nI P) h ?_
  refine lv_iconst (v := 1) hx hb dX5_isPace_9 (by decide) ?_
  refine lv_isub hx hb dX5_isPace_10 ?_
  refine fin_pi (run_P (rest := []) hC hW.2.2.2.2.2 (m_X5_isIn l v 0 ((nI P) - 1)) k_yX5_isIn ⟨rfl, rfl⟩ q_ml_RX5_86 rfl hl.1 rfl (Nat.le_of_ble_eq_true rfl) ⟨Nat.le_of_ble_eq_true rfl, Nat.le_of_ble_eq_true rfl⟩ dX5_isPace_11 ⟨Nat.zero_le _, Nat.zero_le _⟩) (fun rz9 hr9 => ?_)
  refine r_top hr9 ?_
  exact r_iretz hC hr hlk hW hQ (⟨bI_c (and_congr Iff.rfl (le_pred (by omega))), rfl⟩) (bI_nar _) dX5_isPace_14
set_option maxRecDepth 100000 in
set_option maxHeartbeats 4000000 in
theorem m_X5_meet (l : Launch) (D : va_G) (cs : CS3) (ad : Nat → Nat) (t : St) (n : Int32) : CT l yX5_meet cX5_meet 2 (some .int) (rmk 0 0) (wX cs ad) (tyX cs) D [.ref (ad 0), .int n] t (va_Qi (fun r u => r = (-10) - n ∧ u = (va_up t.1 1 n, t.2))) := by
  refine CT.of (own := RX5) (by decide) rfl (Nat.le_of_ble_eq_true rfl) ?_
  intro p9 e9 s m9 args below meth c9 A Q hC hr hlk hW hQ ls hl
  obtain ⟨hx, hb, hml, hown, hts⟩ := id hC
  have hl : lv_has ls 2 [(0, .ref (ad 0)), (1, .int n)] := hl
  refine lv_aload_n hx hb dX5_meet_0 rfl (lv_at hl 0 rfl) ?_
  refine lv_iload_n hx hb dX5_meet_1 rfl (lv_at hl 1 rfl) ?_
  refine pX_G_fault hC hW q_fl_RX5_48 dX5_meet_2 (fun H locs hW => ?_)
  have hW : HX (wX cs ad) (tyX cs) D A s.heap s (va_up t.1 1 n, t.2) H locs := hW
  refine lv_bipush (v := (-10)) hx hb dX5_meet_5 (by decide) ?_
  refine lv_iload_n hx hb dX5_meet_7 rfl (lv_at hl 1 rfl) ?_
  refine lv_isub hx hb dX5_meet_8 ?_
  exact r_ireti hC hr hlk hW hQ (⟨rfl, rfl⟩) dX5_meet_9
set_option maxRecDepth 100000 in
set_option maxHeartbeats 4000000 in
theorem m_X5_leave (l : Launch) (D : va_G) (cs : CS3) (ad : Nat → Nat) (t : St) (n : Int32) : CT l yX5_leave cX5_leave 2 none (rmk 0 0) (wX cs ad) (tyX cs) D [.ref (ad 0), .int n] t (va_Qv (fun u => u = (va_up t.1 0 (31 * t.1 0 + n), t.2))) := by
  refine CT.of (own := RX5) (by decide) rfl (Nat.le_of_ble_eq_true rfl) ?_
  intro p9 e9 s m9 args below meth c9 A Q hC hr hlk hW hQ ls hl
  obtain ⟨hx, hb, hml, hown, hts⟩ := id hC
  have hl : lv_has ls 2 [(0, .ref (ad 0)), (1, .int n)] := hl
  refine lv_aload_n hx hb dX5_leave_0 rfl (lv_at hl 0 rfl) ?_
  refine lv_bipush (v := 31) hx hb dX5_leave_1 (by decide) ?_
  refine lv_aload_n hx hb dX5_leave_3 rfl (lv_at hl 0 rfl) ?_
  refine gX_G_trace hC hW q_fl_RX5_232 dX5_leave_4 ?_
  refine lv_imul hx hb dX5_leave_7 ?_
  refine lv_iload_n hx hb dX5_leave_8 rfl (lv_at hl 1 rfl) ?_
  refine lv_iadd hx hb dX5_leave_9 ?_
  refine pX_G_trace hC hW q_fl_RX5_232 dX5_leave_10 (fun H locs hW => ?_)
  have hW : HX (wX cs ad) (tyX cs) D A s.heap s (va_up t.1 0 ((31 * (t.1 0)) + n), t.2) H locs := hW
  exact r_vret hC hr hlk hW hQ (rfl) dX5_leave_13
set_option maxRecDepth 100000 in
set_option maxHeartbeats 4000000 in
theorem m_X5_trace (l : Launch) (D : va_G) (cs : CS3) (ad : Nat → Nat) (t : St) : CT l yX5_trace cX5_trace 1 (some .int) (rmk 0 0) (wX cs ad) (tyX cs) D [.ref (ad 0)] t (va_Qi (fun r u => r = t.1 0 ∧ u = t)) := by
  refine CT.of (own := RX5) (by decide) rfl (Nat.le_of_ble_eq_true rfl) ?_
  intro p9 e9 s m9 args below meth c9 A Q hC hr hlk hW hQ ls hl
  obtain ⟨hx, hb, hml, hown, hts⟩ := id hC
  have hl : lv_has ls 1 [(0, .ref (ad 0))] := hl
  refine lv_aload_n hx hb dX5_trace_0 rfl (lv_at hl 0 rfl) ?_
  refine gX_G_trace hC hW q_fl_RX5_232 dX5_trace_1 ?_
  exact r_ireti hC hr hlk hW hQ (⟨rfl, rfl⟩) dX5_trace_4
set_option maxRecDepth 100000 in
set_option maxHeartbeats 4000000 in
theorem m_X5_fault (l : Launch) (D : va_G) (cs : CS3) (ad : Nat → Nat) (t : St) : CT l yX5_fault cX5_fault 1 (some .int) (rmk 0 0) (wX cs ad) (tyX cs) D [.ref (ad 0)] t (va_Qi (fun r u => r = t.1 1 ∧ u = t)) := by
  refine CT.of (own := RX5) (by decide) rfl (Nat.le_of_ble_eq_true rfl) ?_
  intro p9 e9 s m9 args below meth c9 A Q hC hr hlk hW hQ ls hl
  obtain ⟨hx, hb, hml, hown, hts⟩ := id hC
  have hl : lv_has ls 1 [(0, .ref (ad 0))] := hl
  refine lv_aload_n hx hb dX5_fault_0 rfl (lv_at hl 0 rfl) ?_
  refine gX_G_fault hC hW q_fl_RX5_48 dX5_fault_1 ?_
  exact r_ireti hC hr hlk hW hQ (⟨rfl, rfl⟩) dX5_fault_4
