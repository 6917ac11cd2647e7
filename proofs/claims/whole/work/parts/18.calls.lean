set_option maxRecDepth 100000 in
set_option maxHeartbeats 4000000 in
theorem m_X5_ofPace (l : Launch) (D : va_G) (cs : CS3) (ad : Nat → Nat) (t : St) (P R C : Nat) (p w : Int32) (hB : BW t P R C): CT l yX5_ofPace cX5_ofPace 3 (some .int) (rmk 2 43) (wX cs ad) (tyX cs) D [.ref (ad 0), .int p, .int w] t (va_Qi (fun z u => z = (F_ofPace t P p w).1 ∧ LA (F_ofPace t P p w).2 u)) := by
  refine CT.of (own := RX5) (by decide) rfl (Nat.le_of_ble_eq_true rfl) ?_
  intro p9 e9 s m9 args below meth c9 A Q hC hr hlk hW hQ ls hl
  obtain ⟨hx, hb, hml, hown, hts⟩ := id hC
  have hl : lv_has ls 3 [(0, .ref (ad 0)), (1, .int p), (2, .int w)] := hl
  obtain ⟨hP, hP8, hR, hR5, hc4, hC8, hlen⟩ := hB
  refine lv_aload_n hx hb dX5_ofPace_0 rfl (lv_at hl 0 rfl) ?_
  refine lv_iload_n hx hb dX5_ofPace_1 rfl (lv_at hl 1 rfl) ?_
  refine fin_i (run_V (rest := []) hC hW (m_X5_isPace l D cs ad t P p hP hP8) k_yX5_isPace ⟨rfl, rfl⟩ q_ml_RX5_83 eX_0 rfl rfl hl.1 rfl (Nat.le_of_ble_eq_true rfl) ⟨Nat.le_of_ble_eq_true rfl, Nat.le_of_ble_eq_true rfl⟩ dX5_ofPace_2 ⟨Nat.zero_le _, Nat.zero_le _⟩) hW (fun r1 u1 H locs hp1 hW => ?_)
  have hW := hx_congr hW hp1.2
  refine r_top hp1.1 ?_
  refine lv_if_ne (tgt := 10) hx hb dX5_ofPace_5 (by decide) (fun c_5_2 => ?_) (fun c_5_2 => ?_)
  · have c_5_2 := bI_nz c_5_2
    obtain ⟨q_p, hq_p, rfl⟩ := inN_ex c_5_2 (by omega)
    refine lv_iload_n hx hb dX5_ofPace_10 rfl (lv_at hl 2 rfl) ?_
    refine lv_iconst (v := 0) hx hb dX5_ofPace_11 (by decide) ?_
    refine lv_iconst (v := 1) hx hb dX5_ofPace_12 (by decide) ?_
    refine fin_pi (run_P (rest := []) hC hW.2.2.2.2.2 (m_X5_isIn l w 0 1) k_yX5_isIn ⟨rfl, rfl⟩ q_ml_RX5_86 rfl hl.1 rfl (Nat.le_of_ble_eq_true rfl) ⟨Nat.le_of_ble_eq_true rfl, Nat.le_of_ble_eq_true rfl⟩ dX5_ofPace_13 ⟨Nat.zero_le _, Nat.zero_le _⟩) (fun r hr9 => ?_)
    refine r_top hr9 ?_
    refine lv_if_ne (tgt := 22) hx hb dX5_ofPace_16 (by decide) (fun c_16_3 => ?_) (fun c_16_3 => ?_)
    · have c_16_3 := bI_nz c_16_3
      refine lv_iload_n hx hb dX5_ofPace_22 rfl (lv_at hl 2 rfl) ?_
      refine lv_if_ne (tgt := 38) hx hb dX5_ofPace_23 (by decide) (fun c_23_4 => ?_) (fun c_23_4 => ?_)
      · refine lv_aload_n hx hb dX5_ofPace_38 rfl (lv_at hl 0 rfl) ?_
        refine gX_G_slope hC hW q_fl_RX5_12 dX5_ofPace_39 ?_
        refine gX_S_laid hC hW q_fl_RX5_93 dX5_ofPace_42 ?_
        refine lv_iload_n hx hb dX5_ofPace_45 rfl (lv_at hl 1 rfl) ?_
        refine r_ildN (t0 := 0) (j := q_p) hC hW eX_3 rfl (rfl) (by omega) (by decide) dX5_ofPace_46 ?_
        have hF : F_ofPace t P (nI q_p) w = (t.2 3 q_p, t) := by unfold F_ofPace; rw [if_pos c_5_2, if_pos c_16_3, if_neg c_23_4] <;> (try rw [nI_clamp (show q_p < 2 ^ 31 by omega)]) <;> (try rfl)
        exact r_ireti hC hr hlk hW hQ (⟨by rw [hF], by rw [hF]; exact LA.rf _⟩) dX5_ofPace_47
      · refine lv_aload_n hx hb dX5_ofPace_26 rfl (lv_at hl 0 rfl) ?_
        refine gX_G_slope hC hW q_fl_RX5_12 dX5_ofPace_27 ?_
        refine gX_S_slick hC hW q_fl_RX5_90 dX5_ofPace_30 ?_
        refine lv_iload_n hx hb dX5_ofPace_33 rfl (lv_at hl 1 rfl) ?_
        refine r_ildN (t0 := 0) (j := q_p) hC hW eX_2 rfl (rfl) (by omega) (by decide) dX5_ofPace_34 ?_
        refine lv_goto (tgt := 47) hx hb dX5_ofPace_35 (by decide) ?_
        have hF : F_ofPace t P (nI q_p) w = (t.2 2 q_p, t) := by unfold F_ofPace; rw [if_pos c_5_2, if_pos c_16_3, if_pos c_23_4] <;> (try rw [nI_clamp (show q_p < 2 ^ 31 by omega)]) <;> (try rfl)
        exact r_ireti hC hr hlk hW hQ (⟨by rw [hF], by rw [hF]; exact LA.rf _⟩) dX5_ofPace_47
    · have c_16_3 := bI_z.mp c_16_3
      refine lv_bipush (v := (-2)) hx hb dX5_ofPace_19 (by decide) ?_
      have hF : F_ofPace t P (nI q_p) w = ((-2), t) := by unfold F_ofPace; rw [if_pos c_5_2, if_neg c_16_3] <;> (try rw [nI_clamp (show q_p < 2 ^ 31 by omega)]) <;> (try rfl)
      exact r_ireti hC hr hlk hW hQ (⟨by rw [hF], by rw [hF]; exact LA.rf _⟩) dX5_ofPace_21
  · have c_5_2 := bI_z.mp c_5_2
    refine lv_iconst (v := (-1)) hx hb dX5_ofPace_8 (by decide) ?_
    have hF : F_ofPace t P p w = ((-1), t) := by unfold F_ofPace; rw [if_neg c_5_2]  <;> (try rfl)
    exact r_ireti hC hr hlk hW hQ (⟨by rw [hF], by rw [hF]; exact LA.rf _⟩) dX5_ofPace_9
set_option maxRecDepth 100000 in
set_option maxHeartbeats 4000000 in
theorem m_X5_ofRider (l : Launch) (D : va_G) (cs : CS3) (ad : Nat → Nat) (t : St) (P R C : Nat) (r w : Int32) (hB : BW t P R C): CT l yX5_ofRider cX5_ofRider 3 (some .int) (rmk 2 43) (wX cs ad) (tyX cs) D [.ref (ad 0), .int r, .int w] t (va_Qi (fun z u => z = (F_ofRider t R r w).1 ∧ LA (F_ofRider t R r w).2 u)) := by
  refine CT.of (own := RX5) (by decide) rfl (Nat.le_of_ble_eq_true rfl) ?_
  intro p9 e9 s m9 args below meth c9 A Q hC hr hlk hW hQ ls hl
  obtain ⟨hx, hb, hml, hown, hts⟩ := id hC
  have hl : lv_has ls 3 [(0, .ref (ad 0)), (1, .int r), (2, .int w)] := hl
  obtain ⟨hP, hP8, hR, hR5, hc4, hC8, hlen⟩ := hB
  refine lv_aload_n hx hb dX5_ofRider_0 rfl (lv_at hl 0 rfl) ?_
  refine lv_iload_n hx hb dX5_ofRider_1 rfl (lv_at hl 1 rfl) ?_
  refine fin_i (run_V (rest := []) hC hW (m_X5_isRider l D cs ad t R r hR hR5) k_yX5_isRider ⟨rfl, rfl⟩ q_ml_RX5_96 eX_0 rfl rfl hl.1 rfl (Nat.le_of_ble_eq_true rfl) ⟨Nat.le_of_ble_eq_true rfl, Nat.le_of_ble_eq_true rfl⟩ dX5_ofRider_2 ⟨Nat.zero_le _, Nat.zero_le _⟩) hW (fun r1 u1 H locs hp1 hW => ?_)
  have hW := hx_congr hW hp1.2
  refine r_top hp1.1 ?_
  refine lv_if_ne (tgt := 10) hx hb dX5_ofRider_5 (by decide) (fun c_5_2 => ?_) (fun c_5_2 => ?_)
  · have c_5_2 := bI_nz c_5_2
    obtain ⟨q_r, hq_r, rfl⟩ := inN_ex c_5_2 (by omega)
    refine lv_iload_n hx hb dX5_ofRider_10 rfl (lv_at hl 2 rfl) ?_
    refine lv_iconst (v := 0) hx hb dX5_ofRider_11 (by decide) ?_
    refine lv_iconst (v := 2) hx hb dX5_ofRider_12 (by decide) ?_
    refine fin_pi (run_P (rest := []) hC hW.2.2.2.2.2 (m_X5_isIn l w 0 2) k_yX5_isIn ⟨rfl, rfl⟩ q_ml_RX5_86 rfl hl.1 rfl (Nat.le_of_ble_eq_true rfl) ⟨Nat.le_of_ble_eq_true rfl, Nat.le_of_ble_eq_true rfl⟩ dX5_ofRider_13 ⟨Nat.zero_le _, Nat.zero_le _⟩) (fun r hr9 => ?_)
    refine r_top hr9 ?_
    refine lv_if_ne (tgt := 22) hx hb dX5_ofRider_16 (by decide) (fun c_16_3 => ?_) (fun c_16_3 => ?_)
    · have c_16_3 := bI_nz c_16_3
      refine lv_iload_n hx hb dX5_ofRider_22 rfl (lv_at hl 2 rfl) ?_
      refine lv_if_ne (tgt := 36) hx hb dX5_ofRider_23 (by decide) (fun c_23_4 => ?_) (fun c_23_4 => ?_)
      · refine lv_iload_n hx hb dX5_ofRider_36 rfl (lv_at hl 2 rfl) ?_
        refine lv_iconst (v := 1) hx hb dX5_ofRider_37 (by decide) ?_
        refine lv_icmp_ne (tgt := 53) hx hb dX5_ofRider_38 (by decide) (fun c_38_5 => ?_) (fun c_38_5 => ?_)
        · refine lv_aload_n hx hb dX5_ofRider_53 rfl (lv_at hl 0 rfl) ?_
          refine gX_G_slope hC hW q_fl_RX5_12 dX5_ofRider_54 ?_
          refine gX_S_nails hC hW q_fl_RX5_105 dX5_ofRider_57 ?_
          refine lv_iload_n hx hb dX5_ofRider_60 rfl (lv_at hl 1 rfl) ?_
          refine r_ildN (t0 := 0) (j := q_r) hC hW eX_6 rfl (rfl) (by omega) (by decide) dX5_ofRider_61 ?_
          have hF : F_ofRider t R (nI q_r) w = (t.2 6 q_r, t) := by unfold F_ofRider; rw [if_pos c_5_2, if_pos c_16_3, if_neg c_23_4, if_neg c_38_5] <;> (try rw [nI_clamp (show q_r < 2 ^ 31 by omega)]) <;> (try rfl)
          exact r_ireti hC hr hlk hW hQ (⟨by rw [hF], by rw [hF]; exact LA.rf _⟩) dX5_ofRider_62
        · refine lv_aload_n hx hb dX5_ofRider_41 rfl (lv_at hl 0 rfl) ?_
          refine gX_G_slope hC hW q_fl_RX5_12 dX5_ofRider_42 ?_
          refine gX_S_speed hC hW q_fl_RX5_102 dX5_ofRider_45 ?_
          refine lv_iload_n hx hb dX5_ofRider_48 rfl (lv_at hl 1 rfl) ?_
          refine r_ildN (t0 := 0) (j := q_r) hC hW eX_5 rfl (rfl) (by omega) (by decide) dX5_ofRider_49 ?_
          refine lv_goto (tgt := 62) hx hb dX5_ofRider_50 (by decide) ?_
          have hF : F_ofRider t R (nI q_r) w = (t.2 5 q_r, t) := by unfold F_ofRider; rw [if_pos c_5_2, if_pos c_16_3, if_neg c_23_4, if_pos c_38_5] <;> (try rw [nI_clamp (show q_r < 2 ^ 31 by omega)]) <;> (try rfl)
          exact r_ireti hC hr hlk hW hQ (⟨by rw [hF], by rw [hF]; exact LA.rf _⟩) dX5_ofRider_62
      · refine lv_aload_n hx hb dX5_ofRider_26 rfl (lv_at hl 0 rfl) ?_
        refine gX_G_slope hC hW q_fl_RX5_12 dX5_ofRider_27 ?_
        refine gX_S_kind hC hW q_fl_RX5_99 dX5_ofRider_30 ?_
        refine lv_iload_n hx hb dX5_ofRider_33 rfl (lv_at hl 1 rfl) ?_
        refine r_ildN (t0 := 0) (j := q_r) hC hW eX_4 rfl (rfl) (by omega) (by decide) dX5_ofRider_34 ?_
        have hF : F_ofRider t R (nI q_r) w = (t.2 4 q_r, t) := by unfold F_ofRider; rw [if_pos c_5_2, if_pos c_16_3, if_pos c_23_4] <;> (try rw [nI_clamp (show q_r < 2 ^ 31 by omega)]) <;> (try rfl)
        exact r_ireti hC hr hlk hW hQ (⟨by rw [hF], by rw [hF]; exact LA.rf _⟩) dX5_ofRider_35
    · have c_16_3 := bI_z.mp c_16_3
      refine lv_bipush (v := (-2)) hx hb dX5_ofRider_19 (by decide) ?_
      have hF : F_ofRider t R (nI q_r) w = ((-2), t) := by unfold F_ofRider; rw [if_pos c_5_2, if_neg c_16_3] <;> (try rw [nI_clamp (show q_r < 2 ^ 31 by omega)]) <;> (try rfl)
      exact r_ireti hC hr hlk hW hQ (⟨by rw [hF], by rw [hF]; exact LA.rf _⟩) dX5_ofRider_21
  · have c_5_2 := bI_z.mp c_5_2
    refine lv_iconst (v := (-1)) hx hb dX5_ofRider_8 (by decide) ?_
    have hF : F_ofRider t R r w = ((-1), t) := by unfold F_ofRider; rw [if_neg c_5_2]  <;> (try rfl)
    exact r_ireti hC hr hlk hW hQ (⟨by rw [hF], by rw [hF]; exact LA.rf _⟩) dX5_ofRider_9
set_option maxRecDepth 100000 in
set_option maxHeartbeats 4000000 in
theorem m_X5_scratch (l : Launch) (D : va_G) (cs : CS3) (ad : Nat → Nat) (t : St) (P R C : Nat) (p v : Int32) (hB : BW t P R C): CT l yX5_scratch cX5_scratch 4 (some .int) (rmk 2 43) (wX cs ad) (tyX cs) D [.ref (ad 0), .int p, .int v] t (va_Qi (fun z u => z = (F_scratch t P p v).1 ∧ LA (F_scratch t P p v).2 u)) := by
  refine CT.of (own := RX5) (by decide) rfl (Nat.le_of_ble_eq_true rfl) ?_
  intro p9 e9 s m9 args below meth c9 A Q hC hr hlk hW hQ ls hl
  obtain ⟨hx, hb, hml, hown, hts⟩ := id hC
  have hl : lv_has ls 4 [(0, .ref (ad 0)), (1, .int p), (2, .int v)] := hl
  obtain ⟨hP, hP8, hR, hR5, hc4, hC8, hlen⟩ := hB
  refine lv_aload_n hx hb dX5_scratch_0 rfl (lv_at hl 0 rfl) ?_
  refine lv_iload_n hx hb dX5_scratch_1 rfl (lv_at hl 1 rfl) ?_
  refine fin_i (run_V (rest := []) hC hW (m_X5_isPace l D cs ad t P p hP hP8) k_yX5_isPace ⟨rfl, rfl⟩ q_ml_RX5_83 eX_0 rfl rfl hl.1 rfl (Nat.le_of_ble_eq_true rfl) ⟨Nat.le_of_ble_eq_true rfl, Nat.le_of_ble_eq_true rfl⟩ dX5_scratch_2 ⟨Nat.zero_le _, Nat.zero_le _⟩) hW (fun r1 u1 H locs hp1 hW => ?_)
  have hW := hx_congr hW hp1.2
  refine r_top hp1.1 ?_
  refine lv_if_ne (tgt := 10) hx hb dX5_scratch_5 (by decide) (fun c_5_2 => ?_) (fun c_5_2 => ?_)
  · have c_5_2 := bI_nz c_5_2
    obtain ⟨q_p, hq_p, rfl⟩ := inN_ex c_5_2 (by omega)
    refine lv_iload_n hx hb dX5_scratch_10 rfl (lv_at hl 2 rfl) ?_
    refine lv_iconst (v := 0) hx hb dX5_scratch_11 (by decide) ?_
    refine lv_bipush (v := 9) hx hb dX5_scratch_12 (by decide) ?_
    refine fin_pi (run_P (rest := []) hC hW.2.2.2.2.2 (m_X5_isIn l v 0 9) k_yX5_isIn ⟨rfl, rfl⟩ q_ml_RX5_86 rfl hl.1 rfl (Nat.le_of_ble_eq_true rfl) ⟨Nat.le_of_ble_eq_true rfl, Nat.le_of_ble_eq_true rfl⟩ dX5_scratch_14 ⟨Nat.zero_le _, Nat.zero_le _⟩) (fun r hr9 => ?_)
    refine r_top hr9 ?_
    refine lv_if_ne (tgt := 23) hx hb dX5_scratch_17 (by decide) (fun c_17_3 => ?_) (fun c_17_3 => ?_)
    · have c_17_3 := bI_nz c_17_3
      refine lv_aload_n hx hb dX5_scratch_23 rfl (lv_at hl 0 rfl) ?_
      refine gX_G_slope hC hW q_fl_RX5_12 dX5_scratch_24 ?_
      refine gX_S_laid hC hW q_fl_RX5_93 dX5_scratch_27 ?_
      refine lv_iload_n hx hb dX5_scratch_30 rfl (lv_at hl 1 rfl) ?_
      refine r_ildN (t0 := 0) (j := q_p) hC hW eX_3 rfl (rfl) (by omega) (by decide) dX5_scratch_31 ?_
      refine lv_istore_n (lv' := [(3, .int (t.2 3 q_p)), (0, .ref (ad 0)), (1, .int (nI q_p)), (2, .int v)]) hx hb dX5_scratch_32 rfl hl (by decide) rfl (fun ls hl => ?_)
      refine lv_aload_n hx hb dX5_scratch_33 rfl (lv_at hl 1 rfl) ?_
      refine gX_G_slope hC hW q_fl_RX5_12 dX5_scratch_34 ?_
      refine gX_S_laid hC hW q_fl_RX5_93 dX5_scratch_37 ?_
      refine lv_iload_n hx hb dX5_scratch_40 rfl (lv_at hl 2 rfl) ?_
      refine lv_iload_n hx hb dX5_scratch_41 rfl (lv_at hl 3 rfl) ?_
      refine r_istN (t0 := 0) (j := q_p) hC hW eX_3 rfl (rfl) (by omega) (by decide) (sX_3 _) dX5_scratch_42 (fun H locs hW => ?_)
      have hW : HX (wX cs ad) (tyX cs) D A s.heap s (t.1, va_up t.2 3 (upd (t.2 3) q_p v)) H locs := hW
      refine lv_iload_n hx hb dX5_scratch_43 rfl (lv_at hl 0 rfl) ?_
      have hF : F_scratch t P (nI q_p) v = (t.2 3 q_p, (t.1, va_up t.2 3 (upd (t.2 3) q_p v))) := by unfold F_scratch; rw [if_pos c_5_2, if_pos c_17_3] <;> (try rw [nI_clamp (show q_p < 2 ^ 31 by omega)]) <;> (try rfl)
      exact r_ireti hC hr hlk hW hQ (⟨by rw [hF], by rw [hF]; exact LA.rf _⟩) dX5_scratch_44
    · have c_17_3 := bI_z.mp c_17_3
      refine lv_bipush (v := (-2)) hx hb dX5_scratch_20 (by decide) ?_
      have hF : F_scratch t P (nI q_p) v = ((-2), t) := by unfold F_scratch; rw [if_pos c_5_2, if_neg c_17_3] <;> (try rw [nI_clamp (show q_p < 2 ^ 31 by omega)]) <;> (try rfl)
      exact r_ireti hC hr hlk hW hQ (⟨by rw [hF], by rw [hF]; exact LA.rf _⟩) dX5_scratch_22
  · have c_5_2 := bI_z.mp c_5_2
    refine lv_iconst (v := (-1)) hx hb dX5_scratch_8 (by decide) ?_
    have hF : F_scratch t P p v = ((-1), t) := by unfold F_scratch; rw [if_neg c_5_2]  <;> (try rfl)
    exact r_ireti hC hr hlk hW hQ (⟨by rw [hF], by rw [hF]; exact LA.rf _⟩) dX5_scratch_9
set_option maxRecDepth 100000 in
set_option maxHeartbeats 4000000 in
theorem m_X5_speed (l : Launch) (D : va_G) (cs : CS3) (ad : Nat → Nat) (t : St) (P R C : Nat) (r v : Int32) (hB : BW t P R C): CT l yX5_speed cX5_speed 3 (some .int) (rmk 2 43) (wX cs ad) (tyX cs) D [.ref (ad 0), .int r, .int v] t (va_Qi (fun z u => z = (F_speed t R r v).1 ∧ LA (F_speed t R r v).2 u)) := by
  refine CT.of (own := RX5) (by decide) rfl (Nat.le_of_ble_eq_true rfl) ?_
  intro p9 e9 s m9 args below meth c9 A Q hC hr hlk hW hQ ls hl
  obtain ⟨hx, hb, hml, hown, hts⟩ := id hC
  have hl : lv_has ls 3 [(0, .ref (ad 0)), (1, .int r), (2, .int v)] := hl
  obtain ⟨hP, hP8, hR, hR5, hc4, hC8, hlen⟩ := hB
  refine lv_aload_n hx hb dX5_speed_0 rfl (lv_at hl 0 rfl) ?_
  refine lv_iload_n hx hb dX5_speed_1 rfl (lv_at hl 1 rfl) ?_
  refine fin_i (run_V (rest := []) hC hW (m_X5_isRider l D cs ad t R r hR hR5) k_yX5_isRider ⟨rfl, rfl⟩ q_ml_RX5_96 eX_0 rfl rfl hl.1 rfl (Nat.le_of_ble_eq_true rfl) ⟨Nat.le_of_ble_eq_true rfl, Nat.le_of_ble_eq_true rfl⟩ dX5_speed_2 ⟨Nat.zero_le _, Nat.zero_le _⟩) hW (fun r1 u1 H locs hp1 hW => ?_)
  have hW := hx_congr hW hp1.2
  refine r_top hp1.1 ?_
  refine lv_if_ne (tgt := 10) hx hb dX5_speed_5 (by decide) (fun c_5_2 => ?_) (fun c_5_2 => ?_)
  · have c_5_2 := bI_nz c_5_2
    obtain ⟨q_r, hq_r, rfl⟩ := inN_ex c_5_2 (by omega)
    refine lv_iload_n hx hb dX5_speed_10 rfl (lv_at hl 2 rfl) ?_
    refine lv_iconst (v := 0) hx hb dX5_speed_11 (by decide) ?_
    refine lv_bipush (v := 99) hx hb dX5_speed_12 (by decide) ?_
    refine fin_pi (run_P (rest := []) hC hW.2.2.2.2.2 (m_X5_isIn l v 0 99) k_yX5_isIn ⟨rfl, rfl⟩ q_ml_RX5_86 rfl hl.1 rfl (Nat.le_of_ble_eq_true rfl) ⟨Nat.le_of_ble_eq_true rfl, Nat.le_of_ble_eq_true rfl⟩ dX5_speed_14 ⟨Nat.zero_le _, Nat.zero_le _⟩) (fun r hr9 => ?_)
    refine r_top hr9 ?_
    refine lv_if_ne (tgt := 23) hx hb dX5_speed_17 (by decide) (fun c_17_3 => ?_) (fun c_17_3 => ?_)
    · have c_17_3 := bI_nz c_17_3
      refine lv_aload_n hx hb dX5_speed_23 rfl (lv_at hl 0 rfl) ?_
      refine gX_G_slope hC hW q_fl_RX5_12 dX5_speed_24 ?_
      refine lv_iconst (v := 0) hx hb dX5_speed_27 (by decide) ?_
      refine lv_iload_n hx hb dX5_speed_28 rfl (lv_at hl 1 rfl) ?_
      refine lv_iload_n hx hb dX5_speed_29 rfl (lv_at hl 2 rfl) ?_
      refine fin_i (run_V (rest := []) hC hW (m_X3_exchange0 l D cs ad t q_r v (by omega)) k_yX3_exchange ⟨rfl, rfl⟩ q_ml_RX5_108 eX_1 rfl rfl hl.1 rfl (Nat.le_of_ble_eq_true rfl) ⟨Nat.le_of_ble_eq_true rfl, Nat.le_of_ble_eq_true rfl⟩ dX5_speed_30 ⟨Nat.zero_le _, Nat.zero_le _⟩) hW (fun r4 u4 H locs hp4 hW => ?_)
      have hW := hx_congr hW hp4.2
      refine r_top hp4.1 ?_
      have hW : HX (wX cs ad) (tyX cs) D A s.heap s (t.1, va_up t.2 5 (upd (t.2 5) q_r v)) H locs := hW
      have hF : F_speed t R (nI q_r) v = (t.2 5 q_r, (t.1, va_up t.2 5 (upd (t.2 5) q_r v))) := by unfold F_speed; rw [if_pos c_5_2, if_pos c_17_3] <;> (try rw [nI_clamp (show q_r < 2 ^ 31 by omega)]) <;> (try rfl)
      exact r_ireti hC hr hlk hW hQ (⟨by rw [hF], by rw [hF]; exact LA.rf _⟩) dX5_speed_33
    · have c_17_3 := bI_z.mp c_17_3
      refine lv_bipush (v := (-2)) hx hb dX5_speed_20 (by decide) ?_
      have hF : F_speed t R (nI q_r) v = ((-2), t) := by unfold F_speed; rw [if_pos c_5_2, if_neg c_17_3] <;> (try rw [nI_clamp (show q_r < 2 ^ 31 by omega)]) <;> (try rfl)
      exact r_ireti hC hr hlk hW hQ (⟨by rw [hF], by rw [hF]; exact LA.rf _⟩) dX5_speed_22
  · have c_5_2 := bI_z.mp c_5_2
    refine lv_iconst (v := (-1)) hx hb dX5_speed_8 (by decide) ?_
    have hF : F_speed t R r v = ((-1), t) := by unfold F_speed; rw [if_neg c_5_2]  <;> (try rfl)
    exact r_ireti hC hr hlk hW hQ (⟨by rw [hF], by rw [hF]; exact LA.rf _⟩) dX5_speed_9
set_option maxRecDepth 100000 in
set_option maxHeartbeats 4000000 in
theorem m_X5_shoe (l : Launch) (D : va_G) (cs : CS3) (ad : Nat → Nat) (t : St) (P R C : Nat) (r v : Int32) (hB : BW t P R C): CT l yX5_shoe cX5_shoe 3 (some .int) (rmk 2 43) (wX cs ad) (tyX cs) D [.ref (ad 0), .int r, .int v] t (va_Qi (fun z u => z = (F_shoe t R r v).1 ∧ LA (F_shoe t R r v).2 u)) := by
  refine CT.of (own := RX5) (by decide) rfl (Nat.le_of_ble_eq_true rfl) ?_
  intro p9 e9 s m9 args below meth c9 A Q hC hr hlk hW hQ ls hl
  obtain ⟨hx, hb, hml, hown, hts⟩ := id hC
  have hl : lv_has ls 3 [(0, .ref (ad 0)), (1, .int r), (2, .int v)] := hl
  obtain ⟨hP, hP8, hR, hR5, hc4, hC8, hlen⟩ := hB
  refine lv_aload_n hx hb dX5_shoe_0 rfl (lv_at hl 0 rfl) ?_
  refine lv_iload_n hx hb dX5_shoe_1 rfl (lv_at hl 1 rfl) ?_
  refine fin_i (run_V (rest := []) hC hW (m_X5_isRider l D cs ad t R r hR hR5) k_yX5_isRider ⟨rfl, rfl⟩ q_ml_RX5_96 eX_0 rfl rfl hl.1 rfl (Nat.le_of_ble_eq_true rfl) ⟨Nat.le_of_ble_eq_true rfl, Nat.le_of_ble_eq_true rfl⟩ dX5_shoe_2 ⟨Nat.zero_le _, Nat.zero_le _⟩) hW (fun r1 u1 H locs hp1 hW => ?_)
  have hW := hx_congr hW hp1.2
  refine r_top hp1.1 ?_
  refine lv_if_ne (tgt := 10) hx hb dX5_shoe_5 (by decide) (fun c_5_2 => ?_) (fun c_5_2 => ?_)
  · have c_5_2 := bI_nz c_5_2
    obtain ⟨q_r, hq_r, rfl⟩ := inN_ex c_5_2 (by omega)
    refine lv_iload_n hx hb dX5_shoe_10 rfl (lv_at hl 2 rfl) ?_
    refine lv_iconst (v := 0) hx hb dX5_shoe_11 (by decide) ?_
    refine lv_bipush (v := 9) hx hb dX5_shoe_12 (by decide) ?_
    refine fin_pi (run_P (rest := []) hC hW.2.2.2.2.2 (m_X5_isIn l v 0 9) k_yX5_isIn ⟨rfl, rfl⟩ q_ml_RX5_86 rfl hl.1 rfl (Nat.le_of_ble_eq_true rfl) ⟨Nat.le_of_ble_eq_true rfl, Nat.le_of_ble_eq_true rfl⟩ dX5_shoe_14 ⟨Nat.zero_le _, Nat.zero_le _⟩) (fun r hr9 => ?_)
    refine r_top hr9 ?_
    refine lv_if_ne (tgt := 23) hx hb dX5_shoe_17 (by decide) (fun c_17_3 => ?_) (fun c_17_3 => ?_)
    · have c_17_3 := bI_nz c_17_3
      refine lv_aload_n hx hb dX5_shoe_23 rfl (lv_at hl 0 rfl) ?_
      refine gX_G_slope hC hW q_fl_RX5_12 dX5_shoe_24 ?_
      refine lv_iconst (v := 1) hx hb dX5_shoe_27 (by decide) ?_
      refine lv_iload_n hx hb dX5_shoe_28 rfl (lv_at hl 1 rfl) ?_
      refine lv_iload_n hx hb dX5_shoe_29 rfl (lv_at hl 2 rfl) ?_
      refine fin_i (run_V (rest := []) hC hW (m_X3_exchange1 l D cs ad t q_r v (by omega)) k_yX3_exchange ⟨rfl, rfl⟩ q_ml_RX5_108 eX_1 rfl rfl hl.1 rfl (Nat.le_of_ble_eq_true rfl) ⟨Nat.le_of_ble_eq_true rfl, Nat.le_of_ble_eq_true rfl⟩ dX5_shoe_30 ⟨Nat.zero_le _, Nat.zero_le _⟩) hW (fun r4 u4 H locs hp4 hW => ?_)
      have hW := hx_congr hW hp4.2
      refine r_top hp4.1 ?_
      have hW : HX (wX cs ad) (tyX cs) D A s.heap s (t.1, va_up t.2 6 (upd (t.2 6) q_r v)) H locs := hW
      have hF : F_shoe t R (nI q_r) v = (t.2 6 q_r, (t.1, va_up t.2 6 (upd (t.2 6) q_r v))) := by unfold F_shoe; rw [if_pos c_5_2, if_pos c_17_3] <;> (try rw [nI_clamp (show q_r < 2 ^ 31 by omega)]) <;> (try rfl)
      exact r_ireti hC hr hlk hW hQ (⟨by rw [hF], by rw [hF]; exact LA.rf _⟩) dX5_shoe_33
    · have c_17_3 := bI_z.mp c_17_3
      refine lv_bipush (v := (-2)) hx hb dX5_shoe_20 (by decide) ?_
      have hF : F_shoe t R (nI q_r) v = ((-2), t) := by unfold F_shoe; rw [if_pos c_5_2, if_neg c_17_3] <;> (try rw [nI_clamp (show q_r < 2 ^ 31 by omega)]) <;> (try rfl)
      exact r_ireti hC hr hlk hW hQ (⟨by rw [hF], by rw [hF]; exact LA.rf _⟩) dX5_shoe_22
  · have c_5_2 := bI_z.mp c_5_2
    refine lv_iconst (v := (-1)) hx hb dX5_shoe_8 (by decide) ?_
    have hF : F_shoe t R r v = ((-1), t) := by unfold F_shoe; rw [if_neg c_5_2]  <;> (try rfl)
    exact r_ireti hC hr hlk hW hQ (⟨by rw [hF], by rw [hF]; exact LA.rf _⟩) dX5_shoe_9
set_option maxRecDepth 100000 in
set_option maxHeartbeats 4000000 in
theorem m_X5_takes (l : Launch) (D : va_G) (cs : CS3) (ad : Nat → Nat) (t : St) (P R C : Nat) (r p s0 : Int32) (hB : BW t P R C): CT l yX5_takes cX5_takes 4 (some .int) (rmk 2 43) (wX cs ad) (tyX cs) D [.ref (ad 0), .int r, .int p, .int s0] t (va_Qi (fun z u => z = (F_takes t P R r p s0).1 ∧ LA (F_takes t P R r p s0).2 u)) := by
  refine CT.of (own := RX5) (by decide) rfl (Nat.le_of_ble_eq_true rfl) ?_
  intro p9 e9 s m9 args below meth c9 A Q hC hr hlk hW hQ ls hl
  obtain ⟨hx, hb, hml, hown, hts⟩ := id hC
  have hl : lv_has ls 4 [(0, .ref (ad 0)), (1, .int r), (2, .int p), (3, .int s0)] := hl
  obtain ⟨hP, hP8, hR, hR5, hc4, hC8, hlen⟩ := hB
  refine lv_aload_n hx hb dX5_takes_0 rfl (lv_at hl 0 rfl) ?_
  refine lv_iload_n hx hb dX5_takes_1 rfl (lv_at hl 1 rfl) ?_
  refine fin_i (run_V (rest := []) hC hW (m_X5_isRider l D cs ad t R r hR hR5) k_yX5_isRider ⟨rfl, rfl⟩ q_ml_RX5_96 eX_0 rfl rfl hl.1 rfl (Nat.le_of_ble_eq_true rfl) ⟨Nat.le_of_ble_eq_true rfl, Nat.le_of_ble_eq_true rfl⟩ dX5_takes_2 ⟨Nat.zero_le _, Nat.zero_le _⟩) hW (fun r1 u1 H locs hp1 hW => ?_)
  have hW := hx_congr hW hp1.2
  refine r_top hp1.1 ?_
  refine lv_if_eq (tgt := 16) hx hb dX5_takes_5 (by decide) (fun c_5_2 => ?_) (fun c_5_2 => ?_)
  · have c_5_2 := bI_z.mp c_5_2
    refine lv_iconst (v := (-1)) hx hb dX5_takes_16 (by decide) ?_
    have hF : F_takes t P R r p s0 = ((-1), t) := by unfold F_takes; rw [if_neg c_5_2]  <;> (try rfl)
    exact r_ireti hC hr hlk hW hQ (⟨by rw [hF], by rw [hF]; exact LA.rf _⟩) dX5_takes_17
  · have c_5_2 := bI_nz c_5_2
    obtain ⟨q_r, hq_r, rfl⟩ := inN_ex c_5_2 (by omega)
    refine lv_aload_n hx hb dX5_takes_8 rfl (lv_at hl 0 rfl) ?_
    refine lv_iload_n hx hb dX5_takes_9 rfl (lv_at hl 2 rfl) ?_
    refine fin_i (run_V (rest := []) hC hW (m_X5_isPace l D cs ad t P p hP hP8) k_yX5_isPace ⟨rfl, rfl⟩ q_ml_RX5_83 eX_0 rfl rfl hl.1 rfl (Nat.le_of_ble_eq_true rfl) ⟨Nat.le_of_ble_eq_true rfl, Nat.le_of_ble_eq_true rfl⟩ dX5_takes_10 ⟨Nat.zero_le _, Nat.zero_le _⟩) hW (fun r3 u3 H locs hp3 hW => ?_)
    have hW := hx_congr hW hp3.2
    refine r_top hp3.1 ?_
    refine lv_if_ne (tgt := 18) hx hb dX5_takes_13 (by decide) (fun c_13_4 => ?_) (fun c_13_4 => ?_)
    · have c_13_4 := bI_nz c_13_4
      obtain ⟨q_p, hq_p, rfl⟩ := inN_ex c_13_4 (by omega)
      refine lv_iload_n hx hb dX5_takes_18 rfl (lv_at hl 3 rfl) ?_
      refine lv_iconst (v := 0) hx hb dX5_takes_19 (by decide) ?_
      refine lv_bipush (v := 9) hx hb dX5_takes_20 (by decide) ?_
      refine fin_pi (run_P (rest := []) hC hW.2.2.2.2.2 (m_X5_isIn l s0 0 9) k_yX5_isIn ⟨rfl, rfl⟩ q_ml_RX5_86 rfl hl.1 rfl (Nat.le_of_ble_eq_true rfl) ⟨Nat.le_of_ble_eq_true rfl, Nat.le_of_ble_eq_true rfl⟩ dX5_takes_22 ⟨Nat.zero_le _, Nat.zero_le _⟩) (fun r hr9 => ?_)
      refine r_top hr9 ?_
      refine lv_if_ne (tgt := 31) hx hb dX5_takes_25 (by decide) (fun c_25_5 => ?_) (fun c_25_5 => ?_)
      · have c_25_5 := bI_nz c_25_5
        refine lv_aload_n hx hb dX5_takes_31 rfl (lv_at hl 0 rfl) ?_
        refine gX_G_slope hC hW q_fl_RX5_12 dX5_takes_32 ?_
        refine lv_iload_n hx hb dX5_takes_35 rfl (lv_at hl 1 rfl) ?_
        refine lv_iload_n hx hb dX5_takes_36 rfl (lv_at hl 2 rfl) ?_
        refine lv_iload_n hx hb dX5_takes_37 rfl (lv_at hl 3 rfl) ?_
        refine fin_i (run_V (rest := []) hC hW (m_X3_toll l D cs ad t P (hX P t) q_r q_p s0 rfl (by omega) (by omega)) k_yX3_toll ⟨rfl, rfl⟩ q_ml_RX5_112 eX_1 rfl rfl hl.1 rfl (Nat.le_of_ble_eq_true rfl) ⟨Nat.le_of_ble_eq_true rfl, Nat.le_of_ble_eq_true rfl⟩ dX5_takes_38 ⟨Nat.zero_le _, Nat.zero_le _⟩) hW (fun r6 u6 H locs hp6 hW => ?_)
        have hW := hx_congr hW hp6.2
        refine r_top hp6.1 ?_
        have hF : F_takes t P R (nI q_r) (nI q_p) s0 = (toll (hX P t) q_r q_p s0, t) := by unfold F_takes; rw [if_pos c_5_2, if_pos c_13_4, if_pos c_25_5] <;> (try rw [nI_clamp (show q_r < 2 ^ 31 by omega)]) <;> (try rw [nI_clamp (show q_p < 2 ^ 31 by omega)]) <;> (try rfl)
        exact r_ireti hC hr hlk hW hQ (⟨by rw [hF], by rw [hF]; exact LA.rf _⟩) dX5_takes_41
      · have c_25_5 := bI_z.mp c_25_5
        refine lv_bipush (v := (-2)) hx hb dX5_takes_28 (by decide) ?_
        have hF : F_takes t P R (nI q_r) (nI q_p) s0 = ((-2), t) := by unfold F_takes; rw [if_pos c_5_2, if_pos c_13_4, if_neg c_25_5] <;> (try rw [nI_clamp (show q_r < 2 ^ 31 by omega)]) <;> (try rw [nI_clamp (show q_p < 2 ^ 31 by omega)]) <;> (try rfl)
        exact r_ireti hC hr hlk hW hQ (⟨by rw [hF], by rw [hF]; exact LA.rf _⟩) dX5_takes_30
    · have c_13_4 := bI_z.mp c_13_4
      refine lv_iconst (v := (-1)) hx hb dX5_takes_16 (by decide) ?_
      have hF : F_takes t P R (nI q_r) p s0 = ((-1), t) := by unfold F_takes; rw [if_pos c_5_2, if_neg c_13_4] <;> (try rw [nI_clamp (show q_r < 2 ^ 31 by omega)]) <;> (try rfl)
      exact r_ireti hC hr hlk hW hQ (⟨by rw [hF], by rw [hF]; exact LA.rf _⟩) dX5_takes_17
set_option maxRecDepth 100000 in
set_option maxHeartbeats 4000000 in
theorem m_X5_reading (l : Launch) (D : va_G) (cs : CS3) (ad : Nat → Nat) (t : St) (P R C : Nat) (r y : Int32) (hB : BW t P R C): CT l yX5_reading cX5_reading 3 (some .int) (rmk 2 43) (wX cs ad) (tyX cs) D [.ref (ad 0), .int r, .int y] t (va_Qi (fun z u => z = (F_reading t R C r y).1 ∧ LA (F_reading t R C r y).2 u)) := by
  refine CT.of (own := RX5) (by decide) rfl (Nat.le_of_ble_eq_true rfl) ?_
  intro p9 e9 s m9 args below meth c9 A Q hC hr hlk hW hQ ls hl
  obtain ⟨hx, hb, hml, hown, hts⟩ := id hC
  have hl : lv_has ls 3 [(0, .ref (ad 0)), (1, .int r), (2, .int y)] := hl
  obtain ⟨hP, hP8, hR, hR5, hc4, hC8, hlen⟩ := hB
  refine lv_aload_n hx hb dX5_reading_0 rfl (lv_at hl 0 rfl) ?_
  refine lv_iload_n hx hb dX5_reading_1 rfl (lv_at hl 1 rfl) ?_
  refine fin_i (run_V (rest := []) hC hW (m_X5_isRider l D cs ad t R r hR hR5) k_yX5_isRider ⟨rfl, rfl⟩ q_ml_RX5_96 eX_0 rfl rfl hl.1 rfl (Nat.le_of_ble_eq_true rfl) ⟨Nat.le_of_ble_eq_true rfl, Nat.le_of_ble_eq_true rfl⟩ dX5_reading_2 ⟨Nat.zero_le _, Nat.zero_le _⟩) hW (fun r1 u1 H locs hp1 hW => ?_)
  have hW := hx_congr hW hp1.2
  refine r_top hp1.1 ?_
  refine lv_if_ne (tgt := 10) hx hb dX5_reading_5 (by decide) (fun c_5_2 => ?_) (fun c_5_2 => ?_)
  · have c_5_2 := bI_nz c_5_2
    obtain ⟨q_r, hq_r, rfl⟩ := inN_ex c_5_2 (by omega)
    refine lv_iload_n hx hb dX5_reading_10 rfl (lv_at hl 2 rfl) ?_
    refine lv_iconst (v := 0) hx hb dX5_reading_11 (by decide) ?_
    refine lv_bipush (v := 8) hx hb dX5_reading_12 (by decide) ?_
    refine fin_pi (run_P (rest := []) hC hW.2.2.2.2.2 (m_X5_isIn l y 0 8) k_yX5_isIn ⟨rfl, rfl⟩ q_ml_RX5_86 rfl hl.1 rfl (Nat.le_of_ble_eq_true rfl) ⟨Nat.le_of_ble_eq_true rfl, Nat.le_of_ble_eq_true rfl⟩ dX5_reading_14 ⟨Nat.zero_le _, Nat.zero_le _⟩) (fun r hr9 => ?_)
    refine r_top hr9 ?_
    refine lv_if_ne (tgt := 23) hx hb dX5_reading_17 (by decide) (fun c_17_3 => ?_) (fun c_17_3 => ?_)
    · have c_17_3 := bI_nz c_17_3
      refine lv_aload_n hx hb dX5_reading_23 rfl (lv_at hl 0 rfl) ?_
      refine gX_G_readings hC hW q_fl_RX5_21 dX5_reading_24 ?_
      refine fin_i (run_V (rest := []) hC hW (m_X1_isFull l D cs ad t) k_yX1_isFull ⟨rfl, rfl⟩ q_ml_RX5_160 eX_7 rfl rfl hl.1 rfl (Nat.le_of_ble_eq_true rfl) ⟨Nat.le_of_ble_eq_true rfl, Nat.le_of_ble_eq_true rfl⟩ dX5_reading_27 ⟨Nat.zero_le _, Nat.zero_le _⟩) hW (fun r4 u4 H locs hp4 hW => ?_)
      have hW := hx_congr hW hp4.2
      refine r_top hp4.1 ?_
      refine lv_if_eq (tgt := 36) hx hb dX5_reading_30 (by decide) (fun c_30_5 => ?_) (fun c_30_5 => ?_)
      · have c_30_5 := bI_z.mp c_30_5
        have hC7 : C < 8 := by rcases Nat.lt_or_ge C 8 with q | q; exact q; exact absurd (by rw [hc4]; exact nI_le (a := 8) q (by omega)) c_30_5
        refine lv_aload_n hx hb dX5_reading_36 rfl (lv_at hl 0 rfl) ?_
        refine gX_G_readings hC hW q_fl_RX5_21 dX5_reading_37 ?_
        refine lv_iload_n hx hb dX5_reading_40 rfl (lv_at hl 1 rfl) ?_
        refine lv_iload_n hx hb dX5_reading_41 rfl (lv_at hl 2 rfl) ?_
        refine fin_i (run_V (rest := []) hC hW (m_X1_add l D cs ad t C (nI q_r) y hc4 (by omega)) k_yX1_add ⟨rfl, rfl⟩ q_ml_RX5_164 eX_7 rfl rfl hl.1 rfl (Nat.le_of_ble_eq_true rfl) ⟨Nat.le_of_ble_eq_true rfl, Nat.le_of_ble_eq_true rfl⟩ dX5_reading_42 ⟨Nat.zero_le _, Nat.zero_le _⟩) hW (fun r6 u6 H locs hp6 hW => ?_)
        have hW := hx_congr hW hp6.2
        refine r_top hp6.1 ?_
        have hF : F_reading t R C (nI q_r) y = (nI C, (va_up t.1 4 (nI (C + 1)), va_up (va_up t.2 8 (upd (t.2 8) C (nI q_r))) 9 (upd (t.2 9) C y))) := by unfold F_reading; rw [if_pos c_5_2, if_pos c_17_3, if_neg c_30_5] <;> (try rw [nI_clamp (show q_r < 2 ^ 31 by omega)]) <;> (try rfl)
        exact r_ireti hC hr hlk hW hQ (⟨by rw [hF], by rw [hF]; exact LA.rf _⟩) dX5_reading_45
      · have c_30_5 := bI_nz c_30_5
        refine lv_bipush (v := (-4)) hx hb dX5_reading_33 (by decide) ?_
        have hF : F_reading t R C (nI q_r) y = ((-4), t) := by unfold F_reading; rw [if_pos c_5_2, if_pos c_17_3, if_pos c_30_5] <;> (try rw [nI_clamp (show q_r < 2 ^ 31 by omega)]) <;> (try rfl)
        exact r_ireti hC hr hlk hW hQ (⟨by rw [hF], by rw [hF]; exact LA.rf _⟩) dX5_reading_35
    · have c_17_3 := bI_z.mp c_17_3
      refine lv_bipush (v := (-2)) hx hb dX5_reading_20 (by decide) ?_
      have hF : F_reading t R C (nI q_r) y = ((-2), t) := by unfold F_reading; rw [if_pos c_5_2, if_neg c_17_3] <;> (try rw [nI_clamp (show q_r < 2 ^ 31 by omega)]) <;> (try rfl)
      exact r_ireti hC hr hlk hW hQ (⟨by rw [hF], by rw [hF]; exact LA.rf _⟩) dX5_reading_22
  · have c_5_2 := bI_z.mp c_5_2
    refine lv_iconst (v := (-1)) hx hb dX5_reading_8 (by decide) ?_
    have hF : F_reading t R C r y = ((-1), t) := by unfold F_reading; rw [if_neg c_5_2]  <;> (try rfl)
    exact r_ireti hC hr hlk hW hQ (⟨by rw [hF], by rw [hF]; exact LA.rf _⟩) dX5_reading_9
set_option maxRecDepth 100000 in
set_option maxHeartbeats 4000000 in
theorem m_X5_back (l : Launch) (D : va_G) (cs : CS3) (ad : Nat → Nat) (t : St) (P R C : Nat) (k : Int32) (hB : BW t P R C): CT l yX5_back cX5_back 2 (some .int) (rmk 1 22) (wX cs ad) (tyX cs) D [.ref (ad 0), .int k] t (va_Qi (fun z u => z = (F_back t k).1 ∧ LA (F_back t k).2 u)) := by
  refine CT.of (own := RX5) (by decide) rfl (Nat.le_of_ble_eq_true rfl) ?_
  intro p9 e9 s m9 args below meth c9 A Q hC hr hlk hW hQ ls hl
  obtain ⟨hx, hb, hml, hown, hts⟩ := id hC
  have hl : lv_has ls 2 [(0, .ref (ad 0)), (1, .int k)] := hl
  obtain ⟨hP, hP8, hR, hR5, hc4, hC8, hlen⟩ := hB
  refine lv_iload_n hx hb dX5_back_0 rfl (lv_at hl 1 rfl) ?_
  refine lv_iconst (v := 0) hx hb dX5_back_1 (by decide) ?_
  refine lv_aload_n hx hb dX5_back_2 rfl (lv_at hl 0 rfl) ?_
  refine gX_G_readings hC hW q_fl_RX5_21 dX5_back_3 ?_
  refine gX_D_count hC hW q_fl_RX5_77 dX5_back_6 ?_
  refine fin_pi (run_P (rest := []) hC hW.2.2.2.2.2 (m_X5_isIn l k 0 (t.1 4)) k_yX5_isIn ⟨rfl, rfl⟩ q_ml_RX5_86 rfl hl.1 rfl (Nat.le_of_ble_eq_true rfl) ⟨Nat.le_of_ble_eq_true rfl, Nat.le_of_ble_eq_true rfl⟩ dX5_back_9 ⟨Nat.zero_le _, Nat.zero_le _⟩) (fun r hr9 => ?_)
  refine r_top hr9 ?_
  refine lv_if_ne (tgt := 18) hx hb dX5_back_12 (by decide) (fun c_12_1 => ?_) (fun c_12_1 => ?_)
  · have c_12_1 := bI_nz c_12_1
    refine lv_aload_n hx hb dX5_back_18 rfl (lv_at hl 0 rfl) ?_
    refine gX_G_readings hC hW q_fl_RX5_21 dX5_back_19 ?_
    refine lv_dup hx hb dX5_back_22 rfl ?_
    refine gX_D_count hC hW q_fl_RX5_77 dX5_back_23 ?_
    refine lv_iload_n hx hb dX5_back_26 rfl (lv_at hl 1 rfl) ?_
    refine lv_isub hx hb dX5_back_27 ?_
    refine pX_D_count hC hW q_fl_RX5_77 dX5_back_28 (fun H locs hW => ?_)
    have hW : HX (wX cs ad) (tyX cs) D A s.heap s (va_up t.1 4 ((t.1 4) - k), t.2) H locs := hW
    refine lv_aload_n hx hb dX5_back_31 rfl (lv_at hl 0 rfl) ?_
    refine gX_G_readings hC hW q_fl_RX5_21 dX5_back_32 ?_
    refine gX_D_count hC hW q_fl_RX5_77 dX5_back_35 ?_
    refine r_top (y := (t.1 4) - k) rfl ?_
    have hF : F_back t k = ((t.1 4) - k, (va_up t.1 4 ((t.1 4) - k), t.2)) := by unfold F_back; rw [if_pos c_12_1]  <;> (try rfl)
    exact r_ireti hC hr hlk hW hQ (⟨by rw [hF], by rw [hF]; exact LA.rf _⟩) dX5_back_38
  · have c_12_1 := bI_z.mp c_12_1
    refine lv_bipush (v := (-2)) hx hb dX5_back_15 (by decide) ?_
    have hF : F_back t k = ((-2), t) := by unfold F_back; rw [if_neg c_12_1]  <;> (try rfl)
    exact r_ireti hC hr hlk hW hQ (⟨by rw [hF], by rw [hF]; exact LA.rf _⟩) dX5_back_17
set_option maxRecDepth 100000 in
set_option maxHeartbeats 4000000 in
theorem m_X5_sheet (l : Launch) (D : va_G) (cs : CS3) (ad : Nat → Nat) (t : St) (P R C : Nat) (x a n : Int32) (hB : BW t P R C): CT l yX5_sheet cX5_sheet 4 (some .int) (rmk 2 45) (wX cs ad) (tyX cs) D [.ref (ad 0), .int x, .int a, .int n] t (va_Qi (fun z u => z = (F_sheet t x a n).1 ∧ LA (F_sheet t x a n).2 u)) := by
  refine CT.of (own := RX5) (by decide) rfl (Nat.le_of_ble_eq_true rfl) ?_
  intro p9 e9 s m9 args below meth c9 A Q hC hr hlk hW hQ ls hl
  obtain ⟨hx, hb, hml, hown, hts⟩ := id hC
  have hl : lv_has ls 4 [(0, .ref (ad 0)), (1, .int x), (2, .int a), (3, .int n)] := hl
  obtain ⟨hP, hP8, hR, hR5, hc4, hC8, hlen⟩ := hB
  refine lv_aload_n hx hb dX5_sheet_0 rfl (lv_at hl 0 rfl) ?_
  refine lv_iconst (v := 0) hx hb dX5_sheet_1 (by decide) ?_
  refine pX_G_fault hC hW q_fl_RX5_48 dX5_sheet_2 (fun H locs hW => ?_)
  have hW : HX (wX cs ad) (tyX cs) D A s.heap s (va_up t.1 1 0, t.2) H locs := hW
  refine lv_iload_n hx hb dX5_sheet_5 rfl (lv_at hl 1 rfl) ?_
  refine fin_pi (run_P (rest := []) hC hW.2.2.2.2.2 (m_X5_isSheet l x) k_yX5_isSheet ⟨rfl, rfl⟩ q_ml_RX5_52 rfl hl.1 rfl (Nat.le_of_ble_eq_true rfl) ⟨Nat.le_of_ble_eq_true rfl, Nat.le_of_ble_eq_true rfl⟩ dX5_sheet_6 ⟨Nat.zero_le _, Nat.zero_le _⟩) (fun r hr9 => ?_)
  refine r_top hr9 ?_
  refine lv_if_ne (tgt := 14) hx hb dX5_sheet_9 (by decide) (fun c_9_1 => ?_) (fun c_9_1 => ?_)
  · have c_9_1 := bI_nz c_9_1
    obtain ⟨k, hk3, rfl⟩ := rng_ex (M := 3) (n := 3) (by decide) c_9_1
    refine lv_iload_n hx hb dX5_sheet_14 rfl (lv_at hl 2 rfl) ?_
    refine fin_pi (run_P (rest := []) hC hW.2.2.2.2.2 (m_X5_isLane l a) k_yX5_isLane ⟨rfl, rfl⟩ q_ml_RX5_56 rfl hl.1 rfl (Nat.le_of_ble_eq_true rfl) ⟨Nat.le_of_ble_eq_true rfl, Nat.le_of_ble_eq_true rfl⟩ dX5_sheet_15 ⟨Nat.zero_le _, Nat.zero_le _⟩) (fun r hr9 => ?_)
    refine r_top hr9 ?_
    refine lv_if_eq (tgt := 27) hx hb dX5_sheet_18 (by decide) (fun c_18_2 => ?_) (fun c_18_2 => ?_)
    · have c_18_2 := bI_z.mp c_18_2
      refine lv_bipush (v := (-2)) hx hb dX5_sheet_27 (by decide) ?_
      have hF : F_sheet t (nI k) a n = ((-2), (va_up t.1 1 0, t.2)) := by unfold F_sheet; rw [if_pos c_9_1, if_neg c_18_2] <;> (try rw [nI_clamp (show k < 2 ^ 31 by omega)]) <;> (try rfl)
      exact r_ireti hC hr hlk hW hQ (⟨by rw [hF], by rw [hF]; exact LA.rf _⟩) dX5_sheet_29
    · have c_18_2 := bI_nz c_18_2
      refine lv_iload_n hx hb dX5_sheet_21 rfl (lv_at hl 3 rfl) ?_
      refine lv_bipush (v := 60) hx hb dX5_sheet_22 (by decide) ?_
      refine lv_icmp_le (tgt := 30) hx hb dX5_sheet_24 (by decide) (fun c_24_3 => ?_) (fun c_24_3 => ?_)
      · refine lv_iload_n hx hb dX5_sheet_30 rfl (lv_at hl 3 rfl) ?_
        refine lv_if_ge (tgt := 40) hx hb dX5_sheet_31 (by decide) (fun c_31_4 => ?_) (fun c_31_4 => ?_)
        · refine lv_aload_n hx hb dX5_sheet_40 rfl (lv_at hl 0 rfl) ?_
          refine gX_G_sheets hC hW q_fl_RX5_27 dX5_sheet_41 ?_
          refine lv_iload_n hx hb dX5_sheet_44 rfl (lv_at hl 1 rfl) ?_
          refine r_aldN (t0 := 1) (j := k) hC hW eX_10 rfl rfl (by omega) (by decide) rfl dX5_sheet_45 ?_
          refine lv_iload_n hx hb dX5_sheet_46 rfl (lv_at hl 2 rfl) ?_
          refine lv_iload_n hx hb dX5_sheet_47 rfl (lv_at hl 3 rfl) ?_
          refine fin_v (run_V (rest := []) hC hW (m_X2_renew l D cs ad (va_up t.1 1 0, t.2) k (by omega) a n) k_yX2_renew ⟨rfl, rfl⟩ q_ml_RX5_194 (eX_R k (by omega)) rfl rfl hl.1 rfl (Nat.le_of_ble_eq_true rfl) ⟨Nat.le_of_ble_eq_true rfl, Nat.le_of_ble_eq_true rfl⟩ dX5_sheet_48 ⟨Nat.zero_le _, Nat.zero_le _⟩) hW (fun u5 H locs hp5 hW => ?_)
          have hW : HX (wX cs ad) (tyX cs) D A s.heap s (va_up (va_up (va_up t.1 1 0) (5 + 2 * k) a) (6 + 2 * k) n, va_up t.2 (15 + 2 * k) (fun _ => 0)) H locs := hx_congr hW hp5
          refine lv_iconst (v := 1) hx hb dX5_sheet_51 (by decide) ?_
          have hF : F_sheet t (nI k) a n = (1, (va_up (va_up (va_up t.1 1 0) (5 + 2 * k) a) (6 + 2 * k) n, va_up t.2 (15 + 2 * k) (fun _ => 0))) := by unfold F_sheet; rw [if_pos c_9_1, if_pos c_18_2, if_pos c_24_3, if_neg (Int32.not_lt.mpr c_31_4)] <;> (try rw [nI_clamp (show k < 2 ^ 31 by omega)]) <;> (try rfl)
          exact r_ireti hC hr hlk hW hQ (⟨by rw [hF], by rw [hF]; exact LA.rf _⟩) dX5_sheet_52
        · refine lv_aload_n hx hb dX5_sheet_34 rfl (lv_at hl 0 rfl) ?_
          refine lv_iconst (v := 4) hx hb dX5_sheet_35 (by decide) ?_
          refine fin_i (run_V (rest := []) hC hW (m_X5_meet l D cs ad (va_up t.1 1 0, t.2) 4) k_yX5_meet ⟨rfl, rfl⟩ q_ml_RX5_63 eX_0 rfl rfl hl.1 rfl (Nat.le_of_ble_eq_true rfl) ⟨Nat.le_of_ble_eq_true rfl, Nat.le_of_ble_eq_true rfl⟩ dX5_sheet_36 ⟨Nat.zero_le _, Nat.zero_le _⟩) hW (fun r6 u6 H locs hp6 hW => ?_)
          have hW : HX (wX cs ad) (tyX cs) D A s.heap s (va_up t.1 1 4, t.2) H locs := hx_congr hW (hp6.2.trans (by first | rfl | (simp only [va_upup]; done) | (refine Prod.ext (funext fun k => ?_) (funext fun k => ?_) <;> simp only [va_up] <;> (repeat' split) <;> first | rfl | omega | simp_all)))
          refine r_top hp6.1 ?_
          have hF : F_sheet t (nI k) a n = ((-10) - 4, (va_up t.1 1 4, t.2)) := by unfold F_sheet; rw [if_pos c_9_1, if_pos c_18_2, if_pos c_24_3, if_pos (Int32.not_le.mp c_31_4)] <;> (try rw [nI_clamp (show k < 2 ^ 31 by omega)]) <;> (try rfl)
          exact r_ireti hC hr hlk hW hQ (⟨by rw [hF], by rw [hF]; exact LA.rf _⟩) dX5_sheet_39
      · refine lv_bipush (v := (-2)) hx hb dX5_sheet_27 (by decide) ?_
        have hF : F_sheet t (nI k) a n = ((-2), (va_up t.1 1 0, t.2)) := by unfold F_sheet; rw [if_pos c_9_1, if_pos c_18_2, if_neg c_24_3] <;> (try rw [nI_clamp (show k < 2 ^ 31 by omega)]) <;> (try rfl)
        exact r_ireti hC hr hlk hW hQ (⟨by rw [hF], by rw [hF]; exact LA.rf _⟩) dX5_sheet_29
  · have c_9_1 := bI_z.mp c_9_1
    refine lv_iconst (v := (-1)) hx hb dX5_sheet_12 (by decide) ?_
    have hF : F_sheet t x a n = ((-1), (va_up t.1 1 0, t.2)) := by unfold F_sheet; rw [if_neg c_9_1]  <;> (try rfl)
    exact r_ireti hC hr hlk hW hQ (⟨by rw [hF], by rw [hF]; exact LA.rf _⟩) dX5_sheet_13
set_option maxRecDepth 100000 in
set_option maxHeartbeats 4000000 in
theorem m_X5_lose (l : Launch) (D : va_G) (cs : CS3) (ad : Nat → Nat) (t : St) (P R C : Nat) (x : Int32) (hB : BW t P R C): CT l yX5_lose cX5_lose 3 (some .int) (rmk 2 45) (wX cs ad) (tyX cs) D [.ref (ad 0), .int x] t (va_Qi (fun z u => z = (F_lose t x).1 ∧ LA (F_lose t x).2 u)) := by
  refine CT.of (own := RX5) (by decide) rfl (Nat.le_of_ble_eq_true rfl) ?_
  intro p9 e9 s m9 args below meth c9 A Q hC hr hlk hW hQ ls hl
  obtain ⟨hx, hb, hml, hown, hts⟩ := id hC
  have hl : lv_has ls 3 [(0, .ref (ad 0)), (1, .int x)] := hl
  obtain ⟨hP, hP8, hR, hR5, hc4, hC8, hlen⟩ := hB
  refine lv_iload_n hx hb dX5_lose_0 rfl (lv_at hl 1 rfl) ?_
  refine fin_pi (run_P (rest := []) hC hW.2.2.2.2.2 (m_X5_isSheet l x) k_yX5_isSheet ⟨rfl, rfl⟩ q_ml_RX5_52 rfl hl.1 rfl (Nat.le_of_ble_eq_true rfl) ⟨Nat.le_of_ble_eq_true rfl, Nat.le_of_ble_eq_true rfl⟩ dX5_lose_1 ⟨Nat.zero_le _, Nat.zero_le _⟩) (fun r hr9 => ?_)
  refine r_top hr9 ?_
  refine lv_if_ne (tgt := 9) hx hb dX5_lose_4 (by decide) (fun c_4_1 => ?_) (fun c_4_1 => ?_)
  · have c_4_1 := bI_nz c_4_1
    obtain ⟨k, hk3, rfl⟩ := rng_ex (M := 3) (n := 3) (by decide) c_4_1
    refine lv_aload_n hx hb dX5_lose_9 rfl (lv_at hl 0 rfl) ?_
    refine gX_G_sheets hC hW q_fl_RX5_27 dX5_lose_10 ?_
    refine lv_iload_n hx hb dX5_lose_13 rfl (lv_at hl 1 rfl) ?_
    refine r_aldN (t0 := 1) (j := k) hC hW eX_10 rfl rfl (by omega) (by decide) rfl dX5_lose_14 ?_
    refine fin_i (run_V (rest := []) hC hW (m_X2_isNothing l D cs ad t k (by omega)) k_yX2_isNothing ⟨rfl, rfl⟩ q_ml_RX5_198 (eX_R k (by omega)) rfl rfl hl.1 rfl (Nat.le_of_ble_eq_true rfl) ⟨Nat.le_of_ble_eq_true rfl, Nat.le_of_ble_eq_true rfl⟩ dX5_lose_15 ⟨Nat.zero_le _, Nat.zero_le _⟩) hW (fun r2 u2 H locs hp2 hW => ?_)
    have hW := hx_congr hW hp2.2
    refine r_top hp2.1 ?_
    refine lv_if_eq (tgt := 25) hx hb dX5_lose_18 (by decide) (fun c_18_3 => ?_) (fun c_18_3 => ?_)
    · have c_18_3 := bI_z.mp c_18_3
      refine lv_iconst (v := 1) hx hb dX5_lose_25 (by decide) ?_
      refine lv_istore_n (lv' := [(2, .int 1), (0, .ref (ad 0)), (1, .int (nI k))]) hx hb dX5_lose_26 rfl hl (by decide) rfl (fun ls hl => ?_)
      refine lv_aload_n hx hb dX5_lose_27 rfl (lv_at hl 1 rfl) ?_
      refine gX_G_sheets hC hW q_fl_RX5_27 dX5_lose_28 ?_
      refine lv_iload_n hx hb dX5_lose_31 rfl (lv_at hl 2 rfl) ?_
      refine r_aldN (t0 := 1) (j := k) hC hW eX_10 rfl rfl (by omega) (by decide) rfl dX5_lose_32 ?_
      refine lv_iconst (v := (-1)) hx hb dX5_lose_33 (by decide) ?_
      refine lv_iconst (v := 0) hx hb dX5_lose_34 (by decide) ?_
      refine fin_v (run_V (rest := []) hC hW (m_X2_renew l D cs ad t k (by omega) (-1) 0) k_yX2_renew ⟨rfl, rfl⟩ q_ml_RX5_194 (eX_R k (by omega)) rfl rfl hl.1 rfl (Nat.le_of_ble_eq_true rfl) ⟨Nat.le_of_ble_eq_true rfl, Nat.le_of_ble_eq_true rfl⟩ dX5_lose_35 ⟨Nat.zero_le _, Nat.zero_le _⟩) hW (fun u4 H locs hp4 hW => ?_)
      have hW : HX (wX cs ad) (tyX cs) D A s.heap s (va_up (va_up t.1 (5 + 2 * k) (-1)) (6 + 2 * k) 0, va_up t.2 (15 + 2 * k) (fun _ => 0)) H locs := hx_congr hW hp4
      refine lv_iload_n hx hb dX5_lose_38 rfl (lv_at hl 0 rfl) ?_
      have hF : F_lose t (nI k) = (1, (va_up (va_up t.1 (5 + 2 * k) (-1)) (6 + 2 * k) 0, va_up t.2 (15 + 2 * k) (fun _ => 0))) := by unfold F_lose; rw [if_pos c_4_1, nI_clamp (show k < 2 ^ 31 by omega), if_neg c_18_3] <;> (try rw [nI_clamp (show k < 2 ^ 31 by omega)]) <;> (try rfl)
      exact r_ireti hC hr hlk hW hQ (⟨by rw [hF], by rw [hF]; exact LA.rf _⟩) dX5_lose_39
    · have c_18_3 := bI_nz c_18_3
      refine lv_iconst (v := 0) hx hb dX5_lose_21 (by decide) ?_
      refine lv_goto (tgt := 26) hx hb dX5_lose_22 (by decide) ?_
      refine lv_istore_n (lv' := [(2, .int 0), (0, .ref (ad 0)), (1, .int (nI k))]) hx hb dX5_lose_26 rfl hl (by decide) rfl (fun ls hl => ?_)
      refine lv_aload_n hx hb dX5_lose_27 rfl (lv_at hl 1 rfl) ?_
      refine gX_G_sheets hC hW q_fl_RX5_27 dX5_lose_28 ?_
      refine lv_iload_n hx hb dX5_lose_31 rfl (lv_at hl 2 rfl) ?_
      refine r_aldN (t0 := 1) (j := k) hC hW eX_10 rfl rfl (by omega) (by decide) rfl dX5_lose_32 ?_
      refine lv_iconst (v := (-1)) hx hb dX5_lose_33 (by decide) ?_
      refine lv_iconst (v := 0) hx hb dX5_lose_34 (by decide) ?_
      refine fin_v (run_V (rest := []) hC hW (m_X2_renew l D cs ad t k (by omega) (-1) 0) k_yX2_renew ⟨rfl, rfl⟩ q_ml_RX5_194 (eX_R k (by omega)) rfl rfl hl.1 rfl (Nat.le_of_ble_eq_true rfl) ⟨Nat.le_of_ble_eq_true rfl, Nat.le_of_ble_eq_true rfl⟩ dX5_lose_35 ⟨Nat.zero_le _, Nat.zero_le _⟩) hW (fun u5 H locs hp5 hW => ?_)
      have hW : HX (wX cs ad) (tyX cs) D A s.heap s (va_up (va_up t.1 (5 + 2 * k) (-1)) (6 + 2 * k) 0, va_up t.2 (15 + 2 * k) (fun _ => 0)) H locs := hx_congr hW hp5
      refine lv_iload_n hx hb dX5_lose_38 rfl (lv_at hl 0 rfl) ?_
      have hF : F_lose t (nI k) = (0, (va_up (va_up t.1 (5 + 2 * k) (-1)) (6 + 2 * k) 0, va_up t.2 (15 + 2 * k) (fun _ => 0))) := by unfold F_lose; rw [if_pos c_4_1, nI_clamp (show k < 2 ^ 31 by omega), if_pos c_18_3] <;> (try rw [nI_clamp (show k < 2 ^ 31 by omega)]) <;> (try rfl)
      exact r_ireti hC hr hlk hW hQ (⟨by rw [hF], by rw [hF]; exact LA.rf _⟩) dX5_lose_39
  · have c_4_1 := bI_z.mp c_4_1
    refine lv_iconst (v := (-1)) hx hb dX5_lose_7 (by decide) ?_
    have hF : F_lose t x = ((-1), t) := by unfold F_lose; rw [if_neg c_4_1]  <;> (try rfl)
    exact r_ireti hC hr hlk hW hQ (⟨by rw [hF], by rw [hF]; exact LA.rf _⟩) dX5_lose_8
set_option maxRecDepth 100000 in
set_option maxHeartbeats 4000000 in
theorem m_X5_put (l : Launch) (D : va_G) (cs : CS3) (ad : Nat → Nat) (t : St) (P R C : Nat) (x i v : Int32) (hB : BW t P R C): CT l yX5_put cX5_put 6 (some .int) (rmk 2 45) (wX cs ad) (tyX cs) D [.ref (ad 0), .int x, .int i, .int v] t (va_Qi (fun z u => z = (F_put t x i v).1 ∧ LA (F_put t x i v).2 u)) := by
  refine CT.of (own := RX5) (by decide) rfl (Nat.le_of_ble_eq_true rfl) ?_
  intro p9 e9 s m9 args below meth c9 A Q hC hr hlk hW hQ ls hl
  obtain ⟨hx, hb, hml, hown, hts⟩ := id hC
  have hl : lv_has ls 6 [(0, .ref (ad 0)), (1, .int x), (2, .int i), (3, .int v)] := hl
  obtain ⟨hP, hP8, hR, hR5, hc4, hC8, hlen⟩ := hB
  refine lv_aload_n hx hb dX5_put_0 rfl (lv_at hl 0 rfl) ?_
  refine lv_iconst (v := 0) hx hb dX5_put_1 (by decide) ?_
  refine pX_G_fault hC hW q_fl_RX5_48 dX5_put_2 (fun H locs hW => ?_)
  have hW : HX (wX cs ad) (tyX cs) D A s.heap s (va_up t.1 1 0, t.2) H locs := hW
  refine lv_iload_n hx hb dX5_put_5 rfl (lv_at hl 1 rfl) ?_
  refine fin_pi (run_P (rest := []) hC hW.2.2.2.2.2 (m_X5_isSheet l x) k_yX5_isSheet ⟨rfl, rfl⟩ q_ml_RX5_52 rfl hl.1 rfl (Nat.le_of_ble_eq_true rfl) ⟨Nat.le_of_ble_eq_true rfl, Nat.le_of_ble_eq_true rfl⟩ dX5_put_6 ⟨Nat.zero_le _, Nat.zero_le _⟩) (fun r hr9 => ?_)
  refine r_top hr9 ?_
  refine lv_if_ne (tgt := 14) hx hb dX5_put_9 (by decide) (fun c_9_1 => ?_) (fun c_9_1 => ?_)
  · have c_9_1 := bI_nz c_9_1
    obtain ⟨k, hk3, rfl⟩ := rng_ex (M := 3) (n := 3) (by decide) c_9_1
    refine lv_aload_n hx hb dX5_put_14 rfl (lv_at hl 0 rfl) ?_
    refine gX_G_sheets hC hW q_fl_RX5_27 dX5_put_15 ?_
    refine lv_iload_n hx hb dX5_put_18 rfl (lv_at hl 1 rfl) ?_
    refine r_aldN (t0 := 1) (j := k) hC hW eX_10 rfl rfl (by omega) (by decide) rfl dX5_put_19 ?_
    refine lv_astore (lv' := [(4, .ref (ad (14 + 2 * k))), (0, .ref (ad 0)), (1, .int (nI k)), (2, .int i), (3, .int v)]) hx hb dX5_put_20 hl (by decide) rfl (fun ls hl => ?_)
    refine lv_aload hx hb dX5_put_22 (lv_at hl 0 rfl) ?_
    refine lv_aload hx hb dX5_put_24 (lv_at hl 0 rfl) ?_
    refine gX_R_lane k (by omega) hC hW q_fl_RX5_201 dX5_put_26 ?_
    refine r_top (y := t.1 (5 + 2 * k)) (by simp (disch := omega) only [va_up_ne]) ?_
    refine lv_iload_n hx hb dX5_put_29 rfl (lv_at hl 3 rfl) ?_
    refine lv_iconst (v := 1) hx hb dX5_put_30 (by decide) ?_
    refine fin_i (run_S (rest := []) hC hW (m_X5_faultOfCells l D cs ad (va_up t.1 1 0, t.2) k (by omega) (t.1 (5 + 2 * k)) i 1) k_yX5_faultOfCells ⟨rfl, rfl⟩ q_ml_RX5_59 rfl hl.1 rfl (Nat.le_of_ble_eq_true rfl) ⟨Nat.le_of_ble_eq_true rfl, Nat.le_of_ble_eq_true rfl⟩ dX5_put_31 ⟨Nat.zero_le _, Nat.zero_le _⟩) hW (fun r2 u2 H locs hp2 hW => ?_)
    have hW := hx_congr hW hp2.2
    refine r_top hp2.1 ?_
    refine r_top (y := focF (t.1 (5 + 2 * k)) (t.1 (6 + 2 * k)) (t.1 (5 + 2 * k)) i 1) (by simp (disch := omega) only [va_up_ne]) ?_
    refine lv_istore (lv' := [(5, .int (focF (t.1 (5 + 2 * k)) (t.1 (6 + 2 * k)) (t.1 (5 + 2 * k)) i 1)), (4, .ref (ad (14 + 2 * k))), (0, .ref (ad 0)), (1, .int (nI k)), (2, .int i), (3, .int v)]) hx hb dX5_put_34 hl (by decide) rfl (fun ls hl => ?_)
    refine lv_iload hx hb dX5_put_36 (lv_at hl 0 rfl) ?_
    refine lv_if_eq (tgt := 48) hx hb dX5_put_38 (by decide) (fun c_38_3 => ?_) (fun c_38_3 => ?_)
    · obtain ⟨z0, hz0, ez0⟩ := hlen k (by omega)
      obtain ⟨i0, rfl, hi0⟩ := foc_ex1 hz0 (by rw [← ez0]; exact c_38_3)
      refine lv_aload hx hb dX5_put_48 (lv_at hl 1 rfl) ?_
      refine lv_iload_n hx hb dX5_put_50 rfl (lv_at hl 4 rfl) ?_
      refine lv_iload_n hx hb dX5_put_51 rfl (lv_at hl 5 rfl) ?_
      refine fin_v (run_V (rest := []) hC hW (m_X2_lay l D cs ad (va_up t.1 1 0, t.2) k (by omega) i0 v (by omega)) k_yX2_lay ⟨rfl, rfl⟩ q_ml_RX5_204 (eX_R k (by omega)) rfl rfl hl.1 rfl (Nat.le_of_ble_eq_true rfl) ⟨Nat.le_of_ble_eq_true rfl, Nat.le_of_ble_eq_true rfl⟩ dX5_put_52 ⟨Nat.zero_le _, Nat.zero_le _⟩) hW (fun u4 H locs hp4 hW => ?_)
      have hW : HX (wX cs ad) (tyX cs) D A s.heap s (va_up t.1 1 0, va_up t.2 (15 + 2 * k) (upd (t.2 (15 + 2 * k)) i0 (cutF (t.1 (5 + 2 * k)) v))) H locs := hx_congr hW (hp4.trans (by simp (disch := omega) only [va_up_ne]))
      refine lv_iconst (v := 1) hx hb dX5_put_55 (by decide) ?_
      have hF : F_put t (nI k) (nI i0) v = (1, (va_up t.1 1 0, va_up t.2 (15 + 2 * k) (upd (t.2 (15 + 2 * k)) i0 (cutF (t.1 (5 + 2 * k)) v)))) := by unfold F_put; rw [if_pos c_9_1, nI_clamp (show k < 2 ^ 31 by omega), if_pos (show focT _ _ _ _ _ = 0 from c_38_3)] <;> (try rw [nI_clamp (show k < 2 ^ 31 by omega)]) <;> (try rw [nI_clamp (show i0 < 2 ^ 31 by omega)]) <;> (try rfl)
      exact r_ireti hC hr hlk hW hQ (⟨by rw [hF], by rw [hF]; exact LA.rf _⟩) dX5_put_56
    · refine lv_aload_n hx hb dX5_put_41 rfl (lv_at hl 2 rfl) ?_
      refine lv_iload hx hb dX5_put_42 (lv_at hl 0 rfl) ?_
      refine fin_i (run_V (rest := []) hC hW (m_X5_meet l D cs ad (va_up t.1 1 0, t.2) (focF (t.1 (5 + 2 * k)) (t.1 (6 + 2 * k)) (t.1 (5 + 2 * k)) i 1)) k_yX5_meet ⟨rfl, rfl⟩ q_ml_RX5_63 eX_0 rfl rfl hl.1 rfl (Nat.le_of_ble_eq_true rfl) ⟨Nat.le_of_ble_eq_true rfl, Nat.le_of_ble_eq_true rfl⟩ dX5_put_44 ⟨Nat.zero_le _, Nat.zero_le _⟩) hW (fun r5 u5 H locs hp5 hW => ?_)
      have hW : HX (wX cs ad) (tyX cs) D A s.heap s (va_up t.1 1 (focF (t.1 (5 + 2 * k)) (t.1 (6 + 2 * k)) (t.1 (5 + 2 * k)) i 1), t.2) H locs := hx_congr hW (hp5.2.trans (by first | rfl | (simp only [va_upup]; done) | (refine Prod.ext (funext fun k => ?_) (funext fun k => ?_) <;> simp only [va_up] <;> (repeat' split) <;> first | rfl | omega | simp_all)))
      refine r_top hp5.1 ?_
      have hF : F_put t (nI k) i v = ((-10) - (focF (t.1 (5 + 2 * k)) (t.1 (6 + 2 * k)) (t.1 (5 + 2 * k)) i 1), (va_up t.1 1 (focF (t.1 (5 + 2 * k)) (t.1 (6 + 2 * k)) (t.1 (5 + 2 * k)) i 1), t.2)) := by unfold F_put; rw [if_pos c_9_1, nI_clamp (show k < 2 ^ 31 by omega), if_neg (show ¬ focT _ _ _ _ _ = 0 from c_38_3)] <;> (try rw [nI_clamp (show k < 2 ^ 31 by omega)]) <;> (try rfl)
      exact r_ireti hC hr hlk hW hQ (⟨by rw [hF], by rw [hF]; exact LA.rf _⟩) dX5_put_47
  · have c_9_1 := bI_z.mp c_9_1
    refine lv_iconst (v := (-1)) hx hb dX5_put_12 (by decide) ?_
    have hF : F_put t x i v = ((-1), (va_up t.1 1 0, t.2)) := by unfold F_put; rw [if_neg c_9_1]  <;> (try rfl)
    exact r_ireti hC hr hlk hW hQ (⟨by rw [hF], by rw [hF]; exact LA.rf _⟩) dX5_put_13
set_option maxRecDepth 100000 in
set_option maxHeartbeats 4000000 in
theorem m_X5_cell (l : Launch) (D : va_G) (cs : CS3) (ad : Nat → Nat) (t : St) (P R C : Nat) (x i a : Int32) (hB : BW t P R C): CT l yX5_cell cX5_cell 5 (some .long) (rmk 2 45) (wX cs ad) (tyX cs) D [.ref (ad 0), .int x, .int i, .int a] t (va_Ql (fun z u => z = (F_cell t x i a).1 ∧ LA (F_cell t x i a).2 u)) := by
  refine CT.of (own := RX5) (by decide) rfl (Nat.le_of_ble_eq_true rfl) ?_
  intro p9 e9 s m9 args below meth c9 A Q hC hr hlk hW hQ ls hl
  obtain ⟨hx, hb, hml, hown, hts⟩ := id hC
  have hl : lv_has ls 5 [(0, .ref (ad 0)), (1, .int x), (2, .int i), (3, .int a)] := hl
  obtain ⟨hP, hP8, hR, hR5, hc4, hC8, hlen⟩ := hB
  refine lv_aload_n hx hb dX5_cell_0 rfl (lv_at hl 0 rfl) ?_
  refine lv_iconst (v := 0) hx hb dX5_cell_1 (by decide) ?_
  refine pX_G_fault hC hW q_fl_RX5_48 dX5_cell_2 (fun H locs hW => ?_)
  have hW : HX (wX cs ad) (tyX cs) D A s.heap s (va_up t.1 1 0, t.2) H locs := hW
  refine lv_iload_n hx hb dX5_cell_5 rfl (lv_at hl 1 rfl) ?_
  refine fin_pi (run_P (rest := []) hC hW.2.2.2.2.2 (m_X5_isSheet l x) k_yX5_isSheet ⟨rfl, rfl⟩ q_ml_RX5_52 rfl hl.1 rfl (Nat.le_of_ble_eq_true rfl) ⟨Nat.le_of_ble_eq_true rfl, Nat.le_of_ble_eq_true rfl⟩ dX5_cell_6 ⟨Nat.zero_le _, Nat.zero_le _⟩) (fun r hr9 => ?_)
  refine r_top hr9 ?_
  refine lv_if_eq (tgt := 19) hx hb dX5_cell_9 (by decide) (fun c_9_1 => ?_) (fun c_9_1 => ?_)
  · have c_9_1 := bI_z.mp c_9_1
    refine lv_ldc2 hx hb hown (hts _ q_k_RX5_180) dX5_cell_19 ?_
    have hF : F_cell t x i a = ((-9223372036854775808 : Int64), (va_up t.1 1 0, t.2)) := by unfold F_cell; rw [if_neg c_9_1]  <;> (try rfl)
    exact r_lret hC hr hlk hW hQ (⟨by rw [hF], by rw [hF]; exact LA.rf _⟩) dX5_cell_22
  · have c_9_1 := bI_nz c_9_1
    obtain ⟨k, hk3, rfl⟩ := rng_ex (M := 3) (n := 3) (by decide) c_9_1
    refine lv_iload_n hx hb dX5_cell_12 rfl (lv_at hl 3 rfl) ?_
    refine fin_pi (run_P (rest := []) hC hW.2.2.2.2.2 (m_X5_isLane l a) k_yX5_isLane ⟨rfl, rfl⟩ q_ml_RX5_56 rfl hl.1 rfl (Nat.le_of_ble_eq_true rfl) ⟨Nat.le_of_ble_eq_true rfl, Nat.le_of_ble_eq_true rfl⟩ dX5_cell_13 ⟨Nat.zero_le _, Nat.zero_le _⟩) (fun r hr9 => ?_)
    refine r_top hr9 ?_
    refine lv_if_ne (tgt := 23) hx hb dX5_cell_16 (by decide) (fun c_16_2 => ?_) (fun c_16_2 => ?_)
    · have c_16_2 := bI_nz c_16_2
      refine lv_aload_n hx hb dX5_cell_23 rfl (lv_at hl 0 rfl) ?_
      refine gX_G_sheets hC hW q_fl_RX5_27 dX5_cell_24 ?_
      refine lv_iload_n hx hb dX5_cell_27 rfl (lv_at hl 1 rfl) ?_
      refine r_aldN (t0 := 1) (j := k) hC hW eX_10 rfl rfl (by omega) (by decide) rfl dX5_cell_28 ?_
      refine lv_iload_n hx hb dX5_cell_29 rfl (lv_at hl 3 rfl) ?_
      refine lv_iload_n hx hb dX5_cell_30 rfl (lv_at hl 2 rfl) ?_
      refine lv_iconst (v := 1) hx hb dX5_cell_31 (by decide) ?_
      refine fin_i (run_S (rest := []) hC hW (m_X5_faultOfCells l D cs ad (va_up t.1 1 0, t.2) k (by omega) a i 1) k_yX5_faultOfCells ⟨rfl, rfl⟩ q_ml_RX5_59 rfl hl.1 rfl (Nat.le_of_ble_eq_true rfl) ⟨Nat.le_of_ble_eq_true rfl, Nat.le_of_ble_eq_true rfl⟩ dX5_cell_32 ⟨Nat.zero_le _, Nat.zero_le _⟩) hW (fun r3 u3 H locs hp3 hW => ?_)
      have hW := hx_congr hW hp3.2
      refine r_top hp3.1 ?_
      refine r_top (y := focF (t.1 (5 + 2 * k)) (t.1 (6 + 2 * k)) a i 1) (by simp (disch := omega) only [va_up_ne]) ?_
      refine lv_istore (lv' := [(4, .int (focF (t.1 (5 + 2 * k)) (t.1 (6 + 2 * k)) a i 1)), (0, .ref (ad 0)), (1, .int (nI k)), (2, .int i), (3, .int a)]) hx hb dX5_cell_35 hl (by decide) rfl (fun ls hl => ?_)
      refine lv_iload hx hb dX5_cell_37 (lv_at hl 0 rfl) ?_
      refine lv_if_eq (tgt := 53) hx hb dX5_cell_39 (by decide) (fun c_39_4 => ?_) (fun c_39_4 => ?_)
      · obtain ⟨z0, hz0, ez0⟩ := hlen k (by omega)
        obtain ⟨i0, rfl, hi0⟩ := foc_ex1 hz0 (by rw [← ez0]; exact c_39_4)
        refine lv_aload_n hx hb dX5_cell_53 rfl (lv_at hl 1 rfl) ?_
        refine gX_G_sheets hC hW q_fl_RX5_27 dX5_cell_54 ?_
        refine lv_iload_n hx hb dX5_cell_57 rfl (lv_at hl 2 rfl) ?_
        refine r_aldN (t0 := 1) (j := k) hC hW eX_10 rfl rfl (by omega) (by decide) rfl dX5_cell_58 ?_
        refine gX_R_cells k (by omega) hC hW q_fl_RX5_207 dX5_cell_59 ?_
        refine lv_iload_n hx hb dX5_cell_62 rfl (lv_at hl 3 rfl) ?_
        refine r_ildN (t0 := 0) (j := i0) hC hW (eX_Rc k (by omega)) rfl (rfl) (by omega) (by decide) dX5_cell_63 ?_
        refine r_top (y := t.2 (15 + 2 * k) i0) (by first | rfl | simp only [va_up_self]) ?_
        refine lv_i2l (v := (t.2 (15 + 2 * k) i0).toInt64) hx hb dX5_cell_64 rfl ?_
        have hF : F_cell t (nI k) (nI i0) a = ((t.2 (15 + 2 * k) i0).toInt64, (va_up t.1 1 0, t.2)) := by unfold F_cell; rw [if_pos c_9_1, if_pos c_16_2, nI_clamp (show k < 2 ^ 31 by omega), if_pos (show focT _ _ _ _ _ = 0 from c_39_4)] <;> (try rw [nI_clamp (show k < 2 ^ 31 by omega)]) <;> (try rw [nI_clamp (show i0 < 2 ^ 31 by omega)]) <;> (try rfl)
        exact r_lret hC hr hlk hW hQ (⟨by rw [hF], by rw [hF]; exact LA.rf _⟩) dX5_cell_65
      · refine lv_aload_n hx hb dX5_cell_42 rfl (lv_at hl 1 rfl) ?_
        refine lv_iload hx hb dX5_cell_43 (lv_at hl 0 rfl) ?_
        refine fin_i (run_V (rest := []) hC hW (m_X5_meet l D cs ad (va_up t.1 1 0, t.2) (focF (t.1 (5 + 2 * k)) (t.1 (6 + 2 * k)) a i 1)) k_yX5_meet ⟨rfl, rfl⟩ q_ml_RX5_63 eX_0 rfl rfl hl.1 rfl (Nat.le_of_ble_eq_true rfl) ⟨Nat.le_of_ble_eq_true rfl, Nat.le_of_ble_eq_true rfl⟩ dX5_cell_45 ⟨Nat.zero_le _, Nat.zero_le _⟩) hW (fun r5 u5 H locs hp5 hW => ?_)
        have hW : HX (wX cs ad) (tyX cs) D A s.heap s (va_up t.1 1 (focF (t.1 (5 + 2 * k)) (t.1 (6 + 2 * k)) a i 1), t.2) H locs := hx_congr hW (hp5.2.trans (by first | rfl | (simp only [va_upup]; done) | (refine Prod.ext (funext fun k => ?_) (funext fun k => ?_) <;> simp only [va_up] <;> (repeat' split) <;> first | rfl | omega | simp_all)))
        refine r_top hp5.1 ?_
        refine lv_pop hx hb dX5_cell_48 rfl ?_
        refine lv_ldc2 hx hb hown (hts _ q_k_RX5_180) dX5_cell_49 ?_
        have hF : F_cell t (nI k) i a = ((-9223372036854775808 : Int64), (va_up t.1 1 (focF (t.1 (5 + 2 * k)) (t.1 (6 + 2 * k)) a i 1), t.2)) := by unfold F_cell; rw [if_pos c_9_1, if_pos c_16_2, nI_clamp (show k < 2 ^ 31 by omega), if_neg (show ¬ focT _ _ _ _ _ = 0 from c_39_4)] <;> (try rw [nI_clamp (show k < 2 ^ 31 by omega)]) <;> (try rfl)
        exact r_lret hC hr hlk hW hQ (⟨by rw [hF], by rw [hF]; exact LA.rf _⟩) dX5_cell_52
    · have c_16_2 := bI_z.mp c_16_2
      refine lv_ldc2 hx hb hown (hts _ q_k_RX5_180) dX5_cell_19 ?_
      have hF : F_cell t (nI k) i a = ((-9223372036854775808 : Int64), (va_up t.1 1 0, t.2)) := by unfold F_cell; rw [if_pos c_9_1, if_neg c_16_2] <;> (try rw [nI_clamp (show k < 2 ^ 31 by omega)]) <;> (try rfl)
      exact r_lret hC hr hlk hW hQ (⟨by rw [hF], by rw [hF]; exact LA.rf _⟩) dX5_cell_22
set_option maxRecDepth 100000 in
set_option maxHeartbeats 4000000 in
theorem m_X5_copy (l : Launch) (D : va_G) (cs : CS3) (ad : Nat → Nat) (t : St) (P R C : Nat) (x i y j n : Int32) (hB : BW t P R C): CT l yX5_copy cX5_copy 8 (some .int) (rmk 2 100) (wX cs ad) (tyX cs) D [.ref (ad 0), .int x, .int i, .int y, .int j, .int n] t (va_Qi (fun z u => z = (F_copy t x i y j n).1 ∧ LA (F_copy t x i y j n).2 u)) := by
  refine CT.of (own := RX5) (by decide) rfl (Nat.le_of_ble_eq_true rfl) ?_
  intro p9 e9 s m9 args below meth c9 A Q hC hr hlk hW hQ ls hl
  obtain ⟨hx, hb, hml, hown, hts⟩ := id hC
  have hl : lv_has ls 8 [(0, .ref (ad 0)), (1, .int x), (2, .int i), (3, .int y), (4, .int j), (5, .int n)] := hl
  obtain ⟨hP, hP8, hR, hR5, hc4, hC8, hlen⟩ := hB
  refine lv_aload_n hx hb dX5_copy_0 rfl (lv_at hl 0 rfl) ?_
  refine lv_iconst (v := 0) hx hb dX5_copy_1 (by decide) ?_
  refine pX_G_fault hC hW q_fl_RX5_48 dX5_copy_2 (fun H locs hW => ?_)
  have hW : HX (wX cs ad) (tyX cs) D A s.heap s (va_up t.1 1 0, t.2) H locs := hW
  refine lv_iload_n hx hb dX5_copy_5 rfl (lv_at hl 1 rfl) ?_
  refine fin_pi (run_P (rest := []) hC hW.2.2.2.2.2 (m_X5_isSheet l x) k_yX5_isSheet ⟨rfl, rfl⟩ q_ml_RX5_52 rfl hl.1 rfl (Nat.le_of_ble_eq_true rfl) ⟨Nat.le_of_ble_eq_true rfl, Nat.le_of_ble_eq_true rfl⟩ dX5_copy_6 ⟨Nat.zero_le _, Nat.zero_le _⟩) (fun r hr9 => ?_)
  refine r_top hr9 ?_
  refine lv_if_eq (tgt := 19) hx hb dX5_copy_9 (by decide) (fun c_9_1 => ?_) (fun c_9_1 => ?_)
  · have c_9_1 := bI_z.mp c_9_1
    refine lv_iconst (v := (-1)) hx hb dX5_copy_19 (by decide) ?_
    have hF : F_copy t x i y j n = ((-1), (va_up t.1 1 0, t.2)) := by unfold F_copy; rw [if_neg c_9_1]  <;> (try rfl)
    exact r_ireti hC hr hlk hW hQ (⟨by rw [hF], by rw [hF]; exact LA.rf _⟩) dX5_copy_20
  · have c_9_1 := bI_nz c_9_1
    obtain ⟨k, hk3, rfl⟩ := rng_ex (M := 3) (n := 3) (by decide) c_9_1
    refine lv_iload_n hx hb dX5_copy_12 rfl (lv_at hl 3 rfl) ?_
    refine fin_pi (run_P (rest := []) hC hW.2.2.2.2.2 (m_X5_isSheet l y) k_yX5_isSheet ⟨rfl, rfl⟩ q_ml_RX5_52 rfl hl.1 rfl (Nat.le_of_ble_eq_true rfl) ⟨Nat.le_of_ble_eq_true rfl, Nat.le_of_ble_eq_true rfl⟩ dX5_copy_13 ⟨Nat.zero_le _, Nat.zero_le _⟩) (fun r hr9 => ?_)
    refine r_top hr9 ?_
    refine lv_if_ne (tgt := 21) hx hb dX5_copy_16 (by decide) (fun c_16_2 => ?_) (fun c_16_2 => ?_)
    · have c_16_2 := bI_nz c_16_2
      obtain ⟨k2, hk23, rfl⟩ := rng_ex (M := 3) (n := 3) (by decide) c_16_2
      refine lv_aload_n hx hb dX5_copy_21 rfl (lv_at hl 0 rfl) ?_
      refine gX_G_sheets hC hW q_fl_RX5_27 dX5_copy_22 ?_
      refine lv_iload_n hx hb dX5_copy_25 rfl (lv_at hl 1 rfl) ?_
      refine r_aldN (t0 := 1) (j := k) hC hW eX_10 rfl rfl (by omega) (by decide) rfl dX5_copy_26 ?_
      refine lv_astore (lv' := [(6, .ref (ad (14 + 2 * k))), (0, .ref (ad 0)), (1, .int (nI k)), (2, .int i), (3, .int (nI k2)), (4, .int j), (5, .int n)]) hx hb dX5_copy_27 hl (by decide) rfl (fun ls hl => ?_)
      refine lv_aload_n hx hb dX5_copy_29 rfl (lv_at hl 1 rfl) ?_
      refine gX_G_sheets hC hW q_fl_RX5_27 dX5_copy_30 ?_
      refine lv_iload_n hx hb dX5_copy_33 rfl (lv_at hl 4 rfl) ?_
      refine r_aldN (t0 := 1) (j := k2) hC hW eX_10 rfl rfl (by omega) (by decide) rfl dX5_copy_34 ?_
      refine lv_astore (lv' := [(7, .ref (ad (14 + 2 * k2))), (6, .ref (ad (14 + 2 * k))), (0, .ref (ad 0)), (1, .int (nI k)), (2, .int i), (3, .int (nI k2)), (4, .int j), (5, .int n)]) hx hb dX5_copy_35 hl (by decide) rfl (fun ls hl => ?_)
      refine lv_aload hx hb dX5_copy_37 (lv_at hl 1 rfl) ?_
      refine fin_i (run_V (rest := []) hC hW (m_X2_isNothing l D cs ad (va_up t.1 1 0, t.2) k (by omega)) k_yX2_isNothing ⟨rfl, rfl⟩ q_ml_RX5_198 (eX_R k (by omega)) rfl rfl hl.1 rfl (Nat.le_of_ble_eq_true rfl) ⟨Nat.le_of_ble_eq_true rfl, Nat.le_of_ble_eq_true rfl⟩ dX5_copy_39 ⟨Nat.zero_le _, Nat.zero_le _⟩) hW (fun r3 u3 H locs hp3 hW => ?_)
      have hW := hx_congr hW hp3.2
      refine r_top hp3.1 ?_
      refine r_top (y := bI (t.1 (5 + 2 * k) = -1)) (bI_c (by simp (disch := omega) only [va_up_ne])) ?_
      refine lv_if_ne (tgt := 53) hx hb dX5_copy_42 (by decide) (fun c_42_4 => ?_) (fun c_42_4 => ?_)
      · have c_42_4 := bI_nz c_42_4
        refine lv_aload_n hx hb dX5_copy_53 rfl (lv_at hl 2 rfl) ?_
        refine lv_iconst (v := 1) hx hb dX5_copy_54 (by decide) ?_
        refine fin_i (run_V (rest := []) hC hW (m_X5_meet l D cs ad (va_up t.1 1 0, t.2) 1) k_yX5_meet ⟨rfl, rfl⟩ q_ml_RX5_63 eX_0 rfl rfl hl.1 rfl (Nat.le_of_ble_eq_true rfl) ⟨Nat.le_of_ble_eq_true rfl, Nat.le_of_ble_eq_true rfl⟩ dX5_copy_55 ⟨Nat.zero_le _, Nat.zero_le _⟩) hW (fun r5 u5 H locs hp5 hW => ?_)
        have hW : HX (wX cs ad) (tyX cs) D A s.heap s (va_up t.1 1 1, t.2) H locs := hx_congr hW (hp5.2.trans (by first | rfl | (simp only [va_upup]; done) | (refine Prod.ext (funext fun k => ?_) (funext fun k => ?_) <;> simp only [va_up] <;> (repeat' split) <;> first | rfl | omega | simp_all)))
        refine r_top hp5.1 ?_
        have hF : F_copy t (nI k) i (nI k2) j n = ((-10) - 1, (va_up t.1 1 1, t.2)) := by unfold F_copy; rw [if_pos c_9_1, if_pos c_16_2, nI_clamp (show k < 2 ^ 31 by omega), nI_clamp (show k2 < 2 ^ 31 by omega), if_pos c_42_4] <;> (try rw [nI_clamp (show k < 2 ^ 31 by omega)]) <;> (try rw [nI_clamp (show k2 < 2 ^ 31 by omega)]) <;> (try rfl)
        exact r_ireti hC hr hlk hW hQ (⟨by rw [hF], by rw [hF]; exact LA.rf _⟩) dX5_copy_58
      · have c_42_4 := bI_z.mp c_42_4
        refine lv_aload hx hb dX5_copy_45 (lv_at hl 0 rfl) ?_
        refine fin_i (run_V (rest := []) hC hW (m_X2_isNothing l D cs ad (va_up t.1 1 0, t.2) k2 (by omega)) k_yX2_isNothing ⟨rfl, rfl⟩ q_ml_RX5_198 (eX_R k2 (by omega)) rfl rfl hl.1 rfl (Nat.le_of_ble_eq_true rfl) ⟨Nat.le_of_ble_eq_true rfl, Nat.le_of_ble_eq_true rfl⟩ dX5_copy_47 ⟨Nat.zero_le _, Nat.zero_le _⟩) hW (fun r6 u6 H locs hp6 hW => ?_)
        have hW := hx_congr hW hp6.2
        refine r_top hp6.1 ?_
        refine r_top (y := bI (t.1 (5 + 2 * k2) = -1)) (bI_c (by simp (disch := omega) only [va_up_ne])) ?_
        refine lv_if_eq (tgt := 59) hx hb dX5_copy_50 (by decide) (fun c_50_7 => ?_) (fun c_50_7 => ?_)
        · have c_50_7 := bI_z.mp c_50_7
          refine lv_aload hx hb dX5_copy_59 (lv_at hl 1 rfl) ?_
          refine gX_R_lane k (by omega) hC hW q_fl_RX5_201 dX5_copy_61 ?_
          refine r_top (y := t.1 (5 + 2 * k)) (by simp (disch := omega) only [va_up_ne]) ?_
          refine lv_aload hx hb dX5_copy_64 (lv_at hl 0 rfl) ?_
          refine gX_R_lane k2 (by omega) hC hW q_fl_RX5_201 dX5_copy_66 ?_
          refine r_top (y := t.1 (5 + 2 * k2)) (by simp (disch := omega) only [va_up_ne]) ?_
          refine lv_icmp_eq (tgt := 78) hx hb dX5_copy_69 (by decide) (fun c_69_8 => ?_) (fun c_69_8 => ?_)
          · refine lv_aload hx hb dX5_copy_78 (lv_at hl 1 rfl) ?_
            refine lv_iload_n hx hb dX5_copy_80 rfl (lv_at hl 4 rfl) ?_
            refine lv_iload hx hb dX5_copy_81 (lv_at hl 7 rfl) ?_
            refine fin_i (run_V (rest := []) hC hW (m_X2_holds l D cs ad (va_up t.1 1 0, t.2) k (by omega) i n) k_yX2_holds ⟨rfl, rfl⟩ q_ml_RX5_210 (eX_R k (by omega)) rfl rfl hl.1 rfl (Nat.le_of_ble_eq_true rfl) ⟨Nat.le_of_ble_eq_true rfl, Nat.le_of_ble_eq_true rfl⟩ dX5_copy_83 ⟨Nat.zero_le _, Nat.zero_le _⟩) hW (fun r9 u9 H locs hp9 hW => ?_)
            have hW := hx_congr hW hp9.2
            refine r_top hp9.1 ?_
            refine r_top (y := bI (0 ≤ i ∧ i ≤ t.1 (6 + 2 * k) ∧ 0 ≤ n ∧ n ≤ t.1 (6 + 2 * k) - i)) (bI_c (by simp (disch := omega) only [va_up_ne])) ?_
            refine lv_if_eq (tgt := 101) hx hb dX5_copy_86 (by decide) (fun c_86_10 => ?_) (fun c_86_10 => ?_)
            · have c_86_10 := bI_z.mp c_86_10
              refine lv_aload_n hx hb dX5_copy_101 rfl (lv_at hl 2 rfl) ?_
              refine lv_iconst (v := 3) hx hb dX5_copy_102 (by decide) ?_
              refine fin_i (run_V (rest := []) hC hW (m_X5_meet l D cs ad (va_up t.1 1 0, t.2) 3) k_yX5_meet ⟨rfl, rfl⟩ q_ml_RX5_63 eX_0 rfl rfl hl.1 rfl (Nat.le_of_ble_eq_true rfl) ⟨Nat.le_of_ble_eq_true rfl, Nat.le_of_ble_eq_true rfl⟩ dX5_copy_103 ⟨Nat.zero_le _, Nat.zero_le _⟩) hW (fun r11 u11 H locs hp11 hW => ?_)
              have hW : HX (wX cs ad) (tyX cs) D A s.heap s (va_up t.1 1 3, t.2) H locs := hx_congr hW (hp11.2.trans (by first | rfl | (simp only [va_upup]; done) | (refine Prod.ext (funext fun k => ?_) (funext fun k => ?_) <;> simp only [va_up] <;> (repeat' split) <;> first | rfl | omega | simp_all)))
              refine r_top hp11.1 ?_
              have hF : F_copy t (nI k) i (nI k2) j n = ((-10) - 3, (va_up t.1 1 3, t.2)) := by unfold F_copy; rw [if_pos c_9_1, if_pos c_16_2, nI_clamp (show k < 2 ^ 31 by omega), nI_clamp (show k2 < 2 ^ 31 by omega), if_neg c_42_4, if_neg c_50_7, if_pos c_69_8, if_neg c_86_10] <;> (try rw [nI_clamp (show k < 2 ^ 31 by omega)]) <;> (try rw [nI_clamp (show k2 < 2 ^ 31 by omega)]) <;> (try rfl)
              exact r_ireti hC hr hlk hW hQ (⟨by rw [hF], by rw [hF]; exact LA.rf _⟩) dX5_copy_106
            · have c_86_10 := bI_nz c_86_10
              obtain ⟨z0, hz0, ez0⟩ := hlen k (by omega)
              obtain ⟨i0, n0, rfl, rfl, hin0⟩ := hold_ex hz0 (by rw [← ez0]; exact c_86_10)
              refine lv_aload hx hb dX5_copy_89 (lv_at hl 0 rfl) ?_
              refine lv_iload hx hb dX5_copy_91 (lv_at hl 6 rfl) ?_
              refine lv_iload hx hb dX5_copy_93 (lv_at hl 7 rfl) ?_
              refine fin_i (run_V (rest := []) hC hW (m_X2_holds l D cs ad (va_up t.1 1 0, t.2) k2 (by omega) j (nI n0)) k_yX2_holds ⟨rfl, rfl⟩ q_ml_RX5_210 (eX_R k2 (by omega)) rfl rfl hl.1 rfl (Nat.le_of_ble_eq_true rfl) ⟨Nat.le_of_ble_eq_true rfl, Nat.le_of_ble_eq_true rfl⟩ dX5_copy_95 ⟨Nat.zero_le _, Nat.zero_le _⟩) hW (fun r12 u12 H locs hp12 hW => ?_)
              have hW := hx_congr hW hp12.2
              refine r_top hp12.1 ?_
              refine r_top (y := bI (0 ≤ j ∧ j ≤ t.1 (6 + 2 * k2) ∧ 0 ≤ nI n0 ∧ nI n0 ≤ t.1 (6 + 2 * k2) - j)) (bI_c (by simp (disch := omega) only [va_up_ne])) ?_
              refine lv_if_ne (tgt := 107) hx hb dX5_copy_98 (by decide) (fun c_98_13 => ?_) (fun c_98_13 => ?_)
              · have c_98_13 := bI_nz c_98_13
                obtain ⟨z1, hz1, ez1⟩ := hlen k2 (by omega)
                obtain ⟨j0, rfl, hjn0⟩ := hold_ex2 (i := j) (n0 := n0) (z := z1) hz1 (by omega) (by rw [← ez1]; exact c_98_13)
                refine lv_aload hx hb dX5_copy_107 (lv_at hl 1 rfl) ?_
                refine gX_R_cells k (by omega) hC hW q_fl_RX5_207 dX5_copy_109 ?_
                refine lv_iload_n hx hb dX5_copy_112 rfl (lv_at hl 4 rfl) ?_
                refine lv_aload hx hb dX5_copy_113 (lv_at hl 0 rfl) ?_
                refine gX_R_cells k2 (by omega) hC hW q_fl_RX5_207 dX5_copy_115 ?_
                refine lv_iload hx hb dX5_copy_118 (lv_at hl 6 rfl) ?_
                refine lv_iload hx hb dX5_copy_120 (lv_at hl 7 rfl) ?_
                refine r_copy (q0 := 15 + 2 * k) (q1 := 15 + 2 * k2) (t0 := 0) (st' := (va_up t.1 1 0, va_up t.2 (15 + 2 * k2) (va_cpy (t.2 (15 + 2 * k)) (t.2 (15 + 2 * k2)) i0 j0 n0))) hC hW hl.1 q_ml_RX5_213 (eX_Rc k (by omega)) (eX_Rc k2 (by omega)) rfl (nI_pos (by omega)) (nI_pos (by omega)) (nI_pos (by omega)) (by rw [nI_clamp (by omega), nI_clamp (by omega)]; omega) (by rw [nI_clamp (by omega), nI_clamp (by omega)]; omega) (by rw [nI_clamp (show i0 < 2 ^ 31 by omega), nI_clamp (show j0 < 2 ^ 31 by omega), nI_clamp (show n0 < 2 ^ 31 by omega)]; exact sX_Rc k2 (by omega) _) ⟨Nat.le_of_ble_eq_true rfl, Nat.le_of_ble_eq_true rfl⟩ dX5_copy_122 (fun H locs hW => ?_)
                refine lv_iload hx hb dX5_copy_125 (lv_at hl 7 rfl) ?_
                have hF : F_copy t (nI k) (nI i0) (nI k2) (nI j0) (nI n0) = (nI n0, (va_up t.1 1 0, va_up t.2 (15 + 2 * k2) (va_cpy (t.2 (15 + 2 * k)) (t.2 (15 + 2 * k2)) i0 j0 n0))) := by unfold F_copy; rw [if_pos c_9_1, if_pos c_16_2, nI_clamp (show k < 2 ^ 31 by omega), nI_clamp (show k2 < 2 ^ 31 by omega), if_neg c_42_4, if_neg c_50_7, if_pos c_69_8, if_pos c_86_10, if_pos c_98_13] <;> (try rw [nI_clamp (show k < 2 ^ 31 by omega)]) <;> (try rw [nI_clamp (show k2 < 2 ^ 31 by omega)]) <;> (try rw [nI_clamp (show i0 < 2 ^ 31 by omega)]) <;> (try rw [nI_clamp (show n0 < 2 ^ 31 by omega)]) <;> (try rw [nI_clamp (show j0 < 2 ^ 31 by omega)]) <;> (try rfl)
                exact r_ireti hC hr hlk hW hQ (⟨by rw [hF], by rw [hF]; exact LA.rf _⟩) dX5_copy_127
              · have c_98_13 := bI_z.mp c_98_13
                refine lv_aload_n hx hb dX5_copy_101 rfl (lv_at hl 2 rfl) ?_
                refine lv_iconst (v := 3) hx hb dX5_copy_102 (by decide) ?_
                refine fin_i (run_V (rest := []) hC hW (m_X5_meet l D cs ad (va_up t.1 1 0, t.2) 3) k_yX5_meet ⟨rfl, rfl⟩ q_ml_RX5_63 eX_0 rfl rfl hl.1 rfl (Nat.le_of_ble_eq_true rfl) ⟨Nat.le_of_ble_eq_true rfl, Nat.le_of_ble_eq_true rfl⟩ dX5_copy_103 ⟨Nat.zero_le _, Nat.zero_le _⟩) hW (fun r14 u14 H locs hp14 hW => ?_)
                have hW : HX (wX cs ad) (tyX cs) D A s.heap s (va_up t.1 1 3, t.2) H locs := hx_congr hW (hp14.2.trans (by first | rfl | (simp only [va_upup]; done) | (refine Prod.ext (funext fun k => ?_) (funext fun k => ?_) <;> simp only [va_up] <;> (repeat' split) <;> first | rfl | omega | simp_all)))
                refine r_top hp14.1 ?_
                have hF : F_copy t (nI k) (nI i0) (nI k2) j (nI n0) = ((-10) - 3, (va_up t.1 1 3, t.2)) := by unfold F_copy; rw [if_pos c_9_1, if_pos c_16_2, nI_clamp (show k < 2 ^ 31 by omega), nI_clamp (show k2 < 2 ^ 31 by omega), if_neg c_42_4, if_neg c_50_7, if_pos c_69_8, if_pos c_86_10, if_neg c_98_13] <;> (try rw [nI_clamp (show k < 2 ^ 31 by omega)]) <;> (try rw [nI_clamp (show k2 < 2 ^ 31 by omega)]) <;> (try rw [nI_clamp (show i0 < 2 ^ 31 by omega)]) <;> (try rw [nI_clamp (show n0 < 2 ^ 31 by omega)]) <;> (try rfl)
                exact r_ireti hC hr hlk hW hQ (⟨by rw [hF], by rw [hF]; exact LA.rf _⟩) dX5_copy_106
          · refine lv_aload_n hx hb dX5_copy_72 rfl (lv_at hl 2 rfl) ?_
            refine lv_iconst (v := 2) hx hb dX5_copy_73 (by decide) ?_
            refine fin_i (run_V (rest := []) hC hW (m_X5_meet l D cs ad (va_up t.1 1 0, t.2) 2) k_yX5_meet ⟨rfl, rfl⟩ q_ml_RX5_63 eX_0 rfl rfl hl.1 rfl (Nat.le_of_ble_eq_true rfl) ⟨Nat.le_of_ble_eq_true rfl, Nat.le_of_ble_eq_true rfl⟩ dX5_copy_74 ⟨Nat.zero_le _, Nat.zero_le _⟩) hW (fun r15 u15 H locs hp15 hW => ?_)
            have hW : HX (wX cs ad) (tyX cs) D A s.heap s (va_up t.1 1 2, t.2) H locs := hx_congr hW (hp15.2.trans (by first | rfl | (simp only [va_upup]; done) | (refine Prod.ext (funext fun k => ?_) (funext fun k => ?_) <;> simp only [va_up] <;> (repeat' split) <;> first | rfl | omega | simp_all)))
            refine r_top hp15.1 ?_
            have hF : F_copy t (nI k) i (nI k2) j n = ((-10) - 2, (va_up t.1 1 2, t.2)) := by unfold F_copy; rw [if_pos c_9_1, if_pos c_16_2, nI_clamp (show k < 2 ^ 31 by omega), nI_clamp (show k2 < 2 ^ 31 by omega), if_neg c_42_4, if_neg c_50_7, if_neg c_69_8] <;> (try rw [nI_clamp (show k < 2 ^ 31 by omega)]) <;> (try rw [nI_clamp (show k2 < 2 ^ 31 by omega)]) <;> (try rfl)
            exact r_ireti hC hr hlk hW hQ (⟨by rw [hF], by rw [hF]; exact LA.rf _⟩) dX5_copy_77
        · have c_50_7 := bI_nz c_50_7
          refine lv_aload_n hx hb dX5_copy_53 rfl (lv_at hl 2 rfl) ?_
          refine lv_iconst (v := 1) hx hb dX5_copy_54 (by decide) ?_
          refine fin_i (run_V (rest := []) hC hW (m_X5_meet l D cs ad (va_up t.1 1 0, t.2) 1) k_yX5_meet ⟨rfl, rfl⟩ q_ml_RX5_63 eX_0 rfl rfl hl.1 rfl (Nat.le_of_ble_eq_true rfl) ⟨Nat.le_of_ble_eq_true rfl, Nat.le_of_ble_eq_true rfl⟩ dX5_copy_55 ⟨Nat.zero_le _, Nat.zero_le _⟩) hW (fun r16 u16 H locs hp16 hW => ?_)
          have hW : HX (wX cs ad) (tyX cs) D A s.heap s (va_up t.1 1 1, t.2) H locs := hx_congr hW (hp16.2.trans (by first | rfl | (simp only [va_upup]; done) | (refine Prod.ext (funext fun k => ?_) (funext fun k => ?_) <;> simp only [va_up] <;> (repeat' split) <;> first | rfl | omega | simp_all)))
          refine r_top hp16.1 ?_
          have hF : F_copy t (nI k) i (nI k2) j n = ((-10) - 1, (va_up t.1 1 1, t.2)) := by unfold F_copy; rw [if_pos c_9_1, if_pos c_16_2, nI_clamp (show k < 2 ^ 31 by omega), nI_clamp (show k2 < 2 ^ 31 by omega), if_neg c_42_4, if_pos c_50_7] <;> (try rw [nI_clamp (show k < 2 ^ 31 by omega)]) <;> (try rw [nI_clamp (show k2 < 2 ^ 31 by omega)]) <;> (try rfl)
          exact r_ireti hC hr hlk hW hQ (⟨by rw [hF], by rw [hF]; exact LA.rf _⟩) dX5_copy_58
    · have c_16_2 := bI_z.mp c_16_2
      refine lv_iconst (v := (-1)) hx hb dX5_copy_19 (by decide) ?_
      have hF : F_copy t (nI k) i y j n = ((-1), (va_up t.1 1 0, t.2)) := by unfold F_copy; rw [if_pos c_9_1, if_neg c_16_2] <;> (try rw [nI_clamp (show k < 2 ^ 31 by omega)]) <;> (try rfl)
      exact r_ireti hC hr hlk hW hQ (⟨by rw [hF], by rw [hF]; exact LA.rf _⟩) dX5_copy_20
set_option maxRecDepth 100000 in
set_option maxHeartbeats 4000000 in
theorem m_X5_tellAsRider (l : Launch) (D : va_G) (cs : CS3) (ad : Nat → Nat) (t : St) (q : Nat) (hq : q < 5): CT l yX5_tellAsRider cX5_tellAsRider 2 (some .int) (rmk 1 21) (wX cs ad) (tyX cs) D [.ref (ad 0), .int (nI q)] t (va_Qi (fun r u => r = t.2 6 q ∧ u = lv1 t 1)) := by
  refine CT.of (own := RX5) (by decide) rfl (Nat.le_of_ble_eq_true rfl) ?_
  intro p9 e9 s m9 args below meth c9 A Q hC hr hlk hW hQ ls hl
  obtain ⟨hx, hb, hml, hown, hts⟩ := id hC
  have hl : lv_has ls 2 [(0, .ref (ad 0)), (1, .int (nI q))] := hl
  refine lv_aload_n hx hb dX5_tellAsRider_0 rfl (lv_at hl 0 rfl) ?_
  refine lv_iconst (v := 1) hx hb dX5_tellAsRider_1 (by decide) ?_
  refine fin_v (run_V (rest := []) hC hW (m_X5_leave l D cs ad t 1) k_yX5_leave ⟨rfl, rfl⟩ q_ml_RX5_228 eX_0 rfl rfl hl.1 rfl (Nat.le_of_ble_eq_true rfl) ⟨Nat.le_of_ble_eq_true rfl, Nat.le_of_ble_eq_true rfl⟩ dX5_tellAsRider_2 ⟨Nat.zero_le _, Nat.zero_le _⟩) hW (fun u1 H locs hp1 hW => ?_)
  have hW : HX (wX cs ad) (tyX cs) D A s.heap s (lv1 t 1) H locs := hx_congr hW hp1
  refine lv_aload_n hx hb dX5_tellAsRider_5 rfl (lv_at hl 0 rfl) ?_
  refine gX_G_slope hC hW q_fl_RX5_12 dX5_tellAsRider_6 ?_
  refine gX_S_nails hC hW q_fl_RX5_105 dX5_tellAsRider_9 ?_
  refine lv_iload_n hx hb dX5_tellAsRider_12 rfl (lv_at hl 1 rfl) ?_
  refine r_ildN (t0 := 0) (j := q) hC hW eX_6 rfl (rfl) (by omega) (by decide) dX5_tellAsRider_13 ?_
  exact r_ireti hC hr hlk hW hQ (⟨rfl, rfl⟩) dX5_tellAsRider_14
set_option maxRecDepth 100000 in
set_option maxHeartbeats 4000000 in
theorem m_X5_tellAsNight (l : Launch) (D : va_G) (cs : CS3) (ad : Nat → Nat) (t : St) (q : Nat) (hq : q < 5): CT l yX5_tellAsNight cX5_tellAsNight 2 (some .int) (rmk 2 42) (wX cs ad) (tyX cs) D [.ref (ad 0), .int (nI q)] t (va_Qi (fun r u => r = t.2 6 q + 100 ∧ u = lv1 (lv1 t 2) 1)) := by
  refine CT.of (own := RX5) (by decide) rfl (Nat.le_of_ble_eq_true rfl) ?_
  intro p9 e9 s m9 args below meth c9 A Q hC hr hlk hW hQ ls hl
  obtain ⟨hx, hb, hml, hown, hts⟩ := id hC
  have hl : lv_has ls 2 [(0, .ref (ad 0)), (1, .int (nI q))] := hl
  refine lv_aload_n hx hb dX5_tellAsNight_0 rfl (lv_at hl 0 rfl) ?_
  refine lv_iconst (v := 2) hx hb dX5_tellAsNight_1 (by decide) ?_
  refine fin_v (run_V (rest := []) hC hW (m_X5_leave l D cs ad t 2) k_yX5_leave ⟨rfl, rfl⟩ q_ml_RX5_228 eX_0 rfl rfl hl.1 rfl (Nat.le_of_ble_eq_true rfl) ⟨Nat.le_of_ble_eq_true rfl, Nat.le_of_ble_eq_true rfl⟩ dX5_tellAsNight_2 ⟨Nat.zero_le _, Nat.zero_le _⟩) hW (fun u1 H locs hp1 hW => ?_)
  have hW : HX (wX cs ad) (tyX cs) D A s.heap s (lv1 t 2) H locs := hx_congr hW hp1
  refine lv_aload_n hx hb dX5_tellAsNight_5 rfl (lv_at hl 0 rfl) ?_
  refine lv_iload_n hx hb dX5_tellAsNight_6 rfl (lv_at hl 1 rfl) ?_
  refine fin_i (run_V (rest := []) hC hW (m_X5_tellAsRider l D cs ad (lv1 t 2) q (by omega)) k_yX5_tellAsRider ⟨rfl, rfl⟩ q_ml_RX5_225 eX_0 rfl rfl hl.1 rfl (Nat.le_of_ble_eq_true rfl) ⟨Nat.le_of_ble_eq_true rfl, Nat.le_of_ble_eq_true rfl⟩ dX5_tellAsNight_7 ⟨Nat.zero_le _, Nat.zero_le _⟩) hW (fun r2 u2 H locs hp2 hW => ?_)
  have hW : HX (wX cs ad) (tyX cs) D A s.heap s (lv1 (lv1 t 2) 1) H locs := hx_congr hW hp2.2
  refine r_top hp2.1 ?_
  refine lv_bipush (v := 100) hx hb dX5_tellAsNight_10 (by decide) ?_
  refine lv_iadd hx hb dX5_tellAsNight_12 ?_
  exact r_ireti hC hr hlk hW hQ (⟨rfl, rfl⟩) dX5_tellAsNight_13
set_option maxRecDepth 100000 in
set_option maxHeartbeats 4000000 in
theorem m_X5_tellAsLad (l : Launch) (D : va_G) (cs : CS3) (ad : Nat → Nat) (t : St) (q : Nat) (hq : q < 5): CT l yX5_tellAsLad cX5_tellAsLad 3 (some .int) (rmk 3 63) (wX cs ad) (tyX cs) D [.ref (ad 0), .int (nI q)] t (va_Qi (fun r u => r = t.2 6 q + 100 + t.2 6 q ∧ u = lv1 (lv1 (lv1 (lv1 t 3) 2) 1) 1)) := by
  refine CT.of (own := RX5) (by decide) rfl (Nat.le_of_ble_eq_true rfl) ?_
  intro p9 e9 s m9 args below meth c9 A Q hC hr hlk hW hQ ls hl
  obtain ⟨hx, hb, hml, hown, hts⟩ := id hC
  have hl : lv_has ls 3 [(0, .ref (ad 0)), (1, .int (nI q))] := hl
  refine lv_aload_n hx hb dX5_tellAsLad_0 rfl (lv_at hl 0 rfl) ?_
  refine lv_iconst (v := 3) hx hb dX5_tellAsLad_1 (by decide) ?_
  refine fin_v (run_V (rest := []) hC hW (m_X5_leave l D cs ad t 3) k_yX5_leave ⟨rfl, rfl⟩ q_ml_RX5_228 eX_0 rfl rfl hl.1 rfl (Nat.le_of_ble_eq_true rfl) ⟨Nat.le_of_ble_eq_true rfl, Nat.le_of_ble_eq_true rfl⟩ dX5_tellAsLad_2 ⟨Nat.zero_le _, Nat.zero_le _⟩) hW (fun u1 H locs hp1 hW => ?_)
  have hW : HX (wX cs ad) (tyX cs) D A s.heap s (lv1 t 3) H locs := hx_congr hW hp1
  refine lv_aload_n hx hb dX5_tellAsLad_5 rfl (lv_at hl 0 rfl) ?_
  refine lv_iload_n hx hb dX5_tellAsLad_6 rfl (lv_at hl 1 rfl) ?_
  refine fin_i (run_V (rest := []) hC hW (m_X5_tellAsNight l D cs ad (lv1 t 3) q (by omega)) k_yX5_tellAsNight ⟨rfl, rfl⟩ q_ml_RX5_222 eX_0 rfl rfl hl.1 rfl (Nat.le_of_ble_eq_true rfl) ⟨Nat.le_of_ble_eq_true rfl, Nat.le_of_ble_eq_true rfl⟩ dX5_tellAsLad_7 ⟨Nat.zero_le _, Nat.zero_le _⟩) hW (fun r2 u2 H locs hp2 hW => ?_)
  have hW : HX (wX cs ad) (tyX cs) D A s.heap s (lv1 (lv1 (lv1 t 3) 2) 1) H locs := hx_congr hW hp2.2
  refine r_top hp2.1 ?_
  refine lv_istore_n (lv' := [(2, .int ((lv1 t 3).2 6 q + 100)), (0, .ref (ad 0)), (1, .int (nI q))]) hx hb dX5_tellAsLad_10 rfl hl (by decide) rfl (fun ls hl => ?_)
  refine lv_iload_n hx hb dX5_tellAsLad_11 rfl (lv_at hl 0 rfl) ?_
  refine lv_aload_n hx hb dX5_tellAsLad_12 rfl (lv_at hl 1 rfl) ?_
  refine lv_iload_n hx hb dX5_tellAsLad_13 rfl (lv_at hl 2 rfl) ?_
  refine fin_i (run_V (rest := [.int ((lv1 t 3).2 6 q + 100)]) hC hW (m_X5_tellAsRider l D cs ad (lv1 (lv1 (lv1 t 3) 2) 1) q (by omega)) k_yX5_tellAsRider ⟨rfl, rfl⟩ q_ml_RX5_225 eX_0 rfl rfl hl.1 rfl (Nat.le_of_ble_eq_true rfl) ⟨Nat.le_of_ble_eq_true rfl, Nat.le_of_ble_eq_true rfl⟩ dX5_tellAsLad_14 ⟨Nat.zero_le _, Nat.zero_le _⟩) hW (fun r3 u3 H locs hp3 hW => ?_)
  have hW : HX (wX cs ad) (tyX cs) D A s.heap s (lv1 (lv1 (lv1 (lv1 t 3) 2) 1) 1) H locs := hx_congr hW hp3.2
  refine r_top hp3.1 ?_
  refine lv_iadd hx hb dX5_tellAsLad_17 ?_
  exact r_ireti hC hr hlk hW hQ (⟨rfl, rfl⟩) dX5_tellAsLad_18
set_option maxRecDepth 100000 in
set_option maxHeartbeats 4000000 in
theorem m_X5_tell (l : Launch) (D : va_G) (cs : CS3) (ad : Nat → Nat) (t : St) (P R C : Nat) (r : Int32) (hB : BW t P R C): CT l yX5_tell cX5_tell 2 (some .int) (rmk 4 85) (wX cs ad) (tyX cs) D [.ref (ad 0), .int r] t (va_Qi (fun z u => z = (F_tell t R r).1 ∧ LA (F_tell t R r).2 u)) := by
  refine CT.of (own := RX5) (by decide) rfl (Nat.le_of_ble_eq_true rfl) ?_
  intro p9 e9 s m9 args below meth c9 A Q hC hr hlk hW hQ ls hl
  obtain ⟨hx, hb, hml, hown, hts⟩ := id hC
  have hl : lv_has ls 2 [(0, .ref (ad 0)), (1, .int r)] := hl
  obtain ⟨hP, hP8, hR, hR5, hc4, hC8, hlen⟩ := hB
  refine lv_aload_n hx hb dX5_tell_0 rfl (lv_at hl 0 rfl) ?_
  refine lv_iload_n hx hb dX5_tell_1 rfl (lv_at hl 1 rfl) ?_
  refine fin_i (run_V (rest := []) hC hW (m_X5_isRider l D cs ad t R r hR hR5) k_yX5_isRider ⟨rfl, rfl⟩ q_ml_RX5_96 eX_0 rfl rfl hl.1 rfl (Nat.le_of_ble_eq_true rfl) ⟨Nat.le_of_ble_eq_true rfl, Nat.le_of_ble_eq_true rfl⟩ dX5_tell_2 ⟨Nat.zero_le _, Nat.zero_le _⟩) hW (fun r1 u1 H locs hp1 hW => ?_)
  have hW := hx_congr hW hp1.2
  refine r_top hp1.1 ?_
  refine lv_if_ne (tgt := 10) hx hb dX5_tell_5 (by decide) (fun c_5_2 => ?_) (fun c_5_2 => ?_)
  · have c_5_2 := bI_nz c_5_2
    obtain ⟨q_r, hq_r, rfl⟩ := inN_ex c_5_2 (by omega)
    refine lv_aload_n hx hb dX5_tell_10 rfl (lv_at hl 0 rfl) ?_
    refine gX_G_slope hC hW q_fl_RX5_12 dX5_tell_11 ?_
    refine gX_S_kind hC hW q_fl_RX5_99 dX5_tell_14 ?_
    refine lv_iload_n hx hb dX5_tell_17 rfl (lv_at hl 1 rfl) ?_
    refine r_ildN (t0 := 0) (j := q_r) hC hW eX_4 rfl (rfl) (by omega) (by decide) dX5_tell_18 ?_
    refine lv_iconst (v := 2) hx hb dX5_tell_19 (by decide) ?_
    refine lv_icmp_ne (tgt := 29) hx hb dX5_tell_20 (by decide) (fun c_20_3 => ?_) (fun c_20_3 => ?_)
    · refine lv_aload_n hx hb dX5_tell_29 rfl (lv_at hl 0 rfl) ?_
      refine gX_G_slope hC hW q_fl_RX5_12 dX5_tell_30 ?_
      refine gX_S_kind hC hW q_fl_RX5_99 dX5_tell_33 ?_
      refine lv_iload_n hx hb dX5_tell_36 rfl (lv_at hl 1 rfl) ?_
      refine r_ildN (t0 := 0) (j := q_r) hC hW eX_4 rfl (rfl) (by omega) (by decide) dX5_tell_37 ?_
      refine lv_iconst (v := 1) hx hb dX5_tell_38 (by decide) ?_
      refine lv_icmp_ne (tgt := 50) hx hb dX5_tell_39 (by decide) (fun c_39_4 => ?_) (fun c_39_4 => ?_)
      · refine lv_aload_n hx hb dX5_tell_50 rfl (lv_at hl 0 rfl) ?_
        refine lv_iload_n hx hb dX5_tell_51 rfl (lv_at hl 1 rfl) ?_
        refine fin_i (run_V (rest := []) hC hW (m_X5_tellAsRider l D cs ad t q_r (by omega)) k_yX5_tellAsRider ⟨rfl, rfl⟩ q_ml_RX5_225 eX_0 rfl rfl hl.1 rfl (Nat.le_of_ble_eq_true rfl) ⟨Nat.le_of_ble_eq_true rfl, Nat.le_of_ble_eq_true rfl⟩ dX5_tell_52 ⟨Nat.zero_le _, Nat.zero_le _⟩) hW (fun r5 u5 H locs hp5 hW => ?_)
        have hW : HX (wX cs ad) (tyX cs) D A s.heap s (lv1 t 1) H locs := hx_congr hW hp5.2
        refine r_top hp5.1 ?_
        have hF : F_tell t R (nI q_r) = (t.2 6 q_r, (lv1 t 1)) := by unfold F_tell; rw [if_pos c_5_2, nI_clamp (show q_r < 2 ^ 31 by omega), if_neg c_20_3, if_neg c_39_4] <;> (try rw [nI_clamp (show q_r < 2 ^ 31 by omega)]) <;> (try rfl)
        exact r_ireti hC hr hlk hW hQ (⟨by rw [hF], by rw [hF]; exact LA.rf _⟩) dX5_tell_55
      · refine lv_aload_n hx hb dX5_tell_42 rfl (lv_at hl 0 rfl) ?_
        refine lv_iload_n hx hb dX5_tell_43 rfl (lv_at hl 1 rfl) ?_
        refine fin_i (run_V (rest := []) hC hW (m_X5_tellAsNight l D cs ad t q_r (by omega)) k_yX5_tellAsNight ⟨rfl, rfl⟩ q_ml_RX5_222 eX_0 rfl rfl hl.1 rfl (Nat.le_of_ble_eq_true rfl) ⟨Nat.le_of_ble_eq_true rfl, Nat.le_of_ble_eq_true rfl⟩ dX5_tell_44 ⟨Nat.zero_le _, Nat.zero_le _⟩) hW (fun r6 u6 H locs hp6 hW => ?_)
        have hW : HX (wX cs ad) (tyX cs) D A s.heap s (lv1 (lv1 t 2) 1) H locs := hx_congr hW hp6.2
        refine r_top hp6.1 ?_
        refine lv_goto (tgt := 55) hx hb dX5_tell_47 (by decide) ?_
        have hF : F_tell t R (nI q_r) = (t.2 6 q_r + 100, (lv1 (lv1 t 2) 1)) := by unfold F_tell; rw [if_pos c_5_2, nI_clamp (show q_r < 2 ^ 31 by omega), if_neg c_20_3, if_pos c_39_4] <;> (try rw [nI_clamp (show q_r < 2 ^ 31 by omega)]) <;> (try rfl)
        exact r_ireti hC hr hlk hW hQ (⟨by rw [hF], by rw [hF]; exact LA.rf _⟩) dX5_tell_55
    · refine lv_aload_n hx hb dX5_tell_23 rfl (lv_at hl 0 rfl) ?_
      refine lv_iload_n hx hb dX5_tell_24 rfl (lv_at hl 1 rfl) ?_
      refine fin_i (run_V (rest := []) hC hW (m_X5_tellAsLad l D cs ad t q_r (by omega)) k_yX5_tellAsLad ⟨rfl, rfl⟩ q_ml_RX5_219 eX_0 rfl rfl hl.1 rfl (Nat.le_of_ble_eq_true rfl) ⟨Nat.le_of_ble_eq_true rfl, Nat.le_of_ble_eq_true rfl⟩ dX5_tell_25 ⟨Nat.zero_le _, Nat.zero_le _⟩) hW (fun r7 u7 H locs hp7 hW => ?_)
      have hW : HX (wX cs ad) (tyX cs) D A s.heap s (lv1 (lv1 (lv1 (lv1 t 3) 2) 1) 1) H locs := hx_congr hW hp7.2
      refine r_top hp7.1 ?_
      have hF : F_tell t R (nI q_r) = (t.2 6 q_r + 100 + t.2 6 q_r, (lv1 (lv1 (lv1 (lv1 t 3) 2) 1) 1)) := by unfold F_tell; rw [if_pos c_5_2, nI_clamp (show q_r < 2 ^ 31 by omega), if_pos c_20_3] <;> (try rw [nI_clamp (show q_r < 2 ^ 31 by omega)]) <;> (try rfl)
      exact r_ireti hC hr hlk hW hQ (⟨by rw [hF], by rw [hF]; exact LA.rf _⟩) dX5_tell_28
  · have c_5_2 := bI_z.mp c_5_2
    refine lv_iconst (v := (-1)) hx hb dX5_tell_8 (by decide) ?_
    have hF : F_tell t R r = ((-1), t) := by unfold F_tell; rw [if_neg c_5_2]  <;> (try rfl)
    exact r_ireti hC hr hlk hW hQ (⟨by rw [hF], by rw [hF]; exact LA.rf _⟩) dX5_tell_9
set_option maxRecDepth 100000 in
set_option maxHeartbeats 4000000 in
theorem m_X5_cheer (l : Launch) (D : va_G) (cs : CS3) (ad : Nat → Nat) (t : St) (P R C : Nat) (r : Int32) (hB : BW t P R C): CT l yX5_cheer cX5_cheer 2 (some .int) (rmk 2 43) (wX cs ad) (tyX cs) D [.ref (ad 0), .int r] t (va_Qi (fun z u => z = (F_cheer t R r).1 ∧ LA (F_cheer t R r).2 u)) := by
  refine CT.of (own := RX5) (by decide) rfl (Nat.le_of_ble_eq_true rfl) ?_
  intro p9 e9 s m9 args below meth c9 A Q hC hr hlk hW hQ ls hl
  obtain ⟨hx, hb, hml, hown, hts⟩ := id hC
  have hl : lv_has ls 2 [(0, .ref (ad 0)), (1, .int r)] := hl
  obtain ⟨hP, hP8, hR, hR5, hc4, hC8, hlen⟩ := hB
  refine lv_aload_n hx hb dX5_cheer_0 rfl (lv_at hl 0 rfl) ?_
  refine lv_iload_n hx hb dX5_cheer_1 rfl (lv_at hl 1 rfl) ?_
  refine fin_i (run_V (rest := []) hC hW (m_X5_isRider l D cs ad t R r hR hR5) k_yX5_isRider ⟨rfl, rfl⟩ q_ml_RX5_96 eX_0 rfl rfl hl.1 rfl (Nat.le_of_ble_eq_true rfl) ⟨Nat.le_of_ble_eq_true rfl, Nat.le_of_ble_eq_true rfl⟩ dX5_cheer_2 ⟨Nat.zero_le _, Nat.zero_le _⟩) hW (fun r1 u1 H locs hp1 hW => ?_)
  have hW := hx_congr hW hp1.2
  refine r_top hp1.1 ?_
  refine lv_if_ne (tgt := 10) hx hb dX5_cheer_5 (by decide) (fun c_5_2 => ?_) (fun c_5_2 => ?_)
  · have c_5_2 := bI_nz c_5_2
    obtain ⟨q_r, hq_r, rfl⟩ := inN_ex c_5_2 (by omega)
    refine lv_aload_n hx hb dX5_cheer_10 rfl (lv_at hl 0 rfl) ?_
    refine gX_G_slope hC hW q_fl_RX5_12 dX5_cheer_11 ?_
    refine gX_S_kind hC hW q_fl_RX5_99 dX5_cheer_14 ?_
    refine lv_iload_n hx hb dX5_cheer_17 rfl (lv_at hl 1 rfl) ?_
    refine r_ildN (t0 := 0) (j := q_r) hC hW eX_4 rfl (rfl) (by omega) (by decide) dX5_cheer_18 ?_
    refine lv_iconst (v := 2) hx hb dX5_cheer_19 (by decide) ?_
    refine lv_icmp_ne (tgt := 31) hx hb dX5_cheer_20 (by decide) (fun c_20_3 => ?_) (fun c_20_3 => ?_)
    · refine lv_aload_n hx hb dX5_cheer_31 rfl (lv_at hl 0 rfl) ?_
      refine lv_iconst (v := 4) hx hb dX5_cheer_32 (by decide) ?_
      refine fin_v (run_V (rest := []) hC hW (m_X5_leave l D cs ad t 4) k_yX5_leave ⟨rfl, rfl⟩ q_ml_RX5_228 eX_0 rfl rfl hl.1 rfl (Nat.le_of_ble_eq_true rfl) ⟨Nat.le_of_ble_eq_true rfl, Nat.le_of_ble_eq_true rfl⟩ dX5_cheer_33 ⟨Nat.zero_le _, Nat.zero_le _⟩) hW (fun u4 H locs hp4 hW => ?_)
      have hW : HX (wX cs ad) (tyX cs) D A s.heap s (lv1 t 4) H locs := hx_congr hW hp4
      refine lv_iload_n hx hb dX5_cheer_36 rfl (lv_at hl 1 rfl) ?_
      have hF : F_cheer t R (nI q_r) = (nI q_r, (lv1 t 4)) := by unfold F_cheer; rw [if_pos c_5_2, nI_clamp (show q_r < 2 ^ 31 by omega), if_neg c_20_3] <;> (try rw [nI_clamp (show q_r < 2 ^ 31 by omega)]) <;> (try rfl)
      exact r_ireti hC hr hlk hW hQ (⟨by rw [hF], by rw [hF]; exact LA.rf _⟩) dX5_cheer_37
    · refine lv_aload_n hx hb dX5_cheer_23 rfl (lv_at hl 0 rfl) ?_
      refine lv_iconst (v := 5) hx hb dX5_cheer_24 (by decide) ?_
      refine fin_v (run_V (rest := []) hC hW (m_X5_leave l D cs ad t 5) k_yX5_leave ⟨rfl, rfl⟩ q_ml_RX5_228 eX_0 rfl rfl hl.1 rfl (Nat.le_of_ble_eq_true rfl) ⟨Nat.le_of_ble_eq_true rfl, Nat.le_of_ble_eq_true rfl⟩ dX5_cheer_25 ⟨Nat.zero_le _, Nat.zero_le _⟩) hW (fun u5 H locs hp5 hW => ?_)
      have hW : HX (wX cs ad) (tyX cs) D A s.heap s (lv1 t 5) H locs := hx_congr hW hp5
      refine lv_bipush (v := 80) hx hb dX5_cheer_28 (by decide) ?_
      have hF : F_cheer t R (nI q_r) = (80, (lv1 t 5)) := by unfold F_cheer; rw [if_pos c_5_2, nI_clamp (show q_r < 2 ^ 31 by omega), if_pos c_20_3] <;> (try rw [nI_clamp (show q_r < 2 ^ 31 by omega)]) <;> (try rfl)
      exact r_ireti hC hr hlk hW hQ (⟨by rw [hF], by rw [hF]; exact LA.rf _⟩) dX5_cheer_30
  · have c_5_2 := bI_z.mp c_5_2
    refine lv_iconst (v := (-1)) hx hb dX5_cheer_8 (by decide) ?_
    have hF : F_cheer t R r = ((-1), t) := by unfold F_cheer; rw [if_neg c_5_2]  <;> (try rfl)
    exact r_ireti hC hr hlk hW hQ (⟨by rw [hF], by rw [hF]; exact LA.rf _⟩) dX5_cheer_9
set_option maxRecDepth 100000 in
set_option maxHeartbeats 4000000 in
theorem m_X5_as (l : Launch) (D : va_G) (cs : CS3) (ad : Nat → Nat) (t : St) (P R C : Nat) (r k : Int32) (hB : BW t P R C): CT l yX5_as cX5_as 3 (some .int) (rmk 2 43) (wX cs ad) (tyX cs) D [.ref (ad 0), .int r, .int k] t (va_Qi (fun z u => z = (F_as t R r k).1 ∧ LA (F_as t R r k).2 u)) := by
  refine CT.of (own := RX5) (by decide) rfl (Nat.le_of_ble_eq_true rfl) ?_
  intro p9 e9 s m9 args below meth c9 A Q hC hr hlk hW hQ ls hl
  obtain ⟨hx, hb, hml, hown, hts⟩ := id hC
  have hl : lv_has ls 3 [(0, .ref (ad 0)), (1, .int r), (2, .int k)] := hl
  obtain ⟨hP, hP8, hR, hR5, hc4, hC8, hlen⟩ := hB
  refine lv_aload_n hx hb dX5_as_0 rfl (lv_at hl 0 rfl) ?_
  refine lv_iconst (v := 0) hx hb dX5_as_1 (by decide) ?_
  refine pX_G_fault hC hW q_fl_RX5_48 dX5_as_2 (fun H locs hW => ?_)
  have hW : HX (wX cs ad) (tyX cs) D A s.heap s (va_up t.1 1 0, t.2) H locs := hW
  refine lv_aload_n hx hb dX5_as_5 rfl (lv_at hl 0 rfl) ?_
  refine lv_iload_n hx hb dX5_as_6 rfl (lv_at hl 1 rfl) ?_
  refine fin_i (run_V (rest := []) hC hW (m_X5_isRider l D cs ad (va_up t.1 1 0, t.2) R r hR hR5) k_yX5_isRider ⟨rfl, rfl⟩ q_ml_RX5_96 eX_0 rfl rfl hl.1 rfl (Nat.le_of_ble_eq_true rfl) ⟨Nat.le_of_ble_eq_true rfl, Nat.le_of_ble_eq_true rfl⟩ dX5_as_7 ⟨Nat.zero_le _, Nat.zero_le _⟩) hW (fun r1 u1 H locs hp1 hW => ?_)
  have hW := hx_congr hW hp1.2
  refine r_top hp1.1 ?_
  refine lv_if_ne (tgt := 15) hx hb dX5_as_10 (by decide) (fun c_10_2 => ?_) (fun c_10_2 => ?_)
  · have c_10_2 := bI_nz c_10_2
    obtain ⟨q_r, hq_r, rfl⟩ := inN_ex c_10_2 (by omega)
    refine lv_iload_n hx hb dX5_as_15 rfl (lv_at hl 2 rfl) ?_
    refine lv_iconst (v := 0) hx hb dX5_as_16 (by decide) ?_
    refine lv_iconst (v := 2) hx hb dX5_as_17 (by decide) ?_
    refine fin_pi (run_P (rest := []) hC hW.2.2.2.2.2 (m_X5_isIn l k 0 2) k_yX5_isIn ⟨rfl, rfl⟩ q_ml_RX5_86 rfl hl.1 rfl (Nat.le_of_ble_eq_true rfl) ⟨Nat.le_of_ble_eq_true rfl, Nat.le_of_ble_eq_true rfl⟩ dX5_as_18 ⟨Nat.zero_le _, Nat.zero_le _⟩) (fun r hr9 => ?_)
    refine r_top hr9 ?_
    refine lv_if_ne (tgt := 27) hx hb dX5_as_21 (by decide) (fun c_21_3 => ?_) (fun c_21_3 => ?_)
    · have c_21_3 := bI_nz c_21_3
      refine lv_aload_n hx hb dX5_as_27 rfl (lv_at hl 0 rfl) ?_
      refine gX_G_slope hC hW q_fl_RX5_12 dX5_as_28 ?_
      refine gX_S_kind hC hW q_fl_RX5_99 dX5_as_31 ?_
      refine lv_iload_n hx hb dX5_as_34 rfl (lv_at hl 1 rfl) ?_
      refine r_ildN (t0 := 0) (j := q_r) hC hW eX_4 rfl (rfl) (by omega) (by decide) dX5_as_35 ?_
      refine r_top (y := t.2 4 q_r) (by first | rfl | simp only [va_up_self]) ?_
      refine lv_iload_n hx hb dX5_as_36 rfl (lv_at hl 2 rfl) ?_
      refine lv_icmp_lt (tgt := 44) hx hb dX5_as_37 (by decide) (fun c_37_4 => ?_) (fun c_37_4 => ?_)
      · refine lv_aload_n hx hb dX5_as_44 rfl (lv_at hl 0 rfl) ?_
        refine lv_iconst (v := 2) hx hb dX5_as_45 (by decide) ?_
        refine fin_i (run_V (rest := []) hC hW (m_X5_meet l D cs ad (va_up t.1 1 0, t.2) 2) k_yX5_meet ⟨rfl, rfl⟩ q_ml_RX5_63 eX_0 rfl rfl hl.1 rfl (Nat.le_of_ble_eq_true rfl) ⟨Nat.le_of_ble_eq_true rfl, Nat.le_of_ble_eq_true rfl⟩ dX5_as_46 ⟨Nat.zero_le _, Nat.zero_le _⟩) hW (fun r5 u5 H locs hp5 hW => ?_)
        have hW : HX (wX cs ad) (tyX cs) D A s.heap s (va_up t.1 1 2, t.2) H locs := hx_congr hW (hp5.2.trans (by first | rfl | (simp only [va_upup]; done) | (refine Prod.ext (funext fun k => ?_) (funext fun k => ?_) <;> simp only [va_up] <;> (repeat' split) <;> first | rfl | omega | simp_all)))
        refine r_top hp5.1 ?_
        have hF : F_as t R (nI q_r) k = ((-10) - 2, (va_up t.1 1 2, t.2)) := by unfold F_as; rw [if_pos c_10_2, nI_clamp (show q_r < 2 ^ 31 by omega), if_pos c_21_3, if_neg (Int32.not_le.mpr c_37_4)] <;> (try rw [nI_clamp (show q_r < 2 ^ 31 by omega)]) <;> (try rfl)
        exact r_ireti hC hr hlk hW hQ (⟨by rw [hF], by rw [hF]; exact LA.rf _⟩) dX5_as_49
      · refine lv_iconst (v := 1) hx hb dX5_as_40 (by decide) ?_
        refine lv_goto (tgt := 49) hx hb dX5_as_41 (by decide) ?_
        have hF : F_as t R (nI q_r) k = (1, (va_up t.1 1 0, t.2)) := by unfold F_as; rw [if_pos c_10_2, nI_clamp (show q_r < 2 ^ 31 by omega), if_pos c_21_3, if_pos (Int32.not_lt.mp c_37_4)] <;> (try rw [nI_clamp (show q_r < 2 ^ 31 by omega)]) <;> (try rfl)
        exact r_ireti hC hr hlk hW hQ (⟨by rw [hF], by rw [hF]; exact LA.rf _⟩) dX5_as_49
    · have c_21_3 := bI_z.mp c_21_3
      refine lv_bipush (v := (-2)) hx hb dX5_as_24 (by decide) ?_
      have hF : F_as t R (nI q_r) k = ((-2), (va_up t.1 1 0, t.2)) := by unfold F_as; rw [if_pos c_10_2, nI_clamp (show q_r < 2 ^ 31 by omega), if_neg c_21_3] <;> (try rw [nI_clamp (show q_r < 2 ^ 31 by omega)]) <;> (try rfl)
      exact r_ireti hC hr hlk hW hQ (⟨by rw [hF], by rw [hF]; exact LA.rf _⟩) dX5_as_26
  · have c_10_2 := bI_z.mp c_10_2
    refine lv_iconst (v := (-1)) hx hb dX5_as_13 (by decide) ?_
    have hF : F_as t R r k = ((-1), (va_up t.1 1 0, t.2)) := by unfold F_as; rw [if_neg c_10_2]  <;> (try rfl)
    exact r_ireti hC hr hlk hW hQ (⟨by rw [hF], by rw [hF]; exact LA.rf _⟩) dX5_as_14
set_option maxRecDepth 100000 in
set_option maxHeartbeats 4000000 in
theorem m_X5_many (l : Launch) (D : va_G) (cs : CS3) (ad : Nat → Nat) (t : St) (P R C : Nat) (w : Int32) (hB : BW t P R C): CT l yX5_many cX5_many 2 (some .int) (rmk 1 22) (wX cs ad) (tyX cs) D [.ref (ad 0), .int w] t (va_Qi (fun z u => z = (F_many t w).1 ∧ LA (F_many t w).2 u)) := by
  refine CT.of (own := RX5) (by decide) rfl (Nat.le_of_ble_eq_true rfl) ?_
  intro p9 e9 s m9 args below meth c9 A Q hC hr hlk hW hQ ls hl
  obtain ⟨hx, hb, hml, hown, hts⟩ := id hC
  have hl : lv_has ls 2 [(0, .ref (ad 0)), (1, .int w)] := hl
  obtain ⟨hP, hP8, hR, hR5, hc4, hC8, hlen⟩ := hB
  refine lv_iload_n hx hb dX5_many_0 rfl (lv_at hl 1 rfl) ?_
  refine lv_iconst (v := 0) hx hb dX5_many_1 (by decide) ?_
  refine lv_iconst (v := 2) hx hb dX5_many_2 (by decide) ?_
  refine fin_pi (run_P (rest := []) hC hW.2.2.2.2.2 (m_X5_isIn l w 0 2) k_yX5_isIn ⟨rfl, rfl⟩ q_ml_RX5_86 rfl hl.1 rfl (Nat.le_of_ble_eq_true rfl) ⟨Nat.le_of_ble_eq_true rfl, Nat.le_of_ble_eq_true rfl⟩ dX5_many_3 ⟨Nat.zero_le _, Nat.zero_le _⟩) (fun r hr9 => ?_)
  refine r_top hr9 ?_
  refine lv_if_ne (tgt := 12) hx hb dX5_many_6 (by decide) (fun c_6_1 => ?_) (fun c_6_1 => ?_)
  · have c_6_1 := bI_nz c_6_1
    refine lv_iload_n hx hb dX5_many_12 rfl (lv_at hl 1 rfl) ?_
    refine lv_if_ne (tgt := 24) hx hb dX5_many_13 (by decide) (fun c_13_2 => ?_) (fun c_13_2 => ?_)
    · refine lv_iload_n hx hb dX5_many_24 rfl (lv_at hl 1 rfl) ?_
      refine lv_iconst (v := 1) hx hb dX5_many_25 (by decide) ?_
      refine lv_icmp_ne (tgt := 39) hx hb dX5_many_26 (by decide) (fun c_26_3 => ?_) (fun c_26_3 => ?_)
      · refine lv_aload_n hx hb dX5_many_39 rfl (lv_at hl 0 rfl) ?_
        refine gX_G_readings hC hW q_fl_RX5_21 dX5_many_40 ?_
        refine gX_D_count hC hW q_fl_RX5_77 dX5_many_43 ?_
        have hF : F_many t w = (t.1 4, t) := by unfold F_many; rw [if_pos c_6_1, if_neg c_13_2, if_neg c_26_3]  <;> (try rfl)
        exact r_ireti hC hr hlk hW hQ (⟨by rw [hF], by rw [hF]; exact LA.rf _⟩) dX5_many_46
      · refine lv_aload_n hx hb dX5_many_29 rfl (lv_at hl 0 rfl) ?_
        refine gX_G_slope hC hW q_fl_RX5_12 dX5_many_30 ?_
        refine gX_S_paces hC hW q_fl_RX5_137 dX5_many_33 ?_
        refine lv_goto (tgt := 46) hx hb dX5_many_36 (by decide) ?_
        have hF : F_many t w = (t.1 2, t) := by unfold F_many; rw [if_pos c_6_1, if_neg c_13_2, if_pos c_26_3]  <;> (try rfl)
        exact r_ireti hC hr hlk hW hQ (⟨by rw [hF], by rw [hF]; exact LA.rf _⟩) dX5_many_46
    · refine lv_aload_n hx hb dX5_many_16 rfl (lv_at hl 0 rfl) ?_
      refine gX_G_slope hC hW q_fl_RX5_12 dX5_many_17 ?_
      refine gX_S_riders hC hW q_fl_RX5_80 dX5_many_20 ?_
      have hF : F_many t w = (t.1 3, t) := by unfold F_many; rw [if_pos c_6_1, if_pos c_13_2]  <;> (try rfl)
      exact r_ireti hC hr hlk hW hQ (⟨by rw [hF], by rw [hF]; exact LA.rf _⟩) dX5_many_23
  · have c_6_1 := bI_z.mp c_6_1
    refine lv_bipush (v := (-2)) hx hb dX5_many_9 (by decide) ?_
    have hF : F_many t w = ((-2), t) := by unfold F_many; rw [if_neg c_6_1]  <;> (try rfl)
    exact r_ireti hC hr hlk hW hQ (⟨by rw [hF], by rw [hF]; exact LA.rf _⟩) dX5_many_11
