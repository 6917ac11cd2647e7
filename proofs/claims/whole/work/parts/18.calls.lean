set_option maxRecDepth 100000 in
set_option maxHeartbeats 4000000 in
theorem m_X5_ofPace (l : Launch) (D : va_G) (cs : CS3) (ad : Nat → Nat) (t : St) (P R C : Nat) (p w : Int32) (hB : BW t P R C): CT l yX5_ofPace cX5_ofPace 3 (some .int) (rmk 2 43) (wX cs ad) (tyX cs) D [.ref (ad 0), .int p, .int w] t (va_Qi (fun z u => z = (F_ofPace t P p w).1 ∧ LA (F_ofPace t P p w).2 u)) := by
  refine CT.of (own := RX5) (by decide) rfl (Nat.le_of_ble_eq_true rfl) ?_
  intro p9 e9 s m9 args below meth c9 A Q hC hr hlk hW hQ ls hl
  obtain ⟨hx, hb, hml, hown, hts⟩ := id hC
  have hl : lv_has ls 3 [(0, .ref (ad 0)), (1, .int p), (2, .int w)] := hl
  obtain ⟨hP, hP8, hR, hR5, hc4, hC8, hlen⟩ := hB
  refine lv_aload_n hx hb dX5_ofPace_0 rfl (lv_at hl 0 rfl) ?_
  refine lv_iload_n hx hb dX5_ofPace_1 rfl (lv_at hl 1 rfl) ?_
  refine fin_i (run_V (rest := []) hC hW (m_X5_isPace l D cs ad t P p hP hP8) k_yX5_isPace ⟨rfl, rfl⟩ q_ml_RX5_83 eX_0 rfl rfl hl.1 rfl (Nat.le_of_ble_eq_true rfl) ⟨Nat.le_of_ble_eq_true rfl, Nat.le_of_ble_eq_true rfl⟩ dX5_ofPace_2 ⟨Nat.zero_le _, Nat.zero_le _⟩) hW (fun r1 u1 H locs hp1 hW => ?_)
  have hW := hx_congr hW hp1.2
  refine r_top hp1.1 ?_
  refine lv_if_ne (tgt := 10) hx hb dX5_ofPace_5 (by decide) (fun c_5_2 => ?_) (fun c_5_2 => ?_)
  · have c_5_2 := bI_nz c_5_2
    obtain ⟨q_p, hq_p, rfl⟩ := inN_ex c_5_2 (by omega)
    refine lv_iload_n hx hb dX5_ofPace_10 rfl (lv_at hl 2 rfl) ?_
    refine lv_iconst (v := 0) hx hb dX5_ofPace_11 (by decide) ?_
    refine lv_iconst (v := 1) hx hb dX5_ofPace_12 (by decide) ?_
    refine fin_pi (run_P (rest := []) hC hW.2.2.2.2.2 (m_X5_isIn l w 0 1) k_yX5_isIn ⟨rfl, rfl⟩ q_ml_RX5_86 rfl hl.1 rfl (Nat.le_of_ble_eq_true rfl) ⟨Nat.le_of_ble_eq_true rfl, Nat.le_of_ble_eq_true rfl⟩ dX5_ofPace_13 ⟨Nat.zero_le _, Nat.zero_le _⟩) (fun r hr9 => ?_)
    refine r_top hr9 ?_
    refine lv_if_ne (tgt := 22) hx hb dX5_ofPace_16 (by decide) (fun c_16_3 => ?_) (fun c_16_3 => ?_)
    · have c_16_3 := bI_nz c_16_3
      refine lv_iload_n hx hb dX5_ofPace_22 rfl (lv_at hl 2 rfl) ?_
      refine lv_if_ne (tgt := 38) hx hb dX5_ofPace_23 (by decide) (fun c_23_4 => ?_) (fun c_23_4 => ?_)
      · refine lv_aload_n hx hb dX5_ofPace_38 rfl (lv_at hl 0 rfl) ?_
        refine gX_G_slope hC hW q_fl_RX5_12 dX5_ofPace_39 ?_
        refine gX_S_laid hC hW q_fl_RX5_93 dX5_ofPace_42 ?_
        refine lv_iload_n hx hb dX5_ofPace_45 rfl (lv_at hl 1 rfl) ?_
        refine r_ildN (t0 := 0) (j := q_p) hC hW eX_3 rfl (rfl) (by omega) (by decide) dX5_ofPace_46 ?_
        have hF : F_ofPace t P (nI q_p) w = (t.2 3 q_p, t) := by unfold F_ofPace; rw [if_pos c_5_2, if_pos c_16_3, if_neg c_23_4] <;> (try rw [nI_clamp (show q_p < 2 ^ 31 by omega)]) <;> (try rfl)
        exact r_ireti hC hr hlk hW hQ (⟨by rw [hF], by rw [hF]; exact LA.rf _⟩) dX5_ofPace_47
      · refine lv_aload_n hx hb dX5_ofPace_26 rfl (lv_at hl 0 rfl) ?_
        refine gX_G_slope hC hW q_fl_RX5_12 dX5_ofPace_27 ?_
        refine gX_S_slick hC hW q_fl_RX5_90 dX5_ofPace_30 ?_
        refine lv_iload_n hx hb dX5_ofPace_33 rfl (lv_at hl 1 rfl) ?_
        refine r_ildN (t0 := 0) (j := q_p) hC hW eX_2 rfl (rfl) (by omega) (by decide) dX5_ofPace_34 ?_
        refine lv_goto (tgt := 47) hx hb dX5_ofPace_35 (by decide) ?_
        have hF : F_ofPace t P (nI q_p) w = (t.2 2 q_p, t) := by unfold F_ofPace; rw [if_pos c_5_2, if_pos c_16_3, if_pos c_23_4] <;> (try rw [nI_clamp (show q_p < 2 ^ 31 by omega)]) <;> (try rfl)
        exact r_ireti hC hr hlk hW hQ (⟨by rw [hF], by rw [hF]; exact LA.rf _⟩) dX5_ofPace_47
    · have c_16_3 := bI_z.mp c_16_3
      refine lv_bipush (v := (-2)) hx hb dX5_ofPace_19 (by decide) ?_
      have hF : F_ofPace t P (nI q_p) w = ((-2), t) := by unfold F_ofPace; rw [if_pos c_5_2, if_neg c_16_3] <;> (try rw [nI_clamp (show q_p < 2 ^ 31 by omega)]) <;> (try rfl)
      exact r_ireti hC hr hlk hW hQ (⟨by rw [hF], by rw [hF]; exact LA.rf _⟩) dX5_ofPace_21
  · have c_5_2 := bI_z.mp c_5_2
    refine lv_iconst (v := (-1)) hx hb dX5_ofPace_8 (by decide) ?_
    have hF : F_ofPace t P p w = ((-1), t) := by unfold F_ofPace; rw [if_neg c_5_2]  <;> (try rfl)
    exact r_ireti hC hr hlk hW hQ (⟨by rw [hF], by rw [hF]; exact LA.rf _⟩) dX5_ofPace_9
set_option maxRecDepth 100000 in
set_option maxHeartbeats 4000000 in
theorem m_X5_ofRider (l : Launch) (D : va_G) (cs : CS3) (ad : Nat → Nat) (t : St) (P R C : Nat) (r w : Int32) (hB : BW t P R C): CT l yX5_ofRider cX5_ofRider 3 (some .int) (rmk 2 43) (wX cs ad) (tyX cs) D [.ref (ad 0), .int r, .int w] t (va_Qi (fun z u => z = (F_ofRider t R r w).1 ∧ LA (F_ofRider t R r w).2 u)) := by
  refine CT.of (own := RX5) (by decide) rfl (Nat.le_of_ble_eq_true rfl) ?_
  intro p9 e9 s m9 args below meth c9 A Q hC hr hlk hW hQ ls hl
  obtain ⟨hx, hb, hml, hown, hts⟩ := id hC
  have hl : lv_has ls 3 [(0, .ref (ad 0)), (1, .int r), (2, .int w)] := hl
  obtain ⟨hP, hP8, hR, hR5, hc4, hC8, hlen⟩ := hB
  refine lv_aload_n hx hb dX5_ofRider_0 rfl (lv_at hl 0 rfl) ?_
  refine lv_iload_n hx hb dX5_ofRider_1 rfl (lv_at hl 1 rfl) ?_
  refine fin_i (run_V (rest := []) hC hW (m_X5_isRider l D cs ad t R r hR hR5) k_yX5_isRider ⟨rfl, rfl⟩ q_ml_RX5_96 eX_0 rfl rfl hl.1 rfl (Nat.le_of_ble_eq_true rfl) ⟨Nat.le_of_ble_eq_true rfl, Nat.le_of_ble_eq_true rfl⟩ dX5_ofRider_2 ⟨Nat.zero_le _, Nat.zero_le _⟩) hW (fun r1 u1 H locs hp1 hW => ?_)
  have hW := hx_congr hW hp1.2
  refine r_top hp1.1 ?_
  refine lv_if_ne (tgt := 10) hx hb dX5_ofRider_5 (by decide) (fun c_5_2 => ?_) (fun c_5_2 => ?_)
  · have c_5_2 := bI_nz c_5_2
    obtain ⟨q_r, hq_r, rfl⟩ := inN_ex c_5_2 (by omega)
    refine lv_iload_n hx hb dX5_ofRider_10 rfl (lv_at hl 2 rfl) ?_
    refine lv_iconst (v := 0) hx hb dX5_ofRider_11 (by decide) ?_
    refine lv_iconst (v := 2) hx hb dX5_ofRider_12 (by decide) ?_
    refine fin_pi (run_P (rest := []) hC hW.2.2.2.2.2 (m_X5_isIn l w 0 2) k_yX5_isIn ⟨rfl, rfl⟩ q_ml_RX5_86 rfl hl.1 rfl (Nat.le_of_ble_eq_true rfl) ⟨Nat.le_of_ble_eq_true rfl, Nat.le_of_ble_eq_true rfl⟩ dX5_ofRider_13 ⟨Nat.zero_le _, Nat.zero_le _⟩) (fun r hr9 => ?_)
    refine r_top hr9 ?_
    refine lv_if_ne (tgt := 22) hx hb dX5_ofRider_16 (by decide) (fun c_16_3 => ?_) (fun c_16_3 => ?_)
    · have c_16_3 := bI_nz c_16_3
      refine lv_iload_n hx hb dX5_ofRider_22 rfl (lv_at hl 2 rfl) ?_
      refine lv_if_ne (tgt := 36) hx hb dX5_ofRider_23 (by decide) (fun c_23_4 => ?_) (fun c_23_4 => ?_)
      · refine lv_iload_n hx hb dX5_ofRider_36 rfl (lv_at hl 2 rfl) ?_
        refine lv_iconst (v := 1) hx hb dX5_ofRider_37 (by decide) ?_
        refine lv_icmp_ne (tgt := 53) hx hb dX5_ofRider_38 (by decide) (fun c_38_5 => ?_) (fun c_38_5 => ?_)
        · refine lv_aload_n hx hb dX5_ofRider_53 rfl (lv_at hl 0 rfl) ?_
          refine gX_G_slope hC hW q_fl_RX5_12 dX5_ofRider_54 ?_
          refine gX_S_nails hC hW q_fl_RX5_105 dX5_ofRider_57 ?_
          refine lv_iload_n hx hb dX5_ofRider_60 rfl (lv_at hl 1 rfl) ?_
          refine r_ildN (t0 := 0) (j := q_r) hC hW eX_6 rfl (rfl) (by omega) (by decide) dX5_ofRider_61 ?_
          have hF : F_ofRider t R (nI q_r) w = (t.2 6 q_r, t) := by unfold F_ofRider; rw [if_pos c_5_2, if_pos c_16_3, if_neg c_23_4, if_neg c_38_5] <;> (try rw [nI_clamp (show q_r < 2 ^ 31 by omega)]) <;> (try rfl)
          exact r_ireti hC hr hlk hW hQ (⟨by rw [hF], by rw [hF]; exact LA.rf _⟩) dX5_ofRider_62
        · refine lv_aload_n hx hb dX5_ofRider_41 rfl (lv_at hl 0 rfl) ?_
          refine gX_G_slope hC hW q_fl_RX5_12 dX5_ofRider_42 ?_
          refine gX_S_speed hC hW q_fl_RX5_102 dX5_ofRider_45 ?_
          refine lv_iload_n hx hb dX5_ofRider_48 rfl (lv_at hl 1 rfl) ?_
          refine r_ildN (t0 := 0) (j := q_r) hC hW eX_5 rfl (rfl) (by omega) (by decide) dX5_ofRider_49 ?_
          refine lv_goto (tgt := 62) hx hb dX5_ofRider_50 (by decide) ?_
          have hF : F_ofRider t R (nI q_r) w = (t.2 5 q_r, t) := by unfold F_ofRider; rw [if_pos c_5_2, if_pos c_16_3, if_neg c_23_4, if_pos c_38_5] <;> (try rw [nI_clamp (show q_r < 2 ^ 31 by omega)]) <;> (try rfl)
          exact r_ireti hC hr hlk hW hQ (⟨by rw [hF], by rw [hF]; exact LA.rf _⟩) dX5_ofRider_62
      · refine lv_aload_n hx hb dX5_ofRider_26 rfl (lv_at hl 0 rfl) ?_
        refine gX_G_slope hC hW q_fl_RX5_12 dX5_ofRider_27 ?_
        refine gX_S_kind hC hW q_fl_RX5_99 dX5_ofRider_30 ?_
        refine lv_iload_n hx hb dX5_ofRider_33 rfl (lv_at hl 1 rfl) ?_
        refine r_ildN (t0 := 0) (j := q_r) hC hW eX_4 rfl (rfl) (by omega) (by decide) dX5_ofRider_34 ?_
        have hF : F_ofRider t R (nI q_r) w = (t.2 4 q_r, t) := by unfold F_ofRider; rw [if_pos c_5_2, if_pos c_16_3, if_pos c_23_4] <;> (try rw [nI_clamp (show q_r < 2 ^ 31 by omega)]) <;> (try rfl)
        exact r_ireti hC hr hlk hW hQ (⟨by rw [hF], by rw [hF]; exact LA.rf _⟩) dX5_ofRider_35
    · have c_16_3 := bI_z.mp c_16_3
      refine lv_bipush (v := (-2)) hx hb dX5_ofRider_19 (by decide) ?_
      have hF : F_ofRider t R (nI q_r) w = ((-2), t) := by unfold F_ofRider; rw [if_pos c_5_2, if_neg c_16_3] <;> (try rw [nI_clamp (show q_r < 2 ^ 31 by omega)]) <;> (try rfl)
      exact r_ireti hC hr hlk hW hQ (⟨by rw [hF], by rw [hF]; exact LA.rf _⟩) dX5_ofRider_21
  · have c_5_2 := bI_z.mp c_5_2
    refine lv_iconst (v := (-1)) hx hb dX5_ofRider_8 (by decide) ?_
    have hF : F_ofRider t R r w = ((-1), t) := by unfold F_ofRider; rw [if_neg c_5_2]  <;> (try rfl)
    exact r_ireti hC hr hlk hW hQ (⟨by rw [hF], by rw [hF]; exact LA.rf _⟩) dX5_ofRider_9
set_option maxRecDepth 100000 in
set_option maxHeartbeats 4000000 in
theorem m_X5_scratch (l : Launch) (D : va_G) (cs : CS3) (ad : Nat → Nat) (t : St) (P R C : Nat) (p v : Int32) (hB : BW t P R C): CT l yX5_scratch cX5_scratch 4 (some .int) (rmk 2 43) (wX cs ad) (tyX cs) D [.ref (ad 0), .int p, .int v] t (va_Qi (fun z u => z = (F_scratch t P p v).1 ∧ LA (F_scratch t P p v).2 u)) := by
  refine CT.of (own := RX5) (by decide) rfl (Nat.le_of_ble_eq_true rfl) ?_
  intro p9 e9 s m9 args below meth c9 A Q hC hr hlk hW hQ ls hl
  obtain ⟨hx, hb, hml, hown, hts⟩ := id hC
  have hl : lv_has ls 4 [(0, .ref (ad 0)), (1, .int p), (2, .int v)] := hl
  obtain ⟨hP, hP8, hR, hR5, hc4, hC8, hlen⟩ := hB
  refine lv_aload_n hx hb dX5_scratch_0 rfl (lv_at hl 0 rfl) ?_
  refine lv_iload_n hx hb dX5_scratch_1 rfl (lv_at hl 1 rfl) ?_
  refine fin_i (run_V (rest := []) hC hW (m_X5_isPace l D cs ad t P p hP hP8) k_yX5_isPace ⟨rfl, rfl⟩ q_ml_RX5_83 eX_0 rfl rfl hl.1 rfl (Nat.le_of_ble_eq_true rfl) ⟨Nat.le_of_ble_eq_true rfl, Nat.le_of_ble_eq_true rfl⟩ dX5_scratch_2 ⟨Nat.zero_le _, Nat.zero_le _⟩) hW (fun r1 u1 H locs hp1 hW => ?_)
  have hW := hx_congr hW hp1.2
  refine r_top hp1.1 ?_
  refine lv_if_ne (tgt := 10) hx hb dX5_scratch_5 (by decide) (fun c_5_2 => ?_) (fun c_5_2 => ?_)
  · have c_5_2 := bI_nz c_5_2
    obtain ⟨q_p, hq_p, rfl⟩ := inN_ex c_5_2 (by omega)
    refine lv_iload_n hx hb dX5_scratch_10 rfl (lv_at hl 2 rfl) ?_
    refine lv_iconst (v := 0) hx hb dX5_scratch_11 (by decide) ?_
    refine lv_bipush (v := 9) hx hb dX5_scratch_12 (by decide) ?_
    refine fin_pi (run_P (rest := []) hC hW.2.2.2.2.2 (m_X5_isIn l v 0 9) k_yX5_isIn ⟨rfl, rfl⟩ q_ml_RX5_86 rfl hl.1 rfl (Nat.le_of_ble_eq_true rfl) ⟨Nat.le_of_ble_eq_true rfl, Nat.le_of_ble_eq_true rfl⟩ dX5_scratch_14 ⟨Nat.zero_le _, Nat.zero_le _⟩) (fun r hr9 => ?_)
    refine r_top hr9 ?_
    refine lv_if_ne (tgt := 23) hx hb dX5_scratch_17 (by decide) (fun c_17_3 => ?_) (fun c_17_3 => ?_)
    · have c_17_3 := bI_nz c_17_3
      refine lv_aload_n hx hb dX5_scratch_23 rfl (lv_at hl 0 rfl) ?_
      refine gX_G_slope hC hW q_fl_RX5_12 dX5_scratch_24 ?_
      refine gX_S_laid hC hW q_fl_RX5_93 dX5_scratch_27 ?_
      refine lv_iload_n hx hb dX5_scratch_30 rfl (lv_at hl 1 rfl) ?_
      refine r_ildN (t0 := 0) (j := q_p) hC hW eX_3 rfl (rfl) (by omega) (by decide) dX5_scratch_31 ?_
      refine lv_istore_n (lv' := [(3, .int (t.2 3 q_p)), (0, .ref (ad 0)), (1, .int (nI q_p)), (2, .int v)]) hx hb dX5_scratch_32 rfl hl (by decide) rfl (fun ls hl => ?_)
      refine lv_aload_n hx hb dX5_scratch_33 rfl (lv_at hl 1 rfl) ?_
      refine gX_G_slope hC hW q_fl_RX5_12 dX5_scratch_34 ?_
      refine gX_S_laid hC hW q_fl_RX5_93 dX5_scratch_37 ?_
      refine lv_iload_n hx hb dX5_scratch_40 rfl (lv_at hl 2 rfl) ?_
      refine lv_iload_n hx hb dX5_scratch_41 rfl (lv_at hl 3 rfl) ?_
      refine r_istN (t0 := 0) (j := q_p) hC hW eX_3 rfl (rfl) (by omega) (by decide) (sX_3 _) dX5_scratch_42 (fun H locs hW => ?_)
      have hW : HX (wX cs ad) (tyX cs) D A s.heap s (t.1, va_up t.2 3 (upd (t.2 3) q_p v)) H locs := hW
      refine lv_iload_n hx hb dX5_scratch_43 rfl (lv_at hl 0 rfl) ?_
      have hF : F_scratch t P (nI q_p) v = (t.2 3 q_p, (t.1, va_up t.2 3 (upd (t.2 3) q_p v))) := by unfold F_scratch; rw [if_pos c_5_2, if_pos c_17_3] <;> (try rw [nI_clamp (show q_p < 2 ^ 31 by omega)]) <;> (try rfl)
      exact r_ireti hC hr hlk hW hQ (⟨by rw [hF], by rw [hF]; exact LA.rf _⟩) dX5_scratch_44
    · have c_17_3 := bI_z.mp c_17_3
      refine lv_bipush (v := (-2)) hx hb dX5_scratch_20 (by decide) ?_
      have hF : F_scratch t P (nI q_p) v = ((-2), t) := by unfold F_scratch; rw [if_pos c_5_2, if_neg c_17_3] <;> (try rw [nI_clamp (show q_p < 2 ^ 31 by omega)]) <;> (try rfl)
      exact r_ireti hC hr hlk hW hQ (⟨by rw [hF], by rw [hF]; exact LA.rf _⟩) dX5_scratch_22
  · have c_5_2 := bI_z.mp c_5_2
    refine lv_iconst (v := (-1)) hx hb dX5_scratch_8 (by decide) ?_
    have hF : F_scratch t P p v = ((-1), t) := by unfold F_scratch; rw [if_neg c_5_2]  <;> (try rfl)
    exact r_ireti hC hr hlk hW hQ (⟨by rw [hF], by rw [hF]; exact LA.rf _⟩) dX5_scratch_9
set_option maxRecDepth 100000 in
set_option maxHeartbeats 4000000 in
theorem m_X5_speed (l : Launch) (D : va_G) (cs : CS3) (ad : Nat → Nat) (t : St) (P R C : Nat) (r v : Int32) (hB : BW t P R C): CT l yX5_speed cX5_speed 3 (some .int) (rmk 2 43) (wX cs ad) (tyX cs) D [.ref (ad 0), .int r, .int v] t (va_Qi (fun z u => z = (F_speed t R r v).1 ∧ LA (F_speed t R r v).2 u)) := by
  refine CT.of (own := RX5) (by decide) rfl (Nat.le_of_ble_eq_true rfl) ?_
  intro p9 e9 s m9 args below meth c9 A Q hC hr hlk hW hQ ls hl
  obtain ⟨hx, hb, hml, hown, hts⟩ := id hC
  have hl : lv_has ls 3 [(0, .ref (ad 0)), (1, .int r), (2, .int v)] := hl
  obtain ⟨hP, hP8, hR, hR5, hc4, hC8, hlen⟩ := hB
  refine lv_aload_n hx hb dX5_speed_0 rfl (lv_at hl 0 rfl) ?_
  refine lv_iload_n hx hb dX5_speed_1 rfl (lv_at hl 1 rfl) ?_
  refine fin_i (run_V (rest := []) hC hW (m_X5_isRider l D cs ad t R r hR hR5) k_yX5_isRider ⟨rfl, rfl⟩ q_ml_RX5_96 eX_0 rfl rfl hl.1 rfl (Nat.le_of_ble_eq_true rfl) ⟨Nat.le_of_ble_eq_true rfl, Nat.le_of_ble_eq_true rfl⟩ dX5_speed_2 ⟨Nat.zero_le _, Nat.zero_le _⟩) hW (fun r1 u1 H locs hp1 hW => ?_)
  have hW := hx_congr hW hp1.2
  refine r_top hp1.1 ?_
  refine lv_if_ne (tgt := 10) hx hb dX5_speed_5 (by decide) (fun c_5_2 => ?_) (fun c_5_2 => ?_)
  · have c_5_2 := bI_nz c_5_2
    obtain ⟨q_r, hq_r, rfl⟩ := inN_ex c_5_2 (by omega)
    refine lv_iload_n hx hb dX5_speed_10 rfl (lv_at hl 2 rfl) ?_
    refine lv_iconst (v := 0) hx hb dX5_speed_11 (by decide) ?_
    refine lv_bipush (v := 99) hx hb dX5_speed_12 (by decide) ?_
    refine fin_pi (run_P (rest := []) hC hW.2.2.2.2.2 (m_X5_isIn l v 0 99) k_yX5_isIn ⟨rfl, rfl⟩ q_ml_RX5_86 rfl hl.1 rfl (Nat.le_of_ble_eq_true rfl) ⟨Nat.le_of_ble_eq_true rfl, Nat.le_of_ble_eq_true rfl⟩ dX5_speed_14 ⟨Nat.zero_le _, Nat.zero_le _⟩) (fun r hr9 => ?_)
    refine r_top hr9 ?_
    refine lv_if_ne (tgt := 23) hx hb dX5_speed_17 (by decide) (fun c_17_3 => ?_) (fun c_17_3 => ?_)
    · have c_17_3 := bI_nz c_17_3
      refine lv_aload_n hx hb dX5_speed_23 rfl (lv_at hl 0 rfl) ?_
      refine gX_G_slope hC hW q_fl_RX5_12 dX5_speed_24 ?_
      refine lv_iconst (v := 0) hx hb dX5_speed_27 (by decide) ?_
      refine lv_iload_n hx hb dX5_speed_28 rfl (lv_at hl 1 rfl) ?_
      refine lv_iload_n hx hb dX5_speed_29 rfl (lv_at hl 2 rfl) ?_
      refine fin_i (run_V (rest := []) hC hW (m_X3_exchange0 l D cs ad t q_r v (by omega)) k_yX3_exchange ⟨rfl, rfl⟩ q_ml_RX5_108 eX_1 rfl rfl hl.1 rfl (Nat.le_of_ble_eq_true rfl) ⟨Nat.le_of_ble_eq_true rfl, Nat.le_of_ble_eq_true rfl⟩ dX5_speed_30 ⟨Nat.zero_le _, Nat.zero_le _⟩) hW (fun r4 u4 H locs hp4 hW => ?_)
      have hW := hx_congr hW hp4.2
      refine r_top hp4.1 ?_
      have hW : HX (wX cs ad) (tyX cs) D A s.heap s (t.1, va_up t.2 5 (upd (t.2 5) q_r v)) H locs := hW
      have hF : F_speed t R (nI q_r) v = (t.2 5 q_r, (t.1, va_up t.2 5 (upd (t.2 5) q_r v))) := by unfold F_speed; rw [if_pos c_5_2, if_pos c_17_3] <;> (try rw [nI_clamp (show q_r < 2 ^ 31 by omega)]) <;> (try rfl)
      exact r_ireti hC hr hlk hW hQ (⟨by rw [hF], by rw [hF]; exact LA.rf _⟩) dX5_speed_33
    · have c_17_3 := bI_z.mp c_17_3
      refine lv_bipush (v := (-2)) hx hb dX5_speed_20 (by decide) ?_
      have hF : F_speed t R (nI q_r) v = ((-2), t) := by unfold F_speed; rw [if_pos c_5_2, if_neg c_17_3] <;> (try rw [nI_clamp (show q_r < 2 ^ 31 by omega)]) <;> (try rfl)
      exact r_ireti hC hr hlk hW hQ (⟨by rw [hF], by rw [hF]; exact LA.rf _⟩) dX5_speed_22
  · have c_5_2 := bI_z.mp c_5_2
    refine lv_iconst (v := (-1)) hx hb dX5_speed_8 (by decide) ?_
    have hF : F_speed t R r v = ((-1), t) := by unfold F_speed; rw [if_neg c_5_2]  <;> (try rfl)
    exact r_ireti hC hr hlk hW hQ (⟨by rw [hF], by rw [hF]; exact LA.rf _⟩) dX5_speed_9
set_option maxRecDepth 100000 in
set_option maxHeartbeats 4000000 in
theorem m_X5_shoe (l : Launch) (D : va_G) (cs : CS3) (ad : Nat → Nat) (t : St) (P R C : Nat) (r v : Int32) (hB : BW t P R C): CT l yX5_shoe cX5_shoe 3 (some .int) (rmk 2 43) (wX cs ad) (tyX cs) D [.ref (ad 0), .int r, .int v] t (va_Qi (fun z u => z = (F_shoe t R r v).1 ∧ LA (F_shoe t R r v).2 u)) := by
  refine CT.of (own := RX5) (by decide) rfl (Nat.le_of_ble_eq_true rfl) ?_
  intro p9 e9 s m9 args below meth c9 A Q hC hr hlk hW hQ ls hl
  obtain ⟨hx, hb, hml, hown, hts⟩ := id hC
  have hl : lv_has ls 3 [(0, .ref (ad 0)), (1, .int r), (2, .int v)] := hl
  obtain ⟨hP, hP8, hR, hR5, hc4, hC8, hlen⟩ := hB
  refine lv_aload_n hx hb dX5_shoe_0 rfl (lv_at hl 0 rfl) ?_
  refine lv_iload_n hx hb dX5_shoe_1 rfl (lv_at hl 1 rfl) ?_
  refine fin_i (run_V (rest := []) hC hW (m_X5_isRider l D cs ad t R r hR hR5) k_yX5_isRider ⟨rfl, rfl⟩ q_ml_RX5_96 eX_0 rfl rfl hl.1 rfl (Nat.le_of_ble_eq_true rfl) ⟨Nat.le_of_ble_eq_true rfl, Nat.le_of_ble_eq_true rfl⟩ dX5_shoe_2 ⟨Nat.zero_le _, Nat.zero_le _⟩) hW (fun r1 u1 H locs hp1 hW => ?_)
  have hW := hx_congr hW hp1.2
  refine r_top hp1.1 ?_
  refine lv_if_ne (tgt := 10) hx hb dX5_shoe_5 (by decide) (fun c_5_2 => ?_) (fun c_5_2 => ?_)
  · have c_5_2 := bI_nz c_5_2
    obtain ⟨q_r, hq_r, rfl⟩ := inN_ex c_5_2 (by omega)
    refine lv_iload_n hx hb dX5_shoe_10 rfl (lv_at hl 2 rfl) ?_
    refine lv_iconst (v := 0) hx hb dX5_shoe_11 (by decide) ?_
    refine lv_bipush (v := 9) hx hb dX5_shoe_12 (by decide) ?_
    refine fin_pi (run_P (rest := []) hC hW.2.2.2.2.2 (m_X5_isIn l v 0 9) k_yX5_isIn ⟨rfl, rfl⟩ q_ml_RX5_86 rfl hl.1 rfl (Nat.le_of_ble_eq_true rfl) ⟨Nat.le_of_ble_eq_true rfl, Nat.le_of_ble_eq_true rfl⟩ dX5_shoe_14 ⟨Nat.zero_le _, Nat.zero_le _⟩) (fun r hr9 => ?_)
    refine r_top hr9 ?_
    refine lv_if_ne (tgt := 23) hx hb dX5_shoe_17 (by decide) (fun c_17_3 => ?_) (fun c_17_3 => ?_)
    · have c_17_3 := bI_nz c_17_3
      refine lv_aload_n hx hb dX5_shoe_23 rfl (lv_at hl 0 rfl) ?_
      refine gX_G_slope hC hW q_fl_RX5_12 dX5_shoe_24 ?_
      refine lv_iconst (v := 1) hx hb dX5_shoe_27 (by decide) ?_
      refine lv_iload_n hx hb dX5_shoe_28 rfl (lv_at hl 1 rfl) ?_
      refine lv_iload_n hx hb dX5_shoe_29 rfl (lv_at hl 2 rfl) ?_
      refine fin_i (run_V (rest := []) hC hW (m_X3_exchange1 l D cs ad t q_r v (by omega)) k_yX3_exchange ⟨rfl, rfl⟩ q_ml_RX5_108 eX_1 rfl rfl hl.1 rfl (Nat.le_of_ble_eq_true rfl) ⟨Nat.le_of_ble_eq_true rfl, Nat.le_of_ble_eq_true rfl⟩ dX5_shoe_30 ⟨Nat.zero_le _, Nat.zero_le _⟩) hW (fun r4 u4 H locs hp4 hW => ?_)
      have hW := hx_congr hW hp4.2
      refine r_top hp4.1 ?_
      have hW : HX (wX cs ad) (tyX cs) D A s.heap s (t.1, va_up t.2 6 (upd (t.2 6) q_r v)) H locs := hW
      have hF : F_shoe t R (nI q_r) v = (t.2 6 q_r, (t.1, va_up t.2 6 (upd (t.2 6) q_r v))) := by unfold F_shoe; rw [if_pos c_5_2, if_pos c_17_3] <;> (try rw [nI_clamp (show q_r < 2 ^ 31 by omega)]) <;> (try rfl)
      exact r_ireti hC hr hlk hW hQ (⟨by rw [hF], by rw [hF]; exact LA.rf _⟩) dX5_shoe_33
    · have c_17_3 := bI_z.mp c_17_3
      refine lv_bipush (v := (-2)) hx hb dX5_shoe_20 (by decide) ?_
      have hF : F_shoe t R (nI q_r) v = ((-2), t) := by unfold F_shoe; rw [if_pos c_5_2, if_neg c_17_3] <;> (try rw [nI_clamp (show q_r < 2 ^ 31 by omega)]) <;> (try rfl)
      exact r_ireti hC hr hlk hW hQ (⟨by rw [hF], by rw [hF]; exact LA.rf _⟩) dX5_shoe_22
  · have c_5_2 := bI_z.mp c_5_2
    refine lv_iconst (v := (-1)) hx hb dX5_shoe_8 (by decide) ?_
    have hF : F_shoe t R r v = ((-1), t) := by unfold F_shoe; rw [if_neg c_5_2]  <;> (try rfl)
    exact r_ireti hC hr hlk hW hQ (⟨by rw [hF], by rw [hF]; exact LA.rf _⟩) dX5_shoe_9
set_option maxRecDepth 100000 in
set_option maxHeartbeats 4000000 in
theorem m_X5_takes (l : Launch) (D : va_G) (cs : CS3) (ad : Nat → Nat) (t : St) (P R C : Nat) (r p s0 : Int32) (hB : BW t P R C): CT l yX5_takes cX5_takes 4 (some .int) (rmk 2 43) (wX cs ad) (tyX cs) D [.ref (ad 0), .int r, .int p, .int s0] t (va_Qi (fun z u => z = (F_takes t P R r p s0).1 ∧ LA (F_takes t P R r p s0).2 u)) := by
  refine CT.of (own := RX5) (by decide) rfl (Nat.le_of_ble_eq_true rfl) ?_
  intro p9 e9 s m9 args below meth c9 A Q hC hr hlk hW hQ ls hl
  obtain ⟨hx, hb, hml, hown, hts⟩ := id hC
  have hl : lv_has ls 4 [(0, .ref (ad 0)), (1, .int r), (2, .int p), (3, .int s0)] := hl
  obtain ⟨hP, hP8, hR, hR5, hc4, hC8, hlen⟩ := hB
  refine lv_aload_n hx hb dX5_takes_0 rfl (lv_at hl 0 rfl) ?_
  refine lv_iload_n hx hb dX5_takes_1 rfl (lv_at hl 1 rfl) ?_
  refine fin_i (run_V (rest := []) hC hW (m_X5_isRider l D cs ad t R r hR hR5) k_yX5_isRider ⟨rfl, rfl⟩ q_ml_RX5_96 eX_0 rfl rfl hl.1 rfl (Nat.le_of_ble_eq_true rfl) ⟨Nat.le_of_ble_eq_true rfl, Nat.le_of_ble_eq_true rfl⟩ dX5_takes_2 ⟨Nat.zero_le _, Nat.zero_le _⟩) hW (fun r1 u1 H locs hp1 hW => ?_)
  have hW := hx_congr hW hp1.2
  refine r_top hp1.1 ?_
  refine lv_if_eq (tgt := 16) hx hb dX5_takes_5 (by decide) (fun c_5_2 => ?_) (fun c_5_2 => ?_)
  · have c_5_2 := bI_z.mp c_5_2
    refine lv_iconst (v := (-1)) hx hb dX5_takes_16 (by decide) ?_
    have hF : F_takes t P R r p s0 = ((-1), t) := by unfold F_takes; rw [if_neg c_5_2]  <;> (try rfl)
    exact r_ireti hC hr hlk hW hQ (⟨by rw [hF], by rw [hF]; exact LA.rf _⟩) dX5_takes_17
  · have c_5_2 := bI_nz c_5_2
    obtain ⟨q_r, hq_r, rfl⟩ := inN_ex c_5_2 (by omega)
    refine lv_aload_n hx hb dX5_takes_8 rfl (lv_at hl 0 rfl) ?_
    refine lv_iload_n hx hb dX5_takes_9 rfl (lv_at hl 2 rfl) ?_
    refine fin_i (run_V (rest := []) hC hW (m_X5_isPace l D cs ad t P p hP hP8) k_yX5_isPace ⟨rfl, rfl⟩ q_ml_RX5_83 eX_0 rfl rfl hl.1 rfl (Nat.le_of_ble_eq_true rfl) ⟨Nat.le_of_ble_eq_true rfl, Nat.le_of_ble_eq_true rfl⟩ dX5_takes_10 ⟨Nat.zero_le _, Nat.zero_le _⟩) hW (fun r3 u3 H locs hp3 hW => ?_)
    have hW := hx_congr hW hp3.2
    refine r_top hp3.1 ?_
    refine lv_if_ne (tgt := 18) hx hb dX5_takes_13 (by decide) (fun c_13_4 => ?_) (fun c_13_4 => ?_)
    · have c_13_4 := bI_nz c_13_4
      obtain ⟨q_p, hq_p, rfl⟩ := inN_ex c_13_4 (by omega)
      refine lv_iload_n hx hb dX5_takes_18 rfl (lv_at hl 3 rfl) ?_
      refine lv_iconst (v := 0) hx hb dX5_takes_19 (by decide) ?_
      refine lv_bipush (v := 9) hx hb dX5_takes_20 (by decide) ?_
      refine fin_pi (run_P (rest := []) hC hW.2.2.2.2.2 (m_X5_isIn l s0 0 9) k_yX5_isIn ⟨rfl, rfl⟩ q_ml_RX5_86 rfl hl.1 rfl (Nat.le_of_ble_eq_true rfl) ⟨Nat.le_of_ble_eq_true rfl, Nat.le_of_ble_eq_true rfl⟩ dX5_takes_22 ⟨Nat.zero_le _, Nat.zero_le _⟩) (fun r hr9 => ?_)
      refine r_top hr9 ?_
      refine lv_if_ne (tgt := 31) hx hb dX5_takes_25 (by decide) (fun c_25_5 => ?_) (fun c_25_5 => ?_)
      · have c_25_5 := bI_nz c_25_5
        refine lv_aload_n hx hb dX5_takes_31 rfl (lv_at hl 0 rfl) ?_
        refine gX_G_slope hC hW q_fl_RX5_12 dX5_takes_32 ?_
        refine lv_iload_n hx hb dX5_takes_35 rfl (lv_at hl 1 rfl) ?_
        refine lv_iload_n hx hb dX5_takes_36 rfl (lv_at hl 2 rfl) ?_
        refine lv_iload_n hx hb dX5_takes_37 rfl (lv_at hl 3 rfl) ?_
        refine fin_i (run_V (rest := []) hC hW (m_X3_toll l D cs ad t P (hX P t) q_r q_p s0 rfl (by omega) (by omega)) k_yX3_toll ⟨rfl, rfl⟩ q_ml_RX5_112 eX_1 rfl rfl hl.1 rfl (Nat.le_of_ble_eq_true rfl) ⟨Nat.le_of_ble_eq_true rfl, Nat.le_of_ble_eq_true rfl⟩ dX5_takes_38 ⟨Nat.zero_le _, Nat.zero_le _⟩) hW (fun r6 u6 H locs hp6 hW => ?_)
        have hW := hx_congr hW hp6.2
        refine r_top hp6.1 ?_
        have hF : F_takes t P R (nI q_r) (nI q_p) s0 = (toll (hX P t) q_r q_p s0, t) := by unfold F_takes; rw [if_pos c_5_2, if_pos c_13_4, if_pos c_25_5] <;> (try rw [nI_clamp (show q_r < 2 ^ 31 by omega)]) <;> (try rw [nI_clamp (show q_p < 2 ^ 31 by omega)]) <;> (try rfl)
        exact r_ireti hC hr hlk hW hQ (⟨by rw [hF], by rw [hF]; exact LA.rf _⟩) dX5_takes_41
      · have c_25_5 := bI_z.mp c_25_5
        refine lv_bipush (v := (-2)) hx hb dX5_takes_28 (by decide) ?_
        have hF : F_takes t P R (nI q_r) (nI q_p) s0 = ((-2), t) := by unfold F_takes; rw [if_pos c_5_2, if_pos c_13_4, if_neg c_25_5] <;> (try rw [nI_clamp (show q_r < 2 ^ 31 by omega)]) <;> (try rw [nI_clamp (show q_p < 2 ^ 31 by omega)]) <;> (try rfl)
        exact r_ireti hC hr hlk hW hQ (⟨by rw [hF], by rw [hF]; exact LA.rf _⟩) dX5_takes_30
    · have c_13_4 := bI_z.mp c_13_4
      refine lv_iconst (v := (-1)) hx hb dX5_takes_16 (by decide) ?_
      have hF : F_takes t P R (nI q_r) p s0 = ((-1), t) := by unfold F_takes; rw [if_pos c_5_2, if_neg c_13_4] <;> (try rw [nI_clamp (show q_r < 2 ^ 31 by omega)]) <;> (try rfl)
      exact r_ireti hC hr hlk hW hQ (⟨by rw [hF], by rw [hF]; exact LA.rf _⟩) dX5_takes_17
set_option maxRecDepth 100000 in
set_option maxHeartbeats 4000000 in
theorem m_X5_reading (l : Launch) (D : va_G) (cs : CS3) (ad : Nat → Nat) (t : St) (P R C : Nat) (r y : Int32) (hB : BW t P R C): CT l yX5_reading cX5_reading 3 (some .int) (rmk 2 43) (wX cs ad) (tyX cs) D [.ref (ad 0), .int r, .int y] t (va_Qi (fun z u => z = (F_reading t R C r y).1 ∧ LA (F_reading t R C r y).2 u)) := by
  refine CT.of (own := RX5) (by decide) rfl (Nat.le_of_ble_eq_true rfl) ?_
  intro p9 e9 s m9 args below meth c9 A Q hC hr hlk hW hQ ls hl
  obtain ⟨hx, hb, hml, hown, hts⟩ := id hC
  have hl : lv_has ls 3 [(0, .ref (ad 0)), (1, .int r), (2, .int y)] := hl
  obtain ⟨hP, hP8, hR, hR5, hc4, hC8, hlen⟩ := hB
  refine lv_aload_n hx hb dX5_reading_0 rfl (lv_at hl 0 rfl) ?_
  refine lv_iload_n hx hb dX5_reading_1 rfl (lv_at hl 1 rfl) ?_
  refine fin_i (run_V (rest := []) hC hW (m_X5_isRider l D cs ad t R r hR hR5) k_yX5_isRider ⟨rfl, rfl⟩ q_ml_RX5_96 eX_0 rfl rfl hl.1 rfl (Nat.le_of_ble_eq_true rfl) ⟨Nat.le_of_ble_eq_true rfl, Nat.le_of_ble_eq_true rfl⟩ dX5_reading_2 ⟨Nat.zero_le _, Nat.zero_le _⟩) hW (fun r1 u1 H locs hp1 hW => ?_)
  have hW := hx_congr hW hp1.2
  refine r_top hp1.1 ?_
  refine lv_if_ne (tgt := 10) hx hb dX5_reading_5 (by decide) (fun c_5_2 => ?_) (fun c_5_2 => ?_)
  · have c_5_2 := bI_nz c_5_2
    obtain ⟨q_r, hq_r, rfl⟩ := inN_ex c_5_2 (by omega)
    refine lv_iload_n hx hb dX5_reading_10 rfl (lv_at hl 2 rfl) ?_
    refine lv_iconst (v := 0) hx hb dX5_reading_11 (by decide) ?_
    refine lv_bipush (v := 8) hx hb dX5_reading_12 (by decide) ?_
    refine fin_pi (run_P (rest := []) hC hW.2.2.2.2.2 (m_X5_isIn l y 0 8) k_yX5_isIn ⟨rfl, rfl⟩ q_ml_RX5_86 rfl hl.1 rfl (Nat.le_of_ble_eq_true rfl) ⟨Nat.le_of_ble_eq_true rfl, Nat.le_of_ble_eq_true rfl⟩ dX5_reading_14 ⟨Nat.zero_le _, Nat.zero_le _⟩) (fun r hr9 => ?_)
    refine r_top hr9 ?_
    refine lv_if_ne (tgt := 23) hx hb dX5_reading_17 (by decide) (fun c_17_3 => ?_) (fun c_17_3 => ?_)
    · have c_17_3 := bI_nz c_17_3
      refine lv_aload_n hx hb dX5_reading_23 rfl (lv_at hl 0 rfl) ?_
      refine gX_G_readings hC hW q_fl_RX5_21 dX5_reading_24 ?_
      refine fin_i (run_V (rest := []) hC hW (m_X1_isFull l D cs ad t) k_yX1_isFull ⟨rfl, rfl⟩ q_ml_RX5_160 eX_7 rfl rfl hl.1 rfl (Nat.le_of_ble_eq_true rfl) ⟨Nat.le_of_ble_eq_true rfl, Nat.le_of_ble_eq_true rfl⟩ dX5_reading_27 ⟨Nat.zero_le _, Nat.zero_le _⟩) hW (fun r4 u4 H locs hp4 hW => ?_)
      have hW := hx_congr hW hp4.2
      refine r_top hp4.1 ?_
      refine lv_if_eq (tgt := 36) hx hb dX5_reading_30 (by decide) (fun c_30_5 => ?_) (fun c_30_5 => ?_)
      · have c_30_5 := bI_z.mp c_30_5
        have hC7 : C < 8 := by rcases Nat.lt_or_ge C 8 with q | q; exact q; exact absurd (by rw [hc4]; exact nI_le (a := 8) q (by omega)) c_30_5
        refine lv_aload_n hx hb dX5_reading_36 rfl (lv_at hl 0 rfl) ?_
        refine gX_G_readings hC hW q_fl_RX5_21 dX5_reading_37 ?_
        refine lv_iload_n hx hb dX5_reading_40 rfl (lv_at hl 1 rfl) ?_
        refine lv_iload_n hx hb dX5_reading_41 rfl (lv_at hl 2 rfl) ?_
        refine fin_i (run_V (rest := []) hC hW (m_X1_add l D cs ad t C (nI q_r) y hc4 (by omega)) k_yX1_add ⟨rfl, rfl⟩ q_ml_RX5_164 eX_7 rfl rfl hl.1 rfl (Nat.le_of_ble_eq_true rfl) ⟨Nat.le_of_ble_eq_true rfl, Nat.le_of_ble_eq_true rfl⟩ dX5_reading_42 ⟨Nat.zero_le _, Nat.zero_le _⟩) hW (fun r6 u6 H locs hp6 hW => ?_)
        have hW := hx_congr hW hp6.2
        refine r_top hp6.1 ?_
        have hF : F_reading t R C (nI q_r) y = (nI C, (va_up t.1 4 (nI (C + 1)), va_up (va_up t.2 8 (upd (t.2 8) C (nI q_r))) 9 (upd (t.2 9) C y))) := by unfold F_reading; rw [if_pos c_5_2, if_pos c_17_3, if_neg c_30_5] <;> (try rw [nI_clamp (show q_r < 2 ^ 31 by omega)]) <;> (try rfl)
        exact r_ireti hC hr hlk hW hQ (⟨by rw [hF], by rw [hF]; exact LA.rf _⟩) dX5_reading_45
      · have c_30_5 := bI_nz c_30_5
        refine lv_bipush (v := (-4)) hx hb dX5_reading_33 (by decide) ?_
        have hF : F_reading t R C (nI q_r) y = ((-4), t) := by unfold F_reading; rw [if_pos c_5_2, if_pos c_17_3, if_pos c_30_5] <;> (try rw [nI_clamp (show q_r < 2 ^ 31 by omega)]) <;> (try rfl)
        exact r_ireti hC hr hlk hW hQ (⟨by rw [hF], by rw [hF]; exact LA.rf _⟩) dX5_reading_35
    · have c_17_3 := bI_z.mp c_17_3
      refine lv_bipush (v := (-2)) hx hb dX5_reading_20 (by decide) ?_
      have hF : F_reading t R C (nI q_r) y = ((-2), t) := by unfold F_reading; rw [if_pos c_5_2, if_neg c_17_3] <;> (try rw [nI_clamp (show q_r < 2 ^ 31 by omega)]) <;> (try rfl)
      exact r_ireti hC hr hlk hW hQ (⟨by rw [hF], by rw [hF]; exact LA.rf _⟩) dX5_reading_22
  · have c_5_2 := bI_z.mp c_5_2
    refine lv_iconst (v := (-1)) hx hb dX5_reading_8 (by decide) ?_
    have hF : F_reading t R C r y = ((-1), t) := by unfold F_reading; rw [if_neg c_5_2]  <;> (try rfl)
    exact r_ireti hC hr hlk hW hQ (⟨by rw [hF], by rw [hF]; exact LA.rf _⟩) dX5_reading_9
