set_option maxRecDepth 100000 in
set_option maxHeartbeats 4000000 in
theorem m_X6_ofPace (l : Launch) (D : va_G) (cs : CS3) (ad : Nat → Nat) (t : St) (b : St) (P R C : Nat) (p w : Int32) (hB : WF b P R C) (hA : AM b t): CT l yX6_ofPace cX6_ofPace 3 (some .int) (rmk 1 21) (wM cs ad) (tyX cs) D [.ref (ad 0), .int p, .int w] t (va_Qi (fun z u => z = (F_ofPace b P p w).1 ∧ AM (F_ofPace b P p w).2 u)) := by
  refine CT.of (own := RX6) (by decide) rfl (Nat.le_of_ble_eq_true rfl) ?_
  intro p9 e9 s m9 args below meth c9 A Q hC hr hlk hW hQ ls hl
  obtain ⟨hx, hb, hml, hown, hts⟩ := id hC
  have hl : lv_has ls 3 [(0, .ref (ad 0)), (1, .int p), (2, .int w)] := hl
  obtain ⟨⟨bP, hP8, bR, hR5, bC, hC8, hlen⟩, hl4, hPR, hrg, hrd⟩ := id hB
  obtain ⟨⟨a0, a1, a2, a3, a4⟩, ⟨v4, v5, v6, v7, v8, v16, v17⟩, hsh⟩ := id hA
  have hP : t.1 2 = nI P := a2.trans bP
  have hR : t.1 3 = nI R := a3.trans bR
  have hc4 : t.1 12 = nI C := a4.trans bC
  refine lv_aload_n hx hb dX6_ofPace_0 rfl (lv_at hl 0 rfl) ?_
  refine lv_iload_n hx hb dX6_ofPace_1 rfl (lv_at hl 1 rfl) ?_
  refine fin_i (run_V (rest := []) hC hW (m_X6_isPace l D cs ad t P p hP) k_yX6_isPace ⟨rfl, rfl⟩ q_ml_RX6_118 eM_0 rfl rfl hl.1 rfl (Nat.le_of_ble_eq_true rfl) ⟨Nat.le_of_ble_eq_true rfl, Nat.le_of_ble_eq_true rfl⟩ dX6_ofPace_2 ⟨Nat.zero_le _, Nat.zero_le _⟩) hW (fun r1 u1 H locs hp1 hW => ?_)
  have hW := hx_congr hW hp1.2
  refine r_top hp1.1 ?_
  refine lv_if_ne (tgt := 10) hx hb dX6_ofPace_5 (by decide) (fun c_5_2 => ?_) (fun c_5_2 => ?_)
  · have c_5_2 := bI_nz c_5_2
    obtain ⟨q_p, hq_p, rfl⟩ := inN_ex c_5_2 (by omega)
    refine lv_iload_n hx hb dX6_ofPace_10 rfl (lv_at hl 2 rfl) ?_
    refine lv_if_ne (tgt := 23) hx hb dX6_ofPace_11 (by decide) (fun c_11_3 => ?_) (fun c_11_3 => ?_)
    · refine lv_iload_n hx hb dX6_ofPace_23 rfl (lv_at hl 2 rfl) ?_
      refine lv_iconst (v := 1) hx hb dX6_ofPace_24 (by decide) ?_
      refine lv_icmp_ne (tgt := 37) hx hb dX6_ofPace_25 (by decide) (fun c_25_4 => ?_) (fun c_25_4 => ?_)
      · refine lv_bipush (v := (-2)) hx hb dX6_ofPace_37 (by decide) ?_
        have hF : F_ofPace b P (nI q_p) w = ((-2), b) := by unfold F_ofPace; rw [if_pos c_5_2, if_neg (fun h9 => (rng2 h9).elim c_11_3 c_25_4)] <;> (try rw [nI_clamp (show q_p < 2 ^ 31 by omega)]) <;> (try rfl)
        exact r_ireti hC hr hlk hW hQ (⟨by rw [hF], by rw [hF]; exact hA⟩) dX6_ofPace_39
      · refine lv_aload_n hx hb dX6_ofPace_28 rfl (lv_at hl 0 rfl) ?_
        refine gM_ahead hC hW q_fl_RX6_22 dX6_ofPace_29 ?_
        refine lv_iload_n hx hb dX6_ofPace_32 rfl (lv_at hl 1 rfl) ?_
        refine r_ildN (t0 := 0) (j := q_p) hC hW eM_5 rfl (rfl) (by omega) (by decide) dX6_ofPace_33 ?_
        refine r_top (y := b.2 3 q_p) (congrFun v5 _) ?_
        refine lv_goto (tgt := 39) hx hb dX6_ofPace_34 (by decide) ?_
        have hF : F_ofPace b P (nI q_p) w = (b.2 3 q_p, b) := by unfold F_ofPace; rw [if_pos c_5_2, if_pos ⟨by rw [c_25_4]; decide, by rw [c_25_4]; decide⟩, if_neg c_11_3] <;> (try rw [nI_clamp (show q_p < 2 ^ 31 by omega)]) <;> (try rfl)
        exact r_ireti hC hr hlk hW hQ (⟨by rw [hF], by rw [hF]; exact hA⟩) dX6_ofPace_39
    · refine lv_aload_n hx hb dX6_ofPace_14 rfl (lv_at hl 0 rfl) ?_
      refine gM_slick hC hW q_fl_RX6_19 dX6_ofPace_15 ?_
      refine lv_iload_n hx hb dX6_ofPace_18 rfl (lv_at hl 1 rfl) ?_
      refine r_ildN (t0 := 0) (j := q_p) hC hW eM_4 rfl (rfl) (by omega) (by decide) dX6_ofPace_19 ?_
      refine r_top (y := b.2 2 q_p) (congrFun v4 _) ?_
      refine lv_goto (tgt := 39) hx hb dX6_ofPace_20 (by decide) ?_
      have hF : F_ofPace b P (nI q_p) w = (b.2 2 q_p, b) := by unfold F_ofPace; rw [if_pos c_5_2, if_pos ⟨by rw [c_11_3]; decide, by rw [c_11_3]; decide⟩, if_pos c_11_3] <;> (try rw [nI_clamp (show q_p < 2 ^ 31 by omega)]) <;> (try rfl)
      exact r_ireti hC hr hlk hW hQ (⟨by rw [hF], by rw [hF]; exact hA⟩) dX6_ofPace_39
  · have c_5_2 := bI_z.mp c_5_2
    refine lv_iconst (v := (-1)) hx hb dX6_ofPace_8 (by decide) ?_
    have hF : F_ofPace b P p w = ((-1), b) := by unfold F_ofPace; rw [if_neg c_5_2]  <;> (try rfl)
    exact r_ireti hC hr hlk hW hQ (⟨by rw [hF], by rw [hF]; exact hA⟩) dX6_ofPace_9
set_option maxRecDepth 100000 in
set_option maxHeartbeats 4000000 in
theorem m_X6_ofRider (l : Launch) (D : va_G) (cs : CS3) (ad : Nat → Nat) (t : St) (b : St) (P R C : Nat) (r w : Int32) (hB : WF b P R C) (hA : AM b t): CT l yX6_ofRider cX6_ofRider 3 (some .int) (rmk 1 21) (wM cs ad) (tyX cs) D [.ref (ad 0), .int r, .int w] t (va_Qi (fun z u => z = (F_ofRider b R r w).1 ∧ AM (F_ofRider b R r w).2 u)) := by
  refine CT.of (own := RX6) (by decide) rfl (Nat.le_of_ble_eq_true rfl) ?_
  intro p9 e9 s m9 args below meth c9 A Q hC hr hlk hW hQ ls hl
  obtain ⟨hx, hb, hml, hown, hts⟩ := id hC
  have hl : lv_has ls 3 [(0, .ref (ad 0)), (1, .int r), (2, .int w)] := hl
  obtain ⟨⟨bP, hP8, bR, hR5, bC, hC8, hlen⟩, hl4, hPR, hrg, hrd⟩ := id hB
  obtain ⟨⟨a0, a1, a2, a3, a4⟩, ⟨v4, v5, v6, v7, v8, v16, v17⟩, hsh⟩ := id hA
  have hP : t.1 2 = nI P := a2.trans bP
  have hR : t.1 3 = nI R := a3.trans bR
  have hc4 : t.1 12 = nI C := a4.trans bC
  refine lv_aload_n hx hb dX6_ofRider_0 rfl (lv_at hl 0 rfl) ?_
  refine lv_iload_n hx hb dX6_ofRider_1 rfl (lv_at hl 1 rfl) ?_
  refine fin_i (run_V (rest := []) hC hW (m_X6_isRider l D cs ad t R r hR) k_yX6_isRider ⟨rfl, rfl⟩ q_ml_RX6_121 eM_0 rfl rfl hl.1 rfl (Nat.le_of_ble_eq_true rfl) ⟨Nat.le_of_ble_eq_true rfl, Nat.le_of_ble_eq_true rfl⟩ dX6_ofRider_2 ⟨Nat.zero_le _, Nat.zero_le _⟩) hW (fun r1 u1 H locs hp1 hW => ?_)
  have hW := hx_congr hW hp1.2
  refine r_top hp1.1 ?_
  refine lv_if_ne (tgt := 10) hx hb dX6_ofRider_5 (by decide) (fun c_5_2 => ?_) (fun c_5_2 => ?_)
  · have c_5_2 := bI_nz c_5_2
    obtain ⟨q_r, hq_r, rfl⟩ := inN_ex c_5_2 (by omega)
    refine lv_iload_n hx hb dX6_ofRider_10 rfl (lv_at hl 2 rfl) ?_
    refine lv_if_ne (tgt := 23) hx hb dX6_ofRider_11 (by decide) (fun c_11_3 => ?_) (fun c_11_3 => ?_)
    · refine lv_iload_n hx hb dX6_ofRider_23 rfl (lv_at hl 2 rfl) ?_
      refine lv_iconst (v := 1) hx hb dX6_ofRider_24 (by decide) ?_
      refine lv_icmp_ne (tgt := 37) hx hb dX6_ofRider_25 (by decide) (fun c_25_4 => ?_) (fun c_25_4 => ?_)
      · refine lv_iload_n hx hb dX6_ofRider_37 rfl (lv_at hl 2 rfl) ?_
        refine lv_iconst (v := 2) hx hb dX6_ofRider_38 (by decide) ?_
        refine lv_icmp_ne (tgt := 51) hx hb dX6_ofRider_39 (by decide) (fun c_39_5 => ?_) (fun c_39_5 => ?_)
        · refine lv_bipush (v := (-2)) hx hb dX6_ofRider_51 (by decide) ?_
          have hF : F_ofRider b R (nI q_r) w = ((-2), b) := by unfold F_ofRider; rw [if_pos c_5_2, if_neg (fun h9 => (rng3 h9).elim c_11_3 (fun h8 => h8.elim c_25_4 c_39_5))] <;> (try rw [nI_clamp (show q_r < 2 ^ 31 by omega)]) <;> (try rfl)
          exact r_ireti hC hr hlk hW hQ (⟨by rw [hF], by rw [hF]; exact hA⟩) dX6_ofRider_53
        · refine lv_aload_n hx hb dX6_ofRider_42 rfl (lv_at hl 0 rfl) ?_
          refine gM_nailsOf hC hW q_fl_RX6_31 dX6_ofRider_43 ?_
          refine lv_iload_n hx hb dX6_ofRider_46 rfl (lv_at hl 1 rfl) ?_
          refine r_ildN (t0 := 0) (j := q_r) hC hW eM_8 rfl (rfl) (by omega) (by decide) dX6_ofRider_47 ?_
          refine r_top (y := b.2 6 q_r) (congrFun v8 _) ?_
          refine lv_goto (tgt := 53) hx hb dX6_ofRider_48 (by decide) ?_
          have hF : F_ofRider b R (nI q_r) w = (b.2 6 q_r, b) := by unfold F_ofRider; rw [if_pos c_5_2, if_pos ⟨by rw [c_39_5]; decide, by rw [c_39_5]; decide⟩, if_neg c_11_3, if_neg c_25_4] <;> (try rw [nI_clamp (show q_r < 2 ^ 31 by omega)]) <;> (try rfl)
          exact r_ireti hC hr hlk hW hQ (⟨by rw [hF], by rw [hF]; exact hA⟩) dX6_ofRider_53
      · refine lv_aload_n hx hb dX6_ofRider_28 rfl (lv_at hl 0 rfl) ?_
        refine gM_speedOf hC hW q_fl_RX6_28 dX6_ofRider_29 ?_
        refine lv_iload_n hx hb dX6_ofRider_32 rfl (lv_at hl 1 rfl) ?_
        refine r_ildN (t0 := 0) (j := q_r) hC hW eM_7 rfl (rfl) (by omega) (by decide) dX6_ofRider_33 ?_
        refine r_top (y := b.2 5 q_r) (congrFun v7 _) ?_
        refine lv_goto (tgt := 53) hx hb dX6_ofRider_34 (by decide) ?_
        have hF : F_ofRider b R (nI q_r) w = (b.2 5 q_r, b) := by unfold F_ofRider; rw [if_pos c_5_2, if_pos ⟨by rw [c_25_4]; decide, by rw [c_25_4]; decide⟩, if_neg c_11_3, if_pos c_25_4] <;> (try rw [nI_clamp (show q_r < 2 ^ 31 by omega)]) <;> (try rfl)
        exact r_ireti hC hr hlk hW hQ (⟨by rw [hF], by rw [hF]; exact hA⟩) dX6_ofRider_53
    · refine lv_aload_n hx hb dX6_ofRider_14 rfl (lv_at hl 0 rfl) ?_
      refine gM_kind hC hW q_fl_RX6_25 dX6_ofRider_15 ?_
      refine lv_iload_n hx hb dX6_ofRider_18 rfl (lv_at hl 1 rfl) ?_
      refine r_ildN (t0 := 0) (j := q_r) hC hW eM_6 rfl (rfl) (by omega) (by decide) dX6_ofRider_19 ?_
      refine r_top (y := b.2 4 q_r) (congrFun v6 _) ?_
      refine lv_goto (tgt := 53) hx hb dX6_ofRider_20 (by decide) ?_
      have hF : F_ofRider b R (nI q_r) w = (b.2 4 q_r, b) := by unfold F_ofRider; rw [if_pos c_5_2, if_pos ⟨by rw [c_11_3]; decide, by rw [c_11_3]; decide⟩, if_pos c_11_3] <;> (try rw [nI_clamp (show q_r < 2 ^ 31 by omega)]) <;> (try rfl)
      exact r_ireti hC hr hlk hW hQ (⟨by rw [hF], by rw [hF]; exact hA⟩) dX6_ofRider_53
  · have c_5_2 := bI_z.mp c_5_2
    refine lv_iconst (v := (-1)) hx hb dX6_ofRider_8 (by decide) ?_
    have hF : F_ofRider b R r w = ((-1), b) := by unfold F_ofRider; rw [if_neg c_5_2]  <;> (try rfl)
    exact r_ireti hC hr hlk hW hQ (⟨by rw [hF], by rw [hF]; exact hA⟩) dX6_ofRider_9
set_option maxRecDepth 100000 in
set_option maxHeartbeats 4000000 in
theorem m_X6_scratch (l : Launch) (D : va_G) (cs : CS3) (ad : Nat → Nat) (t : St) (b : St) (P R C : Nat) (p v : Int32) (hB : WF b P R C) (hA : AM b t): CT l yX6_scratch cX6_scratch 4 (some .int) (rmk 2 42) (wM cs ad) (tyX cs) D [.ref (ad 0), .int p, .int v] t (va_Qi (fun z u => z = (F_scratch b P p v).1 ∧ AM (F_scratch b P p v).2 u)) := by
  refine CT.of (own := RX6) (by decide) rfl (Nat.le_of_ble_eq_true rfl) ?_
  intro p9 e9 s m9 args below meth c9 A Q hC hr hlk hW hQ ls hl
  obtain ⟨hx, hb, hml, hown, hts⟩ := id hC
  have hl : lv_has ls 4 [(0, .ref (ad 0)), (1, .int p), (2, .int v)] := hl
  obtain ⟨⟨bP, hP8, bR, hR5, bC, hC8, hlen⟩, hl4, hPR, hrg, hrd⟩ := id hB
  obtain ⟨⟨a0, a1, a2, a3, a4⟩, ⟨v4, v5, v6, v7, v8, v16, v17⟩, hsh⟩ := id hA
  have hP : t.1 2 = nI P := a2.trans bP
  have hR : t.1 3 = nI R := a3.trans bR
  have hc4 : t.1 12 = nI C := a4.trans bC
  refine lv_aload_n hx hb dX6_scratch_0 rfl (lv_at hl 0 rfl) ?_
  refine lv_iload_n hx hb dX6_scratch_1 rfl (lv_at hl 1 rfl) ?_
  refine fin_i (run_V (rest := []) hC hW (m_X6_isPace l D cs ad t P p hP) k_yX6_isPace ⟨rfl, rfl⟩ q_ml_RX6_118 eM_0 rfl rfl hl.1 rfl (Nat.le_of_ble_eq_true rfl) ⟨Nat.le_of_ble_eq_true rfl, Nat.le_of_ble_eq_true rfl⟩ dX6_scratch_2 ⟨Nat.zero_le _, Nat.zero_le _⟩) hW (fun r1 u1 H locs hp1 hW => ?_)
  have hW := hx_congr hW hp1.2
  refine r_top hp1.1 ?_
  refine lv_if_ne (tgt := 10) hx hb dX6_scratch_5 (by decide) (fun c_5_2 => ?_) (fun c_5_2 => ?_)
  · have c_5_2 := bI_nz c_5_2
    obtain ⟨q_p, hq_p, rfl⟩ := inN_ex c_5_2 (by omega)
    refine lv_iload_n hx hb dX6_scratch_10 rfl (lv_at hl 2 rfl) ?_
    refine fin_pi (run_P (rest := []) hC hW.2.2.2.2.2 (m_X6_isNine l v) k_yX6_isNine ⟨rfl, rfl⟩ q_ml_RX6_124 rfl hl.1 rfl (Nat.le_of_ble_eq_true rfl) ⟨Nat.le_of_ble_eq_true rfl, Nat.le_of_ble_eq_true rfl⟩ dX6_scratch_11 ⟨Nat.zero_le _, Nat.zero_le _⟩) (fun rz9 hr9 => ?_)
    refine r_top hr9 ?_
    refine lv_if_ne (tgt := 20) hx hb dX6_scratch_14 (by decide) (fun c_14_3 => ?_) (fun c_14_3 => ?_)
    · have c_14_3 := bI_nz c_14_3
      refine lv_aload_n hx hb dX6_scratch_20 rfl (lv_at hl 0 rfl) ?_
      refine gM_ahead hC hW q_fl_RX6_22 dX6_scratch_21 ?_
      refine lv_iload_n hx hb dX6_scratch_24 rfl (lv_at hl 1 rfl) ?_
      refine r_ildN (t0 := 0) (j := q_p) hC hW eM_5 rfl (rfl) (by omega) (by decide) dX6_scratch_25 ?_
      refine r_top (y := b.2 3 q_p) (congrFun v5 _) ?_
      refine lv_istore_n (lv' := [(3, .int (b.2 3 q_p)), (0, .ref (ad 0)), (1, .int (nI q_p)), (2, .int v)]) hx hb dX6_scratch_26 rfl hl (by decide) rfl (fun ls hl => ?_)
      refine lv_aload_n hx hb dX6_scratch_27 rfl (lv_at hl 1 rfl) ?_
      refine gM_ahead hC hW q_fl_RX6_22 dX6_scratch_28 ?_
      refine lv_iload_n hx hb dX6_scratch_31 rfl (lv_at hl 2 rfl) ?_
      refine lv_iload_n hx hb dX6_scratch_32 rfl (lv_at hl 3 rfl) ?_
      refine r_istN (t0 := 0) (j := q_p) hC hW eM_5 rfl (rfl) (by omega) (by decide) (sM_5 _) dX6_scratch_33 (fun H locs hW => ?_)
      have hW : HX (wM cs ad) (tyX cs) D A s.heap s (t.1, va_up t.2 5 (upd (t.2 5) q_p v)) H locs := hW
      have hW : HX (wM cs ad) (tyX cs) D A s.heap s (t.1, va_up t.2 5 (upd (b.2 3) q_p v)) H locs := hx_congr hW (by rw [v5])
      refine lv_iload_n hx hb dX6_scratch_34 rfl (lv_at hl 0 rfl) ?_
      have hF : F_scratch b P (nI q_p) v = (b.2 3 q_p, setS b 3 q_p v) := by unfold F_scratch; rw [if_pos c_5_2, if_pos c_14_3] <;> (try rw [nI_clamp (show q_p < 2 ^ 31 by omega)]) <;> (try rfl)
      exact r_ireti hC hr hlk hW hQ (⟨by rw [hF], by rw [hF]; exact am_arr hA 3 5 _ (by decide)⟩) dX6_scratch_35
    · have c_14_3 := bI_z.mp c_14_3
      refine lv_bipush (v := (-2)) hx hb dX6_scratch_17 (by decide) ?_
      have hF : F_scratch b P (nI q_p) v = ((-2), b) := by unfold F_scratch; rw [if_pos c_5_2, if_neg c_14_3] <;> (try rw [nI_clamp (show q_p < 2 ^ 31 by omega)]) <;> (try rfl)
      exact r_ireti hC hr hlk hW hQ (⟨by rw [hF], by rw [hF]; exact hA⟩) dX6_scratch_19
  · have c_5_2 := bI_z.mp c_5_2
    refine lv_iconst (v := (-1)) hx hb dX6_scratch_8 (by decide) ?_
    have hF : F_scratch b P p v = ((-1), b) := by unfold F_scratch; rw [if_neg c_5_2]  <;> (try rfl)
    exact r_ireti hC hr hlk hW hQ (⟨by rw [hF], by rw [hF]; exact hA⟩) dX6_scratch_9
set_option maxRecDepth 100000 in
set_option maxHeartbeats 4000000 in
theorem m_X6_speed (l : Launch) (D : va_G) (cs : CS3) (ad : Nat → Nat) (t : St) (b : St) (P R C : Nat) (r v : Int32) (hB : WF b P R C) (hA : AM b t): CT l yX6_speed cX6_speed 4 (some .int) (rmk 1 22) (wM cs ad) (tyX cs) D [.ref (ad 0), .int r, .int v] t (va_Qi (fun z u => z = (F_speed b R r v).1 ∧ AM (F_speed b R r v).2 u)) := by
  refine CT.of (own := RX6) (by decide) rfl (Nat.le_of_ble_eq_true rfl) ?_
  intro p9 e9 s m9 args below meth c9 A Q hC hr hlk hW hQ ls hl
  obtain ⟨hx, hb, hml, hown, hts⟩ := id hC
  have hl : lv_has ls 4 [(0, .ref (ad 0)), (1, .int r), (2, .int v)] := hl
  obtain ⟨⟨bP, hP8, bR, hR5, bC, hC8, hlen⟩, hl4, hPR, hrg, hrd⟩ := id hB
  obtain ⟨⟨a0, a1, a2, a3, a4⟩, ⟨v4, v5, v6, v7, v8, v16, v17⟩, hsh⟩ := id hA
  have hP : t.1 2 = nI P := a2.trans bP
  have hR : t.1 3 = nI R := a3.trans bR
  have hc4 : t.1 12 = nI C := a4.trans bC
  refine lv_aload_n hx hb dX6_speed_0 rfl (lv_at hl 0 rfl) ?_
  refine lv_iload_n hx hb dX6_speed_1 rfl (lv_at hl 1 rfl) ?_
  refine fin_i (run_V (rest := []) hC hW (m_X6_isRider l D cs ad t R r hR) k_yX6_isRider ⟨rfl, rfl⟩ q_ml_RX6_121 eM_0 rfl rfl hl.1 rfl (Nat.le_of_ble_eq_true rfl) ⟨Nat.le_of_ble_eq_true rfl, Nat.le_of_ble_eq_true rfl⟩ dX6_speed_2 ⟨Nat.zero_le _, Nat.zero_le _⟩) hW (fun r1 u1 H locs hp1 hW => ?_)
  have hW := hx_congr hW hp1.2
  refine r_top hp1.1 ?_
  refine lv_if_ne (tgt := 10) hx hb dX6_speed_5 (by decide) (fun c_5_2 => ?_) (fun c_5_2 => ?_)
  · have c_5_2 := bI_nz c_5_2
    obtain ⟨q_r, hq_r, rfl⟩ := inN_ex c_5_2 (by omega)
    refine lv_iload_n hx hb dX6_speed_10 rfl (lv_at hl 2 rfl) ?_
    refine lv_iconst (v := 0) hx hb dX6_speed_11 (by decide) ?_
    refine lv_bipush (v := 99) hx hb dX6_speed_12 (by decide) ?_
    refine fin_pi (run_P (rest := []) hC hW.2.2.2.2.2 (m_X6_within l v 0 99) k_yX6_within ⟨rfl, rfl⟩ q_ml_RX6_67 rfl hl.1 rfl (Nat.le_of_ble_eq_true rfl) ⟨Nat.le_of_ble_eq_true rfl, Nat.le_of_ble_eq_true rfl⟩ dX6_speed_14 ⟨Nat.zero_le _, Nat.zero_le _⟩) (fun rz9 hr9 => ?_)
    refine r_top hr9 ?_
    refine lv_if_ne (tgt := 23) hx hb dX6_speed_17 (by decide) (fun c_17_3 => ?_) (fun c_17_3 => ?_)
    · have c_17_3 := bI_nz c_17_3
      refine lv_aload_n hx hb dX6_speed_23 rfl (lv_at hl 0 rfl) ?_
      refine gM_speedOf hC hW q_fl_RX6_28 dX6_speed_24 ?_
      refine lv_iload_n hx hb dX6_speed_27 rfl (lv_at hl 1 rfl) ?_
      refine r_ildN (t0 := 0) (j := q_r) hC hW eM_7 rfl (rfl) (by omega) (by decide) dX6_speed_28 ?_
      refine r_top (y := b.2 5 q_r) (congrFun v7 _) ?_
      refine lv_istore_n (lv' := [(3, .int (b.2 5 q_r)), (0, .ref (ad 0)), (1, .int (nI q_r)), (2, .int v)]) hx hb dX6_speed_29 rfl hl (by decide) rfl (fun ls hl => ?_)
      refine lv_aload_n hx hb dX6_speed_30 rfl (lv_at hl 1 rfl) ?_
      refine gM_speedOf hC hW q_fl_RX6_28 dX6_speed_31 ?_
      refine lv_iload_n hx hb dX6_speed_34 rfl (lv_at hl 2 rfl) ?_
      refine lv_iload_n hx hb dX6_speed_35 rfl (lv_at hl 3 rfl) ?_
      refine r_istN (t0 := 0) (j := q_r) hC hW eM_7 rfl (rfl) (by omega) (by decide) (sM_7 _) dX6_speed_36 (fun H locs hW => ?_)
      have hW : HX (wM cs ad) (tyX cs) D A s.heap s (t.1, va_up t.2 7 (upd (t.2 7) q_r v)) H locs := hW
      have hW : HX (wM cs ad) (tyX cs) D A s.heap s (t.1, va_up t.2 7 (upd (b.2 5) q_r v)) H locs := hx_congr hW (by rw [v7])
      refine lv_iload_n hx hb dX6_speed_37 rfl (lv_at hl 0 rfl) ?_
      have hF : F_speed b R (nI q_r) v = (b.2 5 q_r, setS b 5 q_r v) := by unfold F_speed; rw [if_pos c_5_2, if_pos c_17_3] <;> (try rw [nI_clamp (show q_r < 2 ^ 31 by omega)]) <;> (try rfl)
      exact r_ireti hC hr hlk hW hQ (⟨by rw [hF], by rw [hF]; exact am_arr hA 5 7 _ (by decide)⟩) dX6_speed_38
    · have c_17_3 := bI_z.mp c_17_3
      refine lv_bipush (v := (-2)) hx hb dX6_speed_20 (by decide) ?_
      have hF : F_speed b R (nI q_r) v = ((-2), b) := by unfold F_speed; rw [if_pos c_5_2, if_neg c_17_3] <;> (try rw [nI_clamp (show q_r < 2 ^ 31 by omega)]) <;> (try rfl)
      exact r_ireti hC hr hlk hW hQ (⟨by rw [hF], by rw [hF]; exact hA⟩) dX6_speed_22
  · have c_5_2 := bI_z.mp c_5_2
    refine lv_iconst (v := (-1)) hx hb dX6_speed_8 (by decide) ?_
    have hF : F_speed b R r v = ((-1), b) := by unfold F_speed; rw [if_neg c_5_2]  <;> (try rfl)
    exact r_ireti hC hr hlk hW hQ (⟨by rw [hF], by rw [hF]; exact hA⟩) dX6_speed_9
set_option maxRecDepth 100000 in
set_option maxHeartbeats 4000000 in
theorem m_X6_shoe (l : Launch) (D : va_G) (cs : CS3) (ad : Nat → Nat) (t : St) (b : St) (P R C : Nat) (r v : Int32) (hB : WF b P R C) (hA : AM b t): CT l yX6_shoe cX6_shoe 4 (some .int) (rmk 2 42) (wM cs ad) (tyX cs) D [.ref (ad 0), .int r, .int v] t (va_Qi (fun z u => z = (F_shoe b R r v).1 ∧ AM (F_shoe b R r v).2 u)) := by
  refine CT.of (own := RX6) (by decide) rfl (Nat.le_of_ble_eq_true rfl) ?_
  intro p9 e9 s m9 args below meth c9 A Q hC hr hlk hW hQ ls hl
  obtain ⟨hx, hb, hml, hown, hts⟩ := id hC
  have hl : lv_has ls 4 [(0, .ref (ad 0)), (1, .int r), (2, .int v)] := hl
  obtain ⟨⟨bP, hP8, bR, hR5, bC, hC8, hlen⟩, hl4, hPR, hrg, hrd⟩ := id hB
  obtain ⟨⟨a0, a1, a2, a3, a4⟩, ⟨v4, v5, v6, v7, v8, v16, v17⟩, hsh⟩ := id hA
  have hP : t.1 2 = nI P := a2.trans bP
  have hR : t.1 3 = nI R := a3.trans bR
  have hc4 : t.1 12 = nI C := a4.trans bC
  refine lv_aload_n hx hb dX6_shoe_0 rfl (lv_at hl 0 rfl) ?_
  refine lv_iload_n hx hb dX6_shoe_1 rfl (lv_at hl 1 rfl) ?_
  refine fin_i (run_V (rest := []) hC hW (m_X6_isRider l D cs ad t R r hR) k_yX6_isRider ⟨rfl, rfl⟩ q_ml_RX6_121 eM_0 rfl rfl hl.1 rfl (Nat.le_of_ble_eq_true rfl) ⟨Nat.le_of_ble_eq_true rfl, Nat.le_of_ble_eq_true rfl⟩ dX6_shoe_2 ⟨Nat.zero_le _, Nat.zero_le _⟩) hW (fun r1 u1 H locs hp1 hW => ?_)
  have hW := hx_congr hW hp1.2
  refine r_top hp1.1 ?_
  refine lv_if_ne (tgt := 10) hx hb dX6_shoe_5 (by decide) (fun c_5_2 => ?_) (fun c_5_2 => ?_)
  · have c_5_2 := bI_nz c_5_2
    obtain ⟨q_r, hq_r, rfl⟩ := inN_ex c_5_2 (by omega)
    refine lv_iload_n hx hb dX6_shoe_10 rfl (lv_at hl 2 rfl) ?_
    refine fin_pi (run_P (rest := []) hC hW.2.2.2.2.2 (m_X6_isNine l v) k_yX6_isNine ⟨rfl, rfl⟩ q_ml_RX6_124 rfl hl.1 rfl (Nat.le_of_ble_eq_true rfl) ⟨Nat.le_of_ble_eq_true rfl, Nat.le_of_ble_eq_true rfl⟩ dX6_shoe_11 ⟨Nat.zero_le _, Nat.zero_le _⟩) (fun rz9 hr9 => ?_)
    refine r_top hr9 ?_
    refine lv_if_ne (tgt := 20) hx hb dX6_shoe_14 (by decide) (fun c_14_3 => ?_) (fun c_14_3 => ?_)
    · have c_14_3 := bI_nz c_14_3
      refine lv_aload_n hx hb dX6_shoe_20 rfl (lv_at hl 0 rfl) ?_
      refine gM_nailsOf hC hW q_fl_RX6_31 dX6_shoe_21 ?_
      refine lv_iload_n hx hb dX6_shoe_24 rfl (lv_at hl 1 rfl) ?_
      refine r_ildN (t0 := 0) (j := q_r) hC hW eM_8 rfl (rfl) (by omega) (by decide) dX6_shoe_25 ?_
      refine r_top (y := b.2 6 q_r) (congrFun v8 _) ?_
      refine lv_istore_n (lv' := [(3, .int (b.2 6 q_r)), (0, .ref (ad 0)), (1, .int (nI q_r)), (2, .int v)]) hx hb dX6_shoe_26 rfl hl (by decide) rfl (fun ls hl => ?_)
      refine lv_aload_n hx hb dX6_shoe_27 rfl (lv_at hl 1 rfl) ?_
      refine gM_nailsOf hC hW q_fl_RX6_31 dX6_shoe_28 ?_
      refine lv_iload_n hx hb dX6_shoe_31 rfl (lv_at hl 2 rfl) ?_
      refine lv_iload_n hx hb dX6_shoe_32 rfl (lv_at hl 3 rfl) ?_
      refine r_istN (t0 := 0) (j := q_r) hC hW eM_8 rfl (rfl) (by omega) (by decide) (sM_8 _) dX6_shoe_33 (fun H locs hW => ?_)
      have hW : HX (wM cs ad) (tyX cs) D A s.heap s (t.1, va_up t.2 8 (upd (t.2 8) q_r v)) H locs := hW
      have hW : HX (wM cs ad) (tyX cs) D A s.heap s (t.1, va_up t.2 8 (upd (b.2 6) q_r v)) H locs := hx_congr hW (by rw [v8])
      refine lv_iload_n hx hb dX6_shoe_34 rfl (lv_at hl 0 rfl) ?_
      have hF : F_shoe b R (nI q_r) v = (b.2 6 q_r, setS b 6 q_r v) := by unfold F_shoe; rw [if_pos c_5_2, if_pos c_14_3] <;> (try rw [nI_clamp (show q_r < 2 ^ 31 by omega)]) <;> (try rfl)
      exact r_ireti hC hr hlk hW hQ (⟨by rw [hF], by rw [hF]; exact am_arr hA 6 8 _ (by decide)⟩) dX6_shoe_35
    · have c_14_3 := bI_z.mp c_14_3
      refine lv_bipush (v := (-2)) hx hb dX6_shoe_17 (by decide) ?_
      have hF : F_shoe b R (nI q_r) v = ((-2), b) := by unfold F_shoe; rw [if_pos c_5_2, if_neg c_14_3] <;> (try rw [nI_clamp (show q_r < 2 ^ 31 by omega)]) <;> (try rfl)
      exact r_ireti hC hr hlk hW hQ (⟨by rw [hF], by rw [hF]; exact hA⟩) dX6_shoe_19
  · have c_5_2 := bI_z.mp c_5_2
    refine lv_iconst (v := (-1)) hx hb dX6_shoe_8 (by decide) ?_
    have hF : F_shoe b R r v = ((-1), b) := by unfold F_shoe; rw [if_neg c_5_2]  <;> (try rfl)
    exact r_ireti hC hr hlk hW hQ (⟨by rw [hF], by rw [hF]; exact hA⟩) dX6_shoe_9
set_option maxRecDepth 100000 in
set_option maxHeartbeats 4000000 in
theorem m_X6_takes (l : Launch) (D : va_G) (cs : CS3) (ad : Nat → Nat) (t : St) (b : St) (P R C : Nat) (r p s0 : Int32) (hB : WF b P R C) (hA : AM b t): CT l yX6_takes cX6_takes 4 (some .int) (rmk 2 42) (wM cs ad) (tyX cs) D [.ref (ad 0), .int r, .int p, .int s0] t (va_Qi (fun z u => z = (F_takes b P R r p s0).1 ∧ AM (F_takes b P R r p s0).2 u)) := by
  refine CT.of (own := RX6) (by decide) rfl (Nat.le_of_ble_eq_true rfl) ?_
  intro p9 e9 s m9 args below meth c9 A Q hC hr hlk hW hQ ls hl
  obtain ⟨hx, hb, hml, hown, hts⟩ := id hC
  have hl : lv_has ls 4 [(0, .ref (ad 0)), (1, .int r), (2, .int p), (3, .int s0)] := hl
  obtain ⟨⟨bP, hP8, bR, hR5, bC, hC8, hlen⟩, hl4, hPR, hrg, hrd⟩ := id hB
  obtain ⟨⟨a0, a1, a2, a3, a4⟩, ⟨v4, v5, v6, v7, v8, v16, v17⟩, hsh⟩ := id hA
  have hP : t.1 2 = nI P := a2.trans bP
  have hR : t.1 3 = nI R := a3.trans bR
  have hc4 : t.1 12 = nI C := a4.trans bC
  refine lv_aload_n hx hb dX6_takes_0 rfl (lv_at hl 0 rfl) ?_
  refine lv_iload_n hx hb dX6_takes_1 rfl (lv_at hl 1 rfl) ?_
  refine fin_i (run_V (rest := []) hC hW (m_X6_isRider l D cs ad t R r hR) k_yX6_isRider ⟨rfl, rfl⟩ q_ml_RX6_121 eM_0 rfl rfl hl.1 rfl (Nat.le_of_ble_eq_true rfl) ⟨Nat.le_of_ble_eq_true rfl, Nat.le_of_ble_eq_true rfl⟩ dX6_takes_2 ⟨Nat.zero_le _, Nat.zero_le _⟩) hW (fun r1 u1 H locs hp1 hW => ?_)
  have hW := hx_congr hW hp1.2
  refine r_top hp1.1 ?_
  refine lv_if_eq (tgt := 16) hx hb dX6_takes_5 (by decide) (fun c_5_2 => ?_) (fun c_5_2 => ?_)
  · have c_5_2 := bI_z.mp c_5_2
    refine lv_iconst (v := (-1)) hx hb dX6_takes_16 (by decide) ?_
    have hF : F_takes b P R r p s0 = ((-1), b) := by unfold F_takes; rw [if_neg c_5_2]  <;> (try rfl)
    exact r_ireti hC hr hlk hW hQ (⟨by rw [hF], by rw [hF]; exact hA⟩) dX6_takes_17
  · have c_5_2 := bI_nz c_5_2
    obtain ⟨q_r, hq_r, rfl⟩ := inN_ex c_5_2 (by omega)
    refine lv_aload_n hx hb dX6_takes_8 rfl (lv_at hl 0 rfl) ?_
    refine lv_iload_n hx hb dX6_takes_9 rfl (lv_at hl 2 rfl) ?_
    refine fin_i (run_V (rest := []) hC hW (m_X6_isPace l D cs ad t P p hP) k_yX6_isPace ⟨rfl, rfl⟩ q_ml_RX6_118 eM_0 rfl rfl hl.1 rfl (Nat.le_of_ble_eq_true rfl) ⟨Nat.le_of_ble_eq_true rfl, Nat.le_of_ble_eq_true rfl⟩ dX6_takes_10 ⟨Nat.zero_le _, Nat.zero_le _⟩) hW (fun r3 u3 H locs hp3 hW => ?_)
    have hW := hx_congr hW hp3.2
    refine r_top hp3.1 ?_
    refine lv_if_ne (tgt := 18) hx hb dX6_takes_13 (by decide) (fun c_13_4 => ?_) (fun c_13_4 => ?_)
    · have c_13_4 := bI_nz c_13_4
      obtain ⟨q_p, hq_p, rfl⟩ := inN_ex c_13_4 (by omega)
      refine lv_iload_n hx hb dX6_takes_18 rfl (lv_at hl 3 rfl) ?_
      refine fin_pi (run_P (rest := []) hC hW.2.2.2.2.2 (m_X6_isNine l s0) k_yX6_isNine ⟨rfl, rfl⟩ q_ml_RX6_124 rfl hl.1 rfl (Nat.le_of_ble_eq_true rfl) ⟨Nat.le_of_ble_eq_true rfl, Nat.le_of_ble_eq_true rfl⟩ dX6_takes_19 ⟨Nat.zero_le _, Nat.zero_le _⟩) (fun rz9 hr9 => ?_)
      refine r_top hr9 ?_
      refine lv_if_eq (tgt := 35) hx hb dX6_takes_22 (by decide) (fun c_22_5 => ?_) (fun c_22_5 => ?_)
      · have c_22_5 := bI_z.mp c_22_5
        refine lv_bipush (v := (-2)) hx hb dX6_takes_35 (by decide) ?_
        have hF : F_takes b P R (nI q_r) (nI q_p) s0 = ((-2), b) := by unfold F_takes; rw [if_pos c_5_2, if_pos c_13_4, if_neg c_22_5] <;> (try rw [nI_clamp (show q_r < 2 ^ 31 by omega)]) <;> (try rw [nI_clamp (show q_p < 2 ^ 31 by omega)]) <;> (try rfl)
        exact r_ireti hC hr hlk hW hQ (⟨by rw [hF], by rw [hF]; exact hA⟩) dX6_takes_37
      · have c_22_5 := bI_nz c_22_5
        refine lv_aload_n hx hb dX6_takes_25 rfl (lv_at hl 0 rfl) ?_
        refine lv_iload_n hx hb dX6_takes_26 rfl (lv_at hl 1 rfl) ?_
        refine lv_iload_n hx hb dX6_takes_27 rfl (lv_at hl 2 rfl) ?_
        refine lv_iload_n hx hb dX6_takes_28 rfl (lv_at hl 3 rfl) ?_
        refine fin_i (run_V (rest := []) hC hW (m_X6_takesOf l D cs ad t P (hX P b) q_r q_p s0 (hA.eh P) (by omega) (by omega)) k_yX6_takesOf ⟨rfl, rfl⟩ q_ml_RX6_127 eM_0 rfl rfl hl.1 rfl (Nat.le_of_ble_eq_true rfl) ⟨Nat.le_of_ble_eq_true rfl, Nat.le_of_ble_eq_true rfl⟩ dX6_takes_29 ⟨Nat.zero_le _, Nat.zero_le _⟩) hW (fun r6 u6 H locs hp6 hW => ?_)
        have hW := hx_congr hW hp6.2
        refine r_top hp6.1 ?_
        refine lv_goto (tgt := 37) hx hb dX6_takes_32 (by decide) ?_
        have hF : F_takes b P R (nI q_r) (nI q_p) s0 = (toll (hX P b) q_r q_p s0, b) := by unfold F_takes; rw [if_pos c_5_2, if_pos c_13_4, if_pos c_22_5] <;> (try rw [nI_clamp (show q_r < 2 ^ 31 by omega)]) <;> (try rw [nI_clamp (show q_p < 2 ^ 31 by omega)]) <;> (try rfl)
        exact r_ireti hC hr hlk hW hQ (⟨by rw [hF], by rw [hF]; exact hA⟩) dX6_takes_37
    · have c_13_4 := bI_z.mp c_13_4
      refine lv_iconst (v := (-1)) hx hb dX6_takes_16 (by decide) ?_
      have hF : F_takes b P R (nI q_r) p s0 = ((-1), b) := by unfold F_takes; rw [if_pos c_5_2, if_neg c_13_4] <;> (try rw [nI_clamp (show q_r < 2 ^ 31 by omega)]) <;> (try rfl)
      exact r_ireti hC hr hlk hW hQ (⟨by rw [hF], by rw [hF]; exact hA⟩) dX6_takes_17
set_option maxRecDepth 100000 in
set_option maxHeartbeats 4000000 in
theorem m_X6_reading (l : Launch) (D : va_G) (cs : CS3) (ad : Nat → Nat) (t : St) (b : St) (P R C : Nat) (r y : Int32) (hB : WF b P R C) (hA : AM b t): CT l yX6_reading cX6_reading 3 (some .int) (rmk 1 22) (wM cs ad) (tyX cs) D [.ref (ad 0), .int r, .int y] t (va_Qi (fun z u => z = (F_reading b R C r y).1 ∧ AM (F_reading b R C r y).2 u)) := by
  refine CT.of (own := RX6) (by decide) rfl (Nat.le_of_ble_eq_true rfl) ?_
  intro p9 e9 s m9 args below meth c9 A Q hC hr hlk hW hQ ls hl
  obtain ⟨hx, hb, hml, hown, hts⟩ := id hC
  have hl : lv_has ls 3 [(0, .ref (ad 0)), (1, .int r), (2, .int y)] := hl
  obtain ⟨⟨bP, hP8, bR, hR5, bC, hC8, hlen⟩, hl4, hPR, hrg, hrd⟩ := id hB
  obtain ⟨⟨a0, a1, a2, a3, a4⟩, ⟨v4, v5, v6, v7, v8, v16, v17⟩, hsh⟩ := id hA
  have hP : t.1 2 = nI P := a2.trans bP
  have hR : t.1 3 = nI R := a3.trans bR
  have hc4 : t.1 12 = nI C := a4.trans bC
  refine lv_aload_n hx hb dX6_reading_0 rfl (lv_at hl 0 rfl) ?_
  refine lv_iload_n hx hb dX6_reading_1 rfl (lv_at hl 1 rfl) ?_
  refine fin_i (run_V (rest := []) hC hW (m_X6_isRider l D cs ad t R r hR) k_yX6_isRider ⟨rfl, rfl⟩ q_ml_RX6_121 eM_0 rfl rfl hl.1 rfl (Nat.le_of_ble_eq_true rfl) ⟨Nat.le_of_ble_eq_true rfl, Nat.le_of_ble_eq_true rfl⟩ dX6_reading_2 ⟨Nat.zero_le _, Nat.zero_le _⟩) hW (fun r1 u1 H locs hp1 hW => ?_)
  have hW := hx_congr hW hp1.2
  refine r_top hp1.1 ?_
  refine lv_if_ne (tgt := 10) hx hb dX6_reading_5 (by decide) (fun c_5_2 => ?_) (fun c_5_2 => ?_)
  · have c_5_2 := bI_nz c_5_2
    obtain ⟨q_r, hq_r, rfl⟩ := inN_ex c_5_2 (by omega)
    refine lv_iload_n hx hb dX6_reading_10 rfl (lv_at hl 2 rfl) ?_
    refine lv_iconst (v := 0) hx hb dX6_reading_11 (by decide) ?_
    refine lv_bipush (v := 8) hx hb dX6_reading_12 (by decide) ?_
    refine fin_pi (run_P (rest := []) hC hW.2.2.2.2.2 (m_X6_within l y 0 8) k_yX6_within ⟨rfl, rfl⟩ q_ml_RX6_67 rfl hl.1 rfl (Nat.le_of_ble_eq_true rfl) ⟨Nat.le_of_ble_eq_true rfl, Nat.le_of_ble_eq_true rfl⟩ dX6_reading_14 ⟨Nat.zero_le _, Nat.zero_le _⟩) (fun rz9 hr9 => ?_)
    refine r_top hr9 ?_
    refine lv_if_ne (tgt := 23) hx hb dX6_reading_17 (by decide) (fun c_17_3 => ?_) (fun c_17_3 => ?_)
    · have c_17_3 := bI_nz c_17_3
      refine lv_aload_n hx hb dX6_reading_23 rfl (lv_at hl 0 rfl) ?_
      refine gM_readings hC hW q_fl_RX6_104 dX6_reading_24 ?_
      refine r_top (y := nI C) hc4 ?_
      refine lv_bipush (v := 8) hx hb dX6_reading_27 (by decide) ?_
      refine lv_icmp_ne (tgt := 35) hx hb dX6_reading_29 (by decide) (fun c_29_4 => ?_) (fun c_29_4 => ?_)
      · have c_29_4 : ¬ C = 8 := fun h => c_29_4 ((nI_eq (a := C) (b := 8) (by omega) (by omega)).mpr h)
        refine lv_aload_n hx hb dX6_reading_35 rfl (lv_at hl 0 rfl) ?_
        refine gM_readRiderOf hC hW q_fl_RX6_55 dX6_reading_36 ?_
        refine lv_aload_n hx hb dX6_reading_39 rfl (lv_at hl 0 rfl) ?_
        refine gM_readings hC hW q_fl_RX6_104 dX6_reading_40 ?_
        refine r_top (y := nI C) hc4 ?_
        refine lv_iload_n hx hb dX6_reading_43 rfl (lv_at hl 1 rfl) ?_
        refine r_istN (t0 := 0) (j := C) hC hW eM_16 rfl (rfl) (by omega) (by decide) (sM_16 _) dX6_reading_44 (fun H locs hW => ?_)
        have hW : HX (wM cs ad) (tyX cs) D A s.heap s (t.1, va_up t.2 16 (upd (t.2 16) C (nI q_r))) H locs := hW
        have hW : HX (wM cs ad) (tyX cs) D A s.heap s (t.1, va_up t.2 16 (upd (b.2 8) C (nI q_r))) H locs := hx_congr hW (by rw [v16])
        refine lv_aload_n hx hb dX6_reading_45 rfl (lv_at hl 0 rfl) ?_
        refine gM_readHeight hC hW q_fl_RX6_58 dX6_reading_46 ?_
        refine lv_aload_n hx hb dX6_reading_49 rfl (lv_at hl 0 rfl) ?_
        refine gM_readings hC hW q_fl_RX6_104 dX6_reading_50 ?_
        refine r_top (y := nI C) hc4 ?_
        refine lv_iload_n hx hb dX6_reading_53 rfl (lv_at hl 2 rfl) ?_
        refine r_istN (t0 := 0) (j := C) hC hW eM_17 rfl (rfl) (by omega) (by decide) (sM_17 _) dX6_reading_54 (fun H locs hW => ?_)
        have hW : HX (wM cs ad) (tyX cs) D A s.heap s (t.1, va_up (va_up t.2 16 (upd (b.2 8) C (nI q_r))) 17 (upd (t.2 17) C y)) H locs := hW
        have hW : HX (wM cs ad) (tyX cs) D A s.heap s (t.1, va_up (va_up t.2 16 (upd (b.2 8) C (nI q_r))) 17 (upd (b.2 9) C y)) H locs := hx_congr hW (by rw [v17])
        refine lv_aload_n hx hb dX6_reading_55 rfl (lv_at hl 0 rfl) ?_
        refine lv_dup hx hb dX6_reading_56 rfl ?_
        refine gM_readings hC hW q_fl_RX6_104 dX6_reading_57 ?_
        refine r_top (y := nI C) hc4 ?_
        refine lv_iconst (v := 1) hx hb dX6_reading_60 (by decide) ?_
        refine lv_iadd hx hb dX6_reading_61 ?_
        refine r_top (y := nI (C + 1)) (nI_add C 1) ?_
        refine pM_readings hC hW q_fl_RX6_104 dX6_reading_62 (fun H locs hW => ?_)
        have hW : HX (wM cs ad) (tyX cs) D A s.heap s (va_up t.1 12 (nI (C + 1)), va_up (va_up t.2 16 (upd (b.2 8) C (nI q_r))) 17 (upd (b.2 9) C y)) H locs := hW
        refine lv_aload_n hx hb dX6_reading_65 rfl (lv_at hl 0 rfl) ?_
        refine gM_readings hC hW q_fl_RX6_104 dX6_reading_66 ?_
        refine r_top (y := nI (C + 1)) rfl ?_
        refine lv_iconst (v := 1) hx hb dX6_reading_69 (by decide) ?_
        refine lv_isub hx hb dX6_reading_70 ?_
        have hF : F_reading b R C (nI q_r) y = ((nI (C + 1)) - 1, (va_up b.1 4 (nI (C + 1)), va_up (va_up b.2 8 (upd (b.2 8) C (nI q_r))) 9 (upd (b.2 9) C y))) := by unfold F_reading; rw [if_pos c_5_2, if_pos c_17_3, if_neg (by rw [bC]; exact nI_ge (b := 8) (by omega) (by decide))] <;> (try rw [nI_clamp (show q_r < 2 ^ 31 by omega)]) <;> (try rfl) <;> (try rw [nI_pred])
        exact r_ireti hC hr hlk hW hQ (⟨by rw [hF], by rw [hF]; exact am_cnt (am_arr (am_arr hA 8 16 _ (by decide)) 9 17 _ (by decide)) _⟩) dX6_reading_71
      · have c_29_4 : C = 8 := (nI_eq (a := C) (b := 8) (by omega) (by omega)).mp c_29_4
        refine lv_bipush (v := (-4)) hx hb dX6_reading_32 (by decide) ?_
        have hF : F_reading b R C (nI q_r) y = ((-4), b) := by unfold F_reading; rw [if_pos c_5_2, if_pos c_17_3, if_pos (by rw [bC]; exact nI_le (a := 8) (by omega) (by omega))] <;> (try rw [nI_clamp (show q_r < 2 ^ 31 by omega)]) <;> (try rfl) <;> (try rw [nI_pred])
        exact r_ireti hC hr hlk hW hQ (⟨by rw [hF], by rw [hF]; exact hA⟩) dX6_reading_34
    · have c_17_3 := bI_z.mp c_17_3
      refine lv_bipush (v := (-2)) hx hb dX6_reading_20 (by decide) ?_
      have hF : F_reading b R C (nI q_r) y = ((-2), b) := by unfold F_reading; rw [if_pos c_5_2, if_neg c_17_3] <;> (try rw [nI_clamp (show q_r < 2 ^ 31 by omega)]) <;> (try rfl) <;> (try rw [nI_pred])
      exact r_ireti hC hr hlk hW hQ (⟨by rw [hF], by rw [hF]; exact hA⟩) dX6_reading_22
  · have c_5_2 := bI_z.mp c_5_2
    refine lv_iconst (v := (-1)) hx hb dX6_reading_8 (by decide) ?_
    have hF : F_reading b R C r y = ((-1), b) := by unfold F_reading; rw [if_neg c_5_2]  <;> (try rfl) <;> (try rw [nI_pred])
    exact r_ireti hC hr hlk hW hQ (⟨by rw [hF], by rw [hF]; exact hA⟩) dX6_reading_9
set_option maxRecDepth 100000 in
set_option maxHeartbeats 4000000 in
theorem m_X6_back (l : Launch) (D : va_G) (cs : CS3) (ad : Nat → Nat) (t : St) (b : St) (P R C : Nat) (k : Int32) (hB : WF b P R C) (hA : AM b t): CT l yX6_back cX6_back 2 (some .int) (rmk 1 22) (wM cs ad) (tyX cs) D [.ref (ad 0), .int k] t (va_Qi (fun z u => z = (F_back b k).1 ∧ AM (F_back b k).2 u)) := by
  refine CT.of (own := RX6) (by decide) rfl (Nat.le_of_ble_eq_true rfl) ?_
  intro p9 e9 s m9 args below meth c9 A Q hC hr hlk hW hQ ls hl
  obtain ⟨hx, hb, hml, hown, hts⟩ := id hC
  have hl : lv_has ls 2 [(0, .ref (ad 0)), (1, .int k)] := hl
  obtain ⟨⟨bP, hP8, bR, hR5, bC, hC8, hlen⟩, hl4, hPR, hrg, hrd⟩ := id hB
  obtain ⟨⟨a0, a1, a2, a3, a4⟩, ⟨v4, v5, v6, v7, v8, v16, v17⟩, hsh⟩ := id hA
  have hP : t.1 2 = nI P := a2.trans bP
  have hR : t.1 3 = nI R := a3.trans bR
  have hc4 : t.1 12 = nI C := a4.trans bC
  refine lv_iload_n hx hb dX6_back_0 rfl (lv_at hl 1 rfl) ?_
  refine lv_iconst (v := 0) hx hb dX6_back_1 (by decide) ?_
  refine lv_aload_n hx hb dX6_back_2 rfl (lv_at hl 0 rfl) ?_
  refine gM_readings hC hW q_fl_RX6_104 dX6_back_3 ?_
  refine r_top (y := b.1 4) a4 ?_
  refine fin_pi (run_P (rest := []) hC hW.2.2.2.2.2 (m_X6_within l k 0 (b.1 4)) k_yX6_within ⟨rfl, rfl⟩ q_ml_RX6_67 rfl hl.1 rfl (Nat.le_of_ble_eq_true rfl) ⟨Nat.le_of_ble_eq_true rfl, Nat.le_of_ble_eq_true rfl⟩ dX6_back_6 ⟨Nat.zero_le _, Nat.zero_le _⟩) (fun rz9 hr9 => ?_)
  refine r_top hr9 ?_
  refine lv_if_ne (tgt := 15) hx hb dX6_back_9 (by decide) (fun c_9_1 => ?_) (fun c_9_1 => ?_)
  · have c_9_1 := bI_nz c_9_1
    refine lv_aload_n hx hb dX6_back_15 rfl (lv_at hl 0 rfl) ?_
    refine lv_dup hx hb dX6_back_16 rfl ?_
    refine gM_readings hC hW q_fl_RX6_104 dX6_back_17 ?_
    refine r_top (y := b.1 4) a4 ?_
    refine lv_iload_n hx hb dX6_back_20 rfl (lv_at hl 1 rfl) ?_
    refine lv_isub hx hb dX6_back_21 ?_
    refine pM_readings hC hW q_fl_RX6_104 dX6_back_22 (fun H locs hW => ?_)
    have hW : HX (wM cs ad) (tyX cs) D A s.heap s (va_up t.1 12 ((b.1 4) - k), t.2) H locs := hW
    refine lv_aload_n hx hb dX6_back_25 rfl (lv_at hl 0 rfl) ?_
    refine gM_readings hC hW q_fl_RX6_104 dX6_back_26 ?_
    refine r_top (y := (b.1 4) - k) rfl ?_
    have hF : F_back b k = ((b.1 4) - k, (va_up b.1 4 (b.1 4 - k), b.2)) := by unfold F_back; rw [if_pos c_9_1]  <;> (try rfl)
    exact r_ireti hC hr hlk hW hQ (⟨by rw [hF], by rw [hF]; exact am_cnt hA _⟩) dX6_back_29
  · have c_9_1 := bI_z.mp c_9_1
    refine lv_bipush (v := (-2)) hx hb dX6_back_12 (by decide) ?_
    have hF : F_back b k = ((-2), b) := by unfold F_back; rw [if_neg c_9_1]  <;> (try rfl)
    exact r_ireti hC hr hlk hW hQ (⟨by rw [hF], by rw [hF]; exact hA⟩) dX6_back_14
set_option maxRecDepth 100000 in
set_option maxHeartbeats 4000000 in
theorem m_X6_sheet (l : Launch) (D : va_G) (cs : CS3) (ad : Nat → Nat) (t : St) (b : St) (P R C : Nat) (x a n : Int32) (hB : WF b P R C) (hA : AM b t): CT l yX6_sheet cX6_sheet 5 (some .int) (rmk 2 42) (wM cs ad) (tyX cs) D [.ref (ad 0), .int x, .int a, .int n] t (va_Qi (fun z u => z = (F_sheet b x a n).1 ∧ AM (F_sheet b x a n).2 u)) := by
  refine CT.of (own := RX6) (by decide) rfl (Nat.le_of_ble_eq_true rfl) ?_
  intro p9 e9 s m9 args below meth c9 A Q hC hr hlk hW hQ ls hl
  obtain ⟨hx, hb, hml, hown, hts⟩ := id hC
  have hl : lv_has ls 5 [(0, .ref (ad 0)), (1, .int x), (2, .int a), (3, .int n)] := hl
  obtain ⟨⟨bP, hP8, bR, hR5, bC, hC8, hlen⟩, hl4, hPR, hrg, hrd⟩ := id hB
  obtain ⟨⟨a0, a1, a2, a3, a4⟩, ⟨v4, v5, v6, v7, v8, v16, v17⟩, hsh⟩ := id hA
  have hP : t.1 2 = nI P := a2.trans bP
  have hR : t.1 3 = nI R := a3.trans bR
  have hc4 : t.1 12 = nI C := a4.trans bC
  refine lv_aload_n hx hb dX6_sheet_0 rfl (lv_at hl 0 rfl) ?_
  refine lv_iconst (v := 0) hx hb dX6_sheet_1 (by decide) ?_
  refine pM_fault hC hW q_fl_RX6_61 dX6_sheet_2 (fun H locs hW => ?_)
  have hW : HX (wM cs ad) (tyX cs) D A s.heap s (va_up t.1 0 0, t.2) H locs := hW
  refine lv_iload_n hx hb dX6_sheet_5 rfl (lv_at hl 1 rfl) ?_
  refine fin_pi (run_P (rest := []) hC hW.2.2.2.2.2 (m_X6_isSheet l x) k_yX6_isSheet ⟨rfl, rfl⟩ q_ml_RX6_80 rfl hl.1 rfl (Nat.le_of_ble_eq_true rfl) ⟨Nat.le_of_ble_eq_true rfl, Nat.le_of_ble_eq_true rfl⟩ dX6_sheet_6 ⟨Nat.zero_le _, Nat.zero_le _⟩) (fun rz9 hr9 => ?_)
  refine r_top hr9 ?_
  refine lv_if_ne (tgt := 14) hx hb dX6_sheet_9 (by decide) (fun c_9_1 => ?_) (fun c_9_1 => ?_)
  · have c_9_1 := bI_nz c_9_1
    obtain ⟨k, hk3, rfl⟩ := rng_ex (M := 3) (n := 3) (by decide) c_9_1
    have hsr_k := srt (show k < 4 by omega) hl4 (hsh k (by omega))
    have hs_k := hsh k (by omega)
    refine lv_iload_n hx hb dX6_sheet_14 rfl (lv_at hl 2 rfl) ?_
    refine fin_pi (run_P (rest := []) hC hW.2.2.2.2.2 (m_X6_isSort l a) k_yX6_isSort ⟨rfl, rfl⟩ q_ml_RX6_84 rfl hl.1 rfl (Nat.le_of_ble_eq_true rfl) ⟨Nat.le_of_ble_eq_true rfl, Nat.le_of_ble_eq_true rfl⟩ dX6_sheet_15 ⟨Nat.zero_le _, Nat.zero_le _⟩) (fun rz9 hr9 => ?_)
    refine r_top hr9 ?_
    refine lv_if_eq (tgt := 27) hx hb dX6_sheet_18 (by decide) (fun c_18_2 => ?_) (fun c_18_2 => ?_)
    · have c_18_2 := bI_z.mp c_18_2
      refine lv_bipush (v := (-2)) hx hb dX6_sheet_27 (by decide) ?_
      have hF : F_sheet b (nI k) a n = ((-2), flt b 0) := by unfold F_sheet; rw [if_pos c_9_1, if_neg c_18_2] <;> (try rw [nI_clamp (show k < 2 ^ 31 by omega)]) <;> (try rfl)
      exact r_ireti hC hr hlk hW hQ (⟨by rw [hF], by rw [hF]; exact am_flt hA _⟩) dX6_sheet_29
    · have c_18_2 := bI_nz c_18_2
      refine lv_iload_n hx hb dX6_sheet_21 rfl (lv_at hl 3 rfl) ?_
      refine lv_bipush (v := 60) hx hb dX6_sheet_22 (by decide) ?_
      refine lv_icmp_le (tgt := 30) hx hb dX6_sheet_24 (by decide) (fun c_24_3 => ?_) (fun c_24_3 => ?_)
      · refine lv_iload_n hx hb dX6_sheet_30 rfl (lv_at hl 3 rfl) ?_
        refine lv_if_ge (tgt := 40) hx hb dX6_sheet_31 (by decide) (fun c_31_4 => ?_) (fun c_31_4 => ?_)
        · refine lv_aload_n hx hb dX6_sheet_40 rfl (lv_at hl 0 rfl) ?_
          refine gM_sorts hC hW q_fl_RX6_9 dX6_sheet_41 ?_
          refine lv_iload_n hx hb dX6_sheet_44 rfl (lv_at hl 1 rfl) ?_
          refine lv_iload_n hx hb dX6_sheet_45 rfl (lv_at hl 2 rfl) ?_
          refine r_istN (t0 := 0) (j := k) hC hW eM_1 rfl (rfl) (by omega) (by decide) (sM_1 _) dX6_sheet_46 (fun H locs hW => ?_)
          have hW : HX (wM cs ad) (tyX cs) D A s.heap s (va_up t.1 0 0, va_up t.2 1 (upd (t.2 1) k a)) H locs := hW
          refine lv_aload_n hx hb dX6_sheet_47 rfl (lv_at hl 0 rfl) ?_
          refine gM_sheetLong hC hW q_fl_RX6_13 dX6_sheet_48 ?_
          refine lv_iload_n hx hb dX6_sheet_51 rfl (lv_at hl 1 rfl) ?_
          refine lv_iload_n hx hb dX6_sheet_52 rfl (lv_at hl 3 rfl) ?_
          refine r_istN (t0 := 0) (j := k) hC hW eM_2 rfl (rfl) (by omega) (by decide) (sM_2 _) dX6_sheet_53 (fun H locs hW => ?_)
          have hW : HX (wM cs ad) (tyX cs) D A s.heap s (va_up t.1 0 0, va_up (va_up t.2 1 (upd (t.2 1) k a)) 2 (upd (t.2 2) k n)) H locs := hW
          refine lv_iconst (v := 0) hx hb dX6_sheet_54 (by decide) ?_
          refine lv_istore (lv' := [(4, .int 0), (0, .ref (ad 0)), (1, .int (nI k)), (2, .int a), (3, .int n)]) hx hb dX6_sheet_55 hl (by decide) rfl (fun ls hl => ?_)
          have hW : HX (wM cs ad) (tyX cs) D A s.heap s (va_up t.1 0 0, va_up (va_up (va_up t.2 1 (upd (t.2 1) k a)) 2 (upd (t.2 2) k n)) 3 (rowZ (t.2 3) k 0)) _ _ := hx_congr hW (by rw [rowZ_0]; exact Prod.ext rfl (by funext k9; simp only [va_up]; (repeat' split) <;> first | rfl | simp_all))
          have loop_57_5 : ∀ (f9 : Nat) (z : Nat), (z ≤ 60) → 60 - z < f9 → ∀ (H : Heap) (locs : List Loc), HX (wM cs ad) (tyX cs) D A s.heap s (va_up t.1 0 0, va_up (va_up (va_up t.2 1 (upd (t.2 1) k a)) 2 (upd (t.2 2) k n)) 3 (rowZ (t.2 3) k z)) H locs → ∀ ls : Array Slot, lv_has ls 5 [(4, .int (nI z)), (0, .ref (ad 0)), (1, .int (nI k))] → W p9 l e9 (rmk 2 42) s m9 args below meth c9 H locs 0 0 Q (F0 m9 57 ls []) := by
            intro f_57
            induction f_57 with
            | zero => intro z hz hm_57 H locs hW ls hl; exact absurd hm_57 (Nat.not_lt_zero _)
            | succ f_57 ih_57 =>
              intro z hz hm_57 H locs hW ls hl
              refine lv_iload hx hb dX6_sheet_57 (lv_at hl 0 rfl) ?_
              refine lv_bipush (v := 60) hx hb dX6_sheet_59 (by decide) ?_
              refine lv_icmp_ge (tgt := 83) hx hb dX6_sheet_61 (by decide) (fun c_61_6 => ?_) (fun c_61_6 => ?_)
              · have c_61_6 : 60 ≤ z := (nI_leI (a := 60) (b := z) (by omega) (by omega)).mp c_61_6
                refine lv_iconst (v := 1) hx hb dX6_sheet_83 (by decide) ?_
                have hz60 : z = 60 := by omega
                rw [hz60] at hW
                have hF : F_sheet b (nI k) a n = (1, newS (flt b 0) k a n) := by unfold F_sheet; rw [if_pos c_9_1, if_pos c_18_2, if_pos c_24_3, if_neg (Int32.not_lt.mpr c_31_4)] <;> (try rw [nI_clamp (show k < 2 ^ 31 by omega)]) <;> (try rfl)
                exact r_ireti hC hr hlk hW hQ (⟨by rw [hF], by rw [hF]; exact am_new hA (by omega) (rng3 c_18_2)⟩) dX6_sheet_84
              · have c_61_6 : ¬ 60 ≤ z := fun h => c_61_6 ((nI_leI (a := 60) (b := z) (by omega) (by omega)).mpr h)
                refine lv_aload_n hx hb dX6_sheet_64 rfl (lv_at hl 1 rfl) ?_
                refine gM_cells hC hW q_fl_RX6_16 dX6_sheet_65 ?_
                refine lv_bipush (v := 60) hx hb dX6_sheet_68 (by decide) ?_
                refine lv_iload_n hx hb dX6_sheet_70 rfl (lv_at hl 2 rfl) ?_
                refine lv_imul hx hb dX6_sheet_71 ?_
                refine r_top (y := nI (60 * k)) (pk_mul 60 k) ?_
                refine lv_iload hx hb dX6_sheet_72 (lv_at hl 0 rfl) ?_
                refine lv_iadd hx hb dX6_sheet_74 ?_
                refine r_top (y := nI ((60 * k) + z)) (nI_add (60 * k) z) ?_
                refine lv_iconst (v := 0) hx hb dX6_sheet_75 (by decide) ?_
                refine r_istN (t0 := 0) (j := (60 * k) + z) hC hW eM_3 rfl (rfl) (by omega) (by decide) (sM_3 _) dX6_sheet_76 (fun H locs hW => ?_)
                have hW : HX (wM cs ad) (tyX cs) D A s.heap s (va_up t.1 0 0, va_up (va_up (va_up t.2 1 (upd (t.2 1) k a)) 2 (upd (t.2 2) k n)) 3 (upd (rowZ (t.2 3) k z) ((60 * k) + z) 0)) H locs := hx_congr hW (by first | rfl | (simp only [va_upup]; done) | (refine Prod.ext (funext fun k => ?_) (funext fun k => ?_) <;> simp only [va_up] <;> (repeat' split) <;> first | rfl | omega | simp_all))
                refine lv_iinc (v := nI (z + 1)) (lv' := [(4, .int (nI (z + 1))), (0, .ref (ad 0)), (1, .int (nI k))]) hx hb dX6_sheet_77 hl (k := 0) rfl (nI_1 _) (by decide) rfl (fun ls hl => ?_)
                refine lv_goto (tgt := 57) hx hb dX6_sheet_80 (by decide) ?_
                have hW : HX (wM cs ad) (tyX cs) D A s.heap s (va_up t.1 0 0, va_up (va_up (va_up t.2 1 (upd (t.2 1) k a)) 2 (upd (t.2 2) k n)) 3 (rowZ (t.2 3) k (z + 1))) _ _ := hx_congr hW (by rw [rowZ_s])
                exact ih_57 (z + 1) (by omega) (by omega) _ _ hW ls (lv_sub hl [0, 1, 2] rfl)
          exact loop_57_5 _ 0 (Nat.zero_le _) (Nat.lt_succ_self _) _ _ hW ls (lv_sub hl [0, 1, 2] rfl)
        · refine lv_aload_n hx hb dX6_sheet_34 rfl (lv_at hl 0 rfl) ?_
          refine lv_iconst (v := 4) hx hb dX6_sheet_35 (by decide) ?_
          refine fin_i (run_V (rest := []) hC hW (m_X6_fails l D cs ad (va_up t.1 0 0, t.2) 4) k_yX6_fails ⟨rfl, rfl⟩ q_ml_RX6_91 eM_0 rfl rfl hl.1 rfl (Nat.le_of_ble_eq_true rfl) ⟨Nat.le_of_ble_eq_true rfl, Nat.le_of_ble_eq_true rfl⟩ dX6_sheet_36 ⟨Nat.zero_le _, Nat.zero_le _⟩) hW (fun r7 u7 H locs hp7 hW => ?_)
          have hW : HX (wM cs ad) (tyX cs) D A s.heap s (va_up t.1 0 4, t.2) H locs := hx_congr hW (hp7.2.trans (by first | rfl | (simp only [va_upup]; done) | (refine Prod.ext (funext fun k => ?_) (funext fun k => ?_) <;> simp only [va_up] <;> (repeat' split) <;> first | rfl | omega | simp_all)))
          refine r_top hp7.1 ?_
          have hF : F_sheet b (nI k) a n = ((-10) - 4, flt b 4) := by unfold F_sheet; rw [if_pos c_9_1, if_pos c_18_2, if_pos c_24_3, if_pos (Int32.not_le.mp c_31_4)] <;> (try rw [nI_clamp (show k < 2 ^ 31 by omega)]) <;> (try rfl)
          exact r_ireti hC hr hlk hW hQ (⟨by rw [hF], by rw [hF]; exact am_flt hA _⟩) dX6_sheet_39
      · refine lv_bipush (v := (-2)) hx hb dX6_sheet_27 (by decide) ?_
        have hF : F_sheet b (nI k) a n = ((-2), flt b 0) := by unfold F_sheet; rw [if_pos c_9_1, if_pos c_18_2, if_neg c_24_3] <;> (try rw [nI_clamp (show k < 2 ^ 31 by omega)]) <;> (try rfl)
        exact r_ireti hC hr hlk hW hQ (⟨by rw [hF], by rw [hF]; exact am_flt hA _⟩) dX6_sheet_29
  · have c_9_1 := bI_z.mp c_9_1
    refine lv_iconst (v := (-1)) hx hb dX6_sheet_12 (by decide) ?_
    have hF : F_sheet b x a n = ((-1), flt b 0) := by unfold F_sheet; rw [if_neg c_9_1]  <;> (try rfl)
    exact r_ireti hC hr hlk hW hQ (⟨by rw [hF], by rw [hF]; exact am_flt hA _⟩) dX6_sheet_13
set_option maxRecDepth 100000 in
set_option maxHeartbeats 4000000 in
theorem m_X6_lose (l : Launch) (D : va_G) (cs : CS3) (ad : Nat → Nat) (t : St) (b : St) (P R C : Nat) (x : Int32) (hB : WF b P R C) (hA : AM b t): CT l yX6_lose cX6_lose 3 (some .int) (rmk 2 42) (wM cs ad) (tyX cs) D [.ref (ad 0), .int x] t (va_Qi (fun z u => z = (F_lose b x).1 ∧ AM (F_lose b x).2 u)) := by
  refine CT.of (own := RX6) (by decide) rfl (Nat.le_of_ble_eq_true rfl) ?_
  intro p9 e9 s m9 args below meth c9 A Q hC hr hlk hW hQ ls hl
  obtain ⟨hx, hb, hml, hown, hts⟩ := id hC
  have hl : lv_has ls 3 [(0, .ref (ad 0)), (1, .int x)] := hl
  obtain ⟨⟨bP, hP8, bR, hR5, bC, hC8, hlen⟩, hl4, hPR, hrg, hrd⟩ := id hB
  obtain ⟨⟨a0, a1, a2, a3, a4⟩, ⟨v4, v5, v6, v7, v8, v16, v17⟩, hsh⟩ := id hA
  have hP : t.1 2 = nI P := a2.trans bP
  have hR : t.1 3 = nI R := a3.trans bR
  have hc4 : t.1 12 = nI C := a4.trans bC
  refine lv_iload_n hx hb dX6_lose_0 rfl (lv_at hl 1 rfl) ?_
  refine fin_pi (run_P (rest := []) hC hW.2.2.2.2.2 (m_X6_isSheet l x) k_yX6_isSheet ⟨rfl, rfl⟩ q_ml_RX6_80 rfl hl.1 rfl (Nat.le_of_ble_eq_true rfl) ⟨Nat.le_of_ble_eq_true rfl, Nat.le_of_ble_eq_true rfl⟩ dX6_lose_1 ⟨Nat.zero_le _, Nat.zero_le _⟩) (fun rz9 hr9 => ?_)
  refine r_top hr9 ?_
  refine lv_if_ne (tgt := 9) hx hb dX6_lose_4 (by decide) (fun c_4_1 => ?_) (fun c_4_1 => ?_)
  · have c_4_1 := bI_nz c_4_1
    obtain ⟨k, hk3, rfl⟩ := rng_ex (M := 3) (n := 3) (by decide) c_4_1
    have hsr_k := srt (show k < 4 by omega) hl4 (hsh k (by omega))
    have hs_k := hsh k (by omega)
    refine lv_aload_n hx hb dX6_lose_9 rfl (lv_at hl 0 rfl) ?_
    refine gM_sorts hC hW q_fl_RX6_9 dX6_lose_10 ?_
    refine lv_iload_n hx hb dX6_lose_13 rfl (lv_at hl 1 rfl) ?_
    refine r_ildN (t0 := 0) (j := k) hC hW eM_1 rfl (rfl) (by omega) (by decide) dX6_lose_14 ?_
    refine lv_bipush (v := (-9)) hx hb dX6_lose_15 (by decide) ?_
    refine lv_icmp_ne (tgt := 24) hx hb dX6_lose_17 (by decide) (fun c_17_2 => ?_) (fun c_17_2 => ?_)
    · refine lv_iconst (v := 1) hx hb dX6_lose_24 (by decide) ?_
      refine lv_istore_n (lv' := [(2, .int 1), (0, .ref (ad 0)), (1, .int (nI k))]) hx hb dX6_lose_25 rfl hl (by decide) rfl (fun ls hl => ?_)
      refine lv_aload_n hx hb dX6_lose_26 rfl (lv_at hl 1 rfl) ?_
      refine gM_sorts hC hW q_fl_RX6_9 dX6_lose_27 ?_
      refine lv_iload_n hx hb dX6_lose_30 rfl (lv_at hl 2 rfl) ?_
      refine lv_bipush (v := (-9)) hx hb dX6_lose_31 (by decide) ?_
      refine r_istN (t0 := 0) (j := k) hC hW eM_1 rfl (rfl) (by omega) (by decide) (sM_1 _) dX6_lose_33 (fun H locs hW => ?_)
      have hW : HX (wM cs ad) (tyX cs) D A s.heap s (t.1, va_up t.2 1 (upd (t.2 1) k (-9))) H locs := hW
      refine lv_iload_n hx hb dX6_lose_34 rfl (lv_at hl 0 rfl) ?_
      have hF : F_lose b (nI k) = (1, newS b k (-1) 0) := by unfold F_lose; rw [if_pos c_4_1, nI_clamp (show k < 2 ^ 31 by omega), if_neg (fun h9 => c_17_2 (hsr_k.1.mpr h9))] <;> (try rw [nI_clamp (show k < 2 ^ 31 by omega)]) <;> (try rfl)
      exact r_ireti hC hr hlk hW hQ (⟨by rw [hF], by rw [hF]; exact am_lose hA (by omega)⟩) dX6_lose_35
    · refine lv_iconst (v := 0) hx hb dX6_lose_20 (by decide) ?_
      refine lv_goto (tgt := 25) hx hb dX6_lose_21 (by decide) ?_
      refine lv_istore_n (lv' := [(2, .int 0), (0, .ref (ad 0)), (1, .int (nI k))]) hx hb dX6_lose_25 rfl hl (by decide) rfl (fun ls hl => ?_)
      refine lv_aload_n hx hb dX6_lose_26 rfl (lv_at hl 1 rfl) ?_
      refine gM_sorts hC hW q_fl_RX6_9 dX6_lose_27 ?_
      refine lv_iload_n hx hb dX6_lose_30 rfl (lv_at hl 2 rfl) ?_
      refine lv_bipush (v := (-9)) hx hb dX6_lose_31 (by decide) ?_
      refine r_istN (t0 := 0) (j := k) hC hW eM_1 rfl (rfl) (by omega) (by decide) (sM_1 _) dX6_lose_33 (fun H locs hW => ?_)
      have hW : HX (wM cs ad) (tyX cs) D A s.heap s (t.1, va_up t.2 1 (upd (t.2 1) k (-9))) H locs := hW
      refine lv_iload_n hx hb dX6_lose_34 rfl (lv_at hl 0 rfl) ?_
      have hF : F_lose b (nI k) = (0, newS b k (-1) 0) := by unfold F_lose; rw [if_pos c_4_1, nI_clamp (show k < 2 ^ 31 by omega), if_pos (hsr_k.1.mp c_17_2)] <;> (try rw [nI_clamp (show k < 2 ^ 31 by omega)]) <;> (try rfl)
      exact r_ireti hC hr hlk hW hQ (⟨by rw [hF], by rw [hF]; exact am_lose hA (by omega)⟩) dX6_lose_35
  · have c_4_1 := bI_z.mp c_4_1
    refine lv_iconst (v := (-1)) hx hb dX6_lose_7 (by decide) ?_
    have hF : F_lose b x = ((-1), b) := by unfold F_lose; rw [if_neg c_4_1]  <;> (try rfl)
    exact r_ireti hC hr hlk hW hQ (⟨by rw [hF], by rw [hF]; exact hA⟩) dX6_lose_8
set_option maxRecDepth 100000 in
set_option maxHeartbeats 4000000 in
theorem m_X6_tell (l : Launch) (D : va_G) (cs : CS3) (ad : Nat → Nat) (t : St) (b : St) (P R C : Nat) (r : Int32) (hB : WF b P R C) (hA : AM b t): CT l yX6_tell cX6_tell 3 (some .int) (rmk 1 21) (wM cs ad) (tyX cs) D [.ref (ad 0), .int r] t (va_Qi (fun z u => z = (F_tell b R r).1 ∧ AM (F_tell b R r).2 u)) := by
  refine CT.of (own := RX6) (by decide) rfl (Nat.le_of_ble_eq_true rfl) ?_
  intro p9 e9 s m9 args below meth c9 A Q hC hr hlk hW hQ ls hl
  obtain ⟨hx, hb, hml, hown, hts⟩ := id hC
  have hl : lv_has ls 3 [(0, .ref (ad 0)), (1, .int r)] := hl
  obtain ⟨⟨bP, hP8, bR, hR5, bC, hC8, hlen⟩, hl4, hPR, hrg, hrd⟩ := id hB
  obtain ⟨⟨a0, a1, a2, a3, a4⟩, ⟨v4, v5, v6, v7, v8, v16, v17⟩, hsh⟩ := id hA
  have hP : t.1 2 = nI P := a2.trans bP
  have hR : t.1 3 = nI R := a3.trans bR
  have hc4 : t.1 12 = nI C := a4.trans bC
  refine lv_aload_n hx hb dX6_tell_0 rfl (lv_at hl 0 rfl) ?_
  refine lv_iload_n hx hb dX6_tell_1 rfl (lv_at hl 1 rfl) ?_
  refine fin_i (run_V (rest := []) hC hW (m_X6_isRider l D cs ad t R r hR) k_yX6_isRider ⟨rfl, rfl⟩ q_ml_RX6_121 eM_0 rfl rfl hl.1 rfl (Nat.le_of_ble_eq_true rfl) ⟨Nat.le_of_ble_eq_true rfl, Nat.le_of_ble_eq_true rfl⟩ dX6_tell_2 ⟨Nat.zero_le _, Nat.zero_le _⟩) hW (fun r1 u1 H locs hp1 hW => ?_)
  have hW := hx_congr hW hp1.2
  refine r_top hp1.1 ?_
  refine lv_if_ne (tgt := 10) hx hb dX6_tell_5 (by decide) (fun c_5_2 => ?_) (fun c_5_2 => ?_)
  · have c_5_2 := bI_nz c_5_2
    obtain ⟨q_r, hq_r, rfl⟩ := inN_ex c_5_2 (by omega)
    refine lv_aload_n hx hb dX6_tell_10 rfl (lv_at hl 0 rfl) ?_
    refine gM_nailsOf hC hW q_fl_RX6_31 dX6_tell_11 ?_
    refine lv_iload_n hx hb dX6_tell_14 rfl (lv_at hl 1 rfl) ?_
    refine r_ildN (t0 := 0) (j := q_r) hC hW eM_8 rfl (rfl) (by omega) (by decide) dX6_tell_15 ?_
    refine r_top (y := b.2 6 q_r) (congrFun v8 _) ?_
    refine lv_istore_n (lv' := [(2, .int (b.2 6 q_r)), (0, .ref (ad 0)), (1, .int (nI q_r))]) hx hb dX6_tell_16 rfl hl (by decide) rfl (fun ls hl => ?_)
    refine lv_aload_n hx hb dX6_tell_17 rfl (lv_at hl 1 rfl) ?_
    refine gM_kind hC hW q_fl_RX6_25 dX6_tell_18 ?_
    refine lv_iload_n hx hb dX6_tell_21 rfl (lv_at hl 2 rfl) ?_
    refine r_ildN (t0 := 0) (j := q_r) hC hW eM_6 rfl (rfl) (by omega) (by decide) dX6_tell_22 ?_
    refine r_top (y := b.2 4 q_r) (congrFun v6 _) ?_
    rcases (show b.2 4 q_r = 1 ∨ b.2 4 q_r = 2 ∨ (¬ b.2 4 q_r = 1 ∧ ¬ b.2 4 q_r = 2) from by by_cases h1 : b.2 4 q_r = 1 <;> by_cases h2 : b.2 4 q_r = 2 <;> simp_all) with hk9 | hk9 | hk9
    · refine lv_lookup (off := 25) (tgt := 48) hx hb dX6_tell_23 (by decide) (by rw [hk9]; rfl) (by decide) ?_
      refine lv_aload_n hx hb dX6_tell_48 rfl (lv_at hl 1 rfl) ?_
      refine lv_iconst (v := 2) hx hb dX6_tell_49 (by decide) ?_
      refine fin_v (run_V (rest := []) hC hW (m_X6_begins l D cs ad t 2) k_yX6_begins ⟨rfl, rfl⟩ q_ml_RX6_216 eM_0 rfl rfl hl.1 rfl (Nat.le_of_ble_eq_true rfl) ⟨Nat.le_of_ble_eq_true rfl, Nat.le_of_ble_eq_true rfl⟩ dX6_tell_50 ⟨Nat.zero_le _, Nat.zero_le _⟩) hW (fun u3 H locs hp3 hW => ?_)
      have hW : HX (wM cs ad) (tyX cs) D A s.heap s (va_up t.1 1 (31 * t.1 1 + 2), t.2) H locs := hx_congr hW hp3
      have hA4 : AM (lv1 b 2) (va_up t.1 1 (31 * t.1 1 + 2), t.2) := am_lv hA _
      obtain ⟨v4, ev4⟩ : ∃ z : St, z = (va_up t.1 1 (31 * t.1 1 + 2), t.2) := ⟨_, rfl⟩
      rw [← ev4] at hA4 hW
      refine lv_aload_n hx hb dX6_tell_53 rfl (lv_at hl 1 rfl) ?_
      refine lv_iconst (v := 1) hx hb dX6_tell_54 (by decide) ?_
      refine fin_v (run_V (rest := []) hC hW (m_X6_begins l D cs ad v4 1) k_yX6_begins ⟨rfl, rfl⟩ q_ml_RX6_216 eM_0 rfl rfl hl.1 rfl (Nat.le_of_ble_eq_true rfl) ⟨Nat.le_of_ble_eq_true rfl, Nat.le_of_ble_eq_true rfl⟩ dX6_tell_55 ⟨Nat.zero_le _, Nat.zero_le _⟩) hW (fun u5 H locs hp5 hW => ?_)
      have hW : HX (wM cs ad) (tyX cs) D A s.heap s (va_up v4.1 1 (31 * v4.1 1 + 1), v4.2) H locs := hx_congr hW hp5
      have hA6 : AM (lv1 (lv1 b 2) 1) (va_up v4.1 1 (31 * v4.1 1 + 1), v4.2) := am_lv hA4 _
      obtain ⟨v6, ev6⟩ : ∃ z : St, z = (va_up v4.1 1 (31 * v4.1 1 + 1), v4.2) := ⟨_, rfl⟩
      rw [← ev6] at hA6 hW
      refine lv_iload_n hx hb dX6_tell_58 rfl (lv_at hl 0 rfl) ?_
      refine lv_bipush (v := 100) hx hb dX6_tell_59 (by decide) ?_
      refine lv_iadd hx hb dX6_tell_61 ?_
      have hF : F_tell b R (nI q_r) = ((b.2 6 q_r) + 100, lv1 (lv1 b 2) 1) := by unfold F_tell; rw [if_pos c_5_2, nI_clamp (show q_r < 2 ^ 31 by omega), if_neg (by rw [hk9]; decide), if_pos hk9] <;> (try rw [nI_clamp (show q_r < 2 ^ 31 by omega)]) <;> (try rfl) <;> (try rw [two_mul9])
      exact r_ireti hC hr hlk hW hQ (⟨by rw [hF], by rw [hF]; exact hA6⟩) dX6_tell_62
    · refine lv_lookup (off := 40) (tgt := 63) hx hb dX6_tell_23 (by decide) (by rw [hk9]; rfl) (by decide) ?_
      refine lv_aload_n hx hb dX6_tell_63 rfl (lv_at hl 1 rfl) ?_
      refine lv_iconst (v := 3) hx hb dX6_tell_64 (by decide) ?_
      refine fin_v (run_V (rest := []) hC hW (m_X6_begins l D cs ad t 3) k_yX6_begins ⟨rfl, rfl⟩ q_ml_RX6_216 eM_0 rfl rfl hl.1 rfl (Nat.le_of_ble_eq_true rfl) ⟨Nat.le_of_ble_eq_true rfl, Nat.le_of_ble_eq_true rfl⟩ dX6_tell_65 ⟨Nat.zero_le _, Nat.zero_le _⟩) hW (fun u7 H locs hp7 hW => ?_)
      have hW : HX (wM cs ad) (tyX cs) D A s.heap s (va_up t.1 1 (31 * t.1 1 + 3), t.2) H locs := hx_congr hW hp7
      have hA8 : AM (lv1 b 3) (va_up t.1 1 (31 * t.1 1 + 3), t.2) := am_lv hA _
      obtain ⟨v8, ev8⟩ : ∃ z : St, z = (va_up t.1 1 (31 * t.1 1 + 3), t.2) := ⟨_, rfl⟩
      rw [← ev8] at hA8 hW
      refine lv_aload_n hx hb dX6_tell_68 rfl (lv_at hl 1 rfl) ?_
      refine lv_iconst (v := 2) hx hb dX6_tell_69 (by decide) ?_
      refine fin_v (run_V (rest := []) hC hW (m_X6_begins l D cs ad v8 2) k_yX6_begins ⟨rfl, rfl⟩ q_ml_RX6_216 eM_0 rfl rfl hl.1 rfl (Nat.le_of_ble_eq_true rfl) ⟨Nat.le_of_ble_eq_true rfl, Nat.le_of_ble_eq_true rfl⟩ dX6_tell_70 ⟨Nat.zero_le _, Nat.zero_le _⟩) hW (fun u9 H locs hp9 hW => ?_)
      have hW : HX (wM cs ad) (tyX cs) D A s.heap s (va_up v8.1 1 (31 * v8.1 1 + 2), v8.2) H locs := hx_congr hW hp9
      have hA10 : AM (lv1 (lv1 b 3) 2) (va_up v8.1 1 (31 * v8.1 1 + 2), v8.2) := am_lv hA8 _
      obtain ⟨v10, ev10⟩ : ∃ z : St, z = (va_up v8.1 1 (31 * v8.1 1 + 2), v8.2) := ⟨_, rfl⟩
      rw [← ev10] at hA10 hW
      refine lv_aload_n hx hb dX6_tell_73 rfl (lv_at hl 1 rfl) ?_
      refine lv_iconst (v := 1) hx hb dX6_tell_74 (by decide) ?_
      refine fin_v (run_V (rest := []) hC hW (m_X6_begins l D cs ad v10 1) k_yX6_begins ⟨rfl, rfl⟩ q_ml_RX6_216 eM_0 rfl rfl hl.1 rfl (Nat.le_of_ble_eq_true rfl) ⟨Nat.le_of_ble_eq_true rfl, Nat.le_of_ble_eq_true rfl⟩ dX6_tell_75 ⟨Nat.zero_le _, Nat.zero_le _⟩) hW (fun u11 H locs hp11 hW => ?_)
      have hW : HX (wM cs ad) (tyX cs) D A s.heap s (va_up v10.1 1 (31 * v10.1 1 + 1), v10.2) H locs := hx_congr hW hp11
      have hA12 : AM (lv1 (lv1 (lv1 b 3) 2) 1) (va_up v10.1 1 (31 * v10.1 1 + 1), v10.2) := am_lv hA10 _
      obtain ⟨v12, ev12⟩ : ∃ z : St, z = (va_up v10.1 1 (31 * v10.1 1 + 1), v10.2) := ⟨_, rfl⟩
      rw [← ev12] at hA12 hW
      refine lv_aload_n hx hb dX6_tell_78 rfl (lv_at hl 1 rfl) ?_
      refine lv_iconst (v := 1) hx hb dX6_tell_79 (by decide) ?_
      refine fin_v (run_V (rest := []) hC hW (m_X6_begins l D cs ad v12 1) k_yX6_begins ⟨rfl, rfl⟩ q_ml_RX6_216 eM_0 rfl rfl hl.1 rfl (Nat.le_of_ble_eq_true rfl) ⟨Nat.le_of_ble_eq_true rfl, Nat.le_of_ble_eq_true rfl⟩ dX6_tell_80 ⟨Nat.zero_le _, Nat.zero_le _⟩) hW (fun u13 H locs hp13 hW => ?_)
      have hW : HX (wM cs ad) (tyX cs) D A s.heap s (va_up v12.1 1 (31 * v12.1 1 + 1), v12.2) H locs := hx_congr hW hp13
      have hA14 : AM (lv1 (lv1 (lv1 (lv1 b 3) 2) 1) 1) (va_up v12.1 1 (31 * v12.1 1 + 1), v12.2) := am_lv hA12 _
      obtain ⟨v14, ev14⟩ : ∃ z : St, z = (va_up v12.1 1 (31 * v12.1 1 + 1), v12.2) := ⟨_, rfl⟩
      rw [← ev14] at hA14 hW
      refine lv_iconst (v := 2) hx hb dX6_tell_83 (by decide) ?_
      refine lv_iload_n hx hb dX6_tell_84 rfl (lv_at hl 0 rfl) ?_
      refine lv_imul hx hb dX6_tell_85 ?_
      refine lv_bipush (v := 100) hx hb dX6_tell_86 (by decide) ?_
      refine lv_iadd hx hb dX6_tell_88 ?_
      have hF : F_tell b R (nI q_r) = ((2 * (b.2 6 q_r)) + 100, lv1 (lv1 (lv1 (lv1 b 3) 2) 1) 1) := by unfold F_tell; rw [if_pos c_5_2, nI_clamp (show q_r < 2 ^ 31 by omega), if_pos hk9] <;> (try rw [nI_clamp (show q_r < 2 ^ 31 by omega)]) <;> (try rfl) <;> (try rw [two_mul9])
      exact r_ireti hC hr hlk hW hQ (⟨by rw [hF], by rw [hF]; exact hA14⟩) dX6_tell_89
    · refine lv_lookup (off := 67) (tgt := 90) hx hb dX6_tell_23 (by decide) (by exact ls_out hk9.1 hk9.2) (by decide) ?_
      refine lv_aload_n hx hb dX6_tell_90 rfl (lv_at hl 1 rfl) ?_
      refine lv_iconst (v := 1) hx hb dX6_tell_91 (by decide) ?_
      refine fin_v (run_V (rest := []) hC hW (m_X6_begins l D cs ad t 1) k_yX6_begins ⟨rfl, rfl⟩ q_ml_RX6_216 eM_0 rfl rfl hl.1 rfl (Nat.le_of_ble_eq_true rfl) ⟨Nat.le_of_ble_eq_true rfl, Nat.le_of_ble_eq_true rfl⟩ dX6_tell_92 ⟨Nat.zero_le _, Nat.zero_le _⟩) hW (fun u15 H locs hp15 hW => ?_)
      have hW : HX (wM cs ad) (tyX cs) D A s.heap s (va_up t.1 1 (31 * t.1 1 + 1), t.2) H locs := hx_congr hW hp15
      have hA16 : AM (lv1 b 1) (va_up t.1 1 (31 * t.1 1 + 1), t.2) := am_lv hA _
      obtain ⟨v16, ev16⟩ : ∃ z : St, z = (va_up t.1 1 (31 * t.1 1 + 1), t.2) := ⟨_, rfl⟩
      rw [← ev16] at hA16 hW
      refine lv_iload_n hx hb dX6_tell_95 rfl (lv_at hl 0 rfl) ?_
      have hF : F_tell b R (nI q_r) = (b.2 6 q_r, lv1 b 1) := by unfold F_tell; rw [if_pos c_5_2, nI_clamp (show q_r < 2 ^ 31 by omega), if_neg hk9.2, if_neg hk9.1] <;> (try rw [nI_clamp (show q_r < 2 ^ 31 by omega)]) <;> (try rfl) <;> (try rw [two_mul9])
      exact r_ireti hC hr hlk hW hQ (⟨by rw [hF], by rw [hF]; exact hA16⟩) dX6_tell_96
  · have c_5_2 := bI_z.mp c_5_2
    refine lv_iconst (v := (-1)) hx hb dX6_tell_8 (by decide) ?_
    have hF : F_tell b R r = ((-1), b) := by unfold F_tell; rw [if_neg c_5_2]  <;> (try rfl) <;> (try rw [two_mul9])
    exact r_ireti hC hr hlk hW hQ (⟨by rw [hF], by rw [hF]; exact hA⟩) dX6_tell_9
set_option maxRecDepth 100000 in
set_option maxHeartbeats 4000000 in
theorem m_X6_cheer (l : Launch) (D : va_G) (cs : CS3) (ad : Nat → Nat) (t : St) (b : St) (P R C : Nat) (r : Int32) (hB : WF b P R C) (hA : AM b t): CT l yX6_cheer cX6_cheer 2 (some .int) (rmk 1 21) (wM cs ad) (tyX cs) D [.ref (ad 0), .int r] t (va_Qi (fun z u => z = (F_cheer b R r).1 ∧ AM (F_cheer b R r).2 u)) := by
  refine CT.of (own := RX6) (by decide) rfl (Nat.le_of_ble_eq_true rfl) ?_
  intro p9 e9 s m9 args below meth c9 A Q hC hr hlk hW hQ ls hl
  obtain ⟨hx, hb, hml, hown, hts⟩ := id hC
  have hl : lv_has ls 2 [(0, .ref (ad 0)), (1, .int r)] := hl
  obtain ⟨⟨bP, hP8, bR, hR5, bC, hC8, hlen⟩, hl4, hPR, hrg, hrd⟩ := id hB
  obtain ⟨⟨a0, a1, a2, a3, a4⟩, ⟨v4, v5, v6, v7, v8, v16, v17⟩, hsh⟩ := id hA
  have hP : t.1 2 = nI P := a2.trans bP
  have hR : t.1 3 = nI R := a3.trans bR
  have hc4 : t.1 12 = nI C := a4.trans bC
  refine lv_aload_n hx hb dX6_cheer_0 rfl (lv_at hl 0 rfl) ?_
  refine lv_iload_n hx hb dX6_cheer_1 rfl (lv_at hl 1 rfl) ?_
  refine fin_i (run_V (rest := []) hC hW (m_X6_isRider l D cs ad t R r hR) k_yX6_isRider ⟨rfl, rfl⟩ q_ml_RX6_121 eM_0 rfl rfl hl.1 rfl (Nat.le_of_ble_eq_true rfl) ⟨Nat.le_of_ble_eq_true rfl, Nat.le_of_ble_eq_true rfl⟩ dX6_cheer_2 ⟨Nat.zero_le _, Nat.zero_le _⟩) hW (fun r1 u1 H locs hp1 hW => ?_)
  have hW := hx_congr hW hp1.2
  refine r_top hp1.1 ?_
  refine lv_if_ne (tgt := 10) hx hb dX6_cheer_5 (by decide) (fun c_5_2 => ?_) (fun c_5_2 => ?_)
  · have c_5_2 := bI_nz c_5_2
    obtain ⟨q_r, hq_r, rfl⟩ := inN_ex c_5_2 (by omega)
    refine lv_aload_n hx hb dX6_cheer_10 rfl (lv_at hl 0 rfl) ?_
    refine lv_aload_n hx hb dX6_cheer_11 rfl (lv_at hl 0 rfl) ?_
    refine gM_kind hC hW q_fl_RX6_25 dX6_cheer_12 ?_
    refine lv_iload_n hx hb dX6_cheer_15 rfl (lv_at hl 1 rfl) ?_
    refine r_ildN (t0 := 0) (j := q_r) hC hW eM_6 rfl (rfl) (by omega) (by decide) dX6_cheer_16 ?_
    refine r_top (y := b.2 4 q_r) (congrFun v6 _) ?_
    refine lv_iconst (v := 2) hx hb dX6_cheer_17 (by decide) ?_
    refine lv_icmp_ne (tgt := 25) hx hb dX6_cheer_18 (by decide) (fun c_18_3 => ?_) (fun c_18_3 => ?_)
    · refine lv_iconst (v := 4) hx hb dX6_cheer_25 (by decide) ?_
      refine fin_v (run_V (rest := []) hC hW (m_X6_begins l D cs ad t 4) k_yX6_begins ⟨rfl, rfl⟩ q_ml_RX6_216 eM_0 rfl rfl hl.1 rfl (Nat.le_of_ble_eq_true rfl) ⟨Nat.le_of_ble_eq_true rfl, Nat.le_of_ble_eq_true rfl⟩ dX6_cheer_26 ⟨Nat.zero_le _, Nat.zero_le _⟩) hW (fun u4 H locs hp4 hW => ?_)
      have hW : HX (wM cs ad) (tyX cs) D A s.heap s (va_up t.1 1 (31 * t.1 1 + 4), t.2) H locs := hx_congr hW hp4
      have hA5 : AM (lv1 b 4) (va_up t.1 1 (31 * t.1 1 + 4), t.2) := am_lv hA _
      obtain ⟨v5, ev5⟩ : ∃ z : St, z = (va_up t.1 1 (31 * t.1 1 + 4), t.2) := ⟨_, rfl⟩
      rw [← ev5] at hA5 hW
      refine lv_aload_n hx hb dX6_cheer_29 rfl (lv_at hl 0 rfl) ?_
      refine gM_kind hC hW q_fl_RX6_25 dX6_cheer_30 ?_
      refine lv_iload_n hx hb dX6_cheer_33 rfl (lv_at hl 1 rfl) ?_
      refine r_ildN (t0 := 0) (j := q_r) hC hW eM_6 rfl (rfl) (by omega) (by decide) dX6_cheer_34 ?_
      refine r_top (y := b.2 4 q_r) (congrFun (show v5.2 6 = b.2 4 from hA5.2.1.2.2.1) _) ?_
      refine lv_iconst (v := 2) hx hb dX6_cheer_35 (by decide) ?_
      refine lv_icmp_ne (tgt := 44) hx hb dX6_cheer_36 (by decide) (fun c_36_6 => ?_) (fun c_36_6 => ?_)
      · refine lv_iload_n hx hb dX6_cheer_44 rfl (lv_at hl 1 rfl) ?_
        have hF : F_cheer b R (nI q_r) = (nI q_r, lv1 b 4) := by unfold F_cheer; rw [if_pos c_5_2, nI_clamp (show q_r < 2 ^ 31 by omega), if_neg c_18_3] <;> (try rw [nI_clamp (show q_r < 2 ^ 31 by omega)]) <;> (try rfl)
        exact r_ireti hC hr hlk hW hQ (⟨by rw [hF], by rw [hF]; exact hA5⟩) dX6_cheer_45
      · exact absurd c_36_6 c_18_3
    · refine lv_iconst (v := 5) hx hb dX6_cheer_21 (by decide) ?_
      refine lv_goto (tgt := 26) hx hb dX6_cheer_22 (by decide) ?_
      refine fin_v (run_V (rest := []) hC hW (m_X6_begins l D cs ad t 5) k_yX6_begins ⟨rfl, rfl⟩ q_ml_RX6_216 eM_0 rfl rfl hl.1 rfl (Nat.le_of_ble_eq_true rfl) ⟨Nat.le_of_ble_eq_true rfl, Nat.le_of_ble_eq_true rfl⟩ dX6_cheer_26 ⟨Nat.zero_le _, Nat.zero_le _⟩) hW (fun u7 H locs hp7 hW => ?_)
      have hW : HX (wM cs ad) (tyX cs) D A s.heap s (va_up t.1 1 (31 * t.1 1 + 5), t.2) H locs := hx_congr hW hp7
      have hA8 : AM (lv1 b 5) (va_up t.1 1 (31 * t.1 1 + 5), t.2) := am_lv hA _
      obtain ⟨v8, ev8⟩ : ∃ z : St, z = (va_up t.1 1 (31 * t.1 1 + 5), t.2) := ⟨_, rfl⟩
      rw [← ev8] at hA8 hW
      refine lv_aload_n hx hb dX6_cheer_29 rfl (lv_at hl 0 rfl) ?_
      refine gM_kind hC hW q_fl_RX6_25 dX6_cheer_30 ?_
      refine lv_iload_n hx hb dX6_cheer_33 rfl (lv_at hl 1 rfl) ?_
      refine r_ildN (t0 := 0) (j := q_r) hC hW eM_6 rfl (rfl) (by omega) (by decide) dX6_cheer_34 ?_
      refine r_top (y := b.2 4 q_r) (congrFun (show v8.2 6 = b.2 4 from hA8.2.1.2.2.1) _) ?_
      refine lv_iconst (v := 2) hx hb dX6_cheer_35 (by decide) ?_
      refine lv_icmp_ne (tgt := 44) hx hb dX6_cheer_36 (by decide) (fun c_36_9 => ?_) (fun c_36_9 => ?_)
      · exact absurd c_18_3 c_36_9
      · refine lv_bipush (v := 80) hx hb dX6_cheer_39 (by decide) ?_
        refine lv_goto (tgt := 45) hx hb dX6_cheer_41 (by decide) ?_
        have hF : F_cheer b R (nI q_r) = (80, lv1 b 5) := by unfold F_cheer; rw [if_pos c_5_2, nI_clamp (show q_r < 2 ^ 31 by omega), if_pos c_18_3] <;> (try rw [nI_clamp (show q_r < 2 ^ 31 by omega)]) <;> (try rfl)
        exact r_ireti hC hr hlk hW hQ (⟨by rw [hF], by rw [hF]; exact hA8⟩) dX6_cheer_45
  · have c_5_2 := bI_z.mp c_5_2
    refine lv_iconst (v := (-1)) hx hb dX6_cheer_8 (by decide) ?_
    have hF : F_cheer b R r = ((-1), b) := by unfold F_cheer; rw [if_neg c_5_2]  <;> (try rfl)
    exact r_ireti hC hr hlk hW hQ (⟨by rw [hF], by rw [hF]; exact hA⟩) dX6_cheer_9
set_option maxRecDepth 100000 in
set_option maxHeartbeats 4000000 in
theorem m_X6_as (l : Launch) (D : va_G) (cs : CS3) (ad : Nat → Nat) (t : St) (b : St) (P R C : Nat) (r k : Int32) (hB : WF b P R C) (hA : AM b t): CT l yX6_as cX6_as 3 (some .int) (rmk 1 22) (wM cs ad) (tyX cs) D [.ref (ad 0), .int r, .int k] t (va_Qi (fun z u => z = (F_as b R r k).1 ∧ AM (F_as b R r k).2 u)) := by
  refine CT.of (own := RX6) (by decide) rfl (Nat.le_of_ble_eq_true rfl) ?_
  intro p9 e9 s m9 args below meth c9 A Q hC hr hlk hW hQ ls hl
  obtain ⟨hx, hb, hml, hown, hts⟩ := id hC
  have hl : lv_has ls 3 [(0, .ref (ad 0)), (1, .int r), (2, .int k)] := hl
  obtain ⟨⟨bP, hP8, bR, hR5, bC, hC8, hlen⟩, hl4, hPR, hrg, hrd⟩ := id hB
  obtain ⟨⟨a0, a1, a2, a3, a4⟩, ⟨v4, v5, v6, v7, v8, v16, v17⟩, hsh⟩ := id hA
  have hP : t.1 2 = nI P := a2.trans bP
  have hR : t.1 3 = nI R := a3.trans bR
  have hc4 : t.1 12 = nI C := a4.trans bC
  refine lv_aload_n hx hb dX6_as_0 rfl (lv_at hl 0 rfl) ?_
  refine lv_iconst (v := 0) hx hb dX6_as_1 (by decide) ?_
  refine pM_fault hC hW q_fl_RX6_61 dX6_as_2 (fun H locs hW => ?_)
  have hW : HX (wM cs ad) (tyX cs) D A s.heap s (va_up t.1 0 0, t.2) H locs := hW
  refine lv_aload_n hx hb dX6_as_5 rfl (lv_at hl 0 rfl) ?_
  refine lv_iload_n hx hb dX6_as_6 rfl (lv_at hl 1 rfl) ?_
  refine fin_i (run_V (rest := []) hC hW (m_X6_isRider l D cs ad (va_up t.1 0 0, t.2) R r hR) k_yX6_isRider ⟨rfl, rfl⟩ q_ml_RX6_121 eM_0 rfl rfl hl.1 rfl (Nat.le_of_ble_eq_true rfl) ⟨Nat.le_of_ble_eq_true rfl, Nat.le_of_ble_eq_true rfl⟩ dX6_as_7 ⟨Nat.zero_le _, Nat.zero_le _⟩) hW (fun r1 u1 H locs hp1 hW => ?_)
  have hW := hx_congr hW hp1.2
  refine r_top hp1.1 ?_
  refine lv_if_ne (tgt := 15) hx hb dX6_as_10 (by decide) (fun c_10_2 => ?_) (fun c_10_2 => ?_)
  · have c_10_2 := bI_nz c_10_2
    obtain ⟨q_r, hq_r, rfl⟩ := inN_ex c_10_2 (by omega)
    refine lv_iload_n hx hb dX6_as_15 rfl (lv_at hl 2 rfl) ?_
    refine lv_iconst (v := 0) hx hb dX6_as_16 (by decide) ?_
    refine lv_iconst (v := 2) hx hb dX6_as_17 (by decide) ?_
    refine fin_pi (run_P (rest := []) hC hW.2.2.2.2.2 (m_X6_within l k 0 2) k_yX6_within ⟨rfl, rfl⟩ q_ml_RX6_67 rfl hl.1 rfl (Nat.le_of_ble_eq_true rfl) ⟨Nat.le_of_ble_eq_true rfl, Nat.le_of_ble_eq_true rfl⟩ dX6_as_18 ⟨Nat.zero_le _, Nat.zero_le _⟩) (fun rz9 hr9 => ?_)
    refine r_top hr9 ?_
    refine lv_if_ne (tgt := 27) hx hb dX6_as_21 (by decide) (fun c_21_3 => ?_) (fun c_21_3 => ?_)
    · have c_21_3 := bI_nz c_21_3
      refine lv_aload_n hx hb dX6_as_27 rfl (lv_at hl 0 rfl) ?_
      refine gM_kind hC hW q_fl_RX6_25 dX6_as_28 ?_
      refine lv_iload_n hx hb dX6_as_31 rfl (lv_at hl 1 rfl) ?_
      refine r_ildN (t0 := 0) (j := q_r) hC hW eM_6 rfl (rfl) (by omega) (by decide) dX6_as_32 ?_
      refine r_top (y := t.2 6 q_r) (by first | rfl | simp only [va_up_self]) ?_
      refine r_top (y := b.2 4 q_r) (congrFun v6 _) ?_
      refine lv_iload_n hx hb dX6_as_33 rfl (lv_at hl 2 rfl) ?_
      refine lv_icmp_lt (tgt := 41) hx hb dX6_as_34 (by decide) (fun c_34_4 => ?_) (fun c_34_4 => ?_)
      · refine lv_aload_n hx hb dX6_as_41 rfl (lv_at hl 0 rfl) ?_
        refine lv_iconst (v := 2) hx hb dX6_as_42 (by decide) ?_
        refine fin_i (run_V (rest := []) hC hW (m_X6_fails l D cs ad (va_up t.1 0 0, t.2) 2) k_yX6_fails ⟨rfl, rfl⟩ q_ml_RX6_91 eM_0 rfl rfl hl.1 rfl (Nat.le_of_ble_eq_true rfl) ⟨Nat.le_of_ble_eq_true rfl, Nat.le_of_ble_eq_true rfl⟩ dX6_as_43 ⟨Nat.zero_le _, Nat.zero_le _⟩) hW (fun r5 u5 H locs hp5 hW => ?_)
        have hW : HX (wM cs ad) (tyX cs) D A s.heap s (va_up t.1 0 2, t.2) H locs := hx_congr hW (hp5.2.trans (by first | rfl | (simp only [va_upup]; done) | (refine Prod.ext (funext fun k => ?_) (funext fun k => ?_) <;> simp only [va_up] <;> (repeat' split) <;> first | rfl | omega | simp_all)))
        refine r_top hp5.1 ?_
        have hF : F_as b R (nI q_r) k = ((-10) - 2, flt b 2) := by unfold F_as; rw [if_pos c_10_2, nI_clamp (show q_r < 2 ^ 31 by omega), if_pos c_21_3, if_neg (Int32.not_le.mpr c_34_4)] <;> (try rw [nI_clamp (show q_r < 2 ^ 31 by omega)]) <;> (try rfl)
        exact r_ireti hC hr hlk hW hQ (⟨by rw [hF], by rw [hF]; exact am_flt hA _⟩) dX6_as_46
      · refine lv_iconst (v := 1) hx hb dX6_as_37 (by decide) ?_
        refine lv_goto (tgt := 46) hx hb dX6_as_38 (by decide) ?_
        have hF : F_as b R (nI q_r) k = (1, flt b 0) := by unfold F_as; rw [if_pos c_10_2, nI_clamp (show q_r < 2 ^ 31 by omega), if_pos c_21_3, if_pos (Int32.not_lt.mp c_34_4)] <;> (try rw [nI_clamp (show q_r < 2 ^ 31 by omega)]) <;> (try rfl)
        exact r_ireti hC hr hlk hW hQ (⟨by rw [hF], by rw [hF]; exact am_flt hA _⟩) dX6_as_46
    · have c_21_3 := bI_z.mp c_21_3
      refine lv_bipush (v := (-2)) hx hb dX6_as_24 (by decide) ?_
      have hF : F_as b R (nI q_r) k = ((-2), flt b 0) := by unfold F_as; rw [if_pos c_10_2, nI_clamp (show q_r < 2 ^ 31 by omega), if_neg c_21_3] <;> (try rw [nI_clamp (show q_r < 2 ^ 31 by omega)]) <;> (try rfl)
      exact r_ireti hC hr hlk hW hQ (⟨by rw [hF], by rw [hF]; exact am_flt hA _⟩) dX6_as_26
  · have c_10_2 := bI_z.mp c_10_2
    refine lv_iconst (v := (-1)) hx hb dX6_as_13 (by decide) ?_
    have hF : F_as b R r k = ((-1), flt b 0) := by unfold F_as; rw [if_neg c_10_2]  <;> (try rfl)
    exact r_ireti hC hr hlk hW hQ (⟨by rw [hF], by rw [hF]; exact am_flt hA _⟩) dX6_as_14
set_option maxRecDepth 100000 in
set_option maxHeartbeats 4000000 in
theorem m_X6_many (l : Launch) (D : va_G) (cs : CS3) (ad : Nat → Nat) (t : St) (b : St) (P R C : Nat) (w : Int32) (hB : WF b P R C) (hA : AM b t): CT l yX6_many cX6_many 2 (some .int) (rmk 0 0) (wM cs ad) (tyX cs) D [.ref (ad 0), .int w] t (va_Qi (fun z u => z = (F_many b w).1 ∧ AM (F_many b w).2 u)) := by
  refine CT.of (own := RX6) (by decide) rfl (Nat.le_of_ble_eq_true rfl) ?_
  intro p9 e9 s m9 args below meth c9 A Q hC hr hlk hW hQ ls hl
  obtain ⟨hx, hb, hml, hown, hts⟩ := id hC
  have hl : lv_has ls 2 [(0, .ref (ad 0)), (1, .int w)] := hl
  obtain ⟨⟨bP, hP8, bR, hR5, bC, hC8, hlen⟩, hl4, hPR, hrg, hrd⟩ := id hB
  obtain ⟨⟨a0, a1, a2, a3, a4⟩, ⟨v4, v5, v6, v7, v8, v16, v17⟩, hsh⟩ := id hA
  have hP : t.1 2 = nI P := a2.trans bP
  have hR : t.1 3 = nI R := a3.trans bR
  have hc4 : t.1 12 = nI C := a4.trans bC
  refine lv_iload_n hx hb dX6_many_0 rfl (lv_at hl 1 rfl) ?_
  refine lv_if_ne (tgt := 11) hx hb dX6_many_1 (by decide) (fun c_1_1 => ?_) (fun c_1_1 => ?_)
  · refine lv_iload_n hx hb dX6_many_11 rfl (lv_at hl 1 rfl) ?_
    refine lv_iconst (v := 1) hx hb dX6_many_12 (by decide) ?_
    refine lv_icmp_ne (tgt := 23) hx hb dX6_many_13 (by decide) (fun c_13_2 => ?_) (fun c_13_2 => ?_)
    · refine lv_iload_n hx hb dX6_many_23 rfl (lv_at hl 1 rfl) ?_
      refine lv_iconst (v := 2) hx hb dX6_many_24 (by decide) ?_
      refine lv_icmp_ne (tgt := 35) hx hb dX6_many_25 (by decide) (fun c_25_3 => ?_) (fun c_25_3 => ?_)
      · refine lv_bipush (v := (-2)) hx hb dX6_many_35 (by decide) ?_
        have hF : F_many b w = ((-2), b) := by unfold F_many; rw [if_neg (fun h9 => (rng3 h9).elim c_1_1 (fun h8 => h8.elim c_13_2 c_25_3))]  <;> (try rfl)
        exact r_ireti hC hr hlk hW hQ (⟨by rw [hF], by rw [hF]; exact hA⟩) dX6_many_37
      · refine lv_aload_n hx hb dX6_many_28 rfl (lv_at hl 0 rfl) ?_
        refine gM_readings hC hW q_fl_RX6_104 dX6_many_29 ?_
        refine r_top (y := b.1 4) a4 ?_
        refine lv_goto (tgt := 37) hx hb dX6_many_32 (by decide) ?_
        have hF : F_many b w = (b.1 4, b) := by unfold F_many; rw [if_pos ⟨by rw [c_25_3]; decide, by rw [c_25_3]; decide⟩, if_neg c_1_1, if_neg c_13_2]  <;> (try rfl)
        exact r_ireti hC hr hlk hW hQ (⟨by rw [hF], by rw [hF]; exact hA⟩) dX6_many_37
    · refine lv_aload_n hx hb dX6_many_16 rfl (lv_at hl 0 rfl) ?_
      refine gM_paces hC hW q_fl_RX6_71 dX6_many_17 ?_
      refine r_top (y := b.1 2) a2 ?_
      refine lv_goto (tgt := 37) hx hb dX6_many_20 (by decide) ?_
      have hF : F_many b w = (b.1 2, b) := by unfold F_many; rw [if_pos ⟨by rw [c_13_2]; decide, by rw [c_13_2]; decide⟩, if_neg c_1_1, if_pos c_13_2]  <;> (try rfl)
      exact r_ireti hC hr hlk hW hQ (⟨by rw [hF], by rw [hF]; exact hA⟩) dX6_many_37
  · refine lv_aload_n hx hb dX6_many_4 rfl (lv_at hl 0 rfl) ?_
    refine gM_riders hC hW q_fl_RX6_74 dX6_many_5 ?_
    refine r_top (y := b.1 3) a3 ?_
    refine lv_goto (tgt := 37) hx hb dX6_many_8 (by decide) ?_
    have hF : F_many b w = (b.1 3, b) := by unfold F_many; rw [if_pos ⟨by rw [c_1_1]; decide, by rw [c_1_1]; decide⟩, if_pos c_1_1]  <;> (try rfl)
    exact r_ireti hC hr hlk hW hQ (⟨by rw [hF], by rw [hF]; exact hA⟩) dX6_many_37
