set_option maxRecDepth 100000 in
set_option maxHeartbeats 4000000 in
theorem m_X3_toll (l : Launch) (D : va_G) (cs : CS3) (ad : Nat → Nat) (t : St) (P : Nat) (h : HL) (q k : Nat) (x : Int32) (hh : hX P t = h) (hq : q < 5) (hk : k < 8): CT l yX3_toll cX3_toll 5 (some .int) (rmk 1 13) (wX cs ad) (tyX cs) D [.ref (ad 1), .int (nI q), .int (nI k), .int x] t (va_Qi (fun r u => r = toll h q k x ∧ u = t)) := by
  refine CT.of (own := RX3) (by decide) rfl (Nat.le_of_ble_eq_true rfl) ?_
  intro p9 e9 s m9 args below meth c9 A Q hC hr hlk hW hQ ls hl
  obtain ⟨hx, hb, hml, hown, hts⟩ := id hC
  have hl : lv_has ls 5 [(0, .ref (ad 1)), (1, .int (nI q)), (2, .int (nI k)), (3, .int x)] := hl
  refine lv_aload_n hx hb dX3_toll_0 rfl (lv_at hl 0 rfl) ?_
  refine gX_S_slick hC hW q_fl_RX3_9 dX3_toll_1 ?_
  refine lv_iload_n hx hb dX3_toll_4 rfl (lv_at hl 2 rfl) ?_
  refine r_ildN (t0 := 0) (j := k) hC hW eX_2 rfl (rfl) (by omega) (by decide) dX3_toll_5 ?_
  refine lv_iload_n hx hb dX3_toll_6 rfl (lv_at hl 3 rfl) ?_
  refine lv_isub hx hb dX3_toll_7 ?_
  refine lv_aload_n hx hb dX3_toll_8 rfl (lv_at hl 0 rfl) ?_
  refine gX_S_nails hC hW q_fl_RX3_24 dX3_toll_9 ?_
  refine lv_iload_n hx hb dX3_toll_12 rfl (lv_at hl 1 rfl) ?_
  refine r_ildN (t0 := 0) (j := q) hC hW eX_6 rfl (rfl) (by omega) (by decide) dX3_toll_13 ?_
  refine lv_isub hx hb dX3_toll_14 ?_
  refine lv_istore (lv' := [(4, .int (((t.2 2 k) - x) - (t.2 6 q))), (0, .ref (ad 1)), (1, .int (nI q)), (2, .int (nI k)), (3, .int x)]) hx hb dX3_toll_15 hl (by decide) rfl (fun ls hl => ?_)
  refine lv_iconst (v := 0) hx hb dX3_toll_17 (by decide) ?_
  refine lv_aload_n hx hb dX3_toll_18 rfl (lv_at hl 1 rfl) ?_
  refine gX_S_kind hC hW q_fl_RX3_18 dX3_toll_19 ?_
  refine lv_iload_n hx hb dX3_toll_22 rfl (lv_at hl 2 rfl) ?_
  refine r_ildN (t0 := 0) (j := q) hC hW eX_4 rfl (rfl) (by omega) (by decide) dX3_toll_23 ?_
  refine lv_iconst (v := 1) hx hb dX3_toll_24 (by decide) ?_
  refine lv_icmp_ne (tgt := 35) hx hb dX3_toll_25 (by decide) (fun c_25_1 => ?_) (fun c_25_1 => ?_)
  · refine lv_iload hx hb dX3_toll_35 (lv_at hl 0 rfl) ?_
    refine r_max hC hl.1 q_ml_RX3_27 ⟨Nat.le_of_ble_eq_true rfl, Nat.le_of_ble_eq_true rfl⟩ ⟨Nat.zero_le _, Nat.zero_le _⟩ dX3_toll_37 ?_
    exact r_ireti hC hr hlk hW hQ (⟨by rw [← hh]; show _ = mx0 (if (hX P t).2.2.1 q = 1 then _ else _); rw [if_neg (show ¬ (hX P t).2.2.1 q = 1 from c_25_1)]; rfl, rfl⟩) dX3_toll_40
  · refine lv_iload hx hb dX3_toll_28 (lv_at hl 0 rfl) ?_
    refine lv_iconst (v := 1) hx hb dX3_toll_30 (by decide) ?_
    refine lv_isub hx hb dX3_toll_31 ?_
    refine lv_goto (tgt := 37) hx hb dX3_toll_32 (by decide) ?_
    refine r_max hC hl.1 q_ml_RX3_27 ⟨Nat.le_of_ble_eq_true rfl, Nat.le_of_ble_eq_true rfl⟩ ⟨Nat.zero_le _, Nat.zero_le _⟩ dX3_toll_37 ?_
    exact r_ireti hC hr hlk hW hQ (⟨by rw [← hh]; show _ = mx0 (if (hX P t).2.2.1 q = 1 then _ else _); rw [if_pos (show  (hX P t).2.2.1 q = 1 from c_25_1)]; rfl, rfl⟩) dX3_toll_40
set_option maxRecDepth 100000 in
set_option maxHeartbeats 4000000 in
theorem m_X3_marks (l : Launch) (D : va_G) (cs : CS3) (ad : Nat → Nat) (t : St) (P : Nat) (h : HL) (q : Nat) (hh : hX P t = h) (hq : q < 5): CT l yX3_marks cX3_marks 2 (some .int) (rmk 0 0) (wX cs ad) (tyX cs) D [.ref (ad 1), .int (nI q)] t (va_Qi (fun r u => r = marks h q ∧ u = t)) := by
  refine CT.of (own := RX3) (by decide) rfl (Nat.le_of_ble_eq_true rfl) ?_
  intro p9 e9 s m9 args below meth c9 A Q hC hr hlk hW hQ ls hl
  obtain ⟨hx, hb, hml, hown, hts⟩ := id hC
  have hl : lv_has ls 2 [(0, .ref (ad 1)), (1, .int (nI q))] := hl
  refine lv_aload_n hx hb dX3_marks_0 rfl (lv_at hl 0 rfl) ?_
  refine gX_S_kind hC hW q_fl_RX3_18 dX3_marks_1 ?_
  refine lv_iload_n hx hb dX3_marks_4 rfl (lv_at hl 1 rfl) ?_
  refine r_ildN (t0 := 0) (j := q) hC hW eX_4 rfl (rfl) (by omega) (by decide) dX3_marks_5 ?_
  refine lv_iconst (v := 2) hx hb dX3_marks_6 (by decide) ?_
  refine lv_icmp_ne (tgt := 14) hx hb dX3_marks_7 (by decide) (fun c_7_1 => ?_) (fun c_7_1 => ?_)
  · refine lv_iconst (v := 1) hx hb dX3_marks_14 (by decide) ?_
    exact r_ireti hC hr hlk hW hQ (⟨by rw [← hh]; show _ = if (hX P t).2.2.1 q = 2 then _ else _; rw [if_neg (show ¬ (hX P t).2.2.1 q = 2 from c_7_1)], rfl⟩) dX3_marks_15
  · refine lv_iconst (v := 2) hx hb dX3_marks_10 (by decide) ?_
    refine lv_goto (tgt := 15) hx hb dX3_marks_11 (by decide) ?_
    exact r_ireti hC hr hlk hW hQ (⟨by rw [← hh]; show _ = if (hX P t).2.2.1 q = 2 then _ else _; rw [if_pos (show  (hX P t).2.2.1 q = 2 from c_7_1)], rfl⟩) dX3_marks_15
set_option maxRecDepth 100000 in
set_option maxHeartbeats 4000000 in
theorem m_X3_exchange0 (l : Launch) (D : va_G) (cs : CS3) (ad : Nat → Nat) (t : St) (q : Nat) (v : Int32) (hq : q < 5): CT l yX3_exchange cX3_exchange 6 (some .int) (rmk 0 0) (wX cs ad) (tyX cs) D [.ref (ad 1), .int 0, .int (nI q), .int v] t (va_Qi (fun r u => r = t.2 5 q ∧ u = (t.1, va_up t.2 5 (upd (t.2 5) q v)))) := by
  refine CT.of (own := RX3) (by decide) rfl (Nat.le_of_ble_eq_true rfl) ?_
  intro p9 e9 s m9 args below meth c9 A Q hC hr hlk hW hQ ls hl
  obtain ⟨hx, hb, hml, hown, hts⟩ := id hC
  have hl : lv_has ls 6 [(0, .ref (ad 1)), (1, .int 0), (2, .int (nI q)), (3, .int v)] := hl
  refine lv_iload_n hx hb dX3_exchange_0 rfl (lv_at hl 1 rfl) ?_
  refine lv_if_ne (tgt := 11) hx hb dX3_exchange_1 (by decide) (fun c_1_1 => ?_) (fun c_1_1 => ?_)
  · exact absurd c_1_1 (by decide)
  · refine lv_aload_n hx hb dX3_exchange_4 rfl (lv_at hl 0 rfl) ?_
    refine gX_S_speed hC hW q_fl_RX3_21 dX3_exchange_5 ?_
    refine lv_goto (tgt := 39) hx hb dX3_exchange_8 (by decide) ?_
    refine lv_astore (lv' := [(4, .ref (ad 5)), (0, .ref (ad 1)), (1, .int 0), (2, .int (nI q)), (3, .int v)]) hx hb dX3_exchange_39 hl (by decide) rfl (fun ls hl => ?_)
    refine lv_aload hx hb dX3_exchange_41 (lv_at hl 0 rfl) ?_
    refine lv_iload_n hx hb dX3_exchange_43 rfl (lv_at hl 3 rfl) ?_
    refine r_ildN (t0 := 0) (j := q) hC hW eX_5 rfl (rfl) (by omega) (by decide) dX3_exchange_44 ?_
    refine lv_istore (lv' := [(5, .int (t.2 5 q)), (4, .ref (ad 5)), (0, .ref (ad 1)), (1, .int 0), (2, .int (nI q)), (3, .int v)]) hx hb dX3_exchange_45 hl (by decide) rfl (fun ls hl => ?_)
    refine lv_aload hx hb dX3_exchange_47 (lv_at hl 1 rfl) ?_
    refine lv_iload_n hx hb dX3_exchange_49 rfl (lv_at hl 4 rfl) ?_
    refine lv_iload_n hx hb dX3_exchange_50 rfl (lv_at hl 5 rfl) ?_
    refine r_istN (t0 := 0) (j := q) hC hW eX_5 rfl (rfl) (by omega) (by decide) (sX_5 _) dX3_exchange_51 (fun H locs hW => ?_)
    have hW : HX (wX cs ad) (tyX cs) D A s.heap s (t.1, va_up t.2 5 (upd (t.2 5) q v)) H locs := hW
    refine lv_iload hx hb dX3_exchange_52 (lv_at hl 0 rfl) ?_
    exact r_ireti hC hr hlk hW hQ (⟨rfl, rfl⟩) dX3_exchange_54
set_option maxRecDepth 100000 in
set_option maxHeartbeats 4000000 in
theorem m_X3_exchange1 (l : Launch) (D : va_G) (cs : CS3) (ad : Nat → Nat) (t : St) (q : Nat) (v : Int32) (hq : q < 5): CT l yX3_exchange cX3_exchange 6 (some .int) (rmk 0 0) (wX cs ad) (tyX cs) D [.ref (ad 1), .int 1, .int (nI q), .int v] t (va_Qi (fun r u => r = t.2 6 q ∧ u = (t.1, va_up t.2 6 (upd (t.2 6) q v)))) := by
  refine CT.of (own := RX3) (by decide) rfl (Nat.le_of_ble_eq_true rfl) ?_
  intro p9 e9 s m9 args below meth c9 A Q hC hr hlk hW hQ ls hl
  obtain ⟨hx, hb, hml, hown, hts⟩ := id hC
  have hl : lv_has ls 6 [(0, .ref (ad 1)), (1, .int 1), (2, .int (nI q)), (3, .int v)] := hl
  refine lv_iload_n hx hb dX3_exchange_0 rfl (lv_at hl 1 rfl) ?_
  refine lv_if_ne (tgt := 11) hx hb dX3_exchange_1 (by decide) (fun c_1_1 => ?_) (fun c_1_1 => ?_)
  · refine lv_iload_n hx hb dX3_exchange_11 rfl (lv_at hl 1 rfl) ?_
    refine lv_iconst (v := 1) hx hb dX3_exchange_12 (by decide) ?_
    refine lv_icmp_ne (tgt := 23) hx hb dX3_exchange_13 (by decide) (fun c_13_2 => ?_) (fun c_13_2 => ?_)
    · exact absurd c_13_2 (by decide)
    · refine lv_aload_n hx hb dX3_exchange_16 rfl (lv_at hl 0 rfl) ?_
      refine gX_S_nails hC hW q_fl_RX3_24 dX3_exchange_17 ?_
      refine lv_goto (tgt := 39) hx hb dX3_exchange_20 (by decide) ?_
      refine lv_astore (lv' := [(4, .ref (ad 6)), (0, .ref (ad 1)), (1, .int 1), (2, .int (nI q)), (3, .int v)]) hx hb dX3_exchange_39 hl (by decide) rfl (fun ls hl => ?_)
      refine lv_aload hx hb dX3_exchange_41 (lv_at hl 0 rfl) ?_
      refine lv_iload_n hx hb dX3_exchange_43 rfl (lv_at hl 3 rfl) ?_
      refine r_ildN (t0 := 0) (j := q) hC hW eX_6 rfl (rfl) (by omega) (by decide) dX3_exchange_44 ?_
      refine lv_istore (lv' := [(5, .int (t.2 6 q)), (4, .ref (ad 6)), (0, .ref (ad 1)), (1, .int 1), (2, .int (nI q)), (3, .int v)]) hx hb dX3_exchange_45 hl (by decide) rfl (fun ls hl => ?_)
      refine lv_aload hx hb dX3_exchange_47 (lv_at hl 1 rfl) ?_
      refine lv_iload_n hx hb dX3_exchange_49 rfl (lv_at hl 4 rfl) ?_
      refine lv_iload_n hx hb dX3_exchange_50 rfl (lv_at hl 5 rfl) ?_
      refine r_istN (t0 := 0) (j := q) hC hW eX_6 rfl (rfl) (by omega) (by decide) (sX_6 _) dX3_exchange_51 (fun H locs hW => ?_)
      have hW : HX (wX cs ad) (tyX cs) D A s.heap s (t.1, va_up t.2 6 (upd (t.2 6) q v)) H locs := hW
      refine lv_iload hx hb dX3_exchange_52 (lv_at hl 0 rfl) ?_
      exact r_ireti hC hr hlk hW hQ (⟨rfl, rfl⟩) dX3_exchange_54
  · exact absurd c_1_1 (by decide)
set_option maxRecDepth 100000 in
set_option maxHeartbeats 4000000 in
theorem m_X3_exchange2 (l : Launch) (D : va_G) (cs : CS3) (ad : Nat → Nat) (t : St) (q : Nat) (v : Int32) (hq : q < 8): CT l yX3_exchange cX3_exchange 6 (some .int) (rmk 0 0) (wX cs ad) (tyX cs) D [.ref (ad 1), .int 2, .int (nI q), .int v] t (va_Qi (fun r u => r = t.2 2 q ∧ u = (t.1, va_up t.2 2 (upd (t.2 2) q v)))) := by
  refine CT.of (own := RX3) (by decide) rfl (Nat.le_of_ble_eq_true rfl) ?_
  intro p9 e9 s m9 args below meth c9 A Q hC hr hlk hW hQ ls hl
  obtain ⟨hx, hb, hml, hown, hts⟩ := id hC
  have hl : lv_has ls 6 [(0, .ref (ad 1)), (1, .int 2), (2, .int (nI q)), (3, .int v)] := hl
  refine lv_iload_n hx hb dX3_exchange_0 rfl (lv_at hl 1 rfl) ?_
  refine lv_if_ne (tgt := 11) hx hb dX3_exchange_1 (by decide) (fun c_1_1 => ?_) (fun c_1_1 => ?_)
  · refine lv_iload_n hx hb dX3_exchange_11 rfl (lv_at hl 1 rfl) ?_
    refine lv_iconst (v := 1) hx hb dX3_exchange_12 (by decide) ?_
    refine lv_icmp_ne (tgt := 23) hx hb dX3_exchange_13 (by decide) (fun c_13_2 => ?_) (fun c_13_2 => ?_)
    · refine lv_iload_n hx hb dX3_exchange_23 rfl (lv_at hl 1 rfl) ?_
      refine lv_iconst (v := 2) hx hb dX3_exchange_24 (by decide) ?_
      refine lv_icmp_ne (tgt := 35) hx hb dX3_exchange_25 (by decide) (fun c_25_3 => ?_) (fun c_25_3 => ?_)
      · exact absurd c_25_3 (by decide)
      · refine lv_aload_n hx hb dX3_exchange_28 rfl (lv_at hl 0 rfl) ?_
        refine gX_S_slick hC hW q_fl_RX3_9 dX3_exchange_29 ?_
        refine lv_goto (tgt := 39) hx hb dX3_exchange_32 (by decide) ?_
        refine lv_astore (lv' := [(4, .ref (ad 2)), (0, .ref (ad 1)), (1, .int 2), (2, .int (nI q)), (3, .int v)]) hx hb dX3_exchange_39 hl (by decide) rfl (fun ls hl => ?_)
        refine lv_aload hx hb dX3_exchange_41 (lv_at hl 0 rfl) ?_
        refine lv_iload_n hx hb dX3_exchange_43 rfl (lv_at hl 3 rfl) ?_
        refine r_ildN (t0 := 0) (j := q) hC hW eX_2 rfl (rfl) (by omega) (by decide) dX3_exchange_44 ?_
        refine lv_istore (lv' := [(5, .int (t.2 2 q)), (4, .ref (ad 2)), (0, .ref (ad 1)), (1, .int 2), (2, .int (nI q)), (3, .int v)]) hx hb dX3_exchange_45 hl (by decide) rfl (fun ls hl => ?_)
        refine lv_aload hx hb dX3_exchange_47 (lv_at hl 1 rfl) ?_
        refine lv_iload_n hx hb dX3_exchange_49 rfl (lv_at hl 4 rfl) ?_
        refine lv_iload_n hx hb dX3_exchange_50 rfl (lv_at hl 5 rfl) ?_
        refine r_istN (t0 := 0) (j := q) hC hW eX_2 rfl (rfl) (by omega) (by decide) (sX_2 _) dX3_exchange_51 (fun H locs hW => ?_)
        have hW : HX (wX cs ad) (tyX cs) D A s.heap s (t.1, va_up t.2 2 (upd (t.2 2) q v)) H locs := hW
        refine lv_iload hx hb dX3_exchange_52 (lv_at hl 0 rfl) ?_
        exact r_ireti hC hr hlk hW hQ (⟨rfl, rfl⟩) dX3_exchange_54
    · exact absurd c_13_2 (by decide)
  · exact absurd c_1_1 (by decide)
set_option maxRecDepth 100000 in
set_option maxHeartbeats 4000000 in
theorem m_X3_exchange3 (l : Launch) (D : va_G) (cs : CS3) (ad : Nat → Nat) (t : St) (q : Nat) (v : Int32) (hq : q < 5): CT l yX3_exchange cX3_exchange 6 (some .int) (rmk 0 0) (wX cs ad) (tyX cs) D [.ref (ad 1), .int 3, .int (nI q), .int v] t (va_Qi (fun r u => r = t.2 4 q ∧ u = (t.1, va_up t.2 4 (upd (t.2 4) q v)))) := by
  refine CT.of (own := RX3) (by decide) rfl (Nat.le_of_ble_eq_true rfl) ?_
  intro p9 e9 s m9 args below meth c9 A Q hC hr hlk hW hQ ls hl
  obtain ⟨hx, hb, hml, hown, hts⟩ := id hC
  have hl : lv_has ls 6 [(0, .ref (ad 1)), (1, .int 3), (2, .int (nI q)), (3, .int v)] := hl
  refine lv_iload_n hx hb dX3_exchange_0 rfl (lv_at hl 1 rfl) ?_
  refine lv_if_ne (tgt := 11) hx hb dX3_exchange_1 (by decide) (fun c_1_1 => ?_) (fun c_1_1 => ?_)
  · refine lv_iload_n hx hb dX3_exchange_11 rfl (lv_at hl 1 rfl) ?_
    refine lv_iconst (v := 1) hx hb dX3_exchange_12 (by decide) ?_
    refine lv_icmp_ne (tgt := 23) hx hb dX3_exchange_13 (by decide) (fun c_13_2 => ?_) (fun c_13_2 => ?_)
    · refine lv_iload_n hx hb dX3_exchange_23 rfl (lv_at hl 1 rfl) ?_
      refine lv_iconst (v := 2) hx hb dX3_exchange_24 (by decide) ?_
      refine lv_icmp_ne (tgt := 35) hx hb dX3_exchange_25 (by decide) (fun c_25_3 => ?_) (fun c_25_3 => ?_)
      · refine lv_aload_n hx hb dX3_exchange_35 rfl (lv_at hl 0 rfl) ?_
        refine gX_S_kind hC hW q_fl_RX3_18 dX3_exchange_36 ?_
        refine lv_astore (lv' := [(4, .ref (ad 4)), (0, .ref (ad 1)), (1, .int 3), (2, .int (nI q)), (3, .int v)]) hx hb dX3_exchange_39 hl (by decide) rfl (fun ls hl => ?_)
        refine lv_aload hx hb dX3_exchange_41 (lv_at hl 0 rfl) ?_
        refine lv_iload_n hx hb dX3_exchange_43 rfl (lv_at hl 3 rfl) ?_
        refine r_ildN (t0 := 0) (j := q) hC hW eX_4 rfl (rfl) (by omega) (by decide) dX3_exchange_44 ?_
        refine lv_istore (lv' := [(5, .int (t.2 4 q)), (4, .ref (ad 4)), (0, .ref (ad 1)), (1, .int 3), (2, .int (nI q)), (3, .int v)]) hx hb dX3_exchange_45 hl (by decide) rfl (fun ls hl => ?_)
        refine lv_aload hx hb dX3_exchange_47 (lv_at hl 1 rfl) ?_
        refine lv_iload_n hx hb dX3_exchange_49 rfl (lv_at hl 4 rfl) ?_
        refine lv_iload_n hx hb dX3_exchange_50 rfl (lv_at hl 5 rfl) ?_
        refine r_istN (t0 := 0) (j := q) hC hW eX_4 rfl (rfl) (by omega) (by decide) (sX_4 _) dX3_exchange_51 (fun H locs hW => ?_)
        have hW : HX (wX cs ad) (tyX cs) D A s.heap s (t.1, va_up t.2 4 (upd (t.2 4) q v)) H locs := hW
        refine lv_iload hx hb dX3_exchange_52 (lv_at hl 0 rfl) ?_
        exact r_ireti hC hr hlk hW hQ (⟨rfl, rfl⟩) dX3_exchange_54
      · exact absurd c_25_3 (by decide)
    · exact absurd c_13_2 (by decide)
  · exact absurd c_1_1 (by decide)
set_option maxRecDepth 100000 in
set_option maxHeartbeats 4000000 in
theorem m_X0_isUp (l : Launch) (D : va_G) (cs : CS3) (ad : Nat → Nat) (t : St) (d : Nat) (hd : d < 11) (q : Nat) : CT l yX0_isUp cX0_isUp 2 (some .boolean) (rmk 0 0) (wX cs ad) (tyX cs) D [.ref (ad (22 + 4 * d)), .int (nI q)] t (va_Qi (fun r u => r = bI (isup (t.1 (13 + d)) q) ∧ u = t)) := by
  refine CT.of (own := RX0) (by decide) rfl (Nat.le_of_ble_eq_true rfl) ?_
  intro p9 e9 s m9 args below meth c9 A Q hC hr hlk hW hQ ls hl
  obtain ⟨hx, hb, hml, hown, hts⟩ := id hC
  have hl : lv_has ls 2 [(0, .ref (ad (22 + 4 * d))), (1, .int (nI q))] := hl
  refine lv_aload_n hx hb dX0_isUp_0 rfl (lv_at hl 0 rfl) ?_
  refine gX_C_up d hd hC hW q_fl_RX0_42 dX0_isUp_1 ?_
  refine lv_iload_n hx hb dX0_isUp_4 rfl (lv_at hl 1 rfl) ?_
  refine lv_ishr hx hb dX0_isUp_5 ?_
  refine lv_iconst (v := 1) hx hb dX0_isUp_6 (by decide) ?_
  refine lv_iand hx hb dX0_isUp_7 ?_
  refine lv_iconst (v := 1) hx hb dX0_isUp_8 (by decide) ?_
  refine lv_icmp_ne (tgt := 16) hx hb dX0_isUp_9 (by decide) (fun c_9_1 => ?_) (fun c_9_1 => ?_)
  · refine lv_iconst (v := 0) hx hb dX0_isUp_16 (by decide) ?_
    exact r_iretz hC hr hlk hW hQ (⟨bI_f c_9_1, rfl⟩) (rfl) dX0_isUp_17
  · refine lv_iconst (v := 1) hx hb dX0_isUp_12 (by decide) ?_
    refine lv_goto (tgt := 17) hx hb dX0_isUp_13 (by decide) ?_
    exact r_iretz hC hr hlk hW hQ (⟨bI_t c_9_1, rfl⟩) (rfl) dX0_isUp_17
set_option maxRecDepth 100000 in
set_option maxHeartbeats 4000000 in
theorem m_X0_begin (l : Launch) (D : va_G) (cs : CS3) (ad : Nat → Nat) (t : St) (d : Nat) (hd : d < 11) : CT l yX0_begin cX0_begin 1 none (rmk 1 100) (wX cs ad) (tyX cs) D [.ref (ad (22 + 4 * d))] t (va_Qv (fun u => agrC d t u ∧ cv u d = beg t)) := by
  refine CT.of (own := RX0) (by decide) rfl (Nat.le_of_ble_eq_true rfl) ?_
  intro p9 e9 s m9 args below meth c9 A Q hC hr hlk hW hQ ls hl
  obtain ⟨hx, hb, hml, hown, hts⟩ := id hC
  have hl : lv_has ls 1 [(0, .ref (ad (22 + 4 * d)))] := hl
  refine lv_aload_n hx hb dX0_begin_0 rfl (lv_at hl 0 rfl) ?_
  refine gX_C_slope d hd hC hW q_fl_RX0_21 dX0_begin_1 ?_
  refine gX_S_laid hC hW q_fl_RX0_25 dX0_begin_4 ?_
  refine lv_iconst (v := 0) hx hb dX0_begin_7 (by decide) ?_
  refine lv_aload_n hx hb dX0_begin_8 rfl (lv_at hl 0 rfl) ?_
  refine gX_C_scratches d hd hC hW q_fl_RX0_9 dX0_begin_9 ?_
  refine lv_iconst (v := 0) hx hb dX0_begin_12 (by decide) ?_
  refine lv_bipush (v := 8) hx hb dX0_begin_13 (by decide) ?_
  refine r_copyX (q0 := 3) (q1 := 23 + 4 * d) (t0 := 0) (g' := t.2 3) hC hW hl.1 q_ml_RX0_30 eX_3 (eX_Csc d hd) rfl (by decide) (by decide) (by decide) (by decide) (by decide) (fun j hj => (pk_cpy_in (Nat.zero_le _) (by simpa using hj)).trans (by simp (disch := omega) [va_up_ne])) ((sX_Csc d hd) _) ⟨Nat.le_of_ble_eq_true rfl, Nat.le_of_ble_eq_true rfl⟩ dX0_begin_15 (fun H locs hW => ?_)
  have hW : HX (wX cs ad) (tyX cs) D A s.heap s (t.1, va_up t.2 (23 + 4 * d) (t.2 3)) H locs := hW
  refine lv_aload_n hx hb dX0_begin_18 rfl (lv_at hl 0 rfl) ?_
  refine gX_C_tries d hd hC hW q_fl_RX0_15 dX0_begin_19 ?_
  refine lv_iconst (v := 0) hx hb dX0_begin_22 (by decide) ?_
  refine r_fill (q0 := 24 + 4 * d) (t0 := 0) hC hW (eX_Ctr d hd) rfl ((sX_Ctr d hd) _) (by decide) q_ml_RX0_36 hl.1 (Nat.le_of_ble_eq_true rfl) ⟨Nat.le_of_ble_eq_true rfl, Nat.le_of_ble_eq_true rfl⟩ dX0_begin_23 ⟨Nat.zero_le _, Nat.zero_le _⟩ (fun H locs hW => ?_)
  have hW : HX (wX cs ad) (tyX cs) D A s.heap s (t.1, va_up (va_up t.2 (23 + 4 * d) (t.2 3)) (24 + 4 * d) (fun _ => 0)) H locs := hW
  refine lv_aload_n hx hb dX0_begin_26 rfl (lv_at hl 0 rfl) ?_
  refine gX_C_heights d hd hC hW q_fl_RX0_18 dX0_begin_27 ?_
  refine lv_bipush (v := (-9)) hx hb dX0_begin_30 (by decide) ?_
  refine r_fill (q0 := 25 + 4 * d) (t0 := 0) hC hW (eX_Che d hd) rfl ((sX_Che d hd) _) (by decide) q_ml_RX0_36 hl.1 (Nat.le_of_ble_eq_true rfl) ⟨Nat.le_of_ble_eq_true rfl, Nat.le_of_ble_eq_true rfl⟩ dX0_begin_32 ⟨Nat.zero_le _, Nat.zero_le _⟩ (fun H locs hW => ?_)
  have hW : HX (wX cs ad) (tyX cs) D A s.heap s (t.1, va_up (va_up (va_up t.2 (23 + 4 * d) (t.2 3)) (24 + 4 * d) (fun _ => 0)) (25 + 4 * d) (fun _ => (-9))) H locs := hW
  refine lv_aload_n hx hb dX0_begin_35 rfl (lv_at hl 0 rfl) ?_
  refine lv_iconst (v := 0) hx hb dX0_begin_36 (by decide) ?_
  refine pX_C_up d hd hC hW q_fl_RX0_42 dX0_begin_37 (fun H locs hW => ?_)
  have hW : HX (wX cs ad) (tyX cs) D A s.heap s (va_up t.1 (13 + d) 0, va_up (va_up (va_up t.2 (23 + 4 * d) (t.2 3)) (24 + 4 * d) (fun _ => 0)) (25 + 4 * d) (fun _ => (-9))) H locs := hW
  exact r_vret hC hr hlk hW hQ (⟨⟨fun k h => by simp (disch := omega) only [va_up_ne], fun k h1 h2 h3 => by simp (disch := omega) only [va_up_ne]⟩, by simp (disch := omega) only [cv, beg, va_up_ne, va_up_self]⟩) dX0_begin_40
set_option maxRecDepth 100000 in
set_option maxHeartbeats 4000000 in
theorem m_X0_become (l : Launch) (D : va_G) (cs : CS3) (ad : Nat → Nat) (t : St) (d : Nat) (hd : d < 11) (d2 : Nat) (hd2 : d2 < 11) (hde : d ≠ d2) : CT l yX0_become cX0_become 2 none (rmk 1 100) (wX cs ad) (tyX cs) D [.ref (ad (22 + 4 * d)), .ref (ad (22 + 4 * d2))] t (va_Qv (fun u => agrC d t u ∧ cv u d = cv t d2)) := by
  refine CT.of (own := RX0) (by decide) rfl (Nat.le_of_ble_eq_true rfl) ?_
  intro p9 e9 s m9 args below meth c9 A Q hC hr hlk hW hQ ls hl
  obtain ⟨hx, hb, hml, hown, hts⟩ := id hC
  have hl : lv_has ls 2 [(0, .ref (ad (22 + 4 * d))), (1, .ref (ad (22 + 4 * d2)))] := hl
  refine lv_aload_n hx hb dX0_become_0 rfl (lv_at hl 1 rfl) ?_
  refine gX_C_scratches d2 hd2 hC hW q_fl_RX0_9 dX0_become_1 ?_
  refine lv_iconst (v := 0) hx hb dX0_become_4 (by decide) ?_
  refine lv_aload_n hx hb dX0_become_5 rfl (lv_at hl 0 rfl) ?_
  refine gX_C_scratches d hd hC hW q_fl_RX0_9 dX0_become_6 ?_
  refine lv_iconst (v := 0) hx hb dX0_become_9 (by decide) ?_
  refine lv_bipush (v := 8) hx hb dX0_become_10 (by decide) ?_
  refine r_copyX (q0 := 23 + 4 * d2) (q1 := 23 + 4 * d) (t0 := 0) (g' := t.2 (23 + 4 * d2)) hC hW hl.1 q_ml_RX0_30 (eX_Csc d2 hd2) (eX_Csc d hd) rfl (by decide) (by decide) (by decide) (by decide) (by decide) (fun j hj => (pk_cpy_in (Nat.zero_le _) (by simpa using hj)).trans (by simp (disch := omega) [va_up_ne])) ((sX_Csc d hd) _) ⟨Nat.le_of_ble_eq_true rfl, Nat.le_of_ble_eq_true rfl⟩ dX0_become_12 (fun H locs hW => ?_)
  have hW : HX (wX cs ad) (tyX cs) D A s.heap s (t.1, va_up t.2 (23 + 4 * d) (t.2 (23 + 4 * d2))) H locs := hW
  refine lv_aload_n hx hb dX0_become_15 rfl (lv_at hl 1 rfl) ?_
  refine gX_C_tries d2 hd2 hC hW q_fl_RX0_15 dX0_become_16 ?_
  refine lv_iconst (v := 0) hx hb dX0_become_19 (by decide) ?_
  refine lv_aload_n hx hb dX0_become_20 rfl (lv_at hl 0 rfl) ?_
  refine gX_C_tries d hd hC hW q_fl_RX0_15 dX0_become_21 ?_
  refine lv_iconst (v := 0) hx hb dX0_become_24 (by decide) ?_
  refine lv_iconst (v := 5) hx hb dX0_become_25 (by decide) ?_
  refine r_copyX (q0 := 24 + 4 * d2) (q1 := 24 + 4 * d) (t0 := 0) (g' := t.2 (24 + 4 * d2)) hC hW hl.1 q_ml_RX0_30 (eX_Ctr d2 hd2) (eX_Ctr d hd) rfl (by decide) (by decide) (by decide) (by decide) (by decide) (fun j hj => (pk_cpy_in (Nat.zero_le _) (by simpa using hj)).trans (by simp (disch := omega) [va_up_ne])) ((sX_Ctr d hd) _) ⟨Nat.le_of_ble_eq_true rfl, Nat.le_of_ble_eq_true rfl⟩ dX0_become_26 (fun H locs hW => ?_)
  have hW : HX (wX cs ad) (tyX cs) D A s.heap s (t.1, va_up (va_up t.2 (23 + 4 * d) (t.2 (23 + 4 * d2))) (24 + 4 * d) (t.2 (24 + 4 * d2))) H locs := hW
  refine lv_aload_n hx hb dX0_become_29 rfl (lv_at hl 1 rfl) ?_
  refine gX_C_heights d2 hd2 hC hW q_fl_RX0_18 dX0_become_30 ?_
  refine lv_iconst (v := 0) hx hb dX0_become_33 (by decide) ?_
  refine lv_aload_n hx hb dX0_become_34 rfl (lv_at hl 0 rfl) ?_
  refine gX_C_heights d hd hC hW q_fl_RX0_18 dX0_become_35 ?_
  refine lv_iconst (v := 0) hx hb dX0_become_38 (by decide) ?_
  refine lv_iconst (v := 5) hx hb dX0_become_39 (by decide) ?_
  refine r_copyX (q0 := 25 + 4 * d2) (q1 := 25 + 4 * d) (t0 := 0) (g' := t.2 (25 + 4 * d2)) hC hW hl.1 q_ml_RX0_30 (eX_Che d2 hd2) (eX_Che d hd) rfl (by decide) (by decide) (by decide) (by decide) (by decide) (fun j hj => (pk_cpy_in (Nat.zero_le _) (by simpa using hj)).trans (by simp (disch := omega) [va_up_ne])) ((sX_Che d hd) _) ⟨Nat.le_of_ble_eq_true rfl, Nat.le_of_ble_eq_true rfl⟩ dX0_become_40 (fun H locs hW => ?_)
  have hW : HX (wX cs ad) (tyX cs) D A s.heap s (t.1, va_up (va_up (va_up t.2 (23 + 4 * d) (t.2 (23 + 4 * d2))) (24 + 4 * d) (t.2 (24 + 4 * d2))) (25 + 4 * d) (t.2 (25 + 4 * d2))) H locs := hW
  refine lv_aload_n hx hb dX0_become_43 rfl (lv_at hl 0 rfl) ?_
  refine lv_aload_n hx hb dX0_become_44 rfl (lv_at hl 1 rfl) ?_
  refine gX_C_up d2 hd2 hC hW q_fl_RX0_42 dX0_become_45 ?_
  refine r_top (y := t.1 (13 + d2)) rfl ?_
  refine pX_C_up d hd hC hW q_fl_RX0_42 dX0_become_48 (fun H locs hW => ?_)
  have hW : HX (wX cs ad) (tyX cs) D A s.heap s (va_up t.1 (13 + d) (t.1 (13 + d2)), va_up (va_up (va_up t.2 (23 + 4 * d) (t.2 (23 + 4 * d2))) (24 + 4 * d) (t.2 (24 + 4 * d2))) (25 + 4 * d) (t.2 (25 + 4 * d2))) H locs := hW
  exact r_vret hC hr hlk hW hQ (⟨⟨fun k h => by simp (disch := omega) only [va_up_ne], fun k h1 h2 h3 => by simp (disch := omega) only [va_up_ne]⟩, by simp (disch := omega) only [cv, va_up_ne, va_up_self]⟩) dX0_become_51
set_option maxRecDepth 100000 in
set_option maxHeartbeats 4000000 in
theorem m_X0_polish (l : Launch) (D : va_G) (cs : CS3) (ad : Nat → Nat) (t : St) (d : Nat) (hd : d < 11) (P : Nat) (hP : t.1 2 = nI P) (hP8 : P ≤ 8): CT l yX0_polish cX0_polish 2 none (rmk 1 15) (wX cs ad) (tyX cs) D [.ref (ad (22 + 4 * d))] t (va_Qv (fun u => agrC d t u ∧ cv u d = rain P (cv t d))) := by
  refine CT.of (own := RX0) (by decide) rfl (Nat.le_of_ble_eq_true rfl) ?_
  intro p9 e9 s m9 args below meth c9 A Q hC hr hlk hW hQ ls hl
  obtain ⟨hx, hb, hml, hown, hts⟩ := id hC
  have hl : lv_has ls 2 [(0, .ref (ad (22 + 4 * d)))] := hl
  refine lv_iconst (v := 0) hx hb dX0_polish_0 (by decide) ?_
  refine lv_istore_n (lv' := [(1, .int 0), (0, .ref (ad (22 + 4 * d)))]) hx hb dX0_polish_1 rfl hl (by decide) rfl (fun ls hl => ?_)
  have loop_2_1 : ∀ (f9 : Nat) (k : Nat) (u : St), (k ≤ P) → (agrC d t u) → (cv u d = (rainF (t.2 (23 + 4 * d)) k, (cv t d).2)) → P - k < f9 → ∀ (H : Heap) (locs : List Loc), HX (wX cs ad) (tyX cs) D A s.heap s u H locs → ∀ ls : Array Slot, lv_has ls 2 [(1, .int (nI k)), (0, .ref (ad (22 + 4 * d)))] → W p9 l e9 (rmk 1 15) s m9 args below meth c9 H locs 0 0 Q (F0 m9 2 ls []) := by
    intro f_2
    induction f_2 with
    | zero => intro k u hk hg hc hm_2 H locs hW ls hl; exact absurd hm_2 (Nat.not_lt_zero _)
    | succ f_2 ih_2 =>
      intro k u hk hg hc hm_2 H locs hW ls hl
      refine lv_iload_n hx hb dX0_polish_2 rfl (lv_at hl 0 rfl) ?_
      refine lv_aload_n hx hb dX0_polish_3 rfl (lv_at hl 1 rfl) ?_
      refine gX_C_slope d hd hC hW q_fl_RX0_21 dX0_polish_4 ?_
      refine gX_S_paces hC hW q_fl_RX0_57 dX0_polish_7 ?_
      refine r_top (y := nI P) ((hg.1 2 (by omega)).trans hP) ?_
      refine lv_icmp_ge (tgt := 37) hx hb dX0_polish_10 (by decide) (fun c_10_2 => ?_) (fun c_10_2 => ?_)
      · have c_10_2 : P ≤ k := (nI_leI (a := P) (b := k) (by omega) (by omega)).mp c_10_2
        exact r_vret hC hr hlk hW hQ (⟨hg, by have : k = P := (by omega); subst this; exact hc⟩) dX0_polish_37
      · have c_10_2 : ¬ P ≤ k := fun h => c_10_2 ((nI_leI (a := P) (b := k) (by omega) (by omega)).mpr h)
        refine lv_aload_n hx hb dX0_polish_13 rfl (lv_at hl 1 rfl) ?_
        refine gX_C_scratches d hd hC hW q_fl_RX0_9 dX0_polish_14 ?_
        refine lv_iload_n hx hb dX0_polish_17 rfl (lv_at hl 0 rfl) ?_
        refine lv_iconst (v := 0) hx hb dX0_polish_18 (by decide) ?_
        refine lv_aload_n hx hb dX0_polish_19 rfl (lv_at hl 1 rfl) ?_
        refine gX_C_scratches d hd hC hW q_fl_RX0_9 dX0_polish_20 ?_
        refine lv_iload_n hx hb dX0_polish_23 rfl (lv_at hl 0 rfl) ?_
        refine r_ildN (t0 := 0) (j := k) hC hW (eX_Csc d hd) rfl (rfl) (by omega) (by decide) dX0_polish_24 ?_
        refine lv_iconst (v := 1) hx hb dX0_polish_25 (by decide) ?_
        refine lv_isub hx hb dX0_polish_26 ?_
        refine r_max hC hl.1 q_ml_RX0_60 ⟨Nat.le_of_ble_eq_true rfl, Nat.le_of_ble_eq_true rfl⟩ ⟨Nat.zero_le _, Nat.zero_le _⟩ dX0_polish_27 ?_
        refine r_istN (t0 := 0) (j := k) hC hW (eX_Csc d hd) rfl (rfl) (by omega) (by decide) ((sX_Csc d hd) _) dX0_polish_30 (fun H locs hW => ?_)
        have hW : HX (wX cs ad) (tyX cs) D A s.heap s (u.1, va_up u.2 (23 + 4 * d) (upd (u.2 (23 + 4 * d)) k (if 0 < (u.2 (23 + 4 * d) k) - 1 then (u.2 (23 + 4 * d) k) - 1 else 0))) H locs := hW
        refine lv_iinc (v := nI (k + 1)) (lv' := [(1, .int (nI (k + 1))), (0, .ref (ad (22 + 4 * d)))]) hx hb dX0_polish_31 hl (k := 0) rfl (nI_1 _) (by decide) rfl (fun ls hl => ?_)
        refine lv_goto (tgt := 2) hx hb dX0_polish_34 (by decide) ?_
        exact ih_2 (k + 1) (u.1, va_up u.2 (23 + 4 * d) (upd (u.2 (23 + 4 * d)) k (if 0 < (u.2 (23 + 4 * d) k) - 1 then (u.2 (23 + 4 * d) k) - 1 else 0))) (by omega) (hg.tr ⟨fun k h => by simp (disch := omega) only [va_up_ne], fun k h1 h2 h3 => by simp (disch := omega) only [va_up_ne]⟩) (by have e1 := congrArg Prod.fst hc; have e2 := congrArg Prod.snd hc; simp (disch := omega) only [cv, va_up_ne, va_up_self] at e1 e2 ⊢; exact Prod.ext (by rw [e1]; exact rainF_s _ _) e2) (by omega) _ _ hW ls (lv_sub hl [0, 1] rfl)
  exact loop_2_1 _ 0 t (Nat.zero_le _) (agrC.rf d t) (by simp only [cv, Prod.mk.injEq, and_true]; funext p; simp [rainF]) (Nat.lt_succ_self _) _ _ hW ls (lv_sub hl [0, 1] rfl)
set_option maxRecDepth 100000 in
set_option maxHeartbeats 4000000 in
theorem m_X0_slideBack (l : Launch) (D : va_G) (cs : CS3) (ad : Nat → Nat) (t : St) (d : Nat) (hd : d < 11) (n : Nat) (g : Int32) (hn : n ≤ 8): CT l yX0_slideBack cX0_slideBack 4 none (rmk 1 15) (wX cs ad) (tyX cs) D [.ref (ad (22 + 4 * d)), .int (nI n), .int g] t (va_Qv (fun u => agrC d t u ∧ cv u d = (slideF (t.2 (23 + 4 * d)) n g, (cv t d).2))) := by
  refine CT.of (own := RX0) (by decide) rfl (Nat.le_of_ble_eq_true rfl) ?_
  intro p9 e9 s m9 args below meth c9 A Q hC hr hlk hW hQ ls hl
  obtain ⟨hx, hb, hml, hown, hts⟩ := id hC
  have hl : lv_has ls 4 [(0, .ref (ad (22 + 4 * d))), (1, .int (nI n)), (2, .int g)] := hl
  refine lv_iconst (v := 0) hx hb dX0_slideBack_0 (by decide) ?_
  refine lv_istore_n (lv' := [(3, .int 0), (0, .ref (ad (22 + 4 * d))), (1, .int (nI n)), (2, .int g)]) hx hb dX0_slideBack_1 rfl hl (by decide) rfl (fun ls hl => ?_)
  have loop_2_1 : ∀ (f9 : Nat) (k : Nat) (u : St), (k ≤ n) → (agrC d t u) → (cv u d = (slideF (t.2 (23 + 4 * d)) k g, (cv t d).2)) → n - k < f9 → ∀ (H : Heap) (locs : List Loc), HX (wX cs ad) (tyX cs) D A s.heap s u H locs → ∀ ls : Array Slot, lv_has ls 4 [(3, .int (nI k)), (0, .ref (ad (22 + 4 * d))), (1, .int (nI n)), (2, .int g)] → W p9 l e9 (rmk 1 15) s m9 args below meth c9 H locs 0 0 Q (F0 m9 2 ls []) := by
    intro f_2
    induction f_2 with
    | zero => intro k u hk hg hc hm_2 H locs hW ls hl; exact absurd hm_2 (Nat.not_lt_zero _)
    | succ f_2 ih_2 =>
      intro k u hk hg hc hm_2 H locs hW ls hl
      refine lv_iload_n hx hb dX0_slideBack_2 rfl (lv_at hl 0 rfl) ?_
      refine lv_iload_n hx hb dX0_slideBack_3 rfl (lv_at hl 2 rfl) ?_
      refine lv_icmp_ge (tgt := 32) hx hb dX0_slideBack_4 (by decide) (fun c_4_2 => ?_) (fun c_4_2 => ?_)
      · have c_4_2 : n ≤ k := (nI_leI (a := n) (b := k) (by omega) (by omega)).mp c_4_2
        exact r_vret hC hr hlk hW hQ (⟨hg, by have : k = n := (by omega); subst this; exact hc⟩) dX0_slideBack_32
      · have c_4_2 : ¬ n ≤ k := fun h => c_4_2 ((nI_leI (a := n) (b := k) (by omega) (by omega)).mpr h)
        refine lv_aload_n hx hb dX0_slideBack_7 rfl (lv_at hl 1 rfl) ?_
        refine gX_C_scratches d hd hC hW q_fl_RX0_9 dX0_slideBack_8 ?_
        refine lv_iload_n hx hb dX0_slideBack_11 rfl (lv_at hl 0 rfl) ?_
        refine lv_bipush (v := 9) hx hb dX0_slideBack_12 (by decide) ?_
        refine lv_aload_n hx hb dX0_slideBack_14 rfl (lv_at hl 1 rfl) ?_
        refine gX_C_scratches d hd hC hW q_fl_RX0_9 dX0_slideBack_15 ?_
        refine lv_iload_n hx hb dX0_slideBack_18 rfl (lv_at hl 0 rfl) ?_
        refine r_ildN (t0 := 0) (j := k) hC hW (eX_Csc d hd) rfl (rfl) (by omega) (by decide) dX0_slideBack_19 ?_
        refine lv_iload_n hx hb dX0_slideBack_20 rfl (lv_at hl 3 rfl) ?_
        refine lv_iadd hx hb dX0_slideBack_21 ?_
        refine r_min hC hl.1 q_ml_RX0_81 ⟨Nat.le_of_ble_eq_true rfl, Nat.le_of_ble_eq_true rfl⟩ ⟨Nat.zero_le _, Nat.zero_le _⟩ dX0_slideBack_22 ?_
        refine r_istN (t0 := 0) (j := k) hC hW (eX_Csc d hd) rfl (rfl) (by omega) (by decide) ((sX_Csc d hd) _) dX0_slideBack_25 (fun H locs hW => ?_)
        have hW : HX (wX cs ad) (tyX cs) D A s.heap s (u.1, va_up u.2 (23 + 4 * d) (upd (u.2 (23 + 4 * d)) k (if (u.2 (23 + 4 * d) k) + g < 9 then (u.2 (23 + 4 * d) k) + g else 9))) H locs := hW
        refine lv_iinc (v := nI (k + 1)) (lv' := [(3, .int (nI (k + 1))), (0, .ref (ad (22 + 4 * d))), (1, .int (nI n)), (2, .int g)]) hx hb dX0_slideBack_26 hl (k := 0) rfl (nI_1 _) (by decide) rfl (fun ls hl => ?_)
        refine lv_goto (tgt := 2) hx hb dX0_slideBack_29 (by decide) ?_
        exact ih_2 (k + 1) (u.1, va_up u.2 (23 + 4 * d) (upd (u.2 (23 + 4 * d)) k (if (u.2 (23 + 4 * d) k) + g < 9 then (u.2 (23 + 4 * d) k) + g else 9))) (by omega) (hg.tr ⟨fun k h => by simp (disch := omega) only [va_up_ne], fun k h1 h2 h3 => by simp (disch := omega) only [va_up_ne]⟩) (by have e1 := congrArg Prod.fst hc; have e2 := congrArg Prod.snd hc; simp (disch := omega) only [cv, va_up_ne, va_up_self] at e1 e2 ⊢; exact Prod.ext (by rw [e1]; exact slideF_s _ _ _) e2) (by omega) _ _ hW ls (lv_sub hl [0, 1, 2, 3] rfl)
  exact loop_2_1 _ 0 t (Nat.zero_le _) (agrC.rf d t) (by simp only [cv, Prod.mk.injEq, and_true]; funext p; simp [slideF]) (Nat.lt_succ_self _) _ _ hW ls (lv_sub hl [0, 1, 2, 3] rfl)
set_option maxRecDepth 100000 in
set_option maxHeartbeats 4000000 in
theorem m_X0_attempt (l : Launch) (D : va_G) (cs : CS3) (ad : Nat → Nat) (t : St) (d : Nat) (hd : d < 11) (P R q : Nat) (hP : t.1 2 = nI P) (hP8 : P ≤ 8) (hq : q < R) (hR5 : R ≤ 5): CT l yX0_attempt cX0_attempt 6 none (rmk 2 38) (wX cs ad) (tyX cs) D [.ref (ad (22 + 4 * d)), .int (nI q)] t (va_Qv (fun u => agrC d t u ∧ cv u d = att (hX P t) q (cv t d))) := by
  refine CT.of (own := RX0) (by decide) rfl (Nat.le_of_ble_eq_true rfl) ?_
  intro p9 e9 s m9 args below meth c9 A Q hC hr hlk hW hQ ls hl
  obtain ⟨hx, hb, hml, hown, hts⟩ := id hC
  have hl : lv_has ls 6 [(0, .ref (ad (22 + 4 * d))), (1, .int (nI q))] := hl
  refine lv_iconst (v := 0) hx hb dX0_attempt_0 (by decide) ?_
  refine lv_aload_n hx hb dX0_attempt_1 rfl (lv_at hl 0 rfl) ?_
  refine gX_C_slope d hd hC hW q_fl_RX0_21 dX0_attempt_2 ?_
  refine gX_S_speed hC hW q_fl_RX0_66 dX0_attempt_5 ?_
  refine lv_iload_n hx hb dX0_attempt_8 rfl (lv_at hl 1 rfl) ?_
  refine r_ildN (t0 := 0) (j := q) hC hW eX_5 rfl (rfl) (by omega) (by decide) dX0_attempt_9 ?_
  refine lv_aload_n hx hb dX0_attempt_10 rfl (lv_at hl 0 rfl) ?_
  refine gX_C_tries d hd hC hW q_fl_RX0_15 dX0_attempt_11 ?_
  refine lv_iload_n hx hb dX0_attempt_14 rfl (lv_at hl 1 rfl) ?_
  refine r_ildN (t0 := 0) (j := q) hC hW (eX_Ctr d hd) rfl (rfl) (by omega) (by decide) dX0_attempt_15 ?_
  refine lv_isub hx hb dX0_attempt_16 ?_
  refine r_max hC hl.1 q_ml_RX0_60 ⟨Nat.le_of_ble_eq_true rfl, Nat.le_of_ble_eq_true rfl⟩ ⟨Nat.zero_le _, Nat.zero_le _⟩ dX0_attempt_17 ?_
  refine lv_istore_n (lv' := [(2, .int (if 0 < (t.2 5 q) - (t.2 (24 + 4 * d) q) then (t.2 5 q) - (t.2 (24 + 4 * d) q) else 0)), (0, .ref (ad (22 + 4 * d))), (1, .int (nI q))]) hx hb dX0_attempt_20 rfl hl (by decide) rfl (fun ls hl => ?_)
  refine lv_iconst (v := 0) hx hb dX0_attempt_21 (by decide) ?_
  refine lv_istore_n (lv' := [(3, .int 0), (2, .int (if 0 < (t.2 5 q) - (t.2 (24 + 4 * d) q) then (t.2 5 q) - (t.2 (24 + 4 * d) q) else 0)), (0, .ref (ad (22 + 4 * d))), (1, .int (nI q))]) hx hb dX0_attempt_22 rfl hl (by decide) rfl (fun ls hl => ?_)
  refine lv_iconst (v := 0) hx hb dX0_attempt_23 (by decide) ?_
  refine lv_istore (lv' := [(4, .int 0), (3, .int 0), (2, .int (if 0 < (t.2 5 q) - (t.2 (24 + 4 * d) q) then (t.2 5 q) - (t.2 (24 + 4 * d) q) else 0)), (0, .ref (ad (22 + 4 * d))), (1, .int (nI q))]) hx hb dX0_attempt_24 hl (by decide) rfl (fun ls hl => ?_)
  have loop_26_1 : ∀ (f9 : Nat) (k : Nat) (lf : Int32), (k ≤ P) → (hgt (hX P t) q (t.2 (23 + 4 * d)) (P - k) k lf = high (hX P t) q (cv t d)) → P - k < f9 → ∀ (H : Heap) (locs : List Loc), HX (wX cs ad) (tyX cs) D A s.heap s t H locs → ∀ ls : Array Slot, lv_has ls 6 [(4, .int (nI k)), (3, .int (nI k)), (2, .int lf), (0, .ref (ad (22 + 4 * d))), (1, .int (nI q))] → W p9 l e9 (rmk 2 38) s m9 args below meth c9 H locs 0 0 Q (F0 m9 26 ls []) := by
    intro f_26
    induction f_26 with
    | zero => intro k lf hk hE hm_26 H locs hW ls hl; exact absurd hm_26 (Nat.not_lt_zero _)
    | succ f_26 ih_26 =>
      intro k lf hk hE hm_26 H locs hW ls hl
      refine lv_iload hx hb dX0_attempt_26 (lv_at hl 0 rfl) ?_
      refine lv_aload_n hx hb dX0_attempt_28 rfl (lv_at hl 3 rfl) ?_
      refine gX_C_slope d hd hC hW q_fl_RX0_21 dX0_attempt_29 ?_
      refine gX_S_paces hC hW q_fl_RX0_57 dX0_attempt_32 ?_
      refine r_top (y := nI P) hP ?_
      refine lv_icmp_ge (tgt := 80) hx hb dX0_attempt_35 (by decide) (fun c_35_2 => ?_) (fun c_35_2 => ?_)
      · have c_35_2 : P ≤ k := (nI_leI (a := P) (b := k) (by omega) (by omega)).mp c_35_2
        refine lv_aload_n hx hb dX0_attempt_80 rfl (lv_at hl 3 rfl) ?_
        refine gX_C_tries d hd hC hW q_fl_RX0_15 dX0_attempt_81 ?_
        refine lv_iload_n hx hb dX0_attempt_84 rfl (lv_at hl 4 rfl) ?_
        refine lv_dup2_11 hx hb dX0_attempt_85 rfl rfl ?_
        refine r_ildN (t0 := 0) (j := q) hC hW (eX_Ctr d hd) rfl (rfl) (by omega) (by decide) dX0_attempt_86 ?_
        refine lv_iconst (v := 1) hx hb dX0_attempt_87 (by decide) ?_
        refine lv_iadd hx hb dX0_attempt_88 ?_
        refine r_istN (t0 := 0) (j := q) hC hW (eX_Ctr d hd) rfl (rfl) (by omega) (by decide) ((sX_Ctr d hd) _) dX0_attempt_89 (fun H locs hW => ?_)
        have hW : HX (wX cs ad) (tyX cs) D A s.heap s (t.1, va_up t.2 (24 + 4 * d) (upd (t.2 (24 + 4 * d)) q ((t.2 (24 + 4 * d) q) + 1))) H locs := hW
        refine lv_aload_n hx hb dX0_attempt_90 rfl (lv_at hl 3 rfl) ?_
        refine gX_C_heights d hd hC hW q_fl_RX0_18 dX0_attempt_91 ?_
        refine lv_iload_n hx hb dX0_attempt_94 rfl (lv_at hl 4 rfl) ?_
        refine lv_iload_n hx hb dX0_attempt_95 rfl (lv_at hl 1 rfl) ?_
        refine r_istN (t0 := 0) (j := q) hC hW (eX_Che d hd) rfl (rfl) (by omega) (by decide) ((sX_Che d hd) _) dX0_attempt_96 (fun H locs hW => ?_)
        have hW : HX (wX cs ad) (tyX cs) D A s.heap s (t.1, va_up (va_up t.2 (24 + 4 * d) (upd (t.2 (24 + 4 * d)) q ((t.2 (24 + 4 * d) q) + 1))) (25 + 4 * d) (upd (t.2 (25 + 4 * d)) q (nI k))) H locs := hx_congr hW (by simp (disch := omega) only [va_up_ne, va_up_self])
        refine lv_iload_n hx hb dX0_attempt_97 rfl (lv_at hl 1 rfl) ?_
        refine lv_aload_n hx hb dX0_attempt_98 rfl (lv_at hl 3 rfl) ?_
        refine gX_C_slope d hd hC hW q_fl_RX0_21 dX0_attempt_99 ?_
        refine gX_S_paces hC hW q_fl_RX0_57 dX0_attempt_102 ?_
        refine r_top (y := nI P) hP ?_
        refine lv_icmp_ne (tgt := 123) hx hb dX0_attempt_105 (by decide) (fun c_105_3 => ?_) (fun c_105_3 => ?_)
        · have c_105_3 : ¬ k = P := fun h => c_105_3 ((nI_eq (a := k) (b := P) (by omega) (by omega)).mpr h)
          exfalso; omega
        · have c_105_3 : k = P := (nI_eq (a := k) (b := P) (by omega) (by omega)).mp c_105_3
          refine lv_aload_n hx hb dX0_attempt_108 rfl (lv_at hl 3 rfl) ?_
          refine lv_dup hx hb dX0_attempt_109 rfl ?_
          refine gX_C_up d hd hC hW q_fl_RX0_42 dX0_attempt_110 ?_
          refine r_top (y := t.1 (13 + d)) rfl ?_
          refine lv_iconst (v := 1) hx hb dX0_attempt_113 (by decide) ?_
          refine lv_iload_n hx hb dX0_attempt_114 rfl (lv_at hl 4 rfl) ?_
          refine lv_ishl hx hb dX0_attempt_115 ?_
          refine lv_ior hx hb dX0_attempt_116 ?_
          refine pX_C_up d hd hC hW q_fl_RX0_42 dX0_attempt_117 (fun H locs hW => ?_)
          have hW : HX (wX cs ad) (tyX cs) D A s.heap s (va_up t.1 (13 + d) ((t.1 (13 + d)) ||| (1 <<< ((nI q) &&& 31))), va_up (va_up t.2 (24 + 4 * d) (upd (t.2 (24 + 4 * d)) q ((t.2 (24 + 4 * d) q) + 1))) (25 + 4 * d) (upd (t.2 (25 + 4 * d)) q (nI k))) H locs := hW
          refine lv_goto (tgt := 136) hx hb dX0_attempt_120 (by decide) ?_
          have hN : high (hX P t) q (cv t d) = k := by rw [← hE, show P - k = 0 by omega]; rfl
          refine r_vret hC hr hlk hW hQ ⟨?_, ?_⟩ dX0_attempt_136
          · exact ⟨fun k h => by simp (disch := omega) only [va_up_ne], fun k h1 h2 h3 => by simp (disch := omega) only [va_up_ne]⟩
          · unfold att; rw [hN, if_pos (show k = (hX P t).1 from c_105_3), if_pos (show k = (hX P t).1 from c_105_3)]; simp (disch := omega) only [cv, va_up_ne, va_up_self]
      · have c_35_2 : ¬ P ≤ k := fun h => c_35_2 ((nI_leI (a := P) (b := k) (by omega) (by omega)).mpr h)
        refine lv_aload_n hx hb dX0_attempt_38 rfl (lv_at hl 3 rfl) ?_
        refine gX_C_slope d hd hC hW q_fl_RX0_21 dX0_attempt_39 ?_
        refine lv_iload_n hx hb dX0_attempt_42 rfl (lv_at hl 4 rfl) ?_
        refine lv_iload hx hb dX0_attempt_43 (lv_at hl 0 rfl) ?_
        refine lv_aload_n hx hb dX0_attempt_45 rfl (lv_at hl 3 rfl) ?_
        refine gX_C_scratches d hd hC hW q_fl_RX0_9 dX0_attempt_46 ?_
        refine lv_iload hx hb dX0_attempt_49 (lv_at hl 0 rfl) ?_
        refine r_ildN (t0 := 0) (j := k) hC hW (eX_Csc d hd) rfl (rfl) (by omega) (by decide) dX0_attempt_51 ?_
        refine fin_i (run_V (rest := []) hC hW (m_X3_toll l D cs ad t P (hX P t) q k (t.2 (23 + 4 * d) k) rfl (by omega) (by omega)) k_yX3_toll ⟨rfl, rfl⟩ q_ml_RX0_69 eX_1 rfl rfl hl.1 rfl (Nat.le_of_ble_eq_true rfl) ⟨Nat.le_of_ble_eq_true rfl, Nat.le_of_ble_eq_true rfl⟩ dX0_attempt_52 ⟨Nat.zero_le _, Nat.zero_le _⟩) hW (fun r4 u4 H locs hp4 hW => ?_)
        have hW := hx_congr hW hp4.2
        refine r_top hp4.1 ?_
        refine lv_istore (lv' := [(5, .int (toll (hX P t) q k (t.2 (23 + 4 * d) k))), (4, .int (nI k)), (3, .int (nI k)), (2, .int lf), (0, .ref (ad (22 + 4 * d))), (1, .int (nI q))]) hx hb dX0_attempt_55 hl (by decide) rfl (fun ls hl => ?_)
        refine lv_iload hx hb dX0_attempt_57 (lv_at hl 0 rfl) ?_
        refine lv_iload_n hx hb dX0_attempt_59 rfl (lv_at hl 3 rfl) ?_
        refine lv_icmp_le (tgt := 66) hx hb dX0_attempt_60 (by decide) (fun c_60_5 => ?_) (fun c_60_5 => ?_)
        · refine lv_iload_n hx hb dX0_attempt_66 rfl (lv_at hl 3 rfl) ?_
          refine lv_iload hx hb dX0_attempt_67 (lv_at hl 0 rfl) ?_
          refine lv_isub hx hb dX0_attempt_69 ?_
          refine lv_istore_n (lv' := [(2, .int (lf - (toll (hX P t) q k (t.2 (23 + 4 * d) k)))), (5, .int (toll (hX P t) q k (t.2 (23 + 4 * d) k))), (4, .int (nI k)), (3, .int (nI k)), (0, .ref (ad (22 + 4 * d))), (1, .int (nI q))]) hx hb dX0_attempt_70 rfl hl (by decide) rfl (fun ls hl => ?_)
          refine lv_iinc (v := nI (k + 1)) (lv' := [(3, .int (nI (k + 1))), (2, .int (lf - (toll (hX P t) q k (t.2 (23 + 4 * d) k)))), (5, .int (toll (hX P t) q k (t.2 (23 + 4 * d) k))), (4, .int (nI k)), (0, .ref (ad (22 + 4 * d))), (1, .int (nI q))]) hx hb dX0_attempt_71 hl (k := 3) rfl (nI_1 _) (by decide) rfl (fun ls hl => ?_)
          refine lv_iinc (v := nI (k + 1)) (lv' := [(4, .int (nI (k + 1))), (3, .int (nI (k + 1))), (2, .int (lf - (toll (hX P t) q k (t.2 (23 + 4 * d) k)))), (5, .int (toll (hX P t) q k (t.2 (23 + 4 * d) k))), (0, .ref (ad (22 + 4 * d))), (1, .int (nI q))]) hx hb dX0_attempt_74 hl (k := 3) rfl (nI_1 _) (by decide) rfl (fun ls hl => ?_)
          refine lv_goto (tgt := 26) hx hb dX0_attempt_77 (by decide) ?_
          exact ih_26 (k + 1) (lf - (toll (hX P t) q k (t.2 (23 + 4 * d) k))) (by omega) (by rw [← hE, show P - k = (P - (k + 1)) + 1 by omega]; show _ = ite _ _ _; rw [if_pos (by first | exact c_60 | exact c_60_5)]) (by omega) _ _ hW ls (lv_sub hl [0, 1, 2, 4, 5] rfl)
        · refine lv_goto (tgt := 80) hx hb dX0_attempt_63 (by decide) ?_
          refine lv_aload_n hx hb dX0_attempt_80 rfl (lv_at hl 4 rfl) ?_
          refine gX_C_tries d hd hC hW q_fl_RX0_15 dX0_attempt_81 ?_
          refine lv_iload_n hx hb dX0_attempt_84 rfl (lv_at hl 5 rfl) ?_
          refine lv_dup2_11 hx hb dX0_attempt_85 rfl rfl ?_
          refine r_ildN (t0 := 0) (j := q) hC hW (eX_Ctr d hd) rfl (rfl) (by omega) (by decide) dX0_attempt_86 ?_
          refine lv_iconst (v := 1) hx hb dX0_attempt_87 (by decide) ?_
          refine lv_iadd hx hb dX0_attempt_88 ?_
          refine r_istN (t0 := 0) (j := q) hC hW (eX_Ctr d hd) rfl (rfl) (by omega) (by decide) ((sX_Ctr d hd) _) dX0_attempt_89 (fun H locs hW => ?_)
          have hW : HX (wX cs ad) (tyX cs) D A s.heap s (t.1, va_up t.2 (24 + 4 * d) (upd (t.2 (24 + 4 * d)) q ((t.2 (24 + 4 * d) q) + 1))) H locs := hW
          refine lv_aload_n hx hb dX0_attempt_90 rfl (lv_at hl 4 rfl) ?_
          refine gX_C_heights d hd hC hW q_fl_RX0_18 dX0_attempt_91 ?_
          refine lv_iload_n hx hb dX0_attempt_94 rfl (lv_at hl 5 rfl) ?_
          refine lv_iload_n hx hb dX0_attempt_95 rfl (lv_at hl 2 rfl) ?_
          refine r_istN (t0 := 0) (j := q) hC hW (eX_Che d hd) rfl (rfl) (by omega) (by decide) ((sX_Che d hd) _) dX0_attempt_96 (fun H locs hW => ?_)
          have hW : HX (wX cs ad) (tyX cs) D A s.heap s (t.1, va_up (va_up t.2 (24 + 4 * d) (upd (t.2 (24 + 4 * d)) q ((t.2 (24 + 4 * d) q) + 1))) (25 + 4 * d) (upd (t.2 (25 + 4 * d)) q (nI k))) H locs := hx_congr hW (by simp (disch := omega) only [va_up_ne, va_up_self])
          refine lv_iload_n hx hb dX0_attempt_97 rfl (lv_at hl 2 rfl) ?_
          refine lv_aload_n hx hb dX0_attempt_98 rfl (lv_at hl 4 rfl) ?_
          refine gX_C_slope d hd hC hW q_fl_RX0_21 dX0_attempt_99 ?_
          refine gX_S_paces hC hW q_fl_RX0_57 dX0_attempt_102 ?_
          refine r_top (y := nI P) hP ?_
          refine lv_icmp_ne (tgt := 123) hx hb dX0_attempt_105 (by decide) (fun c_105_6 => ?_) (fun c_105_6 => ?_)
          · have c_105_6 : ¬ k = P := fun h => c_105_6 ((nI_eq (a := k) (b := P) (by omega) (by omega)).mpr h)
            refine lv_aload_n hx hb dX0_attempt_123 rfl (lv_at hl 4 rfl) ?_
            refine lv_iload_n hx hb dX0_attempt_124 rfl (lv_at hl 2 rfl) ?_
            refine lv_aload_n hx hb dX0_attempt_125 rfl (lv_at hl 4 rfl) ?_
            refine gX_C_slope d hd hC hW q_fl_RX0_21 dX0_attempt_126 ?_
            refine lv_iload_n hx hb dX0_attempt_129 rfl (lv_at hl 5 rfl) ?_
            refine fin_i (run_V (rest := [.int (nI k), .ref (ad (22 + 4 * d))]) hC hW (m_X3_marks l D cs ad (t.1, va_up (va_up t.2 (24 + 4 * d) (upd (t.2 (24 + 4 * d)) q ((t.2 (24 + 4 * d) q) + 1))) (25 + 4 * d) (upd (t.2 (25 + 4 * d)) q (nI k))) P (hX P t) q (by simp (disch := omega) only [hX, va_up_ne] <;> exact rfl) (by omega)) k_yX3_marks ⟨rfl, rfl⟩ q_ml_RX0_73 eX_1 rfl rfl hl.1 rfl (Nat.le_of_ble_eq_true rfl) ⟨Nat.le_of_ble_eq_true rfl, Nat.le_of_ble_eq_true rfl⟩ dX0_attempt_130 ⟨Nat.zero_le _, Nat.zero_le _⟩) hW (fun r7 u7 H locs hp7 hW => ?_)
            have hW := hx_congr hW hp7.2
            refine r_top hp7.1 ?_
            refine fin_v (run_V (rest := []) hC hW (m_X0_slideBack l D cs ad (t.1, va_up (va_up t.2 (24 + 4 * d) (upd (t.2 (24 + 4 * d)) q ((t.2 (24 + 4 * d) q) + 1))) (25 + 4 * d) (upd (t.2 (25 + 4 * d)) q (nI k))) d (hd) k (marks (hX P t) q) (by omega)) k_yX0_slideBack ⟨rfl, rfl⟩ q_ml_RX0_77 (eX_C d (hd)) rfl rfl hl.1 rfl (Nat.le_of_ble_eq_true rfl) ⟨Nat.le_of_ble_eq_true rfl, Nat.le_of_ble_eq_true rfl⟩ dX0_attempt_133 ⟨Nat.zero_le _, Nat.zero_le _⟩) hW (fun u8 H locs hp8 hW => ?_)
            obtain ⟨hgu8, heu8⟩ := hp8
            have hN : high (hX P t) q (cv t d) = k := by rw [← hE, show P - k = (P - (k + 1)) + 1 by omega]; show ite _ _ _ = _; rw [if_neg c_60_5]
            refine r_vret hC hr hlk hW hQ ⟨?_, ?_⟩ dX0_attempt_136
            · exact ⟨fun k2 h => (hgu8.1 k2 h).trans (by simp (disch := omega) only [va_up_ne]), fun k2 h1 h2 h3 => (hgu8.2 k2 h1 h2 h3).trans (by simp (disch := omega) only [va_up_ne])⟩
            · rw [heu8]; unfold att; rw [hN, if_neg (show ¬ k = (hX P t).1 from c_105_6), if_neg (show ¬ k = (hX P t).1 from c_105_6)]; simp (disch := omega) only [cv, va_up_ne, va_up_self]
          · have c_105_6 : k = P := (nI_eq (a := k) (b := P) (by omega) (by omega)).mp c_105_6
            exfalso; omega
  exact loop_26_1 _ 0 (if 0 < (t.2 5 q) - (t.2 (24 + 4 * d) q) then (t.2 5 q) - (t.2 (24 + 4 * d) q) else 0) (Nat.zero_le _) (rfl) (Nat.lt_succ_self _) _ _ hW ls (lv_sub hl [0, 1, 2, 3, 4] rfl)
set_option maxRecDepth 100000 in
set_option maxHeartbeats 4000000 in
theorem m_X0_goOn (l : Launch) (D : va_G) (cs : CS3) (ad : Nat → Nat) (t : St) (d : Nat) (hd : d < 11) (P R v : Nat) (hP : t.1 2 = nI P) (hP8 : P ≤ 8) (hv : v = 5 ∨ v < R) (hR5 : R ≤ 5): CT l yX0_goOn cX0_goOn 2 none (rmk 3 63) (wX cs ad) (tyX cs) D [.ref (ad (22 + 4 * d)), .int (nI v)] t (va_Qv (fun u => agrC d t u ∧ cv u d = goOn (hX P t) v (cv t d))) := by
  refine CT.of (own := RX0) (by decide) rfl (Nat.le_of_ble_eq_true rfl) ?_
  intro p9 e9 s m9 args below meth c9 A Q hC hr hlk hW hQ ls hl
  obtain ⟨hx, hb, hml, hown, hts⟩ := id hC
  have hl : lv_has ls 2 [(0, .ref (ad (22 + 4 * d))), (1, .int (nI v))] := hl
  refine lv_iload_n hx hb dX0_goOn_0 rfl (lv_at hl 1 rfl) ?_
  refine lv_iconst (v := 5) hx hb dX0_goOn_1 (by decide) ?_
  refine lv_icmp_ne (tgt := 12) hx hb dX0_goOn_2 (by decide) (fun c_2_1 => ?_) (fun c_2_1 => ?_)
  · have c_2_1 : ¬ v = 5 := fun h => c_2_1 ((nI_eq (a := v) (b := 5) (by omega) (by omega)).mpr h)
    refine lv_aload_n hx hb dX0_goOn_12 rfl (lv_at hl 0 rfl) ?_
    refine lv_iload_n hx hb dX0_goOn_13 rfl (lv_at hl 1 rfl) ?_
    refine fin_i (run_V (rest := []) hC hW (m_X0_isUp l D cs ad t d (hd) v) k_yX0_isUp ⟨rfl, rfl⟩ q_ml_RX0_49 (eX_C d (hd)) rfl rfl hl.1 rfl (Nat.le_of_ble_eq_true rfl) ⟨Nat.le_of_ble_eq_true rfl, Nat.le_of_ble_eq_true rfl⟩ dX0_goOn_14 ⟨Nat.zero_le _, Nat.zero_le _⟩) hW (fun r2 u2 H locs hp2 hW => ?_)
    have hW := hx_congr hW hp2.2
    refine r_top hp2.1 ?_
    refine lv_if_ne (tgt := 25) hx hb dX0_goOn_17 (by decide) (fun c_17_3 => ?_) (fun c_17_3 => ?_)
    · have c_17_3 := bI_nz c_17_3
      exact r_vret hC hr hlk hW hQ (⟨agrC.rf d t, by unfold goOn; rw [if_neg c_2_1, if_pos (show isup (cv t d).2.2.2 v from c_17_3)]⟩) dX0_goOn_25
    · have c_17_3 := bI_z.mp c_17_3
      refine lv_aload_n hx hb dX0_goOn_20 rfl (lv_at hl 0 rfl) ?_
      refine lv_iload_n hx hb dX0_goOn_21 rfl (lv_at hl 1 rfl) ?_
      refine fin_v (run_V (rest := []) hC hW (m_X0_attempt l D cs ad t d (hd) P R v hP (by omega) (by omega) (by omega)) k_yX0_attempt ⟨rfl, rfl⟩ q_ml_RX0_53 (eX_C d (hd)) rfl rfl hl.1 rfl (Nat.le_of_ble_eq_true rfl) ⟨Nat.le_of_ble_eq_true rfl, Nat.le_of_ble_eq_true rfl⟩ dX0_goOn_22 ⟨Nat.zero_le _, Nat.zero_le _⟩) hW (fun u4 H locs hp4 hW => ?_)
      obtain ⟨hgu4, heu4⟩ := hp4
      exact r_vret hC hr hlk hW hQ (⟨hgu4, by rw [heu4]; unfold goOn; rw [if_neg c_2_1, if_neg (show ¬ isup (cv t d).2.2.2 v from c_17_3)]⟩) dX0_goOn_25
  · have c_2_1 : v = 5 := (nI_eq (a := v) (b := 5) (by omega) (by omega)).mp c_2_1
    refine lv_aload_n hx hb dX0_goOn_5 rfl (lv_at hl 0 rfl) ?_
    refine fin_v (run_V (rest := []) hC hW (m_X0_polish l D cs ad t d (hd) P hP (by omega)) k_yX0_polish ⟨rfl, rfl⟩ q_ml_RX0_46 (eX_C d (hd)) rfl rfl hl.1 rfl (Nat.le_of_ble_eq_true rfl) ⟨Nat.le_of_ble_eq_true rfl, Nat.le_of_ble_eq_true rfl⟩ dX0_goOn_6 ⟨Nat.zero_le _, Nat.zero_le _⟩) hW (fun u5 H locs hp5 hW => ?_)
    obtain ⟨hgu5, heu5⟩ := hp5
    refine lv_goto (tgt := 25) hx hb dX0_goOn_9 (by decide) ?_
    exact r_vret hC hr hlk hW hQ (⟨hgu5, by rw [heu5]; unfold goOn; rw [if_pos c_2_1]; rfl⟩) dX0_goOn_25
set_option maxRecDepth 100000 in
set_option maxHeartbeats 4000000 in
theorem m_X0_scratchesOf (l : Launch) (D : va_G) (cs : CS3) (ad : Nat → Nat) (t : St) (d : Nat) (hd : d < 11) (P : Nat) (v : Int32) (h : t.1 2 = nI P) (h8 : P ≤ 8): CT l yX0_scratchesOf cX0_scratchesOf 2 (some .int) (rmk 1 22) (wX cs ad) (tyX cs) D [.ref (ad (22 + 4 * d)), .int v] t (va_Qi (fun r u => r = (if inN v P then t.2 (23 + 4 * d) v.toNatClampNeg else -9) ∧ u = t)) := by
  refine CT.of (own := RX0) (by decide) rfl (Nat.le_of_ble_eq_true rfl) ?_
  intro p9 e9 s m9 args below meth c9 A Q hC hr hlk hW hQ ls hl
  obtain ⟨hx, hb, hml, hown, hts⟩ := id hC
  have hl : lv_has ls 2 [(0, .ref (ad (22 + 4 * d))), (1, .int v)] := hl
  refine lv_iload_n hx hb dX0_scratchesOf_0 rfl (lv_at hl 1 rfl) ?_
  refine lv_iconst (v := 0) hx hb dX0_scratchesOf_1 (by decide) ?_
  refine lv_aload_n hx hb dX0_scratchesOf_2 rfl (lv_at hl 0 rfl) ?_
  refine gX_C_slope d hd hC hW q_fl_RX0_21 dX0_scratchesOf_3 ?_
  refine gX_S_paces hC hW q_fl_RX0_57 dX0_scratchesOf_6 ?_
  refine r_top (y := nI P) h ?_
  refine lv_iconst (v := 1) hx hb dX0_scratchesOf_9 (by decide) ?_
  refine lv_isub hx hb dX0_scratchesOf_10 ?_
  refine fin_pi (run_PN (rest := []) hC hW.2.2.2.2.2 (m_X5_isIn l v 0 ((nI P) - 1)) k_yX5_isIn ⟨rfl, rfl⟩ hW.2.2.2.2.2.2.2.2.1 rfl hl.1 rfl (Nat.le_of_ble_eq_true rfl) ⟨Nat.le_of_ble_eq_true rfl, Nat.le_of_ble_eq_true rfl⟩ dX0_scratchesOf_11 ⟨Nat.zero_le _, Nat.zero_le _⟩) (fun r hr9 => ?_)
  refine r_top hr9 ?_
  refine lv_if_eq (tgt := 26) hx hb dX0_scratchesOf_14 (by decide) (fun c_14_1 => ?_) (fun c_14_1 => ?_)
  · have c_14_1 := bI_z.mp c_14_1
    have hin : ¬ inN v P := fun h9 => c_14_1 ⟨h9.1, (le_pred (by omega)).mpr h9.2⟩
    refine lv_bipush (v := (-9)) hx hb dX0_scratchesOf_26 (by decide) ?_
    exact r_ireti hC hr hlk hW hQ (⟨by rw [if_neg hin], rfl⟩) dX0_scratchesOf_28
  · have c_14_1 := bI_nz c_14_1
    have hin : inN v P := ⟨c_14_1.1, (le_pred (by omega)).mp c_14_1.2⟩
    obtain ⟨j, hj, rfl⟩ := inN_ex hin (by omega)
    refine lv_aload_n hx hb dX0_scratchesOf_17 rfl (lv_at hl 0 rfl) ?_
    refine gX_C_scratches d hd hC hW q_fl_RX0_9 dX0_scratchesOf_18 ?_
    refine lv_iload_n hx hb dX0_scratchesOf_21 rfl (lv_at hl 1 rfl) ?_
    refine r_ildN (t0 := 0) (j := j) hC hW (eX_Csc d hd) rfl (rfl) (by omega) (by decide) dX0_scratchesOf_22 ?_
    refine lv_goto (tgt := 28) hx hb dX0_scratchesOf_23 (by decide) ?_
    exact r_ireti hC hr hlk hW hQ (⟨by rw [if_pos hin, nI_clamp (by omega)], rfl⟩) dX0_scratchesOf_28
set_option maxRecDepth 100000 in
set_option maxHeartbeats 4000000 in
theorem m_X0_heightOf (l : Launch) (D : va_G) (cs : CS3) (ad : Nat → Nat) (t : St) (d : Nat) (hd : d < 11) (R : Nat) (v : Int32) (h : t.1 3 = nI R) (h5 : R ≤ 5): CT l yX0_heightOf cX0_heightOf 2 (some .int) (rmk 1 22) (wX cs ad) (tyX cs) D [.ref (ad (22 + 4 * d)), .int v] t (va_Qi (fun r u => r = (if inN v R then t.2 (25 + 4 * d) v.toNatClampNeg else -9) ∧ u = t)) := by
  refine CT.of (own := RX0) (by decide) rfl (Nat.le_of_ble_eq_true rfl) ?_
  intro p9 e9 s m9 args below meth c9 A Q hC hr hlk hW hQ ls hl
  obtain ⟨hx, hb, hml, hown, hts⟩ := id hC
  have hl : lv_has ls 2 [(0, .ref (ad (22 + 4 * d))), (1, .int v)] := hl
  refine lv_iload_n hx hb dX0_heightOf_0 rfl (lv_at hl 1 rfl) ?_
  refine lv_iconst (v := 0) hx hb dX0_heightOf_1 (by decide) ?_
  refine lv_aload_n hx hb dX0_heightOf_2 rfl (lv_at hl 0 rfl) ?_
  refine gX_C_slope d hd hC hW q_fl_RX0_21 dX0_heightOf_3 ?_
  refine gX_S_riders hC hW q_fl_RX0_88 dX0_heightOf_6 ?_
  refine r_top (y := nI R) h ?_
  refine lv_iconst (v := 1) hx hb dX0_heightOf_9 (by decide) ?_
  refine lv_isub hx hb dX0_heightOf_10 ?_
  refine fin_pi (run_PN (rest := []) hC hW.2.2.2.2.2 (m_X5_isIn l v 0 ((nI R) - 1)) k_yX5_isIn ⟨rfl, rfl⟩ hW.2.2.2.2.2.2.2.2.1 rfl hl.1 rfl (Nat.le_of_ble_eq_true rfl) ⟨Nat.le_of_ble_eq_true rfl, Nat.le_of_ble_eq_true rfl⟩ dX0_heightOf_11 ⟨Nat.zero_le _, Nat.zero_le _⟩) (fun r hr9 => ?_)
  refine r_top hr9 ?_
  refine lv_if_eq (tgt := 26) hx hb dX0_heightOf_14 (by decide) (fun c_14_1 => ?_) (fun c_14_1 => ?_)
  · have c_14_1 := bI_z.mp c_14_1
    have hin : ¬ inN v R := fun h9 => c_14_1 ⟨h9.1, (le_pred (by omega)).mpr h9.2⟩
    refine lv_bipush (v := (-9)) hx hb dX0_heightOf_26 (by decide) ?_
    exact r_ireti hC hr hlk hW hQ (⟨by rw [if_neg hin], rfl⟩) dX0_heightOf_28
  · have c_14_1 := bI_nz c_14_1
    have hin : inN v R := ⟨c_14_1.1, (le_pred (by omega)).mp c_14_1.2⟩
    obtain ⟨j, hj, rfl⟩ := inN_ex hin (by omega)
    refine lv_aload_n hx hb dX0_heightOf_17 rfl (lv_at hl 0 rfl) ?_
    refine gX_C_heights d hd hC hW q_fl_RX0_18 dX0_heightOf_18 ?_
    refine lv_iload_n hx hb dX0_heightOf_21 rfl (lv_at hl 1 rfl) ?_
    refine r_ildN (t0 := 0) (j := j) hC hW (eX_Che d hd) rfl (rfl) (by omega) (by decide) dX0_heightOf_22 ?_
    refine lv_goto (tgt := 28) hx hb dX0_heightOf_23 (by decide) ?_
    exact r_ireti hC hr hlk hW hQ (⟨by rw [if_pos hin, nI_clamp (by omega)], rfl⟩) dX0_heightOf_28
