set_option maxRecDepth 100000 in
set_option maxHeartbeats 4000000 in
theorem m_X6_digit (l : Launch) (D : va_G) (cs : CS3) (ad : Nat → Nat) (t : St) (x0 z0 : Nat) (lo hi : Int32) (hat : t.1 4 = nI x0) (hx0 : x0 ≤ 240) (hz0 : z0 ≤ 240): CT l yX6_digit cX6_digit 4 (some .int) (rmk 1 22) (wM cs ad) (tyX cs) D [.ref (ad 0), .int (nI z0), .int lo, .int hi] t (va_Qi (fun r u => if x0 < z0 ∧ (48 + lo ≤ t.2 3 x0 ∧ t.2 3 x0 ≤ 48 + hi) then r = t.2 3 x0 - 48 ∧ u = (va_up t.1 4 (nI (x0 + 1)), t.2) else r = -9 ∧ u = t)) := by
  refine CT.of (own := RX6) (by decide) rfl (Nat.le_of_ble_eq_true rfl) ?_
  intro p9 e9 s m9 args below meth c9 A Q hC hr hlk hW hQ ls hl
  obtain ⟨hx, hb, hml, hown, hts⟩ := id hC
  have hl : lv_has ls 4 [(0, .ref (ad 0)), (1, .int (nI z0)), (2, .int lo), (3, .int hi)] := hl
  refine lv_aload_n hx hb dX6_digit_0 rfl (lv_at hl 0 rfl) ?_
  refine gM_at hC hW q_fl_RX6_77 dX6_digit_1 ?_
  refine r_top (y := nI x0) hat ?_
  refine lv_iload_n hx hb dX6_digit_4 rfl (lv_at hl 1 rfl) ?_
  refine lv_icmp_ge (tgt := 31) hx hb dX6_digit_5 (by decide) (fun c_5_1 => ?_) (fun c_5_1 => ?_)
  · have c_5_1 : z0 ≤ x0 := (nI_leI (a := z0) (b := x0) (by omega) (by omega)).mp c_5_1
    refine lv_bipush (v := (-9)) hx hb dX6_digit_31 (by decide) ?_
    exact r_ireti hC hr hlk hW hQ (by rw [if_neg (fun h9 => absurd h9.1 (by omega))]; exact ⟨rfl, rfl⟩) dX6_digit_33
  · have c_5_1 : ¬ z0 ≤ x0 := fun h => c_5_1 ((nI_leI (a := z0) (b := x0) (by omega) (by omega)).mpr h)
    refine lv_aload_n hx hb dX6_digit_8 rfl (lv_at hl 0 rfl) ?_
    refine gM_cells hC hW q_fl_RX6_16 dX6_digit_9 ?_
    refine lv_aload_n hx hb dX6_digit_12 rfl (lv_at hl 0 rfl) ?_
    refine gM_at hC hW q_fl_RX6_77 dX6_digit_13 ?_
    refine r_top (y := nI x0) hat ?_
    refine r_ildN (t0 := 0) (j := x0) hC hW eM_3 rfl (rfl) (by omega) (by decide) dX6_digit_16 ?_
    refine lv_bipush (v := 48) hx hb dX6_digit_17 (by decide) ?_
    refine lv_iload_n hx hb dX6_digit_19 rfl (lv_at hl 2 rfl) ?_
    refine lv_iadd hx hb dX6_digit_20 ?_
    refine lv_bipush (v := 48) hx hb dX6_digit_21 (by decide) ?_
    refine lv_iload_n hx hb dX6_digit_23 rfl (lv_at hl 3 rfl) ?_
    refine lv_iadd hx hb dX6_digit_24 ?_
    refine fin_pi (run_P (rest := []) hC hW.2.2.2.2.2 (m_X6_within l (t.2 3 x0) (48 + lo) (48 + hi)) k_yX6_within ⟨rfl, rfl⟩ q_ml_RX6_67 rfl hl.1 rfl (Nat.le_of_ble_eq_true rfl) ⟨Nat.le_of_ble_eq_true rfl, Nat.le_of_ble_eq_true rfl⟩ dX6_digit_25 ⟨Nat.zero_le _, Nat.zero_le _⟩) (fun rz9 hr9 => ?_)
    refine r_top hr9 ?_
    refine lv_if_ne (tgt := 34) hx hb dX6_digit_28 (by decide) (fun c_28_2 => ?_) (fun c_28_2 => ?_)
    · have c_28_2 := bI_nz c_28_2
      refine lv_aload_n hx hb dX6_digit_34 rfl (lv_at hl 0 rfl) ?_
      refine lv_dup hx hb dX6_digit_35 rfl ?_
      refine gM_at hC hW q_fl_RX6_77 dX6_digit_36 ?_
      refine r_top (y := nI x0) hat ?_
      refine lv_iconst (v := 1) hx hb dX6_digit_39 (by decide) ?_
      refine lv_iadd hx hb dX6_digit_40 ?_
      refine r_top (y := nI (x0 + 1)) (nI_add x0 1) ?_
      refine pM_at hC hW q_fl_RX6_77 dX6_digit_41 (fun H locs hW => ?_)
      have hW : HX (wM cs ad) (tyX cs) D A s.heap s (va_up t.1 4 (nI (x0 + 1)), t.2) H locs := hW
      refine lv_aload_n hx hb dX6_digit_44 rfl (lv_at hl 0 rfl) ?_
      refine gM_cells hC hW q_fl_RX6_16 dX6_digit_45 ?_
      refine lv_aload_n hx hb dX6_digit_48 rfl (lv_at hl 0 rfl) ?_
      refine gM_at hC hW q_fl_RX6_77 dX6_digit_49 ?_
      refine r_top (y := nI (x0 + 1)) rfl ?_
      refine lv_iconst (v := 1) hx hb dX6_digit_52 (by decide) ?_
      refine lv_isub hx hb dX6_digit_53 ?_
      refine r_top (y := nI x0) (nI_pred x0) ?_
      refine r_ildN (t0 := 0) (j := x0) hC hW eM_3 rfl (rfl) (by omega) (by decide) dX6_digit_54 ?_
      refine r_top (y := t.2 3 x0) (by first | rfl | simp only [va_up_self]) ?_
      refine lv_bipush (v := 48) hx hb dX6_digit_55 (by decide) ?_
      refine lv_isub hx hb dX6_digit_57 ?_
      exact r_ireti hC hr hlk hW hQ (by rw [if_pos ⟨by omega, c_28_2⟩]; exact ⟨rfl, rfl⟩) dX6_digit_58
    · have c_28_2 := bI_z.mp c_28_2
      refine lv_bipush (v := (-9)) hx hb dX6_digit_31 (by decide) ?_
      exact r_ireti hC hr hlk hW hQ (by rw [if_neg (fun h9 => c_28_2 h9.2)]; exact ⟨rfl, rfl⟩) dX6_digit_33
set_option maxRecDepth 100000 in
set_option maxHeartbeats 4000000 in
theorem m_X6_isSign (l : Launch) (D : va_G) (cs : CS3) (ad : Nat → Nat) (t : St) (x0 z0 : Nat) (lo : Int32) (hat : t.1 4 = nI x0) (hx0 : x0 ≤ 240) (hz0 : z0 ≤ 240): CT l yX6_isSign cX6_isSign 3 (some .boolean) (rmk 0 0) (wM cs ad) (tyX cs) D [.ref (ad 0), .int (nI z0), .int lo] t (va_Qi (fun r u => r = bI (x0 < z0 ∧ t.2 3 x0 = lo) ∧ u = (if x0 < z0 ∧ t.2 3 x0 = lo then (va_up t.1 4 (nI (x0 + 1)), t.2) else t))) := by
  refine CT.of (own := RX6) (by decide) rfl (Nat.le_of_ble_eq_true rfl) ?_
  intro p9 e9 s m9 args below meth c9 A Q hC hr hlk hW hQ ls hl
  obtain ⟨hx, hb, hml, hown, hts⟩ := id hC
  have hl : lv_has ls 3 [(0, .ref (ad 0)), (1, .int (nI z0)), (2, .int lo)] := hl
  refine lv_aload_n hx hb dX6_isSign_0 rfl (lv_at hl 0 rfl) ?_
  refine gM_at hC hW q_fl_RX6_77 dX6_isSign_1 ?_
  refine r_top (y := nI x0) hat ?_
  refine lv_iload_n hx hb dX6_isSign_4 rfl (lv_at hl 1 rfl) ?_
  refine lv_icmp_ge (tgt := 21) hx hb dX6_isSign_5 (by decide) (fun c_5_1 => ?_) (fun c_5_1 => ?_)
  · have c_5_1 : z0 ≤ x0 := (nI_leI (a := z0) (b := x0) (by omega) (by omega)).mp c_5_1
    refine lv_iconst (v := 0) hx hb dX6_isSign_21 (by decide) ?_
    exact r_iretz hC hr hlk hW hQ (⟨bI_f (fun h9 => absurd h9.1 (by omega)), (if_neg (fun h9 => absurd h9.1 (by omega))).symm⟩) (rfl) dX6_isSign_22
  · have c_5_1 : ¬ z0 ≤ x0 := fun h => c_5_1 ((nI_leI (a := z0) (b := x0) (by omega) (by omega)).mpr h)
    refine lv_aload_n hx hb dX6_isSign_8 rfl (lv_at hl 0 rfl) ?_
    refine gM_cells hC hW q_fl_RX6_16 dX6_isSign_9 ?_
    refine lv_aload_n hx hb dX6_isSign_12 rfl (lv_at hl 0 rfl) ?_
    refine gM_at hC hW q_fl_RX6_77 dX6_isSign_13 ?_
    refine r_top (y := nI x0) hat ?_
    refine r_ildN (t0 := 0) (j := x0) hC hW eM_3 rfl (rfl) (by omega) (by decide) dX6_isSign_16 ?_
    refine lv_iload_n hx hb dX6_isSign_17 rfl (lv_at hl 2 rfl) ?_
    refine lv_icmp_eq (tgt := 23) hx hb dX6_isSign_18 (by decide) (fun c_18_2 => ?_) (fun c_18_2 => ?_)
    · refine lv_aload_n hx hb dX6_isSign_23 rfl (lv_at hl 0 rfl) ?_
      refine lv_dup hx hb dX6_isSign_24 rfl ?_
      refine gM_at hC hW q_fl_RX6_77 dX6_isSign_25 ?_
      refine r_top (y := nI x0) hat ?_
      refine lv_iconst (v := 1) hx hb dX6_isSign_28 (by decide) ?_
      refine lv_iadd hx hb dX6_isSign_29 ?_
      refine r_top (y := nI (x0 + 1)) (nI_add x0 1) ?_
      refine pM_at hC hW q_fl_RX6_77 dX6_isSign_30 (fun H locs hW => ?_)
      have hW : HX (wM cs ad) (tyX cs) D A s.heap s (va_up t.1 4 (nI (x0 + 1)), t.2) H locs := hW
      refine lv_iconst (v := 1) hx hb dX6_isSign_33 (by decide) ?_
      exact r_iretz hC hr hlk hW hQ (⟨bI_t ⟨by omega, c_18_2⟩, (if_pos ⟨by omega, c_18_2⟩).symm⟩) (rfl) dX6_isSign_34
    · refine lv_iconst (v := 0) hx hb dX6_isSign_21 (by decide) ?_
      exact r_iretz hC hr hlk hW hQ (⟨bI_f (fun h9 => c_18_2 h9.2), (if_neg (fun h9 => c_18_2 h9.2)).symm⟩) (rfl) dX6_isSign_22
