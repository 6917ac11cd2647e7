set_option maxRecDepth 100000 in
set_option maxHeartbeats 4000000 in
theorem m_X6_readRider (l : Launch) (D : va_G) (cs : CS3) (ad : Nat → Nat) (t : St) (x0 z0 k : Nat) (hat : t.1 4 = nI x0) (hx0 : x0 ≤ 240) (hz0 : z0 ≤ 240) (hk : t.1 6 = nI k) (hk5 : k < 5): CT l yX6_readRider cX6_readRider 6 (some .boolean) (rmk 2 45) (wM cs ad) (tyX cs) D [.ref (ad 0), .int (nI z0)] t (va_Qi (fun r u => RR z0 x0 k t u r)) := by
  refine CT.of (own := RX6) (by decide) rfl (Nat.le_of_ble_eq_true rfl) ?_
  intro p9 e9 s m9 args below meth c9 A Q hC hr hlk hW hQ ls hl
  obtain ⟨hx, hb, hml, hown, hts⟩ := id hC
  have hl : lv_has ls 6 [(0, .ref (ad 0)), (1, .int (nI z0))] := hl
  refine lv_iconst (v := 3) hx hb dX6_readRider_0 (by decide) ?_
  refine lv_aload_n hx hb dX6_readRider_1 rfl (lv_at hl 0 rfl) ?_
  refine gM_readMany hC hW q_fl_RX6_101 dX6_readRider_2 ?_
  refine r_top (y := nI k) hk ?_
  refine lv_imul hx hb dX6_readRider_5 ?_
  refine r_top (y := nI (3 * k)) (pk_mul 3 k) ?_
  refine lv_istore_n (lv' := [(2, .int (nI (3 * k))), (0, .ref (ad 0)), (1, .int (nI z0))]) hx hb dX6_readRider_6 rfl hl (by decide) rfl (fun ls hl => ?_)
  refine lv_aload_n hx hb dX6_readRider_7 rfl (lv_at hl 1 rfl) ?_
  refine gM_at hC hW q_fl_RX6_77 dX6_readRider_8 ?_
  refine r_top (y := nI x0) hat ?_
  refine lv_iload_n hx hb dX6_readRider_11 rfl (lv_at hl 2 rfl) ?_
  refine lv_icmp_ge (tgt := 27) hx hb dX6_readRider_12 (by decide) (fun c_12_1 => ?_) (fun c_12_1 => ?_)
  · have c_12_1 : z0 ≤ x0 := (nI_leI (a := z0) (b := x0) (by omega) (by omega)).mp c_12_1
    refine lv_iconst (v := 0) hx hb dX6_readRider_27 (by decide) ?_
    refine lv_istore_n (lv' := [(3, .int 0), (2, .int (nI (3 * k))), (0, .ref (ad 0)), (1, .int (nI z0))]) hx hb dX6_readRider_28 rfl hl (by decide) rfl (fun ls hl => ?_)
    refine lv_aload_n hx hb dX6_readRider_29 rfl (lv_at hl 2 rfl) ?_
    refine gM_read hC hW q_fl_RX6_37 dX6_readRider_30 ?_
    refine lv_iload_n hx hb dX6_readRider_33 rfl (lv_at hl 1 rfl) ?_
    refine lv_iload_n hx hb dX6_readRider_34 rfl (lv_at hl 0 rfl) ?_
    refine lv_bipush (v := 114) hx hb dX6_readRider_35 (by decide) ?_
    refine lv_icmp_ne (tgt := 44) hx hb dX6_readRider_37 (by decide) (fun c_37_2 => ?_) (fun c_37_2 => ?_)
    · refine lv_iload_n hx hb dX6_readRider_44 rfl (lv_at hl 0 rfl) ?_
      refine lv_bipush (v := 110) hx hb dX6_readRider_45 (by decide) ?_
      refine lv_icmp_ne (tgt := 54) hx hb dX6_readRider_47 (by decide) (fun c_47_3 => ?_) (fun c_47_3 => ?_)
      · refine lv_iload_n hx hb dX6_readRider_54 rfl (lv_at hl 0 rfl) ?_
        refine lv_bipush (v := 108) hx hb dX6_readRider_55 (by decide) ?_
        refine lv_icmp_ne (tgt := 64) hx hb dX6_readRider_57 (by decide) (fun c_57_4 => ?_) (fun c_57_4 => ?_)
        · refine lv_bipush (v := (-9)) hx hb dX6_readRider_64 (by decide) ?_
          refine r_istN (t0 := 0) (j := 3 * k) hC hW eM_10 rfl (rfl) (by omega) (by decide) (sM_10 _) dX6_readRider_66 (fun H locs hW => ?_)
          have hW : HX (wM cs ad) (tyX cs) D A s.heap s (t.1, va_up t.2 10 (upd (t.2 10) (3 * k) (-9))) H locs := hW
          refine lv_aload_n hx hb dX6_readRider_67 rfl (lv_at hl 2 rfl) ?_
          refine gM_read hC hW q_fl_RX6_37 dX6_readRider_68 ?_
          refine lv_iload_n hx hb dX6_readRider_71 rfl (lv_at hl 1 rfl) ?_
          refine r_ildN (t0 := 0) (j := 3 * k) hC hW eM_10 rfl (rfl) (by omega) (by decide) dX6_readRider_72 ?_
          refine r_top (y := (upd (t.2 10) (3 * k) (-9)) (3 * k)) (by first | rfl | simp only [va_up_self]) ?_
          refine r_top (y := (-9)) pk_us ?_
          refine lv_bipush (v := (-9)) hx hb dX6_readRider_73 (by decide) ?_
          refine lv_icmp_ne (tgt := 80) hx hb dX6_readRider_75 (by decide) (fun c_75_5 => ?_) (fun c_75_5 => ?_)
          · exact absurd c_75_5 (by decide)
          · refine lv_iconst (v := 0) hx hb dX6_readRider_78 (by decide) ?_
            exact r_iretz hC hr hlk hW hQ (⟨frR.a10 t _ (Nat.le_refl _), Or.inr ⟨rfl, 0, by omega, fun i hi => absurd hi (by omega), fun h9 => absurd (okC_0.mp h9).1 (by omega), hat⟩⟩) (rfl) dX6_readRider_79
        · exact absurd c_57_4 (by decide)
      · exact absurd c_47_3 (by decide)
    · exact absurd c_37_2 (by decide)
  · have c_12_1 : ¬ z0 ≤ x0 := fun h => c_12_1 ((nI_leI (a := z0) (b := x0) (by omega) (by omega)).mpr h)
    refine lv_aload_n hx hb dX6_readRider_15 rfl (lv_at hl 1 rfl) ?_
    refine gM_cells hC hW q_fl_RX6_16 dX6_readRider_16 ?_
    refine lv_aload_n hx hb dX6_readRider_19 rfl (lv_at hl 1 rfl) ?_
    refine gM_at hC hW q_fl_RX6_77 dX6_readRider_20 ?_
    refine r_top (y := nI x0) hat ?_
    refine r_ildN (t0 := 0) (j := x0) hC hW eM_3 rfl (rfl) (by omega) (by decide) dX6_readRider_23 ?_
    refine lv_goto (tgt := 28) hx hb dX6_readRider_24 (by decide) ?_
    refine lv_istore_n (lv' := [(3, .int (t.2 3 x0)), (2, .int (nI (3 * k))), (0, .ref (ad 0)), (1, .int (nI z0))]) hx hb dX6_readRider_28 rfl hl (by decide) rfl (fun ls hl => ?_)
    refine lv_aload_n hx hb dX6_readRider_29 rfl (lv_at hl 2 rfl) ?_
    refine gM_read hC hW q_fl_RX6_37 dX6_readRider_30 ?_
    refine lv_iload_n hx hb dX6_readRider_33 rfl (lv_at hl 1 rfl) ?_
    refine lv_iload_n hx hb dX6_readRider_34 rfl (lv_at hl 0 rfl) ?_
    refine lv_bipush (v := 114) hx hb dX6_readRider_35 (by decide) ?_
    refine lv_icmp_ne (tgt := 44) hx hb dX6_readRider_37 (by decide) (fun c_37_6 => ?_) (fun c_37_6 => ?_)
    · refine lv_iload_n hx hb dX6_readRider_44 rfl (lv_at hl 0 rfl) ?_
      refine lv_bipush (v := 110) hx hb dX6_readRider_45 (by decide) ?_
      refine lv_icmp_ne (tgt := 54) hx hb dX6_readRider_47 (by decide) (fun c_47_7 => ?_) (fun c_47_7 => ?_)
      · refine lv_iload_n hx hb dX6_readRider_54 rfl (lv_at hl 0 rfl) ?_
        refine lv_bipush (v := 108) hx hb dX6_readRider_55 (by decide) ?_
        refine lv_icmp_ne (tgt := 64) hx hb dX6_readRider_57 (by decide) (fun c_57_8 => ?_) (fun c_57_8 => ?_)
        · refine lv_bipush (v := (-9)) hx hb dX6_readRider_64 (by decide) ?_
          refine r_istN (t0 := 0) (j := 3 * k) hC hW eM_10 rfl (rfl) (by omega) (by decide) (sM_10 _) dX6_readRider_66 (fun H locs hW => ?_)
          have hW : HX (wM cs ad) (tyX cs) D A s.heap s (t.1, va_up t.2 10 (upd (t.2 10) (3 * k) (-9))) H locs := hW
          refine lv_aload_n hx hb dX6_readRider_67 rfl (lv_at hl 2 rfl) ?_
          refine gM_read hC hW q_fl_RX6_37 dX6_readRider_68 ?_
          refine lv_iload_n hx hb dX6_readRider_71 rfl (lv_at hl 1 rfl) ?_
          refine r_ildN (t0 := 0) (j := 3 * k) hC hW eM_10 rfl (rfl) (by omega) (by decide) dX6_readRider_72 ?_
          refine r_top (y := (upd (t.2 10) (3 * k) (-9)) (3 * k)) (by first | rfl | simp only [va_up_self]) ?_
          refine r_top (y := (-9)) pk_us ?_
          refine lv_bipush (v := (-9)) hx hb dX6_readRider_73 (by decide) ?_
          refine lv_icmp_ne (tgt := 80) hx hb dX6_readRider_75 (by decide) (fun c_75_9 => ?_) (fun c_75_9 => ?_)
          · exact absurd c_75_9 (by decide)
          · refine lv_iconst (v := 0) hx hb dX6_readRider_78 (by decide) ?_
            exact r_iretz hC hr hlk hW hQ (⟨frR.a10 t _ (Nat.le_refl _), Or.inr ⟨rfl, 0, by omega, fun i hi => absurd hi (by omega), fun h9 => (okC_0.mp h9).2.elim c_37_6 (fun h8 => h8.elim c_47_7 c_57_8), hat⟩⟩) (rfl) dX6_readRider_79
        · refine lv_iconst (v := 2) hx hb dX6_readRider_60 (by decide) ?_
          refine lv_goto (tgt := 66) hx hb dX6_readRider_61 (by decide) ?_
          refine r_istN (t0 := 0) (j := 3 * k) hC hW eM_10 rfl (rfl) (by omega) (by decide) (sM_10 _) dX6_readRider_66 (fun H locs hW => ?_)
          have hW : HX (wM cs ad) (tyX cs) D A s.heap s (t.1, va_up t.2 10 (upd (t.2 10) (3 * k) 2)) H locs := hW
          refine lv_aload_n hx hb dX6_readRider_67 rfl (lv_at hl 2 rfl) ?_
          refine gM_read hC hW q_fl_RX6_37 dX6_readRider_68 ?_
          refine lv_iload_n hx hb dX6_readRider_71 rfl (lv_at hl 1 rfl) ?_
          refine r_ildN (t0 := 0) (j := 3 * k) hC hW eM_10 rfl (rfl) (by omega) (by decide) dX6_readRider_72 ?_
          refine r_top (y := (upd (t.2 10) (3 * k) 2) (3 * k)) (by first | rfl | simp only [va_up_self]) ?_
          refine r_top (y := 2) pk_us ?_
          refine lv_bipush (v := (-9)) hx hb dX6_readRider_73 (by decide) ?_
          refine lv_icmp_ne (tgt := 80) hx hb dX6_readRider_75 (by decide) (fun c_75_10 => ?_) (fun c_75_10 => ?_)
          · refine lv_aload_n hx hb dX6_readRider_80 rfl (lv_at hl 2 rfl) ?_
            refine lv_dup hx hb dX6_readRider_81 rfl ?_
            refine gM_at hC hW q_fl_RX6_77 dX6_readRider_82 ?_
            refine r_top (y := nI x0) hat ?_
            refine lv_iconst (v := 1) hx hb dX6_readRider_85 (by decide) ?_
            refine lv_iadd hx hb dX6_readRider_86 ?_
            refine r_top (y := nI (x0 + 1)) (nI_add x0 1) ?_
            refine pM_at hC hW q_fl_RX6_77 dX6_readRider_87 (fun H locs hW => ?_)
            have hW : HX (wM cs ad) (tyX cs) D A s.heap s (va_up t.1 4 (nI (x0 + 1)), va_up t.2 10 (upd (t.2 10) (3 * k) 2)) H locs := hW
            obtain ⟨v1, ev1⟩ : ∃ z : St, z = (va_up t.1 4 (nI (x0 + 1)), va_up t.2 10 (upd (t.2 10) (3 * k) 2)) := ⟨_, rfl⟩
            have hW : HX (wM cs ad) (tyX cs) D A s.heap s v1 H locs := hx_congr hW ev1.symm
            have hat1 : v1.1 4 = nI (x0 + 1) := by rw [ev1]; rfl
            have hk1 : v1.1 6 = nI k := by rw [ev1]; exact hk
            have hv3 : v1.2 3 = t.2 3 := by rw [ev1]; rfl
            have hv1 := hv3
            have hf1 : frR k t v1 := by rw [ev1]; exact (frR.s4 k t _).tr (frR.a10 (k := k) (va_up t.1 4 (nI (x0 + 1)), t.2) _ (Nat.le_refl _))
            have hok0 : okC (t.2 3) z0 x0 0 := okC_0.mpr ⟨by omega, Or.inr (Or.inr c_57_8)⟩
            have hkd : v1.2 10 (3 * k) = kindF (t.2 3 x0) := by rw [ev1, c_57_8]; exact pk_us
            refine lv_aload_n hx hb dX6_readRider_90 rfl (lv_at hl 2 rfl) ?_
            refine lv_iload_n hx hb dX6_readRider_91 rfl (lv_at hl 3 rfl) ?_
            refine lv_iconst (v := 0) hx hb dX6_readRider_92 (by decide) ?_
            refine lv_bipush (v := 9) hx hb dX6_readRider_93 (by decide) ?_
            refine fin_i (run_V (rest := []) hC hW (m_X6_digit l D cs ad v1 (x0 + 1) z0 0 9 hat1 (by omega) hz0) k_yX6_digit ⟨rfl, rfl⟩ q_ml_RX6_111 eM_0 rfl rfl hl.1 rfl (Nat.le_of_ble_eq_true rfl) ⟨Nat.le_of_ble_eq_true rfl, Nat.le_of_ble_eq_true rfl⟩ dX6_readRider_95 ⟨Nat.zero_le _, Nat.zero_le _⟩) hW (fun r11 u11 H locs hp11 hW => ?_)
            refine lv_istore (lv' := [(4, .int r11), (3, .int (t.2 3 x0)), (2, .int (nI (3 * k))), (0, .ref (ad 0)), (1, .int (nI z0))]) hx hb dX6_readRider_98 hl (by decide) rfl (fun ls hl => ?_)
            refine lv_iload hx hb dX6_readRider_100 (lv_at hl 0 rfl) ?_
            refine lv_bipush (v := (-9)) hx hb dX6_readRider_102 (by decide) ?_
            refine lv_icmp_ne (tgt := 109) hx hb dX6_readRider_104 (by decide) (fun c_104_12 => ?_) (fun c_104_12 => ?_)
            · obtain ⟨_, hd1, hr1, huu11⟩ := (dg_case hp11).resolve_left (fun h9 => c_104_12 h9.1)
              have hok1 : okC (t.2 3) z0 x0 1 := (okC_d (by omega)).mpr (by rw [← hv3]; exact hd1)
              obtain ⟨v2, ev2⟩ : ∃ z : St, z = u11 := ⟨_, rfl⟩
              have hW : HX (wM cs ad) (tyX cs) D A s.heap s v2 H locs := hx_congr hW ev2.symm
              have hat2 : v2.1 4 = nI (x0 + 2) := by rw [ev2, huu11]; rfl
              have hk2 : v2.1 6 = nI k := by rw [ev2, huu11]; exact hk1
              have ha2 : v2.2 = v1.2 := by rw [ev2, huu11]
              have hv3 : v2.2 3 = t.2 3 := by rw [ha2]; exact hf1.2.1 3 (by decide)
              have hv2 := hv3
              have hf2 : frR k t v2 := by rw [ev2, huu11]; exact hf1.tr (frR.s4 k _ _)
              refine lv_aload_n hx hb dX6_readRider_109 rfl (lv_at hl 3 rfl) ?_
              refine lv_iload_n hx hb dX6_readRider_110 rfl (lv_at hl 4 rfl) ?_
              refine lv_iconst (v := 0) hx hb dX6_readRider_111 (by decide) ?_
              refine lv_bipush (v := 9) hx hb dX6_readRider_112 (by decide) ?_
              refine fin_i (run_V (rest := []) hC hW (m_X6_digit l D cs ad v2 (x0 + 2) z0 0 9 hat2 (by omega) hz0) k_yX6_digit ⟨rfl, rfl⟩ q_ml_RX6_111 eM_0 rfl rfl hl.1 rfl (Nat.le_of_ble_eq_true rfl) ⟨Nat.le_of_ble_eq_true rfl, Nat.le_of_ble_eq_true rfl⟩ dX6_readRider_114 ⟨Nat.zero_le _, Nat.zero_le _⟩) hW (fun r13 u13 H locs hp13 hW => ?_)
              refine lv_istore (lv' := [(5, .int r13), (4, .int r11), (3, .int (t.2 3 x0)), (2, .int (nI (3 * k))), (0, .ref (ad 0)), (1, .int (nI z0))]) hx hb dX6_readRider_117 hl (by decide) rfl (fun ls hl => ?_)
              refine lv_iload hx hb dX6_readRider_119 (lv_at hl 0 rfl) ?_
              refine lv_bipush (v := (-9)) hx hb dX6_readRider_121 (by decide) ?_
              refine lv_icmp_ne (tgt := 128) hx hb dX6_readRider_123 (by decide) (fun c_123_14 => ?_) (fun c_123_14 => ?_)
              · obtain ⟨_, hd2, hr2, huu13⟩ := (dg_case hp13).resolve_left (fun h9 => c_123_14 h9.1)
                have hok2 : okC (t.2 3) z0 x0 2 := (okC_d (by omega)).mpr (by rw [← hv3]; exact hd2)
                obtain ⟨v3, ev3⟩ : ∃ z : St, z = u13 := ⟨_, rfl⟩
                have hW : HX (wM cs ad) (tyX cs) D A s.heap s v3 H locs := hx_congr hW ev3.symm
                have hat3 : v3.1 4 = nI (x0 + 3) := by rw [ev3, huu13]; rfl
                have hk3 : v3.1 6 = nI k := by rw [ev3, huu13]; exact hk2
                have ha3 : v3.2 = v1.2 := by rw [ev3, huu13]; exact ha2
                have hv3 : v3.2 3 = t.2 3 := by rw [ha3]; exact hf1.2.1 3 (by decide)
                have hv3 := hv3
                have hf3 : frR k t v3 := by rw [ev3, huu13]; exact hf2.tr (frR.s4 k _ _)
                refine lv_aload_n hx hb dX6_readRider_128 rfl (lv_at hl 4 rfl) ?_
                refine gM_read hC hW q_fl_RX6_37 dX6_readRider_129 ?_
                refine lv_iload_n hx hb dX6_readRider_132 rfl (lv_at hl 3 rfl) ?_
                refine lv_iconst (v := 1) hx hb dX6_readRider_133 (by decide) ?_
                refine lv_iadd hx hb dX6_readRider_134 ?_
                refine r_top (y := nI ((3 * k) + 1)) (nI_add (3 * k) 1) ?_
                refine lv_bipush (v := 10) hx hb dX6_readRider_135 (by decide) ?_
                refine lv_iload hx hb dX6_readRider_137 (lv_at hl 1 rfl) ?_
                refine lv_imul hx hb dX6_readRider_139 ?_
                refine lv_iload hx hb dX6_readRider_140 (lv_at hl 0 rfl) ?_
                refine lv_iadd hx hb dX6_readRider_142 ?_
                refine r_istN (t0 := 0) (j := (3 * k) + 1) hC hW eM_10 rfl (rfl) (by omega) (by decide) (sM_10 _) dX6_readRider_143 (fun H locs hW => ?_)
                have hW : HX (wM cs ad) (tyX cs) D A s.heap s (v3.1, va_up v3.2 10 (upd (v3.2 10) ((3 * k) + 1) ((10 * r11) + r13))) H locs := hW
                obtain ⟨v4, ev4⟩ : ∃ z : St, z = (v3.1, va_up v3.2 10 (upd (v3.2 10) ((3 * k) + 1) ((10 * r11) + r13))) := ⟨_, rfl⟩
                have hW : HX (wM cs ad) (tyX cs) D A s.heap s v4 H locs := hx_congr hW ev4.symm
                have hat4 : v4.1 4 = nI (x0 + 3) := by rw [ev4]; exact hat3
                have hk4 : v4.1 6 = nI k := by rw [ev4]; exact hk3
                have hv4 : v4.2 3 = t.2 3 := by rw [ev4]; exact hv3
                have hf4 : frR k t v4 := by rw [ev4]; exact hf3.tr (frR.a10 _ _ (by omega))
                have hkd4 : v4.2 10 (3 * k) = kindF (t.2 3 x0) := by rw [ev4]; exact (pk_un (f := v3.2 10) (by omega)).trans (by rw [ha3]; exact hkd)
                have hsp4 : v4.2 10 (3 * k + 1) = 10 * (t.2 3 (x0 + 1) - 48) + (t.2 3 (x0 + 2) - 48) := by rw [ev4]; exact (pk_us (f := v3.2 10)).trans (by rw [hr1, hr2, hv1, hv2])
                have hv3 := hv4
                refine lv_aload_n hx hb dX6_readRider_144 rfl (lv_at hl 4 rfl) ?_
                refine gM_read hC hW q_fl_RX6_37 dX6_readRider_145 ?_
                refine lv_iload_n hx hb dX6_readRider_148 rfl (lv_at hl 3 rfl) ?_
                refine lv_iconst (v := 2) hx hb dX6_readRider_149 (by decide) ?_
                refine lv_iadd hx hb dX6_readRider_150 ?_
                refine r_top (y := nI ((3 * k) + 2)) (nI_add (3 * k) 2) ?_
                refine lv_aload_n hx hb dX6_readRider_151 rfl (lv_at hl 4 rfl) ?_
                refine lv_iload_n hx hb dX6_readRider_152 rfl (lv_at hl 5 rfl) ?_
                refine lv_iconst (v := 0) hx hb dX6_readRider_153 (by decide) ?_
                refine lv_bipush (v := 9) hx hb dX6_readRider_154 (by decide) ?_
                refine fin_i (run_V (rest := [.int (nI ((3 * k) + 2)), .ref (ad 10)]) hC hW (m_X6_digit l D cs ad v4 (x0 + 3) z0 0 9 hat4 (by omega) hz0) k_yX6_digit ⟨rfl, rfl⟩ q_ml_RX6_111 eM_0 rfl rfl hl.1 rfl (Nat.le_of_ble_eq_true rfl) ⟨Nat.le_of_ble_eq_true rfl, Nat.le_of_ble_eq_true rfl⟩ dX6_readRider_156 ⟨Nat.zero_le _, Nat.zero_le _⟩) hW (fun r15 u15 H locs hp15 hW => ?_)
                have hku15 : u15.1 6 = nI k := by rcases dg_case hp15 with h9 | h9; rw [h9.2.2]; exact hk4; rw [h9.2.2.2]; exact hk4
                refine r_istN (t0 := 0) (j := (3 * k) + 2) hC hW eM_10 rfl (rfl) (by omega) (by decide) (sM_10 _) dX6_readRider_159 (fun H locs hW => ?_)
                have hW : HX (wM cs ad) (tyX cs) D A s.heap s (u15.1, va_up u15.2 10 (upd (u15.2 10) ((3 * k) + 2) r15)) H locs := hW
                refine lv_aload_n hx hb dX6_readRider_160 rfl (lv_at hl 4 rfl) ?_
                refine lv_dup hx hb dX6_readRider_161 rfl ?_
                refine gM_readMany hC hW q_fl_RX6_101 dX6_readRider_162 ?_
                refine r_top (y := nI k) hku15 ?_
                refine lv_iconst (v := 1) hx hb dX6_readRider_165 (by decide) ?_
                refine lv_iadd hx hb dX6_readRider_166 ?_
                refine r_top (y := nI (k + 1)) (nI_add k 1) ?_
                refine pM_readMany hC hW q_fl_RX6_101 dX6_readRider_167 (fun H locs hW => ?_)
                have hW : HX (wM cs ad) (tyX cs) D A s.heap s (va_up u15.1 6 (nI (k + 1)), va_up u15.2 10 (upd (u15.2 10) ((3 * k) + 2) r15)) H locs := hW
                refine lv_aload_n hx hb dX6_readRider_170 rfl (lv_at hl 4 rfl) ?_
                refine gM_read hC hW q_fl_RX6_37 dX6_readRider_171 ?_
                refine lv_iload_n hx hb dX6_readRider_174 rfl (lv_at hl 3 rfl) ?_
                refine lv_iconst (v := 2) hx hb dX6_readRider_175 (by decide) ?_
                refine lv_iadd hx hb dX6_readRider_176 ?_
                refine r_top (y := nI ((3 * k) + 2)) (nI_add (3 * k) 2) ?_
                refine r_ildN (t0 := 0) (j := (3 * k) + 2) hC hW eM_10 rfl (rfl) (by omega) (by decide) dX6_readRider_177 ?_
                refine r_top (y := (upd (u15.2 10) ((3 * k) + 2) r15) ((3 * k) + 2)) (by first | rfl | simp only [va_up_self]) ?_
                refine r_top (y := r15) pk_us ?_
                refine lv_bipush (v := (-9)) hx hb dX6_readRider_178 (by decide) ?_
                refine lv_icmp_eq (tgt := 187) hx hb dX6_readRider_180 (by decide) (fun c_180_16 => ?_) (fun c_180_16 => ?_)
                · refine lv_iconst (v := 0) hx hb dX6_readRider_187 (by decide) ?_
                  obtain ⟨_, hno, huu15⟩ := (dg_case hp15).resolve_right (fun h9 => h9.1 c_180_16)
                  exact r_iretz hC hr hlk hW hQ (⟨(by rw [huu15]; exact (hf4.tr (frR.s6 k _ _)).tr (frR.a10 (k := k) (va_up v4.1 6 _, v4.2) _ (by omega))), Or.inr ⟨rfl, 3, by omega, fun i hi => by rcases (show i = 0 ∨ i = 1 ∨ i = 2 by omega) with rfl | rfl | rfl; exact hok0; exact hok1; exact hok2, fun h9 => hno (by rw [hv3]; exact (okC_d (by omega)).mp h9), by rw [huu15]; exact hat4⟩⟩) (rfl) dX6_readRider_188
                · refine lv_iconst (v := 1) hx hb dX6_readRider_183 (by decide) ?_
                  refine lv_goto (tgt := 188) hx hb dX6_readRider_184 (by decide) ?_
                  obtain ⟨_, hd3, hr3, huu15⟩ := (dg_case hp15).resolve_left (fun h9 => c_180_16 h9.1)
                  have hok3 : okC (t.2 3) z0 x0 3 := (okC_d (by omega)).mpr (by rw [← hv3]; exact hd3)
                  have e9 : ∀ q, va_up u15.2 10 (upd (u15.2 10) (3 * k + 2) r15) 10 q = upd (v4.2 10) (3 * k + 2) r15 q := fun q => by rw [va_up_self, huu15]
                  have hfin : RR z0 x0 k t (va_up u15.1 6 (nI (k + 1)), va_up u15.2 10 (upd (u15.2 10) ((3 * k) + 2) r15)) 1 := by
                    refine ⟨?_, Or.inl ⟨rfl, fun i hi => by rcases (show i = 0 ∨ i = 1 ∨ i = 2 ∨ i = 3 by omega) with rfl | rfl | rfl | rfl; exact hok0; exact hok1; exact hok2; exact hok3, ?_, rfl, ?_, ?_, ?_⟩⟩
                    · rw [huu15]; exact ((hf4.tr (frR.s4 k _ _)).tr (frR.s6 k _ _)).tr (frR.a10 (k := k) (va_up (va_up v4.1 4 _) 6 _, v4.2) _ (by omega))
                    · rw [huu15]; rfl
                    · exact (e9 _).trans ((pk_un (by omega)).trans hkd4)
                    · exact (e9 _).trans ((pk_un (by omega)).trans hsp4)
                    · refine (e9 _).trans (pk_us.trans (hr3.trans (by rw [hv3])))
                  exact r_iretz hC hr hlk hW hQ (hfin) (rfl) dX6_readRider_188
              · obtain ⟨_, hno, huu13⟩ := (dg_case hp13).resolve_right (fun h9 => h9.1 c_123_14)
                refine lv_iconst (v := 0) hx hb dX6_readRider_126 (by decide) ?_
                exact r_iretz hC hr hlk hW hQ (⟨by rw [huu13]; exact hf2, Or.inr ⟨rfl, 2, by omega, fun i hi => by rcases (show i = 0 ∨ i = 1 by omega) with rfl | rfl; exact hok0; exact hok1, fun h9 => hno (by rw [hv3]; exact (okC_d (by omega)).mp h9), by rw [huu13]; exact hat2⟩⟩) (rfl) dX6_readRider_127
            · obtain ⟨_, hno, huu11⟩ := (dg_case hp11).resolve_right (fun h9 => h9.1 c_104_12)
              refine lv_iconst (v := 0) hx hb dX6_readRider_107 (by decide) ?_
              exact r_iretz hC hr hlk hW hQ (⟨by rw [huu11]; exact hf1, Or.inr ⟨rfl, 1, by omega, fun i hi => by have h9 : i = 0 := (by omega); rw [h9]; exact hok0, fun h9 => hno (by rw [hv3]; exact (okC_d (by omega)).mp h9), by rw [huu11]; exact hat1⟩⟩) (rfl) dX6_readRider_108
          · exact absurd c_75_10 (by decide)
      · refine lv_iconst (v := 1) hx hb dX6_readRider_50 (by decide) ?_
        refine lv_goto (tgt := 66) hx hb dX6_readRider_51 (by decide) ?_
        refine r_istN (t0 := 0) (j := 3 * k) hC hW eM_10 rfl (rfl) (by omega) (by decide) (sM_10 _) dX6_readRider_66 (fun H locs hW => ?_)
        have hW : HX (wM cs ad) (tyX cs) D A s.heap s (t.1, va_up t.2 10 (upd (t.2 10) (3 * k) 1)) H locs := hW
        refine lv_aload_n hx hb dX6_readRider_67 rfl (lv_at hl 2 rfl) ?_
        refine gM_read hC hW q_fl_RX6_37 dX6_readRider_68 ?_
        refine lv_iload_n hx hb dX6_readRider_71 rfl (lv_at hl 1 rfl) ?_
        refine r_ildN (t0 := 0) (j := 3 * k) hC hW eM_10 rfl (rfl) (by omega) (by decide) dX6_readRider_72 ?_
        refine r_top (y := (upd (t.2 10) (3 * k) 1) (3 * k)) (by first | rfl | simp only [va_up_self]) ?_
        refine r_top (y := 1) pk_us ?_
        refine lv_bipush (v := (-9)) hx hb dX6_readRider_73 (by decide) ?_
        refine lv_icmp_ne (tgt := 80) hx hb dX6_readRider_75 (by decide) (fun c_75_17 => ?_) (fun c_75_17 => ?_)
        · refine lv_aload_n hx hb dX6_readRider_80 rfl (lv_at hl 2 rfl) ?_
          refine lv_dup hx hb dX6_readRider_81 rfl ?_
          refine gM_at hC hW q_fl_RX6_77 dX6_readRider_82 ?_
          refine r_top (y := nI x0) hat ?_
          refine lv_iconst (v := 1) hx hb dX6_readRider_85 (by decide) ?_
          refine lv_iadd hx hb dX6_readRider_86 ?_
          refine r_top (y := nI (x0 + 1)) (nI_add x0 1) ?_
          refine pM_at hC hW q_fl_RX6_77 dX6_readRider_87 (fun H locs hW => ?_)
          have hW : HX (wM cs ad) (tyX cs) D A s.heap s (va_up t.1 4 (nI (x0 + 1)), va_up t.2 10 (upd (t.2 10) (3 * k) 1)) H locs := hW
          obtain ⟨v1, ev1⟩ : ∃ z : St, z = (va_up t.1 4 (nI (x0 + 1)), va_up t.2 10 (upd (t.2 10) (3 * k) 1)) := ⟨_, rfl⟩
          have hW : HX (wM cs ad) (tyX cs) D A s.heap s v1 H locs := hx_congr hW ev1.symm
          have hat1 : v1.1 4 = nI (x0 + 1) := by rw [ev1]; rfl
          have hk1 : v1.1 6 = nI k := by rw [ev1]; exact hk
          have hv3 : v1.2 3 = t.2 3 := by rw [ev1]; rfl
          have hv1 := hv3
          have hf1 : frR k t v1 := by rw [ev1]; exact (frR.s4 k t _).tr (frR.a10 (k := k) (va_up t.1 4 (nI (x0 + 1)), t.2) _ (Nat.le_refl _))
          have hok0 : okC (t.2 3) z0 x0 0 := okC_0.mpr ⟨by omega, Or.inr (Or.inl c_47_7)⟩
          have hkd : v1.2 10 (3 * k) = kindF (t.2 3 x0) := by rw [ev1, c_47_7]; exact pk_us
          refine lv_aload_n hx hb dX6_readRider_90 rfl (lv_at hl 2 rfl) ?_
          refine lv_iload_n hx hb dX6_readRider_91 rfl (lv_at hl 3 rfl) ?_
          refine lv_iconst (v := 0) hx hb dX6_readRider_92 (by decide) ?_
          refine lv_bipush (v := 9) hx hb dX6_readRider_93 (by decide) ?_
          refine fin_i (run_V (rest := []) hC hW (m_X6_digit l D cs ad v1 (x0 + 1) z0 0 9 hat1 (by omega) hz0) k_yX6_digit ⟨rfl, rfl⟩ q_ml_RX6_111 eM_0 rfl rfl hl.1 rfl (Nat.le_of_ble_eq_true rfl) ⟨Nat.le_of_ble_eq_true rfl, Nat.le_of_ble_eq_true rfl⟩ dX6_readRider_95 ⟨Nat.zero_le _, Nat.zero_le _⟩) hW (fun r18 u18 H locs hp18 hW => ?_)
          refine lv_istore (lv' := [(4, .int r18), (3, .int (t.2 3 x0)), (2, .int (nI (3 * k))), (0, .ref (ad 0)), (1, .int (nI z0))]) hx hb dX6_readRider_98 hl (by decide) rfl (fun ls hl => ?_)
          refine lv_iload hx hb dX6_readRider_100 (lv_at hl 0 rfl) ?_
          refine lv_bipush (v := (-9)) hx hb dX6_readRider_102 (by decide) ?_
          refine lv_icmp_ne (tgt := 109) hx hb dX6_readRider_104 (by decide) (fun c_104_19 => ?_) (fun c_104_19 => ?_)
          · obtain ⟨_, hd1, hr1, huu18⟩ := (dg_case hp18).resolve_left (fun h9 => c_104_19 h9.1)
            have hok1 : okC (t.2 3) z0 x0 1 := (okC_d (by omega)).mpr (by rw [← hv3]; exact hd1)
            obtain ⟨v2, ev2⟩ : ∃ z : St, z = u18 := ⟨_, rfl⟩
            have hW : HX (wM cs ad) (tyX cs) D A s.heap s v2 H locs := hx_congr hW ev2.symm
            have hat2 : v2.1 4 = nI (x0 + 2) := by rw [ev2, huu18]; rfl
            have hk2 : v2.1 6 = nI k := by rw [ev2, huu18]; exact hk1
            have ha2 : v2.2 = v1.2 := by rw [ev2, huu18]
            have hv3 : v2.2 3 = t.2 3 := by rw [ha2]; exact hf1.2.1 3 (by decide)
            have hv2 := hv3
            have hf2 : frR k t v2 := by rw [ev2, huu18]; exact hf1.tr (frR.s4 k _ _)
            refine lv_aload_n hx hb dX6_readRider_109 rfl (lv_at hl 3 rfl) ?_
            refine lv_iload_n hx hb dX6_readRider_110 rfl (lv_at hl 4 rfl) ?_
            refine lv_iconst (v := 0) hx hb dX6_readRider_111 (by decide) ?_
            refine lv_bipush (v := 9) hx hb dX6_readRider_112 (by decide) ?_
            refine fin_i (run_V (rest := []) hC hW (m_X6_digit l D cs ad v2 (x0 + 2) z0 0 9 hat2 (by omega) hz0) k_yX6_digit ⟨rfl, rfl⟩ q_ml_RX6_111 eM_0 rfl rfl hl.1 rfl (Nat.le_of_ble_eq_true rfl) ⟨Nat.le_of_ble_eq_true rfl, Nat.le_of_ble_eq_true rfl⟩ dX6_readRider_114 ⟨Nat.zero_le _, Nat.zero_le _⟩) hW (fun r20 u20 H locs hp20 hW => ?_)
            refine lv_istore (lv' := [(5, .int r20), (4, .int r18), (3, .int (t.2 3 x0)), (2, .int (nI (3 * k))), (0, .ref (ad 0)), (1, .int (nI z0))]) hx hb dX6_readRider_117 hl (by decide) rfl (fun ls hl => ?_)
            refine lv_iload hx hb dX6_readRider_119 (lv_at hl 0 rfl) ?_
            refine lv_bipush (v := (-9)) hx hb dX6_readRider_121 (by decide) ?_
            refine lv_icmp_ne (tgt := 128) hx hb dX6_readRider_123 (by decide) (fun c_123_21 => ?_) (fun c_123_21 => ?_)
            · obtain ⟨_, hd2, hr2, huu20⟩ := (dg_case hp20).resolve_left (fun h9 => c_123_21 h9.1)
              have hok2 : okC (t.2 3) z0 x0 2 := (okC_d (by omega)).mpr (by rw [← hv3]; exact hd2)
              obtain ⟨v3, ev3⟩ : ∃ z : St, z = u20 := ⟨_, rfl⟩
              have hW : HX (wM cs ad) (tyX cs) D A s.heap s v3 H locs := hx_congr hW ev3.symm
              have hat3 : v3.1 4 = nI (x0 + 3) := by rw [ev3, huu20]; rfl
              have hk3 : v3.1 6 = nI k := by rw [ev3, huu20]; exact hk2
              have ha3 : v3.2 = v1.2 := by rw [ev3, huu20]; exact ha2
              have hv3 : v3.2 3 = t.2 3 := by rw [ha3]; exact hf1.2.1 3 (by decide)
              have hv3 := hv3
              have hf3 : frR k t v3 := by rw [ev3, huu20]; exact hf2.tr (frR.s4 k _ _)
              refine lv_aload_n hx hb dX6_readRider_128 rfl (lv_at hl 4 rfl) ?_
              refine gM_read hC hW q_fl_RX6_37 dX6_readRider_129 ?_
              refine lv_iload_n hx hb dX6_readRider_132 rfl (lv_at hl 3 rfl) ?_
              refine lv_iconst (v := 1) hx hb dX6_readRider_133 (by decide) ?_
              refine lv_iadd hx hb dX6_readRider_134 ?_
              refine r_top (y := nI ((3 * k) + 1)) (nI_add (3 * k) 1) ?_
              refine lv_bipush (v := 10) hx hb dX6_readRider_135 (by decide) ?_
              refine lv_iload hx hb dX6_readRider_137 (lv_at hl 1 rfl) ?_
              refine lv_imul hx hb dX6_readRider_139 ?_
              refine lv_iload hx hb dX6_readRider_140 (lv_at hl 0 rfl) ?_
              refine lv_iadd hx hb dX6_readRider_142 ?_
              refine r_istN (t0 := 0) (j := (3 * k) + 1) hC hW eM_10 rfl (rfl) (by omega) (by decide) (sM_10 _) dX6_readRider_143 (fun H locs hW => ?_)
              have hW : HX (wM cs ad) (tyX cs) D A s.heap s (v3.1, va_up v3.2 10 (upd (v3.2 10) ((3 * k) + 1) ((10 * r18) + r20))) H locs := hW
              obtain ⟨v4, ev4⟩ : ∃ z : St, z = (v3.1, va_up v3.2 10 (upd (v3.2 10) ((3 * k) + 1) ((10 * r18) + r20))) := ⟨_, rfl⟩
              have hW : HX (wM cs ad) (tyX cs) D A s.heap s v4 H locs := hx_congr hW ev4.symm
              have hat4 : v4.1 4 = nI (x0 + 3) := by rw [ev4]; exact hat3
              have hk4 : v4.1 6 = nI k := by rw [ev4]; exact hk3
              have hv4 : v4.2 3 = t.2 3 := by rw [ev4]; exact hv3
              have hf4 : frR k t v4 := by rw [ev4]; exact hf3.tr (frR.a10 _ _ (by omega))
              have hkd4 : v4.2 10 (3 * k) = kindF (t.2 3 x0) := by rw [ev4]; exact (pk_un (f := v3.2 10) (by omega)).trans (by rw [ha3]; exact hkd)
              have hsp4 : v4.2 10 (3 * k + 1) = 10 * (t.2 3 (x0 + 1) - 48) + (t.2 3 (x0 + 2) - 48) := by rw [ev4]; exact (pk_us (f := v3.2 10)).trans (by rw [hr1, hr2, hv1, hv2])
              have hv3 := hv4
              refine lv_aload_n hx hb dX6_readRider_144 rfl (lv_at hl 4 rfl) ?_
              refine gM_read hC hW q_fl_RX6_37 dX6_readRider_145 ?_
              refine lv_iload_n hx hb dX6_readRider_148 rfl (lv_at hl 3 rfl) ?_
              refine lv_iconst (v := 2) hx hb dX6_readRider_149 (by decide) ?_
              refine lv_iadd hx hb dX6_readRider_150 ?_
              refine r_top (y := nI ((3 * k) + 2)) (nI_add (3 * k) 2) ?_
              refine lv_aload_n hx hb dX6_readRider_151 rfl (lv_at hl 4 rfl) ?_
              refine lv_iload_n hx hb dX6_readRider_152 rfl (lv_at hl 5 rfl) ?_
              refine lv_iconst (v := 0) hx hb dX6_readRider_153 (by decide) ?_
              refine lv_bipush (v := 9) hx hb dX6_readRider_154 (by decide) ?_
              refine fin_i (run_V (rest := [.int (nI ((3 * k) + 2)), .ref (ad 10)]) hC hW (m_X6_digit l D cs ad v4 (x0 + 3) z0 0 9 hat4 (by omega) hz0) k_yX6_digit ⟨rfl, rfl⟩ q_ml_RX6_111 eM_0 rfl rfl hl.1 rfl (Nat.le_of_ble_eq_true rfl) ⟨Nat.le_of_ble_eq_true rfl, Nat.le_of_ble_eq_true rfl⟩ dX6_readRider_156 ⟨Nat.zero_le _, Nat.zero_le _⟩) hW (fun r22 u22 H locs hp22 hW => ?_)
              have hku22 : u22.1 6 = nI k := by rcases dg_case hp22 with h9 | h9; rw [h9.2.2]; exact hk4; rw [h9.2.2.2]; exact hk4
              refine r_istN (t0 := 0) (j := (3 * k) + 2) hC hW eM_10 rfl (rfl) (by omega) (by decide) (sM_10 _) dX6_readRider_159 (fun H locs hW => ?_)
              have hW : HX (wM cs ad) (tyX cs) D A s.heap s (u22.1, va_up u22.2 10 (upd (u22.2 10) ((3 * k) + 2) r22)) H locs := hW
              refine lv_aload_n hx hb dX6_readRider_160 rfl (lv_at hl 4 rfl) ?_
              refine lv_dup hx hb dX6_readRider_161 rfl ?_
              refine gM_readMany hC hW q_fl_RX6_101 dX6_readRider_162 ?_
              refine r_top (y := nI k) hku22 ?_
              refine lv_iconst (v := 1) hx hb dX6_readRider_165 (by decide) ?_
              refine lv_iadd hx hb dX6_readRider_166 ?_
              refine r_top (y := nI (k + 1)) (nI_add k 1) ?_
              refine pM_readMany hC hW q_fl_RX6_101 dX6_readRider_167 (fun H locs hW => ?_)
              have hW : HX (wM cs ad) (tyX cs) D A s.heap s (va_up u22.1 6 (nI (k + 1)), va_up u22.2 10 (upd (u22.2 10) ((3 * k) + 2) r22)) H locs := hW
              refine lv_aload_n hx hb dX6_readRider_170 rfl (lv_at hl 4 rfl) ?_
              refine gM_read hC hW q_fl_RX6_37 dX6_readRider_171 ?_
              refine lv_iload_n hx hb dX6_readRider_174 rfl (lv_at hl 3 rfl) ?_
              refine lv_iconst (v := 2) hx hb dX6_readRider_175 (by decide) ?_
              refine lv_iadd hx hb dX6_readRider_176 ?_
              refine r_top (y := nI ((3 * k) + 2)) (nI_add (3 * k) 2) ?_
              refine r_ildN (t0 := 0) (j := (3 * k) + 2) hC hW eM_10 rfl (rfl) (by omega) (by decide) dX6_readRider_177 ?_
              refine r_top (y := (upd (u22.2 10) ((3 * k) + 2) r22) ((3 * k) + 2)) (by first | rfl | simp only [va_up_self]) ?_
              refine r_top (y := r22) pk_us ?_
              refine lv_bipush (v := (-9)) hx hb dX6_readRider_178 (by decide) ?_
              refine lv_icmp_eq (tgt := 187) hx hb dX6_readRider_180 (by decide) (fun c_180_23 => ?_) (fun c_180_23 => ?_)
              · refine lv_iconst (v := 0) hx hb dX6_readRider_187 (by decide) ?_
                obtain ⟨_, hno, huu22⟩ := (dg_case hp22).resolve_right (fun h9 => h9.1 c_180_23)
                exact r_iretz hC hr hlk hW hQ (⟨(by rw [huu22]; exact (hf4.tr (frR.s6 k _ _)).tr (frR.a10 (k := k) (va_up v4.1 6 _, v4.2) _ (by omega))), Or.inr ⟨rfl, 3, by omega, fun i hi => by rcases (show i = 0 ∨ i = 1 ∨ i = 2 by omega) with rfl | rfl | rfl; exact hok0; exact hok1; exact hok2, fun h9 => hno (by rw [hv3]; exact (okC_d (by omega)).mp h9), by rw [huu22]; exact hat4⟩⟩) (rfl) dX6_readRider_188
              · refine lv_iconst (v := 1) hx hb dX6_readRider_183 (by decide) ?_
                refine lv_goto (tgt := 188) hx hb dX6_readRider_184 (by decide) ?_
                obtain ⟨_, hd3, hr3, huu22⟩ := (dg_case hp22).resolve_left (fun h9 => c_180_23 h9.1)
                have hok3 : okC (t.2 3) z0 x0 3 := (okC_d (by omega)).mpr (by rw [← hv3]; exact hd3)
                have e9 : ∀ q, va_up u22.2 10 (upd (u22.2 10) (3 * k + 2) r22) 10 q = upd (v4.2 10) (3 * k + 2) r22 q := fun q => by rw [va_up_self, huu22]
                have hfin : RR z0 x0 k t (va_up u22.1 6 (nI (k + 1)), va_up u22.2 10 (upd (u22.2 10) ((3 * k) + 2) r22)) 1 := by
                  refine ⟨?_, Or.inl ⟨rfl, fun i hi => by rcases (show i = 0 ∨ i = 1 ∨ i = 2 ∨ i = 3 by omega) with rfl | rfl | rfl | rfl; exact hok0; exact hok1; exact hok2; exact hok3, ?_, rfl, ?_, ?_, ?_⟩⟩
                  · rw [huu22]; exact ((hf4.tr (frR.s4 k _ _)).tr (frR.s6 k _ _)).tr (frR.a10 (k := k) (va_up (va_up v4.1 4 _) 6 _, v4.2) _ (by omega))
                  · rw [huu22]; rfl
                  · exact (e9 _).trans ((pk_un (by omega)).trans hkd4)
                  · exact (e9 _).trans ((pk_un (by omega)).trans hsp4)
                  · refine (e9 _).trans (pk_us.trans (hr3.trans (by rw [hv3])))
                exact r_iretz hC hr hlk hW hQ (hfin) (rfl) dX6_readRider_188
            · obtain ⟨_, hno, huu20⟩ := (dg_case hp20).resolve_right (fun h9 => h9.1 c_123_21)
              refine lv_iconst (v := 0) hx hb dX6_readRider_126 (by decide) ?_
              exact r_iretz hC hr hlk hW hQ (⟨by rw [huu20]; exact hf2, Or.inr ⟨rfl, 2, by omega, fun i hi => by rcases (show i = 0 ∨ i = 1 by omega) with rfl | rfl; exact hok0; exact hok1, fun h9 => hno (by rw [hv3]; exact (okC_d (by omega)).mp h9), by rw [huu20]; exact hat2⟩⟩) (rfl) dX6_readRider_127
          · obtain ⟨_, hno, huu18⟩ := (dg_case hp18).resolve_right (fun h9 => h9.1 c_104_19)
            refine lv_iconst (v := 0) hx hb dX6_readRider_107 (by decide) ?_
            exact r_iretz hC hr hlk hW hQ (⟨by rw [huu18]; exact hf1, Or.inr ⟨rfl, 1, by omega, fun i hi => by have h9 : i = 0 := (by omega); rw [h9]; exact hok0, fun h9 => hno (by rw [hv3]; exact (okC_d (by omega)).mp h9), by rw [huu18]; exact hat1⟩⟩) (rfl) dX6_readRider_108
        · exact absurd c_75_17 (by decide)
    · refine lv_iconst (v := 0) hx hb dX6_readRider_40 (by decide) ?_
      refine lv_goto (tgt := 66) hx hb dX6_readRider_41 (by decide) ?_
      refine r_istN (t0 := 0) (j := 3 * k) hC hW eM_10 rfl (rfl) (by omega) (by decide) (sM_10 _) dX6_readRider_66 (fun H locs hW => ?_)
      have hW : HX (wM cs ad) (tyX cs) D A s.heap s (t.1, va_up t.2 10 (upd (t.2 10) (3 * k) 0)) H locs := hW
      refine lv_aload_n hx hb dX6_readRider_67 rfl (lv_at hl 2 rfl) ?_
      refine gM_read hC hW q_fl_RX6_37 dX6_readRider_68 ?_
      refine lv_iload_n hx hb dX6_readRider_71 rfl (lv_at hl 1 rfl) ?_
      refine r_ildN (t0 := 0) (j := 3 * k) hC hW eM_10 rfl (rfl) (by omega) (by decide) dX6_readRider_72 ?_
      refine r_top (y := (upd (t.2 10) (3 * k) 0) (3 * k)) (by first | rfl | simp only [va_up_self]) ?_
      refine r_top (y := 0) pk_us ?_
      refine lv_bipush (v := (-9)) hx hb dX6_readRider_73 (by decide) ?_
      refine lv_icmp_ne (tgt := 80) hx hb dX6_readRider_75 (by decide) (fun c_75_24 => ?_) (fun c_75_24 => ?_)
      · refine lv_aload_n hx hb dX6_readRider_80 rfl (lv_at hl 2 rfl) ?_
        refine lv_dup hx hb dX6_readRider_81 rfl ?_
        refine gM_at hC hW q_fl_RX6_77 dX6_readRider_82 ?_
        refine r_top (y := nI x0) hat ?_
        refine lv_iconst (v := 1) hx hb dX6_readRider_85 (by decide) ?_
        refine lv_iadd hx hb dX6_readRider_86 ?_
        refine r_top (y := nI (x0 + 1)) (nI_add x0 1) ?_
        refine pM_at hC hW q_fl_RX6_77 dX6_readRider_87 (fun H locs hW => ?_)
        have hW : HX (wM cs ad) (tyX cs) D A s.heap s (va_up t.1 4 (nI (x0 + 1)), va_up t.2 10 (upd (t.2 10) (3 * k) 0)) H locs := hW
        obtain ⟨v1, ev1⟩ : ∃ z : St, z = (va_up t.1 4 (nI (x0 + 1)), va_up t.2 10 (upd (t.2 10) (3 * k) 0)) := ⟨_, rfl⟩
        have hW : HX (wM cs ad) (tyX cs) D A s.heap s v1 H locs := hx_congr hW ev1.symm
        have hat1 : v1.1 4 = nI (x0 + 1) := by rw [ev1]; rfl
        have hk1 : v1.1 6 = nI k := by rw [ev1]; exact hk
        have hv3 : v1.2 3 = t.2 3 := by rw [ev1]; rfl
        have hv1 := hv3
        have hf1 : frR k t v1 := by rw [ev1]; exact (frR.s4 k t _).tr (frR.a10 (k := k) (va_up t.1 4 (nI (x0 + 1)), t.2) _ (Nat.le_refl _))
        have hok0 : okC (t.2 3) z0 x0 0 := okC_0.mpr ⟨by omega, Or.inl c_37_6⟩
        have hkd : v1.2 10 (3 * k) = kindF (t.2 3 x0) := by rw [ev1, c_37_6]; exact pk_us
        refine lv_aload_n hx hb dX6_readRider_90 rfl (lv_at hl 2 rfl) ?_
        refine lv_iload_n hx hb dX6_readRider_91 rfl (lv_at hl 3 rfl) ?_
        refine lv_iconst (v := 0) hx hb dX6_readRider_92 (by decide) ?_
        refine lv_bipush (v := 9) hx hb dX6_readRider_93 (by decide) ?_
        refine fin_i (run_V (rest := []) hC hW (m_X6_digit l D cs ad v1 (x0 + 1) z0 0 9 hat1 (by omega) hz0) k_yX6_digit ⟨rfl, rfl⟩ q_ml_RX6_111 eM_0 rfl rfl hl.1 rfl (Nat.le_of_ble_eq_true rfl) ⟨Nat.le_of_ble_eq_true rfl, Nat.le_of_ble_eq_true rfl⟩ dX6_readRider_95 ⟨Nat.zero_le _, Nat.zero_le _⟩) hW (fun r25 u25 H locs hp25 hW => ?_)
        refine lv_istore (lv' := [(4, .int r25), (3, .int (t.2 3 x0)), (2, .int (nI (3 * k))), (0, .ref (ad 0)), (1, .int (nI z0))]) hx hb dX6_readRider_98 hl (by decide) rfl (fun ls hl => ?_)
        refine lv_iload hx hb dX6_readRider_100 (lv_at hl 0 rfl) ?_
        refine lv_bipush (v := (-9)) hx hb dX6_readRider_102 (by decide) ?_
        refine lv_icmp_ne (tgt := 109) hx hb dX6_readRider_104 (by decide) (fun c_104_26 => ?_) (fun c_104_26 => ?_)
        · obtain ⟨_, hd1, hr1, huu25⟩ := (dg_case hp25).resolve_left (fun h9 => c_104_26 h9.1)
          have hok1 : okC (t.2 3) z0 x0 1 := (okC_d (by omega)).mpr (by rw [← hv3]; exact hd1)
          obtain ⟨v2, ev2⟩ : ∃ z : St, z = u25 := ⟨_, rfl⟩
          have hW : HX (wM cs ad) (tyX cs) D A s.heap s v2 H locs := hx_congr hW ev2.symm
          have hat2 : v2.1 4 = nI (x0 + 2) := by rw [ev2, huu25]; rfl
          have hk2 : v2.1 6 = nI k := by rw [ev2, huu25]; exact hk1
          have ha2 : v2.2 = v1.2 := by rw [ev2, huu25]
          have hv3 : v2.2 3 = t.2 3 := by rw [ha2]; exact hf1.2.1 3 (by decide)
          have hv2 := hv3
          have hf2 : frR k t v2 := by rw [ev2, huu25]; exact hf1.tr (frR.s4 k _ _)
          refine lv_aload_n hx hb dX6_readRider_109 rfl (lv_at hl 3 rfl) ?_
          refine lv_iload_n hx hb dX6_readRider_110 rfl (lv_at hl 4 rfl) ?_
          refine lv_iconst (v := 0) hx hb dX6_readRider_111 (by decide) ?_
          refine lv_bipush (v := 9) hx hb dX6_readRider_112 (by decide) ?_
          refine fin_i (run_V (rest := []) hC hW (m_X6_digit l D cs ad v2 (x0 + 2) z0 0 9 hat2 (by omega) hz0) k_yX6_digit ⟨rfl, rfl⟩ q_ml_RX6_111 eM_0 rfl rfl hl.1 rfl (Nat.le_of_ble_eq_true rfl) ⟨Nat.le_of_ble_eq_true rfl, Nat.le_of_ble_eq_true rfl⟩ dX6_readRider_114 ⟨Nat.zero_le _, Nat.zero_le _⟩) hW (fun r27 u27 H locs hp27 hW => ?_)
          refine lv_istore (lv' := [(5, .int r27), (4, .int r25), (3, .int (t.2 3 x0)), (2, .int (nI (3 * k))), (0, .ref (ad 0)), (1, .int (nI z0))]) hx hb dX6_readRider_117 hl (by decide) rfl (fun ls hl => ?_)
          refine lv_iload hx hb dX6_readRider_119 (lv_at hl 0 rfl) ?_
          refine lv_bipush (v := (-9)) hx hb dX6_readRider_121 (by decide) ?_
          refine lv_icmp_ne (tgt := 128) hx hb dX6_readRider_123 (by decide) (fun c_123_28 => ?_) (fun c_123_28 => ?_)
          · obtain ⟨_, hd2, hr2, huu27⟩ := (dg_case hp27).resolve_left (fun h9 => c_123_28 h9.1)
            have hok2 : okC (t.2 3) z0 x0 2 := (okC_d (by omega)).mpr (by rw [← hv3]; exact hd2)
            obtain ⟨v3, ev3⟩ : ∃ z : St, z = u27 := ⟨_, rfl⟩
            have hW : HX (wM cs ad) (tyX cs) D A s.heap s v3 H locs := hx_congr hW ev3.symm
            have hat3 : v3.1 4 = nI (x0 + 3) := by rw [ev3, huu27]; rfl
            have hk3 : v3.1 6 = nI k := by rw [ev3, huu27]; exact hk2
            have ha3 : v3.2 = v1.2 := by rw [ev3, huu27]; exact ha2
            have hv3 : v3.2 3 = t.2 3 := by rw [ha3]; exact hf1.2.1 3 (by decide)
            have hv3 := hv3
            have hf3 : frR k t v3 := by rw [ev3, huu27]; exact hf2.tr (frR.s4 k _ _)
            refine lv_aload_n hx hb dX6_readRider_128 rfl (lv_at hl 4 rfl) ?_
            refine gM_read hC hW q_fl_RX6_37 dX6_readRider_129 ?_
            refine lv_iload_n hx hb dX6_readRider_132 rfl (lv_at hl 3 rfl) ?_
            refine lv_iconst (v := 1) hx hb dX6_readRider_133 (by decide) ?_
            refine lv_iadd hx hb dX6_readRider_134 ?_
            refine r_top (y := nI ((3 * k) + 1)) (nI_add (3 * k) 1) ?_
            refine lv_bipush (v := 10) hx hb dX6_readRider_135 (by decide) ?_
            refine lv_iload hx hb dX6_readRider_137 (lv_at hl 1 rfl) ?_
            refine lv_imul hx hb dX6_readRider_139 ?_
            refine lv_iload hx hb dX6_readRider_140 (lv_at hl 0 rfl) ?_
            refine lv_iadd hx hb dX6_readRider_142 ?_
            refine r_istN (t0 := 0) (j := (3 * k) + 1) hC hW eM_10 rfl (rfl) (by omega) (by decide) (sM_10 _) dX6_readRider_143 (fun H locs hW => ?_)
            have hW : HX (wM cs ad) (tyX cs) D A s.heap s (v3.1, va_up v3.2 10 (upd (v3.2 10) ((3 * k) + 1) ((10 * r25) + r27))) H locs := hW
            obtain ⟨v4, ev4⟩ : ∃ z : St, z = (v3.1, va_up v3.2 10 (upd (v3.2 10) ((3 * k) + 1) ((10 * r25) + r27))) := ⟨_, rfl⟩
            have hW : HX (wM cs ad) (tyX cs) D A s.heap s v4 H locs := hx_congr hW ev4.symm
            have hat4 : v4.1 4 = nI (x0 + 3) := by rw [ev4]; exact hat3
            have hk4 : v4.1 6 = nI k := by rw [ev4]; exact hk3
            have hv4 : v4.2 3 = t.2 3 := by rw [ev4]; exact hv3
            have hf4 : frR k t v4 := by rw [ev4]; exact hf3.tr (frR.a10 _ _ (by omega))
            have hkd4 : v4.2 10 (3 * k) = kindF (t.2 3 x0) := by rw [ev4]; exact (pk_un (f := v3.2 10) (by omega)).trans (by rw [ha3]; exact hkd)
            have hsp4 : v4.2 10 (3 * k + 1) = 10 * (t.2 3 (x0 + 1) - 48) + (t.2 3 (x0 + 2) - 48) := by rw [ev4]; exact (pk_us (f := v3.2 10)).trans (by rw [hr1, hr2, hv1, hv2])
            have hv3 := hv4
            refine lv_aload_n hx hb dX6_readRider_144 rfl (lv_at hl 4 rfl) ?_
            refine gM_read hC hW q_fl_RX6_37 dX6_readRider_145 ?_
            refine lv_iload_n hx hb dX6_readRider_148 rfl (lv_at hl 3 rfl) ?_
            refine lv_iconst (v := 2) hx hb dX6_readRider_149 (by decide) ?_
            refine lv_iadd hx hb dX6_readRider_150 ?_
            refine r_top (y := nI ((3 * k) + 2)) (nI_add (3 * k) 2) ?_
            refine lv_aload_n hx hb dX6_readRider_151 rfl (lv_at hl 4 rfl) ?_
            refine lv_iload_n hx hb dX6_readRider_152 rfl (lv_at hl 5 rfl) ?_
            refine lv_iconst (v := 0) hx hb dX6_readRider_153 (by decide) ?_
            refine lv_bipush (v := 9) hx hb dX6_readRider_154 (by decide) ?_
            refine fin_i (run_V (rest := [.int (nI ((3 * k) + 2)), .ref (ad 10)]) hC hW (m_X6_digit l D cs ad v4 (x0 + 3) z0 0 9 hat4 (by omega) hz0) k_yX6_digit ⟨rfl, rfl⟩ q_ml_RX6_111 eM_0 rfl rfl hl.1 rfl (Nat.le_of_ble_eq_true rfl) ⟨Nat.le_of_ble_eq_true rfl, Nat.le_of_ble_eq_true rfl⟩ dX6_readRider_156 ⟨Nat.zero_le _, Nat.zero_le _⟩) hW (fun r29 u29 H locs hp29 hW => ?_)
            have hku29 : u29.1 6 = nI k := by rcases dg_case hp29 with h9 | h9; rw [h9.2.2]; exact hk4; rw [h9.2.2.2]; exact hk4
            refine r_istN (t0 := 0) (j := (3 * k) + 2) hC hW eM_10 rfl (rfl) (by omega) (by decide) (sM_10 _) dX6_readRider_159 (fun H locs hW => ?_)
            have hW : HX (wM cs ad) (tyX cs) D A s.heap s (u29.1, va_up u29.2 10 (upd (u29.2 10) ((3 * k) + 2) r29)) H locs := hW
            refine lv_aload_n hx hb dX6_readRider_160 rfl (lv_at hl 4 rfl) ?_
            refine lv_dup hx hb dX6_readRider_161 rfl ?_
            refine gM_readMany hC hW q_fl_RX6_101 dX6_readRider_162 ?_
            refine r_top (y := nI k) hku29 ?_
            refine lv_iconst (v := 1) hx hb dX6_readRider_165 (by decide) ?_
            refine lv_iadd hx hb dX6_readRider_166 ?_
            refine r_top (y := nI (k + 1)) (nI_add k 1) ?_
            refine pM_readMany hC hW q_fl_RX6_101 dX6_readRider_167 (fun H locs hW => ?_)
            have hW : HX (wM cs ad) (tyX cs) D A s.heap s (va_up u29.1 6 (nI (k + 1)), va_up u29.2 10 (upd (u29.2 10) ((3 * k) + 2) r29)) H locs := hW
            refine lv_aload_n hx hb dX6_readRider_170 rfl (lv_at hl 4 rfl) ?_
            refine gM_read hC hW q_fl_RX6_37 dX6_readRider_171 ?_
            refine lv_iload_n hx hb dX6_readRider_174 rfl (lv_at hl 3 rfl) ?_
            refine lv_iconst (v := 2) hx hb dX6_readRider_175 (by decide) ?_
            refine lv_iadd hx hb dX6_readRider_176 ?_
            refine r_top (y := nI ((3 * k) + 2)) (nI_add (3 * k) 2) ?_
            refine r_ildN (t0 := 0) (j := (3 * k) + 2) hC hW eM_10 rfl (rfl) (by omega) (by decide) dX6_readRider_177 ?_
            refine r_top (y := (upd (u29.2 10) ((3 * k) + 2) r29) ((3 * k) + 2)) (by first | rfl | simp only [va_up_self]) ?_
            refine r_top (y := r29) pk_us ?_
            refine lv_bipush (v := (-9)) hx hb dX6_readRider_178 (by decide) ?_
            refine lv_icmp_eq (tgt := 187) hx hb dX6_readRider_180 (by decide) (fun c_180_30 => ?_) (fun c_180_30 => ?_)
            · refine lv_iconst (v := 0) hx hb dX6_readRider_187 (by decide) ?_
              obtain ⟨_, hno, huu29⟩ := (dg_case hp29).resolve_right (fun h9 => h9.1 c_180_30)
              exact r_iretz hC hr hlk hW hQ (⟨(by rw [huu29]; exact (hf4.tr (frR.s6 k _ _)).tr (frR.a10 (k := k) (va_up v4.1 6 _, v4.2) _ (by omega))), Or.inr ⟨rfl, 3, by omega, fun i hi => by rcases (show i = 0 ∨ i = 1 ∨ i = 2 by omega) with rfl | rfl | rfl; exact hok0; exact hok1; exact hok2, fun h9 => hno (by rw [hv3]; exact (okC_d (by omega)).mp h9), by rw [huu29]; exact hat4⟩⟩) (rfl) dX6_readRider_188
            · refine lv_iconst (v := 1) hx hb dX6_readRider_183 (by decide) ?_
              refine lv_goto (tgt := 188) hx hb dX6_readRider_184 (by decide) ?_
              obtain ⟨_, hd3, hr3, huu29⟩ := (dg_case hp29).resolve_left (fun h9 => c_180_30 h9.1)
              have hok3 : okC (t.2 3) z0 x0 3 := (okC_d (by omega)).mpr (by rw [← hv3]; exact hd3)
              have e9 : ∀ q, va_up u29.2 10 (upd (u29.2 10) (3 * k + 2) r29) 10 q = upd (v4.2 10) (3 * k + 2) r29 q := fun q => by rw [va_up_self, huu29]
              have hfin : RR z0 x0 k t (va_up u29.1 6 (nI (k + 1)), va_up u29.2 10 (upd (u29.2 10) ((3 * k) + 2) r29)) 1 := by
                refine ⟨?_, Or.inl ⟨rfl, fun i hi => by rcases (show i = 0 ∨ i = 1 ∨ i = 2 ∨ i = 3 by omega) with rfl | rfl | rfl | rfl; exact hok0; exact hok1; exact hok2; exact hok3, ?_, rfl, ?_, ?_, ?_⟩⟩
                · rw [huu29]; exact ((hf4.tr (frR.s4 k _ _)).tr (frR.s6 k _ _)).tr (frR.a10 (k := k) (va_up (va_up v4.1 4 _) 6 _, v4.2) _ (by omega))
                · rw [huu29]; rfl
                · exact (e9 _).trans ((pk_un (by omega)).trans hkd4)
                · exact (e9 _).trans ((pk_un (by omega)).trans hsp4)
                · refine (e9 _).trans (pk_us.trans (hr3.trans (by rw [hv3])))
              exact r_iretz hC hr hlk hW hQ (hfin) (rfl) dX6_readRider_188
          · obtain ⟨_, hno, huu27⟩ := (dg_case hp27).resolve_right (fun h9 => h9.1 c_123_28)
            refine lv_iconst (v := 0) hx hb dX6_readRider_126 (by decide) ?_
            exact r_iretz hC hr hlk hW hQ (⟨by rw [huu27]; exact hf2, Or.inr ⟨rfl, 2, by omega, fun i hi => by rcases (show i = 0 ∨ i = 1 by omega) with rfl | rfl; exact hok0; exact hok1, fun h9 => hno (by rw [hv3]; exact (okC_d (by omega)).mp h9), by rw [huu27]; exact hat2⟩⟩) (rfl) dX6_readRider_127
        · obtain ⟨_, hno, huu25⟩ := (dg_case hp25).resolve_right (fun h9 => h9.1 c_104_26)
          refine lv_iconst (v := 0) hx hb dX6_readRider_107 (by decide) ?_
          exact r_iretz hC hr hlk hW hQ (⟨by rw [huu25]; exact hf1, Or.inr ⟨rfl, 1, by omega, fun i hi => by have h9 : i = 0 := (by omega); rw [h9]; exact hok0, fun h9 => hno (by rw [hv3]; exact (okC_d (by omega)).mp h9), by rw [huu25]; exact hat1⟩⟩) (rfl) dX6_readRider_108
      · exact absurd c_75_24 (by decide)
