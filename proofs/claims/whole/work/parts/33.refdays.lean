set_option maxRecDepth 100000 in
set_option maxHeartbeats 4000000 in
theorem m_X6_against (l : Launch) (D : va_G) (cs : CS3) (ad : Nat → Nat) (t : St) (b : St) (k : Nat) (la i n : Int32) (hk : k < 4) (hl4 : laneOk b) (hs : shM b t k): CT l yX6_against cX6_against 5 (some .int) (rmk 0 0) (wM cs ad) (tyX cs) D [.ref (ad 0), .int (nI k), .int la, .int i, .int n] t (va_Qi (fun r u => r = focF (b.1 (5 + 2 * k)) (b.1 (6 + 2 * k)) la i n ∧ u = t)) := by
  refine CT.of (own := RX6) (by decide) rfl (Nat.le_of_ble_eq_true rfl) ?_
  intro p9 e9 s m9 args below meth c9 A Q hC hr hlk hW hQ ls hl
  obtain ⟨hx, hb, hml, hown, hts⟩ := id hC
  have hl : lv_has ls 5 [(0, .ref (ad 0)), (1, .int (nI k)), (2, .int la), (3, .int i), (4, .int n)] := hl
  have hsr := srt hk hl4 hs
  refine lv_aload_n hx hb dX6_against_0 rfl (lv_at hl 0 rfl) ?_
  refine gM_sorts hC hW q_fl_RX6_9 dX6_against_1 ?_
  refine lv_iload_n hx hb dX6_against_4 rfl (lv_at hl 1 rfl) ?_
  refine r_ildN (t0 := 0) (j := k) hC hW eM_1 rfl (rfl) (by omega) (by decide) dX6_against_5 ?_
  refine lv_bipush (v := (-9)) hx hb dX6_against_6 (by decide) ?_
  refine lv_icmp_eq (tgt := 23) hx hb dX6_against_8 (by decide) (fun c_8_1 => ?_) (fun c_8_1 => ?_)
  · refine lv_aload_n hx hb dX6_against_23 rfl (lv_at hl 0 rfl) ?_
    refine gM_sorts hC hW q_fl_RX6_9 dX6_against_24 ?_
    refine lv_iload_n hx hb dX6_against_27 rfl (lv_at hl 1 rfl) ?_
    refine r_ildN (t0 := 0) (j := k) hC hW eM_1 rfl (rfl) (by omega) (by decide) dX6_against_28 ?_
    refine lv_bipush (v := (-9)) hx hb dX6_against_29 (by decide) ?_
    refine lv_icmp_ne (tgt := 36) hx hb dX6_against_31 (by decide) (fun c_31_2 => ?_) (fun c_31_2 => ?_)
    · refine lv_iload hx hb dX6_against_36 (lv_at hl 4 rfl) ?_
      refine lv_if_ge (tgt := 43) hx hb dX6_against_38 (by decide) (fun c_38_3 => ?_) (fun c_38_3 => ?_)
      · refine lv_iload_n hx hb dX6_against_43 rfl (lv_at hl 3 rfl) ?_
        refine lv_if_lt (tgt := 70) hx hb dX6_against_44 (by decide) (fun c_44_4 => ?_) (fun c_44_4 => ?_)
        · refine lv_iconst (v := 3) hx hb dX6_against_70 (by decide) ?_
          refine lv_goto (tgt := 75) hx hb dX6_against_71 (by decide) ?_
          exact r_ireti hC hr hlk hW hQ (⟨absurd c_8_1 c_31_2, rfl⟩) dX6_against_75
        · refine lv_iload_n hx hb dX6_against_47 rfl (lv_at hl 3 rfl) ?_
          refine lv_aload_n hx hb dX6_against_48 rfl (lv_at hl 0 rfl) ?_
          refine gM_sheetLong hC hW q_fl_RX6_13 dX6_against_49 ?_
          refine lv_iload_n hx hb dX6_against_52 rfl (lv_at hl 1 rfl) ?_
          refine r_ildN (t0 := 0) (j := k) hC hW eM_2 rfl (rfl) (by omega) (by decide) dX6_against_53 ?_
          refine lv_icmp_gt (tgt := 70) hx hb dX6_against_54 (by decide) (fun c_54_5 => ?_) (fun c_54_5 => ?_)
          · refine lv_iconst (v := 3) hx hb dX6_against_70 (by decide) ?_
            refine lv_goto (tgt := 75) hx hb dX6_against_71 (by decide) ?_
            exact r_ireti hC hr hlk hW hQ (⟨absurd c_8_1 c_31_2, rfl⟩) dX6_against_75
          · refine lv_iload hx hb dX6_against_57 (lv_at hl 4 rfl) ?_
            refine lv_aload_n hx hb dX6_against_59 rfl (lv_at hl 0 rfl) ?_
            refine gM_sheetLong hC hW q_fl_RX6_13 dX6_against_60 ?_
            refine lv_iload_n hx hb dX6_against_63 rfl (lv_at hl 1 rfl) ?_
            refine r_ildN (t0 := 0) (j := k) hC hW eM_2 rfl (rfl) (by omega) (by decide) dX6_against_64 ?_
            refine lv_iload_n hx hb dX6_against_65 rfl (lv_at hl 3 rfl) ?_
            refine lv_isub hx hb dX6_against_66 ?_
            refine lv_icmp_le (tgt := 74) hx hb dX6_against_67 (by decide) (fun c_67_6 => ?_) (fun c_67_6 => ?_)
            · refine lv_iconst (v := 0) hx hb dX6_against_74 (by decide) ?_
              exact r_ireti hC hr hlk hW hQ (⟨absurd c_8_1 c_31_2, rfl⟩) dX6_against_75
            · refine lv_iconst (v := 3) hx hb dX6_against_70 (by decide) ?_
              refine lv_goto (tgt := 75) hx hb dX6_against_71 (by decide) ?_
              exact r_ireti hC hr hlk hW hQ (⟨absurd c_8_1 c_31_2, rfl⟩) dX6_against_75
      · refine lv_iconst (v := 4) hx hb dX6_against_41 (by decide) ?_
        exact r_ireti hC hr hlk hW hQ (⟨absurd c_8_1 c_31_2, rfl⟩) dX6_against_42
    · refine lv_iconst (v := 1) hx hb dX6_against_34 (by decide) ?_
      exact r_ireti hC hr hlk hW hQ (⟨by unfold focF; rw [if_pos (hsr.1.mp c_31_2)], rfl⟩) dX6_against_35
  · refine lv_aload_n hx hb dX6_against_11 rfl (lv_at hl 0 rfl) ?_
    refine gM_sorts hC hW q_fl_RX6_9 dX6_against_12 ?_
    refine lv_iload_n hx hb dX6_against_15 rfl (lv_at hl 1 rfl) ?_
    refine r_ildN (t0 := 0) (j := k) hC hW eM_1 rfl (rfl) (by omega) (by decide) dX6_against_16 ?_
    refine lv_iload_n hx hb dX6_against_17 rfl (lv_at hl 2 rfl) ?_
    refine lv_icmp_eq (tgt := 23) hx hb dX6_against_18 (by decide) (fun c_18_7 => ?_) (fun c_18_7 => ?_)
    · refine lv_aload_n hx hb dX6_against_23 rfl (lv_at hl 0 rfl) ?_
      refine gM_sorts hC hW q_fl_RX6_9 dX6_against_24 ?_
      refine lv_iload_n hx hb dX6_against_27 rfl (lv_at hl 1 rfl) ?_
      refine r_ildN (t0 := 0) (j := k) hC hW eM_1 rfl (rfl) (by omega) (by decide) dX6_against_28 ?_
      refine lv_bipush (v := (-9)) hx hb dX6_against_29 (by decide) ?_
      refine lv_icmp_ne (tgt := 36) hx hb dX6_against_31 (by decide) (fun c_31_8 => ?_) (fun c_31_8 => ?_)
      · refine lv_iload hx hb dX6_against_36 (lv_at hl 4 rfl) ?_
        refine lv_if_ge (tgt := 43) hx hb dX6_against_38 (by decide) (fun c_38_9 => ?_) (fun c_38_9 => ?_)
        · refine lv_iload_n hx hb dX6_against_43 rfl (lv_at hl 3 rfl) ?_
          refine lv_if_lt (tgt := 70) hx hb dX6_against_44 (by decide) (fun c_44_10 => ?_) (fun c_44_10 => ?_)
          · refine lv_iconst (v := 3) hx hb dX6_against_70 (by decide) ?_
            refine lv_goto (tgt := 75) hx hb dX6_against_71 (by decide) ?_
            have hln := (hs.2 (fun h9 => c_31_8 (hsr.1.mpr h9))).1
            exact r_ireti hC hr hlk hW hQ (⟨by unfold focF; rw [if_neg (fun h9 => c_31_8 (hsr.1.mpr h9)), if_neg (not_not_intro ((hsr.2 (fun h9 => c_31_8 (hsr.1.mpr h9))).symm.trans c_18_7)), if_neg (Int32.not_lt.mpr c_38_9), if_neg (fun h9 => Int32.not_lt.mpr h9.1 c_44_10)], rfl⟩) dX6_against_75
          · refine lv_iload_n hx hb dX6_against_47 rfl (lv_at hl 3 rfl) ?_
            refine lv_aload_n hx hb dX6_against_48 rfl (lv_at hl 0 rfl) ?_
            refine gM_sheetLong hC hW q_fl_RX6_13 dX6_against_49 ?_
            refine lv_iload_n hx hb dX6_against_52 rfl (lv_at hl 1 rfl) ?_
            refine r_ildN (t0 := 0) (j := k) hC hW eM_2 rfl (rfl) (by omega) (by decide) dX6_against_53 ?_
            refine lv_icmp_gt (tgt := 70) hx hb dX6_against_54 (by decide) (fun c_54_11 => ?_) (fun c_54_11 => ?_)
            · refine lv_iconst (v := 3) hx hb dX6_against_70 (by decide) ?_
              refine lv_goto (tgt := 75) hx hb dX6_against_71 (by decide) ?_
              have hln := (hs.2 (fun h9 => c_31_8 (hsr.1.mpr h9))).1
              exact r_ireti hC hr hlk hW hQ (⟨by unfold focF; rw [if_neg (fun h9 => c_31_8 (hsr.1.mpr h9)), if_neg (not_not_intro ((hsr.2 (fun h9 => c_31_8 (hsr.1.mpr h9))).symm.trans c_18_7)), if_neg (Int32.not_lt.mpr c_38_9), if_neg (fun h9 => Int32.not_lt.mpr h9.2.1 (by rw [← hln]; exact c_54_11))], rfl⟩) dX6_against_75
            · refine lv_iload hx hb dX6_against_57 (lv_at hl 4 rfl) ?_
              refine lv_aload_n hx hb dX6_against_59 rfl (lv_at hl 0 rfl) ?_
              refine gM_sheetLong hC hW q_fl_RX6_13 dX6_against_60 ?_
              refine lv_iload_n hx hb dX6_against_63 rfl (lv_at hl 1 rfl) ?_
              refine r_ildN (t0 := 0) (j := k) hC hW eM_2 rfl (rfl) (by omega) (by decide) dX6_against_64 ?_
              refine lv_iload_n hx hb dX6_against_65 rfl (lv_at hl 3 rfl) ?_
              refine lv_isub hx hb dX6_against_66 ?_
              refine lv_icmp_le (tgt := 74) hx hb dX6_against_67 (by decide) (fun c_67_12 => ?_) (fun c_67_12 => ?_)
              · refine lv_iconst (v := 0) hx hb dX6_against_74 (by decide) ?_
                have hln := (hs.2 (fun h9 => c_31_8 (hsr.1.mpr h9))).1
                exact r_ireti hC hr hlk hW hQ (⟨by unfold focF; rw [if_neg (fun h9 => c_31_8 (hsr.1.mpr h9)), if_neg (not_not_intro ((hsr.2 (fun h9 => c_31_8 (hsr.1.mpr h9))).symm.trans c_18_7)), if_neg (Int32.not_lt.mpr c_38_9), if_pos ⟨Int32.not_lt.mp c_44_10, by rw [← hln]; exact Int32.not_lt.mp c_54_11, c_38_9, by rw [← hln]; exact c_67_12⟩], rfl⟩) dX6_against_75
              · refine lv_iconst (v := 3) hx hb dX6_against_70 (by decide) ?_
                refine lv_goto (tgt := 75) hx hb dX6_against_71 (by decide) ?_
                have hln := (hs.2 (fun h9 => c_31_8 (hsr.1.mpr h9))).1
                exact r_ireti hC hr hlk hW hQ (⟨by unfold focF; rw [if_neg (fun h9 => c_31_8 (hsr.1.mpr h9)), if_neg (not_not_intro ((hsr.2 (fun h9 => c_31_8 (hsr.1.mpr h9))).symm.trans c_18_7)), if_neg (Int32.not_lt.mpr c_38_9), if_neg (fun h9 => c_67_12 (by rw [hln]; exact h9.2.2.2))], rfl⟩) dX6_against_75
        · refine lv_iconst (v := 4) hx hb dX6_against_41 (by decide) ?_
          exact r_ireti hC hr hlk hW hQ (⟨by unfold focF; rw [if_neg (fun h9 => c_31_8 (hsr.1.mpr h9)), if_neg (not_not_intro ((hsr.2 (fun h9 => c_31_8 (hsr.1.mpr h9))).symm.trans c_18_7)), if_pos (Int32.not_le.mp c_38_9)], rfl⟩) dX6_against_42
      · refine lv_iconst (v := 1) hx hb dX6_against_34 (by decide) ?_
        exact r_ireti hC hr hlk hW hQ (⟨by unfold focF; rw [if_pos (hsr.1.mp c_31_8)], rfl⟩) dX6_against_35
    · refine lv_iconst (v := 2) hx hb dX6_against_21 (by decide) ?_
      exact r_ireti hC hr hlk hW hQ (⟨by unfold focF; rw [if_neg (fun h9 => c_8_1 (hsr.1.mpr h9)), if_pos (fun h9 => c_18_7 ((hsr.2 (fun h8 => c_8_1 (hsr.1.mpr h8))).trans h9))], rfl⟩) dX6_against_22
set_option maxRecDepth 100000 in
set_option maxHeartbeats 4000000 in
theorem m_X6_laySteps (l : Launch) (D : va_G) (cs : CS3) (ad : Nat → Nat) (t : St) (b : St) (R k : Nat) (la i n : Int32) (hk : k < 4) (hl4 : laneOk b) (hlen : lenOk b) (hs : shM b t k) (hR : t.1 3 = nI R) (hR5 : R ≤ 5) (h30 : 0 ≤ n ∧ n ≤ 30) (hf0 : t.1 0 = 0): CT l yX6_laySteps cX6_laySteps 8 (some .int) (rmk 1 24) (wM cs ad) (tyX cs) D [.ref (ad 0), .int (nI k), .int la, .int i, .int n] t (va_Qi (fun r u => r = (lyF b R k la i n).1 ∧ u.1 0 = (lyF b R k la i n).2 ∧ (∀ k, k ≠ 0 → k ≠ 8 → u.1 k = t.1 k) ∧ (∀ k, k ≠ 14 → u.2 k = t.2 k) ∧ (r = 0 → u.1 8 = n ∧ ∀ z, z < n.toNatClampNeg → u.2 14 z = b.2 (15 + 2 * k) (i.toNatClampNeg + z)))) := by
  refine CT.of (own := RX6) (by decide) rfl (Nat.le_of_ble_eq_true rfl) ?_
  intro p9 e9 s m9 args below meth c9 A Q hC hr hlk hW hQ ls hl
  obtain ⟨hx, hb, hml, hown, hts⟩ := id hC
  have hl : lv_has ls 8 [(0, .ref (ad 0)), (1, .int (nI k)), (2, .int la), (3, .int i), (4, .int n)] := hl
  refine lv_aload_n hx hb dX6_laySteps_0 rfl (lv_at hl 0 rfl) ?_
  refine lv_iload_n hx hb dX6_laySteps_1 rfl (lv_at hl 1 rfl) ?_
  refine lv_iload_n hx hb dX6_laySteps_2 rfl (lv_at hl 2 rfl) ?_
  refine lv_iload_n hx hb dX6_laySteps_3 rfl (lv_at hl 3 rfl) ?_
  refine lv_iload hx hb dX6_laySteps_4 (lv_at hl 4 rfl) ?_
  refine fin_i (run_V (rest := []) hC hW (m_X6_against l D cs ad t b k la i n (by omega) hl4 hs) k_yX6_against ⟨rfl, rfl⟩ q_ml_RX6_87 eM_0 rfl rfl hl.1 rfl (Nat.le_of_ble_eq_true rfl) ⟨Nat.le_of_ble_eq_true rfl, Nat.le_of_ble_eq_true rfl⟩ dX6_laySteps_6 ⟨Nat.zero_le _, Nat.zero_le _⟩) hW (fun r1 u1 H locs hp1 hW => ?_)
  have hW := hx_congr hW hp1.2
  refine r_top hp1.1 ?_
  refine lv_istore (lv' := [(5, .int (focF (b.1 (5 + 2 * k)) (b.1 (6 + 2 * k)) la i n)), (0, .ref (ad 0)), (1, .int (nI k)), (2, .int la), (3, .int i), (4, .int n)]) hx hb dX6_laySteps_9 hl (by decide) rfl (fun ls hl => ?_)
  refine lv_iload hx hb dX6_laySteps_11 (lv_at hl 0 rfl) ?_
  refine lv_if_eq (tgt := 23) hx hb dX6_laySteps_13 (by decide) (fun c_13_2 => ?_) (fun c_13_2 => ?_)
  · obtain ⟨z0, hz0, ez0⟩ := hlen k (by omega)
    obtain ⟨i0, n0, rfl, rfl, hi1, hi2, hi3⟩ := foc_ex hz0 (by rw [← ez0]; exact c_13_2)
    have h30n : n0 ≤ 30 := (nI_leI (a := n0) (b := 30) (by omega) (by decide)).mp h30.2
    have hcl := (hs.2 hi3).2
    refine lv_aload_n hx hb dX6_laySteps_23 rfl (lv_at hl 1 rfl) ?_
    refine gM_riders hC hW q_fl_RX6_74 dX6_laySteps_24 ?_
    refine r_top (y := nI R) hR ?_
    refine lv_if_ne (tgt := 33) hx hb dX6_laySteps_27 (by decide) (fun c_27_3 => ?_) (fun c_27_3 => ?_)
    · have c_27_3 : ¬ R = 0 := fun h => c_27_3 ((nI_eq (a := R) (b := 0) (by omega) (by omega)).mpr h)
      refine lv_bipush (v := 60) hx hb dX6_laySteps_33 (by decide) ?_
      refine lv_iload_n hx hb dX6_laySteps_35 rfl (lv_at hl 2 rfl) ?_
      refine lv_imul hx hb dX6_laySteps_36 ?_
      refine r_top (y := nI (60 * k)) (pk_mul 60 k) ?_
      refine lv_iload_n hx hb dX6_laySteps_37 rfl (lv_at hl 4 rfl) ?_
      refine lv_iadd hx hb dX6_laySteps_38 ?_
      refine r_top (y := nI ((60 * k) + i0)) (nI_add (60 * k) i0) ?_
      refine lv_istore (lv' := [(6, .int (nI ((60 * k) + i0))), (5, .int (focF (b.1 (5 + 2 * k)) (b.1 (6 + 2 * k)) la (nI i0) (nI n0))), (0, .ref (ad 0)), (1, .int (nI k)), (2, .int la), (3, .int (nI i0)), (4, .int (nI n0))]) hx hb dX6_laySteps_39 hl (by decide) rfl (fun ls hl => ?_)
      refine lv_iconst (v := 0) hx hb dX6_laySteps_41 (by decide) ?_
      refine lv_istore (lv' := [(7, .int 0), (6, .int (nI ((60 * k) + i0))), (5, .int (focF (b.1 (5 + 2 * k)) (b.1 (6 + 2 * k)) la (nI i0) (nI n0))), (0, .ref (ad 0)), (1, .int (nI k)), (2, .int la), (3, .int (nI i0)), (4, .int (nI n0))]) hx hb dX6_laySteps_42 hl (by decide) rfl (fun ls hl => ?_)
      have loop_44_4 : ∀ (f9 : Nat) (z : Nat) (u : St), (z ≤ n0) → (∀ k, u.1 k = t.1 k) → (∀ k, k ≠ 14 → u.2 k = t.2 k) → (∀ j, j < z → u.2 14 j = b.2 (15 + 2 * k) (i0 + j)) → (stOk R (b.2 (15 + 2 * k)) i0 z) → n0 - z < f9 → ∀ (H : Heap) (locs : List Loc), HX (wM cs ad) (tyX cs) D A s.heap s u H locs → ∀ ls : Array Slot, lv_has ls 8 [(7, .int (nI z)), (6, .int (nI (60 * k + i0))), (0, .ref (ad 0)), (4, .int (nI n0))] → W p9 l e9 (rmk 1 24) s m9 args below meth c9 H locs 0 0 Q (F0 m9 44 ls []) := by
        intro f_44
        induction f_44 with
        | zero => intro z u hz hg1 hg2 hs9 ho hm_44 H locs hW ls hl; exact absurd hm_44 (Nat.not_lt_zero _)
        | succ f_44 ih_44 =>
          intro z u hz hg1 hg2 hs9 ho hm_44 H locs hW ls hl
          refine lv_iload hx hb dX6_laySteps_44 (lv_at hl 0 rfl) ?_
          refine lv_iload hx hb dX6_laySteps_46 (lv_at hl 3 rfl) ?_
          refine lv_icmp_ge (tgt := 107) hx hb dX6_laySteps_48 (by decide) (fun c_48_5 => ?_) (fun c_48_5 => ?_)
          · have c_48_5 : n0 ≤ z := (nI_leI (a := n0) (b := z) (by omega) (by omega)).mp c_48_5
            refine lv_aload_n hx hb dX6_laySteps_107 rfl (lv_at hl 2 rfl) ?_
            refine lv_iload hx hb dX6_laySteps_108 (lv_at hl 3 rfl) ?_
            refine pM_steps hC hW q_fl_RX6_133 dX6_laySteps_110 (fun H locs hW => ?_)
            have hW : HX (wM cs ad) (tyX cs) D A s.heap s (va_up u.1 8 (nI n0), u.2) H locs := hW
            refine lv_iconst (v := 0) hx hb dX6_laySteps_113 (by decide) ?_
            have hF : lyF b R k la (nI i0) (nI n0) = (0, 0) := by unfold lyF; rw [if_neg (not_not_intro c_13_2), if_neg c_27_3, nI_clamp (show i0 < 2 ^ 31 by omega), nI_clamp (show n0 < 2 ^ 31 by omega), if_pos (show stOk R (b.2 (15 + 2 * k)) i0 n0 from by have : z = n0 := (by omega); subst this; exact ho)]
            exact r_ireti hC hr hlk hW hQ (⟨by rw [hF], by rw [hF]; exact (hg1 0).trans hf0, fun k h1 h2 => (va_up_ne _ _ h2).trans (hg1 k), hg2, fun _ => ⟨rfl, fun z9 hz9 => by rw [nI_clamp (by omega)] at hz9; rw [nI_clamp (by omega)]; exact hs9 z9 (by omega)⟩⟩) dX6_laySteps_114
          · have c_48_5 : ¬ n0 ≤ z := fun h => c_48_5 ((nI_leI (a := n0) (b := z) (by omega) (by omega)).mpr h)
            refine lv_aload_n hx hb dX6_laySteps_51 rfl (lv_at hl 2 rfl) ?_
            refine gM_cells hC hW q_fl_RX6_16 dX6_laySteps_52 ?_
            refine lv_iload hx hb dX6_laySteps_55 (lv_at hl 1 rfl) ?_
            refine lv_iload hx hb dX6_laySteps_57 (lv_at hl 0 rfl) ?_
            refine lv_iadd hx hb dX6_laySteps_59 ?_
            refine r_top (y := nI ((60 * k + i0) + z)) (nI_add (60 * k + i0) z) ?_
            refine r_ildN (t0 := 0) (j := (60 * k + i0) + z) hC hW eM_3 rfl (rfl) (by omega) (by decide) dX6_laySteps_60 ?_
            refine r_top (y := b.2 (15 + 2 * k) (i0 + z)) ((congrFun (hg2 3 (by omega)) _).trans ((congrArg (t.2 3) (Nat.add_assoc _ _ _)).trans (hcl (i0 + z) (by omega)))) ?_
            refine lv_iconst (v := 5) hx hb dX6_laySteps_61 (by decide) ?_
            refine lv_icmp_eq (tgt := 84) hx hb dX6_laySteps_62 (by decide) (fun c_62_6 => ?_) (fun c_62_6 => ?_)
            · refine lv_aload_n hx hb dX6_laySteps_84 rfl (lv_at hl 2 rfl) ?_
              refine gM_step hC hW q_fl_RX6_49 dX6_laySteps_85 ?_
              refine lv_iload hx hb dX6_laySteps_88 (lv_at hl 0 rfl) ?_
              refine lv_aload_n hx hb dX6_laySteps_90 rfl (lv_at hl 2 rfl) ?_
              refine gM_cells hC hW q_fl_RX6_16 dX6_laySteps_91 ?_
              refine lv_iload hx hb dX6_laySteps_94 (lv_at hl 1 rfl) ?_
              refine lv_iload hx hb dX6_laySteps_96 (lv_at hl 0 rfl) ?_
              refine lv_iadd hx hb dX6_laySteps_98 ?_
              refine r_top (y := nI ((60 * k + i0) + z)) (nI_add (60 * k + i0) z) ?_
              refine r_ildN (t0 := 0) (j := (60 * k + i0) + z) hC hW eM_3 rfl (rfl) (by omega) (by decide) dX6_laySteps_99 ?_
              refine r_top (y := b.2 (15 + 2 * k) (i0 + z)) ((congrFun (hg2 3 (by omega)) _).trans ((congrArg (t.2 3) (Nat.add_assoc _ _ _)).trans (hcl (i0 + z) (by omega)))) ?_
              refine r_istN (t0 := 0) (j := z) hC hW eM_14 rfl (rfl) (by omega) (by decide) (sM_14 _) dX6_laySteps_100 (fun H locs hW => ?_)
              have hW : HX (wM cs ad) (tyX cs) D A s.heap s (u.1, va_up u.2 14 (upd (u.2 14) z (b.2 (15 + 2 * k) (i0 + z)))) H locs := hW
              refine lv_iinc (v := nI (z + 1)) (lv' := [(7, .int (nI (z + 1))), (6, .int (nI (60 * k + i0))), (0, .ref (ad 0)), (4, .int (nI n0))]) hx hb dX6_laySteps_101 hl (k := 0) rfl (nI_1 _) (by decide) rfl (fun ls hl => ?_)
              refine lv_goto (tgt := 44) hx hb dX6_laySteps_104 (by decide) ?_
              exact ih_44 (z + 1) (u.1, va_up u.2 14 (upd (u.2 14) z (b.2 (15 + 2 * k) (i0 + z)))) (by omega) (hg1) (fun k h => (va_up_ne _ _ h).trans (hg2 k h)) (fun j hj => by show va_up u.2 14 (upd (u.2 14) z _) 14 j = _; rw [va_up_self]; by_cases h9 : j = z; rw [h9]; exact pk_us; rw [pk_un h9]; exact hs9 j (by omega)) (fun j hj => by rcases Nat.lt_succ_iff_lt_or_eq.mp hj with h9 | h9; exact ho j h9; subst h9; exact Or.inl c_62_6) (by omega) _ _ hW ls (lv_sub hl [0, 1, 2, 3] rfl)
            · refine lv_aload_n hx hb dX6_laySteps_65 rfl (lv_at hl 2 rfl) ?_
              refine lv_aload_n hx hb dX6_laySteps_66 rfl (lv_at hl 2 rfl) ?_
              refine gM_cells hC hW q_fl_RX6_16 dX6_laySteps_67 ?_
              refine lv_iload hx hb dX6_laySteps_70 (lv_at hl 1 rfl) ?_
              refine lv_iload hx hb dX6_laySteps_72 (lv_at hl 0 rfl) ?_
              refine lv_iadd hx hb dX6_laySteps_74 ?_
              refine r_top (y := nI ((60 * k + i0) + z)) (nI_add (60 * k + i0) z) ?_
              refine r_ildN (t0 := 0) (j := (60 * k + i0) + z) hC hW eM_3 rfl (rfl) (by omega) (by decide) dX6_laySteps_75 ?_
              refine r_top (y := b.2 (15 + 2 * k) (i0 + z)) ((congrFun (hg2 3 (by omega)) _).trans ((congrArg (t.2 3) (Nat.add_assoc _ _ _)).trans (hcl (i0 + z) (by omega)))) ?_
              refine fin_i (run_V (rest := []) hC hW (m_X6_isRider l D cs ad u R (b.2 (15 + 2 * k) (i0 + z)) ((hg1 3).trans hR)) k_yX6_isRider ⟨rfl, rfl⟩ q_ml_RX6_121 eM_0 rfl rfl hl.1 rfl (Nat.le_of_ble_eq_true rfl) ⟨Nat.le_of_ble_eq_true rfl, Nat.le_of_ble_eq_true rfl⟩ dX6_laySteps_76 ⟨Nat.zero_le _, Nat.zero_le _⟩) hW (fun r7 u7 H locs hp7 hW => ?_)
              have hW := hx_congr hW hp7.2
              refine r_top hp7.1 ?_
              refine lv_if_ne (tgt := 84) hx hb dX6_laySteps_79 (by decide) (fun c_79_8 => ?_) (fun c_79_8 => ?_)
              · have c_79_8 := bI_nz c_79_8
                refine lv_aload_n hx hb dX6_laySteps_84 rfl (lv_at hl 2 rfl) ?_
                refine gM_step hC hW q_fl_RX6_49 dX6_laySteps_85 ?_
                refine lv_iload hx hb dX6_laySteps_88 (lv_at hl 0 rfl) ?_
                refine lv_aload_n hx hb dX6_laySteps_90 rfl (lv_at hl 2 rfl) ?_
                refine gM_cells hC hW q_fl_RX6_16 dX6_laySteps_91 ?_
                refine lv_iload hx hb dX6_laySteps_94 (lv_at hl 1 rfl) ?_
                refine lv_iload hx hb dX6_laySteps_96 (lv_at hl 0 rfl) ?_
                refine lv_iadd hx hb dX6_laySteps_98 ?_
                refine r_top (y := nI ((60 * k + i0) + z)) (nI_add (60 * k + i0) z) ?_
                refine r_ildN (t0 := 0) (j := (60 * k + i0) + z) hC hW eM_3 rfl (rfl) (by omega) (by decide) dX6_laySteps_99 ?_
                refine r_top (y := b.2 (15 + 2 * k) (i0 + z)) ((congrFun (hg2 3 (by omega)) _).trans ((congrArg (t.2 3) (Nat.add_assoc _ _ _)).trans (hcl (i0 + z) (by omega)))) ?_
                refine r_istN (t0 := 0) (j := z) hC hW eM_14 rfl (rfl) (by omega) (by decide) (sM_14 _) dX6_laySteps_100 (fun H locs hW => ?_)
                have hW : HX (wM cs ad) (tyX cs) D A s.heap s (u.1, va_up u.2 14 (upd (u.2 14) z (b.2 (15 + 2 * k) (i0 + z)))) H locs := hW
                refine lv_iinc (v := nI (z + 1)) (lv' := [(7, .int (nI (z + 1))), (6, .int (nI (60 * k + i0))), (0, .ref (ad 0)), (4, .int (nI n0))]) hx hb dX6_laySteps_101 hl (k := 0) rfl (nI_1 _) (by decide) rfl (fun ls hl => ?_)
                refine lv_goto (tgt := 44) hx hb dX6_laySteps_104 (by decide) ?_
                exact ih_44 (z + 1) (u.1, va_up u.2 14 (upd (u.2 14) z (b.2 (15 + 2 * k) (i0 + z)))) (by omega) (hg1) (fun k h => (va_up_ne _ _ h).trans (hg2 k h)) (fun j hj => by show va_up u.2 14 (upd (u.2 14) z _) 14 j = _; rw [va_up_self]; by_cases h9 : j = z; rw [h9]; exact pk_us; rw [pk_un h9]; exact hs9 j (by omega)) (fun j hj => by rcases Nat.lt_succ_iff_lt_or_eq.mp hj with h9 | h9; exact ho j h9; subst h9; exact Or.inr c_79_8) (by omega) _ _ hW ls (lv_sub hl [0, 1, 2, 3] rfl)
              · have c_79_8 := bI_z.mp c_79_8
                refine lv_iconst (v := (-1)) hx hb dX6_laySteps_82 (by decide) ?_
                have hF : lyF b R k la (nI i0) (nI n0) = (-1, 0) := by unfold lyF; rw [if_neg (not_not_intro c_13_2), if_neg c_27_3, nI_clamp (show i0 < 2 ^ 31 by omega), nI_clamp (show n0 < 2 ^ 31 by omega), if_neg (fun h9 => (h9 z (by omega)).elim c_62_6 c_79_8)]
                exact r_ireti hC hr hlk hW hQ (⟨by rw [hF], by rw [hF]; exact (hg1 0).trans hf0, fun k _ _ => hg1 k, hg2, fun h9 => absurd h9 (by decide)⟩) dX6_laySteps_83
      exact loop_44_4 _ 0 t (Nat.zero_le _) (fun _ => rfl) (fun _ _ => rfl) (fun j h => absurd h (by omega)) (fun j h => absurd h (by omega)) (Nat.lt_succ_self _) _ _ hW ls (lv_sub hl [0, 1, 3, 7] rfl)
    · have c_27_3 : R = 0 := (nI_eq (a := R) (b := 0) (by omega) (by omega)).mp c_27_3
      refine lv_bipush (v := (-3)) hx hb dX6_laySteps_30 (by decide) ?_
      have hF : lyF b R k la (nI i0) (nI n0) = (-3, 0) := by unfold lyF; rw [if_neg (not_not_intro c_13_2), if_pos c_27_3]
      exact r_ireti hC hr hlk hW hQ (⟨by rw [hF], by rw [hF]; exact hf0, fun _ _ _ => rfl, fun _ _ => rfl, fun h9 => absurd h9 (by decide)⟩) dX6_laySteps_32
  · refine lv_aload_n hx hb dX6_laySteps_16 rfl (lv_at hl 1 rfl) ?_
    refine lv_iload hx hb dX6_laySteps_17 (lv_at hl 0 rfl) ?_
    refine fin_i (run_V (rest := []) hC hW (m_X6_fails l D cs ad t (focF (b.1 (5 + 2 * k)) (b.1 (6 + 2 * k)) la i n)) k_yX6_fails ⟨rfl, rfl⟩ q_ml_RX6_91 eM_0 rfl rfl hl.1 rfl (Nat.le_of_ble_eq_true rfl) ⟨Nat.le_of_ble_eq_true rfl, Nat.le_of_ble_eq_true rfl⟩ dX6_laySteps_19 ⟨Nat.zero_le _, Nat.zero_le _⟩) hW (fun r9 u9 H locs hp9 hW => ?_)
    have hW : HX (wM cs ad) (tyX cs) D A s.heap s (va_up t.1 0 (focF (b.1 (5 + 2 * k)) (b.1 (6 + 2 * k)) la i n), t.2) H locs := hx_congr hW (hp9.2.trans (rfl))
    refine r_top hp9.1 ?_
    have hF : lyF b R k la i n = ((-10) - focF (b.1 (5 + 2 * k)) (b.1 (6 + 2 * k)) la i n, focF (b.1 (5 + 2 * k)) (b.1 (6 + 2 * k)) la i n) := by unfold lyF; rw [if_pos c_13_2]
    exact r_ireti hC hr hlk hW hQ (⟨by rw [hF], by rw [hF]; rfl, fun k h1 h2 => by simp (disch := omega) only [va_up_ne], fun _ _ => rfl, fun h9 => by rcases foc_r (b.1 (5 + 2 * k)) (b.1 (6 + 2 * k)) la i n with e | e | e | e | e <;> rw [e] at h9 <;> first | exact absurd e c_13_2 | exact absurd h9 (by decide)⟩) dX6_laySteps_22
set_option maxRecDepth 100000 in
set_option maxHeartbeats 4000000 in
theorem m_X6_go (l : Launch) (D : va_G) (cs : CS3) (ad : Nat → Nat) (t : St) (P R : Nat) (stp : Nat → Nat) (n : Nat) (hP : t.1 2 = nI P) (hP8 : P ≤ 8) (hR : t.1 3 = nI R) (hR5 : R ≤ 5) (hn : t.1 8 = nI n) (hn30 : n ≤ 30) (hs : ∀ z, z < n → t.2 14 z = nI (stp z) ∧ (stp z = 5 ∨ stp z < R)) (hcw : CW P (bgM t)): CT l yX6_go cX6_go 2 (some .int) (rmk 2 49) (wM cs ad) (tyX cs) D [.ref (ad 0)] t (va_Qi (fun r u => r = (fw (hM P t) stp n 0 (bgM t)).1 ∧ agrG t u ∧ CE P R (cm u) (fw (hM P t) stp n 0 (bgM t)).2 ∧ ((fw (hM P t) stp n 0 (bgM t)).1 = -9 → u.1 9 = fu (hM P t) stp n 0 (bgM t)))) := by
  refine CT.of (own := RX6) (by decide) rfl (Nat.le_of_ble_eq_true rfl) ?_
  intro p9 e9 s m9 args below meth c9 A Q hC hr hlk hW hQ ls hl
  obtain ⟨hx, hb, hml, hown, hts⟩ := id hC
  have hl : lv_has ls 2 [(0, .ref (ad 0))] := hl
  refine lv_aload_n hx hb dX6_go_0 rfl (lv_at hl 0 rfl) ?_
  refine fin_v (run_V (rest := []) hC hW (m_X6_begin l D cs ad t P R hP hP8 hR hR5) k_yX6_begin ⟨rfl, rfl⟩ q_ml_RX6_136 eM_0 rfl rfl hl.1 rfl (Nat.le_of_ble_eq_true rfl) ⟨Nat.le_of_ble_eq_true rfl, Nat.le_of_ble_eq_true rfl⟩ dX6_go_1 ⟨Nat.zero_le _, Nat.zero_le _⟩) hW (fun u1 H locs hp1 hW => ?_)
  obtain ⟨hgu1, heu1⟩ := hp1
  refine lv_aload_n hx hb dX6_go_4 rfl (lv_at hl 0 rfl) ?_
  refine lv_bipush (v := (-9)) hx hb dX6_go_5 (by decide) ?_
  refine pM_firstUp hC hW q_fl_RX6_139 dX6_go_7 (fun H locs hW => ?_)
  have hW : HX (wM cs ad) (tyX cs) D A s.heap s (va_up u1.1 9 (-9), u1.2) H locs := hW
  refine lv_iconst (v := 0) hx hb dX6_go_10 (by decide) ?_
  refine lv_istore_n (lv' := [(1, .int 0), (0, .ref (ad 0))]) hx hb dX6_go_11 rfl hl (by decide) rfl (fun ls hl => ?_)
  have loop_12_2 : ∀ (f9 : Nat) (k : Nat) (c : Cl) (u : St), (k ≤ n) → (agrG t u) → (CE P R (cm u) c) → (CW P c) → (fw (hM P t) stp (n - k) k c = fw (hM P t) stp n 0 (bgM t)) → (FUi (hM P t) stp n k c (u.1 9) (fu (hM P t) stp n 0 (bgM t))) → n - k < f9 → ∀ (H : Heap) (locs : List Loc), HX (wM cs ad) (tyX cs) D A s.heap s u H locs → ∀ ls : Array Slot, lv_has ls 2 [(1, .int (nI k)), (0, .ref (ad 0))] → W p9 l e9 (rmk 2 49) s m9 args below meth c9 H locs 0 0 Q (F0 m9 12 ls []) := by
    intro f_12
    induction f_12 with
    | zero => intro k c u hk hg hc hcw9 hE hFU hm_12 H locs hW ls hl; exact absurd hm_12 (Nat.not_lt_zero _)
    | succ f_12 ih_12 =>
      intro k c u hk hg hc hcw9 hE hFU hm_12 H locs hW ls hl
      refine lv_iload_n hx hb dX6_go_12 rfl (lv_at hl 0 rfl) ?_
      refine lv_aload_n hx hb dX6_go_13 rfl (lv_at hl 1 rfl) ?_
      refine gM_steps hC hW q_fl_RX6_133 dX6_go_14 ?_
      refine r_top (y := nI n) ((hg.1 8 (by omega) (by omega)).trans hn) ?_
      refine lv_icmp_ge (tgt := 96) hx hb dX6_go_17 (by decide) (fun c_17_3 => ?_) (fun c_17_3 => ?_)
      · have c_17_3 : n ≤ k := (nI_leI (a := n) (b := k) (by omega) (by omega)).mp c_17_3
        refine lv_bipush (v := (-9)) hx hb dX6_go_96 (by decide) ?_
        have hk9 : n - k = 0 := by omega
        have hF : fw (hM P t) stp n 0 (bgM t) = (-9, c) := by rw [← hE, hk9]; rfl
        exact r_ireti hC hr hlk hW hQ (⟨by rw [hF], hg, by rw [hF]; exact hc, fun _ => by rcases hFU with h9 | h9; rw [hk9] at h9; exact h9.1.trans h9.2.2; exact h9.2.1⟩) dX6_go_98
      · have c_17_3 : ¬ n ≤ k := fun h => c_17_3 ((nI_leI (a := n) (b := k) (by omega) (by omega)).mpr h)
        have hsk := (hs k (by omega)).2
        refine lv_aload_n hx hb dX6_go_20 rfl (lv_at hl 1 rfl) ?_
        refine gM_step hC hW q_fl_RX6_49 dX6_go_21 ?_
        refine lv_iload_n hx hb dX6_go_24 rfl (lv_at hl 0 rfl) ?_
        refine r_ildN (t0 := 0) (j := k) hC hW eM_14 rfl (rfl) (by omega) (by decide) dX6_go_25 ?_
        refine r_top (y := nI (stp k)) ((congrFun (hg.2 14 (by omega) (by omega) (by omega)) k).trans (hs k (by omega)).1) ?_
        refine lv_iconst (v := 5) hx hb dX6_go_26 (by decide) ?_
        refine lv_icmp_ne (tgt := 37) hx hb dX6_go_27 (by decide) (fun c_27_4 => ?_) (fun c_27_4 => ?_)
        · have c_27_4 : ¬ (stp k) = 5 := fun h => c_27_4 ((nI_eq (a := stp k) (b := 5) (by omega) (by omega)).mpr h)
          refine lv_aload_n hx hb dX6_go_37 rfl (lv_at hl 1 rfl) ?_
          refine lv_aload_n hx hb dX6_go_38 rfl (lv_at hl 1 rfl) ?_
          refine gM_step hC hW q_fl_RX6_49 dX6_go_39 ?_
          refine lv_iload_n hx hb dX6_go_42 rfl (lv_at hl 0 rfl) ?_
          refine r_ildN (t0 := 0) (j := k) hC hW eM_14 rfl (rfl) (by omega) (by decide) dX6_go_43 ?_
          refine r_top (y := nI (stp k)) ((congrFun (hg.2 14 (by omega) (by omega) (by omega)) k).trans (hs k (by omega)).1) ?_
          refine fin_i (run_V (rest := []) hC hW (m_X6_isUp l D cs ad u (stp k)) k_yX6_isUp ⟨rfl, rfl⟩ q_ml_RX6_145 eM_0 rfl rfl hl.1 rfl (Nat.le_of_ble_eq_true rfl) ⟨Nat.le_of_ble_eq_true rfl, Nat.le_of_ble_eq_true rfl⟩ dX6_go_44 ⟨Nat.zero_le _, Nat.zero_le _⟩) hW (fun r5 u5 H locs hp5 hW => ?_)
          have hW := hx_congr hW hp5.2
          refine r_top hp5.1 ?_
          refine lv_if_eq (tgt := 52) hx hb dX6_go_47 (by decide) (fun c_47_6 => ?_) (fun c_47_6 => ?_)
          · have c_47_6 := bI_z.mp c_47_6
            refine lv_aload_n hx hb dX6_go_52 rfl (lv_at hl 1 rfl) ?_
            refine lv_aload_n hx hb dX6_go_53 rfl (lv_at hl 1 rfl) ?_
            refine gM_step hC hW q_fl_RX6_49 dX6_go_54 ?_
            refine lv_iload_n hx hb dX6_go_57 rfl (lv_at hl 0 rfl) ?_
            refine r_ildN (t0 := 0) (j := k) hC hW eM_14 rfl (rfl) (by omega) (by decide) dX6_go_58 ?_
            refine r_top (y := nI (stp k)) ((congrFun (hg.2 14 (by omega) (by omega) (by omega)) k).trans (hs k (by omega)).1) ?_
            refine fin_v (run_V (rest := []) hC hW (m_X6_tryOnce l D cs ad u P R (stp k) ((hg.1 2 (by omega) (by omega)).trans hP) hP8 ((hg.1 3 (by omega) (by omega)).trans hR) hR5 (by omega)) k_yX6_tryOnce ⟨rfl, rfl⟩ q_ml_RX6_148 eM_0 rfl rfl hl.1 rfl (Nat.le_of_ble_eq_true rfl) ⟨Nat.le_of_ble_eq_true rfl, Nat.le_of_ble_eq_true rfl⟩ dX6_go_59 ⟨Nat.zero_le _, Nat.zero_le _⟩) hW (fun u7 H locs hp7 hW => ?_)
            obtain ⟨hgu7, heu7⟩ := hp7
            refine lv_aload_n hx hb dX6_go_62 rfl (lv_at hl 1 rfl) ?_
            refine lv_aload_n hx hb dX6_go_63 rfl (lv_at hl 1 rfl) ?_
            refine gM_firstUp hC hW q_fl_RX6_139 dX6_go_64 ?_
            refine lv_bipush (v := (-9)) hx hb dX6_go_67 (by decide) ?_
            refine lv_icmp_ne (tgt := 83) hx hb dX6_go_69 (by decide) (fun c_69_8 => ?_) (fun c_69_8 => ?_)
            · refine lv_aload_n hx hb dX6_go_83 rfl (lv_at hl 1 rfl) ?_
              refine gM_firstUp hC hW q_fl_RX6_139 dX6_go_84 ?_
              refine pM_firstUp hC hW q_fl_RX6_139 dX6_go_87 (fun H locs hW => ?_)
              have hW : HX (wM cs ad) (tyX cs) D A s.heap s (va_up u7.1 9 (u7.1 9), u7.2) H locs := hW
              refine lv_iinc (v := nI (k + 1)) (lv' := [(1, .int (nI (k + 1))), (0, .ref (ad 0))]) hx hb dX6_go_90 hl (k := 0) rfl (nI_1 _) (by decide) rfl (fun ls hl => ?_)
              refine lv_goto (tgt := 12) hx hb dX6_go_93 (by decide) ?_
              exact ih_12 (k + 1) (att (hM P t) (stp k) c) (va_up u7.1 9 (u7.1 9), u7.2) (by omega) (hg.tr ⟨fun k h1 h2 => (va_up_ne _ _ h2).trans (hgu7.1 k h1), hgu7.2⟩) (by show CE P R (cm u7) _; rw [heu7, hg.eh]; exact att_ce rfl (show stp k < R by omega) hc) (hcw9.att) (by rw [← hE, show n - k = (n - (k + 1)) + 1 by omega]; show _ = ite _ _ _; rw [if_neg c_27_4, if_neg (show ¬ isup c.2.2.2 (stp k) from by rw [← hc.2.2.2]; exact c_47_6)]) (by show FUi _ _ _ _ _ (u7.1 9) _; rw [hgu7.1 9 (by omega)]; exact FU_a2 (by omega) c_27_4 (show ¬ isup c.2.2.2 (stp k) from by rw [← hc.2.2.2]; exact c_47_6) hFU (Or.inl (fun h8 => c_69_8 ((hgu7.1 9 (by omega)).trans h8)))) (by omega) _ _ hW ls (lv_sub hl [0, 1] rfl)
            · refine lv_aload_n hx hb dX6_go_72 rfl (lv_at hl 1 rfl) ?_
              refine gM_up hC hW q_fl_RX6_130 dX6_go_73 ?_
              refine lv_if_eq (tgt := 83) hx hb dX6_go_76 (by decide) (fun c_76_9 => ?_) (fun c_76_9 => ?_)
              · refine lv_aload_n hx hb dX6_go_83 rfl (lv_at hl 1 rfl) ?_
                refine gM_firstUp hC hW q_fl_RX6_139 dX6_go_84 ?_
                refine pM_firstUp hC hW q_fl_RX6_139 dX6_go_87 (fun H locs hW => ?_)
                have hW : HX (wM cs ad) (tyX cs) D A s.heap s (va_up u7.1 9 (u7.1 9), u7.2) H locs := hW
                refine lv_iinc (v := nI (k + 1)) (lv' := [(1, .int (nI (k + 1))), (0, .ref (ad 0))]) hx hb dX6_go_90 hl (k := 0) rfl (nI_1 _) (by decide) rfl (fun ls hl => ?_)
                refine lv_goto (tgt := 12) hx hb dX6_go_93 (by decide) ?_
                exact ih_12 (k + 1) (att (hM P t) (stp k) c) (va_up u7.1 9 (u7.1 9), u7.2) (by omega) (hg.tr ⟨fun k h1 h2 => (va_up_ne _ _ h2).trans (hgu7.1 k h1), hgu7.2⟩) (by show CE P R (cm u7) _; rw [heu7, hg.eh]; exact att_ce rfl (show stp k < R by omega) hc) (hcw9.att) (by rw [← hE, show n - k = (n - (k + 1)) + 1 by omega]; show _ = ite _ _ _; rw [if_neg c_27_4, if_neg (show ¬ isup c.2.2.2 (stp k) from by rw [← hc.2.2.2]; exact c_47_6)]) (by show FUi _ _ _ _ _ (u7.1 9) _; rw [hgu7.1 9 (by omega)]; exact FU_a2 (by omega) c_27_4 (show ¬ isup c.2.2.2 (stp k) from by rw [← hc.2.2.2]; exact c_47_6) hFU (Or.inr (by rw [(show (att (hM P t) (stp k) c).2.2.2 = u7.1 7 from by have h9 := (att_ce (h := hM P t) rfl (show stp k < R by omega) hc).2.2.2; rw [← hg.eh, ← heu7] at h9; rw [hg.eh] at h9; exact h9.symm)]; exact c_76_9))) (by omega) _ _ hW ls (lv_sub hl [0, 1] rfl)
              · refine lv_iload_n hx hb dX6_go_79 rfl (lv_at hl 0 rfl) ?_
                refine lv_goto (tgt := 87) hx hb dX6_go_80 (by decide) ?_
                refine pM_firstUp hC hW q_fl_RX6_139 dX6_go_87 (fun H locs hW => ?_)
                have hW : HX (wM cs ad) (tyX cs) D A s.heap s (va_up u7.1 9 (nI k), u7.2) H locs := hW
                refine lv_iinc (v := nI (k + 1)) (lv' := [(1, .int (nI (k + 1))), (0, .ref (ad 0))]) hx hb dX6_go_90 hl (k := 0) rfl (nI_1 _) (by decide) rfl (fun ls hl => ?_)
                refine lv_goto (tgt := 12) hx hb dX6_go_93 (by decide) ?_
                exact ih_12 (k + 1) (att (hM P t) (stp k) c) (va_up u7.1 9 (nI k), u7.2) (by omega) (hg.tr ⟨fun k h1 h2 => (va_up_ne _ _ h2).trans (hgu7.1 k h1), hgu7.2⟩) (by show CE P R (cm u7) _; rw [heu7, hg.eh]; exact att_ce rfl (show stp k < R by omega) hc) (hcw9.att) (by rw [← hE, show n - k = (n - (k + 1)) + 1 by omega]; show _ = ite _ _ _; rw [if_neg c_27_4, if_neg (show ¬ isup c.2.2.2 (stp k) from by rw [← hc.2.2.2]; exact c_47_6)]) (FU_a1 (by omega) (by omega) c_27_4 (show ¬ isup c.2.2.2 (stp k) from by rw [← hc.2.2.2]; exact c_47_6) hFU ((hgu7.1 9 (by omega)).symm.trans c_69_8) (by rw [(show (att (hM P t) (stp k) c).2.2.2 = u7.1 7 from by have h9 := (att_ce (h := hM P t) rfl (show stp k < R by omega) hc).2.2.2; rw [← hg.eh, ← heu7] at h9; rw [hg.eh] at h9; exact h9.symm)]; exact c_76_9)) (by omega) _ _ hW ls (lv_sub hl [0, 1] rfl)
          · have c_47_6 := bI_nz c_47_6
            refine lv_iload_n hx hb dX6_go_50 rfl (lv_at hl 0 rfl) ?_
            have hF : fw (hM P t) stp n 0 (bgM t) = (nI k, c) := by rw [← hE, show n - k = (n - (k + 1)) + 1 by omega]; show ite _ _ _ = _; rw [if_neg c_27_4, if_pos (show isup c.2.2.2 (stp k) from by rw [← hc.2.2.2]; exact c_47_6)]
            exact r_ireti hC hr hlk hW hQ (⟨by rw [hF], hg, by rw [hF]; exact hc, fun h9 => by rw [hF] at h9; exact absurd h9 (nI_m9 (by omega))⟩) dX6_go_51
        · have c_27_4 : stp k = 5 := (nI_eq (a := stp k) (b := 5) (by omega) (by omega)).mp c_27_4
          refine lv_aload_n hx hb dX6_go_30 rfl (lv_at hl 1 rfl) ?_
          refine fin_v (run_V (rest := []) hC hW (m_X6_rain l D cs ad u P ((hg.1 2 (by omega) (by omega)).trans hP) hP8 (hc.cw hcw9)) k_yX6_rain ⟨rfl, rfl⟩ q_ml_RX6_142 eM_0 rfl rfl hl.1 rfl (Nat.le_of_ble_eq_true rfl) ⟨Nat.le_of_ble_eq_true rfl, Nat.le_of_ble_eq_true rfl⟩ dX6_go_31 ⟨Nat.zero_le _, Nat.zero_le _⟩) hW (fun u10 H locs hp10 hW => ?_)
          obtain ⟨hgu10, heu10⟩ := hp10
          refine lv_goto (tgt := 90) hx hb dX6_go_34 (by decide) ?_
          refine lv_iinc (v := nI (k + 1)) (lv' := [(1, .int (nI (k + 1))), (0, .ref (ad 0))]) hx hb dX6_go_90 hl (k := 0) rfl (nI_1 _) (by decide) rfl (fun ls hl => ?_)
          refine lv_goto (tgt := 12) hx hb dX6_go_93 (by decide) ?_
          exact ih_12 (k + 1) (rain P c) u10 (by omega) (hg.tr hgu10.g) (by rw [heu10]; exact rain_ce hc) (hcw9.rain) (by rw [← hE, show n - k = (n - (k + 1)) + 1 by omega]; show _ = ite _ _ _; rw [if_pos c_27_4] <;> rfl) (by rw [hgu10.1 9 (by omega)]; exact FU_rain (h := hM P t) (by omega) c_27_4 hFU) (by omega) _ _ hW ls (lv_sub hl [0, 1] rfl)
  exact loop_12_2 _ 0 (bgM t) (va_up u1.1 9 (-9), u1.2) (Nat.zero_le _) (⟨fun k h1 h2 => (va_up_ne _ _ h2).trans (hgu1.1 k h1), hgu1.2⟩) (heu1) (hcw) (rfl) (Or.inl ⟨rfl, rfl, rfl⟩) (Nat.lt_succ_self _) _ _ hW ls (lv_sub hl [0, 1] rfl)
