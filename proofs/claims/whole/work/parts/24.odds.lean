set_option maxRecDepth 100000 in
set_option maxHeartbeats 4000000 in
theorem m_X5_speeds (l : Launch) (D : va_G) (cs : CS3) (ad : Nat → Nat) (t : St) (P R C : Nat) (r x a i n w : Int32) (hB : BW t P R C): CT l yX5_speeds cX5_speeds 12 (some .int) (rmk 5 167) (wX cs ad) (tyX cs) D [.ref (ad 0), .int r, .int x, .int a, .int i, .int n, .int w] t (va_Qi (fun z u => z = (F_speeds t P R C r x a i n w).1 ∧ LA (F_speeds t P R C r x a i n w).2 u)) := by
  refine CT.of (own := RX5) (by decide) rfl (Nat.le_of_ble_eq_true rfl) ?_
  intro p9 e9 s m9 args below meth c9 A Q hC hr hlk hW hQ ls hl
  obtain ⟨hx, hb, hml, hown, hts⟩ := id hC
  have hl : lv_has ls 12 [(0, .ref (ad 0)), (1, .int r), (2, .int x), (3, .int a), (4, .int i), (5, .int n), (6, .int w)] := hl
  obtain ⟨hP, hP8, hR, hR5, hc4, hC8, hlen⟩ := hB
  refine lv_aload_n hx hb dX5_speeds_0 rfl (lv_at hl 0 rfl) ?_
  refine lv_aload_n hx hb dX5_speeds_1 rfl (lv_at hl 0 rfl) ?_
  refine lv_iload_n hx hb dX5_speeds_2 rfl (lv_at hl 1 rfl) ?_
  refine fin_i (run_V (rest := [.ref (ad 0)]) hC hW (m_X5_isRider l D cs ad t R r hR hR5) k_yX5_isRider ⟨rfl, rfl⟩ q_ml_RX5_96 eX_0 rfl rfl hl.1 rfl (Nat.le_of_ble_eq_true rfl) ⟨Nat.le_of_ble_eq_true rfl, Nat.le_of_ble_eq_true rfl⟩ dX5_speeds_3 ⟨Nat.zero_le _, Nat.zero_le _⟩) hW (fun r1 u1 H locs hp1 hW => ?_)
  have hW := hx_congr hW hp1.2
  refine r_top hp1.1 ?_
  refine lv_iload_n hx hb dX5_speeds_6 rfl (lv_at hl 2 rfl) ?_
  refine lv_iload_n hx hb dX5_speeds_7 rfl (lv_at hl 3 rfl) ?_
  refine lv_iload hx hb dX5_speeds_8 (lv_at hl 4 rfl) ?_
  refine lv_iload hx hb dX5_speeds_10 (lv_at hl 5 rfl) ?_
  refine lv_iload hx hb dX5_speeds_12 (lv_at hl 6 rfl) ?_
  refine lv_iconst (v := 0) hx hb dX5_speeds_14 (by decide) ?_
  refine lv_iconst (v := 1) hx hb dX5_speeds_15 (by decide) ?_
  refine fin_pi (run_P (rest := [.int n, .int i, .int a, .int x, .int (bI (inN r R)), .ref (ad 0)]) hC hW.2.2.2.2.2 (m_X5_isIn l w 0 1) k_yX5_isIn ⟨rfl, rfl⟩ q_ml_RX5_86 rfl hl.1 rfl (Nat.le_of_ble_eq_true rfl) ⟨Nat.le_of_ble_eq_true rfl, Nat.le_of_ble_eq_true rfl⟩ dX5_speeds_16 ⟨Nat.zero_le _, Nat.zero_le _⟩) (fun rz9 hr9 => ?_)
  refine r_top hr9 ?_
  refine fin_i (run_V (rest := []) hC hW (m_X5_readSeen l D cs ad t P R (bI (inN r R)) x a i n (bI (0 ≤ w ∧ w ≤ 1)) hP hP8 hR hR5 hlen) k_yX5_readSeen ⟨rfl, rfl⟩ q_ml_RX5_168 eX_0 rfl rfl hl.1 rfl (Nat.le_of_ble_eq_true rfl) ⟨Nat.le_of_ble_eq_true rfl, Nat.le_of_ble_eq_true rfl⟩ dX5_speeds_19 ⟨Nat.zero_le _, Nat.zero_le _⟩) hW (fun r2 u2 H locs hp2 hW => ?_)
  obtain ⟨hru2, hgu2, hau2, hsu2⟩ := hp2
  refine lv_istore (lv' := [(7, .int r2), (0, .ref (ad 0)), (1, .int r), (2, .int x), (3, .int a), (4, .int i), (5, .int n), (6, .int w)]) hx hb dX5_speeds_22 hl (by decide) rfl (fun ls hl => ?_)
  refine lv_iload hx hb dX5_speeds_24 (lv_at hl 0 rfl) ?_
  refine lv_if_eq (tgt := 32) hx hb dX5_speeds_26 (by decide) (fun c_26_3 => ?_) (fun c_26_3 => ?_)
  · have hrz : r2 = 0 := c_26_3
    obtain ⟨hkn, hr0, hrn⟩ := rn0 (hru2.symm.trans hrz)
    have hkn := bI_nz hkn
    obtain ⟨q_r, hq_r, rfl⟩ := inN_ex hkn (by omega)
    rw [hrn] at hgu2
    obtain ⟨k, i0, n0, hk4, rfl, rfl, rfl, hin60, -, hP0, hst, hrs2⟩ := rs0 hlen hr0
    have hla0 : LA (flt t 0) u2 := la_rs (by rw [← hrs2]; exact hgu2) hau2
    have hstp := stp_ok (t := t) hk4 (by omega) hR5 hst
    have hsu : ∀ z, z < n0 → u2.2 12 z = nI (stpF t (nI k) (nI i0) z) ∧ (stpF t (nI k) (nI i0) z = 5 ∨ stpF t (nI k) (nI i0) z < R) := fun z hz => ⟨(hsu2 hrz z (by rw [nI_clamp (by omega)]; exact hz)).trans (by rw [nI_clamp (by omega), nI_clamp (by omega)]; exact (hstp z hz).1), (hstp z hz).2⟩
    have hn30 : n0 ≤ 30 := by obtain ⟨_, _, _, _, _, _, _, _, h7, _⟩ := rs0 hlen hr0; exact (nI_leI (a := n0) (b := 30) (by omega) (by decide)).mp (bI_nz h7).2.2
    refine lv_aload_n hx hb dX5_speeds_32 rfl (lv_at hl 1 rfl) ?_
    refine gX_G_slope hC hW q_fl_RX5_12 dX5_speeds_33 ?_
    refine gX_S_speed hC hW q_fl_RX5_102 dX5_speeds_36 ?_
    refine lv_iload_n hx hb dX5_speeds_39 rfl (lv_at hl 2 rfl) ?_
    refine r_ildN (t0 := 0) (j := q_r) hC hW eX_5 rfl (rfl) (by omega) (by decide) dX5_speeds_40 ?_
    refine lv_istore (lv' := [(8, .int (u2.2 5 q_r)), (7, .int r2), (0, .ref (ad 0)), (1, .int (nI q_r)), (2, .int (nI k)), (3, .int a), (4, .int (nI i0)), (5, .int (nI n0)), (6, .int w)]) hx hb dX5_speeds_41 hl (by decide) rfl (fun ls hl => ?_)
    refine lv_iconst (v := 0) hx hb dX5_speeds_43 (by decide) ?_
    refine lv_istore (lv' := [(9, .int 0), (8, .int (u2.2 5 q_r)), (7, .int r2), (0, .ref (ad 0)), (1, .int (nI q_r)), (2, .int (nI k)), (3, .int a), (4, .int (nI i0)), (5, .int (nI n0)), (6, .int w)]) hx hb dX5_speeds_44 hl (by decide) rfl (fun ls hl => ?_)
    refine lv_bipush (v := (-9)) hx hb dX5_speeds_46 (by decide) ?_
    refine lv_istore (lv' := [(10, .int (-9)), (9, .int 0), (8, .int (u2.2 5 q_r)), (7, .int r2), (0, .ref (ad 0)), (1, .int (nI q_r)), (2, .int (nI k)), (3, .int a), (4, .int (nI i0)), (5, .int (nI n0)), (6, .int w)]) hx hb dX5_speeds_48 hl (by decide) rfl (fun ls hl => ?_)
    refine lv_bipush (v := 99) hx hb dX5_speeds_50 (by decide) ?_
    refine lv_istore (lv' := [(11, .int 99), (10, .int (-9)), (9, .int 0), (8, .int (u2.2 5 q_r)), (7, .int r2), (0, .ref (ad 0)), (1, .int (nI q_r)), (2, .int (nI k)), (3, .int a), (4, .int (nI i0)), (5, .int (nI n0)), (6, .int w)]) hx hb dX5_speeds_52 hl (by decide) rfl (fun ls hl => ?_)
    have loop_54_4 : ∀ (f9 : Nat) (sz : Nat) (c : Int32) (lw : Int32) (x9 : Int32) (u9 : St), (sz ≤ 100) → (agrC 0 (exS u2 5 q_r x9) u9) → (spdD (fun v => bI (seenP P R C (exS t 5 q_r (nI v)) (stpF t (nI k) (nI i0)) n0)) sz c lw = spdD (fun v => bI (seenP P R C (exS t 5 q_r (nI v)) (stpF t (nI k) (nI i0)) n0)) 100 0 (-9)) → sz < f9 → ∀ (H : Heap) (locs : List Loc), HX (wX cs ad) (tyX cs) D A s.heap s u9 H locs → ∀ ls : Array Slot, lv_has ls 12 [(11, .int (nI sz - 1)), (10, .int lw), (9, .int c), (8, .int (u2.2 5 q_r)), (0, .ref (ad 0)), (1, .int (nI q_r)), (5, .int (nI n0)), (6, .int w)] → W p9 l e9 (rmk 5 167) s m9 args below meth c9 H locs 0 0 Q (F0 m9 54 ls []) := by
      intro f_54
      induction f_54 with
      | zero => intro sz c lw x9 u9 hs9 hg hE hm_54 H locs hW ls hl; exact absurd hm_54 (Nat.not_lt_zero _)
      | succ f_54 ih_54 =>
        intro sz c lw x9 u9 hs9 hg hE hm_54 H locs hW ls hl
        refine lv_iload hx hb dX5_speeds_54 (lv_at hl 0 rfl) ?_
        refine lv_if_lt (tgt := 85) hx hb dX5_speeds_56 (by decide) (fun c_56_5 => ?_) (fun c_56_5 => ?_)
        · refine lv_aload_n hx hb dX5_speeds_85 rfl (lv_at hl 4 rfl) ?_
          refine gX_G_slope hC hW q_fl_RX5_12 dX5_speeds_86 ?_
          refine lv_iconst (v := 0) hx hb dX5_speeds_89 (by decide) ?_
          refine lv_iload_n hx hb dX5_speeds_90 rfl (lv_at hl 5 rfl) ?_
          refine lv_iload hx hb dX5_speeds_91 (lv_at hl 3 rfl) ?_
          refine fin_i (run_V (rest := []) hC hW (m_X3_exchange0 l D cs ad u9 q_r (u2.2 5 q_r) (by omega)) k_yX3_exchange ⟨rfl, rfl⟩ q_ml_RX5_108 eX_1 rfl rfl hl.1 rfl (Nat.le_of_ble_eq_true rfl) ⟨Nat.le_of_ble_eq_true rfl, Nat.le_of_ble_eq_true rfl⟩ dX5_speeds_93 ⟨Nat.zero_le _, Nat.zero_le _⟩) hW (fun r6 u6 H locs hp6 hW => ?_)
          have hW := hx_congr hW hp6.2
          refine r_top hp6.1 ?_
          have hW : HX (wX cs ad) (tyX cs) D A s.heap s (u9.1, va_up u9.2 5 (upd (u9.2 5) q_r (u2.2 5 q_r))) H locs := hW
          refine lv_pop hx hb dX5_speeds_96 rfl ?_
          refine lv_iload hx hb dX5_speeds_97 (lv_at hl 7 rfl) ?_
          refine lv_if_ne (tgt := 107) hx hb dX5_speeds_99 (by decide) (fun c_99_7 => ?_) (fun c_99_7 => ?_)
          · refine lv_iload hx hb dX5_speeds_107 (lv_at hl 1 rfl) ?_
            have es0 : sz = 0 := (pred_neg (by omega)).mp c_56_5
            have hEE : spdD (fun v => bI (seenP P R C (exS t 5 q_r (nI v)) (stpF t (nI k) (nI i0)) n0)) 100 0 (-9) = (c, lw) := by rw [← hE, es0]; rfl
            have hfin := exS_agr (by omega) hg (u2.2 5 q_r)
            rw [exS_id] at hfin
            have hF : F_speeds t P R C (nI q_r) (nI k) a (nI i0) (nI n0) w = (lw, flt t 0) := by unfold F_speeds; rw [if_neg (not_not_intro (by rw [hrn]; exact hr0)), nI_clamp (show n0 < 2 ^ 31 by omega), nI_clamp (show q_r < 2 ^ 31 by omega), hEE, if_neg c_99_7]
            exact r_ireti hC hr hlk hW hQ (⟨by rw [hF], by rw [hF]; exact hla0.tr hfin.s.la⟩) dX5_speeds_109
          · refine lv_iload hx hb dX5_speeds_102 (lv_at hl 2 rfl) ?_
            refine lv_goto (tgt := 109) hx hb dX5_speeds_104 (by decide) ?_
            have es0 : sz = 0 := (pred_neg (by omega)).mp c_56_5
            have hEE : spdD (fun v => bI (seenP P R C (exS t 5 q_r (nI v)) (stpF t (nI k) (nI i0)) n0)) 100 0 (-9) = (c, lw) := by rw [← hE, es0]; rfl
            have hfin := exS_agr (by omega) hg (u2.2 5 q_r)
            rw [exS_id] at hfin
            have hF : F_speeds t P R C (nI q_r) (nI k) a (nI i0) (nI n0) w = (c, flt t 0) := by unfold F_speeds; rw [if_neg (not_not_intro (by rw [hrn]; exact hr0)), nI_clamp (show n0 < 2 ^ 31 by omega), nI_clamp (show q_r < 2 ^ 31 by omega), hEE, if_pos c_99_7]
            exact r_ireti hC hr hlk hW hQ (⟨by rw [hF], by rw [hF]; exact hla0.tr hfin.s.la⟩) dX5_speeds_109
        · obtain ⟨s2, rfl⟩ : ∃ s2, sz = s2 + 1 := ⟨sz - 1, by have h9 := mt (pred_neg (by omega)).mpr c_56_5; omega⟩
          rw [nI_pred] at hl
          refine lv_aload_n hx hb dX5_speeds_59 rfl (lv_at hl 4 rfl) ?_
          refine lv_iconst (v := 0) hx hb dX5_speeds_60 (by decide) ?_
          refine lv_iload_n hx hb dX5_speeds_61 rfl (lv_at hl 5 rfl) ?_
          refine lv_iload hx hb dX5_speeds_62 (lv_at hl 0 rfl) ?_
          refine lv_iload hx hb dX5_speeds_64 (lv_at hl 6 rfl) ?_
          refine fin_i (run_V (rest := []) hC hW (m_X5_isSeenWith0 l D cs ad u9 P R C q_r (nI s2) (stpF t (nI k) (nI i0)) n0 ((hg.1 2 (by omega)).trans ((hla0.1 2 (by omega)).trans hP)) hP8 ((hg.1 3 (by omega)).trans ((hla0.1 3 (by omega)).trans hR)) hR5 ((hg.1 4 (by omega)).trans ((hla0.1 4 (by omega)).trans hc4)) hC8 (by omega) hn30 (fun z hz => by rw [hg.2 12 (by omega) (by omega) (by omega)]; exact hsu z hz)) k_yX5_isSeenWith ⟨rfl, rfl⟩ q_ml_RX5_172 eX_0 rfl rfl hl.1 rfl (Nat.le_of_ble_eq_true rfl) ⟨Nat.le_of_ble_eq_true rfl, Nat.le_of_ble_eq_true rfl⟩ dX5_speeds_66 ⟨Nat.zero_le _, Nat.zero_le _⟩) hW (fun r8 u8 H locs hp8 hW => ?_)
          obtain ⟨hru8, hgu8⟩ := hp8
          have hvu8 := exS_agr (by omega) hg (nI s2)
          have hwu8 := hvu8.tr hgu8
          refine r_top (hru8.trans (show _ = bI (seenP P R C (exS t 5 q_r (nI s2)) (stpF t (nI k) (nI i0)) n0) from bI_c ((seenP_agr hvu8).trans (seen_flt hla0)))) ?_
          refine lv_if_eq (tgt := 79) hx hb dX5_speeds_69 (by decide) (fun c_69_9 => ?_) (fun c_69_9 => ?_)
          · have c_69_9 := bI_z.mp c_69_9
            refine lv_iinc (v := nI s2 - 1) (lv' := [(11, .int (nI s2 - 1)), (10, .int lw), (9, .int c), (8, .int (u2.2 5 q_r)), (0, .ref (ad 0)), (1, .int (nI q_r)), (5, .int (nI n0)), (6, .int w)]) hx hb dX5_speeds_79 hl (k := 0) rfl (by rw [Int32.sub_eq_add_neg]; rfl) (by decide) rfl (fun ls hl => ?_)
            refine lv_goto (tgt := 54) hx hb dX5_speeds_82 (by decide) ?_
            exact ih_54 s2 c lw (nI s2) u8 (by omega) (hwu8) (by rw [← hE, spdD, if_pos (bI_z.mpr c_69_9)]) (by omega) _ _ hW ls (lv_sub hl [0, 1, 2, 3, 4, 5, 6, 7] rfl)
          · have c_69_9 := bI_nz c_69_9
            refine lv_iinc (v := c + 1) (lv' := [(9, .int (c + 1)), (11, .int (nI s2)), (10, .int lw), (8, .int (u2.2 5 q_r)), (0, .ref (ad 0)), (1, .int (nI q_r)), (5, .int (nI n0)), (6, .int w)]) hx hb dX5_speeds_72 hl (k := 2) rfl (rfl) (by decide) rfl (fun ls hl => ?_)
            refine lv_iload hx hb dX5_speeds_75 (lv_at hl 1 rfl) ?_
            refine lv_istore (lv' := [(10, .int (nI s2)), (9, .int (c + 1)), (11, .int (nI s2)), (8, .int (u2.2 5 q_r)), (0, .ref (ad 0)), (1, .int (nI q_r)), (5, .int (nI n0)), (6, .int w)]) hx hb dX5_speeds_77 hl (by decide) rfl (fun ls hl => ?_)
            refine lv_iinc (v := nI s2 - 1) (lv' := [(11, .int (nI s2 - 1)), (10, .int (nI s2)), (9, .int (c + 1)), (8, .int (u2.2 5 q_r)), (0, .ref (ad 0)), (1, .int (nI q_r)), (5, .int (nI n0)), (6, .int w)]) hx hb dX5_speeds_79 hl (k := 2) rfl (by rw [Int32.sub_eq_add_neg]; rfl) (by decide) rfl (fun ls hl => ?_)
            refine lv_goto (tgt := 54) hx hb dX5_speeds_82 (by decide) ?_
            exact ih_54 s2 (c + 1) (nI s2) (nI s2) u8 (by omega) (hwu8) (by rw [← hE, spdD, if_neg (fun h9 => bI_z.mp h9 c_69_9)]) (by omega) _ _ hW ls (lv_sub hl [0, 1, 2, 3, 4, 5, 6, 7] rfl)
    exact loop_54_4 _ 100 0 (-9) (u2.2 5 q_r) u2 (Nat.le_refl _) (by rw [exS_id]; exact agrC.rf 0 _) (rfl) (Nat.lt_succ_self _) _ _ hW ls (lv_sub hl [0, 1, 2, 3, 5, 6, 10, 11] rfl)
  · refine lv_iload hx hb dX5_speeds_29 (lv_at hl 0 rfl) ?_
    have hF : F_speeds t P R C r x a i n w = ((rnF t P R (bI (inN r R)) x a i n (bI (0 ≤ w ∧ w ≤ 1))).1, flt t (rnF t P R (bI (inN r R)) x a i n (bI (0 ≤ w ∧ w ≤ 1))).2) := by unfold F_speeds; rw [if_pos (by rw [← hru2]; exact c_26_3)]
    exact r_ireti hC hr hlk hW hQ (⟨by rw [hF]; exact hru2, by rw [hF]; exact la_rs hgu2 hau2⟩) dX5_speeds_31
set_option maxRecDepth 100000 in
set_option maxHeartbeats 4000000 in
theorem m_X5_odds (l : Launch) (D : va_G) (cs : CS3) (ad : Nat → Nat) (t : St) (P R C : Nat) (r x a i n w : Int32) (hB : BW t P R C): CT l yX5_odds cX5_odds 10 (some .long) (rmk 18 867) (wX cs ad) (tyX cs) D [.ref (ad 0), .int r, .int x, .int a, .int i, .int n, .int w] t (va_Ql (fun z u => z = (F_odds t P R r x a i n w).1 ∧ LA (F_odds t P R r x a i n w).2 u)) := by
  refine CT.of (own := RX5) (by decide) rfl (Nat.le_of_ble_eq_true rfl) ?_
  intro p9 e9 s m9 args below meth c9 A Q hC hr hlk hW hQ ls hl
  obtain ⟨hx, hb, hml, hown, hts⟩ := id hC
  have hl : lv_has ls 10 [(0, .ref (ad 0)), (1, .int r), (2, .int x), (3, .int a), (4, .int i), (5, .int n), (6, .int w)] := hl
  obtain ⟨hP, hP8, hR, hR5, hc4, hC8, hlen⟩ := hB
  refine lv_aload_n hx hb dX5_odds_0 rfl (lv_at hl 0 rfl) ?_
  refine lv_iload_n hx hb dX5_odds_1 rfl (lv_at hl 1 rfl) ?_
  refine fin_i (run_V (rest := []) hC hW (m_X5_isRider l D cs ad t R r hR hR5) k_yX5_isRider ⟨rfl, rfl⟩ q_ml_RX5_96 eX_0 rfl rfl hl.1 rfl (Nat.le_of_ble_eq_true rfl) ⟨(by simp only [rmk_f, rmk_w, List.map_nil, List.sum_nil]; omega), (by simp only [rmk_f, rmk_w, List.map_nil, List.sum_nil]; omega)⟩ dX5_odds_2 ⟨Nat.zero_le _, Nat.zero_le _⟩) hW (fun r1 u1 H locs hp1 hW => ?_)
  have hW := hx_congr hW hp1.2
  refine r_top hp1.1 ?_
  refine lv_if_ne (tgt := 17) hx hb dX5_odds_5 (by decide) (fun c_5_2 => ?_) (fun c_5_2 => ?_)
  · have c_5_2 := bI_nz c_5_2
    obtain ⟨q_r, hq_r, rfl⟩ := inN_ex c_5_2 (by omega)
    refine lv_iload hx hb dX5_odds_17 (lv_at hl 5 rfl) ?_
    refine lv_iconst (v := 0) hx hb dX5_odds_19 (by decide) ?_
    refine lv_bipush (v := 10) hx hb dX5_odds_20 (by decide) ?_
    refine fin_pi (run_P (rest := []) hC hW.2.2.2.2.2 (m_X5_isIn l n 0 10) k_yX5_isIn ⟨rfl, rfl⟩ q_ml_RX5_86 rfl hl.1 rfl (Nat.le_of_ble_eq_true rfl) ⟨(by simp only [rmk_f, rmk_w, List.map_nil, List.sum_nil]; omega), (by simp only [rmk_f, rmk_w, List.map_nil, List.sum_nil]; omega)⟩ dX5_odds_22 ⟨Nat.zero_le _, Nat.zero_le _⟩) (fun rz9 hr9 => ?_)
    refine r_top hr9 ?_
    refine lv_if_eq (tgt := 42) hx hb dX5_odds_25 (by decide) (fun c_25_3 => ?_) (fun c_25_3 => ?_)
    · have c_25_3 := bI_z.mp c_25_3
      refine lv_iconst (v := 0) hx hb dX5_odds_42 (by decide) ?_
      refine lv_istore (lv' := [(7, .int 0), (0, .ref (ad 0)), (1, .int (nI q_r)), (2, .int x), (3, .int a), (4, .int i), (5, .int n), (6, .int w)]) hx hb dX5_odds_43 hl (by decide) rfl (fun ls hl => ?_)
      refine lv_aload_n hx hb dX5_odds_45 rfl (lv_at hl 1 rfl) ?_
      refine lv_iload_n hx hb dX5_odds_46 rfl (lv_at hl 3 rfl) ?_
      refine lv_iload_n hx hb dX5_odds_47 rfl (lv_at hl 4 rfl) ?_
      refine lv_iload hx hb dX5_odds_48 (lv_at hl 5 rfl) ?_
      refine lv_iload hx hb dX5_odds_50 (lv_at hl 6 rfl) ?_
      refine lv_iload hx hb dX5_odds_52 (lv_at hl 0 rfl) ?_
      have hbI : bI (odP n w) = 0 := (bI_f (fun h9 => c_25_3 h9.1)).symm
      refine fin_i (run_V (rest := []) hC hW (m_X5_readSteps l D cs ad t P R x a i n 0 hP (by omega) hR (by omega) hlen (fun h => absurd rfl h)) k_yX5_readSteps ⟨rfl, rfl⟩ q_ml_RX5_115 eX_0 rfl rfl hl.1 rfl (Nat.le_of_ble_eq_true rfl) ⟨(by simp only [rmk_f, rmk_w, List.map_nil, List.sum_nil]; omega), (by simp only [rmk_f, rmk_w, List.map_nil, List.sum_nil]; omega)⟩ dX5_odds_54 ⟨Nat.zero_le _, Nat.zero_le _⟩) hW (fun r4 u4 H locs hp4 hW => ?_)
      obtain ⟨hru4, hgu4, hau4, hsu4⟩ := hp4
      refine lv_if_eq (tgt := 64) hx hb dX5_odds_57 (by decide) (fun c_57_5 => ?_) (fun c_57_5 => ?_)
      · exfalso
        have h8 := hru4.symm.trans c_57_5
        obtain ⟨_, _, _, _, _, _, _, _, h7, _⟩ := rs0 hlen h8
        exact h7 rfl
      · refine lv_ldc2 hx hb hown (hts _ q_k_RX5_180) dX5_odds_60 ?_
        have hF : F_odds t P R (nI q_r) x a i n w = (LOSTv, flt t (rsF t P R x a i n 0).2) := by unfold F_odds; rw [if_pos c_5_2, hbI, if_pos (by rw [← hru4]; exact c_57_5)]
        exact r_lret hC hr hlk hW hQ (⟨by rw [hF]; rfl, by rw [hF]; exact la_rs hgu4 hau4⟩) dX5_odds_63
    · have c_25_3 := bI_nz c_25_3
      refine lv_iload hx hb dX5_odds_28 (lv_at hl 6 rfl) ?_
      refine lv_iconst (v := 0) hx hb dX5_odds_30 (by decide) ?_
      refine lv_iconst (v := 1) hx hb dX5_odds_31 (by decide) ?_
      refine fin_pi (run_P (rest := []) hC hW.2.2.2.2.2 (m_X5_isIn l w 0 1) k_yX5_isIn ⟨rfl, rfl⟩ q_ml_RX5_86 rfl hl.1 rfl (Nat.le_of_ble_eq_true rfl) ⟨(by simp only [rmk_f, rmk_w, List.map_nil, List.sum_nil]; omega), (by simp only [rmk_f, rmk_w, List.map_nil, List.sum_nil]; omega)⟩ dX5_odds_32 ⟨Nat.zero_le _, Nat.zero_le _⟩) (fun rz9 hr9 => ?_)
      refine r_top hr9 ?_
      refine lv_if_eq (tgt := 42) hx hb dX5_odds_35 (by decide) (fun c_35_6 => ?_) (fun c_35_6 => ?_)
      · have c_35_6 := bI_z.mp c_35_6
        refine lv_iconst (v := 0) hx hb dX5_odds_42 (by decide) ?_
        refine lv_istore (lv' := [(7, .int 0), (0, .ref (ad 0)), (1, .int (nI q_r)), (2, .int x), (3, .int a), (4, .int i), (5, .int n), (6, .int w)]) hx hb dX5_odds_43 hl (by decide) rfl (fun ls hl => ?_)
        refine lv_aload_n hx hb dX5_odds_45 rfl (lv_at hl 1 rfl) ?_
        refine lv_iload_n hx hb dX5_odds_46 rfl (lv_at hl 3 rfl) ?_
        refine lv_iload_n hx hb dX5_odds_47 rfl (lv_at hl 4 rfl) ?_
        refine lv_iload hx hb dX5_odds_48 (lv_at hl 5 rfl) ?_
        refine lv_iload hx hb dX5_odds_50 (lv_at hl 6 rfl) ?_
        refine lv_iload hx hb dX5_odds_52 (lv_at hl 0 rfl) ?_
        have hbI : bI (odP n w) = 0 := (bI_f (fun h9 => c_35_6 h9.2)).symm
        refine fin_i (run_V (rest := []) hC hW (m_X5_readSteps l D cs ad t P R x a i n 0 hP (by omega) hR (by omega) hlen (fun h => absurd rfl h)) k_yX5_readSteps ⟨rfl, rfl⟩ q_ml_RX5_115 eX_0 rfl rfl hl.1 rfl (Nat.le_of_ble_eq_true rfl) ⟨(by simp only [rmk_f, rmk_w, List.map_nil, List.sum_nil]; omega), (by simp only [rmk_f, rmk_w, List.map_nil, List.sum_nil]; omega)⟩ dX5_odds_54 ⟨Nat.zero_le _, Nat.zero_le _⟩) hW (fun r7 u7 H locs hp7 hW => ?_)
        obtain ⟨hru7, hgu7, hau7, hsu7⟩ := hp7
        refine lv_if_eq (tgt := 64) hx hb dX5_odds_57 (by decide) (fun c_57_8 => ?_) (fun c_57_8 => ?_)
        · exfalso
          have h8 := hru7.symm.trans c_57_8
          obtain ⟨_, _, _, _, _, _, _, _, h7, _⟩ := rs0 hlen h8
          exact h7 rfl
        · refine lv_ldc2 hx hb hown (hts _ q_k_RX5_180) dX5_odds_60 ?_
          have hF : F_odds t P R (nI q_r) x a i n w = (LOSTv, flt t (rsF t P R x a i n 0).2) := by unfold F_odds; rw [if_pos c_5_2, hbI, if_pos (by rw [← hru7]; exact c_57_8)]
          exact r_lret hC hr hlk hW hQ (⟨by rw [hF]; rfl, by rw [hF]; exact la_rs hgu7 hau7⟩) dX5_odds_63
      · have c_35_6 := bI_nz c_35_6
        refine lv_iconst (v := 1) hx hb dX5_odds_38 (by decide) ?_
        refine lv_goto (tgt := 43) hx hb dX5_odds_39 (by decide) ?_
        refine lv_istore (lv' := [(7, .int 1), (0, .ref (ad 0)), (1, .int (nI q_r)), (2, .int x), (3, .int a), (4, .int i), (5, .int n), (6, .int w)]) hx hb dX5_odds_43 hl (by decide) rfl (fun ls hl => ?_)
        refine lv_aload_n hx hb dX5_odds_45 rfl (lv_at hl 1 rfl) ?_
        refine lv_iload_n hx hb dX5_odds_46 rfl (lv_at hl 3 rfl) ?_
        refine lv_iload_n hx hb dX5_odds_47 rfl (lv_at hl 4 rfl) ?_
        refine lv_iload hx hb dX5_odds_48 (lv_at hl 5 rfl) ?_
        refine lv_iload hx hb dX5_odds_50 (lv_at hl 6 rfl) ?_
        refine lv_iload hx hb dX5_odds_52 (lv_at hl 0 rfl) ?_
        have hbI : bI (odP n w) = 1 := (bI_t ⟨c_25_3, c_35_6⟩).symm
        refine fin_i (run_V (rest := []) hC hW (m_X5_readSteps l D cs ad t P R x a i n 1 hP (by omega) hR (by omega) hlen (fun _ => ⟨c_25_3.1, Int32.le_trans c_25_3.2 (by decide)⟩)) k_yX5_readSteps ⟨rfl, rfl⟩ q_ml_RX5_115 eX_0 rfl rfl hl.1 rfl (Nat.le_of_ble_eq_true rfl) ⟨(by simp only [rmk_f, rmk_w, List.map_nil, List.sum_nil]; omega), (by simp only [rmk_f, rmk_w, List.map_nil, List.sum_nil]; omega)⟩ dX5_odds_54 ⟨Nat.zero_le _, Nat.zero_le _⟩) hW (fun r9 u9 H locs hp9 hW => ?_)
        obtain ⟨hru9, hgu9, hau9, hsu9⟩ := hp9
        refine lv_if_eq (tgt := 64) hx hb dX5_odds_57 (by decide) (fun c_57_10 => ?_) (fun c_57_10 => ?_)
        · have hrz : r9 = 0 := c_57_10
          have hr0 := hru9.symm.trans hrz
          obtain ⟨k, i0, n0, hk4, rfl, rfl, rfl, hin60, -, hP0, hst, hrs2⟩ := rs0 hlen hr0
          have hla0 : LA (flt t 0) u9 := la_rs (by rw [← hrs2]; exact hgu9) hau9
          have hstp := stp_ok (t := t) hk4 (by omega) hR5 hst
          have hsu : ∀ z, z < n0 → u9.2 12 z = nI (stpF t (nI k) (nI i0) z) ∧ (stpF t (nI k) (nI i0) z = 5 ∨ stpF t (nI k) (nI i0) z < R) := fun z hz => ⟨(hsu9 hrz z (by rw [nI_clamp (by omega)]; exact hz)).trans (by rw [nI_clamp (by omega), nI_clamp (by omega)]; exact (hstp z hz).1), (hstp z hz).2⟩
          have hn10 : n0 ≤ 10 := (nI_leI (a := n0) (b := 10) (by omega) (by decide)).mp c_25_3.2
          refine lv_aload_n hx hb dX5_odds_64 rfl (lv_at hl 1 rfl) ?_
          refine gX_G_climbs hC hW q_fl_RX5_34 dX5_odds_65 ?_
          refine lv_iconst (v := 0) hx hb dX5_odds_68 (by decide) ?_
          refine r_aldN (t0 := 2) (j := 0) hC hW eX_11 rfl rfl (by omega) (by decide) rfl dX5_odds_69 ?_
          refine fin_v (run_V (rest := []) hC hW (m_X0_begin l D cs ad u9 0 (by omega)) k_yX0_begin ⟨rfl, rfl⟩ q_ml_RX5_149 (eX_C 0 (by omega)) rfl rfl hl.1 rfl (Nat.le_of_ble_eq_true rfl) ⟨(by simp only [rmk_f, rmk_w, List.map_nil, List.sum_nil]; omega), (by simp only [rmk_f, rmk_w, List.map_nil, List.sum_nil]; omega)⟩ dX5_odds_70 ⟨Nat.zero_le _, Nat.zero_le _⟩) hW (fun u11 H locs hp11 hW => ?_)
          obtain ⟨hgu11, heu11⟩ := hp11
          refine lv_aload_n hx hb dX5_odds_73 rfl (lv_at hl 1 rfl) ?_
          refine gX_G_climbs hC hW q_fl_RX5_34 dX5_odds_74 ?_
          refine lv_aload_n hx hb dX5_odds_77 rfl (lv_at hl 1 rfl) ?_
          refine gX_G_steps hC hW q_fl_RX5_41 dX5_odds_78 ?_
          refine lv_iload_n hx hb dX5_odds_81 rfl (lv_at hl 2 rfl) ?_
          refine lv_iconst (v := 0) hx hb dX5_odds_82 (by decide) ?_
          refine lv_iload hx hb dX5_odds_83 (lv_at hl 6 rfl) ?_
          refine fin_i (run_S (rest := []) hC hW (m_X5_weathersUp l D cs ad P R q_r (stpF t (nI k) (nI i0)) hP8 hR5 (by omega) n0 u11 0 n0 ((hgu11.1 2 (by omega)).trans ((congrFun hgu9 2).trans hP)) ((hgu11.1 3 (by omega)).trans ((congrFun hgu9 3).trans hR)) (by omega) (by omega) (fun z hz => by rw [hgu11.2 12 (by omega) (by omega) (by omega)]; exact hsu z hz)) k_yX5_weathersUp ⟨rfl, rfl⟩ q_ml_RX5_182 rfl hl.1 rfl (Nat.le_of_ble_eq_true rfl) ⟨(by simp only [rmk_f, rmk_w, List.map_nil, List.sum_nil]; omega), (by simp only [rmk_f, rmk_w, List.map_nil, List.sum_nil]; omega)⟩ dX5_odds_85 ⟨Nat.zero_le _, Nat.zero_le _⟩) hW (fun r12 u12 H locs hp12 hW => ?_)
          obtain ⟨hru12, hgu12⟩ := hp12
          have hla1 : LA (flt t 0) u12 := hla0.tr (hgu11.s.tr hgu12.s).la
          refine r_top (hru12.trans (show _ = nI (wup (hX P t) (stpF t (nI k) (nI i0)) q_r n0 0 (beg t)) by rw [hgu11.eh, heu11, show hX P u9 = hX P t from hla0.eh, show beg u9 = beg t from hla0.eb])) ?_
          refine lv_istore (lv' := [(8, .int (nI (wup (hX P t) (stpF t (nI k) (nI i0)) q_r n0 0 (beg t)))), (7, .int 1), (0, .ref (ad 0)), (1, .int (nI q_r)), (2, .int (nI k)), (3, .int a), (4, .int (nI i0)), (5, .int (nI n0)), (6, .int w)]) hx hb dX5_odds_88 hl (by decide) rfl (fun ls hl => ?_)
          refine lv_iload hx hb dX5_odds_90 (lv_at hl 7 rfl) ?_
          refine lv_iload hx hb dX5_odds_92 (lv_at hl 0 rfl) ?_
          refine fin_pi (run_P (rest := [.int (nI n0)]) hC hW.2.2.2.2.2 (m_J6_numberOfTrailingZeros_0f7a4 l (nI (wup (hX P t) (stpF t (nI k) (nI i0)) q_r n0 0 (beg t)))) k_yJ6_numberOfTrailingZeros_0f7a4 ⟨rfl, rfl⟩ q_ml_RX5_186 rfl hl.1 rfl (Nat.le_of_ble_eq_true rfl) ⟨(by simp only [rmk_f, rmk_w, List.map_nil, List.sum_nil]; omega), (by simp only [rmk_f, rmk_w, List.map_nil, List.sum_nil]; omega)⟩ dX5_odds_94 ⟨Nat.zero_le _, Nat.zero_le _⟩) (fun rz9 hr9 => ?_)
          refine r_top hr9 ?_
          refine r_min hC hl.1 q_ml_RX5_189 ⟨(by simp only [rmk_f, rmk_w, List.map_nil, List.sum_nil]; omega), (by simp only [rmk_f, rmk_w, List.map_nil, List.sum_nil]; omega)⟩ ⟨Nat.zero_le _, Nat.zero_le _⟩ dX5_odds_97 ?_
          refine r_top (y := oddS n0 (wup (hX P t) (stpF t (nI k) (nI i0)) q_r n0 0 (beg t))) rfl ?_
          refine lv_istore (lv' := [(9, .int (oddS n0 (wup (hX P t) (stpF t (nI k) (nI i0)) q_r n0 0 (beg t)))), (8, .int (nI (wup (hX P t) (stpF t (nI k) (nI i0)) q_r n0 0 (beg t)))), (7, .int 1), (0, .ref (ad 0)), (1, .int (nI q_r)), (2, .int (nI k)), (3, .int a), (4, .int (nI i0)), (5, .int (nI n0)), (6, .int w)]) hx hb dX5_odds_100 hl (by decide) rfl (fun ls hl => ?_)
          refine lv_iload hx hb dX5_odds_102 (lv_at hl 9 rfl) ?_
          refine lv_if_ne (tgt := 116) hx hb dX5_odds_104 (by decide) (fun c_104_13 => ?_) (fun c_104_13 => ?_)
          · refine lv_iconst (v := 1) hx hb dX5_odds_116 (by decide) ?_
            refine lv_iload hx hb dX5_odds_117 (lv_at hl 8 rfl) ?_
            refine lv_ishl hx hb dX5_odds_119 ?_
            refine lv_iload hx hb dX5_odds_120 (lv_at hl 0 rfl) ?_
            refine lv_ishr hx hb dX5_odds_122 ?_
            refine lv_i2l (v := ((1 <<< ((nI n0) &&& 31)) >>> ((oddS n0 (wup (hX P t) (stpF t (nI k) (nI i0)) q_r n0 0 (beg t))) &&& 31)).toInt64) hx hb dX5_odds_123 rfl ?_
            have hF : F_odds t P R (nI q_r) (nI k) a (nI i0) (nI n0) w = (((1 <<< ((nI n0) &&& 31)) >>> ((oddS n0 (wup (hX P t) (stpF t (nI k) (nI i0)) q_r n0 0 (beg t))) &&& 31)).toInt64, flt t 0) := by unfold F_odds; rw [if_pos c_5_2, hbI, if_neg (not_not_intro hr0), nI_clamp (show n0 < 2 ^ 31 by omega), nI_clamp (show q_r < 2 ^ 31 by omega), if_neg c_104_13]
            exact r_lret hC hr hlk hW hQ (⟨by rw [hF], by rw [hF]; exact hla1⟩) dX5_odds_124
          · refine lv_iload hx hb dX5_odds_107 (lv_at hl 1 rfl) ?_
            refine lv_iload hx hb dX5_odds_109 (lv_at hl 0 rfl) ?_
            refine lv_ishr hx hb dX5_odds_111 ?_
            refine lv_i2l (v := ((nI (wup (hX P t) (stpF t (nI k) (nI i0)) q_r n0 0 (beg t))) >>> ((oddS n0 (wup (hX P t) (stpF t (nI k) (nI i0)) q_r n0 0 (beg t))) &&& 31)).toInt64) hx hb dX5_odds_112 rfl ?_
            refine lv_goto (tgt := 124) hx hb dX5_odds_113 (by decide) ?_
            have hF : F_odds t P R (nI q_r) (nI k) a (nI i0) (nI n0) w = (((nI (wup (hX P t) (stpF t (nI k) (nI i0)) q_r n0 0 (beg t))) >>> ((oddS n0 (wup (hX P t) (stpF t (nI k) (nI i0)) q_r n0 0 (beg t))) &&& 31)).toInt64, flt t 0) := by unfold F_odds; rw [if_pos c_5_2, hbI, if_neg (not_not_intro hr0), nI_clamp (show n0 < 2 ^ 31 by omega), nI_clamp (show q_r < 2 ^ 31 by omega), if_pos c_104_13]
            exact r_lret hC hr hlk hW hQ (⟨by rw [hF], by rw [hF]; exact hla1⟩) dX5_odds_124
        · refine lv_ldc2 hx hb hown (hts _ q_k_RX5_180) dX5_odds_60 ?_
          have hF : F_odds t P R (nI q_r) x a i n w = (LOSTv, flt t (rsF t P R x a i n 1).2) := by unfold F_odds; rw [if_pos c_5_2, hbI, if_pos (by rw [← hru9]; exact c_57_10)]
          exact r_lret hC hr hlk hW hQ (⟨by rw [hF]; rfl, by rw [hF]; exact la_rs hgu9 hau9⟩) dX5_odds_63
  · have c_5_2 := bI_z.mp c_5_2
    refine lv_aload_n hx hb dX5_odds_8 rfl (lv_at hl 0 rfl) ?_
    refine lv_iconst (v := 0) hx hb dX5_odds_9 (by decide) ?_
    refine pX_G_fault hC hW q_fl_RX5_48 dX5_odds_10 (fun H locs hW => ?_)
    have hW : HX (wX cs ad) (tyX cs) D A s.heap s (va_up t.1 1 0, t.2) H locs := hW
    refine lv_ldc2 hx hb hown (hts _ q_k_RX5_180) dX5_odds_13 ?_
    have hF : F_odds t P R r x a i n w = (LOSTv, flt t 0) := by unfold F_odds; rw [if_neg c_5_2]
    exact r_lret hC hr hlk hW hQ (⟨by rw [hF]; rfl, by rw [hF]; exact LA.rf _⟩) dX5_odds_16
