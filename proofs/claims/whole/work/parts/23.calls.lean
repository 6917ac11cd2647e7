set_option maxRecDepth 100000 in
set_option maxHeartbeats 4000000 in
theorem m_X5_worth (l : Launch) (D : va_G) (cs : CS3) (ad : Nat → Nat) (t : St) (P R C : Nat) (r : Int32) (hB : BW t P R C): CT l yX5_worth cX5_worth 2 (some .int) (rmk 4 145) (wX cs ad) (tyX cs) D [.ref (ad 0), .int r] t (va_Qi (fun z u => z = (F_worth t P R r).1 ∧ LA (F_worth t P R r).2 u)) := by
  refine CT.of (own := RX5) (by decide) rfl (Nat.le_of_ble_eq_true rfl) ?_
  intro p9 e9 s m9 args below meth c9 A Q hC hr hlk hW hQ ls hl
  obtain ⟨hx, hb, hml, hown, hts⟩ := id hC
  have hl : lv_has ls 2 [(0, .ref (ad 0)), (1, .int r)] := hl
  obtain ⟨hP, hP8, hR, hR5, hc4, hC8, hlen⟩ := hB
  refine lv_aload_n hx hb dX5_worth_0 rfl (lv_at hl 0 rfl) ?_
  refine lv_iload_n hx hb dX5_worth_1 rfl (lv_at hl 1 rfl) ?_
  refine fin_i (run_V (rest := []) hC hW (m_X5_isRider l D cs ad t R r hR hR5) k_yX5_isRider ⟨rfl, rfl⟩ q_ml_RX5_96 eX_0 rfl rfl hl.1 rfl (Nat.le_of_ble_eq_true rfl) ⟨Nat.le_of_ble_eq_true rfl, Nat.le_of_ble_eq_true rfl⟩ dX5_worth_2 ⟨Nat.zero_le _, Nat.zero_le _⟩) hW (fun r1 u1 H locs hp1 hW => ?_)
  have hW := hx_congr hW hp1.2
  refine r_top hp1.1 ?_
  refine lv_if_ne (tgt := 10) hx hb dX5_worth_5 (by decide) (fun c_5_2 => ?_) (fun c_5_2 => ?_)
  · have c_5_2 := bI_nz c_5_2
    obtain ⟨q_r, hq_r, rfl⟩ := inN_ex c_5_2 (by omega)
    refine lv_bipush (v := 100) hx hb dX5_worth_10 (by decide) ?_
    refine lv_aload_n hx hb dX5_worth_12 rfl (lv_at hl 0 rfl) ?_
    refine lv_iload_n hx hb dX5_worth_13 rfl (lv_at hl 1 rfl) ?_
    refine lv_iconst (v := 1) hx hb dX5_worth_14 (by decide) ?_
    refine fin_i (run_V (rest := [.int 100]) hC hW (m_X5_heightsOfOthers1 l D cs ad t P R q_r hP hP8 hR hR5 (by omega)) k_yX5_heightsOfOthers ⟨rfl, rfl⟩ q_ml_RX5_156 eX_0 rfl rfl hl.1 rfl (Nat.le_of_ble_eq_true rfl) ⟨Nat.le_of_ble_eq_true rfl, Nat.le_of_ble_eq_true rfl⟩ dX5_worth_15 ⟨Nat.zero_le _, Nat.zero_le _⟩) hW (fun r3 u3 H locs hp3 hW => ?_)
    obtain ⟨hru3, hgu3⟩ := hp3
    refine r_top hru3 ?_
    refine lv_iadd hx hb dX5_worth_18 ?_
    refine lv_aload_n hx hb dX5_worth_19 rfl (lv_at hl 0 rfl) ?_
    refine lv_iload_n hx hb dX5_worth_20 rfl (lv_at hl 1 rfl) ?_
    refine lv_iconst (v := 0) hx hb dX5_worth_21 (by decide) ?_
    refine fin_i (run_V (rest := [.int (100 + hoF (hX P t) R q_r true R 0 (beg t) 0)]) hC hW (m_X5_heightsOfOthers0 l D cs ad u3 P R q_r ((hgu3.1 2 (by omega)).trans hP) hP8 ((hgu3.1 3 (by omega)).trans hR) hR5 (by omega)) k_yX5_heightsOfOthers ⟨rfl, rfl⟩ q_ml_RX5_156 eX_0 rfl rfl hl.1 rfl (Nat.le_of_ble_eq_true rfl) ⟨Nat.le_of_ble_eq_true rfl, Nat.le_of_ble_eq_true rfl⟩ dX5_worth_22 ⟨Nat.zero_le _, Nat.zero_le _⟩) hW (fun r4 u4 H locs hp4 hW => ?_)
    obtain ⟨hru4, hgu4⟩ := hp4
    refine r_top hru4 ?_
    refine lv_isub hx hb dX5_worth_25 ?_
    have hla : LA t u4 := (hgu3.s.tr hgu4.s).la
    refine r_top (y := 100 + hoF (hX P t) R q_r true R 0 (beg t) 0 - hoF (hX P t) R q_r false R 0 (beg t) 0) (by rw [hgu3.eh, hgu3.eb]) ?_
    have hF : F_worth t P R (nI q_r) = (100 + hoF (hX P t) R q_r true R 0 (beg t) 0 - hoF (hX P t) R q_r false R 0 (beg t) 0, t) := by unfold F_worth; rw [if_pos c_5_2, nI_clamp (show q_r < 2 ^ 31 by omega)] <;> (try rw [nI_clamp (show q_r < 2 ^ 31 by omega)]) <;> (try rfl)
    exact r_ireti hC hr hlk hW hQ (⟨by rw [hF], by rw [hF]; exact hla⟩) dX5_worth_26
  · have c_5_2 := bI_z.mp c_5_2
    refine lv_iconst (v := (-1)) hx hb dX5_worth_8 (by decide) ?_
    have hF : F_worth t P R r = ((-1), t) := by unfold F_worth; rw [if_neg c_5_2]  <;> (try rfl)
    exact r_ireti hC hr hlk hW hQ (⟨by rw [hF], by rw [hF]; exact LA.rf _⟩) dX5_worth_9
set_option maxRecDepth 100000 in
set_option maxHeartbeats 4000000 in
theorem m_X5_days (l : Launch) (D : va_G) (cs : CS3) (ad : Nat → Nat) (t : St) (P R C : Nat) (x a i n w : Int32) (hB : BW t P R C): CT l yX5_days cX5_days 9 (some .int) (rmk 5 143) (wX cs ad) (tyX cs) D [.ref (ad 0), .int x, .int a, .int i, .int n, .int w] t (va_Qi (fun z u => z = (F_days t P R x a i n w).1 ∧ LA (F_days t P R x a i n w).2 u)) := by
  refine CT.of (own := RX5) (by decide) rfl (Nat.le_of_ble_eq_true rfl) ?_
  intro p9 e9 s m9 args below meth c9 A Q hC hr hlk hW hQ ls hl
  obtain ⟨hx, hb, hml, hown, hts⟩ := id hC
  have hl : lv_has ls 9 [(0, .ref (ad 0)), (1, .int x), (2, .int a), (3, .int i), (4, .int n), (5, .int w)] := hl
  obtain ⟨hP, hP8, hR, hR5, hc4, hC8, hlen⟩ := hB
  refine lv_iload hx hb dX5_days_0 (lv_at hl 5 rfl) ?_
  refine lv_iconst (v := 0) hx hb dX5_days_2 (by decide) ?_
  refine lv_iconst (v := 2) hx hb dX5_days_3 (by decide) ?_
  refine fin_pi (run_P (rest := []) hC hW.2.2.2.2.2 (m_X5_isIn l w 0 2) k_yX5_isIn ⟨rfl, rfl⟩ q_ml_RX5_86 rfl hl.1 rfl (Nat.le_of_ble_eq_true rfl) ⟨Nat.le_of_ble_eq_true rfl, Nat.le_of_ble_eq_true rfl⟩ dX5_days_4 ⟨Nat.zero_le _, Nat.zero_le _⟩) (fun r hr9 => ?_)
  refine r_top hr9 ?_
  refine lv_if_ne (tgt := 34) hx hb dX5_days_7 (by decide) (fun c_7_1 => ?_) (fun c_7_1 => ?_)
  · have c_7_1 := bI_nz c_7_1
    refine lv_iconst (v := 1) hx hb dX5_days_34 (by decide) ?_
    refine lv_goto (tgt := 39) hx hb dX5_days_35 (by decide) ?_
    refine lv_istore (lv' := [(6, .int 1), (0, .ref (ad 0)), (1, .int x), (2, .int a), (3, .int i), (4, .int n), (5, .int w)]) hx hb dX5_days_39 hl (by decide) rfl (fun ls hl => ?_)
    refine lv_aload_n hx hb dX5_days_41 rfl (lv_at hl 1 rfl) ?_
    refine lv_iload_n hx hb dX5_days_42 rfl (lv_at hl 2 rfl) ?_
    refine lv_iload_n hx hb dX5_days_43 rfl (lv_at hl 3 rfl) ?_
    refine lv_iload_n hx hb dX5_days_44 rfl (lv_at hl 4 rfl) ?_
    refine lv_iload hx hb dX5_days_45 (lv_at hl 5 rfl) ?_
    refine lv_iload hx hb dX5_days_47 (lv_at hl 5 rfl) ?_
    refine lv_iconst (v := 0) hx hb dX5_days_49 (by decide) ?_
    refine lv_bipush (v := 30) hx hb dX5_days_50 (by decide) ?_
    refine fin_pi (run_P (rest := [.int n, .int i, .int a, .int x, .ref (ad 0)]) hC hW.2.2.2.2.2 (m_X5_isIn l n 0 30) k_yX5_isIn ⟨rfl, rfl⟩ q_ml_RX5_86 rfl hl.1 rfl (Nat.le_of_ble_eq_true rfl) ⟨Nat.le_of_ble_eq_true rfl, Nat.le_of_ble_eq_true rfl⟩ dX5_days_52 ⟨Nat.zero_le _, Nat.zero_le _⟩) (fun r hr9 => ?_)
    refine r_top hr9 ?_
    refine lv_if_eq (tgt := 67) hx hb dX5_days_55 (by decide) (fun c_55_2 => ?_) (fun c_55_2 => ?_)
    · have c_55_2 := bI_z.mp c_55_2
      refine lv_iconst (v := 0) hx hb dX5_days_67 (by decide) ?_
      have hbI : bI (dayP n w) = 0 := (bI_f (fun h9 => c_55_2 h9.1)).symm
      refine fin_i (run_V (rest := []) hC hW (m_X5_readSteps l D cs ad t P R x a i n 0 hP (by omega) hR (by omega) hlen (fun h => absurd rfl h)) k_yX5_readSteps ⟨rfl, rfl⟩ q_ml_RX5_115 eX_0 rfl rfl hl.1 rfl (Nat.le_of_ble_eq_true rfl) ⟨Nat.le_of_ble_eq_true rfl, Nat.le_of_ble_eq_true rfl⟩ dX5_days_68 ⟨Nat.zero_le _, Nat.zero_le _⟩) hW (fun r3 u3 H locs hp3 hW => ?_)
      obtain ⟨hru3, hgu3, hau3, hsu3⟩ := hp3
      refine lv_istore (lv' := [(7, .int r3), (6, .int 1), (0, .ref (ad 0)), (1, .int x), (2, .int a), (3, .int i), (4, .int n), (5, .int w)]) hx hb dX5_days_71 hl (by decide) rfl (fun ls hl => ?_)
      refine lv_iload hx hb dX5_days_73 (lv_at hl 0 rfl) ?_
      refine lv_if_eq (tgt := 81) hx hb dX5_days_75 (by decide) (fun c_75_4 => ?_) (fun c_75_4 => ?_)
      · exfalso
        have h8 := hru3.symm.trans c_75_4
        obtain ⟨_, _, _, _, _, _, _, _, h7, _⟩ := rs0 hlen h8
        exact h7 rfl
      · refine lv_iload hx hb dX5_days_78 (lv_at hl 0 rfl) ?_
        have hF : F_days t P R x a i n w = ((rsF t P R x a i n 0).1, flt t (rsF t P R x a i n 0).2) := by unfold F_days; rw [hbI, if_pos (by rw [← hru3]; exact c_75_4)]
        exact r_ireti hC hr hlk hW hQ (⟨by rw [hF]; exact hru3, by rw [hF]; exact la_rs hgu3 hau3⟩) dX5_days_80
    · have c_55_2 := bI_nz c_55_2
      refine lv_iload hx hb dX5_days_58 (lv_at hl 0 rfl) ?_
      refine lv_if_eq (tgt := 67) hx hb dX5_days_60 (by decide) (fun c_60_5 => ?_) (fun c_60_5 => ?_)
      · exact absurd c_60_5 (by decide)
      · refine lv_iconst (v := 1) hx hb dX5_days_63 (by decide) ?_
        refine lv_goto (tgt := 68) hx hb dX5_days_64 (by decide) ?_
        have hbI : bI (dayP n w) = 1 := (bI_t ⟨c_55_2, Or.inl c_7_1⟩).symm
        refine fin_i (run_V (rest := []) hC hW (m_X5_readSteps l D cs ad t P R x a i n 1 hP (by omega) hR (by omega) hlen (fun _ => c_55_2)) k_yX5_readSteps ⟨rfl, rfl⟩ q_ml_RX5_115 eX_0 rfl rfl hl.1 rfl (Nat.le_of_ble_eq_true rfl) ⟨Nat.le_of_ble_eq_true rfl, Nat.le_of_ble_eq_true rfl⟩ dX5_days_68 ⟨Nat.zero_le _, Nat.zero_le _⟩) hW (fun r6 u6 H locs hp6 hW => ?_)
        obtain ⟨hru6, hgu6, hau6, hsu6⟩ := hp6
        refine lv_istore (lv' := [(7, .int r6), (6, .int 1), (0, .ref (ad 0)), (1, .int x), (2, .int a), (3, .int i), (4, .int n), (5, .int w)]) hx hb dX5_days_71 hl (by decide) rfl (fun ls hl => ?_)
        refine lv_iload hx hb dX5_days_73 (lv_at hl 0 rfl) ?_
        refine lv_if_eq (tgt := 81) hx hb dX5_days_75 (by decide) (fun c_75_7 => ?_) (fun c_75_7 => ?_)
        · have hrz : r6 = 0 := c_75_7
          have hr0 := hru6.symm.trans hrz
          obtain ⟨k, i0, n0, hk4, rfl, rfl, rfl, hin60, -, hP0, hst, hrs2⟩ := rs0 hlen hr0
          have hla0 : LA (flt t 0) u6 := la_rs (by rw [← hrs2]; exact hgu6) hau6
          have hstp := stp_ok (t := t) hk4 (by omega) hR5 hst
          have hsu : ∀ z, z < n0 → u6.2 12 z = nI (stpF t (nI k) (nI i0) z) ∧ (stpF t (nI k) (nI i0) z = 5 ∨ stpF t (nI k) (nI i0) z < R) := fun z hz => ⟨(hsu6 hrz z (by rw [nI_clamp (by omega)]; exact hz)).trans (by rw [nI_clamp (by omega), nI_clamp (by omega)]; exact (hstp z hz).1), (hstp z hz).2⟩
          have hn30 : n0 ≤ 30 := (nI_leI (a := n0) (b := 30) (by omega) (by decide)).mp c_55_2.2
          refine lv_aload_n hx hb dX5_days_81 rfl (lv_at hl 2 rfl) ?_
          refine lv_iload hx hb dX5_days_82 (lv_at hl 6 rfl) ?_
          refine fin_i (run_V (rest := []) hC hW (m_X5_firstWrong l D cs ad u6 P R (stpF t (nI k) (nI i0)) n0 ((congrFun hgu6 2).trans hP) hP8 ((congrFun hgu6 3).trans hR) hR5 hn30 hsu) k_yX5_firstWrong ⟨rfl, rfl⟩ q_ml_RX5_119 eX_0 rfl rfl hl.1 rfl (Nat.le_of_ble_eq_true rfl) ⟨Nat.le_of_ble_eq_true rfl, Nat.le_of_ble_eq_true rfl⟩ dX5_days_84 ⟨Nat.zero_le _, Nat.zero_le _⟩) hW (fun r8 u8 H locs hp8 hW => ?_)
          obtain ⟨hru8, hgu8, heu8⟩ := hp8
          rw [show hX P u6 = hX P t from hla0.eh, show beg u6 = beg t from hla0.eb] at hru8 heu8
          have hla1 : LA (flt t 0) u8 := hla0.tr hgu8.s.la
          refine r_top hru8 ?_
          refine lv_istore (lv' := [(8, .int ((fw (hX P t) (stpF t (nI k) (nI i0)) n0 0 (beg t)).1)), (7, .int r6), (6, .int 1), (0, .ref (ad 0)), (1, .int (nI k)), (2, .int a), (3, .int (nI i0)), (4, .int (nI n0)), (5, .int w)]) hx hb dX5_days_87 hl (by decide) rfl (fun ls hl => ?_)
          refine lv_iload hx hb dX5_days_89 (lv_at hl 8 rfl) ?_
          refine lv_iconst (v := 1) hx hb dX5_days_91 (by decide) ?_
          refine lv_icmp_ne (tgt := 98) hx hb dX5_days_92 (by decide) (fun c_92_9 => ?_) (fun c_92_9 => ?_)
          · refine lv_iload hx hb dX5_days_98 (lv_at hl 0 rfl) ?_
            refine lv_bipush (v := (-9)) hx hb dX5_days_100 (by decide) ?_
            refine lv_icmp_eq (tgt := 111) hx hb dX5_days_102 (by decide) (fun c_102_10 => ?_) (fun c_102_10 => ?_)
            · refine lv_iload hx hb dX5_days_111 (lv_at hl 8 rfl) ?_
              refine lv_if_ne (tgt := 126) hx hb dX5_days_113 (by decide) (fun c_113_11 => ?_) (fun c_113_11 => ?_)
              · refine lv_iload hx hb dX5_days_126 (lv_at hl 8 rfl) ?_
                refine lv_iconst (v := 2) hx hb dX5_days_128 (by decide) ?_
                refine lv_icmp_ne (tgt := 139) hx hb dX5_days_129 (by decide) (fun c_129_12 => ?_) (fun c_129_12 => ?_)
                · refine lv_iload hx hb dX5_days_139 (lv_at hl 8 rfl) ?_
                  refine lv_bipush (v := 20) hx hb dX5_days_141 (by decide) ?_
                  refine lv_icmp_ge (tgt := 163) hx hb dX5_days_143 (by decide) (fun c_143_13 => ?_) (fun c_143_13 => ?_)
                  · refine lv_aload_n hx hb dX5_days_163 rfl (lv_at hl 3 rfl) ?_
                    refine gX_G_climbs hC hW q_fl_RX5_34 dX5_days_164 ?_
                    refine lv_iconst (v := 0) hx hb dX5_days_167 (by decide) ?_
                    refine r_aldN (t0 := 2) (j := 0) hC hW eX_11 rfl rfl (by omega) (by decide) rfl dX5_days_168 ?_
                    refine lv_iload hx hb dX5_days_169 (lv_at hl 8 rfl) ?_
                    refine lv_bipush (v := 20) hx hb dX5_days_171 (by decide) ?_
                    refine lv_isub hx hb dX5_days_173 ?_
                    refine fin_i (run_V (rest := []) hC hW (m_X0_heightOf l D cs ad u8 0 (by omega) R (w - 20) ((hla1.1 3 (by omega)).trans hR) (by omega)) k_yX0_heightOf ⟨rfl, rfl⟩ q_ml_RX5_131 (eX_C 0 (by omega)) rfl rfl hl.1 rfl (Nat.le_of_ble_eq_true rfl) ⟨Nat.le_of_ble_eq_true rfl, Nat.le_of_ble_eq_true rfl⟩ dX5_days_174 ⟨Nat.zero_le _, Nat.zero_le _⟩) hW (fun r14 u14 H locs hp14 hW => ?_)
                    have hW := hx_congr hW hp14.2
                    refine r_top hp14.1 ?_
                    refine r_top (y := if inN (w - 20) R then (fw (hX P t) (stpF t (nI k) (nI i0)) n0 0 (beg t)).2.2.2.1 (w - 20).toNatClampNeg else -9) (by rw [show u8.2 (25 + 4 * 0) = (fw (hX P t) (stpF t (nI k) (nI i0)) n0 0 (beg t)).2.2.2.1 from congrArg (fun q => q.2.2.1) heu8]) ?_
                    have hF : F_days t P R (nI k) a (nI i0) (nI n0) w = (if inN (w - 20) R then (fw (hX P t) (stpF t (nI k) (nI i0)) n0 0 (beg t)).2.2.2.1 (w - 20).toNatClampNeg else -9, flt t 0) := by unfold F_days dayV; rw [hbI, if_neg (not_not_intro hr0), nI_clamp (show n0 < 2 ^ 31 by omega), if_neg c_92_9, if_neg (not_not_intro c_102_10), if_neg c_113_11, if_neg c_129_12, if_neg (Int32.not_lt.mpr c_143_13)]
                    exact r_ireti hC hr hlk hW hQ (⟨by rw [hF], by rw [hF]; exact hla1⟩) dX5_days_177
                  · refine lv_aload_n hx hb dX5_days_146 rfl (lv_at hl 3 rfl) ?_
                    refine gX_G_climbs hC hW q_fl_RX5_34 dX5_days_147 ?_
                    refine lv_iconst (v := 0) hx hb dX5_days_150 (by decide) ?_
                    refine r_aldN (t0 := 2) (j := 0) hC hW eX_11 rfl rfl (by omega) (by decide) rfl dX5_days_151 ?_
                    refine lv_iload hx hb dX5_days_152 (lv_at hl 8 rfl) ?_
                    refine lv_bipush (v := 10) hx hb dX5_days_154 (by decide) ?_
                    refine lv_isub hx hb dX5_days_156 ?_
                    refine fin_i (run_V (rest := []) hC hW (m_X0_scratchesOf l D cs ad u8 0 (by omega) P (w - 10) ((hla1.1 2 (by omega)).trans hP) (by omega)) k_yX0_scratchesOf ⟨rfl, rfl⟩ q_ml_RX5_128 (eX_C 0 (by omega)) rfl rfl hl.1 rfl (Nat.le_of_ble_eq_true rfl) ⟨Nat.le_of_ble_eq_true rfl, Nat.le_of_ble_eq_true rfl⟩ dX5_days_157 ⟨Nat.zero_le _, Nat.zero_le _⟩) hW (fun r15 u15 H locs hp15 hW => ?_)
                    have hW := hx_congr hW hp15.2
                    refine r_top hp15.1 ?_
                    refine r_top (y := if inN (w - 10) P then (fw (hX P t) (stpF t (nI k) (nI i0)) n0 0 (beg t)).2.1 (w - 10).toNatClampNeg else -9) (by rw [show u8.2 (23 + 4 * 0) = (fw (hX P t) (stpF t (nI k) (nI i0)) n0 0 (beg t)).2.1 from congrArg (fun q => q.1) heu8]) ?_
                    refine lv_goto (tgt := 177) hx hb dX5_days_160 (by decide) ?_
                    have hF : F_days t P R (nI k) a (nI i0) (nI n0) w = (if inN (w - 10) P then (fw (hX P t) (stpF t (nI k) (nI i0)) n0 0 (beg t)).2.1 (w - 10).toNatClampNeg else -9, flt t 0) := by unfold F_days dayV; rw [hbI, if_neg (not_not_intro hr0), nI_clamp (show n0 < 2 ^ 31 by omega), if_neg c_92_9, if_neg (not_not_intro c_102_10), if_neg c_113_11, if_neg c_129_12, if_pos (Int32.not_le.mp c_143_13)]
                    exact r_ireti hC hr hlk hW hQ (⟨by rw [hF], by rw [hF]; exact hla1⟩) dX5_days_177
                · refine lv_aload_n hx hb dX5_days_132 rfl (lv_at hl 3 rfl) ?_
                  refine lv_iload hx hb dX5_days_133 (lv_at hl 7 rfl) ?_
                  refine fin_i (run_V (rest := []) hC hW (m_X5_firstUp l D cs ad u8 P R (stpF t (nI k) (nI i0)) n0 ((hla1.1 2 (by omega)).trans hP) hP8 ((hla1.1 3 (by omega)).trans hR) hR5 hn30 (fun z hz => by rw [hgu8.2 12 (by omega) (by omega) (by omega)]; exact hsu z hz)) k_yX5_firstUp ⟨rfl, rfl⟩ q_ml_RX5_125 eX_0 rfl rfl hl.1 rfl (Nat.le_of_ble_eq_true rfl) ⟨Nat.le_of_ble_eq_true rfl, Nat.le_of_ble_eq_true rfl⟩ dX5_days_135 ⟨Nat.zero_le _, Nat.zero_le _⟩) hW (fun r16 u16 H locs hp16 hW => ?_)
                  obtain ⟨hru16, hgu16⟩ := hp16
                  rw [show hX P u8 = hX P t from hla1.eh, show beg u8 = beg t from hla1.eb] at hru16
                  have hla1 : LA (flt t 0) u16 := hla1.tr hgu16.s.la
                  refine r_top hru16 ?_
                  have hF : F_days t P R (nI k) a (nI i0) (nI n0) w = (fu (hX P t) (stpF t (nI k) (nI i0)) n0 0 (beg t), flt t 0) := by unfold F_days dayV; rw [hbI, if_neg (not_not_intro hr0), nI_clamp (show n0 < 2 ^ 31 by omega), if_neg c_92_9, if_neg (not_not_intro c_102_10), if_neg c_113_11, if_pos c_129_12]
                  exact r_ireti hC hr hlk hW hQ (⟨by rw [hF], by rw [hF]; exact hla1⟩) dX5_days_138
              · refine lv_aload_n hx hb dX5_days_116 rfl (lv_at hl 3 rfl) ?_
                refine gX_G_climbs hC hW q_fl_RX5_34 dX5_days_117 ?_
                refine lv_iconst (v := 0) hx hb dX5_days_120 (by decide) ?_
                refine r_aldN (t0 := 2) (j := 0) hC hW eX_11 rfl rfl (by omega) (by decide) rfl dX5_days_121 ?_
                refine gX_C_up 0 (by omega) hC hW q_fl_RX5_122 dX5_days_122 ?_
                refine r_top (y := (fw (hX P t) (stpF t (nI k) (nI i0)) n0 0 (beg t)).2.2.2.2) (congrArg (fun q => q.2.2.2) heu8) ?_
                have hF : F_days t P R (nI k) a (nI i0) (nI n0) w = ((fw (hX P t) (stpF t (nI k) (nI i0)) n0 0 (beg t)).2.2.2.2, flt t 0) := by unfold F_days dayV; rw [hbI, if_neg (not_not_intro hr0), nI_clamp (show n0 < 2 ^ 31 by omega), if_neg c_92_9, if_neg (not_not_intro c_102_10), if_pos c_113_11]
                exact r_ireti hC hr hlk hW hQ (⟨by rw [hF], by rw [hF]; exact hla1⟩) dX5_days_125
            · refine lv_bipush (v := (-100)) hx hb dX5_days_105 (by decide) ?_
              refine lv_iload hx hb dX5_days_107 (lv_at hl 0 rfl) ?_
              refine lv_isub hx hb dX5_days_109 ?_
              have hF : F_days t P R (nI k) a (nI i0) (nI n0) w = ((-100) - ((fw (hX P t) (stpF t (nI k) (nI i0)) n0 0 (beg t)).1), flt t 0) := by unfold F_days dayV; rw [hbI, if_neg (not_not_intro hr0), nI_clamp (show n0 < 2 ^ 31 by omega), if_neg c_92_9, if_pos c_102_10]
              exact r_ireti hC hr hlk hW hQ (⟨by rw [hF], by rw [hF]; exact hla1⟩) dX5_days_110
          · refine lv_iload hx hb dX5_days_95 (lv_at hl 0 rfl) ?_
            have hF : F_days t P R (nI k) a (nI i0) (nI n0) w = ((fw (hX P t) (stpF t (nI k) (nI i0)) n0 0 (beg t)).1, flt t 0) := by unfold F_days dayV; rw [hbI, if_neg (not_not_intro hr0), nI_clamp (show n0 < 2 ^ 31 by omega), if_pos c_92_9]
            exact r_ireti hC hr hlk hW hQ (⟨by rw [hF], by rw [hF]; exact hla1⟩) dX5_days_97
        · refine lv_iload hx hb dX5_days_78 (lv_at hl 0 rfl) ?_
          have hF : F_days t P R x a i n w = ((rsF t P R x a i n 1).1, flt t (rsF t P R x a i n 1).2) := by unfold F_days; rw [hbI, if_pos (by rw [← hru6]; exact c_75_7)]
          exact r_ireti hC hr hlk hW hQ (⟨by rw [hF]; exact hru6, by rw [hF]; exact la_rs hgu6 hau6⟩) dX5_days_80
  · have c_7_1 := bI_z.mp c_7_1
    refine lv_iload hx hb dX5_days_10 (lv_at hl 5 rfl) ?_
    refine lv_bipush (v := 10) hx hb dX5_days_12 (by decide) ?_
    refine lv_bipush (v := 17) hx hb dX5_days_14 (by decide) ?_
    refine fin_pi (run_P (rest := []) hC hW.2.2.2.2.2 (m_X5_isIn l w 10 17) k_yX5_isIn ⟨rfl, rfl⟩ q_ml_RX5_86 rfl hl.1 rfl (Nat.le_of_ble_eq_true rfl) ⟨Nat.le_of_ble_eq_true rfl, Nat.le_of_ble_eq_true rfl⟩ dX5_days_16 ⟨Nat.zero_le _, Nat.zero_le _⟩) (fun r hr9 => ?_)
    refine r_top hr9 ?_
    refine lv_if_ne (tgt := 34) hx hb dX5_days_19 (by decide) (fun c_19_17 => ?_) (fun c_19_17 => ?_)
    · have c_19_17 := bI_nz c_19_17
      refine lv_iconst (v := 1) hx hb dX5_days_34 (by decide) ?_
      refine lv_goto (tgt := 39) hx hb dX5_days_35 (by decide) ?_
      refine lv_istore (lv' := [(6, .int 1), (0, .ref (ad 0)), (1, .int x), (2, .int a), (3, .int i), (4, .int n), (5, .int w)]) hx hb dX5_days_39 hl (by decide) rfl (fun ls hl => ?_)
      refine lv_aload_n hx hb dX5_days_41 rfl (lv_at hl 1 rfl) ?_
      refine lv_iload_n hx hb dX5_days_42 rfl (lv_at hl 2 rfl) ?_
      refine lv_iload_n hx hb dX5_days_43 rfl (lv_at hl 3 rfl) ?_
      refine lv_iload_n hx hb dX5_days_44 rfl (lv_at hl 4 rfl) ?_
      refine lv_iload hx hb dX5_days_45 (lv_at hl 5 rfl) ?_
      refine lv_iload hx hb dX5_days_47 (lv_at hl 5 rfl) ?_
      refine lv_iconst (v := 0) hx hb dX5_days_49 (by decide) ?_
      refine lv_bipush (v := 30) hx hb dX5_days_50 (by decide) ?_
      refine fin_pi (run_P (rest := [.int n, .int i, .int a, .int x, .ref (ad 0)]) hC hW.2.2.2.2.2 (m_X5_isIn l n 0 30) k_yX5_isIn ⟨rfl, rfl⟩ q_ml_RX5_86 rfl hl.1 rfl (Nat.le_of_ble_eq_true rfl) ⟨Nat.le_of_ble_eq_true rfl, Nat.le_of_ble_eq_true rfl⟩ dX5_days_52 ⟨Nat.zero_le _, Nat.zero_le _⟩) (fun r hr9 => ?_)
      refine r_top hr9 ?_
      refine lv_if_eq (tgt := 67) hx hb dX5_days_55 (by decide) (fun c_55_18 => ?_) (fun c_55_18 => ?_)
      · have c_55_18 := bI_z.mp c_55_18
        refine lv_iconst (v := 0) hx hb dX5_days_67 (by decide) ?_
        have hbI : bI (dayP n w) = 0 := (bI_f (fun h9 => c_55_18 h9.1)).symm
        refine fin_i (run_V (rest := []) hC hW (m_X5_readSteps l D cs ad t P R x a i n 0 hP (by omega) hR (by omega) hlen (fun h => absurd rfl h)) k_yX5_readSteps ⟨rfl, rfl⟩ q_ml_RX5_115 eX_0 rfl rfl hl.1 rfl (Nat.le_of_ble_eq_true rfl) ⟨Nat.le_of_ble_eq_true rfl, Nat.le_of_ble_eq_true rfl⟩ dX5_days_68 ⟨Nat.zero_le _, Nat.zero_le _⟩) hW (fun r19 u19 H locs hp19 hW => ?_)
        obtain ⟨hru19, hgu19, hau19, hsu19⟩ := hp19
        refine lv_istore (lv' := [(7, .int r19), (6, .int 1), (0, .ref (ad 0)), (1, .int x), (2, .int a), (3, .int i), (4, .int n), (5, .int w)]) hx hb dX5_days_71 hl (by decide) rfl (fun ls hl => ?_)
        refine lv_iload hx hb dX5_days_73 (lv_at hl 0 rfl) ?_
        refine lv_if_eq (tgt := 81) hx hb dX5_days_75 (by decide) (fun c_75_20 => ?_) (fun c_75_20 => ?_)
        · exfalso
          have h8 := hru19.symm.trans c_75_20
          obtain ⟨_, _, _, _, _, _, _, _, h7, _⟩ := rs0 hlen h8
          exact h7 rfl
        · refine lv_iload hx hb dX5_days_78 (lv_at hl 0 rfl) ?_
          have hF : F_days t P R x a i n w = ((rsF t P R x a i n 0).1, flt t (rsF t P R x a i n 0).2) := by unfold F_days; rw [hbI, if_pos (by rw [← hru19]; exact c_75_20)]
          exact r_ireti hC hr hlk hW hQ (⟨by rw [hF]; exact hru19, by rw [hF]; exact la_rs hgu19 hau19⟩) dX5_days_80
      · have c_55_18 := bI_nz c_55_18
        refine lv_iload hx hb dX5_days_58 (lv_at hl 0 rfl) ?_
        refine lv_if_eq (tgt := 67) hx hb dX5_days_60 (by decide) (fun c_60_21 => ?_) (fun c_60_21 => ?_)
        · exact absurd c_60_21 (by decide)
        · refine lv_iconst (v := 1) hx hb dX5_days_63 (by decide) ?_
          refine lv_goto (tgt := 68) hx hb dX5_days_64 (by decide) ?_
          have hbI : bI (dayP n w) = 1 := (bI_t ⟨c_55_18, Or.inr (Or.inl c_19_17)⟩).symm
          refine fin_i (run_V (rest := []) hC hW (m_X5_readSteps l D cs ad t P R x a i n 1 hP (by omega) hR (by omega) hlen (fun _ => c_55_18)) k_yX5_readSteps ⟨rfl, rfl⟩ q_ml_RX5_115 eX_0 rfl rfl hl.1 rfl (Nat.le_of_ble_eq_true rfl) ⟨Nat.le_of_ble_eq_true rfl, Nat.le_of_ble_eq_true rfl⟩ dX5_days_68 ⟨Nat.zero_le _, Nat.zero_le _⟩) hW (fun r22 u22 H locs hp22 hW => ?_)
          obtain ⟨hru22, hgu22, hau22, hsu22⟩ := hp22
          refine lv_istore (lv' := [(7, .int r22), (6, .int 1), (0, .ref (ad 0)), (1, .int x), (2, .int a), (3, .int i), (4, .int n), (5, .int w)]) hx hb dX5_days_71 hl (by decide) rfl (fun ls hl => ?_)
          refine lv_iload hx hb dX5_days_73 (lv_at hl 0 rfl) ?_
          refine lv_if_eq (tgt := 81) hx hb dX5_days_75 (by decide) (fun c_75_23 => ?_) (fun c_75_23 => ?_)
          · have hrz : r22 = 0 := c_75_23
            have hr0 := hru22.symm.trans hrz
            obtain ⟨k, i0, n0, hk4, rfl, rfl, rfl, hin60, -, hP0, hst, hrs2⟩ := rs0 hlen hr0
            have hla0 : LA (flt t 0) u22 := la_rs (by rw [← hrs2]; exact hgu22) hau22
            have hstp := stp_ok (t := t) hk4 (by omega) hR5 hst
            have hsu : ∀ z, z < n0 → u22.2 12 z = nI (stpF t (nI k) (nI i0) z) ∧ (stpF t (nI k) (nI i0) z = 5 ∨ stpF t (nI k) (nI i0) z < R) := fun z hz => ⟨(hsu22 hrz z (by rw [nI_clamp (by omega)]; exact hz)).trans (by rw [nI_clamp (by omega), nI_clamp (by omega)]; exact (hstp z hz).1), (hstp z hz).2⟩
            have hn30 : n0 ≤ 30 := (nI_leI (a := n0) (b := 30) (by omega) (by decide)).mp c_55_18.2
            refine lv_aload_n hx hb dX5_days_81 rfl (lv_at hl 2 rfl) ?_
            refine lv_iload hx hb dX5_days_82 (lv_at hl 6 rfl) ?_
            refine fin_i (run_V (rest := []) hC hW (m_X5_firstWrong l D cs ad u22 P R (stpF t (nI k) (nI i0)) n0 ((congrFun hgu22 2).trans hP) hP8 ((congrFun hgu22 3).trans hR) hR5 hn30 hsu) k_yX5_firstWrong ⟨rfl, rfl⟩ q_ml_RX5_119 eX_0 rfl rfl hl.1 rfl (Nat.le_of_ble_eq_true rfl) ⟨Nat.le_of_ble_eq_true rfl, Nat.le_of_ble_eq_true rfl⟩ dX5_days_84 ⟨Nat.zero_le _, Nat.zero_le _⟩) hW (fun r24 u24 H locs hp24 hW => ?_)
            obtain ⟨hru24, hgu24, heu24⟩ := hp24
            rw [show hX P u22 = hX P t from hla0.eh, show beg u22 = beg t from hla0.eb] at hru24 heu24
            have hla1 : LA (flt t 0) u24 := hla0.tr hgu24.s.la
            refine r_top hru24 ?_
            refine lv_istore (lv' := [(8, .int ((fw (hX P t) (stpF t (nI k) (nI i0)) n0 0 (beg t)).1)), (7, .int r22), (6, .int 1), (0, .ref (ad 0)), (1, .int (nI k)), (2, .int a), (3, .int (nI i0)), (4, .int (nI n0)), (5, .int w)]) hx hb dX5_days_87 hl (by decide) rfl (fun ls hl => ?_)
            refine lv_iload hx hb dX5_days_89 (lv_at hl 8 rfl) ?_
            refine lv_iconst (v := 1) hx hb dX5_days_91 (by decide) ?_
            refine lv_icmp_ne (tgt := 98) hx hb dX5_days_92 (by decide) (fun c_92_25 => ?_) (fun c_92_25 => ?_)
            · refine lv_iload hx hb dX5_days_98 (lv_at hl 0 rfl) ?_
              refine lv_bipush (v := (-9)) hx hb dX5_days_100 (by decide) ?_
              refine lv_icmp_eq (tgt := 111) hx hb dX5_days_102 (by decide) (fun c_102_26 => ?_) (fun c_102_26 => ?_)
              · refine lv_iload hx hb dX5_days_111 (lv_at hl 8 rfl) ?_
                refine lv_if_ne (tgt := 126) hx hb dX5_days_113 (by decide) (fun c_113_27 => ?_) (fun c_113_27 => ?_)
                · refine lv_iload hx hb dX5_days_126 (lv_at hl 8 rfl) ?_
                  refine lv_iconst (v := 2) hx hb dX5_days_128 (by decide) ?_
                  refine lv_icmp_ne (tgt := 139) hx hb dX5_days_129 (by decide) (fun c_129_28 => ?_) (fun c_129_28 => ?_)
                  · refine lv_iload hx hb dX5_days_139 (lv_at hl 8 rfl) ?_
                    refine lv_bipush (v := 20) hx hb dX5_days_141 (by decide) ?_
                    refine lv_icmp_ge (tgt := 163) hx hb dX5_days_143 (by decide) (fun c_143_29 => ?_) (fun c_143_29 => ?_)
                    · refine lv_aload_n hx hb dX5_days_163 rfl (lv_at hl 3 rfl) ?_
                      refine gX_G_climbs hC hW q_fl_RX5_34 dX5_days_164 ?_
                      refine lv_iconst (v := 0) hx hb dX5_days_167 (by decide) ?_
                      refine r_aldN (t0 := 2) (j := 0) hC hW eX_11 rfl rfl (by omega) (by decide) rfl dX5_days_168 ?_
                      refine lv_iload hx hb dX5_days_169 (lv_at hl 8 rfl) ?_
                      refine lv_bipush (v := 20) hx hb dX5_days_171 (by decide) ?_
                      refine lv_isub hx hb dX5_days_173 ?_
                      refine fin_i (run_V (rest := []) hC hW (m_X0_heightOf l D cs ad u24 0 (by omega) R (w - 20) ((hla1.1 3 (by omega)).trans hR) (by omega)) k_yX0_heightOf ⟨rfl, rfl⟩ q_ml_RX5_131 (eX_C 0 (by omega)) rfl rfl hl.1 rfl (Nat.le_of_ble_eq_true rfl) ⟨Nat.le_of_ble_eq_true rfl, Nat.le_of_ble_eq_true rfl⟩ dX5_days_174 ⟨Nat.zero_le _, Nat.zero_le _⟩) hW (fun r30 u30 H locs hp30 hW => ?_)
                      have hW := hx_congr hW hp30.2
                      refine r_top hp30.1 ?_
                      refine r_top (y := if inN (w - 20) R then (fw (hX P t) (stpF t (nI k) (nI i0)) n0 0 (beg t)).2.2.2.1 (w - 20).toNatClampNeg else -9) (by rw [show u24.2 (25 + 4 * 0) = (fw (hX P t) (stpF t (nI k) (nI i0)) n0 0 (beg t)).2.2.2.1 from congrArg (fun q => q.2.2.1) heu24]) ?_
                      have hF : F_days t P R (nI k) a (nI i0) (nI n0) w = (if inN (w - 20) R then (fw (hX P t) (stpF t (nI k) (nI i0)) n0 0 (beg t)).2.2.2.1 (w - 20).toNatClampNeg else -9, flt t 0) := by unfold F_days dayV; rw [hbI, if_neg (not_not_intro hr0), nI_clamp (show n0 < 2 ^ 31 by omega), if_neg c_92_25, if_neg (not_not_intro c_102_26), if_neg c_113_27, if_neg c_129_28, if_neg (Int32.not_lt.mpr c_143_29)]
                      exact r_ireti hC hr hlk hW hQ (⟨by rw [hF], by rw [hF]; exact hla1⟩) dX5_days_177
                    · refine lv_aload_n hx hb dX5_days_146 rfl (lv_at hl 3 rfl) ?_
                      refine gX_G_climbs hC hW q_fl_RX5_34 dX5_days_147 ?_
                      refine lv_iconst (v := 0) hx hb dX5_days_150 (by decide) ?_
                      refine r_aldN (t0 := 2) (j := 0) hC hW eX_11 rfl rfl (by omega) (by decide) rfl dX5_days_151 ?_
                      refine lv_iload hx hb dX5_days_152 (lv_at hl 8 rfl) ?_
                      refine lv_bipush (v := 10) hx hb dX5_days_154 (by decide) ?_
                      refine lv_isub hx hb dX5_days_156 ?_
                      refine fin_i (run_V (rest := []) hC hW (m_X0_scratchesOf l D cs ad u24 0 (by omega) P (w - 10) ((hla1.1 2 (by omega)).trans hP) (by omega)) k_yX0_scratchesOf ⟨rfl, rfl⟩ q_ml_RX5_128 (eX_C 0 (by omega)) rfl rfl hl.1 rfl (Nat.le_of_ble_eq_true rfl) ⟨Nat.le_of_ble_eq_true rfl, Nat.le_of_ble_eq_true rfl⟩ dX5_days_157 ⟨Nat.zero_le _, Nat.zero_le _⟩) hW (fun r31 u31 H locs hp31 hW => ?_)
                      have hW := hx_congr hW hp31.2
                      refine r_top hp31.1 ?_
                      refine r_top (y := if inN (w - 10) P then (fw (hX P t) (stpF t (nI k) (nI i0)) n0 0 (beg t)).2.1 (w - 10).toNatClampNeg else -9) (by rw [show u24.2 (23 + 4 * 0) = (fw (hX P t) (stpF t (nI k) (nI i0)) n0 0 (beg t)).2.1 from congrArg (fun q => q.1) heu24]) ?_
                      refine lv_goto (tgt := 177) hx hb dX5_days_160 (by decide) ?_
                      have hF : F_days t P R (nI k) a (nI i0) (nI n0) w = (if inN (w - 10) P then (fw (hX P t) (stpF t (nI k) (nI i0)) n0 0 (beg t)).2.1 (w - 10).toNatClampNeg else -9, flt t 0) := by unfold F_days dayV; rw [hbI, if_neg (not_not_intro hr0), nI_clamp (show n0 < 2 ^ 31 by omega), if_neg c_92_25, if_neg (not_not_intro c_102_26), if_neg c_113_27, if_neg c_129_28, if_pos (Int32.not_le.mp c_143_29)]
                      exact r_ireti hC hr hlk hW hQ (⟨by rw [hF], by rw [hF]; exact hla1⟩) dX5_days_177
                  · refine lv_aload_n hx hb dX5_days_132 rfl (lv_at hl 3 rfl) ?_
                    refine lv_iload hx hb dX5_days_133 (lv_at hl 7 rfl) ?_
                    refine fin_i (run_V (rest := []) hC hW (m_X5_firstUp l D cs ad u24 P R (stpF t (nI k) (nI i0)) n0 ((hla1.1 2 (by omega)).trans hP) hP8 ((hla1.1 3 (by omega)).trans hR) hR5 hn30 (fun z hz => by rw [hgu24.2 12 (by omega) (by omega) (by omega)]; exact hsu z hz)) k_yX5_firstUp ⟨rfl, rfl⟩ q_ml_RX5_125 eX_0 rfl rfl hl.1 rfl (Nat.le_of_ble_eq_true rfl) ⟨Nat.le_of_ble_eq_true rfl, Nat.le_of_ble_eq_true rfl⟩ dX5_days_135 ⟨Nat.zero_le _, Nat.zero_le _⟩) hW (fun r32 u32 H locs hp32 hW => ?_)
                    obtain ⟨hru32, hgu32⟩ := hp32
                    rw [show hX P u24 = hX P t from hla1.eh, show beg u24 = beg t from hla1.eb] at hru32
                    have hla1 : LA (flt t 0) u32 := hla1.tr hgu32.s.la
                    refine r_top hru32 ?_
                    have hF : F_days t P R (nI k) a (nI i0) (nI n0) w = (fu (hX P t) (stpF t (nI k) (nI i0)) n0 0 (beg t), flt t 0) := by unfold F_days dayV; rw [hbI, if_neg (not_not_intro hr0), nI_clamp (show n0 < 2 ^ 31 by omega), if_neg c_92_25, if_neg (not_not_intro c_102_26), if_neg c_113_27, if_pos c_129_28]
                    exact r_ireti hC hr hlk hW hQ (⟨by rw [hF], by rw [hF]; exact hla1⟩) dX5_days_138
                · refine lv_aload_n hx hb dX5_days_116 rfl (lv_at hl 3 rfl) ?_
                  refine gX_G_climbs hC hW q_fl_RX5_34 dX5_days_117 ?_
                  refine lv_iconst (v := 0) hx hb dX5_days_120 (by decide) ?_
                  refine r_aldN (t0 := 2) (j := 0) hC hW eX_11 rfl rfl (by omega) (by decide) rfl dX5_days_121 ?_
                  refine gX_C_up 0 (by omega) hC hW q_fl_RX5_122 dX5_days_122 ?_
                  refine r_top (y := (fw (hX P t) (stpF t (nI k) (nI i0)) n0 0 (beg t)).2.2.2.2) (congrArg (fun q => q.2.2.2) heu24) ?_
                  have hF : F_days t P R (nI k) a (nI i0) (nI n0) w = ((fw (hX P t) (stpF t (nI k) (nI i0)) n0 0 (beg t)).2.2.2.2, flt t 0) := by unfold F_days dayV; rw [hbI, if_neg (not_not_intro hr0), nI_clamp (show n0 < 2 ^ 31 by omega), if_neg c_92_25, if_neg (not_not_intro c_102_26), if_pos c_113_27]
                  exact r_ireti hC hr hlk hW hQ (⟨by rw [hF], by rw [hF]; exact hla1⟩) dX5_days_125
              · refine lv_bipush (v := (-100)) hx hb dX5_days_105 (by decide) ?_
                refine lv_iload hx hb dX5_days_107 (lv_at hl 0 rfl) ?_
                refine lv_isub hx hb dX5_days_109 ?_
                have hF : F_days t P R (nI k) a (nI i0) (nI n0) w = ((-100) - ((fw (hX P t) (stpF t (nI k) (nI i0)) n0 0 (beg t)).1), flt t 0) := by unfold F_days dayV; rw [hbI, if_neg (not_not_intro hr0), nI_clamp (show n0 < 2 ^ 31 by omega), if_neg c_92_25, if_pos c_102_26]
                exact r_ireti hC hr hlk hW hQ (⟨by rw [hF], by rw [hF]; exact hla1⟩) dX5_days_110
            · refine lv_iload hx hb dX5_days_95 (lv_at hl 0 rfl) ?_
              have hF : F_days t P R (nI k) a (nI i0) (nI n0) w = ((fw (hX P t) (stpF t (nI k) (nI i0)) n0 0 (beg t)).1, flt t 0) := by unfold F_days dayV; rw [hbI, if_neg (not_not_intro hr0), nI_clamp (show n0 < 2 ^ 31 by omega), if_pos c_92_25]
              exact r_ireti hC hr hlk hW hQ (⟨by rw [hF], by rw [hF]; exact hla1⟩) dX5_days_97
          · refine lv_iload hx hb dX5_days_78 (lv_at hl 0 rfl) ?_
            have hF : F_days t P R x a i n w = ((rsF t P R x a i n 1).1, flt t (rsF t P R x a i n 1).2) := by unfold F_days; rw [hbI, if_pos (by rw [← hru22]; exact c_75_23)]
            exact r_ireti hC hr hlk hW hQ (⟨by rw [hF]; exact hru22, by rw [hF]; exact la_rs hgu22 hau22⟩) dX5_days_80
    · have c_19_17 := bI_z.mp c_19_17
      refine lv_iload hx hb dX5_days_22 (lv_at hl 5 rfl) ?_
      refine lv_bipush (v := 20) hx hb dX5_days_24 (by decide) ?_
      refine lv_bipush (v := 24) hx hb dX5_days_26 (by decide) ?_
      refine fin_pi (run_P (rest := []) hC hW.2.2.2.2.2 (m_X5_isIn l w 20 24) k_yX5_isIn ⟨rfl, rfl⟩ q_ml_RX5_86 rfl hl.1 rfl (Nat.le_of_ble_eq_true rfl) ⟨Nat.le_of_ble_eq_true rfl, Nat.le_of_ble_eq_true rfl⟩ dX5_days_28 ⟨Nat.zero_le _, Nat.zero_le _⟩) (fun r hr9 => ?_)
      refine r_top hr9 ?_
      refine lv_if_eq (tgt := 38) hx hb dX5_days_31 (by decide) (fun c_31_33 => ?_) (fun c_31_33 => ?_)
      · have c_31_33 := bI_z.mp c_31_33
        refine lv_iconst (v := 0) hx hb dX5_days_38 (by decide) ?_
        refine lv_istore (lv' := [(6, .int 0), (0, .ref (ad 0)), (1, .int x), (2, .int a), (3, .int i), (4, .int n), (5, .int w)]) hx hb dX5_days_39 hl (by decide) rfl (fun ls hl => ?_)
        refine lv_aload_n hx hb dX5_days_41 rfl (lv_at hl 1 rfl) ?_
        refine lv_iload_n hx hb dX5_days_42 rfl (lv_at hl 2 rfl) ?_
        refine lv_iload_n hx hb dX5_days_43 rfl (lv_at hl 3 rfl) ?_
        refine lv_iload_n hx hb dX5_days_44 rfl (lv_at hl 4 rfl) ?_
        refine lv_iload hx hb dX5_days_45 (lv_at hl 5 rfl) ?_
        refine lv_iload hx hb dX5_days_47 (lv_at hl 5 rfl) ?_
        refine lv_iconst (v := 0) hx hb dX5_days_49 (by decide) ?_
        refine lv_bipush (v := 30) hx hb dX5_days_50 (by decide) ?_
        refine fin_pi (run_P (rest := [.int n, .int i, .int a, .int x, .ref (ad 0)]) hC hW.2.2.2.2.2 (m_X5_isIn l n 0 30) k_yX5_isIn ⟨rfl, rfl⟩ q_ml_RX5_86 rfl hl.1 rfl (Nat.le_of_ble_eq_true rfl) ⟨Nat.le_of_ble_eq_true rfl, Nat.le_of_ble_eq_true rfl⟩ dX5_days_52 ⟨Nat.zero_le _, Nat.zero_le _⟩) (fun r hr9 => ?_)
        refine r_top hr9 ?_
        refine lv_if_eq (tgt := 67) hx hb dX5_days_55 (by decide) (fun c_55_34 => ?_) (fun c_55_34 => ?_)
        · have c_55_34 := bI_z.mp c_55_34
          refine lv_iconst (v := 0) hx hb dX5_days_67 (by decide) ?_
          have hbI : bI (dayP n w) = 0 := (bI_f (fun h9 => c_55_34 h9.1)).symm
          refine fin_i (run_V (rest := []) hC hW (m_X5_readSteps l D cs ad t P R x a i n 0 hP (by omega) hR (by omega) hlen (fun h => absurd rfl h)) k_yX5_readSteps ⟨rfl, rfl⟩ q_ml_RX5_115 eX_0 rfl rfl hl.1 rfl (Nat.le_of_ble_eq_true rfl) ⟨Nat.le_of_ble_eq_true rfl, Nat.le_of_ble_eq_true rfl⟩ dX5_days_68 ⟨Nat.zero_le _, Nat.zero_le _⟩) hW (fun r35 u35 H locs hp35 hW => ?_)
          obtain ⟨hru35, hgu35, hau35, hsu35⟩ := hp35
          refine lv_istore (lv' := [(7, .int r35), (6, .int 0), (0, .ref (ad 0)), (1, .int x), (2, .int a), (3, .int i), (4, .int n), (5, .int w)]) hx hb dX5_days_71 hl (by decide) rfl (fun ls hl => ?_)
          refine lv_iload hx hb dX5_days_73 (lv_at hl 0 rfl) ?_
          refine lv_if_eq (tgt := 81) hx hb dX5_days_75 (by decide) (fun c_75_36 => ?_) (fun c_75_36 => ?_)
          · exfalso
            have h8 := hru35.symm.trans c_75_36
            obtain ⟨_, _, _, _, _, _, _, _, h7, _⟩ := rs0 hlen h8
            exact h7 rfl
          · refine lv_iload hx hb dX5_days_78 (lv_at hl 0 rfl) ?_
            have hF : F_days t P R x a i n w = ((rsF t P R x a i n 0).1, flt t (rsF t P R x a i n 0).2) := by unfold F_days; rw [hbI, if_pos (by rw [← hru35]; exact c_75_36)]
            exact r_ireti hC hr hlk hW hQ (⟨by rw [hF]; exact hru35, by rw [hF]; exact la_rs hgu35 hau35⟩) dX5_days_80
        · have c_55_34 := bI_nz c_55_34
          refine lv_iload hx hb dX5_days_58 (lv_at hl 0 rfl) ?_
          refine lv_if_eq (tgt := 67) hx hb dX5_days_60 (by decide) (fun c_60_37 => ?_) (fun c_60_37 => ?_)
          · refine lv_iconst (v := 0) hx hb dX5_days_67 (by decide) ?_
            have hbI : bI (dayP n w) = 0 := (bI_f (fun h9 => h9.2.elim c_7_1 (fun h8 => h8.elim c_19_17 c_31_33))).symm
            refine fin_i (run_V (rest := []) hC hW (m_X5_readSteps l D cs ad t P R x a i n 0 hP (by omega) hR (by omega) hlen (fun h => absurd rfl h)) k_yX5_readSteps ⟨rfl, rfl⟩ q_ml_RX5_115 eX_0 rfl rfl hl.1 rfl (Nat.le_of_ble_eq_true rfl) ⟨Nat.le_of_ble_eq_true rfl, Nat.le_of_ble_eq_true rfl⟩ dX5_days_68 ⟨Nat.zero_le _, Nat.zero_le _⟩) hW (fun r38 u38 H locs hp38 hW => ?_)
            obtain ⟨hru38, hgu38, hau38, hsu38⟩ := hp38
            refine lv_istore (lv' := [(7, .int r38), (6, .int 0), (0, .ref (ad 0)), (1, .int x), (2, .int a), (3, .int i), (4, .int n), (5, .int w)]) hx hb dX5_days_71 hl (by decide) rfl (fun ls hl => ?_)
            refine lv_iload hx hb dX5_days_73 (lv_at hl 0 rfl) ?_
            refine lv_if_eq (tgt := 81) hx hb dX5_days_75 (by decide) (fun c_75_39 => ?_) (fun c_75_39 => ?_)
            · exfalso
              have h8 := hru38.symm.trans c_75_39
              obtain ⟨_, _, _, _, _, _, _, _, h7, _⟩ := rs0 hlen h8
              exact h7 rfl
            · refine lv_iload hx hb dX5_days_78 (lv_at hl 0 rfl) ?_
              have hF : F_days t P R x a i n w = ((rsF t P R x a i n 0).1, flt t (rsF t P R x a i n 0).2) := by unfold F_days; rw [hbI, if_pos (by rw [← hru38]; exact c_75_39)]
              exact r_ireti hC hr hlk hW hQ (⟨by rw [hF]; exact hru38, by rw [hF]; exact la_rs hgu38 hau38⟩) dX5_days_80
          · exact absurd c_60_37 (by decide)
      · have c_31_33 := bI_nz c_31_33
        refine lv_iconst (v := 1) hx hb dX5_days_34 (by decide) ?_
        refine lv_goto (tgt := 39) hx hb dX5_days_35 (by decide) ?_
        refine lv_istore (lv' := [(6, .int 1), (0, .ref (ad 0)), (1, .int x), (2, .int a), (3, .int i), (4, .int n), (5, .int w)]) hx hb dX5_days_39 hl (by decide) rfl (fun ls hl => ?_)
        refine lv_aload_n hx hb dX5_days_41 rfl (lv_at hl 1 rfl) ?_
        refine lv_iload_n hx hb dX5_days_42 rfl (lv_at hl 2 rfl) ?_
        refine lv_iload_n hx hb dX5_days_43 rfl (lv_at hl 3 rfl) ?_
        refine lv_iload_n hx hb dX5_days_44 rfl (lv_at hl 4 rfl) ?_
        refine lv_iload hx hb dX5_days_45 (lv_at hl 5 rfl) ?_
        refine lv_iload hx hb dX5_days_47 (lv_at hl 5 rfl) ?_
        refine lv_iconst (v := 0) hx hb dX5_days_49 (by decide) ?_
        refine lv_bipush (v := 30) hx hb dX5_days_50 (by decide) ?_
        refine fin_pi (run_P (rest := [.int n, .int i, .int a, .int x, .ref (ad 0)]) hC hW.2.2.2.2.2 (m_X5_isIn l n 0 30) k_yX5_isIn ⟨rfl, rfl⟩ q_ml_RX5_86 rfl hl.1 rfl (Nat.le_of_ble_eq_true rfl) ⟨Nat.le_of_ble_eq_true rfl, Nat.le_of_ble_eq_true rfl⟩ dX5_days_52 ⟨Nat.zero_le _, Nat.zero_le _⟩) (fun r hr9 => ?_)
        refine r_top hr9 ?_
        refine lv_if_eq (tgt := 67) hx hb dX5_days_55 (by decide) (fun c_55_40 => ?_) (fun c_55_40 => ?_)
        · have c_55_40 := bI_z.mp c_55_40
          refine lv_iconst (v := 0) hx hb dX5_days_67 (by decide) ?_
          have hbI : bI (dayP n w) = 0 := (bI_f (fun h9 => c_55_40 h9.1)).symm
          refine fin_i (run_V (rest := []) hC hW (m_X5_readSteps l D cs ad t P R x a i n 0 hP (by omega) hR (by omega) hlen (fun h => absurd rfl h)) k_yX5_readSteps ⟨rfl, rfl⟩ q_ml_RX5_115 eX_0 rfl rfl hl.1 rfl (Nat.le_of_ble_eq_true rfl) ⟨Nat.le_of_ble_eq_true rfl, Nat.le_of_ble_eq_true rfl⟩ dX5_days_68 ⟨Nat.zero_le _, Nat.zero_le _⟩) hW (fun r41 u41 H locs hp41 hW => ?_)
          obtain ⟨hru41, hgu41, hau41, hsu41⟩ := hp41
          refine lv_istore (lv' := [(7, .int r41), (6, .int 1), (0, .ref (ad 0)), (1, .int x), (2, .int a), (3, .int i), (4, .int n), (5, .int w)]) hx hb dX5_days_71 hl (by decide) rfl (fun ls hl => ?_)
          refine lv_iload hx hb dX5_days_73 (lv_at hl 0 rfl) ?_
          refine lv_if_eq (tgt := 81) hx hb dX5_days_75 (by decide) (fun c_75_42 => ?_) (fun c_75_42 => ?_)
          · exfalso
            have h8 := hru41.symm.trans c_75_42
            obtain ⟨_, _, _, _, _, _, _, _, h7, _⟩ := rs0 hlen h8
            exact h7 rfl
          · refine lv_iload hx hb dX5_days_78 (lv_at hl 0 rfl) ?_
            have hF : F_days t P R x a i n w = ((rsF t P R x a i n 0).1, flt t (rsF t P R x a i n 0).2) := by unfold F_days; rw [hbI, if_pos (by rw [← hru41]; exact c_75_42)]
            exact r_ireti hC hr hlk hW hQ (⟨by rw [hF]; exact hru41, by rw [hF]; exact la_rs hgu41 hau41⟩) dX5_days_80
        · have c_55_40 := bI_nz c_55_40
          refine lv_iload hx hb dX5_days_58 (lv_at hl 0 rfl) ?_
          refine lv_if_eq (tgt := 67) hx hb dX5_days_60 (by decide) (fun c_60_43 => ?_) (fun c_60_43 => ?_)
          · exact absurd c_60_43 (by decide)
          · refine lv_iconst (v := 1) hx hb dX5_days_63 (by decide) ?_
            refine lv_goto (tgt := 68) hx hb dX5_days_64 (by decide) ?_
            have hbI : bI (dayP n w) = 1 := (bI_t ⟨c_55_40, Or.inr (Or.inr c_31_33)⟩).symm
            refine fin_i (run_V (rest := []) hC hW (m_X5_readSteps l D cs ad t P R x a i n 1 hP (by omega) hR (by omega) hlen (fun _ => c_55_40)) k_yX5_readSteps ⟨rfl, rfl⟩ q_ml_RX5_115 eX_0 rfl rfl hl.1 rfl (Nat.le_of_ble_eq_true rfl) ⟨Nat.le_of_ble_eq_true rfl, Nat.le_of_ble_eq_true rfl⟩ dX5_days_68 ⟨Nat.zero_le _, Nat.zero_le _⟩) hW (fun r44 u44 H locs hp44 hW => ?_)
            obtain ⟨hru44, hgu44, hau44, hsu44⟩ := hp44
            refine lv_istore (lv' := [(7, .int r44), (6, .int 1), (0, .ref (ad 0)), (1, .int x), (2, .int a), (3, .int i), (4, .int n), (5, .int w)]) hx hb dX5_days_71 hl (by decide) rfl (fun ls hl => ?_)
            refine lv_iload hx hb dX5_days_73 (lv_at hl 0 rfl) ?_
            refine lv_if_eq (tgt := 81) hx hb dX5_days_75 (by decide) (fun c_75_45 => ?_) (fun c_75_45 => ?_)
            · have hrz : r44 = 0 := c_75_45
              have hr0 := hru44.symm.trans hrz
              obtain ⟨k, i0, n0, hk4, rfl, rfl, rfl, hin60, -, hP0, hst, hrs2⟩ := rs0 hlen hr0
              have hla0 : LA (flt t 0) u44 := la_rs (by rw [← hrs2]; exact hgu44) hau44
              have hstp := stp_ok (t := t) hk4 (by omega) hR5 hst
              have hsu : ∀ z, z < n0 → u44.2 12 z = nI (stpF t (nI k) (nI i0) z) ∧ (stpF t (nI k) (nI i0) z = 5 ∨ stpF t (nI k) (nI i0) z < R) := fun z hz => ⟨(hsu44 hrz z (by rw [nI_clamp (by omega)]; exact hz)).trans (by rw [nI_clamp (by omega), nI_clamp (by omega)]; exact (hstp z hz).1), (hstp z hz).2⟩
              have hn30 : n0 ≤ 30 := (nI_leI (a := n0) (b := 30) (by omega) (by decide)).mp c_55_40.2
              refine lv_aload_n hx hb dX5_days_81 rfl (lv_at hl 2 rfl) ?_
              refine lv_iload hx hb dX5_days_82 (lv_at hl 6 rfl) ?_
              refine fin_i (run_V (rest := []) hC hW (m_X5_firstWrong l D cs ad u44 P R (stpF t (nI k) (nI i0)) n0 ((congrFun hgu44 2).trans hP) hP8 ((congrFun hgu44 3).trans hR) hR5 hn30 hsu) k_yX5_firstWrong ⟨rfl, rfl⟩ q_ml_RX5_119 eX_0 rfl rfl hl.1 rfl (Nat.le_of_ble_eq_true rfl) ⟨Nat.le_of_ble_eq_true rfl, Nat.le_of_ble_eq_true rfl⟩ dX5_days_84 ⟨Nat.zero_le _, Nat.zero_le _⟩) hW (fun r46 u46 H locs hp46 hW => ?_)
              obtain ⟨hru46, hgu46, heu46⟩ := hp46
              rw [show hX P u44 = hX P t from hla0.eh, show beg u44 = beg t from hla0.eb] at hru46 heu46
              have hla1 : LA (flt t 0) u46 := hla0.tr hgu46.s.la
              refine r_top hru46 ?_
              refine lv_istore (lv' := [(8, .int ((fw (hX P t) (stpF t (nI k) (nI i0)) n0 0 (beg t)).1)), (7, .int r44), (6, .int 1), (0, .ref (ad 0)), (1, .int (nI k)), (2, .int a), (3, .int (nI i0)), (4, .int (nI n0)), (5, .int w)]) hx hb dX5_days_87 hl (by decide) rfl (fun ls hl => ?_)
              refine lv_iload hx hb dX5_days_89 (lv_at hl 8 rfl) ?_
              refine lv_iconst (v := 1) hx hb dX5_days_91 (by decide) ?_
              refine lv_icmp_ne (tgt := 98) hx hb dX5_days_92 (by decide) (fun c_92_47 => ?_) (fun c_92_47 => ?_)
              · refine lv_iload hx hb dX5_days_98 (lv_at hl 0 rfl) ?_
                refine lv_bipush (v := (-9)) hx hb dX5_days_100 (by decide) ?_
                refine lv_icmp_eq (tgt := 111) hx hb dX5_days_102 (by decide) (fun c_102_48 => ?_) (fun c_102_48 => ?_)
                · refine lv_iload hx hb dX5_days_111 (lv_at hl 8 rfl) ?_
                  refine lv_if_ne (tgt := 126) hx hb dX5_days_113 (by decide) (fun c_113_49 => ?_) (fun c_113_49 => ?_)
                  · refine lv_iload hx hb dX5_days_126 (lv_at hl 8 rfl) ?_
                    refine lv_iconst (v := 2) hx hb dX5_days_128 (by decide) ?_
                    refine lv_icmp_ne (tgt := 139) hx hb dX5_days_129 (by decide) (fun c_129_50 => ?_) (fun c_129_50 => ?_)
                    · refine lv_iload hx hb dX5_days_139 (lv_at hl 8 rfl) ?_
                      refine lv_bipush (v := 20) hx hb dX5_days_141 (by decide) ?_
                      refine lv_icmp_ge (tgt := 163) hx hb dX5_days_143 (by decide) (fun c_143_51 => ?_) (fun c_143_51 => ?_)
                      · refine lv_aload_n hx hb dX5_days_163 rfl (lv_at hl 3 rfl) ?_
                        refine gX_G_climbs hC hW q_fl_RX5_34 dX5_days_164 ?_
                        refine lv_iconst (v := 0) hx hb dX5_days_167 (by decide) ?_
                        refine r_aldN (t0 := 2) (j := 0) hC hW eX_11 rfl rfl (by omega) (by decide) rfl dX5_days_168 ?_
                        refine lv_iload hx hb dX5_days_169 (lv_at hl 8 rfl) ?_
                        refine lv_bipush (v := 20) hx hb dX5_days_171 (by decide) ?_
                        refine lv_isub hx hb dX5_days_173 ?_
                        refine fin_i (run_V (rest := []) hC hW (m_X0_heightOf l D cs ad u46 0 (by omega) R (w - 20) ((hla1.1 3 (by omega)).trans hR) (by omega)) k_yX0_heightOf ⟨rfl, rfl⟩ q_ml_RX5_131 (eX_C 0 (by omega)) rfl rfl hl.1 rfl (Nat.le_of_ble_eq_true rfl) ⟨Nat.le_of_ble_eq_true rfl, Nat.le_of_ble_eq_true rfl⟩ dX5_days_174 ⟨Nat.zero_le _, Nat.zero_le _⟩) hW (fun r52 u52 H locs hp52 hW => ?_)
                        have hW := hx_congr hW hp52.2
                        refine r_top hp52.1 ?_
                        refine r_top (y := if inN (w - 20) R then (fw (hX P t) (stpF t (nI k) (nI i0)) n0 0 (beg t)).2.2.2.1 (w - 20).toNatClampNeg else -9) (by rw [show u46.2 (25 + 4 * 0) = (fw (hX P t) (stpF t (nI k) (nI i0)) n0 0 (beg t)).2.2.2.1 from congrArg (fun q => q.2.2.1) heu46]) ?_
                        have hF : F_days t P R (nI k) a (nI i0) (nI n0) w = (if inN (w - 20) R then (fw (hX P t) (stpF t (nI k) (nI i0)) n0 0 (beg t)).2.2.2.1 (w - 20).toNatClampNeg else -9, flt t 0) := by unfold F_days dayV; rw [hbI, if_neg (not_not_intro hr0), nI_clamp (show n0 < 2 ^ 31 by omega), if_neg c_92_47, if_neg (not_not_intro c_102_48), if_neg c_113_49, if_neg c_129_50, if_neg (Int32.not_lt.mpr c_143_51)]
                        exact r_ireti hC hr hlk hW hQ (⟨by rw [hF], by rw [hF]; exact hla1⟩) dX5_days_177
                      · refine lv_aload_n hx hb dX5_days_146 rfl (lv_at hl 3 rfl) ?_
                        refine gX_G_climbs hC hW q_fl_RX5_34 dX5_days_147 ?_
                        refine lv_iconst (v := 0) hx hb dX5_days_150 (by decide) ?_
                        refine r_aldN (t0 := 2) (j := 0) hC hW eX_11 rfl rfl (by omega) (by decide) rfl dX5_days_151 ?_
                        refine lv_iload hx hb dX5_days_152 (lv_at hl 8 rfl) ?_
                        refine lv_bipush (v := 10) hx hb dX5_days_154 (by decide) ?_
                        refine lv_isub hx hb dX5_days_156 ?_
                        refine fin_i (run_V (rest := []) hC hW (m_X0_scratchesOf l D cs ad u46 0 (by omega) P (w - 10) ((hla1.1 2 (by omega)).trans hP) (by omega)) k_yX0_scratchesOf ⟨rfl, rfl⟩ q_ml_RX5_128 (eX_C 0 (by omega)) rfl rfl hl.1 rfl (Nat.le_of_ble_eq_true rfl) ⟨Nat.le_of_ble_eq_true rfl, Nat.le_of_ble_eq_true rfl⟩ dX5_days_157 ⟨Nat.zero_le _, Nat.zero_le _⟩) hW (fun r53 u53 H locs hp53 hW => ?_)
                        have hW := hx_congr hW hp53.2
                        refine r_top hp53.1 ?_
                        refine r_top (y := if inN (w - 10) P then (fw (hX P t) (stpF t (nI k) (nI i0)) n0 0 (beg t)).2.1 (w - 10).toNatClampNeg else -9) (by rw [show u46.2 (23 + 4 * 0) = (fw (hX P t) (stpF t (nI k) (nI i0)) n0 0 (beg t)).2.1 from congrArg (fun q => q.1) heu46]) ?_
                        refine lv_goto (tgt := 177) hx hb dX5_days_160 (by decide) ?_
                        have hF : F_days t P R (nI k) a (nI i0) (nI n0) w = (if inN (w - 10) P then (fw (hX P t) (stpF t (nI k) (nI i0)) n0 0 (beg t)).2.1 (w - 10).toNatClampNeg else -9, flt t 0) := by unfold F_days dayV; rw [hbI, if_neg (not_not_intro hr0), nI_clamp (show n0 < 2 ^ 31 by omega), if_neg c_92_47, if_neg (not_not_intro c_102_48), if_neg c_113_49, if_neg c_129_50, if_pos (Int32.not_le.mp c_143_51)]
                        exact r_ireti hC hr hlk hW hQ (⟨by rw [hF], by rw [hF]; exact hla1⟩) dX5_days_177
                    · refine lv_aload_n hx hb dX5_days_132 rfl (lv_at hl 3 rfl) ?_
                      refine lv_iload hx hb dX5_days_133 (lv_at hl 7 rfl) ?_
                      refine fin_i (run_V (rest := []) hC hW (m_X5_firstUp l D cs ad u46 P R (stpF t (nI k) (nI i0)) n0 ((hla1.1 2 (by omega)).trans hP) hP8 ((hla1.1 3 (by omega)).trans hR) hR5 hn30 (fun z hz => by rw [hgu46.2 12 (by omega) (by omega) (by omega)]; exact hsu z hz)) k_yX5_firstUp ⟨rfl, rfl⟩ q_ml_RX5_125 eX_0 rfl rfl hl.1 rfl (Nat.le_of_ble_eq_true rfl) ⟨Nat.le_of_ble_eq_true rfl, Nat.le_of_ble_eq_true rfl⟩ dX5_days_135 ⟨Nat.zero_le _, Nat.zero_le _⟩) hW (fun r54 u54 H locs hp54 hW => ?_)
                      obtain ⟨hru54, hgu54⟩ := hp54
                      rw [show hX P u46 = hX P t from hla1.eh, show beg u46 = beg t from hla1.eb] at hru54
                      have hla1 : LA (flt t 0) u54 := hla1.tr hgu54.s.la
                      refine r_top hru54 ?_
                      have hF : F_days t P R (nI k) a (nI i0) (nI n0) w = (fu (hX P t) (stpF t (nI k) (nI i0)) n0 0 (beg t), flt t 0) := by unfold F_days dayV; rw [hbI, if_neg (not_not_intro hr0), nI_clamp (show n0 < 2 ^ 31 by omega), if_neg c_92_47, if_neg (not_not_intro c_102_48), if_neg c_113_49, if_pos c_129_50]
                      exact r_ireti hC hr hlk hW hQ (⟨by rw [hF], by rw [hF]; exact hla1⟩) dX5_days_138
                  · refine lv_aload_n hx hb dX5_days_116 rfl (lv_at hl 3 rfl) ?_
                    refine gX_G_climbs hC hW q_fl_RX5_34 dX5_days_117 ?_
                    refine lv_iconst (v := 0) hx hb dX5_days_120 (by decide) ?_
                    refine r_aldN (t0 := 2) (j := 0) hC hW eX_11 rfl rfl (by omega) (by decide) rfl dX5_days_121 ?_
                    refine gX_C_up 0 (by omega) hC hW q_fl_RX5_122 dX5_days_122 ?_
                    refine r_top (y := (fw (hX P t) (stpF t (nI k) (nI i0)) n0 0 (beg t)).2.2.2.2) (congrArg (fun q => q.2.2.2) heu46) ?_
                    have hF : F_days t P R (nI k) a (nI i0) (nI n0) w = ((fw (hX P t) (stpF t (nI k) (nI i0)) n0 0 (beg t)).2.2.2.2, flt t 0) := by unfold F_days dayV; rw [hbI, if_neg (not_not_intro hr0), nI_clamp (show n0 < 2 ^ 31 by omega), if_neg c_92_47, if_neg (not_not_intro c_102_48), if_pos c_113_49]
                    exact r_ireti hC hr hlk hW hQ (⟨by rw [hF], by rw [hF]; exact hla1⟩) dX5_days_125
                · refine lv_bipush (v := (-100)) hx hb dX5_days_105 (by decide) ?_
                  refine lv_iload hx hb dX5_days_107 (lv_at hl 0 rfl) ?_
                  refine lv_isub hx hb dX5_days_109 ?_
                  have hF : F_days t P R (nI k) a (nI i0) (nI n0) w = ((-100) - ((fw (hX P t) (stpF t (nI k) (nI i0)) n0 0 (beg t)).1), flt t 0) := by unfold F_days dayV; rw [hbI, if_neg (not_not_intro hr0), nI_clamp (show n0 < 2 ^ 31 by omega), if_neg c_92_47, if_pos c_102_48]
                  exact r_ireti hC hr hlk hW hQ (⟨by rw [hF], by rw [hF]; exact hla1⟩) dX5_days_110
              · refine lv_iload hx hb dX5_days_95 (lv_at hl 0 rfl) ?_
                have hF : F_days t P R (nI k) a (nI i0) (nI n0) w = ((fw (hX P t) (stpF t (nI k) (nI i0)) n0 0 (beg t)).1, flt t 0) := by unfold F_days dayV; rw [hbI, if_neg (not_not_intro hr0), nI_clamp (show n0 < 2 ^ 31 by omega), if_pos c_92_47]
                exact r_ireti hC hr hlk hW hQ (⟨by rw [hF], by rw [hF]; exact hla1⟩) dX5_days_97
            · refine lv_iload hx hb dX5_days_78 (lv_at hl 0 rfl) ?_
              have hF : F_days t P R x a i n w = ((rsF t P R x a i n 1).1, flt t (rsF t P R x a i n 1).2) := by unfold F_days; rw [hbI, if_pos (by rw [← hru44]; exact c_75_45)]
              exact r_ireti hC hr hlk hW hQ (⟨by rw [hF]; exact hru44, by rw [hF]; exact la_rs hgu44 hau44⟩) dX5_days_80
set_option maxRecDepth 100000 in
set_option maxHeartbeats 4000000 in
theorem m_X5_nails (l : Launch) (D : va_G) (cs : CS3) (ad : Nat → Nat) (t : St) (P R C : Nat) (r x a i n : Int32) (hB : BW t P R C): CT l yX5_nails cX5_nails 7 (some .int) (rmk 6 194) (wX cs ad) (tyX cs) D [.ref (ad 0), .int r, .int x, .int a, .int i, .int n] t (va_Qi (fun z u => z = (F_set t P R C 6 9 (inN r R) r.toNatClampNeg x a i n).1 ∧ LA (F_set t P R C 6 9 (inN r R) r.toNatClampNeg x a i n).2 u)) := by
  refine CT.of (own := RX5) (by decide) rfl (Nat.le_of_ble_eq_true rfl) ?_
  intro p9 e9 s m9 args below meth c9 A Q hC hr hlk hW hQ ls hl
  obtain ⟨hx, hb, hml, hown, hts⟩ := id hC
  have hl : lv_has ls 7 [(0, .ref (ad 0)), (1, .int r), (2, .int x), (3, .int a), (4, .int i), (5, .int n)] := hl
  obtain ⟨hP, hP8, hR, hR5, hc4, hC8, hlen⟩ := hB
  refine lv_aload_n hx hb dX5_nails_0 rfl (lv_at hl 0 rfl) ?_
  refine lv_aload_n hx hb dX5_nails_1 rfl (lv_at hl 0 rfl) ?_
  refine lv_iload_n hx hb dX5_nails_2 rfl (lv_at hl 1 rfl) ?_
  refine fin_i (run_V (rest := [.ref (ad 0)]) hC hW (m_X5_isRider l D cs ad t R r hR hR5) k_yX5_isRider ⟨rfl, rfl⟩ q_ml_RX5_96 eX_0 rfl rfl hl.1 rfl (Nat.le_of_ble_eq_true rfl) ⟨Nat.le_of_ble_eq_true rfl, Nat.le_of_ble_eq_true rfl⟩ dX5_nails_3 ⟨Nat.zero_le _, Nat.zero_le _⟩) hW (fun r1 u1 H locs hp1 hW => ?_)
  have hW := hx_congr hW hp1.2
  refine r_top hp1.1 ?_
  refine lv_iload_n hx hb dX5_nails_6 rfl (lv_at hl 2 rfl) ?_
  refine lv_iload_n hx hb dX5_nails_7 rfl (lv_at hl 3 rfl) ?_
  refine lv_iload hx hb dX5_nails_8 (lv_at hl 4 rfl) ?_
  refine lv_iload hx hb dX5_nails_10 (lv_at hl 5 rfl) ?_
  refine lv_iconst (v := 1) hx hb dX5_nails_12 (by decide) ?_
  refine fin_i (run_V (rest := []) hC hW (m_X5_readSeen l D cs ad t P R (bI (inN r R)) x a i n 1 hP hP8 hR hR5 hlen) k_yX5_readSeen ⟨rfl, rfl⟩ q_ml_RX5_168 eX_0 rfl rfl hl.1 rfl (Nat.le_of_ble_eq_true rfl) ⟨Nat.le_of_ble_eq_true rfl, Nat.le_of_ble_eq_true rfl⟩ dX5_nails_13 ⟨Nat.zero_le _, Nat.zero_le _⟩) hW (fun r2 u2 H locs hp2 hW => ?_)
  obtain ⟨hru2, hgu2, hau2, hsu2⟩ := hp2
  refine lv_istore (lv' := [(6, .int r2), (0, .ref (ad 0)), (1, .int r), (2, .int x), (3, .int a), (4, .int i), (5, .int n)]) hx hb dX5_nails_16 hl (by decide) rfl (fun ls hl => ?_)
  refine lv_iload hx hb dX5_nails_18 (lv_at hl 0 rfl) ?_
  refine lv_if_eq (tgt := 28) hx hb dX5_nails_20 (by decide) (fun c_20_3 => ?_) (fun c_20_3 => ?_)
  · have hrz : r2 = 0 := c_20_3
    obtain ⟨hkn, hr0, hrn⟩ := rn0 (hru2.symm.trans hrz)
    have hkn := bI_nz hkn
    obtain ⟨q_r, hq_r, rfl⟩ := inN_ex hkn (by omega)
    rw [hrn] at hgu2
    obtain ⟨k, i0, n0, hk4, rfl, rfl, rfl, hin60, -, hP0, hst, hrs2⟩ := rs0 hlen hr0
    have hla0 : LA (flt t 0) u2 := la_rs (by rw [← hrs2]; exact hgu2) hau2
    have hstp := stp_ok (t := t) hk4 (by omega) hR5 hst
    have hsu : ∀ z, z < n0 → u2.2 12 z = nI (stpF t (nI k) (nI i0) z) ∧ (stpF t (nI k) (nI i0) z = 5 ∨ stpF t (nI k) (nI i0) z < R) := fun z hz => ⟨(hsu2 hrz z (by rw [nI_clamp (by omega)]; exact hz)).trans (by rw [nI_clamp (by omega), nI_clamp (by omega)]; exact (hstp z hz).1), (hstp z hz).2⟩
    have hn30 : n0 ≤ 30 := by obtain ⟨_, _, _, _, _, _, _, _, h7, _⟩ := rs0 hlen hr0; exact (nI_leI (a := n0) (b := 30) (by omega) (by decide)).mp (bI_nz h7).2.2
    refine lv_aload_n hx hb dX5_nails_28 rfl (lv_at hl 1 rfl) ?_
    refine lv_iconst (v := 1) hx hb dX5_nails_29 (by decide) ?_
    refine lv_iload_n hx hb dX5_nails_30 rfl (lv_at hl 2 rfl) ?_
    refine lv_bipush (v := 9) hx hb dX5_nails_31 (by decide) ?_
    refine lv_iload hx hb dX5_nails_33 (lv_at hl 6 rfl) ?_
    refine fin_i (run_V (rest := []) hC hW (m_X5_setSeenWith1 l D cs ad u2 P R C q_r 9 (stpF t (nI k) (nI i0)) n0 ((congrFun hgu2 2).trans hP) hP8 ((congrFun hgu2 3).trans hR) hR5 ((hla0.1 4 (by omega)).trans hc4) hC8 (by omega) (by omega) hn30 hsu) k_yX5_setSeenWith ⟨rfl, rfl⟩ q_ml_RX5_176 eX_0 rfl rfl hl.1 rfl (Nat.le_of_ble_eq_true rfl) ⟨Nat.le_of_ble_eq_true rfl, Nat.le_of_ble_eq_true rfl⟩ dX5_nails_35 ⟨Nat.zero_le _, Nat.zero_le _⟩) hW (fun r4 u4 H locs hp4 hW => ?_)
    obtain ⟨hru4, hgu4⟩ := hp4
    have hla1 : LA (flt t 0) u4 := hla0.tr hgu4.s.la
    refine r_top (hru4.trans (bits_la hla0)) ?_
    have hF : F_set t P R C 6 9 (inN (nI q_r) R) (nI q_r).toNatClampNeg (nI k) a (nI i0) (nI n0) = (bitsF (fun v => bI (seenP P R C (exS t 6 q_r (nI v)) (stpF t (nI k) (nI i0)) n0)) (9 + 1), flt t 0) := by unfold F_set; rw [if_neg (not_not_intro (by rw [hrn]; exact hr0)), nI_clamp (show n0 < 2 ^ 31 by omega), nI_clamp (show q_r < 2 ^ 31 by omega)]
    exact r_ireti hC hr hlk hW hQ (⟨by rw [hF]; rfl, by rw [hF]; exact hla1⟩) dX5_nails_38
  · refine lv_iload hx hb dX5_nails_23 (lv_at hl 0 rfl) ?_
    refine lv_goto (tgt := 38) hx hb dX5_nails_25 (by decide) ?_
    have hF : F_set t P R C 6 9 (inN r R) r.toNatClampNeg x a i n = ((rnF t P R (bI (inN r R)) x a i n 1).1, flt t (rnF t P R (bI (inN r R)) x a i n 1).2) := by unfold F_set; rw [if_pos (by rw [← hru2]; exact c_20_3)]
    exact r_ireti hC hr hlk hW hQ (⟨by rw [hF]; exact hru2, by rw [hF]; exact la_rs hgu2 hau2⟩) dX5_nails_38
set_option maxRecDepth 100000 in
set_option maxHeartbeats 4000000 in
theorem m_X5_slicks (l : Launch) (D : va_G) (cs : CS3) (ad : Nat → Nat) (t : St) (P R C : Nat) (p x a i n : Int32) (hB : BW t P R C): CT l yX5_slicks cX5_slicks 7 (some .int) (rmk 6 194) (wX cs ad) (tyX cs) D [.ref (ad 0), .int p, .int x, .int a, .int i, .int n] t (va_Qi (fun z u => z = (F_set t P R C 2 9 (inN p P) p.toNatClampNeg x a i n).1 ∧ LA (F_set t P R C 2 9 (inN p P) p.toNatClampNeg x a i n).2 u)) := by
  refine CT.of (own := RX5) (by decide) rfl (Nat.le_of_ble_eq_true rfl) ?_
  intro p9 e9 s m9 args below meth c9 A Q hC hr hlk hW hQ ls hl
  obtain ⟨hx, hb, hml, hown, hts⟩ := id hC
  have hl : lv_has ls 7 [(0, .ref (ad 0)), (1, .int p), (2, .int x), (3, .int a), (4, .int i), (5, .int n)] := hl
  obtain ⟨hP, hP8, hR, hR5, hc4, hC8, hlen⟩ := hB
  refine lv_aload_n hx hb dX5_slicks_0 rfl (lv_at hl 0 rfl) ?_
  refine lv_aload_n hx hb dX5_slicks_1 rfl (lv_at hl 0 rfl) ?_
  refine lv_iload_n hx hb dX5_slicks_2 rfl (lv_at hl 1 rfl) ?_
  refine fin_i (run_V (rest := [.ref (ad 0)]) hC hW (m_X5_isPace l D cs ad t P p hP hP8) k_yX5_isPace ⟨rfl, rfl⟩ q_ml_RX5_83 eX_0 rfl rfl hl.1 rfl (Nat.le_of_ble_eq_true rfl) ⟨Nat.le_of_ble_eq_true rfl, Nat.le_of_ble_eq_true rfl⟩ dX5_slicks_3 ⟨Nat.zero_le _, Nat.zero_le _⟩) hW (fun r1 u1 H locs hp1 hW => ?_)
  have hW := hx_congr hW hp1.2
  refine r_top hp1.1 ?_
  refine lv_iload_n hx hb dX5_slicks_6 rfl (lv_at hl 2 rfl) ?_
  refine lv_iload_n hx hb dX5_slicks_7 rfl (lv_at hl 3 rfl) ?_
  refine lv_iload hx hb dX5_slicks_8 (lv_at hl 4 rfl) ?_
  refine lv_iload hx hb dX5_slicks_10 (lv_at hl 5 rfl) ?_
  refine lv_iconst (v := 1) hx hb dX5_slicks_12 (by decide) ?_
  refine fin_i (run_V (rest := []) hC hW (m_X5_readSeen l D cs ad t P R (bI (inN p P)) x a i n 1 hP hP8 hR hR5 hlen) k_yX5_readSeen ⟨rfl, rfl⟩ q_ml_RX5_168 eX_0 rfl rfl hl.1 rfl (Nat.le_of_ble_eq_true rfl) ⟨Nat.le_of_ble_eq_true rfl, Nat.le_of_ble_eq_true rfl⟩ dX5_slicks_13 ⟨Nat.zero_le _, Nat.zero_le _⟩) hW (fun r2 u2 H locs hp2 hW => ?_)
  obtain ⟨hru2, hgu2, hau2, hsu2⟩ := hp2
  refine lv_istore (lv' := [(6, .int r2), (0, .ref (ad 0)), (1, .int p), (2, .int x), (3, .int a), (4, .int i), (5, .int n)]) hx hb dX5_slicks_16 hl (by decide) rfl (fun ls hl => ?_)
  refine lv_iload hx hb dX5_slicks_18 (lv_at hl 0 rfl) ?_
  refine lv_if_eq (tgt := 28) hx hb dX5_slicks_20 (by decide) (fun c_20_3 => ?_) (fun c_20_3 => ?_)
  · have hrz : r2 = 0 := c_20_3
    obtain ⟨hkn, hr0, hrn⟩ := rn0 (hru2.symm.trans hrz)
    have hkn := bI_nz hkn
    obtain ⟨q_p, hq_p, rfl⟩ := inN_ex hkn (by omega)
    rw [hrn] at hgu2
    obtain ⟨k, i0, n0, hk4, rfl, rfl, rfl, hin60, -, hP0, hst, hrs2⟩ := rs0 hlen hr0
    have hla0 : LA (flt t 0) u2 := la_rs (by rw [← hrs2]; exact hgu2) hau2
    have hstp := stp_ok (t := t) hk4 (by omega) hR5 hst
    have hsu : ∀ z, z < n0 → u2.2 12 z = nI (stpF t (nI k) (nI i0) z) ∧ (stpF t (nI k) (nI i0) z = 5 ∨ stpF t (nI k) (nI i0) z < R) := fun z hz => ⟨(hsu2 hrz z (by rw [nI_clamp (by omega)]; exact hz)).trans (by rw [nI_clamp (by omega), nI_clamp (by omega)]; exact (hstp z hz).1), (hstp z hz).2⟩
    have hn30 : n0 ≤ 30 := by obtain ⟨_, _, _, _, _, _, _, _, h7, _⟩ := rs0 hlen hr0; exact (nI_leI (a := n0) (b := 30) (by omega) (by decide)).mp (bI_nz h7).2.2
    refine lv_aload_n hx hb dX5_slicks_28 rfl (lv_at hl 1 rfl) ?_
    refine lv_iconst (v := 2) hx hb dX5_slicks_29 (by decide) ?_
    refine lv_iload_n hx hb dX5_slicks_30 rfl (lv_at hl 2 rfl) ?_
    refine lv_bipush (v := 9) hx hb dX5_slicks_31 (by decide) ?_
    refine lv_iload hx hb dX5_slicks_33 (lv_at hl 6 rfl) ?_
    refine fin_i (run_V (rest := []) hC hW (m_X5_setSeenWith2 l D cs ad u2 P R C q_p 9 (stpF t (nI k) (nI i0)) n0 ((congrFun hgu2 2).trans hP) hP8 ((congrFun hgu2 3).trans hR) hR5 ((hla0.1 4 (by omega)).trans hc4) hC8 (by omega) (by omega) hn30 hsu) k_yX5_setSeenWith ⟨rfl, rfl⟩ q_ml_RX5_176 eX_0 rfl rfl hl.1 rfl (Nat.le_of_ble_eq_true rfl) ⟨Nat.le_of_ble_eq_true rfl, Nat.le_of_ble_eq_true rfl⟩ dX5_slicks_35 ⟨Nat.zero_le _, Nat.zero_le _⟩) hW (fun r4 u4 H locs hp4 hW => ?_)
    obtain ⟨hru4, hgu4⟩ := hp4
    have hla1 : LA (flt t 0) u4 := hla0.tr hgu4.s.la
    refine r_top (hru4.trans (bits_la hla0)) ?_
    have hF : F_set t P R C 2 9 (inN (nI q_p) P) (nI q_p).toNatClampNeg (nI k) a (nI i0) (nI n0) = (bitsF (fun v => bI (seenP P R C (exS t 2 q_p (nI v)) (stpF t (nI k) (nI i0)) n0)) (9 + 1), flt t 0) := by unfold F_set; rw [if_neg (not_not_intro (by rw [hrn]; exact hr0)), nI_clamp (show n0 < 2 ^ 31 by omega), nI_clamp (show q_p < 2 ^ 31 by omega)]
    exact r_ireti hC hr hlk hW hQ (⟨by rw [hF]; rfl, by rw [hF]; exact hla1⟩) dX5_slicks_38
  · refine lv_iload hx hb dX5_slicks_23 (lv_at hl 0 rfl) ?_
    refine lv_goto (tgt := 38) hx hb dX5_slicks_25 (by decide) ?_
    have hF : F_set t P R C 2 9 (inN p P) p.toNatClampNeg x a i n = ((rnF t P R (bI (inN p P)) x a i n 1).1, flt t (rnF t P R (bI (inN p P)) x a i n 1).2) := by unfold F_set; rw [if_pos (by rw [← hru2]; exact c_20_3)]
    exact r_ireti hC hr hlk hW hQ (⟨by rw [hF]; exact hru2, by rw [hF]; exact la_rs hgu2 hau2⟩) dX5_slicks_38
set_option maxRecDepth 100000 in
set_option maxHeartbeats 4000000 in
theorem m_X5_kinds (l : Launch) (D : va_G) (cs : CS3) (ad : Nat → Nat) (t : St) (P R C : Nat) (r x a i n : Int32) (hB : BW t P R C): CT l yX5_kinds cX5_kinds 7 (some .int) (rmk 6 194) (wX cs ad) (tyX cs) D [.ref (ad 0), .int r, .int x, .int a, .int i, .int n] t (va_Qi (fun z u => z = (F_set t P R C 4 2 (inN r R) r.toNatClampNeg x a i n).1 ∧ LA (F_set t P R C 4 2 (inN r R) r.toNatClampNeg x a i n).2 u)) := by
  refine CT.of (own := RX5) (by decide) rfl (Nat.le_of_ble_eq_true rfl) ?_
  intro p9 e9 s m9 args below meth c9 A Q hC hr hlk hW hQ ls hl
  obtain ⟨hx, hb, hml, hown, hts⟩ := id hC
  have hl : lv_has ls 7 [(0, .ref (ad 0)), (1, .int r), (2, .int x), (3, .int a), (4, .int i), (5, .int n)] := hl
  obtain ⟨hP, hP8, hR, hR5, hc4, hC8, hlen⟩ := hB
  refine lv_aload_n hx hb dX5_kinds_0 rfl (lv_at hl 0 rfl) ?_
  refine lv_aload_n hx hb dX5_kinds_1 rfl (lv_at hl 0 rfl) ?_
  refine lv_iload_n hx hb dX5_kinds_2 rfl (lv_at hl 1 rfl) ?_
  refine fin_i (run_V (rest := [.ref (ad 0)]) hC hW (m_X5_isRider l D cs ad t R r hR hR5) k_yX5_isRider ⟨rfl, rfl⟩ q_ml_RX5_96 eX_0 rfl rfl hl.1 rfl (Nat.le_of_ble_eq_true rfl) ⟨Nat.le_of_ble_eq_true rfl, Nat.le_of_ble_eq_true rfl⟩ dX5_kinds_3 ⟨Nat.zero_le _, Nat.zero_le _⟩) hW (fun r1 u1 H locs hp1 hW => ?_)
  have hW := hx_congr hW hp1.2
  refine r_top hp1.1 ?_
  refine lv_iload_n hx hb dX5_kinds_6 rfl (lv_at hl 2 rfl) ?_
  refine lv_iload_n hx hb dX5_kinds_7 rfl (lv_at hl 3 rfl) ?_
  refine lv_iload hx hb dX5_kinds_8 (lv_at hl 4 rfl) ?_
  refine lv_iload hx hb dX5_kinds_10 (lv_at hl 5 rfl) ?_
  refine lv_iconst (v := 1) hx hb dX5_kinds_12 (by decide) ?_
  refine fin_i (run_V (rest := []) hC hW (m_X5_readSeen l D cs ad t P R (bI (inN r R)) x a i n 1 hP hP8 hR hR5 hlen) k_yX5_readSeen ⟨rfl, rfl⟩ q_ml_RX5_168 eX_0 rfl rfl hl.1 rfl (Nat.le_of_ble_eq_true rfl) ⟨Nat.le_of_ble_eq_true rfl, Nat.le_of_ble_eq_true rfl⟩ dX5_kinds_13 ⟨Nat.zero_le _, Nat.zero_le _⟩) hW (fun r2 u2 H locs hp2 hW => ?_)
  obtain ⟨hru2, hgu2, hau2, hsu2⟩ := hp2
  refine lv_istore (lv' := [(6, .int r2), (0, .ref (ad 0)), (1, .int r), (2, .int x), (3, .int a), (4, .int i), (5, .int n)]) hx hb dX5_kinds_16 hl (by decide) rfl (fun ls hl => ?_)
  refine lv_iload hx hb dX5_kinds_18 (lv_at hl 0 rfl) ?_
  refine lv_if_eq (tgt := 28) hx hb dX5_kinds_20 (by decide) (fun c_20_3 => ?_) (fun c_20_3 => ?_)
  · have hrz : r2 = 0 := c_20_3
    obtain ⟨hkn, hr0, hrn⟩ := rn0 (hru2.symm.trans hrz)
    have hkn := bI_nz hkn
    obtain ⟨q_r, hq_r, rfl⟩ := inN_ex hkn (by omega)
    rw [hrn] at hgu2
    obtain ⟨k, i0, n0, hk4, rfl, rfl, rfl, hin60, -, hP0, hst, hrs2⟩ := rs0 hlen hr0
    have hla0 : LA (flt t 0) u2 := la_rs (by rw [← hrs2]; exact hgu2) hau2
    have hstp := stp_ok (t := t) hk4 (by omega) hR5 hst
    have hsu : ∀ z, z < n0 → u2.2 12 z = nI (stpF t (nI k) (nI i0) z) ∧ (stpF t (nI k) (nI i0) z = 5 ∨ stpF t (nI k) (nI i0) z < R) := fun z hz => ⟨(hsu2 hrz z (by rw [nI_clamp (by omega)]; exact hz)).trans (by rw [nI_clamp (by omega), nI_clamp (by omega)]; exact (hstp z hz).1), (hstp z hz).2⟩
    have hn30 : n0 ≤ 30 := by obtain ⟨_, _, _, _, _, _, _, _, h7, _⟩ := rs0 hlen hr0; exact (nI_leI (a := n0) (b := 30) (by omega) (by decide)).mp (bI_nz h7).2.2
    refine lv_aload_n hx hb dX5_kinds_28 rfl (lv_at hl 1 rfl) ?_
    refine lv_iconst (v := 3) hx hb dX5_kinds_29 (by decide) ?_
    refine lv_iload_n hx hb dX5_kinds_30 rfl (lv_at hl 2 rfl) ?_
    refine lv_iconst (v := 2) hx hb dX5_kinds_31 (by decide) ?_
    refine lv_iload hx hb dX5_kinds_32 (lv_at hl 6 rfl) ?_
    refine fin_i (run_V (rest := []) hC hW (m_X5_setSeenWith3 l D cs ad u2 P R C q_r 2 (stpF t (nI k) (nI i0)) n0 ((congrFun hgu2 2).trans hP) hP8 ((congrFun hgu2 3).trans hR) hR5 ((hla0.1 4 (by omega)).trans hc4) hC8 (by omega) (by omega) hn30 hsu) k_yX5_setSeenWith ⟨rfl, rfl⟩ q_ml_RX5_176 eX_0 rfl rfl hl.1 rfl (Nat.le_of_ble_eq_true rfl) ⟨Nat.le_of_ble_eq_true rfl, Nat.le_of_ble_eq_true rfl⟩ dX5_kinds_34 ⟨Nat.zero_le _, Nat.zero_le _⟩) hW (fun r4 u4 H locs hp4 hW => ?_)
    obtain ⟨hru4, hgu4⟩ := hp4
    have hla1 : LA (flt t 0) u4 := hla0.tr hgu4.s.la
    refine r_top (hru4.trans (bits_la hla0)) ?_
    have hF : F_set t P R C 4 2 (inN (nI q_r) R) (nI q_r).toNatClampNeg (nI k) a (nI i0) (nI n0) = (bitsF (fun v => bI (seenP P R C (exS t 4 q_r (nI v)) (stpF t (nI k) (nI i0)) n0)) (2 + 1), flt t 0) := by unfold F_set; rw [if_neg (not_not_intro (by rw [hrn]; exact hr0)), nI_clamp (show n0 < 2 ^ 31 by omega), nI_clamp (show q_r < 2 ^ 31 by omega)]
    exact r_ireti hC hr hlk hW hQ (⟨by rw [hF]; rfl, by rw [hF]; exact hla1⟩) dX5_kinds_37
  · refine lv_iload hx hb dX5_kinds_23 (lv_at hl 0 rfl) ?_
    refine lv_goto (tgt := 37) hx hb dX5_kinds_25 (by decide) ?_
    have hF : F_set t P R C 4 2 (inN r R) r.toNatClampNeg x a i n = ((rnF t P R (bI (inN r R)) x a i n 1).1, flt t (rnF t P R (bI (inN r R)) x a i n 1).2) := by unfold F_set; rw [if_pos (by rw [← hru2]; exact c_20_3)]
    exact r_ireti hC hr hlk hW hQ (⟨by rw [hF]; exact hru2, by rw [hF]; exact la_rs hgu2 hau2⟩) dX5_kinds_37
