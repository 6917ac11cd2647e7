set_option maxRecDepth 100000 in
set_option maxHeartbeats 4000000 in
theorem m_X5_heightsOfOthers1 (l : Launch) (D : va_G) (cs : CS3) (ad : Nat → Nat) (t : St) (P R : Nat) (q : Nat) (hP : t.1 2 = nI P) (hP8 : P ≤ 8) (hR : t.1 3 = nI R) (hR5 : R ≤ 5) (hq : q < R): CT l yX5_heightsOfOthers cX5_heightsOfOthers 6 (some .int) (rmk 3 120) (wX cs ad) (tyX cs) D [.ref (ad 0), .int (nI q), .int 1] t (va_Qi (fun r u => r = hoF (hX P t) R q true R 0 (beg t) 0 ∧ agrC 0 t u)) := by
  refine CT.of (own := RX5) (by decide) rfl (Nat.le_of_ble_eq_true rfl) ?_
  intro p9 e9 s m9 args below meth c9 A Q hC hr hlk hW hQ ls hl
  obtain ⟨hx, hb, hml, hown, hts⟩ := id hC
  have hl : lv_has ls 6 [(0, .ref (ad 0)), (1, .int (nI q)), (2, .int 1)] := hl
  refine lv_aload_n hx hb dX5_heightsOfOthers_0 rfl (lv_at hl 0 rfl) ?_
  refine gX_G_climbs hC hW q_fl_RX5_34 dX5_heightsOfOthers_1 ?_
  refine lv_iconst (v := 0) hx hb dX5_heightsOfOthers_4 (by decide) ?_
  refine r_aldN (t0 := 2) (j := 0) hC hW eX_11 rfl rfl (by omega) (by decide) rfl dX5_heightsOfOthers_5 ?_
  refine lv_astore_n (lv' := [(3, .ref (ad (22 + 4 * 0))), (0, .ref (ad 0)), (1, .int (nI q)), (2, .int 1)]) hx hb dX5_heightsOfOthers_6 rfl hl (by decide) rfl (fun ls hl => ?_)
  refine lv_aload_n hx hb dX5_heightsOfOthers_7 rfl (lv_at hl 0 rfl) ?_
  refine fin_v (run_V (rest := []) hC hW (m_X0_begin l D cs ad t 0 (by omega)) k_yX0_begin ⟨rfl, rfl⟩ q_ml_RX5_149 (eX_C 0 (by omega)) rfl rfl hl.1 rfl (Nat.le_of_ble_eq_true rfl) ⟨Nat.le_of_ble_eq_true rfl, Nat.le_of_ble_eq_true rfl⟩ dX5_heightsOfOthers_8 ⟨Nat.zero_le _, Nat.zero_le _⟩) hW (fun u1 H locs hp1 hW => ?_)
  obtain ⟨hgu1, heu1⟩ := hp1
  refine lv_iconst (v := 0) hx hb dX5_heightsOfOthers_11 (by decide) ?_
  refine lv_istore (lv' := [(4, .int 0), (3, .ref (ad (22 + 4 * 0))), (0, .ref (ad 0)), (1, .int (nI q)), (2, .int 1)]) hx hb dX5_heightsOfOthers_12 hl (by decide) rfl (fun ls hl => ?_)
  refine lv_iconst (v := 0) hx hb dX5_heightsOfOthers_14 (by decide) ?_
  refine lv_istore (lv' := [(5, .int 0), (4, .int 0), (3, .ref (ad (22 + 4 * 0))), (0, .ref (ad 0)), (1, .int (nI q)), (2, .int 1)]) hx hb dX5_heightsOfOthers_15 hl (by decide) rfl (fun ls hl => ?_)
  have loop_17_2 : ∀ (f9 : Nat) (k : Nat) (c : Cl) (x : Int32) (u : St), (k ≤ R) → (agrC 0 t u) → (cv u 0 = c) → (hoF (hX P t) R q true (R - k) k c x = hoF (hX P t) R q true R 0 (beg t) 0) → R - k < f9 → ∀ (H : Heap) (locs : List Loc), HX (wX cs ad) (tyX cs) D A s.heap s u H locs → ∀ ls : Array Slot, lv_has ls 6 [(5, .int (nI k)), (4, .int x), (3, .ref (ad (22 + 4 * 0))), (0, .ref (ad 0)), (1, .int (nI q)), (2, .int 1)] → W p9 l e9 (rmk 3 120) s m9 args below meth c9 H locs 0 0 Q (F0 m9 17 ls []) := by
    intro f_17
    induction f_17 with
    | zero => intro k c x u hk hg hc hE hm_17 H locs hW ls hl; exact absurd hm_17 (Nat.not_lt_zero _)
    | succ f_17 ih_17 =>
      intro k c x u hk hg hc hE hm_17 H locs hW ls hl
      refine lv_iload hx hb dX5_heightsOfOthers_17 (lv_at hl 0 rfl) ?_
      refine lv_aload_n hx hb dX5_heightsOfOthers_19 rfl (lv_at hl 3 rfl) ?_
      refine gX_G_slope hC hW q_fl_RX5_12 dX5_heightsOfOthers_20 ?_
      refine gX_S_riders hC hW q_fl_RX5_80 dX5_heightsOfOthers_23 ?_
      refine r_top (y := nI R) ((hg.1 3 (by omega)).trans hR) ?_
      refine lv_icmp_ge (tgt := 68) hx hb dX5_heightsOfOthers_26 (by decide) (fun c_26_3 => ?_) (fun c_26_3 => ?_)
      · have c_26_3 : R ≤ k := (nI_leI (a := R) (b := k) (by omega) (by omega)).mp c_26_3
        refine lv_iload hx hb dX5_heightsOfOthers_68 (lv_at hl 1 rfl) ?_
        exact r_ireti hC hr hlk hW hQ (⟨by rw [← hE, show R - k = 0 by omega]; rfl, hg⟩) dX5_heightsOfOthers_70
      · have c_26_3 : ¬ R ≤ k := fun h => c_26_3 ((nI_leI (a := R) (b := k) (by omega) (by omega)).mpr h)
        refine lv_iload hx hb dX5_heightsOfOthers_29 (lv_at hl 0 rfl) ?_
        refine lv_iload_n hx hb dX5_heightsOfOthers_31 rfl (lv_at hl 4 rfl) ?_
        refine lv_icmp_ne (tgt := 39) hx hb dX5_heightsOfOthers_32 (by decide) (fun c_32_4 => ?_) (fun c_32_4 => ?_)
        · have c_32_4 : ¬ k = q := fun h => c_32_4 ((nI_eq (a := k) (b := q) (by omega) (by omega)).mpr h)
          refine lv_aload_n hx hb dX5_heightsOfOthers_39 rfl (lv_at hl 2 rfl) ?_
          refine lv_iload hx hb dX5_heightsOfOthers_40 (lv_at hl 0 rfl) ?_
          refine fin_v (run_V (rest := []) hC hW (m_X0_attempt l D cs ad u 0 (by omega) P R k ((hg.1 2 (by omega)).trans hP) (by omega) (by omega) (by omega)) k_yX0_attempt ⟨rfl, rfl⟩ q_ml_RX5_241 (eX_C 0 (by omega)) rfl rfl hl.1 rfl (Nat.le_of_ble_eq_true rfl) ⟨Nat.le_of_ble_eq_true rfl, Nat.le_of_ble_eq_true rfl⟩ dX5_heightsOfOthers_42 ⟨Nat.zero_le _, Nat.zero_le _⟩) hW (fun u5 H locs hp5 hW => ?_)
          obtain ⟨hgu5, heu5⟩ := hp5
          refine lv_iload hx hb dX5_heightsOfOthers_45 (lv_at hl 0 rfl) ?_
          refine lv_iload_n hx hb dX5_heightsOfOthers_47 rfl (lv_at hl 4 rfl) ?_
          refine lv_icmp_eq (tgt := 62) hx hb dX5_heightsOfOthers_48 (by decide) (fun c_48_6 => ?_) (fun c_48_6 => ?_)
          · have c_48_6 : k = q := (nI_eq (a := k) (b := q) (by omega) (by omega)).mp c_48_6
            exact absurd c_48_6 c_32_4
          · have c_48_6 : ¬ k = q := fun h => c_48_6 ((nI_eq (a := k) (b := q) (by omega) (by omega)).mpr h)
            refine lv_iload hx hb dX5_heightsOfOthers_51 (lv_at hl 1 rfl) ?_
            refine lv_aload_n hx hb dX5_heightsOfOthers_53 rfl (lv_at hl 2 rfl) ?_
            refine lv_iload hx hb dX5_heightsOfOthers_54 (lv_at hl 0 rfl) ?_
            refine fin_i (run_V (rest := [.int x]) hC hW (m_X0_heightOf l D cs ad u5 0 (by omega) R (nI k) ((hgu5.1 3 (by omega)).trans ((hg.1 3 (by omega)).trans hR)) (by omega)) k_yX0_heightOf ⟨rfl, rfl⟩ q_ml_RX5_131 (eX_C 0 (by omega)) rfl rfl hl.1 rfl (Nat.le_of_ble_eq_true rfl) ⟨Nat.le_of_ble_eq_true rfl, Nat.le_of_ble_eq_true rfl⟩ dX5_heightsOfOthers_56 ⟨Nat.zero_le _, Nat.zero_le _⟩) hW (fun r7 u7 H locs hp7 hW => ?_)
            have hW := hx_congr hW hp7.2
            refine r_top hp7.1 ?_
            refine lv_iadd hx hb dX5_heightsOfOthers_59 ?_
            refine r_top (y := x + (att (hX P t) k c).2.2.1 k) (by rw [if_pos (inN_of (by omega) (by omega)), nI_clamp (by omega), show u5.2 (25 + 4 * 0) = (att (hX P t) k c).2.2.1 from congrArg (fun q => q.2.2.1) (heu5.trans (by rw [hc, hg.eh]))]) ?_
            refine lv_istore (lv' := [(4, .int (x + (att (hX P t) k c).2.2.1 k)), (5, .int (nI k)), (3, .ref (ad (22 + 4 * 0))), (0, .ref (ad 0)), (1, .int (nI q)), (2, .int 1)]) hx hb dX5_heightsOfOthers_60 hl (by decide) rfl (fun ls hl => ?_)
            refine lv_iinc (v := nI (k + 1)) (lv' := [(5, .int (nI (k + 1))), (4, .int (x + (att (hX P t) k c).2.2.1 k)), (3, .ref (ad (22 + 4 * 0))), (0, .ref (ad 0)), (1, .int (nI q)), (2, .int 1)]) hx hb dX5_heightsOfOthers_62 hl (k := 1) rfl (nI_1 _) (by decide) rfl (fun ls hl => ?_)
            refine lv_goto (tgt := 17) hx hb dX5_heightsOfOthers_65 (by decide) ?_
            exact ih_17 (k + 1) (att (hX P t) k c) (x + (att (hX P t) k c).2.2.1 k) u5 (by omega) (hg.tr hgu5) (heu5.trans (by rw [hc, hg.eh])) (by rw [← hE, show R - k = (R - (k + 1)) + 1 by omega]; show _ = ite _ _ _; rw [if_neg c_32_4] <;> rfl) (by omega) _ _ hW ls (lv_sub hl [0, 1, 2, 3, 4, 5] rfl)
        · have c_32_4 : k = q := (nI_eq (a := k) (b := q) (by omega) (by omega)).mp c_32_4
          refine lv_iload_n hx hb dX5_heightsOfOthers_35 rfl (lv_at hl 5 rfl) ?_
          refine lv_if_eq (tgt := 45) hx hb dX5_heightsOfOthers_36 (by decide) (fun c_36_8 => ?_) (fun c_36_8 => ?_)
          · exact absurd c_36_8 (by decide)
          · refine lv_aload_n hx hb dX5_heightsOfOthers_39 rfl (lv_at hl 2 rfl) ?_
            refine lv_iload hx hb dX5_heightsOfOthers_40 (lv_at hl 0 rfl) ?_
            refine fin_v (run_V (rest := []) hC hW (m_X0_attempt l D cs ad u 0 (by omega) P R k ((hg.1 2 (by omega)).trans hP) (by omega) (by omega) (by omega)) k_yX0_attempt ⟨rfl, rfl⟩ q_ml_RX5_241 (eX_C 0 (by omega)) rfl rfl hl.1 rfl (Nat.le_of_ble_eq_true rfl) ⟨Nat.le_of_ble_eq_true rfl, Nat.le_of_ble_eq_true rfl⟩ dX5_heightsOfOthers_42 ⟨Nat.zero_le _, Nat.zero_le _⟩) hW (fun u9 H locs hp9 hW => ?_)
            obtain ⟨hgu9, heu9⟩ := hp9
            refine lv_iload hx hb dX5_heightsOfOthers_45 (lv_at hl 0 rfl) ?_
            refine lv_iload_n hx hb dX5_heightsOfOthers_47 rfl (lv_at hl 4 rfl) ?_
            refine lv_icmp_eq (tgt := 62) hx hb dX5_heightsOfOthers_48 (by decide) (fun c_48_10 => ?_) (fun c_48_10 => ?_)
            · have c_48_10 : k = q := (nI_eq (a := k) (b := q) (by omega) (by omega)).mp c_48_10
              refine lv_iinc (v := nI (k + 1)) (lv' := [(5, .int (nI (k + 1))), (4, .int x), (3, .ref (ad (22 + 4 * 0))), (0, .ref (ad 0)), (1, .int (nI q)), (2, .int 1)]) hx hb dX5_heightsOfOthers_62 hl (k := 0) rfl (nI_1 _) (by decide) rfl (fun ls hl => ?_)
              refine lv_goto (tgt := 17) hx hb dX5_heightsOfOthers_65 (by decide) ?_
              exact ih_17 (k + 1) (att (hX P t) k c) x u9 (by omega) (hg.tr hgu9) (heu9.trans (by rw [hc, hg.eh])) (by rw [← hE, show R - k = (R - (k + 1)) + 1 by omega]; show _ = ite _ _ _; rw [if_pos c_32_4] <;> rfl) (by omega) _ _ hW ls (lv_sub hl [0, 1, 2, 3, 4, 5] rfl)
            · have c_48_10 : ¬ k = q := fun h => c_48_10 ((nI_eq (a := k) (b := q) (by omega) (by omega)).mpr h)
              exact absurd c_32_4 c_48_10
  exact loop_17_2 _ 0 (beg t) 0 u1 (Nat.zero_le _) (hgu1) (heu1) (rfl) (Nat.lt_succ_self _) _ _ hW ls (lv_sub hl [0, 1, 2, 3, 4, 5] rfl)
set_option maxRecDepth 100000 in
set_option maxHeartbeats 4000000 in
theorem m_X5_heightsOfOthers0 (l : Launch) (D : va_G) (cs : CS3) (ad : Nat → Nat) (t : St) (P R : Nat) (q : Nat) (hP : t.1 2 = nI P) (hP8 : P ≤ 8) (hR : t.1 3 = nI R) (hR5 : R ≤ 5) (hq : q < R): CT l yX5_heightsOfOthers cX5_heightsOfOthers 6 (some .int) (rmk 3 120) (wX cs ad) (tyX cs) D [.ref (ad 0), .int (nI q), .int 0] t (va_Qi (fun r u => r = hoF (hX P t) R q false R 0 (beg t) 0 ∧ agrC 0 t u)) := by
  refine CT.of (own := RX5) (by decide) rfl (Nat.le_of_ble_eq_true rfl) ?_
  intro p9 e9 s m9 args below meth c9 A Q hC hr hlk hW hQ ls hl
  obtain ⟨hx, hb, hml, hown, hts⟩ := id hC
  have hl : lv_has ls 6 [(0, .ref (ad 0)), (1, .int (nI q)), (2, .int 0)] := hl
  refine lv_aload_n hx hb dX5_heightsOfOthers_0 rfl (lv_at hl 0 rfl) ?_
  refine gX_G_climbs hC hW q_fl_RX5_34 dX5_heightsOfOthers_1 ?_
  refine lv_iconst (v := 0) hx hb dX5_heightsOfOthers_4 (by decide) ?_
  refine r_aldN (t0 := 2) (j := 0) hC hW eX_11 rfl rfl (by omega) (by decide) rfl dX5_heightsOfOthers_5 ?_
  refine lv_astore_n (lv' := [(3, .ref (ad (22 + 4 * 0))), (0, .ref (ad 0)), (1, .int (nI q)), (2, .int 0)]) hx hb dX5_heightsOfOthers_6 rfl hl (by decide) rfl (fun ls hl => ?_)
  refine lv_aload_n hx hb dX5_heightsOfOthers_7 rfl (lv_at hl 0 rfl) ?_
  refine fin_v (run_V (rest := []) hC hW (m_X0_begin l D cs ad t 0 (by omega)) k_yX0_begin ⟨rfl, rfl⟩ q_ml_RX5_149 (eX_C 0 (by omega)) rfl rfl hl.1 rfl (Nat.le_of_ble_eq_true rfl) ⟨Nat.le_of_ble_eq_true rfl, Nat.le_of_ble_eq_true rfl⟩ dX5_heightsOfOthers_8 ⟨Nat.zero_le _, Nat.zero_le _⟩) hW (fun u1 H locs hp1 hW => ?_)
  obtain ⟨hgu1, heu1⟩ := hp1
  refine lv_iconst (v := 0) hx hb dX5_heightsOfOthers_11 (by decide) ?_
  refine lv_istore (lv' := [(4, .int 0), (3, .ref (ad (22 + 4 * 0))), (0, .ref (ad 0)), (1, .int (nI q)), (2, .int 0)]) hx hb dX5_heightsOfOthers_12 hl (by decide) rfl (fun ls hl => ?_)
  refine lv_iconst (v := 0) hx hb dX5_heightsOfOthers_14 (by decide) ?_
  refine lv_istore (lv' := [(5, .int 0), (4, .int 0), (3, .ref (ad (22 + 4 * 0))), (0, .ref (ad 0)), (1, .int (nI q)), (2, .int 0)]) hx hb dX5_heightsOfOthers_15 hl (by decide) rfl (fun ls hl => ?_)
  have loop_17_2 : ∀ (f9 : Nat) (k : Nat) (c : Cl) (x : Int32) (u : St), (k ≤ R) → (agrC 0 t u) → (cv u 0 = c) → (hoF (hX P t) R q false (R - k) k c x = hoF (hX P t) R q false R 0 (beg t) 0) → R - k < f9 → ∀ (H : Heap) (locs : List Loc), HX (wX cs ad) (tyX cs) D A s.heap s u H locs → ∀ ls : Array Slot, lv_has ls 6 [(5, .int (nI k)), (4, .int x), (3, .ref (ad (22 + 4 * 0))), (0, .ref (ad 0)), (1, .int (nI q)), (2, .int 0)] → W p9 l e9 (rmk 3 120) s m9 args below meth c9 H locs 0 0 Q (F0 m9 17 ls []) := by
    intro f_17
    induction f_17 with
    | zero => intro k c x u hk hg hc hE hm_17 H locs hW ls hl; exact absurd hm_17 (Nat.not_lt_zero _)
    | succ f_17 ih_17 =>
      intro k c x u hk hg hc hE hm_17 H locs hW ls hl
      refine lv_iload hx hb dX5_heightsOfOthers_17 (lv_at hl 0 rfl) ?_
      refine lv_aload_n hx hb dX5_heightsOfOthers_19 rfl (lv_at hl 3 rfl) ?_
      refine gX_G_slope hC hW q_fl_RX5_12 dX5_heightsOfOthers_20 ?_
      refine gX_S_riders hC hW q_fl_RX5_80 dX5_heightsOfOthers_23 ?_
      refine r_top (y := nI R) ((hg.1 3 (by omega)).trans hR) ?_
      refine lv_icmp_ge (tgt := 68) hx hb dX5_heightsOfOthers_26 (by decide) (fun c_26_3 => ?_) (fun c_26_3 => ?_)
      · have c_26_3 : R ≤ k := (nI_leI (a := R) (b := k) (by omega) (by omega)).mp c_26_3
        refine lv_iload hx hb dX5_heightsOfOthers_68 (lv_at hl 1 rfl) ?_
        exact r_ireti hC hr hlk hW hQ (⟨by rw [← hE, show R - k = 0 by omega]; rfl, hg⟩) dX5_heightsOfOthers_70
      · have c_26_3 : ¬ R ≤ k := fun h => c_26_3 ((nI_leI (a := R) (b := k) (by omega) (by omega)).mpr h)
        refine lv_iload hx hb dX5_heightsOfOthers_29 (lv_at hl 0 rfl) ?_
        refine lv_iload_n hx hb dX5_heightsOfOthers_31 rfl (lv_at hl 4 rfl) ?_
        refine lv_icmp_ne (tgt := 39) hx hb dX5_heightsOfOthers_32 (by decide) (fun c_32_4 => ?_) (fun c_32_4 => ?_)
        · have c_32_4 : ¬ k = q := fun h => c_32_4 ((nI_eq (a := k) (b := q) (by omega) (by omega)).mpr h)
          refine lv_aload_n hx hb dX5_heightsOfOthers_39 rfl (lv_at hl 2 rfl) ?_
          refine lv_iload hx hb dX5_heightsOfOthers_40 (lv_at hl 0 rfl) ?_
          refine fin_v (run_V (rest := []) hC hW (m_X0_attempt l D cs ad u 0 (by omega) P R k ((hg.1 2 (by omega)).trans hP) (by omega) (by omega) (by omega)) k_yX0_attempt ⟨rfl, rfl⟩ q_ml_RX5_241 (eX_C 0 (by omega)) rfl rfl hl.1 rfl (Nat.le_of_ble_eq_true rfl) ⟨Nat.le_of_ble_eq_true rfl, Nat.le_of_ble_eq_true rfl⟩ dX5_heightsOfOthers_42 ⟨Nat.zero_le _, Nat.zero_le _⟩) hW (fun u5 H locs hp5 hW => ?_)
          obtain ⟨hgu5, heu5⟩ := hp5
          refine lv_iload hx hb dX5_heightsOfOthers_45 (lv_at hl 0 rfl) ?_
          refine lv_iload_n hx hb dX5_heightsOfOthers_47 rfl (lv_at hl 4 rfl) ?_
          refine lv_icmp_eq (tgt := 62) hx hb dX5_heightsOfOthers_48 (by decide) (fun c_48_6 => ?_) (fun c_48_6 => ?_)
          · have c_48_6 : k = q := (nI_eq (a := k) (b := q) (by omega) (by omega)).mp c_48_6
            exact absurd c_48_6 c_32_4
          · have c_48_6 : ¬ k = q := fun h => c_48_6 ((nI_eq (a := k) (b := q) (by omega) (by omega)).mpr h)
            refine lv_iload hx hb dX5_heightsOfOthers_51 (lv_at hl 1 rfl) ?_
            refine lv_aload_n hx hb dX5_heightsOfOthers_53 rfl (lv_at hl 2 rfl) ?_
            refine lv_iload hx hb dX5_heightsOfOthers_54 (lv_at hl 0 rfl) ?_
            refine fin_i (run_V (rest := [.int x]) hC hW (m_X0_heightOf l D cs ad u5 0 (by omega) R (nI k) ((hgu5.1 3 (by omega)).trans ((hg.1 3 (by omega)).trans hR)) (by omega)) k_yX0_heightOf ⟨rfl, rfl⟩ q_ml_RX5_131 (eX_C 0 (by omega)) rfl rfl hl.1 rfl (Nat.le_of_ble_eq_true rfl) ⟨Nat.le_of_ble_eq_true rfl, Nat.le_of_ble_eq_true rfl⟩ dX5_heightsOfOthers_56 ⟨Nat.zero_le _, Nat.zero_le _⟩) hW (fun r7 u7 H locs hp7 hW => ?_)
            have hW := hx_congr hW hp7.2
            refine r_top hp7.1 ?_
            refine lv_iadd hx hb dX5_heightsOfOthers_59 ?_
            refine r_top (y := x + (att (hX P t) k c).2.2.1 k) (by rw [if_pos (inN_of (by omega) (by omega)), nI_clamp (by omega), show u5.2 (25 + 4 * 0) = (att (hX P t) k c).2.2.1 from congrArg (fun q => q.2.2.1) (heu5.trans (by rw [hc, hg.eh]))]) ?_
            refine lv_istore (lv' := [(4, .int (x + (att (hX P t) k c).2.2.1 k)), (5, .int (nI k)), (3, .ref (ad (22 + 4 * 0))), (0, .ref (ad 0)), (1, .int (nI q)), (2, .int 0)]) hx hb dX5_heightsOfOthers_60 hl (by decide) rfl (fun ls hl => ?_)
            refine lv_iinc (v := nI (k + 1)) (lv' := [(5, .int (nI (k + 1))), (4, .int (x + (att (hX P t) k c).2.2.1 k)), (3, .ref (ad (22 + 4 * 0))), (0, .ref (ad 0)), (1, .int (nI q)), (2, .int 0)]) hx hb dX5_heightsOfOthers_62 hl (k := 1) rfl (nI_1 _) (by decide) rfl (fun ls hl => ?_)
            refine lv_goto (tgt := 17) hx hb dX5_heightsOfOthers_65 (by decide) ?_
            exact ih_17 (k + 1) (att (hX P t) k c) (x + (att (hX P t) k c).2.2.1 k) u5 (by omega) (hg.tr hgu5) (heu5.trans (by rw [hc, hg.eh])) (by rw [← hE, show R - k = (R - (k + 1)) + 1 by omega]; show _ = ite _ _ _; rw [if_neg c_32_4] <;> rfl) (by omega) _ _ hW ls (lv_sub hl [0, 1, 2, 3, 4, 5] rfl)
        · have c_32_4 : k = q := (nI_eq (a := k) (b := q) (by omega) (by omega)).mp c_32_4
          refine lv_iload_n hx hb dX5_heightsOfOthers_35 rfl (lv_at hl 5 rfl) ?_
          refine lv_if_eq (tgt := 45) hx hb dX5_heightsOfOthers_36 (by decide) (fun c_36_8 => ?_) (fun c_36_8 => ?_)
          · refine lv_iload hx hb dX5_heightsOfOthers_45 (lv_at hl 0 rfl) ?_
            refine lv_iload_n hx hb dX5_heightsOfOthers_47 rfl (lv_at hl 4 rfl) ?_
            refine lv_icmp_eq (tgt := 62) hx hb dX5_heightsOfOthers_48 (by decide) (fun c_48_9 => ?_) (fun c_48_9 => ?_)
            · have c_48_9 : k = q := (nI_eq (a := k) (b := q) (by omega) (by omega)).mp c_48_9
              refine lv_iinc (v := nI (k + 1)) (lv' := [(5, .int (nI (k + 1))), (4, .int x), (3, .ref (ad (22 + 4 * 0))), (0, .ref (ad 0)), (1, .int (nI q)), (2, .int 0)]) hx hb dX5_heightsOfOthers_62 hl (k := 0) rfl (nI_1 _) (by decide) rfl (fun ls hl => ?_)
              refine lv_goto (tgt := 17) hx hb dX5_heightsOfOthers_65 (by decide) ?_
              exact ih_17 (k + 1) c x u (by omega) (hg) (hc) (by rw [← hE, show R - k = (R - (k + 1)) + 1 by omega]; show _ = ite _ _ _; rw [if_pos c_32_4] <;> rfl) (by omega) _ _ hW ls (lv_sub hl [0, 1, 2, 3, 4, 5] rfl)
            · have c_48_9 : ¬ k = q := fun h => c_48_9 ((nI_eq (a := k) (b := q) (by omega) (by omega)).mpr h)
              exact absurd c_32_4 c_48_9
          · exact absurd c_36_8 (by decide)
  exact loop_17_2 _ 0 (beg t) 0 u1 (Nat.zero_le _) (hgu1) (heu1) (rfl) (Nat.lt_succ_self _) _ _ hW ls (lv_sub hl [0, 1, 2, 3, 4, 5] rfl)
set_option maxRecDepth 100000 in
set_option maxHeartbeats 4000000 in
theorem m_X5_readSeen (l : Launch) (D : va_G) (cs : CS3) (ad : Nat → Nat) (t : St) (P R : Nat) (kn x a i n b : Int32) (hP : t.1 2 = nI P) (hP8 : P ≤ 8) (hR : t.1 3 = nI R) (hR5 : R ≤ 5) (hlen : lenOk t): CT l yX5_readSeen cX5_readSeen 7 (some .int) (rmk 3 73) (wX cs ad) (tyX cs) D [.ref (ad 0), .int kn, .int x, .int a, .int i, .int n, .int b] t (va_Qi (fun r u => r = (rnF t P R kn x a i n b).1 ∧ u.1 = va_up t.1 1 (rnF t P R kn x a i n b).2 ∧ (∀ k, k ≠ 12 → u.2 k = t.2 k) ∧ (r = 0 → ∀ z, z < n.toNatClampNeg → u.2 12 z = t.2 (15 + 2 * x.toNatClampNeg) (i.toNatClampNeg + z)))) := by
  refine CT.of (own := RX5) (by decide) rfl (Nat.le_of_ble_eq_true rfl) ?_
  intro p9 e9 s m9 args below meth c9 A Q hC hr hlk hW hQ ls hl
  obtain ⟨hx, hb, hml, hown, hts⟩ := id hC
  have hl : lv_has ls 7 [(0, .ref (ad 0)), (1, .int kn), (2, .int x), (3, .int a), (4, .int i), (5, .int n), (6, .int b)] := hl
  refine lv_iload_n hx hb dX5_readSeen_0 rfl (lv_at hl 1 rfl) ?_
  refine lv_if_ne (tgt := 11) hx hb dX5_readSeen_1 (by decide) (fun c_1_1 => ?_) (fun c_1_1 => ?_)
  · refine lv_aload_n hx hb dX5_readSeen_11 rfl (lv_at hl 0 rfl) ?_
    refine lv_iload_n hx hb dX5_readSeen_12 rfl (lv_at hl 2 rfl) ?_
    refine lv_iload_n hx hb dX5_readSeen_13 rfl (lv_at hl 3 rfl) ?_
    refine lv_iload hx hb dX5_readSeen_14 (lv_at hl 4 rfl) ?_
    refine lv_iload hx hb dX5_readSeen_16 (lv_at hl 5 rfl) ?_
    refine lv_iload hx hb dX5_readSeen_18 (lv_at hl 6 rfl) ?_
    refine lv_if_eq (tgt := 38) hx hb dX5_readSeen_20 (by decide) (fun c_20_2 => ?_) (fun c_20_2 => ?_)
    · refine lv_iconst (v := 0) hx hb dX5_readSeen_38 (by decide) ?_
      refine fin_i (run_V (rest := []) hC hW (m_X5_readSteps l D cs ad t P R x a i n 0 hP (by omega) hR (by omega) hlen (fun h => absurd rfl h)) k_yX5_readSteps ⟨rfl, rfl⟩ q_ml_RX5_115 eX_0 rfl rfl hl.1 rfl (Nat.le_of_ble_eq_true rfl) ⟨Nat.le_of_ble_eq_true rfl, Nat.le_of_ble_eq_true rfl⟩ dX5_readSeen_39 ⟨Nat.zero_le _, Nat.zero_le _⟩) hW (fun r3 u3 H locs hp3 hW => ?_)
      obtain ⟨hru3, hgu3, hau3, hsu3⟩ := hp3
      have hF : rnF t P R kn x a i n b = rsF t P R x a i n 0 := by unfold rnF; rw [if_neg c_1_1, (bI_f (fun h9 => h9.1 c_20_2)).symm]
      exact r_ireti hC hr hlk hW hQ (⟨by rw [hF]; exact hru3, by rw [hF]; exact hgu3, hau3, hsu3⟩) dX5_readSeen_42
    · refine lv_iload hx hb dX5_readSeen_23 (lv_at hl 5 rfl) ?_
      refine lv_iconst (v := 0) hx hb dX5_readSeen_25 (by decide) ?_
      refine lv_bipush (v := 30) hx hb dX5_readSeen_26 (by decide) ?_
      refine fin_pi (run_P (rest := [.int n, .int i, .int a, .int x, .ref (ad 0)]) hC hW.2.2.2.2.2 (m_X5_isIn l n 0 30) k_yX5_isIn ⟨rfl, rfl⟩ q_ml_RX5_86 rfl hl.1 rfl (Nat.le_of_ble_eq_true rfl) ⟨Nat.le_of_ble_eq_true rfl, Nat.le_of_ble_eq_true rfl⟩ dX5_readSeen_28 ⟨Nat.zero_le _, Nat.zero_le _⟩) (fun r hr9 => ?_)
      refine r_top hr9 ?_
      refine lv_if_eq (tgt := 38) hx hb dX5_readSeen_31 (by decide) (fun c_31_4 => ?_) (fun c_31_4 => ?_)
      · have c_31_4 := bI_z.mp c_31_4
        refine lv_iconst (v := 0) hx hb dX5_readSeen_38 (by decide) ?_
        refine fin_i (run_V (rest := []) hC hW (m_X5_readSteps l D cs ad t P R x a i n 0 hP (by omega) hR (by omega) hlen (fun h => absurd rfl h)) k_yX5_readSteps ⟨rfl, rfl⟩ q_ml_RX5_115 eX_0 rfl rfl hl.1 rfl (Nat.le_of_ble_eq_true rfl) ⟨Nat.le_of_ble_eq_true rfl, Nat.le_of_ble_eq_true rfl⟩ dX5_readSeen_39 ⟨Nat.zero_le _, Nat.zero_le _⟩) hW (fun r5 u5 H locs hp5 hW => ?_)
        obtain ⟨hru5, hgu5, hau5, hsu5⟩ := hp5
        have hF : rnF t P R kn x a i n b = rsF t P R x a i n 0 := by unfold rnF; rw [if_neg c_1_1, (bI_f (fun h9 => c_31_4 h9.2)).symm]
        exact r_ireti hC hr hlk hW hQ (⟨by rw [hF]; exact hru5, by rw [hF]; exact hgu5, hau5, hsu5⟩) dX5_readSeen_42
      · have c_31_4 := bI_nz c_31_4
        refine lv_iconst (v := 1) hx hb dX5_readSeen_34 (by decide) ?_
        refine lv_goto (tgt := 39) hx hb dX5_readSeen_35 (by decide) ?_
        refine fin_i (run_V (rest := []) hC hW (m_X5_readSteps l D cs ad t P R x a i n 1 hP (by omega) hR (by omega) hlen (fun _ => c_31_4)) k_yX5_readSteps ⟨rfl, rfl⟩ q_ml_RX5_115 eX_0 rfl rfl hl.1 rfl (Nat.le_of_ble_eq_true rfl) ⟨Nat.le_of_ble_eq_true rfl, Nat.le_of_ble_eq_true rfl⟩ dX5_readSeen_39 ⟨Nat.zero_le _, Nat.zero_le _⟩) hW (fun r6 u6 H locs hp6 hW => ?_)
        obtain ⟨hru6, hgu6, hau6, hsu6⟩ := hp6
        have hF : rnF t P R kn x a i n b = rsF t P R x a i n 1 := by unfold rnF; rw [if_neg c_1_1, (bI_t ⟨c_20_2, c_31_4⟩).symm]
        exact r_ireti hC hr hlk hW hQ (⟨by rw [hF]; exact hru6, by rw [hF]; exact hgu6, hau6, hsu6⟩) dX5_readSeen_42
  · refine lv_aload_n hx hb dX5_readSeen_4 rfl (lv_at hl 0 rfl) ?_
    refine lv_iconst (v := 0) hx hb dX5_readSeen_5 (by decide) ?_
    refine pX_G_fault hC hW q_fl_RX5_48 dX5_readSeen_6 (fun H locs hW => ?_)
    have hW : HX (wX cs ad) (tyX cs) D A s.heap s (va_up t.1 1 0, t.2) H locs := hW
    refine lv_iconst (v := (-1)) hx hb dX5_readSeen_9 (by decide) ?_
    have hF : rnF t P R kn x a i n b = (-1, 0) := by unfold rnF; rw [if_pos c_1_1]
    exact r_ireti hC hr hlk hW hQ (⟨by rw [hF], by rw [hF] <;> rfl, fun _ _ => rfl, fun h9 => absurd h9 (by decide)⟩) dX5_readSeen_10
set_option maxRecDepth 100000 in
set_option maxHeartbeats 4000000 in
theorem m_X5_isSeenWith0 (l : Launch) (D : va_G) (cs : CS3) (ad : Nat → Nat) (t : St) (P R C q : Nat) (v : Int32) (stp : Nat → Nat) (n : Nat) (hP : t.1 2 = nI P) (hP8 : P ≤ 8) (hR : t.1 3 = nI R) (hR5 : R ≤ 5) (hc4 : t.1 4 = nI C) (hC8 : C ≤ 8) (hq : q < 5) (hn : n ≤ 30) (hs : ∀ z, z < n → t.2 12 z = nI (stp z) ∧ (stp z = 5 ∨ stp z < R)): CT l yX5_isSeenWith cX5_isSeenWith 5 (some .boolean) (rmk 4 143) (wX cs ad) (tyX cs) D [.ref (ad 0), .int 0, .int (nI q), .int v, .int (nI n)] t (va_Qi (fun r u => r = bI (seenP P R C (exS t 5 q v) stp n) ∧ agrC 0 (exS t 5 q v) u)) := by
  refine CT.of (own := RX5) (by decide) rfl (Nat.le_of_ble_eq_true rfl) ?_
  intro p9 e9 s m9 args below meth c9 A Q hC hr hlk hW hQ ls hl
  obtain ⟨hx, hb, hml, hown, hts⟩ := id hC
  have hl : lv_has ls 5 [(0, .ref (ad 0)), (1, .int 0), (2, .int (nI q)), (3, .int v), (4, .int (nI n))] := hl
  refine lv_aload_n hx hb dX5_isSeenWith_0 rfl (lv_at hl 0 rfl) ?_
  refine gX_G_slope hC hW q_fl_RX5_12 dX5_isSeenWith_1 ?_
  refine lv_iload_n hx hb dX5_isSeenWith_4 rfl (lv_at hl 1 rfl) ?_
  refine lv_iload_n hx hb dX5_isSeenWith_5 rfl (lv_at hl 2 rfl) ?_
  refine lv_iload_n hx hb dX5_isSeenWith_6 rfl (lv_at hl 3 rfl) ?_
  refine fin_i (run_V (rest := []) hC hW (m_X3_exchange0 l D cs ad t q v (by omega)) k_yX3_exchange ⟨rfl, rfl⟩ q_ml_RX5_108 eX_1 rfl rfl hl.1 rfl (Nat.le_of_ble_eq_true rfl) ⟨Nat.le_of_ble_eq_true rfl, Nat.le_of_ble_eq_true rfl⟩ dX5_isSeenWith_7 ⟨Nat.zero_le _, Nat.zero_le _⟩) hW (fun r1 u1 H locs hp1 hW => ?_)
  have hW := hx_congr hW hp1.2
  refine r_top hp1.1 ?_
  have hW : HX (wX cs ad) (tyX cs) D A s.heap s (t.1, va_up t.2 5 (upd (t.2 5) q v)) H locs := hW
  refine lv_pop hx hb dX5_isSeenWith_10 rfl ?_
  refine lv_aload_n hx hb dX5_isSeenWith_11 rfl (lv_at hl 0 rfl) ?_
  refine lv_iload hx hb dX5_isSeenWith_12 (lv_at hl 4 rfl) ?_
  refine fin_i (run_V (rest := []) hC hW (m_X5_firstWrong l D cs ad (t.1, va_up t.2 5 (upd (t.2 5) q v)) P R stp n hP hP8 hR hR5 hn hs) k_yX5_firstWrong ⟨rfl, rfl⟩ q_ml_RX5_119 eX_0 rfl rfl hl.1 rfl (Nat.le_of_ble_eq_true rfl) ⟨Nat.le_of_ble_eq_true rfl, Nat.le_of_ble_eq_true rfl⟩ dX5_isSeenWith_14 ⟨Nat.zero_le _, Nat.zero_le _⟩) hW (fun r2 u2 H locs hp2 hW => ?_)
  obtain ⟨hru2, hgu2, heu2⟩ := hp2
  refine r_top hru2 ?_
  have hgu2 : agrC 0 (exS t 5 q v) u2 := hgu2
  have heu2 : cv u2 0 = (fw (hX P (exS t 5 q v)) stp n 0 (beg (exS t 5 q v))).2 := heu2
  refine lv_bipush (v := (-9)) hx hb dX5_isSeenWith_17 (by decide) ?_
  refine lv_icmp_ne (tgt := 42) hx hb dX5_isSeenWith_19 (by decide) (fun c_19_3 => ?_) (fun c_19_3 => ?_)
  · refine lv_iconst (v := 0) hx hb dX5_isSeenWith_42 (by decide) ?_
    exact r_iretz hC hr hlk hW hQ (⟨bI_f (fun h9 => c_19_3 h9.1), hgu2⟩) (rfl) dX5_isSeenWith_43
  · refine lv_aload_n hx hb dX5_isSeenWith_22 rfl (lv_at hl 0 rfl) ?_
    refine gX_G_readings hC hW q_fl_RX5_21 dX5_isSeenWith_23 ?_
    refine lv_aload_n hx hb dX5_isSeenWith_26 rfl (lv_at hl 0 rfl) ?_
    refine gX_G_climbs hC hW q_fl_RX5_34 dX5_isSeenWith_27 ?_
    refine lv_iconst (v := 0) hx hb dX5_isSeenWith_30 (by decide) ?_
    refine r_aldN (t0 := 2) (j := 0) hC hW eX_11 rfl rfl (by omega) (by decide) rfl dX5_isSeenWith_31 ?_
    refine fin_i (run_V (rest := []) hC hW (m_X1_areSo l D cs ad u2 0 (by omega) R C ((hgu2.1 3 (by omega)).trans hR) (by omega) ((hgu2.1 4 (by omega)).trans hc4) (by omega)) k_yX1_areSo ⟨rfl, rfl⟩ q_ml_RX5_259 eX_7 rfl rfl hl.1 rfl (Nat.le_of_ble_eq_true rfl) ⟨Nat.le_of_ble_eq_true rfl, Nat.le_of_ble_eq_true rfl⟩ dX5_isSeenWith_32 ⟨Nat.zero_le _, Nat.zero_le _⟩) hW (fun r4 u4 H locs hp4 hW => ?_)
    have hW := hx_congr hW hp4.2
    refine r_top hp4.1 ?_
    refine lv_if_eq (tgt := 42) hx hb dX5_isSeenWith_35 (by decide) (fun c_35_5 => ?_) (fun c_35_5 => ?_)
    · have c_35_5 := bI_z.mp c_35_5
      refine lv_iconst (v := 0) hx hb dX5_isSeenWith_42 (by decide) ?_
      exact r_iretz hC hr hlk hW hQ (⟨bI_f (fun h9 => c_35_5 (by have h8 := h9.2; rw [← congrArg (fun q => q.2.2.1) heu2] at h8; rw [hgu2.2 8 (by omega) (by omega) (by omega), hgu2.2 9 (by omega) (by omega) (by omega)]; exact h8)), hgu2⟩) (rfl) dX5_isSeenWith_43
    · have c_35_5 := bI_nz c_35_5
      refine lv_iconst (v := 1) hx hb dX5_isSeenWith_38 (by decide) ?_
      refine lv_goto (tgt := 43) hx hb dX5_isSeenWith_39 (by decide) ?_
      exact r_iretz hC hr hlk hW hQ (⟨bI_t ⟨c_19_3, show soP R C ((exS t 5 q v).2 8) ((exS t 5 q v).2 9) _ from by rw [← congrArg (fun q => q.2.2.1) heu2, ← hgu2.2 8 (by omega) (by omega) (by omega), ← hgu2.2 9 (by omega) (by omega) (by omega)]; exact c_35_5⟩, hgu2⟩) (rfl) dX5_isSeenWith_43
set_option maxRecDepth 100000 in
set_option maxHeartbeats 4000000 in
theorem m_X5_isSeenWith1 (l : Launch) (D : va_G) (cs : CS3) (ad : Nat → Nat) (t : St) (P R C q : Nat) (v : Int32) (stp : Nat → Nat) (n : Nat) (hP : t.1 2 = nI P) (hP8 : P ≤ 8) (hR : t.1 3 = nI R) (hR5 : R ≤ 5) (hc4 : t.1 4 = nI C) (hC8 : C ≤ 8) (hq : q < 5) (hn : n ≤ 30) (hs : ∀ z, z < n → t.2 12 z = nI (stp z) ∧ (stp z = 5 ∨ stp z < R)): CT l yX5_isSeenWith cX5_isSeenWith 5 (some .boolean) (rmk 4 143) (wX cs ad) (tyX cs) D [.ref (ad 0), .int 1, .int (nI q), .int v, .int (nI n)] t (va_Qi (fun r u => r = bI (seenP P R C (exS t 6 q v) stp n) ∧ agrC 0 (exS t 6 q v) u)) := by
  refine CT.of (own := RX5) (by decide) rfl (Nat.le_of_ble_eq_true rfl) ?_
  intro p9 e9 s m9 args below meth c9 A Q hC hr hlk hW hQ ls hl
  obtain ⟨hx, hb, hml, hown, hts⟩ := id hC
  have hl : lv_has ls 5 [(0, .ref (ad 0)), (1, .int 1), (2, .int (nI q)), (3, .int v), (4, .int (nI n))] := hl
  refine lv_aload_n hx hb dX5_isSeenWith_0 rfl (lv_at hl 0 rfl) ?_
  refine gX_G_slope hC hW q_fl_RX5_12 dX5_isSeenWith_1 ?_
  refine lv_iload_n hx hb dX5_isSeenWith_4 rfl (lv_at hl 1 rfl) ?_
  refine lv_iload_n hx hb dX5_isSeenWith_5 rfl (lv_at hl 2 rfl) ?_
  refine lv_iload_n hx hb dX5_isSeenWith_6 rfl (lv_at hl 3 rfl) ?_
  refine fin_i (run_V (rest := []) hC hW (m_X3_exchange1 l D cs ad t q v (by omega)) k_yX3_exchange ⟨rfl, rfl⟩ q_ml_RX5_108 eX_1 rfl rfl hl.1 rfl (Nat.le_of_ble_eq_true rfl) ⟨Nat.le_of_ble_eq_true rfl, Nat.le_of_ble_eq_true rfl⟩ dX5_isSeenWith_7 ⟨Nat.zero_le _, Nat.zero_le _⟩) hW (fun r1 u1 H locs hp1 hW => ?_)
  have hW := hx_congr hW hp1.2
  refine r_top hp1.1 ?_
  have hW : HX (wX cs ad) (tyX cs) D A s.heap s (t.1, va_up t.2 6 (upd (t.2 6) q v)) H locs := hW
  refine lv_pop hx hb dX5_isSeenWith_10 rfl ?_
  refine lv_aload_n hx hb dX5_isSeenWith_11 rfl (lv_at hl 0 rfl) ?_
  refine lv_iload hx hb dX5_isSeenWith_12 (lv_at hl 4 rfl) ?_
  refine fin_i (run_V (rest := []) hC hW (m_X5_firstWrong l D cs ad (t.1, va_up t.2 6 (upd (t.2 6) q v)) P R stp n hP hP8 hR hR5 hn hs) k_yX5_firstWrong ⟨rfl, rfl⟩ q_ml_RX5_119 eX_0 rfl rfl hl.1 rfl (Nat.le_of_ble_eq_true rfl) ⟨Nat.le_of_ble_eq_true rfl, Nat.le_of_ble_eq_true rfl⟩ dX5_isSeenWith_14 ⟨Nat.zero_le _, Nat.zero_le _⟩) hW (fun r2 u2 H locs hp2 hW => ?_)
  obtain ⟨hru2, hgu2, heu2⟩ := hp2
  refine r_top hru2 ?_
  have hgu2 : agrC 0 (exS t 6 q v) u2 := hgu2
  have heu2 : cv u2 0 = (fw (hX P (exS t 6 q v)) stp n 0 (beg (exS t 6 q v))).2 := heu2
  refine lv_bipush (v := (-9)) hx hb dX5_isSeenWith_17 (by decide) ?_
  refine lv_icmp_ne (tgt := 42) hx hb dX5_isSeenWith_19 (by decide) (fun c_19_3 => ?_) (fun c_19_3 => ?_)
  · refine lv_iconst (v := 0) hx hb dX5_isSeenWith_42 (by decide) ?_
    exact r_iretz hC hr hlk hW hQ (⟨bI_f (fun h9 => c_19_3 h9.1), hgu2⟩) (rfl) dX5_isSeenWith_43
  · refine lv_aload_n hx hb dX5_isSeenWith_22 rfl (lv_at hl 0 rfl) ?_
    refine gX_G_readings hC hW q_fl_RX5_21 dX5_isSeenWith_23 ?_
    refine lv_aload_n hx hb dX5_isSeenWith_26 rfl (lv_at hl 0 rfl) ?_
    refine gX_G_climbs hC hW q_fl_RX5_34 dX5_isSeenWith_27 ?_
    refine lv_iconst (v := 0) hx hb dX5_isSeenWith_30 (by decide) ?_
    refine r_aldN (t0 := 2) (j := 0) hC hW eX_11 rfl rfl (by omega) (by decide) rfl dX5_isSeenWith_31 ?_
    refine fin_i (run_V (rest := []) hC hW (m_X1_areSo l D cs ad u2 0 (by omega) R C ((hgu2.1 3 (by omega)).trans hR) (by omega) ((hgu2.1 4 (by omega)).trans hc4) (by omega)) k_yX1_areSo ⟨rfl, rfl⟩ q_ml_RX5_259 eX_7 rfl rfl hl.1 rfl (Nat.le_of_ble_eq_true rfl) ⟨Nat.le_of_ble_eq_true rfl, Nat.le_of_ble_eq_true rfl⟩ dX5_isSeenWith_32 ⟨Nat.zero_le _, Nat.zero_le _⟩) hW (fun r4 u4 H locs hp4 hW => ?_)
    have hW := hx_congr hW hp4.2
    refine r_top hp4.1 ?_
    refine lv_if_eq (tgt := 42) hx hb dX5_isSeenWith_35 (by decide) (fun c_35_5 => ?_) (fun c_35_5 => ?_)
    · have c_35_5 := bI_z.mp c_35_5
      refine lv_iconst (v := 0) hx hb dX5_isSeenWith_42 (by decide) ?_
      exact r_iretz hC hr hlk hW hQ (⟨bI_f (fun h9 => c_35_5 (by have h8 := h9.2; rw [← congrArg (fun q => q.2.2.1) heu2] at h8; rw [hgu2.2 8 (by omega) (by omega) (by omega), hgu2.2 9 (by omega) (by omega) (by omega)]; exact h8)), hgu2⟩) (rfl) dX5_isSeenWith_43
    · have c_35_5 := bI_nz c_35_5
      refine lv_iconst (v := 1) hx hb dX5_isSeenWith_38 (by decide) ?_
      refine lv_goto (tgt := 43) hx hb dX5_isSeenWith_39 (by decide) ?_
      exact r_iretz hC hr hlk hW hQ (⟨bI_t ⟨c_19_3, show soP R C ((exS t 6 q v).2 8) ((exS t 6 q v).2 9) _ from by rw [← congrArg (fun q => q.2.2.1) heu2, ← hgu2.2 8 (by omega) (by omega) (by omega), ← hgu2.2 9 (by omega) (by omega) (by omega)]; exact c_35_5⟩, hgu2⟩) (rfl) dX5_isSeenWith_43
set_option maxRecDepth 100000 in
set_option maxHeartbeats 4000000 in
theorem m_X5_isSeenWith2 (l : Launch) (D : va_G) (cs : CS3) (ad : Nat → Nat) (t : St) (P R C q : Nat) (v : Int32) (stp : Nat → Nat) (n : Nat) (hP : t.1 2 = nI P) (hP8 : P ≤ 8) (hR : t.1 3 = nI R) (hR5 : R ≤ 5) (hc4 : t.1 4 = nI C) (hC8 : C ≤ 8) (hq : q < 8) (hn : n ≤ 30) (hs : ∀ z, z < n → t.2 12 z = nI (stp z) ∧ (stp z = 5 ∨ stp z < R)): CT l yX5_isSeenWith cX5_isSeenWith 5 (some .boolean) (rmk 4 143) (wX cs ad) (tyX cs) D [.ref (ad 0), .int 2, .int (nI q), .int v, .int (nI n)] t (va_Qi (fun r u => r = bI (seenP P R C (exS t 2 q v) stp n) ∧ agrC 0 (exS t 2 q v) u)) := by
  refine CT.of (own := RX5) (by decide) rfl (Nat.le_of_ble_eq_true rfl) ?_
  intro p9 e9 s m9 args below meth c9 A Q hC hr hlk hW hQ ls hl
  obtain ⟨hx, hb, hml, hown, hts⟩ := id hC
  have hl : lv_has ls 5 [(0, .ref (ad 0)), (1, .int 2), (2, .int (nI q)), (3, .int v), (4, .int (nI n))] := hl
  refine lv_aload_n hx hb dX5_isSeenWith_0 rfl (lv_at hl 0 rfl) ?_
  refine gX_G_slope hC hW q_fl_RX5_12 dX5_isSeenWith_1 ?_
  refine lv_iload_n hx hb dX5_isSeenWith_4 rfl (lv_at hl 1 rfl) ?_
  refine lv_iload_n hx hb dX5_isSeenWith_5 rfl (lv_at hl 2 rfl) ?_
  refine lv_iload_n hx hb dX5_isSeenWith_6 rfl (lv_at hl 3 rfl) ?_
  refine fin_i (run_V (rest := []) hC hW (m_X3_exchange2 l D cs ad t q v (by omega)) k_yX3_exchange ⟨rfl, rfl⟩ q_ml_RX5_108 eX_1 rfl rfl hl.1 rfl (Nat.le_of_ble_eq_true rfl) ⟨Nat.le_of_ble_eq_true rfl, Nat.le_of_ble_eq_true rfl⟩ dX5_isSeenWith_7 ⟨Nat.zero_le _, Nat.zero_le _⟩) hW (fun r1 u1 H locs hp1 hW => ?_)
  have hW := hx_congr hW hp1.2
  refine r_top hp1.1 ?_
  have hW : HX (wX cs ad) (tyX cs) D A s.heap s (t.1, va_up t.2 2 (upd (t.2 2) q v)) H locs := hW
  refine lv_pop hx hb dX5_isSeenWith_10 rfl ?_
  refine lv_aload_n hx hb dX5_isSeenWith_11 rfl (lv_at hl 0 rfl) ?_
  refine lv_iload hx hb dX5_isSeenWith_12 (lv_at hl 4 rfl) ?_
  refine fin_i (run_V (rest := []) hC hW (m_X5_firstWrong l D cs ad (t.1, va_up t.2 2 (upd (t.2 2) q v)) P R stp n hP hP8 hR hR5 hn hs) k_yX5_firstWrong ⟨rfl, rfl⟩ q_ml_RX5_119 eX_0 rfl rfl hl.1 rfl (Nat.le_of_ble_eq_true rfl) ⟨Nat.le_of_ble_eq_true rfl, Nat.le_of_ble_eq_true rfl⟩ dX5_isSeenWith_14 ⟨Nat.zero_le _, Nat.zero_le _⟩) hW (fun r2 u2 H locs hp2 hW => ?_)
  obtain ⟨hru2, hgu2, heu2⟩ := hp2
  refine r_top hru2 ?_
  have hgu2 : agrC 0 (exS t 2 q v) u2 := hgu2
  have heu2 : cv u2 0 = (fw (hX P (exS t 2 q v)) stp n 0 (beg (exS t 2 q v))).2 := heu2
  refine lv_bipush (v := (-9)) hx hb dX5_isSeenWith_17 (by decide) ?_
  refine lv_icmp_ne (tgt := 42) hx hb dX5_isSeenWith_19 (by decide) (fun c_19_3 => ?_) (fun c_19_3 => ?_)
  · refine lv_iconst (v := 0) hx hb dX5_isSeenWith_42 (by decide) ?_
    exact r_iretz hC hr hlk hW hQ (⟨bI_f (fun h9 => c_19_3 h9.1), hgu2⟩) (rfl) dX5_isSeenWith_43
  · refine lv_aload_n hx hb dX5_isSeenWith_22 rfl (lv_at hl 0 rfl) ?_
    refine gX_G_readings hC hW q_fl_RX5_21 dX5_isSeenWith_23 ?_
    refine lv_aload_n hx hb dX5_isSeenWith_26 rfl (lv_at hl 0 rfl) ?_
    refine gX_G_climbs hC hW q_fl_RX5_34 dX5_isSeenWith_27 ?_
    refine lv_iconst (v := 0) hx hb dX5_isSeenWith_30 (by decide) ?_
    refine r_aldN (t0 := 2) (j := 0) hC hW eX_11 rfl rfl (by omega) (by decide) rfl dX5_isSeenWith_31 ?_
    refine fin_i (run_V (rest := []) hC hW (m_X1_areSo l D cs ad u2 0 (by omega) R C ((hgu2.1 3 (by omega)).trans hR) (by omega) ((hgu2.1 4 (by omega)).trans hc4) (by omega)) k_yX1_areSo ⟨rfl, rfl⟩ q_ml_RX5_259 eX_7 rfl rfl hl.1 rfl (Nat.le_of_ble_eq_true rfl) ⟨Nat.le_of_ble_eq_true rfl, Nat.le_of_ble_eq_true rfl⟩ dX5_isSeenWith_32 ⟨Nat.zero_le _, Nat.zero_le _⟩) hW (fun r4 u4 H locs hp4 hW => ?_)
    have hW := hx_congr hW hp4.2
    refine r_top hp4.1 ?_
    refine lv_if_eq (tgt := 42) hx hb dX5_isSeenWith_35 (by decide) (fun c_35_5 => ?_) (fun c_35_5 => ?_)
    · have c_35_5 := bI_z.mp c_35_5
      refine lv_iconst (v := 0) hx hb dX5_isSeenWith_42 (by decide) ?_
      exact r_iretz hC hr hlk hW hQ (⟨bI_f (fun h9 => c_35_5 (by have h8 := h9.2; rw [← congrArg (fun q => q.2.2.1) heu2] at h8; rw [hgu2.2 8 (by omega) (by omega) (by omega), hgu2.2 9 (by omega) (by omega) (by omega)]; exact h8)), hgu2⟩) (rfl) dX5_isSeenWith_43
    · have c_35_5 := bI_nz c_35_5
      refine lv_iconst (v := 1) hx hb dX5_isSeenWith_38 (by decide) ?_
      refine lv_goto (tgt := 43) hx hb dX5_isSeenWith_39 (by decide) ?_
      exact r_iretz hC hr hlk hW hQ (⟨bI_t ⟨c_19_3, show soP R C ((exS t 2 q v).2 8) ((exS t 2 q v).2 9) _ from by rw [← congrArg (fun q => q.2.2.1) heu2, ← hgu2.2 8 (by omega) (by omega) (by omega), ← hgu2.2 9 (by omega) (by omega) (by omega)]; exact c_35_5⟩, hgu2⟩) (rfl) dX5_isSeenWith_43
set_option maxRecDepth 100000 in
set_option maxHeartbeats 4000000 in
theorem m_X5_isSeenWith3 (l : Launch) (D : va_G) (cs : CS3) (ad : Nat → Nat) (t : St) (P R C q : Nat) (v : Int32) (stp : Nat → Nat) (n : Nat) (hP : t.1 2 = nI P) (hP8 : P ≤ 8) (hR : t.1 3 = nI R) (hR5 : R ≤ 5) (hc4 : t.1 4 = nI C) (hC8 : C ≤ 8) (hq : q < 5) (hn : n ≤ 30) (hs : ∀ z, z < n → t.2 12 z = nI (stp z) ∧ (stp z = 5 ∨ stp z < R)): CT l yX5_isSeenWith cX5_isSeenWith 5 (some .boolean) (rmk 4 143) (wX cs ad) (tyX cs) D [.ref (ad 0), .int 3, .int (nI q), .int v, .int (nI n)] t (va_Qi (fun r u => r = bI (seenP P R C (exS t 4 q v) stp n) ∧ agrC 0 (exS t 4 q v) u)) := by
  refine CT.of (own := RX5) (by decide) rfl (Nat.le_of_ble_eq_true rfl) ?_
  intro p9 e9 s m9 args below meth c9 A Q hC hr hlk hW hQ ls hl
  obtain ⟨hx, hb, hml, hown, hts⟩ := id hC
  have hl : lv_has ls 5 [(0, .ref (ad 0)), (1, .int 3), (2, .int (nI q)), (3, .int v), (4, .int (nI n))] := hl
  refine lv_aload_n hx hb dX5_isSeenWith_0 rfl (lv_at hl 0 rfl) ?_
  refine gX_G_slope hC hW q_fl_RX5_12 dX5_isSeenWith_1 ?_
  refine lv_iload_n hx hb dX5_isSeenWith_4 rfl (lv_at hl 1 rfl) ?_
  refine lv_iload_n hx hb dX5_isSeenWith_5 rfl (lv_at hl 2 rfl) ?_
  refine lv_iload_n hx hb dX5_isSeenWith_6 rfl (lv_at hl 3 rfl) ?_
  refine fin_i (run_V (rest := []) hC hW (m_X3_exchange3 l D cs ad t q v (by omega)) k_yX3_exchange ⟨rfl, rfl⟩ q_ml_RX5_108 eX_1 rfl rfl hl.1 rfl (Nat.le_of_ble_eq_true rfl) ⟨Nat.le_of_ble_eq_true rfl, Nat.le_of_ble_eq_true rfl⟩ dX5_isSeenWith_7 ⟨Nat.zero_le _, Nat.zero_le _⟩) hW (fun r1 u1 H locs hp1 hW => ?_)
  have hW := hx_congr hW hp1.2
  refine r_top hp1.1 ?_
  have hW : HX (wX cs ad) (tyX cs) D A s.heap s (t.1, va_up t.2 4 (upd (t.2 4) q v)) H locs := hW
  refine lv_pop hx hb dX5_isSeenWith_10 rfl ?_
  refine lv_aload_n hx hb dX5_isSeenWith_11 rfl (lv_at hl 0 rfl) ?_
  refine lv_iload hx hb dX5_isSeenWith_12 (lv_at hl 4 rfl) ?_
  refine fin_i (run_V (rest := []) hC hW (m_X5_firstWrong l D cs ad (t.1, va_up t.2 4 (upd (t.2 4) q v)) P R stp n hP hP8 hR hR5 hn hs) k_yX5_firstWrong ⟨rfl, rfl⟩ q_ml_RX5_119 eX_0 rfl rfl hl.1 rfl (Nat.le_of_ble_eq_true rfl) ⟨Nat.le_of_ble_eq_true rfl, Nat.le_of_ble_eq_true rfl⟩ dX5_isSeenWith_14 ⟨Nat.zero_le _, Nat.zero_le _⟩) hW (fun r2 u2 H locs hp2 hW => ?_)
  obtain ⟨hru2, hgu2, heu2⟩ := hp2
  refine r_top hru2 ?_
  have hgu2 : agrC 0 (exS t 4 q v) u2 := hgu2
  have heu2 : cv u2 0 = (fw (hX P (exS t 4 q v)) stp n 0 (beg (exS t 4 q v))).2 := heu2
  refine lv_bipush (v := (-9)) hx hb dX5_isSeenWith_17 (by decide) ?_
  refine lv_icmp_ne (tgt := 42) hx hb dX5_isSeenWith_19 (by decide) (fun c_19_3 => ?_) (fun c_19_3 => ?_)
  · refine lv_iconst (v := 0) hx hb dX5_isSeenWith_42 (by decide) ?_
    exact r_iretz hC hr hlk hW hQ (⟨bI_f (fun h9 => c_19_3 h9.1), hgu2⟩) (rfl) dX5_isSeenWith_43
  · refine lv_aload_n hx hb dX5_isSeenWith_22 rfl (lv_at hl 0 rfl) ?_
    refine gX_G_readings hC hW q_fl_RX5_21 dX5_isSeenWith_23 ?_
    refine lv_aload_n hx hb dX5_isSeenWith_26 rfl (lv_at hl 0 rfl) ?_
    refine gX_G_climbs hC hW q_fl_RX5_34 dX5_isSeenWith_27 ?_
    refine lv_iconst (v := 0) hx hb dX5_isSeenWith_30 (by decide) ?_
    refine r_aldN (t0 := 2) (j := 0) hC hW eX_11 rfl rfl (by omega) (by decide) rfl dX5_isSeenWith_31 ?_
    refine fin_i (run_V (rest := []) hC hW (m_X1_areSo l D cs ad u2 0 (by omega) R C ((hgu2.1 3 (by omega)).trans hR) (by omega) ((hgu2.1 4 (by omega)).trans hc4) (by omega)) k_yX1_areSo ⟨rfl, rfl⟩ q_ml_RX5_259 eX_7 rfl rfl hl.1 rfl (Nat.le_of_ble_eq_true rfl) ⟨Nat.le_of_ble_eq_true rfl, Nat.le_of_ble_eq_true rfl⟩ dX5_isSeenWith_32 ⟨Nat.zero_le _, Nat.zero_le _⟩) hW (fun r4 u4 H locs hp4 hW => ?_)
    have hW := hx_congr hW hp4.2
    refine r_top hp4.1 ?_
    refine lv_if_eq (tgt := 42) hx hb dX5_isSeenWith_35 (by decide) (fun c_35_5 => ?_) (fun c_35_5 => ?_)
    · have c_35_5 := bI_z.mp c_35_5
      refine lv_iconst (v := 0) hx hb dX5_isSeenWith_42 (by decide) ?_
      exact r_iretz hC hr hlk hW hQ (⟨bI_f (fun h9 => c_35_5 (by have h8 := h9.2; rw [← congrArg (fun q => q.2.2.1) heu2] at h8; rw [hgu2.2 8 (by omega) (by omega) (by omega), hgu2.2 9 (by omega) (by omega) (by omega)]; exact h8)), hgu2⟩) (rfl) dX5_isSeenWith_43
    · have c_35_5 := bI_nz c_35_5
      refine lv_iconst (v := 1) hx hb dX5_isSeenWith_38 (by decide) ?_
      refine lv_goto (tgt := 43) hx hb dX5_isSeenWith_39 (by decide) ?_
      exact r_iretz hC hr hlk hW hQ (⟨bI_t ⟨c_19_3, show soP R C ((exS t 4 q v).2 8) ((exS t 4 q v).2 9) _ from by rw [← congrArg (fun q => q.2.2.1) heu2, ← hgu2.2 8 (by omega) (by omega) (by omega), ← hgu2.2 9 (by omega) (by omega) (by omega)]; exact c_35_5⟩, hgu2⟩) (rfl) dX5_isSeenWith_43
set_option maxRecDepth 100000 in
set_option maxHeartbeats 4000000 in
theorem m_X5_setSeenWith1 (l : Launch) (D : va_G) (cs : CS3) (ad : Nat → Nat) (t : St) (P R C q mo : Nat) (stp : Nat → Nat) (n : Nat) (hP : t.1 2 = nI P) (hP8 : P ≤ 8) (hR : t.1 3 = nI R) (hR5 : R ≤ 5) (hc4 : t.1 4 = nI C) (hC8 : C ≤ 8) (hq : q < 5) (hmo : mo ≤ 20) (hn : n ≤ 30) (hs : ∀ z, z < n → t.2 12 z = nI (stp z) ∧ (stp z = 5 ∨ stp z < R)): CT l yX5_setSeenWith cX5_setSeenWith 8 (some .int) (rmk 5 167) (wX cs ad) (tyX cs) D [.ref (ad 0), .int 1, .int (nI q), .int (nI mo), .int (nI n)] t (va_Qi (fun r u => r = bitsF (fun v => bI (seenP P R C (exS t 6 q (nI v)) stp n)) (mo + 1) ∧ agrC 0 t u)) := by
  refine CT.of (own := RX5) (by decide) rfl (Nat.le_of_ble_eq_true rfl) ?_
  intro p9 e9 s m9 args below meth c9 A Q hC hr hlk hW hQ ls hl
  obtain ⟨hx, hb, hml, hown, hts⟩ := id hC
  have hl : lv_has ls 8 [(0, .ref (ad 0)), (1, .int 1), (2, .int (nI q)), (3, .int (nI mo)), (4, .int (nI n))] := hl
  refine lv_aload_n hx hb dX5_setSeenWith_0 rfl (lv_at hl 0 rfl) ?_
  refine gX_G_slope hC hW q_fl_RX5_12 dX5_setSeenWith_1 ?_
  refine lv_iload_n hx hb dX5_setSeenWith_4 rfl (lv_at hl 1 rfl) ?_
  refine lv_iload_n hx hb dX5_setSeenWith_5 rfl (lv_at hl 2 rfl) ?_
  refine lv_iconst (v := 0) hx hb dX5_setSeenWith_6 (by decide) ?_
  refine fin_i (run_V (rest := []) hC hW (m_X3_exchange1 l D cs ad t q 0 (by omega)) k_yX3_exchange ⟨rfl, rfl⟩ q_ml_RX5_108 eX_1 rfl rfl hl.1 rfl (Nat.le_of_ble_eq_true rfl) ⟨Nat.le_of_ble_eq_true rfl, Nat.le_of_ble_eq_true rfl⟩ dX5_setSeenWith_7 ⟨Nat.zero_le _, Nat.zero_le _⟩) hW (fun r1 u1 H locs hp1 hW => ?_)
  have hW := hx_congr hW hp1.2
  refine r_top hp1.1 ?_
  have hW : HX (wX cs ad) (tyX cs) D A s.heap s (t.1, va_up t.2 6 (upd (t.2 6) q 0)) H locs := hW
  refine lv_istore (lv' := [(5, .int (t.2 6 q)), (0, .ref (ad 0)), (1, .int 1), (2, .int (nI q)), (3, .int (nI mo)), (4, .int (nI n))]) hx hb dX5_setSeenWith_10 hl (by decide) rfl (fun ls hl => ?_)
  refine lv_iconst (v := 0) hx hb dX5_setSeenWith_12 (by decide) ?_
  refine lv_istore (lv' := [(6, .int 0), (5, .int (t.2 6 q)), (0, .ref (ad 0)), (1, .int 1), (2, .int (nI q)), (3, .int (nI mo)), (4, .int (nI n))]) hx hb dX5_setSeenWith_13 hl (by decide) rfl (fun ls hl => ?_)
  refine lv_iconst (v := 0) hx hb dX5_setSeenWith_15 (by decide) ?_
  refine lv_istore (lv' := [(7, .int 0), (6, .int 0), (5, .int (t.2 6 q)), (0, .ref (ad 0)), (1, .int 1), (2, .int (nI q)), (3, .int (nI mo)), (4, .int (nI n))]) hx hb dX5_setSeenWith_16 hl (by decide) rfl (fun ls hl => ?_)
  have loop_18_2 : ∀ (f9 : Nat) (v : Nat) (x : Int32) (S : Int32) (u : St), (v ≤ mo + 1) → (agrC 0 (exS t 6 q x) u) → (S = bitsF (fun v => bI (seenP P R C (exS t 6 q (nI v)) stp n)) v) → mo + 1 - v < f9 → ∀ (H : Heap) (locs : List Loc), HX (wX cs ad) (tyX cs) D A s.heap s u H locs → ∀ ls : Array Slot, lv_has ls 8 [(7, .int (nI v)), (6, .int S), (5, .int (t.2 6 q)), (0, .ref (ad 0)), (1, .int 1), (2, .int (nI q)), (3, .int (nI mo)), (4, .int (nI n))] → W p9 l e9 (rmk 5 167) s m9 args below meth c9 H locs 0 0 Q (F0 m9 18 ls []) := by
    intro f_18
    induction f_18 with
    | zero => intro v x S u hv hg hS hm_18 H locs hW ls hl; exact absurd hm_18 (Nat.not_lt_zero _)
    | succ f_18 ih_18 =>
      intro v x S u hv hg hS hm_18 H locs hW ls hl
      refine lv_iload hx hb dX5_setSeenWith_18 (lv_at hl 0 rfl) ?_
      refine lv_iload_n hx hb dX5_setSeenWith_20 rfl (lv_at hl 6 rfl) ?_
      refine lv_icmp_gt (tgt := 52) hx hb dX5_setSeenWith_21 (by decide) (fun c_21_3 => ?_) (fun c_21_3 => ?_)
      · have c_21_3 : mo < v := (nI_ltI (a := mo) (b := v) (by omega) (by omega)).mp c_21_3
        refine lv_aload_n hx hb dX5_setSeenWith_52 rfl (lv_at hl 3 rfl) ?_
        refine gX_G_slope hC hW q_fl_RX5_12 dX5_setSeenWith_53 ?_
        refine lv_iload_n hx hb dX5_setSeenWith_56 rfl (lv_at hl 4 rfl) ?_
        refine lv_iload_n hx hb dX5_setSeenWith_57 rfl (lv_at hl 5 rfl) ?_
        refine lv_iload hx hb dX5_setSeenWith_58 (lv_at hl 2 rfl) ?_
        refine fin_i (run_V (rest := []) hC hW (m_X3_exchange1 l D cs ad u q (t.2 6 q) (by omega)) k_yX3_exchange ⟨rfl, rfl⟩ q_ml_RX5_108 eX_1 rfl rfl hl.1 rfl (Nat.le_of_ble_eq_true rfl) ⟨Nat.le_of_ble_eq_true rfl, Nat.le_of_ble_eq_true rfl⟩ dX5_setSeenWith_60 ⟨Nat.zero_le _, Nat.zero_le _⟩) hW (fun r4 u4 H locs hp4 hW => ?_)
        have hW := hx_congr hW hp4.2
        refine r_top hp4.1 ?_
        have hW : HX (wX cs ad) (tyX cs) D A s.heap s (u.1, va_up u.2 6 (upd (u.2 6) q (t.2 6 q))) H locs := hW
        refine lv_pop hx hb dX5_setSeenWith_63 rfl ?_
        refine lv_iload hx hb dX5_setSeenWith_64 (lv_at hl 1 rfl) ?_
        have hfin := exS_agr (by omega) hg (t.2 6 q)
        rw [exS_id] at hfin
        exact r_ireti hC hr hlk hW hQ (⟨by rw [hS, show v = mo + 1 by omega], hfin⟩) dX5_setSeenWith_66
      · have c_21_3 : ¬ mo < v := fun h => c_21_3 ((nI_ltI (a := mo) (b := v) (by omega) (by omega)).mpr h)
        refine lv_aload_n hx hb dX5_setSeenWith_24 rfl (lv_at hl 3 rfl) ?_
        refine lv_iload_n hx hb dX5_setSeenWith_25 rfl (lv_at hl 4 rfl) ?_
        refine lv_iload_n hx hb dX5_setSeenWith_26 rfl (lv_at hl 5 rfl) ?_
        refine lv_iload hx hb dX5_setSeenWith_27 (lv_at hl 0 rfl) ?_
        refine lv_iload hx hb dX5_setSeenWith_29 (lv_at hl 7 rfl) ?_
        refine fin_i (run_V (rest := []) hC hW (m_X5_isSeenWith1 l D cs ad u P R C q (nI v) stp n ((hg.1 2 (by omega)).trans hP) hP8 ((hg.1 3 (by omega)).trans hR) hR5 ((hg.1 4 (by omega)).trans hc4) hC8 hq hn (fun z hz => by rw [hg.2 12 (by omega) (by omega) (by omega)]; exact hs z hz)) k_yX5_isSeenWith ⟨rfl, rfl⟩ q_ml_RX5_172 eX_0 rfl rfl hl.1 rfl (Nat.le_of_ble_eq_true rfl) ⟨Nat.le_of_ble_eq_true rfl, Nat.le_of_ble_eq_true rfl⟩ dX5_setSeenWith_31 ⟨Nat.zero_le _, Nat.zero_le _⟩) hW (fun r5 u5 H locs hp5 hW => ?_)
        obtain ⟨hru5, hgu5⟩ := hp5
        have hvu5 := exS_agr (by omega) hg (nI v)
        have hwu5 := hvu5.tr hgu5
        refine r_top (hru5.trans (bI_c (seenP_agr hvu5))) ?_
        refine lv_if_eq (tgt := 46) hx hb dX5_setSeenWith_34 (by decide) (fun c_34_6 => ?_) (fun c_34_6 => ?_)
        · have c_34_6 := bI_z.mp c_34_6
          refine lv_iinc (v := nI (v + 1)) (lv' := [(7, .int (nI (v + 1))), (6, .int S), (5, .int (t.2 6 q)), (0, .ref (ad 0)), (1, .int 1), (2, .int (nI q)), (3, .int (nI mo)), (4, .int (nI n))]) hx hb dX5_setSeenWith_46 hl (k := 0) rfl (nI_1 _) (by decide) rfl (fun ls hl => ?_)
          refine lv_goto (tgt := 18) hx hb dX5_setSeenWith_49 (by decide) ?_
          exact ih_18 (v + 1) (nI v) S u5 (by omega) (hwu5) (by show _ = ite _ _ _; rw [if_pos (bI_z.mpr c_34_6)]; exact hS) (by omega) _ _ hW ls (lv_sub hl [0, 1, 2, 3, 4, 5, 6, 7] rfl)
        · have c_34_6 := bI_nz c_34_6
          refine lv_iload hx hb dX5_setSeenWith_37 (lv_at hl 1 rfl) ?_
          refine lv_iconst (v := 1) hx hb dX5_setSeenWith_39 (by decide) ?_
          refine lv_iload hx hb dX5_setSeenWith_40 (lv_at hl 0 rfl) ?_
          refine lv_ishl hx hb dX5_setSeenWith_42 ?_
          refine lv_ior hx hb dX5_setSeenWith_43 ?_
          refine lv_istore (lv' := [(6, .int (S ||| (1 <<< ((nI v) &&& 31)))), (7, .int (nI v)), (5, .int (t.2 6 q)), (0, .ref (ad 0)), (1, .int 1), (2, .int (nI q)), (3, .int (nI mo)), (4, .int (nI n))]) hx hb dX5_setSeenWith_44 hl (by decide) rfl (fun ls hl => ?_)
          refine lv_iinc (v := nI (v + 1)) (lv' := [(7, .int (nI (v + 1))), (6, .int (S ||| (1 <<< ((nI v) &&& 31)))), (5, .int (t.2 6 q)), (0, .ref (ad 0)), (1, .int 1), (2, .int (nI q)), (3, .int (nI mo)), (4, .int (nI n))]) hx hb dX5_setSeenWith_46 hl (k := 1) rfl (nI_1 _) (by decide) rfl (fun ls hl => ?_)
          refine lv_goto (tgt := 18) hx hb dX5_setSeenWith_49 (by decide) ?_
          exact ih_18 (v + 1) (nI v) (S ||| (1 <<< ((nI v) &&& 31))) u5 (by omega) (hwu5) (by show _ = ite _ _ _; rw [if_neg (fun h9 => bI_z.mp h9 c_34_6), hS]) (by omega) _ _ hW ls (lv_sub hl [0, 1, 2, 3, 4, 5, 6, 7] rfl)
  exact loop_18_2 _ 0 0 0 (t.1, va_up t.2 6 (upd (t.2 6) q 0)) (Nat.zero_le _) (agrC.rf 0 _) (rfl) (Nat.lt_succ_self _) _ _ hW ls (lv_sub hl [0, 1, 2, 3, 4, 5, 6, 7] rfl)
set_option maxRecDepth 100000 in
set_option maxHeartbeats 4000000 in
theorem m_X5_setSeenWith2 (l : Launch) (D : va_G) (cs : CS3) (ad : Nat → Nat) (t : St) (P R C q mo : Nat) (stp : Nat → Nat) (n : Nat) (hP : t.1 2 = nI P) (hP8 : P ≤ 8) (hR : t.1 3 = nI R) (hR5 : R ≤ 5) (hc4 : t.1 4 = nI C) (hC8 : C ≤ 8) (hq : q < 8) (hmo : mo ≤ 20) (hn : n ≤ 30) (hs : ∀ z, z < n → t.2 12 z = nI (stp z) ∧ (stp z = 5 ∨ stp z < R)): CT l yX5_setSeenWith cX5_setSeenWith 8 (some .int) (rmk 5 167) (wX cs ad) (tyX cs) D [.ref (ad 0), .int 2, .int (nI q), .int (nI mo), .int (nI n)] t (va_Qi (fun r u => r = bitsF (fun v => bI (seenP P R C (exS t 2 q (nI v)) stp n)) (mo + 1) ∧ agrC 0 t u)) := by
  refine CT.of (own := RX5) (by decide) rfl (Nat.le_of_ble_eq_true rfl) ?_
  intro p9 e9 s m9 args below meth c9 A Q hC hr hlk hW hQ ls hl
  obtain ⟨hx, hb, hml, hown, hts⟩ := id hC
  have hl : lv_has ls 8 [(0, .ref (ad 0)), (1, .int 2), (2, .int (nI q)), (3, .int (nI mo)), (4, .int (nI n))] := hl
  refine lv_aload_n hx hb dX5_setSeenWith_0 rfl (lv_at hl 0 rfl) ?_
  refine gX_G_slope hC hW q_fl_RX5_12 dX5_setSeenWith_1 ?_
  refine lv_iload_n hx hb dX5_setSeenWith_4 rfl (lv_at hl 1 rfl) ?_
  refine lv_iload_n hx hb dX5_setSeenWith_5 rfl (lv_at hl 2 rfl) ?_
  refine lv_iconst (v := 0) hx hb dX5_setSeenWith_6 (by decide) ?_
  refine fin_i (run_V (rest := []) hC hW (m_X3_exchange2 l D cs ad t q 0 (by omega)) k_yX3_exchange ⟨rfl, rfl⟩ q_ml_RX5_108 eX_1 rfl rfl hl.1 rfl (Nat.le_of_ble_eq_true rfl) ⟨Nat.le_of_ble_eq_true rfl, Nat.le_of_ble_eq_true rfl⟩ dX5_setSeenWith_7 ⟨Nat.zero_le _, Nat.zero_le _⟩) hW (fun r1 u1 H locs hp1 hW => ?_)
  have hW := hx_congr hW hp1.2
  refine r_top hp1.1 ?_
  have hW : HX (wX cs ad) (tyX cs) D A s.heap s (t.1, va_up t.2 2 (upd (t.2 2) q 0)) H locs := hW
  refine lv_istore (lv' := [(5, .int (t.2 2 q)), (0, .ref (ad 0)), (1, .int 2), (2, .int (nI q)), (3, .int (nI mo)), (4, .int (nI n))]) hx hb dX5_setSeenWith_10 hl (by decide) rfl (fun ls hl => ?_)
  refine lv_iconst (v := 0) hx hb dX5_setSeenWith_12 (by decide) ?_
  refine lv_istore (lv' := [(6, .int 0), (5, .int (t.2 2 q)), (0, .ref (ad 0)), (1, .int 2), (2, .int (nI q)), (3, .int (nI mo)), (4, .int (nI n))]) hx hb dX5_setSeenWith_13 hl (by decide) rfl (fun ls hl => ?_)
  refine lv_iconst (v := 0) hx hb dX5_setSeenWith_15 (by decide) ?_
  refine lv_istore (lv' := [(7, .int 0), (6, .int 0), (5, .int (t.2 2 q)), (0, .ref (ad 0)), (1, .int 2), (2, .int (nI q)), (3, .int (nI mo)), (4, .int (nI n))]) hx hb dX5_setSeenWith_16 hl (by decide) rfl (fun ls hl => ?_)
  have loop_18_2 : ∀ (f9 : Nat) (v : Nat) (x : Int32) (S : Int32) (u : St), (v ≤ mo + 1) → (agrC 0 (exS t 2 q x) u) → (S = bitsF (fun v => bI (seenP P R C (exS t 2 q (nI v)) stp n)) v) → mo + 1 - v < f9 → ∀ (H : Heap) (locs : List Loc), HX (wX cs ad) (tyX cs) D A s.heap s u H locs → ∀ ls : Array Slot, lv_has ls 8 [(7, .int (nI v)), (6, .int S), (5, .int (t.2 2 q)), (0, .ref (ad 0)), (1, .int 2), (2, .int (nI q)), (3, .int (nI mo)), (4, .int (nI n))] → W p9 l e9 (rmk 5 167) s m9 args below meth c9 H locs 0 0 Q (F0 m9 18 ls []) := by
    intro f_18
    induction f_18 with
    | zero => intro v x S u hv hg hS hm_18 H locs hW ls hl; exact absurd hm_18 (Nat.not_lt_zero _)
    | succ f_18 ih_18 =>
      intro v x S u hv hg hS hm_18 H locs hW ls hl
      refine lv_iload hx hb dX5_setSeenWith_18 (lv_at hl 0 rfl) ?_
      refine lv_iload_n hx hb dX5_setSeenWith_20 rfl (lv_at hl 6 rfl) ?_
      refine lv_icmp_gt (tgt := 52) hx hb dX5_setSeenWith_21 (by decide) (fun c_21_3 => ?_) (fun c_21_3 => ?_)
      · have c_21_3 : mo < v := (nI_ltI (a := mo) (b := v) (by omega) (by omega)).mp c_21_3
        refine lv_aload_n hx hb dX5_setSeenWith_52 rfl (lv_at hl 3 rfl) ?_
        refine gX_G_slope hC hW q_fl_RX5_12 dX5_setSeenWith_53 ?_
        refine lv_iload_n hx hb dX5_setSeenWith_56 rfl (lv_at hl 4 rfl) ?_
        refine lv_iload_n hx hb dX5_setSeenWith_57 rfl (lv_at hl 5 rfl) ?_
        refine lv_iload hx hb dX5_setSeenWith_58 (lv_at hl 2 rfl) ?_
        refine fin_i (run_V (rest := []) hC hW (m_X3_exchange2 l D cs ad u q (t.2 2 q) (by omega)) k_yX3_exchange ⟨rfl, rfl⟩ q_ml_RX5_108 eX_1 rfl rfl hl.1 rfl (Nat.le_of_ble_eq_true rfl) ⟨Nat.le_of_ble_eq_true rfl, Nat.le_of_ble_eq_true rfl⟩ dX5_setSeenWith_60 ⟨Nat.zero_le _, Nat.zero_le _⟩) hW (fun r4 u4 H locs hp4 hW => ?_)
        have hW := hx_congr hW hp4.2
        refine r_top hp4.1 ?_
        have hW : HX (wX cs ad) (tyX cs) D A s.heap s (u.1, va_up u.2 2 (upd (u.2 2) q (t.2 2 q))) H locs := hW
        refine lv_pop hx hb dX5_setSeenWith_63 rfl ?_
        refine lv_iload hx hb dX5_setSeenWith_64 (lv_at hl 1 rfl) ?_
        have hfin := exS_agr (by omega) hg (t.2 2 q)
        rw [exS_id] at hfin
        exact r_ireti hC hr hlk hW hQ (⟨by rw [hS, show v = mo + 1 by omega], hfin⟩) dX5_setSeenWith_66
      · have c_21_3 : ¬ mo < v := fun h => c_21_3 ((nI_ltI (a := mo) (b := v) (by omega) (by omega)).mpr h)
        refine lv_aload_n hx hb dX5_setSeenWith_24 rfl (lv_at hl 3 rfl) ?_
        refine lv_iload_n hx hb dX5_setSeenWith_25 rfl (lv_at hl 4 rfl) ?_
        refine lv_iload_n hx hb dX5_setSeenWith_26 rfl (lv_at hl 5 rfl) ?_
        refine lv_iload hx hb dX5_setSeenWith_27 (lv_at hl 0 rfl) ?_
        refine lv_iload hx hb dX5_setSeenWith_29 (lv_at hl 7 rfl) ?_
        refine fin_i (run_V (rest := []) hC hW (m_X5_isSeenWith2 l D cs ad u P R C q (nI v) stp n ((hg.1 2 (by omega)).trans hP) hP8 ((hg.1 3 (by omega)).trans hR) hR5 ((hg.1 4 (by omega)).trans hc4) hC8 hq hn (fun z hz => by rw [hg.2 12 (by omega) (by omega) (by omega)]; exact hs z hz)) k_yX5_isSeenWith ⟨rfl, rfl⟩ q_ml_RX5_172 eX_0 rfl rfl hl.1 rfl (Nat.le_of_ble_eq_true rfl) ⟨Nat.le_of_ble_eq_true rfl, Nat.le_of_ble_eq_true rfl⟩ dX5_setSeenWith_31 ⟨Nat.zero_le _, Nat.zero_le _⟩) hW (fun r5 u5 H locs hp5 hW => ?_)
        obtain ⟨hru5, hgu5⟩ := hp5
        have hvu5 := exS_agr (by omega) hg (nI v)
        have hwu5 := hvu5.tr hgu5
        refine r_top (hru5.trans (bI_c (seenP_agr hvu5))) ?_
        refine lv_if_eq (tgt := 46) hx hb dX5_setSeenWith_34 (by decide) (fun c_34_6 => ?_) (fun c_34_6 => ?_)
        · have c_34_6 := bI_z.mp c_34_6
          refine lv_iinc (v := nI (v + 1)) (lv' := [(7, .int (nI (v + 1))), (6, .int S), (5, .int (t.2 2 q)), (0, .ref (ad 0)), (1, .int 2), (2, .int (nI q)), (3, .int (nI mo)), (4, .int (nI n))]) hx hb dX5_setSeenWith_46 hl (k := 0) rfl (nI_1 _) (by decide) rfl (fun ls hl => ?_)
          refine lv_goto (tgt := 18) hx hb dX5_setSeenWith_49 (by decide) ?_
          exact ih_18 (v + 1) (nI v) S u5 (by omega) (hwu5) (by show _ = ite _ _ _; rw [if_pos (bI_z.mpr c_34_6)]; exact hS) (by omega) _ _ hW ls (lv_sub hl [0, 1, 2, 3, 4, 5, 6, 7] rfl)
        · have c_34_6 := bI_nz c_34_6
          refine lv_iload hx hb dX5_setSeenWith_37 (lv_at hl 1 rfl) ?_
          refine lv_iconst (v := 1) hx hb dX5_setSeenWith_39 (by decide) ?_
          refine lv_iload hx hb dX5_setSeenWith_40 (lv_at hl 0 rfl) ?_
          refine lv_ishl hx hb dX5_setSeenWith_42 ?_
          refine lv_ior hx hb dX5_setSeenWith_43 ?_
          refine lv_istore (lv' := [(6, .int (S ||| (1 <<< ((nI v) &&& 31)))), (7, .int (nI v)), (5, .int (t.2 2 q)), (0, .ref (ad 0)), (1, .int 2), (2, .int (nI q)), (3, .int (nI mo)), (4, .int (nI n))]) hx hb dX5_setSeenWith_44 hl (by decide) rfl (fun ls hl => ?_)
          refine lv_iinc (v := nI (v + 1)) (lv' := [(7, .int (nI (v + 1))), (6, .int (S ||| (1 <<< ((nI v) &&& 31)))), (5, .int (t.2 2 q)), (0, .ref (ad 0)), (1, .int 2), (2, .int (nI q)), (3, .int (nI mo)), (4, .int (nI n))]) hx hb dX5_setSeenWith_46 hl (k := 1) rfl (nI_1 _) (by decide) rfl (fun ls hl => ?_)
          refine lv_goto (tgt := 18) hx hb dX5_setSeenWith_49 (by decide) ?_
          exact ih_18 (v + 1) (nI v) (S ||| (1 <<< ((nI v) &&& 31))) u5 (by omega) (hwu5) (by show _ = ite _ _ _; rw [if_neg (fun h9 => bI_z.mp h9 c_34_6), hS]) (by omega) _ _ hW ls (lv_sub hl [0, 1, 2, 3, 4, 5, 6, 7] rfl)
  exact loop_18_2 _ 0 0 0 (t.1, va_up t.2 2 (upd (t.2 2) q 0)) (Nat.zero_le _) (agrC.rf 0 _) (rfl) (Nat.lt_succ_self _) _ _ hW ls (lv_sub hl [0, 1, 2, 3, 4, 5, 6, 7] rfl)
set_option maxRecDepth 100000 in
set_option maxHeartbeats 4000000 in
theorem m_X5_setSeenWith3 (l : Launch) (D : va_G) (cs : CS3) (ad : Nat → Nat) (t : St) (P R C q mo : Nat) (stp : Nat → Nat) (n : Nat) (hP : t.1 2 = nI P) (hP8 : P ≤ 8) (hR : t.1 3 = nI R) (hR5 : R ≤ 5) (hc4 : t.1 4 = nI C) (hC8 : C ≤ 8) (hq : q < 5) (hmo : mo ≤ 20) (hn : n ≤ 30) (hs : ∀ z, z < n → t.2 12 z = nI (stp z) ∧ (stp z = 5 ∨ stp z < R)): CT l yX5_setSeenWith cX5_setSeenWith 8 (some .int) (rmk 5 167) (wX cs ad) (tyX cs) D [.ref (ad 0), .int 3, .int (nI q), .int (nI mo), .int (nI n)] t (va_Qi (fun r u => r = bitsF (fun v => bI (seenP P R C (exS t 4 q (nI v)) stp n)) (mo + 1) ∧ agrC 0 t u)) := by
  refine CT.of (own := RX5) (by decide) rfl (Nat.le_of_ble_eq_true rfl) ?_
  intro p9 e9 s m9 args below meth c9 A Q hC hr hlk hW hQ ls hl
  obtain ⟨hx, hb, hml, hown, hts⟩ := id hC
  have hl : lv_has ls 8 [(0, .ref (ad 0)), (1, .int 3), (2, .int (nI q)), (3, .int (nI mo)), (4, .int (nI n))] := hl
  refine lv_aload_n hx hb dX5_setSeenWith_0 rfl (lv_at hl 0 rfl) ?_
  refine gX_G_slope hC hW q_fl_RX5_12 dX5_setSeenWith_1 ?_
  refine lv_iload_n hx hb dX5_setSeenWith_4 rfl (lv_at hl 1 rfl) ?_
  refine lv_iload_n hx hb dX5_setSeenWith_5 rfl (lv_at hl 2 rfl) ?_
  refine lv_iconst (v := 0) hx hb dX5_setSeenWith_6 (by decide) ?_
  refine fin_i (run_V (rest := []) hC hW (m_X3_exchange3 l D cs ad t q 0 (by omega)) k_yX3_exchange ⟨rfl, rfl⟩ q_ml_RX5_108 eX_1 rfl rfl hl.1 rfl (Nat.le_of_ble_eq_true rfl) ⟨Nat.le_of_ble_eq_true rfl, Nat.le_of_ble_eq_true rfl⟩ dX5_setSeenWith_7 ⟨Nat.zero_le _, Nat.zero_le _⟩) hW (fun r1 u1 H locs hp1 hW => ?_)
  have hW := hx_congr hW hp1.2
  refine r_top hp1.1 ?_
  have hW : HX (wX cs ad) (tyX cs) D A s.heap s (t.1, va_up t.2 4 (upd (t.2 4) q 0)) H locs := hW
  refine lv_istore (lv' := [(5, .int (t.2 4 q)), (0, .ref (ad 0)), (1, .int 3), (2, .int (nI q)), (3, .int (nI mo)), (4, .int (nI n))]) hx hb dX5_setSeenWith_10 hl (by decide) rfl (fun ls hl => ?_)
  refine lv_iconst (v := 0) hx hb dX5_setSeenWith_12 (by decide) ?_
  refine lv_istore (lv' := [(6, .int 0), (5, .int (t.2 4 q)), (0, .ref (ad 0)), (1, .int 3), (2, .int (nI q)), (3, .int (nI mo)), (4, .int (nI n))]) hx hb dX5_setSeenWith_13 hl (by decide) rfl (fun ls hl => ?_)
  refine lv_iconst (v := 0) hx hb dX5_setSeenWith_15 (by decide) ?_
  refine lv_istore (lv' := [(7, .int 0), (6, .int 0), (5, .int (t.2 4 q)), (0, .ref (ad 0)), (1, .int 3), (2, .int (nI q)), (3, .int (nI mo)), (4, .int (nI n))]) hx hb dX5_setSeenWith_16 hl (by decide) rfl (fun ls hl => ?_)
  have loop_18_2 : ∀ (f9 : Nat) (v : Nat) (x : Int32) (S : Int32) (u : St), (v ≤ mo + 1) → (agrC 0 (exS t 4 q x) u) → (S = bitsF (fun v => bI (seenP P R C (exS t 4 q (nI v)) stp n)) v) → mo + 1 - v < f9 → ∀ (H : Heap) (locs : List Loc), HX (wX cs ad) (tyX cs) D A s.heap s u H locs → ∀ ls : Array Slot, lv_has ls 8 [(7, .int (nI v)), (6, .int S), (5, .int (t.2 4 q)), (0, .ref (ad 0)), (1, .int 3), (2, .int (nI q)), (3, .int (nI mo)), (4, .int (nI n))] → W p9 l e9 (rmk 5 167) s m9 args below meth c9 H locs 0 0 Q (F0 m9 18 ls []) := by
    intro f_18
    induction f_18 with
    | zero => intro v x S u hv hg hS hm_18 H locs hW ls hl; exact absurd hm_18 (Nat.not_lt_zero _)
    | succ f_18 ih_18 =>
      intro v x S u hv hg hS hm_18 H locs hW ls hl
      refine lv_iload hx hb dX5_setSeenWith_18 (lv_at hl 0 rfl) ?_
      refine lv_iload_n hx hb dX5_setSeenWith_20 rfl (lv_at hl 6 rfl) ?_
      refine lv_icmp_gt (tgt := 52) hx hb dX5_setSeenWith_21 (by decide) (fun c_21_3 => ?_) (fun c_21_3 => ?_)
      · have c_21_3 : mo < v := (nI_ltI (a := mo) (b := v) (by omega) (by omega)).mp c_21_3
        refine lv_aload_n hx hb dX5_setSeenWith_52 rfl (lv_at hl 3 rfl) ?_
        refine gX_G_slope hC hW q_fl_RX5_12 dX5_setSeenWith_53 ?_
        refine lv_iload_n hx hb dX5_setSeenWith_56 rfl (lv_at hl 4 rfl) ?_
        refine lv_iload_n hx hb dX5_setSeenWith_57 rfl (lv_at hl 5 rfl) ?_
        refine lv_iload hx hb dX5_setSeenWith_58 (lv_at hl 2 rfl) ?_
        refine fin_i (run_V (rest := []) hC hW (m_X3_exchange3 l D cs ad u q (t.2 4 q) (by omega)) k_yX3_exchange ⟨rfl, rfl⟩ q_ml_RX5_108 eX_1 rfl rfl hl.1 rfl (Nat.le_of_ble_eq_true rfl) ⟨Nat.le_of_ble_eq_true rfl, Nat.le_of_ble_eq_true rfl⟩ dX5_setSeenWith_60 ⟨Nat.zero_le _, Nat.zero_le _⟩) hW (fun r4 u4 H locs hp4 hW => ?_)
        have hW := hx_congr hW hp4.2
        refine r_top hp4.1 ?_
        have hW : HX (wX cs ad) (tyX cs) D A s.heap s (u.1, va_up u.2 4 (upd (u.2 4) q (t.2 4 q))) H locs := hW
        refine lv_pop hx hb dX5_setSeenWith_63 rfl ?_
        refine lv_iload hx hb dX5_setSeenWith_64 (lv_at hl 1 rfl) ?_
        have hfin := exS_agr (by omega) hg (t.2 4 q)
        rw [exS_id] at hfin
        exact r_ireti hC hr hlk hW hQ (⟨by rw [hS, show v = mo + 1 by omega], hfin⟩) dX5_setSeenWith_66
      · have c_21_3 : ¬ mo < v := fun h => c_21_3 ((nI_ltI (a := mo) (b := v) (by omega) (by omega)).mpr h)
        refine lv_aload_n hx hb dX5_setSeenWith_24 rfl (lv_at hl 3 rfl) ?_
        refine lv_iload_n hx hb dX5_setSeenWith_25 rfl (lv_at hl 4 rfl) ?_
        refine lv_iload_n hx hb dX5_setSeenWith_26 rfl (lv_at hl 5 rfl) ?_
        refine lv_iload hx hb dX5_setSeenWith_27 (lv_at hl 0 rfl) ?_
        refine lv_iload hx hb dX5_setSeenWith_29 (lv_at hl 7 rfl) ?_
        refine fin_i (run_V (rest := []) hC hW (m_X5_isSeenWith3 l D cs ad u P R C q (nI v) stp n ((hg.1 2 (by omega)).trans hP) hP8 ((hg.1 3 (by omega)).trans hR) hR5 ((hg.1 4 (by omega)).trans hc4) hC8 hq hn (fun z hz => by rw [hg.2 12 (by omega) (by omega) (by omega)]; exact hs z hz)) k_yX5_isSeenWith ⟨rfl, rfl⟩ q_ml_RX5_172 eX_0 rfl rfl hl.1 rfl (Nat.le_of_ble_eq_true rfl) ⟨Nat.le_of_ble_eq_true rfl, Nat.le_of_ble_eq_true rfl⟩ dX5_setSeenWith_31 ⟨Nat.zero_le _, Nat.zero_le _⟩) hW (fun r5 u5 H locs hp5 hW => ?_)
        obtain ⟨hru5, hgu5⟩ := hp5
        have hvu5 := exS_agr (by omega) hg (nI v)
        have hwu5 := hvu5.tr hgu5
        refine r_top (hru5.trans (bI_c (seenP_agr hvu5))) ?_
        refine lv_if_eq (tgt := 46) hx hb dX5_setSeenWith_34 (by decide) (fun c_34_6 => ?_) (fun c_34_6 => ?_)
        · have c_34_6 := bI_z.mp c_34_6
          refine lv_iinc (v := nI (v + 1)) (lv' := [(7, .int (nI (v + 1))), (6, .int S), (5, .int (t.2 4 q)), (0, .ref (ad 0)), (1, .int 3), (2, .int (nI q)), (3, .int (nI mo)), (4, .int (nI n))]) hx hb dX5_setSeenWith_46 hl (k := 0) rfl (nI_1 _) (by decide) rfl (fun ls hl => ?_)
          refine lv_goto (tgt := 18) hx hb dX5_setSeenWith_49 (by decide) ?_
          exact ih_18 (v + 1) (nI v) S u5 (by omega) (hwu5) (by show _ = ite _ _ _; rw [if_pos (bI_z.mpr c_34_6)]; exact hS) (by omega) _ _ hW ls (lv_sub hl [0, 1, 2, 3, 4, 5, 6, 7] rfl)
        · have c_34_6 := bI_nz c_34_6
          refine lv_iload hx hb dX5_setSeenWith_37 (lv_at hl 1 rfl) ?_
          refine lv_iconst (v := 1) hx hb dX5_setSeenWith_39 (by decide) ?_
          refine lv_iload hx hb dX5_setSeenWith_40 (lv_at hl 0 rfl) ?_
          refine lv_ishl hx hb dX5_setSeenWith_42 ?_
          refine lv_ior hx hb dX5_setSeenWith_43 ?_
          refine lv_istore (lv' := [(6, .int (S ||| (1 <<< ((nI v) &&& 31)))), (7, .int (nI v)), (5, .int (t.2 4 q)), (0, .ref (ad 0)), (1, .int 3), (2, .int (nI q)), (3, .int (nI mo)), (4, .int (nI n))]) hx hb dX5_setSeenWith_44 hl (by decide) rfl (fun ls hl => ?_)
          refine lv_iinc (v := nI (v + 1)) (lv' := [(7, .int (nI (v + 1))), (6, .int (S ||| (1 <<< ((nI v) &&& 31)))), (5, .int (t.2 4 q)), (0, .ref (ad 0)), (1, .int 3), (2, .int (nI q)), (3, .int (nI mo)), (4, .int (nI n))]) hx hb dX5_setSeenWith_46 hl (k := 1) rfl (nI_1 _) (by decide) rfl (fun ls hl => ?_)
          refine lv_goto (tgt := 18) hx hb dX5_setSeenWith_49 (by decide) ?_
          exact ih_18 (v + 1) (nI v) (S ||| (1 <<< ((nI v) &&& 31))) u5 (by omega) (hwu5) (by show _ = ite _ _ _; rw [if_neg (fun h9 => bI_z.mp h9 c_34_6), hS]) (by omega) _ _ hW ls (lv_sub hl [0, 1, 2, 3, 4, 5, 6, 7] rfl)
  exact loop_18_2 _ 0 0 0 (t.1, va_up t.2 4 (upd (t.2 4) q 0)) (Nat.zero_le _) (agrC.rf 0 _) (rfl) (Nat.lt_succ_self _) _ _ hW ls (lv_sub hl [0, 1, 2, 3, 4, 5, 6, 7] rfl)
set_option maxRecDepth 100000 in
set_option maxHeartbeats 4000000 in
theorem m_X3_isUpWithSand (l : Launch) (D : va_G) (cs : CS3) (ad : Nat → Nat) (t : St) (P R q : Nat) (g : Int32) (hP : t.1 2 = nI P) (hP8 : P ≤ 8) (hq : q < R) (hR5 : R ≤ 5): CT l yX3_isUpWithSand cX3_isUpWithSand 5 (some .boolean) (rmk 2 37) (wX cs ad) (tyX cs) D [.ref (ad 1), .int (nI q), .int g] t (va_Qi (fun r u => r = bI (0 ≤ sleft (hX P t) (t.2 3) q g P 0 (t.2 5 q)) ∧ u = t)) := by
  refine CT.of (own := RX3) (by decide) rfl (Nat.le_of_ble_eq_true rfl) ?_
  intro p9 e9 s m9 args below meth c9 A Q hC hr hlk hW hQ ls hl
  obtain ⟨hx, hb, hml, hown, hts⟩ := id hC
  have hl : lv_has ls 5 [(0, .ref (ad 1)), (1, .int (nI q)), (2, .int g)] := hl
  refine lv_aload_n hx hb dX3_isUpWithSand_0 rfl (lv_at hl 0 rfl) ?_
  refine gX_S_speed hC hW q_fl_RX3_21 dX3_isUpWithSand_1 ?_
  refine lv_iload_n hx hb dX3_isUpWithSand_4 rfl (lv_at hl 1 rfl) ?_
  refine r_ildN (t0 := 0) (j := q) hC hW eX_5 rfl (rfl) (by omega) (by decide) dX3_isUpWithSand_5 ?_
  refine lv_istore_n (lv' := [(3, .int (t.2 5 q)), (0, .ref (ad 1)), (1, .int (nI q)), (2, .int g)]) hx hb dX3_isUpWithSand_6 rfl hl (by decide) rfl (fun ls hl => ?_)
  refine lv_iconst (v := 0) hx hb dX3_isUpWithSand_7 (by decide) ?_
  refine lv_istore (lv' := [(4, .int 0), (3, .int (t.2 5 q)), (0, .ref (ad 1)), (1, .int (nI q)), (2, .int g)]) hx hb dX3_isUpWithSand_8 hl (by decide) rfl (fun ls hl => ?_)
  have loop_10_1 : ∀ (f9 : Nat) (k : Nat) (x : Int32), (k ≤ P) → (sleft (hX P t) (t.2 3) q g (P - k) k x = sleft (hX P t) (t.2 3) q g P 0 (t.2 5 q)) → P - k < f9 → ∀ (H : Heap) (locs : List Loc), HX (wX cs ad) (tyX cs) D A s.heap s t H locs → ∀ ls : Array Slot, lv_has ls 5 [(4, .int (nI k)), (3, .int x), (0, .ref (ad 1)), (1, .int (nI q)), (2, .int g)] → W p9 l e9 (rmk 2 37) s m9 args below meth c9 H locs 0 0 Q (F0 m9 10 ls []) := by
    intro f_10
    induction f_10 with
    | zero => intro k x hk hE hm_10 H locs hW ls hl; exact absurd hm_10 (Nat.not_lt_zero _)
    | succ f_10 ih_10 =>
      intro k x hk hE hm_10 H locs hW ls hl
      refine lv_iload hx hb dX3_isUpWithSand_10 (lv_at hl 0 rfl) ?_
      refine lv_aload_n hx hb dX3_isUpWithSand_12 rfl (lv_at hl 2 rfl) ?_
      refine gX_S_paces hC hW q_fl_RX3_33 dX3_isUpWithSand_13 ?_
      refine r_top (y := nI P) hP ?_
      refine lv_icmp_ge (tgt := 51) hx hb dX3_isUpWithSand_16 (by decide) (fun c_16_2 => ?_) (fun c_16_2 => ?_)
      · have c_16_2 : P ≤ k := (nI_leI (a := P) (b := k) (by omega) (by omega)).mp c_16_2
        refine lv_iload_n hx hb dX3_isUpWithSand_51 rfl (lv_at hl 1 rfl) ?_
        refine lv_if_lt (tgt := 59) hx hb dX3_isUpWithSand_52 (by decide) (fun c_52_3 => ?_) (fun c_52_3 => ?_)
        · refine lv_iconst (v := 0) hx hb dX3_isUpWithSand_59 (by decide) ?_
          have hx9 : x = sleft (hX P t) (t.2 3) q g P 0 (t.2 5 q) := by rw [← hE, show P - k = 0 by omega]; rfl
          exact r_iretz hC hr hlk hW hQ (⟨bI_f (by rw [← hx9]; exact Int32.not_le.mpr c_52_3), rfl⟩) (rfl) dX3_isUpWithSand_60
        · refine lv_iconst (v := 1) hx hb dX3_isUpWithSand_55 (by decide) ?_
          refine lv_goto (tgt := 60) hx hb dX3_isUpWithSand_56 (by decide) ?_
          have hx9 : x = sleft (hX P t) (t.2 3) q g P 0 (t.2 5 q) := by rw [← hE, show P - k = 0 by omega]; rfl
          exact r_iretz hC hr hlk hW hQ (⟨bI_t (by rw [← hx9]; exact Int32.not_lt.mp c_52_3), rfl⟩) (rfl) dX3_isUpWithSand_60
      · have c_16_2 : ¬ P ≤ k := fun h => c_16_2 ((nI_leI (a := P) (b := k) (by omega) (by omega)).mpr h)
        refine lv_iload_n hx hb dX3_isUpWithSand_19 rfl (lv_at hl 4 rfl) ?_
        refine lv_iload hx hb dX3_isUpWithSand_20 (lv_at hl 0 rfl) ?_
        refine lv_ishr hx hb dX3_isUpWithSand_22 ?_
        refine lv_iconst (v := 1) hx hb dX3_isUpWithSand_23 (by decide) ?_
        refine lv_iand hx hb dX3_isUpWithSand_24 ?_
        refine lv_if_ne (tgt := 45) hx hb dX3_isUpWithSand_25 (by decide) (fun c_25_4 => ?_) (fun c_25_4 => ?_)
        · refine lv_iinc (v := nI (k + 1)) (lv' := [(4, .int (nI (k + 1))), (3, .int x), (0, .ref (ad 1)), (1, .int (nI q)), (2, .int g)]) hx hb dX3_isUpWithSand_45 hl (k := 0) rfl (nI_1 _) (by decide) rfl (fun ls hl => ?_)
          refine lv_goto (tgt := 10) hx hb dX3_isUpWithSand_48 (by decide) ?_
          exact ih_10 (k + 1) x (by omega) (by rw [← hE, show P - k = (P - (k + 1)) + 1 by omega]; show _ = ite _ _ _; rw [if_neg c_25_4]) (by omega) _ _ hW ls (lv_sub hl [0, 1, 2, 3, 4] rfl)
        · refine lv_iload_n hx hb dX3_isUpWithSand_28 rfl (lv_at hl 1 rfl) ?_
          refine lv_aload_n hx hb dX3_isUpWithSand_29 rfl (lv_at hl 2 rfl) ?_
          refine lv_iload_n hx hb dX3_isUpWithSand_30 rfl (lv_at hl 3 rfl) ?_
          refine lv_iload hx hb dX3_isUpWithSand_31 (lv_at hl 0 rfl) ?_
          refine lv_aload_n hx hb dX3_isUpWithSand_33 rfl (lv_at hl 2 rfl) ?_
          refine gX_S_laid hC hW q_fl_RX3_15 dX3_isUpWithSand_34 ?_
          refine lv_iload hx hb dX3_isUpWithSand_37 (lv_at hl 0 rfl) ?_
          refine r_ildN (t0 := 0) (j := k) hC hW eX_3 rfl (rfl) (by omega) (by decide) dX3_isUpWithSand_39 ?_
          refine fin_i (run_V (rest := [.int x]) hC hW (m_X3_toll l D cs ad t P (hX P t) q k (t.2 3 k) rfl (by omega) (by omega)) k_yX3_toll ⟨rfl, rfl⟩ q_ml_RX3_37 eX_1 rfl rfl hl.1 rfl (Nat.le_of_ble_eq_true rfl) ⟨Nat.le_of_ble_eq_true rfl, Nat.le_of_ble_eq_true rfl⟩ dX3_isUpWithSand_40 ⟨Nat.zero_le _, Nat.zero_le _⟩) hW (fun r5 u5 H locs hp5 hW => ?_)
          have hW := hx_congr hW hp5.2
          refine r_top hp5.1 ?_
          refine lv_isub hx hb dX3_isUpWithSand_43 ?_
          refine lv_istore_n (lv' := [(3, .int (x - (toll (hX P t) q k (t.2 3 k)))), (4, .int (nI k)), (0, .ref (ad 1)), (1, .int (nI q)), (2, .int g)]) hx hb dX3_isUpWithSand_44 rfl hl (by decide) rfl (fun ls hl => ?_)
          refine lv_iinc (v := nI (k + 1)) (lv' := [(4, .int (nI (k + 1))), (3, .int (x - (toll (hX P t) q k (t.2 3 k)))), (0, .ref (ad 1)), (1, .int (nI q)), (2, .int g)]) hx hb dX3_isUpWithSand_45 hl (k := 1) rfl (nI_1 _) (by decide) rfl (fun ls hl => ?_)
          refine lv_goto (tgt := 10) hx hb dX3_isUpWithSand_48 (by decide) ?_
          exact ih_10 (k + 1) (x - (toll (hX P t) q k (t.2 3 k))) (by omega) (by rw [← hE, show P - k = (P - (k + 1)) + 1 by omega]; show _ = ite _ _ _; rw [if_pos c_25_4]) (by omega) _ _ hW ls (lv_sub hl [0, 1, 2, 3, 4] rfl)
  exact loop_10_1 _ 0 (t.2 5 q) (Nat.zero_le _) (rfl) (Nat.lt_succ_self _) _ _ hW ls (lv_sub hl [0, 1, 2, 3, 4] rfl)
set_option maxRecDepth 100000 in
set_option maxHeartbeats 4000000 in
theorem m_J6_bitCount_0f7a4 (l : Launch) (x : Int32) : PT l yJ6_bitCount_0f7a4 cJ6_bitCount_0f7a4 1 (some .int) (rmk 0 0) [.int x] (vp_Si (fun r => r = bcF x)) := by
  refine PT.of (own := RJ6) (by decide) rfl (Nat.le_of_ble_eq_true rfl) ?_
  intro p9 e9 s m9 args below meth c9 Q hC hr hlk hN hQ ls hl
  obtain ⟨hx, hb, hml, hown, hts⟩ := id hC
  have hl : lv_has ls 1 [(0, .int x)] := hl
  refine lv_iload_n hx hb dJ6_bitCount_0f7a4_0 rfl (lv_at hl 0 rfl) ?_
  refine lv_iload_n hx hb dJ6_bitCount_0f7a4_1 rfl (lv_at hl 0 rfl) ?_
  refine lv_iconst (v := 1) hx hb dJ6_bitCount_0f7a4_2 (by decide) ?_
  refine lv_iushr (v := us x 1) hx hb dJ6_bitCount_0f7a4_3 rfl ?_
  refine lv_ldcw hx hb hown (hts _ q_k_RJ6_265) dJ6_bitCount_0f7a4_4 ?_
  refine lv_iand hx hb dJ6_bitCount_0f7a4_7 ?_
  refine lv_isub hx hb dJ6_bitCount_0f7a4_8 ?_
  refine lv_istore_n (lv' := [(0, .int (x - ((us x 1) &&& (1431655765 : Int32))))]) hx hb dJ6_bitCount_0f7a4_9 rfl hl (by decide) rfl (fun ls hl => ?_)
  refine lv_iload_n hx hb dJ6_bitCount_0f7a4_10 rfl (lv_at hl 0 rfl) ?_
  refine lv_ldcw hx hb hown (hts _ q_k_RJ6_266) dJ6_bitCount_0f7a4_11 ?_
  refine lv_iand hx hb dJ6_bitCount_0f7a4_14 ?_
  refine lv_iload_n hx hb dJ6_bitCount_0f7a4_15 rfl (lv_at hl 0 rfl) ?_
  refine lv_iconst (v := 2) hx hb dJ6_bitCount_0f7a4_16 (by decide) ?_
  refine lv_iushr (v := us (x - ((us x 1) &&& (1431655765 : Int32))) 2) hx hb dJ6_bitCount_0f7a4_17 rfl ?_
  refine lv_ldcw hx hb hown (hts _ q_k_RJ6_266) dJ6_bitCount_0f7a4_18 ?_
  refine lv_iand hx hb dJ6_bitCount_0f7a4_21 ?_
  refine lv_iadd hx hb dJ6_bitCount_0f7a4_22 ?_
  refine lv_istore_n (lv' := [(0, .int (((x - ((us x 1) &&& (1431655765 : Int32))) &&& (858993459 : Int32)) + ((us (x - ((us x 1) &&& (1431655765 : Int32))) 2) &&& (858993459 : Int32))))]) hx hb dJ6_bitCount_0f7a4_23 rfl hl (by decide) rfl (fun ls hl => ?_)
  refine lv_iload_n hx hb dJ6_bitCount_0f7a4_24 rfl (lv_at hl 0 rfl) ?_
  refine lv_iload_n hx hb dJ6_bitCount_0f7a4_25 rfl (lv_at hl 0 rfl) ?_
  refine lv_iconst (v := 4) hx hb dJ6_bitCount_0f7a4_26 (by decide) ?_
  refine lv_iushr (v := us (((x - ((us x 1) &&& (1431655765 : Int32))) &&& (858993459 : Int32)) + ((us (x - ((us x 1) &&& (1431655765 : Int32))) 2) &&& (858993459 : Int32))) 4) hx hb dJ6_bitCount_0f7a4_27 rfl ?_
  refine lv_iadd hx hb dJ6_bitCount_0f7a4_28 ?_
  refine lv_ldcw hx hb hown (hts _ q_k_RJ6_267) dJ6_bitCount_0f7a4_29 ?_
  refine lv_iand hx hb dJ6_bitCount_0f7a4_32 ?_
  refine lv_istore_n (lv' := [(0, .int (((((x - ((us x 1) &&& (1431655765 : Int32))) &&& (858993459 : Int32)) + ((us (x - ((us x 1) &&& (1431655765 : Int32))) 2) &&& (858993459 : Int32))) + (us (((x - ((us x 1) &&& (1431655765 : Int32))) &&& (858993459 : Int32)) + ((us (x - ((us x 1) &&& (1431655765 : Int32))) 2) &&& (858993459 : Int32))) 4)) &&& (252645135 : Int32)))]) hx hb dJ6_bitCount_0f7a4_33 rfl hl (by decide) rfl (fun ls hl => ?_)
  refine lv_iload_n hx hb dJ6_bitCount_0f7a4_34 rfl (lv_at hl 0 rfl) ?_
  refine lv_iload_n hx hb dJ6_bitCount_0f7a4_35 rfl (lv_at hl 0 rfl) ?_
  refine lv_bipush (v := 8) hx hb dJ6_bitCount_0f7a4_36 (by decide) ?_
  refine lv_iushr (v := us (((((x - ((us x 1) &&& (1431655765 : Int32))) &&& (858993459 : Int32)) + ((us (x - ((us x 1) &&& (1431655765 : Int32))) 2) &&& (858993459 : Int32))) + (us (((x - ((us x 1) &&& (1431655765 : Int32))) &&& (858993459 : Int32)) + ((us (x - ((us x 1) &&& (1431655765 : Int32))) 2) &&& (858993459 : Int32))) 4)) &&& (252645135 : Int32)) 8) hx hb dJ6_bitCount_0f7a4_38 rfl ?_
  refine lv_iadd hx hb dJ6_bitCount_0f7a4_39 ?_
  refine lv_istore_n (lv' := [(0, .int ((((((x - ((us x 1) &&& (1431655765 : Int32))) &&& (858993459 : Int32)) + ((us (x - ((us x 1) &&& (1431655765 : Int32))) 2) &&& (858993459 : Int32))) + (us (((x - ((us x 1) &&& (1431655765 : Int32))) &&& (858993459 : Int32)) + ((us (x - ((us x 1) &&& (1431655765 : Int32))) 2) &&& (858993459 : Int32))) 4)) &&& (252645135 : Int32)) + (us (((((x - ((us x 1) &&& (1431655765 : Int32))) &&& (858993459 : Int32)) + ((us (x - ((us x 1) &&& (1431655765 : Int32))) 2) &&& (858993459 : Int32))) + (us (((x - ((us x 1) &&& (1431655765 : Int32))) &&& (858993459 : Int32)) + ((us (x - ((us x 1) &&& (1431655765 : Int32))) 2) &&& (858993459 : Int32))) 4)) &&& (252645135 : Int32)) 8)))]) hx hb dJ6_bitCount_0f7a4_40 rfl hl (by decide) rfl (fun ls hl => ?_)
  refine lv_iload_n hx hb dJ6_bitCount_0f7a4_41 rfl (lv_at hl 0 rfl) ?_
  refine lv_iload_n hx hb dJ6_bitCount_0f7a4_42 rfl (lv_at hl 0 rfl) ?_
  refine lv_bipush (v := 16) hx hb dJ6_bitCount_0f7a4_43 (by decide) ?_
  refine lv_iushr (v := us ((((((x - ((us x 1) &&& (1431655765 : Int32))) &&& (858993459 : Int32)) + ((us (x - ((us x 1) &&& (1431655765 : Int32))) 2) &&& (858993459 : Int32))) + (us (((x - ((us x 1) &&& (1431655765 : Int32))) &&& (858993459 : Int32)) + ((us (x - ((us x 1) &&& (1431655765 : Int32))) 2) &&& (858993459 : Int32))) 4)) &&& (252645135 : Int32)) + (us (((((x - ((us x 1) &&& (1431655765 : Int32))) &&& (858993459 : Int32)) + ((us (x - ((us x 1) &&& (1431655765 : Int32))) 2) &&& (858993459 : Int32))) + (us (((x - ((us x 1) &&& (1431655765 : Int32))) &&& (858993459 : Int32)) + ((us (x - ((us x 1) &&& (1431655765 : Int32))) 2) &&& (858993459 : Int32))) 4)) &&& (252645135 : Int32)) 8)) 16) hx hb dJ6_bitCount_0f7a4_45 rfl ?_
  refine lv_iadd hx hb dJ6_bitCount_0f7a4_46 ?_
  refine lv_istore_n (lv' := [(0, .int (((((((x - ((us x 1) &&& (1431655765 : Int32))) &&& (858993459 : Int32)) + ((us (x - ((us x 1) &&& (1431655765 : Int32))) 2) &&& (858993459 : Int32))) + (us (((x - ((us x 1) &&& (1431655765 : Int32))) &&& (858993459 : Int32)) + ((us (x - ((us x 1) &&& (1431655765 : Int32))) 2) &&& (858993459 : Int32))) 4)) &&& (252645135 : Int32)) + (us (((((x - ((us x 1) &&& (1431655765 : Int32))) &&& (858993459 : Int32)) + ((us (x - ((us x 1) &&& (1431655765 : Int32))) 2) &&& (858993459 : Int32))) + (us (((x - ((us x 1) &&& (1431655765 : Int32))) &&& (858993459 : Int32)) + ((us (x - ((us x 1) &&& (1431655765 : Int32))) 2) &&& (858993459 : Int32))) 4)) &&& (252645135 : Int32)) 8)) + (us ((((((x - ((us x 1) &&& (1431655765 : Int32))) &&& (858993459 : Int32)) + ((us (x - ((us x 1) &&& (1431655765 : Int32))) 2) &&& (858993459 : Int32))) + (us (((x - ((us x 1) &&& (1431655765 : Int32))) &&& (858993459 : Int32)) + ((us (x - ((us x 1) &&& (1431655765 : Int32))) 2) &&& (858993459 : Int32))) 4)) &&& (252645135 : Int32)) + (us (((((x - ((us x 1) &&& (1431655765 : Int32))) &&& (858993459 : Int32)) + ((us (x - ((us x 1) &&& (1431655765 : Int32))) 2) &&& (858993459 : Int32))) + (us (((x - ((us x 1) &&& (1431655765 : Int32))) &&& (858993459 : Int32)) + ((us (x - ((us x 1) &&& (1431655765 : Int32))) 2) &&& (858993459 : Int32))) 4)) &&& (252645135 : Int32)) 8)) 16)))]) hx hb dJ6_bitCount_0f7a4_47 rfl hl (by decide) rfl (fun ls hl => ?_)
  refine lv_iload_n hx hb dJ6_bitCount_0f7a4_48 rfl (lv_at hl 0 rfl) ?_
  refine lv_bipush (v := 63) hx hb dJ6_bitCount_0f7a4_49 (by decide) ?_
  refine lv_iand hx hb dJ6_bitCount_0f7a4_51 ?_
  exact r_pi hC hr hlk hQ (rfl) dJ6_bitCount_0f7a4_52
