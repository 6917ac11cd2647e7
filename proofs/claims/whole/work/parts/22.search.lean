set_option maxRecDepth 100000 in
set_option maxHeartbeats 4000000 in
theorem m_X5_fewestTries (l : Launch) (D : va_G) (cs : CS3) (ad : Nat → Nat) (t : St) (P R q : Nat) (hP : t.1 2 = nI P) (hP8 : P ≤ 8) (hR : t.1 3 = nI R) (hR5 : R ≤ 5) (hq : q < R): CT l yX5_fewestTries cX5_fewestTries 3 (some .int) (rmk 13 670) (wX cs ad) (tyX cs) D [.ref (ad 0), .int (nI q)] t (va_Qi (fun z u => feP (fewL (hX P t) R q (beg t) 6 1) z u ∧ agrS t u)) := by
  refine CT.of (own := RX5) (by decide) rfl (Nat.le_of_ble_eq_true rfl) ?_
  intro p9 e9 s m9 args below meth c9 A Q hC hr hlk hW hQ ls hl
  obtain ⟨hx, hb, hml, hown, hts⟩ := id hC
  have hl : lv_has ls 3 [(0, .ref (ad 0)), (1, .int (nI q))] := hl
  refine lv_aload_n hx hb dX5_fewestTries_0 rfl (lv_at hl 0 rfl) ?_
  refine gX_G_climbs hC hW q_fl_RX5_34 dX5_fewestTries_1 ?_
  refine lv_iconst (v := 0) hx hb dX5_fewestTries_4 (by decide) ?_
  refine r_aldN (t0 := 2) (j := 0) hC hW eX_11 rfl rfl (by omega) (by decide) rfl dX5_fewestTries_5 ?_
  refine fin_v (run_V (rest := []) hC hW (m_X0_begin l D cs ad t 0 (by omega)) k_yX0_begin ⟨rfl, rfl⟩ q_ml_RX5_149 (eX_C 0 (by omega)) rfl rfl hl.1 rfl (Nat.le_of_ble_eq_true rfl) ⟨(by simp only [rmk_f, rmk_w, List.map_nil, List.sum_nil]; omega), (by simp only [rmk_f, rmk_w, List.map_nil, List.sum_nil]; omega)⟩ dX5_fewestTries_6 ⟨Nat.zero_le _, Nat.zero_le _⟩) hW (fun u1 H locs hp1 hW => ?_)
  obtain ⟨hgu1, heu1⟩ := hp1
  refine lv_iconst (v := 1) hx hb dX5_fewestTries_9 (by decide) ?_
  refine lv_istore_n (lv' := [(2, .int 1), (0, .ref (ad 0)), (1, .int (nI q))]) hx hb dX5_fewestTries_10 rfl hl (by decide) rfl (fun ls hl => ?_)
  have loop_11_2 : ∀ (f9 : Nat) (L : Nat) (u : St), (1 ≤ L) → (L ≤ 7) → (agrS t u) → (cv u 0 = beg t) → (fewL (hX P t) R q (beg t) (7 - L) L = fewL (hX P t) R q (beg t) 6 1) → 7 - L < f9 → ∀ (H : Heap) (locs : List Loc), HX (wX cs ad) (tyX cs) D A s.heap s u H locs → ∀ ls : Array Slot, lv_has ls 3 [(2, .int (nI L)), (0, .ref (ad 0)), (1, .int (nI q))] → W p9 l e9 (rmk 13 670) s m9 args below meth c9 H locs 0 0 Q (F0 m9 11 ls []) := by
    intro f_11
    induction f_11 with
    | zero => intro L u hL1 hL7 hg hc hE hm_11 H locs hW ls hl; exact absurd hm_11 (Nat.not_lt_zero _)
    | succ f_11 ih_11 =>
      intro L u hL1 hL7 hg hc hE hm_11 H locs hW ls hl
      refine lv_iload_n hx hb dX5_fewestTries_11 rfl (lv_at hl 0 rfl) ?_
      refine lv_bipush (v := 6) hx hb dX5_fewestTries_12 (by decide) ?_
      refine lv_icmp_gt (tgt := 42) hx hb dX5_fewestTries_14 (by decide) (fun c_14_3 => ?_) (fun c_14_3 => ?_)
      · have c_14_3 : 6 < L := (nI_ltI (a := 6) (b := L) (by omega) (by omega)).mp c_14_3
        refine lv_bipush (v := (-9)) hx hb dX5_fewestTries_42 (by decide) ?_
        exact r_ireti hC hr hlk hW hQ (⟨by rw [← hE, show 7 - L = 0 by omega]; rfl, hg⟩) dX5_fewestTries_44
      · have c_14_3 : ¬ 6 < L := fun h => c_14_3 ((nI_ltI (a := 6) (b := L) (by omega) (by omega)).mpr h)
        refine lv_aload_n hx hb dX5_fewestTries_17 rfl (lv_at hl 1 rfl) ?_
        refine gX_G_climbs hC hW q_fl_RX5_34 dX5_fewestTries_18 ?_
        refine lv_aload_n hx hb dX5_fewestTries_21 rfl (lv_at hl 1 rfl) ?_
        refine gX_G_row hC hW q_fl_RX5_45 dX5_fewestTries_22 ?_
        refine lv_iload_n hx hb dX5_fewestTries_25 rfl (lv_at hl 2 rfl) ?_
        refine lv_iconst (v := 0) hx hb dX5_fewestTries_26 (by decide) ?_
        refine lv_iload_n hx hb dX5_fewestTries_27 rfl (lv_at hl 0 rfl) ?_
        refine fin_i (run_S (rest := []) hC hW (m_X5_findRow l D cs ad P R q hP8 hR5 hq (L - 1) u 0 L ((hg.1 2 (by omega)).trans hP) ((hg.1 3 (by omega)).trans hR) (by omega) (by omega)) k_yX5_findRow ⟨rfl, rfl⟩ q_ml_RX5_247 rfl hl.1 rfl (Nat.le_of_ble_eq_true rfl) ⟨(by simp only [rmk_f, rmk_w, List.map_nil, List.sum_nil]; omega), (by simp only [rmk_f, rmk_w, List.map_nil, List.sum_nil]; omega)⟩ dX5_fewestTries_28 ⟨Nat.zero_le _, Nat.zero_le _⟩) hW (fun r4 u4 H locs hp4 hW => ?_)
        obtain ⟨hfu4, hgu4⟩ := hp4
        rw [show L - 1 + 1 = L by omega, hg.eh, hc] at hfu4
        refine lv_if_eq (tgt := 36) hx hb dX5_fewestTries_31 (by decide) (fun c_31_5 => ?_) (fun c_31_5 => ?_)
        · refine lv_iinc (v := nI (L + 1)) (lv' := [(2, .int (nI (L + 1))), (0, .ref (ad 0)), (1, .int (nI q))]) hx hb dX5_fewestTries_36 hl (k := 0) rfl (nI_1 _) (by decide) rfl (fun ls hl => ?_)
          refine lv_goto (tgt := 11) hx hb dX5_fewestTries_39 (by decide) ?_
          exact ih_11 (L + 1) u4 (by omega) (by omega) (hg.tr hgu4.s) ((hgu4.ec (Nat.le_refl 0)).trans hc) (by rw [← hE, show 7 - L = (7 - (L + 1)) + 1 by omega]; exact (fewL_n (frP_0 hfu4 c_31_5)).symm) (by omega) _ _ hW ls (lv_sub hl [0, 1, 2] rfl)
        · refine lv_iload_n hx hb dX5_fewestTries_34 rfl (lv_at hl 0 rfl) ?_
          obtain ⟨l9, hl9, -, hn9, hr9⟩ := frP_1 hfu4 c_31_5
          exact r_ireti hC hr hlk hW hQ (⟨by rw [← hE, show 7 - L = (7 - (L + 1)) + 1 by omega, fewL_s hl9]; exact ⟨rfl, hL1, by omega, hn9, fun j hj => (congrArg (u4.2 13) (Nat.zero_add j).symm).trans (hr9 j hj)⟩, hg.tr hgu4.s⟩) dX5_fewestTries_35
  exact loop_11_2 _ 1 u1 (by omega) (by omega) (hgu1.s) (heu1) (rfl) (Nat.lt_succ_self _) _ _ hW ls (lv_sub hl [0, 1, 2] rfl)
set_option maxRecDepth 100000 in
set_option maxHeartbeats 4000000 in
theorem m_X5_fewest (l : Launch) (D : va_G) (cs : CS3) (ad : Nat → Nat) (t : St) (P R C : Nat) (r k : Int32) (hB : BW t P R C): CT l yX5_fewest cX5_fewest 4 (some .int) (rmk 14 692) (wX cs ad) (tyX cs) D [.ref (ad 0), .int r, .int k] t (va_Qi (fun z u => z = (F_fewest t P R r k).1 ∧ LA (F_fewest t P R r k).2 u)) := by
  refine CT.of (own := RX5) (by decide) rfl (Nat.le_of_ble_eq_true rfl) ?_
  intro p9 e9 s m9 args below meth c9 A Q hC hr hlk hW hQ ls hl
  obtain ⟨hx, hb, hml, hown, hts⟩ := id hC
  have hl : lv_has ls 4 [(0, .ref (ad 0)), (1, .int r), (2, .int k)] := hl
  obtain ⟨hP, hP8, hR, hR5, hc4, hC8, hlen⟩ := hB
  refine lv_aload_n hx hb dX5_fewest_0 rfl (lv_at hl 0 rfl) ?_
  refine lv_iload_n hx hb dX5_fewest_1 rfl (lv_at hl 1 rfl) ?_
  refine fin_i (run_V (rest := []) hC hW (m_X5_isRider l D cs ad t R r hR hR5) k_yX5_isRider ⟨rfl, rfl⟩ q_ml_RX5_96 eX_0 rfl rfl hl.1 rfl (Nat.le_of_ble_eq_true rfl) ⟨(by simp only [rmk_f, rmk_w, List.map_nil, List.sum_nil]; omega), (by simp only [rmk_f, rmk_w, List.map_nil, List.sum_nil]; omega)⟩ dX5_fewest_2 ⟨Nat.zero_le _, Nat.zero_le _⟩) hW (fun r1 u1 H locs hp1 hW => ?_)
  have hW := hx_congr hW hp1.2
  refine r_top hp1.1 ?_
  refine lv_if_eq (tgt := 13) hx hb dX5_fewest_5 (by decide) (fun c_5_2 => ?_) (fun c_5_2 => ?_)
  · have c_5_2 := bI_z.mp c_5_2
    refine lv_iconst (v := (-1)) hx hb dX5_fewest_13 (by decide) ?_
    have hF : F_fewest t P R r k = (-1, t) := by unfold F_fewest; rw [if_neg c_5_2]
    exact r_ireti hC hr hlk hW hQ (⟨by rw [hF], by rw [hF]; exact LA.rf _⟩) dX5_fewest_14
  · have c_5_2 := bI_nz c_5_2
    obtain ⟨q_r, hq_r, rfl⟩ := inN_ex c_5_2 (by omega)
    refine lv_iload_n hx hb dX5_fewest_8 rfl (lv_at hl 2 rfl) ?_
    refine lv_iconst (v := (-1)) hx hb dX5_fewest_9 (by decide) ?_
    refine lv_icmp_ge (tgt := 15) hx hb dX5_fewest_10 (by decide) (fun c_10_3 => ?_) (fun c_10_3 => ?_)
    · refine lv_aload_n hx hb dX5_fewest_15 rfl (lv_at hl 0 rfl) ?_
      refine lv_iload_n hx hb dX5_fewest_16 rfl (lv_at hl 1 rfl) ?_
      refine fin_i (run_V (rest := []) hC hW (m_X5_fewestTries l D cs ad t P R q_r hP hP8 hR hR5 (by omega)) k_yX5_fewestTries ⟨rfl, rfl⟩ q_ml_RX5_134 eX_0 rfl rfl hl.1 rfl (Nat.le_of_ble_eq_true rfl) ⟨(by simp only [rmk_f, rmk_w, List.map_nil, List.sum_nil]; omega), (by simp only [rmk_f, rmk_w, List.map_nil, List.sum_nil]; omega)⟩ dX5_fewest_17 ⟨Nat.zero_le _, Nat.zero_le _⟩) hW (fun r4 u4 H locs hp4 hW => ?_)
      obtain ⟨hfu4, hgu4⟩ := hp4
      rcases hfo : fewL (hX P t) R q_r (beg t) 6 1 with _ | ⟨L9, l9⟩
      · rw [hfo] at hfu4
        refine r_top (show r4 = -9 from hfu4) ?_
        refine lv_istore_n (lv' := [(3, .int (-9)), (0, .ref (ad 0)), (1, .int (nI q_r)), (2, .int k)]) hx hb dX5_fewest_20 rfl hl (by decide) rfl (fun ls hl => ?_)
        refine lv_iload_n hx hb dX5_fewest_21 rfl (lv_at hl 3 rfl) ?_
        refine lv_iconst (v := (-1)) hx hb dX5_fewest_22 (by decide) ?_
        refine lv_icmp_ne (tgt := 28) hx hb dX5_fewest_23 (by decide) (fun c_23_5 => ?_) (fun c_23_5 => ?_)
        · refine lv_iload_n hx hb dX5_fewest_28 rfl (lv_at hl 3 rfl) ?_
          refine lv_iload_n hx hb dX5_fewest_29 rfl (lv_at hl 0 rfl) ?_
          refine lv_icmp_ge (tgt := 42) hx hb dX5_fewest_30 (by decide) (fun c_30_6 => ?_) (fun c_30_6 => ?_)
          · refine lv_bipush (v := (-9)) hx hb dX5_fewest_42 (by decide) ?_
            have hF : F_fewest t P R (nI q_r) k = ((-9), t) := by unfold F_fewest; rw [if_pos c_5_2, if_pos c_10_3, nI_clamp (show q_r < 2 ^ 31 by omega), hfo] <;> rfl
            exact r_ireti hC hr hlk hW hQ (⟨by rw [hF], by rw [hF]; exact hgu4.la⟩) dX5_fewest_44
          · exact absurd (k_m9 c_10_3) c_30_6
        · refine lv_iload_n hx hb dX5_fewest_26 rfl (lv_at hl 0 rfl) ?_
          have hF : F_fewest t P R (nI q_r) k = (-9, t) := by unfold F_fewest; rw [if_pos c_5_2, if_pos c_10_3, nI_clamp (show q_r < 2 ^ 31 by omega), hfo] <;> rfl
          exact r_ireti hC hr hlk hW hQ (⟨by rw [hF], by rw [hF]; exact hgu4.la⟩) dX5_fewest_27
      · rw [hfo] at hfu4
        obtain ⟨hz9, hL1, hL6, hn9, hr9⟩ := hfu4
        refine r_top hz9 ?_
        refine lv_istore_n (lv' := [(3, .int (nI L9)), (0, .ref (ad 0)), (1, .int (nI q_r)), (2, .int k)]) hx hb dX5_fewest_20 rfl hl (by decide) rfl (fun ls hl => ?_)
        refine lv_iload_n hx hb dX5_fewest_21 rfl (lv_at hl 3 rfl) ?_
        refine lv_iconst (v := (-1)) hx hb dX5_fewest_22 (by decide) ?_
        refine lv_icmp_ne (tgt := 28) hx hb dX5_fewest_23 (by decide) (fun c_23_7 => ?_) (fun c_23_7 => ?_)
        · refine lv_iload_n hx hb dX5_fewest_28 rfl (lv_at hl 3 rfl) ?_
          refine lv_iload_n hx hb dX5_fewest_29 rfl (lv_at hl 0 rfl) ?_
          refine lv_icmp_ge (tgt := 42) hx hb dX5_fewest_30 (by decide) (fun c_30_8 => ?_) (fun c_30_8 => ?_)
          · refine lv_bipush (v := (-9)) hx hb dX5_fewest_42 (by decide) ?_
            have hF : F_fewest t P R (nI q_r) k = ((-9), t) := by unfold F_fewest; rw [if_pos c_5_2, if_pos c_10_3, nI_clamp (show q_r < 2 ^ 31 by omega), hfo]; unfold fewV; simp only []; rw [if_neg c_23_7, if_neg (Int32.not_lt.mpr c_30_8)]
            exact r_ireti hC hr hlk hW hQ (⟨by rw [hF], by rw [hF]; exact hgu4.la⟩) dX5_fewest_44
          · obtain ⟨j9, hj9, rfl⟩ := k_ex (by omega) c_10_3 c_23_7 c_30_8
            refine lv_aload_n hx hb dX5_fewest_33 rfl (lv_at hl 1 rfl) ?_
            refine gX_G_row hC hW q_fl_RX5_45 dX5_fewest_34 ?_
            refine lv_iload_n hx hb dX5_fewest_37 rfl (lv_at hl 3 rfl) ?_
            refine r_ildN (t0 := 0) (j := j9) hC hW eX_13 rfl (rfl) (by omega) (by decide) dX5_fewest_38 ?_
            refine r_top (y := nI (l9.getD j9 0)) (hr9 j9 hj9) ?_
            refine lv_goto (tgt := 44) hx hb dX5_fewest_39 (by decide) ?_
            have hF : F_fewest t P R (nI q_r) (nI j9) = (nI (l9.getD j9 0), t) := by unfold F_fewest; rw [if_pos c_5_2, if_pos c_10_3, nI_clamp (show q_r < 2 ^ 31 by omega), hfo]; unfold fewV; simp only []; rw [if_neg c_23_7, if_pos (nI_lt hj9 (by omega)), nI_clamp (show j9 < 2 ^ 31 by omega)]
            exact r_ireti hC hr hlk hW hQ (⟨by rw [hF], by rw [hF]; exact hgu4.la⟩) dX5_fewest_44
        · refine lv_iload_n hx hb dX5_fewest_26 rfl (lv_at hl 0 rfl) ?_
          have hF : F_fewest t P R (nI q_r) k = (nI L9, t) := by unfold F_fewest; rw [if_pos c_5_2, if_pos c_10_3, nI_clamp (show q_r < 2 ^ 31 by omega), hfo]; unfold fewV; simp only []; rw [if_pos c_23_7]
          exact r_ireti hC hr hlk hW hQ (⟨by rw [hF], by rw [hF]; exact hgu4.la⟩) dX5_fewest_27
    · refine lv_iconst (v := (-1)) hx hb dX5_fewest_13 (by decide) ?_
      have hF : F_fewest t P R (nI q_r) k = (-1, t) := by unfold F_fewest; rw [if_pos c_5_2, if_neg c_10_3]
      exact r_ireti hC hr hlk hW hQ (⟨by rw [hF], by rw [hF]; exact LA.rf _⟩) dX5_fewest_14
set_option maxRecDepth 100000 in
set_option maxHeartbeats 4000000 in
theorem m_X5_sand (l : Launch) (D : va_G) (cs : CS3) (ad : Nat → Nat) (t : St) (P R C : Nat) (r : Int32) (hB : BW t P R C): CT l yX5_sand cX5_sand 4 (some .int) (rmk 3 61) (wX cs ad) (tyX cs) D [.ref (ad 0), .int r] t (va_Qi (fun z u => z = (F_sand t P R r).1 ∧ LA (F_sand t P R r).2 u)) := by
  refine CT.of (own := RX5) (by decide) rfl (Nat.le_of_ble_eq_true rfl) ?_
  intro p9 e9 s m9 args below meth c9 A Q hC hr hlk hW hQ ls hl
  obtain ⟨hx, hb, hml, hown, hts⟩ := id hC
  have hl : lv_has ls 4 [(0, .ref (ad 0)), (1, .int r)] := hl
  obtain ⟨hP, hP8, hR, hR5, hc4, hC8, hlen⟩ := hB
  have hpw := pow8 hP8
  refine lv_aload_n hx hb dX5_sand_0 rfl (lv_at hl 0 rfl) ?_
  refine lv_iload_n hx hb dX5_sand_1 rfl (lv_at hl 1 rfl) ?_
  refine fin_i (run_V (rest := []) hC hW (m_X5_isRider l D cs ad t R r hR hR5) k_yX5_isRider ⟨rfl, rfl⟩ q_ml_RX5_96 eX_0 rfl rfl hl.1 rfl (Nat.le_of_ble_eq_true rfl) ⟨Nat.le_of_ble_eq_true rfl, Nat.le_of_ble_eq_true rfl⟩ dX5_sand_2 ⟨Nat.zero_le _, Nat.zero_le _⟩) hW (fun r1 u1 H locs hp1 hW => ?_)
  have hW := hx_congr hW hp1.2
  refine r_top hp1.1 ?_
  refine lv_if_ne (tgt := 10) hx hb dX5_sand_5 (by decide) (fun c_5_2 => ?_) (fun c_5_2 => ?_)
  · have c_5_2 := bI_nz c_5_2
    obtain ⟨q_r, hq_r, rfl⟩ := inN_ex c_5_2 (by omega)
    refine lv_iconst (v := 1) hx hb dX5_sand_10 (by decide) ?_
    refine lv_aload_n hx hb dX5_sand_11 rfl (lv_at hl 0 rfl) ?_
    refine gX_G_slope hC hW q_fl_RX5_12 dX5_sand_12 ?_
    refine gX_S_paces hC hW q_fl_RX5_137 dX5_sand_15 ?_
    refine r_top (y := nI P) hP ?_
    refine lv_ishl hx hb dX5_sand_18 ?_
    refine r_top (y := nI (2 ^ P)) (shl_1 (by omega)) ?_
    refine lv_iconst (v := 1) hx hb dX5_sand_19 (by decide) ?_
    refine lv_isub hx hb dX5_sand_20 ?_
    refine r_top (y := nI (2 ^ P - 1)) (by rw [show (1 : Int32) = nI 1 from rfl, pk_sub (by omega)]) ?_
    refine lv_istore_n (lv' := [(2, .int (nI (2 ^ P - 1))), (0, .ref (ad 0)), (1, .int (nI q_r))]) hx hb dX5_sand_21 rfl hl (by decide) rfl (fun ls hl => ?_)
    refine lv_iload_n hx hb dX5_sand_22 rfl (lv_at hl 0 rfl) ?_
    refine lv_iconst (v := 1) hx hb dX5_sand_23 (by decide) ?_
    refine lv_isub hx hb dX5_sand_24 ?_
    refine lv_istore_n (lv' := [(3, .int (nI (2 ^ P - 1) - 1)), (2, .int (nI (2 ^ P - 1))), (0, .ref (ad 0)), (1, .int (nI q_r))]) hx hb dX5_sand_25 rfl hl (by decide) rfl (fun ls hl => ?_)
    have loop_26_3 : ∀ (f9 : Nat) (sz : Nat) (b : Nat), (sz ≤ 2 ^ P - 1) → (b ≤ 2 ^ P - 1) → (sandD (hX P t) (t.2 3) q_r (t.2 5 q_r) sz b = sandD (hX P t) (t.2 3) q_r (t.2 5 q_r) (2 ^ P - 1) (2 ^ P - 1)) → sz < f9 → ∀ (H : Heap) (locs : List Loc), HX (wX cs ad) (tyX cs) D A s.heap s t H locs → ∀ ls : Array Slot, lv_has ls 4 [(3, .int (nI sz - 1)), (2, .int (nI b)), (0, .ref (ad 0)), (1, .int (nI q_r))] → W p9 l e9 (rmk 3 61) s m9 args below meth c9 H locs 0 0 Q (F0 m9 26 ls []) := by
      intro f_26
      induction f_26 with
      | zero => intro sz b hs hb9 hE hm_26 H locs hW ls hl; exact absurd hm_26 (Nat.not_lt_zero _)
      | succ f_26 ih_26 =>
        intro sz b hs hb9 hE hm_26 H locs hW ls hl
        refine lv_iload_n hx hb dX5_sand_26 rfl (lv_at hl 0 rfl) ?_
        refine lv_if_lt (tgt := 61) hx hb dX5_sand_27 (by decide) (fun c_27_4 => ?_) (fun c_27_4 => ?_)
        · refine lv_iload_n hx hb dX5_sand_61 rfl (lv_at hl 1 rfl) ?_
          have es0 : sz = 0 := (pred_neg (by omega)).mp c_27_4
          have hF : F_sand t P R (nI q_r) = (nI b, t) := by unfold F_sand; rw [if_pos c_5_2, nI_clamp (show q_r < 2 ^ 31 by omega), ← hE, es0] <;> rfl
          exact r_ireti hC hr hlk hW hQ (⟨by rw [hF], by rw [hF]; exact LA.rf _⟩) dX5_sand_62
        · obtain ⟨s2, rfl⟩ : ∃ s2, sz = s2 + 1 := ⟨sz - 1, by have h9 := mt (pred_neg (by omega)).mpr c_27_4; omega⟩
          rw [nI_pred] at hl
          refine lv_iload_n hx hb dX5_sand_30 rfl (lv_at hl 0 rfl) ?_
          refine fin_pi (run_P (rest := []) hC hW.2.2.2.2.2 (m_J6_bitCount_0f7a4 l (nI s2)) k_yJ6_bitCount_0f7a4 ⟨rfl, rfl⟩ q_ml_RX5_140 rfl hl.1 rfl (Nat.le_of_ble_eq_true rfl) ⟨Nat.le_of_ble_eq_true rfl, Nat.le_of_ble_eq_true rfl⟩ dX5_sand_31 ⟨Nat.zero_le _, Nat.zero_le _⟩) (fun r hr9 => ?_)
          refine r_top hr9 ?_
          refine lv_iload_n hx hb dX5_sand_34 rfl (lv_at hl 1 rfl) ?_
          refine fin_pi (run_P (rest := [.int (bcF (nI s2))]) hC hW.2.2.2.2.2 (m_J6_bitCount_0f7a4 l (nI b)) k_yJ6_bitCount_0f7a4 ⟨rfl, rfl⟩ q_ml_RX5_140 rfl hl.1 rfl (Nat.le_of_ble_eq_true rfl) ⟨Nat.le_of_ble_eq_true rfl, Nat.le_of_ble_eq_true rfl⟩ dX5_sand_35 ⟨Nat.zero_le _, Nat.zero_le _⟩) (fun r hr9 => ?_)
          refine r_top hr9 ?_
          refine lv_icmp_gt (tgt := 55) hx hb dX5_sand_38 (by decide) (fun c_38_5 => ?_) (fun c_38_5 => ?_)
          · refine lv_iinc (v := nI s2 - 1) (lv' := [(3, .int (nI s2 - 1)), (2, .int (nI b)), (0, .ref (ad 0)), (1, .int (nI q_r))]) hx hb dX5_sand_55 hl (k := 0) rfl (by rw [Int32.sub_eq_add_neg]; rfl) (by decide) rfl (fun ls hl => ?_)
            refine lv_goto (tgt := 26) hx hb dX5_sand_58 (by decide) ?_
            exact ih_26 s2 b (by omega) (by omega) (by rw [← hE, sandD, if_neg (fun h9 => Int32.not_le.mpr c_38_5 h9.1)]) (by omega) _ _ hW ls (lv_sub hl [0, 1, 2, 3] rfl)
          · refine lv_aload_n hx hb dX5_sand_41 rfl (lv_at hl 2 rfl) ?_
            refine gX_G_slope hC hW q_fl_RX5_12 dX5_sand_42 ?_
            refine lv_iload_n hx hb dX5_sand_45 rfl (lv_at hl 3 rfl) ?_
            refine lv_iload_n hx hb dX5_sand_46 rfl (lv_at hl 0 rfl) ?_
            refine fin_i (run_V (rest := []) hC hW (m_X3_isUpWithSand l D cs ad t P R q_r (nI s2) hP hP8 (by omega) hR5) k_yX3_isUpWithSand ⟨rfl, rfl⟩ q_ml_RX5_145 eX_1 rfl rfl hl.1 rfl (Nat.le_of_ble_eq_true rfl) ⟨Nat.le_of_ble_eq_true rfl, Nat.le_of_ble_eq_true rfl⟩ dX5_sand_47 ⟨Nat.zero_le _, Nat.zero_le _⟩) hW (fun r6 u6 H locs hp6 hW => ?_)
            have hW := hx_congr hW hp6.2
            refine r_top hp6.1 ?_
            refine lv_if_eq (tgt := 55) hx hb dX5_sand_50 (by decide) (fun c_50_7 => ?_) (fun c_50_7 => ?_)
            · have c_50_7 := bI_z.mp c_50_7
              refine lv_iinc (v := nI s2 - 1) (lv' := [(3, .int (nI s2 - 1)), (2, .int (nI b)), (0, .ref (ad 0)), (1, .int (nI q_r))]) hx hb dX5_sand_55 hl (k := 0) rfl (by rw [Int32.sub_eq_add_neg]; rfl) (by decide) rfl (fun ls hl => ?_)
              refine lv_goto (tgt := 26) hx hb dX5_sand_58 (by decide) ?_
              exact ih_26 s2 b (by omega) (by omega) (by rw [← hE, sandD, if_neg (fun h9 => c_50_7 h9.2)]) (by omega) _ _ hW ls (lv_sub hl [0, 1, 2, 3] rfl)
            · have c_50_7 := bI_nz c_50_7
              refine lv_iload_n hx hb dX5_sand_53 rfl (lv_at hl 0 rfl) ?_
              refine lv_istore_n (lv' := [(2, .int (nI s2)), (3, .int (nI s2)), (0, .ref (ad 0)), (1, .int (nI q_r))]) hx hb dX5_sand_54 rfl hl (by decide) rfl (fun ls hl => ?_)
              refine lv_iinc (v := nI s2 - 1) (lv' := [(3, .int (nI s2 - 1)), (2, .int (nI s2)), (0, .ref (ad 0)), (1, .int (nI q_r))]) hx hb dX5_sand_55 hl (k := 1) rfl (by rw [Int32.sub_eq_add_neg]; rfl) (by decide) rfl (fun ls hl => ?_)
              refine lv_goto (tgt := 26) hx hb dX5_sand_58 (by decide) ?_
              exact ih_26 s2 s2 (by omega) (by omega) (by rw [← hE, sandD, if_pos ⟨Int32.not_lt.mp c_38_5, c_50_7⟩]) (by omega) _ _ hW ls (lv_sub hl [0, 1, 2, 3] rfl)
    exact loop_26_3 _ (2 ^ P - 1) (2 ^ P - 1) (Nat.le_refl _) (Nat.le_refl _) (rfl) (Nat.lt_succ_self _) _ _ hW ls (lv_sub hl [0, 1, 2, 3] rfl)
  · have c_5_2 := bI_z.mp c_5_2
    refine lv_iconst (v := (-1)) hx hb dX5_sand_8 (by decide) ?_
    exact r_ireti hC hr hlk hW hQ (⟨by unfold F_sand; rw [if_neg c_5_2], by unfold F_sand; rw [if_neg c_5_2]; exact LA.rf _⟩) dX5_sand_9
set_option maxRecDepth 100000 in
set_option maxHeartbeats 4000000 in
theorem m_X5_game (l : Launch) (D : va_G) (cs : CS3) (ad : Nat → Nat) (t : St) (P R C : Nat) (r o n : Int32) (hB : BW t P R C): CT l yX5_game cX5_game 5 (some .int) (rmk 18 870) (wX cs ad) (tyX cs) D [.ref (ad 0), .int r, .int o, .int n] t (va_Qi (fun z u => z = (F_game t P R r o n).1 ∧ LA (F_game t P R r o n).2 u)) := by
  refine CT.of (own := RX5) (by decide) rfl (Nat.le_of_ble_eq_true rfl) ?_
  intro p9 e9 s m9 args below meth c9 A Q hC hr hlk hW hQ ls hl
  obtain ⟨hx, hb, hml, hown, hts⟩ := id hC
  have hl : lv_has ls 5 [(0, .ref (ad 0)), (1, .int r), (2, .int o), (3, .int n)] := hl
  obtain ⟨hP, hP8, hR, hR5, hc4, hC8, hlen⟩ := hB
  refine lv_aload_n hx hb dX5_game_0 rfl (lv_at hl 0 rfl) ?_
  refine lv_iload_n hx hb dX5_game_1 rfl (lv_at hl 1 rfl) ?_
  refine fin_i (run_V (rest := []) hC hW (m_X5_isRider l D cs ad t R r hR hR5) k_yX5_isRider ⟨rfl, rfl⟩ q_ml_RX5_96 eX_0 rfl rfl hl.1 rfl (Nat.le_of_ble_eq_true rfl) ⟨(by simp only [rmk_f, rmk_w, List.map_nil, List.sum_nil]; omega), (by simp only [rmk_f, rmk_w, List.map_nil, List.sum_nil]; omega)⟩ dX5_game_2 ⟨Nat.zero_le _, Nat.zero_le _⟩) hW (fun r1 u1 H locs hp1 hW => ?_)
  have hW := hx_congr hW hp1.2
  refine r_top hp1.1 ?_
  refine lv_if_eq (tgt := 16) hx hb dX5_game_5 (by decide) (fun c_5_2 => ?_) (fun c_5_2 => ?_)
  · have c_5_2 := bI_z.mp c_5_2
    refine lv_iconst (v := (-1)) hx hb dX5_game_16 (by decide) ?_
    have hF : F_game t P R r o n = ((-1), t) := by unfold F_game; rw [if_neg c_5_2]  <;> (try rfl)
    exact r_ireti hC hr hlk hW hQ (⟨by rw [hF], by rw [hF]; exact LA.rf _⟩) dX5_game_17
  · have c_5_2 := bI_nz c_5_2
    obtain ⟨q_r, hq_r, rfl⟩ := inN_ex c_5_2 (by omega)
    refine lv_aload_n hx hb dX5_game_8 rfl (lv_at hl 0 rfl) ?_
    refine lv_iload_n hx hb dX5_game_9 rfl (lv_at hl 2 rfl) ?_
    refine fin_i (run_V (rest := []) hC hW (m_X5_isRider l D cs ad t R o hR hR5) k_yX5_isRider ⟨rfl, rfl⟩ q_ml_RX5_96 eX_0 rfl rfl hl.1 rfl (Nat.le_of_ble_eq_true rfl) ⟨(by simp only [rmk_f, rmk_w, List.map_nil, List.sum_nil]; omega), (by simp only [rmk_f, rmk_w, List.map_nil, List.sum_nil]; omega)⟩ dX5_game_10 ⟨Nat.zero_le _, Nat.zero_le _⟩) hW (fun r3 u3 H locs hp3 hW => ?_)
    have hW := hx_congr hW hp3.2
    refine r_top hp3.1 ?_
    refine lv_if_ne (tgt := 18) hx hb dX5_game_13 (by decide) (fun c_13_4 => ?_) (fun c_13_4 => ?_)
    · have c_13_4 := bI_nz c_13_4
      obtain ⟨q_o, hq_o, rfl⟩ := inN_ex c_13_4 (by omega)
      refine lv_iload_n hx hb dX5_game_18 rfl (lv_at hl 1 rfl) ?_
      refine lv_iload_n hx hb dX5_game_19 rfl (lv_at hl 2 rfl) ?_
      refine lv_icmp_eq (tgt := 33) hx hb dX5_game_20 (by decide) (fun c_20_5 => ?_) (fun c_20_5 => ?_)
      · have c_20_5 : q_r = q_o := (nI_eq (a := q_r) (b := q_o) (by omega) (by omega)).mp c_20_5
        refine lv_bipush (v := (-2)) hx hb dX5_game_33 (by decide) ?_
        have hF : F_game t P R (nI q_r) (nI q_o) n = ((-2), t) := by unfold F_game; rw [if_pos c_5_2, if_pos c_13_4, if_pos (congrArg nI c_20_5)] <;> (try rw [nI_clamp (show q_r < 2 ^ 31 by omega)]) <;> (try rw [nI_clamp (show q_o < 2 ^ 31 by omega)]) <;> (try rfl)
        exact r_ireti hC hr hlk hW hQ (⟨by rw [hF], by rw [hF]; exact LA.rf _⟩) dX5_game_35
      · have c_20_5 : ¬ q_r = q_o := fun h => c_20_5 ((nI_eq (a := q_r) (b := q_o) (by omega) (by omega)).mpr h)
        refine lv_iload_n hx hb dX5_game_23 rfl (lv_at hl 3 rfl) ?_
        refine lv_iconst (v := 0) hx hb dX5_game_24 (by decide) ?_
        refine lv_bipush (v := 10) hx hb dX5_game_25 (by decide) ?_
        refine fin_pi (run_P (rest := []) hC hW.2.2.2.2.2 (m_X5_isIn l n 0 10) k_yX5_isIn ⟨rfl, rfl⟩ q_ml_RX5_86 rfl hl.1 rfl (Nat.le_of_ble_eq_true rfl) ⟨(by simp only [rmk_f, rmk_w, List.map_nil, List.sum_nil]; omega), (by simp only [rmk_f, rmk_w, List.map_nil, List.sum_nil]; omega)⟩ dX5_game_27 ⟨Nat.zero_le _, Nat.zero_le _⟩) (fun r hr9 => ?_)
        refine r_top hr9 ?_
        refine lv_if_ne (tgt := 36) hx hb dX5_game_30 (by decide) (fun c_30_6 => ?_) (fun c_30_6 => ?_)
        · have c_30_6 := bI_nz c_30_6
          obtain ⟨n0, hn0le, rfl⟩ := rng_ex (M := 10) (n := 10) (by decide) c_30_6
          refine lv_aload_n hx hb dX5_game_36 rfl (lv_at hl 0 rfl) ?_
          refine gX_G_climbs hC hW q_fl_RX5_34 dX5_game_37 ?_
          refine lv_iconst (v := 0) hx hb dX5_game_40 (by decide) ?_
          refine r_aldN (t0 := 2) (j := 0) hC hW eX_11 rfl rfl (by omega) (by decide) rfl dX5_game_41 ?_
          refine fin_v (run_V (rest := []) hC hW (m_X0_begin l D cs ad t 0 (by omega)) k_yX0_begin ⟨rfl, rfl⟩ q_ml_RX5_149 (eX_C 0 (by omega)) rfl rfl hl.1 rfl (Nat.le_of_ble_eq_true rfl) ⟨(by simp only [rmk_f, rmk_w, List.map_nil, List.sum_nil]; omega), (by simp only [rmk_f, rmk_w, List.map_nil, List.sum_nil]; omega)⟩ dX5_game_42 ⟨Nat.zero_le _, Nat.zero_le _⟩) hW (fun u7 H locs hp7 hW => ?_)
          obtain ⟨hgu7, heu7⟩ := hp7
          refine lv_aload_n hx hb dX5_game_45 rfl (lv_at hl 0 rfl) ?_
          refine gX_G_climbs hC hW q_fl_RX5_34 dX5_game_46 ?_
          refine lv_iload_n hx hb dX5_game_49 rfl (lv_at hl 1 rfl) ?_
          refine lv_iload_n hx hb dX5_game_50 rfl (lv_at hl 2 rfl) ?_
          refine lv_iconst (v := 0) hx hb dX5_game_51 (by decide) ?_
          refine lv_iload_n hx hb dX5_game_52 rfl (lv_at hl 3 rfl) ?_
          refine fin_i (run_S (rest := []) hC hW (m_X5_bestPlay l D cs ad P R q_r q_o hP8 hR5 (by omega) (by omega) n0 u7 0 n0 ((hgu7.1 2 (by omega)).trans hP) ((hgu7.1 3 (by omega)).trans hR) (by omega) (by omega)) k_yX5_bestPlay ⟨rfl, rfl⟩ q_ml_RX5_152 rfl hl.1 rfl (Nat.le_of_ble_eq_true rfl) ⟨(by simp only [rmk_f, rmk_w, List.map_nil, List.sum_nil]; omega), (by simp only [rmk_f, rmk_w, List.map_nil, List.sum_nil]; omega)⟩ dX5_game_53 ⟨Nat.zero_le _, Nat.zero_le _⟩) hW (fun r8 u8 H locs hp8 hW => ?_)
          obtain ⟨hru8, hgu8⟩ := hp8
          have hla : LA t u8 := (hgu7.s.tr hgu8.s).la
          refine r_top (hru8.trans (show _ = play (hX P t) q_r q_o n0 true (beg t) by rw [hgu7.eh, heu7]; rfl)) ?_
          refine lv_istore (lv' := [(4, .int (play (hX P t) q_r q_o n0 true (beg t))), (0, .ref (ad 0)), (1, .int (nI q_r)), (2, .int (nI q_o)), (3, .int (nI n0))]) hx hb dX5_game_56 hl (by decide) rfl (fun ls hl => ?_)
          refine lv_iload hx hb dX5_game_58 (lv_at hl 0 rfl) ?_
          refine lv_iconst (v := (-1)) hx hb dX5_game_60 (by decide) ?_
          refine lv_icmp_ne (tgt := 68) hx hb dX5_game_61 (by decide) (fun c_61_9 => ?_) (fun c_61_9 => ?_)
          · refine lv_iload hx hb dX5_game_68 (lv_at hl 0 rfl) ?_
            have hF : F_game t P R (nI q_r) (nI q_o) (nI n0) = (play (hX P t) q_r q_o n0 true (beg t), t) := by unfold F_game; rw [if_pos c_5_2, if_pos c_13_4, if_neg (fun h9 => c_20_5 ((nI_eq (a := q_r) (b := q_o) (by omega) (by omega)).mp h9)), if_pos c_30_6, nI_clamp (show q_r < 2 ^ 31 by omega), nI_clamp (show q_o < 2 ^ 31 by omega), nI_clamp (show n0 < 2 ^ 31 by omega), if_neg c_61_9] <;> (try rw [nI_clamp (show q_r < 2 ^ 31 by omega)]) <;> (try rw [nI_clamp (show q_o < 2 ^ 31 by omega)]) <;> (try rw [nI_clamp (show n0 < 2 ^ 31 by omega)]) <;> (try rfl)
            exact r_ireti hC hr hlk hW hQ (⟨by rw [hF], by rw [hF]; exact hla⟩) dX5_game_70
          · refine lv_iconst (v := 2) hx hb dX5_game_64 (by decide) ?_
            refine lv_goto (tgt := 70) hx hb dX5_game_65 (by decide) ?_
            have hF : F_game t P R (nI q_r) (nI q_o) (nI n0) = (2, t) := by unfold F_game; rw [if_pos c_5_2, if_pos c_13_4, if_neg (fun h9 => c_20_5 ((nI_eq (a := q_r) (b := q_o) (by omega) (by omega)).mp h9)), if_pos c_30_6, nI_clamp (show q_r < 2 ^ 31 by omega), nI_clamp (show q_o < 2 ^ 31 by omega), nI_clamp (show n0 < 2 ^ 31 by omega), if_pos c_61_9] <;> (try rw [nI_clamp (show q_r < 2 ^ 31 by omega)]) <;> (try rw [nI_clamp (show q_o < 2 ^ 31 by omega)]) <;> (try rw [nI_clamp (show n0 < 2 ^ 31 by omega)]) <;> (try rfl)
            exact r_ireti hC hr hlk hW hQ (⟨by rw [hF], by rw [hF]; exact hla⟩) dX5_game_70
        · have c_30_6 := bI_z.mp c_30_6
          refine lv_bipush (v := (-2)) hx hb dX5_game_33 (by decide) ?_
          have hF : F_game t P R (nI q_r) (nI q_o) n = ((-2), t) := by unfold F_game; rw [if_pos c_5_2, if_pos c_13_4, if_neg (fun h9 => c_20_5 ((nI_eq (a := q_r) (b := q_o) (by omega) (by omega)).mp h9)), if_neg c_30_6] <;> (try rw [nI_clamp (show q_r < 2 ^ 31 by omega)]) <;> (try rw [nI_clamp (show q_o < 2 ^ 31 by omega)]) <;> (try rfl)
          exact r_ireti hC hr hlk hW hQ (⟨by rw [hF], by rw [hF]; exact LA.rf _⟩) dX5_game_35
    · have c_13_4 := bI_z.mp c_13_4
      refine lv_iconst (v := (-1)) hx hb dX5_game_16 (by decide) ?_
      have hF : F_game t P R (nI q_r) o n = ((-1), t) := by unfold F_game; rw [if_pos c_5_2, if_neg c_13_4] <;> (try rw [nI_clamp (show q_r < 2 ^ 31 by omega)]) <;> (try rfl)
      exact r_ireti hC hr hlk hW hQ (⟨by rw [hF], by rw [hF]; exact LA.rf _⟩) dX5_game_17
