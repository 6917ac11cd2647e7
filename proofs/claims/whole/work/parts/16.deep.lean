set_option maxRecDepth 100000 in
set_option maxHeartbeats 4000000 in
theorem m_X5_findRow (l : Launch) (D : va_G) (cs : CS3) (ad : Nat → Nat) (P R q : Nat) (hP8 : P ≤ 8) (hR5 : R ≤ 5) (hq : q < R) : ∀ (m : Nat) (t : St) (d len : Nat), (t.1 2 = nI P) → (t.1 3 = nI R) → (len = d + m + 1) → (len ≤ 6) → CT l yX5_findRow cX5_findRow 11 (some .boolean) (rmk (6 + m) (400 + 40 * m)) (wX cs ad) (tyX cs) D [.ref (ad 11), .ref (ad 13), .int (nI q), .int (nI d), .int (nI len)] t (va_Qi (fun r u => frP (frow (hX P t) R q (m + 1) (cv t d)) (m + 1) d r u ∧ agrD d t u)) := by
  intro m
  induction m with
  | zero =>
    intro t d len hP hR hlen hl6
    refine CT.of (own := RX5) (by decide) rfl (Nat.le_of_ble_eq_true rfl) ?_
    intro p9 e9 s m9 args below meth c9 A Q hC hr hlk hW hQ ls hl
    obtain ⟨hx, hb, hml, hown, hts⟩ := id hC
    have hl : lv_has ls 11 [(0, .ref (ad 11)), (1, .ref (ad 13)), (2, .int (nI q)), (3, .int (nI d)), (4, .int (nI len))] := hl
    refine lv_iload_n hx hb dX5_findRow_0 rfl (lv_at hl 3 rfl) ?_
    refine lv_iload hx hb dX5_findRow_1 (lv_at hl 4 rfl) ?_
    refine lv_icmp_ge (tgt := 20) hx hb dX5_findRow_3 (by decide) (fun c_3_1 => ?_) (fun c_3_1 => ?_)
    · have c_3_1 : len ≤ d := (nI_leI (a := len) (b := d) (by omega) (by omega)).mp c_3_1
      exfalso; omega
    · have c_3_1 : ¬ len ≤ d := fun h => c_3_1 ((nI_leI (a := len) (b := d) (by omega) (by omega)).mpr h)
      refine lv_iload_n hx hb dX5_findRow_6 rfl (lv_at hl 3 rfl) ?_
      refine lv_aload_n hx hb dX5_findRow_7 rfl (lv_at hl 1 rfl) ?_
      refine r_alen (t0 := 0) (v := 6) hC hW eX_13 rfl rfl dX5_findRow_8 ?_
      refine lv_icmp_ge (tgt := 20) hx hb dX5_findRow_9 (by decide) (fun c_9_2 => ?_) (fun c_9_2 => ?_)
      · have c_9_2 : 6 ≤ d := (nI_leI (a := 6) (b := d) (by omega) (by omega)).mp c_9_2
        exfalso; omega
      · have c_9_2 : ¬ 6 ≤ d := fun h => c_9_2 ((nI_leI (a := 6) (b := d) (by omega) (by omega)).mpr h)
        refine lv_iload_n hx hb dX5_findRow_12 rfl (lv_at hl 3 rfl) ?_
        refine lv_iconst (v := 1) hx hb dX5_findRow_13 (by decide) ?_
        refine lv_iadd hx hb dX5_findRow_14 ?_
        refine r_top (y := nI (d + 1)) (nI_add d 1) ?_
        refine lv_aload_n hx hb dX5_findRow_15 rfl (lv_at hl 0 rfl) ?_
        refine r_alen (t0 := 2) (v := 11) hC hW eX_11 rfl rfl dX5_findRow_16 ?_
        refine lv_icmp_lt (tgt := 22) hx hb dX5_findRow_17 (by decide) (fun c_17_3 => ?_) (fun c_17_3 => ?_)
        · have c_17_3 : d + 1 < 11 := (nI_ltI (a := d + 1) (b := 11) (by omega) (by omega)).mp c_17_3
          refine lv_aload_n hx hb dX5_findRow_22 rfl (lv_at hl 0 rfl) ?_
          refine lv_iload_n hx hb dX5_findRow_23 rfl (lv_at hl 3 rfl) ?_
          refine r_aldN (t0 := 2) (j := d) hC hW eX_11 rfl rfl (by omega) (by decide) rfl dX5_findRow_24 ?_
          refine lv_astore (lv' := [(5, .ref (ad (22 + 4 * d))), (0, .ref (ad 11)), (1, .ref (ad 13)), (2, .int (nI q)), (3, .int (nI d)), (4, .int (nI len))]) hx hb dX5_findRow_25 hl (by decide) rfl (fun ls hl => ?_)
          refine lv_aload_n hx hb dX5_findRow_27 rfl (lv_at hl 1 rfl) ?_
          refine lv_iload_n hx hb dX5_findRow_28 rfl (lv_at hl 4 rfl) ?_
          refine lv_iconst (v := 1) hx hb dX5_findRow_29 (by decide) ?_
          refine lv_iadd hx hb dX5_findRow_30 ?_
          refine r_top (y := nI (d + 1)) (nI_add d 1) ?_
          refine r_aldN (t0 := 2) (j := d + 1) hC hW eX_11 rfl rfl (by omega) (by decide) rfl dX5_findRow_31 ?_
          refine lv_astore (lv' := [(6, .ref (ad (22 + 4 * (d + 1)))), (5, .ref (ad (22 + 4 * d))), (0, .ref (ad 11)), (1, .ref (ad 13)), (2, .int (nI q)), (3, .int (nI d)), (4, .int (nI len))]) hx hb dX5_findRow_32 hl (by decide) rfl (fun ls hl => ?_)
          refine lv_iload_n hx hb dX5_findRow_34 rfl (lv_at hl 5 rfl) ?_
          refine lv_iload hx hb dX5_findRow_35 (lv_at hl 6 rfl) ?_
          refine lv_iconst (v := 1) hx hb dX5_findRow_37 (by decide) ?_
          refine lv_isub hx hb dX5_findRow_38 ?_
          refine r_top (y := nI (len - 1)) (by rw [show (1 : Int32) = nI 1 from rfl, pk_sub (by omega)]) ?_
          refine lv_icmp_ne (tgt := 46) hx hb dX5_findRow_39 (by decide) (fun c_39_4 => ?_) (fun c_39_4 => ?_)
          · have c_39_4 : ¬ d = (len - 1) := fun h => c_39_4 ((nI_eq (a := d) (b := len - 1) (by omega) (by omega)).mpr h)
            exfalso; omega
          · have c_39_4 : d = len - 1 := (nI_eq (a := d) (b := len - 1) (by omega) (by omega)).mp c_39_4
            refine lv_iconst (v := 1) hx hb dX5_findRow_42 (by decide) ?_
            refine lv_goto (tgt := 47) hx hb dX5_findRow_43 (by decide) ?_
            refine lv_istore (lv' := [(7, .int 1), (6, .ref (ad (22 + 4 * (d + 1)))), (5, .ref (ad (22 + 4 * d))), (0, .ref (ad 11)), (1, .ref (ad 13)), (2, .int (nI q)), (3, .int (nI d)), (4, .int (nI len))]) hx hb dX5_findRow_47 hl (by decide) rfl (fun ls hl => ?_)
            refine lv_iload hx hb dX5_findRow_49 (lv_at hl 0 rfl) ?_
            refine lv_if_eq (tgt := 58) hx hb dX5_findRow_51 (by decide) (fun c_51_5 => ?_) (fun c_51_5 => ?_)
            · exact absurd c_51_5 (by decide)
            · refine lv_iload_n hx hb dX5_findRow_54 rfl (lv_at hl 5 rfl) ?_
              refine lv_goto (tgt := 59) hx hb dX5_findRow_55 (by decide) ?_
              refine lv_istore (lv' := [(8, .int (nI q)), (7, .int 1), (6, .ref (ad (22 + 4 * (d + 1)))), (5, .ref (ad (22 + 4 * d))), (0, .ref (ad 11)), (1, .ref (ad 13)), (2, .int (nI q)), (3, .int (nI d)), (4, .int (nI len))]) hx hb dX5_findRow_59 hl (by decide) rfl (fun ls hl => ?_)
              refine lv_iload hx hb dX5_findRow_61 (lv_at hl 1 rfl) ?_
              refine lv_if_eq (tgt := 72) hx hb dX5_findRow_63 (by decide) (fun c_63_6 => ?_) (fun c_63_6 => ?_)
              · exact absurd c_63_6 (by decide)
              · refine lv_iload_n hx hb dX5_findRow_66 rfl (lv_at hl 6 rfl) ?_
                refine lv_iconst (v := 1) hx hb dX5_findRow_67 (by decide) ?_
                refine lv_iadd hx hb dX5_findRow_68 ?_
                refine r_top (y := nI (q + 1)) (nI_add q 1) ?_
                refine lv_goto (tgt := 80) hx hb dX5_findRow_69 (by decide) ?_
                refine lv_istore (lv' := [(9, .int (nI (q + 1))), (8, .int (nI q)), (7, .int 1), (6, .ref (ad (22 + 4 * (d + 1)))), (5, .ref (ad (22 + 4 * d))), (0, .ref (ad 11)), (1, .ref (ad 13)), (2, .int (nI q)), (3, .int (nI d)), (4, .int (nI len))]) hx hb dX5_findRow_80 hl (by decide) rfl (fun ls hl => ?_)
                refine lv_iload hx hb dX5_findRow_82 (lv_at hl 1 rfl) ?_
                refine lv_istore (lv' := [(10, .int (nI q)), (9, .int (nI (q + 1))), (8, .int (nI q)), (7, .int 1), (6, .ref (ad (22 + 4 * (d + 1)))), (5, .ref (ad (22 + 4 * d))), (0, .ref (ad 11)), (1, .ref (ad 13)), (2, .int (nI q)), (3, .int (nI d)), (4, .int (nI len))]) hx hb dX5_findRow_84 hl (by decide) rfl (fun ls hl => ?_)
                have loop_86_7 : ∀ (f9 : Nat) (w : Nat) (u : St), (w ≤ q + 1) → (q ≤ w) → (agrD d t u) → (w = q + 1 → frow (hX P t) R q 1 (cv t d) = none) → q + 1 - w < f9 → ∀ (H : Heap) (locs : List Loc), HX (wX cs ad) (tyX cs) D A s.heap s u H locs → ∀ ls : Array Slot, lv_has ls 11 [(10, .int (nI w)), (9, .int (nI (q + 1))), (7, .int 1), (6, .ref (ad (22 + 4 * (d + 1)))), (5, .ref (ad (22 + 4 * d))), (0, .ref (ad 11)), (1, .ref (ad 13)), (2, .int (nI q)), (3, .int (nI d)), (4, .int (nI len))] → W p9 l e9 (rmk (6 + 0) (400 + 40 * 0)) s m9 args below meth c9 H locs 0 0 Q (F0 m9 86 ls []) := by
                  intro f_86
                  induction f_86 with
                  | zero => intro w u hw hw2 hg hE hm_86 H locs hW ls hl; exact absurd hm_86 (Nat.not_lt_zero _)
                  | succ f_86 ih_86 =>
                    intro w u hw hw2 hg hE hm_86 H locs hW ls hl
                    refine lv_iload hx hb dX5_findRow_86 (lv_at hl 0 rfl) ?_
                    refine lv_iload hx hb dX5_findRow_88 (lv_at hl 1 rfl) ?_
                    refine lv_icmp_ge (tgt := 161) hx hb dX5_findRow_90 (by decide) (fun c_90_8 => ?_) (fun c_90_8 => ?_)
                    · have c_90_8 : q + 1 ≤ w := (nI_leI (a := q + 1) (b := w) (by omega) (by omega)).mp c_90_8
                      refine lv_iconst (v := 0) hx hb dX5_findRow_161 (by decide) ?_
                      exact r_iretz hC hr hlk hW hQ (⟨by rw [hE (by omega)]; rfl, hg⟩) (rfl) dX5_findRow_162
                    · have c_90_8 : ¬ (q + 1) ≤ w := fun h => c_90_8 ((nI_leI (a := q + 1) (b := w) (by omega) (by omega)).mpr h)
                      refine lv_aload hx hb dX5_findRow_93 (lv_at hl 4 rfl) ?_
                      refine lv_iload hx hb dX5_findRow_95 (lv_at hl 0 rfl) ?_
                      refine fin_i (run_V (rest := []) hC hW (m_X0_isUp l D cs ad u d (by omega) w) k_yX0_isUp ⟨rfl, rfl⟩ q_ml_RX5_238 (eX_C d (by omega)) rfl rfl hl.1 rfl (Nat.le_of_ble_eq_true rfl) ⟨(by simp only [rmk_f, rmk_w, List.map_nil, List.sum_nil]; omega), (by simp only [rmk_f, rmk_w, List.map_nil, List.sum_nil]; omega)⟩ dX5_findRow_97 ⟨Nat.zero_le _, Nat.zero_le _⟩) hW (fun r9 u9 H locs hp9 hW => ?_)
                      have hW := hx_congr hW hp9.2
                      refine r_top hp9.1 ?_
                      refine lv_if_ne (tgt := 155) hx hb dX5_findRow_100 (by decide) (fun c_100_10 => ?_) (fun c_100_10 => ?_)
                      · have c_100_10 := bI_nz c_100_10
                        refine lv_iinc (v := nI (w + 1)) (lv' := [(10, .int (nI (w + 1))), (9, .int (nI (q + 1))), (7, .int 1), (6, .ref (ad (22 + 4 * (d + 1)))), (5, .ref (ad (22 + 4 * d))), (0, .ref (ad 11)), (1, .ref (ad 13)), (2, .int (nI q)), (3, .int (nI d)), (4, .int (nI len))]) hx hb dX5_findRow_155 hl (k := 0) rfl (nI_1 _) (by decide) rfl (fun ls hl => ?_)
                        refine lv_goto (tgt := 86) hx hb dX5_findRow_158 (by decide) ?_
                        exact ih_86 (w + 1) u (by omega) (by omega) (hg) (fun _ => by rw [frow1, if_pos (by rw [← hg.ec (Nat.le_refl d), ← show w = q by omega]; exact c_100_10)]) (by omega) _ _ hW ls (lv_sub hl [0, 1, 2, 3, 4, 5, 6, 7, 8, 9] rfl)
                      · have c_100_10 := bI_z.mp c_100_10
                        refine lv_aload hx hb dX5_findRow_103 (lv_at hl 3 rfl) ?_
                        refine lv_aload hx hb dX5_findRow_105 (lv_at hl 4 rfl) ?_
                        refine fin_v (run_V (rest := []) hC hW (m_X0_become l D cs ad u (d + 1) (by omega) d (by omega) (by omega)) k_yX0_become ⟨rfl, rfl⟩ q_ml_RX5_252 (eX_C (d + 1) (by omega)) rfl rfl hl.1 rfl (Nat.le_of_ble_eq_true rfl) ⟨(by simp only [rmk_f, rmk_w, List.map_nil, List.sum_nil]; omega), (by simp only [rmk_f, rmk_w, List.map_nil, List.sum_nil]; omega)⟩ dX5_findRow_107 ⟨Nat.zero_le _, Nat.zero_le _⟩) hW (fun u11 H locs hp11 hW => ?_)
                        obtain ⟨hgu11, heu11⟩ := hp11
                        refine lv_aload hx hb dX5_findRow_110 (lv_at hl 3 rfl) ?_
                        refine lv_iload hx hb dX5_findRow_112 (lv_at hl 0 rfl) ?_
                        refine fin_v (run_V (rest := []) hC hW (m_X0_attempt l D cs ad u11 (d + 1) (by omega) P R w ((hgu11.1 2 (by omega)).trans ((hg.1 2 (by omega)).trans hP)) (by omega) (by omega) (by omega)) k_yX0_attempt ⟨rfl, rfl⟩ q_ml_RX5_241 (eX_C (d + 1) (by omega)) rfl rfl hl.1 rfl (Nat.le_of_ble_eq_true rfl) ⟨(by simp only [rmk_f, rmk_w, List.map_nil, List.sum_nil]; omega), (by simp only [rmk_f, rmk_w, List.map_nil, List.sum_nil]; omega)⟩ dX5_findRow_114 ⟨Nat.zero_le _, Nat.zero_le _⟩) hW (fun u12 H locs hp12 hW => ?_)
                        obtain ⟨hgu12, heu12⟩ := hp12
                        refine lv_aload_n hx hb dX5_findRow_117 rfl (lv_at hl 6 rfl) ?_
                        refine lv_iload_n hx hb dX5_findRow_118 rfl (lv_at hl 8 rfl) ?_
                        refine lv_iload hx hb dX5_findRow_119 (lv_at hl 0 rfl) ?_
                        refine r_istN (t0 := 0) (j := d) hC hW eX_13 rfl (rfl) (by omega) (by decide) (sX_13 _) dX5_findRow_121 (fun H locs hW => ?_)
                        have hW : HX (wX cs ad) (tyX cs) D A s.heap s (u12.1, va_up u12.2 13 (upd (u12.2 13) d (nI w))) H locs := hW
                        have hnu : ¬ isup (cv t d).2.2.2 w := by rw [← hg.ec (Nat.le_refl d)]; exact c_100_10
                        have hcu : cv u12 (d + 1) = att (hX P t) w (cv t d) := heu12.trans (by rw [heu11, hgu11.eh, hg.eh, hg.ec (Nat.le_refl d)])
                        have hg3 : agrD d t u12 := hg.tr (hgu11.d.tr hgu12.d)
                        have hgT := hg3.tr (agrD.put d u12 (nI w))
                        refine lv_iload hx hb dX5_findRow_122 (lv_at hl 2 rfl) ?_
                        refine lv_if_eq (tgt := 139) hx hb dX5_findRow_124 (by decide) (fun c_124_13 => ?_) (fun c_124_13 => ?_)
                        · exact absurd c_124_13 (by decide)
                        · refine lv_aload hx hb dX5_findRow_127 (lv_at hl 3 rfl) ?_
                          refine lv_iload_n hx hb dX5_findRow_129 rfl (lv_at hl 7 rfl) ?_
                          refine fin_i (run_V (rest := []) hC hW (m_X0_isUp l D cs ad (u12.1, va_up u12.2 13 (upd (u12.2 13) d (nI w))) (d + 1) (by omega) q) k_yX0_isUp ⟨rfl, rfl⟩ q_ml_RX5_238 (eX_C (d + 1) (by omega)) rfl rfl hl.1 rfl (Nat.le_of_ble_eq_true rfl) ⟨(by simp only [rmk_f, rmk_w, List.map_nil, List.sum_nil]; omega), (by simp only [rmk_f, rmk_w, List.map_nil, List.sum_nil]; omega)⟩ dX5_findRow_130 ⟨Nat.zero_le _, Nat.zero_le _⟩) hW (fun r14 u14 H locs hp14 hW => ?_)
                          have hW := hx_congr hW hp14.2
                          refine r_top hp14.1 ?_
                          refine lv_if_eq (tgt := 155) hx hb dX5_findRow_133 (by decide) (fun c_133_15 => ?_) (fun c_133_15 => ?_)
                          · have c_133_15 := bI_z.mp c_133_15
                            have hno : ¬ isup (att (hX P t) q (cv t d)).2.2.2 q := by rw [← show w = q by omega, ← hcu, show w = q by omega]; exact c_133_15
                            refine lv_iinc (v := nI (w + 1)) (lv' := [(10, .int (nI (w + 1))), (9, .int (nI (q + 1))), (7, .int 1), (6, .ref (ad (22 + 4 * (d + 1)))), (5, .ref (ad (22 + 4 * d))), (0, .ref (ad 11)), (1, .ref (ad 13)), (2, .int (nI q)), (3, .int (nI d)), (4, .int (nI len))]) hx hb dX5_findRow_155 hl (k := 0) rfl (nI_1 _) (by decide) rfl (fun ls hl => ?_)
                            refine lv_goto (tgt := 86) hx hb dX5_findRow_158 (by decide) ?_
                            exact ih_86 (w + 1) (u12.1, va_up u12.2 13 (upd (u12.2 13) d (nI w))) (by omega) (by omega) (hgT) (fun _ => by rw [frow1, if_neg (show ¬ isup (cv t d).2.2.2 q by rw [← show w = q by omega]; exact hnu), if_neg hno]) (by omega) _ _ hW ls (lv_sub hl [0, 1, 2, 3, 4, 5, 6, 7, 8, 9] rfl)
                          · have c_133_15 := bI_nz c_133_15
                            refine lv_goto (tgt := 153) hx hb dX5_findRow_136 (by decide) ?_
                            refine lv_iconst (v := 1) hx hb dX5_findRow_153 (by decide) ?_
                            have hyes : isup (att (hX P t) q (cv t d)).2.2.2 q := by rw [← show w = q by omega, ← hcu, show w = q by omega]; exact c_133_15
                            exact r_iretz hC hr hlk hW hQ (⟨by rw [frow1, if_neg (show ¬ isup (cv t d).2.2.2 q by rw [← show w = q by omega]; exact hnu), if_pos hyes]; exact ⟨rfl, rfl, fun j hj => by obtain rfl : j = 0 := (by omega); show va_up u12.2 13 (upd (u12.2 13) d (nI w)) 13 (d + 0) = nI q; rw [va_up_self, Nat.add_zero, pk_us, show w = q by omega]⟩, hgT⟩) (rfl) dX5_findRow_154
                exact loop_86_7 _ q t (by omega) (Nat.le_refl _) (agrD.rf d t) (fun h9 => absurd h9 (by omega)) (Nat.lt_succ_self _) _ _ hW ls (lv_sub hl [0, 1, 3, 4, 5, 6, 7, 8, 9, 10] rfl)
        · have c_17_3 : ¬ (d + 1) < 11 := fun h => c_17_3 ((nI_ltI (a := d + 1) (b := 11) (by omega) (by omega)).mpr h)
          exfalso; omega
  | succ m ih =>
    intro t d len hP hR hlen hl6
    refine CT.of (own := RX5) (by decide) rfl (Nat.le_of_ble_eq_true rfl) ?_
    intro p9 e9 s m9 args below meth c9 A Q hC hr hlk hW hQ ls hl
    obtain ⟨hx, hb, hml, hown, hts⟩ := id hC
    have hl : lv_has ls 11 [(0, .ref (ad 11)), (1, .ref (ad 13)), (2, .int (nI q)), (3, .int (nI d)), (4, .int (nI len))] := hl
    refine lv_iload_n hx hb dX5_findRow_0 rfl (lv_at hl 3 rfl) ?_
    refine lv_iload hx hb dX5_findRow_1 (lv_at hl 4 rfl) ?_
    refine lv_icmp_ge (tgt := 20) hx hb dX5_findRow_3 (by decide) (fun c_3_1 => ?_) (fun c_3_1 => ?_)
    · have c_3_1 : len ≤ d := (nI_leI (a := len) (b := d) (by omega) (by omega)).mp c_3_1
      exfalso; omega
    · have c_3_1 : ¬ len ≤ d := fun h => c_3_1 ((nI_leI (a := len) (b := d) (by omega) (by omega)).mpr h)
      refine lv_iload_n hx hb dX5_findRow_6 rfl (lv_at hl 3 rfl) ?_
      refine lv_aload_n hx hb dX5_findRow_7 rfl (lv_at hl 1 rfl) ?_
      refine r_alen (t0 := 0) (v := 6) hC hW eX_13 rfl rfl dX5_findRow_8 ?_
      refine lv_icmp_ge (tgt := 20) hx hb dX5_findRow_9 (by decide) (fun c_9_2 => ?_) (fun c_9_2 => ?_)
      · have c_9_2 : 6 ≤ d := (nI_leI (a := 6) (b := d) (by omega) (by omega)).mp c_9_2
        exfalso; omega
      · have c_9_2 : ¬ 6 ≤ d := fun h => c_9_2 ((nI_leI (a := 6) (b := d) (by omega) (by omega)).mpr h)
        refine lv_iload_n hx hb dX5_findRow_12 rfl (lv_at hl 3 rfl) ?_
        refine lv_iconst (v := 1) hx hb dX5_findRow_13 (by decide) ?_
        refine lv_iadd hx hb dX5_findRow_14 ?_
        refine r_top (y := nI (d + 1)) (nI_add d 1) ?_
        refine lv_aload_n hx hb dX5_findRow_15 rfl (lv_at hl 0 rfl) ?_
        refine r_alen (t0 := 2) (v := 11) hC hW eX_11 rfl rfl dX5_findRow_16 ?_
        refine lv_icmp_lt (tgt := 22) hx hb dX5_findRow_17 (by decide) (fun c_17_3 => ?_) (fun c_17_3 => ?_)
        · have c_17_3 : d + 1 < 11 := (nI_ltI (a := d + 1) (b := 11) (by omega) (by omega)).mp c_17_3
          refine lv_aload_n hx hb dX5_findRow_22 rfl (lv_at hl 0 rfl) ?_
          refine lv_iload_n hx hb dX5_findRow_23 rfl (lv_at hl 3 rfl) ?_
          refine r_aldN (t0 := 2) (j := d) hC hW eX_11 rfl rfl (by omega) (by decide) rfl dX5_findRow_24 ?_
          refine lv_astore (lv' := [(5, .ref (ad (22 + 4 * d))), (0, .ref (ad 11)), (1, .ref (ad 13)), (2, .int (nI q)), (3, .int (nI d)), (4, .int (nI len))]) hx hb dX5_findRow_25 hl (by decide) rfl (fun ls hl => ?_)
          refine lv_aload_n hx hb dX5_findRow_27 rfl (lv_at hl 1 rfl) ?_
          refine lv_iload_n hx hb dX5_findRow_28 rfl (lv_at hl 4 rfl) ?_
          refine lv_iconst (v := 1) hx hb dX5_findRow_29 (by decide) ?_
          refine lv_iadd hx hb dX5_findRow_30 ?_
          refine r_top (y := nI (d + 1)) (nI_add d 1) ?_
          refine r_aldN (t0 := 2) (j := d + 1) hC hW eX_11 rfl rfl (by omega) (by decide) rfl dX5_findRow_31 ?_
          refine lv_astore (lv' := [(6, .ref (ad (22 + 4 * (d + 1)))), (5, .ref (ad (22 + 4 * d))), (0, .ref (ad 11)), (1, .ref (ad 13)), (2, .int (nI q)), (3, .int (nI d)), (4, .int (nI len))]) hx hb dX5_findRow_32 hl (by decide) rfl (fun ls hl => ?_)
          refine lv_iload_n hx hb dX5_findRow_34 rfl (lv_at hl 5 rfl) ?_
          refine lv_iload hx hb dX5_findRow_35 (lv_at hl 6 rfl) ?_
          refine lv_iconst (v := 1) hx hb dX5_findRow_37 (by decide) ?_
          refine lv_isub hx hb dX5_findRow_38 ?_
          refine r_top (y := nI (len - 1)) (by rw [show (1 : Int32) = nI 1 from rfl, pk_sub (by omega)]) ?_
          refine lv_icmp_ne (tgt := 46) hx hb dX5_findRow_39 (by decide) (fun c_39_4 => ?_) (fun c_39_4 => ?_)
          · have c_39_4 : ¬ d = (len - 1) := fun h => c_39_4 ((nI_eq (a := d) (b := len - 1) (by omega) (by omega)).mpr h)
            refine lv_iconst (v := 0) hx hb dX5_findRow_46 (by decide) ?_
            refine lv_istore (lv' := [(7, .int 0), (6, .ref (ad (22 + 4 * (d + 1)))), (5, .ref (ad (22 + 4 * d))), (0, .ref (ad 11)), (1, .ref (ad 13)), (2, .int (nI q)), (3, .int (nI d)), (4, .int (nI len))]) hx hb dX5_findRow_47 hl (by decide) rfl (fun ls hl => ?_)
            refine lv_iload hx hb dX5_findRow_49 (lv_at hl 0 rfl) ?_
            refine lv_if_eq (tgt := 58) hx hb dX5_findRow_51 (by decide) (fun c_51_5 => ?_) (fun c_51_5 => ?_)
            · refine lv_iconst (v := 0) hx hb dX5_findRow_58 (by decide) ?_
              refine lv_istore (lv' := [(8, .int 0), (7, .int 0), (6, .ref (ad (22 + 4 * (d + 1)))), (5, .ref (ad (22 + 4 * d))), (0, .ref (ad 11)), (1, .ref (ad 13)), (2, .int (nI q)), (3, .int (nI d)), (4, .int (nI len))]) hx hb dX5_findRow_59 hl (by decide) rfl (fun ls hl => ?_)
              refine lv_iload hx hb dX5_findRow_61 (lv_at hl 1 rfl) ?_
              refine lv_if_eq (tgt := 72) hx hb dX5_findRow_63 (by decide) (fun c_63_6 => ?_) (fun c_63_6 => ?_)
              · refine lv_aload hx hb dX5_findRow_72 (lv_at hl 3 rfl) ?_
                refine gX_C_slope d (by omega) hC hW q_fl_RX5_251 dX5_findRow_74 ?_
                refine gX_S_riders hC hW q_fl_RX5_80 dX5_findRow_77 ?_
                refine r_top (y := nI R) hR ?_
                refine lv_istore (lv' := [(9, .int (nI R)), (8, .int 0), (7, .int 0), (6, .ref (ad (22 + 4 * (d + 1)))), (5, .ref (ad (22 + 4 * d))), (0, .ref (ad 11)), (1, .ref (ad 13)), (2, .int (nI q)), (3, .int (nI d)), (4, .int (nI len))]) hx hb dX5_findRow_80 hl (by decide) rfl (fun ls hl => ?_)
                refine lv_iload hx hb dX5_findRow_82 (lv_at hl 1 rfl) ?_
                refine lv_istore (lv' := [(10, .int 0), (9, .int (nI R)), (8, .int 0), (7, .int 0), (6, .ref (ad (22 + 4 * (d + 1)))), (5, .ref (ad (22 + 4 * d))), (0, .ref (ad 11)), (1, .ref (ad 13)), (2, .int (nI q)), (3, .int (nI d)), (4, .int (nI len))]) hx hb dX5_findRow_84 hl (by decide) rfl (fun ls hl => ?_)
                have loop_86_7 : ∀ (f9 : Nat) (w : Nat) (u : St), (w ≤ R) → (agrD d t u) → (firstR (frG (hX P t) R q (m + 1) (cv t d)) (R - w) w = firstR (frG (hX P t) R q (m + 1) (cv t d)) R 0) → R - w < f9 → ∀ (H : Heap) (locs : List Loc), HX (wX cs ad) (tyX cs) D A s.heap s u H locs → ∀ ls : Array Slot, lv_has ls 11 [(10, .int (nI w)), (9, .int (nI R)), (7, .int 0), (6, .ref (ad (22 + 4 * (d + 1)))), (5, .ref (ad (22 + 4 * d))), (0, .ref (ad 11)), (1, .ref (ad 13)), (2, .int (nI q)), (3, .int (nI d)), (4, .int (nI len))] → W p9 l e9 (rmk (6 + (m + 1)) (400 + 40 * (m + 1))) s m9 args below meth c9 H locs 0 0 Q (F0 m9 86 ls []) := by
                  intro f_86
                  induction f_86 with
                  | zero => intro w u hw hg hE hm_86 H locs hW ls hl; exact absurd hm_86 (Nat.not_lt_zero _)
                  | succ f_86 ih_86 =>
                    intro w u hw hg hE hm_86 H locs hW ls hl
                    refine lv_iload hx hb dX5_findRow_86 (lv_at hl 0 rfl) ?_
                    refine lv_iload hx hb dX5_findRow_88 (lv_at hl 1 rfl) ?_
                    refine lv_icmp_ge (tgt := 161) hx hb dX5_findRow_90 (by decide) (fun c_90_8 => ?_) (fun c_90_8 => ?_)
                    · have c_90_8 : R ≤ w := (nI_leI (a := R) (b := w) (by omega) (by omega)).mp c_90_8
                      refine lv_iconst (v := 0) hx hb dX5_findRow_161 (by decide) ?_
                      exact r_iretz hC hr hlk hW hQ (⟨by rw [frowS, ← hE, show R - w = 0 by omega]; rfl, hg⟩) (rfl) dX5_findRow_162
                    · have c_90_8 : ¬ R ≤ w := fun h => c_90_8 ((nI_leI (a := R) (b := w) (by omega) (by omega)).mpr h)
                      refine lv_aload hx hb dX5_findRow_93 (lv_at hl 4 rfl) ?_
                      refine lv_iload hx hb dX5_findRow_95 (lv_at hl 0 rfl) ?_
                      refine fin_i (run_V (rest := []) hC hW (m_X0_isUp l D cs ad u d (by omega) w) k_yX0_isUp ⟨rfl, rfl⟩ q_ml_RX5_238 (eX_C d (by omega)) rfl rfl hl.1 rfl (Nat.le_of_ble_eq_true rfl) ⟨(by simp only [rmk_f, rmk_w, List.map_nil, List.sum_nil]; omega), (by simp only [rmk_f, rmk_w, List.map_nil, List.sum_nil]; omega)⟩ dX5_findRow_97 ⟨Nat.zero_le _, Nat.zero_le _⟩) hW (fun r9 u9 H locs hp9 hW => ?_)
                      have hW := hx_congr hW hp9.2
                      refine r_top hp9.1 ?_
                      refine lv_if_ne (tgt := 155) hx hb dX5_findRow_100 (by decide) (fun c_100_10 => ?_) (fun c_100_10 => ?_)
                      · have c_100_10 := bI_nz c_100_10
                        refine lv_iinc (v := nI (w + 1)) (lv' := [(10, .int (nI (w + 1))), (9, .int (nI R)), (7, .int 0), (6, .ref (ad (22 + 4 * (d + 1)))), (5, .ref (ad (22 + 4 * d))), (0, .ref (ad 11)), (1, .ref (ad 13)), (2, .int (nI q)), (3, .int (nI d)), (4, .int (nI len))]) hx hb dX5_findRow_155 hl (k := 0) rfl (nI_1 _) (by decide) rfl (fun ls hl => ?_)
                        refine lv_goto (tgt := 86) hx hb dX5_findRow_158 (by decide) ?_
                        exact ih_86 (w + 1) u (by omega) (hg) (by rw [← hE, show R - w = (R - (w + 1)) + 1 by omega]; exact (firstR_n (by unfold frG; rw [if_pos (show isup (cv t d).2.2.2 w from by rw [← hg.ec (Nat.le_refl d)]; exact c_100_10)])).symm) (by omega) _ _ hW ls (lv_sub hl [0, 1, 2, 3, 4, 5, 6, 7, 8, 9] rfl)
                      · have c_100_10 := bI_z.mp c_100_10
                        refine lv_aload hx hb dX5_findRow_103 (lv_at hl 3 rfl) ?_
                        refine lv_aload hx hb dX5_findRow_105 (lv_at hl 4 rfl) ?_
                        refine fin_v (run_V (rest := []) hC hW (m_X0_become l D cs ad u (d + 1) (by omega) d (by omega) (by omega)) k_yX0_become ⟨rfl, rfl⟩ q_ml_RX5_252 (eX_C (d + 1) (by omega)) rfl rfl hl.1 rfl (Nat.le_of_ble_eq_true rfl) ⟨(by simp only [rmk_f, rmk_w, List.map_nil, List.sum_nil]; omega), (by simp only [rmk_f, rmk_w, List.map_nil, List.sum_nil]; omega)⟩ dX5_findRow_107 ⟨Nat.zero_le _, Nat.zero_le _⟩) hW (fun u11 H locs hp11 hW => ?_)
                        obtain ⟨hgu11, heu11⟩ := hp11
                        refine lv_aload hx hb dX5_findRow_110 (lv_at hl 3 rfl) ?_
                        refine lv_iload hx hb dX5_findRow_112 (lv_at hl 0 rfl) ?_
                        refine fin_v (run_V (rest := []) hC hW (m_X0_attempt l D cs ad u11 (d + 1) (by omega) P R w ((hgu11.1 2 (by omega)).trans ((hg.1 2 (by omega)).trans hP)) (by omega) (by omega) (by omega)) k_yX0_attempt ⟨rfl, rfl⟩ q_ml_RX5_241 (eX_C (d + 1) (by omega)) rfl rfl hl.1 rfl (Nat.le_of_ble_eq_true rfl) ⟨(by simp only [rmk_f, rmk_w, List.map_nil, List.sum_nil]; omega), (by simp only [rmk_f, rmk_w, List.map_nil, List.sum_nil]; omega)⟩ dX5_findRow_114 ⟨Nat.zero_le _, Nat.zero_le _⟩) hW (fun u12 H locs hp12 hW => ?_)
                        obtain ⟨hgu12, heu12⟩ := hp12
                        refine lv_aload_n hx hb dX5_findRow_117 rfl (lv_at hl 6 rfl) ?_
                        refine lv_iload_n hx hb dX5_findRow_118 rfl (lv_at hl 8 rfl) ?_
                        refine lv_iload hx hb dX5_findRow_119 (lv_at hl 0 rfl) ?_
                        refine r_istN (t0 := 0) (j := d) hC hW eX_13 rfl (rfl) (by omega) (by decide) (sX_13 _) dX5_findRow_121 (fun H locs hW => ?_)
                        have hW : HX (wX cs ad) (tyX cs) D A s.heap s (u12.1, va_up u12.2 13 (upd (u12.2 13) d (nI w))) H locs := hW
                        have hnu : ¬ isup (cv t d).2.2.2 w := by rw [← hg.ec (Nat.le_refl d)]; exact c_100_10
                        have hcu : cv u12 (d + 1) = att (hX P t) w (cv t d) := heu12.trans (by rw [heu11, hgu11.eh, hg.eh, hg.ec (Nat.le_refl d)])
                        have hg3 : agrD d t u12 := hg.tr (hgu11.d.tr hgu12.d)
                        have hgT := hg3.tr (agrD.put d u12 (nI w))
                        refine lv_iload hx hb dX5_findRow_122 (lv_at hl 2 rfl) ?_
                        refine lv_if_eq (tgt := 139) hx hb dX5_findRow_124 (by decide) (fun c_124_13 => ?_) (fun c_124_13 => ?_)
                        · refine lv_aload_n hx hb dX5_findRow_139 rfl (lv_at hl 5 rfl) ?_
                          refine lv_aload_n hx hb dX5_findRow_140 rfl (lv_at hl 6 rfl) ?_
                          refine lv_iload_n hx hb dX5_findRow_141 rfl (lv_at hl 7 rfl) ?_
                          refine lv_iload_n hx hb dX5_findRow_142 rfl (lv_at hl 8 rfl) ?_
                          refine lv_iconst (v := 1) hx hb dX5_findRow_143 (by decide) ?_
                          refine lv_iadd hx hb dX5_findRow_144 ?_
                          refine r_top (y := nI (d + 1)) (nI_add d 1) ?_
                          refine lv_iload hx hb dX5_findRow_145 (lv_at hl 9 rfl) ?_
                          refine fin_i (run_S (rest := []) hC hW (ih (u12.1, va_up u12.2 13 (upd (u12.2 13) d (nI w))) (d + 1) len ((hgu12.1 2 (by omega)).trans ((hgu11.1 2 (by omega)).trans ((hg.1 2 (by omega)).trans hP))) ((hgu12.1 3 (by omega)).trans ((hgu11.1 3 (by omega)).trans ((hg.1 3 (by omega)).trans hR))) (by omega) (by omega)) k_yX5_findRow ⟨rfl, rfl⟩ q_ml_RX5_247 rfl hl.1 rfl (Nat.le_of_ble_eq_true rfl) ⟨(by simp only [rmk_f, rmk_w, List.map_nil, List.sum_nil]; omega), (by simp only [rmk_f, rmk_w, List.map_nil, List.sum_nil]; omega)⟩ dX5_findRow_147 ⟨Nat.zero_le _, Nat.zero_le _⟩) hW (fun r14 u14 H locs hp14 hW => ?_)
                          obtain ⟨hfu14, hgu14⟩ := hp14
                          refine lv_if_eq (tgt := 155) hx hb dX5_findRow_150 (by decide) (fun c_150_15 => ?_) (fun c_150_15 => ?_)
                          · have hnone : frow (hX P t) R q (m + 1) (att (hX P t) w (cv t d)) = none := by have h9 := frP_0 hfu14 c_150_15; rw [show hX P (u12.1, va_up u12.2 13 (upd (u12.2 13) d (nI w))) = hX P t from hgT.eh, show cv (u12.1, va_up u12.2 13 (upd (u12.2 13) d (nI w))) (d + 1) = att (hX P t) w (cv t d) from (by simp (disch := omega) only [cv, va_up_ne] at hcu ⊢; exact hcu)] at h9; exact h9
                            refine lv_iinc (v := nI (w + 1)) (lv' := [(10, .int (nI (w + 1))), (9, .int (nI R)), (7, .int 0), (6, .ref (ad (22 + 4 * (d + 1)))), (5, .ref (ad (22 + 4 * d))), (0, .ref (ad 11)), (1, .ref (ad 13)), (2, .int (nI q)), (3, .int (nI d)), (4, .int (nI len))]) hx hb dX5_findRow_155 hl (k := 0) rfl (nI_1 _) (by decide) rfl (fun ls hl => ?_)
                            refine lv_goto (tgt := 86) hx hb dX5_findRow_158 (by decide) ?_
                            exact ih_86 (w + 1) u14 (by omega) (hgT.tr hgu14.up) (by rw [← hE, show R - w = (R - (w + 1)) + 1 by omega]; exact (firstR_n (by unfold frG; rw [if_neg hnu, hnone]; rfl)).symm) (by omega) _ _ hW ls (lv_sub hl [0, 1, 2, 3, 4, 5, 6, 7, 8, 9] rfl)
                          · obtain ⟨L5, hL5, -, hl5, hr5⟩ := frP_1 hfu14 c_150_15
                            rw [show hX P (u12.1, va_up u12.2 13 (upd (u12.2 13) d (nI w))) = hX P t from hgT.eh, show cv (u12.1, va_up u12.2 13 (upd (u12.2 13) d (nI w))) (d + 1) = att (hX P t) w (cv t d) from (by simp (disch := omega) only [cv, va_up_ne] at hcu ⊢; exact hcu)] at hL5
                            refine lv_iconst (v := 1) hx hb dX5_findRow_153 (by decide) ?_
                            exact r_iretz hC hr hlk hW hQ (⟨by rw [frowS, ← hE, show R - w = (R - (w + 1)) + 1 by omega, firstR_s (L := w :: L5) (by unfold frG; rw [if_neg hnu, hL5]; rfl)]; exact ⟨rfl, by rw [List.length_cons, hl5], fun j hj => by cases j with | zero => exact (hgu14.2.2 d (by omega)).trans (by show va_up u12.2 13 (upd (u12.2 13) d (nI w)) 13 d = nI w; rw [va_up_self, pk_us]) | succ j => exact (congrArg (u14.2 13) (by omega)).trans (hr5 j (by omega))⟩, hgT.tr hgu14.up⟩) (rfl) dX5_findRow_154
                        · exact absurd c_124_13 (by decide)
                exact loop_86_7 _ 0 t (Nat.zero_le _) (agrD.rf d t) (rfl) (Nat.lt_succ_self _) _ _ hW ls (lv_sub hl [0, 1, 3, 4, 5, 6, 7, 8, 9, 10] rfl)
              · exact absurd c_63_6 (by decide)
            · exact absurd c_51_5 (by decide)
          · have c_39_4 : d = len - 1 := (nI_eq (a := d) (b := len - 1) (by omega) (by omega)).mp c_39_4
            exfalso; omega
        · have c_17_3 : ¬ (d + 1) < 11 := fun h => c_17_3 ((nI_ltI (a := d + 1) (b := 11) (by omega) (by omega)).mpr h)
          exfalso; omega
set_option maxRecDepth 100000 in
set_option maxHeartbeats 4000000 in
theorem m_X5_bestPlay (l : Launch) (D : va_G) (cs : CS3) (ad : Nat → Nat) (P R r o : Nat) (hP8 : P ≤ 8) (hR5 : R ≤ 5) (hrR : r < R) (hoR : o < R) : ∀ (m : Nat) (t : St) (d n : Nat), (t.1 2 = nI P) → (t.1 3 = nI R) → (n = d + m) → (n ≤ 10) → CT l yX5_bestPlay cX5_bestPlay 11 (some .int) (rmk (6 + m) (400 + 40 * m)) (wX cs ad) (tyX cs) D [.ref (ad 11), .int (nI r), .int (nI o), .int (nI d), .int (nI n)] t (va_Qi (fun z u => z = play (hX P t) r o m (d % 2 == 0) (cv t d) ∧ agrD d t u)) := by
  intro m
  induction m with
  | zero =>
    intro t d n hP hR hn hn10
    refine CT.of (own := RX5) (by decide) rfl (Nat.le_of_ble_eq_true rfl) ?_
    intro p9 e9 s m9 args below meth c9 A Q hC hr hlk hW hQ ls hl
    obtain ⟨hx, hb, hml, hown, hts⟩ := id hC
    have hl : lv_has ls 11 [(0, .ref (ad 11)), (1, .int (nI r)), (2, .int (nI o)), (3, .int (nI d)), (4, .int (nI n))] := hl
    refine lv_iload_n hx hb dX5_bestPlay_0 rfl (lv_at hl 3 rfl) ?_
    refine lv_iload hx hb dX5_bestPlay_1 (lv_at hl 4 rfl) ?_
    refine lv_icmp_ge (tgt := 14) hx hb dX5_bestPlay_3 (by decide) (fun c_3_1 => ?_) (fun c_3_1 => ?_)
    · have c_3_1 : n ≤ d := (nI_leI (a := n) (b := d) (by omega) (by omega)).mp c_3_1
      refine lv_iconst (v := 0) hx hb dX5_bestPlay_14 (by decide) ?_
      exact r_ireti hC hr hlk hW hQ (⟨rfl, agrD.rf d t⟩) dX5_bestPlay_15
    · have c_3_1 : ¬ n ≤ d := fun h => c_3_1 ((nI_leI (a := n) (b := d) (by omega) (by omega)).mpr h)
      exfalso; omega
  | succ m ih =>
    intro t d n hP hR hn hn10
    refine CT.of (own := RX5) (by decide) rfl (Nat.le_of_ble_eq_true rfl) ?_
    intro p9 e9 s m9 args below meth c9 A Q hC hr hlk hW hQ ls hl
    obtain ⟨hx, hb, hml, hown, hts⟩ := id hC
    have hl : lv_has ls 11 [(0, .ref (ad 11)), (1, .int (nI r)), (2, .int (nI o)), (3, .int (nI d)), (4, .int (nI n))] := hl
    refine lv_iload_n hx hb dX5_bestPlay_0 rfl (lv_at hl 3 rfl) ?_
    refine lv_iload hx hb dX5_bestPlay_1 (lv_at hl 4 rfl) ?_
    refine lv_icmp_ge (tgt := 14) hx hb dX5_bestPlay_3 (by decide) (fun c_3_1 => ?_) (fun c_3_1 => ?_)
    · have c_3_1 : n ≤ d := (nI_leI (a := n) (b := d) (by omega) (by omega)).mp c_3_1
      exfalso; omega
    · have c_3_1 : ¬ n ≤ d := fun h => c_3_1 ((nI_leI (a := n) (b := d) (by omega) (by omega)).mpr h)
      refine lv_iload_n hx hb dX5_bestPlay_6 rfl (lv_at hl 3 rfl) ?_
      refine lv_iconst (v := 1) hx hb dX5_bestPlay_7 (by decide) ?_
      refine lv_iadd hx hb dX5_bestPlay_8 ?_
      refine r_top (y := nI (d + 1)) (nI_add d 1) ?_
      refine lv_aload_n hx hb dX5_bestPlay_9 rfl (lv_at hl 0 rfl) ?_
      refine r_alen (t0 := 2) (v := 11) hC hW eX_11 rfl rfl dX5_bestPlay_10 ?_
      refine lv_icmp_lt (tgt := 16) hx hb dX5_bestPlay_11 (by decide) (fun c_11_2 => ?_) (fun c_11_2 => ?_)
      · have c_11_2 : d + 1 < 11 := (nI_ltI (a := d + 1) (b := 11) (by omega) (by omega)).mp c_11_2
        refine lv_iload_n hx hb dX5_bestPlay_16 rfl (lv_at hl 3 rfl) ?_
        refine lv_iconst (v := 2) hx hb dX5_bestPlay_17 (by decide) ?_
        refine lv_irem hx hb dX5_bestPlay_18 (by decide) ?_
        refine r_top (y := nI (d % 2)) (by exact pk_rem (a := d) (d := 2) (by omega) (by decide) (by decide)) ?_
        refine lv_if_ne (tgt := 26) hx hb dX5_bestPlay_19 (by decide) (fun c_19_3 => ?_) (fun c_19_3 => ?_)
        · have c_19_3 : ¬ (d % 2) = 0 := fun h => c_19_3 ((nI_eq (a := d % 2) (b := 0) (by omega) (by omega)).mpr h)
          have hb1 : (d % 2 == 0) = false := by rw [beq_eq_false_iff_ne]; exact c_19_3
          have hb2 : ((d + 1) % 2 == 0) = true := by rw [beq_iff_eq]; omega
          refine lv_iconst (v := 0) hx hb dX5_bestPlay_26 (by decide) ?_
          refine lv_istore (lv' := [(5, .int 0), (0, .ref (ad 11)), (1, .int (nI r)), (2, .int (nI o)), (3, .int (nI d)), (4, .int (nI n))]) hx hb dX5_bestPlay_27 hl (by decide) rfl (fun ls hl => ?_)
          refine lv_iload hx hb dX5_bestPlay_29 (lv_at hl 0 rfl) ?_
          refine lv_if_eq (tgt := 38) hx hb dX5_bestPlay_31 (by decide) (fun c_31_4 => ?_) (fun c_31_4 => ?_)
          · refine lv_iload_n hx hb dX5_bestPlay_38 rfl (lv_at hl 3 rfl) ?_
            refine lv_istore (lv' := [(6, .int (nI o)), (5, .int 0), (0, .ref (ad 11)), (1, .int (nI r)), (2, .int (nI o)), (3, .int (nI d)), (4, .int (nI n))]) hx hb dX5_bestPlay_39 hl (by decide) rfl (fun ls hl => ?_)
            refine lv_iload hx hb dX5_bestPlay_41 (lv_at hl 1 rfl) ?_
            refine lv_if_eq (tgt := 50) hx hb dX5_bestPlay_43 (by decide) (fun c_43_5 => ?_) (fun c_43_5 => ?_)
            · refine lv_iconst (v := (-1)) hx hb dX5_bestPlay_50 (by decide) ?_
              refine lv_istore (lv' := [(7, .int (-1)), (6, .int (nI o)), (5, .int 0), (0, .ref (ad 11)), (1, .int (nI r)), (2, .int (nI o)), (3, .int (nI d)), (4, .int (nI n))]) hx hb dX5_bestPlay_51 hl (by decide) rfl (fun ls hl => ?_)
              refine lv_aload_n hx hb dX5_bestPlay_53 rfl (lv_at hl 3 rfl) ?_
              refine lv_iload_n hx hb dX5_bestPlay_54 rfl (lv_at hl 6 rfl) ?_
              refine lv_iconst (v := 1) hx hb dX5_bestPlay_55 (by decide) ?_
              refine lv_iadd hx hb dX5_bestPlay_56 ?_
              refine r_top (y := nI (d + 1)) (nI_add d 1) ?_
              refine r_aldN (t0 := 2) (j := d + 1) hC hW eX_11 rfl rfl (by omega) (by decide) rfl dX5_bestPlay_57 ?_
              refine lv_astore (lv' := [(8, .ref (ad (22 + 4 * (d + 1)))), (7, .int (-1)), (6, .int (nI o)), (5, .int 0), (0, .ref (ad 11)), (1, .int (nI r)), (2, .int (nI o)), (3, .int (nI d)), (4, .int (nI n))]) hx hb dX5_bestPlay_58 hl (by decide) rfl (fun ls hl => ?_)
              refine lv_aload hx hb dX5_bestPlay_60 (lv_at hl 0 rfl) ?_
              refine lv_aload_n hx hb dX5_bestPlay_62 rfl (lv_at hl 4 rfl) ?_
              refine lv_iload_n hx hb dX5_bestPlay_63 rfl (lv_at hl 7 rfl) ?_
              refine r_aldN (t0 := 2) (j := d) hC hW eX_11 rfl rfl (by omega) (by decide) rfl dX5_bestPlay_64 ?_
              refine fin_v (run_V (rest := []) hC hW (m_X0_become l D cs ad t (d + 1) (by omega) d (by omega) (by omega)) k_yX0_become ⟨rfl, rfl⟩ q_ml_RX5_252 (eX_C (d + 1) (by omega)) rfl rfl hl.1 rfl (Nat.le_of_ble_eq_true rfl) ⟨(by simp only [rmk_f, rmk_w, List.map_nil, List.sum_nil]; omega), (by simp only [rmk_f, rmk_w, List.map_nil, List.sum_nil]; omega)⟩ dX5_bestPlay_65 ⟨Nat.zero_le _, Nat.zero_le _⟩) hW (fun u6 H locs hp6 hW => ?_)
              obtain ⟨hgu6, heu6⟩ := hp6
              refine lv_aload hx hb dX5_bestPlay_68 (lv_at hl 0 rfl) ?_
              refine lv_iload hx hb dX5_bestPlay_70 (lv_at hl 2 rfl) ?_
              refine fin_v (run_V (rest := []) hC hW (m_X0_attempt l D cs ad u6 (d + 1) (by omega) P R o ((hgu6.1 2 (by omega)).trans hP) (by omega) (by omega) (by omega)) k_yX0_attempt ⟨rfl, rfl⟩ q_ml_RX5_241 (eX_C (d + 1) (by omega)) rfl rfl hl.1 rfl (Nat.le_of_ble_eq_true rfl) ⟨(by simp only [rmk_f, rmk_w, List.map_nil, List.sum_nil]; omega), (by simp only [rmk_f, rmk_w, List.map_nil, List.sum_nil]; omega)⟩ dX5_bestPlay_72 ⟨Nat.zero_le _, Nat.zero_le _⟩) hW (fun u7 H locs hp7 hW => ?_)
              obtain ⟨hgu7, heu7⟩ := hp7
              have hcu : cv u7 (d + 1) = att (hX P t) o (cv t d) := heu7.trans (by rw [heu6, hgu6.eh])
              have hg3 : agrD d t u7 := hgu6.d.tr hgu7.d
              have hup9 : u7.1 (13 + (d + 1)) = (att (hX P t) o (cv t d)).2.2.2 := congrArg (fun q => q.2.2.2) hcu
              refine lv_aload hx hb dX5_bestPlay_75 (lv_at hl 0 rfl) ?_
              refine lv_iload hx hb dX5_bestPlay_77 (lv_at hl 2 rfl) ?_
              refine fin_i (run_V (rest := []) hC hW (m_X0_isUp l D cs ad u7 (d + 1) (by omega) o) k_yX0_isUp ⟨rfl, rfl⟩ q_ml_RX5_238 (eX_C (d + 1) (by omega)) rfl rfl hl.1 rfl (Nat.le_of_ble_eq_true rfl) ⟨(by simp only [rmk_f, rmk_w, List.map_nil, List.sum_nil]; omega), (by simp only [rmk_f, rmk_w, List.map_nil, List.sum_nil]; omega)⟩ dX5_bestPlay_79 ⟨Nat.zero_le _, Nat.zero_le _⟩) hW (fun r8 u8 H locs hp8 hW => ?_)
              have hW := hx_congr hW hp8.2
              refine r_top hp8.1 ?_
              refine lv_if_eq (tgt := 90) hx hb dX5_bestPlay_82 (by decide) (fun c_82_9 => ?_) (fun c_82_9 => ?_)
              · have c_82_9 := bI_z.mp c_82_9
                refine lv_aload_n hx hb dX5_bestPlay_90 rfl (lv_at hl 4 rfl) ?_
                refine lv_iload_n hx hb dX5_bestPlay_91 rfl (lv_at hl 5 rfl) ?_
                refine lv_iload_n hx hb dX5_bestPlay_92 rfl (lv_at hl 6 rfl) ?_
                refine lv_iload_n hx hb dX5_bestPlay_93 rfl (lv_at hl 7 rfl) ?_
                refine lv_iconst (v := 1) hx hb dX5_bestPlay_94 (by decide) ?_
                refine lv_iadd hx hb dX5_bestPlay_95 ?_
                refine r_top (y := nI (d + 1)) (nI_add d 1) ?_
                refine lv_iload hx hb dX5_bestPlay_96 (lv_at hl 8 rfl) ?_
                refine fin_i (run_S (rest := []) hC hW (ih u7 (d + 1) n ((hgu7.1 2 (by omega)).trans ((hgu6.1 2 (by omega)).trans hP)) ((hgu7.1 3 (by omega)).trans ((hgu6.1 3 (by omega)).trans hR)) (by omega) (by omega)) k_yX5_bestPlay ⟨rfl, rfl⟩ q_ml_RX5_152 rfl hl.1 rfl (Nat.le_of_ble_eq_true rfl) ⟨(by simp only [rmk_f, rmk_w, List.map_nil, List.sum_nil]; omega), (by simp only [rmk_f, rmk_w, List.map_nil, List.sum_nil]; omega)⟩ dX5_bestPlay_98 ⟨Nat.zero_le _, Nat.zero_le _⟩) hW (fun r10 u10 H locs hp10 hW => ?_)
                obtain ⟨hru10, hgu10⟩ := hp10
                have hg5 : agrD d t u10 := hg3.tr hgu10.up
                refine r_top (hru10.trans (show _ = play (hX P t) r o m true (att (hX P t) o (cv t d)) by rw [hb2, hg3.eh, hcu])) ?_
                refine lv_istore (lv' := [(9, .int (play (hX P t) r o m true (att (hX P t) o (cv t d)))), (8, .ref (ad (22 + 4 * (d + 1)))), (7, .int (-1)), (6, .int (nI o)), (5, .int 0), (0, .ref (ad 11)), (1, .int (nI r)), (2, .int (nI o)), (3, .int (nI d)), (4, .int (nI n))]) hx hb dX5_bestPlay_101 hl (by decide) rfl (fun ls hl => ?_)
                refine lv_iload hx hb dX5_bestPlay_103 (lv_at hl 0 rfl) ?_
                refine lv_iload hx hb dX5_bestPlay_105 (lv_at hl 2 rfl) ?_
                refine lv_icmp_ne (tgt := 113) hx hb dX5_bestPlay_107 (by decide) (fun c_107_11 => ?_) (fun c_107_11 => ?_)
                · refine lv_aload hx hb dX5_bestPlay_113 (lv_at hl 1 rfl) ?_
                  refine lv_aload_n hx hb dX5_bestPlay_115 rfl (lv_at hl 5 rfl) ?_
                  refine lv_iload_n hx hb dX5_bestPlay_116 rfl (lv_at hl 8 rfl) ?_
                  refine r_aldN (t0 := 2) (j := d) hC hW eX_11 rfl rfl (by omega) (by decide) rfl dX5_bestPlay_117 ?_
                  refine fin_v (run_V (rest := []) hC hW (m_X0_become l D cs ad u10 (d + 1) (by omega) d (by omega) (by omega)) k_yX0_become ⟨rfl, rfl⟩ q_ml_RX5_252 (eX_C (d + 1) (by omega)) rfl rfl hl.1 rfl (Nat.le_of_ble_eq_true rfl) ⟨(by simp only [rmk_f, rmk_w, List.map_nil, List.sum_nil]; omega), (by simp only [rmk_f, rmk_w, List.map_nil, List.sum_nil]; omega)⟩ dX5_bestPlay_118 ⟨Nat.zero_le _, Nat.zero_le _⟩) hW (fun u12 H locs hp12 hW => ?_)
                  obtain ⟨hgu12, heu12⟩ := hp12
                  refine lv_aload_n hx hb dX5_bestPlay_121 rfl (lv_at hl 5 rfl) ?_
                  refine lv_iload_n hx hb dX5_bestPlay_122 rfl (lv_at hl 6 rfl) ?_
                  refine lv_iload_n hx hb dX5_bestPlay_123 rfl (lv_at hl 7 rfl) ?_
                  refine lv_iload_n hx hb dX5_bestPlay_124 rfl (lv_at hl 8 rfl) ?_
                  refine lv_iconst (v := 1) hx hb dX5_bestPlay_125 (by decide) ?_
                  refine lv_iadd hx hb dX5_bestPlay_126 ?_
                  refine r_top (y := nI (d + 1)) (nI_add d 1) ?_
                  refine lv_iload hx hb dX5_bestPlay_127 (lv_at hl 9 rfl) ?_
                  refine fin_i (run_S (rest := []) hC hW (ih u12 (d + 1) n ((hgu12.1 2 (by omega)).trans ((hg5.1 2 (by omega)).trans hP)) ((hgu12.1 3 (by omega)).trans ((hg5.1 3 (by omega)).trans hR)) (by omega) (by omega)) k_yX5_bestPlay ⟨rfl, rfl⟩ q_ml_RX5_152 rfl hl.1 rfl (Nat.le_of_ble_eq_true rfl) ⟨(by simp only [rmk_f, rmk_w, List.map_nil, List.sum_nil]; omega), (by simp only [rmk_f, rmk_w, List.map_nil, List.sum_nil]; omega)⟩ dX5_bestPlay_129 ⟨Nat.zero_le _, Nat.zero_le _⟩) hW (fun r13 u13 H locs hp13 hW => ?_)
                  obtain ⟨hru13, hgu13⟩ := hp13
                  have hg7 : agrD d t u13 := hg5.tr (hgu12.d.tr hgu13.up)
                  refine r_top (hru13.trans (show _ = play (hX P t) r o m true (cv t d) by rw [hb2, hgu12.eh, hg5.eh, heu12, hg5.ec (Nat.le_refl d)])) ?_
                  refine lv_istore (lv' := [(10, .int (play (hX P t) r o m true (cv t d))), (9, .int (play (hX P t) r o m true (att (hX P t) o (cv t d)))), (8, .ref (ad (22 + 4 * (d + 1)))), (7, .int (-1)), (6, .int (nI o)), (5, .int 0), (0, .ref (ad 11)), (1, .int (nI r)), (2, .int (nI o)), (3, .int (nI d)), (4, .int (nI n))]) hx hb dX5_bestPlay_132 hl (by decide) rfl (fun ls hl => ?_)
                  refine lv_iload hx hb dX5_bestPlay_134 (lv_at hl 5 rfl) ?_
                  refine lv_if_eq (tgt := 149) hx hb dX5_bestPlay_136 (by decide) (fun c_136_14 => ?_) (fun c_136_14 => ?_)
                  · refine lv_iload hx hb dX5_bestPlay_149 (lv_at hl 1 rfl) ?_
                    refine lv_iload hx hb dX5_bestPlay_151 (lv_at hl 0 rfl) ?_
                    refine r_min hC hl.1 q_ml_RX5_189 ⟨(by simp only [rmk_f, rmk_w, List.map_nil, List.sum_nil]; omega), (by simp only [rmk_f, rmk_w, List.map_nil, List.sum_nil]; omega)⟩ ⟨Nat.zero_le _, Nat.zero_le _⟩ dX5_bestPlay_153 ?_
                    exact r_ireti hC hr hlk hW hQ (⟨by rw [hb1, play_f _ _ _ _ _ _ (if_neg (show ¬ isup (att (hX P t) o (cv t d)).2.2.2 o by rw [← hup9]; exact c_82_9)), if_neg c_107_11], hg7⟩) dX5_bestPlay_156
                  · exact absurd c_136_14 (by decide)
                · refine lv_iload hx hb dX5_bestPlay_110 (lv_at hl 2 rfl) ?_
                  exact r_ireti hC hr hlk hW hQ (⟨by rw [hb1, play_f _ _ _ _ _ _ (if_neg (show ¬ isup (att (hX P t) o (cv t d)).2.2.2 o by rw [← hup9]; exact c_82_9)), if_pos c_107_11], hg5⟩) dX5_bestPlay_112
              · have c_82_9 := bI_nz c_82_9
                refine lv_iload hx hb dX5_bestPlay_85 (lv_at hl 1 rfl) ?_
                refine lv_goto (tgt := 101) hx hb dX5_bestPlay_87 (by decide) ?_
                refine lv_istore (lv' := [(9, .int (-1)), (8, .ref (ad (22 + 4 * (d + 1)))), (7, .int (-1)), (6, .int (nI o)), (5, .int 0), (0, .ref (ad 11)), (1, .int (nI r)), (2, .int (nI o)), (3, .int (nI d)), (4, .int (nI n))]) hx hb dX5_bestPlay_101 hl (by decide) rfl (fun ls hl => ?_)
                refine lv_iload hx hb dX5_bestPlay_103 (lv_at hl 0 rfl) ?_
                refine lv_iload hx hb dX5_bestPlay_105 (lv_at hl 2 rfl) ?_
                refine lv_icmp_ne (tgt := 113) hx hb dX5_bestPlay_107 (by decide) (fun c_107_15 => ?_) (fun c_107_15 => ?_)
                · exact absurd c_107_15 (by decide)
                · refine lv_iload hx hb dX5_bestPlay_110 (lv_at hl 2 rfl) ?_
                  exact r_ireti hC hr hlk hW hQ (⟨by rw [hb1, play_f _ _ _ _ _ (-1) (if_pos (show isup (att (hX P t) o (cv t d)).2.2.2 o by rw [← hup9]; exact c_82_9)), if_pos rfl], hg3⟩) dX5_bestPlay_112
            · exact absurd c_43_5 (by decide)
          · exact absurd c_31_4 (by decide)
        · have c_19_3 : d % 2 = 0 := (nI_eq (a := d % 2) (b := 0) (by omega) (by omega)).mp c_19_3
          have hb1 : (d % 2 == 0) = true := by rw [beq_iff_eq]; exact c_19_3
          have hb2 : ((d + 1) % 2 == 0) = false := by rw [beq_eq_false_iff_ne]; omega
          refine lv_iconst (v := 1) hx hb dX5_bestPlay_22 (by decide) ?_
          refine lv_goto (tgt := 27) hx hb dX5_bestPlay_23 (by decide) ?_
          refine lv_istore (lv' := [(5, .int 1), (0, .ref (ad 11)), (1, .int (nI r)), (2, .int (nI o)), (3, .int (nI d)), (4, .int (nI n))]) hx hb dX5_bestPlay_27 hl (by decide) rfl (fun ls hl => ?_)
          refine lv_iload hx hb dX5_bestPlay_29 (lv_at hl 0 rfl) ?_
          refine lv_if_eq (tgt := 38) hx hb dX5_bestPlay_31 (by decide) (fun c_31_16 => ?_) (fun c_31_16 => ?_)
          · exact absurd c_31_16 (by decide)
          · refine lv_iload_n hx hb dX5_bestPlay_34 rfl (lv_at hl 2 rfl) ?_
            refine lv_goto (tgt := 39) hx hb dX5_bestPlay_35 (by decide) ?_
            refine lv_istore (lv' := [(6, .int (nI r)), (5, .int 1), (0, .ref (ad 11)), (1, .int (nI r)), (2, .int (nI o)), (3, .int (nI d)), (4, .int (nI n))]) hx hb dX5_bestPlay_39 hl (by decide) rfl (fun ls hl => ?_)
            refine lv_iload hx hb dX5_bestPlay_41 (lv_at hl 1 rfl) ?_
            refine lv_if_eq (tgt := 50) hx hb dX5_bestPlay_43 (by decide) (fun c_43_17 => ?_) (fun c_43_17 => ?_)
            · exact absurd c_43_17 (by decide)
            · refine lv_iconst (v := 1) hx hb dX5_bestPlay_46 (by decide) ?_
              refine lv_goto (tgt := 51) hx hb dX5_bestPlay_47 (by decide) ?_
              refine lv_istore (lv' := [(7, .int 1), (6, .int (nI r)), (5, .int 1), (0, .ref (ad 11)), (1, .int (nI r)), (2, .int (nI o)), (3, .int (nI d)), (4, .int (nI n))]) hx hb dX5_bestPlay_51 hl (by decide) rfl (fun ls hl => ?_)
              refine lv_aload_n hx hb dX5_bestPlay_53 rfl (lv_at hl 3 rfl) ?_
              refine lv_iload_n hx hb dX5_bestPlay_54 rfl (lv_at hl 6 rfl) ?_
              refine lv_iconst (v := 1) hx hb dX5_bestPlay_55 (by decide) ?_
              refine lv_iadd hx hb dX5_bestPlay_56 ?_
              refine r_top (y := nI (d + 1)) (nI_add d 1) ?_
              refine r_aldN (t0 := 2) (j := d + 1) hC hW eX_11 rfl rfl (by omega) (by decide) rfl dX5_bestPlay_57 ?_
              refine lv_astore (lv' := [(8, .ref (ad (22 + 4 * (d + 1)))), (7, .int 1), (6, .int (nI r)), (5, .int 1), (0, .ref (ad 11)), (1, .int (nI r)), (2, .int (nI o)), (3, .int (nI d)), (4, .int (nI n))]) hx hb dX5_bestPlay_58 hl (by decide) rfl (fun ls hl => ?_)
              refine lv_aload hx hb dX5_bestPlay_60 (lv_at hl 0 rfl) ?_
              refine lv_aload_n hx hb dX5_bestPlay_62 rfl (lv_at hl 4 rfl) ?_
              refine lv_iload_n hx hb dX5_bestPlay_63 rfl (lv_at hl 7 rfl) ?_
              refine r_aldN (t0 := 2) (j := d) hC hW eX_11 rfl rfl (by omega) (by decide) rfl dX5_bestPlay_64 ?_
              refine fin_v (run_V (rest := []) hC hW (m_X0_become l D cs ad t (d + 1) (by omega) d (by omega) (by omega)) k_yX0_become ⟨rfl, rfl⟩ q_ml_RX5_252 (eX_C (d + 1) (by omega)) rfl rfl hl.1 rfl (Nat.le_of_ble_eq_true rfl) ⟨(by simp only [rmk_f, rmk_w, List.map_nil, List.sum_nil]; omega), (by simp only [rmk_f, rmk_w, List.map_nil, List.sum_nil]; omega)⟩ dX5_bestPlay_65 ⟨Nat.zero_le _, Nat.zero_le _⟩) hW (fun u18 H locs hp18 hW => ?_)
              obtain ⟨hgu18, heu18⟩ := hp18
              refine lv_aload hx hb dX5_bestPlay_68 (lv_at hl 0 rfl) ?_
              refine lv_iload hx hb dX5_bestPlay_70 (lv_at hl 2 rfl) ?_
              refine fin_v (run_V (rest := []) hC hW (m_X0_attempt l D cs ad u18 (d + 1) (by omega) P R r ((hgu18.1 2 (by omega)).trans hP) (by omega) (by omega) (by omega)) k_yX0_attempt ⟨rfl, rfl⟩ q_ml_RX5_241 (eX_C (d + 1) (by omega)) rfl rfl hl.1 rfl (Nat.le_of_ble_eq_true rfl) ⟨(by simp only [rmk_f, rmk_w, List.map_nil, List.sum_nil]; omega), (by simp only [rmk_f, rmk_w, List.map_nil, List.sum_nil]; omega)⟩ dX5_bestPlay_72 ⟨Nat.zero_le _, Nat.zero_le _⟩) hW (fun u19 H locs hp19 hW => ?_)
              obtain ⟨hgu19, heu19⟩ := hp19
              have hcu : cv u19 (d + 1) = att (hX P t) r (cv t d) := heu19.trans (by rw [heu18, hgu18.eh])
              have hg3 : agrD d t u19 := hgu18.d.tr hgu19.d
              have hup9 : u19.1 (13 + (d + 1)) = (att (hX P t) r (cv t d)).2.2.2 := congrArg (fun q => q.2.2.2) hcu
              refine lv_aload hx hb dX5_bestPlay_75 (lv_at hl 0 rfl) ?_
              refine lv_iload hx hb dX5_bestPlay_77 (lv_at hl 2 rfl) ?_
              refine fin_i (run_V (rest := []) hC hW (m_X0_isUp l D cs ad u19 (d + 1) (by omega) r) k_yX0_isUp ⟨rfl, rfl⟩ q_ml_RX5_238 (eX_C (d + 1) (by omega)) rfl rfl hl.1 rfl (Nat.le_of_ble_eq_true rfl) ⟨(by simp only [rmk_f, rmk_w, List.map_nil, List.sum_nil]; omega), (by simp only [rmk_f, rmk_w, List.map_nil, List.sum_nil]; omega)⟩ dX5_bestPlay_79 ⟨Nat.zero_le _, Nat.zero_le _⟩) hW (fun r20 u20 H locs hp20 hW => ?_)
              have hW := hx_congr hW hp20.2
              refine r_top hp20.1 ?_
              refine lv_if_eq (tgt := 90) hx hb dX5_bestPlay_82 (by decide) (fun c_82_21 => ?_) (fun c_82_21 => ?_)
              · have c_82_21 := bI_z.mp c_82_21
                refine lv_aload_n hx hb dX5_bestPlay_90 rfl (lv_at hl 4 rfl) ?_
                refine lv_iload_n hx hb dX5_bestPlay_91 rfl (lv_at hl 5 rfl) ?_
                refine lv_iload_n hx hb dX5_bestPlay_92 rfl (lv_at hl 6 rfl) ?_
                refine lv_iload_n hx hb dX5_bestPlay_93 rfl (lv_at hl 7 rfl) ?_
                refine lv_iconst (v := 1) hx hb dX5_bestPlay_94 (by decide) ?_
                refine lv_iadd hx hb dX5_bestPlay_95 ?_
                refine r_top (y := nI (d + 1)) (nI_add d 1) ?_
                refine lv_iload hx hb dX5_bestPlay_96 (lv_at hl 8 rfl) ?_
                refine fin_i (run_S (rest := []) hC hW (ih u19 (d + 1) n ((hgu19.1 2 (by omega)).trans ((hgu18.1 2 (by omega)).trans hP)) ((hgu19.1 3 (by omega)).trans ((hgu18.1 3 (by omega)).trans hR)) (by omega) (by omega)) k_yX5_bestPlay ⟨rfl, rfl⟩ q_ml_RX5_152 rfl hl.1 rfl (Nat.le_of_ble_eq_true rfl) ⟨(by simp only [rmk_f, rmk_w, List.map_nil, List.sum_nil]; omega), (by simp only [rmk_f, rmk_w, List.map_nil, List.sum_nil]; omega)⟩ dX5_bestPlay_98 ⟨Nat.zero_le _, Nat.zero_le _⟩) hW (fun r22 u22 H locs hp22 hW => ?_)
                obtain ⟨hru22, hgu22⟩ := hp22
                have hg5 : agrD d t u22 := hg3.tr hgu22.up
                refine r_top (hru22.trans (show _ = play (hX P t) r o m false (att (hX P t) r (cv t d)) by rw [hb2, hg3.eh, hcu])) ?_
                refine lv_istore (lv' := [(9, .int (play (hX P t) r o m false (att (hX P t) r (cv t d)))), (8, .ref (ad (22 + 4 * (d + 1)))), (7, .int 1), (6, .int (nI r)), (5, .int 1), (0, .ref (ad 11)), (1, .int (nI r)), (2, .int (nI o)), (3, .int (nI d)), (4, .int (nI n))]) hx hb dX5_bestPlay_101 hl (by decide) rfl (fun ls hl => ?_)
                refine lv_iload hx hb dX5_bestPlay_103 (lv_at hl 0 rfl) ?_
                refine lv_iload hx hb dX5_bestPlay_105 (lv_at hl 2 rfl) ?_
                refine lv_icmp_ne (tgt := 113) hx hb dX5_bestPlay_107 (by decide) (fun c_107_23 => ?_) (fun c_107_23 => ?_)
                · refine lv_aload hx hb dX5_bestPlay_113 (lv_at hl 1 rfl) ?_
                  refine lv_aload_n hx hb dX5_bestPlay_115 rfl (lv_at hl 5 rfl) ?_
                  refine lv_iload_n hx hb dX5_bestPlay_116 rfl (lv_at hl 8 rfl) ?_
                  refine r_aldN (t0 := 2) (j := d) hC hW eX_11 rfl rfl (by omega) (by decide) rfl dX5_bestPlay_117 ?_
                  refine fin_v (run_V (rest := []) hC hW (m_X0_become l D cs ad u22 (d + 1) (by omega) d (by omega) (by omega)) k_yX0_become ⟨rfl, rfl⟩ q_ml_RX5_252 (eX_C (d + 1) (by omega)) rfl rfl hl.1 rfl (Nat.le_of_ble_eq_true rfl) ⟨(by simp only [rmk_f, rmk_w, List.map_nil, List.sum_nil]; omega), (by simp only [rmk_f, rmk_w, List.map_nil, List.sum_nil]; omega)⟩ dX5_bestPlay_118 ⟨Nat.zero_le _, Nat.zero_le _⟩) hW (fun u24 H locs hp24 hW => ?_)
                  obtain ⟨hgu24, heu24⟩ := hp24
                  refine lv_aload_n hx hb dX5_bestPlay_121 rfl (lv_at hl 5 rfl) ?_
                  refine lv_iload_n hx hb dX5_bestPlay_122 rfl (lv_at hl 6 rfl) ?_
                  refine lv_iload_n hx hb dX5_bestPlay_123 rfl (lv_at hl 7 rfl) ?_
                  refine lv_iload_n hx hb dX5_bestPlay_124 rfl (lv_at hl 8 rfl) ?_
                  refine lv_iconst (v := 1) hx hb dX5_bestPlay_125 (by decide) ?_
                  refine lv_iadd hx hb dX5_bestPlay_126 ?_
                  refine r_top (y := nI (d + 1)) (nI_add d 1) ?_
                  refine lv_iload hx hb dX5_bestPlay_127 (lv_at hl 9 rfl) ?_
                  refine fin_i (run_S (rest := []) hC hW (ih u24 (d + 1) n ((hgu24.1 2 (by omega)).trans ((hg5.1 2 (by omega)).trans hP)) ((hgu24.1 3 (by omega)).trans ((hg5.1 3 (by omega)).trans hR)) (by omega) (by omega)) k_yX5_bestPlay ⟨rfl, rfl⟩ q_ml_RX5_152 rfl hl.1 rfl (Nat.le_of_ble_eq_true rfl) ⟨(by simp only [rmk_f, rmk_w, List.map_nil, List.sum_nil]; omega), (by simp only [rmk_f, rmk_w, List.map_nil, List.sum_nil]; omega)⟩ dX5_bestPlay_129 ⟨Nat.zero_le _, Nat.zero_le _⟩) hW (fun r25 u25 H locs hp25 hW => ?_)
                  obtain ⟨hru25, hgu25⟩ := hp25
                  have hg7 : agrD d t u25 := hg5.tr (hgu24.d.tr hgu25.up)
                  refine r_top (hru25.trans (show _ = play (hX P t) r o m false (cv t d) by rw [hb2, hgu24.eh, hg5.eh, heu24, hg5.ec (Nat.le_refl d)])) ?_
                  refine lv_istore (lv' := [(10, .int (play (hX P t) r o m false (cv t d))), (9, .int (play (hX P t) r o m false (att (hX P t) r (cv t d)))), (8, .ref (ad (22 + 4 * (d + 1)))), (7, .int 1), (6, .int (nI r)), (5, .int 1), (0, .ref (ad 11)), (1, .int (nI r)), (2, .int (nI o)), (3, .int (nI d)), (4, .int (nI n))]) hx hb dX5_bestPlay_132 hl (by decide) rfl (fun ls hl => ?_)
                  refine lv_iload hx hb dX5_bestPlay_134 (lv_at hl 5 rfl) ?_
                  refine lv_if_eq (tgt := 149) hx hb dX5_bestPlay_136 (by decide) (fun c_136_26 => ?_) (fun c_136_26 => ?_)
                  · exact absurd c_136_26 (by decide)
                  · refine lv_iload hx hb dX5_bestPlay_139 (lv_at hl 1 rfl) ?_
                    refine lv_iload hx hb dX5_bestPlay_141 (lv_at hl 0 rfl) ?_
                    refine r_max hC hl.1 q_ml_RX5_256 ⟨(by simp only [rmk_f, rmk_w, List.map_nil, List.sum_nil]; omega), (by simp only [rmk_f, rmk_w, List.map_nil, List.sum_nil]; omega)⟩ ⟨Nat.zero_le _, Nat.zero_le _⟩ dX5_bestPlay_143 ?_
                    refine lv_goto (tgt := 156) hx hb dX5_bestPlay_146 (by decide) ?_
                    exact r_ireti hC hr hlk hW hQ (⟨by rw [hb1, play_t _ _ _ _ _ _ (if_neg (show ¬ isup (att (hX P t) r (cv t d)).2.2.2 r by rw [← hup9]; exact c_82_21)), if_neg c_107_23], hg7⟩) dX5_bestPlay_156
                · refine lv_iload hx hb dX5_bestPlay_110 (lv_at hl 2 rfl) ?_
                  exact r_ireti hC hr hlk hW hQ (⟨by rw [hb1, play_t _ _ _ _ _ _ (if_neg (show ¬ isup (att (hX P t) r (cv t d)).2.2.2 r by rw [← hup9]; exact c_82_21)), if_pos c_107_23], hg5⟩) dX5_bestPlay_112
              · have c_82_21 := bI_nz c_82_21
                refine lv_iload hx hb dX5_bestPlay_85 (lv_at hl 1 rfl) ?_
                refine lv_goto (tgt := 101) hx hb dX5_bestPlay_87 (by decide) ?_
                refine lv_istore (lv' := [(9, .int 1), (8, .ref (ad (22 + 4 * (d + 1)))), (7, .int 1), (6, .int (nI r)), (5, .int 1), (0, .ref (ad 11)), (1, .int (nI r)), (2, .int (nI o)), (3, .int (nI d)), (4, .int (nI n))]) hx hb dX5_bestPlay_101 hl (by decide) rfl (fun ls hl => ?_)
                refine lv_iload hx hb dX5_bestPlay_103 (lv_at hl 0 rfl) ?_
                refine lv_iload hx hb dX5_bestPlay_105 (lv_at hl 2 rfl) ?_
                refine lv_icmp_ne (tgt := 113) hx hb dX5_bestPlay_107 (by decide) (fun c_107_27 => ?_) (fun c_107_27 => ?_)
                · exact absurd c_107_27 (by decide)
                · refine lv_iload hx hb dX5_bestPlay_110 (lv_at hl 2 rfl) ?_
                  exact r_ireti hC hr hlk hW hQ (⟨by rw [hb1, play_t _ _ _ _ _ 1 (if_pos (show isup (att (hX P t) r (cv t d)).2.2.2 r by rw [← hup9]; exact c_82_21)), if_pos rfl], hg3⟩) dX5_bestPlay_112
      · have c_11_2 : ¬ (d + 1) < 11 := fun h => c_11_2 ((nI_ltI (a := d + 1) (b := 11) (by omega) (by omega)).mpr h)
        exfalso; omega
set_option maxRecDepth 100000 in
set_option maxHeartbeats 4000000 in
theorem m_X5_weathersUp (l : Launch) (D : va_G) (cs : CS3) (ad : Nat → Nat) (P R q : Nat) (stp : Nat → Nat) (hP8 : P ≤ 8) (hR5 : R ≤ 5) (hq : q < R) : ∀ (m : Nat) (t : St) (d n : Nat), (t.1 2 = nI P) → (t.1 3 = nI R) → (n = d + m) → (n ≤ 10) → (∀ z, z < n → t.2 12 z = nI (stp z) ∧ (stp z = 5 ∨ stp z < R)) → CT l yX5_weathersUp cX5_weathersUp 8 (some .int) (rmk (6 + m) (400 + 40 * m)) (wX cs ad) (tyX cs) D [.ref (ad 11), .ref (ad 12), .int (nI q), .int (nI d), .int (nI n)] t (va_Qi (fun z u => z = nI (wup (hX P t) stp q m d (cv t d)) ∧ agrD d t u)) := by
  intro m
  induction m with
  | zero =>
    intro t d n hP hR hn hn10 hs
    refine CT.of (own := RX5) (by decide) rfl (Nat.le_of_ble_eq_true rfl) ?_
    intro p9 e9 s m9 args below meth c9 A Q hC hr hlk hW hQ ls hl
    obtain ⟨hx, hb, hml, hown, hts⟩ := id hC
    have hl : lv_has ls 8 [(0, .ref (ad 11)), (1, .ref (ad 12)), (2, .int (nI q)), (3, .int (nI d)), (4, .int (nI n))] := hl
    refine lv_aload_n hx hb dX5_weathersUp_0 rfl (lv_at hl 0 rfl) ?_
    refine lv_iload_n hx hb dX5_weathersUp_1 rfl (lv_at hl 3 rfl) ?_
    refine r_aldN (t0 := 2) (j := d) hC hW eX_11 rfl rfl (by omega) (by decide) rfl dX5_weathersUp_2 ?_
    refine lv_astore (lv' := [(5, .ref (ad (22 + 4 * d))), (0, .ref (ad 11)), (1, .ref (ad 12)), (2, .int (nI q)), (3, .int (nI d)), (4, .int (nI n))]) hx hb dX5_weathersUp_3 hl (by decide) rfl (fun ls hl => ?_)
    refine lv_aload hx hb dX5_weathersUp_5 (lv_at hl 0 rfl) ?_
    refine lv_iload_n hx hb dX5_weathersUp_7 rfl (lv_at hl 3 rfl) ?_
    refine fin_i (run_V (rest := []) hC hW (m_X0_isUp l D cs ad t d (by omega) q) k_yX0_isUp ⟨rfl, rfl⟩ q_ml_RX5_238 (eX_C d (by omega)) rfl rfl hl.1 rfl (Nat.le_of_ble_eq_true rfl) ⟨(by simp only [rmk_f, rmk_w, List.map_nil, List.sum_nil]; omega), (by simp only [rmk_f, rmk_w, List.map_nil, List.sum_nil]; omega)⟩ dX5_weathersUp_8 ⟨Nat.zero_le _, Nat.zero_le _⟩) hW (fun r1 u1 H locs hp1 hW => ?_)
    have hW := hx_congr hW hp1.2
    refine r_top hp1.1 ?_
    refine lv_if_eq (tgt := 21) hx hb dX5_weathersUp_11 (by decide) (fun c_11_2 => ?_) (fun c_11_2 => ?_)
    · have c_11_2 := bI_z.mp c_11_2
      refine lv_iload_n hx hb dX5_weathersUp_21 rfl (lv_at hl 4 rfl) ?_
      refine lv_iload hx hb dX5_weathersUp_22 (lv_at hl 5 rfl) ?_
      refine lv_icmp_ge (tgt := 41) hx hb dX5_weathersUp_24 (by decide) (fun c_24_3 => ?_) (fun c_24_3 => ?_)
      · have c_24_3 : n ≤ d := (nI_leI (a := n) (b := d) (by omega) (by omega)).mp c_24_3
        refine lv_iconst (v := 0) hx hb dX5_weathersUp_41 (by decide) ?_
        exact r_ireti hC hr hlk hW hQ (⟨by show _ = nI (ite _ _ _); rw [if_neg (show ¬ isup (cv t d).2.2.2 q from c_11_2)]; rfl, agrD.rf d t⟩) dX5_weathersUp_42
      · have c_24_3 : ¬ n ≤ d := fun h => c_24_3 ((nI_leI (a := n) (b := d) (by omega) (by omega)).mpr h)
        exfalso; omega
    · have c_11_2 := bI_nz c_11_2
      refine lv_iconst (v := 1) hx hb dX5_weathersUp_14 (by decide) ?_
      refine lv_iload hx hb dX5_weathersUp_15 (lv_at hl 5 rfl) ?_
      refine lv_iload_n hx hb dX5_weathersUp_17 rfl (lv_at hl 4 rfl) ?_
      refine lv_isub hx hb dX5_weathersUp_18 ?_
      refine r_top (y := nI (n - d)) (pk_sub (by omega)) ?_
      refine lv_ishl hx hb dX5_weathersUp_19 ?_
      refine r_top (y := nI (2 ^ (n - d))) (shl_1 (by omega)) ?_
      exact r_ireti hC hr hlk hW hQ (⟨by show _ = nI (ite _ _ _); rw [if_pos (show isup (cv t d).2.2.2 q from c_11_2), show n - d = 0 by omega] <;> rfl, agrD.rf d t⟩) dX5_weathersUp_20
  | succ m ih =>
    intro t d n hP hR hn hn10 hs
    refine CT.of (own := RX5) (by decide) rfl (Nat.le_of_ble_eq_true rfl) ?_
    intro p9 e9 s m9 args below meth c9 A Q hC hr hlk hW hQ ls hl
    obtain ⟨hx, hb, hml, hown, hts⟩ := id hC
    have hl : lv_has ls 8 [(0, .ref (ad 11)), (1, .ref (ad 12)), (2, .int (nI q)), (3, .int (nI d)), (4, .int (nI n))] := hl
    refine lv_aload_n hx hb dX5_weathersUp_0 rfl (lv_at hl 0 rfl) ?_
    refine lv_iload_n hx hb dX5_weathersUp_1 rfl (lv_at hl 3 rfl) ?_
    refine r_aldN (t0 := 2) (j := d) hC hW eX_11 rfl rfl (by omega) (by decide) rfl dX5_weathersUp_2 ?_
    refine lv_astore (lv' := [(5, .ref (ad (22 + 4 * d))), (0, .ref (ad 11)), (1, .ref (ad 12)), (2, .int (nI q)), (3, .int (nI d)), (4, .int (nI n))]) hx hb dX5_weathersUp_3 hl (by decide) rfl (fun ls hl => ?_)
    refine lv_aload hx hb dX5_weathersUp_5 (lv_at hl 0 rfl) ?_
    refine lv_iload_n hx hb dX5_weathersUp_7 rfl (lv_at hl 3 rfl) ?_
    refine fin_i (run_V (rest := []) hC hW (m_X0_isUp l D cs ad t d (by omega) q) k_yX0_isUp ⟨rfl, rfl⟩ q_ml_RX5_238 (eX_C d (by omega)) rfl rfl hl.1 rfl (Nat.le_of_ble_eq_true rfl) ⟨(by simp only [rmk_f, rmk_w, List.map_nil, List.sum_nil]; omega), (by simp only [rmk_f, rmk_w, List.map_nil, List.sum_nil]; omega)⟩ dX5_weathersUp_8 ⟨Nat.zero_le _, Nat.zero_le _⟩) hW (fun r1 u1 H locs hp1 hW => ?_)
    have hW := hx_congr hW hp1.2
    refine r_top hp1.1 ?_
    refine lv_if_eq (tgt := 21) hx hb dX5_weathersUp_11 (by decide) (fun c_11_2 => ?_) (fun c_11_2 => ?_)
    · have c_11_2 := bI_z.mp c_11_2
      refine lv_iload_n hx hb dX5_weathersUp_21 rfl (lv_at hl 4 rfl) ?_
      refine lv_iload hx hb dX5_weathersUp_22 (lv_at hl 5 rfl) ?_
      refine lv_icmp_ge (tgt := 41) hx hb dX5_weathersUp_24 (by decide) (fun c_24_3 => ?_) (fun c_24_3 => ?_)
      · have c_24_3 : n ≤ d := (nI_leI (a := n) (b := d) (by omega) (by omega)).mp c_24_3
        exfalso; omega
      · have c_24_3 : ¬ n ≤ d := fun h => c_24_3 ((nI_leI (a := n) (b := d) (by omega) (by omega)).mpr h)
        refine lv_iload_n hx hb dX5_weathersUp_27 rfl (lv_at hl 4 rfl) ?_
        refine lv_aload_n hx hb dX5_weathersUp_28 rfl (lv_at hl 2 rfl) ?_
        refine r_alen (t0 := 0) (v := 30) hC hW eX_12 rfl rfl dX5_weathersUp_29 ?_
        refine lv_icmp_ge (tgt := 41) hx hb dX5_weathersUp_30 (by decide) (fun c_30_4 => ?_) (fun c_30_4 => ?_)
        · have c_30_4 : 30 ≤ d := (nI_leI (a := 30) (b := d) (by omega) (by omega)).mp c_30_4
          exfalso; omega
        · have c_30_4 : ¬ 30 ≤ d := fun h => c_30_4 ((nI_leI (a := 30) (b := d) (by omega) (by omega)).mpr h)
          refine lv_iload_n hx hb dX5_weathersUp_33 rfl (lv_at hl 4 rfl) ?_
          refine lv_iconst (v := 1) hx hb dX5_weathersUp_34 (by decide) ?_
          refine lv_iadd hx hb dX5_weathersUp_35 ?_
          refine r_top (y := nI (d + 1)) (nI_add d 1) ?_
          refine lv_aload_n hx hb dX5_weathersUp_36 rfl (lv_at hl 1 rfl) ?_
          refine r_alen (t0 := 2) (v := 11) hC hW eX_11 rfl rfl dX5_weathersUp_37 ?_
          refine lv_icmp_lt (tgt := 43) hx hb dX5_weathersUp_38 (by decide) (fun c_38_5 => ?_) (fun c_38_5 => ?_)
          · have c_38_5 : d + 1 < 11 := (nI_ltI (a := d + 1) (b := 11) (by omega) (by omega)).mp c_38_5
            have hsd := hs d (by omega)
            have hsd2 := hsd.2
            refine lv_aload_n hx hb dX5_weathersUp_43 rfl (lv_at hl 1 rfl) ?_
            refine lv_iload_n hx hb dX5_weathersUp_44 rfl (lv_at hl 4 rfl) ?_
            refine lv_iconst (v := 1) hx hb dX5_weathersUp_45 (by decide) ?_
            refine lv_iadd hx hb dX5_weathersUp_46 ?_
            refine r_top (y := nI (d + 1)) (nI_add d 1) ?_
            refine r_aldN (t0 := 2) (j := d + 1) hC hW eX_11 rfl rfl (by omega) (by decide) rfl dX5_weathersUp_47 ?_
            refine lv_astore (lv' := [(6, .ref (ad (22 + 4 * (d + 1)))), (5, .ref (ad (22 + 4 * d))), (0, .ref (ad 11)), (1, .ref (ad 12)), (2, .int (nI q)), (3, .int (nI d)), (4, .int (nI n))]) hx hb dX5_weathersUp_48 hl (by decide) rfl (fun ls hl => ?_)
            refine lv_aload hx hb dX5_weathersUp_50 (lv_at hl 0 rfl) ?_
            refine lv_aload hx hb dX5_weathersUp_52 (lv_at hl 1 rfl) ?_
            refine fin_v (run_V (rest := []) hC hW (m_X0_become l D cs ad t (d + 1) (by omega) d (by omega) (by omega)) k_yX0_become ⟨rfl, rfl⟩ q_ml_RX5_252 (eX_C (d + 1) (by omega)) rfl rfl hl.1 rfl (Nat.le_of_ble_eq_true rfl) ⟨(by simp only [rmk_f, rmk_w, List.map_nil, List.sum_nil]; omega), (by simp only [rmk_f, rmk_w, List.map_nil, List.sum_nil]; omega)⟩ dX5_weathersUp_54 ⟨Nat.zero_le _, Nat.zero_le _⟩) hW (fun u6 H locs hp6 hW => ?_)
            obtain ⟨hgu6, heu6⟩ := hp6
            refine lv_aload hx hb dX5_weathersUp_57 (lv_at hl 0 rfl) ?_
            refine lv_aload_n hx hb dX5_weathersUp_59 rfl (lv_at hl 3 rfl) ?_
            refine lv_iload_n hx hb dX5_weathersUp_60 rfl (lv_at hl 5 rfl) ?_
            refine r_ildN (t0 := 0) (j := d) hC hW eX_12 rfl (rfl) (by omega) (by decide) dX5_weathersUp_61 ?_
            refine r_top (y := nI (stp d)) ((congrFun (hgu6.2 12 (by omega) (by omega) (by omega)) d).trans hsd.1) ?_
            refine fin_v (run_V (rest := []) hC hW (m_X0_goOn l D cs ad u6 (d + 1) (by omega) P R (stp d) ((hgu6.1 2 (by omega)).trans hP) (by omega) (by first | assumption | omega) (by omega)) k_yX0_goOn ⟨rfl, rfl⟩ q_ml_RX5_244 (eX_C (d + 1) (by omega)) rfl rfl hl.1 rfl (Nat.le_of_ble_eq_true rfl) ⟨(by simp only [rmk_f, rmk_w, List.map_nil, List.sum_nil]; omega), (by simp only [rmk_f, rmk_w, List.map_nil, List.sum_nil]; omega)⟩ dX5_weathersUp_62 ⟨Nat.zero_le _, Nat.zero_le _⟩) hW (fun u7 H locs hp7 hW => ?_)
            obtain ⟨hgu7, heu7⟩ := hp7
            refine lv_aload_n hx hb dX5_weathersUp_65 rfl (lv_at hl 2 rfl) ?_
            refine lv_aload_n hx hb dX5_weathersUp_66 rfl (lv_at hl 3 rfl) ?_
            refine lv_iload_n hx hb dX5_weathersUp_67 rfl (lv_at hl 4 rfl) ?_
            refine lv_iload_n hx hb dX5_weathersUp_68 rfl (lv_at hl 5 rfl) ?_
            refine lv_iconst (v := 1) hx hb dX5_weathersUp_69 (by decide) ?_
            refine lv_iadd hx hb dX5_weathersUp_70 ?_
            refine r_top (y := nI (d + 1)) (nI_add d 1) ?_
            refine lv_iload hx hb dX5_weathersUp_71 (lv_at hl 6 rfl) ?_
            have hg3 : agrD d t u7 := hgu6.d.tr hgu7.d
            refine fin_i (run_S (rest := []) hC hW (ih u7 (d + 1) n ((hgu7.1 2 (by omega)).trans ((hgu6.1 2 (by omega)).trans hP)) ((hgu7.1 3 (by omega)).trans ((hgu6.1 3 (by omega)).trans hR)) (by omega) (by omega) (fun z hz => by rw [hg3.2.1 12 (by omega) (by omega)]; exact hs z hz)) k_yX5_weathersUp ⟨rfl, rfl⟩ q_ml_RX5_182 rfl hl.1 rfl (Nat.le_of_ble_eq_true rfl) ⟨(by simp only [rmk_f, rmk_w, List.map_nil, List.sum_nil]; omega), (by simp only [rmk_f, rmk_w, List.map_nil, List.sum_nil]; omega)⟩ dX5_weathersUp_73 ⟨Nat.zero_le _, Nat.zero_le _⟩) hW (fun r8 u8 H locs hp8 hW => ?_)
            obtain ⟨hru8, hgu8⟩ := hp8
            have hg5 : agrD d t u8 := hg3.tr hgu8.up
            refine r_top (hru8.trans (show _ = nI (wup (hX P t) stp q m (d + 1) (goOn (hX P t) (stp d) (cv t d))) by rw [hg3.eh, heu7, heu6, hgu6.eh])) ?_
            refine lv_istore (lv' := [(7, .int (nI (wup (hX P t) stp q m (d + 1) (goOn (hX P t) (stp d) (cv t d))))), (6, .ref (ad (22 + 4 * (d + 1)))), (5, .ref (ad (22 + 4 * d))), (0, .ref (ad 11)), (1, .ref (ad 12)), (2, .int (nI q)), (3, .int (nI d)), (4, .int (nI n))]) hx hb dX5_weathersUp_76 hl (by decide) rfl (fun ls hl => ?_)
            refine lv_aload hx hb dX5_weathersUp_78 (lv_at hl 1 rfl) ?_
            refine lv_aload hx hb dX5_weathersUp_80 (lv_at hl 2 rfl) ?_
            refine fin_v (run_V (rest := []) hC hW (m_X0_become l D cs ad u8 (d + 1) (by omega) d (by omega) (by omega)) k_yX0_become ⟨rfl, rfl⟩ q_ml_RX5_252 (eX_C (d + 1) (by omega)) rfl rfl hl.1 rfl (Nat.le_of_ble_eq_true rfl) ⟨(by simp only [rmk_f, rmk_w, List.map_nil, List.sum_nil]; omega), (by simp only [rmk_f, rmk_w, List.map_nil, List.sum_nil]; omega)⟩ dX5_weathersUp_82 ⟨Nat.zero_le _, Nat.zero_le _⟩) hW (fun u9 H locs hp9 hW => ?_)
            obtain ⟨hgu9, heu9⟩ := hp9
            refine lv_aload hx hb dX5_weathersUp_85 (lv_at hl 1 rfl) ?_
            refine fin_v (run_V (rest := []) hC hW (m_X0_polish l D cs ad u9 (d + 1) (by omega) P ((hgu9.1 2 (by omega)).trans ((hg5.1 2 (by omega)).trans hP)) (by omega)) k_yX0_polish ⟨rfl, rfl⟩ q_ml_RX5_235 (eX_C (d + 1) (by omega)) rfl rfl hl.1 rfl (Nat.le_of_ble_eq_true rfl) ⟨(by simp only [rmk_f, rmk_w, List.map_nil, List.sum_nil]; omega), (by simp only [rmk_f, rmk_w, List.map_nil, List.sum_nil]; omega)⟩ dX5_weathersUp_87 ⟨Nat.zero_le _, Nat.zero_le _⟩) hW (fun u10 H locs hp10 hW => ?_)
            obtain ⟨hgu10, heu10⟩ := hp10
            refine lv_aload hx hb dX5_weathersUp_90 (lv_at hl 1 rfl) ?_
            refine lv_aload_n hx hb dX5_weathersUp_92 rfl (lv_at hl 4 rfl) ?_
            refine lv_iload_n hx hb dX5_weathersUp_93 rfl (lv_at hl 6 rfl) ?_
            refine r_ildN (t0 := 0) (j := d) hC hW eX_12 rfl (rfl) (by omega) (by decide) dX5_weathersUp_94 ?_
            refine r_top (y := nI (stp d)) ((congrFun (hgu10.2 12 (by omega) (by omega) (by omega)) d).trans ((congrFun (hgu9.2 12 (by omega) (by omega) (by omega)) d).trans ((congrFun (hg5.2.1 12 (by omega) (by omega)) d).trans hsd.1))) ?_
            refine fin_v (run_V (rest := []) hC hW (m_X0_goOn l D cs ad u10 (d + 1) (by omega) P R (stp d) ((hgu10.1 2 (by omega)).trans ((hgu9.1 2 (by omega)).trans ((hg5.1 2 (by omega)).trans hP))) (by omega) (by first | assumption | omega) (by omega)) k_yX0_goOn ⟨rfl, rfl⟩ q_ml_RX5_244 (eX_C (d + 1) (by omega)) rfl rfl hl.1 rfl (Nat.le_of_ble_eq_true rfl) ⟨(by simp only [rmk_f, rmk_w, List.map_nil, List.sum_nil]; omega), (by simp only [rmk_f, rmk_w, List.map_nil, List.sum_nil]; omega)⟩ dX5_weathersUp_95 ⟨Nat.zero_le _, Nat.zero_le _⟩) hW (fun u11 H locs hp11 hW => ?_)
            obtain ⟨hgu11, heu11⟩ := hp11
            refine lv_iload hx hb dX5_weathersUp_98 (lv_at hl 0 rfl) ?_
            refine lv_aload_n hx hb dX5_weathersUp_100 rfl (lv_at hl 3 rfl) ?_
            refine lv_aload_n hx hb dX5_weathersUp_101 rfl (lv_at hl 4 rfl) ?_
            refine lv_iload_n hx hb dX5_weathersUp_102 rfl (lv_at hl 5 rfl) ?_
            refine lv_iload_n hx hb dX5_weathersUp_103 rfl (lv_at hl 6 rfl) ?_
            refine lv_iconst (v := 1) hx hb dX5_weathersUp_104 (by decide) ?_
            refine lv_iadd hx hb dX5_weathersUp_105 ?_
            refine r_top (y := nI (d + 1)) (nI_add d 1) ?_
            refine lv_iload hx hb dX5_weathersUp_106 (lv_at hl 7 rfl) ?_
            have hg8 : agrD d t u11 := hg5.tr (hgu9.d.tr (hgu10.d.tr hgu11.d))
            refine fin_i (run_S (rest := [.int (nI (wup (hX P t) stp q m (d + 1) (goOn (hX P t) (stp d) (cv t d))))]) hC hW (ih u11 (d + 1) n ((hgu11.1 2 (by omega)).trans ((hgu10.1 2 (by omega)).trans ((hgu9.1 2 (by omega)).trans ((hg5.1 2 (by omega)).trans hP)))) ((hgu11.1 3 (by omega)).trans ((hgu10.1 3 (by omega)).trans ((hgu9.1 3 (by omega)).trans ((hg5.1 3 (by omega)).trans hR)))) (by omega) (by omega) (fun z hz => by rw [hg8.2.1 12 (by omega) (by omega)]; exact hs z hz)) k_yX5_weathersUp ⟨rfl, rfl⟩ q_ml_RX5_182 rfl hl.1 rfl (Nat.le_of_ble_eq_true rfl) ⟨(by simp only [rmk_f, rmk_w, List.map_nil, List.sum_nil]; omega), (by simp only [rmk_f, rmk_w, List.map_nil, List.sum_nil]; omega)⟩ dX5_weathersUp_108 ⟨Nat.zero_le _, Nat.zero_le _⟩) hW (fun r12 u12 H locs hp12 hW => ?_)
            obtain ⟨hru12, hgu12⟩ := hp12
            have hg9 : agrD d t u12 := hg8.tr hgu12.up
            refine r_top (hru12.trans (show _ = nI (wup (hX P t) stp q m (d + 1) (goOn (hX P t) (stp d) (rain (hX P t).1 (cv t d)))) by rw [hg8.eh, heu11, heu10, hgu10.eh, hgu9.eh, hg5.eh, heu9, hg5.ec (Nat.le_refl d)]; rfl)) ?_
            refine lv_iadd hx hb dX5_weathersUp_111 ?_
            refine r_top (y := nI ((wup (hX P t) stp q m (d + 1) (goOn (hX P t) (stp d) (cv t d))) + (wup (hX P t) stp q m (d + 1) (goOn (hX P t) (stp d) (rain (hX P t).1 (cv t d)))))) (nI_add (wup (hX P t) stp q m (d + 1) (goOn (hX P t) (stp d) (cv t d))) (wup (hX P t) stp q m (d + 1) (goOn (hX P t) (stp d) (rain (hX P t).1 (cv t d))))) ?_
            exact r_ireti hC hr hlk hW hQ (⟨by show _ = nI (ite _ _ _); rw [if_neg (show ¬ isup (cv t d).2.2.2 q from c_11_2)] <;> rfl, hg9⟩) dX5_weathersUp_112
          · have c_38_5 : ¬ (d + 1) < 11 := fun h => c_38_5 ((nI_ltI (a := d + 1) (b := 11) (by omega) (by omega)).mpr h)
            exfalso; omega
    · have c_11_2 := bI_nz c_11_2
      refine lv_iconst (v := 1) hx hb dX5_weathersUp_14 (by decide) ?_
      refine lv_iload hx hb dX5_weathersUp_15 (lv_at hl 5 rfl) ?_
      refine lv_iload_n hx hb dX5_weathersUp_17 rfl (lv_at hl 4 rfl) ?_
      refine lv_isub hx hb dX5_weathersUp_18 ?_
      refine r_top (y := nI (n - d)) (pk_sub (by omega)) ?_
      refine lv_ishl hx hb dX5_weathersUp_19 ?_
      refine r_top (y := nI (2 ^ (n - d))) (shl_1 (by omega)) ?_
      exact r_ireti hC hr hlk hW hQ (⟨by show _ = nI (ite _ _ _); rw [if_pos (show isup (cv t d).2.2.2 q from c_11_2), show n - d = m + 1 by omega], agrD.rf d t⟩) dX5_weathersUp_20
