set_option maxRecDepth 100000 in
set_option maxHeartbeats 4000000 in
theorem m_X1_isFull (l : Launch) (D : va_G) (cs : CS3) (ad : Nat → Nat) (t : St) : CT l yX1_isFull cX1_isFull 1 (some .boolean) (rmk 0 0) (wX cs ad) (tyX cs) D [.ref (ad 7)] t (va_Qi (fun r u => r = bI (8 ≤ t.1 4) ∧ u = t)) := by
  refine CT.of (own := RX1) (by decide) rfl (Nat.le_of_ble_eq_true rfl) ?_
  intro p9 e9 s m9 args below meth c9 A Q hC hr hlk hW hQ ls hl
  obtain ⟨hx, hb, hml, hown, hts⟩ := id hC
  have hl : lv_has ls 1 [(0, .ref (ad 7))] := hl
  refine lv_aload_n hx hb dX1_isFull_0 rfl (lv_at hl 0 rfl) ?_
  refine gX_D_count hC hW q_fl_RX1_16 dX1_isFull_1 ?_
  refine lv_bipush (v := 8) hx hb dX1_isFull_4 (by decide) ?_
  refine lv_icmp_lt (tgt := 13) hx hb dX1_isFull_6 (by decide) (fun c_6_1 => ?_) (fun c_6_1 => ?_)
  · refine lv_iconst (v := 0) hx hb dX1_isFull_13 (by decide) ?_
    exact r_iretz hC hr hlk hW hQ (⟨bI_f (Int32.not_le.mpr c_6_1), rfl⟩) (rfl) dX1_isFull_14
  · refine lv_iconst (v := 1) hx hb dX1_isFull_9 (by decide) ?_
    refine lv_goto (tgt := 14) hx hb dX1_isFull_10 (by decide) ?_
    exact r_iretz hC hr hlk hW hQ (⟨bI_t (Int32.not_lt.mp c_6_1), rfl⟩) (rfl) dX1_isFull_14
set_option maxRecDepth 100000 in
set_option maxHeartbeats 4000000 in
theorem m_X1_add (l : Launch) (D : va_G) (cs : CS3) (ad : Nat → Nat) (t : St) (C : Nat) (x y : Int32) (hc : t.1 4 = nI C) (hC : C < 8): CT l yX1_add cX1_add 3 (some .int) (rmk 0 0) (wX cs ad) (tyX cs) D [.ref (ad 7), .int x, .int y] t (va_Qi (fun r u => r = nI C ∧ u = (va_up t.1 4 (nI (C + 1)), va_up (va_up t.2 8 (upd (t.2 8) C x)) 9 (upd (t.2 9) C y)))) := by
  refine CT.of (own := RX1) (by decide) rfl (Nat.le_of_ble_eq_true rfl) ?_
  intro p9 e9 s m9 args below meth c9 A Q hC hr hlk hW hQ ls hl
  obtain ⟨hx, hb, hml, hown, hts⟩ := id hC
  have hl : lv_has ls 3 [(0, .ref (ad 7)), (1, .int x), (2, .int y)] := hl
  refine lv_aload_n hx hb dX1_add_0 rfl (lv_at hl 0 rfl) ?_
  refine gX_D_riders hC hW q_fl_RX1_9 dX1_add_1 ?_
  refine lv_aload_n hx hb dX1_add_4 rfl (lv_at hl 0 rfl) ?_
  refine gX_D_count hC hW q_fl_RX1_16 dX1_add_5 ?_
  refine r_top (y := nI C) hc ?_
  refine lv_iload_n hx hb dX1_add_8 rfl (lv_at hl 1 rfl) ?_
  refine r_istN (t0 := 0) (j := C) hC hW eX_8 rfl (rfl) (by omega) (by decide) (sX_8 _) dX1_add_9 (fun H locs hW => ?_)
  have hW : HX (wX cs ad) (tyX cs) D A s.heap s (t.1, va_up t.2 8 (upd (t.2 8) C x)) H locs := hW
  refine lv_aload_n hx hb dX1_add_10 rfl (lv_at hl 0 rfl) ?_
  refine gX_D_heights hC hW q_fl_RX1_13 dX1_add_11 ?_
  refine lv_aload_n hx hb dX1_add_14 rfl (lv_at hl 0 rfl) ?_
  refine gX_D_count hC hW q_fl_RX1_16 dX1_add_15 ?_
  refine r_top (y := nI C) hc ?_
  refine lv_iload_n hx hb dX1_add_18 rfl (lv_at hl 2 rfl) ?_
  refine r_istN (t0 := 0) (j := C) hC hW eX_9 rfl (rfl) (by omega) (by decide) (sX_9 _) dX1_add_19 (fun H locs hW => ?_)
  have hW : HX (wX cs ad) (tyX cs) D A s.heap s (t.1, va_up (va_up t.2 8 (upd (t.2 8) C x)) 9 (upd (t.2 9) C y)) H locs := hW
  refine lv_aload_n hx hb dX1_add_20 rfl (lv_at hl 0 rfl) ?_
  refine lv_dup hx hb dX1_add_21 rfl ?_
  refine gX_D_count hC hW q_fl_RX1_16 dX1_add_22 ?_
  refine r_top (y := nI C) hc ?_
  refine lv_iconst (v := 1) hx hb dX1_add_25 (by decide) ?_
  refine lv_iadd hx hb dX1_add_26 ?_
  refine r_top (y := nI (C + 1)) (nI_add C 1) ?_
  refine pX_D_count hC hW q_fl_RX1_16 dX1_add_27 (fun H locs hW => ?_)
  have hW : HX (wX cs ad) (tyX cs) D A s.heap s (va_up t.1 4 (nI (C + 1)), va_up (va_up t.2 8 (upd (t.2 8) C x)) 9 (upd (t.2 9) C y)) H locs := hW
  refine lv_aload_n hx hb dX1_add_30 rfl (lv_at hl 0 rfl) ?_
  refine gX_D_count hC hW q_fl_RX1_16 dX1_add_31 ?_
  refine r_top (y := nI (C + 1)) rfl ?_
  refine lv_iconst (v := 1) hx hb dX1_add_34 (by decide) ?_
  refine lv_isub hx hb dX1_add_35 ?_
  exact r_ireti hC hr hlk hW hQ (⟨nI_pred C, rfl⟩) dX1_add_36
set_option maxRecDepth 100000 in
set_option maxHeartbeats 4000000 in
theorem m_X1_areSo (l : Launch) (D : va_G) (cs : CS3) (ad : Nat → Nat) (t : St) (d : Nat) (hd : d < 11) (R C : Nat) (hR : t.1 3 = nI R) (hR5 : R ≤ 5) (hc : t.1 4 = nI C) (hC : C ≤ 8): CT l yX1_areSo cX1_areSo 3 (some .boolean) (rmk 2 43) (wX cs ad) (tyX cs) D [.ref (ad 7), .ref (ad (22 + 4 * d))] t (va_Qi (fun r u => r = bI (soP R C (t.2 8) (t.2 9) (t.2 (25 + 4 * d))) ∧ u = t)) := by
  refine CT.of (own := RX1) (by decide) rfl (Nat.le_of_ble_eq_true rfl) ?_
  intro p9 e9 s m9 args below meth c9 A Q hC hr hlk hW hQ ls hl
  obtain ⟨hx, hb, hml, hown, hts⟩ := id hC
  have hl : lv_has ls 3 [(0, .ref (ad 7)), (1, .ref (ad (22 + 4 * d)))] := hl
  refine lv_iconst (v := 0) hx hb dX1_areSo_0 (by decide) ?_
  refine lv_istore_n (lv' := [(2, .int 0), (0, .ref (ad 7)), (1, .ref (ad (22 + 4 * d)))]) hx hb dX1_areSo_1 rfl hl (by decide) rfl (fun ls hl => ?_)
  have loop_2_1 : ∀ (f9 : Nat) (k : Nat), (k ≤ C) → (soP R k (t.2 8) (t.2 9) (t.2 (25 + 4 * d))) → C - k < f9 → ∀ (H : Heap) (locs : List Loc), HX (wX cs ad) (tyX cs) D A s.heap s t H locs → ∀ ls : Array Slot, lv_has ls 3 [(2, .int (nI k)), (0, .ref (ad 7)), (1, .ref (ad (22 + 4 * d)))] → W p9 l e9 (rmk 2 43) s m9 args below meth c9 H locs 0 0 Q (F0 m9 2 ls []) := by
    intro f_2
    induction f_2 with
    | zero => intro k hk hs hm_2 H locs hW ls hl; exact absurd hm_2 (Nat.not_lt_zero _)
    | succ f_2 ih_2 =>
      intro k hk hs hm_2 H locs hW ls hl
      refine lv_iload_n hx hb dX1_areSo_2 rfl (lv_at hl 0 rfl) ?_
      refine lv_aload_n hx hb dX1_areSo_3 rfl (lv_at hl 1 rfl) ?_
      refine gX_D_count hC hW q_fl_RX1_16 dX1_areSo_4 ?_
      refine r_top (y := nI C) hc ?_
      refine lv_icmp_ge (tgt := 37) hx hb dX1_areSo_7 (by decide) (fun c_7_2 => ?_) (fun c_7_2 => ?_)
      · have c_7_2 : C ≤ k := (nI_leI (a := C) (b := k) (by omega) (by omega)).mp c_7_2
        refine lv_iconst (v := 1) hx hb dX1_areSo_37 (by decide) ?_
        exact r_iretz hC hr hlk hW hQ (⟨bI_t (by have : k = C := (by omega); subst this; exact hs), rfl⟩) (rfl) dX1_areSo_38
      · have c_7_2 : ¬ C ≤ k := fun h => c_7_2 ((nI_leI (a := C) (b := k) (by omega) (by omega)).mpr h)
        refine lv_aload_n hx hb dX1_areSo_10 rfl (lv_at hl 2 rfl) ?_
        refine lv_aload_n hx hb dX1_areSo_11 rfl (lv_at hl 1 rfl) ?_
        refine gX_D_riders hC hW q_fl_RX1_9 dX1_areSo_12 ?_
        refine lv_iload_n hx hb dX1_areSo_15 rfl (lv_at hl 0 rfl) ?_
        refine r_ildN (t0 := 0) (j := k) hC hW eX_8 rfl (rfl) (by omega) (by decide) dX1_areSo_16 ?_
        refine fin_i (run_V (rest := []) hC hW (m_X0_heightOf l D cs ad t d (hd) R (t.2 8 k) hR (by omega)) k_yX0_heightOf ⟨rfl, rfl⟩ q_ml_RX1_20 (eX_C d (hd)) rfl rfl hl.1 rfl (Nat.le_of_ble_eq_true rfl) ⟨Nat.le_of_ble_eq_true rfl, Nat.le_of_ble_eq_true rfl⟩ dX1_areSo_17 ⟨Nat.zero_le _, Nat.zero_le _⟩) hW (fun r3 u3 H locs hp3 hW => ?_)
        have hW := hx_congr hW hp3.2
        refine r_top hp3.1 ?_
        refine lv_aload_n hx hb dX1_areSo_20 rfl (lv_at hl 1 rfl) ?_
        refine gX_D_heights hC hW q_fl_RX1_13 dX1_areSo_21 ?_
        refine lv_iload_n hx hb dX1_areSo_24 rfl (lv_at hl 0 rfl) ?_
        refine r_ildN (t0 := 0) (j := k) hC hW eX_9 rfl (rfl) (by omega) (by decide) dX1_areSo_25 ?_
        refine lv_icmp_eq (tgt := 31) hx hb dX1_areSo_26 (by decide) (fun c_26_4 => ?_) (fun c_26_4 => ?_)
        · refine lv_iinc (v := nI (k + 1)) (lv' := [(2, .int (nI (k + 1))), (0, .ref (ad 7)), (1, .ref (ad (22 + 4 * d)))]) hx hb dX1_areSo_31 hl (k := 0) rfl (nI_1 _) (by decide) rfl (fun ls hl => ?_)
          refine lv_goto (tgt := 2) hx hb dX1_areSo_34 (by decide) ?_
          exact ih_2 (k + 1) (by omega) (fun j hj => by rcases Nat.lt_succ_iff_lt_or_eq.mp hj with h9 | h9; exact hs j h9; subst h9; exact c_26_4) (by omega) _ _ hW ls (lv_sub hl [0, 1, 2] rfl)
        · refine lv_iconst (v := 0) hx hb dX1_areSo_29 (by decide) ?_
          exact r_iretz hC hr hlk hW hQ (⟨bI_f (fun h9 => c_26_4 (h9 k (by omega))), rfl⟩) (rfl) dX1_areSo_30
  exact loop_2_1 _ 0 (Nat.zero_le _) (fun k h => absurd h (by omega)) (Nat.lt_succ_self _) _ _ hW ls (lv_sub hl [0, 1, 2] rfl)
set_option maxRecDepth 100000 in
set_option maxHeartbeats 4000000 in
theorem m_X2_isNothing (l : Launch) (D : va_G) (cs : CS3) (ad : Nat → Nat) (t : St) (k : Nat) (hk : k < 4) : CT l yX2_isNothing cX2_isNothing 1 (some .boolean) (rmk 0 0) (wX cs ad) (tyX cs) D [.ref (ad (14 + 2 * k))] t (va_Qi (fun r u => r = bI (t.1 (5 + 2 * k) = -1) ∧ u = t)) := by
  refine CT.of (own := RX2) (by decide) rfl (Nat.le_of_ble_eq_true rfl) ?_
  intro p9 e9 s m9 args below meth c9 A Q hC hr hlk hW hQ ls hl
  obtain ⟨hx, hb, hml, hown, hts⟩ := id hC
  have hl : lv_has ls 1 [(0, .ref (ad (14 + 2 * k)))] := hl
  refine lv_aload_n hx hb dX2_isNothing_0 rfl (lv_at hl 0 rfl) ?_
  refine gX_R_lane k hk hC hW q_fl_RX2_11 dX2_isNothing_1 ?_
  refine lv_iconst (v := (-1)) hx hb dX2_isNothing_4 (by decide) ?_
  refine lv_icmp_ne (tgt := 12) hx hb dX2_isNothing_5 (by decide) (fun c_5_1 => ?_) (fun c_5_1 => ?_)
  · refine lv_iconst (v := 0) hx hb dX2_isNothing_12 (by decide) ?_
    exact r_iretz hC hr hlk hW hQ (⟨bI_f c_5_1, rfl⟩) (rfl) dX2_isNothing_13
  · refine lv_iconst (v := 1) hx hb dX2_isNothing_8 (by decide) ?_
    refine lv_goto (tgt := 13) hx hb dX2_isNothing_9 (by decide) ?_
    exact r_iretz hC hr hlk hW hQ (⟨bI_t c_5_1, rfl⟩) (rfl) dX2_isNothing_13
set_option maxRecDepth 100000 in
set_option maxHeartbeats 4000000 in
theorem m_X2_holds (l : Launch) (D : va_G) (cs : CS3) (ad : Nat → Nat) (t : St) (k : Nat) (hk : k < 4) (i n : Int32) : CT l yX2_holds cX2_holds 3 (some .boolean) (rmk 0 0) (wX cs ad) (tyX cs) D [.ref (ad (14 + 2 * k)), .int i, .int n] t (va_Qi (fun r u => r = bI (0 ≤ i ∧ i ≤ t.1 (6 + 2 * k) ∧ 0 ≤ n ∧ n ≤ t.1 (6 + 2 * k) - i) ∧ u = t)) := by
  refine CT.of (own := RX2) (by decide) rfl (Nat.le_of_ble_eq_true rfl) ?_
  intro p9 e9 s m9 args below meth c9 A Q hC hr hlk hW hQ ls hl
  obtain ⟨hx, hb, hml, hown, hts⟩ := id hC
  have hl : lv_has ls 3 [(0, .ref (ad (14 + 2 * k))), (1, .int i), (2, .int n)] := hl
  refine lv_iload_n hx hb dX2_holds_0 rfl (lv_at hl 1 rfl) ?_
  refine lv_if_lt (tgt := 30) hx hb dX2_holds_1 (by decide) (fun c_1_1 => ?_) (fun c_1_1 => ?_)
  · refine lv_iconst (v := 0) hx hb dX2_holds_30 (by decide) ?_
    exact r_iretz hC hr hlk hW hQ (⟨bI_f (fun h9 => Int32.not_lt.mpr h9.1 c_1_1), rfl⟩) (rfl) dX2_holds_31
  · refine lv_iload_n hx hb dX2_holds_4 rfl (lv_at hl 1 rfl) ?_
    refine lv_aload_n hx hb dX2_holds_5 rfl (lv_at hl 0 rfl) ?_
    refine gX_R_length k hk hC hW q_fl_RX2_19 dX2_holds_6 ?_
    refine lv_icmp_gt (tgt := 30) hx hb dX2_holds_9 (by decide) (fun c_9_2 => ?_) (fun c_9_2 => ?_)
    · refine lv_iconst (v := 0) hx hb dX2_holds_30 (by decide) ?_
      exact r_iretz hC hr hlk hW hQ (⟨bI_f (fun h9 => Int32.not_lt.mpr h9.2.1 c_9_2), rfl⟩) (rfl) dX2_holds_31
    · refine lv_iload_n hx hb dX2_holds_12 rfl (lv_at hl 2 rfl) ?_
      refine lv_if_lt (tgt := 30) hx hb dX2_holds_13 (by decide) (fun c_13_3 => ?_) (fun c_13_3 => ?_)
      · refine lv_iconst (v := 0) hx hb dX2_holds_30 (by decide) ?_
        exact r_iretz hC hr hlk hW hQ (⟨bI_f (fun h9 => Int32.not_lt.mpr h9.2.2.1 c_13_3), rfl⟩) (rfl) dX2_holds_31
      · refine lv_iload_n hx hb dX2_holds_16 rfl (lv_at hl 2 rfl) ?_
        refine lv_aload_n hx hb dX2_holds_17 rfl (lv_at hl 0 rfl) ?_
        refine gX_R_length k hk hC hW q_fl_RX2_19 dX2_holds_18 ?_
        refine lv_iload_n hx hb dX2_holds_21 rfl (lv_at hl 1 rfl) ?_
        refine lv_isub hx hb dX2_holds_22 ?_
        refine lv_icmp_gt (tgt := 30) hx hb dX2_holds_23 (by decide) (fun c_23_4 => ?_) (fun c_23_4 => ?_)
        · refine lv_iconst (v := 0) hx hb dX2_holds_30 (by decide) ?_
          exact r_iretz hC hr hlk hW hQ (⟨bI_f (fun h9 => Int32.not_lt.mpr h9.2.2.2 c_23_4), rfl⟩) (rfl) dX2_holds_31
        · refine lv_iconst (v := 1) hx hb dX2_holds_26 (by decide) ?_
          refine lv_goto (tgt := 31) hx hb dX2_holds_27 (by decide) ?_
          exact r_iretz hC hr hlk hW hQ (⟨bI_t ⟨Int32.not_lt.mp c_1_1, Int32.not_lt.mp c_9_2, Int32.not_lt.mp c_13_3, Int32.not_lt.mp c_23_4⟩, rfl⟩) (rfl) dX2_holds_31
set_option maxRecDepth 100000 in
set_option maxHeartbeats 4000000 in
theorem m_X2_renew (l : Launch) (D : va_G) (cs : CS3) (ad : Nat → Nat) (t : St) (k : Nat) (hk : k < 4) (a n : Int32) : CT l yX2_renew cX2_renew 3 none (rmk 1 23) (wX cs ad) (tyX cs) D [.ref (ad (14 + 2 * k)), .int a, .int n] t (va_Qv (fun u => u = (va_up (va_up t.1 (5 + 2 * k) a) (6 + 2 * k) n, va_up t.2 (15 + 2 * k) (fun _ => 0)))) := by
  refine CT.of (own := RX2) (by decide) rfl (Nat.le_of_ble_eq_true rfl) ?_
  intro p9 e9 s m9 args below meth c9 A Q hC hr hlk hW hQ ls hl
  obtain ⟨hx, hb, hml, hown, hts⟩ := id hC
  have hl : lv_has ls 3 [(0, .ref (ad (14 + 2 * k))), (1, .int a), (2, .int n)] := hl
  refine lv_aload_n hx hb dX2_renew_0 rfl (lv_at hl 0 rfl) ?_
  refine lv_iload_n hx hb dX2_renew_1 rfl (lv_at hl 1 rfl) ?_
  refine pX_R_lane k hk hC hW q_fl_RX2_11 dX2_renew_2 (fun H locs hW => ?_)
  have hW : HX (wX cs ad) (tyX cs) D A s.heap s (va_up t.1 (5 + 2 * k) a, t.2) H locs := hW
  refine lv_aload_n hx hb dX2_renew_5 rfl (lv_at hl 0 rfl) ?_
  refine lv_iload_n hx hb dX2_renew_6 rfl (lv_at hl 2 rfl) ?_
  refine pX_R_length k hk hC hW q_fl_RX2_19 dX2_renew_7 (fun H locs hW => ?_)
  have hW : HX (wX cs ad) (tyX cs) D A s.heap s (va_up (va_up t.1 (5 + 2 * k) a) (6 + 2 * k) n, t.2) H locs := hW
  refine lv_aload_n hx hb dX2_renew_10 rfl (lv_at hl 0 rfl) ?_
  refine gX_R_cells k hk hC hW q_fl_RX2_15 dX2_renew_11 ?_
  refine lv_iconst (v := 0) hx hb dX2_renew_14 (by decide) ?_
  refine r_fill (q0 := 15 + 2 * k) (t0 := 0) hC hW (eX_Rc k hk) rfl ((sX_Rc k hk) _) (by decide) q_ml_RX2_22 hl.1 (Nat.le_of_ble_eq_true rfl) ⟨Nat.le_of_ble_eq_true rfl, Nat.le_of_ble_eq_true rfl⟩ dX2_renew_15 ⟨Nat.zero_le _, Nat.zero_le _⟩ (fun H locs hW => ?_)
  have hW : HX (wX cs ad) (tyX cs) D A s.heap s (va_up (va_up t.1 (5 + 2 * k) a) (6 + 2 * k) n, va_up t.2 (15 + 2 * k) (fun _ => 0)) H locs := hW
  exact r_vret hC hr hlk hW hQ (rfl) dX2_renew_18
set_option maxRecDepth 100000 in
set_option maxHeartbeats 4000000 in
theorem m_X2_lay (l : Launch) (D : va_G) (cs : CS3) (ad : Nat → Nat) (t : St) (k : Nat) (hk : k < 4) (j : Nat) (v : Int32) (hj : j < 60): CT l yX2_lay cX2_lay 3 none (rmk 0 0) (wX cs ad) (tyX cs) D [.ref (ad (14 + 2 * k)), .int (nI j), .int v] t (va_Qv (fun u => u = (t.1, va_up t.2 (15 + 2 * k) (upd (t.2 (15 + 2 * k)) j (cutF (t.1 (5 + 2 * k)) v))))) := by
  refine CT.of (own := RX2) (by decide) rfl (Nat.le_of_ble_eq_true rfl) ?_
  intro p9 e9 s m9 args below meth c9 A Q hC hr hlk hW hQ ls hl
  obtain ⟨hx, hb, hml, hown, hts⟩ := id hC
  have hl : lv_has ls 3 [(0, .ref (ad (14 + 2 * k))), (1, .int (nI j)), (2, .int v)] := hl
  refine lv_aload_n hx hb dX2_lay_0 rfl (lv_at hl 0 rfl) ?_
  refine gX_R_lane k hk hC hW q_fl_RX2_11 dX2_lay_1 ?_
  refine lv_if_ne (tgt := 18) hx hb dX2_lay_4 (by decide) (fun c_4_1 => ?_) (fun c_4_1 => ?_)
  · refine lv_aload_n hx hb dX2_lay_18 rfl (lv_at hl 0 rfl) ?_
    refine gX_R_lane k hk hC hW q_fl_RX2_11 dX2_lay_19 ?_
    refine lv_iconst (v := 1) hx hb dX2_lay_22 (by decide) ?_
    refine lv_icmp_ne (tgt := 37) hx hb dX2_lay_23 (by decide) (fun c_23_2 => ?_) (fun c_23_2 => ?_)
    · refine lv_aload_n hx hb dX2_lay_37 rfl (lv_at hl 0 rfl) ?_
      refine gX_R_cells k hk hC hW q_fl_RX2_15 dX2_lay_38 ?_
      refine lv_iload_n hx hb dX2_lay_41 rfl (lv_at hl 1 rfl) ?_
      refine lv_iload_n hx hb dX2_lay_42 rfl (lv_at hl 2 rfl) ?_
      refine r_istN (t0 := 0) (j := j) hC hW (eX_Rc k hk) rfl (rfl) (by omega) (by decide) ((sX_Rc k hk) _) dX2_lay_43 (fun H locs hW => ?_)
      have hW : HX (wX cs ad) (tyX cs) D A s.heap s (t.1, va_up t.2 (15 + 2 * k) (upd (t.2 (15 + 2 * k)) j v)) H locs := hW
      exact r_vret hC hr hlk hW hQ (by unfold cutF; rw [if_neg c_4_1, if_neg c_23_2]) dX2_lay_44
    · refine lv_aload_n hx hb dX2_lay_26 rfl (lv_at hl 0 rfl) ?_
      refine gX_R_cells k hk hC hW q_fl_RX2_15 dX2_lay_27 ?_
      refine lv_iload_n hx hb dX2_lay_30 rfl (lv_at hl 1 rfl) ?_
      refine lv_iload_n hx hb dX2_lay_31 rfl (lv_at hl 2 rfl) ?_
      refine lv_i2s (v := v.toInt16.toInt32) hx hb dX2_lay_32 rfl ?_
      refine r_istN (t0 := 0) (j := j) hC hW (eX_Rc k hk) rfl (rfl) (by omega) (by decide) ((sX_Rc k hk) _) dX2_lay_33 (fun H locs hW => ?_)
      have hW : HX (wX cs ad) (tyX cs) D A s.heap s (t.1, va_up t.2 (15 + 2 * k) (upd (t.2 (15 + 2 * k)) j v.toInt16.toInt32)) H locs := hW
      refine lv_goto (tgt := 44) hx hb dX2_lay_34 (by decide) ?_
      exact r_vret hC hr hlk hW hQ (by unfold cutF; rw [if_neg c_4_1, if_pos c_23_2]) dX2_lay_44
  · refine lv_aload_n hx hb dX2_lay_7 rfl (lv_at hl 0 rfl) ?_
    refine gX_R_cells k hk hC hW q_fl_RX2_15 dX2_lay_8 ?_
    refine lv_iload_n hx hb dX2_lay_11 rfl (lv_at hl 1 rfl) ?_
    refine lv_iload_n hx hb dX2_lay_12 rfl (lv_at hl 2 rfl) ?_
    refine lv_i2b (v := v.toInt8.toInt32) hx hb dX2_lay_13 rfl ?_
    refine r_istN (t0 := 0) (j := j) hC hW (eX_Rc k hk) rfl (rfl) (by omega) (by decide) ((sX_Rc k hk) _) dX2_lay_14 (fun H locs hW => ?_)
    have hW : HX (wX cs ad) (tyX cs) D A s.heap s (t.1, va_up t.2 (15 + 2 * k) (upd (t.2 (15 + 2 * k)) j v.toInt8.toInt32)) H locs := hW
    refine lv_goto (tgt := 44) hx hb dX2_lay_15 (by decide) ?_
    exact r_vret hC hr hlk hW hQ (by unfold cutF; rw [if_pos c_4_1]) dX2_lay_44
set_option maxRecDepth 100000 in
set_option maxHeartbeats 4000000 in
theorem m_X4_digit (l : Launch) (D : va_G) (cs : CS3) (ad : Nat → Nat) (t : St) (k : Nat) (hk : k < 4) (j : Nat) (hj : j < 60): CT l yX4_digit cX4_digit 2 (some .int) (rmk 0 0) (wX cs ad) (tyX cs) D [.ref (ad (14 + 2 * k)), .int (nI j)] t (va_Qi (fun r u => r = t.2 (15 + 2 * k) j - 48 ∧ u = t)) := by
  refine CT.of (own := RX4) (by decide) rfl (Nat.le_of_ble_eq_true rfl) ?_
  intro p9 e9 s m9 args below meth c9 A Q hC hr hlk hW hQ ls hl
  obtain ⟨hx, hb, hml, hown, hts⟩ := id hC
  have hl : lv_has ls 2 [(0, .ref (ad (14 + 2 * k))), (1, .int (nI j))] := hl
  refine lv_aload_n hx hb dX4_digit_0 rfl (lv_at hl 0 rfl) ?_
  refine gX_R_cells k hk hC hW q_fl_RX4_9 dX4_digit_1 ?_
  refine lv_iload_n hx hb dX4_digit_4 rfl (lv_at hl 1 rfl) ?_
  refine r_ildN (t0 := 0) (j := j) hC hW (eX_Rc k hk) rfl (rfl) (by omega) (by decide) dX4_digit_5 ?_
  refine lv_bipush (v := 48) hx hb dX4_digit_6 (by decide) ?_
  refine lv_isub hx hb dX4_digit_8 ?_
  exact r_ireti hC hr hlk hW hQ (⟨rfl, rfl⟩) dX4_digit_9
set_option maxRecDepth 100000 in
set_option maxHeartbeats 4000000 in
theorem m_X4_kindOf (l : Launch) (x : Int32) : PT l yX4_kindOf cX4_kindOf 1 (some .int) (rmk 0 0) [.int x] (vp_Si (fun r => r = kindF x)) := by
  refine PT.of (own := RX4) (by decide) rfl (Nat.le_of_ble_eq_true rfl) ?_
  intro p9 e9 s m9 args below meth c9 Q hC hr hlk hN hQ ls hl
  obtain ⟨hx, hb, hml, hown, hts⟩ := id hC
  have hl : lv_has ls 1 [(0, .int x)] := hl
  refine lv_iload_n hx hb dX4_kindOf_0 rfl (lv_at hl 0 rfl) ?_
  refine lv_bipush (v := 108) hx hb dX4_kindOf_1 (by decide) ?_
  refine lv_icmp_ne (tgt := 8) hx hb dX4_kindOf_3 (by decide) (fun c_3_1 => ?_) (fun c_3_1 => ?_)
  · refine lv_iload_n hx hb dX4_kindOf_8 rfl (lv_at hl 0 rfl) ?_
    refine lv_bipush (v := 110) hx hb dX4_kindOf_9 (by decide) ?_
    refine lv_icmp_ne (tgt := 18) hx hb dX4_kindOf_11 (by decide) (fun c_11_2 => ?_) (fun c_11_2 => ?_)
    · refine lv_iconst (v := 0) hx hb dX4_kindOf_18 (by decide) ?_
      exact r_pi hC hr hlk hQ (by unfold kindF; rw [if_neg c_3_1, if_neg c_11_2]) dX4_kindOf_19
    · refine lv_iconst (v := 1) hx hb dX4_kindOf_14 (by decide) ?_
      refine lv_goto (tgt := 19) hx hb dX4_kindOf_15 (by decide) ?_
      exact r_pi hC hr hlk hQ (by unfold kindF; rw [if_neg c_3_1, if_pos c_11_2]) dX4_kindOf_19
  · refine lv_iconst (v := 2) hx hb dX4_kindOf_6 (by decide) ?_
    exact r_pi hC hr hlk hQ (by unfold kindF; rw [if_pos c_3_1]) dX4_kindOf_7
set_option maxRecDepth 100000 in
set_option maxHeartbeats 4000000 in
theorem m_X4_goesOn (l : Launch) (p : Nat) (x : Int32) (P : Nat) (hp : p < 1000) (hP : P ≤ 8): PT l yX4_goesOn cX4_goesOn 4 (some .boolean) (rmk 1 22) [.int (nI p), .int x, .int (nI P)] (vp_Si (fun r => r = bI (goP p x P))) := by
  refine PT.of (own := RX4) (by decide) rfl (Nat.le_of_ble_eq_true rfl) ?_
  intro p9 e9 s m9 args below meth c9 Q hC hr hlk hN hQ ls hl
  obtain ⟨hx, hb, hml, hown, hts⟩ := id hC
  have hl : lv_has ls 4 [(0, .int (nI p)), (1, .int x), (2, .int (nI P))] := hl
  refine lv_iload_n hx hb dX4_goesOn_0 rfl (lv_at hl 0 rfl) ?_
  refine lv_if_ne (tgt := 16) hx hb dX4_goesOn_1 (by decide) (fun c_1_1 => ?_) (fun c_1_1 => ?_)
  · have c_1_1 : ¬ p = 0 := fun h => c_1_1 ((nI_eq (a := p) (b := 0) (by omega) (by omega)).mpr h)
    refine lv_iload_n hx hb dX4_goesOn_16 rfl (lv_at hl 0 rfl) ?_
    refine lv_iconst (v := 1) hx hb dX4_goesOn_17 (by decide) ?_
    refine lv_icmp_ne (tgt := 30) hx hb dX4_goesOn_18 (by decide) (fun c_18_2 => ?_) (fun c_18_2 => ?_)
    · have c_18_2 : ¬ p = 1 := fun h => c_18_2 ((nI_eq (a := p) (b := 1) (by omega) (by omega)).mpr h)
      refine lv_iload_n hx hb dX4_goesOn_30 rfl (lv_at hl 0 rfl) ?_
      refine lv_iconst (v := 2) hx hb dX4_goesOn_31 (by decide) ?_
      refine lv_isub hx hb dX4_goesOn_32 ?_
      refine lv_iload_n hx hb dX4_goesOn_33 rfl (lv_at hl 2 rfl) ?_
      refine lv_isub hx hb dX4_goesOn_34 ?_
      have hp2 : 2 ≤ p := by omega
      refine r_top (y := nI (p - 2) - nI P) (by rw [show (2 : Int32) = nI 2 from rfl, pk_sub hp2]) ?_
      refine lv_istore_n (lv' := [(3, .int (nI (p - 2) - nI P)), (0, .int (nI p)), (1, .int x), (2, .int (nI P))]) hx hb dX4_goesOn_35 rfl hl (by decide) rfl (fun ls hl => ?_)
      refine lv_iload_n hx hb dX4_goesOn_36 rfl (lv_at hl 0 rfl) ?_
      refine lv_if_ge (tgt := 49) hx hb dX4_goesOn_37 (by decide) (fun c_37_3 => ?_) (fun c_37_3 => ?_)
      · have hPp : P ≤ p - 2 := by rcases Nat.lt_or_ge (p - 2) P with q | q; exact absurd c_37_3 (Int32.not_le.mpr (pk_sneg (by omega) q)); exact q
        have eb : nI (p - 2) - nI P = nI (p - 2 - P) := pk_sub hPp
        rw [eb] at hl
        refine lv_iload_n hx hb dX4_goesOn_49 rfl (lv_at hl 0 rfl) ?_
        refine lv_bipush (v := 25) hx hb dX4_goesOn_50 (by decide) ?_
        refine lv_icmp_lt (tgt := 57) hx hb dX4_goesOn_52 (by decide) (fun c_52_4 => ?_) (fun c_52_4 => ?_)
        · have c_52_4 : p - 2 - P < 25 := (nI_ltI (a := p - 2 - P) (b := 25) (by omega) (by omega)).mp c_52_4
          refine lv_iload_n hx hb dX4_goesOn_57 rfl (lv_at hl 0 rfl) ?_
          refine lv_iconst (v := 5) hx hb dX4_goesOn_58 (by decide) ?_
          refine lv_irem hx hb dX4_goesOn_59 (by decide) ?_
          refine r_top (y := nI ((p - 2 - P) % 5)) (by exact pk_rem (a := p - 2 - P) (d := 5) (by omega) (by decide) (by decide)) ?_
          have hz : (p - 2 - P) % 5 = 0 ∨ (p - 2 - P) % 5 = 1 ∨ 2 ≤ (p - 2 - P) % 5 := by omega
          rcases hz with hz | hz | hz
          · refine lv_lookup (off := 28) (tgt := 88) hx hb dX4_goesOn_60 (by decide) (by rw [hz]; rfl) (by decide) ?_
            refine lv_iload_n hx hb dX4_goesOn_88 rfl (lv_at hl 2 rfl) ?_
            refine lv_bipush (v := 44) hx hb dX4_goesOn_89 (by decide) ?_
            refine lv_icmp_ne (tgt := 98) hx hb dX4_goesOn_91 (by decide) (fun c_91_5 => ?_) (fun c_91_5 => ?_)
            · refine lv_iconst (v := 0) hx hb dX4_goesOn_98 (by decide) ?_
              exact r_pz hC hr hlk hQ (bI_f (by show ¬ goP p x P; unfold goP; rw [if_neg (show ¬ p = 0 from c_1_1), if_neg (show ¬ p = 1 from c_18_2), if_neg (show ¬ p < 2 + P by omega), if_neg (show ¬ 27 + P ≤ p by omega), if_pos hz]; exact c_91_5)) (rfl) dX4_goesOn_99
            · refine lv_iconst (v := 1) hx hb dX4_goesOn_94 (by decide) ?_
              refine lv_goto (tgt := 99) hx hb dX4_goesOn_95 (by decide) ?_
              exact r_pz hC hr hlk hQ (bI_t (by show goP p x P; unfold goP; rw [if_neg (show ¬ p = 0 from c_1_1), if_neg (show ¬ p = 1 from c_18_2), if_neg (show ¬ p < 2 + P by omega), if_neg (show ¬ 27 + P ≤ p by omega), if_pos hz]; exact c_91_5)) (rfl) dX4_goesOn_99
          · refine lv_lookup (off := 40) (tgt := 100) hx hb dX4_goesOn_60 (by decide) (by rw [hz]; rfl) (by decide) ?_
            refine lv_iload_n hx hb dX4_goesOn_100 rfl (lv_at hl 2 rfl) ?_
            refine lv_bipush (v := 114) hx hb dX4_goesOn_101 (by decide) ?_
            refine lv_icmp_eq (tgt := 118) hx hb dX4_goesOn_103 (by decide) (fun c_103_6 => ?_) (fun c_103_6 => ?_)
            · refine lv_iconst (v := 1) hx hb dX4_goesOn_118 (by decide) ?_
              refine lv_goto (tgt := 123) hx hb dX4_goesOn_119 (by decide) ?_
              exact r_pz hC hr hlk hQ (bI_t (by show goP p x P; unfold goP; rw [if_neg (show ¬ p = 0 from c_1_1), if_neg (show ¬ p = 1 from c_18_2), if_neg (show ¬ p < 2 + P by omega), if_neg (show ¬ 27 + P ≤ p by omega), if_neg (show ¬ (p - 2 - P) % 5 = 0 by omega), if_pos hz]; exact Or.inl c_103_6)) (rfl) dX4_goesOn_123
            · refine lv_iload_n hx hb dX4_goesOn_106 rfl (lv_at hl 2 rfl) ?_
              refine lv_bipush (v := 110) hx hb dX4_goesOn_107 (by decide) ?_
              refine lv_icmp_eq (tgt := 118) hx hb dX4_goesOn_109 (by decide) (fun c_109_7 => ?_) (fun c_109_7 => ?_)
              · refine lv_iconst (v := 1) hx hb dX4_goesOn_118 (by decide) ?_
                refine lv_goto (tgt := 123) hx hb dX4_goesOn_119 (by decide) ?_
                exact r_pz hC hr hlk hQ (bI_t (by show goP p x P; unfold goP; rw [if_neg (show ¬ p = 0 from c_1_1), if_neg (show ¬ p = 1 from c_18_2), if_neg (show ¬ p < 2 + P by omega), if_neg (show ¬ 27 + P ≤ p by omega), if_neg (show ¬ (p - 2 - P) % 5 = 0 by omega), if_pos hz]; exact Or.inr (Or.inl c_109_7))) (rfl) dX4_goesOn_123
              · refine lv_iload_n hx hb dX4_goesOn_112 rfl (lv_at hl 2 rfl) ?_
                refine lv_bipush (v := 108) hx hb dX4_goesOn_113 (by decide) ?_
                refine lv_icmp_ne (tgt := 122) hx hb dX4_goesOn_115 (by decide) (fun c_115_8 => ?_) (fun c_115_8 => ?_)
                · refine lv_iconst (v := 0) hx hb dX4_goesOn_122 (by decide) ?_
                  exact r_pz hC hr hlk hQ (bI_f (by show ¬ goP p x P; unfold goP; rw [if_neg (show ¬ p = 0 from c_1_1), if_neg (show ¬ p = 1 from c_18_2), if_neg (show ¬ p < 2 + P by omega), if_neg (show ¬ 27 + P ≤ p by omega), if_neg (show ¬ (p - 2 - P) % 5 = 0 by omega), if_pos hz]; exact fun h9 => h9.elim c_103_6 (fun h9 => h9.elim c_109_7 c_115_8))) (rfl) dX4_goesOn_123
                · refine lv_iconst (v := 1) hx hb dX4_goesOn_118 (by decide) ?_
                  refine lv_goto (tgt := 123) hx hb dX4_goesOn_119 (by decide) ?_
                  exact r_pz hC hr hlk hQ (bI_t (by show goP p x P; unfold goP; rw [if_neg (show ¬ p = 0 from c_1_1), if_neg (show ¬ p = 1 from c_18_2), if_neg (show ¬ p < 2 + P by omega), if_neg (show ¬ 27 + P ≤ p by omega), if_neg (show ¬ (p - 2 - P) % 5 = 0 by omega), if_pos hz]; exact Or.inr (Or.inr c_115_8))) (rfl) dX4_goesOn_123
          · refine lv_lookup (off := 64) (tgt := 124) hx hb dX4_goesOn_60 (by decide) (by have h5 : (p - 2 - P) % 5 = 2 ∨ (p - 2 - P) % 5 = 3 ∨ (p - 2 - P) % 5 = 4 := (by omega); rcases h5 with h5 | h5 | h5 <;> rw [h5] <;> rfl) (by decide) ?_
            refine lv_iload_n hx hb dX4_goesOn_124 rfl (lv_at hl 2 rfl) ?_
            refine lv_bipush (v := 48) hx hb dX4_goesOn_125 (by decide) ?_
            refine lv_bipush (v := 57) hx hb dX4_goesOn_127 (by decide) ?_
            refine fin_pi (run_PN (rest := []) hC hN (m_X5_isIn l x 48 57) k_yX5_isIn ⟨rfl, rfl⟩ hN.2.2.2.2 rfl hl.1 rfl (Nat.le_of_ble_eq_true rfl) ⟨Nat.le_of_ble_eq_true rfl, Nat.le_of_ble_eq_true rfl⟩ dX4_goesOn_129 ⟨Nat.zero_le _, Nat.zero_le _⟩) (fun r hr9 => ?_)
            refine r_top hr9 ?_
            exact r_pz hC hr hlk hQ (bI_c (by show _ ↔ goP p x P; unfold goP; rw [if_neg (show ¬ p = 0 from c_1_1), if_neg (show ¬ p = 1 from c_18_2), if_neg (show ¬ p < 2 + P by omega), if_neg (show ¬ 27 + P ≤ p by omega), if_neg (show ¬ (p - 2 - P) % 5 = 0 by omega), if_neg (show ¬ (p - 2 - P) % 5 = 1 by omega)])) (bI_nar _) dX4_goesOn_132
        · have c_52_4 : ¬ (p - 2 - P) < 25 := fun h => c_52_4 ((nI_ltI (a := p - 2 - P) (b := 25) (by omega) (by omega)).mpr h)
          refine lv_iconst (v := 0) hx hb dX4_goesOn_55 (by decide) ?_
          exact r_pz hC hr hlk hQ (bI_f (by show ¬ goP p x P; unfold goP; rw [if_neg (show ¬ p = 0 from c_1_1), if_neg (show ¬ p = 1 from c_18_2), if_neg (show ¬ p < 2 + P by omega), if_pos (show 27 + P ≤ p by omega)]; exact fun h9 => h9)) (rfl) dX4_goesOn_56
      · have hPp : p - 2 < P := by rcases Nat.lt_or_ge (p - 2) P with q | q; exact q; exact absurd (show 0 ≤ nI (p - 2) - nI P by rw [pk_sub q]; exact nI_pos' (by omega)) c_37_3
        refine lv_iload_n hx hb dX4_goesOn_40 rfl (lv_at hl 2 rfl) ?_
        refine lv_bipush (v := 48) hx hb dX4_goesOn_41 (by decide) ?_
        refine lv_bipush (v := 57) hx hb dX4_goesOn_43 (by decide) ?_
        refine fin_pi (run_PN (rest := []) hC hN (m_X5_isIn l x 48 57) k_yX5_isIn ⟨rfl, rfl⟩ hN.2.2.2.2 rfl hl.1 rfl (Nat.le_of_ble_eq_true rfl) ⟨Nat.le_of_ble_eq_true rfl, Nat.le_of_ble_eq_true rfl⟩ dX4_goesOn_45 ⟨Nat.zero_le _, Nat.zero_le _⟩) (fun r hr9 => ?_)
        refine r_top hr9 ?_
        exact r_pz hC hr hlk hQ (bI_c (by show _ ↔ goP p x P; unfold goP; rw [if_neg (show ¬ p = 0 from c_1_1), if_neg (show ¬ p = 1 from c_18_2), if_pos (show p < 2 + P by omega)])) (bI_nar _) dX4_goesOn_48
    · have c_18_2 : p = 1 := (nI_eq (a := p) (b := 1) (by omega) (by omega)).mp c_18_2
      refine lv_iload_n hx hb dX4_goesOn_21 rfl (lv_at hl 1 rfl) ?_
      refine lv_bipush (v := 50) hx hb dX4_goesOn_22 (by decide) ?_
      refine lv_bipush (v := 56) hx hb dX4_goesOn_24 (by decide) ?_
      refine fin_pi (run_PN (rest := []) hC hN (m_X5_isIn l x 50 56) k_yX5_isIn ⟨rfl, rfl⟩ hN.2.2.2.2 rfl hl.1 rfl (Nat.le_of_ble_eq_true rfl) ⟨Nat.le_of_ble_eq_true rfl, Nat.le_of_ble_eq_true rfl⟩ dX4_goesOn_26 ⟨Nat.zero_le _, Nat.zero_le _⟩) (fun r hr9 => ?_)
      refine r_top hr9 ?_
      exact r_pz hC hr hlk hQ (bI_c (by show _ ↔ goP p x P; unfold goP; rw [if_neg (show ¬ p = 0 from c_1_1), if_pos (show p = 1 from c_18_2)])) (bI_nar _) dX4_goesOn_29
  · have c_1_1 : p = 0 := (nI_eq (a := p) (b := 0) (by omega) (by omega)).mp c_1_1
    refine lv_iload_n hx hb dX4_goesOn_4 rfl (lv_at hl 1 rfl) ?_
    refine lv_bipush (v := 97) hx hb dX4_goesOn_5 (by decide) ?_
    refine lv_icmp_ne (tgt := 14) hx hb dX4_goesOn_7 (by decide) (fun c_7_9 => ?_) (fun c_7_9 => ?_)
    · refine lv_iconst (v := 0) hx hb dX4_goesOn_14 (by decide) ?_
      exact r_pz hC hr hlk hQ (bI_f (by show ¬ goP p x P; unfold goP; rw [if_pos (show p = 0 from c_1_1)]; exact c_7_9)) (rfl) dX4_goesOn_15
    · refine lv_iconst (v := 1) hx hb dX4_goesOn_10 (by decide) ?_
      refine lv_goto (tgt := 15) hx hb dX4_goesOn_11 (by decide) ?_
      exact r_pz hC hr hlk hQ (bI_t (by show goP p x P; unfold goP; rw [if_pos (show p = 0 from c_1_1)]; exact c_7_9)) (rfl) dX4_goesOn_15
