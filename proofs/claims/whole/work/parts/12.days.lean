set_option maxRecDepth 100000 in
set_option maxHeartbeats 4000000 in
theorem m_X5_readSteps (l : Launch) (D : va_G) (cs : CS3) (ad : Nat → Nat) (t : St) (P R : Nat) (x a i n b : Int32) (hP : t.1 2 = nI P) (hP8 : P ≤ 8) (hR : t.1 3 = nI R) (hR5 : R ≤ 5) (hlen : lenOk t) (hb30 : ¬ b = 0 → 0 ≤ n ∧ n ≤ 30): CT l yX5_readSteps cX5_readSteps 9 (some .int) (rmk 2 45) (wX cs ad) (tyX cs) D [.ref (ad 0), .int x, .int a, .int i, .int n, .int b] t (va_Qi (fun r u => r = (rsF t P R x a i n b).1 ∧ u.1 = va_up t.1 1 (rsF t P R x a i n b).2 ∧ (∀ k, k ≠ 12 → u.2 k = t.2 k) ∧ (r = 0 → ∀ z, z < n.toNatClampNeg → u.2 12 z = t.2 (15 + 2 * x.toNatClampNeg) (i.toNatClampNeg + z)))) := by
  refine CT.of (own := RX5) (by decide) rfl (Nat.le_of_ble_eq_true rfl) ?_
  intro p9 e9 s m9 args below meth c9 A Q hC hr hlk hW hQ ls hl
  obtain ⟨hx, hb, hml, hown, hts⟩ := id hC
  have hl : lv_has ls 9 [(0, .ref (ad 0)), (1, .int x), (2, .int a), (3, .int i), (4, .int n), (5, .int b)] := hl
  refine lv_aload_n hx hb dX5_readSteps_0 rfl (lv_at hl 0 rfl) ?_
  refine lv_iconst (v := 0) hx hb dX5_readSteps_1 (by decide) ?_
  refine pX_G_fault hC hW q_fl_RX5_48 dX5_readSteps_2 (fun H locs hW => ?_)
  have hW : HX (wX cs ad) (tyX cs) D A s.heap s (va_up t.1 1 0, t.2) H locs := hW
  refine lv_iload_n hx hb dX5_readSteps_5 rfl (lv_at hl 1 rfl) ?_
  refine fin_pi (run_P (rest := []) hC hW.2.2.2.2.2 (m_X5_isSheet l x) k_yX5_isSheet ⟨rfl, rfl⟩ q_ml_RX5_52 rfl hl.1 rfl (Nat.le_of_ble_eq_true rfl) ⟨Nat.le_of_ble_eq_true rfl, Nat.le_of_ble_eq_true rfl⟩ dX5_readSteps_6 ⟨Nat.zero_le _, Nat.zero_le _⟩) (fun r hr9 => ?_)
  refine r_top hr9 ?_
  refine lv_if_ne (tgt := 14) hx hb dX5_readSteps_9 (by decide) (fun c_9_1 => ?_) (fun c_9_1 => ?_)
  · have c_9_1 := bI_nz c_9_1
    obtain ⟨k, hk3, rfl⟩ := rng_ex (M := 3) (n := 3) (by decide) c_9_1
    refine lv_iload_n hx hb dX5_readSteps_14 rfl (lv_at hl 2 rfl) ?_
    refine fin_pi (run_P (rest := []) hC hW.2.2.2.2.2 (m_X5_isLane l a) k_yX5_isLane ⟨rfl, rfl⟩ q_ml_RX5_56 rfl hl.1 rfl (Nat.le_of_ble_eq_true rfl) ⟨Nat.le_of_ble_eq_true rfl, Nat.le_of_ble_eq_true rfl⟩ dX5_readSteps_15 ⟨Nat.zero_le _, Nat.zero_le _⟩) (fun r hr9 => ?_)
    refine r_top hr9 ?_
    refine lv_if_eq (tgt := 26) hx hb dX5_readSteps_18 (by decide) (fun c_18_2 => ?_) (fun c_18_2 => ?_)
    · have c_18_2 := bI_z.mp c_18_2
      refine lv_bipush (v := (-2)) hx hb dX5_readSteps_26 (by decide) ?_
      have hxk : 0 ≤ nI k ∧ nI k ≤ 3 := c_9_1
      have hF : rsF t P R (nI k) a i n b = (-2, 0) := by unfold rsF; rw [if_neg (not_not_intro hxk), if_pos c_18_2]
      exact r_ireti hC hr hlk hW hQ (⟨by rw [hF], by rw [hF] <;> rfl, fun _ _ => rfl, fun h9 => absurd h9 (by decide)⟩) dX5_readSteps_28
    · have c_18_2 := bI_nz c_18_2
      refine lv_iload hx hb dX5_readSteps_21 (lv_at hl 5 rfl) ?_
      refine lv_if_ne (tgt := 29) hx hb dX5_readSteps_23 (by decide) (fun c_23_3 => ?_) (fun c_23_3 => ?_)
      · refine lv_aload_n hx hb dX5_readSteps_29 rfl (lv_at hl 0 rfl) ?_
        refine gX_G_sheets hC hW q_fl_RX5_27 dX5_readSteps_30 ?_
        refine lv_iload_n hx hb dX5_readSteps_33 rfl (lv_at hl 1 rfl) ?_
        refine r_aldN (t0 := 1) (j := k) hC hW eX_10 rfl rfl (by omega) (by decide) rfl dX5_readSteps_34 ?_
        refine lv_iload_n hx hb dX5_readSteps_35 rfl (lv_at hl 2 rfl) ?_
        refine lv_iload_n hx hb dX5_readSteps_36 rfl (lv_at hl 3 rfl) ?_
        refine lv_iload hx hb dX5_readSteps_37 (lv_at hl 4 rfl) ?_
        refine fin_i (run_S (rest := []) hC hW (m_X5_faultOfCells l D cs ad (va_up t.1 1 0, t.2) k (by omega) a i n) k_yX5_faultOfCells ⟨rfl, rfl⟩ q_ml_RX5_59 rfl hl.1 rfl (Nat.le_of_ble_eq_true rfl) ⟨Nat.le_of_ble_eq_true rfl, Nat.le_of_ble_eq_true rfl⟩ dX5_readSteps_39 ⟨Nat.zero_le _, Nat.zero_le _⟩) hW (fun r4 u4 H locs hp4 hW => ?_)
        have hW := hx_congr hW hp4.2
        refine r_top hp4.1 ?_
        refine r_top (y := focF (t.1 (5 + 2 * k)) (t.1 (6 + 2 * k)) a i n) (by simp (disch := omega) only [va_up_ne]) ?_
        refine lv_istore (lv' := [(6, .int (focF (t.1 (5 + 2 * k)) (t.1 (6 + 2 * k)) a i n)), (0, .ref (ad 0)), (1, .int (nI k)), (2, .int a), (3, .int i), (4, .int n), (5, .int b)]) hx hb dX5_readSteps_42 hl (by decide) rfl (fun ls hl => ?_)
        refine lv_iload hx hb dX5_readSteps_44 (lv_at hl 0 rfl) ?_
        refine lv_if_eq (tgt := 56) hx hb dX5_readSteps_46 (by decide) (fun c_46_5 => ?_) (fun c_46_5 => ?_)
        · obtain ⟨z0, hz0, ez0⟩ := hlen k (by omega)
          obtain ⟨i0, n0, rfl, rfl, hi1, hi2, hi3⟩ := foc_ex hz0 (by rw [← ez0]; exact c_46_5)
          refine lv_aload_n hx hb dX5_readSteps_56 rfl (lv_at hl 1 rfl) ?_
          refine gX_G_slope hC hW q_fl_RX5_12 dX5_readSteps_57 ?_
          refine gX_S_paces hC hW q_fl_RX5_137 dX5_readSteps_60 ?_
          refine r_top (y := nI P) hP ?_
          refine lv_if_ne (tgt := 69) hx hb dX5_readSteps_63 (by decide) (fun c_63_6 => ?_) (fun c_63_6 => ?_)
          · have c_63_6 : ¬ P = 0 := fun h => c_63_6 ((nI_eq (a := P) (b := 0) (by omega) (by omega)).mpr h)
            refine lv_iconst (v := 0) hx hb dX5_readSteps_69 (by decide) ?_
            refine lv_istore (lv' := [(7, .int 0), (6, .int (focF (t.1 (5 + 2 * k)) (t.1 (6 + 2 * k)) a (nI i0) (nI n0))), (0, .ref (ad 0)), (1, .int (nI k)), (2, .int a), (3, .int (nI i0)), (4, .int (nI n0)), (5, .int b)]) hx hb dX5_readSteps_70 hl (by decide) rfl (fun ls hl => ?_)
            have loop_72_7 : ∀ (f9 : Nat) (z : Nat) (u : St), (z ≤ n0) → (u.1 = va_up t.1 1 0) → (∀ k, k ≠ 12 → u.2 k = t.2 k) → (∀ j, j < z → u.2 12 j = t.2 (15 + 2 * k) (i0 + j)) → (stOk R (t.2 (15 + 2 * k)) i0 z) → n0 - z < f9 → ∀ (H : Heap) (locs : List Loc), HX (wX cs ad) (tyX cs) D A s.heap s u H locs → ∀ ls : Array Slot, lv_has ls 9 [(7, .int (nI z)), (0, .ref (ad 0)), (1, .int (nI k)), (3, .int (nI i0)), (4, .int (nI n0))] → W p9 l e9 (rmk 2 45) s m9 args below meth c9 H locs 0 0 Q (F0 m9 72 ls []) := by
              intro f_72
              induction f_72 with
              | zero => intro z u hz hg1 hg2 hs ho hm_72 H locs hW ls hl; exact absurd hm_72 (Nat.not_lt_zero _)
              | succ f_72 ih_72 =>
                intro z u hz hg1 hg2 hs ho hm_72 H locs hW ls hl
                refine lv_iload hx hb dX5_readSteps_72 (lv_at hl 0 rfl) ?_
                refine lv_iload hx hb dX5_readSteps_74 (lv_at hl 4 rfl) ?_
                refine lv_icmp_ge (tgt := 134) hx hb dX5_readSteps_76 (by decide) (fun c_76_8 => ?_) (fun c_76_8 => ?_)
                · have c_76_8 : n0 ≤ z := (nI_leI (a := n0) (b := z) (by omega) (by omega)).mp c_76_8
                  refine lv_iconst (v := 0) hx hb dX5_readSteps_134 (by decide) ?_
                  have hxk : 0 ≤ nI k ∧ nI k ≤ 3 := c_9_1
                  have hF : rsF t P R (nI k) a (nI i0) (nI n0) b = (0, 0) := by unfold rsF; rw [if_neg (not_not_intro hxk), if_neg (not_not_intro c_18_2), if_neg c_23_3, nI_clamp (show k < 2 ^ 31 by omega), if_neg (not_not_intro c_46_5), if_neg c_63_6, nI_clamp (show i0 < 2 ^ 31 by omega), nI_clamp (show n0 < 2 ^ 31 by omega), if_pos (show stOk R (t.2 (15 + 2 * k)) i0 n0 from by have : z = n0 := (by omega); subst this; exact ho)]
                  exact r_ireti hC hr hlk hW hQ (⟨by rw [hF], by rw [hF]; exact hg1, hg2, fun _ z9 hz9 => by rw [nI_clamp (by omega)] at hz9; rw [nI_clamp (by omega), nI_clamp (by omega)]; exact hs z9 (by omega)⟩) dX5_readSteps_135
                · have c_76_8 : ¬ n0 ≤ z := fun h => c_76_8 ((nI_leI (a := n0) (b := z) (by omega) (by omega)).mpr h)
                  refine lv_iload hx hb dX5_readSteps_79 (lv_at hl 0 rfl) ?_
                  refine lv_bipush (v := 30) hx hb dX5_readSteps_81 (by decide) ?_
                  refine lv_icmp_ge (tgt := 134) hx hb dX5_readSteps_83 (by decide) (fun c_83_9 => ?_) (fun c_83_9 => ?_)
                  · have c_83_9 : 30 ≤ z := (nI_leI (a := 30) (b := z) (by omega) (by omega)).mp c_83_9
                    have h30 := (nI_leI (a := n0) (b := 30) (by omega) (by omega)).mp (hb30 c_23_3).2
                    exfalso; omega
                  · have c_83_9 : ¬ 30 ≤ z := fun h => c_83_9 ((nI_leI (a := 30) (b := z) (by omega) (by omega)).mpr h)
                    refine lv_aload_n hx hb dX5_readSteps_86 rfl (lv_at hl 1 rfl) ?_
                    refine gX_G_sheets hC hW q_fl_RX5_27 dX5_readSteps_87 ?_
                    refine lv_iload_n hx hb dX5_readSteps_90 rfl (lv_at hl 2 rfl) ?_
                    refine r_aldN (t0 := 1) (j := k) hC hW eX_10 rfl rfl (by omega) (by decide) rfl dX5_readSteps_91 ?_
                    refine gX_R_cells k (by omega) hC hW q_fl_RX5_207 dX5_readSteps_92 ?_
                    refine lv_iload_n hx hb dX5_readSteps_95 rfl (lv_at hl 3 rfl) ?_
                    refine lv_iload hx hb dX5_readSteps_96 (lv_at hl 0 rfl) ?_
                    refine lv_iadd hx hb dX5_readSteps_98 ?_
                    refine r_top (y := nI (i0 + z)) (nI_add i0 z) ?_
                    refine r_ildN (t0 := 0) (j := i0 + z) hC hW (eX_Rc k (by omega)) rfl (rfl) (by omega) (by decide) dX5_readSteps_99 ?_
                    refine r_top (y := t.2 (15 + 2 * k) (i0 + z)) (congrFun (hg2 (15 + 2 * k) (by omega)) (i0 + z)) ?_
                    refine lv_istore (lv' := [(8, .int (t.2 (15 + 2 * k) (i0 + z))), (7, .int (nI z)), (0, .ref (ad 0)), (1, .int (nI k)), (3, .int (nI i0)), (4, .int (nI n0))]) hx hb dX5_readSteps_100 hl (by decide) rfl (fun ls hl => ?_)
                    refine lv_iload hx hb dX5_readSteps_102 (lv_at hl 0 rfl) ?_
                    refine lv_iconst (v := 5) hx hb dX5_readSteps_104 (by decide) ?_
                    refine lv_icmp_eq (tgt := 119) hx hb dX5_readSteps_105 (by decide) (fun c_105_10 => ?_) (fun c_105_10 => ?_)
                    · refine lv_aload_n hx hb dX5_readSteps_119 rfl (lv_at hl 2 rfl) ?_
                      refine gX_G_steps hC hW q_fl_RX5_41 dX5_readSteps_120 ?_
                      refine lv_iload hx hb dX5_readSteps_123 (lv_at hl 1 rfl) ?_
                      refine lv_iload hx hb dX5_readSteps_125 (lv_at hl 0 rfl) ?_
                      refine r_istN (t0 := 0) (j := z) hC hW eX_12 rfl (rfl) (by omega) (by decide) (sX_12 _) dX5_readSteps_127 (fun H locs hW => ?_)
                      have hW : HX (wX cs ad) (tyX cs) D A s.heap s (u.1, va_up u.2 12 (upd (u.2 12) z (t.2 (15 + 2 * k) (i0 + z)))) H locs := hW
                      refine lv_iinc (v := nI (z + 1)) (lv' := [(7, .int (nI (z + 1))), (8, .int (t.2 (15 + 2 * k) (i0 + z))), (0, .ref (ad 0)), (1, .int (nI k)), (3, .int (nI i0)), (4, .int (nI n0))]) hx hb dX5_readSteps_128 hl (k := 1) rfl (nI_1 _) (by decide) rfl (fun ls hl => ?_)
                      refine lv_goto (tgt := 72) hx hb dX5_readSteps_131 (by decide) ?_
                      exact ih_72 (z + 1) (u.1, va_up u.2 12 (upd (u.2 12) z (t.2 (15 + 2 * k) (i0 + z)))) (by omega) (hg1) (fun k h => (va_up_ne _ _ h).trans (hg2 k h)) (fun j hj => by show va_up u.2 12 (upd (u.2 12) z _) 12 j = _; rw [va_up_self]; by_cases h9 : j = z; rw [h9]; exact pk_us; rw [pk_un h9]; exact hs j (by omega)) (fun j hj => by rcases Nat.lt_succ_iff_lt_or_eq.mp hj with h9 | h9; exact ho j h9; subst h9; exact Or.inl c_105_10) (by omega) _ _ hW ls (lv_sub hl [0, 2, 3, 4, 5] rfl)
                    · refine lv_aload_n hx hb dX5_readSteps_108 rfl (lv_at hl 2 rfl) ?_
                      refine lv_iload hx hb dX5_readSteps_109 (lv_at hl 0 rfl) ?_
                      refine fin_i (run_V (rest := []) hC hW (m_X5_isRider l D cs ad u R (t.2 (15 + 2 * k) (i0 + z)) ((congrFun hg1 3).trans hR) hR5) k_yX5_isRider ⟨rfl, rfl⟩ q_ml_RX5_96 eX_0 rfl rfl hl.1 rfl (Nat.le_of_ble_eq_true rfl) ⟨Nat.le_of_ble_eq_true rfl, Nat.le_of_ble_eq_true rfl⟩ dX5_readSteps_111 ⟨Nat.zero_le _, Nat.zero_le _⟩) hW (fun r11 u11 H locs hp11 hW => ?_)
                      have hW := hx_congr hW hp11.2
                      refine r_top hp11.1 ?_
                      refine lv_if_ne (tgt := 119) hx hb dX5_readSteps_114 (by decide) (fun c_114_12 => ?_) (fun c_114_12 => ?_)
                      · have c_114_12 := bI_nz c_114_12
                        refine lv_aload_n hx hb dX5_readSteps_119 rfl (lv_at hl 2 rfl) ?_
                        refine gX_G_steps hC hW q_fl_RX5_41 dX5_readSteps_120 ?_
                        refine lv_iload hx hb dX5_readSteps_123 (lv_at hl 1 rfl) ?_
                        refine lv_iload hx hb dX5_readSteps_125 (lv_at hl 0 rfl) ?_
                        refine r_istN (t0 := 0) (j := z) hC hW eX_12 rfl (rfl) (by omega) (by decide) (sX_12 _) dX5_readSteps_127 (fun H locs hW => ?_)
                        have hW : HX (wX cs ad) (tyX cs) D A s.heap s (u.1, va_up u.2 12 (upd (u.2 12) z (t.2 (15 + 2 * k) (i0 + z)))) H locs := hW
                        refine lv_iinc (v := nI (z + 1)) (lv' := [(7, .int (nI (z + 1))), (8, .int (t.2 (15 + 2 * k) (i0 + z))), (0, .ref (ad 0)), (1, .int (nI k)), (3, .int (nI i0)), (4, .int (nI n0))]) hx hb dX5_readSteps_128 hl (k := 1) rfl (nI_1 _) (by decide) rfl (fun ls hl => ?_)
                        refine lv_goto (tgt := 72) hx hb dX5_readSteps_131 (by decide) ?_
                        exact ih_72 (z + 1) (u.1, va_up u.2 12 (upd (u.2 12) z (t.2 (15 + 2 * k) (i0 + z)))) (by omega) (hg1) (fun k h => (va_up_ne _ _ h).trans (hg2 k h)) (fun j hj => by show va_up u.2 12 (upd (u.2 12) z _) 12 j = _; rw [va_up_self]; by_cases h9 : j = z; rw [h9]; exact pk_us; rw [pk_un h9]; exact hs j (by omega)) (fun j hj => by rcases Nat.lt_succ_iff_lt_or_eq.mp hj with h9 | h9; exact ho j h9; subst h9; exact Or.inr c_114_12) (by omega) _ _ hW ls (lv_sub hl [0, 2, 3, 4, 5] rfl)
                      · have c_114_12 := bI_z.mp c_114_12
                        refine lv_iconst (v := (-1)) hx hb dX5_readSteps_117 (by decide) ?_
                        have hxk : 0 ≤ nI k ∧ nI k ≤ 3 := c_9_1
                        have hF : rsF t P R (nI k) a (nI i0) (nI n0) b = (-1, 0) := by unfold rsF; rw [if_neg (not_not_intro hxk), if_neg (not_not_intro c_18_2), if_neg c_23_3, nI_clamp (show k < 2 ^ 31 by omega), if_neg (not_not_intro c_46_5), if_neg c_63_6, nI_clamp (show i0 < 2 ^ 31 by omega), nI_clamp (show n0 < 2 ^ 31 by omega), if_neg (fun h9 => (h9 z (by omega)).elim c_105_10 c_114_12)]
                        exact r_ireti hC hr hlk hW hQ (⟨by rw [hF], by rw [hF]; exact hg1, hg2, fun h9 => absurd h9 (by decide)⟩) dX5_readSteps_118
            exact loop_72_7 _ 0 (va_up t.1 1 0, t.2) (Nat.zero_le _) (rfl) (fun _ _ => rfl) (fun j h => absurd h (by omega)) (fun j h => absurd h (by omega)) (Nat.lt_succ_self _) _ _ hW ls (lv_sub hl [0, 2, 3, 5, 6] rfl)
          · have c_63_6 : P = 0 := (nI_eq (a := P) (b := 0) (by omega) (by omega)).mp c_63_6
            refine lv_bipush (v := (-3)) hx hb dX5_readSteps_66 (by decide) ?_
            have hxk : 0 ≤ nI k ∧ nI k ≤ 3 := c_9_1
            have hF : rsF t P R (nI k) a (nI i0) (nI n0) b = (-3, 0) := by unfold rsF; rw [if_neg (not_not_intro hxk), if_neg (not_not_intro c_18_2), if_neg c_23_3, nI_clamp (show k < 2 ^ 31 by omega), if_neg (not_not_intro c_46_5), if_pos c_63_6]
            exact r_ireti hC hr hlk hW hQ (⟨by rw [hF], by rw [hF] <;> rfl, fun _ _ => rfl, fun h9 => absurd h9 (by decide)⟩) dX5_readSteps_68
        · refine lv_aload_n hx hb dX5_readSteps_49 rfl (lv_at hl 1 rfl) ?_
          refine lv_iload hx hb dX5_readSteps_50 (lv_at hl 0 rfl) ?_
          refine fin_i (run_V (rest := []) hC hW (m_X5_meet l D cs ad (va_up t.1 1 0, t.2) (focF (t.1 (5 + 2 * k)) (t.1 (6 + 2 * k)) a i n)) k_yX5_meet ⟨rfl, rfl⟩ q_ml_RX5_63 eX_0 rfl rfl hl.1 rfl (Nat.le_of_ble_eq_true rfl) ⟨Nat.le_of_ble_eq_true rfl, Nat.le_of_ble_eq_true rfl⟩ dX5_readSteps_52 ⟨Nat.zero_le _, Nat.zero_le _⟩) hW (fun r13 u13 H locs hp13 hW => ?_)
          have hW : HX (wX cs ad) (tyX cs) D A s.heap s (va_up t.1 1 (focF (t.1 (5 + 2 * k)) (t.1 (6 + 2 * k)) a i n), t.2) H locs := hx_congr hW (hp13.2.trans (by first | rfl | (simp only [va_upup]; done) | (refine Prod.ext (funext fun k => ?_) (funext fun k => ?_) <;> simp only [va_up] <;> (repeat' split) <;> first | rfl | omega | simp_all)))
          refine r_top hp13.1 ?_
          have hxk : 0 ≤ nI k ∧ nI k ≤ 3 := c_9_1
          have hF : rsF t P R (nI k) a i n b = ((-10) - focF (t.1 (5 + 2 * k)) (t.1 (6 + 2 * k)) a i n, focF (t.1 (5 + 2 * k)) (t.1 (6 + 2 * k)) a i n) := by unfold rsF; rw [if_neg (not_not_intro hxk), if_neg (not_not_intro c_18_2), if_neg c_23_3, nI_clamp (show k < 2 ^ 31 by omega), if_pos c_46_5]
          exact r_ireti hC hr hlk hW hQ (⟨by rw [hF], by rw [hF] <;> rfl, fun _ _ => rfl, fun h9 => by rcases foc_r (t.1 (5 + 2 * k)) (t.1 (6 + 2 * k)) a i n with e | e | e | e | e <;> rw [e] at h9 <;> first | exact absurd e c_46_5 | exact absurd h9 (by decide)⟩) dX5_readSteps_55
      · refine lv_bipush (v := (-2)) hx hb dX5_readSteps_26 (by decide) ?_
        have hxk : 0 ≤ nI k ∧ nI k ≤ 3 := c_9_1
        have hF : rsF t P R (nI k) a i n b = (-2, 0) := by unfold rsF; rw [if_neg (not_not_intro hxk), if_neg (not_not_intro c_18_2), if_pos c_23_3]
        exact r_ireti hC hr hlk hW hQ (⟨by rw [hF], by rw [hF] <;> rfl, fun _ _ => rfl, fun h9 => absurd h9 (by decide)⟩) dX5_readSteps_28
  · have c_9_1 := bI_z.mp c_9_1
    refine lv_iconst (v := (-1)) hx hb dX5_readSteps_12 (by decide) ?_
    have hF : rsF t P R x a i n b = (-1, 0) := by unfold rsF; rw [if_pos c_9_1]
    exact r_ireti hC hr hlk hW hQ (⟨by rw [hF], by rw [hF] <;> rfl, fun _ _ => rfl, fun h9 => absurd h9 (by decide)⟩) dX5_readSteps_13
set_option maxRecDepth 100000 in
set_option maxHeartbeats 4000000 in
theorem m_X5_firstWrong (l : Launch) (D : va_G) (cs : CS3) (ad : Nat → Nat) (t : St) (P R : Nat) (stp : Nat → Nat) (n : Nat) (hP : t.1 2 = nI P) (hP8 : P ≤ 8) (hR : t.1 3 = nI R) (hR5 : R ≤ 5) (hn : n ≤ 30) (hs : ∀ z, z < n → t.2 12 z = nI (stp z) ∧ (stp z = 5 ∨ stp z < R)): CT l yX5_firstWrong cX5_firstWrong 4 (some .int) (rmk 3 120) (wX cs ad) (tyX cs) D [.ref (ad 0), .int (nI n)] t (va_Qi (fun r u => r = (fw (hX P t) stp n 0 (beg t)).1 ∧ agrC 0 t u ∧ cv u 0 = (fw (hX P t) stp n 0 (beg t)).2)) := by
  refine CT.of (own := RX5) (by decide) rfl (Nat.le_of_ble_eq_true rfl) ?_
  intro p9 e9 s m9 args below meth c9 A Q hC hr hlk hW hQ ls hl
  obtain ⟨hx, hb, hml, hown, hts⟩ := id hC
  have hl : lv_has ls 4 [(0, .ref (ad 0)), (1, .int (nI n))] := hl
  refine lv_aload_n hx hb dX5_firstWrong_0 rfl (lv_at hl 0 rfl) ?_
  refine gX_G_climbs hC hW q_fl_RX5_34 dX5_firstWrong_1 ?_
  refine lv_iconst (v := 0) hx hb dX5_firstWrong_4 (by decide) ?_
  refine r_aldN (t0 := 2) (j := 0) hC hW eX_11 rfl rfl (by omega) (by decide) rfl dX5_firstWrong_5 ?_
  refine lv_astore_n (lv' := [(2, .ref (ad (22 + 4 * 0))), (0, .ref (ad 0)), (1, .int (nI n))]) hx hb dX5_firstWrong_6 rfl hl (by decide) rfl (fun ls hl => ?_)
  refine lv_aload_n hx hb dX5_firstWrong_7 rfl (lv_at hl 0 rfl) ?_
  refine fin_v (run_V (rest := []) hC hW (m_X0_begin l D cs ad t 0 (by omega)) k_yX0_begin ⟨rfl, rfl⟩ q_ml_RX5_149 (eX_C 0 (by omega)) rfl rfl hl.1 rfl (Nat.le_of_ble_eq_true rfl) ⟨Nat.le_of_ble_eq_true rfl, Nat.le_of_ble_eq_true rfl⟩ dX5_firstWrong_8 ⟨Nat.zero_le _, Nat.zero_le _⟩) hW (fun u1 H locs hp1 hW => ?_)
  obtain ⟨hgu1, heu1⟩ := hp1
  refine lv_iconst (v := 0) hx hb dX5_firstWrong_11 (by decide) ?_
  refine lv_istore_n (lv' := [(3, .int 0), (2, .ref (ad (22 + 4 * 0))), (0, .ref (ad 0)), (1, .int (nI n))]) hx hb dX5_firstWrong_12 rfl hl (by decide) rfl (fun ls hl => ?_)
  have loop_13_2 : ∀ (f9 : Nat) (k : Nat) (c : Cl) (u : St), (k ≤ n) → (agrC 0 t u) → (cv u 0 = c) → (fw (hX P t) stp (n - k) k c = fw (hX P t) stp n 0 (beg t)) → n - k < f9 → ∀ (H : Heap) (locs : List Loc), HX (wX cs ad) (tyX cs) D A s.heap s u H locs → ∀ ls : Array Slot, lv_has ls 4 [(3, .int (nI k)), (2, .ref (ad (22 + 4 * 0))), (0, .ref (ad 0)), (1, .int (nI n))] → W p9 l e9 (rmk 3 120) s m9 args below meth c9 H locs 0 0 Q (F0 m9 13 ls []) := by
    intro f_13
    induction f_13 with
    | zero => intro k c u hk hg hc hE hm_13 H locs hW ls hl; exact absurd hm_13 (Nat.not_lt_zero _)
    | succ f_13 ih_13 =>
      intro k c u hk hg hc hE hm_13 H locs hW ls hl
      refine lv_iload_n hx hb dX5_firstWrong_13 rfl (lv_at hl 0 rfl) ?_
      refine lv_iload_n hx hb dX5_firstWrong_14 rfl (lv_at hl 3 rfl) ?_
      refine lv_icmp_ge (tgt := 72) hx hb dX5_firstWrong_15 (by decide) (fun c_15_3 => ?_) (fun c_15_3 => ?_)
      · have c_15_3 : n ≤ k := (nI_leI (a := n) (b := k) (by omega) (by omega)).mp c_15_3
        refine lv_bipush (v := (-9)) hx hb dX5_firstWrong_72 (by decide) ?_
        have hF : fw (hX P t) stp n 0 (beg t) = (-9, c) := by rw [← hE, show n - k = 0 by omega]; rfl
        exact r_ireti hC hr hlk hW hQ (⟨by rw [hF], hg, by rw [hF]; exact hc⟩) dX5_firstWrong_74
      · have c_15_3 : ¬ n ≤ k := fun h => c_15_3 ((nI_leI (a := n) (b := k) (by omega) (by omega)).mpr h)
        have hsk := (hs k (by omega)).2
        refine lv_iload_n hx hb dX5_firstWrong_18 rfl (lv_at hl 0 rfl) ?_
        refine lv_bipush (v := 30) hx hb dX5_firstWrong_19 (by decide) ?_
        refine lv_icmp_ge (tgt := 72) hx hb dX5_firstWrong_21 (by decide) (fun c_21_4 => ?_) (fun c_21_4 => ?_)
        · have c_21_4 : 30 ≤ k := (nI_leI (a := 30) (b := k) (by omega) (by omega)).mp c_21_4
          exfalso; omega
        · have c_21_4 : ¬ 30 ≤ k := fun h => c_21_4 ((nI_leI (a := 30) (b := k) (by omega) (by omega)).mpr h)
          refine lv_aload_n hx hb dX5_firstWrong_24 rfl (lv_at hl 2 rfl) ?_
          refine gX_G_steps hC hW q_fl_RX5_41 dX5_firstWrong_25 ?_
          refine lv_iload_n hx hb dX5_firstWrong_28 rfl (lv_at hl 0 rfl) ?_
          refine r_ildN (t0 := 0) (j := k) hC hW eX_12 rfl (rfl) (by omega) (by decide) dX5_firstWrong_29 ?_
          refine r_top (y := nI (stp k)) ((congrFun (hg.2 12 (by omega) (by omega) (by omega)) k).trans (hs k (by omega)).1) ?_
          refine lv_iconst (v := 5) hx hb dX5_firstWrong_30 (by decide) ?_
          refine lv_icmp_ne (tgt := 41) hx hb dX5_firstWrong_31 (by decide) (fun c_31_5 => ?_) (fun c_31_5 => ?_)
          · have c_31_5 : ¬ (stp k) = 5 := fun h => c_31_5 ((nI_eq (a := stp k) (b := 5) (by omega) (by omega)).mpr h)
            refine lv_aload_n hx hb dX5_firstWrong_41 rfl (lv_at hl 1 rfl) ?_
            refine lv_aload_n hx hb dX5_firstWrong_42 rfl (lv_at hl 2 rfl) ?_
            refine gX_G_steps hC hW q_fl_RX5_41 dX5_firstWrong_43 ?_
            refine lv_iload_n hx hb dX5_firstWrong_46 rfl (lv_at hl 0 rfl) ?_
            refine r_ildN (t0 := 0) (j := k) hC hW eX_12 rfl (rfl) (by omega) (by decide) dX5_firstWrong_47 ?_
            refine r_top (y := nI (stp k)) ((congrFun (hg.2 12 (by omega) (by omega) (by omega)) k).trans (hs k (by omega)).1) ?_
            refine fin_i (run_V (rest := []) hC hW (m_X0_isUp l D cs ad u 0 (by omega) (stp k)) k_yX0_isUp ⟨rfl, rfl⟩ q_ml_RX5_238 (eX_C 0 (by omega)) rfl rfl hl.1 rfl (Nat.le_of_ble_eq_true rfl) ⟨Nat.le_of_ble_eq_true rfl, Nat.le_of_ble_eq_true rfl⟩ dX5_firstWrong_48 ⟨Nat.zero_le _, Nat.zero_le _⟩) hW (fun r6 u6 H locs hp6 hW => ?_)
            have hW := hx_congr hW hp6.2
            refine r_top hp6.1 ?_
            refine lv_if_eq (tgt := 56) hx hb dX5_firstWrong_51 (by decide) (fun c_51_7 => ?_) (fun c_51_7 => ?_)
            · have c_51_7 := bI_z.mp c_51_7
              refine lv_aload_n hx hb dX5_firstWrong_56 rfl (lv_at hl 1 rfl) ?_
              refine lv_aload_n hx hb dX5_firstWrong_57 rfl (lv_at hl 2 rfl) ?_
              refine gX_G_steps hC hW q_fl_RX5_41 dX5_firstWrong_58 ?_
              refine lv_iload_n hx hb dX5_firstWrong_61 rfl (lv_at hl 0 rfl) ?_
              refine r_ildN (t0 := 0) (j := k) hC hW eX_12 rfl (rfl) (by omega) (by decide) dX5_firstWrong_62 ?_
              refine r_top (y := nI (stp k)) ((congrFun (hg.2 12 (by omega) (by omega) (by omega)) k).trans (hs k (by omega)).1) ?_
              refine fin_v (run_V (rest := []) hC hW (m_X0_attempt l D cs ad u 0 (by omega) P R (stp k) ((hg.1 2 (by omega)).trans hP) (by omega) (by omega) (by omega)) k_yX0_attempt ⟨rfl, rfl⟩ q_ml_RX5_241 (eX_C 0 (by omega)) rfl rfl hl.1 rfl (Nat.le_of_ble_eq_true rfl) ⟨Nat.le_of_ble_eq_true rfl, Nat.le_of_ble_eq_true rfl⟩ dX5_firstWrong_63 ⟨Nat.zero_le _, Nat.zero_le _⟩) hW (fun u8 H locs hp8 hW => ?_)
              obtain ⟨hgu8, heu8⟩ := hp8
              refine lv_iinc (v := nI (k + 1)) (lv' := [(3, .int (nI (k + 1))), (2, .ref (ad (22 + 4 * 0))), (0, .ref (ad 0)), (1, .int (nI n))]) hx hb dX5_firstWrong_66 hl (k := 0) rfl (nI_1 _) (by decide) rfl (fun ls hl => ?_)
              refine lv_goto (tgt := 13) hx hb dX5_firstWrong_69 (by decide) ?_
              exact ih_13 (k + 1) (att (hX P t) (stp k) c) u8 (by omega) (hg.tr hgu8) (heu8.trans (by rw [hc, hg.eh])) (by rw [← hE, show n - k = (n - (k + 1)) + 1 by omega]; show _ = ite _ _ _; rw [if_neg c_31_5, if_neg (show ¬ isup c.2.2.2 (stp k) from by have := c_51_7; rw [show u.1 (13 + 0) = c.2.2.2 from congrArg (fun q => q.2.2.2) hc] at this; exact this)]) (by omega) _ _ hW ls (lv_sub hl [0, 1, 2, 3] rfl)
            · have c_51_7 := bI_nz c_51_7
              refine lv_iload_n hx hb dX5_firstWrong_54 rfl (lv_at hl 0 rfl) ?_
              have hF : fw (hX P t) stp n 0 (beg t) = (nI k, c) := by rw [← hE, show n - k = (n - (k + 1)) + 1 by omega]; show ite _ _ _ = _; rw [if_neg c_31_5, if_pos (show isup c.2.2.2 (stp k) from by have := c_51_7; rw [show u.1 (13 + 0) = c.2.2.2 from congrArg (fun q => q.2.2.2) hc] at this; exact this)]
              exact r_ireti hC hr hlk hW hQ (⟨by rw [hF], hg, by rw [hF]; exact hc⟩) dX5_firstWrong_55
          · have c_31_5 : stp k = 5 := (nI_eq (a := stp k) (b := 5) (by omega) (by omega)).mp c_31_5
            refine lv_aload_n hx hb dX5_firstWrong_34 rfl (lv_at hl 1 rfl) ?_
            refine fin_v (run_V (rest := []) hC hW (m_X0_polish l D cs ad u 0 (by omega) P ((hg.1 2 (by omega)).trans hP) (by omega)) k_yX0_polish ⟨rfl, rfl⟩ q_ml_RX5_235 (eX_C 0 (by omega)) rfl rfl hl.1 rfl (Nat.le_of_ble_eq_true rfl) ⟨Nat.le_of_ble_eq_true rfl, Nat.le_of_ble_eq_true rfl⟩ dX5_firstWrong_35 ⟨Nat.zero_le _, Nat.zero_le _⟩) hW (fun u9 H locs hp9 hW => ?_)
            obtain ⟨hgu9, heu9⟩ := hp9
            refine lv_goto (tgt := 66) hx hb dX5_firstWrong_38 (by decide) ?_
            refine lv_iinc (v := nI (k + 1)) (lv' := [(3, .int (nI (k + 1))), (2, .ref (ad (22 + 4 * 0))), (0, .ref (ad 0)), (1, .int (nI n))]) hx hb dX5_firstWrong_66 hl (k := 0) rfl (nI_1 _) (by decide) rfl (fun ls hl => ?_)
            refine lv_goto (tgt := 13) hx hb dX5_firstWrong_69 (by decide) ?_
            exact ih_13 (k + 1) (rain P c) u9 (by omega) (hg.tr hgu9) (heu9.trans (by rw [hc])) (by rw [← hE, show n - k = (n - (k + 1)) + 1 by omega]; show _ = ite _ _ _; rw [if_pos c_31_5] <;> rfl) (by omega) _ _ hW ls (lv_sub hl [0, 1, 2, 3] rfl)
  exact loop_13_2 _ 0 (beg t) u1 (Nat.zero_le _) (hgu1) (heu1) (rfl) (Nat.lt_succ_self _) _ _ hW ls (lv_sub hl [0, 1, 2, 3] rfl)
set_option maxRecDepth 100000 in
set_option maxHeartbeats 4000000 in
theorem m_X5_firstUp (l : Launch) (D : va_G) (cs : CS3) (ad : Nat → Nat) (t : St) (P R : Nat) (stp : Nat → Nat) (n : Nat) (hP : t.1 2 = nI P) (hP8 : P ≤ 8) (hR : t.1 3 = nI R) (hR5 : R ≤ 5) (hn : n ≤ 30) (hs : ∀ z, z < n → t.2 12 z = nI (stp z) ∧ (stp z = 5 ∨ stp z < R)): CT l yX5_firstUp cX5_firstUp 4 (some .int) (rmk 4 120) (wX cs ad) (tyX cs) D [.ref (ad 0), .int (nI n)] t (va_Qi (fun r u => r = fu (hX P t) stp n 0 (beg t) ∧ agrC 0 t u)) := by
  refine CT.of (own := RX5) (by decide) rfl (Nat.le_of_ble_eq_true rfl) ?_
  intro p9 e9 s m9 args below meth c9 A Q hC hr hlk hW hQ ls hl
  obtain ⟨hx, hb, hml, hown, hts⟩ := id hC
  have hl : lv_has ls 4 [(0, .ref (ad 0)), (1, .int (nI n))] := hl
  refine lv_aload_n hx hb dX5_firstUp_0 rfl (lv_at hl 0 rfl) ?_
  refine gX_G_climbs hC hW q_fl_RX5_34 dX5_firstUp_1 ?_
  refine lv_iconst (v := 0) hx hb dX5_firstUp_4 (by decide) ?_
  refine r_aldN (t0 := 2) (j := 0) hC hW eX_11 rfl rfl (by omega) (by decide) rfl dX5_firstUp_5 ?_
  refine lv_astore_n (lv' := [(2, .ref (ad (22 + 4 * 0))), (0, .ref (ad 0)), (1, .int (nI n))]) hx hb dX5_firstUp_6 rfl hl (by decide) rfl (fun ls hl => ?_)
  refine lv_aload_n hx hb dX5_firstUp_7 rfl (lv_at hl 0 rfl) ?_
  refine fin_v (run_V (rest := []) hC hW (m_X0_begin l D cs ad t 0 (by omega)) k_yX0_begin ⟨rfl, rfl⟩ q_ml_RX5_149 (eX_C 0 (by omega)) rfl rfl hl.1 rfl (Nat.le_of_ble_eq_true rfl) ⟨Nat.le_of_ble_eq_true rfl, Nat.le_of_ble_eq_true rfl⟩ dX5_firstUp_8 ⟨Nat.zero_le _, Nat.zero_le _⟩) hW (fun u1 H locs hp1 hW => ?_)
  obtain ⟨hgu1, heu1⟩ := hp1
  refine lv_iconst (v := 0) hx hb dX5_firstUp_11 (by decide) ?_
  refine lv_istore_n (lv' := [(3, .int 0), (2, .ref (ad (22 + 4 * 0))), (0, .ref (ad 0)), (1, .int (nI n))]) hx hb dX5_firstUp_12 rfl hl (by decide) rfl (fun ls hl => ?_)
  have loop_13_2 : ∀ (f9 : Nat) (k : Nat) (c : Cl) (u : St), (k ≤ n) → (agrC 0 t u) → (cv u 0 = c) → (fu (hX P t) stp (n - k) k c = fu (hX P t) stp n 0 (beg t)) → n - k < f9 → ∀ (H : Heap) (locs : List Loc), HX (wX cs ad) (tyX cs) D A s.heap s u H locs → ∀ ls : Array Slot, lv_has ls 4 [(3, .int (nI k)), (2, .ref (ad (22 + 4 * 0))), (0, .ref (ad 0)), (1, .int (nI n))] → W p9 l e9 (rmk 4 120) s m9 args below meth c9 H locs 0 0 Q (F0 m9 13 ls []) := by
    intro f_13
    induction f_13 with
    | zero => intro k c u hk hg hc hE hm_13 H locs hW ls hl; exact absurd hm_13 (Nat.not_lt_zero _)
    | succ f_13 ih_13 =>
      intro k c u hk hg hc hE hm_13 H locs hW ls hl
      refine lv_iload_n hx hb dX5_firstUp_13 rfl (lv_at hl 0 rfl) ?_
      refine lv_iload_n hx hb dX5_firstUp_14 rfl (lv_at hl 3 rfl) ?_
      refine lv_icmp_ge (tgt := 49) hx hb dX5_firstUp_15 (by decide) (fun c_15_3 => ?_) (fun c_15_3 => ?_)
      · have c_15_3 : n ≤ k := (nI_leI (a := n) (b := k) (by omega) (by omega)).mp c_15_3
        refine lv_bipush (v := (-9)) hx hb dX5_firstUp_49 (by decide) ?_
        exact r_ireti hC hr hlk hW hQ (⟨by rw [← hE, show n - k = 0 by omega]; rfl, hg⟩) dX5_firstUp_51
      · have c_15_3 : ¬ n ≤ k := fun h => c_15_3 ((nI_leI (a := n) (b := k) (by omega) (by omega)).mpr h)
        have hsk := (hs k (by omega)).2
        refine lv_iload_n hx hb dX5_firstUp_18 rfl (lv_at hl 0 rfl) ?_
        refine lv_bipush (v := 30) hx hb dX5_firstUp_19 (by decide) ?_
        refine lv_icmp_ge (tgt := 49) hx hb dX5_firstUp_21 (by decide) (fun c_21_4 => ?_) (fun c_21_4 => ?_)
        · have c_21_4 : 30 ≤ k := (nI_leI (a := 30) (b := k) (by omega) (by omega)).mp c_21_4
          exfalso; omega
        · have c_21_4 : ¬ 30 ≤ k := fun h => c_21_4 ((nI_leI (a := 30) (b := k) (by omega) (by omega)).mpr h)
          refine lv_aload_n hx hb dX5_firstUp_24 rfl (lv_at hl 1 rfl) ?_
          refine lv_aload_n hx hb dX5_firstUp_25 rfl (lv_at hl 2 rfl) ?_
          refine gX_G_steps hC hW q_fl_RX5_41 dX5_firstUp_26 ?_
          refine lv_iload_n hx hb dX5_firstUp_29 rfl (lv_at hl 0 rfl) ?_
          refine r_ildN (t0 := 0) (j := k) hC hW eX_12 rfl (rfl) (by omega) (by decide) dX5_firstUp_30 ?_
          refine r_top (y := nI (stp k)) ((congrFun (hg.2 12 (by omega) (by omega) (by omega)) k).trans (hs k (by omega)).1) ?_
          refine fin_v (run_V (rest := []) hC hW (m_X0_goOn l D cs ad u 0 (by omega) P R (stp k) ((hg.1 2 (by omega)).trans hP) (by omega) (by first | assumption | omega) (by omega)) k_yX0_goOn ⟨rfl, rfl⟩ q_ml_RX5_244 (eX_C 0 (by omega)) rfl rfl hl.1 rfl (Nat.le_of_ble_eq_true rfl) ⟨Nat.le_of_ble_eq_true rfl, Nat.le_of_ble_eq_true rfl⟩ dX5_firstUp_31 ⟨Nat.zero_le _, Nat.zero_le _⟩) hW (fun u5 H locs hp5 hW => ?_)
          obtain ⟨hgu5, heu5⟩ := hp5
          refine lv_aload_n hx hb dX5_firstUp_34 rfl (lv_at hl 1 rfl) ?_
          refine gX_C_up 0 (by omega) hC hW q_fl_RX5_122 dX5_firstUp_35 ?_
          refine lv_if_eq (tgt := 43) hx hb dX5_firstUp_38 (by decide) (fun c_38_6 => ?_) (fun c_38_6 => ?_)
          · refine lv_iinc (v := nI (k + 1)) (lv' := [(3, .int (nI (k + 1))), (2, .ref (ad (22 + 4 * 0))), (0, .ref (ad 0)), (1, .int (nI n))]) hx hb dX5_firstUp_43 hl (k := 0) rfl (nI_1 _) (by decide) rfl (fun ls hl => ?_)
            refine lv_goto (tgt := 13) hx hb dX5_firstUp_46 (by decide) ?_
            exact ih_13 (k + 1) (goOn (hX P t) (stp k) c) u5 (by omega) (hg.tr hgu5) (heu5.trans (by rw [hc, hg.eh])) (by rw [← hE, show n - k = (n - (k + 1)) + 1 by omega]; show _ = ite _ _ _; rw [if_pos (show (goOn (hX P t) (stp k) c).2.2.2 = 0 from (congrArg (fun q => q.2.2.2) (heu5.trans (by rw [hc, hg.eh]))).symm.trans c_38_6)]) (by omega) _ _ hW ls (lv_sub hl [0, 1, 2, 3] rfl)
          · refine lv_iload_n hx hb dX5_firstUp_41 rfl (lv_at hl 0 rfl) ?_
            exact r_ireti hC hr hlk hW hQ (⟨by rw [← hE, show n - k = (n - (k + 1)) + 1 by omega]; show _ = ite _ _ _; rw [if_neg (fun h9 => c_38_6 ((congrArg (fun q => q.2.2.2) (heu5.trans (by rw [hc, hg.eh]))).trans h9))], hg.tr hgu5⟩) dX5_firstUp_42
  exact loop_13_2 _ 0 (beg t) u1 (Nat.zero_le _) (hgu1) (heu1) (rfl) (Nat.lt_succ_self _) _ _ hW ls (lv_sub hl [0, 1, 2, 3] rfl)
