set_option maxRecDepth 100000 in
set_option maxHeartbeats 4000000 in
theorem m_X6_hill (l : Launch) (D : va_G) (cs : CS3) (ad : Nat → Nat) (t : St) (b : St) (P R C : Nat) (x a i n : Int32) (hB : WF b P R C) (hA : AM b t): CT l yX6_hill cX6_hill 8 (some .int) (rmk 4 92) (wM cs ad) (tyX cs) D [.ref (ad 0), .int x, .int a, .int i, .int n] t (va_Qi (fun z u => z = (F_hill b x a i n).1 ∧ AM (F_hill b x a i n).2 u)) := by
  refine CT.of (own := RX6) (by decide) rfl (Nat.le_of_ble_eq_true rfl) ?_
  intro p9 e9 s m9 args below meth c9 A Q hC hr hlk hW hQ ls hl
  obtain ⟨hx, hb, hml, hown, hts⟩ := id hC
  have hl : lv_has ls 8 [(0, .ref (ad 0)), (1, .int x), (2, .int a), (3, .int i), (4, .int n)] := hl
  obtain ⟨⟨bP, hP8, bR, hR5, bC, hC8, hlen⟩, hl4, hPR, hrg, hrd⟩ := id hB
  obtain ⟨⟨a0, a1, a2, a3, a4⟩, ⟨v4, v5, v6, v7, v8, v16, v17⟩, hsh⟩ := id hA
  have hP : t.1 2 = nI P := a2.trans bP
  have hR : t.1 3 = nI R := a3.trans bR
  have hc4 : t.1 12 = nI C := a4.trans bC
  refine lv_aload_n hx hb dX6_hill_0 rfl (lv_at hl 0 rfl) ?_
  refine lv_iconst (v := 0) hx hb dX6_hill_1 (by decide) ?_
  refine pM_fault hC hW q_fl_RX6_61 dX6_hill_2 (fun H locs hW => ?_)
  have hW : HX (wM cs ad) (tyX cs) D A s.heap s (va_up t.1 0 0, t.2) H locs := hW
  refine lv_iload_n hx hb dX6_hill_5 rfl (lv_at hl 1 rfl) ?_
  refine fin_pi (run_P (rest := []) hC hW.2.2.2.2.2 (m_X6_isSheet l x) k_yX6_isSheet ⟨rfl, rfl⟩ q_ml_RX6_80 rfl hl.1 rfl (Nat.le_of_ble_eq_true rfl) ⟨Nat.le_of_ble_eq_true rfl, Nat.le_of_ble_eq_true rfl⟩ dX6_hill_6 ⟨Nat.zero_le _, Nat.zero_le _⟩) (fun rz9 hr9 => ?_)
  refine r_top hr9 ?_
  refine lv_if_ne (tgt := 14) hx hb dX6_hill_9 (by decide) (fun c_9_1 => ?_) (fun c_9_1 => ?_)
  · have c_9_1 := bI_nz c_9_1
    obtain ⟨k, hk3, rfl⟩ := rng_ex (M := 3) (n := 3) (by decide) c_9_1
    have hsr_k := srt (show k < 4 by omega) hl4 (hsh k (by omega))
    have hs_k := hsh k (by omega)
    refine lv_iload_n hx hb dX6_hill_14 rfl (lv_at hl 2 rfl) ?_
    refine fin_pi (run_P (rest := []) hC hW.2.2.2.2.2 (m_X6_isSort l a) k_yX6_isSort ⟨rfl, rfl⟩ q_ml_RX6_84 rfl hl.1 rfl (Nat.le_of_ble_eq_true rfl) ⟨Nat.le_of_ble_eq_true rfl, Nat.le_of_ble_eq_true rfl⟩ dX6_hill_15 ⟨Nat.zero_le _, Nat.zero_le _⟩) (fun rz9 hr9 => ?_)
    refine r_top hr9 ?_
    refine lv_if_ne (tgt := 24) hx hb dX6_hill_18 (by decide) (fun c_18_2 => ?_) (fun c_18_2 => ?_)
    · have c_18_2 := bI_nz c_18_2
      refine lv_aload_n hx hb dX6_hill_24 rfl (lv_at hl 0 rfl) ?_
      refine lv_iload_n hx hb dX6_hill_25 rfl (lv_at hl 1 rfl) ?_
      refine lv_iload_n hx hb dX6_hill_26 rfl (lv_at hl 2 rfl) ?_
      refine lv_iload_n hx hb dX6_hill_27 rfl (lv_at hl 3 rfl) ?_
      refine lv_iload hx hb dX6_hill_28 (lv_at hl 4 rfl) ?_
      refine fin_i (run_V (rest := []) hC hW (m_X6_against l D cs ad (va_up t.1 0 0, t.2) b k a i n (by omega) hl4 hs_k) k_yX6_against ⟨rfl, rfl⟩ q_ml_RX6_87 eM_0 rfl rfl hl.1 rfl (Nat.le_of_ble_eq_true rfl) ⟨Nat.le_of_ble_eq_true rfl, Nat.le_of_ble_eq_true rfl⟩ dX6_hill_30 ⟨Nat.zero_le _, Nat.zero_le _⟩) hW (fun r3 u3 H locs hp3 hW => ?_)
      have hW := hx_congr hW hp3.2
      refine r_top hp3.1 ?_
      refine lv_istore (lv' := [(5, .int (focF (b.1 (5 + 2 * k)) (b.1 (6 + 2 * k)) a i n)), (0, .ref (ad 0)), (1, .int (nI k)), (2, .int a), (3, .int i), (4, .int n)]) hx hb dX6_hill_33 hl (by decide) rfl (fun ls hl => ?_)
      refine lv_iload hx hb dX6_hill_35 (lv_at hl 0 rfl) ?_
      refine lv_if_eq (tgt := 47) hx hb dX6_hill_37 (by decide) (fun c_37_4 => ?_) (fun c_37_4 => ?_)
      · obtain ⟨z0, hz0, ez0⟩ := hlen k (by omega)
        obtain ⟨i0, n0, rfl, rfl, hi1, hi2, hi3⟩ := foc_ex hz0 (by rw [← ez0]; exact c_37_4)
        have hcl := (hs_k.2 hi3).2
        refine lv_bipush (v := 60) hx hb dX6_hill_47 (by decide) ?_
        refine lv_iload_n hx hb dX6_hill_49 rfl (lv_at hl 2 rfl) ?_
        refine lv_imul hx hb dX6_hill_50 ?_
        refine r_top (y := nI (60 * k)) (pk_mul 60 k) ?_
        refine lv_iload_n hx hb dX6_hill_51 rfl (lv_at hl 4 rfl) ?_
        refine lv_iadd hx hb dX6_hill_52 ?_
        refine r_top (y := nI ((60 * k) + i0)) (nI_add (60 * k) i0) ?_
        refine lv_istore (lv' := [(6, .int (nI ((60 * k) + i0))), (5, .int (focF (b.1 (5 + 2 * k)) (b.1 (6 + 2 * k)) a (nI i0) (nI n0))), (0, .ref (ad 0)), (1, .int (nI k)), (2, .int a), (3, .int (nI i0)), (4, .int (nI n0))]) hx hb dX6_hill_53 hl (by decide) rfl (fun ls hl => ?_)
        refine lv_aload_n hx hb dX6_hill_55 rfl (lv_at hl 2 rfl) ?_
        refine lv_iload hx hb dX6_hill_56 (lv_at hl 0 rfl) ?_
        refine pM_at hC hW q_fl_RX6_77 dX6_hill_58 (fun H locs hW => ?_)
        have hW : HX (wM cs ad) (tyX cs) D A s.heap s (va_up (va_up t.1 0 0) 4 (nI ((60 * k) + i0)), t.2) H locs := hW
        refine lv_aload_n hx hb dX6_hill_61 rfl (lv_at hl 2 rfl) ?_
        refine lv_iload hx hb dX6_hill_62 (lv_at hl 0 rfl) ?_
        refine lv_iload hx hb dX6_hill_64 (lv_at hl 6 rfl) ?_
        refine lv_iadd hx hb dX6_hill_66 ?_
        refine r_top (y := nI (((60 * k) + i0) + n0)) (nI_add ((60 * k) + i0) n0) ?_
        refine fin_i (run_V (rest := []) hC hW (m_X6_readHill l D cs ad (va_up (va_up t.1 0 0) 4 (nI ((60 * k) + i0)), t.2) (b.2 (15 + 2 * k)) i0 (60 * k + i0) n0 rfl (by omega) (fun q hq => (congrArg (t.2 3) (Nat.add_assoc _ _ _)).trans (hcl (i0 + q) (by omega)))) k_yX6_readHill ⟨rfl, rfl⟩ q_ml_RX6_95 eM_0 rfl rfl hl.1 rfl (Nat.le_of_ble_eq_true rfl) ⟨Nat.le_of_ble_eq_true rfl, Nat.le_of_ble_eq_true rfl⟩ dX6_hill_67 ⟨Nat.zero_le _, Nat.zero_le _⟩) hW (fun r5 u5 H locs hp5 hW => ?_)
        obtain ⟨hFu5, hHu5⟩ := hp5
        refine lv_if_ne (tgt := 84) hx hb dX6_hill_70 (by decide) (fun c_70_6 => ?_) (fun c_70_6 => ?_)
        · obtain ⟨-, hff, P1, R1, eP, hP2, hP18, enn, hR1, hR15, hu5, hu6, hg9, hrd9⟩ := hHu5.resolve_right (fun h9 => c_70_6 h9.1)
          refine lv_aload_n hx hb dX6_hill_84 rfl (lv_at hl 2 rfl) ?_
          refine lv_aload_n hx hb dX6_hill_85 rfl (lv_at hl 2 rfl) ?_
          refine gM_readPaces hC hW q_fl_RX6_98 dX6_hill_86 ?_
          refine r_top (y := nI P1) hu5 ?_
          refine pM_paces hC hW q_fl_RX6_71 dX6_hill_89 (fun H locs hW => ?_)
          have hW : HX (wM cs ad) (tyX cs) D A s.heap s (va_up u5.1 2 (nI P1), u5.2) H locs := hW
          refine lv_aload_n hx hb dX6_hill_92 rfl (lv_at hl 2 rfl) ?_
          refine lv_aload_n hx hb dX6_hill_93 rfl (lv_at hl 2 rfl) ?_
          refine gM_readMany hC hW q_fl_RX6_101 dX6_hill_94 ?_
          refine r_top (y := nI R1) hu6 ?_
          refine pM_riders hC hW q_fl_RX6_74 dX6_hill_97 (fun H locs hW => ?_)
          have hW : HX (wM cs ad) (tyX cs) D A s.heap s (va_up (va_up u5.1 2 (nI P1)) 3 (nI R1), u5.2) H locs := hW
          obtain ⟨v0, ev0⟩ : ∃ z9 : St, z9 = (va_up (va_up u5.1 2 (nI P1)) 3 (nI R1), u5.2) := ⟨_, rfl⟩
          have hW : HX (wM cs ad) (tyX cs) D A s.heap s v0 _ _ := hx_congr hW ev0.symm
          have hs0 : ∀ j, j ≠ 2 → j ≠ 3 → v0.1 j = u5.1 j := fun j h2 h3 => by rw [ev0]; show va_up (va_up u5.1 2 _) 3 _ j = _; rw [va_up_ne _ _ h3, va_up_ne _ _ h2]
          have ha0 : v0.2 = u5.2 := by rw [ev0]
          have h02 : v0.1 2 = nI P1 := by rw [ev0]; rfl
          have h03 : v0.1 3 = nI R1 := by rw [ev0]; rfl
          have hg0 : ∀ p, p < P1 → v0.2 9 p = (b.2 (15 + 2 * k)) (i0 + 2 + p) - 48 := by rw [ha0]; exact hg9
          have hr0 : ∀ r, r < R1 → RD (b.2 (15 + 2 * k)) i0 P1 v0 r := by unfold RD; rw [ha0]; exact hrd9
          refine lv_iconst (v := 0) hx hb dX6_hill_100 (by decide) ?_
          refine lv_istore (lv' := [(7, .int 0), (6, .int (nI ((60 * k) + i0))), (5, .int (focF (b.1 (5 + 2 * k)) (b.1 (6 + 2 * k)) a (nI i0) (nI n0))), (0, .ref (ad 0)), (1, .int (nI k)), (2, .int a), (3, .int (nI i0)), (4, .int (nI n0))]) hx hb dX6_hill_101 hl (by decide) rfl (fun ls hl => ?_)
          have loop_103_7 : ∀ (f9 : Nat) (z : Nat), (z ≤ P1) → P1 - z < f9 → ∀ (H : Heap) (locs : List Loc), HX (wM cs ad) (tyX cs) D A s.heap s (v0.1, va_up (va_up v0.2 4 (selF (fun p => (b.2 (15 + 2 * k)) (i0 + 2 + p) - 48) (v0.2 4) z)) 5 (selF (fun _ => 0) (v0.2 5) z)) H locs → ∀ ls : Array Slot, lv_has ls 8 [(7, .int (nI z)), (0, .ref (ad 0))] → W p9 l e9 (rmk 4 92) s m9 args below meth c9 H locs 0 0 Q (F0 m9 103 ls []) := by
            intro f_103
            induction f_103 with
            | zero => intro z hz hm_103 H locs hW ls hl; exact absurd hm_103 (Nat.not_lt_zero _)
            | succ f_103 ih_103 =>
              intro z hz hm_103 H locs hW ls hl
              refine lv_iload hx hb dX6_hill_103 (lv_at hl 0 rfl) ?_
              refine lv_aload_n hx hb dX6_hill_105 rfl (lv_at hl 1 rfl) ?_
              refine gM_paces hC hW q_fl_RX6_71 dX6_hill_106 ?_
              refine r_top (y := nI P1) h02 ?_
              refine lv_icmp_ge (tgt := 140) hx hb dX6_hill_109 (by decide) (fun c_109_8 => ?_) (fun c_109_8 => ?_)
              · have c_109_8 : P1 ≤ z := (nI_leI (a := P1) (b := z) (by omega) (by omega)).mp c_109_8
                obtain ⟨v1, ev1⟩ : ∃ z9 : St, z9 = (v0.1, va_up (va_up v0.2 4 (selF (fun p => (b.2 (15 + 2 * k)) (i0 + 2 + p) - 48) (v0.2 4) z)) 5 (selF (fun _ => 0) (v0.2 5) z)) := ⟨_, rfl⟩
                have hW : HX (wM cs ad) (tyX cs) D A s.heap s v1 _ _ := hx_congr hW ev1.symm
                have hzP : z = P1 := by omega
                rw [hzP] at ev1
                have hs1 : v1.1 = v0.1 := by rw [ev1]
                have h14 : v1.2 4 = selF (fun p => (b.2 (15 + 2 * k)) (i0 + 2 + p) - 48) (v0.2 4) P1 := by rw [ev1]; rfl
                have h15 : v1.2 5 = selF (fun _ => 0) (v0.2 5) P1 := by rw [ev1]; rfl
                have ha1 : ∀ j, j ≠ 4 → j ≠ 5 → v1.2 j = v0.2 j := fun j h4 h5 => by rw [ev1]; show va_up (va_up v0.2 4 _) 5 _ j = _; rw [va_up_ne _ _ h5, va_up_ne _ _ h4]
                have hr1 : ∀ r, r < R1 → RD (b.2 (15 + 2 * k)) i0 P1 v1 r := by unfold RD; rw [ha1 10 (by decide) (by decide)]; exact hr0
                have h13 : v1.1 3 = nI R1 := by rw [hs1]; exact h03
                refine lv_iconst (v := 0) hx hb dX6_hill_140 (by decide) ?_
                refine lv_istore (lv' := [(7, .int 0), (0, .ref (ad 0))]) hx hb dX6_hill_141 hl (by decide) rfl (fun ls hl => ?_)
                have loop_143_9 : ∀ (f9 : Nat) (z2 : Nat), (z2 ≤ R1) → R1 - z2 < f9 → ∀ (H : Heap) (locs : List Loc), HX (wM cs ad) (tyX cs) D A s.heap s (v1.1, va_up (va_up (va_up v1.2 6 (selF (fun r => kindF ((b.2 (15 + 2 * k)) (i0 + 2 + P1 + r * 5 + 1))) (v1.2 6) z2)) 7 (selF (fun r => 10 * ((b.2 (15 + 2 * k)) (i0 + 2 + P1 + r * 5 + 2) - 48) + ((b.2 (15 + 2 * k)) (i0 + 2 + P1 + r * 5 + 3) - 48)) (v1.2 7) z2)) 8 (selF (fun r => (b.2 (15 + 2 * k)) (i0 + 2 + P1 + r * 5 + 4) - 48) (v1.2 8) z2)) H locs → ∀ ls : Array Slot, lv_has ls 8 [(7, .int (nI z2)), (0, .ref (ad 0))] → W p9 l e9 (rmk 4 92) s m9 args below meth c9 H locs 0 0 Q (F0 m9 143 ls []) := by
                  intro f_143
                  induction f_143 with
                  | zero => intro z2 hz2 hm_143 H locs hW ls hl; exact absurd hm_143 (Nat.not_lt_zero _)
                  | succ f_143 ih_143 =>
                    intro z2 hz2 hm_143 H locs hW ls hl
                    refine lv_iload hx hb dX6_hill_143 (lv_at hl 0 rfl) ?_
                    refine lv_aload_n hx hb dX6_hill_145 rfl (lv_at hl 1 rfl) ?_
                    refine gM_riders hC hW q_fl_RX6_74 dX6_hill_146 ?_
                    refine r_top (y := nI R1) h13 ?_
                    refine lv_icmp_ge (tgt := 210) hx hb dX6_hill_149 (by decide) (fun c_149_10 => ?_) (fun c_149_10 => ?_)
                    · have c_149_10 : R1 ≤ z2 := (nI_leI (a := R1) (b := z2) (by omega) (by omega)).mp c_149_10
                      refine lv_aload_n hx hb dX6_hill_210 rfl (lv_at hl 1 rfl) ?_
                      refine lv_iconst (v := 0) hx hb dX6_hill_211 (by decide) ?_
                      refine pM_readings hC hW q_fl_RX6_104 dX6_hill_212 (fun H locs hW => ?_)
                      have hW : HX (wM cs ad) (tyX cs) D A s.heap s (va_up v1.1 12 0, va_up (va_up (va_up v1.2 6 (selF (fun r => kindF ((b.2 (15 + 2 * k)) (i0 + 2 + P1 + r * 5 + 1))) (v1.2 6) z2)) 7 (selF (fun r => 10 * ((b.2 (15 + 2 * k)) (i0 + 2 + P1 + r * 5 + 2) - 48) + ((b.2 (15 + 2 * k)) (i0 + 2 + P1 + r * 5 + 3) - 48)) (v1.2 7) z2)) 8 (selF (fun r => (b.2 (15 + 2 * k)) (i0 + 2 + P1 + r * 5 + 4) - 48) (v1.2 8) z2)) H locs := hW
                      refine lv_aload_n hx hb dX6_hill_215 rfl (lv_at hl 1 rfl) ?_
                      refine gM_riders hC hW q_fl_RX6_74 dX6_hill_216 ?_
                      refine r_top (y := nI R1) h13 ?_
                      have hk9 : 0 ≤ nI k ∧ nI k ≤ 3 := ⟨nI_pos' (show k < 2 ^ 31 by omega), nI_le (a := k) (b := 3) (by omega) (by decide)⟩
                      have hzR : z2 = R1 := by omega
                      have etx : txP (b.2 (15 + 2 * k)) i0 = P1 := by unfold txP; rw [eP, nI_clamp (by omega)]
                      have etr : txR (b.2 (15 + 2 * k)) i0 n0 = R1 := by unfold txR; rw [etx]; omega
                      have hF : F_hill b (nI k) a (nI i0) (nI n0) = (nI R1, bldS (flt b 0) (b.2 (15 + 2 * k)) i0 P1 R1) := by unfold F_hill focT; rw [if_pos hk9, if_pos c_18_2, nI_clamp (show k < 2 ^ 31 by omega), if_pos c_37_4, nI_clamp (show i0 < 2 ^ 31 by omega), nI_clamp (show n0 < 2 ^ 31 by omega), if_pos hff, etr, etx]
                      have hse : ∀ j, j ≠ 2 → j ≠ 3 → j ≠ 4 → j ≠ 5 → j ≠ 6 → v1.1 j = (va_up t.1 0 0) j := fun j h2 h3 h4 h5 h6 => by rw [hs1, hs0 j h2 h3]; refine (hFu5.1 j h4 h5 h6).trans ?_; show va_up (va_up t.1 0 0) 4 _ j = _; rw [va_up_ne _ _ h4]
                      have hae : ∀ j, j ≠ 4 → j ≠ 5 → j ≠ 9 → j ≠ 10 → v1.2 j = t.2 j := fun j h4 h5 h9 h10 => by rw [ha1 j h4 h5, ha0]; exact hFu5.2 j h9 h10
                      have hq4 : v0.2 4 = t.2 4 := by rw [ha0]; exact hFu5.2 4 (by decide) (by decide)
                      have hq5 : v0.2 5 = t.2 5 := by rw [ha0]; exact hFu5.2 5 (by decide) (by decide)
                      obtain ⟨vf, evf⟩ : ∃ z9 : St, z9 = (va_up v1.1 12 0, va_up (va_up (va_up v1.2 6 (selF (fun r => kindF ((b.2 (15 + 2 * k)) (i0 + 2 + P1 + r * 5 + 1))) (v1.2 6) z2)) 7 (selF (fun r => 10 * ((b.2 (15 + 2 * k)) (i0 + 2 + P1 + r * 5 + 2) - 48) + ((b.2 (15 + 2 * k)) (i0 + 2 + P1 + r * 5 + 3) - 48)) (v1.2 7) z2)) 8 (selF (fun r => (b.2 (15 + 2 * k)) (i0 + 2 + P1 + r * 5 + 4) - 48) (v1.2 8) z2)) := ⟨_, rfl⟩
                      rw [hzR] at evf
                      have hfin : AM (bldS (flt b 0) (b.2 (15 + 2 * k)) i0 P1 R1) vf := by
                        refine am_bld hA ?_ ?_ ?_ ?_ ?_ (fun k9 h9 => ?_) ?_ ?_ ?_ ?_ ?_ ?_ ?_
                        · rw [evf]; exact hse 0 (by decide) (by decide) (by decide) (by decide) (by decide)
                        · rw [evf]; exact hse 1 (by decide) (by decide) (by decide) (by decide) (by decide)
                        · rw [evf]; show v1.1 2 = _; rw [hs1]; exact h02
                        · rw [evf]; exact h13
                        · rw [evf]; rfl
                        · rw [evf]; show va_up (va_up (va_up v1.2 6 _) 7 _) 8 _ k9 = _; rw [va_up_ne _ _ (by omega), va_up_ne _ _ (by omega), va_up_ne _ _ (by omega)]; exact hae k9 (by omega) (by omega) (by omega) (by omega)
                        · rw [evf]; exact hae 16 (by decide) (by decide) (by decide) (by decide)
                        · rw [evf]; exact hae 17 (by decide) (by decide) (by decide) (by decide)
                        · rw [evf]; show v1.2 4 = _; rw [h14, hq4]
                        · rw [evf]; show v1.2 5 = _; rw [h15, hq5]
                        · rw [evf]; show selF _ (v1.2 6) R1 = _; rw [hae 6 (by decide) (by decide) (by decide) (by decide)]
                        · rw [evf]; show selF _ (v1.2 7) R1 = _; rw [hae 7 (by decide) (by decide) (by decide) (by decide)]
                        · rw [evf]; show selF _ (v1.2 8) R1 = _; rw [hae 8 (by decide) (by decide) (by decide) (by decide)]
                      exact r_ireti hC hr hlk hW hQ (⟨by rw [hF], by rw [hF, hzR, ← evf]; exact hfin⟩) dX6_hill_219
                    · have c_149_10 : ¬ R1 ≤ z2 := fun h => c_149_10 ((nI_leI (a := R1) (b := z2) (by omega) (by omega)).mpr h)
                      refine lv_aload_n hx hb dX6_hill_152 rfl (lv_at hl 1 rfl) ?_
                      refine gM_kind hC hW q_fl_RX6_25 dX6_hill_153 ?_
                      refine lv_iload hx hb dX6_hill_156 (lv_at hl 0 rfl) ?_
                      refine lv_aload_n hx hb dX6_hill_158 rfl (lv_at hl 1 rfl) ?_
                      refine gM_read hC hW q_fl_RX6_37 dX6_hill_159 ?_
                      refine lv_iconst (v := 3) hx hb dX6_hill_162 (by decide) ?_
                      refine lv_iload hx hb dX6_hill_163 (lv_at hl 0 rfl) ?_
                      refine lv_imul hx hb dX6_hill_165 ?_
                      refine r_top (y := nI (3 * z2)) (pk_mul 3 z2) ?_
                      refine r_ildN (t0 := 0) (j := 3 * z2) hC hW eM_10 rfl (rfl) (by omega) (by decide) dX6_hill_166 ?_
                      refine r_top (y := v1.2 10 (3 * z2)) (by first | rfl | simp only [va_up_self]) ?_
                      refine r_top (y := kindF ((b.2 (15 + 2 * k)) (i0 + 2 + P1 + z2 * 5 + 1))) ((hr1 z2 (by omega)).1) ?_
                      refine r_istN (t0 := 0) (j := z2) hC hW eM_6 rfl (rfl) (by omega) (by decide) (sM_6 _) dX6_hill_167 (fun H locs hW => ?_)
                      have hW : HX (wM cs ad) (tyX cs) D A s.heap s (v1.1, va_up (va_up (va_up v1.2 7 (selF (fun r => 10 * ((b.2 (15 + 2 * k)) (i0 + 2 + P1 + r * 5 + 2) - 48) + ((b.2 (15 + 2 * k)) (i0 + 2 + P1 + r * 5 + 3) - 48)) (v1.2 7) z2)) 8 (selF (fun r => (b.2 (15 + 2 * k)) (i0 + 2 + P1 + r * 5 + 4) - 48) (v1.2 8) z2)) 6 (upd (selF (fun r => kindF ((b.2 (15 + 2 * k)) (i0 + 2 + P1 + r * 5 + 1))) (v1.2 6) z2) z2 (kindF ((b.2 (15 + 2 * k)) (i0 + 2 + P1 + z2 * 5 + 1))))) H locs := hx_congr hW (by first | rfl | (simp only [va_upup]; done) | (refine Prod.ext (funext fun k => ?_) (funext fun k => ?_) <;> simp only [va_up] <;> (repeat' split) <;> first | rfl | omega | simp_all))
                      refine lv_aload_n hx hb dX6_hill_168 rfl (lv_at hl 1 rfl) ?_
                      refine gM_speedOf hC hW q_fl_RX6_28 dX6_hill_169 ?_
                      refine lv_iload hx hb dX6_hill_172 (lv_at hl 0 rfl) ?_
                      refine lv_aload_n hx hb dX6_hill_174 rfl (lv_at hl 1 rfl) ?_
                      refine gM_read hC hW q_fl_RX6_37 dX6_hill_175 ?_
                      refine lv_iconst (v := 3) hx hb dX6_hill_178 (by decide) ?_
                      refine lv_iload hx hb dX6_hill_179 (lv_at hl 0 rfl) ?_
                      refine lv_imul hx hb dX6_hill_181 ?_
                      refine r_top (y := nI (3 * z2)) (pk_mul 3 z2) ?_
                      refine lv_iconst (v := 1) hx hb dX6_hill_182 (by decide) ?_
                      refine lv_iadd hx hb dX6_hill_183 ?_
                      refine r_top (y := nI ((3 * z2) + 1)) (nI_add (3 * z2) 1) ?_
                      refine r_ildN (t0 := 0) (j := (3 * z2) + 1) hC hW eM_10 rfl (rfl) (by omega) (by decide) dX6_hill_184 ?_
                      refine r_top (y := v1.2 10 ((3 * z2) + 1)) (by first | rfl | simp only [va_up_self]) ?_
                      refine r_top (y := 10 * ((b.2 (15 + 2 * k)) (i0 + 2 + P1 + z2 * 5 + 2) - 48) + ((b.2 (15 + 2 * k)) (i0 + 2 + P1 + z2 * 5 + 3) - 48)) ((hr1 z2 (by omega)).2.1) ?_
                      refine r_istN (t0 := 0) (j := z2) hC hW eM_7 rfl (rfl) (by omega) (by decide) (sM_7 _) dX6_hill_185 (fun H locs hW => ?_)
                      have hW : HX (wM cs ad) (tyX cs) D A s.heap s (v1.1, va_up (va_up (va_up v1.2 8 (selF (fun r => (b.2 (15 + 2 * k)) (i0 + 2 + P1 + r * 5 + 4) - 48) (v1.2 8) z2)) 6 (upd (selF (fun r => kindF ((b.2 (15 + 2 * k)) (i0 + 2 + P1 + r * 5 + 1))) (v1.2 6) z2) z2 (kindF ((b.2 (15 + 2 * k)) (i0 + 2 + P1 + z2 * 5 + 1))))) 7 (upd (selF (fun r => 10 * ((b.2 (15 + 2 * k)) (i0 + 2 + P1 + r * 5 + 2) - 48) + ((b.2 (15 + 2 * k)) (i0 + 2 + P1 + r * 5 + 3) - 48)) (v1.2 7) z2) z2 (10 * ((b.2 (15 + 2 * k)) (i0 + 2 + P1 + z2 * 5 + 2) - 48) + ((b.2 (15 + 2 * k)) (i0 + 2 + P1 + z2 * 5 + 3) - 48)))) H locs := hx_congr hW (by first | rfl | (simp only [va_upup]; done) | (refine Prod.ext (funext fun k => ?_) (funext fun k => ?_) <;> simp only [va_up] <;> (repeat' split) <;> first | rfl | omega | simp_all))
                      refine lv_aload_n hx hb dX6_hill_186 rfl (lv_at hl 1 rfl) ?_
                      refine gM_nailsOf hC hW q_fl_RX6_31 dX6_hill_187 ?_
                      refine lv_iload hx hb dX6_hill_190 (lv_at hl 0 rfl) ?_
                      refine lv_aload_n hx hb dX6_hill_192 rfl (lv_at hl 1 rfl) ?_
                      refine gM_read hC hW q_fl_RX6_37 dX6_hill_193 ?_
                      refine lv_iconst (v := 3) hx hb dX6_hill_196 (by decide) ?_
                      refine lv_iload hx hb dX6_hill_197 (lv_at hl 0 rfl) ?_
                      refine lv_imul hx hb dX6_hill_199 ?_
                      refine r_top (y := nI (3 * z2)) (pk_mul 3 z2) ?_
                      refine lv_iconst (v := 2) hx hb dX6_hill_200 (by decide) ?_
                      refine lv_iadd hx hb dX6_hill_201 ?_
                      refine r_top (y := nI ((3 * z2) + 2)) (nI_add (3 * z2) 2) ?_
                      refine r_ildN (t0 := 0) (j := (3 * z2) + 2) hC hW eM_10 rfl (rfl) (by omega) (by decide) dX6_hill_202 ?_
                      refine r_top (y := v1.2 10 ((3 * z2) + 2)) (by first | rfl | simp only [va_up_self]) ?_
                      refine r_top (y := (b.2 (15 + 2 * k)) (i0 + 2 + P1 + z2 * 5 + 4) - 48) ((hr1 z2 (by omega)).2.2) ?_
                      refine r_istN (t0 := 0) (j := z2) hC hW eM_8 rfl (rfl) (by omega) (by decide) (sM_8 _) dX6_hill_203 (fun H locs hW => ?_)
                      have hW : HX (wM cs ad) (tyX cs) D A s.heap s (v1.1, va_up (va_up (va_up v1.2 6 (upd (selF (fun r => kindF ((b.2 (15 + 2 * k)) (i0 + 2 + P1 + r * 5 + 1))) (v1.2 6) z2) z2 (kindF ((b.2 (15 + 2 * k)) (i0 + 2 + P1 + z2 * 5 + 1))))) 7 (upd (selF (fun r => 10 * ((b.2 (15 + 2 * k)) (i0 + 2 + P1 + r * 5 + 2) - 48) + ((b.2 (15 + 2 * k)) (i0 + 2 + P1 + r * 5 + 3) - 48)) (v1.2 7) z2) z2 (10 * ((b.2 (15 + 2 * k)) (i0 + 2 + P1 + z2 * 5 + 2) - 48) + ((b.2 (15 + 2 * k)) (i0 + 2 + P1 + z2 * 5 + 3) - 48)))) 8 (upd (selF (fun r => (b.2 (15 + 2 * k)) (i0 + 2 + P1 + r * 5 + 4) - 48) (v1.2 8) z2) z2 ((b.2 (15 + 2 * k)) (i0 + 2 + P1 + z2 * 5 + 4) - 48))) H locs := hx_congr hW (by first | rfl | (simp only [va_upup]; done) | (refine Prod.ext (funext fun k => ?_) (funext fun k => ?_) <;> simp only [va_up] <;> (repeat' split) <;> first | rfl | omega | simp_all))
                      refine lv_iinc (v := nI (z2 + 1)) (lv' := [(7, .int (nI (z2 + 1))), (0, .ref (ad 0))]) hx hb dX6_hill_204 hl (k := 0) rfl (nI_1 _) (by decide) rfl (fun ls hl => ?_)
                      refine lv_goto (tgt := 143) hx hb dX6_hill_207 (by decide) ?_
                      have hW : HX (wM cs ad) (tyX cs) D A s.heap s (v1.1, va_up (va_up (va_up v1.2 6 (selF (fun r => kindF ((b.2 (15 + 2 * k)) (i0 + 2 + P1 + r * 5 + 1))) (v1.2 6) (z2 + 1))) 7 (selF (fun r => 10 * ((b.2 (15 + 2 * k)) (i0 + 2 + P1 + r * 5 + 2) - 48) + ((b.2 (15 + 2 * k)) (i0 + 2 + P1 + r * 5 + 3) - 48)) (v1.2 7) (z2 + 1))) 8 (selF (fun r => (b.2 (15 + 2 * k)) (i0 + 2 + P1 + r * 5 + 4) - 48) (v1.2 8) (z2 + 1))) _ _ := hx_congr hW (by rw [selF_s _ _ _ _ rfl, selF_s _ _ _ _ rfl, selF_s _ _ _ _ rfl])
                      exact ih_143 (z2 + 1) (by omega) (by omega) _ _ hW ls (lv_sub hl [0, 1] rfl)
                have hW : HX (wM cs ad) (tyX cs) D A s.heap s (v1.1, va_up (va_up (va_up v1.2 6 (selF (fun r => kindF ((b.2 (15 + 2 * k)) (i0 + 2 + P1 + r * 5 + 1))) (v1.2 6) 0)) 7 (selF (fun r => 10 * ((b.2 (15 + 2 * k)) (i0 + 2 + P1 + r * 5 + 2) - 48) + ((b.2 (15 + 2 * k)) (i0 + 2 + P1 + r * 5 + 3) - 48)) (v1.2 7) 0)) 8 (selF (fun r => (b.2 (15 + 2 * k)) (i0 + 2 + P1 + r * 5 + 4) - 48) (v1.2 8) 0)) _ _ := hx_congr hW (by rw [selF_0, selF_0, selF_0]; exact Prod.ext rfl (by funext k9; simp only [va_up]; (repeat' split) <;> first | rfl | simp_all))
                exact loop_143_9 _ 0 (Nat.zero_le _) (Nat.lt_succ_self _) _ _ hW ls (lv_sub hl [0, 1] rfl)
              · have c_109_8 : ¬ P1 ≤ z := fun h => c_109_8 ((nI_leI (a := P1) (b := z) (by omega) (by omega)).mpr h)
                refine lv_aload_n hx hb dX6_hill_112 rfl (lv_at hl 1 rfl) ?_
                refine gM_slick hC hW q_fl_RX6_19 dX6_hill_113 ?_
                refine lv_iload hx hb dX6_hill_116 (lv_at hl 0 rfl) ?_
                refine lv_aload_n hx hb dX6_hill_118 rfl (lv_at hl 1 rfl) ?_
                refine gM_readSlick hC hW q_fl_RX6_34 dX6_hill_119 ?_
                refine lv_iload hx hb dX6_hill_122 (lv_at hl 0 rfl) ?_
                refine r_ildN (t0 := 0) (j := z) hC hW eM_9 rfl (rfl) (by omega) (by decide) dX6_hill_124 ?_
                refine r_top (y := v0.2 9 z) (by first | rfl | simp only [va_up_self]) ?_
                refine r_top (y := (b.2 (15 + 2 * k)) (i0 + 2 + z) - 48) (hg0 z (by omega)) ?_
                refine r_istN (t0 := 0) (j := z) hC hW eM_4 rfl (rfl) (by omega) (by decide) (sM_4 _) dX6_hill_125 (fun H locs hW => ?_)
                have hW : HX (wM cs ad) (tyX cs) D A s.heap s (v0.1, va_up (va_up v0.2 5 (selF (fun _ => 0) (v0.2 5) z)) 4 (upd (selF (fun p => (b.2 (15 + 2 * k)) (i0 + 2 + p) - 48) (v0.2 4) z) z ((b.2 (15 + 2 * k)) (i0 + 2 + z) - 48))) H locs := hx_congr hW (by first | rfl | (simp only [va_upup]; done) | (refine Prod.ext (funext fun k => ?_) (funext fun k => ?_) <;> simp only [va_up] <;> (repeat' split) <;> first | rfl | omega | simp_all))
                refine lv_aload_n hx hb dX6_hill_126 rfl (lv_at hl 1 rfl) ?_
                refine gM_ahead hC hW q_fl_RX6_22 dX6_hill_127 ?_
                refine lv_iload hx hb dX6_hill_130 (lv_at hl 0 rfl) ?_
                refine lv_iconst (v := 0) hx hb dX6_hill_132 (by decide) ?_
                refine r_istN (t0 := 0) (j := z) hC hW eM_5 rfl (rfl) (by omega) (by decide) (sM_5 _) dX6_hill_133 (fun H locs hW => ?_)
                have hW : HX (wM cs ad) (tyX cs) D A s.heap s (v0.1, va_up (va_up v0.2 4 (upd (selF (fun p => (b.2 (15 + 2 * k)) (i0 + 2 + p) - 48) (v0.2 4) z) z ((b.2 (15 + 2 * k)) (i0 + 2 + z) - 48))) 5 (upd (selF (fun _ => 0) (v0.2 5) z) z 0)) H locs := hx_congr hW (by first | rfl | (simp only [va_upup]; done) | (refine Prod.ext (funext fun k => ?_) (funext fun k => ?_) <;> simp only [va_up] <;> (repeat' split) <;> first | rfl | omega | simp_all))
                refine lv_iinc (v := nI (z + 1)) (lv' := [(7, .int (nI (z + 1))), (0, .ref (ad 0))]) hx hb dX6_hill_134 hl (k := 0) rfl (nI_1 _) (by decide) rfl (fun ls hl => ?_)
                refine lv_goto (tgt := 103) hx hb dX6_hill_137 (by decide) ?_
                have hW : HX (wM cs ad) (tyX cs) D A s.heap s (v0.1, va_up (va_up v0.2 4 (selF (fun p => (b.2 (15 + 2 * k)) (i0 + 2 + p) - 48) (v0.2 4) (z + 1))) 5 (selF (fun _ => 0) (v0.2 5) (z + 1))) _ _ := hx_congr hW (by rw [selF_s _ _ _ _ rfl, selF_s _ _ _ _ rfl])
                exact ih_103 (z + 1) (by omega) (by omega) _ _ hW ls (lv_sub hl [0, 1] rfl)
          have hW : HX (wM cs ad) (tyX cs) D A s.heap s (v0.1, va_up (va_up v0.2 4 (selF (fun p => (b.2 (15 + 2 * k)) (i0 + 2 + p) - 48) (v0.2 4) 0)) 5 (selF (fun _ => 0) (v0.2 5) 0)) _ _ := hx_congr hW (by rw [selF_0, selF_0]; exact Prod.ext rfl (by funext k9; simp only [va_up]; (repeat' split) <;> first | rfl | simp_all))
          exact loop_103_7 _ 0 (Nat.zero_le _) (Nat.lt_succ_self _) _ _ hW ls (lv_sub hl [0, 3] rfl)
        · obtain ⟨-, q8, hq8, hff, hat8⟩ := hHu5.resolve_left (fun h9 => absurd (h9.1.symm.trans c_70_6) (by decide))
          refine lv_bipush (v := (-100)) hx hb dX6_hill_73 (by decide) ?_
          refine lv_aload_n hx hb dX6_hill_75 rfl (lv_at hl 2 rfl) ?_
          refine gM_at hC hW q_fl_RX6_77 dX6_hill_76 ?_
          refine r_top (y := nI (60 * k + i0 + q8)) hat8 ?_
          refine lv_iload hx hb dX6_hill_79 (lv_at hl 0 rfl) ?_
          refine lv_isub hx hb dX6_hill_81 ?_
          refine r_top (y := nI q8) ((pk_sub (by omega)).trans (congrArg nI (by omega))) ?_
          refine lv_isub hx hb dX6_hill_82 ?_
          have hk9 : 0 ≤ nI k ∧ nI k ≤ 3 := ⟨nI_pos' (show k < 2 ^ 31 by omega), nI_le (a := k) (b := 3) (by omega) (by decide)⟩
          have hF : F_hill b (nI k) a (nI i0) (nI n0) = ((-100) - nI q8, flt b 0) := by unfold F_hill focT; rw [if_pos hk9, if_pos c_18_2, nI_clamp (show k < 2 ^ 31 by omega), if_pos c_37_4, nI_clamp (show i0 < 2 ^ 31 by omega), nI_clamp (show n0 < 2 ^ 31 by omega), hff, if_neg (nI_m9 (by omega))]
          have hAf := (am_flt hA 0).lm (u := u5) ⟨fun k9 h9 => (hFu5.1 k9 (by omega) (by omega) (by omega)).trans (va_up_ne _ _ (by omega)), hFu5.1 12 (by decide) (by decide) (by decide), fun k9 h9 => hFu5.2 k9 (by omega) (by omega), hFu5.2 16 (by decide) (by decide), hFu5.2 17 (by decide) (by decide)⟩
          exact r_ireti hC hr hlk hW hQ (⟨by rw [hF], by rw [hF]; exact hAf⟩) dX6_hill_83
      · refine lv_aload_n hx hb dX6_hill_40 rfl (lv_at hl 1 rfl) ?_
        refine lv_iload hx hb dX6_hill_41 (lv_at hl 0 rfl) ?_
        refine fin_i (run_V (rest := []) hC hW (m_X6_fails l D cs ad (va_up t.1 0 0, t.2) (focF (b.1 (5 + 2 * k)) (b.1 (6 + 2 * k)) a i n)) k_yX6_fails ⟨rfl, rfl⟩ q_ml_RX6_91 eM_0 rfl rfl hl.1 rfl (Nat.le_of_ble_eq_true rfl) ⟨Nat.le_of_ble_eq_true rfl, Nat.le_of_ble_eq_true rfl⟩ dX6_hill_43 ⟨Nat.zero_le _, Nat.zero_le _⟩) hW (fun r11 u11 H locs hp11 hW => ?_)
        have hW : HX (wM cs ad) (tyX cs) D A s.heap s (va_up t.1 0 (focF (b.1 (5 + 2 * k)) (b.1 (6 + 2 * k)) a i n), t.2) H locs := hx_congr hW (hp11.2.trans (by first | rfl | (simp only [va_upup]; done) | (refine Prod.ext (funext fun k => ?_) (funext fun k => ?_) <;> simp only [va_up] <;> (repeat' split) <;> first | rfl | omega | simp_all)))
        refine r_top hp11.1 ?_
        have hk9 : 0 ≤ nI k ∧ nI k ≤ 3 := ⟨nI_pos' (show k < 2 ^ 31 by omega), nI_le (a := k) (b := 3) (by omega) (by decide)⟩
        have hF : F_hill b (nI k) a i n = ((-10) - focF (b.1 (5 + 2 * k)) (b.1 (6 + 2 * k)) a i n, flt b (focF (b.1 (5 + 2 * k)) (b.1 (6 + 2 * k)) a i n)) := by unfold F_hill focT; rw [if_pos hk9, if_pos c_18_2, nI_clamp (show k < 2 ^ 31 by omega), if_neg c_37_4]
        exact r_ireti hC hr hlk hW hQ (⟨by rw [hF], by rw [hF]; exact am_flt hA _⟩) dX6_hill_46
    · have c_18_2 := bI_z.mp c_18_2
      refine lv_bipush (v := (-2)) hx hb dX6_hill_21 (by decide) ?_
      have hk9 : 0 ≤ nI k ∧ nI k ≤ 3 := ⟨nI_pos' (show k < 2 ^ 31 by omega), nI_le (a := k) (b := 3) (by omega) (by decide)⟩
      have hF : F_hill b (nI k) a i n = (-2, flt b 0) := by unfold F_hill; rw [if_pos hk9, if_neg c_18_2]
      exact r_ireti hC hr hlk hW hQ (⟨by rw [hF], by rw [hF]; exact am_flt hA 0⟩) dX6_hill_23
  · have c_9_1 := bI_z.mp c_9_1
    refine lv_iconst (v := (-1)) hx hb dX6_hill_12 (by decide) ?_
    have hF : F_hill b x a i n = (-1, flt b 0) := by unfold F_hill; rw [if_neg c_9_1]
    exact r_ireti hC hr hlk hW hQ (⟨by rw [hF], by rw [hF]; exact am_flt hA 0⟩) dX6_hill_13
