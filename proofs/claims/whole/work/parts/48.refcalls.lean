set_option maxRecDepth 100000 in
set_option maxHeartbeats 4000000 in
theorem m_X6_findFewest (l : Launch) (D : va_G) (cs : CS3) (ad : Nat → Nat) (t : St) (P R q : Nat) (hP : t.1 2 = nI P) (hP8 : P ≤ 8) (hR : t.1 3 = nI R) (hR5 : R ≤ 5) (hq : q < R) (hcw : CW P (bgM t)): CT l yX6_findFewest cX6_findFewest 5 none (rmk 3 70) (wM cs ad) (tyX cs) D [.ref (ad 0), .int (nI q)] t (va_Qv (fun u => LM t u ∧ FN (hM P t) R q (bgM t) 7 0 (u.1 10) (u.1 11))) := by
  refine CT.of (own := RX6) (by decide) rfl (Nat.le_of_ble_eq_true rfl) ?_
  intro p9 e9 s m9 args below meth c9 A Q hC hr hlk hW hQ ls hl
  obtain ⟨hx, hb, hml, hown, hts⟩ := id hC
  have hl : lv_has ls 5 [(0, .ref (ad 0)), (1, .int (nI q))] := hl
  refine lv_aload_n hx hb dX6_findFewest_0 rfl (lv_at hl 0 rfl) ?_
  refine lv_bipush (v := (-9)) hx hb dX6_findFewest_1 (by decide) ?_
  refine pM_foundLong hC hW q_fl_RX6_165 dX6_findFewest_3 (fun H locs hW => ?_)
  have hW : HX (wM cs ad) (tyX cs) D A s.heap s (va_up t.1 10 (-9), t.2) H locs := hW
  refine lv_iconst (v := 1) hx hb dX6_findFewest_6 (by decide) ?_
  refine lv_istore_n (lv' := [(2, .int 1), (0, .ref (ad 0)), (1, .int (nI q))]) hx hb dX6_findFewest_7 rfl hl (by decide) rfl (fun ls hl => ?_)
  refine lv_iconst (v := 1) hx hb dX6_findFewest_8 (by decide) ?_
  refine lv_istore_n (lv' := [(3, .int 1), (2, .int 1), (0, .ref (ad 0)), (1, .int (nI q))]) hx hb dX6_findFewest_9 rfl hl (by decide) rfl (fun ls hl => ?_)
  have loop_10_1 : ∀ (f9 : Nat) (L : Nat) (u2 : St), (1 ≤ L) → (L ≤ 7) → (LM t u2) → (FN (hM P t) R q (bgM t) L 0 (u2.1 10) (u2.1 11)) → 7 - L < f9 → ∀ (H : Heap) (locs : List Loc), HX (wM cs ad) (tyX cs) D A s.heap s u2 H locs → ∀ ls : Array Slot, lv_has ls 5 [(3, .int (nI L)), (2, .int (nI (R ^ (L - 1)))), (0, .ref (ad 0)), (1, .int (nI q))] → W p9 l e9 (rmk 3 70) s m9 args below meth c9 H locs 0 0 Q (F0 m9 10 ls []) := by
    intro f_10
    induction f_10 with
    | zero => intro L u2 hL1 hL7 hlm2 hfn2 hm_10 H locs hW ls hl; exact absurd hm_10 (Nat.not_lt_zero _)
    | succ f_10 ih_10 =>
      intro L u2 hL1 hL7 hlm2 hfn2 hm_10 H locs hW ls hl
      refine lv_iload_n hx hb dX6_findFewest_10 rfl (lv_at hl 0 rfl) ?_
      refine lv_bipush (v := 6) hx hb dX6_findFewest_11 (by decide) ?_
      refine lv_icmp_gt (tgt := 97) hx hb dX6_findFewest_13 (by decide) (fun c_13_2 => ?_) (fun c_13_2 => ?_)
      · have c_13_2 : 6 < L := (nI_ltI (a := 6) (b := L) (by omega) (by omega)).mp c_13_2
        exact r_vret hC hr hlk hW hQ (⟨hlm2, by have hL9 : L = 7 := (by omega); rw [hL9] at hfn2; exact hfn2⟩) dX6_findFewest_97
      · have c_13_2 : ¬ 6 < L := fun h => c_13_2 ((nI_ltI (a := 6) (b := L) (by omega) (by omega)).mpr h)
        refine lv_aload_n hx hb dX6_findFewest_16 rfl (lv_at hl 2 rfl) ?_
        refine gM_foundLong hC hW q_fl_RX6_165 dX6_findFewest_17 ?_
        refine lv_bipush (v := (-9)) hx hb dX6_findFewest_20 (by decide) ?_
        refine lv_icmp_ne (tgt := 97) hx hb dX6_findFewest_22 (by decide) (fun c_22_3 => ?_) (fun c_22_3 => ?_)
        · exact r_vret hC hr hlk hW hQ (⟨hlm2, FN_found c_22_3 hfn2⟩) dX6_findFewest_97
        · refine lv_iload_n hx hb dX6_findFewest_25 rfl (lv_at hl 1 rfl) ?_
          refine lv_aload_n hx hb dX6_findFewest_26 rfl (lv_at hl 2 rfl) ?_
          refine gM_riders hC hW q_fl_RX6_74 dX6_findFewest_27 ?_
          refine r_top (y := nI R) ((hlm2.1 3 (by omega)).trans hR) ?_
          refine lv_imul hx hb dX6_findFewest_30 ?_
          refine r_top (y := nI (R ^ L)) (mulP hR5 hL1 (by omega)) ?_
          have hp56 := pow56 (L := L) hR5 (by omega)
          refine lv_istore_n (lv' := [(2, .int (nI (R ^ L))), (3, .int (nI L)), (0, .ref (ad 0)), (1, .int (nI q))]) hx hb dX6_findFewest_31 rfl hl (by decide) rfl (fun ls hl => ?_)
          refine lv_iconst (v := 0) hx hb dX6_findFewest_32 (by decide) ?_
          refine lv_istore (lv' := [(4, .int 0), (2, .int (nI (R ^ L))), (3, .int (nI L)), (0, .ref (ad 0)), (1, .int (nI q))]) hx hb dX6_findFewest_33 hl (by decide) rfl (fun ls hl => ?_)
          have loop_35_4 : ∀ (f9 : Nat) (z : Nat) (u3 : St), (z ≤ R ^ L) → (LM t u3) → (FN (hM P t) R q (bgM t) L z (u3.1 10) (u3.1 11)) → R ^ L - z < f9 → ∀ (H : Heap) (locs : List Loc), HX (wM cs ad) (tyX cs) D A s.heap s u3 H locs → ∀ ls : Array Slot, lv_has ls 5 [(4, .int (nI z)), (3, .int (nI L)), (2, .int (nI (R ^ L))), (0, .ref (ad 0)), (1, .int (nI q))] → W p9 l e9 (rmk 3 70) s m9 args below meth c9 H locs 0 0 Q (F0 m9 35 ls []) := by
            intro f_35
            induction f_35 with
            | zero => intro z u3 hz hlm3 hfn3 hm_35 H locs hW ls hl; exact absurd hm_35 (Nat.not_lt_zero _)
            | succ f_35 ih_35 =>
              intro z u3 hz hlm3 hfn3 hm_35 H locs hW ls hl
              refine lv_iload hx hb dX6_findFewest_35 (lv_at hl 0 rfl) ?_
              refine lv_iload_n hx hb dX6_findFewest_37 rfl (lv_at hl 2 rfl) ?_
              refine lv_icmp_ge (tgt := 91) hx hb dX6_findFewest_38 (by decide) (fun c_38_5 => ?_) (fun c_38_5 => ?_)
              · have c_38_5 : R ^ L ≤ z := (nI_leI (a := R ^ L) (b := z) (by omega) (by omega)).mp c_38_5
                refine lv_iinc (v := nI (L + 1)) (lv' := [(3, .int (nI (L + 1))), (4, .int (nI z)), (2, .int (nI (R ^ L))), (0, .ref (ad 0)), (1, .int (nI q))]) hx hb dX6_findFewest_91 hl (k := 1) rfl (nI_1 _) (by decide) rfl (fun ls hl => ?_)
                refine lv_goto (tgt := 10) hx hb dX6_findFewest_94 (by decide) ?_
                exact ih_10 (L + 1) u3 (by omega) (by omega) (hlm3) (FN_next (by omega) hfn3) (by omega) _ _ hW ls (lv_sub hl [0, 2, 3, 4] rfl)
              · have c_38_5 : ¬ (R ^ L) ≤ z := fun h => c_38_5 ((nI_leI (a := R ^ L) (b := z) (by omega) (by omega)).mpr h)
                refine lv_aload_n hx hb dX6_findFewest_41 rfl (lv_at hl 3 rfl) ?_
                refine gM_foundLong hC hW q_fl_RX6_165 dX6_findFewest_42 ?_
                refine lv_bipush (v := (-9)) hx hb dX6_findFewest_45 (by decide) ?_
                refine lv_icmp_ne (tgt := 91) hx hb dX6_findFewest_47 (by decide) (fun c_47_6 => ?_) (fun c_47_6 => ?_)
                · refine lv_iinc (v := nI (L + 1)) (lv' := [(3, .int (nI (L + 1))), (4, .int (nI z)), (2, .int (nI (R ^ L))), (0, .ref (ad 0)), (1, .int (nI q))]) hx hb dX6_findFewest_91 hl (k := 1) rfl (nI_1 _) (by decide) rfl (fun ls hl => ?_)
                  refine lv_goto (tgt := 10) hx hb dX6_findFewest_94 (by decide) ?_
                  exact ih_10 (L + 1) u3 (by omega) (by omega) (hlm3) (FN_found c_47_6 hfn3) (by omega) _ _ hW ls (lv_sub hl [0, 2, 3, 4] rfl)
                · refine lv_aload_n hx hb dX6_findFewest_50 rfl (lv_at hl 3 rfl) ?_
                  refine lv_iload hx hb dX6_findFewest_51 (lv_at hl 0 rfl) ?_
                  refine lv_iload_n hx hb dX6_findFewest_53 rfl (lv_at hl 1 rfl) ?_
                  refine fin_v (run_V (rest := []) hC hW (m_X6_layRow l D cs ad u3 R z L ((hlm3.1 3 (by omega)).trans hR) (by omega) hR5 (by omega) (by omega)) k_yX6_layRow ⟨rfl, rfl⟩ q_ml_RX6_168 eM_0 rfl rfl hl.1 rfl (Nat.le_of_ble_eq_true rfl) ⟨Nat.le_of_ble_eq_true rfl, Nat.le_of_ble_eq_true rfl⟩ dX6_findFewest_54 ⟨Nat.zero_le _, Nat.zero_le _⟩) hW (fun u7 H locs hp7 hW => ?_)
                  obtain ⟨hgu7, hnu7, hau7, hsu7⟩ := hp7
                  have hlu7 : LM t u7 := ⟨fun k9 h9 => (hgu7 k9 (by omega)).trans (hlm3.1 k9 h9), (hgu7 12 (by omega)).trans hlm3.2.1, fun k9 h9 => (hau7 k9 (by omega)).trans (hlm3.2.2.1 k9 h9), (hau7 16 (by omega)).trans hlm3.2.2.2.1, (hau7 17 (by omega)).trans hlm3.2.2.2.2⟩
                  refine lv_aload_n hx hb dX6_findFewest_57 rfl (lv_at hl 3 rfl) ?_
                  refine fin_i (run_V (rest := []) hC hW (m_X6_go l D cs ad u7 P R (digR R L z) L ((hlu7.1 2 (by omega)).trans hP) hP8 ((hlu7.1 3 (by omega)).trans hR) hR5 hnu7 (by omega) (fun y hy => ⟨hsu7 y hy, Or.inr (digR_lt (by omega))⟩) (by rw [hlu7.eb]; exact hcw)) k_yX6_go ⟨rfl, rfl⟩ q_ml_RX6_158 eM_0 rfl rfl hl.1 rfl (Nat.le_of_ble_eq_true rfl) ⟨Nat.le_of_ble_eq_true rfl, Nat.le_of_ble_eq_true rfl⟩ dX6_findFewest_58 ⟨Nat.zero_le _, Nat.zero_le _⟩) hW (fun r8 u8 H locs hp8 hW => ?_)
                  obtain ⟨hru8, hgu8, hcu8, hfu8⟩ := hp8
                  rw [hlu7.eh, hlu7.eb] at hru8 hcu8
                  have hlg := hlu7.tr hgu8.lm
                  have e10 : u8.1 10 = u3.1 10 := (hgu8.1 10 (by omega) (by omega)).trans (hgu7 10 (by omega))
                  have e11 : u8.1 11 = u3.1 11 := (hgu8.1 11 (by omega) (by omega)).trans (hgu7 11 (by omega))
                  refine r_top hru8 ?_
                  refine lv_bipush (v := (-9)) hx hb dX6_findFewest_61 (by decide) ?_
                  refine lv_icmp_ne (tgt := 85) hx hb dX6_findFewest_63 (by decide) (fun c_63_9 => ?_) (fun c_63_9 => ?_)
                  · refine lv_iinc (v := nI (z + 1)) (lv' := [(4, .int (nI (z + 1))), (3, .int (nI L)), (2, .int (nI (R ^ L))), (0, .ref (ad 0)), (1, .int (nI q))]) hx hb dX6_findFewest_85 hl (k := 0) rfl (nI_1 _) (by decide) rfl (fun ls hl => ?_)
                    refine lv_goto (tgt := 35) hx hb dX6_findFewest_88 (by decide) ?_
                    exact ih_35 (z + 1) u8 (by omega) (hlg) (by rw [e10, e11]; exact FN_bad (Classical.not_not.mp (not_not_intro c_47_6)) (fun h9 => c_63_9 h9.1) hfn3) (by omega) _ _ hW ls (lv_sub hl [0, 1, 2, 3, 4] rfl)
                  · refine lv_aload_n hx hb dX6_findFewest_66 rfl (lv_at hl 3 rfl) ?_
                    refine lv_iload_n hx hb dX6_findFewest_67 rfl (lv_at hl 4 rfl) ?_
                    refine fin_i (run_V (rest := []) hC hW (m_X6_isUp l D cs ad u8 q) k_yX6_isUp ⟨rfl, rfl⟩ q_ml_RX6_145 eM_0 rfl rfl hl.1 rfl (Nat.le_of_ble_eq_true rfl) ⟨Nat.le_of_ble_eq_true rfl, Nat.le_of_ble_eq_true rfl⟩ dX6_findFewest_68 ⟨Nat.zero_le _, Nat.zero_le _⟩) hW (fun r10 u10 H locs hp10 hW => ?_)
                    have hW := hx_congr hW hp10.2
                    refine r_top hp10.1 ?_
                    refine lv_if_eq (tgt := 85) hx hb dX6_findFewest_71 (by decide) (fun c_71_11 => ?_) (fun c_71_11 => ?_)
                    · have c_71_11 := bI_z.mp c_71_11
                      refine lv_iinc (v := nI (z + 1)) (lv' := [(4, .int (nI (z + 1))), (3, .int (nI L)), (2, .int (nI (R ^ L))), (0, .ref (ad 0)), (1, .int (nI q))]) hx hb dX6_findFewest_85 hl (k := 0) rfl (nI_1 _) (by decide) rfl (fun ls hl => ?_)
                      refine lv_goto (tgt := 35) hx hb dX6_findFewest_88 (by decide) ?_
                      exact ih_35 (z + 1) u8 (by omega) (hlg) (by rw [e10, e11]; exact FN_bad (Classical.not_not.mp (not_not_intro c_47_6)) (fun h9 => c_71_11 (by rw [show u8.1 7 = (fw (hM P t) (digR R L z) L 0 (bgM t)).2.2.2.2 from hcu8.2.2.2]; exact h9.2)) hfn3) (by omega) _ _ hW ls (lv_sub hl [0, 1, 2, 3, 4] rfl)
                    · have c_71_11 := bI_nz c_71_11
                      refine lv_aload_n hx hb dX6_findFewest_74 rfl (lv_at hl 3 rfl) ?_
                      refine lv_iload_n hx hb dX6_findFewest_75 rfl (lv_at hl 1 rfl) ?_
                      refine pM_foundLong hC hW q_fl_RX6_165 dX6_findFewest_76 (fun H locs hW => ?_)
                      have hW : HX (wM cs ad) (tyX cs) D A s.heap s (va_up u8.1 10 (nI L), u8.2) H locs := hW
                      refine lv_aload_n hx hb dX6_findFewest_79 rfl (lv_at hl 3 rfl) ?_
                      refine lv_iload hx hb dX6_findFewest_80 (lv_at hl 0 rfl) ?_
                      refine pM_foundNumber hC hW q_fl_RX6_172 dX6_findFewest_82 (fun H locs hW => ?_)
                      have hW : HX (wM cs ad) (tyX cs) D A s.heap s (va_up (va_up u8.1 10 (nI L)) 11 (nI z), u8.2) H locs := hW
                      refine lv_iinc (v := nI (z + 1)) (lv' := [(4, .int (nI (z + 1))), (3, .int (nI L)), (2, .int (nI (R ^ L))), (0, .ref (ad 0)), (1, .int (nI q))]) hx hb dX6_findFewest_85 hl (k := 0) rfl (nI_1 _) (by decide) rfl (fun ls hl => ?_)
                      refine lv_goto (tgt := 35) hx hb dX6_findFewest_88 (by decide) ?_
                      exact ih_35 (z + 1) (va_up (va_up u8.1 10 (nI L)) 11 (nI z), u8.2) (by omega) ((hlg.sc _ (by decide) (by decide)).sc _ (by decide) (by decide)) (FN_good hL1 (by omega) (by omega) c_47_6 ⟨c_63_9, by rw [← show u8.1 7 = (fw (hM P t) (digR R L z) L 0 (bgM t)).2.2.2.2 from hcu8.2.2.2]; exact c_71_11⟩ hfn3) (by omega) _ _ hW ls (lv_sub hl [0, 1, 2, 3, 4] rfl)
          exact loop_35_4 _ 0 u2 (Nat.zero_le _) (hlm2) (hfn2) (Nat.lt_succ_self _) _ _ hW ls (lv_sub hl [0, 2, 1, 3, 4] rfl)
  exact loop_10_1 _ 1 (va_up t.1 10 (-9), t.2) (Nat.le_refl _) (by omega) ((LM.rf t).sc _ (by decide) (by decide)) (FN_0 _ _ _ _ _) (Nat.lt_succ_self _) _ _ hW ls (lv_sub hl [0, 1, 2, 3] rfl)
set_option maxRecDepth 100000 in
set_option maxHeartbeats 4000000 in
theorem m_X6_fewest (l : Launch) (D : va_G) (cs : CS3) (ad : Nat → Nat) (t : St) (b : St) (P R C : Nat) (r k : Int32) (hB : WF b P R C) (hA : AM b t): CT l yX6_fewest cX6_fewest 3 (some .int) (rmk 4 94) (wM cs ad) (tyX cs) D [.ref (ad 0), .int r, .int k] t (va_Qi (fun z u => G_few b P R r k z ∧ AM b u)) := by
  refine CT.of (own := RX6) (by decide) rfl (Nat.le_of_ble_eq_true rfl) ?_
  intro p9 e9 s m9 args below meth c9 A Q hC hr hlk hW hQ ls hl
  obtain ⟨hx, hb, hml, hown, hts⟩ := id hC
  have hl : lv_has ls 3 [(0, .ref (ad 0)), (1, .int r), (2, .int k)] := hl
  obtain ⟨⟨bP, hP8, bR, hR5, bC, hC8, hlen⟩, hl4, hPR, hrg, hrd⟩ := id hB
  obtain ⟨⟨a0, a1, a2, a3, a4⟩, ⟨v4, v5, v6, v7, v8, v16, v17⟩, hsh⟩ := id hA
  have hP : t.1 2 = nI P := a2.trans bP
  have hR : t.1 3 = nI R := a3.trans bR
  have hc4 : t.1 12 = nI C := a4.trans bC
  refine lv_aload_n hx hb dX6_fewest_0 rfl (lv_at hl 0 rfl) ?_
  refine lv_iload_n hx hb dX6_fewest_1 rfl (lv_at hl 1 rfl) ?_
  refine fin_i (run_V (rest := []) hC hW (m_X6_isRider l D cs ad t R r hR) k_yX6_isRider ⟨rfl, rfl⟩ q_ml_RX6_121 eM_0 rfl rfl hl.1 rfl (Nat.le_of_ble_eq_true rfl) ⟨Nat.le_of_ble_eq_true rfl, Nat.le_of_ble_eq_true rfl⟩ dX6_fewest_2 ⟨Nat.zero_le _, Nat.zero_le _⟩) hW (fun r1 u1 H locs hp1 hW => ?_)
  have hW := hx_congr hW hp1.2
  refine r_top hp1.1 ?_
  refine lv_if_eq (tgt := 13) hx hb dX6_fewest_5 (by decide) (fun c_5_2 => ?_) (fun c_5_2 => ?_)
  · have c_5_2 := bI_z.mp c_5_2
    refine lv_iconst (v := (-1)) hx hb dX6_fewest_13 (by decide) ?_
    exact r_ireti hC hr hlk hW hQ (⟨by unfold G_few; rw [if_neg c_5_2], hA⟩) dX6_fewest_14
  · have c_5_2 := bI_nz c_5_2
    obtain ⟨q_r, hq_r, rfl⟩ := inN_ex c_5_2 (by omega)
    refine lv_iload_n hx hb dX6_fewest_8 rfl (lv_at hl 2 rfl) ?_
    refine lv_iconst (v := (-1)) hx hb dX6_fewest_9 (by decide) ?_
    refine lv_icmp_ge (tgt := 15) hx hb dX6_fewest_10 (by decide) (fun c_10_3 => ?_) (fun c_10_3 => ?_)
    · refine lv_aload_n hx hb dX6_fewest_15 rfl (lv_at hl 0 rfl) ?_
      refine lv_iload_n hx hb dX6_fewest_16 rfl (lv_at hl 1 rfl) ?_
      refine fin_v (run_V (rest := []) hC hW (m_X6_findFewest l D cs ad t P R q_r hP hP8 hR hR5 (by omega) (by rw [hA.eb]; intro p hp; exact hrg.2.1 p hp)) k_yX6_findFewest ⟨rfl, rfl⟩ q_ml_RX6_175 eM_0 rfl rfl hl.1 rfl (Nat.le_of_ble_eq_true rfl) ⟨Nat.le_of_ble_eq_true rfl, Nat.le_of_ble_eq_true rfl⟩ dX6_fewest_17 ⟨Nat.zero_le _, Nat.zero_le _⟩) hW (fun u4 H locs hp4 hW => ?_)
      obtain ⟨hlm, hfn⟩ := hp4
      rw [hA.eh P, hA.eb] at hfn
      refine lv_aload_n hx hb dX6_fewest_20 rfl (lv_at hl 0 rfl) ?_
      refine gM_foundLong hC hW q_fl_RX6_165 dX6_fewest_21 ?_
      refine lv_bipush (v := (-9)) hx hb dX6_fewest_24 (by decide) ?_
      refine lv_icmp_eq (tgt := 37) hx hb dX6_fewest_26 (by decide) (fun c_26_5 => ?_) (fun c_26_5 => ?_)
      · refine lv_bipush (v := (-9)) hx hb dX6_fewest_37 (by decide) ?_
        exact r_ireti hC hr hlk hW hQ (⟨by unfold G_few; rw [if_pos c_5_2, if_pos c_10_3, nI_clamp (show q_r < 2 ^ 31 by omega)]; refine ⟨_, _, hfn, ?_⟩; unfold fwV;  rw [if_pos c_26_5], hA.lm hlm⟩) dX6_fewest_39
      · obtain ⟨L0, m0, hL1, hL6, hm0, e10, e11⟩ := FN_ex hR5 c_26_5 hfn
        refine lv_iload_n hx hb dX6_fewest_29 rfl (lv_at hl 2 rfl) ?_
        refine lv_aload_n hx hb dX6_fewest_30 rfl (lv_at hl 0 rfl) ?_
        refine gM_foundLong hC hW q_fl_RX6_165 dX6_fewest_31 ?_
        refine r_top (y := nI L0) e10 ?_
        refine lv_icmp_lt (tgt := 40) hx hb dX6_fewest_34 (by decide) (fun c_34_6 => ?_) (fun c_34_6 => ?_)
        · have hk40 : k < u4.1 10 := by rw [e10]; exact c_34_6
          refine lv_aload_n hx hb dX6_fewest_40 rfl (lv_at hl 0 rfl) ?_
          refine lv_aload_n hx hb dX6_fewest_41 rfl (lv_at hl 0 rfl) ?_
          refine gM_foundNumber hC hW q_fl_RX6_172 dX6_fewest_42 ?_
          refine r_top (y := nI m0) e11 ?_
          refine lv_aload_n hx hb dX6_fewest_45 rfl (lv_at hl 0 rfl) ?_
          refine gM_foundLong hC hW q_fl_RX6_165 dX6_fewest_46 ?_
          refine r_top (y := nI L0) e10 ?_
          refine fin_v (run_V (rest := []) hC hW (m_X6_layRow l D cs ad u4 R m0 L0 ((hlm.1 3 (by omega)).trans hR) (by omega) hR5 (by omega) (by omega)) k_yX6_layRow ⟨rfl, rfl⟩ q_ml_RX6_168 eM_0 rfl rfl hl.1 rfl (Nat.le_of_ble_eq_true rfl) ⟨Nat.le_of_ble_eq_true rfl, Nat.le_of_ble_eq_true rfl⟩ dX6_fewest_49 ⟨Nat.zero_le _, Nat.zero_le _⟩) hW (fun u7 H locs hp7 hW => ?_)
          obtain ⟨hgu7, hnu7, hau7, hsu7⟩ := hp7
          have hlm2 : LM t u7 := ⟨fun k9 h9 => (hgu7 k9 (by omega)).trans (hlm.1 k9 h9), (hgu7 12 (by omega)).trans hlm.2.1, fun k9 h9 => (hau7 k9 (by omega)).trans (hlm.2.2.1 k9 h9), (hau7 16 (by omega)).trans hlm.2.2.2.1, (hau7 17 (by omega)).trans hlm.2.2.2.2⟩
          refine lv_iload_n hx hb dX6_fewest_52 rfl (lv_at hl 2 rfl) ?_
          refine lv_iconst (v := (-1)) hx hb dX6_fewest_53 (by decide) ?_
          refine lv_icmp_ne (tgt := 64) hx hb dX6_fewest_54 (by decide) (fun c_54_8 => ?_) (fun c_54_8 => ?_)
          · obtain ⟨k0, rfl, hk0⟩ := kfew_ex c_10_3 c_54_8 (by rw [← e10]; exact hk40) hL6
            refine lv_aload_n hx hb dX6_fewest_64 rfl (lv_at hl 0 rfl) ?_
            refine gM_step hC hW q_fl_RX6_49 dX6_fewest_65 ?_
            refine lv_iload_n hx hb dX6_fewest_68 rfl (lv_at hl 2 rfl) ?_
            refine r_ildN (t0 := 0) (j := k0) hC hW eM_14 rfl (rfl) (by omega) (by decide) dX6_fewest_69 ?_
            refine r_top (y := nI (digR R L0 m0 k0)) (hsu7 k0 hk0) ?_
            exact r_ireti hC hr hlk hW hQ (⟨by unfold G_few; rw [if_pos c_5_2, if_pos c_10_3, nI_clamp (show q_r < 2 ^ 31 by omega)]; refine ⟨_, _, hfn, ?_⟩; unfold fwV;  rw [if_neg c_26_5, if_pos hk40, if_neg c_54_8, e10, e11, nI_clamp (show L0 < 2 ^ 31 by omega), nI_clamp (show m0 < 2 ^ 31 by omega), nI_clamp (show k0 < 2 ^ 31 by omega)], hA.lm hlm2⟩) dX6_fewest_70
          · refine lv_aload_n hx hb dX6_fewest_57 rfl (lv_at hl 0 rfl) ?_
            refine gM_foundLong hC hW q_fl_RX6_165 dX6_fewest_58 ?_
            refine r_top (y := nI L0) ((hgu7 10 (by omega)).trans e10) ?_
            refine lv_goto (tgt := 70) hx hb dX6_fewest_61 (by decide) ?_
            exact r_ireti hC hr hlk hW hQ (⟨by unfold G_few; rw [if_pos c_5_2, if_pos c_10_3, nI_clamp (show q_r < 2 ^ 31 by omega)]; refine ⟨_, _, hfn, ?_⟩; unfold fwV;  rw [if_neg c_26_5, if_pos hk40, if_pos c_54_8, e10], hA.lm hlm2⟩) dX6_fewest_70
        · refine lv_bipush (v := (-9)) hx hb dX6_fewest_37 (by decide) ?_
          exact r_ireti hC hr hlk hW hQ (⟨by unfold G_few; rw [if_pos c_5_2, if_pos c_10_3, nI_clamp (show q_r < 2 ^ 31 by omega)]; refine ⟨_, _, hfn, ?_⟩; unfold fwV;  rw [if_neg c_26_5, if_neg (by rw [e10]; exact c_34_6)], hA.lm hlm⟩) dX6_fewest_39
    · refine lv_iconst (v := (-1)) hx hb dX6_fewest_13 (by decide) ?_
      exact r_ireti hC hr hlk hW hQ (⟨by unfold G_few; rw [if_pos c_5_2, if_neg (Int32.not_le.mpr (Int32.not_le.mp c_10_3))], hA⟩) dX6_fewest_14
