set_option maxRecDepth 100000 in
set_option maxHeartbeats 4000000 in
theorem m_X6_speeds (l : Launch) (D : va_G) (cs : CS3) (ad : Nat → Nat) (t : St) (b : St) (P R C : Nat) (r x a i n w : Int32) (hB : WF b P R C) (hA : AM b t): CT l yX6_speeds cX6_speeds 12 (some .int) (rmk 4 91) (wM cs ad) (tyX cs) D [.ref (ad 0), .int r, .int x, .int a, .int i, .int n, .int w] t (va_Qi (fun z u => z = (G_speeds b P R C r x a i n w).1 ∧ AM (G_speeds b P R C r x a i n w).2 u)) := by
  refine CT.of (own := RX6) (by decide) rfl (Nat.le_of_ble_eq_true rfl) ?_
  intro p9 e9 s m9 args below meth c9 A Q hC hr hlk hW hQ ls hl
  obtain ⟨hx, hb, hml, hown, hts⟩ := id hC
  have hl : lv_has ls 12 [(0, .ref (ad 0)), (1, .int r), (2, .int x), (3, .int a), (4, .int i), (5, .int n), (6, .int w)] := hl
  obtain ⟨⟨bP, hP8, bR, hR5, bC, hC8, hlen⟩, hl4, hPR, hrg, hrd⟩ := id hB
  obtain ⟨⟨a0, a1, a2, a3, a4⟩, ⟨v4, v5, v6, v7, v8, v16, v17⟩, hsh⟩ := id hA
  have hP : t.1 2 = nI P := a2.trans bP
  have hR : t.1 3 = nI R := a3.trans bR
  have hc4 : t.1 12 = nI C := a4.trans bC
  refine lv_aload_n hx hb dX6_speeds_0 rfl (lv_at hl 0 rfl) ?_
  refine lv_iconst (v := 0) hx hb dX6_speeds_1 (by decide) ?_
  refine pM_fault hC hW q_fl_RX6_61 dX6_speeds_2 (fun H locs hW => ?_)
  have hW : HX (wM cs ad) (tyX cs) D A s.heap s (va_up t.1 0 0, t.2) H locs := hW
  refine lv_aload_n hx hb dX6_speeds_5 rfl (lv_at hl 0 rfl) ?_
  refine lv_iload_n hx hb dX6_speeds_6 rfl (lv_at hl 1 rfl) ?_
  refine fin_i (run_V (rest := []) hC hW (m_X6_isRider l D cs ad (va_up t.1 0 0, t.2) R r hR) k_yX6_isRider ⟨rfl, rfl⟩ q_ml_RX6_121 eM_0 rfl rfl hl.1 rfl (Nat.le_of_ble_eq_true rfl) ⟨Nat.le_of_ble_eq_true rfl, Nat.le_of_ble_eq_true rfl⟩ dX6_speeds_7 ⟨Nat.zero_le _, Nat.zero_le _⟩) hW (fun r1 u1 H locs hp1 hW => ?_)
  have hW := hx_congr hW hp1.2
  refine r_top hp1.1 ?_
  refine lv_if_eq (tgt := 33) hx hb dX6_speeds_10 (by decide) (fun c_10_2 => ?_) (fun c_10_2 => ?_)
  · have c_10_2 := bI_z.mp c_10_2
    refine lv_aload_n hx hb dX6_speeds_33 rfl (lv_at hl 0 rfl) ?_
    refine lv_aload_n hx hb dX6_speeds_34 rfl (lv_at hl 0 rfl) ?_
    refine lv_iload_n hx hb dX6_speeds_35 rfl (lv_at hl 1 rfl) ?_
    refine fin_i (run_V (rest := [.ref (ad 0)]) hC hW (m_X6_isRider l D cs ad (va_up t.1 0 0, t.2) R r hR) k_yX6_isRider ⟨rfl, rfl⟩ q_ml_RX6_121 eM_0 rfl rfl hl.1 rfl (Nat.le_of_ble_eq_true rfl) ⟨Nat.le_of_ble_eq_true rfl, Nat.le_of_ble_eq_true rfl⟩ dX6_speeds_36 ⟨Nat.zero_le _, Nat.zero_le _⟩) hW (fun r3 u3 H locs hp3 hW => ?_)
    have hW := hx_congr hW hp3.2
    refine r_top hp3.1 ?_
    refine lv_iload_n hx hb dX6_speeds_39 rfl (lv_at hl 2 rfl) ?_
    refine lv_iload_n hx hb dX6_speeds_40 rfl (lv_at hl 3 rfl) ?_
    refine lv_iload hx hb dX6_speeds_41 (lv_at hl 4 rfl) ?_
    refine lv_iload hx hb dX6_speeds_43 (lv_at hl 5 rfl) ?_
    refine fin_i (run_V (rest := []) hC hW (m_X6_lay l D cs ad (va_up t.1 0 0, t.2) b P R C (bI (inN r R)) x a i n hB (am_flt hA 0)) k_yX6_lay ⟨rfl, rfl⟩ q_ml_RX6_194 eM_0 rfl rfl hl.1 rfl (Nat.le_of_ble_eq_true rfl) ⟨Nat.le_of_ble_eq_true rfl, Nat.le_of_ble_eq_true rfl⟩ dX6_speeds_45 ⟨Nat.zero_le _, Nat.zero_le _⟩) hW (fun r4 u4 H locs hp4 hW => ?_)
    obtain ⟨hru4, hAu4, hsu4⟩ := hp4
    refine lv_istore (lv' := [(7, .int r4), (0, .ref (ad 0)), (1, .int r), (2, .int x), (3, .int a), (4, .int i), (5, .int n), (6, .int w)]) hx hb dX6_speeds_48 hl (by decide) rfl (fun ls hl => ?_)
    refine lv_iload hx hb dX6_speeds_50 (lv_at hl 0 rfl) ?_
    refine lv_if_eq (tgt := 58) hx hb dX6_speeds_52 (by decide) (fun c_52_5 => ?_) (fun c_52_5 => ?_)
    · have hrz : r4 = 0 := c_52_5
      obtain ⟨hkn, hr0, hrn⟩ := rn0 (hru4.symm.trans hrz)
      have hkn := bI_nz hkn
      exact absurd hkn c_10_2
    · refine lv_iload hx hb dX6_speeds_55 (lv_at hl 0 rfl) ?_
      have hwe : rnF b P R (bI (inN r R)) x a i n (bI (0 ≤ w ∧ w ≤ 1)) = rnF b P R (bI (inN r R)) x a i n 1 := rn_w (Or.inl (bI_f c_10_2).symm)
      have hF : G_speeds b P R C r x a i n w = ((rnF b P R (bI (inN r R)) x a i n 1).1, flt b (rnF b P R (bI (inN r R)) x a i n 1).2) := by unfold G_speeds; rw [hwe, if_pos (by rw [← hru4]; exact c_52_5)]
      exact r_ireti hC hr hlk hW hQ (⟨by rw [hF]; exact hru4, by rw [hF]; exact hAu4⟩) dX6_speeds_57
  · have c_10_2 := bI_nz c_10_2
    obtain ⟨q_r, hq_r, rfl⟩ := inN_ex c_10_2 (by omega)
    refine lv_iload_n hx hb dX6_speeds_13 rfl (lv_at hl 2 rfl) ?_
    refine fin_pi (run_P (rest := []) hC hW.2.2.2.2.2 (m_X6_isSheet l x) k_yX6_isSheet ⟨rfl, rfl⟩ q_ml_RX6_80 rfl hl.1 rfl (Nat.le_of_ble_eq_true rfl) ⟨Nat.le_of_ble_eq_true rfl, Nat.le_of_ble_eq_true rfl⟩ dX6_speeds_14 ⟨Nat.zero_le _, Nat.zero_le _⟩) (fun rz9 hr9 => ?_)
    refine r_top hr9 ?_
    refine lv_if_eq (tgt := 33) hx hb dX6_speeds_17 (by decide) (fun c_17_6 => ?_) (fun c_17_6 => ?_)
    · have c_17_6 := bI_z.mp c_17_6
      refine lv_aload_n hx hb dX6_speeds_33 rfl (lv_at hl 0 rfl) ?_
      refine lv_aload_n hx hb dX6_speeds_34 rfl (lv_at hl 0 rfl) ?_
      refine lv_iload_n hx hb dX6_speeds_35 rfl (lv_at hl 1 rfl) ?_
      refine fin_i (run_V (rest := [.ref (ad 0)]) hC hW (m_X6_isRider l D cs ad (va_up t.1 0 0, t.2) R (nI q_r) hR) k_yX6_isRider ⟨rfl, rfl⟩ q_ml_RX6_121 eM_0 rfl rfl hl.1 rfl (Nat.le_of_ble_eq_true rfl) ⟨Nat.le_of_ble_eq_true rfl, Nat.le_of_ble_eq_true rfl⟩ dX6_speeds_36 ⟨Nat.zero_le _, Nat.zero_le _⟩) hW (fun r7 u7 H locs hp7 hW => ?_)
      have hW := hx_congr hW hp7.2
      refine r_top hp7.1 ?_
      refine lv_iload_n hx hb dX6_speeds_39 rfl (lv_at hl 2 rfl) ?_
      refine lv_iload_n hx hb dX6_speeds_40 rfl (lv_at hl 3 rfl) ?_
      refine lv_iload hx hb dX6_speeds_41 (lv_at hl 4 rfl) ?_
      refine lv_iload hx hb dX6_speeds_43 (lv_at hl 5 rfl) ?_
      refine fin_i (run_V (rest := []) hC hW (m_X6_lay l D cs ad (va_up t.1 0 0, t.2) b P R C (bI (inN (nI q_r) R)) x a i n hB (am_flt hA 0)) k_yX6_lay ⟨rfl, rfl⟩ q_ml_RX6_194 eM_0 rfl rfl hl.1 rfl (Nat.le_of_ble_eq_true rfl) ⟨Nat.le_of_ble_eq_true rfl, Nat.le_of_ble_eq_true rfl⟩ dX6_speeds_45 ⟨Nat.zero_le _, Nat.zero_le _⟩) hW (fun r8 u8 H locs hp8 hW => ?_)
      obtain ⟨hru8, hAu8, hsu8⟩ := hp8
      refine lv_istore (lv' := [(7, .int r8), (0, .ref (ad 0)), (1, .int (nI q_r)), (2, .int x), (3, .int a), (4, .int i), (5, .int n), (6, .int w)]) hx hb dX6_speeds_48 hl (by decide) rfl (fun ls hl => ?_)
      refine lv_iload hx hb dX6_speeds_50 (lv_at hl 0 rfl) ?_
      refine lv_if_eq (tgt := 58) hx hb dX6_speeds_52 (by decide) (fun c_52_9 => ?_) (fun c_52_9 => ?_)
      · have hrz : r8 = 0 := c_52_9
        obtain ⟨hkn, hr0, hrn⟩ := rn0 (hru8.symm.trans hrz)
        have hkn := bI_nz hkn
        obtain ⟨k, _, _, hk4, rfl, _⟩ := rs0 hlen hr0
        exact absurd ⟨nI_pos' (show k < 2 ^ 31 by omega), nI_le (a := k) (b := 3) (by omega) (by decide)⟩ c_17_6
      · refine lv_iload hx hb dX6_speeds_55 (lv_at hl 0 rfl) ?_
        have hwe : rnF b P R (bI (inN (nI q_r) R)) x a i n (bI (0 ≤ w ∧ w ≤ 1)) = rnF b P R (bI (inN (nI q_r) R)) x a i n 1 := rn_w (Or.inr (Or.inl c_17_6))
        have hF : G_speeds b P R C (nI q_r) x a i n w = ((rnF b P R (bI (inN (nI q_r) R)) x a i n 1).1, flt b (rnF b P R (bI (inN (nI q_r) R)) x a i n 1).2) := by unfold G_speeds; rw [hwe, if_pos (by rw [← hru8]; exact c_52_9)]
        exact r_ireti hC hr hlk hW hQ (⟨by rw [hF]; exact hru8, by rw [hF]; exact hAu8⟩) dX6_speeds_57
    · have c_17_6 := bI_nz c_17_6
      refine lv_iload hx hb dX6_speeds_20 (lv_at hl 6 rfl) ?_
      refine lv_iconst (v := 0) hx hb dX6_speeds_22 (by decide) ?_
      refine lv_iconst (v := 1) hx hb dX6_speeds_23 (by decide) ?_
      refine fin_pi (run_P (rest := []) hC hW.2.2.2.2.2 (m_X6_within l w 0 1) k_yX6_within ⟨rfl, rfl⟩ q_ml_RX6_67 rfl hl.1 rfl (Nat.le_of_ble_eq_true rfl) ⟨Nat.le_of_ble_eq_true rfl, Nat.le_of_ble_eq_true rfl⟩ dX6_speeds_24 ⟨Nat.zero_le _, Nat.zero_le _⟩) (fun rz9 hr9 => ?_)
      refine r_top hr9 ?_
      refine lv_if_ne (tgt := 33) hx hb dX6_speeds_27 (by decide) (fun c_27_10 => ?_) (fun c_27_10 => ?_)
      · have c_27_10 := bI_nz c_27_10
        refine lv_aload_n hx hb dX6_speeds_33 rfl (lv_at hl 0 rfl) ?_
        refine lv_aload_n hx hb dX6_speeds_34 rfl (lv_at hl 0 rfl) ?_
        refine lv_iload_n hx hb dX6_speeds_35 rfl (lv_at hl 1 rfl) ?_
        refine fin_i (run_V (rest := [.ref (ad 0)]) hC hW (m_X6_isRider l D cs ad (va_up t.1 0 0, t.2) R (nI q_r) hR) k_yX6_isRider ⟨rfl, rfl⟩ q_ml_RX6_121 eM_0 rfl rfl hl.1 rfl (Nat.le_of_ble_eq_true rfl) ⟨Nat.le_of_ble_eq_true rfl, Nat.le_of_ble_eq_true rfl⟩ dX6_speeds_36 ⟨Nat.zero_le _, Nat.zero_le _⟩) hW (fun r11 u11 H locs hp11 hW => ?_)
        have hW := hx_congr hW hp11.2
        refine r_top hp11.1 ?_
        refine lv_iload_n hx hb dX6_speeds_39 rfl (lv_at hl 2 rfl) ?_
        refine lv_iload_n hx hb dX6_speeds_40 rfl (lv_at hl 3 rfl) ?_
        refine lv_iload hx hb dX6_speeds_41 (lv_at hl 4 rfl) ?_
        refine lv_iload hx hb dX6_speeds_43 (lv_at hl 5 rfl) ?_
        refine fin_i (run_V (rest := []) hC hW (m_X6_lay l D cs ad (va_up t.1 0 0, t.2) b P R C (bI (inN (nI q_r) R)) x a i n hB (am_flt hA 0)) k_yX6_lay ⟨rfl, rfl⟩ q_ml_RX6_194 eM_0 rfl rfl hl.1 rfl (Nat.le_of_ble_eq_true rfl) ⟨Nat.le_of_ble_eq_true rfl, Nat.le_of_ble_eq_true rfl⟩ dX6_speeds_45 ⟨Nat.zero_le _, Nat.zero_le _⟩) hW (fun r12 u12 H locs hp12 hW => ?_)
        obtain ⟨hru12, hAu12, hsu12⟩ := hp12
        refine lv_istore (lv' := [(7, .int r12), (0, .ref (ad 0)), (1, .int (nI q_r)), (2, .int x), (3, .int a), (4, .int i), (5, .int n), (6, .int w)]) hx hb dX6_speeds_48 hl (by decide) rfl (fun ls hl => ?_)
        refine lv_iload hx hb dX6_speeds_50 (lv_at hl 0 rfl) ?_
        refine lv_if_eq (tgt := 58) hx hb dX6_speeds_52 (by decide) (fun c_52_13 => ?_) (fun c_52_13 => ?_)
        · have hrz : r12 = 0 := c_52_13
          obtain ⟨hkn, hr0, hrn⟩ := rn0 (hru12.symm.trans hrz)
          have hkn := bI_nz hkn
          have hwe : rnF b P R (bI (inN (nI q_r) R)) x a i n (bI (0 ≤ w ∧ w ≤ 1)) = rnF b P R (bI (inN (nI q_r) R)) x a i n 1 := rn_w (Or.inr (Or.inr c_27_10))
          obtain ⟨k, i0, n0, hk4, rfl, rfl, rfl, hin60, h7, hP0, hst, hrs2⟩ := rs0 hlen hr0
          have hstp := stp_ok (t := b) hk4 (by omega) hR5 hst
          have hs8 : u12.1 8 = nI n0 := (hsu12 hrz).1
          have hsu : ∀ z, z < n0 → u12.2 14 z = nI (stpF b (nI k) (nI i0) z) ∧ (stpF b (nI k) (nI i0) z = 5 ∨ stpF b (nI k) (nI i0) z < R) := fun z hz => ⟨((hsu12 hrz).2 z (by rw [nI_clamp (by omega)]; exact hz)).trans (by rw [nI_clamp (show k < 2 ^ 31 by omega), nI_clamp (show i0 < 2 ^ 31 by omega)]; exact (hstp z hz).1), (hstp z hz).2⟩
          have hAL : AM (flt b 0) u12 := by rw [hrn, hrs2] at hAu12; exact hAu12
          have hn30 : n0 ≤ 30 := (nI_leI (a := n0) (b := 30) (by omega) (by decide)).mp (bI_nz h7).2.2
          refine lv_aload_n hx hb dX6_speeds_58 rfl (lv_at hl 1 rfl) ?_
          refine gM_speedOf hC hW q_fl_RX6_28 dX6_speeds_59 ?_
          refine lv_iload_n hx hb dX6_speeds_62 rfl (lv_at hl 2 rfl) ?_
          refine r_ildN (t0 := 0) (j := q_r) hC hW eM_7 rfl (rfl) (by omega) (by decide) dX6_speeds_63 ?_
          refine r_top (y := b.2 5 q_r) (congrFun hAL.2.1.2.2.2.1 _) ?_
          refine lv_istore (lv' := [(8, .int (b.2 5 q_r)), (7, .int r12), (0, .ref (ad 0)), (1, .int (nI q_r)), (2, .int (nI k)), (3, .int a), (4, .int (nI i0)), (5, .int (nI n0)), (6, .int w)]) hx hb dX6_speeds_64 hl (by decide) rfl (fun ls hl => ?_)
          refine lv_iconst (v := 0) hx hb dX6_speeds_66 (by decide) ?_
          refine lv_istore (lv' := [(9, .int 0), (8, .int (b.2 5 q_r)), (7, .int r12), (0, .ref (ad 0)), (1, .int (nI q_r)), (2, .int (nI k)), (3, .int a), (4, .int (nI i0)), (5, .int (nI n0)), (6, .int w)]) hx hb dX6_speeds_67 hl (by decide) rfl (fun ls hl => ?_)
          refine lv_bipush (v := (-9)) hx hb dX6_speeds_69 (by decide) ?_
          refine lv_istore (lv' := [(10, .int (-9)), (9, .int 0), (8, .int (b.2 5 q_r)), (7, .int r12), (0, .ref (ad 0)), (1, .int (nI q_r)), (2, .int (nI k)), (3, .int a), (4, .int (nI i0)), (5, .int (nI n0)), (6, .int w)]) hx hb dX6_speeds_71 hl (by decide) rfl (fun ls hl => ?_)
          refine lv_iconst (v := 0) hx hb dX6_speeds_73 (by decide) ?_
          refine lv_istore (lv' := [(11, .int 0), (10, .int (-9)), (9, .int 0), (8, .int (b.2 5 q_r)), (7, .int r12), (0, .ref (ad 0)), (1, .int (nI q_r)), (2, .int (nI k)), (3, .int a), (4, .int (nI i0)), (5, .int (nI n0)), (6, .int w)]) hx hb dX6_speeds_74 hl (by decide) rfl (fun ls hl => ?_)
          have loop_76_14 : ∀ (f9 : Nat) (v : Nat) (yc : Int32) (yl : Int32) (y9 : Int32) (w8 : St), (v ≤ 100) → (AM (exS (flt b 0) 5 q_r y9) w8) → (w8.1 8 = nI n0) → (∀ z, z < n0 → w8.2 14 z = nI ((stpF b (nI k) (nI i0)) z) ∧ ((stpF b (nI k) (nI i0)) z = 5 ∨ (stpF b (nI k) (nI i0)) z < R)) → (spdU (fun v => bI (seenP P R C (exS b 5 q_r (nI v)) (stpF b (nI k) (nI i0)) n0)) (100 - v) v yc yl = spdU (fun v => bI (seenP P R C (exS b 5 q_r (nI v)) (stpF b (nI k) (nI i0)) n0)) 100 0 0 (-9)) → 100 - v < f9 → ∀ (H : Heap) (locs : List Loc), HX (wM cs ad) (tyX cs) D A s.heap s w8 H locs → ∀ ls : Array Slot, lv_has ls 12 [(11, .int (nI v)), (10, .int yl), (9, .int yc), (8, .int (b.2 5 q_r)), (0, .ref (ad 0)), (1, .int (nI q_r)), (6, .int w)] → W p9 l e9 (rmk 4 91) s m9 args below meth c9 H locs 0 0 Q (F0 m9 76 ls []) := by
            intro f_76
            induction f_76 with
            | zero => intro v yc yl y9 w8 hv hAw hn8 hsw hE hm_76 H locs hW ls hl; exact absurd hm_76 (Nat.not_lt_zero _)
            | succ f_76 ih_76 =>
              intro v yc yl y9 w8 hv hAw hn8 hsw hE hm_76 H locs hW ls hl
              refine lv_iload hx hb dX6_speeds_76 (lv_at hl 0 rfl) ?_
              refine lv_bipush (v := 99) hx hb dX6_speeds_78 (by decide) ?_
              refine lv_icmp_gt (tgt := 121) hx hb dX6_speeds_80 (by decide) (fun c_80_15 => ?_) (fun c_80_15 => ?_)
              · have c_80_15 : 99 < v := (nI_ltI (a := 99) (b := v) (by omega) (by omega)).mp c_80_15
                refine lv_aload_n hx hb dX6_speeds_121 rfl (lv_at hl 4 rfl) ?_
                refine gM_speedOf hC hW q_fl_RX6_28 dX6_speeds_122 ?_
                refine lv_iload_n hx hb dX6_speeds_125 rfl (lv_at hl 5 rfl) ?_
                refine lv_iload hx hb dX6_speeds_126 (lv_at hl 3 rfl) ?_
                refine r_istN (t0 := 0) (j := q_r) hC hW eM_7 rfl (rfl) (by omega) (by decide) (sM_7 _) dX6_speeds_128 (fun H locs hW => ?_)
                have hW : HX (wM cs ad) (tyX cs) D A s.heap s (w8.1, va_up w8.2 7 (upd (w8.2 7) q_r (b.2 5 q_r))) H locs := hW
                refine lv_iload hx hb dX6_speeds_129 (lv_at hl 6 rfl) ?_
                refine lv_if_ne (tgt := 139) hx hb dX6_speeds_131 (by decide) (fun c_131_16 => ?_) (fun c_131_16 => ?_)
                · refine lv_iload hx hb dX6_speeds_139 (lv_at hl 1 rfl) ?_
                  have hv10 : v = 100 := by omega
                  rw [hv10, Nat.sub_self] at hE
                  have hF : G_speeds b P R C (nI q_r) (nI k) a (nI i0) (nI n0) w = (yl, flt b 0) := by unfold G_speeds; rw [hwe, if_neg (not_not_intro (by rw [hrn]; exact hr0)), nI_clamp (show n0 < 2 ^ 31 by omega), nI_clamp (show q_r < 2 ^ 31 by omega), ← hE, if_neg c_131_16] <;> rfl
                  have hfin := am_ex (b.2 5 q_r) hAw (show (5 = 2 ∧ 7 = 4) ∨ (5 = 3 ∧ 7 = 5) ∨ (5 = 4 ∧ 7 = 6) ∨ (5 = 5 ∧ 7 = 7) ∨ (5 = 6 ∧ 7 = 8) from by decide)
                  rw [show exS (flt b 0) 5 q_r (b.2 5 q_r) = flt b 0 from exS_id (flt b 0) 5 q_r] at hfin
                  exact r_ireti hC hr hlk hW hQ (⟨by rw [hF], by rw [hF]; exact hfin⟩) dX6_speeds_141
                · refine lv_iload hx hb dX6_speeds_134 (lv_at hl 2 rfl) ?_
                  refine lv_goto (tgt := 141) hx hb dX6_speeds_136 (by decide) ?_
                  have hv10 : v = 100 := by omega
                  rw [hv10, Nat.sub_self] at hE
                  have hF : G_speeds b P R C (nI q_r) (nI k) a (nI i0) (nI n0) w = (yc, flt b 0) := by unfold G_speeds; rw [hwe, if_neg (not_not_intro (by rw [hrn]; exact hr0)), nI_clamp (show n0 < 2 ^ 31 by omega), nI_clamp (show q_r < 2 ^ 31 by omega), ← hE, if_pos c_131_16] <;> rfl
                  have hfin := am_ex (b.2 5 q_r) hAw (show (5 = 2 ∧ 7 = 4) ∨ (5 = 3 ∧ 7 = 5) ∨ (5 = 4 ∧ 7 = 6) ∨ (5 = 5 ∧ 7 = 7) ∨ (5 = 6 ∧ 7 = 8) from by decide)
                  rw [show exS (flt b 0) 5 q_r (b.2 5 q_r) = flt b 0 from exS_id (flt b 0) 5 q_r] at hfin
                  exact r_ireti hC hr hlk hW hQ (⟨by rw [hF], by rw [hF]; exact hfin⟩) dX6_speeds_141
              · have c_80_15 : ¬ 99 < v := fun h => c_80_15 ((nI_ltI (a := 99) (b := v) (by omega) (by omega)).mpr h)
                refine lv_aload_n hx hb dX6_speeds_83 rfl (lv_at hl 4 rfl) ?_
                refine gM_speedOf hC hW q_fl_RX6_28 dX6_speeds_84 ?_
                refine lv_iload_n hx hb dX6_speeds_87 rfl (lv_at hl 5 rfl) ?_
                refine lv_iload hx hb dX6_speeds_88 (lv_at hl 0 rfl) ?_
                refine r_istN (t0 := 0) (j := q_r) hC hW eM_7 rfl (rfl) (by omega) (by decide) (sM_7 _) dX6_speeds_90 (fun H locs hW => ?_)
                have hW : HX (wM cs ad) (tyX cs) D A s.heap s (w8.1, va_up w8.2 7 (upd (w8.2 7) q_r (nI v))) H locs := hW
                have hA8 := am_ex (nI v) hAw (show (5 = 2 ∧ 7 = 4) ∨ (5 = 3 ∧ 7 = 5) ∨ (5 = 4 ∧ 7 = 6) ∨ (5 = 5 ∧ 7 = 7) ∨ (5 = 6 ∧ 7 = 8) from by decide)
                obtain ⟨v9, ev9⟩ : ∃ z : St, z = (w8.1, va_up w8.2 7 (upd (w8.2 7) q_r (nI v))) := ⟨_, rfl⟩
                have hA9 : AM (exS (flt b 0) 5 q_r (nI v)) v9 := by rw [ev9]; exact hA8
                have hf9 := am_f hB hA9 (by decide) (by decide)
                have hn9 : v9.1 8 = nI n0 := by rw [ev9]; exact hn8
                have hs9 : ∀ z, z < n0 → v9.2 14 z = nI ((stpF b (nI k) (nI i0)) z) ∧ ((stpF b (nI k) (nI i0)) z = 5 ∨ (stpF b (nI k) (nI i0)) z < R) := by rw [ev9]; exact hsw
                have hW : HX (wM cs ad) (tyX cs) D A s.heap s v9 H locs := hx_congr hW ev9.symm
                refine lv_aload_n hx hb dX6_speeds_91 rfl (lv_at hl 4 rfl) ?_
                refine fin_i (run_V (rest := []) hC hW (m_X6_areSo l D cs ad v9 P R C (stpF b (nI k) (nI i0)) n0 hf9.1 hP8 hf9.2.1 hR5 hf9.2.2.1 hC8 hf9.2.2.2.1 hn9 hn30 hs9 hf9.2.2.2.2) k_yX6_areSo ⟨rfl, rfl⟩ q_ml_RX6_198 eM_0 rfl rfl hl.1 rfl (Nat.le_of_ble_eq_true rfl) ⟨Nat.le_of_ble_eq_true rfl, Nat.le_of_ble_eq_true rfl⟩ dX6_speeds_92 ⟨Nat.zero_le _, Nat.zero_le _⟩) hW (fun r17 u17 H locs hp17 hW => ?_)
                obtain ⟨hru17, hgu17⟩ := hp17
                have hAu17 := hA9.lm hgu17.lm
                refine r_top (hru17.trans (bI_c (am_seen hA9))) ?_
                refine lv_if_eq (tgt := 115) hx hb dX6_speeds_95 (by decide) (fun c_95_18 => ?_) (fun c_95_18 => ?_)
                · have c_95_18 := bI_z.mp c_95_18
                  refine lv_iinc (v := nI (v + 1)) (lv' := [(11, .int (nI (v + 1))), (10, .int yl), (9, .int yc), (8, .int (b.2 5 q_r)), (0, .ref (ad 0)), (1, .int (nI q_r)), (6, .int w)]) hx hb dX6_speeds_115 hl (k := 0) rfl (nI_1 _) (by decide) rfl (fun ls hl => ?_)
                  refine lv_goto (tgt := 76) hx hb dX6_speeds_118 (by decide) ?_
                  exact ih_76 (v + 1) yc yl (nI v) u17 (by omega) (hAu17) ((hgu17.1 8 (by omega) (by omega)).trans hn9) (fun z hz => ⟨(congrFun (hgu17.2 14 (by omega) (by omega) (by omega)) z).trans (hs9 z hz).1, (hs9 z hz).2⟩) (by rw [← hE, show 100 - v = (100 - (v + 1)) + 1 by omega, spdU, if_pos (bI_z.mpr c_95_18)]) (by omega) _ _ hW ls (lv_sub hl [0, 1, 2, 3, 4, 5, 6] rfl)
                · have c_95_18 := bI_nz c_95_18
                  refine lv_iload hx hb dX6_speeds_98 (lv_at hl 2 rfl) ?_
                  refine lv_if_ne (tgt := 108) hx hb dX6_speeds_100 (by decide) (fun c_100_19 => ?_) (fun c_100_19 => ?_)
                  · refine lv_iload hx hb dX6_speeds_108 (lv_at hl 1 rfl) ?_
                    refine lv_istore (lv' := [(10, .int yl), (11, .int (nI v)), (9, .int yc), (8, .int (b.2 5 q_r)), (0, .ref (ad 0)), (1, .int (nI q_r)), (6, .int w)]) hx hb dX6_speeds_110 hl (by decide) rfl (fun ls hl => ?_)
                    refine lv_iinc (v := yc + 1) (lv' := [(9, .int (yc + 1)), (10, .int yl), (11, .int (nI v)), (8, .int (b.2 5 q_r)), (0, .ref (ad 0)), (1, .int (nI q_r)), (6, .int w)]) hx hb dX6_speeds_112 hl (k := 2) rfl (rfl) (by decide) rfl (fun ls hl => ?_)
                    refine lv_iinc (v := nI (v + 1)) (lv' := [(11, .int (nI (v + 1))), (9, .int (yc + 1)), (10, .int yl), (8, .int (b.2 5 q_r)), (0, .ref (ad 0)), (1, .int (nI q_r)), (6, .int w)]) hx hb dX6_speeds_115 hl (k := 2) rfl (nI_1 _) (by decide) rfl (fun ls hl => ?_)
                    refine lv_goto (tgt := 76) hx hb dX6_speeds_118 (by decide) ?_
                    exact ih_76 (v + 1) (yc + 1) yl (nI v) u17 (by omega) (hAu17) ((hgu17.1 8 (by omega) (by omega)).trans hn9) (fun z hz => ⟨(congrFun (hgu17.2 14 (by omega) (by omega) (by omega)) z).trans (hs9 z hz).1, (hs9 z hz).2⟩) (by rw [← hE, show 100 - v = (100 - (v + 1)) + 1 by omega, spdU, if_neg (fun h9 => bI_z.mp h9 c_95_18), if_neg c_100_19]) (by omega) _ _ hW ls (lv_sub hl [0, 2, 1, 3, 4, 5, 6] rfl)
                  · refine lv_iload hx hb dX6_speeds_103 (lv_at hl 0 rfl) ?_
                    refine lv_goto (tgt := 110) hx hb dX6_speeds_105 (by decide) ?_
                    refine lv_istore (lv' := [(10, .int (nI v)), (11, .int (nI v)), (9, .int yc), (8, .int (b.2 5 q_r)), (0, .ref (ad 0)), (1, .int (nI q_r)), (6, .int w)]) hx hb dX6_speeds_110 hl (by decide) rfl (fun ls hl => ?_)
                    refine lv_iinc (v := yc + 1) (lv' := [(9, .int (yc + 1)), (10, .int (nI v)), (11, .int (nI v)), (8, .int (b.2 5 q_r)), (0, .ref (ad 0)), (1, .int (nI q_r)), (6, .int w)]) hx hb dX6_speeds_112 hl (k := 2) rfl (rfl) (by decide) rfl (fun ls hl => ?_)
                    refine lv_iinc (v := nI (v + 1)) (lv' := [(11, .int (nI (v + 1))), (9, .int (yc + 1)), (10, .int (nI v)), (8, .int (b.2 5 q_r)), (0, .ref (ad 0)), (1, .int (nI q_r)), (6, .int w)]) hx hb dX6_speeds_115 hl (k := 2) rfl (nI_1 _) (by decide) rfl (fun ls hl => ?_)
                    refine lv_goto (tgt := 76) hx hb dX6_speeds_118 (by decide) ?_
                    exact ih_76 (v + 1) (yc + 1) (nI v) (nI v) u17 (by omega) (hAu17) ((hgu17.1 8 (by omega) (by omega)).trans hn9) (fun z hz => ⟨(congrFun (hgu17.2 14 (by omega) (by omega) (by omega)) z).trans (hs9 z hz).1, (hs9 z hz).2⟩) (by rw [← hE, show 100 - v = (100 - (v + 1)) + 1 by omega, spdU, if_neg (fun h9 => bI_z.mp h9 c_95_18), if_pos c_100_19]) (by omega) _ _ hW ls (lv_sub hl [0, 2, 1, 3, 4, 5, 6] rfl)
          exact loop_76_14 _ 0 0 (-9) (b.2 5 q_r) u12 (Nat.zero_le _) (hAL.id0 5 q_r) (hs8) (hsu) (rfl) (Nat.lt_succ_self _) _ _ hW ls (lv_sub hl [0, 1, 2, 3, 5, 6, 11] rfl)
        · refine lv_iload hx hb dX6_speeds_55 (lv_at hl 0 rfl) ?_
          have hwe : rnF b P R (bI (inN (nI q_r) R)) x a i n (bI (0 ≤ w ∧ w ≤ 1)) = rnF b P R (bI (inN (nI q_r) R)) x a i n 1 := rn_w (Or.inr (Or.inr c_27_10))
          have hF : G_speeds b P R C (nI q_r) x a i n w = ((rnF b P R (bI (inN (nI q_r) R)) x a i n 1).1, flt b (rnF b P R (bI (inN (nI q_r) R)) x a i n 1).2) := by unfold G_speeds; rw [hwe, if_pos (by rw [← hru12]; exact c_52_13)]
          exact r_ireti hC hr hlk hW hQ (⟨by rw [hF]; exact hru12, by rw [hF]; exact hAu12⟩) dX6_speeds_57
      · have c_27_10 := bI_z.mp c_27_10
        refine lv_bipush (v := (-2)) hx hb dX6_speeds_30 (by decide) ?_
        have hF : G_speeds b P R C (nI q_r) x a i n w = (-2, flt b 0) := by unfold G_speeds; rw [rn_no (by rw [← bI_t c_10_2]; decide) c_17_6 c_27_10]; rfl
        exact r_ireti hC hr hlk hW hQ (⟨by rw [hF], by rw [hF]; exact am_flt hA 0⟩) dX6_speeds_32
set_option maxRecDepth 100000 in
set_option maxHeartbeats 4000000 in
theorem m_X6_tellDays (l : Launch) (D : va_G) (cs : CS3) (ad : Nat → Nat) (t : St) (P R : Nat) (w : Int32) (hP : t.1 2 = nI P) (hP8 : P ≤ 8) (hR : t.1 3 = nI R) (hR5 : R ≤ 5): CT l yX6_tellDays cX6_tellDays 2 (some .int) (rmk 1 21) (wM cs ad) (tyX cs) D [.ref (ad 0), .int w] t (va_Qi (fun r u => r = tdF t P R w ∧ u = t)) := by
  refine CT.of (own := RX6) (by decide) rfl (Nat.le_of_ble_eq_true rfl) ?_
  intro p9 e9 s m9 args below meth c9 A Q hC hr hlk hW hQ ls hl
  obtain ⟨hx, hb, hml, hown, hts⟩ := id hC
  have hl : lv_has ls 2 [(0, .ref (ad 0)), (1, .int w)] := hl
  refine lv_iload_n hx hb dX6_tellDays_0 rfl (lv_at hl 1 rfl) ?_
  refine lv_bipush (v := 10) hx hb dX6_tellDays_1 (by decide) ?_
  refine lv_icmp_ge (tgt := 22) hx hb dX6_tellDays_3 (by decide) (fun c_3_1 => ?_) (fun c_3_1 => ?_)
  · refine lv_iload_n hx hb dX6_tellDays_22 rfl (lv_at hl 1 rfl) ?_
    refine lv_bipush (v := 20) hx hb dX6_tellDays_23 (by decide) ?_
    refine lv_icmp_ge (tgt := 54) hx hb dX6_tellDays_25 (by decide) (fun c_25_2 => ?_) (fun c_25_2 => ?_)
    · refine lv_aload_n hx hb dX6_tellDays_54 rfl (lv_at hl 0 rfl) ?_
      refine lv_iload_n hx hb dX6_tellDays_55 rfl (lv_at hl 1 rfl) ?_
      refine lv_bipush (v := 20) hx hb dX6_tellDays_56 (by decide) ?_
      refine lv_isub hx hb dX6_tellDays_58 ?_
      refine fin_i (run_V (rest := []) hC hW (m_X6_isRider l D cs ad t R (w - 20) hR) k_yX6_isRider ⟨rfl, rfl⟩ q_ml_RX6_121 eM_0 rfl rfl hl.1 rfl (Nat.le_of_ble_eq_true rfl) ⟨Nat.le_of_ble_eq_true rfl, Nat.le_of_ble_eq_true rfl⟩ dX6_tellDays_59 ⟨Nat.zero_le _, Nat.zero_le _⟩) hW (fun r3 u3 H locs hp3 hW => ?_)
      have hW := hx_congr hW hp3.2
      refine r_top hp3.1 ?_
      refine lv_if_eq (tgt := 77) hx hb dX6_tellDays_62 (by decide) (fun c_62_4 => ?_) (fun c_62_4 => ?_)
      · have c_62_4 := bI_z.mp c_62_4
        refine lv_bipush (v := (-9)) hx hb dX6_tellDays_77 (by decide) ?_
        exact r_ireti hC hr hlk hW hQ (⟨by unfold tdF; rw [if_neg (Int32.not_lt.mpr c_3_1), if_neg (Int32.not_lt.mpr c_25_2), if_neg c_62_4] <;> rfl, rfl⟩) dX6_tellDays_79
      · have c_62_4 := bI_nz c_62_4
        obtain ⟨q9, hq9, eq9⟩ := inN_ex c_62_4 (by omega)
        refine lv_aload_n hx hb dX6_tellDays_65 rfl (lv_at hl 0 rfl) ?_
        refine gM_height hC hW q_fl_RX6_46 dX6_tellDays_66 ?_
        refine lv_iload_n hx hb dX6_tellDays_69 rfl (lv_at hl 1 rfl) ?_
        refine lv_bipush (v := 20) hx hb dX6_tellDays_70 (by decide) ?_
        refine lv_isub hx hb dX6_tellDays_72 ?_
        refine r_top (y := nI q9) eq9 ?_
        refine r_ildN (t0 := 0) (j := q9) hC hW eM_13 rfl (rfl) (by omega) (by decide) dX6_tellDays_73 ?_
        refine lv_goto (tgt := 79) hx hb dX6_tellDays_74 (by decide) ?_
        exact r_ireti hC hr hlk hW hQ (⟨by unfold tdF; rw [if_neg (Int32.not_lt.mpr c_3_1), if_neg (Int32.not_lt.mpr c_25_2), if_pos c_62_4, eq9, nI_clamp (show q9 < 2 ^ 31 by omega)] <;> rfl, rfl⟩) dX6_tellDays_79
    · refine lv_aload_n hx hb dX6_tellDays_28 rfl (lv_at hl 0 rfl) ?_
      refine lv_iload_n hx hb dX6_tellDays_29 rfl (lv_at hl 1 rfl) ?_
      refine lv_bipush (v := 10) hx hb dX6_tellDays_30 (by decide) ?_
      refine lv_isub hx hb dX6_tellDays_32 ?_
      refine fin_i (run_V (rest := []) hC hW (m_X6_isPace l D cs ad t P (w - 10) hP) k_yX6_isPace ⟨rfl, rfl⟩ q_ml_RX6_118 eM_0 rfl rfl hl.1 rfl (Nat.le_of_ble_eq_true rfl) ⟨Nat.le_of_ble_eq_true rfl, Nat.le_of_ble_eq_true rfl⟩ dX6_tellDays_33 ⟨Nat.zero_le _, Nat.zero_le _⟩) hW (fun r5 u5 H locs hp5 hW => ?_)
      have hW := hx_congr hW hp5.2
      refine r_top hp5.1 ?_
      refine lv_if_eq (tgt := 51) hx hb dX6_tellDays_36 (by decide) (fun c_36_6 => ?_) (fun c_36_6 => ?_)
      · have c_36_6 := bI_z.mp c_36_6
        refine lv_bipush (v := (-9)) hx hb dX6_tellDays_51 (by decide) ?_
        exact r_ireti hC hr hlk hW hQ (⟨by unfold tdF; rw [if_neg (Int32.not_lt.mpr c_3_1), if_pos (Int32.not_le.mp c_25_2), if_neg c_36_6] <;> rfl, rfl⟩) dX6_tellDays_53
      · have c_36_6 := bI_nz c_36_6
        obtain ⟨q9, hq9, eq9⟩ := inN_ex c_36_6 (by omega)
        refine lv_aload_n hx hb dX6_tellDays_39 rfl (lv_at hl 0 rfl) ?_
        refine gM_scratches hC hW q_fl_RX6_40 dX6_tellDays_40 ?_
        refine lv_iload_n hx hb dX6_tellDays_43 rfl (lv_at hl 1 rfl) ?_
        refine lv_bipush (v := 10) hx hb dX6_tellDays_44 (by decide) ?_
        refine lv_isub hx hb dX6_tellDays_46 ?_
        refine r_top (y := nI q9) eq9 ?_
        refine r_ildN (t0 := 0) (j := q9) hC hW eM_11 rfl (rfl) (by omega) (by decide) dX6_tellDays_47 ?_
        refine lv_goto (tgt := 53) hx hb dX6_tellDays_48 (by decide) ?_
        exact r_ireti hC hr hlk hW hQ (⟨by unfold tdF; rw [if_neg (Int32.not_lt.mpr c_3_1), if_pos (Int32.not_le.mp c_25_2), if_pos c_36_6, eq9, nI_clamp (show q9 < 2 ^ 31 by omega)] <;> rfl, rfl⟩) dX6_tellDays_53
  · refine lv_iload_n hx hb dX6_tellDays_6 rfl (lv_at hl 1 rfl) ?_
    refine lv_if_ne (tgt := 17) hx hb dX6_tellDays_7 (by decide) (fun c_7_7 => ?_) (fun c_7_7 => ?_)
    · refine lv_aload_n hx hb dX6_tellDays_17 rfl (lv_at hl 0 rfl) ?_
      refine gM_firstUp hC hW q_fl_RX6_139 dX6_tellDays_18 ?_
      exact r_ireti hC hr hlk hW hQ (⟨by unfold tdF; rw [if_pos (Int32.not_le.mp c_3_1), if_neg c_7_7] <;> rfl, rfl⟩) dX6_tellDays_21
    · refine lv_aload_n hx hb dX6_tellDays_10 rfl (lv_at hl 0 rfl) ?_
      refine gM_up hC hW q_fl_RX6_130 dX6_tellDays_11 ?_
      refine lv_goto (tgt := 21) hx hb dX6_tellDays_14 (by decide) ?_
      exact r_ireti hC hr hlk hW hQ (⟨by unfold tdF; rw [if_pos (Int32.not_le.mp c_3_1), if_pos c_7_7] <;> rfl, rfl⟩) dX6_tellDays_21
set_option maxRecDepth 100000 in
set_option maxHeartbeats 4000000 in
theorem m_X6_days (l : Launch) (D : va_G) (cs : CS3) (ad : Nat → Nat) (t : St) (b : St) (P R C : Nat) (x a i n w : Int32) (hB : WF b P R C) (hA : AM b t): CT l yX6_days cX6_days 8 (some .int) (rmk 3 70) (wM cs ad) (tyX cs) D [.ref (ad 0), .int x, .int a, .int i, .int n, .int w] t (va_Qi (fun z u => z = (F_days b P R x a i n w).1 ∧ AM (F_days b P R x a i n w).2 u)) := by
  refine CT.of (own := RX6) (by decide) rfl (Nat.le_of_ble_eq_true rfl) ?_
  intro p9 e9 s m9 args below meth c9 A Q hC hr hlk hW hQ ls hl
  obtain ⟨hx, hb, hml, hown, hts⟩ := id hC
  have hl : lv_has ls 8 [(0, .ref (ad 0)), (1, .int x), (2, .int a), (3, .int i), (4, .int n), (5, .int w)] := hl
  obtain ⟨⟨bP, hP8, bR, hR5, bC, hC8, hlen⟩, hl4, hPR, hrg, hrd⟩ := id hB
  obtain ⟨⟨a0, a1, a2, a3, a4⟩, ⟨v4, v5, v6, v7, v8, v16, v17⟩, hsh⟩ := id hA
  have hP : t.1 2 = nI P := a2.trans bP
  have hR : t.1 3 = nI R := a3.trans bR
  have hc4 : t.1 12 = nI C := a4.trans bC
  refine lv_aload_n hx hb dX6_days_0 rfl (lv_at hl 0 rfl) ?_
  refine lv_iconst (v := 0) hx hb dX6_days_1 (by decide) ?_
  refine pM_fault hC hW q_fl_RX6_61 dX6_days_2 (fun H locs hW => ?_)
  have hW : HX (wM cs ad) (tyX cs) D A s.heap s (va_up t.1 0 0, t.2) H locs := hW
  refine lv_iload_n hx hb dX6_days_5 rfl (lv_at hl 1 rfl) ?_
  refine fin_pi (run_P (rest := []) hC hW.2.2.2.2.2 (m_X6_isSheet l x) k_yX6_isSheet ⟨rfl, rfl⟩ q_ml_RX6_80 rfl hl.1 rfl (Nat.le_of_ble_eq_true rfl) ⟨Nat.le_of_ble_eq_true rfl, Nat.le_of_ble_eq_true rfl⟩ dX6_days_6 ⟨Nat.zero_le _, Nat.zero_le _⟩) (fun rz9 hr9 => ?_)
  refine r_top hr9 ?_
  refine lv_if_ne (tgt := 14) hx hb dX6_days_9 (by decide) (fun c_9_1 => ?_) (fun c_9_1 => ?_)
  · have c_9_1 := bI_nz c_9_1
    obtain ⟨k, hk3, rfl⟩ := rng_ex (M := 3) (n := 3) (by decide) c_9_1
    have hsr_k := srt (show k < 4 by omega) hl4 (hsh k (by omega))
    have hs_k := hsh k (by omega)
    refine lv_iload_n hx hb dX6_days_14 rfl (lv_at hl 2 rfl) ?_
    refine lv_iload hx hb dX6_days_15 (lv_at hl 4 rfl) ?_
    refine fin_pi (run_P (rest := []) hC hW.2.2.2.2.2 (m_X6_isRow l a n) k_yX6_isRow ⟨rfl, rfl⟩ q_ml_RX6_152 rfl hl.1 rfl (Nat.le_of_ble_eq_true rfl) ⟨Nat.le_of_ble_eq_true rfl, Nat.le_of_ble_eq_true rfl⟩ dX6_days_17 ⟨Nat.zero_le _, Nat.zero_le _⟩) (fun rz9 hr9 => ?_)
    refine r_top hr9 ?_
    refine lv_if_eq (tgt := 57) hx hb dX6_days_20 (by decide) (fun c_20_2 => ?_) (fun c_20_2 => ?_)
    · have c_20_2 := bI_z.mp c_20_2
      refine lv_bipush (v := (-2)) hx hb dX6_days_57 (by decide) ?_
      have hF : F_days b P R (nI k) a i n w = (-2, flt b 0) := by unfold F_days; rw [rs_out ⟨nI_pos' (show k < 2 ^ 31 by omega), nI_le (a := k) (b := 3) (by omega) (by decide)⟩ (fun h9 => c_20_2 ⟨h9.1, h9.2.1⟩)]; rfl
      exact r_ireti hC hr hlk hW hQ (⟨by rw [hF], by rw [hF]; exact am_flt hA 0⟩) dX6_days_59
    · have c_20_2 := bI_nz c_20_2
      refine lv_iload hx hb dX6_days_23 (lv_at hl 5 rfl) ?_
      refine lv_iconst (v := 0) hx hb dX6_days_25 (by decide) ?_
      refine lv_iconst (v := 2) hx hb dX6_days_26 (by decide) ?_
      refine fin_pi (run_P (rest := []) hC hW.2.2.2.2.2 (m_X6_within l w 0 2) k_yX6_within ⟨rfl, rfl⟩ q_ml_RX6_67 rfl hl.1 rfl (Nat.le_of_ble_eq_true rfl) ⟨Nat.le_of_ble_eq_true rfl, Nat.le_of_ble_eq_true rfl⟩ dX6_days_27 ⟨Nat.zero_le _, Nat.zero_le _⟩) (fun rz9 hr9 => ?_)
      refine r_top hr9 ?_
      refine lv_if_ne (tgt := 60) hx hb dX6_days_30 (by decide) (fun c_30_3 => ?_) (fun c_30_3 => ?_)
      · have c_30_3 := bI_nz c_30_3
        refine lv_aload_n hx hb dX6_days_60 rfl (lv_at hl 0 rfl) ?_
        refine lv_iload_n hx hb dX6_days_61 rfl (lv_at hl 1 rfl) ?_
        refine lv_iload_n hx hb dX6_days_62 rfl (lv_at hl 2 rfl) ?_
        refine lv_iload_n hx hb dX6_days_63 rfl (lv_at hl 3 rfl) ?_
        refine lv_iload hx hb dX6_days_64 (lv_at hl 4 rfl) ?_
        refine fin_i (run_V (rest := []) hC hW (m_X6_laySteps l D cs ad (va_up t.1 0 0, t.2) b R k a i n (by omega) hl4 hlen hs_k hR hR5 c_20_2.2 rfl) k_yX6_laySteps ⟨rfl, rfl⟩ q_ml_RX6_155 eM_0 rfl rfl hl.1 rfl (Nat.le_of_ble_eq_true rfl) ⟨Nat.le_of_ble_eq_true rfl, Nat.le_of_ble_eq_true rfl⟩ dX6_days_66 ⟨Nat.zero_le _, Nat.zero_le _⟩) hW (fun r4 u4 H locs hp4 hW => ?_)
        obtain ⟨hru4, hfu4, hgu4, hau4, hsu4⟩ := hp4
        refine lv_istore (lv' := [(6, .int r4), (0, .ref (ad 0)), (1, .int (nI k)), (2, .int a), (3, .int i), (4, .int n), (5, .int w)]) hx hb dX6_days_69 hl (by decide) rfl (fun ls hl => ?_)
        refine lv_iload hx hb dX6_days_71 (lv_at hl 0 rfl) ?_
        refine lv_if_eq (tgt := 79) hx hb dX6_days_73 (by decide) (fun c_73_5 => ?_) (fun c_73_5 => ?_)
        · have hrz : r4 = 0 := c_73_5
          have hdp : dayP n w := ⟨c_20_2.2, Or.inl c_30_3⟩
          have hL := rs_ly (a := b) (P := P) (i := i) (n := n) hk3 c_20_2.1 (show ¬ bI (dayP n w) = 0 from by rw [← bI_t hdp]; decide) hPR
          have hr0 : (rsF b P R (nI k) a i n (bI (dayP n w))).1 = 0 := by rw [hL, ← hru4]; exact hrz
          obtain ⟨k8, i0, n0, hk4, ek8, rfl, rfl, hin60, h7, hP0, hst, hrs2⟩ := rs0 hlen hr0
          have ek9 : k8 = k := ((nI_eq (by omega) (by omega)).mp ek8).symm
          rw [ek9] at hst
          have hstp := stp_ok (t := b) (k := k) (by omega) (by omega) hR5 hst
          have hs8 : u4.1 8 = nI n0 := (hsu4 hrz).1
          have hsu : ∀ z, z < n0 → u4.2 14 z = nI (stpF b (nI k) (nI i0) z) ∧ (stpF b (nI k) (nI i0) z = 5 ∨ stpF b (nI k) (nI i0) z < R) := fun z hz => ⟨((hsu4 hrz).2 z (by rw [nI_clamp (by omega)]; exact hz)).trans (by rw [nI_clamp (show i0 < 2 ^ 31 by omega)]; exact (hstp z hz).1), (hstp z hz).2⟩
          have hAL : AM (flt b 0) u4 := am_ly (am_flt hA 0) (by rw [hfu4, ← hL]; exact hrs2) hgu4 hau4
          have hf9 := am_f (c := 6) (q := 0) hB (hAL.id0 6 0) (by decide) (by decide)
          have hn30 : n0 ≤ 30 := (nI_leI (a := n0) (b := 30) (by omega) (by decide)).mp hdp.1.2
          refine lv_aload_n hx hb dX6_days_79 rfl (lv_at hl 1 rfl) ?_
          refine fin_i (run_V (rest := []) hC hW (m_X6_go l D cs ad u4 P R (stpF b (nI k) (nI i0)) n0 hf9.1 hP8 hf9.2.1 hR5 hs8 hn30 hsu hf9.2.2.2.2) k_yX6_go ⟨rfl, rfl⟩ q_ml_RX6_158 eM_0 rfl rfl hl.1 rfl (Nat.le_of_ble_eq_true rfl) ⟨Nat.le_of_ble_eq_true rfl, Nat.le_of_ble_eq_true rfl⟩ dX6_days_80 ⟨Nat.zero_le _, Nat.zero_le _⟩) hW (fun r6 u6 H locs hp6 hW => ?_)
          obtain ⟨hru6, hgu6, hcu6, hfu6⟩ := hp6
          rw [hAL.eh P, hAL.eb] at hru6 hcu6 hfu6
          have hA2 := hAL.lm hgu6.lm
          have hr9 : r6 = (fw (hX P b) (stpF b (nI k) (nI i0)) n0 0 (beg b)).1 := hru6
          refine r_top hr9 ?_
          refine lv_istore (lv' := [(7, .int ((fw (hX P b) (stpF b (nI k) (nI i0)) n0 0 (beg b)).1)), (6, .int r4), (0, .ref (ad 0)), (1, .int (nI k)), (2, .int a), (3, .int (nI i0)), (4, .int (nI n0)), (5, .int w)]) hx hb dX6_days_83 hl (by decide) rfl (fun ls hl => ?_)
          refine lv_iload hx hb dX6_days_85 (lv_at hl 7 rfl) ?_
          refine lv_iconst (v := 1) hx hb dX6_days_87 (by decide) ?_
          refine lv_icmp_ne (tgt := 94) hx hb dX6_days_88 (by decide) (fun c_88_7 => ?_) (fun c_88_7 => ?_)
          · refine lv_iload hx hb dX6_days_94 (lv_at hl 0 rfl) ?_
            refine lv_bipush (v := (-9)) hx hb dX6_days_96 (by decide) ?_
            refine lv_icmp_ne (tgt := 110) hx hb dX6_days_98 (by decide) (fun c_98_8 => ?_) (fun c_98_8 => ?_)
            · refine lv_bipush (v := (-100)) hx hb dX6_days_110 (by decide) ?_
              refine lv_iload hx hb dX6_days_112 (lv_at hl 0 rfl) ?_
              refine lv_isub hx hb dX6_days_114 ?_
              have hG : F_days b P R (nI k) a (nI i0) (nI n0) w = (dayV b P R (stpF b (nI k) (nI i0)) n0 w, flt b 0) := by unfold F_days; rw [if_neg (not_not_intro hr0), nI_clamp (show n0 < 2 ^ 31 by omega)]
              have hF : F_days b P R (nI k) a (nI i0) (nI n0) w = ((-100) - ((fw (hX P b) (stpF b (nI k) (nI i0)) n0 0 (beg b)).1), flt b 0) := by rw [hG]; unfold dayV; rw [if_neg c_88_7, if_pos c_98_8]
              exact r_ireti hC hr hlk hW hQ (⟨by rw [hF], by rw [hF]; exact hA2⟩) dX6_days_115
            · refine lv_aload_n hx hb dX6_days_101 rfl (lv_at hl 2 rfl) ?_
              refine lv_iload hx hb dX6_days_102 (lv_at hl 7 rfl) ?_
              refine fin_i (run_V (rest := []) hC hW (m_X6_tellDays l D cs ad u6 P R w (hA2.1.2.2.1.trans bP) hP8 (hA2.1.2.2.2.1.trans bR) hR5) k_yX6_tellDays ⟨rfl, rfl⟩ q_ml_RX6_162 eM_0 rfl rfl hl.1 rfl (Nat.le_of_ble_eq_true rfl) ⟨Nat.le_of_ble_eq_true rfl, Nat.le_of_ble_eq_true rfl⟩ dX6_days_104 ⟨Nat.zero_le _, Nat.zero_le _⟩) hW (fun r9 u9 H locs hp9 hW => ?_)
              have hW := hx_congr hW hp9.2
              refine r_top hp9.1 ?_
              refine r_top (y := dayV b P R (stpF b (nI k) (nI i0)) n0 w) (td_dayV hR5 hP8 hdp c_88_7 c_98_8 hcu6.2.2.2 (hfu6 c_98_8) hcu6.1 hcu6.2.2.1) ?_
              refine lv_goto (tgt := 115) hx hb dX6_days_107 (by decide) ?_
              have hG : F_days b P R (nI k) a (nI i0) (nI n0) w = (dayV b P R (stpF b (nI k) (nI i0)) n0 w, flt b 0) := by unfold F_days; rw [if_neg (not_not_intro hr0), nI_clamp (show n0 < 2 ^ 31 by omega)]
              have hF := hG
              exact r_ireti hC hr hlk hW hQ (⟨by rw [hF], by rw [hF]; exact hA2⟩) dX6_days_115
          · refine lv_iload hx hb dX6_days_91 (lv_at hl 0 rfl) ?_
            have hG : F_days b P R (nI k) a (nI i0) (nI n0) w = (dayV b P R (stpF b (nI k) (nI i0)) n0 w, flt b 0) := by unfold F_days; rw [if_neg (not_not_intro hr0), nI_clamp (show n0 < 2 ^ 31 by omega)]
            have hF : F_days b P R (nI k) a (nI i0) (nI n0) w = ((fw (hX P b) (stpF b (nI k) (nI i0)) n0 0 (beg b)).1, flt b 0) := by rw [hG]; unfold dayV; rw [if_pos c_88_7]
            exact r_ireti hC hr hlk hW hQ (⟨by rw [hF], by rw [hF]; exact hA2⟩) dX6_days_93
        · refine lv_iload hx hb dX6_days_76 (lv_at hl 0 rfl) ?_
          have hdp : dayP n w := ⟨c_20_2.2, Or.inl c_30_3⟩
          have hL := rs_ly (a := b) (P := P) (i := i) (n := n) hk3 c_20_2.1 (show ¬ bI (dayP n w) = 0 from by rw [← bI_t hdp]; decide) hPR
          have hF : F_days b P R (nI k) a i n w = ((lyF b R k a i n).1, flt b (lyF b R k a i n).2) := by unfold F_days; rw [hL, if_pos (by rw [← hru4]; exact c_73_5)]
          exact r_ireti hC hr hlk hW hQ (⟨by rw [hF]; exact hru4, by rw [hF]; exact am_ly (am_flt hA 0) hfu4 hgu4 hau4⟩) dX6_days_78
      · have c_30_3 := bI_z.mp c_30_3
        refine lv_iload hx hb dX6_days_33 (lv_at hl 5 rfl) ?_
        refine lv_bipush (v := 10) hx hb dX6_days_35 (by decide) ?_
        refine lv_bipush (v := 17) hx hb dX6_days_37 (by decide) ?_
        refine fin_pi (run_P (rest := []) hC hW.2.2.2.2.2 (m_X6_within l w 10 17) k_yX6_within ⟨rfl, rfl⟩ q_ml_RX6_67 rfl hl.1 rfl (Nat.le_of_ble_eq_true rfl) ⟨Nat.le_of_ble_eq_true rfl, Nat.le_of_ble_eq_true rfl⟩ dX6_days_39 ⟨Nat.zero_le _, Nat.zero_le _⟩) (fun rz9 hr9 => ?_)
        refine r_top hr9 ?_
        refine lv_if_ne (tgt := 60) hx hb dX6_days_42 (by decide) (fun c_42_10 => ?_) (fun c_42_10 => ?_)
        · have c_42_10 := bI_nz c_42_10
          refine lv_aload_n hx hb dX6_days_60 rfl (lv_at hl 0 rfl) ?_
          refine lv_iload_n hx hb dX6_days_61 rfl (lv_at hl 1 rfl) ?_
          refine lv_iload_n hx hb dX6_days_62 rfl (lv_at hl 2 rfl) ?_
          refine lv_iload_n hx hb dX6_days_63 rfl (lv_at hl 3 rfl) ?_
          refine lv_iload hx hb dX6_days_64 (lv_at hl 4 rfl) ?_
          refine fin_i (run_V (rest := []) hC hW (m_X6_laySteps l D cs ad (va_up t.1 0 0, t.2) b R k a i n (by omega) hl4 hlen hs_k hR hR5 c_20_2.2 rfl) k_yX6_laySteps ⟨rfl, rfl⟩ q_ml_RX6_155 eM_0 rfl rfl hl.1 rfl (Nat.le_of_ble_eq_true rfl) ⟨Nat.le_of_ble_eq_true rfl, Nat.le_of_ble_eq_true rfl⟩ dX6_days_66 ⟨Nat.zero_le _, Nat.zero_le _⟩) hW (fun r11 u11 H locs hp11 hW => ?_)
          obtain ⟨hru11, hfu11, hgu11, hau11, hsu11⟩ := hp11
          refine lv_istore (lv' := [(6, .int r11), (0, .ref (ad 0)), (1, .int (nI k)), (2, .int a), (3, .int i), (4, .int n), (5, .int w)]) hx hb dX6_days_69 hl (by decide) rfl (fun ls hl => ?_)
          refine lv_iload hx hb dX6_days_71 (lv_at hl 0 rfl) ?_
          refine lv_if_eq (tgt := 79) hx hb dX6_days_73 (by decide) (fun c_73_12 => ?_) (fun c_73_12 => ?_)
          · have hrz : r11 = 0 := c_73_12
            have hdp : dayP n w := ⟨c_20_2.2, Or.inr (Or.inl c_42_10)⟩
            have hL := rs_ly (a := b) (P := P) (i := i) (n := n) hk3 c_20_2.1 (show ¬ bI (dayP n w) = 0 from by rw [← bI_t hdp]; decide) hPR
            have hr0 : (rsF b P R (nI k) a i n (bI (dayP n w))).1 = 0 := by rw [hL, ← hru11]; exact hrz
            obtain ⟨k8, i0, n0, hk4, ek8, rfl, rfl, hin60, h7, hP0, hst, hrs2⟩ := rs0 hlen hr0
            have ek9 : k8 = k := ((nI_eq (by omega) (by omega)).mp ek8).symm
            rw [ek9] at hst
            have hstp := stp_ok (t := b) (k := k) (by omega) (by omega) hR5 hst
            have hs8 : u11.1 8 = nI n0 := (hsu11 hrz).1
            have hsu : ∀ z, z < n0 → u11.2 14 z = nI (stpF b (nI k) (nI i0) z) ∧ (stpF b (nI k) (nI i0) z = 5 ∨ stpF b (nI k) (nI i0) z < R) := fun z hz => ⟨((hsu11 hrz).2 z (by rw [nI_clamp (by omega)]; exact hz)).trans (by rw [nI_clamp (show i0 < 2 ^ 31 by omega)]; exact (hstp z hz).1), (hstp z hz).2⟩
            have hAL : AM (flt b 0) u11 := am_ly (am_flt hA 0) (by rw [hfu11, ← hL]; exact hrs2) hgu11 hau11
            have hf9 := am_f (c := 6) (q := 0) hB (hAL.id0 6 0) (by decide) (by decide)
            have hn30 : n0 ≤ 30 := (nI_leI (a := n0) (b := 30) (by omega) (by decide)).mp hdp.1.2
            refine lv_aload_n hx hb dX6_days_79 rfl (lv_at hl 1 rfl) ?_
            refine fin_i (run_V (rest := []) hC hW (m_X6_go l D cs ad u11 P R (stpF b (nI k) (nI i0)) n0 hf9.1 hP8 hf9.2.1 hR5 hs8 hn30 hsu hf9.2.2.2.2) k_yX6_go ⟨rfl, rfl⟩ q_ml_RX6_158 eM_0 rfl rfl hl.1 rfl (Nat.le_of_ble_eq_true rfl) ⟨Nat.le_of_ble_eq_true rfl, Nat.le_of_ble_eq_true rfl⟩ dX6_days_80 ⟨Nat.zero_le _, Nat.zero_le _⟩) hW (fun r13 u13 H locs hp13 hW => ?_)
            obtain ⟨hru13, hgu13, hcu13, hfu13⟩ := hp13
            rw [hAL.eh P, hAL.eb] at hru13 hcu13 hfu13
            have hA2 := hAL.lm hgu13.lm
            have hr9 : r13 = (fw (hX P b) (stpF b (nI k) (nI i0)) n0 0 (beg b)).1 := hru13
            refine r_top hr9 ?_
            refine lv_istore (lv' := [(7, .int ((fw (hX P b) (stpF b (nI k) (nI i0)) n0 0 (beg b)).1)), (6, .int r11), (0, .ref (ad 0)), (1, .int (nI k)), (2, .int a), (3, .int (nI i0)), (4, .int (nI n0)), (5, .int w)]) hx hb dX6_days_83 hl (by decide) rfl (fun ls hl => ?_)
            refine lv_iload hx hb dX6_days_85 (lv_at hl 7 rfl) ?_
            refine lv_iconst (v := 1) hx hb dX6_days_87 (by decide) ?_
            refine lv_icmp_ne (tgt := 94) hx hb dX6_days_88 (by decide) (fun c_88_14 => ?_) (fun c_88_14 => ?_)
            · refine lv_iload hx hb dX6_days_94 (lv_at hl 0 rfl) ?_
              refine lv_bipush (v := (-9)) hx hb dX6_days_96 (by decide) ?_
              refine lv_icmp_ne (tgt := 110) hx hb dX6_days_98 (by decide) (fun c_98_15 => ?_) (fun c_98_15 => ?_)
              · refine lv_bipush (v := (-100)) hx hb dX6_days_110 (by decide) ?_
                refine lv_iload hx hb dX6_days_112 (lv_at hl 0 rfl) ?_
                refine lv_isub hx hb dX6_days_114 ?_
                have hG : F_days b P R (nI k) a (nI i0) (nI n0) w = (dayV b P R (stpF b (nI k) (nI i0)) n0 w, flt b 0) := by unfold F_days; rw [if_neg (not_not_intro hr0), nI_clamp (show n0 < 2 ^ 31 by omega)]
                have hF : F_days b P R (nI k) a (nI i0) (nI n0) w = ((-100) - ((fw (hX P b) (stpF b (nI k) (nI i0)) n0 0 (beg b)).1), flt b 0) := by rw [hG]; unfold dayV; rw [if_neg c_88_14, if_pos c_98_15]
                exact r_ireti hC hr hlk hW hQ (⟨by rw [hF], by rw [hF]; exact hA2⟩) dX6_days_115
              · refine lv_aload_n hx hb dX6_days_101 rfl (lv_at hl 2 rfl) ?_
                refine lv_iload hx hb dX6_days_102 (lv_at hl 7 rfl) ?_
                refine fin_i (run_V (rest := []) hC hW (m_X6_tellDays l D cs ad u13 P R w (hA2.1.2.2.1.trans bP) hP8 (hA2.1.2.2.2.1.trans bR) hR5) k_yX6_tellDays ⟨rfl, rfl⟩ q_ml_RX6_162 eM_0 rfl rfl hl.1 rfl (Nat.le_of_ble_eq_true rfl) ⟨Nat.le_of_ble_eq_true rfl, Nat.le_of_ble_eq_true rfl⟩ dX6_days_104 ⟨Nat.zero_le _, Nat.zero_le _⟩) hW (fun r16 u16 H locs hp16 hW => ?_)
                have hW := hx_congr hW hp16.2
                refine r_top hp16.1 ?_
                refine r_top (y := dayV b P R (stpF b (nI k) (nI i0)) n0 w) (td_dayV hR5 hP8 hdp c_88_14 c_98_15 hcu13.2.2.2 (hfu13 c_98_15) hcu13.1 hcu13.2.2.1) ?_
                refine lv_goto (tgt := 115) hx hb dX6_days_107 (by decide) ?_
                have hG : F_days b P R (nI k) a (nI i0) (nI n0) w = (dayV b P R (stpF b (nI k) (nI i0)) n0 w, flt b 0) := by unfold F_days; rw [if_neg (not_not_intro hr0), nI_clamp (show n0 < 2 ^ 31 by omega)]
                have hF := hG
                exact r_ireti hC hr hlk hW hQ (⟨by rw [hF], by rw [hF]; exact hA2⟩) dX6_days_115
            · refine lv_iload hx hb dX6_days_91 (lv_at hl 0 rfl) ?_
              have hG : F_days b P R (nI k) a (nI i0) (nI n0) w = (dayV b P R (stpF b (nI k) (nI i0)) n0 w, flt b 0) := by unfold F_days; rw [if_neg (not_not_intro hr0), nI_clamp (show n0 < 2 ^ 31 by omega)]
              have hF : F_days b P R (nI k) a (nI i0) (nI n0) w = ((fw (hX P b) (stpF b (nI k) (nI i0)) n0 0 (beg b)).1, flt b 0) := by rw [hG]; unfold dayV; rw [if_pos c_88_14]
              exact r_ireti hC hr hlk hW hQ (⟨by rw [hF], by rw [hF]; exact hA2⟩) dX6_days_93
          · refine lv_iload hx hb dX6_days_76 (lv_at hl 0 rfl) ?_
            have hdp : dayP n w := ⟨c_20_2.2, Or.inr (Or.inl c_42_10)⟩
            have hL := rs_ly (a := b) (P := P) (i := i) (n := n) hk3 c_20_2.1 (show ¬ bI (dayP n w) = 0 from by rw [← bI_t hdp]; decide) hPR
            have hF : F_days b P R (nI k) a i n w = ((lyF b R k a i n).1, flt b (lyF b R k a i n).2) := by unfold F_days; rw [hL, if_pos (by rw [← hru11]; exact c_73_12)]
            exact r_ireti hC hr hlk hW hQ (⟨by rw [hF]; exact hru11, by rw [hF]; exact am_ly (am_flt hA 0) hfu11 hgu11 hau11⟩) dX6_days_78
        · have c_42_10 := bI_z.mp c_42_10
          refine lv_iload hx hb dX6_days_45 (lv_at hl 5 rfl) ?_
          refine lv_bipush (v := 20) hx hb dX6_days_47 (by decide) ?_
          refine lv_bipush (v := 24) hx hb dX6_days_49 (by decide) ?_
          refine fin_pi (run_P (rest := []) hC hW.2.2.2.2.2 (m_X6_within l w 20 24) k_yX6_within ⟨rfl, rfl⟩ q_ml_RX6_67 rfl hl.1 rfl (Nat.le_of_ble_eq_true rfl) ⟨Nat.le_of_ble_eq_true rfl, Nat.le_of_ble_eq_true rfl⟩ dX6_days_51 ⟨Nat.zero_le _, Nat.zero_le _⟩) (fun rz9 hr9 => ?_)
          refine r_top hr9 ?_
          refine lv_if_ne (tgt := 60) hx hb dX6_days_54 (by decide) (fun c_54_17 => ?_) (fun c_54_17 => ?_)
          · have c_54_17 := bI_nz c_54_17
            refine lv_aload_n hx hb dX6_days_60 rfl (lv_at hl 0 rfl) ?_
            refine lv_iload_n hx hb dX6_days_61 rfl (lv_at hl 1 rfl) ?_
            refine lv_iload_n hx hb dX6_days_62 rfl (lv_at hl 2 rfl) ?_
            refine lv_iload_n hx hb dX6_days_63 rfl (lv_at hl 3 rfl) ?_
            refine lv_iload hx hb dX6_days_64 (lv_at hl 4 rfl) ?_
            refine fin_i (run_V (rest := []) hC hW (m_X6_laySteps l D cs ad (va_up t.1 0 0, t.2) b R k a i n (by omega) hl4 hlen hs_k hR hR5 c_20_2.2 rfl) k_yX6_laySteps ⟨rfl, rfl⟩ q_ml_RX6_155 eM_0 rfl rfl hl.1 rfl (Nat.le_of_ble_eq_true rfl) ⟨Nat.le_of_ble_eq_true rfl, Nat.le_of_ble_eq_true rfl⟩ dX6_days_66 ⟨Nat.zero_le _, Nat.zero_le _⟩) hW (fun r18 u18 H locs hp18 hW => ?_)
            obtain ⟨hru18, hfu18, hgu18, hau18, hsu18⟩ := hp18
            refine lv_istore (lv' := [(6, .int r18), (0, .ref (ad 0)), (1, .int (nI k)), (2, .int a), (3, .int i), (4, .int n), (5, .int w)]) hx hb dX6_days_69 hl (by decide) rfl (fun ls hl => ?_)
            refine lv_iload hx hb dX6_days_71 (lv_at hl 0 rfl) ?_
            refine lv_if_eq (tgt := 79) hx hb dX6_days_73 (by decide) (fun c_73_19 => ?_) (fun c_73_19 => ?_)
            · have hrz : r18 = 0 := c_73_19
              have hdp : dayP n w := ⟨c_20_2.2, Or.inr (Or.inr c_54_17)⟩
              have hL := rs_ly (a := b) (P := P) (i := i) (n := n) hk3 c_20_2.1 (show ¬ bI (dayP n w) = 0 from by rw [← bI_t hdp]; decide) hPR
              have hr0 : (rsF b P R (nI k) a i n (bI (dayP n w))).1 = 0 := by rw [hL, ← hru18]; exact hrz
              obtain ⟨k8, i0, n0, hk4, ek8, rfl, rfl, hin60, h7, hP0, hst, hrs2⟩ := rs0 hlen hr0
              have ek9 : k8 = k := ((nI_eq (by omega) (by omega)).mp ek8).symm
              rw [ek9] at hst
              have hstp := stp_ok (t := b) (k := k) (by omega) (by omega) hR5 hst
              have hs8 : u18.1 8 = nI n0 := (hsu18 hrz).1
              have hsu : ∀ z, z < n0 → u18.2 14 z = nI (stpF b (nI k) (nI i0) z) ∧ (stpF b (nI k) (nI i0) z = 5 ∨ stpF b (nI k) (nI i0) z < R) := fun z hz => ⟨((hsu18 hrz).2 z (by rw [nI_clamp (by omega)]; exact hz)).trans (by rw [nI_clamp (show i0 < 2 ^ 31 by omega)]; exact (hstp z hz).1), (hstp z hz).2⟩
              have hAL : AM (flt b 0) u18 := am_ly (am_flt hA 0) (by rw [hfu18, ← hL]; exact hrs2) hgu18 hau18
              have hf9 := am_f (c := 6) (q := 0) hB (hAL.id0 6 0) (by decide) (by decide)
              have hn30 : n0 ≤ 30 := (nI_leI (a := n0) (b := 30) (by omega) (by decide)).mp hdp.1.2
              refine lv_aload_n hx hb dX6_days_79 rfl (lv_at hl 1 rfl) ?_
              refine fin_i (run_V (rest := []) hC hW (m_X6_go l D cs ad u18 P R (stpF b (nI k) (nI i0)) n0 hf9.1 hP8 hf9.2.1 hR5 hs8 hn30 hsu hf9.2.2.2.2) k_yX6_go ⟨rfl, rfl⟩ q_ml_RX6_158 eM_0 rfl rfl hl.1 rfl (Nat.le_of_ble_eq_true rfl) ⟨Nat.le_of_ble_eq_true rfl, Nat.le_of_ble_eq_true rfl⟩ dX6_days_80 ⟨Nat.zero_le _, Nat.zero_le _⟩) hW (fun r20 u20 H locs hp20 hW => ?_)
              obtain ⟨hru20, hgu20, hcu20, hfu20⟩ := hp20
              rw [hAL.eh P, hAL.eb] at hru20 hcu20 hfu20
              have hA2 := hAL.lm hgu20.lm
              have hr9 : r20 = (fw (hX P b) (stpF b (nI k) (nI i0)) n0 0 (beg b)).1 := hru20
              refine r_top hr9 ?_
              refine lv_istore (lv' := [(7, .int ((fw (hX P b) (stpF b (nI k) (nI i0)) n0 0 (beg b)).1)), (6, .int r18), (0, .ref (ad 0)), (1, .int (nI k)), (2, .int a), (3, .int (nI i0)), (4, .int (nI n0)), (5, .int w)]) hx hb dX6_days_83 hl (by decide) rfl (fun ls hl => ?_)
              refine lv_iload hx hb dX6_days_85 (lv_at hl 7 rfl) ?_
              refine lv_iconst (v := 1) hx hb dX6_days_87 (by decide) ?_
              refine lv_icmp_ne (tgt := 94) hx hb dX6_days_88 (by decide) (fun c_88_21 => ?_) (fun c_88_21 => ?_)
              · refine lv_iload hx hb dX6_days_94 (lv_at hl 0 rfl) ?_
                refine lv_bipush (v := (-9)) hx hb dX6_days_96 (by decide) ?_
                refine lv_icmp_ne (tgt := 110) hx hb dX6_days_98 (by decide) (fun c_98_22 => ?_) (fun c_98_22 => ?_)
                · refine lv_bipush (v := (-100)) hx hb dX6_days_110 (by decide) ?_
                  refine lv_iload hx hb dX6_days_112 (lv_at hl 0 rfl) ?_
                  refine lv_isub hx hb dX6_days_114 ?_
                  have hG : F_days b P R (nI k) a (nI i0) (nI n0) w = (dayV b P R (stpF b (nI k) (nI i0)) n0 w, flt b 0) := by unfold F_days; rw [if_neg (not_not_intro hr0), nI_clamp (show n0 < 2 ^ 31 by omega)]
                  have hF : F_days b P R (nI k) a (nI i0) (nI n0) w = ((-100) - ((fw (hX P b) (stpF b (nI k) (nI i0)) n0 0 (beg b)).1), flt b 0) := by rw [hG]; unfold dayV; rw [if_neg c_88_21, if_pos c_98_22]
                  exact r_ireti hC hr hlk hW hQ (⟨by rw [hF], by rw [hF]; exact hA2⟩) dX6_days_115
                · refine lv_aload_n hx hb dX6_days_101 rfl (lv_at hl 2 rfl) ?_
                  refine lv_iload hx hb dX6_days_102 (lv_at hl 7 rfl) ?_
                  refine fin_i (run_V (rest := []) hC hW (m_X6_tellDays l D cs ad u20 P R w (hA2.1.2.2.1.trans bP) hP8 (hA2.1.2.2.2.1.trans bR) hR5) k_yX6_tellDays ⟨rfl, rfl⟩ q_ml_RX6_162 eM_0 rfl rfl hl.1 rfl (Nat.le_of_ble_eq_true rfl) ⟨Nat.le_of_ble_eq_true rfl, Nat.le_of_ble_eq_true rfl⟩ dX6_days_104 ⟨Nat.zero_le _, Nat.zero_le _⟩) hW (fun r23 u23 H locs hp23 hW => ?_)
                  have hW := hx_congr hW hp23.2
                  refine r_top hp23.1 ?_
                  refine r_top (y := dayV b P R (stpF b (nI k) (nI i0)) n0 w) (td_dayV hR5 hP8 hdp c_88_21 c_98_22 hcu20.2.2.2 (hfu20 c_98_22) hcu20.1 hcu20.2.2.1) ?_
                  refine lv_goto (tgt := 115) hx hb dX6_days_107 (by decide) ?_
                  have hG : F_days b P R (nI k) a (nI i0) (nI n0) w = (dayV b P R (stpF b (nI k) (nI i0)) n0 w, flt b 0) := by unfold F_days; rw [if_neg (not_not_intro hr0), nI_clamp (show n0 < 2 ^ 31 by omega)]
                  have hF := hG
                  exact r_ireti hC hr hlk hW hQ (⟨by rw [hF], by rw [hF]; exact hA2⟩) dX6_days_115
              · refine lv_iload hx hb dX6_days_91 (lv_at hl 0 rfl) ?_
                have hG : F_days b P R (nI k) a (nI i0) (nI n0) w = (dayV b P R (stpF b (nI k) (nI i0)) n0 w, flt b 0) := by unfold F_days; rw [if_neg (not_not_intro hr0), nI_clamp (show n0 < 2 ^ 31 by omega)]
                have hF : F_days b P R (nI k) a (nI i0) (nI n0) w = ((fw (hX P b) (stpF b (nI k) (nI i0)) n0 0 (beg b)).1, flt b 0) := by rw [hG]; unfold dayV; rw [if_pos c_88_21]
                exact r_ireti hC hr hlk hW hQ (⟨by rw [hF], by rw [hF]; exact hA2⟩) dX6_days_93
            · refine lv_iload hx hb dX6_days_76 (lv_at hl 0 rfl) ?_
              have hdp : dayP n w := ⟨c_20_2.2, Or.inr (Or.inr c_54_17)⟩
              have hL := rs_ly (a := b) (P := P) (i := i) (n := n) hk3 c_20_2.1 (show ¬ bI (dayP n w) = 0 from by rw [← bI_t hdp]; decide) hPR
              have hF : F_days b P R (nI k) a i n w = ((lyF b R k a i n).1, flt b (lyF b R k a i n).2) := by unfold F_days; rw [hL, if_pos (by rw [← hru18]; exact c_73_19)]
              exact r_ireti hC hr hlk hW hQ (⟨by rw [hF]; exact hru18, by rw [hF]; exact am_ly (am_flt hA 0) hfu18 hgu18 hau18⟩) dX6_days_78
          · have c_54_17 := bI_z.mp c_54_17
            refine lv_bipush (v := (-2)) hx hb dX6_days_57 (by decide) ?_
            have hF : F_days b P R (nI k) a i n w = (-2, flt b 0) := by unfold F_days; rw [rs_out ⟨nI_pos' (show k < 2 ^ 31 by omega), nI_le (a := k) (b := 3) (by omega) (by decide)⟩ (fun h9 => h9.2.2.elim c_30_3 (fun h8 => h8.elim c_42_10 c_54_17))]; rfl
            exact r_ireti hC hr hlk hW hQ (⟨by rw [hF], by rw [hF]; exact am_flt hA 0⟩) dX6_days_59
  · have c_9_1 := bI_z.mp c_9_1
    refine lv_iconst (v := (-1)) hx hb dX6_days_12 (by decide) ?_
    have hF : F_days b P R x a i n w = (-1, flt b 0) := by unfold F_days rsF; rw [if_pos c_9_1]; rfl
    exact r_ireti hC hr hlk hW hQ (⟨by rw [hF], by rw [hF]; exact am_flt hA 0⟩) dX6_days_13
