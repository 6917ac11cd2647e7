set_option maxRecDepth 100000 in
set_option maxHeartbeats 4000000 in
theorem m_X6_lay (l : Launch) (D : va_G) (cs : CS3) (ad : Nat → Nat) (t : St) (b : St) (P R C : Nat) (kn x la i n : Int32) (hB : WF b P R C) (hA : AM (flt b 0) t): CT l yX6_lay cX6_lay 6 (some .int) (rmk 3 63) (wM cs ad) (tyX cs) D [.ref (ad 0), .int kn, .int x, .int la, .int i, .int n] t (va_Qi (fun r u => r = (rnF b P R kn x la i n 1).1 ∧ AM (flt b (rnF b P R kn x la i n 1).2) u ∧ (r = 0 → u.1 8 = n ∧ ∀ z, z < n.toNatClampNeg → u.2 14 z = b.2 (15 + 2 * x.toNatClampNeg) (i.toNatClampNeg + z)))) := by
  refine CT.of (own := RX6) (by decide) rfl (Nat.le_of_ble_eq_true rfl) ?_
  intro p9 e9 s m9 args below meth c9 A Q hC hr hlk hW hQ ls hl
  obtain ⟨hx, hb, hml, hown, hts⟩ := id hC
  have hl : lv_has ls 6 [(0, .ref (ad 0)), (1, .int kn), (2, .int x), (3, .int la), (4, .int i), (5, .int n)] := hl
  obtain ⟨⟨bP, hP8, bR, hR5, bC, hC8, hlen⟩, hl4, hPR, hrg, hrd⟩ := id hB
  have hsh := sh_flt hA
  have hf0 : t.1 0 = 0 := hA.1.1
  have hP : t.1 2 = nI P := hA.1.2.2.1.trans bP
  have hR : t.1 3 = nI R := hA.1.2.2.2.1.trans bR
  have hc4 : t.1 12 = nI C := hA.1.2.2.2.2.trans bC
  refine lv_iload_n hx hb dX6_lay_0 rfl (lv_at hl 1 rfl) ?_
  refine lv_if_eq (tgt := 11) hx hb dX6_lay_1 (by decide) (fun c_1_1 => ?_) (fun c_1_1 => ?_)
  · refine lv_iconst (v := (-1)) hx hb dX6_lay_11 (by decide) ?_
    have hF : rnF b P R kn x la i n 1 = (-1, 0) := by unfold rnF; rw [if_pos c_1_1]
    exact r_ireti hC hr hlk hW hQ (⟨by rw [hF], by rw [hF]; exact hA, fun h9 => absurd h9 (by decide)⟩) dX6_lay_12
  · refine lv_iload_n hx hb dX6_lay_4 rfl (lv_at hl 2 rfl) ?_
    refine fin_pi (run_P (rest := []) hC hW.2.2.2.2.2 (m_X6_isSheet l x) k_yX6_isSheet ⟨rfl, rfl⟩ q_ml_RX6_80 rfl hl.1 rfl (Nat.le_of_ble_eq_true rfl) ⟨Nat.le_of_ble_eq_true rfl, Nat.le_of_ble_eq_true rfl⟩ dX6_lay_5 ⟨Nat.zero_le _, Nat.zero_le _⟩) (fun rz9 hr9 => ?_)
    refine r_top hr9 ?_
    refine lv_if_ne (tgt := 13) hx hb dX6_lay_8 (by decide) (fun c_8_2 => ?_) (fun c_8_2 => ?_)
    · have c_8_2 := bI_nz c_8_2
      obtain ⟨k, hk3, rfl⟩ := rng_ex (M := 3) (n := 3) (by decide) (id c_8_2)
      refine lv_iload_n hx hb dX6_lay_13 rfl (lv_at hl 3 rfl) ?_
      refine lv_iload hx hb dX6_lay_14 (lv_at hl 5 rfl) ?_
      refine fin_pi (run_P (rest := []) hC hW.2.2.2.2.2 (m_X6_isRow l la n) k_yX6_isRow ⟨rfl, rfl⟩ q_ml_RX6_152 rfl hl.1 rfl (Nat.le_of_ble_eq_true rfl) ⟨Nat.le_of_ble_eq_true rfl, Nat.le_of_ble_eq_true rfl⟩ dX6_lay_16 ⟨Nat.zero_le _, Nat.zero_le _⟩) (fun rz9 hr9 => ?_)
      refine r_top hr9 ?_
      refine lv_if_eq (tgt := 35) hx hb dX6_lay_19 (by decide) (fun c_19_3 => ?_) (fun c_19_3 => ?_)
      · have c_19_3 := bI_z.mp c_19_3
        refine lv_bipush (v := (-2)) hx hb dX6_lay_35 (by decide) ?_
        have hF : rnF b P R kn (nI k) la i n 1 = (-2, 0) := rn_out c_1_1 c_8_2 c_19_3
        exact r_ireti hC hr hlk hW hQ (⟨by rw [hF], by rw [hF]; exact hA, fun h9 => absurd h9 (by decide)⟩) dX6_lay_37
      · have c_19_3 := bI_nz c_19_3
        refine lv_aload_n hx hb dX6_lay_22 rfl (lv_at hl 0 rfl) ?_
        refine lv_iload_n hx hb dX6_lay_23 rfl (lv_at hl 2 rfl) ?_
        refine lv_iload_n hx hb dX6_lay_24 rfl (lv_at hl 3 rfl) ?_
        refine lv_iload hx hb dX6_lay_25 (lv_at hl 4 rfl) ?_
        refine lv_iload hx hb dX6_lay_27 (lv_at hl 5 rfl) ?_
        refine fin_i (run_V (rest := []) hC hW (m_X6_laySteps l D cs ad t b R k la i n (by omega) hl4 hlen (hsh k (by omega)) hR hR5 c_19_3.2 hf0) k_yX6_laySteps ⟨rfl, rfl⟩ q_ml_RX6_155 eM_0 rfl rfl hl.1 rfl (Nat.le_of_ble_eq_true rfl) ⟨Nat.le_of_ble_eq_true rfl, Nat.le_of_ble_eq_true rfl⟩ dX6_lay_29 ⟨Nat.zero_le _, Nat.zero_le _⟩) hW (fun r4 u4 H locs hp4 hW => ?_)
        obtain ⟨hru4, hfu4, hgu4, hau4, hsu4⟩ := hp4
        refine lv_goto (tgt := 37) hx hb dX6_lay_32 (by decide) ?_
        have hF := rn_ly (a := b) (P := P) (R := R) (k := k) (i := i) c_1_1 (by omega) c_19_3 hPR
        exact r_ireti hC hr hlk hW hQ (⟨by rw [hF]; exact hru4, by rw [hF]; exact am_ly hA hfu4 hgu4 hau4, by rw [nI_clamp (show k < 2 ^ 31 by omega)]; exact hsu4⟩) dX6_lay_37
    · have c_8_2 := bI_z.mp c_8_2
      refine lv_iconst (v := (-1)) hx hb dX6_lay_11 (by decide) ?_
      have hF : rnF b P R kn x la i n 1 = (-1, 0) := rn_sh c_8_2
      exact r_ireti hC hr hlk hW hQ (⟨by rw [hF], by rw [hF]; exact hA, fun h9 => absurd h9 (by decide)⟩) dX6_lay_12
set_option maxRecDepth 100000 in
set_option maxHeartbeats 4000000 in
theorem m_X6_nails (l : Launch) (D : va_G) (cs : CS3) (ad : Nat → Nat) (t : St) (b : St) (P R C : Nat) (r x a i n : Int32) (hB : WF b P R C) (hA : AM b t): CT l yX6_nails cX6_nails 10 (some .int) (rmk 4 91) (wM cs ad) (tyX cs) D [.ref (ad 0), .int r, .int x, .int a, .int i, .int n] t (va_Qi (fun z u => z = (F_set b P R C 6 9 (inN r R) r.toNatClampNeg x a i n).1 ∧ AM (F_set b P R C 6 9 (inN r R) r.toNatClampNeg x a i n).2 u)) := by
  refine CT.of (own := RX6) (by decide) rfl (Nat.le_of_ble_eq_true rfl) ?_
  intro p9 e9 s m9 args below meth c9 A Q hC hr hlk hW hQ ls hl
  obtain ⟨hx, hb, hml, hown, hts⟩ := id hC
  have hl : lv_has ls 10 [(0, .ref (ad 0)), (1, .int r), (2, .int x), (3, .int a), (4, .int i), (5, .int n)] := hl
  obtain ⟨⟨bP, hP8, bR, hR5, bC, hC8, hlen⟩, hl4, hPR, hrg, hrd⟩ := id hB
  obtain ⟨⟨a0, a1, a2, a3, a4⟩, ⟨v4, v5, v6, v7, v8, v16, v17⟩, hsh⟩ := id hA
  have hP : t.1 2 = nI P := a2.trans bP
  have hR : t.1 3 = nI R := a3.trans bR
  have hc4 : t.1 12 = nI C := a4.trans bC
  refine lv_aload_n hx hb dX6_nails_0 rfl (lv_at hl 0 rfl) ?_
  refine lv_iconst (v := 0) hx hb dX6_nails_1 (by decide) ?_
  refine pM_fault hC hW q_fl_RX6_61 dX6_nails_2 (fun H locs hW => ?_)
  have hW : HX (wM cs ad) (tyX cs) D A s.heap s (va_up t.1 0 0, t.2) H locs := hW
  refine lv_aload_n hx hb dX6_nails_5 rfl (lv_at hl 0 rfl) ?_
  refine lv_aload_n hx hb dX6_nails_6 rfl (lv_at hl 0 rfl) ?_
  refine lv_iload_n hx hb dX6_nails_7 rfl (lv_at hl 1 rfl) ?_
  refine fin_i (run_V (rest := [.ref (ad 0)]) hC hW (m_X6_isRider l D cs ad (va_up t.1 0 0, t.2) R r hR) k_yX6_isRider ⟨rfl, rfl⟩ q_ml_RX6_121 eM_0 rfl rfl hl.1 rfl (Nat.le_of_ble_eq_true rfl) ⟨Nat.le_of_ble_eq_true rfl, Nat.le_of_ble_eq_true rfl⟩ dX6_nails_8 ⟨Nat.zero_le _, Nat.zero_le _⟩) hW (fun r1 u1 H locs hp1 hW => ?_)
  have hW := hx_congr hW hp1.2
  refine r_top hp1.1 ?_
  refine lv_iload_n hx hb dX6_nails_11 rfl (lv_at hl 2 rfl) ?_
  refine lv_iload_n hx hb dX6_nails_12 rfl (lv_at hl 3 rfl) ?_
  refine lv_iload hx hb dX6_nails_13 (lv_at hl 4 rfl) ?_
  refine lv_iload hx hb dX6_nails_15 (lv_at hl 5 rfl) ?_
  refine fin_i (run_V (rest := []) hC hW (m_X6_lay l D cs ad (va_up t.1 0 0, t.2) b P R C (bI (inN r R)) x a i n hB (am_flt hA 0)) k_yX6_lay ⟨rfl, rfl⟩ q_ml_RX6_194 eM_0 rfl rfl hl.1 rfl (Nat.le_of_ble_eq_true rfl) ⟨Nat.le_of_ble_eq_true rfl, Nat.le_of_ble_eq_true rfl⟩ dX6_nails_17 ⟨Nat.zero_le _, Nat.zero_le _⟩) hW (fun r2 u2 H locs hp2 hW => ?_)
  obtain ⟨hru2, hAu2, hsu2⟩ := hp2
  refine lv_istore (lv' := [(6, .int r2), (0, .ref (ad 0)), (1, .int r), (2, .int x), (3, .int a), (4, .int i), (5, .int n)]) hx hb dX6_nails_20 hl (by decide) rfl (fun ls hl => ?_)
  refine lv_iload hx hb dX6_nails_22 (lv_at hl 0 rfl) ?_
  refine lv_if_eq (tgt := 30) hx hb dX6_nails_24 (by decide) (fun c_24_3 => ?_) (fun c_24_3 => ?_)
  · have hrz : r2 = 0 := c_24_3
    obtain ⟨hkn, hr0, hrn⟩ := rn0 (hru2.symm.trans hrz)
    have hkn := bI_nz hkn
    obtain ⟨q_r, hq_r, rfl⟩ := inN_ex hkn (by omega)
    obtain ⟨k, i0, n0, hk4, rfl, rfl, rfl, hin60, h7, hP0, hst, hrs2⟩ := rs0 hlen hr0
    have hstp := stp_ok (t := b) hk4 (by omega) hR5 hst
    have hs8 : u2.1 8 = nI n0 := (hsu2 hrz).1
    have hsu : ∀ z, z < n0 → u2.2 14 z = nI (stpF b (nI k) (nI i0) z) ∧ (stpF b (nI k) (nI i0) z = 5 ∨ stpF b (nI k) (nI i0) z < R) := fun z hz => ⟨((hsu2 hrz).2 z (by rw [nI_clamp (by omega)]; exact hz)).trans (by rw [nI_clamp (show k < 2 ^ 31 by omega), nI_clamp (show i0 < 2 ^ 31 by omega)]; exact (hstp z hz).1), (hstp z hz).2⟩
    have hAL : AM (flt b 0) u2 := by rw [hrn, hrs2] at hAu2; exact hAu2
    have hn30 : n0 ≤ 30 := (nI_leI (a := n0) (b := 30) (by omega) (by decide)).mp (bI_nz h7).2.2
    refine lv_aload_n hx hb dX6_nails_30 rfl (lv_at hl 1 rfl) ?_
    refine gM_nailsOf hC hW q_fl_RX6_31 dX6_nails_31 ?_
    refine lv_iload_n hx hb dX6_nails_34 rfl (lv_at hl 2 rfl) ?_
    refine r_ildN (t0 := 0) (j := q_r) hC hW eM_8 rfl (rfl) (by omega) (by decide) dX6_nails_35 ?_
    refine r_top (y := b.2 6 q_r) (congrFun hAL.2.1.2.2.2.2.1 _) ?_
    refine lv_istore (lv' := [(7, .int (b.2 6 q_r)), (6, .int r2), (0, .ref (ad 0)), (1, .int (nI q_r)), (2, .int (nI k)), (3, .int a), (4, .int (nI i0)), (5, .int (nI n0))]) hx hb dX6_nails_36 hl (by decide) rfl (fun ls hl => ?_)
    refine lv_iconst (v := 0) hx hb dX6_nails_38 (by decide) ?_
    refine lv_istore (lv' := [(8, .int 0), (7, .int (b.2 6 q_r)), (6, .int r2), (0, .ref (ad 0)), (1, .int (nI q_r)), (2, .int (nI k)), (3, .int a), (4, .int (nI i0)), (5, .int (nI n0))]) hx hb dX6_nails_39 hl (by decide) rfl (fun ls hl => ?_)
    refine lv_iconst (v := 0) hx hb dX6_nails_41 (by decide) ?_
    refine lv_istore (lv' := [(9, .int 0), (8, .int 0), (7, .int (b.2 6 q_r)), (6, .int r2), (0, .ref (ad 0)), (1, .int (nI q_r)), (2, .int (nI k)), (3, .int a), (4, .int (nI i0)), (5, .int (nI n0))]) hx hb dX6_nails_42 hl (by decide) rfl (fun ls hl => ?_)
    have loop_44_4 : ∀ (f9 : Nat) (v : Nat) (y8 : Int32) (y9 : Int32) (w8 : St), (v ≤ 10) → (AM (exS (flt b 0) 6 q_r y9) w8) → (w8.1 8 = nI n0) → (∀ z, z < n0 → w8.2 14 z = nI ((stpF b (nI k) (nI i0)) z) ∧ ((stpF b (nI k) (nI i0)) z = 5 ∨ (stpF b (nI k) (nI i0)) z < R)) → (y8 = bitsF (fun v => bI (seenP P R C (exS b 6 q_r (nI v)) (stpF b (nI k) (nI i0)) n0)) v) → 10 - v < f9 → ∀ (H : Heap) (locs : List Loc), HX (wM cs ad) (tyX cs) D A s.heap s w8 H locs → ∀ ls : Array Slot, lv_has ls 10 [(9, .int (nI v)), (8, .int y8), (7, .int (b.2 6 q_r)), (0, .ref (ad 0)), (1, .int (nI q_r))] → W p9 l e9 (rmk 4 91) s m9 args below meth c9 H locs 0 0 Q (F0 m9 44 ls []) := by
      intro f_44
      induction f_44 with
      | zero => intro v y8 y9 w8 hv hAw hn8 hsw hE hm_44 H locs hW ls hl; exact absurd hm_44 (Nat.not_lt_zero _)
      | succ f_44 ih_44 =>
        intro v y8 y9 w8 hv hAw hn8 hsw hE hm_44 H locs hW ls hl
        refine lv_iload hx hb dX6_nails_44 (lv_at hl 0 rfl) ?_
        refine lv_bipush (v := 9) hx hb dX6_nails_46 (by decide) ?_
        refine lv_icmp_gt (tgt := 85) hx hb dX6_nails_48 (by decide) (fun c_48_5 => ?_) (fun c_48_5 => ?_)
        · have c_48_5 : 9 < v := (nI_ltI (a := 9) (b := v) (by omega) (by omega)).mp c_48_5
          refine lv_aload_n hx hb dX6_nails_85 rfl (lv_at hl 3 rfl) ?_
          refine gM_nailsOf hC hW q_fl_RX6_31 dX6_nails_86 ?_
          refine lv_iload_n hx hb dX6_nails_89 rfl (lv_at hl 4 rfl) ?_
          refine lv_iload hx hb dX6_nails_90 (lv_at hl 2 rfl) ?_
          refine r_istN (t0 := 0) (j := q_r) hC hW eM_8 rfl (rfl) (by omega) (by decide) (sM_8 _) dX6_nails_92 (fun H locs hW => ?_)
          have hW : HX (wM cs ad) (tyX cs) D A s.heap s (w8.1, va_up w8.2 8 (upd (w8.2 8) q_r (b.2 6 q_r))) H locs := hW
          refine lv_iload hx hb dX6_nails_93 (lv_at hl 1 rfl) ?_
          have hv10 : v = 10 := by omega
          rw [hv10] at hE
          have hF : F_set b P R C 6 9 (inN (nI q_r) R) (nI q_r).toNatClampNeg (nI k) a (nI i0) (nI n0) = (y8, flt b 0) := by unfold F_set; rw [if_neg (not_not_intro (by rw [hrn]; exact hr0)), nI_clamp (show n0 < 2 ^ 31 by omega), nI_clamp (show q_r < 2 ^ 31 by omega), hE]
          have hfin := am_ex (b.2 6 q_r) hAw (show (6 = 2 ∧ 8 = 4) ∨ (6 = 3 ∧ 8 = 5) ∨ (6 = 4 ∧ 8 = 6) ∨ (6 = 5 ∧ 8 = 7) ∨ (6 = 6 ∧ 8 = 8) from by decide)
          rw [show exS (flt b 0) 6 q_r (b.2 6 q_r) = flt b 0 from exS_id (flt b 0) 6 q_r] at hfin
          exact r_ireti hC hr hlk hW hQ (⟨by rw [hF], by rw [hF]; exact hfin⟩) dX6_nails_95
        · have c_48_5 : ¬ 9 < v := fun h => c_48_5 ((nI_ltI (a := 9) (b := v) (by omega) (by omega)).mpr h)
          refine lv_aload_n hx hb dX6_nails_51 rfl (lv_at hl 3 rfl) ?_
          refine gM_nailsOf hC hW q_fl_RX6_31 dX6_nails_52 ?_
          refine lv_iload_n hx hb dX6_nails_55 rfl (lv_at hl 4 rfl) ?_
          refine lv_iload hx hb dX6_nails_56 (lv_at hl 0 rfl) ?_
          refine r_istN (t0 := 0) (j := q_r) hC hW eM_8 rfl (rfl) (by omega) (by decide) (sM_8 _) dX6_nails_58 (fun H locs hW => ?_)
          have hW : HX (wM cs ad) (tyX cs) D A s.heap s (w8.1, va_up w8.2 8 (upd (w8.2 8) q_r (nI v))) H locs := hW
          have hA8 := am_ex (nI v) hAw (show (6 = 2 ∧ 8 = 4) ∨ (6 = 3 ∧ 8 = 5) ∨ (6 = 4 ∧ 8 = 6) ∨ (6 = 5 ∧ 8 = 7) ∨ (6 = 6 ∧ 8 = 8) from by decide)
          obtain ⟨v9, ev9⟩ : ∃ z : St, z = (w8.1, va_up w8.2 8 (upd (w8.2 8) q_r (nI v))) := ⟨_, rfl⟩
          have hA9 : AM (exS (flt b 0) 6 q_r (nI v)) v9 := by rw [ev9]; exact hA8
          have hf9 := am_f hB hA9 (by decide) (by decide)
          have hn9 : v9.1 8 = nI n0 := by rw [ev9]; exact hn8
          have hs9 : ∀ z, z < n0 → v9.2 14 z = nI ((stpF b (nI k) (nI i0)) z) ∧ ((stpF b (nI k) (nI i0)) z = 5 ∨ (stpF b (nI k) (nI i0)) z < R) := by rw [ev9]; exact hsw
          have hW : HX (wM cs ad) (tyX cs) D A s.heap s v9 H locs := hx_congr hW ev9.symm
          refine lv_iload hx hb dX6_nails_59 (lv_at hl 1 rfl) ?_
          refine lv_aload_n hx hb dX6_nails_61 rfl (lv_at hl 3 rfl) ?_
          refine fin_i (run_V (rest := [.int y8]) hC hW (m_X6_areSo l D cs ad v9 P R C (stpF b (nI k) (nI i0)) n0 hf9.1 hP8 hf9.2.1 hR5 hf9.2.2.1 hC8 hf9.2.2.2.1 hn9 hn30 hs9 hf9.2.2.2.2) k_yX6_areSo ⟨rfl, rfl⟩ q_ml_RX6_198 eM_0 rfl rfl hl.1 rfl (Nat.le_of_ble_eq_true rfl) ⟨Nat.le_of_ble_eq_true rfl, Nat.le_of_ble_eq_true rfl⟩ dX6_nails_62 ⟨Nat.zero_le _, Nat.zero_le _⟩) hW (fun r6 u6 H locs hp6 hW => ?_)
          obtain ⟨hru6, hgu6⟩ := hp6
          have hAu6 := hA9.lm hgu6.lm
          refine r_top (hru6.trans (bI_c (am_seen hA9))) ?_
          refine lv_if_eq (tgt := 75) hx hb dX6_nails_65 (by decide) (fun c_65_7 => ?_) (fun c_65_7 => ?_)
          · have c_65_7 := bI_z.mp c_65_7
            refine lv_iconst (v := 0) hx hb dX6_nails_75 (by decide) ?_
            refine lv_ior hx hb dX6_nails_76 ?_
            refine lv_istore (lv' := [(8, .int (y8 ||| 0)), (9, .int (nI v)), (7, .int (b.2 6 q_r)), (0, .ref (ad 0)), (1, .int (nI q_r))]) hx hb dX6_nails_77 hl (by decide) rfl (fun ls hl => ?_)
            refine lv_iinc (v := nI (v + 1)) (lv' := [(9, .int (nI (v + 1))), (8, .int (y8 ||| 0)), (7, .int (b.2 6 q_r)), (0, .ref (ad 0)), (1, .int (nI q_r))]) hx hb dX6_nails_79 hl (k := 1) rfl (nI_1 _) (by decide) rfl (fun ls hl => ?_)
            refine lv_goto (tgt := 44) hx hb dX6_nails_82 (by decide) ?_
            exact ih_44 (v + 1) (y8 ||| 0) (nI v) u6 (by omega) (hAu6) ((hgu6.1 8 (by omega) (by omega)).trans hn9) (fun z hz => ⟨(congrFun (hgu6.2 14 (by omega) (by omega) (by omega)) z).trans (hs9 z hz).1, (hs9 z hz).2⟩) (by rw [bitsF, hE]; exact (or0 _).trans (if_pos (bI_z.mpr c_65_7)).symm) (by omega) _ _ hW ls (lv_sub hl [0, 1, 2, 3, 4] rfl)
          · have c_65_7 := bI_nz c_65_7
            refine lv_iconst (v := 1) hx hb dX6_nails_68 (by decide) ?_
            refine lv_iload hx hb dX6_nails_69 (lv_at hl 0 rfl) ?_
            refine lv_ishl hx hb dX6_nails_71 ?_
            refine lv_goto (tgt := 76) hx hb dX6_nails_72 (by decide) ?_
            refine lv_ior hx hb dX6_nails_76 ?_
            refine lv_istore (lv' := [(8, .int (y8 ||| (1 <<< ((nI v) &&& 31)))), (9, .int (nI v)), (7, .int (b.2 6 q_r)), (0, .ref (ad 0)), (1, .int (nI q_r))]) hx hb dX6_nails_77 hl (by decide) rfl (fun ls hl => ?_)
            refine lv_iinc (v := nI (v + 1)) (lv' := [(9, .int (nI (v + 1))), (8, .int (y8 ||| (1 <<< ((nI v) &&& 31)))), (7, .int (b.2 6 q_r)), (0, .ref (ad 0)), (1, .int (nI q_r))]) hx hb dX6_nails_79 hl (k := 1) rfl (nI_1 _) (by decide) rfl (fun ls hl => ?_)
            refine lv_goto (tgt := 44) hx hb dX6_nails_82 (by decide) ?_
            exact ih_44 (v + 1) (y8 ||| (1 <<< ((nI v) &&& 31))) (nI v) u6 (by omega) (hAu6) ((hgu6.1 8 (by omega) (by omega)).trans hn9) (fun z hz => ⟨(congrFun (hgu6.2 14 (by omega) (by omega) (by omega)) z).trans (hs9 z hz).1, (hs9 z hz).2⟩) (by rw [bitsF, hE]; exact (if_neg (fun h9 => bI_z.mp h9 c_65_7)).symm) (by omega) _ _ hW ls (lv_sub hl [0, 1, 2, 3, 4] rfl)
    exact loop_44_4 _ 0 0 (b.2 6 q_r) u2 (Nat.zero_le _) (hAL.id0 6 q_r) (hs8) (hsu) (rfl) (Nat.lt_succ_self _) _ _ hW ls (lv_sub hl [0, 1, 2, 4, 5] rfl)
  · refine lv_iload hx hb dX6_nails_27 (lv_at hl 0 rfl) ?_
    have hF : F_set b P R C 6 9 (inN r R) r.toNatClampNeg x a i n = ((rnF b P R (bI (inN r R)) x a i n 1).1, flt b (rnF b P R (bI (inN r R)) x a i n 1).2) := by unfold F_set; rw [if_pos (by rw [← hru2]; exact c_24_3)]
    exact r_ireti hC hr hlk hW hQ (⟨by rw [hF]; exact hru2, by rw [hF]; exact hAu2⟩) dX6_nails_29
set_option maxRecDepth 100000 in
set_option maxHeartbeats 4000000 in
theorem m_X6_slicks (l : Launch) (D : va_G) (cs : CS3) (ad : Nat → Nat) (t : St) (b : St) (P R C : Nat) (p x a i n : Int32) (hB : WF b P R C) (hA : AM b t): CT l yX6_slicks cX6_slicks 10 (some .int) (rmk 4 91) (wM cs ad) (tyX cs) D [.ref (ad 0), .int p, .int x, .int a, .int i, .int n] t (va_Qi (fun z u => z = (F_set b P R C 2 9 (inN p P) p.toNatClampNeg x a i n).1 ∧ AM (F_set b P R C 2 9 (inN p P) p.toNatClampNeg x a i n).2 u)) := by
  refine CT.of (own := RX6) (by decide) rfl (Nat.le_of_ble_eq_true rfl) ?_
  intro p9 e9 s m9 args below meth c9 A Q hC hr hlk hW hQ ls hl
  obtain ⟨hx, hb, hml, hown, hts⟩ := id hC
  have hl : lv_has ls 10 [(0, .ref (ad 0)), (1, .int p), (2, .int x), (3, .int a), (4, .int i), (5, .int n)] := hl
  obtain ⟨⟨bP, hP8, bR, hR5, bC, hC8, hlen⟩, hl4, hPR, hrg, hrd⟩ := id hB
  obtain ⟨⟨a0, a1, a2, a3, a4⟩, ⟨v4, v5, v6, v7, v8, v16, v17⟩, hsh⟩ := id hA
  have hP : t.1 2 = nI P := a2.trans bP
  have hR : t.1 3 = nI R := a3.trans bR
  have hc4 : t.1 12 = nI C := a4.trans bC
  refine lv_aload_n hx hb dX6_slicks_0 rfl (lv_at hl 0 rfl) ?_
  refine lv_iconst (v := 0) hx hb dX6_slicks_1 (by decide) ?_
  refine pM_fault hC hW q_fl_RX6_61 dX6_slicks_2 (fun H locs hW => ?_)
  have hW : HX (wM cs ad) (tyX cs) D A s.heap s (va_up t.1 0 0, t.2) H locs := hW
  refine lv_aload_n hx hb dX6_slicks_5 rfl (lv_at hl 0 rfl) ?_
  refine lv_aload_n hx hb dX6_slicks_6 rfl (lv_at hl 0 rfl) ?_
  refine lv_iload_n hx hb dX6_slicks_7 rfl (lv_at hl 1 rfl) ?_
  refine fin_i (run_V (rest := [.ref (ad 0)]) hC hW (m_X6_isPace l D cs ad (va_up t.1 0 0, t.2) P p hP) k_yX6_isPace ⟨rfl, rfl⟩ q_ml_RX6_118 eM_0 rfl rfl hl.1 rfl (Nat.le_of_ble_eq_true rfl) ⟨Nat.le_of_ble_eq_true rfl, Nat.le_of_ble_eq_true rfl⟩ dX6_slicks_8 ⟨Nat.zero_le _, Nat.zero_le _⟩) hW (fun r1 u1 H locs hp1 hW => ?_)
  have hW := hx_congr hW hp1.2
  refine r_top hp1.1 ?_
  refine lv_iload_n hx hb dX6_slicks_11 rfl (lv_at hl 2 rfl) ?_
  refine lv_iload_n hx hb dX6_slicks_12 rfl (lv_at hl 3 rfl) ?_
  refine lv_iload hx hb dX6_slicks_13 (lv_at hl 4 rfl) ?_
  refine lv_iload hx hb dX6_slicks_15 (lv_at hl 5 rfl) ?_
  refine fin_i (run_V (rest := []) hC hW (m_X6_lay l D cs ad (va_up t.1 0 0, t.2) b P R C (bI (inN p P)) x a i n hB (am_flt hA 0)) k_yX6_lay ⟨rfl, rfl⟩ q_ml_RX6_194 eM_0 rfl rfl hl.1 rfl (Nat.le_of_ble_eq_true rfl) ⟨Nat.le_of_ble_eq_true rfl, Nat.le_of_ble_eq_true rfl⟩ dX6_slicks_17 ⟨Nat.zero_le _, Nat.zero_le _⟩) hW (fun r2 u2 H locs hp2 hW => ?_)
  obtain ⟨hru2, hAu2, hsu2⟩ := hp2
  refine lv_istore (lv' := [(6, .int r2), (0, .ref (ad 0)), (1, .int p), (2, .int x), (3, .int a), (4, .int i), (5, .int n)]) hx hb dX6_slicks_20 hl (by decide) rfl (fun ls hl => ?_)
  refine lv_iload hx hb dX6_slicks_22 (lv_at hl 0 rfl) ?_
  refine lv_if_eq (tgt := 30) hx hb dX6_slicks_24 (by decide) (fun c_24_3 => ?_) (fun c_24_3 => ?_)
  · have hrz : r2 = 0 := c_24_3
    obtain ⟨hkn, hr0, hrn⟩ := rn0 (hru2.symm.trans hrz)
    have hkn := bI_nz hkn
    obtain ⟨q_p, hq_p, rfl⟩ := inN_ex hkn (by omega)
    obtain ⟨k, i0, n0, hk4, rfl, rfl, rfl, hin60, h7, hP0, hst, hrs2⟩ := rs0 hlen hr0
    have hstp := stp_ok (t := b) hk4 (by omega) hR5 hst
    have hs8 : u2.1 8 = nI n0 := (hsu2 hrz).1
    have hsu : ∀ z, z < n0 → u2.2 14 z = nI (stpF b (nI k) (nI i0) z) ∧ (stpF b (nI k) (nI i0) z = 5 ∨ stpF b (nI k) (nI i0) z < R) := fun z hz => ⟨((hsu2 hrz).2 z (by rw [nI_clamp (by omega)]; exact hz)).trans (by rw [nI_clamp (show k < 2 ^ 31 by omega), nI_clamp (show i0 < 2 ^ 31 by omega)]; exact (hstp z hz).1), (hstp z hz).2⟩
    have hAL : AM (flt b 0) u2 := by rw [hrn, hrs2] at hAu2; exact hAu2
    have hn30 : n0 ≤ 30 := (nI_leI (a := n0) (b := 30) (by omega) (by decide)).mp (bI_nz h7).2.2
    refine lv_aload_n hx hb dX6_slicks_30 rfl (lv_at hl 1 rfl) ?_
    refine gM_slick hC hW q_fl_RX6_19 dX6_slicks_31 ?_
    refine lv_iload_n hx hb dX6_slicks_34 rfl (lv_at hl 2 rfl) ?_
    refine r_ildN (t0 := 0) (j := q_p) hC hW eM_4 rfl (rfl) (by omega) (by decide) dX6_slicks_35 ?_
    refine r_top (y := b.2 2 q_p) (congrFun hAL.2.1.1 _) ?_
    refine lv_istore (lv' := [(7, .int (b.2 2 q_p)), (6, .int r2), (0, .ref (ad 0)), (1, .int (nI q_p)), (2, .int (nI k)), (3, .int a), (4, .int (nI i0)), (5, .int (nI n0))]) hx hb dX6_slicks_36 hl (by decide) rfl (fun ls hl => ?_)
    refine lv_iconst (v := 0) hx hb dX6_slicks_38 (by decide) ?_
    refine lv_istore (lv' := [(8, .int 0), (7, .int (b.2 2 q_p)), (6, .int r2), (0, .ref (ad 0)), (1, .int (nI q_p)), (2, .int (nI k)), (3, .int a), (4, .int (nI i0)), (5, .int (nI n0))]) hx hb dX6_slicks_39 hl (by decide) rfl (fun ls hl => ?_)
    refine lv_iconst (v := 0) hx hb dX6_slicks_41 (by decide) ?_
    refine lv_istore (lv' := [(9, .int 0), (8, .int 0), (7, .int (b.2 2 q_p)), (6, .int r2), (0, .ref (ad 0)), (1, .int (nI q_p)), (2, .int (nI k)), (3, .int a), (4, .int (nI i0)), (5, .int (nI n0))]) hx hb dX6_slicks_42 hl (by decide) rfl (fun ls hl => ?_)
    have loop_44_4 : ∀ (f9 : Nat) (v : Nat) (y8 : Int32) (y9 : Int32) (w8 : St), (v ≤ 10) → (AM (exS (flt b 0) 2 q_p y9) w8) → (w8.1 8 = nI n0) → (∀ z, z < n0 → w8.2 14 z = nI ((stpF b (nI k) (nI i0)) z) ∧ ((stpF b (nI k) (nI i0)) z = 5 ∨ (stpF b (nI k) (nI i0)) z < R)) → (y8 = bitsF (fun v => bI (seenP P R C (exS b 2 q_p (nI v)) (stpF b (nI k) (nI i0)) n0)) v) → 10 - v < f9 → ∀ (H : Heap) (locs : List Loc), HX (wM cs ad) (tyX cs) D A s.heap s w8 H locs → ∀ ls : Array Slot, lv_has ls 10 [(9, .int (nI v)), (8, .int y8), (7, .int (b.2 2 q_p)), (0, .ref (ad 0)), (1, .int (nI q_p))] → W p9 l e9 (rmk 4 91) s m9 args below meth c9 H locs 0 0 Q (F0 m9 44 ls []) := by
      intro f_44
      induction f_44 with
      | zero => intro v y8 y9 w8 hv hAw hn8 hsw hE hm_44 H locs hW ls hl; exact absurd hm_44 (Nat.not_lt_zero _)
      | succ f_44 ih_44 =>
        intro v y8 y9 w8 hv hAw hn8 hsw hE hm_44 H locs hW ls hl
        refine lv_iload hx hb dX6_slicks_44 (lv_at hl 0 rfl) ?_
        refine lv_bipush (v := 9) hx hb dX6_slicks_46 (by decide) ?_
        refine lv_icmp_gt (tgt := 85) hx hb dX6_slicks_48 (by decide) (fun c_48_5 => ?_) (fun c_48_5 => ?_)
        · have c_48_5 : 9 < v := (nI_ltI (a := 9) (b := v) (by omega) (by omega)).mp c_48_5
          refine lv_aload_n hx hb dX6_slicks_85 rfl (lv_at hl 3 rfl) ?_
          refine gM_slick hC hW q_fl_RX6_19 dX6_slicks_86 ?_
          refine lv_iload_n hx hb dX6_slicks_89 rfl (lv_at hl 4 rfl) ?_
          refine lv_iload hx hb dX6_slicks_90 (lv_at hl 2 rfl) ?_
          refine r_istN (t0 := 0) (j := q_p) hC hW eM_4 rfl (rfl) (by omega) (by decide) (sM_4 _) dX6_slicks_92 (fun H locs hW => ?_)
          have hW : HX (wM cs ad) (tyX cs) D A s.heap s (w8.1, va_up w8.2 4 (upd (w8.2 4) q_p (b.2 2 q_p))) H locs := hW
          refine lv_iload hx hb dX6_slicks_93 (lv_at hl 1 rfl) ?_
          have hv10 : v = 10 := by omega
          rw [hv10] at hE
          have hF : F_set b P R C 2 9 (inN (nI q_p) P) (nI q_p).toNatClampNeg (nI k) a (nI i0) (nI n0) = (y8, flt b 0) := by unfold F_set; rw [if_neg (not_not_intro (by rw [hrn]; exact hr0)), nI_clamp (show n0 < 2 ^ 31 by omega), nI_clamp (show q_p < 2 ^ 31 by omega), hE]
          have hfin := am_ex (b.2 2 q_p) hAw (show (2 = 2 ∧ 4 = 4) ∨ (2 = 3 ∧ 4 = 5) ∨ (2 = 4 ∧ 4 = 6) ∨ (2 = 5 ∧ 4 = 7) ∨ (2 = 6 ∧ 4 = 8) from by decide)
          rw [show exS (flt b 0) 2 q_p (b.2 2 q_p) = flt b 0 from exS_id (flt b 0) 2 q_p] at hfin
          exact r_ireti hC hr hlk hW hQ (⟨by rw [hF], by rw [hF]; exact hfin⟩) dX6_slicks_95
        · have c_48_5 : ¬ 9 < v := fun h => c_48_5 ((nI_ltI (a := 9) (b := v) (by omega) (by omega)).mpr h)
          refine lv_aload_n hx hb dX6_slicks_51 rfl (lv_at hl 3 rfl) ?_
          refine gM_slick hC hW q_fl_RX6_19 dX6_slicks_52 ?_
          refine lv_iload_n hx hb dX6_slicks_55 rfl (lv_at hl 4 rfl) ?_
          refine lv_iload hx hb dX6_slicks_56 (lv_at hl 0 rfl) ?_
          refine r_istN (t0 := 0) (j := q_p) hC hW eM_4 rfl (rfl) (by omega) (by decide) (sM_4 _) dX6_slicks_58 (fun H locs hW => ?_)
          have hW : HX (wM cs ad) (tyX cs) D A s.heap s (w8.1, va_up w8.2 4 (upd (w8.2 4) q_p (nI v))) H locs := hW
          have hA8 := am_ex (nI v) hAw (show (2 = 2 ∧ 4 = 4) ∨ (2 = 3 ∧ 4 = 5) ∨ (2 = 4 ∧ 4 = 6) ∨ (2 = 5 ∧ 4 = 7) ∨ (2 = 6 ∧ 4 = 8) from by decide)
          obtain ⟨v9, ev9⟩ : ∃ z : St, z = (w8.1, va_up w8.2 4 (upd (w8.2 4) q_p (nI v))) := ⟨_, rfl⟩
          have hA9 : AM (exS (flt b 0) 2 q_p (nI v)) v9 := by rw [ev9]; exact hA8
          have hf9 := am_f hB hA9 (by decide) (by decide)
          have hn9 : v9.1 8 = nI n0 := by rw [ev9]; exact hn8
          have hs9 : ∀ z, z < n0 → v9.2 14 z = nI ((stpF b (nI k) (nI i0)) z) ∧ ((stpF b (nI k) (nI i0)) z = 5 ∨ (stpF b (nI k) (nI i0)) z < R) := by rw [ev9]; exact hsw
          have hW : HX (wM cs ad) (tyX cs) D A s.heap s v9 H locs := hx_congr hW ev9.symm
          refine lv_iload hx hb dX6_slicks_59 (lv_at hl 1 rfl) ?_
          refine lv_aload_n hx hb dX6_slicks_61 rfl (lv_at hl 3 rfl) ?_
          refine fin_i (run_V (rest := [.int y8]) hC hW (m_X6_areSo l D cs ad v9 P R C (stpF b (nI k) (nI i0)) n0 hf9.1 hP8 hf9.2.1 hR5 hf9.2.2.1 hC8 hf9.2.2.2.1 hn9 hn30 hs9 hf9.2.2.2.2) k_yX6_areSo ⟨rfl, rfl⟩ q_ml_RX6_198 eM_0 rfl rfl hl.1 rfl (Nat.le_of_ble_eq_true rfl) ⟨Nat.le_of_ble_eq_true rfl, Nat.le_of_ble_eq_true rfl⟩ dX6_slicks_62 ⟨Nat.zero_le _, Nat.zero_le _⟩) hW (fun r6 u6 H locs hp6 hW => ?_)
          obtain ⟨hru6, hgu6⟩ := hp6
          have hAu6 := hA9.lm hgu6.lm
          refine r_top (hru6.trans (bI_c (am_seen hA9))) ?_
          refine lv_if_eq (tgt := 75) hx hb dX6_slicks_65 (by decide) (fun c_65_7 => ?_) (fun c_65_7 => ?_)
          · have c_65_7 := bI_z.mp c_65_7
            refine lv_iconst (v := 0) hx hb dX6_slicks_75 (by decide) ?_
            refine lv_ior hx hb dX6_slicks_76 ?_
            refine lv_istore (lv' := [(8, .int (y8 ||| 0)), (9, .int (nI v)), (7, .int (b.2 2 q_p)), (0, .ref (ad 0)), (1, .int (nI q_p))]) hx hb dX6_slicks_77 hl (by decide) rfl (fun ls hl => ?_)
            refine lv_iinc (v := nI (v + 1)) (lv' := [(9, .int (nI (v + 1))), (8, .int (y8 ||| 0)), (7, .int (b.2 2 q_p)), (0, .ref (ad 0)), (1, .int (nI q_p))]) hx hb dX6_slicks_79 hl (k := 1) rfl (nI_1 _) (by decide) rfl (fun ls hl => ?_)
            refine lv_goto (tgt := 44) hx hb dX6_slicks_82 (by decide) ?_
            exact ih_44 (v + 1) (y8 ||| 0) (nI v) u6 (by omega) (hAu6) ((hgu6.1 8 (by omega) (by omega)).trans hn9) (fun z hz => ⟨(congrFun (hgu6.2 14 (by omega) (by omega) (by omega)) z).trans (hs9 z hz).1, (hs9 z hz).2⟩) (by rw [bitsF, hE]; exact (or0 _).trans (if_pos (bI_z.mpr c_65_7)).symm) (by omega) _ _ hW ls (lv_sub hl [0, 1, 2, 3, 4] rfl)
          · have c_65_7 := bI_nz c_65_7
            refine lv_iconst (v := 1) hx hb dX6_slicks_68 (by decide) ?_
            refine lv_iload hx hb dX6_slicks_69 (lv_at hl 0 rfl) ?_
            refine lv_ishl hx hb dX6_slicks_71 ?_
            refine lv_goto (tgt := 76) hx hb dX6_slicks_72 (by decide) ?_
            refine lv_ior hx hb dX6_slicks_76 ?_
            refine lv_istore (lv' := [(8, .int (y8 ||| (1 <<< ((nI v) &&& 31)))), (9, .int (nI v)), (7, .int (b.2 2 q_p)), (0, .ref (ad 0)), (1, .int (nI q_p))]) hx hb dX6_slicks_77 hl (by decide) rfl (fun ls hl => ?_)
            refine lv_iinc (v := nI (v + 1)) (lv' := [(9, .int (nI (v + 1))), (8, .int (y8 ||| (1 <<< ((nI v) &&& 31)))), (7, .int (b.2 2 q_p)), (0, .ref (ad 0)), (1, .int (nI q_p))]) hx hb dX6_slicks_79 hl (k := 1) rfl (nI_1 _) (by decide) rfl (fun ls hl => ?_)
            refine lv_goto (tgt := 44) hx hb dX6_slicks_82 (by decide) ?_
            exact ih_44 (v + 1) (y8 ||| (1 <<< ((nI v) &&& 31))) (nI v) u6 (by omega) (hAu6) ((hgu6.1 8 (by omega) (by omega)).trans hn9) (fun z hz => ⟨(congrFun (hgu6.2 14 (by omega) (by omega) (by omega)) z).trans (hs9 z hz).1, (hs9 z hz).2⟩) (by rw [bitsF, hE]; exact (if_neg (fun h9 => bI_z.mp h9 c_65_7)).symm) (by omega) _ _ hW ls (lv_sub hl [0, 1, 2, 3, 4] rfl)
    exact loop_44_4 _ 0 0 (b.2 2 q_p) u2 (Nat.zero_le _) (hAL.id0 2 q_p) (hs8) (hsu) (rfl) (Nat.lt_succ_self _) _ _ hW ls (lv_sub hl [0, 1, 2, 4, 5] rfl)
  · refine lv_iload hx hb dX6_slicks_27 (lv_at hl 0 rfl) ?_
    have hF : F_set b P R C 2 9 (inN p P) p.toNatClampNeg x a i n = ((rnF b P R (bI (inN p P)) x a i n 1).1, flt b (rnF b P R (bI (inN p P)) x a i n 1).2) := by unfold F_set; rw [if_pos (by rw [← hru2]; exact c_24_3)]
    exact r_ireti hC hr hlk hW hQ (⟨by rw [hF]; exact hru2, by rw [hF]; exact hAu2⟩) dX6_slicks_29
set_option maxRecDepth 100000 in
set_option maxHeartbeats 4000000 in
theorem m_X6_kinds (l : Launch) (D : va_G) (cs : CS3) (ad : Nat → Nat) (t : St) (b : St) (P R C : Nat) (r x a i n : Int32) (hB : WF b P R C) (hA : AM b t): CT l yX6_kinds cX6_kinds 10 (some .int) (rmk 4 91) (wM cs ad) (tyX cs) D [.ref (ad 0), .int r, .int x, .int a, .int i, .int n] t (va_Qi (fun z u => z = (F_set b P R C 4 2 (inN r R) r.toNatClampNeg x a i n).1 ∧ AM (F_set b P R C 4 2 (inN r R) r.toNatClampNeg x a i n).2 u)) := by
  refine CT.of (own := RX6) (by decide) rfl (Nat.le_of_ble_eq_true rfl) ?_
  intro p9 e9 s m9 args below meth c9 A Q hC hr hlk hW hQ ls hl
  obtain ⟨hx, hb, hml, hown, hts⟩ := id hC
  have hl : lv_has ls 10 [(0, .ref (ad 0)), (1, .int r), (2, .int x), (3, .int a), (4, .int i), (5, .int n)] := hl
  obtain ⟨⟨bP, hP8, bR, hR5, bC, hC8, hlen⟩, hl4, hPR, hrg, hrd⟩ := id hB
  obtain ⟨⟨a0, a1, a2, a3, a4⟩, ⟨v4, v5, v6, v7, v8, v16, v17⟩, hsh⟩ := id hA
  have hP : t.1 2 = nI P := a2.trans bP
  have hR : t.1 3 = nI R := a3.trans bR
  have hc4 : t.1 12 = nI C := a4.trans bC
  refine lv_aload_n hx hb dX6_kinds_0 rfl (lv_at hl 0 rfl) ?_
  refine lv_iconst (v := 0) hx hb dX6_kinds_1 (by decide) ?_
  refine pM_fault hC hW q_fl_RX6_61 dX6_kinds_2 (fun H locs hW => ?_)
  have hW : HX (wM cs ad) (tyX cs) D A s.heap s (va_up t.1 0 0, t.2) H locs := hW
  refine lv_aload_n hx hb dX6_kinds_5 rfl (lv_at hl 0 rfl) ?_
  refine lv_aload_n hx hb dX6_kinds_6 rfl (lv_at hl 0 rfl) ?_
  refine lv_iload_n hx hb dX6_kinds_7 rfl (lv_at hl 1 rfl) ?_
  refine fin_i (run_V (rest := [.ref (ad 0)]) hC hW (m_X6_isRider l D cs ad (va_up t.1 0 0, t.2) R r hR) k_yX6_isRider ⟨rfl, rfl⟩ q_ml_RX6_121 eM_0 rfl rfl hl.1 rfl (Nat.le_of_ble_eq_true rfl) ⟨Nat.le_of_ble_eq_true rfl, Nat.le_of_ble_eq_true rfl⟩ dX6_kinds_8 ⟨Nat.zero_le _, Nat.zero_le _⟩) hW (fun r1 u1 H locs hp1 hW => ?_)
  have hW := hx_congr hW hp1.2
  refine r_top hp1.1 ?_
  refine lv_iload_n hx hb dX6_kinds_11 rfl (lv_at hl 2 rfl) ?_
  refine lv_iload_n hx hb dX6_kinds_12 rfl (lv_at hl 3 rfl) ?_
  refine lv_iload hx hb dX6_kinds_13 (lv_at hl 4 rfl) ?_
  refine lv_iload hx hb dX6_kinds_15 (lv_at hl 5 rfl) ?_
  refine fin_i (run_V (rest := []) hC hW (m_X6_lay l D cs ad (va_up t.1 0 0, t.2) b P R C (bI (inN r R)) x a i n hB (am_flt hA 0)) k_yX6_lay ⟨rfl, rfl⟩ q_ml_RX6_194 eM_0 rfl rfl hl.1 rfl (Nat.le_of_ble_eq_true rfl) ⟨Nat.le_of_ble_eq_true rfl, Nat.le_of_ble_eq_true rfl⟩ dX6_kinds_17 ⟨Nat.zero_le _, Nat.zero_le _⟩) hW (fun r2 u2 H locs hp2 hW => ?_)
  obtain ⟨hru2, hAu2, hsu2⟩ := hp2
  refine lv_istore (lv' := [(6, .int r2), (0, .ref (ad 0)), (1, .int r), (2, .int x), (3, .int a), (4, .int i), (5, .int n)]) hx hb dX6_kinds_20 hl (by decide) rfl (fun ls hl => ?_)
  refine lv_iload hx hb dX6_kinds_22 (lv_at hl 0 rfl) ?_
  refine lv_if_eq (tgt := 30) hx hb dX6_kinds_24 (by decide) (fun c_24_3 => ?_) (fun c_24_3 => ?_)
  · have hrz : r2 = 0 := c_24_3
    obtain ⟨hkn, hr0, hrn⟩ := rn0 (hru2.symm.trans hrz)
    have hkn := bI_nz hkn
    obtain ⟨q_r, hq_r, rfl⟩ := inN_ex hkn (by omega)
    obtain ⟨k, i0, n0, hk4, rfl, rfl, rfl, hin60, h7, hP0, hst, hrs2⟩ := rs0 hlen hr0
    have hstp := stp_ok (t := b) hk4 (by omega) hR5 hst
    have hs8 : u2.1 8 = nI n0 := (hsu2 hrz).1
    have hsu : ∀ z, z < n0 → u2.2 14 z = nI (stpF b (nI k) (nI i0) z) ∧ (stpF b (nI k) (nI i0) z = 5 ∨ stpF b (nI k) (nI i0) z < R) := fun z hz => ⟨((hsu2 hrz).2 z (by rw [nI_clamp (by omega)]; exact hz)).trans (by rw [nI_clamp (show k < 2 ^ 31 by omega), nI_clamp (show i0 < 2 ^ 31 by omega)]; exact (hstp z hz).1), (hstp z hz).2⟩
    have hAL : AM (flt b 0) u2 := by rw [hrn, hrs2] at hAu2; exact hAu2
    have hn30 : n0 ≤ 30 := (nI_leI (a := n0) (b := 30) (by omega) (by decide)).mp (bI_nz h7).2.2
    refine lv_aload_n hx hb dX6_kinds_30 rfl (lv_at hl 1 rfl) ?_
    refine gM_kind hC hW q_fl_RX6_25 dX6_kinds_31 ?_
    refine lv_iload_n hx hb dX6_kinds_34 rfl (lv_at hl 2 rfl) ?_
    refine r_ildN (t0 := 0) (j := q_r) hC hW eM_6 rfl (rfl) (by omega) (by decide) dX6_kinds_35 ?_
    refine r_top (y := b.2 4 q_r) (congrFun hAL.2.1.2.2.1 _) ?_
    refine lv_istore (lv' := [(7, .int (b.2 4 q_r)), (6, .int r2), (0, .ref (ad 0)), (1, .int (nI q_r)), (2, .int (nI k)), (3, .int a), (4, .int (nI i0)), (5, .int (nI n0))]) hx hb dX6_kinds_36 hl (by decide) rfl (fun ls hl => ?_)
    refine lv_iconst (v := 0) hx hb dX6_kinds_38 (by decide) ?_
    refine lv_istore (lv' := [(8, .int 0), (7, .int (b.2 4 q_r)), (6, .int r2), (0, .ref (ad 0)), (1, .int (nI q_r)), (2, .int (nI k)), (3, .int a), (4, .int (nI i0)), (5, .int (nI n0))]) hx hb dX6_kinds_39 hl (by decide) rfl (fun ls hl => ?_)
    refine lv_iconst (v := 0) hx hb dX6_kinds_41 (by decide) ?_
    refine lv_istore (lv' := [(9, .int 0), (8, .int 0), (7, .int (b.2 4 q_r)), (6, .int r2), (0, .ref (ad 0)), (1, .int (nI q_r)), (2, .int (nI k)), (3, .int a), (4, .int (nI i0)), (5, .int (nI n0))]) hx hb dX6_kinds_42 hl (by decide) rfl (fun ls hl => ?_)
    have loop_44_4 : ∀ (f9 : Nat) (v : Nat) (y8 : Int32) (y9 : Int32) (w8 : St), (v ≤ 3) → (AM (exS (flt b 0) 4 q_r y9) w8) → (w8.1 8 = nI n0) → (∀ z, z < n0 → w8.2 14 z = nI ((stpF b (nI k) (nI i0)) z) ∧ ((stpF b (nI k) (nI i0)) z = 5 ∨ (stpF b (nI k) (nI i0)) z < R)) → (y8 = bitsF (fun v => bI (seenP P R C (exS b 4 q_r (nI v)) (stpF b (nI k) (nI i0)) n0)) v) → 3 - v < f9 → ∀ (H : Heap) (locs : List Loc), HX (wM cs ad) (tyX cs) D A s.heap s w8 H locs → ∀ ls : Array Slot, lv_has ls 10 [(9, .int (nI v)), (8, .int y8), (7, .int (b.2 4 q_r)), (0, .ref (ad 0)), (1, .int (nI q_r))] → W p9 l e9 (rmk 4 91) s m9 args below meth c9 H locs 0 0 Q (F0 m9 44 ls []) := by
      intro f_44
      induction f_44 with
      | zero => intro v y8 y9 w8 hv hAw hn8 hsw hE hm_44 H locs hW ls hl; exact absurd hm_44 (Nat.not_lt_zero _)
      | succ f_44 ih_44 =>
        intro v y8 y9 w8 hv hAw hn8 hsw hE hm_44 H locs hW ls hl
        refine lv_iload hx hb dX6_kinds_44 (lv_at hl 0 rfl) ?_
        refine lv_iconst (v := 3) hx hb dX6_kinds_46 (by decide) ?_
        refine lv_icmp_ge (tgt := 84) hx hb dX6_kinds_47 (by decide) (fun c_47_5 => ?_) (fun c_47_5 => ?_)
        · have c_47_5 : 3 ≤ v := (nI_leI (a := 3) (b := v) (by omega) (by omega)).mp c_47_5
          refine lv_aload_n hx hb dX6_kinds_84 rfl (lv_at hl 3 rfl) ?_
          refine gM_kind hC hW q_fl_RX6_25 dX6_kinds_85 ?_
          refine lv_iload_n hx hb dX6_kinds_88 rfl (lv_at hl 4 rfl) ?_
          refine lv_iload hx hb dX6_kinds_89 (lv_at hl 2 rfl) ?_
          refine r_istN (t0 := 0) (j := q_r) hC hW eM_6 rfl (rfl) (by omega) (by decide) (sM_6 _) dX6_kinds_91 (fun H locs hW => ?_)
          have hW : HX (wM cs ad) (tyX cs) D A s.heap s (w8.1, va_up w8.2 6 (upd (w8.2 6) q_r (b.2 4 q_r))) H locs := hW
          refine lv_iload hx hb dX6_kinds_92 (lv_at hl 1 rfl) ?_
          have hv10 : v = 3 := by omega
          rw [hv10] at hE
          have hF : F_set b P R C 4 2 (inN (nI q_r) R) (nI q_r).toNatClampNeg (nI k) a (nI i0) (nI n0) = (y8, flt b 0) := by unfold F_set; rw [if_neg (not_not_intro (by rw [hrn]; exact hr0)), nI_clamp (show n0 < 2 ^ 31 by omega), nI_clamp (show q_r < 2 ^ 31 by omega), hE]
          have hfin := am_ex (b.2 4 q_r) hAw (show (4 = 2 ∧ 6 = 4) ∨ (4 = 3 ∧ 6 = 5) ∨ (4 = 4 ∧ 6 = 6) ∨ (4 = 5 ∧ 6 = 7) ∨ (4 = 6 ∧ 6 = 8) from by decide)
          rw [show exS (flt b 0) 4 q_r (b.2 4 q_r) = flt b 0 from exS_id (flt b 0) 4 q_r] at hfin
          exact r_ireti hC hr hlk hW hQ (⟨by rw [hF], by rw [hF]; exact hfin⟩) dX6_kinds_94
        · have c_47_5 : ¬ 3 ≤ v := fun h => c_47_5 ((nI_leI (a := 3) (b := v) (by omega) (by omega)).mpr h)
          refine lv_aload_n hx hb dX6_kinds_50 rfl (lv_at hl 3 rfl) ?_
          refine gM_kind hC hW q_fl_RX6_25 dX6_kinds_51 ?_
          refine lv_iload_n hx hb dX6_kinds_54 rfl (lv_at hl 4 rfl) ?_
          refine lv_iload hx hb dX6_kinds_55 (lv_at hl 0 rfl) ?_
          refine r_istN (t0 := 0) (j := q_r) hC hW eM_6 rfl (rfl) (by omega) (by decide) (sM_6 _) dX6_kinds_57 (fun H locs hW => ?_)
          have hW : HX (wM cs ad) (tyX cs) D A s.heap s (w8.1, va_up w8.2 6 (upd (w8.2 6) q_r (nI v))) H locs := hW
          have hA8 := am_ex (nI v) hAw (show (4 = 2 ∧ 6 = 4) ∨ (4 = 3 ∧ 6 = 5) ∨ (4 = 4 ∧ 6 = 6) ∨ (4 = 5 ∧ 6 = 7) ∨ (4 = 6 ∧ 6 = 8) from by decide)
          obtain ⟨v9, ev9⟩ : ∃ z : St, z = (w8.1, va_up w8.2 6 (upd (w8.2 6) q_r (nI v))) := ⟨_, rfl⟩
          have hA9 : AM (exS (flt b 0) 4 q_r (nI v)) v9 := by rw [ev9]; exact hA8
          have hf9 := am_f hB hA9 (by decide) (by decide)
          have hn9 : v9.1 8 = nI n0 := by rw [ev9]; exact hn8
          have hs9 : ∀ z, z < n0 → v9.2 14 z = nI ((stpF b (nI k) (nI i0)) z) ∧ ((stpF b (nI k) (nI i0)) z = 5 ∨ (stpF b (nI k) (nI i0)) z < R) := by rw [ev9]; exact hsw
          have hW : HX (wM cs ad) (tyX cs) D A s.heap s v9 H locs := hx_congr hW ev9.symm
          refine lv_iload hx hb dX6_kinds_58 (lv_at hl 1 rfl) ?_
          refine lv_aload_n hx hb dX6_kinds_60 rfl (lv_at hl 3 rfl) ?_
          refine fin_i (run_V (rest := [.int y8]) hC hW (m_X6_areSo l D cs ad v9 P R C (stpF b (nI k) (nI i0)) n0 hf9.1 hP8 hf9.2.1 hR5 hf9.2.2.1 hC8 hf9.2.2.2.1 hn9 hn30 hs9 hf9.2.2.2.2) k_yX6_areSo ⟨rfl, rfl⟩ q_ml_RX6_198 eM_0 rfl rfl hl.1 rfl (Nat.le_of_ble_eq_true rfl) ⟨Nat.le_of_ble_eq_true rfl, Nat.le_of_ble_eq_true rfl⟩ dX6_kinds_61 ⟨Nat.zero_le _, Nat.zero_le _⟩) hW (fun r6 u6 H locs hp6 hW => ?_)
          obtain ⟨hru6, hgu6⟩ := hp6
          have hAu6 := hA9.lm hgu6.lm
          refine r_top (hru6.trans (bI_c (am_seen hA9))) ?_
          refine lv_if_eq (tgt := 74) hx hb dX6_kinds_64 (by decide) (fun c_64_7 => ?_) (fun c_64_7 => ?_)
          · have c_64_7 := bI_z.mp c_64_7
            refine lv_iconst (v := 0) hx hb dX6_kinds_74 (by decide) ?_
            refine lv_ior hx hb dX6_kinds_75 ?_
            refine lv_istore (lv' := [(8, .int (y8 ||| 0)), (9, .int (nI v)), (7, .int (b.2 4 q_r)), (0, .ref (ad 0)), (1, .int (nI q_r))]) hx hb dX6_kinds_76 hl (by decide) rfl (fun ls hl => ?_)
            refine lv_iinc (v := nI (v + 1)) (lv' := [(9, .int (nI (v + 1))), (8, .int (y8 ||| 0)), (7, .int (b.2 4 q_r)), (0, .ref (ad 0)), (1, .int (nI q_r))]) hx hb dX6_kinds_78 hl (k := 1) rfl (nI_1 _) (by decide) rfl (fun ls hl => ?_)
            refine lv_goto (tgt := 44) hx hb dX6_kinds_81 (by decide) ?_
            exact ih_44 (v + 1) (y8 ||| 0) (nI v) u6 (by omega) (hAu6) ((hgu6.1 8 (by omega) (by omega)).trans hn9) (fun z hz => ⟨(congrFun (hgu6.2 14 (by omega) (by omega) (by omega)) z).trans (hs9 z hz).1, (hs9 z hz).2⟩) (by rw [bitsF, hE]; exact (or0 _).trans (if_pos (bI_z.mpr c_64_7)).symm) (by omega) _ _ hW ls (lv_sub hl [0, 1, 2, 3, 4] rfl)
          · have c_64_7 := bI_nz c_64_7
            refine lv_iconst (v := 1) hx hb dX6_kinds_67 (by decide) ?_
            refine lv_iload hx hb dX6_kinds_68 (lv_at hl 0 rfl) ?_
            refine lv_ishl hx hb dX6_kinds_70 ?_
            refine lv_goto (tgt := 75) hx hb dX6_kinds_71 (by decide) ?_
            refine lv_ior hx hb dX6_kinds_75 ?_
            refine lv_istore (lv' := [(8, .int (y8 ||| (1 <<< ((nI v) &&& 31)))), (9, .int (nI v)), (7, .int (b.2 4 q_r)), (0, .ref (ad 0)), (1, .int (nI q_r))]) hx hb dX6_kinds_76 hl (by decide) rfl (fun ls hl => ?_)
            refine lv_iinc (v := nI (v + 1)) (lv' := [(9, .int (nI (v + 1))), (8, .int (y8 ||| (1 <<< ((nI v) &&& 31)))), (7, .int (b.2 4 q_r)), (0, .ref (ad 0)), (1, .int (nI q_r))]) hx hb dX6_kinds_78 hl (k := 1) rfl (nI_1 _) (by decide) rfl (fun ls hl => ?_)
            refine lv_goto (tgt := 44) hx hb dX6_kinds_81 (by decide) ?_
            exact ih_44 (v + 1) (y8 ||| (1 <<< ((nI v) &&& 31))) (nI v) u6 (by omega) (hAu6) ((hgu6.1 8 (by omega) (by omega)).trans hn9) (fun z hz => ⟨(congrFun (hgu6.2 14 (by omega) (by omega) (by omega)) z).trans (hs9 z hz).1, (hs9 z hz).2⟩) (by rw [bitsF, hE]; exact (if_neg (fun h9 => bI_z.mp h9 c_64_7)).symm) (by omega) _ _ hW ls (lv_sub hl [0, 1, 2, 3, 4] rfl)
    exact loop_44_4 _ 0 0 (b.2 4 q_r) u2 (Nat.zero_le _) (hAL.id0 4 q_r) (hs8) (hsu) (rfl) (Nat.lt_succ_self _) _ _ hW ls (lv_sub hl [0, 1, 2, 4, 5] rfl)
  · refine lv_iload hx hb dX6_kinds_27 (lv_at hl 0 rfl) ?_
    have hF : F_set b P R C 4 2 (inN r R) r.toNatClampNeg x a i n = ((rnF b P R (bI (inN r R)) x a i n 1).1, flt b (rnF b P R (bI (inN r R)) x a i n 1).2) := by unfold F_set; rw [if_pos (by rw [← hru2]; exact c_24_3)]
    exact r_ireti hC hr hlk hW hQ (⟨by rw [hF]; exact hru2, by rw [hF]; exact hAu2⟩) dX6_kinds_29
