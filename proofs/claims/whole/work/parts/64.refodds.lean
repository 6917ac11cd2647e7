set_option maxRecDepth 100000 in
set_option maxHeartbeats 4000000 in
theorem m_X6_inLeastTerms (l : Launch) (z d : Nat) (w : Int32) (hz : z < 2 ^ 30) (hd0 : 0 < d) (hd : d < 2 ^ 30): PT l yX6_inLeastTerms cX6_inLeastTerms 11 (some .long) (rmk 0 0) [.long (lN z), .long (lN d), .int w] (vp_Sl (fun r => r = if w = 0 then lN (z / Nat.gcd z d) else lN (d / Nat.gcd z d))) := by
  refine PT.of (own := RX6) (by decide) rfl (Nat.le_of_ble_eq_true rfl) ?_
  intro p9 e9 s m9 args below meth c9 Q hC hr hlk hN hQ ls hl
  obtain ⟨hx, hb, hml, hown, hts⟩ := id hC
  have hl : lv_has ls 11 [(0, .long (lN z)), (2, .long (lN d)), (4, .int w)] := hl
  refine lv_lload_n hx hb dX6_inLeastTerms_0 rfl (lv_at hl 0 rfl) ?_
  refine lv_lstore (lv' := [(5, .long (lN z)), (0, .long (lN z)), (2, .long (lN d)), (4, .int w)]) hx hb dX6_inLeastTerms_1 hl (by decide) rfl (fun ls hl => ?_)
  refine lv_lload_n hx hb dX6_inLeastTerms_3 rfl (lv_at hl 2 rfl) ?_
  refine lv_lstore (lv' := [(7, .long (lN d)), (5, .long (lN z)), (0, .long (lN z)), (2, .long (lN d)), (4, .int w)]) hx hb dX6_inLeastTerms_4 hl (by decide) rfl (fun ls hl => ?_)
  have loop_6_1 : ∀ (f9 : Nat) (ya : Nat) (yb : Nat), (ya < 2 ^ 30) → (yb < 2 ^ 30) → (0 < ya ∨ 0 < yb) → (Nat.gcd ya yb = Nat.gcd z d) → yb < f9 → ∀ ls : Array Slot, lv_has ls 11 [(7, .long (lN yb)), (5, .long (lN ya)), (0, .long (lN z)), (2, .long (lN d)), (4, .int w)] → W p9 l e9 (rmk 0 0) s m9 args below meth c9 s.heap [] 0 0 Q (F0 m9 6 ls []) := by
    intro f_6
    induction f_6 with
    | zero => intro ya yb hya hyb hpo hg hm_6 ls hl; exact absurd hm_6 (Nat.not_lt_zero _)
    | succ f_6 ih_6 =>
      intro ya yb hya hyb hpo hg hm_6 ls hl
      refine lv_lload hx hb dX6_inLeastTerms_6 (lv_at hl 0 rfl) ?_
      refine lv_lconst (v := 0) hx hb dX6_inLeastTerms_8 (by decide) ?_
      refine lv_lcmp (v := bI (0 < yb)) hx hb (lcmp0 (by omega)) dX6_inLeastTerms_9 ?_
      refine lv_if_eq (tgt := 31) hx hb dX6_inLeastTerms_10 (by decide) (fun c_10_2 => ?_) (fun c_10_2 => ?_)
      · have c_10_2 := bI_z.mp c_10_2
        have hb0 : yb = 0 := by omega
        rw [hb0, Nat.gcd_zero_right] at hg
        have hpa : 0 < ya := by omega
        refine lv_iload hx hb dX6_inLeastTerms_31 (lv_at hl 4 rfl) ?_
        refine lv_if_ne (tgt := 43) hx hb dX6_inLeastTerms_33 (by decide) (fun c_33_3 => ?_) (fun c_33_3 => ?_)
        · refine lv_lload_n hx hb dX6_inLeastTerms_43 rfl (lv_at hl 3 rfl) ?_
          refine lv_lload hx hb dX6_inLeastTerms_44 (lv_at hl 1 rfl) ?_
          refine lv_ldiv hx hb dX6_inLeastTerms_46 (ln_ne hpa (by omega)) ?_
          refine r_topl (y := lN (d / Nat.gcd z d)) (by rw [← hg]; exact pk_lDiv (by omega) (by omega) (by omega)) ?_
          exact r_pl hC hr hlk hQ ((if_neg c_33_3).symm) dX6_inLeastTerms_47
        · refine lv_lload_n hx hb dX6_inLeastTerms_36 rfl (lv_at hl 2 rfl) ?_
          refine lv_lload hx hb dX6_inLeastTerms_37 (lv_at hl 1 rfl) ?_
          refine lv_ldiv hx hb dX6_inLeastTerms_39 (ln_ne hpa (by omega)) ?_
          refine r_topl (y := lN (z / Nat.gcd z d)) (by rw [← hg]; exact pk_lDiv (by omega) (by omega) (by omega)) ?_
          refine lv_goto (tgt := 47) hx hb dX6_inLeastTerms_40 (by decide) ?_
          exact r_pl hC hr hlk hQ ((if_pos c_33_3).symm) dX6_inLeastTerms_47
      · have c_10_2 := bI_nz c_10_2
        refine lv_lload hx hb dX6_inLeastTerms_13 (lv_at hl 1 rfl) ?_
        refine lv_lload hx hb dX6_inLeastTerms_15 (lv_at hl 0 rfl) ?_
        refine lv_lrem hx hb dX6_inLeastTerms_17 (ln_ne (by omega) (by omega)) ?_
        refine r_topl (y := lN (ya % yb)) (pk_lRem (by omega) (by omega) (by omega)) ?_
        refine lv_lstore (lv' := [(9, .long (lN (ya % yb))), (7, .long (lN yb)), (5, .long (lN ya)), (0, .long (lN z)), (2, .long (lN d)), (4, .int w)]) hx hb dX6_inLeastTerms_18 hl (by decide) rfl (fun ls hl => ?_)
        refine lv_lload hx hb dX6_inLeastTerms_20 (lv_at hl 1 rfl) ?_
        refine lv_lstore (lv' := [(5, .long (lN yb)), (9, .long (lN (ya % yb))), (7, .long (lN yb)), (0, .long (lN z)), (2, .long (lN d)), (4, .int w)]) hx hb dX6_inLeastTerms_22 hl (by decide) rfl (fun ls hl => ?_)
        refine lv_lload hx hb dX6_inLeastTerms_24 (lv_at hl 1 rfl) ?_
        refine lv_lstore (lv' := [(7, .long (lN (ya % yb))), (5, .long (lN yb)), (9, .long (lN (ya % yb))), (0, .long (lN z)), (2, .long (lN d)), (4, .int w)]) hx hb dX6_inLeastTerms_26 hl (by decide) rfl (fun ls hl => ?_)
        refine lv_goto (tgt := 6) hx hb dX6_inLeastTerms_28 (by decide) ?_
        have hlt9 := Nat.mod_lt ya (show 0 < yb from c_10_2)
        exact ih_6 yb (ya % yb) (by omega) (by omega) (by omega) (gcd_s hg) (by omega) ls (lv_sub hl [0, 1, 3, 4, 5] rfl)
  exact loop_6_1 _ z d (hz) (hd) (Or.inr hd0) (rfl) (Nat.lt_succ_self _) ls (lv_sub hl [0, 1, 2, 3, 4] rfl)
set_option maxRecDepth 100000 in
set_option maxHeartbeats 4000000 in
theorem m_X6_odds (l : Launch) (D : va_G) (cs : CS3) (ad : Nat → Nat) (t : St) (b : St) (P R C : Nat) (r x a i n w : Int32) (hB : WF b P R C) (hA : AM b t): CT l yX6_odds cX6_odds 9 (some .long) (rmk 3 72) (wM cs ad) (tyX cs) D [.ref (ad 0), .int r, .int x, .int a, .int i, .int n, .int w] t (va_Ql (fun z u => z = (F_odds b P R r x a i n w).1 ∧ AM (F_odds b P R r x a i n w).2 u)) := by
  refine CT.of (own := RX6) (by decide) rfl (Nat.le_of_ble_eq_true rfl) ?_
  intro p9 e9 s m9 args below meth c9 A Q hC hr hlk hW hQ ls hl
  obtain ⟨hx, hb, hml, hown, hts⟩ := id hC
  have hl : lv_has ls 9 [(0, .ref (ad 0)), (1, .int r), (2, .int x), (3, .int a), (4, .int i), (5, .int n), (6, .int w)] := hl
  obtain ⟨⟨bP, hP8, bR, hR5, bC, hC8, hlen⟩, hl4, hPR, hrg, hrd⟩ := id hB
  obtain ⟨⟨a0, a1, a2, a3, a4⟩, ⟨v4, v5, v6, v7, v8, v16, v17⟩, hsh⟩ := id hA
  have hP : t.1 2 = nI P := a2.trans bP
  have hR : t.1 3 = nI R := a3.trans bR
  have hc4 : t.1 12 = nI C := a4.trans bC
  refine lv_aload_n hx hb dX6_odds_0 rfl (lv_at hl 0 rfl) ?_
  refine lv_iconst (v := 0) hx hb dX6_odds_1 (by decide) ?_
  refine pM_fault hC hW q_fl_RX6_61 dX6_odds_2 (fun H locs hW => ?_)
  have hW : HX (wM cs ad) (tyX cs) D A s.heap s (va_up t.1 0 0, t.2) H locs := hW
  refine lv_aload_n hx hb dX6_odds_5 rfl (lv_at hl 0 rfl) ?_
  refine lv_iload_n hx hb dX6_odds_6 rfl (lv_at hl 1 rfl) ?_
  refine fin_i (run_V (rest := []) hC hW (m_X6_isRider l D cs ad (va_up t.1 0 0, t.2) R r hR) k_yX6_isRider ⟨rfl, rfl⟩ q_ml_RX6_121 eM_0 rfl rfl hl.1 rfl (Nat.le_of_ble_eq_true rfl) ⟨Nat.le_of_ble_eq_true rfl, Nat.le_of_ble_eq_true rfl⟩ dX6_odds_7 ⟨Nat.zero_le _, Nat.zero_le _⟩) hW (fun r1 u1 H locs hp1 hW => ?_)
  have hW := hx_congr hW hp1.2
  refine r_top hp1.1 ?_
  refine lv_if_eq (tgt := 48) hx hb dX6_odds_10 (by decide) (fun c_10_2 => ?_) (fun c_10_2 => ?_)
  · have c_10_2 := bI_z.mp c_10_2
    refine lv_ldc2 hx hb hown (hts _ q_k_RX6_65) dX6_odds_48 ?_
    have hF : F_odds b P R r x a i n w = (LOSTv, flt b 0) := by unfold F_odds; rw [if_neg c_10_2]
    exact r_lret hC hr hlk hW hQ (⟨by rw [hF]; rfl, by rw [hF]; exact am_flt hA 0⟩) dX6_odds_51
  · have c_10_2 := bI_nz c_10_2
    obtain ⟨q_r, hq_r, rfl⟩ := inN_ex c_10_2 (by omega)
    refine lv_iload_n hx hb dX6_odds_13 rfl (lv_at hl 2 rfl) ?_
    refine fin_pi (run_P (rest := []) hC hW.2.2.2.2.2 (m_X6_isSheet l x) k_yX6_isSheet ⟨rfl, rfl⟩ q_ml_RX6_80 rfl hl.1 rfl (Nat.le_of_ble_eq_true rfl) ⟨Nat.le_of_ble_eq_true rfl, Nat.le_of_ble_eq_true rfl⟩ dX6_odds_14 ⟨Nat.zero_le _, Nat.zero_le _⟩) (fun rz9 hr9 => ?_)
    refine r_top hr9 ?_
    refine lv_if_eq (tgt := 48) hx hb dX6_odds_17 (by decide) (fun c_17_3 => ?_) (fun c_17_3 => ?_)
    · have c_17_3 := bI_z.mp c_17_3
      refine lv_ldc2 hx hb hown (hts _ q_k_RX6_65) dX6_odds_48 ?_
      have hi9 : inN (nI q_r) R := by first | assumption | exact inN_n (by omega)
      have hF : F_odds b P R (nI q_r) x a i n w = (LOSTv, flt b 0) := by unfold F_odds rsF; rw [if_pos hi9, if_pos c_17_3]; rfl
      exact r_lret hC hr hlk hW hQ (⟨by rw [hF]; rfl, by rw [hF]; exact am_flt hA 0⟩) dX6_odds_51
    · have c_17_3 := bI_nz c_17_3
      obtain ⟨k, hk3, rfl⟩ := rng_ex (M := 3) (n := 3) (by decide) c_17_3
      have hsr_k := srt (show k < 4 by omega) hl4 (hsh k (by omega))
      have hs_k := hsh k (by omega)
      refine lv_iload_n hx hb dX6_odds_20 rfl (lv_at hl 3 rfl) ?_
      refine fin_pi (run_P (rest := []) hC hW.2.2.2.2.2 (m_X6_isSort l a) k_yX6_isSort ⟨rfl, rfl⟩ q_ml_RX6_84 rfl hl.1 rfl (Nat.le_of_ble_eq_true rfl) ⟨Nat.le_of_ble_eq_true rfl, Nat.le_of_ble_eq_true rfl⟩ dX6_odds_21 ⟨Nat.zero_le _, Nat.zero_le _⟩) (fun rz9 hr9 => ?_)
      refine r_top hr9 ?_
      refine lv_if_eq (tgt := 48) hx hb dX6_odds_24 (by decide) (fun c_24_4 => ?_) (fun c_24_4 => ?_)
      · have c_24_4 := bI_z.mp c_24_4
        refine lv_ldc2 hx hb hown (hts _ q_k_RX6_65) dX6_odds_48 ?_
        have hi9 : inN (nI q_r) R := by first | assumption | exact inN_n (by omega)
        have hF : F_odds b P R (nI q_r) (nI k) a i n w = (LOSTv, flt b 0) := by unfold F_odds; rw [if_pos hi9, rs_out ⟨nI_pos' (show k < 2 ^ 31 by omega), nI_le (a := k) (b := 3) (by omega) (by decide)⟩ (fun h9 => c_24_4 h9.1)]; rfl
        exact r_lret hC hr hlk hW hQ (⟨by rw [hF]; rfl, by rw [hF]; exact am_flt hA 0⟩) dX6_odds_51
      · have c_24_4 := bI_nz c_24_4
        refine lv_iload hx hb dX6_odds_27 (lv_at hl 5 rfl) ?_
        refine lv_iconst (v := 0) hx hb dX6_odds_29 (by decide) ?_
        refine lv_bipush (v := 10) hx hb dX6_odds_30 (by decide) ?_
        refine fin_pi (run_P (rest := []) hC hW.2.2.2.2.2 (m_X6_within l n 0 10) k_yX6_within ⟨rfl, rfl⟩ q_ml_RX6_67 rfl hl.1 rfl (Nat.le_of_ble_eq_true rfl) ⟨Nat.le_of_ble_eq_true rfl, Nat.le_of_ble_eq_true rfl⟩ dX6_odds_32 ⟨Nat.zero_le _, Nat.zero_le _⟩) (fun rz9 hr9 => ?_)
        refine r_top hr9 ?_
        refine lv_if_eq (tgt := 48) hx hb dX6_odds_35 (by decide) (fun c_35_5 => ?_) (fun c_35_5 => ?_)
        · have c_35_5 := bI_z.mp c_35_5
          refine lv_ldc2 hx hb hown (hts _ q_k_RX6_65) dX6_odds_48 ?_
          have hi9 : inN (nI q_r) R := by first | assumption | exact inN_n (by omega)
          have hF : F_odds b P R (nI q_r) (nI k) a i n w = (LOSTv, flt b 0) := by unfold F_odds; rw [if_pos hi9, rs_out ⟨nI_pos' (show k < 2 ^ 31 by omega), nI_le (a := k) (b := 3) (by omega) (by decide)⟩ (fun h9 => c_35_5 h9.2.1)]; rfl
          exact r_lret hC hr hlk hW hQ (⟨by rw [hF]; rfl, by rw [hF]; exact am_flt hA 0⟩) dX6_odds_51
        · have c_35_5 := bI_nz c_35_5
          refine lv_iload hx hb dX6_odds_38 (lv_at hl 6 rfl) ?_
          refine lv_iconst (v := 0) hx hb dX6_odds_40 (by decide) ?_
          refine lv_iconst (v := 1) hx hb dX6_odds_41 (by decide) ?_
          refine fin_pi (run_P (rest := []) hC hW.2.2.2.2.2 (m_X6_within l w 0 1) k_yX6_within ⟨rfl, rfl⟩ q_ml_RX6_67 rfl hl.1 rfl (Nat.le_of_ble_eq_true rfl) ⟨Nat.le_of_ble_eq_true rfl, Nat.le_of_ble_eq_true rfl⟩ dX6_odds_42 ⟨Nat.zero_le _, Nat.zero_le _⟩) (fun rz9 hr9 => ?_)
          refine r_top hr9 ?_
          refine lv_if_ne (tgt := 52) hx hb dX6_odds_45 (by decide) (fun c_45_6 => ?_) (fun c_45_6 => ?_)
          · have c_45_6 := bI_nz c_45_6
            refine lv_aload_n hx hb dX6_odds_52 rfl (lv_at hl 0 rfl) ?_
            refine lv_iload_n hx hb dX6_odds_53 rfl (lv_at hl 2 rfl) ?_
            refine lv_iload_n hx hb dX6_odds_54 rfl (lv_at hl 3 rfl) ?_
            refine lv_iload hx hb dX6_odds_55 (lv_at hl 4 rfl) ?_
            refine lv_iload hx hb dX6_odds_57 (lv_at hl 5 rfl) ?_
            refine fin_i (run_V (rest := []) hC hW (m_X6_laySteps l D cs ad (va_up t.1 0 0, t.2) b R k a i n (by omega) hl4 hlen hs_k hR hR5 ⟨c_35_5.1, Int32.le_trans c_35_5.2 (by decide)⟩ rfl) k_yX6_laySteps ⟨rfl, rfl⟩ q_ml_RX6_155 eM_0 rfl rfl hl.1 rfl (Nat.le_of_ble_eq_true rfl) ⟨Nat.le_of_ble_eq_true rfl, Nat.le_of_ble_eq_true rfl⟩ dX6_odds_59 ⟨Nat.zero_le _, Nat.zero_le _⟩) hW (fun r7 u7 H locs hp7 hW => ?_)
            obtain ⟨hru7, hfu7, hgu7, hau7, hsu7⟩ := hp7
            refine lv_if_eq (tgt := 69) hx hb dX6_odds_62 (by decide) (fun c_62_8 => ?_) (fun c_62_8 => ?_)
            · have hrz : r7 = 0 := c_62_8
              have hdp : odP n w := ⟨c_35_5, c_45_6⟩
              have hL := rs_ly (a := b) (P := P) (i := i) (n := n) hk3 (And.intro c_24_4 True.intro).1 (show ¬ bI (odP n w) = 0 from by rw [← bI_t hdp]; decide) hPR
              have hr0 : (rsF b P R (nI k) a i n (bI (odP n w))).1 = 0 := by rw [hL, ← hru7]; exact hrz
              obtain ⟨k8, i0, n0, hk4, ek8, rfl, rfl, hin60, h7, hP0, hst, hrs2⟩ := rs0 hlen hr0
              have ek9 : k8 = k := ((nI_eq (by omega) (by omega)).mp ek8).symm
              rw [ek9] at hst
              have hstp := stp_ok (t := b) (k := k) (by omega) (by omega) hR5 hst
              have hs8 : u7.1 8 = nI n0 := (hsu7 hrz).1
              have hsu : ∀ z, z < n0 → u7.2 14 z = nI (stpF b (nI k) (nI i0) z) ∧ (stpF b (nI k) (nI i0) z = 5 ∨ stpF b (nI k) (nI i0) z < R) := fun z hz => ⟨((hsu7 hrz).2 z (by rw [nI_clamp (by omega)]; exact hz)).trans (by rw [nI_clamp (show i0 < 2 ^ 31 by omega)]; exact (hstp z hz).1), (hstp z hz).2⟩
              have hAL : AM (flt b 0) u7 := am_ly (am_flt hA 0) (by rw [hfu7, ← hL]; exact hrs2) hgu7 hau7
              have hf9 := am_f (c := 6) (q := 0) hB (hAL.id0 6 0) (by decide) (by decide)
              have hn10 : n0 ≤ 10 := (nI_leI (a := n0) (b := 10) (by omega) (by decide)).mp hdp.1.2
              have h1024 : 2 ^ n0 ≤ 1024 := Nat.pow_le_pow_right (n := 2) (by decide) hn10
              obtain ⟨GG, hGG⟩ : ∃ G : Nat → Int32, G = (fun s9 => bI (isup (ubF (hX P b) (stpF b (nI k) (nI i0)) s9 n0 0 (beg b)).2.2.2 q_r)) := ⟨_, rfl⟩
              have hcl := cnt_le GG
              refine lv_iconst (v := 0) hx hb dX6_odds_69 (by decide) ?_
              refine lv_istore (lv' := [(7, .int 0), (0, .ref (ad 0)), (1, .int (nI q_r)), (2, .int (nI k)), (3, .int a), (4, .int (nI i0)), (5, .int (nI n0)), (6, .int w)]) hx hb dX6_odds_70 hl (by decide) rfl (fun ls hl => ?_)
              refine lv_iconst (v := 0) hx hb dX6_odds_72 (by decide) ?_
              refine lv_istore (lv' := [(8, .int 0), (7, .int 0), (0, .ref (ad 0)), (1, .int (nI q_r)), (2, .int (nI k)), (3, .int a), (4, .int (nI i0)), (5, .int (nI n0)), (6, .int w)]) hx hb dX6_odds_73 hl (by decide) rfl (fun ls hl => ?_)
              have loop_75_9 : ∀ (f9 : Nat) (zs : Nat) (w8 : St), (zs ≤ 2 ^ n0) → (AM (flt b 0) w8) → (w8.1 8 = nI n0) → (∀ z, z < n0 → w8.2 14 z = nI ((stpF b (nI k) (nI i0)) z) ∧ ((stpF b (nI k) (nI i0)) z = 5 ∨ (stpF b (nI k) (nI i0)) z < R)) → 2 ^ n0 - zs < f9 → ∀ (H : Heap) (locs : List Loc), HX (wM cs ad) (tyX cs) D A s.heap s w8 H locs → ∀ ls : Array Slot, lv_has ls 9 [(8, .int (nI zs)), (7, .int (nI (cntF GG zs))), (0, .ref (ad 0)), (1, .int (nI q_r)), (5, .int (nI n0)), (6, .int w)] → W p9 l e9 (rmk 3 72) s m9 args below meth c9 H locs 0 0 Q (F0 m9 75 ls []) := by
                intro f_75
                induction f_75 with
                | zero => intro zs w8 hzs hAw hn8 hsw hm_75 H locs hW ls hl; exact absurd hm_75 (Nat.not_lt_zero _)
                | succ f_75 ih_75 =>
                  intro zs w8 hzs hAw hn8 hsw hm_75 H locs hW ls hl
                  refine lv_iload hx hb dX6_odds_75 (lv_at hl 0 rfl) ?_
                  refine lv_iconst (v := 1) hx hb dX6_odds_77 (by decide) ?_
                  refine lv_iload hx hb dX6_odds_78 (lv_at hl 4 rfl) ?_
                  refine lv_ishl hx hb dX6_odds_80 ?_
                  refine r_top (y := nI (2 ^ n0)) (shl_1 (by omega)) ?_
                  refine lv_icmp_ge (tgt := 110) hx hb dX6_odds_81 (by decide) (fun c_81_10 => ?_) (fun c_81_10 => ?_)
                  · have c_81_10 : 2 ^ n0 ≤ zs := (nI_leI (a := 2 ^ n0) (b := zs) (by omega) (by omega)).mp c_81_10
                    refine lv_iload hx hb dX6_odds_110 (lv_at hl 1 rfl) ?_
                    refine lv_i2l (v := (nI (cntF GG zs)).toInt64) hx hb dX6_odds_112 rfl ?_
                    have hzN : zs = 2 ^ n0 := by omega
                    rw [hzN]
                    have hc9 := hcl (2 ^ n0)
                    refine r_topl (y := lN (cntF GG (2 ^ n0))) (nI_l (by omega)) ?_
                    refine lv_lconst (v := 1) hx hb dX6_odds_113 (by decide) ?_
                    refine lv_iload hx hb dX6_odds_114 (lv_at hl 4 rfl) ?_
                    refine lv_lshl (v := (1 : Int64) <<< ((nI n0).toInt64 &&& 63)) hx hb dX6_odds_116 rfl ?_
                    refine r_topl (y := lN (2 ^ n0)) (lshl_1 ⟨n0, by omega⟩) ?_
                    refine lv_iload hx hb dX6_odds_117 (lv_at hl 5 rfl) ?_
                    refine fin_pl (run_P (rest := []) hC hW.2.2.2.2.2 (m_X6_inLeastTerms l (cntF GG (2 ^ n0)) (2 ^ n0) w (by omega) (Nat.pow_pos (by decide)) (by omega)) k_yX6_inLeastTerms ⟨rfl, rfl⟩ q_ml_RX6_205 rfl hl.1 rfl (Nat.le_of_ble_eq_true rfl) ⟨Nat.le_of_ble_eq_true rfl, Nat.le_of_ble_eq_true rfl⟩ dX6_odds_119 ⟨Nat.zero_le _, Nat.zero_le _⟩) (fun rz9 hr9 => ?_)
                    have hi9 : inN (nI q_r) R := by first | assumption | exact inN_n (by omega)
                    have hcw : cntF GG (2 ^ n0) = wup (hX P b) (stpF b (nI k) (nI i0)) q_r n0 0 (beg b) := by rw [hGG]; exact cnt_eq (up_K _ _) _ _ _ hn10
                    have hge := gcd_e hn10 hc9
                    have hgz : cntF GG (2 ^ n0) / Nat.gcd (cntF GG (2 ^ n0)) (2 ^ n0) ≤ cntF GG (2 ^ n0) := Nat.div_le_self _ _
                    have hgn : 2 ^ n0 / Nat.gcd (cntF GG (2 ^ n0)) (2 ^ n0) ≤ 2 ^ n0 := Nat.div_le_self _ _
                    have hF : F_odds b P R (nI q_r) (nI k) a (nI i0) (nI n0) w = (rz9, flt b 0) := by
                      rw [show rz9 = _ from hr9]; unfold F_odds; rw [if_pos hi9, if_neg (not_not_intro hr0), nI_clamp (show n0 < 2 ^ 31 by omega), nI_clamp (show q_r < 2 ^ 31 by omega), ← hcw, hge.1, hge.2, nI_l (by omega), nI_l (by omega)]
                      split <;> rfl
                    exact r_lret hC hr hlk hW hQ (⟨by rw [hF], by rw [hF]; exact hAw⟩) dX6_odds_122
                  · have c_81_10 : ¬ (2 ^ n0) ≤ zs := fun h => c_81_10 ((nI_leI (a := 2 ^ n0) (b := zs) (by omega) (by omega)).mpr h)
                    refine lv_iload hx hb dX6_odds_84 (lv_at hl 1 rfl) ?_
                    refine lv_aload_n hx hb dX6_odds_86 rfl (lv_at hl 2 rfl) ?_
                    refine lv_iload_n hx hb dX6_odds_87 rfl (lv_at hl 3 rfl) ?_
                    refine lv_iload hx hb dX6_odds_88 (lv_at hl 0 rfl) ?_
                    have hf8 := am_f (c := 6) (q := 0) hB (hAw.id0 6 0) (by decide) (by decide)
                    refine fin_i (run_V (rest := [.int (nI (cntF GG zs))]) hC hW (m_X6_isUpByRain l D cs ad w8 P R q_r zs (stpF b (nI k) (nI i0)) n0 hf8.1 hP8 hf8.2.1 hR5 hn8 (by omega) hsw hf8.2.2.2.2) k_yX6_isUpByRain ⟨rfl, rfl⟩ q_ml_RX6_202 eM_0 rfl rfl hl.1 rfl (Nat.le_of_ble_eq_true rfl) ⟨Nat.le_of_ble_eq_true rfl, Nat.le_of_ble_eq_true rfl⟩ dX6_odds_90 ⟨Nat.zero_le _, Nat.zero_le _⟩) hW (fun r11 u11 H locs hp11 hW => ?_)
                    obtain ⟨hru11, hgu11⟩ := hp11
                    rw [hAw.eh P, hAw.eb] at hru11
                    have hr9 : r11 = GG zs := by rw [hGG]; exact hru11
                    refine r_top hr9 ?_
                    refine lv_if_eq (tgt := 100) hx hb dX6_odds_93 (by decide) (fun c_93_12 => ?_) (fun c_93_12 => ?_)
                    · refine lv_iconst (v := 0) hx hb dX6_odds_100 (by decide) ?_
                      refine lv_iadd hx hb dX6_odds_101 ?_
                      refine r_top (y := nI (cntF GG (zs + 1))) (by rw [cntF, if_pos c_93_12]; exact Int32.add_zero _) ?_
                      refine lv_istore (lv' := [(7, .int (nI (cntF GG (zs + 1)))), (8, .int (nI zs)), (0, .ref (ad 0)), (1, .int (nI q_r)), (5, .int (nI n0)), (6, .int w)]) hx hb dX6_odds_102 hl (by decide) rfl (fun ls hl => ?_)
                      refine lv_iinc (v := nI (zs + 1)) (lv' := [(8, .int (nI (zs + 1))), (7, .int (nI (cntF GG (zs + 1)))), (0, .ref (ad 0)), (1, .int (nI q_r)), (5, .int (nI n0)), (6, .int w)]) hx hb dX6_odds_104 hl (k := 1) rfl (nI_1 _) (by decide) rfl (fun ls hl => ?_)
                      refine lv_goto (tgt := 75) hx hb dX6_odds_107 (by decide) ?_
                      exact ih_75 (zs + 1) u11 (by omega) (hAw.lm hgu11.lm) ((hgu11.1 8 (by omega)).trans hn8) (fun z hz => ⟨(congrFun (hgu11.2 14 (by omega) (by omega) (by omega)) z).trans (hsw z hz).1, (hsw z hz).2⟩) (by omega) _ _ hW ls (lv_sub hl [0, 1, 2, 3, 4, 5] rfl)
                    · refine lv_iconst (v := 1) hx hb dX6_odds_96 (by decide) ?_
                      refine lv_goto (tgt := 101) hx hb dX6_odds_97 (by decide) ?_
                      refine lv_iadd hx hb dX6_odds_101 ?_
                      refine r_top (y := nI (cntF GG (zs + 1))) (by rw [cntF, if_neg c_93_12]; exact nI_1 _) ?_
                      refine lv_istore (lv' := [(7, .int (nI (cntF GG (zs + 1)))), (8, .int (nI zs)), (0, .ref (ad 0)), (1, .int (nI q_r)), (5, .int (nI n0)), (6, .int w)]) hx hb dX6_odds_102 hl (by decide) rfl (fun ls hl => ?_)
                      refine lv_iinc (v := nI (zs + 1)) (lv' := [(8, .int (nI (zs + 1))), (7, .int (nI (cntF GG (zs + 1)))), (0, .ref (ad 0)), (1, .int (nI q_r)), (5, .int (nI n0)), (6, .int w)]) hx hb dX6_odds_104 hl (k := 1) rfl (nI_1 _) (by decide) rfl (fun ls hl => ?_)
                      refine lv_goto (tgt := 75) hx hb dX6_odds_107 (by decide) ?_
                      exact ih_75 (zs + 1) u11 (by omega) (hAw.lm hgu11.lm) ((hgu11.1 8 (by omega)).trans hn8) (fun z hz => ⟨(congrFun (hgu11.2 14 (by omega) (by omega) (by omega)) z).trans (hsw z hz).1, (hsw z hz).2⟩) (by omega) _ _ hW ls (lv_sub hl [0, 1, 2, 3, 4, 5] rfl)
              exact loop_75_9 _ 0 u7 (Nat.zero_le _) (hAL) (hs8) (hsu) (Nat.lt_succ_self _) _ _ hW ls (lv_sub hl [0, 1, 2, 3, 7, 8] rfl)
            · refine lv_ldc2 hx hb hown (hts _ q_k_RX6_65) dX6_odds_65 ?_
              have hi9 : inN (nI q_r) R := by first | assumption | exact inN_n (by omega)
              have hdp : odP n w := ⟨c_35_5, c_45_6⟩
              have hL := rs_ly (a := b) (P := P) (i := i) (n := n) hk3 c_24_4 (show ¬ bI (odP n w) = 0 from by rw [← bI_t hdp]; decide) hPR
              have hF : F_odds b P R (nI q_r) (nI k) a i n w = (LOSTv, flt b (lyF b R k a i n).2) := by unfold F_odds; rw [if_pos hi9, hL, if_pos (by rw [← hru7]; exact c_62_8)]
              exact r_lret hC hr hlk hW hQ (⟨by rw [hF]; rfl, by rw [hF]; exact am_ly (am_flt hA 0) hfu7 hgu7 hau7⟩) dX6_odds_68
          · have c_45_6 := bI_z.mp c_45_6
            refine lv_ldc2 hx hb hown (hts _ q_k_RX6_65) dX6_odds_48 ?_
            have hi9 : inN (nI q_r) R := by first | assumption | exact inN_n (by omega)
            have hF : F_odds b P R (nI q_r) (nI k) a i n w = (LOSTv, flt b 0) := by unfold F_odds; rw [if_pos hi9, rs_out ⟨nI_pos' (show k < 2 ^ 31 by omega), nI_le (a := k) (b := 3) (by omega) (by decide)⟩ (fun h9 => c_45_6 h9.2.2)]; rfl
            exact r_lret hC hr hlk hW hQ (⟨by rw [hF]; rfl, by rw [hF]; exact am_flt hA 0⟩) dX6_odds_51
