set_option maxRecDepth 100000 in
set_option maxHeartbeats 4000000 in
theorem m_X6_put (l : Launch) (D : va_G) (cs : CS3) (ad : Nat → Nat) (t : St) (b : St) (P R C : Nat) (x i v : Int32) (hB : WF b P R C) (hA : AM b t): CT l yX6_put cX6_put 4 (some .int) (rmk 2 42) (wM cs ad) (tyX cs) D [.ref (ad 0), .int x, .int i, .int v] t (va_Qi (fun z u => z = (F_put b x i v).1 ∧ AM (F_put b x i v).2 u)) := by
  refine CT.of (own := RX6) (by decide) rfl (Nat.le_of_ble_eq_true rfl) ?_
  intro p9 e9 s m9 args below meth c9 A Q hC hr hlk hW hQ ls hl
  obtain ⟨hx, hb, hml, hown, hts⟩ := id hC
  have hl : lv_has ls 4 [(0, .ref (ad 0)), (1, .int x), (2, .int i), (3, .int v)] := hl
  obtain ⟨⟨bP, hP8, bR, hR5, bC, hC8, hlen⟩, hl4, hPR, hrg, hrd⟩ := id hB
  obtain ⟨⟨a0, a1, a2, a3, a4⟩, ⟨v4, v5, v6, v7, v8, v16, v17⟩, hsh⟩ := id hA
  have hP : t.1 2 = nI P := a2.trans bP
  have hR : t.1 3 = nI R := a3.trans bR
  have hc4 : t.1 12 = nI C := a4.trans bC
  refine lv_aload_n hx hb dX6_put_0 rfl (lv_at hl 0 rfl) ?_
  refine lv_iconst (v := 0) hx hb dX6_put_1 (by decide) ?_
  refine pM_fault hC hW q_fl_RX6_61 dX6_put_2 (fun H locs hW => ?_)
  have hW : HX (wM cs ad) (tyX cs) D A s.heap s (va_up t.1 0 0, t.2) H locs := hW
  refine lv_iload_n hx hb dX6_put_5 rfl (lv_at hl 1 rfl) ?_
  refine fin_pi (run_P (rest := []) hC hW.2.2.2.2.2 (m_X6_isSheet l x) k_yX6_isSheet ⟨rfl, rfl⟩ q_ml_RX6_80 rfl hl.1 rfl (Nat.le_of_ble_eq_true rfl) ⟨Nat.le_of_ble_eq_true rfl, Nat.le_of_ble_eq_true rfl⟩ dX6_put_6 ⟨Nat.zero_le _, Nat.zero_le _⟩) (fun rz9 hr9 => ?_)
  refine r_top hr9 ?_
  refine lv_if_ne (tgt := 14) hx hb dX6_put_9 (by decide) (fun c_9_1 => ?_) (fun c_9_1 => ?_)
  · have c_9_1 := bI_nz c_9_1
    obtain ⟨k, hk3, rfl⟩ := rng_ex (M := 3) (n := 3) (by decide) c_9_1
    have hsr_k := srt (show k < 4 by omega) hl4 (hsh k (by omega))
    have hs_k := hsh k (by omega)
    refine lv_aload_n hx hb dX6_put_14 rfl (lv_at hl 0 rfl) ?_
    refine gM_sorts hC hW q_fl_RX6_9 dX6_put_15 ?_
    refine lv_iload_n hx hb dX6_put_18 rfl (lv_at hl 1 rfl) ?_
    refine r_ildN (t0 := 0) (j := k) hC hW eM_1 rfl (rfl) (by omega) (by decide) dX6_put_19 ?_
    refine r_top (y := t.2 1 k) (by first | rfl | simp only [va_up_self]) ?_
    refine lv_bipush (v := (-9)) hx hb dX6_put_20 (by decide) ?_
    refine lv_icmp_ne (tgt := 31) hx hb dX6_put_22 (by decide) (fun c_22_2 => ?_) (fun c_22_2 => ?_)
    · have hl_k : ¬ b.1 (5 + 2 * k) = -1 := fun h9 => c_22_2 (hsr_k.1.mpr h9)
      obtain ⟨z0, hz0, ez0⟩ := hlen k (by omega)
      have hln := (hs_k.2 hl_k).1.trans ez0
      have hlz := hsr_k.2 hl_k
      have hf1 : ∀ la, b.1 (5 + 2 * k) = la → ∀ i, focT b k la i 1 = if 0 ≤ i ∧ i ≤ nI z0 - 1 then 0 else 3 := fun la h1 i => by unfold focT; rw [ez0]; exact foc1 hz0 hl_k h1
      refine lv_iload_n hx hb dX6_put_31 rfl (lv_at hl 2 rfl) ?_
      refine lv_iconst (v := 0) hx hb dX6_put_32 (by decide) ?_
      refine lv_aload_n hx hb dX6_put_33 rfl (lv_at hl 0 rfl) ?_
      refine gM_sheetLong hC hW q_fl_RX6_13 dX6_put_34 ?_
      refine lv_iload_n hx hb dX6_put_37 rfl (lv_at hl 1 rfl) ?_
      refine r_ildN (t0 := 0) (j := k) hC hW eM_2 rfl (rfl) (by omega) (by decide) dX6_put_38 ?_
      refine r_top (y := t.2 2 k) (by first | rfl | simp only [va_up_self]) ?_
      refine r_top (y := nI z0) hln ?_
      refine lv_iconst (v := 1) hx hb dX6_put_39 (by decide) ?_
      refine lv_isub hx hb dX6_put_40 ?_
      refine fin_pi (run_P (rest := []) hC hW.2.2.2.2.2 (m_X6_within l i 0 ((nI z0) - 1)) k_yX6_within ⟨rfl, rfl⟩ q_ml_RX6_67 rfl hl.1 rfl (Nat.le_of_ble_eq_true rfl) ⟨Nat.le_of_ble_eq_true rfl, Nat.le_of_ble_eq_true rfl⟩ dX6_put_41 ⟨Nat.zero_le _, Nat.zero_le _⟩) (fun rz9 hr9 => ?_)
      refine r_top hr9 ?_
      refine lv_if_ne (tgt := 53) hx hb dX6_put_44 (by decide) (fun c_44_3 => ?_) (fun c_44_3 => ?_)
      · have c_44_3 := bI_nz c_44_3
        obtain ⟨i0, hi0, rfl⟩ := inN_ex (x := i) (n := z0) ⟨c_44_3.1, (le_pred (by omega)).mp c_44_3.2⟩ (by omega)
        refine lv_aload_n hx hb dX6_put_53 rfl (lv_at hl 0 rfl) ?_
        refine gM_cells hC hW q_fl_RX6_16 dX6_put_54 ?_
        refine lv_bipush (v := 60) hx hb dX6_put_57 (by decide) ?_
        refine lv_iload_n hx hb dX6_put_59 rfl (lv_at hl 1 rfl) ?_
        refine lv_imul hx hb dX6_put_60 ?_
        refine r_top (y := nI (60 * k)) (pk_mul 60 k) ?_
        refine lv_iload_n hx hb dX6_put_61 rfl (lv_at hl 2 rfl) ?_
        refine lv_iadd hx hb dX6_put_62 ?_
        refine r_top (y := nI ((60 * k) + i0)) (nI_add (60 * k) i0) ?_
        refine lv_aload_n hx hb dX6_put_63 rfl (lv_at hl 0 rfl) ?_
        refine gM_sorts hC hW q_fl_RX6_9 dX6_put_64 ?_
        refine lv_iload_n hx hb dX6_put_67 rfl (lv_at hl 1 rfl) ?_
        refine r_ildN (t0 := 0) (j := k) hC hW eM_1 rfl (rfl) (by omega) (by decide) dX6_put_68 ?_
        refine r_top (y := t.2 1 k) (by first | rfl | simp only [va_up_self]) ?_
        refine r_top (y := b.1 (5 + 2 * k)) hlz ?_
        refine lv_if_ne (tgt := 77) hx hb dX6_put_69 (by decide) (fun c_69_4 => ?_) (fun c_69_4 => ?_)
        · refine lv_aload_n hx hb dX6_put_77 rfl (lv_at hl 0 rfl) ?_
          refine gM_sorts hC hW q_fl_RX6_9 dX6_put_78 ?_
          refine lv_iload_n hx hb dX6_put_81 rfl (lv_at hl 1 rfl) ?_
          refine r_ildN (t0 := 0) (j := k) hC hW eM_1 rfl (rfl) (by omega) (by decide) dX6_put_82 ?_
          refine r_top (y := t.2 1 k) (by first | rfl | simp only [va_up_self]) ?_
          refine r_top (y := b.1 (5 + 2 * k)) hlz ?_
          refine lv_iconst (v := 1) hx hb dX6_put_83 (by decide) ?_
          refine lv_icmp_ne (tgt := 92) hx hb dX6_put_84 (by decide) (fun c_84_5 => ?_) (fun c_84_5 => ?_)
          · refine lv_iload_n hx hb dX6_put_92 rfl (lv_at hl 3 rfl) ?_
            refine r_top (y := cutF (b.1 (5 + 2 * k)) v) (by unfold cutF; rw [if_neg c_69_4, if_neg c_84_5]) ?_
            refine r_istN (t0 := 0) (j := (60 * k) + i0) hC hW eM_3 rfl (rfl) (by omega) (by decide) (sM_3 _) dX6_put_93 (fun H locs hW => ?_)
            have hW : HX (wM cs ad) (tyX cs) D A s.heap s (va_up t.1 0 0, va_up t.2 3 (upd (t.2 3) ((60 * k) + i0) (cutF (b.1 (5 + 2 * k)) v))) H locs := hW
            refine lv_iconst (v := 1) hx hb dX6_put_94 (by decide) ?_
            have hF : F_put b (nI k) (nI i0) v = (1, setS (flt b 0) (15 + 2 * k) i0 (cutF (b.1 (5 + 2 * k)) v)) := by unfold F_put; rw [if_pos c_9_1, nI_clamp (show k < 2 ^ 31 by omega), if_pos (show focT b k (b.1 (5 + 2 * k)) (nI i0) 1 = 0 from (hf1 _ rfl _).trans (if_pos c_44_3))] <;> (try rw [nI_clamp (show k < 2 ^ 31 by omega)]) <;> (try rw [nI_clamp (show i0 < 2 ^ 31 by omega)]) <;> (try rfl)
            exact r_ireti hC hr hlk hW hQ (⟨by rw [hF], by rw [hF]; exact am_put hA (by omega) (by omega) hl_k⟩) dX6_put_95
          · refine lv_iload_n hx hb dX6_put_87 rfl (lv_at hl 3 rfl) ?_
            refine lv_i2s (v := v.toInt16.toInt32) hx hb dX6_put_88 rfl ?_
            refine lv_goto (tgt := 93) hx hb dX6_put_89 (by decide) ?_
            refine r_top (y := cutF (b.1 (5 + 2 * k)) v) (by unfold cutF; rw [if_neg c_69_4, if_pos c_84_5]) ?_
            refine r_istN (t0 := 0) (j := (60 * k) + i0) hC hW eM_3 rfl (rfl) (by omega) (by decide) (sM_3 _) dX6_put_93 (fun H locs hW => ?_)
            have hW : HX (wM cs ad) (tyX cs) D A s.heap s (va_up t.1 0 0, va_up t.2 3 (upd (t.2 3) ((60 * k) + i0) (cutF (b.1 (5 + 2 * k)) v))) H locs := hW
            refine lv_iconst (v := 1) hx hb dX6_put_94 (by decide) ?_
            have hF : F_put b (nI k) (nI i0) v = (1, setS (flt b 0) (15 + 2 * k) i0 (cutF (b.1 (5 + 2 * k)) v)) := by unfold F_put; rw [if_pos c_9_1, nI_clamp (show k < 2 ^ 31 by omega), if_pos (show focT b k (b.1 (5 + 2 * k)) (nI i0) 1 = 0 from (hf1 _ rfl _).trans (if_pos c_44_3))] <;> (try rw [nI_clamp (show k < 2 ^ 31 by omega)]) <;> (try rw [nI_clamp (show i0 < 2 ^ 31 by omega)]) <;> (try rfl)
            exact r_ireti hC hr hlk hW hQ (⟨by rw [hF], by rw [hF]; exact am_put hA (by omega) (by omega) hl_k⟩) dX6_put_95
        · refine lv_iload_n hx hb dX6_put_72 rfl (lv_at hl 3 rfl) ?_
          refine lv_i2b (v := v.toInt8.toInt32) hx hb dX6_put_73 rfl ?_
          refine lv_goto (tgt := 93) hx hb dX6_put_74 (by decide) ?_
          refine r_top (y := cutF (b.1 (5 + 2 * k)) v) (by unfold cutF; rw [if_pos c_69_4]) ?_
          refine r_istN (t0 := 0) (j := (60 * k) + i0) hC hW eM_3 rfl (rfl) (by omega) (by decide) (sM_3 _) dX6_put_93 (fun H locs hW => ?_)
          have hW : HX (wM cs ad) (tyX cs) D A s.heap s (va_up t.1 0 0, va_up t.2 3 (upd (t.2 3) ((60 * k) + i0) (cutF (b.1 (5 + 2 * k)) v))) H locs := hW
          refine lv_iconst (v := 1) hx hb dX6_put_94 (by decide) ?_
          have hF : F_put b (nI k) (nI i0) v = (1, setS (flt b 0) (15 + 2 * k) i0 (cutF (b.1 (5 + 2 * k)) v)) := by unfold F_put; rw [if_pos c_9_1, nI_clamp (show k < 2 ^ 31 by omega), if_pos (show focT b k (b.1 (5 + 2 * k)) (nI i0) 1 = 0 from (hf1 _ rfl _).trans (if_pos c_44_3))] <;> (try rw [nI_clamp (show k < 2 ^ 31 by omega)]) <;> (try rw [nI_clamp (show i0 < 2 ^ 31 by omega)]) <;> (try rfl)
          exact r_ireti hC hr hlk hW hQ (⟨by rw [hF], by rw [hF]; exact am_put hA (by omega) (by omega) hl_k⟩) dX6_put_95
      · have c_44_3 := bI_z.mp c_44_3
        refine lv_aload_n hx hb dX6_put_47 rfl (lv_at hl 0 rfl) ?_
        refine lv_iconst (v := 3) hx hb dX6_put_48 (by decide) ?_
        refine fin_i (run_V (rest := []) hC hW (m_X6_fails l D cs ad (va_up t.1 0 0, t.2) 3) k_yX6_fails ⟨rfl, rfl⟩ q_ml_RX6_91 eM_0 rfl rfl hl.1 rfl (Nat.le_of_ble_eq_true rfl) ⟨Nat.le_of_ble_eq_true rfl, Nat.le_of_ble_eq_true rfl⟩ dX6_put_49 ⟨Nat.zero_le _, Nat.zero_le _⟩) hW (fun r6 u6 H locs hp6 hW => ?_)
        have hW : HX (wM cs ad) (tyX cs) D A s.heap s (va_up t.1 0 3, t.2) H locs := hx_congr hW (hp6.2.trans (by first | rfl | (simp only [va_upup]; done) | (refine Prod.ext (funext fun k => ?_) (funext fun k => ?_) <;> simp only [va_up] <;> (repeat' split) <;> first | rfl | omega | simp_all)))
        refine r_top hp6.1 ?_
        have hF : F_put b (nI k) i v = ((-10) - 3, flt b 3) := by unfold F_put; rw [if_pos c_9_1, nI_clamp (show k < 2 ^ 31 by omega), if_neg (show ¬ focT b k (b.1 (5 + 2 * k)) i 1 = 0 from by rw [hf1 _ rfl, if_neg c_44_3]; decide), show focT b k (b.1 (5 + 2 * k)) i 1 = 3 from (hf1 _ rfl _).trans (if_neg c_44_3)] <;> (try rw [nI_clamp (show k < 2 ^ 31 by omega)]) <;> (try rfl)
        exact r_ireti hC hr hlk hW hQ (⟨by rw [hF], by rw [hF]; exact am_flt hA _⟩) dX6_put_52
    · refine lv_aload_n hx hb dX6_put_25 rfl (lv_at hl 0 rfl) ?_
      refine lv_iconst (v := 1) hx hb dX6_put_26 (by decide) ?_
      refine fin_i (run_V (rest := []) hC hW (m_X6_fails l D cs ad (va_up t.1 0 0, t.2) 1) k_yX6_fails ⟨rfl, rfl⟩ q_ml_RX6_91 eM_0 rfl rfl hl.1 rfl (Nat.le_of_ble_eq_true rfl) ⟨Nat.le_of_ble_eq_true rfl, Nat.le_of_ble_eq_true rfl⟩ dX6_put_27 ⟨Nat.zero_le _, Nat.zero_le _⟩) hW (fun r7 u7 H locs hp7 hW => ?_)
      have hW : HX (wM cs ad) (tyX cs) D A s.heap s (va_up t.1 0 1, t.2) H locs := hx_congr hW (hp7.2.trans (by first | rfl | (simp only [va_upup]; done) | (refine Prod.ext (funext fun k => ?_) (funext fun k => ?_) <;> simp only [va_up] <;> (repeat' split) <;> first | rfl | omega | simp_all)))
      refine r_top hp7.1 ?_
      have hF : F_put b (nI k) i v = ((-10) - 1, flt b 1) := by unfold F_put; rw [if_pos c_9_1, nI_clamp (show k < 2 ^ 31 by omega), if_neg (show ¬ focT b k (b.1 (5 + 2 * k)) i 1 = 0 from by unfold focT focF; rw [if_pos (hsr_k.1.mp c_22_2)]; decide), show focT b k (b.1 (5 + 2 * k)) i 1 = 1 from by unfold focT focF; rw [if_pos (hsr_k.1.mp c_22_2)]] <;> (try rw [nI_clamp (show k < 2 ^ 31 by omega)]) <;> (try rfl)
      exact r_ireti hC hr hlk hW hQ (⟨by rw [hF], by rw [hF]; exact am_flt hA _⟩) dX6_put_30
  · have c_9_1 := bI_z.mp c_9_1
    refine lv_iconst (v := (-1)) hx hb dX6_put_12 (by decide) ?_
    have hF : F_put b x i v = ((-1), flt b 0) := by unfold F_put; rw [if_neg c_9_1]  <;> (try rfl)
    exact r_ireti hC hr hlk hW hQ (⟨by rw [hF], by rw [hF]; exact am_flt hA _⟩) dX6_put_13
set_option maxRecDepth 100000 in
set_option maxHeartbeats 4000000 in
theorem m_X6_cell (l : Launch) (D : va_G) (cs : CS3) (ad : Nat → Nat) (t : St) (b : St) (P R C : Nat) (x i a : Int32) (hB : WF b P R C) (hA : AM b t): CT l yX6_cell cX6_cell 4 (some .long) (rmk 2 42) (wM cs ad) (tyX cs) D [.ref (ad 0), .int x, .int i, .int a] t (va_Ql (fun z u => z = (F_cell b x i a).1 ∧ AM (F_cell b x i a).2 u)) := by
  refine CT.of (own := RX6) (by decide) rfl (Nat.le_of_ble_eq_true rfl) ?_
  intro p9 e9 s m9 args below meth c9 A Q hC hr hlk hW hQ ls hl
  obtain ⟨hx, hb, hml, hown, hts⟩ := id hC
  have hl : lv_has ls 4 [(0, .ref (ad 0)), (1, .int x), (2, .int i), (3, .int a)] := hl
  obtain ⟨⟨bP, hP8, bR, hR5, bC, hC8, hlen⟩, hl4, hPR, hrg, hrd⟩ := id hB
  obtain ⟨⟨a0, a1, a2, a3, a4⟩, ⟨v4, v5, v6, v7, v8, v16, v17⟩, hsh⟩ := id hA
  have hP : t.1 2 = nI P := a2.trans bP
  have hR : t.1 3 = nI R := a3.trans bR
  have hc4 : t.1 12 = nI C := a4.trans bC
  refine lv_aload_n hx hb dX6_cell_0 rfl (lv_at hl 0 rfl) ?_
  refine lv_iconst (v := 0) hx hb dX6_cell_1 (by decide) ?_
  refine pM_fault hC hW q_fl_RX6_61 dX6_cell_2 (fun H locs hW => ?_)
  have hW : HX (wM cs ad) (tyX cs) D A s.heap s (va_up t.1 0 0, t.2) H locs := hW
  refine lv_iload_n hx hb dX6_cell_5 rfl (lv_at hl 1 rfl) ?_
  refine fin_pi (run_P (rest := []) hC hW.2.2.2.2.2 (m_X6_isSheet l x) k_yX6_isSheet ⟨rfl, rfl⟩ q_ml_RX6_80 rfl hl.1 rfl (Nat.le_of_ble_eq_true rfl) ⟨Nat.le_of_ble_eq_true rfl, Nat.le_of_ble_eq_true rfl⟩ dX6_cell_6 ⟨Nat.zero_le _, Nat.zero_le _⟩) (fun rz9 hr9 => ?_)
  refine r_top hr9 ?_
  refine lv_if_eq (tgt := 19) hx hb dX6_cell_9 (by decide) (fun c_9_1 => ?_) (fun c_9_1 => ?_)
  · have c_9_1 := bI_z.mp c_9_1
    refine lv_ldc2 hx hb hown (hts _ q_k_RX6_65) dX6_cell_19 ?_
    have hF : F_cell b x i a = ((-9223372036854775808 : Int64), flt b 0) := by unfold F_cell; rw [if_neg c_9_1]  <;> (try rfl)
    exact r_lret hC hr hlk hW hQ (⟨by rw [hF], by rw [hF]; exact am_flt hA _⟩) dX6_cell_22
  · have c_9_1 := bI_nz c_9_1
    obtain ⟨k, hk3, rfl⟩ := rng_ex (M := 3) (n := 3) (by decide) c_9_1
    have hsr_k := srt (show k < 4 by omega) hl4 (hsh k (by omega))
    have hs_k := hsh k (by omega)
    refine lv_iload_n hx hb dX6_cell_12 rfl (lv_at hl 3 rfl) ?_
    refine fin_pi (run_P (rest := []) hC hW.2.2.2.2.2 (m_X6_isSort l a) k_yX6_isSort ⟨rfl, rfl⟩ q_ml_RX6_84 rfl hl.1 rfl (Nat.le_of_ble_eq_true rfl) ⟨Nat.le_of_ble_eq_true rfl, Nat.le_of_ble_eq_true rfl⟩ dX6_cell_13 ⟨Nat.zero_le _, Nat.zero_le _⟩) (fun rz9 hr9 => ?_)
    refine r_top hr9 ?_
    refine lv_if_ne (tgt := 23) hx hb dX6_cell_16 (by decide) (fun c_16_2 => ?_) (fun c_16_2 => ?_)
    · have c_16_2 := bI_nz c_16_2
      refine lv_aload_n hx hb dX6_cell_23 rfl (lv_at hl 0 rfl) ?_
      refine gM_sorts hC hW q_fl_RX6_9 dX6_cell_24 ?_
      refine lv_iload_n hx hb dX6_cell_27 rfl (lv_at hl 1 rfl) ?_
      refine r_ildN (t0 := 0) (j := k) hC hW eM_1 rfl (rfl) (by omega) (by decide) dX6_cell_28 ?_
      refine r_top (y := t.2 1 k) (by first | rfl | simp only [va_up_self]) ?_
      refine lv_bipush (v := (-9)) hx hb dX6_cell_29 (by decide) ?_
      refine lv_icmp_eq (tgt := 50) hx hb dX6_cell_31 (by decide) (fun c_31_3 => ?_) (fun c_31_3 => ?_)
      · refine lv_aload_n hx hb dX6_cell_50 rfl (lv_at hl 0 rfl) ?_
        refine gM_sorts hC hW q_fl_RX6_9 dX6_cell_51 ?_
        refine lv_iload_n hx hb dX6_cell_54 rfl (lv_at hl 1 rfl) ?_
        refine r_ildN (t0 := 0) (j := k) hC hW eM_1 rfl (rfl) (by omega) (by decide) dX6_cell_55 ?_
        refine r_top (y := t.2 1 k) (by first | rfl | simp only [va_up_self]) ?_
        refine lv_bipush (v := (-9)) hx hb dX6_cell_56 (by decide) ?_
        refine lv_icmp_ne (tgt := 67) hx hb dX6_cell_58 (by decide) (fun c_58_4 => ?_) (fun c_58_4 => ?_)
        · exact absurd c_31_3 c_58_4
        · refine lv_aload_n hx hb dX6_cell_61 rfl (lv_at hl 0 rfl) ?_
          refine lv_iconst (v := 1) hx hb dX6_cell_62 (by decide) ?_
          refine fin_l (run_V (rest := []) hC hW (m_X6_lost l D cs ad (va_up t.1 0 0, t.2) 1) k_yX6_lost ⟨rfl, rfl⟩ q_ml_RX6_209 eM_0 rfl rfl hl.1 rfl (Nat.le_of_ble_eq_true rfl) ⟨Nat.le_of_ble_eq_true rfl, Nat.le_of_ble_eq_true rfl⟩ dX6_cell_63 ⟨Nat.zero_le _, Nat.zero_le _⟩) hW (fun r5 u5 H locs hp5 hW => ?_)
          have hW : HX (wM cs ad) (tyX cs) D A s.heap s (va_up t.1 0 1, t.2) H locs := hx_congr hW (hp5.2.trans (by first | rfl | (simp only [va_upup]; done) | (refine Prod.ext (funext fun k => ?_) (funext fun k => ?_) <;> simp only [va_up] <;> (repeat' split) <;> first | rfl | omega | simp_all)))
          refine r_topl hp5.1 ?_
          have hF : F_cell b (nI k) i a = (LOSTv, flt b 1) := by unfold F_cell; rw [if_pos c_9_1, if_pos c_16_2, nI_clamp (show k < 2 ^ 31 by omega), if_neg (show ¬ focT b k a i 1 = 0 from by unfold focT focF; rw [if_pos (hsr_k.1.mp c_58_4)]; decide), show focT b k a i 1 = 1 from by unfold focT focF; rw [if_pos (hsr_k.1.mp c_58_4)]] <;> (try rw [nI_clamp (show k < 2 ^ 31 by omega)]) <;> (try rfl)
          exact r_lret hC hr hlk hW hQ (⟨by rw [hF], by rw [hF]; exact am_flt hA _⟩) dX6_cell_66
      · have hl_k : ¬ b.1 (5 + 2 * k) = -1 := fun h9 => c_31_3 (hsr_k.1.mpr h9)
        obtain ⟨z0, hz0, ez0⟩ := hlen k (by omega)
        have hln := (hs_k.2 hl_k).1.trans ez0
        have hlz := hsr_k.2 hl_k
        have hf1 : ∀ la, b.1 (5 + 2 * k) = la → ∀ i, focT b k la i 1 = if 0 ≤ i ∧ i ≤ nI z0 - 1 then 0 else 3 := fun la h1 i => by unfold focT; rw [ez0]; exact foc1 hz0 hl_k h1
        refine lv_aload_n hx hb dX6_cell_34 rfl (lv_at hl 0 rfl) ?_
        refine gM_sorts hC hW q_fl_RX6_9 dX6_cell_35 ?_
        refine lv_iload_n hx hb dX6_cell_38 rfl (lv_at hl 1 rfl) ?_
        refine r_ildN (t0 := 0) (j := k) hC hW eM_1 rfl (rfl) (by omega) (by decide) dX6_cell_39 ?_
        refine r_top (y := t.2 1 k) (by first | rfl | simp only [va_up_self]) ?_
        refine r_top (y := b.1 (5 + 2 * k)) hlz ?_
        refine lv_iload_n hx hb dX6_cell_40 rfl (lv_at hl 3 rfl) ?_
        refine lv_icmp_eq (tgt := 50) hx hb dX6_cell_41 (by decide) (fun c_41_6 => ?_) (fun c_41_6 => ?_)
        · refine lv_aload_n hx hb dX6_cell_50 rfl (lv_at hl 0 rfl) ?_
          refine gM_sorts hC hW q_fl_RX6_9 dX6_cell_51 ?_
          refine lv_iload_n hx hb dX6_cell_54 rfl (lv_at hl 1 rfl) ?_
          refine r_ildN (t0 := 0) (j := k) hC hW eM_1 rfl (rfl) (by omega) (by decide) dX6_cell_55 ?_
          refine r_top (y := t.2 1 k) (by first | rfl | simp only [va_up_self]) ?_
          refine r_top (y := b.1 (5 + 2 * k)) hlz ?_
          refine lv_bipush (v := (-9)) hx hb dX6_cell_56 (by decide) ?_
          refine lv_icmp_ne (tgt := 67) hx hb dX6_cell_58 (by decide) (fun c_58_7 => ?_) (fun c_58_7 => ?_)
          · refine lv_iload_n hx hb dX6_cell_67 rfl (lv_at hl 2 rfl) ?_
            refine lv_iconst (v := 0) hx hb dX6_cell_68 (by decide) ?_
            refine lv_aload_n hx hb dX6_cell_69 rfl (lv_at hl 0 rfl) ?_
            refine gM_sheetLong hC hW q_fl_RX6_13 dX6_cell_70 ?_
            refine lv_iload_n hx hb dX6_cell_73 rfl (lv_at hl 1 rfl) ?_
            refine r_ildN (t0 := 0) (j := k) hC hW eM_2 rfl (rfl) (by omega) (by decide) dX6_cell_74 ?_
            refine r_top (y := t.2 2 k) (by first | rfl | simp only [va_up_self]) ?_
            refine r_top (y := nI z0) hln ?_
            refine lv_iconst (v := 1) hx hb dX6_cell_75 (by decide) ?_
            refine lv_isub hx hb dX6_cell_76 ?_
            refine fin_pi (run_P (rest := []) hC hW.2.2.2.2.2 (m_X6_within l i 0 ((nI z0) - 1)) k_yX6_within ⟨rfl, rfl⟩ q_ml_RX6_67 rfl hl.1 rfl (Nat.le_of_ble_eq_true rfl) ⟨Nat.le_of_ble_eq_true rfl, Nat.le_of_ble_eq_true rfl⟩ dX6_cell_77 ⟨Nat.zero_le _, Nat.zero_le _⟩) (fun rz9 hr9 => ?_)
            refine r_top hr9 ?_
            refine lv_if_ne (tgt := 89) hx hb dX6_cell_80 (by decide) (fun c_80_8 => ?_) (fun c_80_8 => ?_)
            · have c_80_8 := bI_nz c_80_8
              obtain ⟨i0, hi0, rfl⟩ := inN_ex (x := i) (n := z0) ⟨c_80_8.1, (le_pred (by omega)).mp c_80_8.2⟩ (by omega)
              refine lv_aload_n hx hb dX6_cell_89 rfl (lv_at hl 0 rfl) ?_
              refine gM_cells hC hW q_fl_RX6_16 dX6_cell_90 ?_
              refine lv_bipush (v := 60) hx hb dX6_cell_93 (by decide) ?_
              refine lv_iload_n hx hb dX6_cell_95 rfl (lv_at hl 1 rfl) ?_
              refine lv_imul hx hb dX6_cell_96 ?_
              refine r_top (y := nI (60 * k)) (pk_mul 60 k) ?_
              refine lv_iload_n hx hb dX6_cell_97 rfl (lv_at hl 2 rfl) ?_
              refine lv_iadd hx hb dX6_cell_98 ?_
              refine r_top (y := nI ((60 * k) + i0)) (nI_add (60 * k) i0) ?_
              refine r_ildN (t0 := 0) (j := (60 * k) + i0) hC hW eM_3 rfl (rfl) (by omega) (by decide) dX6_cell_99 ?_
              refine r_top (y := t.2 3 ((60 * k) + i0)) (by first | rfl | simp only [va_up_self]) ?_
              refine r_top (y := b.2 (15 + 2 * k) i0) ((hs_k.2 hl_k).2 i0 (by omega)) ?_
              refine lv_i2l (v := (b.2 (15 + 2 * k) i0).toInt64) hx hb dX6_cell_100 rfl ?_
              have hF : F_cell b (nI k) (nI i0) a = ((b.2 (15 + 2 * k) i0).toInt64, flt b 0) := by unfold F_cell; rw [if_pos c_9_1, if_pos c_16_2, nI_clamp (show k < 2 ^ 31 by omega), if_pos (show focT b k a (nI i0) 1 = 0 from (hf1 _ c_41_6 _).trans (if_pos c_80_8))] <;> (try rw [nI_clamp (show k < 2 ^ 31 by omega)]) <;> (try rw [nI_clamp (show i0 < 2 ^ 31 by omega)]) <;> (try rfl)
              exact r_lret hC hr hlk hW hQ (⟨by rw [hF], by rw [hF]; exact am_flt hA _⟩) dX6_cell_101
            · have c_80_8 := bI_z.mp c_80_8
              refine lv_aload_n hx hb dX6_cell_83 rfl (lv_at hl 0 rfl) ?_
              refine lv_iconst (v := 3) hx hb dX6_cell_84 (by decide) ?_
              refine fin_l (run_V (rest := []) hC hW (m_X6_lost l D cs ad (va_up t.1 0 0, t.2) 3) k_yX6_lost ⟨rfl, rfl⟩ q_ml_RX6_209 eM_0 rfl rfl hl.1 rfl (Nat.le_of_ble_eq_true rfl) ⟨Nat.le_of_ble_eq_true rfl, Nat.le_of_ble_eq_true rfl⟩ dX6_cell_85 ⟨Nat.zero_le _, Nat.zero_le _⟩) hW (fun r9 u9 H locs hp9 hW => ?_)
              have hW : HX (wM cs ad) (tyX cs) D A s.heap s (va_up t.1 0 3, t.2) H locs := hx_congr hW (hp9.2.trans (by first | rfl | (simp only [va_upup]; done) | (refine Prod.ext (funext fun k => ?_) (funext fun k => ?_) <;> simp only [va_up] <;> (repeat' split) <;> first | rfl | omega | simp_all)))
              refine r_topl hp9.1 ?_
              have hF : F_cell b (nI k) i a = (LOSTv, flt b 3) := by unfold F_cell; rw [if_pos c_9_1, if_pos c_16_2, nI_clamp (show k < 2 ^ 31 by omega), if_neg (show ¬ focT b k a i 1 = 0 from by rw [hf1 _ c_41_6, if_neg c_80_8]; decide), show focT b k a i 1 = 3 from (hf1 _ c_41_6 _).trans (if_neg c_80_8)] <;> (try rw [nI_clamp (show k < 2 ^ 31 by omega)]) <;> (try rfl)
              exact r_lret hC hr hlk hW hQ (⟨by rw [hF], by rw [hF]; exact am_flt hA _⟩) dX6_cell_88
          · exact absurd (hsr_k.1.mp (hlz.trans c_58_7)) hl_k
        · refine lv_aload_n hx hb dX6_cell_44 rfl (lv_at hl 0 rfl) ?_
          refine lv_iconst (v := 2) hx hb dX6_cell_45 (by decide) ?_
          refine fin_l (run_V (rest := []) hC hW (m_X6_lost l D cs ad (va_up t.1 0 0, t.2) 2) k_yX6_lost ⟨rfl, rfl⟩ q_ml_RX6_209 eM_0 rfl rfl hl.1 rfl (Nat.le_of_ble_eq_true rfl) ⟨Nat.le_of_ble_eq_true rfl, Nat.le_of_ble_eq_true rfl⟩ dX6_cell_46 ⟨Nat.zero_le _, Nat.zero_le _⟩) hW (fun r10 u10 H locs hp10 hW => ?_)
          have hW : HX (wM cs ad) (tyX cs) D A s.heap s (va_up t.1 0 2, t.2) H locs := hx_congr hW (hp10.2.trans (by first | rfl | (simp only [va_upup]; done) | (refine Prod.ext (funext fun k => ?_) (funext fun k => ?_) <;> simp only [va_up] <;> (repeat' split) <;> first | rfl | omega | simp_all)))
          refine r_topl hp10.1 ?_
          have hF : F_cell b (nI k) i a = (LOSTv, flt b 2) := by unfold F_cell; rw [if_pos c_9_1, if_pos c_16_2, nI_clamp (show k < 2 ^ 31 by omega), if_neg (show ¬ focT b k a i 1 = 0 from by unfold focT focF; rw [if_neg hl_k, if_pos c_41_6]; decide), show focT b k a i 1 = 2 from by unfold focT focF; rw [if_neg hl_k, if_pos c_41_6]] <;> (try rw [nI_clamp (show k < 2 ^ 31 by omega)]) <;> (try rfl)
          exact r_lret hC hr hlk hW hQ (⟨by rw [hF], by rw [hF]; exact am_flt hA _⟩) dX6_cell_49
    · have c_16_2 := bI_z.mp c_16_2
      refine lv_ldc2 hx hb hown (hts _ q_k_RX6_65) dX6_cell_19 ?_
      have hF : F_cell b (nI k) i a = ((-9223372036854775808 : Int64), flt b 0) := by unfold F_cell; rw [if_pos c_9_1, if_neg c_16_2] <;> (try rw [nI_clamp (show k < 2 ^ 31 by omega)]) <;> (try rfl)
      exact r_lret hC hr hlk hW hQ (⟨by rw [hF], by rw [hF]; exact am_flt hA _⟩) dX6_cell_22
set_option maxRecDepth 100000 in
set_option maxHeartbeats 4000000 in
theorem m_X6_copy (l : Launch) (D : va_G) (cs : CS3) (ad : Nat → Nat) (t : St) (b : St) (P R C : Nat) (x i y j n : Int32) (hB : WF b P R C) (hA : AM b t): CT l yX6_copy cX6_copy 10 (some .int) (rmk 2 42) (wM cs ad) (tyX cs) D [.ref (ad 0), .int x, .int i, .int y, .int j, .int n] t (va_Qi (fun z u => z = (F_copy b x i y j n).1 ∧ AM (F_copy b x i y j n).2 u)) := by
  refine CT.of (own := RX6) (by decide) rfl (Nat.le_of_ble_eq_true rfl) ?_
  intro p9 e9 s m9 args below meth c9 A Q hC hr hlk hW hQ ls hl
  obtain ⟨hx, hb, hml, hown, hts⟩ := id hC
  have hl : lv_has ls 10 [(0, .ref (ad 0)), (1, .int x), (2, .int i), (3, .int y), (4, .int j), (5, .int n)] := hl
  obtain ⟨⟨bP, hP8, bR, hR5, bC, hC8, hlen⟩, hl4, hPR, hrg, hrd⟩ := id hB
  obtain ⟨⟨a0, a1, a2, a3, a4⟩, ⟨v4, v5, v6, v7, v8, v16, v17⟩, hsh⟩ := id hA
  have hP : t.1 2 = nI P := a2.trans bP
  have hR : t.1 3 = nI R := a3.trans bR
  have hc4 : t.1 12 = nI C := a4.trans bC
  refine lv_aload_n hx hb dX6_copy_0 rfl (lv_at hl 0 rfl) ?_
  refine lv_iconst (v := 0) hx hb dX6_copy_1 (by decide) ?_
  refine pM_fault hC hW q_fl_RX6_61 dX6_copy_2 (fun H locs hW => ?_)
  have hW : HX (wM cs ad) (tyX cs) D A s.heap s (va_up t.1 0 0, t.2) H locs := hW
  refine lv_iload_n hx hb dX6_copy_5 rfl (lv_at hl 1 rfl) ?_
  refine fin_pi (run_P (rest := []) hC hW.2.2.2.2.2 (m_X6_isSheet l x) k_yX6_isSheet ⟨rfl, rfl⟩ q_ml_RX6_80 rfl hl.1 rfl (Nat.le_of_ble_eq_true rfl) ⟨Nat.le_of_ble_eq_true rfl, Nat.le_of_ble_eq_true rfl⟩ dX6_copy_6 ⟨Nat.zero_le _, Nat.zero_le _⟩) (fun rz9 hr9 => ?_)
  refine r_top hr9 ?_
  refine lv_if_eq (tgt := 19) hx hb dX6_copy_9 (by decide) (fun c_9_1 => ?_) (fun c_9_1 => ?_)
  · have c_9_1 := bI_z.mp c_9_1
    refine lv_iconst (v := (-1)) hx hb dX6_copy_19 (by decide) ?_
    have hF : F_copy b x i y j n = (-1, flt b 0) := by unfold F_copy; rw [if_neg c_9_1]
    exact r_ireti hC hr hlk hW hQ (⟨by rw [hF], by rw [hF]; exact am_flt hA _⟩) dX6_copy_20
  · have c_9_1 := bI_nz c_9_1
    obtain ⟨k, hk3, rfl⟩ := rng_ex (M := 3) (n := 3) (by decide) c_9_1
    have hsr_k := srt (show k < 4 by omega) hl4 (hsh k (by omega))
    have hs_k := hsh k (by omega)
    refine lv_iload_n hx hb dX6_copy_12 rfl (lv_at hl 3 rfl) ?_
    refine fin_pi (run_P (rest := []) hC hW.2.2.2.2.2 (m_X6_isSheet l y) k_yX6_isSheet ⟨rfl, rfl⟩ q_ml_RX6_80 rfl hl.1 rfl (Nat.le_of_ble_eq_true rfl) ⟨Nat.le_of_ble_eq_true rfl, Nat.le_of_ble_eq_true rfl⟩ dX6_copy_13 ⟨Nat.zero_le _, Nat.zero_le _⟩) (fun rz9 hr9 => ?_)
    refine r_top hr9 ?_
    refine lv_if_ne (tgt := 21) hx hb dX6_copy_16 (by decide) (fun c_16_2 => ?_) (fun c_16_2 => ?_)
    · have c_16_2 := bI_nz c_16_2
      obtain ⟨k2, hk23, rfl⟩ := rng_ex (M := 3) (n := 3) (by decide) c_16_2
      have hsr_k2 := srt (show k2 < 4 by omega) hl4 (hsh k2 (by omega))
      have hs_k2 := hsh k2 (by omega)
      refine lv_aload_n hx hb dX6_copy_21 rfl (lv_at hl 0 rfl) ?_
      refine gM_sorts hC hW q_fl_RX6_9 dX6_copy_22 ?_
      refine lv_iload_n hx hb dX6_copy_25 rfl (lv_at hl 1 rfl) ?_
      refine r_ildN (t0 := 0) (j := k) hC hW eM_1 rfl (rfl) (by omega) (by decide) dX6_copy_26 ?_
      refine r_top (y := t.2 1 k) (by first | rfl | simp only [va_up_self]) ?_
      refine lv_bipush (v := (-9)) hx hb dX6_copy_27 (by decide) ?_
      refine lv_icmp_eq (tgt := 43) hx hb dX6_copy_29 (by decide) (fun c_29_3 => ?_) (fun c_29_3 => ?_)
      · refine lv_aload_n hx hb dX6_copy_43 rfl (lv_at hl 0 rfl) ?_
        refine lv_iconst (v := 1) hx hb dX6_copy_44 (by decide) ?_
        refine fin_i (run_V (rest := []) hC hW (m_X6_fails l D cs ad (va_up t.1 0 0, t.2) 1) k_yX6_fails ⟨rfl, rfl⟩ q_ml_RX6_91 eM_0 rfl rfl hl.1 rfl (Nat.le_of_ble_eq_true rfl) ⟨Nat.le_of_ble_eq_true rfl, Nat.le_of_ble_eq_true rfl⟩ dX6_copy_45 ⟨Nat.zero_le _, Nat.zero_le _⟩) hW (fun r4 u4 H locs hp4 hW => ?_)
        have hW : HX (wM cs ad) (tyX cs) D A s.heap s (va_up t.1 0 1, t.2) H locs := hx_congr hW (hp4.2.trans (by first | rfl | (simp only [va_upup]; done) | (refine Prod.ext (funext fun k => ?_) (funext fun k => ?_) <;> simp only [va_up] <;> (repeat' split) <;> first | rfl | omega | simp_all)))
        refine r_top hp4.1 ?_
        have hF : F_copy b (nI k) i (nI k2) j n = ((-10) - 1, flt b 1) := by unfold F_copy; rw [if_pos c_9_1, if_pos c_16_2, nI_clamp (show k < 2 ^ 31 by omega), nI_clamp (show k2 < 2 ^ 31 by omega), if_pos (hsr_k.1.mp c_29_3)]
        exact r_ireti hC hr hlk hW hQ (⟨by rw [hF], by rw [hF]; exact am_flt hA _⟩) dX6_copy_48
      · have hl_k : ¬ b.1 (5 + 2 * k) = -1 := fun h9 => c_29_3 (hsr_k.1.mpr h9)
        obtain ⟨z_k, hz_k, ez_k⟩ := hlen k (by omega)
        have hln_k := (hs_k.2 hl_k).1.trans ez_k
        have hlk_k := hsr_k.2 hl_k
        refine lv_aload_n hx hb dX6_copy_32 rfl (lv_at hl 0 rfl) ?_
        refine gM_sorts hC hW q_fl_RX6_9 dX6_copy_33 ?_
        refine lv_iload_n hx hb dX6_copy_36 rfl (lv_at hl 3 rfl) ?_
        refine r_ildN (t0 := 0) (j := k2) hC hW eM_1 rfl (rfl) (by omega) (by decide) dX6_copy_37 ?_
        refine r_top (y := t.2 1 k2) (by first | rfl | simp only [va_up_self]) ?_
        refine lv_bipush (v := (-9)) hx hb dX6_copy_38 (by decide) ?_
        refine lv_icmp_ne (tgt := 49) hx hb dX6_copy_40 (by decide) (fun c_40_5 => ?_) (fun c_40_5 => ?_)
        · have hl_k2 : ¬ b.1 (5 + 2 * k2) = -1 := fun h9 => c_40_5 (hsr_k2.1.mpr h9)
          obtain ⟨z_k2, hz_k2, ez_k2⟩ := hlen k2 (by omega)
          have hln_k2 := (hs_k2.2 hl_k2).1.trans ez_k2
          have hlk_k2 := hsr_k2.2 hl_k2
          refine lv_aload_n hx hb dX6_copy_49 rfl (lv_at hl 0 rfl) ?_
          refine gM_sorts hC hW q_fl_RX6_9 dX6_copy_50 ?_
          refine lv_iload_n hx hb dX6_copy_53 rfl (lv_at hl 1 rfl) ?_
          refine r_ildN (t0 := 0) (j := k) hC hW eM_1 rfl (rfl) (by omega) (by decide) dX6_copy_54 ?_
          refine r_top (y := t.2 1 k) (by first | rfl | simp only [va_up_self]) ?_
          refine r_top (y := b.1 (5 + 2 * k)) hlk_k ?_
          refine lv_aload_n hx hb dX6_copy_55 rfl (lv_at hl 0 rfl) ?_
          refine gM_sorts hC hW q_fl_RX6_9 dX6_copy_56 ?_
          refine lv_iload_n hx hb dX6_copy_59 rfl (lv_at hl 3 rfl) ?_
          refine r_ildN (t0 := 0) (j := k2) hC hW eM_1 rfl (rfl) (by omega) (by decide) dX6_copy_60 ?_
          refine r_top (y := t.2 1 k2) (by first | rfl | simp only [va_up_self]) ?_
          refine r_top (y := b.1 (5 + 2 * k2)) hlk_k2 ?_
          refine lv_icmp_eq (tgt := 70) hx hb dX6_copy_61 (by decide) (fun c_61_6 => ?_) (fun c_61_6 => ?_)
          · refine lv_iload_n hx hb dX6_copy_70 rfl (lv_at hl 2 rfl) ?_
            refine lv_if_lt (tgt := 109) hx hb dX6_copy_71 (by decide) (fun c_71_7 => ?_) (fun c_71_7 => ?_)
            · refine lv_iconst (v := 0) hx hb dX6_copy_109 (by decide) ?_
              refine lv_istore (lv' := [(6, .int 0), (0, .ref (ad 0)), (1, .int (nI k)), (2, .int i), (3, .int (nI k2)), (4, .int j), (5, .int n)]) hx hb dX6_copy_110 hl (by decide) rfl (fun ls hl => ?_)
              refine lv_iload hx hb dX6_copy_112 (lv_at hl 0 rfl) ?_
              refine lv_if_eq (tgt := 144) hx hb dX6_copy_114 (by decide) (fun c_114_8 => ?_) (fun c_114_8 => ?_)
              · refine lv_aload_n hx hb dX6_copy_144 rfl (lv_at hl 1 rfl) ?_
                refine lv_iconst (v := 3) hx hb dX6_copy_145 (by decide) ?_
                refine fin_i (run_V (rest := []) hC hW (m_X6_fails l D cs ad (va_up t.1 0 0, t.2) 3) k_yX6_fails ⟨rfl, rfl⟩ q_ml_RX6_91 eM_0 rfl rfl hl.1 rfl (Nat.le_of_ble_eq_true rfl) ⟨Nat.le_of_ble_eq_true rfl, Nat.le_of_ble_eq_true rfl⟩ dX6_copy_146 ⟨Nat.zero_le _, Nat.zero_le _⟩) hW (fun r9 u9 H locs hp9 hW => ?_)
                have hW : HX (wM cs ad) (tyX cs) D A s.heap s (va_up t.1 0 3, t.2) H locs := hx_congr hW (hp9.2.trans (by first | rfl | (simp only [va_upup]; done) | (refine Prod.ext (funext fun k => ?_) (funext fun k => ?_) <;> simp only [va_up] <;> (repeat' split) <;> first | rfl | omega | simp_all)))
                refine r_top hp9.1 ?_
                have hF : F_copy b (nI k) i (nI k2) j n = ((-10) - 3, flt b 3) := by unfold F_copy; rw [if_pos c_9_1, if_pos c_16_2, nI_clamp (show k < 2 ^ 31 by omega), nI_clamp (show k2 < 2 ^ 31 by omega), if_neg hl_k, if_neg hl_k2, if_pos c_61_6, if_neg (show ¬ holdP b k i n from fun h9 => Int32.not_lt.mpr h9.1 c_71_7)]
                exact r_ireti hC hr hlk hW hQ (⟨by rw [hF], by rw [hF]; exact am_flt hA _⟩) dX6_copy_149
              · exact absurd c_114_8 (by decide)
            · refine lv_iload hx hb dX6_copy_74 (lv_at hl 4 rfl) ?_
              refine lv_if_lt (tgt := 109) hx hb dX6_copy_76 (by decide) (fun c_76_10 => ?_) (fun c_76_10 => ?_)
              · refine lv_iconst (v := 0) hx hb dX6_copy_109 (by decide) ?_
                refine lv_istore (lv' := [(6, .int 0), (0, .ref (ad 0)), (1, .int (nI k)), (2, .int i), (3, .int (nI k2)), (4, .int j), (5, .int n)]) hx hb dX6_copy_110 hl (by decide) rfl (fun ls hl => ?_)
                refine lv_iload hx hb dX6_copy_112 (lv_at hl 0 rfl) ?_
                refine lv_if_eq (tgt := 144) hx hb dX6_copy_114 (by decide) (fun c_114_11 => ?_) (fun c_114_11 => ?_)
                · refine lv_aload_n hx hb dX6_copy_144 rfl (lv_at hl 1 rfl) ?_
                  refine lv_iconst (v := 3) hx hb dX6_copy_145 (by decide) ?_
                  refine fin_i (run_V (rest := []) hC hW (m_X6_fails l D cs ad (va_up t.1 0 0, t.2) 3) k_yX6_fails ⟨rfl, rfl⟩ q_ml_RX6_91 eM_0 rfl rfl hl.1 rfl (Nat.le_of_ble_eq_true rfl) ⟨Nat.le_of_ble_eq_true rfl, Nat.le_of_ble_eq_true rfl⟩ dX6_copy_146 ⟨Nat.zero_le _, Nat.zero_le _⟩) hW (fun r12 u12 H locs hp12 hW => ?_)
                  have hW : HX (wM cs ad) (tyX cs) D A s.heap s (va_up t.1 0 3, t.2) H locs := hx_congr hW (hp12.2.trans (by first | rfl | (simp only [va_upup]; done) | (refine Prod.ext (funext fun k => ?_) (funext fun k => ?_) <;> simp only [va_up] <;> (repeat' split) <;> first | rfl | omega | simp_all)))
                  refine r_top hp12.1 ?_
                  have hG : F_copy b (nI k) i (nI k2) j n = (if holdP b k i n then if holdP b k2 j n then (n, ((flt b 0).1, va_up b.2 (15 + 2 * k2) (va_cpy (b.2 (15 + 2 * k)) (b.2 (15 + 2 * k2)) i.toNatClampNeg j.toNatClampNeg n.toNatClampNeg))) else ((-10) - 3, flt b 3) else ((-10) - 3, flt b 3)) := by unfold F_copy; rw [if_pos c_9_1, if_pos c_16_2, nI_clamp (show k < 2 ^ 31 by omega), nI_clamp (show k2 < 2 ^ 31 by omega), if_neg hl_k, if_neg hl_k2, if_pos c_61_6]
                  have hF : F_copy b (nI k) i (nI k2) j n = ((-10) - 3, flt b 3) := by rw [hG]; split; exact if_neg (show ¬ holdP b k2 j n from fun h9 => Int32.not_lt.mpr h9.1 c_76_10); rfl
                  exact r_ireti hC hr hlk hW hQ (⟨by rw [hF], by rw [hF]; exact am_flt hA _⟩) dX6_copy_149
                · exact absurd c_114_11 (by decide)
              · refine lv_iload hx hb dX6_copy_79 (lv_at hl 5 rfl) ?_
                refine lv_if_lt (tgt := 109) hx hb dX6_copy_81 (by decide) (fun c_81_13 => ?_) (fun c_81_13 => ?_)
                · refine lv_iconst (v := 0) hx hb dX6_copy_109 (by decide) ?_
                  refine lv_istore (lv' := [(6, .int 0), (0, .ref (ad 0)), (1, .int (nI k)), (2, .int i), (3, .int (nI k2)), (4, .int j), (5, .int n)]) hx hb dX6_copy_110 hl (by decide) rfl (fun ls hl => ?_)
                  refine lv_iload hx hb dX6_copy_112 (lv_at hl 0 rfl) ?_
                  refine lv_if_eq (tgt := 144) hx hb dX6_copy_114 (by decide) (fun c_114_14 => ?_) (fun c_114_14 => ?_)
                  · refine lv_aload_n hx hb dX6_copy_144 rfl (lv_at hl 1 rfl) ?_
                    refine lv_iconst (v := 3) hx hb dX6_copy_145 (by decide) ?_
                    refine fin_i (run_V (rest := []) hC hW (m_X6_fails l D cs ad (va_up t.1 0 0, t.2) 3) k_yX6_fails ⟨rfl, rfl⟩ q_ml_RX6_91 eM_0 rfl rfl hl.1 rfl (Nat.le_of_ble_eq_true rfl) ⟨Nat.le_of_ble_eq_true rfl, Nat.le_of_ble_eq_true rfl⟩ dX6_copy_146 ⟨Nat.zero_le _, Nat.zero_le _⟩) hW (fun r15 u15 H locs hp15 hW => ?_)
                    have hW : HX (wM cs ad) (tyX cs) D A s.heap s (va_up t.1 0 3, t.2) H locs := hx_congr hW (hp15.2.trans (by first | rfl | (simp only [va_upup]; done) | (refine Prod.ext (funext fun k => ?_) (funext fun k => ?_) <;> simp only [va_up] <;> (repeat' split) <;> first | rfl | omega | simp_all)))
                    refine r_top hp15.1 ?_
                    have hF : F_copy b (nI k) i (nI k2) j n = ((-10) - 3, flt b 3) := by unfold F_copy; rw [if_pos c_9_1, if_pos c_16_2, nI_clamp (show k < 2 ^ 31 by omega), nI_clamp (show k2 < 2 ^ 31 by omega), if_neg hl_k, if_neg hl_k2, if_pos c_61_6, if_neg (show ¬ holdP b k i n from fun h9 => Int32.not_lt.mpr h9.2.2.1 c_81_13)]
                    exact r_ireti hC hr hlk hW hQ (⟨by rw [hF], by rw [hF]; exact am_flt hA _⟩) dX6_copy_149
                  · exact absurd c_114_14 (by decide)
                · refine lv_iload_n hx hb dX6_copy_84 rfl (lv_at hl 2 rfl) ?_
                  refine lv_aload_n hx hb dX6_copy_85 rfl (lv_at hl 0 rfl) ?_
                  refine gM_sheetLong hC hW q_fl_RX6_13 dX6_copy_86 ?_
                  refine lv_iload_n hx hb dX6_copy_89 rfl (lv_at hl 1 rfl) ?_
                  refine r_ildN (t0 := 0) (j := k) hC hW eM_2 rfl (rfl) (by omega) (by decide) dX6_copy_90 ?_
                  refine r_top (y := t.2 2 k) (by first | rfl | simp only [va_up_self]) ?_
                  refine r_top (y := nI z_k) hln_k ?_
                  refine lv_icmp_gt (tgt := 109) hx hb dX6_copy_91 (by decide) (fun c_91_16 => ?_) (fun c_91_16 => ?_)
                  · refine lv_iconst (v := 0) hx hb dX6_copy_109 (by decide) ?_
                    refine lv_istore (lv' := [(6, .int 0), (0, .ref (ad 0)), (1, .int (nI k)), (2, .int i), (3, .int (nI k2)), (4, .int j), (5, .int n)]) hx hb dX6_copy_110 hl (by decide) rfl (fun ls hl => ?_)
                    refine lv_iload hx hb dX6_copy_112 (lv_at hl 0 rfl) ?_
                    refine lv_if_eq (tgt := 144) hx hb dX6_copy_114 (by decide) (fun c_114_17 => ?_) (fun c_114_17 => ?_)
                    · refine lv_aload_n hx hb dX6_copy_144 rfl (lv_at hl 1 rfl) ?_
                      refine lv_iconst (v := 3) hx hb dX6_copy_145 (by decide) ?_
                      refine fin_i (run_V (rest := []) hC hW (m_X6_fails l D cs ad (va_up t.1 0 0, t.2) 3) k_yX6_fails ⟨rfl, rfl⟩ q_ml_RX6_91 eM_0 rfl rfl hl.1 rfl (Nat.le_of_ble_eq_true rfl) ⟨Nat.le_of_ble_eq_true rfl, Nat.le_of_ble_eq_true rfl⟩ dX6_copy_146 ⟨Nat.zero_le _, Nat.zero_le _⟩) hW (fun r18 u18 H locs hp18 hW => ?_)
                      have hW : HX (wM cs ad) (tyX cs) D A s.heap s (va_up t.1 0 3, t.2) H locs := hx_congr hW (hp18.2.trans (by first | rfl | (simp only [va_upup]; done) | (refine Prod.ext (funext fun k => ?_) (funext fun k => ?_) <;> simp only [va_up] <;> (repeat' split) <;> first | rfl | omega | simp_all)))
                      refine r_top hp18.1 ?_
                      have hF : F_copy b (nI k) i (nI k2) j n = ((-10) - 3, flt b 3) := by unfold F_copy; rw [if_pos c_9_1, if_pos c_16_2, nI_clamp (show k < 2 ^ 31 by omega), nI_clamp (show k2 < 2 ^ 31 by omega), if_neg hl_k, if_neg hl_k2, if_pos c_61_6, if_neg (show ¬ holdP b k i n from fun h9 => Int32.not_lt.mpr (by have h8 := h9.2.1; rw [ez_k] at h8; exact h8) c_91_16)]
                      exact r_ireti hC hr hlk hW hQ (⟨by rw [hF], by rw [hF]; exact am_flt hA _⟩) dX6_copy_149
                    · exact absurd c_114_17 (by decide)
                  · refine lv_iload hx hb dX6_copy_94 (lv_at hl 4 rfl) ?_
                    refine lv_aload_n hx hb dX6_copy_96 rfl (lv_at hl 0 rfl) ?_
                    refine gM_sheetLong hC hW q_fl_RX6_13 dX6_copy_97 ?_
                    refine lv_iload_n hx hb dX6_copy_100 rfl (lv_at hl 3 rfl) ?_
                    refine r_ildN (t0 := 0) (j := k2) hC hW eM_2 rfl (rfl) (by omega) (by decide) dX6_copy_101 ?_
                    refine r_top (y := t.2 2 k2) (by first | rfl | simp only [va_up_self]) ?_
                    refine r_top (y := nI z_k2) hln_k2 ?_
                    refine lv_icmp_gt (tgt := 109) hx hb dX6_copy_102 (by decide) (fun c_102_19 => ?_) (fun c_102_19 => ?_)
                    · refine lv_iconst (v := 0) hx hb dX6_copy_109 (by decide) ?_
                      refine lv_istore (lv' := [(6, .int 0), (0, .ref (ad 0)), (1, .int (nI k)), (2, .int i), (3, .int (nI k2)), (4, .int j), (5, .int n)]) hx hb dX6_copy_110 hl (by decide) rfl (fun ls hl => ?_)
                      refine lv_iload hx hb dX6_copy_112 (lv_at hl 0 rfl) ?_
                      refine lv_if_eq (tgt := 144) hx hb dX6_copy_114 (by decide) (fun c_114_20 => ?_) (fun c_114_20 => ?_)
                      · refine lv_aload_n hx hb dX6_copy_144 rfl (lv_at hl 1 rfl) ?_
                        refine lv_iconst (v := 3) hx hb dX6_copy_145 (by decide) ?_
                        refine fin_i (run_V (rest := []) hC hW (m_X6_fails l D cs ad (va_up t.1 0 0, t.2) 3) k_yX6_fails ⟨rfl, rfl⟩ q_ml_RX6_91 eM_0 rfl rfl hl.1 rfl (Nat.le_of_ble_eq_true rfl) ⟨Nat.le_of_ble_eq_true rfl, Nat.le_of_ble_eq_true rfl⟩ dX6_copy_146 ⟨Nat.zero_le _, Nat.zero_le _⟩) hW (fun r21 u21 H locs hp21 hW => ?_)
                        have hW : HX (wM cs ad) (tyX cs) D A s.heap s (va_up t.1 0 3, t.2) H locs := hx_congr hW (hp21.2.trans (by first | rfl | (simp only [va_upup]; done) | (refine Prod.ext (funext fun k => ?_) (funext fun k => ?_) <;> simp only [va_up] <;> (repeat' split) <;> first | rfl | omega | simp_all)))
                        refine r_top hp21.1 ?_
                        have hG : F_copy b (nI k) i (nI k2) j n = (if holdP b k i n then if holdP b k2 j n then (n, ((flt b 0).1, va_up b.2 (15 + 2 * k2) (va_cpy (b.2 (15 + 2 * k)) (b.2 (15 + 2 * k2)) i.toNatClampNeg j.toNatClampNeg n.toNatClampNeg))) else ((-10) - 3, flt b 3) else ((-10) - 3, flt b 3)) := by unfold F_copy; rw [if_pos c_9_1, if_pos c_16_2, nI_clamp (show k < 2 ^ 31 by omega), nI_clamp (show k2 < 2 ^ 31 by omega), if_neg hl_k, if_neg hl_k2, if_pos c_61_6]
                        have hF : F_copy b (nI k) i (nI k2) j n = ((-10) - 3, flt b 3) := by rw [hG]; split; exact if_neg (show ¬ holdP b k2 j n from fun h9 => Int32.not_lt.mpr (by have h8 := h9.2.1; rw [ez_k2] at h8; exact h8) c_102_19); rfl
                        exact r_ireti hC hr hlk hW hQ (⟨by rw [hF], by rw [hF]; exact am_flt hA _⟩) dX6_copy_149
                      · exact absurd c_114_20 (by decide)
                    · refine lv_iconst (v := 1) hx hb dX6_copy_105 (by decide) ?_
                      refine lv_goto (tgt := 110) hx hb dX6_copy_106 (by decide) ?_
                      refine lv_istore (lv' := [(6, .int 1), (0, .ref (ad 0)), (1, .int (nI k)), (2, .int i), (3, .int (nI k2)), (4, .int j), (5, .int n)]) hx hb dX6_copy_110 hl (by decide) rfl (fun ls hl => ?_)
                      refine lv_iload hx hb dX6_copy_112 (lv_at hl 0 rfl) ?_
                      refine lv_if_eq (tgt := 144) hx hb dX6_copy_114 (by decide) (fun c_114_22 => ?_) (fun c_114_22 => ?_)
                      · exact absurd c_114_22 (by decide)
                      · refine lv_iload hx hb dX6_copy_117 (lv_at hl 6 rfl) ?_
                        refine lv_aload_n hx hb dX6_copy_119 rfl (lv_at hl 1 rfl) ?_
                        refine gM_sheetLong hC hW q_fl_RX6_13 dX6_copy_120 ?_
                        refine lv_iload_n hx hb dX6_copy_123 rfl (lv_at hl 2 rfl) ?_
                        refine r_ildN (t0 := 0) (j := k) hC hW eM_2 rfl (rfl) (by omega) (by decide) dX6_copy_124 ?_
                        refine r_top (y := t.2 2 k) (by first | rfl | simp only [va_up_self]) ?_
                        refine r_top (y := nI z_k) hln_k ?_
                        refine lv_iload_n hx hb dX6_copy_125 rfl (lv_at hl 3 rfl) ?_
                        refine lv_isub hx hb dX6_copy_126 ?_
                        refine lv_icmp_gt (tgt := 144) hx hb dX6_copy_127 (by decide) (fun c_127_23 => ?_) (fun c_127_23 => ?_)
                        · refine lv_aload_n hx hb dX6_copy_144 rfl (lv_at hl 1 rfl) ?_
                          refine lv_iconst (v := 3) hx hb dX6_copy_145 (by decide) ?_
                          refine fin_i (run_V (rest := []) hC hW (m_X6_fails l D cs ad (va_up t.1 0 0, t.2) 3) k_yX6_fails ⟨rfl, rfl⟩ q_ml_RX6_91 eM_0 rfl rfl hl.1 rfl (Nat.le_of_ble_eq_true rfl) ⟨Nat.le_of_ble_eq_true rfl, Nat.le_of_ble_eq_true rfl⟩ dX6_copy_146 ⟨Nat.zero_le _, Nat.zero_le _⟩) hW (fun r24 u24 H locs hp24 hW => ?_)
                          have hW : HX (wM cs ad) (tyX cs) D A s.heap s (va_up t.1 0 3, t.2) H locs := hx_congr hW (hp24.2.trans (by first | rfl | (simp only [va_upup]; done) | (refine Prod.ext (funext fun k => ?_) (funext fun k => ?_) <;> simp only [va_up] <;> (repeat' split) <;> first | rfl | omega | simp_all)))
                          refine r_top hp24.1 ?_
                          have hF : F_copy b (nI k) i (nI k2) j n = ((-10) - 3, flt b 3) := by unfold F_copy; rw [if_pos c_9_1, if_pos c_16_2, nI_clamp (show k < 2 ^ 31 by omega), nI_clamp (show k2 < 2 ^ 31 by omega), if_neg hl_k, if_neg hl_k2, if_pos c_61_6, if_neg (show ¬ holdP b k i n from fun h9 => Int32.not_lt.mpr (by have h8 := h9.2.2.2; rw [ez_k] at h8; exact h8) c_127_23)]
                          exact r_ireti hC hr hlk hW hQ (⟨by rw [hF], by rw [hF]; exact am_flt hA _⟩) dX6_copy_149
                        · refine lv_iload hx hb dX6_copy_130 (lv_at hl 6 rfl) ?_
                          refine lv_aload_n hx hb dX6_copy_132 rfl (lv_at hl 1 rfl) ?_
                          refine gM_sheetLong hC hW q_fl_RX6_13 dX6_copy_133 ?_
                          refine lv_iload_n hx hb dX6_copy_136 rfl (lv_at hl 4 rfl) ?_
                          refine r_ildN (t0 := 0) (j := k2) hC hW eM_2 rfl (rfl) (by omega) (by decide) dX6_copy_137 ?_
                          refine r_top (y := t.2 2 k2) (by first | rfl | simp only [va_up_self]) ?_
                          refine r_top (y := nI z_k2) hln_k2 ?_
                          refine lv_iload hx hb dX6_copy_138 (lv_at hl 5 rfl) ?_
                          refine lv_isub hx hb dX6_copy_140 ?_
                          refine lv_icmp_le (tgt := 150) hx hb dX6_copy_141 (by decide) (fun c_141_25 => ?_) (fun c_141_25 => ?_)
                          · have hh1 : holdP b k i n := ⟨Int32.not_lt.mp c_71_7, by rw [ez_k]; exact Int32.not_lt.mp c_91_16, Int32.not_lt.mp c_81_13, by rw [ez_k]; exact Int32.not_lt.mp c_127_23⟩
                            have hh2 : holdP b k2 j n := ⟨Int32.not_lt.mp c_76_10, by rw [ez_k2]; exact Int32.not_lt.mp c_102_19, Int32.not_lt.mp c_81_13, by rw [ez_k2]; exact c_141_25⟩
                            obtain ⟨i0, n0, rfl, rfl, hin0⟩ := hold_ex (i := i) (n := n) (z := z_k) hz_k (by have h9 := hh1; unfold holdP at h9; rw [ez_k] at h9; exact h9)
                            obtain ⟨j0, rfl, hjn0⟩ := hold_ex2 (i := j) (n0 := n0) (z := z_k2) hz_k2 (by omega) (by have h9 := hh2; unfold holdP at h9; rw [ez_k2] at h9; exact h9)
                            refine lv_iload_n hx hb dX6_copy_150 rfl (lv_at hl 3 rfl) ?_
                            refine lv_iload hx hb dX6_copy_151 (lv_at hl 5 rfl) ?_
                            refine lv_icmp_ge (tgt := 160) hx hb dX6_copy_153 (by decide) (fun c_153_26 => ?_) (fun c_153_26 => ?_)
                            · have c_153_26 : j0 ≤ i0 := (nI_leI (a := j0) (b := i0) (by omega) (by omega)).mp c_153_26
                              refine lv_iconst (v := 0) hx hb dX6_copy_160 (by decide) ?_
                              refine lv_istore (lv' := [(7, .int 0), (6, .int 1), (0, .ref (ad 0)), (1, .int (nI k)), (2, .int (nI i0)), (3, .int (nI k2)), (4, .int (nI j0)), (5, .int (nI n0))]) hx hb dX6_copy_161 hl (by decide) rfl (fun ls hl => ?_)
                              refine lv_iconst (v := 0) hx hb dX6_copy_163 (by decide) ?_
                              refine lv_istore (lv' := [(8, .int 0), (7, .int 0), (6, .int 1), (0, .ref (ad 0)), (1, .int (nI k)), (2, .int (nI i0)), (3, .int (nI k2)), (4, .int (nI j0)), (5, .int (nI n0))]) hx hb dX6_copy_164 hl (by decide) rfl (fun ls hl => ?_)
                              have hW : HX (wM cs ad) (tyX cs) D A s.heap s (va_up t.1 0 0, va_up t.2 3 (cpM (t.2 3) (60 * k + i0) (60 * k2 + j0) 0 0)) _ _ := hx_congr hW (by rw [cpM_0]; exact Prod.ext rfl (by rw [va_upid]))
                              have loop_166_27 : ∀ (f9 : Nat) (z : Nat), (z ≤ n0) → n0 - z < f9 → ∀ (H : Heap) (locs : List Loc), HX (wM cs ad) (tyX cs) D A s.heap s (va_up t.1 0 0, va_up t.2 3 (cpM (t.2 3) (60 * k + i0) (60 * k2 + j0) 0 z)) H locs → ∀ ls : Array Slot, lv_has ls 10 [(8, .int (nI z)), (7, .int 0), (0, .ref (ad 0)), (1, .int (nI k)), (2, .int (nI i0)), (3, .int (nI k2)), (4, .int (nI j0)), (5, .int (nI n0))] → W p9 l e9 (rmk 2 42) s m9 args below meth c9 H locs 0 0 Q (F0 m9 166 ls []) := by
                                intro f_166
                                induction f_166 with
                                | zero => intro z hz hm_166 H locs hW ls hl; exact absurd hm_166 (Nat.not_lt_zero _)
                                | succ f_166 ih_166 =>
                                  intro z hz hm_166 H locs hW ls hl
                                  refine lv_iload hx hb dX6_copy_166 (lv_at hl 0 rfl) ?_
                                  refine lv_iload hx hb dX6_copy_168 (lv_at hl 7 rfl) ?_
                                  refine lv_icmp_ge (tgt := 227) hx hb dX6_copy_170 (by decide) (fun c_170_28 => ?_) (fun c_170_28 => ?_)
                                  · have c_170_28 : n0 ≤ z := (nI_leI (a := n0) (b := z) (by omega) (by omega)).mp c_170_28
                                    refine lv_iload hx hb dX6_copy_227 (lv_at hl 7 rfl) ?_
                                    have hz9 : z = n0 := by omega
                                    rw [hz9] at hW
                                    have hF : F_copy b (nI k) (nI i0) (nI k2) (nI j0) (nI n0) = (nI n0, ((flt b 0).1, va_up b.2 (15 + 2 * k2) (va_cpy (b.2 (15 + 2 * k)) (b.2 (15 + 2 * k2)) i0 j0 n0))) := by unfold F_copy; rw [if_pos c_9_1, if_pos c_16_2, nI_clamp (show k < 2 ^ 31 by omega), nI_clamp (show k2 < 2 ^ 31 by omega), if_neg hl_k, if_neg hl_k2, if_pos c_61_6, if_pos hh1, if_pos hh2, nI_clamp (show i0 < 2 ^ 31 by omega), nI_clamp (show j0 < 2 ^ 31 by omega), nI_clamp (show n0 < 2 ^ 31 by omega)]
                                    exact r_ireti hC hr hlk hW hQ (⟨by rw [hF], by rw [hF]; exact am_copy hA (by omega) (by omega) (by omega) (by omega) hl_k hl_k2⟩) dX6_copy_229
                                  · have c_170_28 : ¬ n0 ≤ z := fun h => c_170_28 ((nI_leI (a := n0) (b := z) (by omega) (by omega)).mpr h)
                                    refine lv_iload hx hb dX6_copy_173 (lv_at hl 1 rfl) ?_
                                    refine lv_if_eq (tgt := 188) hx hb dX6_copy_175 (by decide) (fun c_175_29 => ?_) (fun c_175_29 => ?_)
                                    · refine lv_iload hx hb dX6_copy_188 (lv_at hl 0 rfl) ?_
                                      refine lv_istore (lv' := [(9, .int (nI z)), (8, .int (nI z)), (7, .int 0), (0, .ref (ad 0)), (1, .int (nI k)), (2, .int (nI i0)), (3, .int (nI k2)), (4, .int (nI j0)), (5, .int (nI n0))]) hx hb dX6_copy_190 hl (by decide) rfl (fun ls hl => ?_)
                                      refine lv_aload_n hx hb dX6_copy_192 rfl (lv_at hl 3 rfl) ?_
                                      refine gM_cells hC hW q_fl_RX6_16 dX6_copy_193 ?_
                                      refine lv_bipush (v := 60) hx hb dX6_copy_196 (by decide) ?_
                                      refine lv_iload_n hx hb dX6_copy_198 rfl (lv_at hl 6 rfl) ?_
                                      refine lv_imul hx hb dX6_copy_199 ?_
                                      refine r_top (y := nI (60 * k2)) (pk_mul 60 k2) ?_
                                      refine lv_iload hx hb dX6_copy_200 (lv_at hl 7 rfl) ?_
                                      refine lv_iadd hx hb dX6_copy_202 ?_
                                      refine r_top (y := nI ((60 * k2) + j0)) (nI_add (60 * k2) j0) ?_
                                      refine lv_iload hx hb dX6_copy_203 (lv_at hl 0 rfl) ?_
                                      refine lv_iadd hx hb dX6_copy_205 ?_
                                      refine r_top (y := nI (((60 * k2) + j0) + z)) (nI_add ((60 * k2) + j0) z) ?_
                                      refine lv_aload_n hx hb dX6_copy_206 rfl (lv_at hl 3 rfl) ?_
                                      refine gM_cells hC hW q_fl_RX6_16 dX6_copy_207 ?_
                                      refine lv_bipush (v := 60) hx hb dX6_copy_210 (by decide) ?_
                                      refine lv_iload_n hx hb dX6_copy_212 rfl (lv_at hl 4 rfl) ?_
                                      refine lv_imul hx hb dX6_copy_213 ?_
                                      refine r_top (y := nI (60 * k)) (pk_mul 60 k) ?_
                                      refine lv_iload_n hx hb dX6_copy_214 rfl (lv_at hl 5 rfl) ?_
                                      refine lv_iadd hx hb dX6_copy_215 ?_
                                      refine r_top (y := nI ((60 * k) + i0)) (nI_add (60 * k) i0) ?_
                                      refine lv_iload hx hb dX6_copy_216 (lv_at hl 0 rfl) ?_
                                      refine lv_iadd hx hb dX6_copy_218 ?_
                                      refine r_top (y := nI (((60 * k) + i0) + z)) (nI_add ((60 * k) + i0) z) ?_
                                      refine r_ildN (t0 := 0) (j := ((60 * k) + i0) + z) hC hW eM_3 rfl (rfl) (by omega) (by decide) dX6_copy_219 ?_
                                      refine r_top (y := (cpM (t.2 3) (60 * k + i0) (60 * k2 + j0) 0 z) (((60 * k) + i0) + z)) (by first | rfl | simp only [va_up_self]) ?_
                                      refine r_top (y := t.2 3 ((60 * k + i0) + z)) (by show cpM _ _ _ _ _ _ = _; unfold cpM; exact if_neg (by omega)) ?_
                                      refine r_istN (t0 := 0) (j := ((60 * k2) + j0) + z) hC hW eM_3 rfl (rfl) (by omega) (by decide) (sM_3 _) dX6_copy_220 (fun H locs hW => ?_)
                                      have hW : HX (wM cs ad) (tyX cs) D A s.heap s (va_up t.1 0 0, va_up t.2 3 (upd (cpM (t.2 3) (60 * k + i0) (60 * k2 + j0) 0 z) (((60 * k2) + j0) + z) (t.2 3 ((60 * k + i0) + z)))) H locs := hx_congr hW (by first | rfl | (simp only [va_upup]; done) | (refine Prod.ext (funext fun k => ?_) (funext fun k => ?_) <;> simp only [va_up] <;> (repeat' split) <;> first | rfl | omega | simp_all))
                                      refine lv_iinc (v := nI (z + 1)) (lv' := [(8, .int (nI (z + 1))), (9, .int (nI z)), (7, .int 0), (0, .ref (ad 0)), (1, .int (nI k)), (2, .int (nI i0)), (3, .int (nI k2)), (4, .int (nI j0)), (5, .int (nI n0))]) hx hb dX6_copy_221 hl (k := 1) rfl (nI_1 _) (by decide) rfl (fun ls hl => ?_)
                                      refine lv_goto (tgt := 166) hx hb dX6_copy_224 (by decide) ?_
                                      have hW : HX (wM cs ad) (tyX cs) D A s.heap s (va_up t.1 0 0, va_up t.2 3 (cpM (t.2 3) (60 * k + i0) (60 * k2 + j0) 0 (z + 1))) _ _ := hx_congr hW (by rw [cpM_u])
                                      exact ih_166 (z + 1) (by omega) (by omega) _ _ hW ls (lv_sub hl [0, 2, 3, 4, 5, 6, 7, 8] rfl)
                                    · exact absurd c_175_29 (by decide)
                              exact loop_166_27 _ 0 (Nat.zero_le _) (Nat.lt_succ_self _) _ _ hW ls (lv_sub hl [0, 1, 3, 4, 5, 6, 7, 8] rfl)
                            · have c_153_26 : ¬ j0 ≤ i0 := fun h => c_153_26 ((nI_leI (a := j0) (b := i0) (by omega) (by omega)).mpr h)
                              refine lv_iconst (v := 1) hx hb dX6_copy_156 (by decide) ?_
                              refine lv_goto (tgt := 161) hx hb dX6_copy_157 (by decide) ?_
                              refine lv_istore (lv' := [(7, .int 1), (6, .int 1), (0, .ref (ad 0)), (1, .int (nI k)), (2, .int (nI i0)), (3, .int (nI k2)), (4, .int (nI j0)), (5, .int (nI n0))]) hx hb dX6_copy_161 hl (by decide) rfl (fun ls hl => ?_)
                              refine lv_iconst (v := 0) hx hb dX6_copy_163 (by decide) ?_
                              refine lv_istore (lv' := [(8, .int 0), (7, .int 1), (6, .int 1), (0, .ref (ad 0)), (1, .int (nI k)), (2, .int (nI i0)), (3, .int (nI k2)), (4, .int (nI j0)), (5, .int (nI n0))]) hx hb dX6_copy_164 hl (by decide) rfl (fun ls hl => ?_)
                              have hW : HX (wM cs ad) (tyX cs) D A s.heap s (va_up t.1 0 0, va_up t.2 3 (cpM (t.2 3) (60 * k + i0) (60 * k2 + j0) (n0 - 0) n0)) _ _ := hx_congr hW (by rw [Nat.sub_zero, cpM_0]; exact Prod.ext rfl (by rw [va_upid]))
                              have loop_166_30 : ∀ (f9 : Nat) (z : Nat), (z ≤ n0) → n0 - z < f9 → ∀ (H : Heap) (locs : List Loc), HX (wM cs ad) (tyX cs) D A s.heap s (va_up t.1 0 0, va_up t.2 3 (cpM (t.2 3) (60 * k + i0) (60 * k2 + j0) (n0 - z) n0)) H locs → ∀ ls : Array Slot, lv_has ls 10 [(8, .int (nI z)), (7, .int 1), (0, .ref (ad 0)), (1, .int (nI k)), (2, .int (nI i0)), (3, .int (nI k2)), (4, .int (nI j0)), (5, .int (nI n0))] → W p9 l e9 (rmk 2 42) s m9 args below meth c9 H locs 0 0 Q (F0 m9 166 ls []) := by
                                intro f_166
                                induction f_166 with
                                | zero => intro z hz hm_166 H locs hW ls hl; exact absurd hm_166 (Nat.not_lt_zero _)
                                | succ f_166 ih_166 =>
                                  intro z hz hm_166 H locs hW ls hl
                                  refine lv_iload hx hb dX6_copy_166 (lv_at hl 0 rfl) ?_
                                  refine lv_iload hx hb dX6_copy_168 (lv_at hl 7 rfl) ?_
                                  refine lv_icmp_ge (tgt := 227) hx hb dX6_copy_170 (by decide) (fun c_170_31 => ?_) (fun c_170_31 => ?_)
                                  · have c_170_31 : n0 ≤ z := (nI_leI (a := n0) (b := z) (by omega) (by omega)).mp c_170_31
                                    refine lv_iload hx hb dX6_copy_227 (lv_at hl 7 rfl) ?_
                                    have hz9 : z = n0 := by omega
                                    rw [hz9] at hW
                                    rw [Nat.sub_self] at hW
                                    have hF : F_copy b (nI k) (nI i0) (nI k2) (nI j0) (nI n0) = (nI n0, ((flt b 0).1, va_up b.2 (15 + 2 * k2) (va_cpy (b.2 (15 + 2 * k)) (b.2 (15 + 2 * k2)) i0 j0 n0))) := by unfold F_copy; rw [if_pos c_9_1, if_pos c_16_2, nI_clamp (show k < 2 ^ 31 by omega), nI_clamp (show k2 < 2 ^ 31 by omega), if_neg hl_k, if_neg hl_k2, if_pos c_61_6, if_pos hh1, if_pos hh2, nI_clamp (show i0 < 2 ^ 31 by omega), nI_clamp (show j0 < 2 ^ 31 by omega), nI_clamp (show n0 < 2 ^ 31 by omega)]
                                    exact r_ireti hC hr hlk hW hQ (⟨by rw [hF], by rw [hF]; exact am_copy hA (by omega) (by omega) (by omega) (by omega) hl_k hl_k2⟩) dX6_copy_229
                                  · have c_170_31 : ¬ n0 ≤ z := fun h => c_170_31 ((nI_leI (a := n0) (b := z) (by omega) (by omega)).mpr h)
                                    refine lv_iload hx hb dX6_copy_173 (lv_at hl 1 rfl) ?_
                                    refine lv_if_eq (tgt := 188) hx hb dX6_copy_175 (by decide) (fun c_175_32 => ?_) (fun c_175_32 => ?_)
                                    · exact absurd c_175_32 (by decide)
                                    · refine lv_iload hx hb dX6_copy_178 (lv_at hl 7 rfl) ?_
                                      refine lv_iconst (v := 1) hx hb dX6_copy_180 (by decide) ?_
                                      refine lv_isub hx hb dX6_copy_181 ?_
                                      refine r_top (y := nI (n0 - 1)) (by rw [show (1 : Int32) = nI 1 from rfl, pk_sub (by omega)]) ?_
                                      refine lv_iload hx hb dX6_copy_182 (lv_at hl 0 rfl) ?_
                                      refine lv_isub hx hb dX6_copy_184 ?_
                                      refine r_top (y := nI (n0 - 1 - z)) (pk_sub (by omega)) ?_
                                      refine lv_goto (tgt := 190) hx hb dX6_copy_185 (by decide) ?_
                                      refine lv_istore (lv' := [(9, .int (nI (n0 - 1 - z))), (8, .int (nI z)), (7, .int 1), (0, .ref (ad 0)), (1, .int (nI k)), (2, .int (nI i0)), (3, .int (nI k2)), (4, .int (nI j0)), (5, .int (nI n0))]) hx hb dX6_copy_190 hl (by decide) rfl (fun ls hl => ?_)
                                      refine lv_aload_n hx hb dX6_copy_192 rfl (lv_at hl 3 rfl) ?_
                                      refine gM_cells hC hW q_fl_RX6_16 dX6_copy_193 ?_
                                      refine lv_bipush (v := 60) hx hb dX6_copy_196 (by decide) ?_
                                      refine lv_iload_n hx hb dX6_copy_198 rfl (lv_at hl 6 rfl) ?_
                                      refine lv_imul hx hb dX6_copy_199 ?_
                                      refine r_top (y := nI (60 * k2)) (pk_mul 60 k2) ?_
                                      refine lv_iload hx hb dX6_copy_200 (lv_at hl 7 rfl) ?_
                                      refine lv_iadd hx hb dX6_copy_202 ?_
                                      refine r_top (y := nI ((60 * k2) + j0)) (nI_add (60 * k2) j0) ?_
                                      refine lv_iload hx hb dX6_copy_203 (lv_at hl 0 rfl) ?_
                                      refine lv_iadd hx hb dX6_copy_205 ?_
                                      refine r_top (y := nI (((60 * k2) + j0) + (n0 - 1 - z))) (nI_add ((60 * k2) + j0) (n0 - 1 - z)) ?_
                                      refine lv_aload_n hx hb dX6_copy_206 rfl (lv_at hl 3 rfl) ?_
                                      refine gM_cells hC hW q_fl_RX6_16 dX6_copy_207 ?_
                                      refine lv_bipush (v := 60) hx hb dX6_copy_210 (by decide) ?_
                                      refine lv_iload_n hx hb dX6_copy_212 rfl (lv_at hl 4 rfl) ?_
                                      refine lv_imul hx hb dX6_copy_213 ?_
                                      refine r_top (y := nI (60 * k)) (pk_mul 60 k) ?_
                                      refine lv_iload_n hx hb dX6_copy_214 rfl (lv_at hl 5 rfl) ?_
                                      refine lv_iadd hx hb dX6_copy_215 ?_
                                      refine r_top (y := nI ((60 * k) + i0)) (nI_add (60 * k) i0) ?_
                                      refine lv_iload hx hb dX6_copy_216 (lv_at hl 0 rfl) ?_
                                      refine lv_iadd hx hb dX6_copy_218 ?_
                                      refine r_top (y := nI (((60 * k) + i0) + (n0 - 1 - z))) (nI_add ((60 * k) + i0) (n0 - 1 - z)) ?_
                                      refine r_ildN (t0 := 0) (j := ((60 * k) + i0) + (n0 - 1 - z)) hC hW eM_3 rfl (rfl) (by omega) (by decide) dX6_copy_219 ?_
                                      refine r_top (y := (cpM (t.2 3) (60 * k + i0) (60 * k2 + j0) (n0 - z) n0) (((60 * k) + i0) + (n0 - 1 - z))) (by first | rfl | simp only [va_up_self]) ?_
                                      refine r_top (y := t.2 3 ((60 * k + i0) + (n0 - 1 - z))) (by show cpM _ _ _ _ _ _ = _; unfold cpM; exact if_neg (by omega)) ?_
                                      refine r_istN (t0 := 0) (j := ((60 * k2) + j0) + (n0 - 1 - z)) hC hW eM_3 rfl (rfl) (by omega) (by decide) (sM_3 _) dX6_copy_220 (fun H locs hW => ?_)
                                      have hW : HX (wM cs ad) (tyX cs) D A s.heap s (va_up t.1 0 0, va_up t.2 3 (upd (cpM (t.2 3) (60 * k + i0) (60 * k2 + j0) (n0 - z) n0) (((60 * k2) + j0) + (n0 - 1 - z)) (t.2 3 ((60 * k + i0) + (n0 - 1 - z))))) H locs := hx_congr hW (by first | rfl | (simp only [va_upup]; done) | (refine Prod.ext (funext fun k => ?_) (funext fun k => ?_) <;> simp only [va_up] <;> (repeat' split) <;> first | rfl | omega | simp_all))
                                      refine lv_iinc (v := nI (z + 1)) (lv' := [(8, .int (nI (z + 1))), (9, .int (nI (n0 - 1 - z))), (7, .int 1), (0, .ref (ad 0)), (1, .int (nI k)), (2, .int (nI i0)), (3, .int (nI k2)), (4, .int (nI j0)), (5, .int (nI n0))]) hx hb dX6_copy_221 hl (k := 1) rfl (nI_1 _) (by decide) rfl (fun ls hl => ?_)
                                      refine lv_goto (tgt := 166) hx hb dX6_copy_224 (by decide) ?_
                                      have hW : HX (wM cs ad) (tyX cs) D A s.heap s (va_up t.1 0 0, va_up t.2 3 (cpM (t.2 3) (60 * k + i0) (60 * k2 + j0) (n0 - (z + 1)) n0)) _ _ := hx_congr hW (by rw [show n0 - 1 - z = n0 - (z + 1) by omega, show n0 - z = n0 - (z + 1) + 1 by omega, cpM_d _ _ _ _ _ (by omega)])
                                      exact ih_166 (z + 1) (by omega) (by omega) _ _ hW ls (lv_sub hl [0, 2, 3, 4, 5, 6, 7, 8] rfl)
                              exact loop_166_30 _ 0 (Nat.zero_le _) (Nat.lt_succ_self _) _ _ hW ls (lv_sub hl [0, 1, 3, 4, 5, 6, 7, 8] rfl)
                          · refine lv_aload_n hx hb dX6_copy_144 rfl (lv_at hl 1 rfl) ?_
                            refine lv_iconst (v := 3) hx hb dX6_copy_145 (by decide) ?_
                            refine fin_i (run_V (rest := []) hC hW (m_X6_fails l D cs ad (va_up t.1 0 0, t.2) 3) k_yX6_fails ⟨rfl, rfl⟩ q_ml_RX6_91 eM_0 rfl rfl hl.1 rfl (Nat.le_of_ble_eq_true rfl) ⟨Nat.le_of_ble_eq_true rfl, Nat.le_of_ble_eq_true rfl⟩ dX6_copy_146 ⟨Nat.zero_le _, Nat.zero_le _⟩) hW (fun r33 u33 H locs hp33 hW => ?_)
                            have hW : HX (wM cs ad) (tyX cs) D A s.heap s (va_up t.1 0 3, t.2) H locs := hx_congr hW (hp33.2.trans (by first | rfl | (simp only [va_upup]; done) | (refine Prod.ext (funext fun k => ?_) (funext fun k => ?_) <;> simp only [va_up] <;> (repeat' split) <;> first | rfl | omega | simp_all)))
                            refine r_top hp33.1 ?_
                            have hG : F_copy b (nI k) i (nI k2) j n = (if holdP b k i n then if holdP b k2 j n then (n, ((flt b 0).1, va_up b.2 (15 + 2 * k2) (va_cpy (b.2 (15 + 2 * k)) (b.2 (15 + 2 * k2)) i.toNatClampNeg j.toNatClampNeg n.toNatClampNeg))) else ((-10) - 3, flt b 3) else ((-10) - 3, flt b 3)) := by unfold F_copy; rw [if_pos c_9_1, if_pos c_16_2, nI_clamp (show k < 2 ^ 31 by omega), nI_clamp (show k2 < 2 ^ 31 by omega), if_neg hl_k, if_neg hl_k2, if_pos c_61_6]
                            have hF : F_copy b (nI k) i (nI k2) j n = ((-10) - 3, flt b 3) := by rw [hG]; split; exact if_neg (show ¬ holdP b k2 j n from fun h9 => c_141_25 (by have h8 := h9.2.2.2; rw [ez_k2] at h8; exact h8)); rfl
                            exact r_ireti hC hr hlk hW hQ (⟨by rw [hF], by rw [hF]; exact am_flt hA _⟩) dX6_copy_149
          · refine lv_aload_n hx hb dX6_copy_64 rfl (lv_at hl 0 rfl) ?_
            refine lv_iconst (v := 2) hx hb dX6_copy_65 (by decide) ?_
            refine fin_i (run_V (rest := []) hC hW (m_X6_fails l D cs ad (va_up t.1 0 0, t.2) 2) k_yX6_fails ⟨rfl, rfl⟩ q_ml_RX6_91 eM_0 rfl rfl hl.1 rfl (Nat.le_of_ble_eq_true rfl) ⟨Nat.le_of_ble_eq_true rfl, Nat.le_of_ble_eq_true rfl⟩ dX6_copy_66 ⟨Nat.zero_le _, Nat.zero_le _⟩) hW (fun r34 u34 H locs hp34 hW => ?_)
            have hW : HX (wM cs ad) (tyX cs) D A s.heap s (va_up t.1 0 2, t.2) H locs := hx_congr hW (hp34.2.trans (by first | rfl | (simp only [va_upup]; done) | (refine Prod.ext (funext fun k => ?_) (funext fun k => ?_) <;> simp only [va_up] <;> (repeat' split) <;> first | rfl | omega | simp_all)))
            refine r_top hp34.1 ?_
            have hF : F_copy b (nI k) i (nI k2) j n = ((-10) - 2, flt b 2) := by unfold F_copy; rw [if_pos c_9_1, if_pos c_16_2, nI_clamp (show k < 2 ^ 31 by omega), nI_clamp (show k2 < 2 ^ 31 by omega), if_neg hl_k, if_neg hl_k2, if_neg c_61_6]
            exact r_ireti hC hr hlk hW hQ (⟨by rw [hF], by rw [hF]; exact am_flt hA _⟩) dX6_copy_69
        · refine lv_aload_n hx hb dX6_copy_43 rfl (lv_at hl 0 rfl) ?_
          refine lv_iconst (v := 1) hx hb dX6_copy_44 (by decide) ?_
          refine fin_i (run_V (rest := []) hC hW (m_X6_fails l D cs ad (va_up t.1 0 0, t.2) 1) k_yX6_fails ⟨rfl, rfl⟩ q_ml_RX6_91 eM_0 rfl rfl hl.1 rfl (Nat.le_of_ble_eq_true rfl) ⟨Nat.le_of_ble_eq_true rfl, Nat.le_of_ble_eq_true rfl⟩ dX6_copy_45 ⟨Nat.zero_le _, Nat.zero_le _⟩) hW (fun r35 u35 H locs hp35 hW => ?_)
          have hW : HX (wM cs ad) (tyX cs) D A s.heap s (va_up t.1 0 1, t.2) H locs := hx_congr hW (hp35.2.trans (by first | rfl | (simp only [va_upup]; done) | (refine Prod.ext (funext fun k => ?_) (funext fun k => ?_) <;> simp only [va_up] <;> (repeat' split) <;> first | rfl | omega | simp_all)))
          refine r_top hp35.1 ?_
          have hF : F_copy b (nI k) i (nI k2) j n = ((-10) - 1, flt b 1) := by unfold F_copy; rw [if_pos c_9_1, if_pos c_16_2, nI_clamp (show k < 2 ^ 31 by omega), nI_clamp (show k2 < 2 ^ 31 by omega), if_neg hl_k, if_pos (hsr_k2.1.mp c_40_5)]
          exact r_ireti hC hr hlk hW hQ (⟨by rw [hF], by rw [hF]; exact am_flt hA _⟩) dX6_copy_48
    · have c_16_2 := bI_z.mp c_16_2
      refine lv_iconst (v := (-1)) hx hb dX6_copy_19 (by decide) ?_
      have hF : F_copy b (nI k) i y j n = (-1, flt b 0) := by unfold F_copy; rw [if_pos c_9_1, if_neg c_16_2]
      exact r_ireti hC hr hlk hW hQ (⟨by rw [hF], by rw [hF]; exact am_flt hA _⟩) dX6_copy_20
