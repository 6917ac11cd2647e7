set_option maxRecDepth 100000 in
set_option maxHeartbeats 4000000 in
theorem m_X4_build (l : Launch) (D : va_G) (cs : CS3) (ad : Nat → Nat) (t : St) (k : Nat) (hk : k < 4) (i n P R : Nat) (heP : t.2 (15 + 2 * k) (i + 1) - 48 = nI P) (hP8 : P ≤ 8) (hnn : n = 2 + P + 5 * R) (hR5 : R ≤ 5) (hin : i + n ≤ 60): CT l yX4_build cX4_build 6 none (rmk 1 21) (wX cs ad) (tyX cs) D [.ref (ad 1), .ref (ad (14 + 2 * k)), .int (nI i), .int (nI n)] t (va_Qv (fun u => u = (va_up (va_up t.1 2 (nI P)) 3 (nI R), bldA t (t.2 (15 + 2 * k)) i P R))) := by
  refine CT.of (own := RX4) (by decide) rfl (Nat.le_of_ble_eq_true rfl) ?_
  intro p9 e9 s m9 args below meth c9 A Q hC hr hlk hW hQ ls hl
  obtain ⟨hx, hb, hml, hown, hts⟩ := id hC
  have hl : lv_has ls 6 [(0, .ref (ad 1)), (1, .ref (ad (14 + 2 * k))), (2, .int (nI i)), (3, .int (nI n))] := hl
  refine lv_aload_n hx hb dX4_build_0 rfl (lv_at hl 0 rfl) ?_
  refine lv_aload_n hx hb dX4_build_1 rfl (lv_at hl 1 rfl) ?_
  refine lv_iload_n hx hb dX4_build_2 rfl (lv_at hl 2 rfl) ?_
  refine lv_iconst (v := 1) hx hb dX4_build_3 (by decide) ?_
  refine lv_iadd hx hb dX4_build_4 ?_
  refine r_top (y := nI (i + 1)) (nI_add i 1) ?_
  refine fin_i (run_S (rest := [.ref (ad 1)]) hC hW (m_X4_digit l D cs ad t k (hk) (i + 1) (by omega)) k_yX4_digit ⟨rfl, rfl⟩ q_ml_RX4_24 rfl hl.1 rfl (Nat.le_of_ble_eq_true rfl) ⟨Nat.le_of_ble_eq_true rfl, Nat.le_of_ble_eq_true rfl⟩ dX4_build_5 ⟨Nat.zero_le _, Nat.zero_le _⟩) hW (fun r1 u1 H locs hp1 hW => ?_)
  have hW := hx_congr hW hp1.2
  refine r_top hp1.1 ?_
  refine r_top (y := nI P) heP ?_
  refine pX_S_paces hC hW q_fl_RX4_28 dX4_build_8 (fun H locs hW => ?_)
  have hW : HX (wX cs ad) (tyX cs) D A s.heap s (va_up t.1 2 (nI P), t.2) H locs := hW
  refine lv_aload_n hx hb dX4_build_11 rfl (lv_at hl 0 rfl) ?_
  refine lv_iload_n hx hb dX4_build_12 rfl (lv_at hl 3 rfl) ?_
  refine lv_iconst (v := 2) hx hb dX4_build_13 (by decide) ?_
  refine lv_isub hx hb dX4_build_14 ?_
  refine r_top (y := nI (n - 2)) (by rw [show (2 : Int32) = nI 2 from rfl, pk_sub (by omega)]) ?_
  refine lv_aload_n hx hb dX4_build_15 rfl (lv_at hl 0 rfl) ?_
  refine gX_S_paces hC hW q_fl_RX4_28 dX4_build_16 ?_
  refine r_top (y := nI P) rfl ?_
  refine lv_isub hx hb dX4_build_19 ?_
  refine r_top (y := nI (n - 2 - P)) (pk_sub (by omega)) ?_
  refine lv_iconst (v := 5) hx hb dX4_build_20 (by decide) ?_
  refine lv_idiv hx hb dX4_build_21 (by decide) ?_
  refine r_top (y := nI R) ((pk_div (a := n - 2 - P) (d := 5) (by omega) (by decide) (by decide)).trans (congrArg nI (by omega))) ?_
  refine pX_S_riders hC hW q_fl_RX4_34 dX4_build_22 (fun H locs hW => ?_)
  have hW : HX (wX cs ad) (tyX cs) D A s.heap s (va_up (va_up t.1 2 (nI P)) 3 (nI R), t.2) H locs := hW
  refine lv_iconst (v := 0) hx hb dX4_build_25 (by decide) ?_
  refine lv_istore (lv' := [(4, .int 0), (0, .ref (ad 1)), (1, .ref (ad (14 + 2 * k))), (2, .int (nI i)), (3, .int (nI n))]) hx hb dX4_build_26 hl (by decide) rfl (fun ls hl => ?_)
  have hW : HX (wX cs ad) (tyX cs) D A s.heap s (va_up (va_up t.1 2 (nI P)) 3 (nI R), va_up (va_up t.2 2 (selF (fun p => t.2 (15 + 2 * k) (i + 2 + p) - 48) (t.2 2) 0)) 3 (selF (fun _ => 0) (t.2 3) 0)) H locs := hx_congr hW (by rw [selF_0, selF_0, va_upid, va_upid])
  have loop_28_2 : ∀ (f9 : Nat) (z : Nat), (z ≤ P) → P - z < f9 → ∀ (H : Heap) (locs : List Loc), HX (wX cs ad) (tyX cs) D A s.heap s (va_up (va_up t.1 2 (nI P)) 3 (nI R), va_up (va_up t.2 2 (selF (fun p => t.2 (15 + 2 * k) (i + 2 + p) - 48) (t.2 2) z)) 3 (selF (fun _ => 0) (t.2 3) z)) H locs → ∀ ls : Array Slot, lv_has ls 6 [(4, .int (nI z)), (0, .ref (ad 1)), (1, .ref (ad (14 + 2 * k))), (2, .int (nI i)), (3, .int (nI n))] → W p9 l e9 (rmk 1 21) s m9 args below meth c9 H locs 0 0 Q (F0 m9 28 ls []) := by
    intro f_28
    induction f_28 with
    | zero => intro z hz hm_28 H locs hW ls hl; exact absurd hm_28 (Nat.not_lt_zero _)
    | succ f_28 ih_28 =>
      intro z hz hm_28 H locs hW ls hl
      refine lv_iload hx hb dX4_build_28 (lv_at hl 0 rfl) ?_
      refine lv_aload_n hx hb dX4_build_30 rfl (lv_at hl 1 rfl) ?_
      refine gX_S_paces hC hW q_fl_RX4_28 dX4_build_31 ?_
      refine r_top (y := nI P) rfl ?_
      refine lv_icmp_ge (tgt := 68) hx hb dX4_build_34 (by decide) (fun c_34_3 => ?_) (fun c_34_3 => ?_)
      · have c_34_3 : P ≤ z := (nI_leI (a := P) (b := z) (by omega) (by omega)).mp c_34_3
        refine lv_iconst (v := 0) hx hb dX4_build_68 (by decide) ?_
        refine lv_istore (lv' := [(4, .int 0), (0, .ref (ad 1)), (1, .ref (ad (14 + 2 * k))), (2, .int (nI i)), (3, .int (nI n))]) hx hb dX4_build_69 hl (by decide) rfl (fun ls hl => ?_)
        have ezP : z = P := by omega
        rw [ezP] at hW
        have hW : HX (wX cs ad) (tyX cs) D A s.heap s (va_up (va_up t.1 2 (nI P)) 3 (nI R), va_up (va_up (va_up (va_up (va_up t.2 2 (selF (fun p => t.2 (15 + 2 * k) (i + 2 + p) - 48) (t.2 2) P)) 3 (selF (fun _ => 0) (t.2 3) P)) 4 (selF (fun r => kindF (t.2 (15 + 2 * k) (i + 2 + P + r * 5 + 1))) (t.2 4) 0)) 5 (selF (fun r => 10 * (t.2 (15 + 2 * k) (i + 2 + P + r * 5 + 2) - 48) + (t.2 (15 + 2 * k) (i + 2 + P + r * 5 + 3) - 48)) (t.2 5) 0)) 6 (selF (fun r => t.2 (15 + 2 * k) (i + 2 + P + r * 5 + 4) - 48) (t.2 6) 0)) H locs := hx_congr hW (by rw [selF_0, selF_0, selF_0]; exact Prod.ext rfl (by funext k9; simp only [va_up]; (repeat' split) <;> first | rfl | simp_all))
        have loop_71_4 : ∀ (f9 : Nat) (z : Nat), (z ≤ R) → R - z < f9 → ∀ (H : Heap) (locs : List Loc), HX (wX cs ad) (tyX cs) D A s.heap s (va_up (va_up t.1 2 (nI P)) 3 (nI R), va_up (va_up (va_up (va_up (va_up t.2 2 (selF (fun p => t.2 (15 + 2 * k) (i + 2 + p) - 48) (t.2 2) P)) 3 (selF (fun _ => 0) (t.2 3) P)) 4 (selF (fun r => kindF (t.2 (15 + 2 * k) (i + 2 + P + r * 5 + 1))) (t.2 4) z)) 5 (selF (fun r => 10 * (t.2 (15 + 2 * k) (i + 2 + P + r * 5 + 2) - 48) + (t.2 (15 + 2 * k) (i + 2 + P + r * 5 + 3) - 48)) (t.2 5) z)) 6 (selF (fun r => t.2 (15 + 2 * k) (i + 2 + P + r * 5 + 4) - 48) (t.2 6) z)) H locs → ∀ ls : Array Slot, lv_has ls 6 [(4, .int (nI z)), (0, .ref (ad 1)), (1, .ref (ad (14 + 2 * k))), (2, .int (nI i)), (3, .int (nI n))] → W p9 l e9 (rmk 1 21) s m9 args below meth c9 H locs 0 0 Q (F0 m9 71 ls []) := by
          intro f_71
          induction f_71 with
          | zero => intro z hz2 hm_71 H locs hW ls hl; exact absurd hm_71 (Nat.not_lt_zero _)
          | succ f_71 ih_71 =>
            intro z hz2 hm_71 H locs hW ls hl
            refine lv_iload hx hb dX4_build_71 (lv_at hl 0 rfl) ?_
            refine lv_aload_n hx hb dX4_build_73 rfl (lv_at hl 1 rfl) ?_
            refine gX_S_riders hC hW q_fl_RX4_34 dX4_build_74 ?_
            refine r_top (y := nI R) rfl ?_
            refine lv_icmp_ge (tgt := 162) hx hb dX4_build_77 (by decide) (fun c_77_5 => ?_) (fun c_77_5 => ?_)
            · have c_77_5 : R ≤ z := (nI_leI (a := R) (b := z) (by omega) (by omega)).mp c_77_5
              have ezR : z = R := by omega
              rw [ezR] at hW
              exact r_vret hC hr hlk hW hQ (rfl) dX4_build_162
            · have c_77_5 : ¬ R ≤ z := fun h => c_77_5 ((nI_leI (a := R) (b := z) (by omega) (by omega)).mpr h)
              refine lv_iload_n hx hb dX4_build_80 rfl (lv_at hl 3 rfl) ?_
              refine lv_iconst (v := 2) hx hb dX4_build_81 (by decide) ?_
              refine lv_iadd hx hb dX4_build_82 ?_
              refine r_top (y := nI (i + 2)) (nI_add i 2) ?_
              refine lv_aload_n hx hb dX4_build_83 rfl (lv_at hl 1 rfl) ?_
              refine gX_S_paces hC hW q_fl_RX4_28 dX4_build_84 ?_
              refine r_top (y := nI P) rfl ?_
              refine lv_iadd hx hb dX4_build_87 ?_
              refine r_top (y := nI ((i + 2) + P)) (nI_add (i + 2) P) ?_
              refine lv_iload hx hb dX4_build_88 (lv_at hl 0 rfl) ?_
              refine lv_iconst (v := 5) hx hb dX4_build_90 (by decide) ?_
              refine lv_imul hx hb dX4_build_91 ?_
              refine r_top (y := nI (z * 5)) (pk_mul z 5) ?_
              refine lv_iadd hx hb dX4_build_92 ?_
              refine r_top (y := nI (((i + 2) + P) + (z * 5))) (nI_add ((i + 2) + P) (z * 5)) ?_
              refine lv_istore (lv' := [(5, .int (nI (((i + 2) + P) + (z * 5)))), (4, .int (nI z)), (0, .ref (ad 1)), (1, .ref (ad (14 + 2 * k))), (2, .int (nI i)), (3, .int (nI n))]) hx hb dX4_build_93 hl (by decide) rfl (fun ls hl => ?_)
              refine lv_aload_n hx hb dX4_build_95 rfl (lv_at hl 2 rfl) ?_
              refine gX_S_kind hC hW q_fl_RX4_43 dX4_build_96 ?_
              refine lv_iload hx hb dX4_build_99 (lv_at hl 1 rfl) ?_
              refine lv_aload_n hx hb dX4_build_101 rfl (lv_at hl 3 rfl) ?_
              refine gX_R_cells k hk hC hW q_fl_RX4_9 dX4_build_102 ?_
              refine lv_iload hx hb dX4_build_105 (lv_at hl 0 rfl) ?_
              refine lv_iconst (v := 1) hx hb dX4_build_107 (by decide) ?_
              refine lv_iadd hx hb dX4_build_108 ?_
              refine r_top (y := nI ((((i + 2) + P) + (z * 5)) + 1)) (nI_add (((i + 2) + P) + (z * 5)) 1) ?_
              refine r_ildN (t0 := 0) (j := (((i + 2) + P) + (z * 5)) + 1) hC hW (eX_Rc k hk) rfl (rfl) (by omega) (by decide) dX4_build_109 ?_
              refine r_top (y := t.2 (15 + 2 * k) ((((i + 2) + P) + (z * 5)) + 1)) (by simp (disch := omega) only [va_up_ne, va_up_self]) ?_
              refine fin_pi (run_P (rest := [.int (nI z), .ref (ad 4)]) hC hW.2.2.2.2.2 (m_X4_kindOf l (t.2 (15 + 2 * k) ((((i + 2) + P) + (z * 5)) + 1))) k_yX4_kindOf ⟨rfl, rfl⟩ q_ml_RX4_46 rfl hl.1 rfl (Nat.le_of_ble_eq_true rfl) ⟨Nat.le_of_ble_eq_true rfl, Nat.le_of_ble_eq_true rfl⟩ dX4_build_110 ⟨Nat.zero_le _, Nat.zero_le _⟩) (fun r hr9 => ?_)
              refine r_top hr9 ?_
              refine r_istN (t0 := 0) (j := z) hC hW eX_4 rfl (rfl) (by omega) (by decide) (sX_4 _) dX4_build_113 (fun H locs hW => ?_)
              have hW : HX (wX cs ad) (tyX cs) D A s.heap s (va_up (va_up t.1 2 (nI P)) 3 (nI R), va_up (va_up (va_up (va_up (va_up t.2 2 (selF (fun p => t.2 (15 + 2 * k) (i + 2 + p) - 48) (t.2 2) P)) 3 (selF (fun _ => 0) (t.2 3) P)) 5 (selF (fun r => 10 * (t.2 (15 + 2 * k) (i + 2 + P + r * 5 + 2) - 48) + (t.2 (15 + 2 * k) (i + 2 + P + r * 5 + 3) - 48)) (t.2 5) z)) 6 (selF (fun r => t.2 (15 + 2 * k) (i + 2 + P + r * 5 + 4) - 48) (t.2 6) z)) 4 (upd (selF (fun r => kindF (t.2 (15 + 2 * k) (i + 2 + P + r * 5 + 1))) (t.2 4) z) z (kindF (t.2 (15 + 2 * k) ((((i + 2) + P) + (z * 5)) + 1))))) H locs := hx_congr hW (by first | rfl | (simp only [va_upup]; done) | (refine Prod.ext (funext fun k => ?_) (funext fun k => ?_) <;> simp only [va_up] <;> (repeat' split) <;> first | rfl | omega | simp_all))
              refine lv_aload_n hx hb dX4_build_114 rfl (lv_at hl 2 rfl) ?_
              refine gX_S_speed hC hW q_fl_RX4_50 dX4_build_115 ?_
              refine lv_iload hx hb dX4_build_118 (lv_at hl 1 rfl) ?_
              refine lv_bipush (v := 10) hx hb dX4_build_120 (by decide) ?_
              refine lv_aload_n hx hb dX4_build_122 rfl (lv_at hl 3 rfl) ?_
              refine lv_iload hx hb dX4_build_123 (lv_at hl 0 rfl) ?_
              refine lv_iconst (v := 2) hx hb dX4_build_125 (by decide) ?_
              refine lv_iadd hx hb dX4_build_126 ?_
              refine r_top (y := nI ((((i + 2) + P) + (z * 5)) + 2)) (nI_add (((i + 2) + P) + (z * 5)) 2) ?_
              refine fin_i (run_S (rest := [.int 10, .int (nI z), .ref (ad 5)]) hC hW (m_X4_digit l D cs ad (va_up (va_up t.1 2 (nI P)) 3 (nI R), va_up (va_up (va_up (va_up (va_up t.2 2 (selF (fun p => t.2 (15 + 2 * k) (i + 2 + p) - 48) (t.2 2) P)) 3 (selF (fun _ => 0) (t.2 3) P)) 5 (selF (fun r => 10 * (t.2 (15 + 2 * k) (i + 2 + P + r * 5 + 2) - 48) + (t.2 (15 + 2 * k) (i + 2 + P + r * 5 + 3) - 48)) (t.2 5) z)) 6 (selF (fun r => t.2 (15 + 2 * k) (i + 2 + P + r * 5 + 4) - 48) (t.2 6) z)) 4 (upd (selF (fun r => kindF (t.2 (15 + 2 * k) (i + 2 + P + r * 5 + 1))) (t.2 4) z) z (kindF (t.2 (15 + 2 * k) ((((i + 2) + P) + (z * 5)) + 1))))) k (hk) ((((i + 2) + P) + (z * 5)) + 2) (by omega)) k_yX4_digit ⟨rfl, rfl⟩ q_ml_RX4_24 rfl hl.1 rfl (Nat.le_of_ble_eq_true rfl) ⟨Nat.le_of_ble_eq_true rfl, Nat.le_of_ble_eq_true rfl⟩ dX4_build_127 ⟨Nat.zero_le _, Nat.zero_le _⟩) hW (fun r6 u6 H locs hp6 hW => ?_)
              have hW := hx_congr hW hp6.2
              refine r_top hp6.1 ?_
              refine r_top (y := t.2 (15 + 2 * k) ((((i + 2) + P) + (z * 5)) + 2) - 48) (by simp (disch := omega) only [va_up_ne]) ?_
              refine lv_imul hx hb dX4_build_130 ?_
              refine lv_aload_n hx hb dX4_build_131 rfl (lv_at hl 3 rfl) ?_
              refine lv_iload hx hb dX4_build_132 (lv_at hl 0 rfl) ?_
              refine lv_iconst (v := 3) hx hb dX4_build_134 (by decide) ?_
              refine lv_iadd hx hb dX4_build_135 ?_
              refine r_top (y := nI ((((i + 2) + P) + (z * 5)) + 3)) (nI_add (((i + 2) + P) + (z * 5)) 3) ?_
              refine fin_i (run_S (rest := [.int (10 * (t.2 (15 + 2 * k) ((((i + 2) + P) + (z * 5)) + 2) - 48)), .int (nI z), .ref (ad 5)]) hC hW (m_X4_digit l D cs ad (va_up (va_up t.1 2 (nI P)) 3 (nI R), va_up (va_up (va_up (va_up (va_up t.2 2 (selF (fun p => t.2 (15 + 2 * k) (i + 2 + p) - 48) (t.2 2) P)) 3 (selF (fun _ => 0) (t.2 3) P)) 5 (selF (fun r => 10 * (t.2 (15 + 2 * k) (i + 2 + P + r * 5 + 2) - 48) + (t.2 (15 + 2 * k) (i + 2 + P + r * 5 + 3) - 48)) (t.2 5) z)) 6 (selF (fun r => t.2 (15 + 2 * k) (i + 2 + P + r * 5 + 4) - 48) (t.2 6) z)) 4 (upd (selF (fun r => kindF (t.2 (15 + 2 * k) (i + 2 + P + r * 5 + 1))) (t.2 4) z) z (kindF (t.2 (15 + 2 * k) ((((i + 2) + P) + (z * 5)) + 1))))) k (hk) ((((i + 2) + P) + (z * 5)) + 3) (by omega)) k_yX4_digit ⟨rfl, rfl⟩ q_ml_RX4_24 rfl hl.1 rfl (Nat.le_of_ble_eq_true rfl) ⟨Nat.le_of_ble_eq_true rfl, Nat.le_of_ble_eq_true rfl⟩ dX4_build_136 ⟨Nat.zero_le _, Nat.zero_le _⟩) hW (fun r7 u7 H locs hp7 hW => ?_)
              have hW := hx_congr hW hp7.2
              refine r_top hp7.1 ?_
              refine r_top (y := t.2 (15 + 2 * k) ((((i + 2) + P) + (z * 5)) + 3) - 48) (by simp (disch := omega) only [va_up_ne]) ?_
              refine lv_iadd hx hb dX4_build_139 ?_
              refine r_istN (t0 := 0) (j := z) hC hW eX_5 rfl (rfl) (by omega) (by decide) (sX_5 _) dX4_build_140 (fun H locs hW => ?_)
              have hW : HX (wX cs ad) (tyX cs) D A s.heap s (va_up (va_up t.1 2 (nI P)) 3 (nI R), va_up (va_up (va_up (va_up (va_up t.2 2 (selF (fun p => t.2 (15 + 2 * k) (i + 2 + p) - 48) (t.2 2) P)) 3 (selF (fun _ => 0) (t.2 3) P)) 6 (selF (fun r => t.2 (15 + 2 * k) (i + 2 + P + r * 5 + 4) - 48) (t.2 6) z)) 4 (upd (selF (fun r => kindF (t.2 (15 + 2 * k) (i + 2 + P + r * 5 + 1))) (t.2 4) z) z (kindF (t.2 (15 + 2 * k) ((((i + 2) + P) + (z * 5)) + 1))))) 5 (upd (selF (fun r => 10 * (t.2 (15 + 2 * k) (i + 2 + P + r * 5 + 2) - 48) + (t.2 (15 + 2 * k) (i + 2 + P + r * 5 + 3) - 48)) (t.2 5) z) z ((10 * (t.2 (15 + 2 * k) ((((i + 2) + P) + (z * 5)) + 2) - 48)) + (t.2 (15 + 2 * k) ((((i + 2) + P) + (z * 5)) + 3) - 48)))) H locs := hx_congr hW (by first | rfl | (simp only [va_upup]; done) | (refine Prod.ext (funext fun k => ?_) (funext fun k => ?_) <;> simp only [va_up] <;> (repeat' split) <;> first | rfl | omega | simp_all))
              refine lv_aload_n hx hb dX4_build_141 rfl (lv_at hl 2 rfl) ?_
              refine gX_S_nails hC hW q_fl_RX4_53 dX4_build_142 ?_
              refine lv_iload hx hb dX4_build_145 (lv_at hl 1 rfl) ?_
              refine lv_aload_n hx hb dX4_build_147 rfl (lv_at hl 3 rfl) ?_
              refine lv_iload hx hb dX4_build_148 (lv_at hl 0 rfl) ?_
              refine lv_iconst (v := 4) hx hb dX4_build_150 (by decide) ?_
              refine lv_iadd hx hb dX4_build_151 ?_
              refine r_top (y := nI ((((i + 2) + P) + (z * 5)) + 4)) (nI_add (((i + 2) + P) + (z * 5)) 4) ?_
              refine fin_i (run_S (rest := [.int (nI z), .ref (ad 6)]) hC hW (m_X4_digit l D cs ad (va_up (va_up t.1 2 (nI P)) 3 (nI R), va_up (va_up (va_up (va_up (va_up t.2 2 (selF (fun p => t.2 (15 + 2 * k) (i + 2 + p) - 48) (t.2 2) P)) 3 (selF (fun _ => 0) (t.2 3) P)) 6 (selF (fun r => t.2 (15 + 2 * k) (i + 2 + P + r * 5 + 4) - 48) (t.2 6) z)) 4 (upd (selF (fun r => kindF (t.2 (15 + 2 * k) (i + 2 + P + r * 5 + 1))) (t.2 4) z) z (kindF (t.2 (15 + 2 * k) ((((i + 2) + P) + (z * 5)) + 1))))) 5 (upd (selF (fun r => 10 * (t.2 (15 + 2 * k) (i + 2 + P + r * 5 + 2) - 48) + (t.2 (15 + 2 * k) (i + 2 + P + r * 5 + 3) - 48)) (t.2 5) z) z ((10 * (t.2 (15 + 2 * k) ((((i + 2) + P) + (z * 5)) + 2) - 48)) + (t.2 (15 + 2 * k) ((((i + 2) + P) + (z * 5)) + 3) - 48)))) k (hk) ((((i + 2) + P) + (z * 5)) + 4) (by omega)) k_yX4_digit ⟨rfl, rfl⟩ q_ml_RX4_24 rfl hl.1 rfl (Nat.le_of_ble_eq_true rfl) ⟨Nat.le_of_ble_eq_true rfl, Nat.le_of_ble_eq_true rfl⟩ dX4_build_152 ⟨Nat.zero_le _, Nat.zero_le _⟩) hW (fun r8 u8 H locs hp8 hW => ?_)
              have hW := hx_congr hW hp8.2
              refine r_top hp8.1 ?_
              refine r_top (y := t.2 (15 + 2 * k) ((((i + 2) + P) + (z * 5)) + 4) - 48) (by simp (disch := omega) only [va_up_ne]) ?_
              refine r_istN (t0 := 0) (j := z) hC hW eX_6 rfl (rfl) (by omega) (by decide) (sX_6 _) dX4_build_155 (fun H locs hW => ?_)
              have hW : HX (wX cs ad) (tyX cs) D A s.heap s (va_up (va_up t.1 2 (nI P)) 3 (nI R), va_up (va_up (va_up (va_up (va_up t.2 2 (selF (fun p => t.2 (15 + 2 * k) (i + 2 + p) - 48) (t.2 2) P)) 3 (selF (fun _ => 0) (t.2 3) P)) 4 (upd (selF (fun r => kindF (t.2 (15 + 2 * k) (i + 2 + P + r * 5 + 1))) (t.2 4) z) z (kindF (t.2 (15 + 2 * k) ((((i + 2) + P) + (z * 5)) + 1))))) 5 (upd (selF (fun r => 10 * (t.2 (15 + 2 * k) (i + 2 + P + r * 5 + 2) - 48) + (t.2 (15 + 2 * k) (i + 2 + P + r * 5 + 3) - 48)) (t.2 5) z) z ((10 * (t.2 (15 + 2 * k) ((((i + 2) + P) + (z * 5)) + 2) - 48)) + (t.2 (15 + 2 * k) ((((i + 2) + P) + (z * 5)) + 3) - 48)))) 6 (upd (selF (fun r => t.2 (15 + 2 * k) (i + 2 + P + r * 5 + 4) - 48) (t.2 6) z) z (t.2 (15 + 2 * k) ((((i + 2) + P) + (z * 5)) + 4) - 48))) H locs := hx_congr hW (by first | rfl | (simp only [va_upup]; done) | (refine Prod.ext (funext fun k => ?_) (funext fun k => ?_) <;> simp only [va_up] <;> (repeat' split) <;> first | rfl | omega | simp_all))
              refine lv_iinc (v := nI (z + 1)) (lv' := [(4, .int (nI (z + 1))), (5, .int (nI (((i + 2) + P) + (z * 5)))), (0, .ref (ad 1)), (1, .ref (ad (14 + 2 * k))), (2, .int (nI i)), (3, .int (nI n))]) hx hb dX4_build_156 hl (k := 1) rfl (nI_1 _) (by decide) rfl (fun ls hl => ?_)
              refine lv_goto (tgt := 71) hx hb dX4_build_159 (by decide) ?_
              have hW : HX (wX cs ad) (tyX cs) D A s.heap s (va_up (va_up t.1 2 (nI P)) 3 (nI R), va_up (va_up (va_up (va_up (va_up t.2 2 (selF (fun p => t.2 (15 + 2 * k) (i + 2 + p) - 48) (t.2 2) P)) 3 (selF (fun _ => 0) (t.2 3) P)) 4 (selF (fun r => kindF (t.2 (15 + 2 * k) (i + 2 + P + r * 5 + 1))) (t.2 4) (z + 1))) 5 (selF (fun r => 10 * (t.2 (15 + 2 * k) (i + 2 + P + r * 5 + 2) - 48) + (t.2 (15 + 2 * k) (i + 2 + P + r * 5 + 3) - 48)) (t.2 5) (z + 1))) 6 (selF (fun r => t.2 (15 + 2 * k) (i + 2 + P + r * 5 + 4) - 48) (t.2 6) (z + 1))) H locs := hx_congr hW (by rw [selF_s _ _ _ _ rfl, selF_s _ _ _ _ rfl, selF_s _ _ _ _ rfl])
              exact ih_71 (z + 1) (by omega) (by omega) _ _ hW ls (lv_sub hl [0, 2, 3, 4, 5] rfl)
        exact loop_71_4 _ 0 (Nat.zero_le _) (Nat.lt_succ_self _) _ _ hW ls (lv_sub hl [0, 1, 2, 3, 4] rfl)
      · have c_34_3 : ¬ P ≤ z := fun h => c_34_3 ((nI_leI (a := P) (b := z) (by omega) (by omega)).mpr h)
        refine lv_aload_n hx hb dX4_build_37 rfl (lv_at hl 1 rfl) ?_
        refine gX_S_slick hC hW q_fl_RX4_37 dX4_build_38 ?_
        refine lv_iload hx hb dX4_build_41 (lv_at hl 0 rfl) ?_
        refine lv_aload_n hx hb dX4_build_43 rfl (lv_at hl 2 rfl) ?_
        refine lv_iload_n hx hb dX4_build_44 rfl (lv_at hl 3 rfl) ?_
        refine lv_iconst (v := 2) hx hb dX4_build_45 (by decide) ?_
        refine lv_iadd hx hb dX4_build_46 ?_
        refine r_top (y := nI (i + 2)) (nI_add i 2) ?_
        refine lv_iload hx hb dX4_build_47 (lv_at hl 0 rfl) ?_
        refine lv_iadd hx hb dX4_build_49 ?_
        refine r_top (y := nI ((i + 2) + z)) (nI_add (i + 2) z) ?_
        refine fin_i (run_S (rest := [.int (nI z), .ref (ad 2)]) hC hW (m_X4_digit l D cs ad (va_up (va_up t.1 2 (nI P)) 3 (nI R), va_up (va_up t.2 2 (selF (fun p => t.2 (15 + 2 * k) (i + 2 + p) - 48) (t.2 2) z)) 3 (selF (fun _ => 0) (t.2 3) z)) k (hk) ((i + 2) + z) (by omega)) k_yX4_digit ⟨rfl, rfl⟩ q_ml_RX4_24 rfl hl.1 rfl (Nat.le_of_ble_eq_true rfl) ⟨Nat.le_of_ble_eq_true rfl, Nat.le_of_ble_eq_true rfl⟩ dX4_build_50 ⟨Nat.zero_le _, Nat.zero_le _⟩) hW (fun r9 u9 H locs hp9 hW => ?_)
        have hW := hx_congr hW hp9.2
        refine r_top hp9.1 ?_
        refine r_top (y := t.2 (15 + 2 * k) ((i + 2) + z) - 48) (by simp (disch := omega) only [va_up_ne]) ?_
        refine r_istN (t0 := 0) (j := z) hC hW eX_2 rfl (rfl) (by omega) (by decide) (sX_2 _) dX4_build_53 (fun H locs hW => ?_)
        have hW : HX (wX cs ad) (tyX cs) D A s.heap s (va_up (va_up t.1 2 (nI P)) 3 (nI R), va_up (va_up t.2 3 (selF (fun _ => 0) (t.2 3) z)) 2 (upd (selF (fun p => t.2 (15 + 2 * k) (i + 2 + p) - 48) (t.2 2) z) z (t.2 (15 + 2 * k) ((i + 2) + z) - 48))) H locs := hx_congr hW (by first | rfl | (simp only [va_upup]; done) | (refine Prod.ext (funext fun k => ?_) (funext fun k => ?_) <;> simp only [va_up] <;> (repeat' split) <;> first | rfl | omega | simp_all))
        refine lv_aload_n hx hb dX4_build_54 rfl (lv_at hl 1 rfl) ?_
        refine gX_S_laid hC hW q_fl_RX4_40 dX4_build_55 ?_
        refine lv_iload hx hb dX4_build_58 (lv_at hl 0 rfl) ?_
        refine lv_iconst (v := 0) hx hb dX4_build_60 (by decide) ?_
        refine r_istN (t0 := 0) (j := z) hC hW eX_3 rfl (rfl) (by omega) (by decide) (sX_3 _) dX4_build_61 (fun H locs hW => ?_)
        have hW : HX (wX cs ad) (tyX cs) D A s.heap s (va_up (va_up t.1 2 (nI P)) 3 (nI R), va_up (va_up t.2 2 (upd (selF (fun p => t.2 (15 + 2 * k) (i + 2 + p) - 48) (t.2 2) z) z (t.2 (15 + 2 * k) ((i + 2) + z) - 48))) 3 (upd (selF (fun _ => 0) (t.2 3) z) z 0)) H locs := hx_congr hW (by first | rfl | (simp only [va_upup]; done) | (refine Prod.ext (funext fun k => ?_) (funext fun k => ?_) <;> simp only [va_up] <;> (repeat' split) <;> first | rfl | omega | simp_all))
        refine lv_iinc (v := nI (z + 1)) (lv' := [(4, .int (nI (z + 1))), (0, .ref (ad 1)), (1, .ref (ad (14 + 2 * k))), (2, .int (nI i)), (3, .int (nI n))]) hx hb dX4_build_62 hl (k := 0) rfl (nI_1 _) (by decide) rfl (fun ls hl => ?_)
        refine lv_goto (tgt := 28) hx hb dX4_build_65 (by decide) ?_
        have hW : HX (wX cs ad) (tyX cs) D A s.heap s (va_up (va_up t.1 2 (nI P)) 3 (nI R), va_up (va_up t.2 2 (selF (fun p => t.2 (15 + 2 * k) (i + 2 + p) - 48) (t.2 2) (z + 1))) 3 (selF (fun _ => 0) (t.2 3) (z + 1))) H locs := hx_congr hW (by rw [selF_s _ _ _ _ (by first | rfl | (simp only []; rfl)), selF_s _ _ _ _ rfl])
        exact ih_28 (z + 1) (by omega) (by omega) _ _ hW ls (lv_sub hl [0, 1, 2, 3, 4] rfl)
  exact loop_28_2 _ 0 (Nat.zero_le _) (Nat.lt_succ_self _) _ _ hW ls (lv_sub hl [0, 1, 2, 3, 4] rfl)
set_option maxRecDepth 100000 in
set_option maxHeartbeats 4000000 in
theorem m_X5_hill (l : Launch) (D : va_G) (cs : CS3) (ad : Nat → Nat) (t : St) (P R C : Nat) (x a i n : Int32) (hB : BW t P R C): CT l yX5_hill cX5_hill 8 (some .int) (rmk 3 70) (wX cs ad) (tyX cs) D [.ref (ad 0), .int x, .int a, .int i, .int n] t (va_Qi (fun z u => z = (F_hill t x a i n).1 ∧ LA (F_hill t x a i n).2 u)) := by
  refine CT.of (own := RX5) (by decide) rfl (Nat.le_of_ble_eq_true rfl) ?_
  intro p9 e9 s m9 args below meth c9 A Q hC hr hlk hW hQ ls hl
  obtain ⟨hx, hb, hml, hown, hts⟩ := id hC
  have hl : lv_has ls 8 [(0, .ref (ad 0)), (1, .int x), (2, .int a), (3, .int i), (4, .int n)] := hl
  obtain ⟨hP, hP8, hR, hR5, hc4, hC8, hlen⟩ := hB
  refine lv_aload_n hx hb dX5_hill_0 rfl (lv_at hl 0 rfl) ?_
  refine lv_iconst (v := 0) hx hb dX5_hill_1 (by decide) ?_
  refine pX_G_fault hC hW q_fl_RX5_48 dX5_hill_2 (fun H locs hW => ?_)
  have hW : HX (wX cs ad) (tyX cs) D A s.heap s (va_up t.1 1 0, t.2) H locs := hW
  refine lv_iload_n hx hb dX5_hill_5 rfl (lv_at hl 1 rfl) ?_
  refine fin_pi (run_P (rest := []) hC hW.2.2.2.2.2 (m_X5_isSheet l x) k_yX5_isSheet ⟨rfl, rfl⟩ q_ml_RX5_52 rfl hl.1 rfl (Nat.le_of_ble_eq_true rfl) ⟨Nat.le_of_ble_eq_true rfl, Nat.le_of_ble_eq_true rfl⟩ dX5_hill_6 ⟨Nat.zero_le _, Nat.zero_le _⟩) (fun r hr9 => ?_)
  refine r_top hr9 ?_
  refine lv_if_ne (tgt := 14) hx hb dX5_hill_9 (by decide) (fun c_9_1 => ?_) (fun c_9_1 => ?_)
  · have c_9_1 := bI_nz c_9_1
    obtain ⟨k, hk3, rfl⟩ := rng_ex (M := 3) (n := 3) (by decide) c_9_1
    refine lv_iload_n hx hb dX5_hill_14 rfl (lv_at hl 2 rfl) ?_
    refine fin_pi (run_P (rest := []) hC hW.2.2.2.2.2 (m_X5_isLane l a) k_yX5_isLane ⟨rfl, rfl⟩ q_ml_RX5_56 rfl hl.1 rfl (Nat.le_of_ble_eq_true rfl) ⟨Nat.le_of_ble_eq_true rfl, Nat.le_of_ble_eq_true rfl⟩ dX5_hill_15 ⟨Nat.zero_le _, Nat.zero_le _⟩) (fun r hr9 => ?_)
    refine r_top hr9 ?_
    refine lv_if_ne (tgt := 24) hx hb dX5_hill_18 (by decide) (fun c_18_2 => ?_) (fun c_18_2 => ?_)
    · have c_18_2 := bI_nz c_18_2
      refine lv_aload_n hx hb dX5_hill_24 rfl (lv_at hl 0 rfl) ?_
      refine gX_G_sheets hC hW q_fl_RX5_27 dX5_hill_25 ?_
      refine lv_iload_n hx hb dX5_hill_28 rfl (lv_at hl 1 rfl) ?_
      refine r_aldN (t0 := 1) (j := k) hC hW eX_10 rfl rfl (by omega) (by decide) rfl dX5_hill_29 ?_
      refine lv_astore (lv' := [(5, .ref (ad (14 + 2 * k))), (0, .ref (ad 0)), (1, .int (nI k)), (2, .int a), (3, .int i), (4, .int n)]) hx hb dX5_hill_30 hl (by decide) rfl (fun ls hl => ?_)
      refine lv_aload hx hb dX5_hill_32 (lv_at hl 0 rfl) ?_
      refine lv_iload_n hx hb dX5_hill_34 rfl (lv_at hl 3 rfl) ?_
      refine lv_iload_n hx hb dX5_hill_35 rfl (lv_at hl 4 rfl) ?_
      refine lv_iload hx hb dX5_hill_36 (lv_at hl 5 rfl) ?_
      refine fin_i (run_S (rest := []) hC hW (m_X5_faultOfCells l D cs ad (va_up t.1 1 0, t.2) k (by omega) a i n) k_yX5_faultOfCells ⟨rfl, rfl⟩ q_ml_RX5_59 rfl hl.1 rfl (Nat.le_of_ble_eq_true rfl) ⟨Nat.le_of_ble_eq_true rfl, Nat.le_of_ble_eq_true rfl⟩ dX5_hill_38 ⟨Nat.zero_le _, Nat.zero_le _⟩) hW (fun r3 u3 H locs hp3 hW => ?_)
      have hW := hx_congr hW hp3.2
      refine r_top hp3.1 ?_
      refine r_top (y := focF (t.1 (5 + 2 * k)) (t.1 (6 + 2 * k)) a i n) (by simp (disch := omega) only [va_up_ne]) ?_
      refine lv_istore (lv' := [(6, .int (focF (t.1 (5 + 2 * k)) (t.1 (6 + 2 * k)) a i n)), (5, .ref (ad (14 + 2 * k))), (0, .ref (ad 0)), (1, .int (nI k)), (2, .int a), (3, .int i), (4, .int n)]) hx hb dX5_hill_41 hl (by decide) rfl (fun ls hl => ?_)
      refine lv_iload hx hb dX5_hill_43 (lv_at hl 0 rfl) ?_
      refine lv_if_eq (tgt := 55) hx hb dX5_hill_45 (by decide) (fun c_45_4 => ?_) (fun c_45_4 => ?_)
      · obtain ⟨z0, hz0, ez0⟩ := hlen k (by omega)
        obtain ⟨i0, n0, rfl, rfl, hi1, hi2, hi3⟩ := foc_ex hz0 (by rw [← ez0]; exact c_45_4)
        refine lv_aload hx hb dX5_hill_55 (lv_at hl 1 rfl) ?_
        refine lv_iload_n hx hb dX5_hill_57 rfl (lv_at hl 5 rfl) ?_
        refine lv_iload hx hb dX5_hill_58 (lv_at hl 6 rfl) ?_
        refine fin_i (run_S (rest := []) hC hW (m_X4_firstFault l D cs ad (va_up t.1 1 0, t.2) k (by omega) i0 n0 (by omega)) k_yX4_firstFault ⟨rfl, rfl⟩ q_ml_RX5_67 rfl hl.1 rfl (Nat.le_of_ble_eq_true rfl) ⟨Nat.le_of_ble_eq_true rfl, Nat.le_of_ble_eq_true rfl⟩ dX5_hill_60 ⟨Nat.zero_le _, Nat.zero_le _⟩) hW (fun r5 u5 H locs hp5 hW => ?_)
        have hW := hx_congr hW hp5.2
        refine r_top hp5.1 ?_
        refine lv_istore (lv' := [(7, .int (ff ((va_up t.1 1 0, t.2).2 (15 + 2 * k)) i0 n0 n0 0 0)), (6, .int (focF (t.1 (5 + 2 * k)) (t.1 (6 + 2 * k)) a (nI i0) (nI n0))), (5, .ref (ad (14 + 2 * k))), (0, .ref (ad 0)), (1, .int (nI k)), (2, .int a), (3, .int (nI i0)), (4, .int (nI n0))]) hx hb dX5_hill_63 hl (by decide) rfl (fun ls hl => ?_)
        refine lv_iload hx hb dX5_hill_65 (lv_at hl 0 rfl) ?_
        refine lv_bipush (v := (-9)) hx hb dX5_hill_67 (by decide) ?_
        refine lv_icmp_eq (tgt := 78) hx hb dX5_hill_69 (by decide) (fun c_69_6 => ?_) (fun c_69_6 => ?_)
        · obtain ⟨P0, R0, hP0e, hP1, hP2, hn1, hR1, hR2, htP, htR, hgo⟩ := ff_ok (by omega) c_69_6
          refine lv_aload_n hx hb dX5_hill_78 rfl (lv_at hl 3 rfl) ?_
          refine gX_G_slope hC hW q_fl_RX5_12 dX5_hill_79 ?_
          refine lv_aload hx hb dX5_hill_82 (lv_at hl 2 rfl) ?_
          refine lv_iload_n hx hb dX5_hill_84 rfl (lv_at hl 6 rfl) ?_
          refine lv_iload hx hb dX5_hill_85 (lv_at hl 7 rfl) ?_
          refine fin_v (run_S (rest := []) hC hW (m_X4_build l D cs ad (va_up t.1 1 0, t.2) k (by omega) i0 n0 P0 R0 hP0e (by omega) (by omega) (by omega) (by omega)) k_yX4_build ⟨rfl, rfl⟩ q_ml_RX5_73 rfl hl.1 rfl (Nat.le_of_ble_eq_true rfl) ⟨Nat.le_of_ble_eq_true rfl, Nat.le_of_ble_eq_true rfl⟩ dX5_hill_87 ⟨Nat.zero_le _, Nat.zero_le _⟩) hW (fun u7 H locs hp7 hW => ?_)
          have hW : HX (wX cs ad) (tyX cs) D A s.heap s (va_up (va_up (va_up t.1 1 0) 2 (nI P0)) 3 (nI R0), bldA t (t.2 (15 + 2 * k)) i0 P0 R0) H locs := hx_congr hW hp7
          refine lv_aload_n hx hb dX5_hill_90 rfl (lv_at hl 3 rfl) ?_
          refine gX_G_readings hC hW q_fl_RX5_21 dX5_hill_91 ?_
          refine lv_iconst (v := 0) hx hb dX5_hill_94 (by decide) ?_
          refine pX_D_count hC hW q_fl_RX5_77 dX5_hill_95 (fun H locs hW => ?_)
          have hW : HX (wX cs ad) (tyX cs) D A s.heap s (va_up (va_up (va_up (va_up t.1 1 0) 2 (nI P0)) 3 (nI R0)) 4 0, bldA t (t.2 (15 + 2 * k)) i0 P0 R0) H locs := hW
          refine lv_aload_n hx hb dX5_hill_98 rfl (lv_at hl 3 rfl) ?_
          refine gX_G_slope hC hW q_fl_RX5_12 dX5_hill_99 ?_
          refine gX_S_riders hC hW q_fl_RX5_80 dX5_hill_102 ?_
          refine r_top (y := nI R0) rfl ?_
          have hF : F_hill t (nI k) a (nI i0) (nI n0) = (nI R0, (va_up (va_up (va_up (va_up t.1 1 0) 2 (nI P0)) 3 (nI R0)) 4 0, bldA t (t.2 (15 + 2 * k)) i0 P0 R0)) := by unfold F_hill; rw [if_pos c_9_1, if_pos c_18_2, nI_clamp (show k < 2 ^ 31 by omega), if_pos (show focT _ _ _ _ _ = 0 from c_45_4), nI_clamp (show i0 < 2 ^ 31 by omega), nI_clamp (show n0 < 2 ^ 31 by omega), if_pos c_69_6, htP, htR] <;> (try rw [nI_clamp (show k < 2 ^ 31 by omega)]) <;> (try rw [nI_clamp (show i0 < 2 ^ 31 by omega)]) <;> (try rw [nI_clamp (show n0 < 2 ^ 31 by omega)]) <;> (try rfl)
          exact r_ireti hC hr hlk hW hQ (⟨by rw [hF], by rw [hF]; exact LA.rf _⟩) dX5_hill_105
        · refine lv_bipush (v := (-100)) hx hb dX5_hill_72 (by decide) ?_
          refine lv_iload hx hb dX5_hill_74 (lv_at hl 0 rfl) ?_
          refine lv_isub hx hb dX5_hill_76 ?_
          have hF : F_hill t (nI k) a (nI i0) (nI n0) = ((-100) - (ff ((va_up t.1 1 0, t.2).2 (15 + 2 * k)) i0 n0 n0 0 0), (va_up t.1 1 0, t.2)) := by unfold F_hill; rw [if_pos c_9_1, if_pos c_18_2, nI_clamp (show k < 2 ^ 31 by omega), if_pos (show focT _ _ _ _ _ = 0 from c_45_4), nI_clamp (show i0 < 2 ^ 31 by omega), nI_clamp (show n0 < 2 ^ 31 by omega), if_neg c_69_6] <;> (try rw [nI_clamp (show k < 2 ^ 31 by omega)]) <;> (try rw [nI_clamp (show i0 < 2 ^ 31 by omega)]) <;> (try rw [nI_clamp (show n0 < 2 ^ 31 by omega)]) <;> (try rfl)
          exact r_ireti hC hr hlk hW hQ (⟨by rw [hF], by rw [hF]; exact LA.rf _⟩) dX5_hill_77
      · refine lv_aload_n hx hb dX5_hill_48 rfl (lv_at hl 2 rfl) ?_
        refine lv_iload hx hb dX5_hill_49 (lv_at hl 0 rfl) ?_
        refine fin_i (run_V (rest := []) hC hW (m_X5_meet l D cs ad (va_up t.1 1 0, t.2) (focF (t.1 (5 + 2 * k)) (t.1 (6 + 2 * k)) a i n)) k_yX5_meet ⟨rfl, rfl⟩ q_ml_RX5_63 eX_0 rfl rfl hl.1 rfl (Nat.le_of_ble_eq_true rfl) ⟨Nat.le_of_ble_eq_true rfl, Nat.le_of_ble_eq_true rfl⟩ dX5_hill_51 ⟨Nat.zero_le _, Nat.zero_le _⟩) hW (fun r8 u8 H locs hp8 hW => ?_)
        have hW : HX (wX cs ad) (tyX cs) D A s.heap s (va_up t.1 1 (focF (t.1 (5 + 2 * k)) (t.1 (6 + 2 * k)) a i n), t.2) H locs := hx_congr hW (hp8.2.trans (by first | rfl | (simp only [va_upup]; done) | (refine Prod.ext (funext fun k => ?_) (funext fun k => ?_) <;> simp only [va_up] <;> (repeat' split) <;> first | rfl | omega | simp_all)))
        refine r_top hp8.1 ?_
        have hF : F_hill t (nI k) a i n = ((-10) - (focF (t.1 (5 + 2 * k)) (t.1 (6 + 2 * k)) a i n), (va_up t.1 1 (focF (t.1 (5 + 2 * k)) (t.1 (6 + 2 * k)) a i n), t.2)) := by unfold F_hill; rw [if_pos c_9_1, if_pos c_18_2, nI_clamp (show k < 2 ^ 31 by omega), if_neg (show ¬ focT _ _ _ _ _ = 0 from c_45_4)] <;> (try rw [nI_clamp (show k < 2 ^ 31 by omega)]) <;> (try rfl)
        exact r_ireti hC hr hlk hW hQ (⟨by rw [hF], by rw [hF]; exact LA.rf _⟩) dX5_hill_54
    · have c_18_2 := bI_z.mp c_18_2
      refine lv_bipush (v := (-2)) hx hb dX5_hill_21 (by decide) ?_
      have hF : F_hill t (nI k) a i n = ((-2), (va_up t.1 1 0, t.2)) := by unfold F_hill; rw [if_pos c_9_1, if_neg c_18_2] <;> (try rw [nI_clamp (show k < 2 ^ 31 by omega)]) <;> (try rfl)
      exact r_ireti hC hr hlk hW hQ (⟨by rw [hF], by rw [hF]; exact LA.rf _⟩) dX5_hill_23
  · have c_9_1 := bI_z.mp c_9_1
    refine lv_iconst (v := (-1)) hx hb dX5_hill_12 (by decide) ?_
    have hF : F_hill t x a i n = ((-1), (va_up t.1 1 0, t.2)) := by unfold F_hill; rw [if_neg c_9_1]  <;> (try rfl)
    exact r_ireti hC hr hlk hW hQ (⟨by rw [hF], by rw [hF]; exact LA.rf _⟩) dX5_hill_13
set_option maxRecDepth 100000 in
set_option maxHeartbeats 4000000 in
theorem m_J6_numberOfTrailingZeros_0f7a4 (l : Launch) (x : Int32) : PT l yJ6_numberOfTrailingZeros_0f7a4 cJ6_numberOfTrailingZeros_0f7a4 2 (some .int) (rmk 0 0) [.int x] (vp_Si (fun r => r = ntF x)) := by
  refine PT.of (own := RJ6) (by decide) rfl (Nat.le_of_ble_eq_true rfl) ?_
  intro p9 e9 s m9 args below meth c9 Q hC hr hlk hN hQ ls hl
  obtain ⟨hx, hb, hml, hown, hts⟩ := id hC
  have hl : lv_has ls 2 [(0, .int x)] := hl
  refine lv_iload_n hx hb dJ6_numberOfTrailingZeros_0f7a4_0 rfl (lv_at hl 0 rfl) ?_
  refine lv_iconst (v := (-1)) hx hb dJ6_numberOfTrailingZeros_0f7a4_1 (by decide) ?_
  refine lv_ixor hx hb dJ6_numberOfTrailingZeros_0f7a4_2 ?_
  refine lv_iload_n hx hb dJ6_numberOfTrailingZeros_0f7a4_3 rfl (lv_at hl 0 rfl) ?_
  refine lv_iconst (v := 1) hx hb dJ6_numberOfTrailingZeros_0f7a4_4 (by decide) ?_
  refine lv_isub hx hb dJ6_numberOfTrailingZeros_0f7a4_5 ?_
  refine lv_iand hx hb dJ6_numberOfTrailingZeros_0f7a4_6 ?_
  refine lv_istore_n (lv' := [(0, .int ((x ^^^ (-1)) &&& (x - 1)))]) hx hb dJ6_numberOfTrailingZeros_0f7a4_7 rfl hl (by decide) rfl (fun ls hl => ?_)
  refine lv_iload_n hx hb dJ6_numberOfTrailingZeros_0f7a4_8 rfl (lv_at hl 0 rfl) ?_
  refine lv_if_gt (tgt := 17) hx hb dJ6_numberOfTrailingZeros_0f7a4_9 (by decide) (fun c_9_1 => ?_) (fun c_9_1 => ?_)
  · refine lv_iconst (v := 1) hx hb dJ6_numberOfTrailingZeros_0f7a4_17 (by decide) ?_
    refine lv_istore_n (lv' := [(1, .int 1), (0, .int ((x ^^^ (-1)) &&& (x - 1)))]) hx hb dJ6_numberOfTrailingZeros_0f7a4_18 rfl hl (by decide) rfl (fun ls hl => ?_)
    refine lv_iload_n hx hb dJ6_numberOfTrailingZeros_0f7a4_19 rfl (lv_at hl 1 rfl) ?_
    refine lv_ldcw hx hb hown (hts _ q_k_RJ6_264) dJ6_numberOfTrailingZeros_0f7a4_20 ?_
    refine lv_icmp_le (tgt := 34) hx hb dJ6_numberOfTrailingZeros_0f7a4_23 (by decide) (fun c_23_2 => ?_) (fun c_23_2 => ?_)
    · refine lv_iload_n hx hb dJ6_numberOfTrailingZeros_0f7a4_34 rfl (lv_at hl 1 rfl) ?_
      refine lv_sipush (v := 256) hx hb dJ6_numberOfTrailingZeros_0f7a4_35 (by decide) ?_
      refine lv_icmp_le (tgt := 49) hx hb dJ6_numberOfTrailingZeros_0f7a4_38 (by decide) (fun c_38_3 => ?_) (fun c_38_3 => ?_)
      · refine lv_iload_n hx hb dJ6_numberOfTrailingZeros_0f7a4_49 rfl (lv_at hl 1 rfl) ?_
        refine lv_bipush (v := 16) hx hb dJ6_numberOfTrailingZeros_0f7a4_50 (by decide) ?_
        refine lv_icmp_le (tgt := 62) hx hb dJ6_numberOfTrailingZeros_0f7a4_52 (by decide) (fun c_52_4 => ?_) (fun c_52_4 => ?_)
        · refine lv_iload_n hx hb dJ6_numberOfTrailingZeros_0f7a4_62 rfl (lv_at hl 1 rfl) ?_
          refine lv_iconst (v := 4) hx hb dJ6_numberOfTrailingZeros_0f7a4_63 (by decide) ?_
          refine lv_icmp_le (tgt := 74) hx hb dJ6_numberOfTrailingZeros_0f7a4_64 (by decide) (fun c_64_5 => ?_) (fun c_64_5 => ?_)
          · refine lv_iload_n hx hb dJ6_numberOfTrailingZeros_0f7a4_74 rfl (lv_at hl 0 rfl) ?_
            refine lv_iload_n hx hb dJ6_numberOfTrailingZeros_0f7a4_75 rfl (lv_at hl 1 rfl) ?_
            refine lv_iconst (v := 1) hx hb dJ6_numberOfTrailingZeros_0f7a4_76 (by decide) ?_
            refine lv_iushr (v := us ((x ^^^ (-1)) &&& (x - 1)) 1) hx hb dJ6_numberOfTrailingZeros_0f7a4_77 rfl ?_
            refine lv_iadd hx hb dJ6_numberOfTrailingZeros_0f7a4_78 ?_
            exact r_pi hC hr hlk hQ (by unfold ntF; simp only []; rw [if_pos (show 0 < ((x ^^^ (-1)) &&& (x - 1)) from c_9_1), ntA_t c_23_2, ntB_t c_38_3, ntC_t c_52_4, ntD_t c_64_5]) dJ6_numberOfTrailingZeros_0f7a4_79
          · refine lv_iinc (v := 1 + 2) (lv' := [(1, .int (1 + 2)), (0, .int ((x ^^^ (-1)) &&& (x - 1)))]) hx hb dJ6_numberOfTrailingZeros_0f7a4_67 hl (k := 0) rfl (rfl) (by decide) rfl (fun ls hl => ?_)
            refine lv_iload_n hx hb dJ6_numberOfTrailingZeros_0f7a4_70 rfl (lv_at hl 1 rfl) ?_
            refine lv_iconst (v := 2) hx hb dJ6_numberOfTrailingZeros_0f7a4_71 (by decide) ?_
            refine lv_iushr (v := us ((x ^^^ (-1)) &&& (x - 1)) 2) hx hb dJ6_numberOfTrailingZeros_0f7a4_72 rfl ?_
            refine lv_istore_n (lv' := [(0, .int (us ((x ^^^ (-1)) &&& (x - 1)) 2)), (1, .int (1 + 2))]) hx hb dJ6_numberOfTrailingZeros_0f7a4_73 rfl hl (by decide) rfl (fun ls hl => ?_)
            refine lv_iload_n hx hb dJ6_numberOfTrailingZeros_0f7a4_74 rfl (lv_at hl 1 rfl) ?_
            refine lv_iload_n hx hb dJ6_numberOfTrailingZeros_0f7a4_75 rfl (lv_at hl 0 rfl) ?_
            refine lv_iconst (v := 1) hx hb dJ6_numberOfTrailingZeros_0f7a4_76 (by decide) ?_
            refine lv_iushr (v := us (us ((x ^^^ (-1)) &&& (x - 1)) 2) 1) hx hb dJ6_numberOfTrailingZeros_0f7a4_77 rfl ?_
            refine lv_iadd hx hb dJ6_numberOfTrailingZeros_0f7a4_78 ?_
            exact r_pi hC hr hlk hQ (by unfold ntF; simp only []; rw [if_pos (show 0 < ((x ^^^ (-1)) &&& (x - 1)) from c_9_1), ntA_t c_23_2, ntB_t c_38_3, ntC_t c_52_4, ntD_f c_64_5]) dJ6_numberOfTrailingZeros_0f7a4_79
        · refine lv_iinc (v := 1 + 4) (lv' := [(1, .int (1 + 4)), (0, .int ((x ^^^ (-1)) &&& (x - 1)))]) hx hb dJ6_numberOfTrailingZeros_0f7a4_55 hl (k := 0) rfl (rfl) (by decide) rfl (fun ls hl => ?_)
          refine lv_iload_n hx hb dJ6_numberOfTrailingZeros_0f7a4_58 rfl (lv_at hl 1 rfl) ?_
          refine lv_iconst (v := 4) hx hb dJ6_numberOfTrailingZeros_0f7a4_59 (by decide) ?_
          refine lv_iushr (v := us ((x ^^^ (-1)) &&& (x - 1)) 4) hx hb dJ6_numberOfTrailingZeros_0f7a4_60 rfl ?_
          refine lv_istore_n (lv' := [(0, .int (us ((x ^^^ (-1)) &&& (x - 1)) 4)), (1, .int (1 + 4))]) hx hb dJ6_numberOfTrailingZeros_0f7a4_61 rfl hl (by decide) rfl (fun ls hl => ?_)
          refine lv_iload_n hx hb dJ6_numberOfTrailingZeros_0f7a4_62 rfl (lv_at hl 0 rfl) ?_
          refine lv_iconst (v := 4) hx hb dJ6_numberOfTrailingZeros_0f7a4_63 (by decide) ?_
          refine lv_icmp_le (tgt := 74) hx hb dJ6_numberOfTrailingZeros_0f7a4_64 (by decide) (fun c_64_6 => ?_) (fun c_64_6 => ?_)
          · refine lv_iload_n hx hb dJ6_numberOfTrailingZeros_0f7a4_74 rfl (lv_at hl 1 rfl) ?_
            refine lv_iload_n hx hb dJ6_numberOfTrailingZeros_0f7a4_75 rfl (lv_at hl 0 rfl) ?_
            refine lv_iconst (v := 1) hx hb dJ6_numberOfTrailingZeros_0f7a4_76 (by decide) ?_
            refine lv_iushr (v := us (us ((x ^^^ (-1)) &&& (x - 1)) 4) 1) hx hb dJ6_numberOfTrailingZeros_0f7a4_77 rfl ?_
            refine lv_iadd hx hb dJ6_numberOfTrailingZeros_0f7a4_78 ?_
            exact r_pi hC hr hlk hQ (by unfold ntF; simp only []; rw [if_pos (show 0 < ((x ^^^ (-1)) &&& (x - 1)) from c_9_1), ntA_t c_23_2, ntB_t c_38_3, ntC_f c_52_4, ntD_t c_64_6]) dJ6_numberOfTrailingZeros_0f7a4_79
          · refine lv_iinc (v := 1 + 4 + 2) (lv' := [(1, .int (1 + 4 + 2)), (0, .int (us ((x ^^^ (-1)) &&& (x - 1)) 4))]) hx hb dJ6_numberOfTrailingZeros_0f7a4_67 hl (k := 1) rfl (rfl) (by decide) rfl (fun ls hl => ?_)
            refine lv_iload_n hx hb dJ6_numberOfTrailingZeros_0f7a4_70 rfl (lv_at hl 1 rfl) ?_
            refine lv_iconst (v := 2) hx hb dJ6_numberOfTrailingZeros_0f7a4_71 (by decide) ?_
            refine lv_iushr (v := us (us ((x ^^^ (-1)) &&& (x - 1)) 4) 2) hx hb dJ6_numberOfTrailingZeros_0f7a4_72 rfl ?_
            refine lv_istore_n (lv' := [(0, .int (us (us ((x ^^^ (-1)) &&& (x - 1)) 4) 2)), (1, .int (1 + 4 + 2))]) hx hb dJ6_numberOfTrailingZeros_0f7a4_73 rfl hl (by decide) rfl (fun ls hl => ?_)
            refine lv_iload_n hx hb dJ6_numberOfTrailingZeros_0f7a4_74 rfl (lv_at hl 1 rfl) ?_
            refine lv_iload_n hx hb dJ6_numberOfTrailingZeros_0f7a4_75 rfl (lv_at hl 0 rfl) ?_
            refine lv_iconst (v := 1) hx hb dJ6_numberOfTrailingZeros_0f7a4_76 (by decide) ?_
            refine lv_iushr (v := us (us (us ((x ^^^ (-1)) &&& (x - 1)) 4) 2) 1) hx hb dJ6_numberOfTrailingZeros_0f7a4_77 rfl ?_
            refine lv_iadd hx hb dJ6_numberOfTrailingZeros_0f7a4_78 ?_
            exact r_pi hC hr hlk hQ (by unfold ntF; simp only []; rw [if_pos (show 0 < ((x ^^^ (-1)) &&& (x - 1)) from c_9_1), ntA_t c_23_2, ntB_t c_38_3, ntC_f c_52_4, ntD_f c_64_6]) dJ6_numberOfTrailingZeros_0f7a4_79
      · refine lv_iinc (v := 1 + 8) (lv' := [(1, .int (1 + 8)), (0, .int ((x ^^^ (-1)) &&& (x - 1)))]) hx hb dJ6_numberOfTrailingZeros_0f7a4_41 hl (k := 0) rfl (rfl) (by decide) rfl (fun ls hl => ?_)
        refine lv_iload_n hx hb dJ6_numberOfTrailingZeros_0f7a4_44 rfl (lv_at hl 1 rfl) ?_
        refine lv_bipush (v := 8) hx hb dJ6_numberOfTrailingZeros_0f7a4_45 (by decide) ?_
        refine lv_iushr (v := us ((x ^^^ (-1)) &&& (x - 1)) 8) hx hb dJ6_numberOfTrailingZeros_0f7a4_47 rfl ?_
        refine lv_istore_n (lv' := [(0, .int (us ((x ^^^ (-1)) &&& (x - 1)) 8)), (1, .int (1 + 8))]) hx hb dJ6_numberOfTrailingZeros_0f7a4_48 rfl hl (by decide) rfl (fun ls hl => ?_)
        refine lv_iload_n hx hb dJ6_numberOfTrailingZeros_0f7a4_49 rfl (lv_at hl 0 rfl) ?_
        refine lv_bipush (v := 16) hx hb dJ6_numberOfTrailingZeros_0f7a4_50 (by decide) ?_
        refine lv_icmp_le (tgt := 62) hx hb dJ6_numberOfTrailingZeros_0f7a4_52 (by decide) (fun c_52_7 => ?_) (fun c_52_7 => ?_)
        · refine lv_iload_n hx hb dJ6_numberOfTrailingZeros_0f7a4_62 rfl (lv_at hl 0 rfl) ?_
          refine lv_iconst (v := 4) hx hb dJ6_numberOfTrailingZeros_0f7a4_63 (by decide) ?_
          refine lv_icmp_le (tgt := 74) hx hb dJ6_numberOfTrailingZeros_0f7a4_64 (by decide) (fun c_64_8 => ?_) (fun c_64_8 => ?_)
          · refine lv_iload_n hx hb dJ6_numberOfTrailingZeros_0f7a4_74 rfl (lv_at hl 1 rfl) ?_
            refine lv_iload_n hx hb dJ6_numberOfTrailingZeros_0f7a4_75 rfl (lv_at hl 0 rfl) ?_
            refine lv_iconst (v := 1) hx hb dJ6_numberOfTrailingZeros_0f7a4_76 (by decide) ?_
            refine lv_iushr (v := us (us ((x ^^^ (-1)) &&& (x - 1)) 8) 1) hx hb dJ6_numberOfTrailingZeros_0f7a4_77 rfl ?_
            refine lv_iadd hx hb dJ6_numberOfTrailingZeros_0f7a4_78 ?_
            exact r_pi hC hr hlk hQ (by unfold ntF; simp only []; rw [if_pos (show 0 < ((x ^^^ (-1)) &&& (x - 1)) from c_9_1), ntA_t c_23_2, ntB_f c_38_3, ntC_t c_52_7, ntD_t c_64_8]) dJ6_numberOfTrailingZeros_0f7a4_79
          · refine lv_iinc (v := 1 + 8 + 2) (lv' := [(1, .int (1 + 8 + 2)), (0, .int (us ((x ^^^ (-1)) &&& (x - 1)) 8))]) hx hb dJ6_numberOfTrailingZeros_0f7a4_67 hl (k := 1) rfl (rfl) (by decide) rfl (fun ls hl => ?_)
            refine lv_iload_n hx hb dJ6_numberOfTrailingZeros_0f7a4_70 rfl (lv_at hl 1 rfl) ?_
            refine lv_iconst (v := 2) hx hb dJ6_numberOfTrailingZeros_0f7a4_71 (by decide) ?_
            refine lv_iushr (v := us (us ((x ^^^ (-1)) &&& (x - 1)) 8) 2) hx hb dJ6_numberOfTrailingZeros_0f7a4_72 rfl ?_
            refine lv_istore_n (lv' := [(0, .int (us (us ((x ^^^ (-1)) &&& (x - 1)) 8) 2)), (1, .int (1 + 8 + 2))]) hx hb dJ6_numberOfTrailingZeros_0f7a4_73 rfl hl (by decide) rfl (fun ls hl => ?_)
            refine lv_iload_n hx hb dJ6_numberOfTrailingZeros_0f7a4_74 rfl (lv_at hl 1 rfl) ?_
            refine lv_iload_n hx hb dJ6_numberOfTrailingZeros_0f7a4_75 rfl (lv_at hl 0 rfl) ?_
            refine lv_iconst (v := 1) hx hb dJ6_numberOfTrailingZeros_0f7a4_76 (by decide) ?_
            refine lv_iushr (v := us (us (us ((x ^^^ (-1)) &&& (x - 1)) 8) 2) 1) hx hb dJ6_numberOfTrailingZeros_0f7a4_77 rfl ?_
            refine lv_iadd hx hb dJ6_numberOfTrailingZeros_0f7a4_78 ?_
            exact r_pi hC hr hlk hQ (by unfold ntF; simp only []; rw [if_pos (show 0 < ((x ^^^ (-1)) &&& (x - 1)) from c_9_1), ntA_t c_23_2, ntB_f c_38_3, ntC_t c_52_7, ntD_f c_64_8]) dJ6_numberOfTrailingZeros_0f7a4_79
        · refine lv_iinc (v := 1 + 8 + 4) (lv' := [(1, .int (1 + 8 + 4)), (0, .int (us ((x ^^^ (-1)) &&& (x - 1)) 8))]) hx hb dJ6_numberOfTrailingZeros_0f7a4_55 hl (k := 1) rfl (rfl) (by decide) rfl (fun ls hl => ?_)
          refine lv_iload_n hx hb dJ6_numberOfTrailingZeros_0f7a4_58 rfl (lv_at hl 1 rfl) ?_
          refine lv_iconst (v := 4) hx hb dJ6_numberOfTrailingZeros_0f7a4_59 (by decide) ?_
          refine lv_iushr (v := us (us ((x ^^^ (-1)) &&& (x - 1)) 8) 4) hx hb dJ6_numberOfTrailingZeros_0f7a4_60 rfl ?_
          refine lv_istore_n (lv' := [(0, .int (us (us ((x ^^^ (-1)) &&& (x - 1)) 8) 4)), (1, .int (1 + 8 + 4))]) hx hb dJ6_numberOfTrailingZeros_0f7a4_61 rfl hl (by decide) rfl (fun ls hl => ?_)
          refine lv_iload_n hx hb dJ6_numberOfTrailingZeros_0f7a4_62 rfl (lv_at hl 0 rfl) ?_
          refine lv_iconst (v := 4) hx hb dJ6_numberOfTrailingZeros_0f7a4_63 (by decide) ?_
          refine lv_icmp_le (tgt := 74) hx hb dJ6_numberOfTrailingZeros_0f7a4_64 (by decide) (fun c_64_9 => ?_) (fun c_64_9 => ?_)
          · refine lv_iload_n hx hb dJ6_numberOfTrailingZeros_0f7a4_74 rfl (lv_at hl 1 rfl) ?_
            refine lv_iload_n hx hb dJ6_numberOfTrailingZeros_0f7a4_75 rfl (lv_at hl 0 rfl) ?_
            refine lv_iconst (v := 1) hx hb dJ6_numberOfTrailingZeros_0f7a4_76 (by decide) ?_
            refine lv_iushr (v := us (us (us ((x ^^^ (-1)) &&& (x - 1)) 8) 4) 1) hx hb dJ6_numberOfTrailingZeros_0f7a4_77 rfl ?_
            refine lv_iadd hx hb dJ6_numberOfTrailingZeros_0f7a4_78 ?_
            exact r_pi hC hr hlk hQ (by unfold ntF; simp only []; rw [if_pos (show 0 < ((x ^^^ (-1)) &&& (x - 1)) from c_9_1), ntA_t c_23_2, ntB_f c_38_3, ntC_f c_52_7, ntD_t c_64_9]) dJ6_numberOfTrailingZeros_0f7a4_79
          · refine lv_iinc (v := 1 + 8 + 4 + 2) (lv' := [(1, .int (1 + 8 + 4 + 2)), (0, .int (us (us ((x ^^^ (-1)) &&& (x - 1)) 8) 4))]) hx hb dJ6_numberOfTrailingZeros_0f7a4_67 hl (k := 1) rfl (rfl) (by decide) rfl (fun ls hl => ?_)
            refine lv_iload_n hx hb dJ6_numberOfTrailingZeros_0f7a4_70 rfl (lv_at hl 1 rfl) ?_
            refine lv_iconst (v := 2) hx hb dJ6_numberOfTrailingZeros_0f7a4_71 (by decide) ?_
            refine lv_iushr (v := us (us (us ((x ^^^ (-1)) &&& (x - 1)) 8) 4) 2) hx hb dJ6_numberOfTrailingZeros_0f7a4_72 rfl ?_
            refine lv_istore_n (lv' := [(0, .int (us (us (us ((x ^^^ (-1)) &&& (x - 1)) 8) 4) 2)), (1, .int (1 + 8 + 4 + 2))]) hx hb dJ6_numberOfTrailingZeros_0f7a4_73 rfl hl (by decide) rfl (fun ls hl => ?_)
            refine lv_iload_n hx hb dJ6_numberOfTrailingZeros_0f7a4_74 rfl (lv_at hl 1 rfl) ?_
            refine lv_iload_n hx hb dJ6_numberOfTrailingZeros_0f7a4_75 rfl (lv_at hl 0 rfl) ?_
            refine lv_iconst (v := 1) hx hb dJ6_numberOfTrailingZeros_0f7a4_76 (by decide) ?_
            refine lv_iushr (v := us (us (us (us ((x ^^^ (-1)) &&& (x - 1)) 8) 4) 2) 1) hx hb dJ6_numberOfTrailingZeros_0f7a4_77 rfl ?_
            refine lv_iadd hx hb dJ6_numberOfTrailingZeros_0f7a4_78 ?_
            exact r_pi hC hr hlk hQ (by unfold ntF; simp only []; rw [if_pos (show 0 < ((x ^^^ (-1)) &&& (x - 1)) from c_9_1), ntA_t c_23_2, ntB_f c_38_3, ntC_f c_52_7, ntD_f c_64_9]) dJ6_numberOfTrailingZeros_0f7a4_79
    · refine lv_iinc (v := 1 + 16) (lv' := [(1, .int (1 + 16)), (0, .int ((x ^^^ (-1)) &&& (x - 1)))]) hx hb dJ6_numberOfTrailingZeros_0f7a4_26 hl (k := 0) rfl (rfl) (by decide) rfl (fun ls hl => ?_)
      refine lv_iload_n hx hb dJ6_numberOfTrailingZeros_0f7a4_29 rfl (lv_at hl 1 rfl) ?_
      refine lv_bipush (v := 16) hx hb dJ6_numberOfTrailingZeros_0f7a4_30 (by decide) ?_
      refine lv_iushr (v := us ((x ^^^ (-1)) &&& (x - 1)) 16) hx hb dJ6_numberOfTrailingZeros_0f7a4_32 rfl ?_
      refine lv_istore_n (lv' := [(0, .int (us ((x ^^^ (-1)) &&& (x - 1)) 16)), (1, .int (1 + 16))]) hx hb dJ6_numberOfTrailingZeros_0f7a4_33 rfl hl (by decide) rfl (fun ls hl => ?_)
      refine lv_iload_n hx hb dJ6_numberOfTrailingZeros_0f7a4_34 rfl (lv_at hl 0 rfl) ?_
      refine lv_sipush (v := 256) hx hb dJ6_numberOfTrailingZeros_0f7a4_35 (by decide) ?_
      refine lv_icmp_le (tgt := 49) hx hb dJ6_numberOfTrailingZeros_0f7a4_38 (by decide) (fun c_38_10 => ?_) (fun c_38_10 => ?_)
      · refine lv_iload_n hx hb dJ6_numberOfTrailingZeros_0f7a4_49 rfl (lv_at hl 0 rfl) ?_
        refine lv_bipush (v := 16) hx hb dJ6_numberOfTrailingZeros_0f7a4_50 (by decide) ?_
        refine lv_icmp_le (tgt := 62) hx hb dJ6_numberOfTrailingZeros_0f7a4_52 (by decide) (fun c_52_11 => ?_) (fun c_52_11 => ?_)
        · refine lv_iload_n hx hb dJ6_numberOfTrailingZeros_0f7a4_62 rfl (lv_at hl 0 rfl) ?_
          refine lv_iconst (v := 4) hx hb dJ6_numberOfTrailingZeros_0f7a4_63 (by decide) ?_
          refine lv_icmp_le (tgt := 74) hx hb dJ6_numberOfTrailingZeros_0f7a4_64 (by decide) (fun c_64_12 => ?_) (fun c_64_12 => ?_)
          · refine lv_iload_n hx hb dJ6_numberOfTrailingZeros_0f7a4_74 rfl (lv_at hl 1 rfl) ?_
            refine lv_iload_n hx hb dJ6_numberOfTrailingZeros_0f7a4_75 rfl (lv_at hl 0 rfl) ?_
            refine lv_iconst (v := 1) hx hb dJ6_numberOfTrailingZeros_0f7a4_76 (by decide) ?_
            refine lv_iushr (v := us (us ((x ^^^ (-1)) &&& (x - 1)) 16) 1) hx hb dJ6_numberOfTrailingZeros_0f7a4_77 rfl ?_
            refine lv_iadd hx hb dJ6_numberOfTrailingZeros_0f7a4_78 ?_
            exact r_pi hC hr hlk hQ (by unfold ntF; simp only []; rw [if_pos (show 0 < ((x ^^^ (-1)) &&& (x - 1)) from c_9_1), ntA_f c_23_2, ntB_t c_38_10, ntC_t c_52_11, ntD_t c_64_12]) dJ6_numberOfTrailingZeros_0f7a4_79
          · refine lv_iinc (v := 1 + 16 + 2) (lv' := [(1, .int (1 + 16 + 2)), (0, .int (us ((x ^^^ (-1)) &&& (x - 1)) 16))]) hx hb dJ6_numberOfTrailingZeros_0f7a4_67 hl (k := 1) rfl (rfl) (by decide) rfl (fun ls hl => ?_)
            refine lv_iload_n hx hb dJ6_numberOfTrailingZeros_0f7a4_70 rfl (lv_at hl 1 rfl) ?_
            refine lv_iconst (v := 2) hx hb dJ6_numberOfTrailingZeros_0f7a4_71 (by decide) ?_
            refine lv_iushr (v := us (us ((x ^^^ (-1)) &&& (x - 1)) 16) 2) hx hb dJ6_numberOfTrailingZeros_0f7a4_72 rfl ?_
            refine lv_istore_n (lv' := [(0, .int (us (us ((x ^^^ (-1)) &&& (x - 1)) 16) 2)), (1, .int (1 + 16 + 2))]) hx hb dJ6_numberOfTrailingZeros_0f7a4_73 rfl hl (by decide) rfl (fun ls hl => ?_)
            refine lv_iload_n hx hb dJ6_numberOfTrailingZeros_0f7a4_74 rfl (lv_at hl 1 rfl) ?_
            refine lv_iload_n hx hb dJ6_numberOfTrailingZeros_0f7a4_75 rfl (lv_at hl 0 rfl) ?_
            refine lv_iconst (v := 1) hx hb dJ6_numberOfTrailingZeros_0f7a4_76 (by decide) ?_
            refine lv_iushr (v := us (us (us ((x ^^^ (-1)) &&& (x - 1)) 16) 2) 1) hx hb dJ6_numberOfTrailingZeros_0f7a4_77 rfl ?_
            refine lv_iadd hx hb dJ6_numberOfTrailingZeros_0f7a4_78 ?_
            exact r_pi hC hr hlk hQ (by unfold ntF; simp only []; rw [if_pos (show 0 < ((x ^^^ (-1)) &&& (x - 1)) from c_9_1), ntA_f c_23_2, ntB_t c_38_10, ntC_t c_52_11, ntD_f c_64_12]) dJ6_numberOfTrailingZeros_0f7a4_79
        · refine lv_iinc (v := 1 + 16 + 4) (lv' := [(1, .int (1 + 16 + 4)), (0, .int (us ((x ^^^ (-1)) &&& (x - 1)) 16))]) hx hb dJ6_numberOfTrailingZeros_0f7a4_55 hl (k := 1) rfl (rfl) (by decide) rfl (fun ls hl => ?_)
          refine lv_iload_n hx hb dJ6_numberOfTrailingZeros_0f7a4_58 rfl (lv_at hl 1 rfl) ?_
          refine lv_iconst (v := 4) hx hb dJ6_numberOfTrailingZeros_0f7a4_59 (by decide) ?_
          refine lv_iushr (v := us (us ((x ^^^ (-1)) &&& (x - 1)) 16) 4) hx hb dJ6_numberOfTrailingZeros_0f7a4_60 rfl ?_
          refine lv_istore_n (lv' := [(0, .int (us (us ((x ^^^ (-1)) &&& (x - 1)) 16) 4)), (1, .int (1 + 16 + 4))]) hx hb dJ6_numberOfTrailingZeros_0f7a4_61 rfl hl (by decide) rfl (fun ls hl => ?_)
          refine lv_iload_n hx hb dJ6_numberOfTrailingZeros_0f7a4_62 rfl (lv_at hl 0 rfl) ?_
          refine lv_iconst (v := 4) hx hb dJ6_numberOfTrailingZeros_0f7a4_63 (by decide) ?_
          refine lv_icmp_le (tgt := 74) hx hb dJ6_numberOfTrailingZeros_0f7a4_64 (by decide) (fun c_64_13 => ?_) (fun c_64_13 => ?_)
          · refine lv_iload_n hx hb dJ6_numberOfTrailingZeros_0f7a4_74 rfl (lv_at hl 1 rfl) ?_
            refine lv_iload_n hx hb dJ6_numberOfTrailingZeros_0f7a4_75 rfl (lv_at hl 0 rfl) ?_
            refine lv_iconst (v := 1) hx hb dJ6_numberOfTrailingZeros_0f7a4_76 (by decide) ?_
            refine lv_iushr (v := us (us (us ((x ^^^ (-1)) &&& (x - 1)) 16) 4) 1) hx hb dJ6_numberOfTrailingZeros_0f7a4_77 rfl ?_
            refine lv_iadd hx hb dJ6_numberOfTrailingZeros_0f7a4_78 ?_
            exact r_pi hC hr hlk hQ (by unfold ntF; simp only []; rw [if_pos (show 0 < ((x ^^^ (-1)) &&& (x - 1)) from c_9_1), ntA_f c_23_2, ntB_t c_38_10, ntC_f c_52_11, ntD_t c_64_13]) dJ6_numberOfTrailingZeros_0f7a4_79
          · refine lv_iinc (v := 1 + 16 + 4 + 2) (lv' := [(1, .int (1 + 16 + 4 + 2)), (0, .int (us (us ((x ^^^ (-1)) &&& (x - 1)) 16) 4))]) hx hb dJ6_numberOfTrailingZeros_0f7a4_67 hl (k := 1) rfl (rfl) (by decide) rfl (fun ls hl => ?_)
            refine lv_iload_n hx hb dJ6_numberOfTrailingZeros_0f7a4_70 rfl (lv_at hl 1 rfl) ?_
            refine lv_iconst (v := 2) hx hb dJ6_numberOfTrailingZeros_0f7a4_71 (by decide) ?_
            refine lv_iushr (v := us (us (us ((x ^^^ (-1)) &&& (x - 1)) 16) 4) 2) hx hb dJ6_numberOfTrailingZeros_0f7a4_72 rfl ?_
            refine lv_istore_n (lv' := [(0, .int (us (us (us ((x ^^^ (-1)) &&& (x - 1)) 16) 4) 2)), (1, .int (1 + 16 + 4 + 2))]) hx hb dJ6_numberOfTrailingZeros_0f7a4_73 rfl hl (by decide) rfl (fun ls hl => ?_)
            refine lv_iload_n hx hb dJ6_numberOfTrailingZeros_0f7a4_74 rfl (lv_at hl 1 rfl) ?_
            refine lv_iload_n hx hb dJ6_numberOfTrailingZeros_0f7a4_75 rfl (lv_at hl 0 rfl) ?_
            refine lv_iconst (v := 1) hx hb dJ6_numberOfTrailingZeros_0f7a4_76 (by decide) ?_
            refine lv_iushr (v := us (us (us (us ((x ^^^ (-1)) &&& (x - 1)) 16) 4) 2) 1) hx hb dJ6_numberOfTrailingZeros_0f7a4_77 rfl ?_
            refine lv_iadd hx hb dJ6_numberOfTrailingZeros_0f7a4_78 ?_
            exact r_pi hC hr hlk hQ (by unfold ntF; simp only []; rw [if_pos (show 0 < ((x ^^^ (-1)) &&& (x - 1)) from c_9_1), ntA_f c_23_2, ntB_t c_38_10, ntC_f c_52_11, ntD_f c_64_13]) dJ6_numberOfTrailingZeros_0f7a4_79
      · refine lv_iinc (v := 1 + 16 + 8) (lv' := [(1, .int (1 + 16 + 8)), (0, .int (us ((x ^^^ (-1)) &&& (x - 1)) 16))]) hx hb dJ6_numberOfTrailingZeros_0f7a4_41 hl (k := 1) rfl (rfl) (by decide) rfl (fun ls hl => ?_)
        refine lv_iload_n hx hb dJ6_numberOfTrailingZeros_0f7a4_44 rfl (lv_at hl 1 rfl) ?_
        refine lv_bipush (v := 8) hx hb dJ6_numberOfTrailingZeros_0f7a4_45 (by decide) ?_
        refine lv_iushr (v := us (us ((x ^^^ (-1)) &&& (x - 1)) 16) 8) hx hb dJ6_numberOfTrailingZeros_0f7a4_47 rfl ?_
        refine lv_istore_n (lv' := [(0, .int (us (us ((x ^^^ (-1)) &&& (x - 1)) 16) 8)), (1, .int (1 + 16 + 8))]) hx hb dJ6_numberOfTrailingZeros_0f7a4_48 rfl hl (by decide) rfl (fun ls hl => ?_)
        refine lv_iload_n hx hb dJ6_numberOfTrailingZeros_0f7a4_49 rfl (lv_at hl 0 rfl) ?_
        refine lv_bipush (v := 16) hx hb dJ6_numberOfTrailingZeros_0f7a4_50 (by decide) ?_
        refine lv_icmp_le (tgt := 62) hx hb dJ6_numberOfTrailingZeros_0f7a4_52 (by decide) (fun c_52_14 => ?_) (fun c_52_14 => ?_)
        · refine lv_iload_n hx hb dJ6_numberOfTrailingZeros_0f7a4_62 rfl (lv_at hl 0 rfl) ?_
          refine lv_iconst (v := 4) hx hb dJ6_numberOfTrailingZeros_0f7a4_63 (by decide) ?_
          refine lv_icmp_le (tgt := 74) hx hb dJ6_numberOfTrailingZeros_0f7a4_64 (by decide) (fun c_64_15 => ?_) (fun c_64_15 => ?_)
          · refine lv_iload_n hx hb dJ6_numberOfTrailingZeros_0f7a4_74 rfl (lv_at hl 1 rfl) ?_
            refine lv_iload_n hx hb dJ6_numberOfTrailingZeros_0f7a4_75 rfl (lv_at hl 0 rfl) ?_
            refine lv_iconst (v := 1) hx hb dJ6_numberOfTrailingZeros_0f7a4_76 (by decide) ?_
            refine lv_iushr (v := us (us (us ((x ^^^ (-1)) &&& (x - 1)) 16) 8) 1) hx hb dJ6_numberOfTrailingZeros_0f7a4_77 rfl ?_
            refine lv_iadd hx hb dJ6_numberOfTrailingZeros_0f7a4_78 ?_
            exact r_pi hC hr hlk hQ (by unfold ntF; simp only []; rw [if_pos (show 0 < ((x ^^^ (-1)) &&& (x - 1)) from c_9_1), ntA_f c_23_2, ntB_f c_38_10, ntC_t c_52_14, ntD_t c_64_15]) dJ6_numberOfTrailingZeros_0f7a4_79
          · refine lv_iinc (v := 1 + 16 + 8 + 2) (lv' := [(1, .int (1 + 16 + 8 + 2)), (0, .int (us (us ((x ^^^ (-1)) &&& (x - 1)) 16) 8))]) hx hb dJ6_numberOfTrailingZeros_0f7a4_67 hl (k := 1) rfl (rfl) (by decide) rfl (fun ls hl => ?_)
            refine lv_iload_n hx hb dJ6_numberOfTrailingZeros_0f7a4_70 rfl (lv_at hl 1 rfl) ?_
            refine lv_iconst (v := 2) hx hb dJ6_numberOfTrailingZeros_0f7a4_71 (by decide) ?_
            refine lv_iushr (v := us (us (us ((x ^^^ (-1)) &&& (x - 1)) 16) 8) 2) hx hb dJ6_numberOfTrailingZeros_0f7a4_72 rfl ?_
            refine lv_istore_n (lv' := [(0, .int (us (us (us ((x ^^^ (-1)) &&& (x - 1)) 16) 8) 2)), (1, .int (1 + 16 + 8 + 2))]) hx hb dJ6_numberOfTrailingZeros_0f7a4_73 rfl hl (by decide) rfl (fun ls hl => ?_)
            refine lv_iload_n hx hb dJ6_numberOfTrailingZeros_0f7a4_74 rfl (lv_at hl 1 rfl) ?_
            refine lv_iload_n hx hb dJ6_numberOfTrailingZeros_0f7a4_75 rfl (lv_at hl 0 rfl) ?_
            refine lv_iconst (v := 1) hx hb dJ6_numberOfTrailingZeros_0f7a4_76 (by decide) ?_
            refine lv_iushr (v := us (us (us (us ((x ^^^ (-1)) &&& (x - 1)) 16) 8) 2) 1) hx hb dJ6_numberOfTrailingZeros_0f7a4_77 rfl ?_
            refine lv_iadd hx hb dJ6_numberOfTrailingZeros_0f7a4_78 ?_
            exact r_pi hC hr hlk hQ (by unfold ntF; simp only []; rw [if_pos (show 0 < ((x ^^^ (-1)) &&& (x - 1)) from c_9_1), ntA_f c_23_2, ntB_f c_38_10, ntC_t c_52_14, ntD_f c_64_15]) dJ6_numberOfTrailingZeros_0f7a4_79
        · refine lv_iinc (v := 1 + 16 + 8 + 4) (lv' := [(1, .int (1 + 16 + 8 + 4)), (0, .int (us (us ((x ^^^ (-1)) &&& (x - 1)) 16) 8))]) hx hb dJ6_numberOfTrailingZeros_0f7a4_55 hl (k := 1) rfl (rfl) (by decide) rfl (fun ls hl => ?_)
          refine lv_iload_n hx hb dJ6_numberOfTrailingZeros_0f7a4_58 rfl (lv_at hl 1 rfl) ?_
          refine lv_iconst (v := 4) hx hb dJ6_numberOfTrailingZeros_0f7a4_59 (by decide) ?_
          refine lv_iushr (v := us (us (us ((x ^^^ (-1)) &&& (x - 1)) 16) 8) 4) hx hb dJ6_numberOfTrailingZeros_0f7a4_60 rfl ?_
          refine lv_istore_n (lv' := [(0, .int (us (us (us ((x ^^^ (-1)) &&& (x - 1)) 16) 8) 4)), (1, .int (1 + 16 + 8 + 4))]) hx hb dJ6_numberOfTrailingZeros_0f7a4_61 rfl hl (by decide) rfl (fun ls hl => ?_)
          refine lv_iload_n hx hb dJ6_numberOfTrailingZeros_0f7a4_62 rfl (lv_at hl 0 rfl) ?_
          refine lv_iconst (v := 4) hx hb dJ6_numberOfTrailingZeros_0f7a4_63 (by decide) ?_
          refine lv_icmp_le (tgt := 74) hx hb dJ6_numberOfTrailingZeros_0f7a4_64 (by decide) (fun c_64_16 => ?_) (fun c_64_16 => ?_)
          · refine lv_iload_n hx hb dJ6_numberOfTrailingZeros_0f7a4_74 rfl (lv_at hl 1 rfl) ?_
            refine lv_iload_n hx hb dJ6_numberOfTrailingZeros_0f7a4_75 rfl (lv_at hl 0 rfl) ?_
            refine lv_iconst (v := 1) hx hb dJ6_numberOfTrailingZeros_0f7a4_76 (by decide) ?_
            refine lv_iushr (v := us (us (us (us ((x ^^^ (-1)) &&& (x - 1)) 16) 8) 4) 1) hx hb dJ6_numberOfTrailingZeros_0f7a4_77 rfl ?_
            refine lv_iadd hx hb dJ6_numberOfTrailingZeros_0f7a4_78 ?_
            exact r_pi hC hr hlk hQ (by unfold ntF; simp only []; rw [if_pos (show 0 < ((x ^^^ (-1)) &&& (x - 1)) from c_9_1), ntA_f c_23_2, ntB_f c_38_10, ntC_f c_52_14, ntD_t c_64_16]) dJ6_numberOfTrailingZeros_0f7a4_79
          · refine lv_iinc (v := 1 + 16 + 8 + 4 + 2) (lv' := [(1, .int (1 + 16 + 8 + 4 + 2)), (0, .int (us (us (us ((x ^^^ (-1)) &&& (x - 1)) 16) 8) 4))]) hx hb dJ6_numberOfTrailingZeros_0f7a4_67 hl (k := 1) rfl (rfl) (by decide) rfl (fun ls hl => ?_)
            refine lv_iload_n hx hb dJ6_numberOfTrailingZeros_0f7a4_70 rfl (lv_at hl 1 rfl) ?_
            refine lv_iconst (v := 2) hx hb dJ6_numberOfTrailingZeros_0f7a4_71 (by decide) ?_
            refine lv_iushr (v := us (us (us (us ((x ^^^ (-1)) &&& (x - 1)) 16) 8) 4) 2) hx hb dJ6_numberOfTrailingZeros_0f7a4_72 rfl ?_
            refine lv_istore_n (lv' := [(0, .int (us (us (us (us ((x ^^^ (-1)) &&& (x - 1)) 16) 8) 4) 2)), (1, .int (1 + 16 + 8 + 4 + 2))]) hx hb dJ6_numberOfTrailingZeros_0f7a4_73 rfl hl (by decide) rfl (fun ls hl => ?_)
            refine lv_iload_n hx hb dJ6_numberOfTrailingZeros_0f7a4_74 rfl (lv_at hl 1 rfl) ?_
            refine lv_iload_n hx hb dJ6_numberOfTrailingZeros_0f7a4_75 rfl (lv_at hl 0 rfl) ?_
            refine lv_iconst (v := 1) hx hb dJ6_numberOfTrailingZeros_0f7a4_76 (by decide) ?_
            refine lv_iushr (v := us (us (us (us (us ((x ^^^ (-1)) &&& (x - 1)) 16) 8) 4) 2) 1) hx hb dJ6_numberOfTrailingZeros_0f7a4_77 rfl ?_
            refine lv_iadd hx hb dJ6_numberOfTrailingZeros_0f7a4_78 ?_
            exact r_pi hC hr hlk hQ (by unfold ntF; simp only []; rw [if_pos (show 0 < ((x ^^^ (-1)) &&& (x - 1)) from c_9_1), ntA_f c_23_2, ntB_f c_38_10, ntC_f c_52_14, ntD_f c_64_16]) dJ6_numberOfTrailingZeros_0f7a4_79
  · refine lv_iload_n hx hb dJ6_numberOfTrailingZeros_0f7a4_12 rfl (lv_at hl 0 rfl) ?_
    refine lv_bipush (v := 32) hx hb dJ6_numberOfTrailingZeros_0f7a4_13 (by decide) ?_
    refine lv_iand hx hb dJ6_numberOfTrailingZeros_0f7a4_15 ?_
    exact r_pi hC hr hlk hQ (by unfold ntF; simp only []; rw [if_neg (show ¬ 0 < ((x ^^^ (-1)) &&& (x - 1)) from c_9_1)]) dJ6_numberOfTrailingZeros_0f7a4_16
