set_option maxRecDepth 100000 in
set_option maxHeartbeats 4000000 in
theorem m_X6_readHill (l : Launch) (D : va_G) (cs : CS3) (ad : Nat → Nat) (t : St) (a : Nat → Int32) (i x0 n : Nat) (hat : t.1 4 = nI x0) (hxn : x0 + n ≤ 240) (ha : ∀ q, q < n → t.2 3 (x0 + q) = a (i + q)): CT l yX6_readHill cX6_readHill 3 (some .boolean) (rmk 3 70) (wM cs ad) (tyX cs) D [.ref (ad 0), .int (nI (x0 + n))] t (va_Qi (fun r u => HH a i x0 n t u r)) := by
  refine CT.of (own := RX6) (by decide) rfl (Nat.le_of_ble_eq_true rfl) ?_
  intro p9 e9 s m9 args below meth c9 A Q hC hr hlk hW hQ ls hl
  obtain ⟨hx, hb, hml, hown, hts⟩ := id hC
  have hl : lv_has ls 3 [(0, .ref (ad 0)), (1, .int (nI (x0 + n)))] := hl
  refine lv_aload_n hx hb dX6_readHill_0 rfl (lv_at hl 0 rfl) ?_
  refine lv_iconst (v := 0) hx hb dX6_readHill_1 (by decide) ?_
  refine pM_readMany hC hW q_fl_RX6_101 dX6_readHill_2 (fun H locs hW => ?_)
  have hW : HX (wM cs ad) (tyX cs) D A s.heap s (va_up t.1 6 0, t.2) H locs := hW
  refine lv_aload_n hx hb dX6_readHill_5 rfl (lv_at hl 0 rfl) ?_
  refine lv_iload_n hx hb dX6_readHill_6 rfl (lv_at hl 1 rfl) ?_
  refine lv_bipush (v := 97) hx hb dX6_readHill_7 (by decide) ?_
  refine fin_i (run_V (rest := []) hC hW (m_X6_isSign l D cs ad (va_up t.1 6 0, t.2) x0 (x0 + n) 97 hat (by omega) (by omega)) k_yX6_isSign ⟨rfl, rfl⟩ q_ml_RX6_107 eM_0 rfl rfl hl.1 rfl (Nat.le_of_ble_eq_true rfl) ⟨Nat.le_of_ble_eq_true rfl, Nat.le_of_ble_eq_true rfl⟩ dX6_readHill_9 ⟨Nat.zero_le _, Nat.zero_le _⟩) hW (fun r1 u1 H locs hp1 hW => ?_)
  obtain ⟨hru1, huu1⟩ := hp1
  refine r_top hru1 ?_
  refine lv_if_ne (tgt := 17) hx hb dX6_readHill_12 (by decide) (fun c_12_2 => ?_) (fun c_12_2 => ?_)
  · have c_12_2 := bI_nz c_12_2
    rw [if_pos c_12_2] at huu1
    have hW := hx_congr hW huu1
    have hW : HX (wM cs ad) (tyX cs) D A s.heap s (va_up (va_up t.1 6 0) 4 (nI (x0 + 1)), t.2) _ _ := hx_congr hW (by first | rfl | (simp only [va_upup]; done) | (refine Prod.ext (funext fun k => ?_) (funext fun k => ?_) <;> simp only [va_up] <;> (repeat' split) <;> first | rfl | omega | simp_all))
    obtain ⟨v1, ev1⟩ : ∃ z : St, z = (va_up (va_up t.1 6 0) 4 (nI (x0 + 1)), t.2) := ⟨_, rfl⟩
    have hW : HX (wM cs ad) (tyX cs) D A s.heap s v1 _ _ := hx_congr hW ev1.symm
    have hat1 : v1.1 4 = nI (x0 + 1) := by rw [ev1]; rfl
    have h61 : v1.1 6 = nI 0 := by rw [ev1]; rfl
    have hv1 : v1.2 3 = t.2 3 := by rw [ev1]
    have hf1 : frH t v1 := by rw [ev1]; exact (frH.s6 t _).tr (frH.s4 _ _)
    have h1n : 1 ≤ n := by have := c_12_2.1; omega
    have hg0 : gq a i 0 := go_0.mpr (by rw [← ha 0 (by omega)]; exact c_12_2.2)
    have hG1 : GO a i 1 := GO_s (GO_0 a i) hg0
    refine lv_aload_n hx hb dX6_readHill_17 rfl (lv_at hl 0 rfl) ?_
    refine lv_aload_n hx hb dX6_readHill_18 rfl (lv_at hl 0 rfl) ?_
    refine lv_iload_n hx hb dX6_readHill_19 rfl (lv_at hl 1 rfl) ?_
    refine lv_iconst (v := 2) hx hb dX6_readHill_20 (by decide) ?_
    refine lv_bipush (v := 8) hx hb dX6_readHill_21 (by decide) ?_
    refine fin_i (run_V (rest := [.ref (ad 0)]) hC hW (m_X6_digit l D cs ad v1 (x0 + 1) (x0 + n) 2 8 hat1 (by omega) (by omega)) k_yX6_digit ⟨rfl, rfl⟩ q_ml_RX6_111 eM_0 rfl rfl hl.1 rfl (Nat.le_of_ble_eq_true rfl) ⟨Nat.le_of_ble_eq_true rfl, Nat.le_of_ble_eq_true rfl⟩ dX6_readHill_23 ⟨Nat.zero_le _, Nat.zero_le _⟩) hW (fun r3 u3 H locs hp3 hW => ?_)
    refine pM_readPaces hC hW q_fl_RX6_98 dX6_readHill_26 (fun H locs hW => ?_)
    have hW : HX (wM cs ad) (tyX cs) D A s.heap s (va_up u3.1 5 r3, u3.2) H locs := hW
    refine lv_aload_n hx hb dX6_readHill_29 rfl (lv_at hl 0 rfl) ?_
    refine gM_readPaces hC hW q_fl_RX6_98 dX6_readHill_30 ?_
    refine r_top (y := r3) rfl ?_
    refine lv_bipush (v := (-9)) hx hb dX6_readHill_33 (by decide) ?_
    refine lv_icmp_ne (tgt := 40) hx hb dX6_readHill_35 (by decide) (fun c_35_4 => ?_) (fun c_35_4 => ?_)
    · obtain ⟨_, hd1, hr1, huu3⟩ := (dg_case2 hp3).resolve_left (fun h9 => c_35_4 h9.1)
      rw [hv1, ha 1 (by omega)] at hd1 hr1
      obtain ⟨P, hP2, hP8, eP⟩ := code_ex hd1.2.1 hd1.2.2
      have hW := hx_congr hW (show ((va_up u3.1 5 r3, u3.2) : St) = (va_up (va_up v1.1 4 (nI (x0 + 1 + 1))) 5 (nI P), v1.2) by rw [huu3, hr1, eP])
      obtain ⟨v2, ev2⟩ : ∃ z : St, z = (va_up (va_up v1.1 4 (nI (x0 + 1 + 1))) 5 (nI P), v1.2) := ⟨_, rfl⟩
      have hW : HX (wM cs ad) (tyX cs) D A s.heap s v2 _ _ := hx_congr hW ev2.symm
      have hat2 : v2.1 4 = nI (x0 + (2 + 0)) := by rw [ev2]; exact congrArg nI (by omega)
      have h52 : v2.1 5 = nI P := by rw [ev2]; rfl
      have h62 : v2.1 6 = nI 0 := by rw [ev2]; exact h61
      have hf2 : frH t v2 := by rw [ev2]; exact (hf1.tr (frH.s4 _ _)).tr (frH.s5 _ _)
      have hG2 : GO a i 2 := GO_s hG1 (go_1.mpr hd1.2)
      have h2n : 2 ≤ n := by have := hd1.1; omega
      refine lv_iconst (v := 0) hx hb dX6_readHill_40 (by decide) ?_
      refine lv_istore_n (lv' := [(2, .int 0), (0, .ref (ad 0)), (1, .int (nI (x0 + n)))]) hx hb dX6_readHill_41 rfl hl (by decide) rfl (fun ls hl => ?_)
      have loop_42_5 : ∀ (f9 : Nat) (p7 : Nat) (w7 : St), (p7 ≤ P) → (2 + p7 ≤ n) → (w7.1 4 = nI (x0 + (2 + p7))) → (w7.1 5 = nI P) → (w7.1 6 = nI 0) → (frH t w7) → (GO a i (2 + p7)) → (∀ q, q < p7 → w7.2 9 q = a (i + 2 + q) - 48) → P - p7 < f9 → ∀ (H : Heap) (locs : List Loc), HX (wM cs ad) (tyX cs) D A s.heap s w7 H locs → ∀ ls : Array Slot, lv_has ls 3 [(2, .int (nI p7)), (0, .ref (ad 0)), (1, .int (nI (x0 + n)))] → W p9 l e9 (rmk 3 70) s m9 args below meth c9 H locs 0 0 Q (F0 m9 42 ls []) := by
        intro f_42
        induction f_42 with
        | zero => intro p7 w7 hp7 hpn hat7 h57 h67 hf7 hG7 hg7 hm_42 H locs hW ls hl; exact absurd hm_42 (Nat.not_lt_zero _)
        | succ f_42 ih_42 =>
          intro p7 w7 hp7 hpn hat7 h57 h67 hf7 hG7 hg7 hm_42 H locs hW ls hl
          refine lv_iload_n hx hb dX6_readHill_42 rfl (lv_at hl 0 rfl) ?_
          refine lv_aload_n hx hb dX6_readHill_43 rfl (lv_at hl 1 rfl) ?_
          refine gM_readPaces hC hW q_fl_RX6_98 dX6_readHill_44 ?_
          refine r_top (y := nI P) h57 ?_
          refine lv_icmp_ge (tgt := 83) hx hb dX6_readHill_47 (by decide) (fun c_47_6 => ?_) (fun c_47_6 => ?_)
          · have c_47_6 : P ≤ p7 := (nI_leI (a := P) (b := p7) (by omega) (by omega)).mp c_47_6
            have loop_83_7 : ∀ (f9 : Nat) (k : Nat) (w8 : St), (k ≤ 5) → (2 + P + 5 * k ≤ n) → (w8.1 4 = nI (x0 + (2 + P + 5 * k))) → (w8.1 5 = nI P) → (w8.1 6 = nI k) → (frH t w8) → (GO a i (2 + P + 5 * k)) → (∀ q, q < P → w8.2 9 q = a (i + 2 + q) - 48) → (∀ r, r < k → RD a i P w8 r) → 5 - k < f9 → ∀ (H : Heap) (locs : List Loc), HX (wM cs ad) (tyX cs) D A s.heap s w8 H locs → ∀ ls : Array Slot, lv_has ls 3 [(0, .ref (ad 0)), (1, .int (nI (x0 + n)))] → W p9 l e9 (rmk 3 70) s m9 args below meth c9 H locs 0 0 Q (F0 m9 83 ls []) := by
              intro f_83
              induction f_83 with
              | zero => intro k w8 hk5 hkn hat8 h58 h68 hf8 hG8 hg8 hrd hm_83 H locs hW ls hl; exact absurd hm_83 (Nat.not_lt_zero _)
              | succ f_83 ih_83 =>
                intro k w8 hk5 hkn hat8 h58 h68 hf8 hG8 hg8 hrd hm_83 H locs hW ls hl
                refine lv_aload_n hx hb dX6_readHill_83 rfl (lv_at hl 0 rfl) ?_
                refine gM_readMany hC hW q_fl_RX6_101 dX6_readHill_84 ?_
                refine r_top (y := nI k) h68 ?_
                refine lv_if_eq (tgt := 106) hx hb dX6_readHill_87 (by decide) (fun c_87_8 => ?_) (fun c_87_8 => ?_)
                · have c_87_8 : k = 0 := (nI_eq (a := k) (b := 0) (by omega) (by omega)).mp c_87_8
                  refine lv_aload_n hx hb dX6_readHill_106 rfl (lv_at hl 0 rfl) ?_
                  refine lv_iload_n hx hb dX6_readHill_107 rfl (lv_at hl 1 rfl) ?_
                  refine lv_bipush (v := 44) hx hb dX6_readHill_108 (by decide) ?_
                  refine fin_i (run_V (rest := []) hC hW (m_X6_isSign l D cs ad w8 (x0 + (2 + P + 5 * k)) (x0 + n) 44 hat8 (by omega) (by omega)) k_yX6_isSign ⟨rfl, rfl⟩ q_ml_RX6_107 eM_0 rfl rfl hl.1 rfl (Nat.le_of_ble_eq_true rfl) ⟨Nat.le_of_ble_eq_true rfl, Nat.le_of_ble_eq_true rfl⟩ dX6_readHill_110 ⟨Nat.zero_le _, Nat.zero_le _⟩) hW (fun r9 u9 H locs hp9 hW => ?_)
                  obtain ⟨hru9, huu9⟩ := hp9
                  refine r_top hru9 ?_
                  refine lv_if_eq (tgt := 124) hx hb dX6_readHill_113 (by decide) (fun c_113_10 => ?_) (fun c_113_10 => ?_)
                  · have c_113_10 := bI_z.mp c_113_10
                    refine lv_iconst (v := 0) hx hb dX6_readHill_124 (by decide) ?_
                    rw [if_neg c_113_10] at huu9
                    have hv8 : w8.2 3 = t.2 3 := hf8.2 3 (by decide) (by decide)
                    have hk4 : k < 5 := by omega
                    exact r_iretz hC hr hlk hW hQ (⟨by rw [huu9]; exact hf8, Or.inr ⟨rfl, 2 + P + 5 * k, hkn, ff_no hkn hG8 (fun h9 => c_113_10 ⟨by have := h9.1; omega, by rw [hv8, ha _ h9.1]; have h8 := h9.2; unfold gq at h8; rw [PP_P eP hP8 (by omega)] at h8; exact (go_C hk4).mp h8⟩) (fun h9 h8 => by unfold txOk at h8; rw [PP_P eP hP8 (by omega)] at h8; omega), by rw [huu9]; exact hat8⟩⟩) (rfl) dX6_readHill_125
                  · have c_113_10 := bI_nz c_113_10
                    rw [if_pos c_113_10] at huu9
                    have hW := hx_congr hW huu9
                    obtain ⟨w9, ew9⟩ : ∃ z : St, z = (va_up w8.1 4 (nI (x0 + (2 + P + 5 * k) + 1)), w8.2) := ⟨_, rfl⟩
                    have hW : HX (wM cs ad) (tyX cs) D A s.heap s w9 _ _ := hx_congr hW ew9.symm
                    have hv8 : w8.2 3 = t.2 3 := hf8.2 3 (by decide) (by decide)
                    have hn8 : 2 + P + 5 * k < n := by have := c_113_10.1; omega
                    have hk4 : k < 5 := by omega
                    have hc8 : a (i + (2 + P + 5 * k)) = 44 := by rw [← ha _ hn8, ← hv8]; exact c_113_10.2
                    have hG9 : GO a i (2 + P + 5 * k + 1) := GO_s hG8 (by unfold gq; rw [PP_P eP hP8 (by omega)]; exact (go_C hk4).mpr hc8)
                    have hat9 : w9.1 4 = nI (x0 + (2 + P + 5 * k + 1)) := by rw [ew9]; exact congrArg nI (by omega)
                    have h69 : w9.1 6 = nI k := by rw [ew9]; exact h68
                    have hf9 : frH t w9 := by rw [ew9]; exact hf8.tr (frH.s4 _ _)
                    have ha9 : ∀ q, q < n → w9.2 3 (x0 + q) = a (i + q) := fun q hq => by rw [ew9]; show w8.2 3 _ = _; rw [hv8]; exact ha q hq
                    refine lv_aload_n hx hb dX6_readHill_116 rfl (lv_at hl 0 rfl) ?_
                    refine lv_iload_n hx hb dX6_readHill_117 rfl (lv_at hl 1 rfl) ?_
                    refine fin_i (run_V (rest := []) hC hW (m_X6_readRider l D cs ad w9 (x0 + (2 + P + 5 * k + 1)) (x0 + n) k hat9 (by omega) (by omega) h69 hk4) k_yX6_readRider ⟨rfl, rfl⟩ q_ml_RX6_115 eM_0 rfl rfl hl.1 rfl (Nat.le_of_ble_eq_true rfl) ⟨Nat.le_of_ble_eq_true rfl, Nat.le_of_ble_eq_true rfl⟩ dX6_readHill_118 ⟨Nat.zero_le _, Nat.zero_le _⟩) hW (fun r11 u11 H locs hp11 hW => ?_)
                    refine lv_if_ne (tgt := 83) hx hb dX6_readHill_121 (by decide) (fun c_121_12 => ?_) (fun c_121_12 => ?_)
                    · obtain ⟨hRf, hRn, hRg, hRa, hR6, hRD⟩ := RR_y ha9 eP hP8 hk4 hp11 c_121_12
                      have hR9 : frH t u11 := hf9.tr hRf.fh
                      have hRG : GO a i (2 + P + 5 * (k + 1)) := by rw [show 2 + P + 5 * (k + 1) = 2 + P + 5 * k + 1 + 4 by omega]; exact GO_m hG9 hRg
                      have hRR : ∀ r, r < k + 1 → RD a i P u11 r := fun r hr => by by_cases h9 : r = k; rw [h9]; exact hRD; exact RD_c hRf (by omega) (by unfold RD; rw [ew9]; exact hrd r (by omega))
                      exact ih_83 (k + 1) u11 (by omega) (hRn) (hRa) ((hRf.1 5 (by decide) (by decide)).trans (by rw [ew9]; exact h58)) (hR6) (hR9) (hRG) (fun q hq => by rw [hRf.2.1 9 (by decide), ew9]; exact hg8 q hq) (hRR) (by omega) _ _ hW ls (lv_sub hl [0, 1] rfl)
                    · refine lv_iconst (v := 0) hx hb dX6_readHill_124 (by decide) ?_
                      obtain ⟨hRf, hRq⟩ := RR_n ha9 eP hP8 hk4 hn8 hG9 hp11 c_121_12
                      exact r_iretz hC hr hlk hW hQ (⟨hf9.tr hRf.fh, Or.inr ⟨rfl, hRq⟩⟩) (rfl) dX6_readHill_125
                · have c_87_8 : ¬ k = 0 := fun h => c_87_8 ((nI_eq (a := k) (b := 0) (by omega) (by omega)).mpr h)
                  refine lv_aload_n hx hb dX6_readHill_90 rfl (lv_at hl 0 rfl) ?_
                  refine gM_readMany hC hW q_fl_RX6_101 dX6_readHill_91 ?_
                  refine r_top (y := nI k) h68 ?_
                  refine lv_iconst (v := 5) hx hb dX6_readHill_94 (by decide) ?_
                  refine lv_icmp_ge (tgt := 126) hx hb dX6_readHill_95 (by decide) (fun c_95_13 => ?_) (fun c_95_13 => ?_)
                  · have c_95_13 : 5 ≤ k := (nI_leI (a := 5) (b := k) (by omega) (by omega)).mp c_95_13
                    refine lv_aload_n hx hb dX6_readHill_126 rfl (lv_at hl 0 rfl) ?_
                    refine gM_at hC hW q_fl_RX6_77 dX6_readHill_127 ?_
                    refine r_top (y := nI (x0 + (2 + P + 5 * k))) hat8 ?_
                    refine lv_iload_n hx hb dX6_readHill_130 rfl (lv_at hl 1 rfl) ?_
                    refine lv_icmp_ne (tgt := 138) hx hb dX6_readHill_131 (by decide) (fun c_131_14 => ?_) (fun c_131_14 => ?_)
                    · have c_131_14 : ¬ (x0 + (2 + P + 5 * k)) = (x0 + n) := fun h => c_131_14 ((nI_eq (a := x0 + (2 + P + 5 * k)) (b := x0 + n) (by omega) (by omega)).mpr h)
                      refine lv_iconst (v := 0) hx hb dX6_readHill_138 (by decide) ?_
                      have hk9 : k = 5 := by omega
                      rw [hk9] at hG8 hat8 hkn
                      exact r_iretz hC hr hlk hW hQ (⟨hf8, Or.inr ⟨rfl, 2 + P + 5 * 5, hkn, ff_no hkn hG8 (fun h9 => by have h8 := h9.2; unfold gq at h8; rw [PP_P eP hP8 (by omega)] at h8; exact go_E h8) (fun h9 h8 => by omega), hat8⟩⟩) (rfl) dX6_readHill_139
                    · have c_131_14 : x0 + (2 + P + 5 * k) = x0 + n := (nI_eq (a := x0 + (2 + P + 5 * k)) (b := x0 + n) (by omega) (by omega)).mp c_131_14
                      refine lv_iconst (v := 1) hx hb dX6_readHill_134 (by decide) ?_
                      refine lv_goto (tgt := 139) hx hb dX6_readHill_135 (by decide) ?_
                      have hnn : n = 2 + P + 5 * k := by omega
                      have hk1 : 1 ≤ k := by omega
                      exact r_iretz hC hr hlk hW hQ (⟨hf8, Or.inl ⟨rfl, ff_fin (by rw [hnn]; exact hG8) (by unfold txOk; rw [PP_P eP hP8 (by omega)]; omega), P, k, eP, hP2, hP8, hnn, hk1, hk5, h58, h68, hg8, hrd⟩⟩) (rfl) dX6_readHill_139
                  · have c_95_13 : ¬ 5 ≤ k := fun h => c_95_13 ((nI_leI (a := 5) (b := k) (by omega) (by omega)).mpr h)
                    refine lv_aload_n hx hb dX6_readHill_98 rfl (lv_at hl 0 rfl) ?_
                    refine gM_at hC hW q_fl_RX6_77 dX6_readHill_99 ?_
                    refine r_top (y := nI (x0 + (2 + P + 5 * k))) hat8 ?_
                    refine lv_iload_n hx hb dX6_readHill_102 rfl (lv_at hl 1 rfl) ?_
                    refine lv_icmp_ge (tgt := 126) hx hb dX6_readHill_103 (by decide) (fun c_103_15 => ?_) (fun c_103_15 => ?_)
                    · have c_103_15 : x0 + n ≤ x0 + (2 + P + 5 * k) := (nI_leI (a := x0 + n) (b := x0 + (2 + P + 5 * k)) (by omega) (by omega)).mp c_103_15
                      refine lv_aload_n hx hb dX6_readHill_126 rfl (lv_at hl 0 rfl) ?_
                      refine gM_at hC hW q_fl_RX6_77 dX6_readHill_127 ?_
                      refine r_top (y := nI (x0 + (2 + P + 5 * k))) hat8 ?_
                      refine lv_iload_n hx hb dX6_readHill_130 rfl (lv_at hl 1 rfl) ?_
                      refine lv_icmp_ne (tgt := 138) hx hb dX6_readHill_131 (by decide) (fun c_131_16 => ?_) (fun c_131_16 => ?_)
                      · have c_131_16 : ¬ (x0 + (2 + P + 5 * k)) = (x0 + n) := fun h => c_131_16 ((nI_eq (a := x0 + (2 + P + 5 * k)) (b := x0 + n) (by omega) (by omega)).mpr h)
                        refine lv_iconst (v := 0) hx hb dX6_readHill_138 (by decide) ?_
                        have hk9 : k = 5 := by omega
                        rw [hk9] at hG8 hat8 hkn
                        exact r_iretz hC hr hlk hW hQ (⟨hf8, Or.inr ⟨rfl, 2 + P + 5 * 5, hkn, ff_no hkn hG8 (fun h9 => by have h8 := h9.2; unfold gq at h8; rw [PP_P eP hP8 (by omega)] at h8; exact go_E h8) (fun h9 h8 => by omega), hat8⟩⟩) (rfl) dX6_readHill_139
                      · have c_131_16 : x0 + (2 + P + 5 * k) = x0 + n := (nI_eq (a := x0 + (2 + P + 5 * k)) (b := x0 + n) (by omega) (by omega)).mp c_131_16
                        refine lv_iconst (v := 1) hx hb dX6_readHill_134 (by decide) ?_
                        refine lv_goto (tgt := 139) hx hb dX6_readHill_135 (by decide) ?_
                        have hnn : n = 2 + P + 5 * k := by omega
                        have hk1 : 1 ≤ k := by omega
                        exact r_iretz hC hr hlk hW hQ (⟨hf8, Or.inl ⟨rfl, ff_fin (by rw [hnn]; exact hG8) (by unfold txOk; rw [PP_P eP hP8 (by omega)]; omega), P, k, eP, hP2, hP8, hnn, hk1, hk5, h58, h68, hg8, hrd⟩⟩) (rfl) dX6_readHill_139
                    · have c_103_15 : ¬ (x0 + n) ≤ (x0 + (2 + P + 5 * k)) := fun h => c_103_15 ((nI_leI (a := x0 + n) (b := x0 + (2 + P + 5 * k)) (by omega) (by omega)).mpr h)
                      refine lv_aload_n hx hb dX6_readHill_106 rfl (lv_at hl 0 rfl) ?_
                      refine lv_iload_n hx hb dX6_readHill_107 rfl (lv_at hl 1 rfl) ?_
                      refine lv_bipush (v := 44) hx hb dX6_readHill_108 (by decide) ?_
                      refine fin_i (run_V (rest := []) hC hW (m_X6_isSign l D cs ad w8 (x0 + (2 + P + 5 * k)) (x0 + n) 44 hat8 (by omega) (by omega)) k_yX6_isSign ⟨rfl, rfl⟩ q_ml_RX6_107 eM_0 rfl rfl hl.1 rfl (Nat.le_of_ble_eq_true rfl) ⟨Nat.le_of_ble_eq_true rfl, Nat.le_of_ble_eq_true rfl⟩ dX6_readHill_110 ⟨Nat.zero_le _, Nat.zero_le _⟩) hW (fun r17 u17 H locs hp17 hW => ?_)
                      obtain ⟨hru17, huu17⟩ := hp17
                      refine r_top hru17 ?_
                      refine lv_if_eq (tgt := 124) hx hb dX6_readHill_113 (by decide) (fun c_113_18 => ?_) (fun c_113_18 => ?_)
                      · have c_113_18 := bI_z.mp c_113_18
                        refine lv_iconst (v := 0) hx hb dX6_readHill_124 (by decide) ?_
                        rw [if_neg c_113_18] at huu17
                        have hv8 : w8.2 3 = t.2 3 := hf8.2 3 (by decide) (by decide)
                        have hk4 : k < 5 := by omega
                        exact r_iretz hC hr hlk hW hQ (⟨by rw [huu17]; exact hf8, Or.inr ⟨rfl, 2 + P + 5 * k, hkn, ff_no hkn hG8 (fun h9 => c_113_18 ⟨by have := h9.1; omega, by rw [hv8, ha _ h9.1]; have h8 := h9.2; unfold gq at h8; rw [PP_P eP hP8 (by omega)] at h8; exact (go_C hk4).mp h8⟩) (fun h9 h8 => by unfold txOk at h8; rw [PP_P eP hP8 (by omega)] at h8; omega), by rw [huu17]; exact hat8⟩⟩) (rfl) dX6_readHill_125
                      · have c_113_18 := bI_nz c_113_18
                        rw [if_pos c_113_18] at huu17
                        have hW := hx_congr hW huu17
                        obtain ⟨w9, ew9⟩ : ∃ z : St, z = (va_up w8.1 4 (nI (x0 + (2 + P + 5 * k) + 1)), w8.2) := ⟨_, rfl⟩
                        have hW : HX (wM cs ad) (tyX cs) D A s.heap s w9 _ _ := hx_congr hW ew9.symm
                        have hv8 : w8.2 3 = t.2 3 := hf8.2 3 (by decide) (by decide)
                        have hn8 : 2 + P + 5 * k < n := by have := c_113_18.1; omega
                        have hk4 : k < 5 := by omega
                        have hc8 : a (i + (2 + P + 5 * k)) = 44 := by rw [← ha _ hn8, ← hv8]; exact c_113_18.2
                        have hG9 : GO a i (2 + P + 5 * k + 1) := GO_s hG8 (by unfold gq; rw [PP_P eP hP8 (by omega)]; exact (go_C hk4).mpr hc8)
                        have hat9 : w9.1 4 = nI (x0 + (2 + P + 5 * k + 1)) := by rw [ew9]; exact congrArg nI (by omega)
                        have h69 : w9.1 6 = nI k := by rw [ew9]; exact h68
                        have hf9 : frH t w9 := by rw [ew9]; exact hf8.tr (frH.s4 _ _)
                        have ha9 : ∀ q, q < n → w9.2 3 (x0 + q) = a (i + q) := fun q hq => by rw [ew9]; show w8.2 3 _ = _; rw [hv8]; exact ha q hq
                        refine lv_aload_n hx hb dX6_readHill_116 rfl (lv_at hl 0 rfl) ?_
                        refine lv_iload_n hx hb dX6_readHill_117 rfl (lv_at hl 1 rfl) ?_
                        refine fin_i (run_V (rest := []) hC hW (m_X6_readRider l D cs ad w9 (x0 + (2 + P + 5 * k + 1)) (x0 + n) k hat9 (by omega) (by omega) h69 hk4) k_yX6_readRider ⟨rfl, rfl⟩ q_ml_RX6_115 eM_0 rfl rfl hl.1 rfl (Nat.le_of_ble_eq_true rfl) ⟨Nat.le_of_ble_eq_true rfl, Nat.le_of_ble_eq_true rfl⟩ dX6_readHill_118 ⟨Nat.zero_le _, Nat.zero_le _⟩) hW (fun r19 u19 H locs hp19 hW => ?_)
                        refine lv_if_ne (tgt := 83) hx hb dX6_readHill_121 (by decide) (fun c_121_20 => ?_) (fun c_121_20 => ?_)
                        · obtain ⟨hRf, hRn, hRg, hRa, hR6, hRD⟩ := RR_y ha9 eP hP8 hk4 hp19 c_121_20
                          have hR9 : frH t u19 := hf9.tr hRf.fh
                          have hRG : GO a i (2 + P + 5 * (k + 1)) := by rw [show 2 + P + 5 * (k + 1) = 2 + P + 5 * k + 1 + 4 by omega]; exact GO_m hG9 hRg
                          have hRR : ∀ r, r < k + 1 → RD a i P u19 r := fun r hr => by by_cases h9 : r = k; rw [h9]; exact hRD; exact RD_c hRf (by omega) (by unfold RD; rw [ew9]; exact hrd r (by omega))
                          exact ih_83 (k + 1) u19 (by omega) (hRn) (hRa) ((hRf.1 5 (by decide) (by decide)).trans (by rw [ew9]; exact h58)) (hR6) (hR9) (hRG) (fun q hq => by rw [hRf.2.1 9 (by decide), ew9]; exact hg8 q hq) (hRR) (by omega) _ _ hW ls (lv_sub hl [0, 1] rfl)
                        · refine lv_iconst (v := 0) hx hb dX6_readHill_124 (by decide) ?_
                          obtain ⟨hRf, hRq⟩ := RR_n ha9 eP hP8 hk4 hn8 hG9 hp19 c_121_20
                          exact r_iretz hC hr hlk hW hQ (⟨hf9.tr hRf.fh, Or.inr ⟨rfl, hRq⟩⟩) (rfl) dX6_readHill_125
            have hpP : p7 = P := by omega
            rw [hpP] at hat7 hG7 hg7 hpn
            exact loop_83_7 _ 0 w7 (by omega) (by omega) (hat7) (h57) (h67) (hf7) (hG7) (hg7) (fun r h => absurd h (by omega)) (Nat.lt_succ_self _) _ _ hW ls (lv_sub hl [1, 2] rfl)
          · have c_47_6 : ¬ P ≤ p7 := fun h => c_47_6 ((nI_leI (a := P) (b := p7) (by omega) (by omega)).mpr h)
            refine lv_aload_n hx hb dX6_readHill_50 rfl (lv_at hl 1 rfl) ?_
            refine gM_readSlick hC hW q_fl_RX6_34 dX6_readHill_51 ?_
            refine lv_iload_n hx hb dX6_readHill_54 rfl (lv_at hl 0 rfl) ?_
            refine lv_aload_n hx hb dX6_readHill_55 rfl (lv_at hl 1 rfl) ?_
            refine lv_iload_n hx hb dX6_readHill_56 rfl (lv_at hl 2 rfl) ?_
            refine lv_iconst (v := 0) hx hb dX6_readHill_57 (by decide) ?_
            refine lv_bipush (v := 9) hx hb dX6_readHill_58 (by decide) ?_
            refine fin_i (run_V (rest := [.int (nI p7), .ref (ad 9)]) hC hW (m_X6_digit l D cs ad w7 (x0 + (2 + p7)) (x0 + n) 0 9 hat7 (by omega) (by omega)) k_yX6_digit ⟨rfl, rfl⟩ q_ml_RX6_111 eM_0 rfl rfl hl.1 rfl (Nat.le_of_ble_eq_true rfl) ⟨Nat.le_of_ble_eq_true rfl, Nat.le_of_ble_eq_true rfl⟩ dX6_readHill_60 ⟨Nat.zero_le _, Nat.zero_le _⟩) hW (fun r21 u21 H locs hp21 hW => ?_)
            refine r_istN (t0 := 0) (j := p7) hC hW eM_9 rfl (rfl) (by omega) (by decide) (sM_9 _) dX6_readHill_63 (fun H locs hW => ?_)
            have hW : HX (wM cs ad) (tyX cs) D A s.heap s (u21.1, va_up u21.2 9 (upd (u21.2 9) p7 r21)) H locs := hW
            refine lv_aload_n hx hb dX6_readHill_64 rfl (lv_at hl 1 rfl) ?_
            refine gM_readSlick hC hW q_fl_RX6_34 dX6_readHill_65 ?_
            refine lv_iload_n hx hb dX6_readHill_68 rfl (lv_at hl 0 rfl) ?_
            refine r_ildN (t0 := 0) (j := p7) hC hW eM_9 rfl (rfl) (by omega) (by decide) dX6_readHill_69 ?_
            refine r_top (y := (upd (u21.2 9) p7 r21) p7) (by first | rfl | simp only [va_up_self]) ?_
            refine r_top (y := r21) pk_us ?_
            refine lv_bipush (v := (-9)) hx hb dX6_readHill_70 (by decide) ?_
            refine lv_icmp_ne (tgt := 77) hx hb dX6_readHill_72 (by decide) (fun c_72_22 => ?_) (fun c_72_22 => ?_)
            · refine lv_iinc (v := nI (p7 + 1)) (lv' := [(2, .int (nI (p7 + 1))), (0, .ref (ad 0)), (1, .int (nI (x0 + n)))]) hx hb dX6_readHill_77 hl (k := 0) rfl (nI_1 _) (by decide) rfl (fun ls hl => ?_)
              refine lv_goto (tgt := 42) hx hb dX6_readHill_80 (by decide) ?_
              obtain ⟨_, hd7, hr7, huu21⟩ := (dg_case hp21).resolve_left (fun h9 => c_72_22 h9.1)
              have hv7 : w7.2 3 = t.2 3 := hf7.2 3 (by decide) (by decide)
              rw [hv7, ha (2 + p7) (by omega)] at hd7 hr7
              have hW := hx_congr hW (show ((u21.1, va_up u21.2 9 (upd (u21.2 9) p7 r21)) : St) = (va_up w7.1 4 (nI (x0 + (2 + p7) + 1)), va_up w7.2 9 (upd (w7.2 9) p7 (a (i + (2 + p7)) - 48))) by rw [huu21, hr7])
              exact ih_42 (p7 + 1) (va_up w7.1 4 (nI (x0 + (2 + p7) + 1)), va_up w7.2 9 (upd (w7.2 9) p7 (a (i + (2 + p7)) - 48))) (by omega) (by have := hd7.1; omega) (congrArg nI (by omega)) (h57) (h67) ((hf7.tr (frH.s4 _ _)).tr (frH.a9 (va_up w7.1 4 _, w7.2) _)) (by have h9 : GO a i (2 + p7 + 1) := GO_s hG7 (by unfold gq; rw [PP_P eP hP8 (by omega)]; exact (go_D (by omega)).mpr hd7.2); exact h9) (fun q hq => by by_cases h9 : q = p7; rw [h9]; exact (pk_us (f := w7.2 9)).trans (congrArg (fun z => a z - 48) (by omega)); exact (pk_un (f := w7.2 9) h9).trans (hg7 q (by omega))) (by omega) _ _ hW ls (lv_sub hl [0, 1, 2] rfl)
            · refine lv_iconst (v := 0) hx hb dX6_readHill_75 (by decide) ?_
              obtain ⟨_, hno, huu21⟩ := (dg_case hp21).resolve_right (fun h9 => h9.1 c_72_22)
              have hv7 : w7.2 3 = t.2 3 := hf7.2 3 (by decide) (by decide)
              exact r_iretz hC hr hlk hW hQ (⟨by rw [huu21]; exact hf7.tr (frH.a9 _ _), Or.inr ⟨rfl, 2 + p7, hpn, ff_no hpn hG7 (fun h9 => hno ⟨by have := h9.1; omega, by rw [hv7, ha (2 + p7) h9.1]; have h8 := h9.2; unfold gq at h8; rw [PP_P eP hP8 (by omega)] at h8; exact (go_D (by omega)).mp h8⟩) (fun h9 h8 => by unfold txOk at h8; rw [PP_P eP hP8 (by omega)] at h8; omega), by rw [huu21]; exact hat7⟩⟩) (rfl) dX6_readHill_76
      exact loop_42_5 _ 0 v2 (Nat.zero_le _) (by omega) (hat2) (h52) (h62) (hf2) (hG2) (fun q h => absurd h (by omega)) (Nat.lt_succ_self _) _ _ hW ls (lv_sub hl [0, 1, 2] rfl)
    · refine lv_iconst (v := 0) hx hb dX6_readHill_38 (by decide) ?_
      obtain ⟨_, hno, huu3⟩ := (dg_case2 hp3).resolve_right (fun h9 => h9.1 c_35_4)
      exact r_iretz hC hr hlk hW hQ (⟨by rw [huu3]; exact hf1.tr (frH.s5 _ _), Or.inr ⟨rfl, 1, h1n, ff_no h1n hG1 (fun h9 => hno ⟨by have := h9.1; omega, by rw [hv1, ha 1 h9.1]; exact go_1.mp h9.2⟩) (fun h9 h8 => by unfold txOk at h8; omega), by rw [huu3]; exact hat1⟩⟩) (rfl) dX6_readHill_39
  · have c_12_2 := bI_z.mp c_12_2
    refine lv_iconst (v := 0) hx hb dX6_readHill_15 (by decide) ?_
    rw [if_neg c_12_2] at huu1
    exact r_iretz hC hr hlk hW hQ (⟨by rw [huu1]; exact frH.s6 t _, Or.inr ⟨rfl, 0, Nat.zero_le _, ff_no (Nat.zero_le _) (GO_0 a i) (fun h9 => c_12_2 ⟨by have := h9.1; omega, (ha 0 h9.1).trans (go_0.mp h9.2)⟩) (fun h9 h8 => by unfold txOk at h8; omega), by rw [huu1]; exact hat⟩⟩) (rfl) dX6_readHill_16
