set_option maxRecDepth 100000 in
set_option maxHeartbeats 4000000 in
theorem m_X6_layRow (l : Launch) (D : va_G) (cs : CS3) (ad : Nat → Nat) (t : St) (R g L : Nat) (hR : t.1 3 = nI R) (hR0 : 0 < R) (hR5 : R ≤ 5) (hg : g < 100000) (hL : L ≤ 6): CT l yX6_layRow cX6_layRow 5 none (rmk 0 0) (wM cs ad) (tyX cs) D [.ref (ad 0), .int (nI g), .int (nI L)] t (va_Qv (fun u => (∀ k, k ≠ 8 → u.1 k = t.1 k) ∧ u.1 8 = nI L ∧ (∀ k, k ≠ 14 → u.2 k = t.2 k) ∧ ∀ z, z < L → u.2 14 z = nI (digR R L g z))) := by
  refine CT.of (own := RX6) (by decide) rfl (Nat.le_of_ble_eq_true rfl) ?_
  intro p9 e9 s m9 args below meth c9 A Q hC hr hlk hW hQ ls hl
  obtain ⟨hx, hb, hml, hown, hts⟩ := id hC
  have hl : lv_has ls 5 [(0, .ref (ad 0)), (1, .int (nI g)), (2, .int (nI L))] := hl
  refine lv_iload_n hx hb dX6_layRow_0 rfl (lv_at hl 1 rfl) ?_
  refine lv_istore_n (lv' := [(3, .int (nI g)), (0, .ref (ad 0)), (1, .int (nI g)), (2, .int (nI L))]) hx hb dX6_layRow_1 rfl hl (by decide) rfl (fun ls hl => ?_)
  refine lv_iload_n hx hb dX6_layRow_2 rfl (lv_at hl 3 rfl) ?_
  refine lv_iconst (v := 1) hx hb dX6_layRow_3 (by decide) ?_
  refine lv_isub hx hb dX6_layRow_4 ?_
  refine lv_istore (lv' := [(4, .int (nI L - 1)), (3, .int (nI g)), (0, .ref (ad 0)), (1, .int (nI g)), (2, .int (nI L))]) hx hb dX6_layRow_5 hl (by decide) rfl (fun ls hl => ?_)
  have loop_7_1 : ∀ (f9 : Nat) (z : Nat) (v : Nat) (u : St), (z ≤ L) → (v = g / R ^ (L - z)) → (v < 100000) → (u.1 = t.1) → (∀ k, k ≠ 14 → u.2 k = t.2 k) → (∀ j, z ≤ j → j < L → u.2 14 j = nI (digR R L g j)) → z < f9 → ∀ (H : Heap) (locs : List Loc), HX (wM cs ad) (tyX cs) D A s.heap s u H locs → ∀ ls : Array Slot, lv_has ls 5 [(4, .int (nI z - 1)), (3, .int (nI v)), (0, .ref (ad 0)), (1, .int (nI g)), (2, .int (nI L))] → W p9 l e9 (rmk 0 0) s m9 args below meth c9 H locs 0 0 Q (F0 m9 7 ls []) := by
    intro f_7
    induction f_7 with
    | zero => intro z v u hz hv hv5 hg1 hg2 hs hm_7 H locs hW ls hl; exact absurd hm_7 (Nat.not_lt_zero _)
    | succ f_7 ih_7 =>
      intro z v u hz hv hv5 hg1 hg2 hs hm_7 H locs hW ls hl
      refine lv_iload hx hb dX6_layRow_7 (lv_at hl 0 rfl) ?_
      refine lv_if_lt (tgt := 38) hx hb dX6_layRow_9 (by decide) (fun c_9_2 => ?_) (fun c_9_2 => ?_)
      · refine lv_aload_n hx hb dX6_layRow_38 rfl (lv_at hl 2 rfl) ?_
        refine lv_iload_n hx hb dX6_layRow_39 rfl (lv_at hl 4 rfl) ?_
        refine pM_steps hC hW q_fl_RX6_133 dX6_layRow_40 (fun H locs hW => ?_)
        have hW : HX (wM cs ad) (tyX cs) D A s.heap s (va_up u.1 8 (nI L), u.2) H locs := hW
        have ez0 : z = 0 := (pred_neg (by omega)).mp c_9_2
        exact r_vret hC hr hlk hW hQ (⟨fun k h => (va_up_ne _ _ h).trans (congrFun hg1 k), rfl, hg2, fun j hj => hs j (by omega) hj⟩) dX6_layRow_43
      · obtain ⟨z2, rfl⟩ : ∃ z2, z = z2 + 1 := ⟨z - 1, by have h9 := mt (pred_neg (by omega)).mpr c_9_2; omega⟩
        rw [nI_pred] at hl
        refine lv_aload_n hx hb dX6_layRow_12 rfl (lv_at hl 2 rfl) ?_
        refine gM_step hC hW q_fl_RX6_49 dX6_layRow_13 ?_
        refine lv_iload hx hb dX6_layRow_16 (lv_at hl 0 rfl) ?_
        refine lv_iload_n hx hb dX6_layRow_18 rfl (lv_at hl 1 rfl) ?_
        refine lv_aload_n hx hb dX6_layRow_19 rfl (lv_at hl 2 rfl) ?_
        refine gM_riders hC hW q_fl_RX6_74 dX6_layRow_20 ?_
        refine r_top (y := nI R) ((congrFun hg1 3).trans hR) ?_
        refine lv_irem hx hb dX6_layRow_23 (nI_ne0 hR0 (by omega)) ?_
        refine r_top (y := nI (v % R)) (by exact pk_rem (a := v) (d := R) (by omega) (by omega) (by omega)) ?_
        refine r_istN (t0 := 0) (j := z2) hC hW eM_14 rfl (rfl) (by omega) (by decide) (sM_14 _) dX6_layRow_24 (fun H locs hW => ?_)
        have hW : HX (wM cs ad) (tyX cs) D A s.heap s (u.1, va_up u.2 14 (upd (u.2 14) z2 (nI (v % R)))) H locs := hW
        refine lv_iload_n hx hb dX6_layRow_25 rfl (lv_at hl 1 rfl) ?_
        refine lv_aload_n hx hb dX6_layRow_26 rfl (lv_at hl 2 rfl) ?_
        refine gM_riders hC hW q_fl_RX6_74 dX6_layRow_27 ?_
        refine r_top (y := nI R) ((congrFun hg1 3).trans hR) ?_
        refine lv_idiv hx hb dX6_layRow_30 (nI_ne0 hR0 (by omega)) ?_
        refine r_top (y := nI (v / R)) (by exact pk_div (a := v) (d := R) (by omega) (by omega) (by omega)) ?_
        refine lv_istore_n (lv' := [(3, .int (nI (v / R))), (4, .int (nI z2)), (0, .ref (ad 0)), (1, .int (nI g)), (2, .int (nI L))]) hx hb dX6_layRow_31 rfl hl (by decide) rfl (fun ls hl => ?_)
        refine lv_iinc (v := nI z2 - 1) (lv' := [(4, .int (nI z2 - 1)), (3, .int (nI (v / R))), (0, .ref (ad 0)), (1, .int (nI g)), (2, .int (nI L))]) hx hb dX6_layRow_32 hl (k := 1) rfl (by rw [Int32.sub_eq_add_neg]; rfl) (by decide) rfl (fun ls hl => ?_)
        refine lv_goto (tgt := 7) hx hb dX6_layRow_35 (by decide) ?_
        exact ih_7 z2 (v / R) (u.1, va_up u.2 14 (upd (u.2 14) z2 (nI (v % R)))) (by omega) (by rw [hv, Nat.div_div_eq_div_mul, ← Nat.pow_succ, show (L - (z2 + 1)).succ = L - z2 by omega]) (Nat.lt_of_le_of_lt (Nat.div_le_self v R) hv5) (hg1) (fun k h => (va_up_ne _ _ h).trans (hg2 k h)) (fun j h1 h2 => by show va_up u.2 14 (upd (u.2 14) z2 _) 14 j = _; rw [va_up_self]; by_cases h9 : j = z2; subst h9; rw [pk_us]; unfold digR; rw [hv, show L - 1 - j = L - (j + 1) by omega]; rw [pk_un h9]; exact hs j (by omega) h2) (by omega) _ _ hW ls (lv_sub hl [0, 1, 2, 3, 4] rfl)
  exact loop_7_1 _ L g t (Nat.le_refl _) (by rw [Nat.sub_self, Nat.pow_zero, Nat.div_one]) (hg) (rfl) (fun _ _ => rfl) (fun j h1 h2 => absurd h1 (by omega)) (Nat.lt_succ_self _) _ _ hW ls (lv_sub hl [0, 1, 2, 3, 4] rfl)
set_option maxRecDepth 100000 in
set_option maxHeartbeats 4000000 in
theorem m_X6_areSo (l : Launch) (D : va_G) (cs : CS3) (ad : Nat → Nat) (t : St) (P R C : Nat) (stp : Nat → Nat) (n : Nat) (hP : t.1 2 = nI P) (hP8 : P ≤ 8) (hR : t.1 3 = nI R) (hR5 : R ≤ 5) (hc4 : t.1 12 = nI C) (hC8 : C ≤ 8) (hrr : ∀ k, k < C → ∃ q, q < R ∧ t.2 16 k = nI q) (hn : t.1 8 = nI n) (hn30 : n ≤ 30) (hs : ∀ z, z < n → t.2 14 z = nI (stp z) ∧ (stp z = 5 ∨ stp z < R)) (hcw : CW P (bgM t)): CT l yX6_areSo cX6_areSo 2 (some .boolean) (rmk 3 70) (wM cs ad) (tyX cs) D [.ref (ad 0)] t (va_Qi (fun r u => r = bI ((fw (hM P t) stp n 0 (bgM t)).1 = -9 ∧ soP R C (t.2 16) (t.2 17) (fw (hM P t) stp n 0 (bgM t)).2.2.2.1) ∧ agrG t u)) := by
  refine CT.of (own := RX6) (by decide) rfl (Nat.le_of_ble_eq_true rfl) ?_
  intro p9 e9 s m9 args below meth c9 A Q hC hr hlk hW hQ ls hl
  obtain ⟨hx, hb, hml, hown, hts⟩ := id hC
  have hl : lv_has ls 2 [(0, .ref (ad 0))] := hl
  refine lv_aload_n hx hb dX6_areSo_0 rfl (lv_at hl 0 rfl) ?_
  refine fin_i (run_V (rest := []) hC hW (m_X6_go l D cs ad t P R stp n hP hP8 hR hR5 hn hn30 hs hcw) k_yX6_go ⟨rfl, rfl⟩ q_ml_RX6_158 eM_0 rfl rfl hl.1 rfl (Nat.le_of_ble_eq_true rfl) ⟨Nat.le_of_ble_eq_true rfl, Nat.le_of_ble_eq_true rfl⟩ dX6_areSo_1 ⟨Nat.zero_le _, Nat.zero_le _⟩) hW (fun r1 u1 H locs hp1 hW => ?_)
  obtain ⟨hru1, hgu1, hcu1, hfu1⟩ := hp1
  refine r_top hru1 ?_
  refine lv_bipush (v := (-9)) hx hb dX6_areSo_4 (by decide) ?_
  refine lv_icmp_eq (tgt := 11) hx hb dX6_areSo_6 (by decide) (fun c_6_2 => ?_) (fun c_6_2 => ?_)
  · refine lv_iconst (v := 0) hx hb dX6_areSo_11 (by decide) ?_
    refine lv_istore_n (lv' := [(1, .int 0), (0, .ref (ad 0))]) hx hb dX6_areSo_12 rfl hl (by decide) rfl (fun ls hl => ?_)
    have loop_13_3 : ∀ (f9 : Nat) (k : Nat), (k ≤ C) → (soP R k (t.2 16) (t.2 17) (fw (hM P t) stp n 0 (bgM t)).2.2.2.1) → C - k < f9 → ∀ (H : Heap) (locs : List Loc), HX (wM cs ad) (tyX cs) D A s.heap s u1 H locs → ∀ ls : Array Slot, lv_has ls 2 [(1, .int (nI k)), (0, .ref (ad 0))] → W p9 l e9 (rmk 3 70) s m9 args below meth c9 H locs 0 0 Q (F0 m9 13 ls []) := by
      intro f_13
      induction f_13 with
      | zero => intro k hk hso hm_13 H locs hW ls hl; exact absurd hm_13 (Nat.not_lt_zero _)
      | succ f_13 ih_13 =>
        intro k hk hso hm_13 H locs hW ls hl
        refine lv_iload_n hx hb dX6_areSo_13 rfl (lv_at hl 0 rfl) ?_
        refine lv_aload_n hx hb dX6_areSo_14 rfl (lv_at hl 1 rfl) ?_
        refine gM_readings hC hW q_fl_RX6_104 dX6_areSo_15 ?_
        refine r_top (y := nI C) ((hgu1.1 12 (by omega) (by omega)).trans hc4) ?_
        refine lv_icmp_ge (tgt := 49) hx hb dX6_areSo_18 (by decide) (fun c_18_4 => ?_) (fun c_18_4 => ?_)
        · have c_18_4 : C ≤ k := (nI_leI (a := C) (b := k) (by omega) (by omega)).mp c_18_4
          refine lv_iconst (v := 1) hx hb dX6_areSo_49 (by decide) ?_
          exact r_iretz hC hr hlk hW hQ (⟨bI_t ⟨c_6_2, by have : k = C := (by omega); subst this; exact hso⟩, hgu1⟩) (rfl) dX6_areSo_50
        · have c_18_4 : ¬ C ≤ k := fun h => c_18_4 ((nI_leI (a := C) (b := k) (by omega) (by omega)).mpr h)
          obtain ⟨q9, hq9, eq9⟩ := hrr k (by omega)
          refine lv_aload_n hx hb dX6_areSo_21 rfl (lv_at hl 1 rfl) ?_
          refine gM_height hC hW q_fl_RX6_46 dX6_areSo_22 ?_
          refine lv_aload_n hx hb dX6_areSo_25 rfl (lv_at hl 1 rfl) ?_
          refine gM_readRiderOf hC hW q_fl_RX6_55 dX6_areSo_26 ?_
          refine lv_iload_n hx hb dX6_areSo_29 rfl (lv_at hl 0 rfl) ?_
          refine r_ildN (t0 := 0) (j := k) hC hW eM_16 rfl (rfl) (by omega) (by decide) dX6_areSo_30 ?_
          refine r_top (y := nI q9) ((congrFun (hgu1.2 16 (by omega) (by omega) (by omega)) k).trans eq9) ?_
          refine r_ildN (t0 := 0) (j := q9) hC hW eM_13 rfl (rfl) (by omega) (by decide) dX6_areSo_31 ?_
          refine r_top (y := (fw (hM P t) stp n 0 (bgM t)).2.2.2.1 q9) (hcu1.2.2.1 q9 hq9) ?_
          refine lv_aload_n hx hb dX6_areSo_32 rfl (lv_at hl 1 rfl) ?_
          refine gM_readHeight hC hW q_fl_RX6_58 dX6_areSo_33 ?_
          refine lv_iload_n hx hb dX6_areSo_36 rfl (lv_at hl 0 rfl) ?_
          refine r_ildN (t0 := 0) (j := k) hC hW eM_17 rfl (rfl) (by omega) (by decide) dX6_areSo_37 ?_
          refine r_top (y := t.2 17 k) (congrFun (hgu1.2 17 (by omega) (by omega) (by omega)) k) ?_
          refine lv_icmp_eq (tgt := 43) hx hb dX6_areSo_38 (by decide) (fun c_38_5 => ?_) (fun c_38_5 => ?_)
          · refine lv_iinc (v := nI (k + 1)) (lv' := [(1, .int (nI (k + 1))), (0, .ref (ad 0))]) hx hb dX6_areSo_43 hl (k := 0) rfl (nI_1 _) (by decide) rfl (fun ls hl => ?_)
            refine lv_goto (tgt := 13) hx hb dX6_areSo_46 (by decide) ?_
            exact ih_13 (k + 1) (by omega) (fun j hj => by rcases Nat.lt_succ_iff_lt_or_eq.mp hj with h9 | h9; exact hso j h9; subst h9; rw [eq9, if_pos (inN_of hq9 (by omega)), nI_clamp (by omega)]; exact c_38_5) (by omega) _ _ hW ls (lv_sub hl [0, 1] rfl)
          · refine lv_iconst (v := 0) hx hb dX6_areSo_41 (by decide) ?_
            exact r_iretz hC hr hlk hW hQ (⟨bI_f (fun h9 => c_38_5 (by have h8 := h9.2 k (by omega); rw [eq9, if_pos (inN_of hq9 (by omega)), nI_clamp (by omega)] at h8; exact h8)), hgu1⟩) (rfl) dX6_areSo_42
    exact loop_13_3 _ 0 (Nat.zero_le _) (fun k h => absurd h (by omega)) (Nat.lt_succ_self _) _ _ hW ls (lv_sub hl [0, 1] rfl)
  · refine lv_iconst (v := 0) hx hb dX6_areSo_9 (by decide) ?_
    exact r_iretz hC hr hlk hW hQ (⟨bI_f (fun h9 => c_6_2 h9.1), hgu1⟩) (rfl) dX6_areSo_10
set_option maxRecDepth 100000 in
set_option maxHeartbeats 4000000 in
theorem m_X6_isUpByRain (l : Launch) (D : va_G) (cs : CS3) (ad : Nat → Nat) (t : St) (P R q g : Nat) (stp : Nat → Nat) (n : Nat) (hP : t.1 2 = nI P) (hP8 : P ≤ 8) (hR : t.1 3 = nI R) (hR5 : R ≤ 5) (hn : t.1 8 = nI n) (hn30 : n ≤ 30) (hs : ∀ z, z < n → t.2 14 z = nI (stp z) ∧ (stp z = 5 ∨ stp z < R)) (hcw : CW P (bgM t)): CT l yX6_isUpByRain cX6_isUpByRain 4 (some .boolean) (rmk 2 49) (wM cs ad) (tyX cs) D [.ref (ad 0), .int (nI q), .int (nI g)] t (va_Qi (fun r u => r = bI (isup (ubF (hM P t) stp g n 0 (bgM t)).2.2.2 q) ∧ agrM t u)) := by
  refine CT.of (own := RX6) (by decide) rfl (Nat.le_of_ble_eq_true rfl) ?_
  intro p9 e9 s m9 args below meth c9 A Q hC hr hlk hW hQ ls hl
  obtain ⟨hx, hb, hml, hown, hts⟩ := id hC
  have hl : lv_has ls 4 [(0, .ref (ad 0)), (1, .int (nI q)), (2, .int (nI g))] := hl
  refine lv_aload_n hx hb dX6_isUpByRain_0 rfl (lv_at hl 0 rfl) ?_
  refine fin_v (run_V (rest := []) hC hW (m_X6_begin l D cs ad t P R hP hP8 hR hR5) k_yX6_begin ⟨rfl, rfl⟩ q_ml_RX6_136 eM_0 rfl rfl hl.1 rfl (Nat.le_of_ble_eq_true rfl) ⟨Nat.le_of_ble_eq_true rfl, Nat.le_of_ble_eq_true rfl⟩ dX6_isUpByRain_1 ⟨Nat.zero_le _, Nat.zero_le _⟩) hW (fun u1 H locs hp1 hW => ?_)
  obtain ⟨hgu1, heu1⟩ := hp1
  refine lv_iconst (v := 0) hx hb dX6_isUpByRain_4 (by decide) ?_
  refine lv_istore_n (lv' := [(3, .int 0), (0, .ref (ad 0)), (1, .int (nI q)), (2, .int (nI g))]) hx hb dX6_isUpByRain_5 rfl hl (by decide) rfl (fun ls hl => ?_)
  have loop_6_2 : ∀ (f9 : Nat) (k : Nat) (c : Cl) (u : St), (k ≤ n) → (agrM t u) → (CE P R (cm u) c) → (CW P c) → (ubF (hM P t) stp g (n - k) k c = ubF (hM P t) stp g n 0 (bgM t)) → n - k < f9 → ∀ (H : Heap) (locs : List Loc), HX (wM cs ad) (tyX cs) D A s.heap s u H locs → ∀ ls : Array Slot, lv_has ls 4 [(3, .int (nI k)), (0, .ref (ad 0)), (1, .int (nI q)), (2, .int (nI g))] → W p9 l e9 (rmk 2 49) s m9 args below meth c9 H locs 0 0 Q (F0 m9 6 ls []) := by
    intro f_6
    induction f_6 with
    | zero => intro k c u hk hg hc hcw9 hE hm_6 H locs hW ls hl; exact absurd hm_6 (Nat.not_lt_zero _)
    | succ f_6 ih_6 =>
      intro k c u hk hg hc hcw9 hE hm_6 H locs hW ls hl
      refine lv_iload_n hx hb dX6_isUpByRain_6 rfl (lv_at hl 0 rfl) ?_
      refine lv_aload_n hx hb dX6_isUpByRain_7 rfl (lv_at hl 1 rfl) ?_
      refine gM_steps hC hW q_fl_RX6_133 dX6_isUpByRain_8 ?_
      refine r_top (y := nI n) ((hg.1 8 (by omega)).trans hn) ?_
      refine lv_icmp_ge (tgt := 73) hx hb dX6_isUpByRain_11 (by decide) (fun c_11_3 => ?_) (fun c_11_3 => ?_)
      · have c_11_3 : n ≤ k := (nI_leI (a := n) (b := k) (by omega) (by omega)).mp c_11_3
        refine lv_aload_n hx hb dX6_isUpByRain_73 rfl (lv_at hl 1 rfl) ?_
        refine lv_iload_n hx hb dX6_isUpByRain_74 rfl (lv_at hl 2 rfl) ?_
        refine fin_i (run_V (rest := []) hC hW (m_X6_isUp l D cs ad u q) k_yX6_isUp ⟨rfl, rfl⟩ q_ml_RX6_145 eM_0 rfl rfl hl.1 rfl (Nat.le_of_ble_eq_true rfl) ⟨Nat.le_of_ble_eq_true rfl, Nat.le_of_ble_eq_true rfl⟩ dX6_isUpByRain_75 ⟨Nat.zero_le _, Nat.zero_le _⟩) hW (fun r4 u4 H locs hp4 hW => ?_)
        have hW := hx_congr hW hp4.2
        refine r_top hp4.1 ?_
        exact r_iretz hC hr hlk hW hQ (⟨bI_c (by rw [← hE, show n - k = 0 by omega, show u.1 7 = c.2.2.2 from hc.2.2.2]; exact Iff.rfl), hg⟩) (bI_nar _) dX6_isUpByRain_78
      · have c_11_3 : ¬ n ≤ k := fun h => c_11_3 ((nI_leI (a := n) (b := k) (by omega) (by omega)).mpr h)
        have hsk := (hs k (by omega)).2
        refine lv_iload_n hx hb dX6_isUpByRain_14 rfl (lv_at hl 3 rfl) ?_
        refine lv_iload_n hx hb dX6_isUpByRain_15 rfl (lv_at hl 0 rfl) ?_
        refine lv_ishr hx hb dX6_isUpByRain_16 ?_
        refine lv_iconst (v := 1) hx hb dX6_isUpByRain_17 (by decide) ?_
        refine lv_iand hx hb dX6_isUpByRain_18 ?_
        refine lv_iconst (v := 1) hx hb dX6_isUpByRain_19 (by decide) ?_
        refine lv_icmp_ne (tgt := 27) hx hb dX6_isUpByRain_20 (by decide) (fun c_20_5 => ?_) (fun c_20_5 => ?_)
        · refine lv_aload_n hx hb dX6_isUpByRain_27 rfl (lv_at hl 1 rfl) ?_
          refine gM_step hC hW q_fl_RX6_49 dX6_isUpByRain_28 ?_
          refine lv_iload_n hx hb dX6_isUpByRain_31 rfl (lv_at hl 0 rfl) ?_
          refine r_ildN (t0 := 0) (j := k) hC hW eM_14 rfl (rfl) (by omega) (by decide) dX6_isUpByRain_32 ?_
          refine r_top (y := nI (stp k)) ((congrFun (hg.2 14 (by omega) (by omega) (by omega)) k).trans (hs k (by omega)).1) ?_
          refine lv_iconst (v := 5) hx hb dX6_isUpByRain_33 (by decide) ?_
          refine lv_icmp_ne (tgt := 44) hx hb dX6_isUpByRain_34 (by decide) (fun c_34_6 => ?_) (fun c_34_6 => ?_)
          · have c_34_6 : ¬ (stp k) = 5 := fun h => c_34_6 ((nI_eq (a := stp k) (b := 5) (by omega) (by omega)).mpr h)
            refine lv_aload_n hx hb dX6_isUpByRain_44 rfl (lv_at hl 1 rfl) ?_
            refine lv_aload_n hx hb dX6_isUpByRain_45 rfl (lv_at hl 1 rfl) ?_
            refine gM_step hC hW q_fl_RX6_49 dX6_isUpByRain_46 ?_
            refine lv_iload_n hx hb dX6_isUpByRain_49 rfl (lv_at hl 0 rfl) ?_
            refine r_ildN (t0 := 0) (j := k) hC hW eM_14 rfl (rfl) (by omega) (by decide) dX6_isUpByRain_50 ?_
            refine r_top (y := nI (stp k)) ((congrFun (hg.2 14 (by omega) (by omega) (by omega)) k).trans (hs k (by omega)).1) ?_
            refine fin_i (run_V (rest := []) hC hW (m_X6_isUp l D cs ad u (stp k)) k_yX6_isUp ⟨rfl, rfl⟩ q_ml_RX6_145 eM_0 rfl rfl hl.1 rfl (Nat.le_of_ble_eq_true rfl) ⟨Nat.le_of_ble_eq_true rfl, Nat.le_of_ble_eq_true rfl⟩ dX6_isUpByRain_51 ⟨Nat.zero_le _, Nat.zero_le _⟩) hW (fun r7 u7 H locs hp7 hW => ?_)
            have hW := hx_congr hW hp7.2
            refine r_top hp7.1 ?_
            refine lv_if_ne (tgt := 67) hx hb dX6_isUpByRain_54 (by decide) (fun c_54_8 => ?_) (fun c_54_8 => ?_)
            · have c_54_8 := bI_nz c_54_8
              refine lv_iinc (v := nI (k + 1)) (lv' := [(3, .int (nI (k + 1))), (0, .ref (ad 0)), (1, .int (nI q)), (2, .int (nI g))]) hx hb dX6_isUpByRain_67 hl (k := 0) rfl (nI_1 _) (by decide) rfl (fun ls hl => ?_)
              refine lv_goto (tgt := 6) hx hb dX6_isUpByRain_70 (by decide) ?_
              exact ih_6 (k + 1) c u (by omega) (hg) (hc) (hcw9) (by rw [← hE, show n - k = (n - (k + 1)) + 1 by omega, ubF, if_neg c_20_5, show goOn (hM P t) (stp k) (c) = c from by unfold goOn; rw [if_neg c_34_6, if_pos (by rw [← (hc).2.2.2]; exact c_54_8)]]) (by omega) _ _ hW ls (lv_sub hl [0, 1, 2, 3] rfl)
            · have c_54_8 := bI_z.mp c_54_8
              refine lv_aload_n hx hb dX6_isUpByRain_57 rfl (lv_at hl 1 rfl) ?_
              refine lv_aload_n hx hb dX6_isUpByRain_58 rfl (lv_at hl 1 rfl) ?_
              refine gM_step hC hW q_fl_RX6_49 dX6_isUpByRain_59 ?_
              refine lv_iload_n hx hb dX6_isUpByRain_62 rfl (lv_at hl 0 rfl) ?_
              refine r_ildN (t0 := 0) (j := k) hC hW eM_14 rfl (rfl) (by omega) (by decide) dX6_isUpByRain_63 ?_
              refine r_top (y := nI (stp k)) ((congrFun (hg.2 14 (by omega) (by omega) (by omega)) k).trans (hs k (by omega)).1) ?_
              refine fin_v (run_V (rest := []) hC hW (m_X6_tryOnce l D cs ad u P R (stp k) ((hg.1 2 (by omega)).trans hP) hP8 ((hg.1 3 (by omega)).trans hR) hR5 (by omega)) k_yX6_tryOnce ⟨rfl, rfl⟩ q_ml_RX6_148 eM_0 rfl rfl hl.1 rfl (Nat.le_of_ble_eq_true rfl) ⟨Nat.le_of_ble_eq_true rfl, Nat.le_of_ble_eq_true rfl⟩ dX6_isUpByRain_64 ⟨Nat.zero_le _, Nat.zero_le _⟩) hW (fun u9 H locs hp9 hW => ?_)
              obtain ⟨hgu9, heu9⟩ := hp9
              refine lv_iinc (v := nI (k + 1)) (lv' := [(3, .int (nI (k + 1))), (0, .ref (ad 0)), (1, .int (nI q)), (2, .int (nI g))]) hx hb dX6_isUpByRain_67 hl (k := 0) rfl (nI_1 _) (by decide) rfl (fun ls hl => ?_)
              refine lv_goto (tgt := 6) hx hb dX6_isUpByRain_70 (by decide) ?_
              exact ih_6 (k + 1) (att (hM P t) (stp k) (c)) u9 (by omega) (hg.tr hgu9) (by rw [heu9, hg.g.eh]; exact att_ce rfl (show stp k < R by omega) hc) ((hcw9).att) (by rw [← hE, show n - k = (n - (k + 1)) + 1 by omega, ubF, if_neg c_20_5, show goOn (hM P t) (stp k) (c) = att (hM P t) (stp k) (c) from by unfold goOn; rw [if_neg c_34_6, if_neg (by rw [← (hc).2.2.2]; exact c_54_8)]]) (by omega) _ _ hW ls (lv_sub hl [0, 1, 2, 3] rfl)
          · have c_34_6 : stp k = 5 := (nI_eq (a := stp k) (b := 5) (by omega) (by omega)).mp c_34_6
            refine lv_aload_n hx hb dX6_isUpByRain_37 rfl (lv_at hl 1 rfl) ?_
            refine fin_v (run_V (rest := []) hC hW (m_X6_rain l D cs ad u P ((hg.1 2 (by omega)).trans hP) hP8 (hc.cw hcw9)) k_yX6_rain ⟨rfl, rfl⟩ q_ml_RX6_142 eM_0 rfl rfl hl.1 rfl (Nat.le_of_ble_eq_true rfl) ⟨Nat.le_of_ble_eq_true rfl, Nat.le_of_ble_eq_true rfl⟩ dX6_isUpByRain_38 ⟨Nat.zero_le _, Nat.zero_le _⟩) hW (fun u10 H locs hp10 hW => ?_)
            obtain ⟨hgu10, heu10⟩ := hp10
            refine lv_goto (tgt := 67) hx hb dX6_isUpByRain_41 (by decide) ?_
            refine lv_iinc (v := nI (k + 1)) (lv' := [(3, .int (nI (k + 1))), (0, .ref (ad 0)), (1, .int (nI q)), (2, .int (nI g))]) hx hb dX6_isUpByRain_67 hl (k := 0) rfl (nI_1 _) (by decide) rfl (fun ls hl => ?_)
            refine lv_goto (tgt := 6) hx hb dX6_isUpByRain_70 (by decide) ?_
            exact ih_6 (k + 1) (rain P (c)) u10 (by omega) (hg.tr hgu10) (by rw [heu10]; exact rain_ce hc) ((hcw9).rain) (by rw [← hE, show n - k = (n - (k + 1)) + 1 by omega, ubF, if_neg c_20_5, show goOn (hM P t) (stp k) (c) = rain P (c) from by unfold goOn; rw [if_pos c_34_6] <;> rfl]) (by omega) _ _ hW ls (lv_sub hl [0, 1, 2, 3] rfl)
        · refine lv_aload_n hx hb dX6_isUpByRain_23 rfl (lv_at hl 1 rfl) ?_
          refine fin_v (run_V (rest := []) hC hW (m_X6_rain l D cs ad u P ((hg.1 2 (by omega)).trans hP) hP8 (hc.cw hcw9)) k_yX6_rain ⟨rfl, rfl⟩ q_ml_RX6_142 eM_0 rfl rfl hl.1 rfl (Nat.le_of_ble_eq_true rfl) ⟨Nat.le_of_ble_eq_true rfl, Nat.le_of_ble_eq_true rfl⟩ dX6_isUpByRain_24 ⟨Nat.zero_le _, Nat.zero_le _⟩) hW (fun u11 H locs hp11 hW => ?_)
          obtain ⟨hgu11, heu11⟩ := hp11
          have hce2 : CE P R (cm u11) (rain P c) := by rw [heu11]; exact rain_ce hc
          have hg2 := hg.tr hgu11
          refine lv_aload_n hx hb dX6_isUpByRain_27 rfl (lv_at hl 1 rfl) ?_
          refine gM_step hC hW q_fl_RX6_49 dX6_isUpByRain_28 ?_
          refine lv_iload_n hx hb dX6_isUpByRain_31 rfl (lv_at hl 0 rfl) ?_
          refine r_ildN (t0 := 0) (j := k) hC hW eM_14 rfl (rfl) (by omega) (by decide) dX6_isUpByRain_32 ?_
          refine r_top (y := nI (stp k)) ((congrFun (hgu11.2 14 (by omega) (by omega) (by omega)) k).trans ((congrFun (hg.2 14 (by omega) (by omega) (by omega)) k).trans (hs k (by omega)).1)) ?_
          refine lv_iconst (v := 5) hx hb dX6_isUpByRain_33 (by decide) ?_
          refine lv_icmp_ne (tgt := 44) hx hb dX6_isUpByRain_34 (by decide) (fun c_34_12 => ?_) (fun c_34_12 => ?_)
          · have c_34_12 : ¬ (stp k) = 5 := fun h => c_34_12 ((nI_eq (a := stp k) (b := 5) (by omega) (by omega)).mpr h)
            refine lv_aload_n hx hb dX6_isUpByRain_44 rfl (lv_at hl 1 rfl) ?_
            refine lv_aload_n hx hb dX6_isUpByRain_45 rfl (lv_at hl 1 rfl) ?_
            refine gM_step hC hW q_fl_RX6_49 dX6_isUpByRain_46 ?_
            refine lv_iload_n hx hb dX6_isUpByRain_49 rfl (lv_at hl 0 rfl) ?_
            refine r_ildN (t0 := 0) (j := k) hC hW eM_14 rfl (rfl) (by omega) (by decide) dX6_isUpByRain_50 ?_
            refine r_top (y := nI (stp k)) ((congrFun (hgu11.2 14 (by omega) (by omega) (by omega)) k).trans ((congrFun (hg.2 14 (by omega) (by omega) (by omega)) k).trans (hs k (by omega)).1)) ?_
            refine fin_i (run_V (rest := []) hC hW (m_X6_isUp l D cs ad u11 (stp k)) k_yX6_isUp ⟨rfl, rfl⟩ q_ml_RX6_145 eM_0 rfl rfl hl.1 rfl (Nat.le_of_ble_eq_true rfl) ⟨Nat.le_of_ble_eq_true rfl, Nat.le_of_ble_eq_true rfl⟩ dX6_isUpByRain_51 ⟨Nat.zero_le _, Nat.zero_le _⟩) hW (fun r13 u13 H locs hp13 hW => ?_)
            have hW := hx_congr hW hp13.2
            refine r_top hp13.1 ?_
            refine lv_if_ne (tgt := 67) hx hb dX6_isUpByRain_54 (by decide) (fun c_54_14 => ?_) (fun c_54_14 => ?_)
            · have c_54_14 := bI_nz c_54_14
              refine lv_iinc (v := nI (k + 1)) (lv' := [(3, .int (nI (k + 1))), (0, .ref (ad 0)), (1, .int (nI q)), (2, .int (nI g))]) hx hb dX6_isUpByRain_67 hl (k := 0) rfl (nI_1 _) (by decide) rfl (fun ls hl => ?_)
              refine lv_goto (tgt := 6) hx hb dX6_isUpByRain_70 (by decide) ?_
              exact ih_6 (k + 1) (rain P c) u11 (by omega) (hg2) (hce2) (hcw9.rain) (by rw [← hE, show n - k = (n - (k + 1)) + 1 by omega, ubF, if_pos c_20_5, show (hM P t).1 = P from rfl, show goOn (hM P t) (stp k) (rain P c) = rain P c from by unfold goOn; rw [if_neg c_34_12, if_pos (by rw [← (hce2).2.2.2]; exact c_54_14)]]) (by omega) _ _ hW ls (lv_sub hl [0, 1, 2, 3] rfl)
            · have c_54_14 := bI_z.mp c_54_14
              refine lv_aload_n hx hb dX6_isUpByRain_57 rfl (lv_at hl 1 rfl) ?_
              refine lv_aload_n hx hb dX6_isUpByRain_58 rfl (lv_at hl 1 rfl) ?_
              refine gM_step hC hW q_fl_RX6_49 dX6_isUpByRain_59 ?_
              refine lv_iload_n hx hb dX6_isUpByRain_62 rfl (lv_at hl 0 rfl) ?_
              refine r_ildN (t0 := 0) (j := k) hC hW eM_14 rfl (rfl) (by omega) (by decide) dX6_isUpByRain_63 ?_
              refine r_top (y := nI (stp k)) ((congrFun (hgu11.2 14 (by omega) (by omega) (by omega)) k).trans ((congrFun (hg.2 14 (by omega) (by omega) (by omega)) k).trans (hs k (by omega)).1)) ?_
              refine fin_v (run_V (rest := []) hC hW (m_X6_tryOnce l D cs ad u11 P R (stp k) ((hgu11.1 2 (by omega)).trans ((hg.1 2 (by omega)).trans hP)) hP8 ((hgu11.1 3 (by omega)).trans ((hg.1 3 (by omega)).trans hR)) hR5 (by omega)) k_yX6_tryOnce ⟨rfl, rfl⟩ q_ml_RX6_148 eM_0 rfl rfl hl.1 rfl (Nat.le_of_ble_eq_true rfl) ⟨Nat.le_of_ble_eq_true rfl, Nat.le_of_ble_eq_true rfl⟩ dX6_isUpByRain_64 ⟨Nat.zero_le _, Nat.zero_le _⟩) hW (fun u15 H locs hp15 hW => ?_)
              obtain ⟨hgu15, heu15⟩ := hp15
              refine lv_iinc (v := nI (k + 1)) (lv' := [(3, .int (nI (k + 1))), (0, .ref (ad 0)), (1, .int (nI q)), (2, .int (nI g))]) hx hb dX6_isUpByRain_67 hl (k := 0) rfl (nI_1 _) (by decide) rfl (fun ls hl => ?_)
              refine lv_goto (tgt := 6) hx hb dX6_isUpByRain_70 (by decide) ?_
              exact ih_6 (k + 1) (att (hM P t) (stp k) (rain P c)) u15 (by omega) (hg2.tr hgu15) (by rw [heu15, hg2.g.eh]; exact att_ce rfl (show stp k < R by omega) hce2) ((hcw9.rain).att) (by rw [← hE, show n - k = (n - (k + 1)) + 1 by omega, ubF, if_pos c_20_5, show (hM P t).1 = P from rfl, show goOn (hM P t) (stp k) (rain P c) = att (hM P t) (stp k) (rain P c) from by unfold goOn; rw [if_neg c_34_12, if_neg (by rw [← (hce2).2.2.2]; exact c_54_14)]]) (by omega) _ _ hW ls (lv_sub hl [0, 1, 2, 3] rfl)
          · have c_34_12 : stp k = 5 := (nI_eq (a := stp k) (b := 5) (by omega) (by omega)).mp c_34_12
            refine lv_aload_n hx hb dX6_isUpByRain_37 rfl (lv_at hl 1 rfl) ?_
            refine fin_v (run_V (rest := []) hC hW (m_X6_rain l D cs ad u11 P ((hgu11.1 2 (by omega)).trans ((hg.1 2 (by omega)).trans hP)) hP8 (hce2.cw hcw9.rain)) k_yX6_rain ⟨rfl, rfl⟩ q_ml_RX6_142 eM_0 rfl rfl hl.1 rfl (Nat.le_of_ble_eq_true rfl) ⟨Nat.le_of_ble_eq_true rfl, Nat.le_of_ble_eq_true rfl⟩ dX6_isUpByRain_38 ⟨Nat.zero_le _, Nat.zero_le _⟩) hW (fun u16 H locs hp16 hW => ?_)
            obtain ⟨hgu16, heu16⟩ := hp16
            refine lv_goto (tgt := 67) hx hb dX6_isUpByRain_41 (by decide) ?_
            refine lv_iinc (v := nI (k + 1)) (lv' := [(3, .int (nI (k + 1))), (0, .ref (ad 0)), (1, .int (nI q)), (2, .int (nI g))]) hx hb dX6_isUpByRain_67 hl (k := 0) rfl (nI_1 _) (by decide) rfl (fun ls hl => ?_)
            refine lv_goto (tgt := 6) hx hb dX6_isUpByRain_70 (by decide) ?_
            exact ih_6 (k + 1) (rain P (rain P c)) u16 (by omega) (hg2.tr hgu16) (by rw [heu16]; exact rain_ce hce2) ((hcw9.rain).rain) (by rw [← hE, show n - k = (n - (k + 1)) + 1 by omega, ubF, if_pos c_20_5, show (hM P t).1 = P from rfl, show goOn (hM P t) (stp k) (rain P c) = rain P (rain P c) from by unfold goOn; rw [if_pos c_34_12] <;> rfl]) (by omega) _ _ hW ls (lv_sub hl [0, 1, 2, 3] rfl)
  exact loop_6_2 _ 0 (bgM t) u1 (Nat.zero_le _) (hgu1) (heu1) (hcw) (rfl) (Nat.lt_succ_self _) _ _ hW ls (lv_sub hl [0, 1, 2, 3] rfl)
