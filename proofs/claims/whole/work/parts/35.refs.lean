set_option maxRecDepth 100000 in
set_option maxHeartbeats 4000000 in
theorem m_X6_othersHeights1 (l : Launch) (D : va_G) (cs : CS3) (ad : Nat → Nat) (t : St) (P R q : Nat) (hP : t.1 2 = nI P) (hP8 : P ≤ 8) (hR : t.1 3 = nI R) (hR5 : R ≤ 5) (hq : q < R): CT l yX6_othersHeights cX6_othersHeights 5 (some .int) (rmk 2 49) (wM cs ad) (tyX cs) D [.ref (ad 0), .int (nI q), .int 1] t (va_Qi (fun r u => r = hoF (hM P t) R q true R 0 (bgM t) 0 ∧ agrM t u)) := by
  refine CT.of (own := RX6) (by decide) rfl (Nat.le_of_ble_eq_true rfl) ?_
  intro p9 e9 s m9 args below meth c9 A Q hC hr hlk hW hQ ls hl
  obtain ⟨hx, hb, hml, hown, hts⟩ := id hC
  have hl : lv_has ls 5 [(0, .ref (ad 0)), (1, .int (nI q)), (2, .int 1)] := hl
  refine lv_aload_n hx hb dX6_othersHeights_0 rfl (lv_at hl 0 rfl) ?_
  refine fin_v (run_V (rest := []) hC hW (m_X6_begin l D cs ad t P R hP hP8 hR hR5) k_yX6_begin ⟨rfl, rfl⟩ q_ml_RX6_136 eM_0 rfl rfl hl.1 rfl (Nat.le_of_ble_eq_true rfl) ⟨Nat.le_of_ble_eq_true rfl, Nat.le_of_ble_eq_true rfl⟩ dX6_othersHeights_1 ⟨Nat.zero_le _, Nat.zero_le _⟩) hW (fun u1 H locs hp1 hW => ?_)
  obtain ⟨hgu1, heu1⟩ := hp1
  refine lv_iconst (v := 0) hx hb dX6_othersHeights_4 (by decide) ?_
  refine lv_istore_n (lv' := [(3, .int 0), (0, .ref (ad 0)), (1, .int (nI q)), (2, .int 1)]) hx hb dX6_othersHeights_5 rfl hl (by decide) rfl (fun ls hl => ?_)
  refine lv_iconst (v := 0) hx hb dX6_othersHeights_6 (by decide) ?_
  refine lv_istore (lv' := [(4, .int 0), (3, .int 0), (0, .ref (ad 0)), (1, .int (nI q)), (2, .int 1)]) hx hb dX6_othersHeights_7 hl (by decide) rfl (fun ls hl => ?_)
  have loop_9_2 : ∀ (f9 : Nat) (k : Nat) (c : Cl) (x : Int32) (u : St), (k ≤ R) → (agrM t u) → (CE P R (cm u) c) → (hoF (hM P t) R q true (R - k) k c x = hoF (hM P t) R q true R 0 (bgM t) 0) → R - k < f9 → ∀ (H : Heap) (locs : List Loc), HX (wM cs ad) (tyX cs) D A s.heap s u H locs → ∀ ls : Array Slot, lv_has ls 5 [(4, .int (nI k)), (3, .int x), (0, .ref (ad 0)), (1, .int (nI q)), (2, .int 1)] → W p9 l e9 (rmk 2 49) s m9 args below meth c9 H locs 0 0 Q (F0 m9 9 ls []) := by
    intro f_9
    induction f_9 with
    | zero => intro k c x u hk hg hc hE hm_9 H locs hW ls hl; exact absurd hm_9 (Nat.not_lt_zero _)
    | succ f_9 ih_9 =>
      intro k c x u hk hg hc hE hm_9 H locs hW ls hl
      refine lv_iload hx hb dX6_othersHeights_9 (lv_at hl 0 rfl) ?_
      refine lv_aload_n hx hb dX6_othersHeights_11 rfl (lv_at hl 2 rfl) ?_
      refine gM_riders hC hW q_fl_RX6_74 dX6_othersHeights_12 ?_
      refine r_top (y := nI R) ((hg.1 3 (by omega)).trans hR) ?_
      refine lv_icmp_ge (tgt := 60) hx hb dX6_othersHeights_15 (by decide) (fun c_15_3 => ?_) (fun c_15_3 => ?_)
      · have c_15_3 : R ≤ k := (nI_leI (a := R) (b := k) (by omega) (by omega)).mp c_15_3
        refine lv_iload_n hx hb dX6_othersHeights_60 rfl (lv_at hl 1 rfl) ?_
        exact r_ireti hC hr hlk hW hQ (⟨by rw [← hE, show R - k = 0 by omega]; rfl, hg⟩) dX6_othersHeights_61
      · have c_15_3 : ¬ R ≤ k := fun h => c_15_3 ((nI_leI (a := R) (b := k) (by omega) (by omega)).mpr h)
        refine lv_iload hx hb dX6_othersHeights_18 (lv_at hl 0 rfl) ?_
        refine lv_iload_n hx hb dX6_othersHeights_20 rfl (lv_at hl 3 rfl) ?_
        refine lv_icmp_ne (tgt := 28) hx hb dX6_othersHeights_21 (by decide) (fun c_21_4 => ?_) (fun c_21_4 => ?_)
        · have c_21_4 : ¬ k = q := fun h => c_21_4 ((nI_eq (a := k) (b := q) (by omega) (by omega)).mpr h)
          refine lv_aload_n hx hb dX6_othersHeights_28 rfl (lv_at hl 2 rfl) ?_
          refine lv_iload hx hb dX6_othersHeights_29 (lv_at hl 0 rfl) ?_
          refine fin_v (run_V (rest := []) hC hW (m_X6_tryOnce l D cs ad u P R k ((hg.1 2 (by omega)).trans hP) hP8 ((hg.1 3 (by omega)).trans hR) hR5 (by omega)) k_yX6_tryOnce ⟨rfl, rfl⟩ q_ml_RX6_148 eM_0 rfl rfl hl.1 rfl (Nat.le_of_ble_eq_true rfl) ⟨Nat.le_of_ble_eq_true rfl, Nat.le_of_ble_eq_true rfl⟩ dX6_othersHeights_31 ⟨Nat.zero_le _, Nat.zero_le _⟩) hW (fun u5 H locs hp5 hW => ?_)
          obtain ⟨hgu5, heu5⟩ := hp5
          refine lv_iload_n hx hb dX6_othersHeights_34 rfl (lv_at hl 1 rfl) ?_
          refine lv_iload hx hb dX6_othersHeights_35 (lv_at hl 0 rfl) ?_
          refine lv_iload_n hx hb dX6_othersHeights_37 rfl (lv_at hl 3 rfl) ?_
          refine lv_icmp_ne (tgt := 45) hx hb dX6_othersHeights_38 (by decide) (fun c_38_6 => ?_) (fun c_38_6 => ?_)
          · have c_38_6 : ¬ k = q := fun h => c_38_6 ((nI_eq (a := k) (b := q) (by omega) (by omega)).mpr h)
            refine lv_aload_n hx hb dX6_othersHeights_45 rfl (lv_at hl 2 rfl) ?_
            refine gM_height hC hW q_fl_RX6_46 dX6_othersHeights_46 ?_
            refine lv_iload hx hb dX6_othersHeights_49 (lv_at hl 0 rfl) ?_
            refine r_ildN (t0 := 0) (j := k) hC hW eM_13 rfl (rfl) (by omega) (by decide) dX6_othersHeights_51 ?_
            refine r_top (y := (att (hM P t) k c).2.2.1 k) (by have h9 := (att_ce (h := hM P t) (q := k) rfl (by omega) hc).2.2.1 k (by omega); rw [← h9, ← hg.g.eh, ← heu5]; rfl) ?_
            refine lv_iadd hx hb dX6_othersHeights_52 ?_
            refine lv_istore_n (lv' := [(3, .int (x + ((att (hM P t) k c).2.2.1 k))), (4, .int (nI k)), (0, .ref (ad 0)), (1, .int (nI q)), (2, .int 1)]) hx hb dX6_othersHeights_53 rfl hl (by decide) rfl (fun ls hl => ?_)
            refine lv_iinc (v := nI (k + 1)) (lv' := [(4, .int (nI (k + 1))), (3, .int (x + ((att (hM P t) k c).2.2.1 k))), (0, .ref (ad 0)), (1, .int (nI q)), (2, .int 1)]) hx hb dX6_othersHeights_54 hl (k := 1) rfl (nI_1 _) (by decide) rfl (fun ls hl => ?_)
            refine lv_goto (tgt := 9) hx hb dX6_othersHeights_57 (by decide) ?_
            exact ih_9 (k + 1) (att (hM P t) k c) (x + (att (hM P t) k c).2.2.1 k) u5 (by omega) (hg.tr hgu5) (by rw [heu5, hg.g.eh]; exact att_ce rfl (by omega) hc) (by rw [← hE, show R - k = (R - (k + 1)) + 1 by omega]; show _ = ite _ _ _; rw [if_neg c_21_4] <;> rfl) (by omega) _ _ hW ls (lv_sub hl [0, 1, 2, 3, 4] rfl)
          · have c_38_6 : k = q := (nI_eq (a := k) (b := q) (by omega) (by omega)).mp c_38_6
            exact absurd c_38_6 c_21_4
        · have c_21_4 : k = q := (nI_eq (a := k) (b := q) (by omega) (by omega)).mp c_21_4
          refine lv_iload_n hx hb dX6_othersHeights_24 rfl (lv_at hl 4 rfl) ?_
          refine lv_if_eq (tgt := 54) hx hb dX6_othersHeights_25 (by decide) (fun c_25_7 => ?_) (fun c_25_7 => ?_)
          · exact absurd c_25_7 (by decide)
          · refine lv_aload_n hx hb dX6_othersHeights_28 rfl (lv_at hl 2 rfl) ?_
            refine lv_iload hx hb dX6_othersHeights_29 (lv_at hl 0 rfl) ?_
            refine fin_v (run_V (rest := []) hC hW (m_X6_tryOnce l D cs ad u P R k ((hg.1 2 (by omega)).trans hP) hP8 ((hg.1 3 (by omega)).trans hR) hR5 (by omega)) k_yX6_tryOnce ⟨rfl, rfl⟩ q_ml_RX6_148 eM_0 rfl rfl hl.1 rfl (Nat.le_of_ble_eq_true rfl) ⟨Nat.le_of_ble_eq_true rfl, Nat.le_of_ble_eq_true rfl⟩ dX6_othersHeights_31 ⟨Nat.zero_le _, Nat.zero_le _⟩) hW (fun u8 H locs hp8 hW => ?_)
            obtain ⟨hgu8, heu8⟩ := hp8
            refine lv_iload_n hx hb dX6_othersHeights_34 rfl (lv_at hl 1 rfl) ?_
            refine lv_iload hx hb dX6_othersHeights_35 (lv_at hl 0 rfl) ?_
            refine lv_iload_n hx hb dX6_othersHeights_37 rfl (lv_at hl 3 rfl) ?_
            refine lv_icmp_ne (tgt := 45) hx hb dX6_othersHeights_38 (by decide) (fun c_38_9 => ?_) (fun c_38_9 => ?_)
            · have c_38_9 : ¬ k = q := fun h => c_38_9 ((nI_eq (a := k) (b := q) (by omega) (by omega)).mpr h)
              exact absurd c_21_4 c_38_9
            · have c_38_9 : k = q := (nI_eq (a := k) (b := q) (by omega) (by omega)).mp c_38_9
              refine lv_iconst (v := 0) hx hb dX6_othersHeights_41 (by decide) ?_
              refine lv_goto (tgt := 52) hx hb dX6_othersHeights_42 (by decide) ?_
              refine lv_iadd hx hb dX6_othersHeights_52 ?_
              refine lv_istore_n (lv' := [(3, .int (x + 0)), (4, .int (nI k)), (0, .ref (ad 0)), (1, .int (nI q)), (2, .int 1)]) hx hb dX6_othersHeights_53 rfl hl (by decide) rfl (fun ls hl => ?_)
              refine lv_iinc (v := nI (k + 1)) (lv' := [(4, .int (nI (k + 1))), (3, .int (x + 0)), (0, .ref (ad 0)), (1, .int (nI q)), (2, .int 1)]) hx hb dX6_othersHeights_54 hl (k := 1) rfl (nI_1 _) (by decide) rfl (fun ls hl => ?_)
              refine lv_goto (tgt := 9) hx hb dX6_othersHeights_57 (by decide) ?_
              rw [show x + 0 = x from Int32.add_zero x] at hl
              exact ih_9 (k + 1) (att (hM P t) k c) x u8 (by omega) (hg.tr hgu8) (by rw [heu8, hg.g.eh]; exact att_ce rfl (by omega) hc) (by rw [← hE, show R - k = (R - (k + 1)) + 1 by omega]; show _ = ite _ _ _; rw [if_pos c_21_4] <;> rfl) (by omega) _ _ hW ls (lv_sub hl [0, 1, 2, 3, 4] rfl)
  exact loop_9_2 _ 0 (bgM t) 0 u1 (Nat.zero_le _) (hgu1) (heu1) (rfl) (Nat.lt_succ_self _) _ _ hW ls (lv_sub hl [0, 1, 2, 3, 4] rfl)
set_option maxRecDepth 100000 in
set_option maxHeartbeats 4000000 in
theorem m_X6_othersHeights0 (l : Launch) (D : va_G) (cs : CS3) (ad : Nat → Nat) (t : St) (P R q : Nat) (hP : t.1 2 = nI P) (hP8 : P ≤ 8) (hR : t.1 3 = nI R) (hR5 : R ≤ 5) (hq : q < R): CT l yX6_othersHeights cX6_othersHeights 5 (some .int) (rmk 2 49) (wM cs ad) (tyX cs) D [.ref (ad 0), .int (nI q), .int 0] t (va_Qi (fun r u => r = hoF (hM P t) R q false R 0 (bgM t) 0 ∧ agrM t u)) := by
  refine CT.of (own := RX6) (by decide) rfl (Nat.le_of_ble_eq_true rfl) ?_
  intro p9 e9 s m9 args below meth c9 A Q hC hr hlk hW hQ ls hl
  obtain ⟨hx, hb, hml, hown, hts⟩ := id hC
  have hl : lv_has ls 5 [(0, .ref (ad 0)), (1, .int (nI q)), (2, .int 0)] := hl
  refine lv_aload_n hx hb dX6_othersHeights_0 rfl (lv_at hl 0 rfl) ?_
  refine fin_v (run_V (rest := []) hC hW (m_X6_begin l D cs ad t P R hP hP8 hR hR5) k_yX6_begin ⟨rfl, rfl⟩ q_ml_RX6_136 eM_0 rfl rfl hl.1 rfl (Nat.le_of_ble_eq_true rfl) ⟨Nat.le_of_ble_eq_true rfl, Nat.le_of_ble_eq_true rfl⟩ dX6_othersHeights_1 ⟨Nat.zero_le _, Nat.zero_le _⟩) hW (fun u1 H locs hp1 hW => ?_)
  obtain ⟨hgu1, heu1⟩ := hp1
  refine lv_iconst (v := 0) hx hb dX6_othersHeights_4 (by decide) ?_
  refine lv_istore_n (lv' := [(3, .int 0), (0, .ref (ad 0)), (1, .int (nI q)), (2, .int 0)]) hx hb dX6_othersHeights_5 rfl hl (by decide) rfl (fun ls hl => ?_)
  refine lv_iconst (v := 0) hx hb dX6_othersHeights_6 (by decide) ?_
  refine lv_istore (lv' := [(4, .int 0), (3, .int 0), (0, .ref (ad 0)), (1, .int (nI q)), (2, .int 0)]) hx hb dX6_othersHeights_7 hl (by decide) rfl (fun ls hl => ?_)
  have loop_9_2 : ∀ (f9 : Nat) (k : Nat) (c : Cl) (x : Int32) (u : St), (k ≤ R) → (agrM t u) → (CE P R (cm u) c) → (hoF (hM P t) R q false (R - k) k c x = hoF (hM P t) R q false R 0 (bgM t) 0) → R - k < f9 → ∀ (H : Heap) (locs : List Loc), HX (wM cs ad) (tyX cs) D A s.heap s u H locs → ∀ ls : Array Slot, lv_has ls 5 [(4, .int (nI k)), (3, .int x), (0, .ref (ad 0)), (1, .int (nI q)), (2, .int 0)] → W p9 l e9 (rmk 2 49) s m9 args below meth c9 H locs 0 0 Q (F0 m9 9 ls []) := by
    intro f_9
    induction f_9 with
    | zero => intro k c x u hk hg hc hE hm_9 H locs hW ls hl; exact absurd hm_9 (Nat.not_lt_zero _)
    | succ f_9 ih_9 =>
      intro k c x u hk hg hc hE hm_9 H locs hW ls hl
      refine lv_iload hx hb dX6_othersHeights_9 (lv_at hl 0 rfl) ?_
      refine lv_aload_n hx hb dX6_othersHeights_11 rfl (lv_at hl 2 rfl) ?_
      refine gM_riders hC hW q_fl_RX6_74 dX6_othersHeights_12 ?_
      refine r_top (y := nI R) ((hg.1 3 (by omega)).trans hR) ?_
      refine lv_icmp_ge (tgt := 60) hx hb dX6_othersHeights_15 (by decide) (fun c_15_3 => ?_) (fun c_15_3 => ?_)
      · have c_15_3 : R ≤ k := (nI_leI (a := R) (b := k) (by omega) (by omega)).mp c_15_3
        refine lv_iload_n hx hb dX6_othersHeights_60 rfl (lv_at hl 1 rfl) ?_
        exact r_ireti hC hr hlk hW hQ (⟨by rw [← hE, show R - k = 0 by omega]; rfl, hg⟩) dX6_othersHeights_61
      · have c_15_3 : ¬ R ≤ k := fun h => c_15_3 ((nI_leI (a := R) (b := k) (by omega) (by omega)).mpr h)
        refine lv_iload hx hb dX6_othersHeights_18 (lv_at hl 0 rfl) ?_
        refine lv_iload_n hx hb dX6_othersHeights_20 rfl (lv_at hl 3 rfl) ?_
        refine lv_icmp_ne (tgt := 28) hx hb dX6_othersHeights_21 (by decide) (fun c_21_4 => ?_) (fun c_21_4 => ?_)
        · have c_21_4 : ¬ k = q := fun h => c_21_4 ((nI_eq (a := k) (b := q) (by omega) (by omega)).mpr h)
          refine lv_aload_n hx hb dX6_othersHeights_28 rfl (lv_at hl 2 rfl) ?_
          refine lv_iload hx hb dX6_othersHeights_29 (lv_at hl 0 rfl) ?_
          refine fin_v (run_V (rest := []) hC hW (m_X6_tryOnce l D cs ad u P R k ((hg.1 2 (by omega)).trans hP) hP8 ((hg.1 3 (by omega)).trans hR) hR5 (by omega)) k_yX6_tryOnce ⟨rfl, rfl⟩ q_ml_RX6_148 eM_0 rfl rfl hl.1 rfl (Nat.le_of_ble_eq_true rfl) ⟨Nat.le_of_ble_eq_true rfl, Nat.le_of_ble_eq_true rfl⟩ dX6_othersHeights_31 ⟨Nat.zero_le _, Nat.zero_le _⟩) hW (fun u5 H locs hp5 hW => ?_)
          obtain ⟨hgu5, heu5⟩ := hp5
          refine lv_iload_n hx hb dX6_othersHeights_34 rfl (lv_at hl 1 rfl) ?_
          refine lv_iload hx hb dX6_othersHeights_35 (lv_at hl 0 rfl) ?_
          refine lv_iload_n hx hb dX6_othersHeights_37 rfl (lv_at hl 3 rfl) ?_
          refine lv_icmp_ne (tgt := 45) hx hb dX6_othersHeights_38 (by decide) (fun c_38_6 => ?_) (fun c_38_6 => ?_)
          · have c_38_6 : ¬ k = q := fun h => c_38_6 ((nI_eq (a := k) (b := q) (by omega) (by omega)).mpr h)
            refine lv_aload_n hx hb dX6_othersHeights_45 rfl (lv_at hl 2 rfl) ?_
            refine gM_height hC hW q_fl_RX6_46 dX6_othersHeights_46 ?_
            refine lv_iload hx hb dX6_othersHeights_49 (lv_at hl 0 rfl) ?_
            refine r_ildN (t0 := 0) (j := k) hC hW eM_13 rfl (rfl) (by omega) (by decide) dX6_othersHeights_51 ?_
            refine r_top (y := (att (hM P t) k c).2.2.1 k) (by have h9 := (att_ce (h := hM P t) (q := k) rfl (by omega) hc).2.2.1 k (by omega); rw [← h9, ← hg.g.eh, ← heu5]; rfl) ?_
            refine lv_iadd hx hb dX6_othersHeights_52 ?_
            refine lv_istore_n (lv' := [(3, .int (x + ((att (hM P t) k c).2.2.1 k))), (4, .int (nI k)), (0, .ref (ad 0)), (1, .int (nI q)), (2, .int 0)]) hx hb dX6_othersHeights_53 rfl hl (by decide) rfl (fun ls hl => ?_)
            refine lv_iinc (v := nI (k + 1)) (lv' := [(4, .int (nI (k + 1))), (3, .int (x + ((att (hM P t) k c).2.2.1 k))), (0, .ref (ad 0)), (1, .int (nI q)), (2, .int 0)]) hx hb dX6_othersHeights_54 hl (k := 1) rfl (nI_1 _) (by decide) rfl (fun ls hl => ?_)
            refine lv_goto (tgt := 9) hx hb dX6_othersHeights_57 (by decide) ?_
            exact ih_9 (k + 1) (att (hM P t) k c) (x + (att (hM P t) k c).2.2.1 k) u5 (by omega) (hg.tr hgu5) (by rw [heu5, hg.g.eh]; exact att_ce rfl (by omega) hc) (by rw [← hE, show R - k = (R - (k + 1)) + 1 by omega]; show _ = ite _ _ _; rw [if_neg c_21_4] <;> rfl) (by omega) _ _ hW ls (lv_sub hl [0, 1, 2, 3, 4] rfl)
          · have c_38_6 : k = q := (nI_eq (a := k) (b := q) (by omega) (by omega)).mp c_38_6
            exact absurd c_38_6 c_21_4
        · have c_21_4 : k = q := (nI_eq (a := k) (b := q) (by omega) (by omega)).mp c_21_4
          refine lv_iload_n hx hb dX6_othersHeights_24 rfl (lv_at hl 4 rfl) ?_
          refine lv_if_eq (tgt := 54) hx hb dX6_othersHeights_25 (by decide) (fun c_25_7 => ?_) (fun c_25_7 => ?_)
          · refine lv_iinc (v := nI (k + 1)) (lv' := [(4, .int (nI (k + 1))), (3, .int x), (0, .ref (ad 0)), (1, .int (nI q)), (2, .int 0)]) hx hb dX6_othersHeights_54 hl (k := 0) rfl (nI_1 _) (by decide) rfl (fun ls hl => ?_)
            refine lv_goto (tgt := 9) hx hb dX6_othersHeights_57 (by decide) ?_
            exact ih_9 (k + 1) c x u (by omega) (hg) (hc) (by rw [← hE, show R - k = (R - (k + 1)) + 1 by omega]; show _ = ite _ _ _; rw [if_pos c_21_4] <;> rfl) (by omega) _ _ hW ls (lv_sub hl [0, 1, 2, 3, 4] rfl)
          · exact absurd c_25_7 (by decide)
  exact loop_9_2 _ 0 (bgM t) 0 u1 (Nat.zero_le _) (hgu1) (heu1) (rfl) (Nat.lt_succ_self _) _ _ hW ls (lv_sub hl [0, 1, 2, 3, 4] rfl)
set_option maxRecDepth 100000 in
set_option maxHeartbeats 4000000 in
theorem m_X6_isUpBySand (l : Launch) (D : va_G) (cs : CS3) (ad : Nat → Nat) (t : St) (P R q : Nat) (g : Int32) (hP : t.1 2 = nI P) (hP8 : P ≤ 8) (hR : t.1 3 = nI R) (hR5 : R ≤ 5) (hq : q < R): CT l yX6_isUpBySand cX6_isUpBySand 5 (some .boolean) (rmk 1 24) (wM cs ad) (tyX cs) D [.ref (ad 0), .int (nI q), .int g] t (va_Qi (fun r u => r = bI (ssum (hM P t) (t.2 5) q g P 0 0 ≤ t.2 7 q) ∧ u = t)) := by
  refine CT.of (own := RX6) (by decide) rfl (Nat.le_of_ble_eq_true rfl) ?_
  intro p9 e9 s m9 args below meth c9 A Q hC hr hlk hW hQ ls hl
  obtain ⟨hx, hb, hml, hown, hts⟩ := id hC
  have hl : lv_has ls 5 [(0, .ref (ad 0)), (1, .int (nI q)), (2, .int g)] := hl
  refine lv_iconst (v := 0) hx hb dX6_isUpBySand_0 (by decide) ?_
  refine lv_istore_n (lv' := [(3, .int 0), (0, .ref (ad 0)), (1, .int (nI q)), (2, .int g)]) hx hb dX6_isUpBySand_1 rfl hl (by decide) rfl (fun ls hl => ?_)
  refine lv_iconst (v := 0) hx hb dX6_isUpBySand_2 (by decide) ?_
  refine lv_istore (lv' := [(4, .int 0), (3, .int 0), (0, .ref (ad 0)), (1, .int (nI q)), (2, .int g)]) hx hb dX6_isUpBySand_3 hl (by decide) rfl (fun ls hl => ?_)
  have loop_5_1 : ∀ (f9 : Nat) (k : Nat) (x : Int32), (k ≤ P) → (ssum (hM P t) (t.2 5) q g (P - k) k x = ssum (hM P t) (t.2 5) q g P 0 0) → P - k < f9 → ∀ (H : Heap) (locs : List Loc), HX (wM cs ad) (tyX cs) D A s.heap s t H locs → ∀ ls : Array Slot, lv_has ls 5 [(4, .int (nI k)), (3, .int x), (0, .ref (ad 0)), (1, .int (nI q)), (2, .int g)] → W p9 l e9 (rmk 1 24) s m9 args below meth c9 H locs 0 0 Q (F0 m9 5 ls []) := by
    intro f_5
    induction f_5 with
    | zero => intro k x hk hE hm_5 H locs hW ls hl; exact absurd hm_5 (Nat.not_lt_zero _)
    | succ f_5 ih_5 =>
      intro k x hk hE hm_5 H locs hW ls hl
      refine lv_iload hx hb dX6_isUpBySand_5 (lv_at hl 0 rfl) ?_
      refine lv_aload_n hx hb dX6_isUpBySand_7 rfl (lv_at hl 2 rfl) ?_
      refine gM_paces hC hW q_fl_RX6_71 dX6_isUpBySand_8 ?_
      refine r_top (y := nI P) hP ?_
      refine lv_icmp_ge (tgt := 51) hx hb dX6_isUpBySand_11 (by decide) (fun c_11_2 => ?_) (fun c_11_2 => ?_)
      · have c_11_2 : P ≤ k := (nI_leI (a := P) (b := k) (by omega) (by omega)).mp c_11_2
        refine lv_iload_n hx hb dX6_isUpBySand_51 rfl (lv_at hl 1 rfl) ?_
        refine lv_aload_n hx hb dX6_isUpBySand_52 rfl (lv_at hl 2 rfl) ?_
        refine gM_speedOf hC hW q_fl_RX6_28 dX6_isUpBySand_53 ?_
        refine lv_iload_n hx hb dX6_isUpBySand_56 rfl (lv_at hl 3 rfl) ?_
        refine r_ildN (t0 := 0) (j := q) hC hW eM_7 rfl (rfl) (by omega) (by decide) dX6_isUpBySand_57 ?_
        refine lv_icmp_gt (tgt := 65) hx hb dX6_isUpBySand_58 (by decide) (fun c_58_3 => ?_) (fun c_58_3 => ?_)
        · refine lv_iconst (v := 0) hx hb dX6_isUpBySand_65 (by decide) ?_
          have hx9 : x = ssum (hM P t) (t.2 5) q g P 0 0 := by rw [← hE, show P - k = 0 by omega]; rfl
          exact r_iretz hC hr hlk hW hQ (⟨bI_f (by rw [← hx9]; exact Int32.not_le.mpr c_58_3), rfl⟩) (rfl) dX6_isUpBySand_66
        · refine lv_iconst (v := 1) hx hb dX6_isUpBySand_61 (by decide) ?_
          refine lv_goto (tgt := 66) hx hb dX6_isUpBySand_62 (by decide) ?_
          have hx9 : x = ssum (hM P t) (t.2 5) q g P 0 0 := by rw [← hE, show P - k = 0 by omega]; rfl
          exact r_iretz hC hr hlk hW hQ (⟨bI_t (by rw [← hx9]; exact Int32.not_lt.mp c_58_3), rfl⟩) (rfl) dX6_isUpBySand_66
      · have c_11_2 : ¬ P ≤ k := fun h => c_11_2 ((nI_leI (a := P) (b := k) (by omega) (by omega)).mpr h)
        refine lv_iload_n hx hb dX6_isUpBySand_14 rfl (lv_at hl 1 rfl) ?_
        refine lv_iload_n hx hb dX6_isUpBySand_15 rfl (lv_at hl 4 rfl) ?_
        refine lv_iload hx hb dX6_isUpBySand_16 (lv_at hl 0 rfl) ?_
        refine lv_ishr hx hb dX6_isUpBySand_18 ?_
        refine lv_iconst (v := 1) hx hb dX6_isUpBySand_19 (by decide) ?_
        refine lv_iand hx hb dX6_isUpBySand_20 ?_
        refine lv_iconst (v := 1) hx hb dX6_isUpBySand_21 (by decide) ?_
        refine lv_icmp_ne (tgt := 29) hx hb dX6_isUpBySand_22 (by decide) (fun c_22_4 => ?_) (fun c_22_4 => ?_)
        · refine lv_aload_n hx hb dX6_isUpBySand_29 rfl (lv_at hl 2 rfl) ?_
          refine lv_iload_n hx hb dX6_isUpBySand_30 rfl (lv_at hl 3 rfl) ?_
          refine lv_iload hx hb dX6_isUpBySand_31 (lv_at hl 0 rfl) ?_
          refine lv_aload_n hx hb dX6_isUpBySand_33 rfl (lv_at hl 2 rfl) ?_
          refine gM_ahead hC hW q_fl_RX6_22 dX6_isUpBySand_34 ?_
          refine lv_iload hx hb dX6_isUpBySand_37 (lv_at hl 0 rfl) ?_
          refine r_ildN (t0 := 0) (j := k) hC hW eM_5 rfl (rfl) (by omega) (by decide) dX6_isUpBySand_39 ?_
          refine fin_i (run_V (rest := [.int x]) hC hW (m_X6_takesOf l D cs ad t P (hM P t) q k (t.2 5 k) rfl (by omega) (by omega)) k_yX6_takesOf ⟨rfl, rfl⟩ q_ml_RX6_127 eM_0 rfl rfl hl.1 rfl (Nat.le_of_ble_eq_true rfl) ⟨Nat.le_of_ble_eq_true rfl, Nat.le_of_ble_eq_true rfl⟩ dX6_isUpBySand_40 ⟨Nat.zero_le _, Nat.zero_le _⟩) hW (fun r5 u5 H locs hp5 hW => ?_)
          have hW := hx_congr hW hp5.2
          refine r_top hp5.1 ?_
          refine lv_iadd hx hb dX6_isUpBySand_43 ?_
          refine lv_istore_n (lv' := [(3, .int (x + (toll (hM P t) q k (t.2 5 k)))), (4, .int (nI k)), (0, .ref (ad 0)), (1, .int (nI q)), (2, .int g)]) hx hb dX6_isUpBySand_44 rfl hl (by decide) rfl (fun ls hl => ?_)
          refine lv_iinc (v := nI (k + 1)) (lv' := [(4, .int (nI (k + 1))), (3, .int (x + (toll (hM P t) q k (t.2 5 k)))), (0, .ref (ad 0)), (1, .int (nI q)), (2, .int g)]) hx hb dX6_isUpBySand_45 hl (k := 1) rfl (nI_1 _) (by decide) rfl (fun ls hl => ?_)
          refine lv_goto (tgt := 5) hx hb dX6_isUpBySand_48 (by decide) ?_
          exact ih_5 (k + 1) (x + (toll (hM P t) q k (t.2 5 k))) (by omega) (by rw [← hE, show P - k = (P - (k + 1)) + 1 by omega]; show _ = ite _ _ _; rw [if_neg c_22_4]) (by omega) _ _ hW ls (lv_sub hl [0, 1, 2, 3, 4] rfl)
        · refine lv_iconst (v := 0) hx hb dX6_isUpBySand_25 (by decide) ?_
          refine lv_goto (tgt := 43) hx hb dX6_isUpBySand_26 (by decide) ?_
          refine lv_iadd hx hb dX6_isUpBySand_43 ?_
          refine lv_istore_n (lv' := [(3, .int (x + 0)), (4, .int (nI k)), (0, .ref (ad 0)), (1, .int (nI q)), (2, .int g)]) hx hb dX6_isUpBySand_44 rfl hl (by decide) rfl (fun ls hl => ?_)
          refine lv_iinc (v := nI (k + 1)) (lv' := [(4, .int (nI (k + 1))), (3, .int (x + 0)), (0, .ref (ad 0)), (1, .int (nI q)), (2, .int g)]) hx hb dX6_isUpBySand_45 hl (k := 1) rfl (nI_1 _) (by decide) rfl (fun ls hl => ?_)
          refine lv_goto (tgt := 5) hx hb dX6_isUpBySand_48 (by decide) ?_
          exact ih_5 (k + 1) (x + 0) (by omega) (by rw [← hE, show P - k = (P - (k + 1)) + 1 by omega]; show _ = ite _ _ _; rw [if_pos c_22_4]) (by omega) _ _ hW ls (lv_sub hl [0, 1, 2, 3, 4] rfl)
  exact loop_5_1 _ 0 0 (Nat.zero_le _) (rfl) (Nat.lt_succ_self _) _ _ hW ls (lv_sub hl [0, 1, 2, 3, 4] rfl)
set_option maxRecDepth 100000 in
set_option maxHeartbeats 4000000 in
theorem m_X6_size (l : Launch) (g : Nat) (hg : g < 512): PT l yX6_size cX6_size 3 (some .int) (rmk 0 0) [.int (nI g)] (vp_Si (fun r => r = nI (pcN 9 g))) := by
  refine PT.of (own := RX6) (by decide) rfl (Nat.le_of_ble_eq_true rfl) ?_
  intro p9 e9 s m9 args below meth c9 Q hC hr hlk hN hQ ls hl
  obtain ⟨hx, hb, hml, hown, hts⟩ := id hC
  have hl : lv_has ls 3 [(0, .int (nI g))] := hl
  refine lv_iconst (v := 0) hx hb dX6_size_0 (by decide) ?_
  refine lv_istore_n (lv' := [(1, .int 0), (0, .int (nI g))]) hx hb dX6_size_1 rfl hl (by decide) rfl (fun ls hl => ?_)
  refine lv_iload_n hx hb dX6_size_2 rfl (lv_at hl 1 rfl) ?_
  refine lv_istore_n (lv' := [(2, .int (nI g)), (1, .int 0), (0, .int (nI g))]) hx hb dX6_size_3 rfl hl (by decide) rfl (fun ls hl => ?_)
  have loop_4_1 : ∀ (f9 : Nat) (f : Nat) (z : Nat) (x : Nat), (f ≤ 9) → (z < 2 ^ f) → (x + pcN f z = pcN 9 g) → z < f9 → ∀ ls : Array Slot, lv_has ls 3 [(2, .int (nI z)), (1, .int (nI x)), (0, .int (nI g))] → W p9 l e9 (rmk 0 0) s m9 args below meth c9 s.heap [] 0 0 Q (F0 m9 4 ls []) := by
    intro f_4
    induction f_4 with
    | zero => intro f z x hf hz hE hm_4 ls hl; exact absurd hm_4 (Nat.not_lt_zero _)
    | succ f_4 ih_4 =>
      intro f z x hf hz hE hm_4 ls hl
      have h2f : 2 ^ f ≤ 512 := Nat.pow_le_pow_right (by decide) hf
      refine lv_iload_n hx hb dX6_size_4 rfl (lv_at hl 0 rfl) ?_
      refine lv_if_le (tgt := 21) hx hb dX6_size_5 (by decide) (fun c_5_2 => ?_) (fun c_5_2 => ?_)
      · have c_5_2 : z ≤ 0 := (nI_leI (a := z) (b := 0) (by omega) (by omega)).mp c_5_2
        refine lv_iload_n hx hb dX6_size_21 rfl (lv_at hl 1 rfl) ?_
        have hz0 : z = 0 := by omega
        exact r_pi hC hr hlk hQ (congrArg nI (by rw [← hE, hz0, pcN_0, Nat.add_zero])) dX6_size_22
      · have c_5_2 : ¬ z ≤ 0 := fun h => c_5_2 ((nI_leI (a := z) (b := 0) (by omega) (by omega)).mpr h)
        have hzp : 0 < z := by rcases Nat.eq_zero_or_pos z with h9 | h9; exact absurd (by rw [h9]; decide) c_5_2; exact h9
        obtain ⟨f2, rfl⟩ : ∃ f2, f = f2 + 1 := ⟨f - 1, by rcases Nat.eq_zero_or_pos f with h9 | h9; rw [h9] at hz; omega; omega⟩
        refine lv_iload_n hx hb dX6_size_8 rfl (lv_at hl 1 rfl) ?_
        refine lv_iload_n hx hb dX6_size_9 rfl (lv_at hl 0 rfl) ?_
        refine lv_iconst (v := 1) hx hb dX6_size_10 (by decide) ?_
        refine lv_iand hx hb dX6_size_11 ?_
        refine r_top (y := nI (z % 2)) (by exact pk_andN (n := z) (m := 1) (by omega) 1 (by decide)) ?_
        refine lv_iadd hx hb dX6_size_12 ?_
        refine r_top (y := nI (x + (z % 2))) (nI_add x (z % 2)) ?_
        refine lv_istore_n (lv' := [(1, .int (nI (x + (z % 2)))), (2, .int (nI z)), (0, .int (nI g))]) hx hb dX6_size_13 rfl hl (by decide) rfl (fun ls hl => ?_)
        refine lv_iload_n hx hb dX6_size_14 rfl (lv_at hl 1 rfl) ?_
        refine lv_iconst (v := 1) hx hb dX6_size_15 (by decide) ?_
        refine lv_ishr hx hb dX6_size_16 ?_
        refine r_top (y := nI (z / 2)) (by exact pk_shrN (n := z) (by omega) (1 &&& 31) 1 (by decide)) ?_
        refine lv_istore_n (lv' := [(2, .int (nI (z / 2))), (1, .int (nI (x + (z % 2)))), (0, .int (nI g))]) hx hb dX6_size_17 rfl hl (by decide) rfl (fun ls hl => ?_)
        refine lv_goto (tgt := 4) hx hb dX6_size_18 (by decide) ?_
        exact ih_4 f2 (z / 2) (x + z % 2) (by omega) (by rw [Nat.pow_succ] at hz; omega) (by rw [← hE, pcN_s hzp]; omega) (by omega) ls (lv_sub hl [0, 1, 2] rfl)
  exact loop_4_1 _ 9 g 0 (Nat.le_refl _) (hg) (by omega) (Nat.lt_succ_self _) ls (lv_sub hl [0, 1, 2] rfl)
set_option maxRecDepth 100000 in
set_option maxHeartbeats 4000000 in
theorem m_X6_better (l : Launch) (x y z : Int32) : PT l yX6_better cX6_better 3 (some .int) (rmk 0 0) [.int x, .int y, .int z] (vp_Si (fun r => r = bet x y z)) := by
  refine PT.of (own := RX6) (by decide) rfl (Nat.le_of_ble_eq_true rfl) ?_
  intro p9 e9 s m9 args below meth c9 Q hC hr hlk hN hQ ls hl
  obtain ⟨hx, hb, hml, hown, hts⟩ := id hC
  have hl : lv_has ls 3 [(0, .int x), (1, .int y), (2, .int z)] := hl
  refine lv_iload_n hx hb dX6_better_0 rfl (lv_at hl 0 rfl) ?_
  refine lv_iload_n hx hb dX6_better_1 rfl (lv_at hl 2 rfl) ?_
  refine lv_icmp_eq (tgt := 10) hx hb dX6_better_2 (by decide) (fun c_2_1 => ?_) (fun c_2_1 => ?_)
  · refine lv_iload_n hx hb dX6_better_10 rfl (lv_at hl 2 rfl) ?_
    exact r_pi hC hr hlk hQ (by unfold bet; rw [if_pos c_2_1]) dX6_better_11
  · refine lv_iload_n hx hb dX6_better_5 rfl (lv_at hl 1 rfl) ?_
    refine lv_iload_n hx hb dX6_better_6 rfl (lv_at hl 2 rfl) ?_
    refine lv_icmp_ne (tgt := 12) hx hb dX6_better_7 (by decide) (fun c_7_2 => ?_) (fun c_7_2 => ?_)
    · refine lv_iload_n hx hb dX6_better_12 rfl (lv_at hl 0 rfl) ?_
      refine lv_if_eq (tgt := 20) hx hb dX6_better_13 (by decide) (fun c_13_3 => ?_) (fun c_13_3 => ?_)
      · refine lv_iconst (v := 0) hx hb dX6_better_20 (by decide) ?_
        refine lv_goto (tgt := 25) hx hb dX6_better_21 (by decide) ?_
        exact r_pi hC hr hlk hQ (by unfold bet; rw [if_neg c_2_1, if_neg c_7_2, if_pos c_13_3]) dX6_better_25
      · refine lv_iload_n hx hb dX6_better_16 rfl (lv_at hl 1 rfl) ?_
        refine lv_if_ne (tgt := 24) hx hb dX6_better_17 (by decide) (fun c_17_4 => ?_) (fun c_17_4 => ?_)
        · refine lv_iload_n hx hb dX6_better_24 rfl (lv_at hl 0 rfl) ?_
          exact r_pi hC hr hlk hQ (by unfold bet; rw [if_neg c_2_1, if_neg c_7_2, if_neg c_13_3, if_neg c_17_4]) dX6_better_25
        · refine lv_iconst (v := 0) hx hb dX6_better_20 (by decide) ?_
          refine lv_goto (tgt := 25) hx hb dX6_better_21 (by decide) ?_
          exact r_pi hC hr hlk hQ (by unfold bet; rw [if_neg c_2_1, if_neg c_7_2, if_neg c_13_3, if_pos c_17_4]) dX6_better_25
    · refine lv_iload_n hx hb dX6_better_10 rfl (lv_at hl 2 rfl) ?_
      exact r_pi hC hr hlk hQ (by unfold bet; rw [if_neg c_2_1, if_pos c_7_2]) dX6_better_11
set_option maxRecDepth 100000 in
set_option maxHeartbeats 4000000 in
theorem m_X6_endOf (l : Launch) (D : va_G) (cs : CS3) (ad : Nat → Nat) (t : St) (P R r o n row : Nat) (hP : t.1 2 = nI P) (hP8 : P ≤ 8) (hR : t.1 3 = nI R) (hR5 : R ≤ 5) (hrR : r < R) (hoR : o < R) (hn : n ≤ 10): CT l yX6_endOf cX6_endOf 7 (some .int) (rmk 2 49) (wM cs ad) (tyX cs) D [.ref (ad 0), .int (nI r), .int (nI o), .int (nI n), .int (nI row)] t (va_Qi (fun z u => z = eoF (hM P t) r o row n 0 (bgM t) ∧ agrM t u)) := by
  refine CT.of (own := RX6) (by decide) rfl (Nat.le_of_ble_eq_true rfl) ?_
  intro p9 e9 s m9 args below meth c9 A Q hC hr hlk hW hQ ls hl
  obtain ⟨hx, hb, hml, hown, hts⟩ := id hC
  have hl : lv_has ls 7 [(0, .ref (ad 0)), (1, .int (nI r)), (2, .int (nI o)), (3, .int (nI n)), (4, .int (nI row))] := hl
  refine lv_aload_n hx hb dX6_endOf_0 rfl (lv_at hl 0 rfl) ?_
  refine fin_v (run_V (rest := []) hC hW (m_X6_begin l D cs ad t P R hP hP8 hR hR5) k_yX6_begin ⟨rfl, rfl⟩ q_ml_RX6_136 eM_0 rfl rfl hl.1 rfl (Nat.le_of_ble_eq_true rfl) ⟨Nat.le_of_ble_eq_true rfl, Nat.le_of_ble_eq_true rfl⟩ dX6_endOf_1 ⟨Nat.zero_le _, Nat.zero_le _⟩) hW (fun u1 H locs hp1 hW => ?_)
  obtain ⟨hgu1, heu1⟩ := hp1
  refine lv_iconst (v := 0) hx hb dX6_endOf_4 (by decide) ?_
  refine lv_istore (lv' := [(5, .int 0), (0, .ref (ad 0)), (1, .int (nI r)), (2, .int (nI o)), (3, .int (nI n)), (4, .int (nI row))]) hx hb dX6_endOf_5 hl (by decide) rfl (fun ls hl => ?_)
  have loop_7_2 : ∀ (f9 : Nat) (k : Nat) (c : Cl) (u : St), (k ≤ n) → (agrM t u) → (CE P R (cm u) c) → (eoF (hM P t) r o row (n - k) k c = eoF (hM P t) r o row n 0 (bgM t)) → n - k < f9 → ∀ (H : Heap) (locs : List Loc), HX (wM cs ad) (tyX cs) D A s.heap s u H locs → ∀ ls : Array Slot, lv_has ls 7 [(5, .int (nI k)), (0, .ref (ad 0)), (1, .int (nI r)), (2, .int (nI o)), (3, .int (nI n)), (4, .int (nI row))] → W p9 l e9 (rmk 2 49) s m9 args below meth c9 H locs 0 0 Q (F0 m9 7 ls []) := by
    intro f_7
    induction f_7 with
    | zero => intro k c u hk hg hc hE hm_7 H locs hW ls hl; exact absurd hm_7 (Nat.not_lt_zero _)
    | succ f_7 ih_7 =>
      intro k c u hk hg hc hE hm_7 H locs hW ls hl
      refine lv_iload hx hb dX6_endOf_7 (lv_at hl 0 rfl) ?_
      refine lv_iload_n hx hb dX6_endOf_9 rfl (lv_at hl 4 rfl) ?_
      refine lv_icmp_ge (tgt := 72) hx hb dX6_endOf_10 (by decide) (fun c_10_3 => ?_) (fun c_10_3 => ?_)
      · have c_10_3 : n ≤ k := (nI_leI (a := n) (b := k) (by omega) (by omega)).mp c_10_3
        refine lv_iconst (v := 0) hx hb dX6_endOf_72 (by decide) ?_
        exact r_ireti hC hr hlk hW hQ (⟨by rw [← hE, show n - k = 0 by omega]; rfl, hg⟩) dX6_endOf_73
      · have c_10_3 : ¬ n ≤ k := fun h => c_10_3 ((nI_leI (a := n) (b := k) (by omega) (by omega)).mpr h)
        refine lv_iload hx hb dX6_endOf_13 (lv_at hl 0 rfl) ?_
        refine lv_iconst (v := 2) hx hb dX6_endOf_15 (by decide) ?_
        refine lv_irem hx hb dX6_endOf_16 (by decide) ?_
        refine r_top (y := nI (k % 2)) (by exact pk_rem (a := k) (d := 2) (by omega) (by decide) (by decide)) ?_
        refine lv_if_ne (tgt := 24) hx hb dX6_endOf_17 (by decide) (fun c_17_4 => ?_) (fun c_17_4 => ?_)
        · have c_17_4 : ¬ (k % 2) = 0 := fun h => c_17_4 ((nI_eq (a := k % 2) (b := 0) (by omega) (by omega)).mpr h)
          refine lv_iload_n hx hb dX6_endOf_24 rfl (lv_at hl 3 rfl) ?_
          refine lv_istore (lv' := [(6, .int (nI o)), (5, .int (nI k)), (0, .ref (ad 0)), (1, .int (nI r)), (2, .int (nI o)), (3, .int (nI n)), (4, .int (nI row))]) hx hb dX6_endOf_25 hl (by decide) rfl (fun ls hl => ?_)
          refine lv_iload hx hb dX6_endOf_27 (lv_at hl 6 rfl) ?_
          refine lv_iload hx hb dX6_endOf_29 (lv_at hl 1 rfl) ?_
          refine lv_ishr hx hb dX6_endOf_31 ?_
          refine lv_iconst (v := 1) hx hb dX6_endOf_32 (by decide) ?_
          refine lv_iand hx hb dX6_endOf_33 ?_
          refine lv_iconst (v := 1) hx hb dX6_endOf_34 (by decide) ?_
          refine lv_icmp_ne (tgt := 44) hx hb dX6_endOf_35 (by decide) (fun c_35_5 => ?_) (fun c_35_5 => ?_)
          · refine lv_aload_n hx hb dX6_endOf_44 rfl (lv_at hl 2 rfl) ?_
            refine lv_iload hx hb dX6_endOf_45 (lv_at hl 0 rfl) ?_
            refine fin_i (run_V (rest := []) hC hW (m_X6_isUp l D cs ad u o) k_yX6_isUp ⟨rfl, rfl⟩ q_ml_RX6_145 eM_0 rfl rfl hl.1 rfl (Nat.le_of_ble_eq_true rfl) ⟨Nat.le_of_ble_eq_true rfl, Nat.le_of_ble_eq_true rfl⟩ dX6_endOf_47 ⟨Nat.zero_le _, Nat.zero_le _⟩) hW (fun r6 u6 H locs hp6 hW => ?_)
            have hW := hx_congr hW hp6.2
            refine r_top hp6.1 ?_
            refine lv_if_eq (tgt := 66) hx hb dX6_endOf_50 (by decide) (fun c_50_7 => ?_) (fun c_50_7 => ?_)
            · have c_50_7 := bI_z.mp c_50_7
              refine lv_iinc (v := nI (k + 1)) (lv' := [(5, .int (nI (k + 1))), (6, .int (nI o)), (0, .ref (ad 0)), (1, .int (nI r)), (2, .int (nI o)), (3, .int (nI n)), (4, .int (nI row))]) hx hb dX6_endOf_66 hl (k := 1) rfl (nI_1 _) (by decide) rfl (fun ls hl => ?_)
              refine lv_goto (tgt := 7) hx hb dX6_endOf_69 (by decide) ?_
              exact ih_7 (k + 1) c u (by omega) (hg) (hc) (by rw [← hE, show n - k = (n - (k + 1)) + 1 by omega]; show _ = ite _ _ _; rw [if_neg c_17_4, if_neg c_35_5, if_neg (by rw [(show c.2.2.2 = u.1 7 from hc.2.2.2.symm)]; exact c_50_7)]) (by omega) _ _ hW ls (lv_sub hl [0, 2, 3, 4, 5, 6] rfl)
            · have c_50_7 := bI_nz c_50_7
              refine lv_iload hx hb dX6_endOf_53 (lv_at hl 1 rfl) ?_
              refine lv_iconst (v := 2) hx hb dX6_endOf_55 (by decide) ?_
              refine lv_irem hx hb dX6_endOf_56 (by decide) ?_
              refine r_top (y := nI (k % 2)) (by exact pk_rem (a := k) (d := 2) (by omega) (by decide) (by decide)) ?_
              refine lv_if_ne (tgt := 64) hx hb dX6_endOf_57 (by decide) (fun c_57_8 => ?_) (fun c_57_8 => ?_)
              · have c_57_8 : ¬ (k % 2) = 0 := fun h => c_57_8 ((nI_eq (a := k % 2) (b := 0) (by omega) (by omega)).mpr h)
                refine lv_iconst (v := 2) hx hb dX6_endOf_64 (by decide) ?_
                exact r_ireti hC hr hlk hW hQ (⟨by rw [← hE, show n - k = (n - (k + 1)) + 1 by omega]; show _ = ite _ _ _; rw [if_neg c_17_4, if_neg c_35_5, if_pos (by rw [(show c.2.2.2 = u.1 7 from hc.2.2.2.symm)]; exact c_50_7), if_neg c_17_4], hg⟩) dX6_endOf_65
              · have c_57_8 : k % 2 = 0 := (nI_eq (a := k % 2) (b := 0) (by omega) (by omega)).mp c_57_8
                exact absurd c_57_8 c_17_4
          · refine lv_aload_n hx hb dX6_endOf_38 rfl (lv_at hl 2 rfl) ?_
            refine lv_iload hx hb dX6_endOf_39 (lv_at hl 0 rfl) ?_
            refine fin_v (run_V (rest := []) hC hW (m_X6_tryOnce l D cs ad u P R o ((hg.1 2 (by omega)).trans hP) hP8 ((hg.1 3 (by omega)).trans hR) hR5 (by omega)) k_yX6_tryOnce ⟨rfl, rfl⟩ q_ml_RX6_148 eM_0 rfl rfl hl.1 rfl (Nat.le_of_ble_eq_true rfl) ⟨Nat.le_of_ble_eq_true rfl, Nat.le_of_ble_eq_true rfl⟩ dX6_endOf_41 ⟨Nat.zero_le _, Nat.zero_le _⟩) hW (fun u9 H locs hp9 hW => ?_)
            obtain ⟨hgu9, heu9⟩ := hp9
            refine lv_aload_n hx hb dX6_endOf_44 rfl (lv_at hl 2 rfl) ?_
            refine lv_iload hx hb dX6_endOf_45 (lv_at hl 0 rfl) ?_
            refine fin_i (run_V (rest := []) hC hW (m_X6_isUp l D cs ad u9 o) k_yX6_isUp ⟨rfl, rfl⟩ q_ml_RX6_145 eM_0 rfl rfl hl.1 rfl (Nat.le_of_ble_eq_true rfl) ⟨Nat.le_of_ble_eq_true rfl, Nat.le_of_ble_eq_true rfl⟩ dX6_endOf_47 ⟨Nat.zero_le _, Nat.zero_le _⟩) hW (fun r10 u10 H locs hp10 hW => ?_)
            have hW := hx_congr hW hp10.2
            refine r_top hp10.1 ?_
            refine lv_if_eq (tgt := 66) hx hb dX6_endOf_50 (by decide) (fun c_50_11 => ?_) (fun c_50_11 => ?_)
            · have c_50_11 := bI_z.mp c_50_11
              refine lv_iinc (v := nI (k + 1)) (lv' := [(5, .int (nI (k + 1))), (6, .int (nI o)), (0, .ref (ad 0)), (1, .int (nI r)), (2, .int (nI o)), (3, .int (nI n)), (4, .int (nI row))]) hx hb dX6_endOf_66 hl (k := 1) rfl (nI_1 _) (by decide) rfl (fun ls hl => ?_)
              refine lv_goto (tgt := 7) hx hb dX6_endOf_69 (by decide) ?_
              exact ih_7 (k + 1) (att (hM P t) o c) u9 (by omega) (hg.tr hgu9) (by rw [heu9, hg.g.eh]; exact att_ce rfl (by omega) hc) (by rw [← hE, show n - k = (n - (k + 1)) + 1 by omega]; show _ = ite _ _ _; rw [if_neg c_17_4, if_pos c_35_5, if_neg (by rw [(show (att (hM P t) o c).2.2.2 = u9.1 7 from by have h9 := (att_ce (h := hM P t) (q := o) rfl (by omega) hc).2.2.2; rw [← hg.g.eh, ← heu9] at h9; rw [hg.g.eh] at h9; exact h9.symm)]; exact c_50_11)]) (by omega) _ _ hW ls (lv_sub hl [0, 2, 3, 4, 5, 6] rfl)
            · have c_50_11 := bI_nz c_50_11
              refine lv_iload hx hb dX6_endOf_53 (lv_at hl 1 rfl) ?_
              refine lv_iconst (v := 2) hx hb dX6_endOf_55 (by decide) ?_
              refine lv_irem hx hb dX6_endOf_56 (by decide) ?_
              refine r_top (y := nI (k % 2)) (by exact pk_rem (a := k) (d := 2) (by omega) (by decide) (by decide)) ?_
              refine lv_if_ne (tgt := 64) hx hb dX6_endOf_57 (by decide) (fun c_57_12 => ?_) (fun c_57_12 => ?_)
              · have c_57_12 : ¬ (k % 2) = 0 := fun h => c_57_12 ((nI_eq (a := k % 2) (b := 0) (by omega) (by omega)).mpr h)
                refine lv_iconst (v := 2) hx hb dX6_endOf_64 (by decide) ?_
                exact r_ireti hC hr hlk hW hQ (⟨by rw [← hE, show n - k = (n - (k + 1)) + 1 by omega]; show _ = ite _ _ _; rw [if_neg c_17_4, if_pos c_35_5, if_pos (by rw [(show (att (hM P t) o c).2.2.2 = u9.1 7 from by have h9 := (att_ce (h := hM P t) (q := o) rfl (by omega) hc).2.2.2; rw [← hg.g.eh, ← heu9] at h9; rw [hg.g.eh] at h9; exact h9.symm)]; exact c_50_11), if_neg c_17_4], hg.tr hgu9⟩) dX6_endOf_65
              · have c_57_12 : k % 2 = 0 := (nI_eq (a := k % 2) (b := 0) (by omega) (by omega)).mp c_57_12
                exact absurd c_57_12 c_17_4
        · have c_17_4 : k % 2 = 0 := (nI_eq (a := k % 2) (b := 0) (by omega) (by omega)).mp c_17_4
          refine lv_iload_n hx hb dX6_endOf_20 rfl (lv_at hl 2 rfl) ?_
          refine lv_goto (tgt := 25) hx hb dX6_endOf_21 (by decide) ?_
          refine lv_istore (lv' := [(6, .int (nI r)), (5, .int (nI k)), (0, .ref (ad 0)), (1, .int (nI r)), (2, .int (nI o)), (3, .int (nI n)), (4, .int (nI row))]) hx hb dX6_endOf_25 hl (by decide) rfl (fun ls hl => ?_)
          refine lv_iload hx hb dX6_endOf_27 (lv_at hl 6 rfl) ?_
          refine lv_iload hx hb dX6_endOf_29 (lv_at hl 1 rfl) ?_
          refine lv_ishr hx hb dX6_endOf_31 ?_
          refine lv_iconst (v := 1) hx hb dX6_endOf_32 (by decide) ?_
          refine lv_iand hx hb dX6_endOf_33 ?_
          refine lv_iconst (v := 1) hx hb dX6_endOf_34 (by decide) ?_
          refine lv_icmp_ne (tgt := 44) hx hb dX6_endOf_35 (by decide) (fun c_35_13 => ?_) (fun c_35_13 => ?_)
          · refine lv_aload_n hx hb dX6_endOf_44 rfl (lv_at hl 2 rfl) ?_
            refine lv_iload hx hb dX6_endOf_45 (lv_at hl 0 rfl) ?_
            refine fin_i (run_V (rest := []) hC hW (m_X6_isUp l D cs ad u r) k_yX6_isUp ⟨rfl, rfl⟩ q_ml_RX6_145 eM_0 rfl rfl hl.1 rfl (Nat.le_of_ble_eq_true rfl) ⟨Nat.le_of_ble_eq_true rfl, Nat.le_of_ble_eq_true rfl⟩ dX6_endOf_47 ⟨Nat.zero_le _, Nat.zero_le _⟩) hW (fun r14 u14 H locs hp14 hW => ?_)
            have hW := hx_congr hW hp14.2
            refine r_top hp14.1 ?_
            refine lv_if_eq (tgt := 66) hx hb dX6_endOf_50 (by decide) (fun c_50_15 => ?_) (fun c_50_15 => ?_)
            · have c_50_15 := bI_z.mp c_50_15
              refine lv_iinc (v := nI (k + 1)) (lv' := [(5, .int (nI (k + 1))), (6, .int (nI r)), (0, .ref (ad 0)), (1, .int (nI r)), (2, .int (nI o)), (3, .int (nI n)), (4, .int (nI row))]) hx hb dX6_endOf_66 hl (k := 1) rfl (nI_1 _) (by decide) rfl (fun ls hl => ?_)
              refine lv_goto (tgt := 7) hx hb dX6_endOf_69 (by decide) ?_
              exact ih_7 (k + 1) c u (by omega) (hg) (hc) (by rw [← hE, show n - k = (n - (k + 1)) + 1 by omega]; show _ = ite _ _ _; rw [if_pos c_17_4, if_neg c_35_13, if_neg (by rw [(show c.2.2.2 = u.1 7 from hc.2.2.2.symm)]; exact c_50_15)]) (by omega) _ _ hW ls (lv_sub hl [0, 2, 3, 4, 5, 6] rfl)
            · have c_50_15 := bI_nz c_50_15
              refine lv_iload hx hb dX6_endOf_53 (lv_at hl 1 rfl) ?_
              refine lv_iconst (v := 2) hx hb dX6_endOf_55 (by decide) ?_
              refine lv_irem hx hb dX6_endOf_56 (by decide) ?_
              refine r_top (y := nI (k % 2)) (by exact pk_rem (a := k) (d := 2) (by omega) (by decide) (by decide)) ?_
              refine lv_if_ne (tgt := 64) hx hb dX6_endOf_57 (by decide) (fun c_57_16 => ?_) (fun c_57_16 => ?_)
              · have c_57_16 : ¬ (k % 2) = 0 := fun h => c_57_16 ((nI_eq (a := k % 2) (b := 0) (by omega) (by omega)).mpr h)
                exact absurd c_17_4 c_57_16
              · have c_57_16 : k % 2 = 0 := (nI_eq (a := k % 2) (b := 0) (by omega) (by omega)).mp c_57_16
                refine lv_iconst (v := 1) hx hb dX6_endOf_60 (by decide) ?_
                refine lv_goto (tgt := 65) hx hb dX6_endOf_61 (by decide) ?_
                exact r_ireti hC hr hlk hW hQ (⟨by rw [← hE, show n - k = (n - (k + 1)) + 1 by omega]; show _ = ite _ _ _; rw [if_pos c_17_4, if_neg c_35_13, if_pos (by rw [(show c.2.2.2 = u.1 7 from hc.2.2.2.symm)]; exact c_50_15), if_pos c_17_4], hg⟩) dX6_endOf_65
          · refine lv_aload_n hx hb dX6_endOf_38 rfl (lv_at hl 2 rfl) ?_
            refine lv_iload hx hb dX6_endOf_39 (lv_at hl 0 rfl) ?_
            refine fin_v (run_V (rest := []) hC hW (m_X6_tryOnce l D cs ad u P R r ((hg.1 2 (by omega)).trans hP) hP8 ((hg.1 3 (by omega)).trans hR) hR5 (by omega)) k_yX6_tryOnce ⟨rfl, rfl⟩ q_ml_RX6_148 eM_0 rfl rfl hl.1 rfl (Nat.le_of_ble_eq_true rfl) ⟨Nat.le_of_ble_eq_true rfl, Nat.le_of_ble_eq_true rfl⟩ dX6_endOf_41 ⟨Nat.zero_le _, Nat.zero_le _⟩) hW (fun u17 H locs hp17 hW => ?_)
            obtain ⟨hgu17, heu17⟩ := hp17
            refine lv_aload_n hx hb dX6_endOf_44 rfl (lv_at hl 2 rfl) ?_
            refine lv_iload hx hb dX6_endOf_45 (lv_at hl 0 rfl) ?_
            refine fin_i (run_V (rest := []) hC hW (m_X6_isUp l D cs ad u17 r) k_yX6_isUp ⟨rfl, rfl⟩ q_ml_RX6_145 eM_0 rfl rfl hl.1 rfl (Nat.le_of_ble_eq_true rfl) ⟨Nat.le_of_ble_eq_true rfl, Nat.le_of_ble_eq_true rfl⟩ dX6_endOf_47 ⟨Nat.zero_le _, Nat.zero_le _⟩) hW (fun r18 u18 H locs hp18 hW => ?_)
            have hW := hx_congr hW hp18.2
            refine r_top hp18.1 ?_
            refine lv_if_eq (tgt := 66) hx hb dX6_endOf_50 (by decide) (fun c_50_19 => ?_) (fun c_50_19 => ?_)
            · have c_50_19 := bI_z.mp c_50_19
              refine lv_iinc (v := nI (k + 1)) (lv' := [(5, .int (nI (k + 1))), (6, .int (nI r)), (0, .ref (ad 0)), (1, .int (nI r)), (2, .int (nI o)), (3, .int (nI n)), (4, .int (nI row))]) hx hb dX6_endOf_66 hl (k := 1) rfl (nI_1 _) (by decide) rfl (fun ls hl => ?_)
              refine lv_goto (tgt := 7) hx hb dX6_endOf_69 (by decide) ?_
              exact ih_7 (k + 1) (att (hM P t) r c) u17 (by omega) (hg.tr hgu17) (by rw [heu17, hg.g.eh]; exact att_ce rfl (by omega) hc) (by rw [← hE, show n - k = (n - (k + 1)) + 1 by omega]; show _ = ite _ _ _; rw [if_pos c_17_4, if_pos c_35_13, if_neg (by rw [(show (att (hM P t) r c).2.2.2 = u17.1 7 from by have h9 := (att_ce (h := hM P t) (q := r) rfl (by omega) hc).2.2.2; rw [← hg.g.eh, ← heu17] at h9; rw [hg.g.eh] at h9; exact h9.symm)]; exact c_50_19)]) (by omega) _ _ hW ls (lv_sub hl [0, 2, 3, 4, 5, 6] rfl)
            · have c_50_19 := bI_nz c_50_19
              refine lv_iload hx hb dX6_endOf_53 (lv_at hl 1 rfl) ?_
              refine lv_iconst (v := 2) hx hb dX6_endOf_55 (by decide) ?_
              refine lv_irem hx hb dX6_endOf_56 (by decide) ?_
              refine r_top (y := nI (k % 2)) (by exact pk_rem (a := k) (d := 2) (by omega) (by decide) (by decide)) ?_
              refine lv_if_ne (tgt := 64) hx hb dX6_endOf_57 (by decide) (fun c_57_20 => ?_) (fun c_57_20 => ?_)
              · have c_57_20 : ¬ (k % 2) = 0 := fun h => c_57_20 ((nI_eq (a := k % 2) (b := 0) (by omega) (by omega)).mpr h)
                exact absurd c_17_4 c_57_20
              · have c_57_20 : k % 2 = 0 := (nI_eq (a := k % 2) (b := 0) (by omega) (by omega)).mp c_57_20
                refine lv_iconst (v := 1) hx hb dX6_endOf_60 (by decide) ?_
                refine lv_goto (tgt := 65) hx hb dX6_endOf_61 (by decide) ?_
                exact r_ireti hC hr hlk hW hQ (⟨by rw [← hE, show n - k = (n - (k + 1)) + 1 by omega]; show _ = ite _ _ _; rw [if_pos c_17_4, if_pos c_35_13, if_pos (by rw [(show (att (hM P t) r c).2.2.2 = u17.1 7 from by have h9 := (att_ce (h := hM P t) (q := r) rfl (by omega) hc).2.2.2; rw [← hg.g.eh, ← heu17] at h9; rw [hg.g.eh] at h9; exact h9.symm)]; exact c_50_19), if_pos c_17_4], hg.tr hgu17⟩) dX6_endOf_65
  exact loop_7_2 _ 0 (bgM t) u1 (Nat.zero_le _) (hgu1) (heu1) (rfl) (Nat.lt_succ_self _) _ _ hW ls (lv_sub hl [0, 1, 2, 3, 4, 5] rfl)
