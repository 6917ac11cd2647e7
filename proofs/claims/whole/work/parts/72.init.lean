set_option maxRecDepth 100000 in
set_option maxHeartbeats 4000000 in
theorem m_X3_init (l : Launch) (D : va_G) (cs : CS3) (h0 : Nat) : IT l yX3_init cX3_init 1 1 12 5 31 (tyX cs) D [.ref h0] (fun _ => True) [(h0, .inr (3, [.int 0, .int 0, .null, .null, .null, .null, .null]))] (fun w => ∃ q1 q2 q3 q4 q5, w = [(h0, .inr (3, [.int 0, .int 0, .ref q1, .ref q2, .ref q3, .ref q4, .ref q5])), (q1, .inl (cs.1, 8, .inl (fun _ => 0))), (q2, .inl (cs.1, 8, .inl (fun _ => 0))), (q3, .inl (cs.1, 5, .inl (fun _ => 0))), (q4, .inl (cs.1, 5, .inl (fun _ => 0))), (q5, .inl (cs.1, 5, .inl (fun _ => 0)))]) := by
  refine IT.of (own := RX3) (by decide) rfl rfl (Nat.le_of_ble_eq_true rfl) ?_
  intro p9 e9 s m9 args below meth c9 A Q hC hr hlk hnm hW hE hQ ls hl
  obtain ⟨hx, hb, hml, hown, hts⟩ := id hC
  have hl : lv_has ls 1 [(0, .ref h0)] := hl
  refine lv_aload_n hx hb dX3_init_0 rfl (lv_at hl 0 rfl) ?_
  refine i_obj hC hl.1 q_ml_RX3_3 (Nat.le_of_ble_eq_true rfl) (Nat.le_of_ble_eq_true rfl) dX3_init_1 ?_
  refine lv_aload_n hx hb dX3_init_4 rfl (lv_at hl 0 rfl) ?_
  refine lv_bipush (v := 8) hx hb dX3_init_5 (by decide) ?_
  refine i_newI (t0 := 0) (N := 8) hC hW rfl (by decide) (by decide) (Nat.le_of_ble_eq_true rfl) (Nat.le_of_ble_eq_true rfl) (Nat.le_of_ble_eq_true rfl) dX3_init_7 (fun q1 H hW => ?_)
  have hW : HX wI (tyX cs) D A s.heap s [(h0, .inr (3, [.int 0, .int 0, .null, .null, .null, .null, .null])), (q1, .inl (cs.1, 8, .inl (fun _ => 0)))] _ _ := hW
  refine i_putF (q0 := 0) (k := 2) (ty := tyX3 2) hC hnm hW i_X3 tyX3_ok nmX3 rfl rfl (by decide) rfl q_fl_RX3_9 rfl rfl (tyX3_ok 2 (by decide)) rfl rfl (Nat.le_of_ble_eq_true rfl) dX3_init_9 (fun H locs hW => ?_)
  have hW : HX wI (tyX cs) D A s.heap s [(h0, .inr (3, [.int 0, .int 0, .ref q1, .null, .null, .null, .null])), (q1, .inl (cs.1, 8, .inl (fun _ => 0)))] _ _ := hW
  refine lv_aload_n hx hb dX3_init_12 rfl (lv_at hl 0 rfl) ?_
  refine lv_bipush (v := 8) hx hb dX3_init_13 (by decide) ?_
  refine i_newI (t0 := 0) (N := 8) hC hW rfl (by decide) (by decide) (Nat.le_of_ble_eq_true rfl) (Nat.le_of_ble_eq_true rfl) (Nat.le_of_ble_eq_true rfl) dX3_init_15 (fun q2 H hW => ?_)
  have hW : HX wI (tyX cs) D A s.heap s [(h0, .inr (3, [.int 0, .int 0, .ref q1, .null, .null, .null, .null])), (q1, .inl (cs.1, 8, .inl (fun _ => 0))), (q2, .inl (cs.1, 8, .inl (fun _ => 0)))] _ _ := hW
  refine i_putF (q0 := 0) (k := 3) (ty := tyX3 3) hC hnm hW i_X3 tyX3_ok nmX3 rfl rfl (by decide) rfl q_fl_RX3_15 rfl rfl (tyX3_ok 3 (by decide)) rfl rfl (Nat.le_of_ble_eq_true rfl) dX3_init_17 (fun H locs hW => ?_)
  have hW : HX wI (tyX cs) D A s.heap s [(h0, .inr (3, [.int 0, .int 0, .ref q1, .ref q2, .null, .null, .null])), (q1, .inl (cs.1, 8, .inl (fun _ => 0))), (q2, .inl (cs.1, 8, .inl (fun _ => 0)))] _ _ := hW
  refine lv_aload_n hx hb dX3_init_20 rfl (lv_at hl 0 rfl) ?_
  refine lv_iconst (v := 5) hx hb dX3_init_21 (by decide) ?_
  refine i_newI (t0 := 0) (N := 5) hC hW rfl (by decide) (by decide) (Nat.le_of_ble_eq_true rfl) (Nat.le_of_ble_eq_true rfl) (Nat.le_of_ble_eq_true rfl) dX3_init_22 (fun q3 H hW => ?_)
  have hW : HX wI (tyX cs) D A s.heap s [(h0, .inr (3, [.int 0, .int 0, .ref q1, .ref q2, .null, .null, .null])), (q1, .inl (cs.1, 8, .inl (fun _ => 0))), (q2, .inl (cs.1, 8, .inl (fun _ => 0))), (q3, .inl (cs.1, 5, .inl (fun _ => 0)))] _ _ := hW
  refine i_putF (q0 := 0) (k := 4) (ty := tyX3 4) hC hnm hW i_X3 tyX3_ok nmX3 rfl rfl (by decide) rfl q_fl_RX3_18 rfl rfl (tyX3_ok 4 (by decide)) rfl rfl (Nat.le_of_ble_eq_true rfl) dX3_init_24 (fun H locs hW => ?_)
  have hW : HX wI (tyX cs) D A s.heap s [(h0, .inr (3, [.int 0, .int 0, .ref q1, .ref q2, .ref q3, .null, .null])), (q1, .inl (cs.1, 8, .inl (fun _ => 0))), (q2, .inl (cs.1, 8, .inl (fun _ => 0))), (q3, .inl (cs.1, 5, .inl (fun _ => 0)))] _ _ := hW
  refine lv_aload_n hx hb dX3_init_27 rfl (lv_at hl 0 rfl) ?_
  refine lv_iconst (v := 5) hx hb dX3_init_28 (by decide) ?_
  refine i_newI (t0 := 0) (N := 5) hC hW rfl (by decide) (by decide) (Nat.le_of_ble_eq_true rfl) (Nat.le_of_ble_eq_true rfl) (Nat.le_of_ble_eq_true rfl) dX3_init_29 (fun q4 H hW => ?_)
  have hW : HX wI (tyX cs) D A s.heap s [(h0, .inr (3, [.int 0, .int 0, .ref q1, .ref q2, .ref q3, .null, .null])), (q1, .inl (cs.1, 8, .inl (fun _ => 0))), (q2, .inl (cs.1, 8, .inl (fun _ => 0))), (q3, .inl (cs.1, 5, .inl (fun _ => 0))), (q4, .inl (cs.1, 5, .inl (fun _ => 0)))] _ _ := hW
  refine i_putF (q0 := 0) (k := 5) (ty := tyX3 5) hC hnm hW i_X3 tyX3_ok nmX3 rfl rfl (by decide) rfl q_fl_RX3_21 rfl rfl (tyX3_ok 5 (by decide)) rfl rfl (Nat.le_of_ble_eq_true rfl) dX3_init_31 (fun H locs hW => ?_)
  have hW : HX wI (tyX cs) D A s.heap s [(h0, .inr (3, [.int 0, .int 0, .ref q1, .ref q2, .ref q3, .ref q4, .null])), (q1, .inl (cs.1, 8, .inl (fun _ => 0))), (q2, .inl (cs.1, 8, .inl (fun _ => 0))), (q3, .inl (cs.1, 5, .inl (fun _ => 0))), (q4, .inl (cs.1, 5, .inl (fun _ => 0)))] _ _ := hW
  refine lv_aload_n hx hb dX3_init_34 rfl (lv_at hl 0 rfl) ?_
  refine lv_iconst (v := 5) hx hb dX3_init_35 (by decide) ?_
  refine i_newI (t0 := 0) (N := 5) hC hW rfl (by decide) (by decide) (Nat.le_of_ble_eq_true rfl) (Nat.le_of_ble_eq_true rfl) (Nat.le_of_ble_eq_true rfl) dX3_init_36 (fun q5 H hW => ?_)
  have hW : HX wI (tyX cs) D A s.heap s [(h0, .inr (3, [.int 0, .int 0, .ref q1, .ref q2, .ref q3, .ref q4, .null])), (q1, .inl (cs.1, 8, .inl (fun _ => 0))), (q2, .inl (cs.1, 8, .inl (fun _ => 0))), (q3, .inl (cs.1, 5, .inl (fun _ => 0))), (q4, .inl (cs.1, 5, .inl (fun _ => 0))), (q5, .inl (cs.1, 5, .inl (fun _ => 0)))] _ _ := hW
  refine i_putF (q0 := 0) (k := 6) (ty := tyX3 6) hC hnm hW i_X3 tyX3_ok nmX3 rfl rfl (by decide) rfl q_fl_RX3_24 rfl rfl (tyX3_ok 6 (by decide)) rfl rfl (Nat.le_of_ble_eq_true rfl) dX3_init_38 (fun H locs hW => ?_)
  have hW : HX wI (tyX cs) D A s.heap s [(h0, .inr (3, [.int 0, .int 0, .ref q1, .ref q2, .ref q3, .ref q4, .ref q5])), (q1, .inl (cs.1, 8, .inl (fun _ => 0))), (q2, .inl (cs.1, 8, .inl (fun _ => 0))), (q3, .inl (cs.1, 5, .inl (fun _ => 0))), (q4, .inl (cs.1, 5, .inl (fun _ => 0))), (q5, .inl (cs.1, 5, .inl (fun _ => 0)))] _ _ := hW
  exact i_vret hC hr hlk hW hQ ⟨q1, q2, q3, q4, q5, rfl⟩ dX3_init_41
set_option maxRecDepth 100000 in
set_option maxHeartbeats 4000000 in
theorem m_X1_init (l : Launch) (D : va_G) (cs : CS3) (h0 : Nat) : IT l yX1_init cX1_init 1 1 12 2 16 (tyX cs) D [.ref h0] (fun _ => True) [(h0, .inr (1, [.int 0, .null, .null]))] (fun w => ∃ q1 q2, w = [(h0, .inr (1, [.int 0, .ref q1, .ref q2])), (q1, .inl (cs.1, 8, .inl (fun _ => 0))), (q2, .inl (cs.1, 8, .inl (fun _ => 0)))]) := by
  refine IT.of (own := RX1) (by decide) rfl rfl (Nat.le_of_ble_eq_true rfl) ?_
  intro p9 e9 s m9 args below meth c9 A Q hC hr hlk hnm hW hE hQ ls hl
  obtain ⟨hx, hb, hml, hown, hts⟩ := id hC
  have hl : lv_has ls 1 [(0, .ref h0)] := hl
  refine lv_aload_n hx hb dX1_init_0 rfl (lv_at hl 0 rfl) ?_
  refine i_obj hC hl.1 q_ml_RX1_1 (Nat.le_of_ble_eq_true rfl) (Nat.le_of_ble_eq_true rfl) dX1_init_1 ?_
  refine lv_aload_n hx hb dX1_init_4 rfl (lv_at hl 0 rfl) ?_
  refine lv_bipush (v := 8) hx hb dX1_init_5 (by decide) ?_
  refine i_newI (t0 := 0) (N := 8) hC hW rfl (by decide) (by decide) (Nat.le_of_ble_eq_true rfl) (Nat.le_of_ble_eq_true rfl) (Nat.le_of_ble_eq_true rfl) dX1_init_7 (fun q1 H hW => ?_)
  have hW : HX wI (tyX cs) D A s.heap s [(h0, .inr (1, [.int 0, .null, .null])), (q1, .inl (cs.1, 8, .inl (fun _ => 0)))] _ _ := hW
  refine i_putF (q0 := 0) (k := 1) (ty := tyX1 1) hC hnm hW i_X1 tyX1_ok nmX1 rfl rfl (by decide) rfl q_fl_RX1_9 rfl rfl (tyX1_ok 1 (by decide)) rfl rfl (Nat.le_of_ble_eq_true rfl) dX1_init_9 (fun H locs hW => ?_)
  have hW : HX wI (tyX cs) D A s.heap s [(h0, .inr (1, [.int 0, .ref q1, .null])), (q1, .inl (cs.1, 8, .inl (fun _ => 0)))] _ _ := hW
  refine lv_aload_n hx hb dX1_init_12 rfl (lv_at hl 0 rfl) ?_
  refine lv_bipush (v := 8) hx hb dX1_init_13 (by decide) ?_
  refine i_newI (t0 := 0) (N := 8) hC hW rfl (by decide) (by decide) (Nat.le_of_ble_eq_true rfl) (Nat.le_of_ble_eq_true rfl) (Nat.le_of_ble_eq_true rfl) dX1_init_15 (fun q2 H hW => ?_)
  have hW : HX wI (tyX cs) D A s.heap s [(h0, .inr (1, [.int 0, .ref q1, .null])), (q1, .inl (cs.1, 8, .inl (fun _ => 0))), (q2, .inl (cs.1, 8, .inl (fun _ => 0)))] _ _ := hW
  refine i_putF (q0 := 0) (k := 2) (ty := tyX1 2) hC hnm hW i_X1 tyX1_ok nmX1 rfl rfl (by decide) rfl q_fl_RX1_13 rfl rfl (tyX1_ok 2 (by decide)) rfl rfl (Nat.le_of_ble_eq_true rfl) dX1_init_17 (fun H locs hW => ?_)
  have hW : HX wI (tyX cs) D A s.heap s [(h0, .inr (1, [.int 0, .ref q1, .ref q2])), (q1, .inl (cs.1, 8, .inl (fun _ => 0))), (q2, .inl (cs.1, 8, .inl (fun _ => 0)))] _ _ := hW
  exact i_vret hC hr hlk hW hQ ⟨q1, q2, rfl⟩ dX1_init_20
set_option maxRecDepth 100000 in
set_option maxHeartbeats 4000000 in
theorem m_X2_init (l : Launch) (D : va_G) (cs : CS3) (h0 : Nat) : IT l yX2_init cX2_init 1 1 12 1 60 (tyX cs) D [.ref h0] (fun _ => True) [(h0, .inr (2, [.int 0, .int 0, .null]))] (fun w => ∃ q1, w = [(h0, .inr (2, [.int (-1), .int 0, .ref q1])), (q1, .inl (cs.1, 60, .inl (fun _ => 0)))]) := by
  refine IT.of (own := RX2) (by decide) rfl rfl (Nat.le_of_ble_eq_true rfl) ?_
  intro p9 e9 s m9 args below meth c9 A Q hC hr hlk hnm hW hE hQ ls hl
  obtain ⟨hx, hb, hml, hown, hts⟩ := id hC
  have hl : lv_has ls 1 [(0, .ref h0)] := hl
  refine lv_aload_n hx hb dX2_init_0 rfl (lv_at hl 0 rfl) ?_
  refine i_obj hC hl.1 q_ml_RX2_3 (Nat.le_of_ble_eq_true rfl) (Nat.le_of_ble_eq_true rfl) dX2_init_1 ?_
  refine lv_aload_n hx hb dX2_init_4 rfl (lv_at hl 0 rfl) ?_
  refine lv_iconst (v := (-1)) hx hb dX2_init_5 (by decide) ?_
  refine r_put (wf := wI) (q0 := 0) (k := 0) (ty := .int) (st' := [(h0, .inr (2, [.int (-1), .int 0, .null]))]) hC hW i_X2 tyX2_ok nmX2 rfl rfl (by decide) rfl q_fl_RX2_11 rfl (by decide +kernel) rfl rfl (Nat.le_of_ble_eq_true rfl) rfl dX2_init_6 (fun H locs hW => ?_)
  refine lv_aload_n hx hb dX2_init_9 rfl (lv_at hl 0 rfl) ?_
  refine lv_bipush (v := 60) hx hb dX2_init_10 (by decide) ?_
  refine i_newI (t0 := 0) (N := 60) hC hW rfl (by decide) (by decide) (Nat.le_of_ble_eq_true rfl) (Nat.le_of_ble_eq_true rfl) (Nat.le_of_ble_eq_true rfl) dX2_init_12 (fun q1 H hW => ?_)
  have hW : HX wI (tyX cs) D A s.heap s [(h0, .inr (2, [.int (-1), .int 0, .null])), (q1, .inl (cs.1, 60, .inl (fun _ => 0)))] _ _ := hW
  refine i_putF (q0 := 0) (k := 2) (ty := tyX2 2) hC hnm hW i_X2 tyX2_ok nmX2 rfl rfl (by decide) rfl q_fl_RX2_15 rfl rfl (tyX2_ok 2 (by decide)) rfl rfl (Nat.le_of_ble_eq_true rfl) dX2_init_14 (fun H locs hW => ?_)
  have hW : HX wI (tyX cs) D A s.heap s [(h0, .inr (2, [.int (-1), .int 0, .ref q1])), (q1, .inl (cs.1, 60, .inl (fun _ => 0)))] _ _ := hW
  exact i_vret hC hr hlk hW hQ ⟨q1, rfl⟩ dX2_init_17
set_option maxRecDepth 100000 in
set_option maxHeartbeats 4000000 in
theorem m_X0_init (l : Launch) (D : va_G) (cs : CS3) (h0 : Nat) (h1 : Nat) : IT l yX0_init cX0_init 2 1 12 3 18 (tyX cs) D [.ref h0, .ref h1] (fun _ => True) [(h0, .inr (0, [.null, .null, .null, .null, .int 0]))] (fun w => ∃ q1 q2 q3, w = [(h0, .inr (0, [.ref h1, .ref q1, .ref q2, .ref q3, .int 0])), (q1, .inl (cs.1, 8, .inl (fun _ => 0))), (q2, .inl (cs.1, 5, .inl (fun _ => 0))), (q3, .inl (cs.1, 5, .inl (fun _ => 0)))]) := by
  refine IT.of (own := RX0) (by decide) rfl rfl (Nat.le_of_ble_eq_true rfl) ?_
  intro p9 e9 s m9 args below meth c9 A Q hC hr hlk hnm hW hE hQ ls hl
  obtain ⟨hx, hb, hml, hown, hts⟩ := id hC
  have hl : lv_has ls 2 [(0, .ref h0), (1, .ref h1)] := hl
  refine lv_aload_n hx hb dX0_init_0 rfl (lv_at hl 0 rfl) ?_
  refine i_obj hC hl.1 q_ml_RX0_3 (Nat.le_of_ble_eq_true rfl) (Nat.le_of_ble_eq_true rfl) dX0_init_1 ?_
  refine lv_aload_n hx hb dX0_init_4 rfl (lv_at hl 0 rfl) ?_
  refine lv_bipush (v := 8) hx hb dX0_init_5 (by decide) ?_
  refine i_newI (t0 := 0) (N := 8) hC hW rfl (by decide) (by decide) (Nat.le_of_ble_eq_true rfl) (Nat.le_of_ble_eq_true rfl) (Nat.le_of_ble_eq_true rfl) dX0_init_7 (fun q1 H hW => ?_)
  have hW : HX wI (tyX cs) D A s.heap s [(h0, .inr (0, [.null, .null, .null, .null, .int 0])), (q1, .inl (cs.1, 8, .inl (fun _ => 0)))] _ _ := hW
  refine i_putF (q0 := 0) (k := 1) (ty := tyX0 1) hC hnm hW i_X0 tyX0_ok nmX0 rfl rfl (by decide) rfl q_fl_RX0_9 rfl rfl (tyX0_ok 1 (by decide)) rfl rfl (Nat.le_of_ble_eq_true rfl) dX0_init_9 (fun H locs hW => ?_)
  have hW : HX wI (tyX cs) D A s.heap s [(h0, .inr (0, [.null, .ref q1, .null, .null, .int 0])), (q1, .inl (cs.1, 8, .inl (fun _ => 0)))] _ _ := hW
  refine lv_aload_n hx hb dX0_init_12 rfl (lv_at hl 0 rfl) ?_
  refine lv_iconst (v := 5) hx hb dX0_init_13 (by decide) ?_
  refine i_newI (t0 := 0) (N := 5) hC hW rfl (by decide) (by decide) (Nat.le_of_ble_eq_true rfl) (Nat.le_of_ble_eq_true rfl) (Nat.le_of_ble_eq_true rfl) dX0_init_14 (fun q2 H hW => ?_)
  have hW : HX wI (tyX cs) D A s.heap s [(h0, .inr (0, [.null, .ref q1, .null, .null, .int 0])), (q1, .inl (cs.1, 8, .inl (fun _ => 0))), (q2, .inl (cs.1, 5, .inl (fun _ => 0)))] _ _ := hW
  refine i_putF (q0 := 0) (k := 2) (ty := tyX0 2) hC hnm hW i_X0 tyX0_ok nmX0 rfl rfl (by decide) rfl q_fl_RX0_15 rfl rfl (tyX0_ok 2 (by decide)) rfl rfl (Nat.le_of_ble_eq_true rfl) dX0_init_16 (fun H locs hW => ?_)
  have hW : HX wI (tyX cs) D A s.heap s [(h0, .inr (0, [.null, .ref q1, .ref q2, .null, .int 0])), (q1, .inl (cs.1, 8, .inl (fun _ => 0))), (q2, .inl (cs.1, 5, .inl (fun _ => 0)))] _ _ := hW
  refine lv_aload_n hx hb dX0_init_19 rfl (lv_at hl 0 rfl) ?_
  refine lv_iconst (v := 5) hx hb dX0_init_20 (by decide) ?_
  refine i_newI (t0 := 0) (N := 5) hC hW rfl (by decide) (by decide) (Nat.le_of_ble_eq_true rfl) (Nat.le_of_ble_eq_true rfl) (Nat.le_of_ble_eq_true rfl) dX0_init_21 (fun q3 H hW => ?_)
  have hW : HX wI (tyX cs) D A s.heap s [(h0, .inr (0, [.null, .ref q1, .ref q2, .null, .int 0])), (q1, .inl (cs.1, 8, .inl (fun _ => 0))), (q2, .inl (cs.1, 5, .inl (fun _ => 0))), (q3, .inl (cs.1, 5, .inl (fun _ => 0)))] _ _ := hW
  refine i_putF (q0 := 0) (k := 3) (ty := tyX0 3) hC hnm hW i_X0 tyX0_ok nmX0 rfl rfl (by decide) rfl q_fl_RX0_18 rfl rfl (tyX0_ok 3 (by decide)) rfl rfl (Nat.le_of_ble_eq_true rfl) dX0_init_23 (fun H locs hW => ?_)
  have hW : HX wI (tyX cs) D A s.heap s [(h0, .inr (0, [.null, .ref q1, .ref q2, .ref q3, .int 0])), (q1, .inl (cs.1, 8, .inl (fun _ => 0))), (q2, .inl (cs.1, 5, .inl (fun _ => 0))), (q3, .inl (cs.1, 5, .inl (fun _ => 0)))] _ _ := hW
  refine lv_aload_n hx hb dX0_init_26 rfl (lv_at hl 0 rfl) ?_
  refine lv_aload_n hx hb dX0_init_27 rfl (lv_at hl 1 rfl) ?_
  refine i_putF (q0 := 0) (k := 0) (ty := tyX0 0) hC hnm hW i_X0 tyX0_ok nmX0 rfl rfl (by decide) rfl q_fl_RX0_21 rfl rfl (tyX0_ok 0 (by decide)) rfl rfl (Nat.le_of_ble_eq_true rfl) dX0_init_28 (fun H locs hW => ?_)
  have hW : HX wI (tyX cs) D A s.heap s [(h0, .inr (0, [.ref h1, .ref q1, .ref q2, .ref q3, .int 0])), (q1, .inl (cs.1, 8, .inl (fun _ => 0))), (q2, .inl (cs.1, 5, .inl (fun _ => 0))), (q3, .inl (cs.1, 5, .inl (fun _ => 0)))] _ _ := hW
  exact i_vret hC hr hlk hW hQ ⟨q1, q2, q3, rfl⟩ dX0_init_31
