set_option maxRecDepth 100000 in
set_option maxHeartbeats 4000000 in
theorem law_10 {p : Program} {e : Env} {s : State} {m : MethodId} {below : List Frame} {meth : Method} {c : Code} (l : Launch) {b L i : Nat} {xs : Nat → Int32} {D : va_G} {cs : CS3} {ad am : Nat → Nat} {Q : State → Prop} {ls : Array Slot} (hC : CallFix p m c cL_law 4 s #[Value.ref b] lw_tg RL) (hX : va_X b L xs s s.heap) (hbl : b < s.heap.size) (hL : L ≤ 3584) (hi : i + 7 ≤ L) (hl : lv_has ls 4 [(3, .int (nI i)), (2, .ref (am 0)), (1, .ref (ad 0)), (0, .ref b)]) (kl : KL p l e s m b below meth c D cs ad am Q ls) {t v : St} {H : Heap} {locs : List Loc} (hW : HX wI (tyX cs) D (fun q : Nat => s.heap.size ≤ q) s.heap s (wM cs am v ++ wX cs ad t) H locs) (hI : INV t v) : W p l e room_1 s m #[Value.ref b] below meth c H locs 84 2041 Q (F0 m 548 ls []) := by
  obtain ⟨hx, hb, hml, hown, hts⟩ := id hC
  have hbA : ¬ (fun q : Nat => s.heap.size ≤ q) b := Nat.not_le.mpr hbl
  obtain ⟨P, R, C, hwf, ham⟩ := id hI
  refine lv_aload_n hx hb dL_law_548 rfl (lv_at hl 2 rfl) ?_
  refine lv_aload_n hx hb dL_law_549 rfl (lv_at hl 3 rfl) ?_
  refine lv_iload_n hx hb dL_law_550 rfl (lv_at hl 0 rfl) ?_
  refine lv_iconst (v := 1) hx hb dL_law_551 (by decide) ?_
  refine lv_iadd hx hb dL_law_552 ?_
  refine j_sld (j := i + 1) hC hX hbl hbA hW.2.2.2.1 (nI_add i 1) (by omega) (by omega) dL_law_553 ?_
  refine lv_aload_n hx hb dL_law_554 rfl (lv_at hl 3 rfl) ?_
  refine lv_iload_n hx hb dL_law_555 rfl (lv_at hl 0 rfl) ?_
  refine lv_iconst (v := 2) hx hb dL_law_556 (by decide) ?_
  refine lv_iadd hx hb dL_law_557 ?_
  refine j_sld (j := i + 2) hC hX hbl hbA hW.2.2.2.1 (nI_add i 2) (by omega) (by omega) dL_law_558 ?_
  refine lv_aload_n hx hb dL_law_559 rfl (lv_at hl 3 rfl) ?_
  refine lv_iload_n hx hb dL_law_560 rfl (lv_at hl 0 rfl) ?_
  refine lv_iconst (v := 3) hx hb dL_law_561 (by decide) ?_
  refine lv_iadd hx hb dL_law_562 ?_
  refine j_sld (j := i + 3) hC hX hbl hbA hW.2.2.2.1 (nI_add i 3) (by omega) (by omega) dL_law_563 ?_
  refine j_i (wf := wX cs ad) (st := t) (wr := wM cs am v) (run_V (rest := []) hC (hx_r (wf := wX cs ad) (st := t) (wr := wM cs am v) hW) (m_X5_game l D cs ad t P R C (xs (i + 1)) (xs (i + 2)) (xs (i + 3)) hwf.1) k_yX5_game ⟨rfl, rfl⟩ q_ml_RL_58 eX_0 rfl rfl hl.1 rfl (Nat.le_of_ble_eq_true rfl) ⟨(Nat.le_of_ble_eq_true rfl), (Nat.le_of_ble_eq_true rfl)⟩ dL_law_564 ⟨(Nat.le_of_ble_eq_true rfl), (Nat.le_of_ble_eq_true rfl)⟩) hW (fun r1 u H locs hp hW => ?_)
  have hW := hx_swap (wr := wM cs am v) (wc := wX cs ad u) hW
  refine lv_aload_n hx hb dL_law_567 rfl (lv_at hl 1 rfl) ?_
  refine lv_aload_n hx hb dL_law_568 rfl (lv_at hl 3 rfl) ?_
  refine lv_iload_n hx hb dL_law_569 rfl (lv_at hl 0 rfl) ?_
  refine lv_iconst (v := 1) hx hb dL_law_570 (by decide) ?_
  refine lv_iadd hx hb dL_law_571 ?_
  refine j_sld (j := i + 1) hC hX hbl hbA hW.2.2.2.1 (nI_add i 1) (by omega) (by omega) dL_law_572 ?_
  refine lv_aload_n hx hb dL_law_573 rfl (lv_at hl 3 rfl) ?_
  refine lv_iload_n hx hb dL_law_574 rfl (lv_at hl 0 rfl) ?_
  refine lv_iconst (v := 2) hx hb dL_law_575 (by decide) ?_
  refine lv_iadd hx hb dL_law_576 ?_
  refine j_sld (j := i + 2) hC hX hbl hbA hW.2.2.2.1 (nI_add i 2) (by omega) (by omega) dL_law_577 ?_
  refine lv_aload_n hx hb dL_law_578 rfl (lv_at hl 3 rfl) ?_
  refine lv_iload_n hx hb dL_law_579 rfl (lv_at hl 0 rfl) ?_
  refine lv_iconst (v := 3) hx hb dL_law_580 (by decide) ?_
  refine lv_iadd hx hb dL_law_581 ?_
  refine j_sld (j := i + 3) hC hX hbl hbA hW.2.2.2.1 (nI_add i 3) (by omega) (by omega) dL_law_582 ?_
  refine j_i (wf := wM cs am) (st := v) (wr := wX cs ad u) (run_V (rest := [.int r1]) hC (hx_r (wf := wM cs am) (st := v) (wr := wX cs ad u) hW) (m_X6_game l D cs am v t P R C (xs (i + 1)) (xs (i + 2)) (xs (i + 3)) hwf ham) k_yX6_game ⟨rfl, rfl⟩ q_ml_RL_61 eM_0 rfl rfl hl.1 rfl (Nat.le_of_ble_eq_true rfl) ⟨(Nat.le_of_ble_eq_true rfl), (Nat.le_of_ble_eq_true rfl)⟩ dL_law_583 ⟨(Nat.le_of_ble_eq_true rfl), (Nat.le_of_ble_eq_true rfl)⟩) hW (fun r2 v2 H locs hp2 hW => ?_)
  have hW := hx_swap (wr := wX cs ad u) (wc := wM cs am v2) hW
  rw [← F_G_game hwf.1.2.2.2.1] at hp2
  have heq : r1 = r2 := hp.1.trans hp2.1.symm
  have hin : INV u v2 := inv_next (e_game hwf (xs (i + 1)) (xs (i + 2)) (xs (i + 3))) hp.2 hp2.2
  refine lv_icmp_eq (tgt := 1354) hx hb dL_law_586 (by decide) (fun _ => ?_) (fun h9 => absurd heq h9)
  exact kl u v2 _ _ hW hin
set_option maxRecDepth 100000 in
set_option maxHeartbeats 4000000 in
theorem law_11 {p : Program} {e : Env} {s : State} {m : MethodId} {below : List Frame} {meth : Method} {c : Code} (l : Launch) {b L i : Nat} {xs : Nat → Int32} {D : va_G} {cs : CS3} {ad am : Nat → Nat} {Q : State → Prop} {ls : Array Slot} (hC : CallFix p m c cL_law 4 s #[Value.ref b] lw_tg RL) (hX : va_X b L xs s s.heap) (hbl : b < s.heap.size) (hL : L ≤ 3584) (hi : i + 7 ≤ L) (hl : lv_has ls 4 [(3, .int (nI i)), (2, .ref (am 0)), (1, .ref (ad 0)), (0, .ref b)]) (kl : KL p l e s m b below meth c D cs ad am Q ls) {t v : St} {H : Heap} {locs : List Loc} (hW : HX wI (tyX cs) D (fun q : Nat => s.heap.size ≤ q) s.heap s (wM cs am v ++ wX cs ad t) H locs) (hI : INV t v) : W p l e room_1 s m #[Value.ref b] below meth c H locs 84 2041 Q (F0 m 591 ls []) := by
  obtain ⟨hx, hb, hml, hown, hts⟩ := id hC
  have hbA : ¬ (fun q : Nat => s.heap.size ≤ q) b := Nat.not_le.mpr hbl
  obtain ⟨P, R, C, hwf, ham⟩ := id hI
  refine lv_aload_n hx hb dL_law_591 rfl (lv_at hl 2 rfl) ?_
  refine lv_aload_n hx hb dL_law_592 rfl (lv_at hl 3 rfl) ?_
  refine lv_iload_n hx hb dL_law_593 rfl (lv_at hl 0 rfl) ?_
  refine lv_iconst (v := 1) hx hb dL_law_594 (by decide) ?_
  refine lv_iadd hx hb dL_law_595 ?_
  refine j_sld (j := i + 1) hC hX hbl hbA hW.2.2.2.1 (nI_add i 1) (by omega) (by omega) dL_law_596 ?_
  refine j_i (wf := wX cs ad) (st := t) (wr := wM cs am v) (run_V (rest := []) hC (hx_r (wf := wX cs ad) (st := t) (wr := wM cs am v) hW) (m_X5_worth l D cs ad t P R C (xs (i + 1)) hwf.1) k_yX5_worth ⟨rfl, rfl⟩ q_ml_RL_62 eX_0 rfl rfl hl.1 rfl (Nat.le_of_ble_eq_true rfl) ⟨(Nat.le_of_ble_eq_true rfl), (Nat.le_of_ble_eq_true rfl)⟩ dL_law_597 ⟨(Nat.le_of_ble_eq_true rfl), (Nat.le_of_ble_eq_true rfl)⟩) hW (fun r1 u H locs hp hW => ?_)
  have hW := hx_swap (wr := wM cs am v) (wc := wX cs ad u) hW
  refine lv_aload_n hx hb dL_law_600 rfl (lv_at hl 1 rfl) ?_
  refine lv_aload_n hx hb dL_law_601 rfl (lv_at hl 3 rfl) ?_
  refine lv_iload_n hx hb dL_law_602 rfl (lv_at hl 0 rfl) ?_
  refine lv_iconst (v := 1) hx hb dL_law_603 (by decide) ?_
  refine lv_iadd hx hb dL_law_604 ?_
  refine j_sld (j := i + 1) hC hX hbl hbA hW.2.2.2.1 (nI_add i 1) (by omega) (by omega) dL_law_605 ?_
  refine j_i (wf := wM cs am) (st := v) (wr := wX cs ad u) (run_V (rest := [.int r1]) hC (hx_r (wf := wM cs am) (st := v) (wr := wX cs ad u) hW) (m_X6_worth l D cs am v t P R C (xs (i + 1)) hwf ham) k_yX6_worth ⟨rfl, rfl⟩ q_ml_RL_65 eM_0 rfl rfl hl.1 rfl (Nat.le_of_ble_eq_true rfl) ⟨(Nat.le_of_ble_eq_true rfl), (Nat.le_of_ble_eq_true rfl)⟩ dL_law_606 ⟨(Nat.le_of_ble_eq_true rfl), (Nat.le_of_ble_eq_true rfl)⟩) hW (fun r2 v2 H locs hp2 hW => ?_)
  have hW := hx_swap (wr := wX cs ad u) (wc := wM cs am v2) hW
  rw [← worth_eq] at hp2
  have heq : r1 = r2 := hp.1.trans hp2.1.symm
  have hin : INV u v2 := inv_next (e_worth hwf (xs (i + 1))) hp.2 hp2.2
  refine lv_icmp_eq (tgt := 1354) hx hb dL_law_609 (by decide) (fun _ => ?_) (fun h9 => absurd heq h9)
  exact kl u v2 _ _ hW hin
set_option maxRecDepth 100000 in
set_option maxHeartbeats 4000000 in
theorem law_12 {p : Program} {e : Env} {s : State} {m : MethodId} {below : List Frame} {meth : Method} {c : Code} (l : Launch) {b L i : Nat} {xs : Nat → Int32} {D : va_G} {cs : CS3} {ad am : Nat → Nat} {Q : State → Prop} {ls : Array Slot} (hC : CallFix p m c cL_law 4 s #[Value.ref b] lw_tg RL) (hX : va_X b L xs s s.heap) (hbl : b < s.heap.size) (hL : L ≤ 3584) (hi : i + 7 ≤ L) (hl : lv_has ls 4 [(3, .int (nI i)), (2, .ref (am 0)), (1, .ref (ad 0)), (0, .ref b)]) (kl : KL p l e s m b below meth c D cs ad am Q ls) {t v : St} {H : Heap} {locs : List Loc} (hW : HX wI (tyX cs) D (fun q : Nat => s.heap.size ≤ q) s.heap s (wM cs am v ++ wX cs ad t) H locs) (hI : INV t v) : W p l e room_1 s m #[Value.ref b] below meth c H locs 84 2041 Q (F0 m 614 ls []) := by
  obtain ⟨hx, hb, hml, hown, hts⟩ := id hC
  have hbA : ¬ (fun q : Nat => s.heap.size ≤ q) b := Nat.not_le.mpr hbl
  obtain ⟨P, R, C, hwf, ham⟩ := id hI
  refine lv_aload_n hx hb dL_law_614 rfl (lv_at hl 2 rfl) ?_
  refine lv_aload_n hx hb dL_law_615 rfl (lv_at hl 3 rfl) ?_
  refine lv_iload_n hx hb dL_law_616 rfl (lv_at hl 0 rfl) ?_
  refine lv_iconst (v := 1) hx hb dL_law_617 (by decide) ?_
  refine lv_iadd hx hb dL_law_618 ?_
  refine j_sld (j := i + 1) hC hX hbl hbA hW.2.2.2.1 (nI_add i 1) (by omega) (by omega) dL_law_619 ?_
  refine lv_aload_n hx hb dL_law_620 rfl (lv_at hl 3 rfl) ?_
  refine lv_iload_n hx hb dL_law_621 rfl (lv_at hl 0 rfl) ?_
  refine lv_iconst (v := 2) hx hb dL_law_622 (by decide) ?_
  refine lv_iadd hx hb dL_law_623 ?_
  refine j_sld (j := i + 2) hC hX hbl hbA hW.2.2.2.1 (nI_add i 2) (by omega) (by omega) dL_law_624 ?_
  refine j_i (wf := wX cs ad) (st := t) (wr := wM cs am v) (run_V (rest := []) hC (hx_r (wf := wX cs ad) (st := t) (wr := wM cs am v) hW) (m_X5_reading l D cs ad t P R C (xs (i + 1)) (xs (i + 2)) hwf.1) k_yX5_reading ⟨rfl, rfl⟩ q_ml_RL_66 eX_0 rfl rfl hl.1 rfl (Nat.le_of_ble_eq_true rfl) ⟨(Nat.le_of_ble_eq_true rfl), (Nat.le_of_ble_eq_true rfl)⟩ dL_law_625 ⟨(Nat.le_of_ble_eq_true rfl), (Nat.le_of_ble_eq_true rfl)⟩) hW (fun r1 u H locs hp hW => ?_)
  have hW := hx_swap (wr := wM cs am v) (wc := wX cs ad u) hW
  refine lv_aload_n hx hb dL_law_628 rfl (lv_at hl 1 rfl) ?_
  refine lv_aload_n hx hb dL_law_629 rfl (lv_at hl 3 rfl) ?_
  refine lv_iload_n hx hb dL_law_630 rfl (lv_at hl 0 rfl) ?_
  refine lv_iconst (v := 1) hx hb dL_law_631 (by decide) ?_
  refine lv_iadd hx hb dL_law_632 ?_
  refine j_sld (j := i + 1) hC hX hbl hbA hW.2.2.2.1 (nI_add i 1) (by omega) (by omega) dL_law_633 ?_
  refine lv_aload_n hx hb dL_law_634 rfl (lv_at hl 3 rfl) ?_
  refine lv_iload_n hx hb dL_law_635 rfl (lv_at hl 0 rfl) ?_
  refine lv_iconst (v := 2) hx hb dL_law_636 (by decide) ?_
  refine lv_iadd hx hb dL_law_637 ?_
  refine j_sld (j := i + 2) hC hX hbl hbA hW.2.2.2.1 (nI_add i 2) (by omega) (by omega) dL_law_638 ?_
  refine j_i (wf := wM cs am) (st := v) (wr := wX cs ad u) (run_V (rest := [.int r1]) hC (hx_r (wf := wM cs am) (st := v) (wr := wX cs ad u) hW) (m_X6_reading l D cs am v t P R C (xs (i + 1)) (xs (i + 2)) hwf ham) k_yX6_reading ⟨rfl, rfl⟩ q_ml_RL_69 eM_0 rfl rfl hl.1 rfl (Nat.le_of_ble_eq_true rfl) ⟨(Nat.le_of_ble_eq_true rfl), (Nat.le_of_ble_eq_true rfl)⟩ dL_law_639 ⟨(Nat.le_of_ble_eq_true rfl), (Nat.le_of_ble_eq_true rfl)⟩) hW (fun r2 v2 H locs hp2 hW => ?_)
  have hW := hx_swap (wr := wX cs ad u) (wc := wM cs am v2) hW
  have heq : r1 = r2 := hp.1.trans hp2.1.symm
  have hin : INV u v2 := inv_next (e_reading hwf (xs (i + 1)) (xs (i + 2))) hp.2 hp2.2
  refine lv_icmp_eq (tgt := 1354) hx hb dL_law_642 (by decide) (fun _ => ?_) (fun h9 => absurd heq h9)
  exact kl u v2 _ _ hW hin
set_option maxRecDepth 100000 in
set_option maxHeartbeats 4000000 in
theorem law_13 {p : Program} {e : Env} {s : State} {m : MethodId} {below : List Frame} {meth : Method} {c : Code} (l : Launch) {b L i : Nat} {xs : Nat → Int32} {D : va_G} {cs : CS3} {ad am : Nat → Nat} {Q : State → Prop} {ls : Array Slot} (hC : CallFix p m c cL_law 4 s #[Value.ref b] lw_tg RL) (hX : va_X b L xs s s.heap) (hbl : b < s.heap.size) (hL : L ≤ 3584) (hi : i + 7 ≤ L) (hl : lv_has ls 4 [(3, .int (nI i)), (2, .ref (am 0)), (1, .ref (ad 0)), (0, .ref b)]) (kl : KL p l e s m b below meth c D cs ad am Q ls) {t v : St} {H : Heap} {locs : List Loc} (hW : HX wI (tyX cs) D (fun q : Nat => s.heap.size ≤ q) s.heap s (wM cs am v ++ wX cs ad t) H locs) (hI : INV t v) : W p l e room_1 s m #[Value.ref b] below meth c H locs 84 2041 Q (F0 m 647 ls []) := by
  obtain ⟨hx, hb, hml, hown, hts⟩ := id hC
  have hbA : ¬ (fun q : Nat => s.heap.size ≤ q) b := Nat.not_le.mpr hbl
  obtain ⟨P, R, C, hwf, ham⟩ := id hI
  refine lv_aload_n hx hb dL_law_647 rfl (lv_at hl 2 rfl) ?_
  refine lv_aload_n hx hb dL_law_648 rfl (lv_at hl 3 rfl) ?_
  refine lv_iload_n hx hb dL_law_649 rfl (lv_at hl 0 rfl) ?_
  refine lv_iconst (v := 1) hx hb dL_law_650 (by decide) ?_
  refine lv_iadd hx hb dL_law_651 ?_
  refine j_sld (j := i + 1) hC hX hbl hbA hW.2.2.2.1 (nI_add i 1) (by omega) (by omega) dL_law_652 ?_
  refine j_i (wf := wX cs ad) (st := t) (wr := wM cs am v) (run_V (rest := []) hC (hx_r (wf := wX cs ad) (st := t) (wr := wM cs am v) hW) (m_X5_back l D cs ad t P R C (xs (i + 1)) hwf.1) k_yX5_back ⟨rfl, rfl⟩ q_ml_RL_70 eX_0 rfl rfl hl.1 rfl (Nat.le_of_ble_eq_true rfl) ⟨(Nat.le_of_ble_eq_true rfl), (Nat.le_of_ble_eq_true rfl)⟩ dL_law_653 ⟨(Nat.le_of_ble_eq_true rfl), (Nat.le_of_ble_eq_true rfl)⟩) hW (fun r1 u H locs hp hW => ?_)
  have hW := hx_swap (wr := wM cs am v) (wc := wX cs ad u) hW
  refine lv_aload_n hx hb dL_law_656 rfl (lv_at hl 1 rfl) ?_
  refine lv_aload_n hx hb dL_law_657 rfl (lv_at hl 3 rfl) ?_
  refine lv_iload_n hx hb dL_law_658 rfl (lv_at hl 0 rfl) ?_
  refine lv_iconst (v := 1) hx hb dL_law_659 (by decide) ?_
  refine lv_iadd hx hb dL_law_660 ?_
  refine j_sld (j := i + 1) hC hX hbl hbA hW.2.2.2.1 (nI_add i 1) (by omega) (by omega) dL_law_661 ?_
  refine j_i (wf := wM cs am) (st := v) (wr := wX cs ad u) (run_V (rest := [.int r1]) hC (hx_r (wf := wM cs am) (st := v) (wr := wX cs ad u) hW) (m_X6_back l D cs am v t P R C (xs (i + 1)) hwf ham) k_yX6_back ⟨rfl, rfl⟩ q_ml_RL_73 eM_0 rfl rfl hl.1 rfl (Nat.le_of_ble_eq_true rfl) ⟨(Nat.le_of_ble_eq_true rfl), (Nat.le_of_ble_eq_true rfl)⟩ dL_law_662 ⟨(Nat.le_of_ble_eq_true rfl), (Nat.le_of_ble_eq_true rfl)⟩) hW (fun r2 v2 H locs hp2 hW => ?_)
  have hW := hx_swap (wr := wX cs ad u) (wc := wM cs am v2) hW
  have heq : r1 = r2 := hp.1.trans hp2.1.symm
  have hin : INV u v2 := inv_next (e_back hwf (xs (i + 1))) hp.2 hp2.2
  refine lv_icmp_eq (tgt := 1354) hx hb dL_law_665 (by decide) (fun _ => ?_) (fun h9 => absurd heq h9)
  exact kl u v2 _ _ hW hin
set_option maxRecDepth 100000 in
set_option maxHeartbeats 4000000 in
theorem law_14 {p : Program} {e : Env} {s : State} {m : MethodId} {below : List Frame} {meth : Method} {c : Code} (l : Launch) {b L i : Nat} {xs : Nat → Int32} {D : va_G} {cs : CS3} {ad am : Nat → Nat} {Q : State → Prop} {ls : Array Slot} (hC : CallFix p m c cL_law 4 s #[Value.ref b] lw_tg RL) (hX : va_X b L xs s s.heap) (hbl : b < s.heap.size) (hL : L ≤ 3584) (hi : i + 7 ≤ L) (hl : lv_has ls 4 [(3, .int (nI i)), (2, .ref (am 0)), (1, .ref (ad 0)), (0, .ref b)]) (kl : KL p l e s m b below meth c D cs ad am Q ls) {t v : St} {H : Heap} {locs : List Loc} (hW : HX wI (tyX cs) D (fun q : Nat => s.heap.size ≤ q) s.heap s (wM cs am v ++ wX cs ad t) H locs) (hI : INV t v) : W p l e room_1 s m #[Value.ref b] below meth c H locs 84 2041 Q (F0 m 670 ls []) := by
  obtain ⟨hx, hb, hml, hown, hts⟩ := id hC
  have hbA : ¬ (fun q : Nat => s.heap.size ≤ q) b := Nat.not_le.mpr hbl
  obtain ⟨P, R, C, hwf, ham⟩ := id hI
  refine lv_aload_n hx hb dL_law_670 rfl (lv_at hl 2 rfl) ?_
  refine lv_aload_n hx hb dL_law_671 rfl (lv_at hl 3 rfl) ?_
  refine lv_iload_n hx hb dL_law_672 rfl (lv_at hl 0 rfl) ?_
  refine lv_iconst (v := 1) hx hb dL_law_673 (by decide) ?_
  refine lv_iadd hx hb dL_law_674 ?_
  refine j_sld (j := i + 1) hC hX hbl hbA hW.2.2.2.1 (nI_add i 1) (by omega) (by omega) dL_law_675 ?_
  refine lv_aload_n hx hb dL_law_676 rfl (lv_at hl 3 rfl) ?_
  refine lv_iload_n hx hb dL_law_677 rfl (lv_at hl 0 rfl) ?_
  refine lv_iconst (v := 2) hx hb dL_law_678 (by decide) ?_
  refine lv_iadd hx hb dL_law_679 ?_
  refine j_sld (j := i + 2) hC hX hbl hbA hW.2.2.2.1 (nI_add i 2) (by omega) (by omega) dL_law_680 ?_
  refine lv_aload_n hx hb dL_law_681 rfl (lv_at hl 3 rfl) ?_
  refine lv_iload_n hx hb dL_law_682 rfl (lv_at hl 0 rfl) ?_
  refine lv_iconst (v := 3) hx hb dL_law_683 (by decide) ?_
  refine lv_iadd hx hb dL_law_684 ?_
  refine j_sld (j := i + 3) hC hX hbl hbA hW.2.2.2.1 (nI_add i 3) (by omega) (by omega) dL_law_685 ?_
  refine lv_aload_n hx hb dL_law_686 rfl (lv_at hl 3 rfl) ?_
  refine lv_iload_n hx hb dL_law_687 rfl (lv_at hl 0 rfl) ?_
  refine lv_iconst (v := 4) hx hb dL_law_688 (by decide) ?_
  refine lv_iadd hx hb dL_law_689 ?_
  refine j_sld (j := i + 4) hC hX hbl hbA hW.2.2.2.1 (nI_add i 4) (by omega) (by omega) dL_law_690 ?_
  refine lv_aload_n hx hb dL_law_691 rfl (lv_at hl 3 rfl) ?_
  refine lv_iload_n hx hb dL_law_692 rfl (lv_at hl 0 rfl) ?_
  refine lv_iconst (v := 5) hx hb dL_law_693 (by decide) ?_
  refine lv_iadd hx hb dL_law_694 ?_
  refine j_sld (j := i + 5) hC hX hbl hbA hW.2.2.2.1 (nI_add i 5) (by omega) (by omega) dL_law_695 ?_
  refine lv_aload_n hx hb dL_law_696 rfl (lv_at hl 3 rfl) ?_
  refine lv_iload_n hx hb dL_law_697 rfl (lv_at hl 0 rfl) ?_
  refine lv_bipush (v := 6) hx hb dL_law_698 (by decide) ?_
  refine lv_iadd hx hb dL_law_700 ?_
  refine j_sld (j := i + 6) hC hX hbl hbA hW.2.2.2.1 (nI_add i 6) (by omega) (by omega) dL_law_701 ?_
  refine j_i (wf := wX cs ad) (st := t) (wr := wM cs am v) (run_V (rest := []) hC (hx_r (wf := wX cs ad) (st := t) (wr := wM cs am v) hW) (m_X5_speeds l D cs ad t P R C (xs (i + 1)) (xs (i + 2)) (xs (i + 3)) (xs (i + 4)) (xs (i + 5)) (xs (i + 6)) hwf.1) k_yX5_speeds ⟨rfl, rfl⟩ q_ml_RL_74 eX_0 rfl rfl hl.1 rfl (Nat.le_of_ble_eq_true rfl) ⟨(Nat.le_of_ble_eq_true rfl), (Nat.le_of_ble_eq_true rfl)⟩ dL_law_702 ⟨(Nat.le_of_ble_eq_true rfl), (Nat.le_of_ble_eq_true rfl)⟩) hW (fun r1 u H locs hp hW => ?_)
  have hW := hx_swap (wr := wM cs am v) (wc := wX cs ad u) hW
  refine lv_aload_n hx hb dL_law_705 rfl (lv_at hl 1 rfl) ?_
  refine lv_aload_n hx hb dL_law_706 rfl (lv_at hl 3 rfl) ?_
  refine lv_iload_n hx hb dL_law_707 rfl (lv_at hl 0 rfl) ?_
  refine lv_iconst (v := 1) hx hb dL_law_708 (by decide) ?_
  refine lv_iadd hx hb dL_law_709 ?_
  refine j_sld (j := i + 1) hC hX hbl hbA hW.2.2.2.1 (nI_add i 1) (by omega) (by omega) dL_law_710 ?_
  refine lv_aload_n hx hb dL_law_711 rfl (lv_at hl 3 rfl) ?_
  refine lv_iload_n hx hb dL_law_712 rfl (lv_at hl 0 rfl) ?_
  refine lv_iconst (v := 2) hx hb dL_law_713 (by decide) ?_
  refine lv_iadd hx hb dL_law_714 ?_
  refine j_sld (j := i + 2) hC hX hbl hbA hW.2.2.2.1 (nI_add i 2) (by omega) (by omega) dL_law_715 ?_
  refine lv_aload_n hx hb dL_law_716 rfl (lv_at hl 3 rfl) ?_
  refine lv_iload_n hx hb dL_law_717 rfl (lv_at hl 0 rfl) ?_
  refine lv_iconst (v := 3) hx hb dL_law_718 (by decide) ?_
  refine lv_iadd hx hb dL_law_719 ?_
  refine j_sld (j := i + 3) hC hX hbl hbA hW.2.2.2.1 (nI_add i 3) (by omega) (by omega) dL_law_720 ?_
  refine lv_aload_n hx hb dL_law_721 rfl (lv_at hl 3 rfl) ?_
  refine lv_iload_n hx hb dL_law_722 rfl (lv_at hl 0 rfl) ?_
  refine lv_iconst (v := 4) hx hb dL_law_723 (by decide) ?_
  refine lv_iadd hx hb dL_law_724 ?_
  refine j_sld (j := i + 4) hC hX hbl hbA hW.2.2.2.1 (nI_add i 4) (by omega) (by omega) dL_law_725 ?_
  refine lv_aload_n hx hb dL_law_726 rfl (lv_at hl 3 rfl) ?_
  refine lv_iload_n hx hb dL_law_727 rfl (lv_at hl 0 rfl) ?_
  refine lv_iconst (v := 5) hx hb dL_law_728 (by decide) ?_
  refine lv_iadd hx hb dL_law_729 ?_
  refine j_sld (j := i + 5) hC hX hbl hbA hW.2.2.2.1 (nI_add i 5) (by omega) (by omega) dL_law_730 ?_
  refine lv_aload_n hx hb dL_law_731 rfl (lv_at hl 3 rfl) ?_
  refine lv_iload_n hx hb dL_law_732 rfl (lv_at hl 0 rfl) ?_
  refine lv_bipush (v := 6) hx hb dL_law_733 (by decide) ?_
  refine lv_iadd hx hb dL_law_735 ?_
  refine j_sld (j := i + 6) hC hX hbl hbA hW.2.2.2.1 (nI_add i 6) (by omega) (by omega) dL_law_736 ?_
  refine j_i (wf := wM cs am) (st := v) (wr := wX cs ad u) (run_V (rest := [.int r1]) hC (hx_r (wf := wM cs am) (st := v) (wr := wX cs ad u) hW) (m_X6_speeds l D cs am v t P R C (xs (i + 1)) (xs (i + 2)) (xs (i + 3)) (xs (i + 4)) (xs (i + 5)) (xs (i + 6)) hwf ham) k_yX6_speeds ⟨rfl, rfl⟩ q_ml_RL_78 eM_0 rfl rfl hl.1 rfl (Nat.le_of_ble_eq_true rfl) ⟨(Nat.le_of_ble_eq_true rfl), (Nat.le_of_ble_eq_true rfl)⟩ dL_law_737 ⟨(Nat.le_of_ble_eq_true rfl), (Nat.le_of_ble_eq_true rfl)⟩) hW (fun r2 v2 H locs hp2 hW => ?_)
  have hW := hx_swap (wr := wX cs ad u) (wc := wM cs am v2) hW
  rw [← speeds_eq] at hp2
  have heq : r1 = r2 := hp.1.trans hp2.1.symm
  have hin : INV u v2 := inv_next (e_speeds hwf (xs (i + 1)) (xs (i + 2)) (xs (i + 3)) (xs (i + 4)) (xs (i + 5)) (xs (i + 6))) hp.2 hp2.2
  refine lv_icmp_eq (tgt := 1354) hx hb dL_law_740 (by decide) (fun _ => ?_) (fun h9 => absurd heq h9)
  exact kl u v2 _ _ hW hin
set_option maxRecDepth 100000 in
set_option maxHeartbeats 4000000 in
theorem law_15 {p : Program} {e : Env} {s : State} {m : MethodId} {below : List Frame} {meth : Method} {c : Code} (l : Launch) {b L i : Nat} {xs : Nat → Int32} {D : va_G} {cs : CS3} {ad am : Nat → Nat} {Q : State → Prop} {ls : Array Slot} (hC : CallFix p m c cL_law 4 s #[Value.ref b] lw_tg RL) (hX : va_X b L xs s s.heap) (hbl : b < s.heap.size) (hL : L ≤ 3584) (hi : i + 7 ≤ L) (hl : lv_has ls 4 [(3, .int (nI i)), (2, .ref (am 0)), (1, .ref (ad 0)), (0, .ref b)]) (kl : KL p l e s m b below meth c D cs ad am Q ls) {t v : St} {H : Heap} {locs : List Loc} (hW : HX wI (tyX cs) D (fun q : Nat => s.heap.size ≤ q) s.heap s (wM cs am v ++ wX cs ad t) H locs) (hI : INV t v) : W p l e room_1 s m #[Value.ref b] below meth c H locs 84 2041 Q (F0 m 745 ls []) := by
  obtain ⟨hx, hb, hml, hown, hts⟩ := id hC
  have hbA : ¬ (fun q : Nat => s.heap.size ≤ q) b := Nat.not_le.mpr hbl
  obtain ⟨P, R, C, hwf, ham⟩ := id hI
  refine lv_aload_n hx hb dL_law_745 rfl (lv_at hl 2 rfl) ?_
  refine lv_aload_n hx hb dL_law_746 rfl (lv_at hl 3 rfl) ?_
  refine lv_iload_n hx hb dL_law_747 rfl (lv_at hl 0 rfl) ?_
  refine lv_iconst (v := 1) hx hb dL_law_748 (by decide) ?_
  refine lv_iadd hx hb dL_law_749 ?_
  refine j_sld (j := i + 1) hC hX hbl hbA hW.2.2.2.1 (nI_add i 1) (by omega) (by omega) dL_law_750 ?_
  refine lv_aload_n hx hb dL_law_751 rfl (lv_at hl 3 rfl) ?_
  refine lv_iload_n hx hb dL_law_752 rfl (lv_at hl 0 rfl) ?_
  refine lv_iconst (v := 2) hx hb dL_law_753 (by decide) ?_
  refine lv_iadd hx hb dL_law_754 ?_
  refine j_sld (j := i + 2) hC hX hbl hbA hW.2.2.2.1 (nI_add i 2) (by omega) (by omega) dL_law_755 ?_
  refine lv_aload_n hx hb dL_law_756 rfl (lv_at hl 3 rfl) ?_
  refine lv_iload_n hx hb dL_law_757 rfl (lv_at hl 0 rfl) ?_
  refine lv_iconst (v := 3) hx hb dL_law_758 (by decide) ?_
  refine lv_iadd hx hb dL_law_759 ?_
  refine j_sld (j := i + 3) hC hX hbl hbA hW.2.2.2.1 (nI_add i 3) (by omega) (by omega) dL_law_760 ?_
  refine lv_aload_n hx hb dL_law_761 rfl (lv_at hl 3 rfl) ?_
  refine lv_iload_n hx hb dL_law_762 rfl (lv_at hl 0 rfl) ?_
  refine lv_iconst (v := 4) hx hb dL_law_763 (by decide) ?_
  refine lv_iadd hx hb dL_law_764 ?_
  refine j_sld (j := i + 4) hC hX hbl hbA hW.2.2.2.1 (nI_add i 4) (by omega) (by omega) dL_law_765 ?_
  refine lv_aload_n hx hb dL_law_766 rfl (lv_at hl 3 rfl) ?_
  refine lv_iload_n hx hb dL_law_767 rfl (lv_at hl 0 rfl) ?_
  refine lv_iconst (v := 5) hx hb dL_law_768 (by decide) ?_
  refine lv_iadd hx hb dL_law_769 ?_
  refine j_sld (j := i + 5) hC hX hbl hbA hW.2.2.2.1 (nI_add i 5) (by omega) (by omega) dL_law_770 ?_
  refine j_i (wf := wX cs ad) (st := t) (wr := wM cs am v) (run_V (rest := []) hC (hx_r (wf := wX cs ad) (st := t) (wr := wM cs am v) hW) (m_X5_nails l D cs ad t P R C (xs (i + 1)) (xs (i + 2)) (xs (i + 3)) (xs (i + 4)) (xs (i + 5)) hwf.1) k_yX5_nails ⟨rfl, rfl⟩ q_ml_RL_79 eX_0 rfl rfl hl.1 rfl (Nat.le_of_ble_eq_true rfl) ⟨(Nat.le_of_ble_eq_true rfl), (Nat.le_of_ble_eq_true rfl)⟩ dL_law_771 ⟨(Nat.le_of_ble_eq_true rfl), (Nat.le_of_ble_eq_true rfl)⟩) hW (fun r1 u H locs hp hW => ?_)
  have hW := hx_swap (wr := wM cs am v) (wc := wX cs ad u) hW
  refine lv_aload_n hx hb dL_law_774 rfl (lv_at hl 1 rfl) ?_
  refine lv_aload_n hx hb dL_law_775 rfl (lv_at hl 3 rfl) ?_
  refine lv_iload_n hx hb dL_law_776 rfl (lv_at hl 0 rfl) ?_
  refine lv_iconst (v := 1) hx hb dL_law_777 (by decide) ?_
  refine lv_iadd hx hb dL_law_778 ?_
  refine j_sld (j := i + 1) hC hX hbl hbA hW.2.2.2.1 (nI_add i 1) (by omega) (by omega) dL_law_779 ?_
  refine lv_aload_n hx hb dL_law_780 rfl (lv_at hl 3 rfl) ?_
  refine lv_iload_n hx hb dL_law_781 rfl (lv_at hl 0 rfl) ?_
  refine lv_iconst (v := 2) hx hb dL_law_782 (by decide) ?_
  refine lv_iadd hx hb dL_law_783 ?_
  refine j_sld (j := i + 2) hC hX hbl hbA hW.2.2.2.1 (nI_add i 2) (by omega) (by omega) dL_law_784 ?_
  refine lv_aload_n hx hb dL_law_785 rfl (lv_at hl 3 rfl) ?_
  refine lv_iload_n hx hb dL_law_786 rfl (lv_at hl 0 rfl) ?_
  refine lv_iconst (v := 3) hx hb dL_law_787 (by decide) ?_
  refine lv_iadd hx hb dL_law_788 ?_
  refine j_sld (j := i + 3) hC hX hbl hbA hW.2.2.2.1 (nI_add i 3) (by omega) (by omega) dL_law_789 ?_
  refine lv_aload_n hx hb dL_law_790 rfl (lv_at hl 3 rfl) ?_
  refine lv_iload_n hx hb dL_law_791 rfl (lv_at hl 0 rfl) ?_
  refine lv_iconst (v := 4) hx hb dL_law_792 (by decide) ?_
  refine lv_iadd hx hb dL_law_793 ?_
  refine j_sld (j := i + 4) hC hX hbl hbA hW.2.2.2.1 (nI_add i 4) (by omega) (by omega) dL_law_794 ?_
  refine lv_aload_n hx hb dL_law_795 rfl (lv_at hl 3 rfl) ?_
  refine lv_iload_n hx hb dL_law_796 rfl (lv_at hl 0 rfl) ?_
  refine lv_iconst (v := 5) hx hb dL_law_797 (by decide) ?_
  refine lv_iadd hx hb dL_law_798 ?_
  refine j_sld (j := i + 5) hC hX hbl hbA hW.2.2.2.1 (nI_add i 5) (by omega) (by omega) dL_law_799 ?_
  refine j_i (wf := wM cs am) (st := v) (wr := wX cs ad u) (run_V (rest := [.int r1]) hC (hx_r (wf := wM cs am) (st := v) (wr := wX cs ad u) hW) (m_X6_nails l D cs am v t P R C (xs (i + 1)) (xs (i + 2)) (xs (i + 3)) (xs (i + 4)) (xs (i + 5)) hwf ham) k_yX6_nails ⟨rfl, rfl⟩ q_ml_RL_82 eM_0 rfl rfl hl.1 rfl (Nat.le_of_ble_eq_true rfl) ⟨(Nat.le_of_ble_eq_true rfl), (Nat.le_of_ble_eq_true rfl)⟩ dL_law_800 ⟨(Nat.le_of_ble_eq_true rfl), (Nat.le_of_ble_eq_true rfl)⟩) hW (fun r2 v2 H locs hp2 hW => ?_)
  have hW := hx_swap (wr := wX cs ad u) (wc := wM cs am v2) hW
  have heq : r1 = r2 := hp.1.trans hp2.1.symm
  have hin : INV u v2 := inv_next (e_set hwf _ _ _ _ _ _ _ _) hp.2 hp2.2
  refine lv_icmp_eq (tgt := 1354) hx hb dL_law_803 (by decide) (fun _ => ?_) (fun h9 => absurd heq h9)
  exact kl u v2 _ _ hW hin
set_option maxRecDepth 100000 in
set_option maxHeartbeats 4000000 in
theorem law_16 {p : Program} {e : Env} {s : State} {m : MethodId} {below : List Frame} {meth : Method} {c : Code} (l : Launch) {b L i : Nat} {xs : Nat → Int32} {D : va_G} {cs : CS3} {ad am : Nat → Nat} {Q : State → Prop} {ls : Array Slot} (hC : CallFix p m c cL_law 4 s #[Value.ref b] lw_tg RL) (hX : va_X b L xs s s.heap) (hbl : b < s.heap.size) (hL : L ≤ 3584) (hi : i + 7 ≤ L) (hl : lv_has ls 4 [(3, .int (nI i)), (2, .ref (am 0)), (1, .ref (ad 0)), (0, .ref b)]) (kl : KL p l e s m b below meth c D cs ad am Q ls) {t v : St} {H : Heap} {locs : List Loc} (hW : HX wI (tyX cs) D (fun q : Nat => s.heap.size ≤ q) s.heap s (wM cs am v ++ wX cs ad t) H locs) (hI : INV t v) : W p l e room_1 s m #[Value.ref b] below meth c H locs 84 2041 Q (F0 m 808 ls []) := by
  obtain ⟨hx, hb, hml, hown, hts⟩ := id hC
  have hbA : ¬ (fun q : Nat => s.heap.size ≤ q) b := Nat.not_le.mpr hbl
  obtain ⟨P, R, C, hwf, ham⟩ := id hI
  refine lv_aload_n hx hb dL_law_808 rfl (lv_at hl 2 rfl) ?_
  refine lv_aload_n hx hb dL_law_809 rfl (lv_at hl 3 rfl) ?_
  refine lv_iload_n hx hb dL_law_810 rfl (lv_at hl 0 rfl) ?_
  refine lv_iconst (v := 1) hx hb dL_law_811 (by decide) ?_
  refine lv_iadd hx hb dL_law_812 ?_
  refine j_sld (j := i + 1) hC hX hbl hbA hW.2.2.2.1 (nI_add i 1) (by omega) (by omega) dL_law_813 ?_
  refine lv_aload_n hx hb dL_law_814 rfl (lv_at hl 3 rfl) ?_
  refine lv_iload_n hx hb dL_law_815 rfl (lv_at hl 0 rfl) ?_
  refine lv_iconst (v := 2) hx hb dL_law_816 (by decide) ?_
  refine lv_iadd hx hb dL_law_817 ?_
  refine j_sld (j := i + 2) hC hX hbl hbA hW.2.2.2.1 (nI_add i 2) (by omega) (by omega) dL_law_818 ?_
  refine lv_aload_n hx hb dL_law_819 rfl (lv_at hl 3 rfl) ?_
  refine lv_iload_n hx hb dL_law_820 rfl (lv_at hl 0 rfl) ?_
  refine lv_iconst (v := 3) hx hb dL_law_821 (by decide) ?_
  refine lv_iadd hx hb dL_law_822 ?_
  refine j_sld (j := i + 3) hC hX hbl hbA hW.2.2.2.1 (nI_add i 3) (by omega) (by omega) dL_law_823 ?_
  refine lv_aload_n hx hb dL_law_824 rfl (lv_at hl 3 rfl) ?_
  refine lv_iload_n hx hb dL_law_825 rfl (lv_at hl 0 rfl) ?_
  refine lv_iconst (v := 4) hx hb dL_law_826 (by decide) ?_
  refine lv_iadd hx hb dL_law_827 ?_
  refine j_sld (j := i + 4) hC hX hbl hbA hW.2.2.2.1 (nI_add i 4) (by omega) (by omega) dL_law_828 ?_
  refine lv_aload_n hx hb dL_law_829 rfl (lv_at hl 3 rfl) ?_
  refine lv_iload_n hx hb dL_law_830 rfl (lv_at hl 0 rfl) ?_
  refine lv_iconst (v := 5) hx hb dL_law_831 (by decide) ?_
  refine lv_iadd hx hb dL_law_832 ?_
  refine j_sld (j := i + 5) hC hX hbl hbA hW.2.2.2.1 (nI_add i 5) (by omega) (by omega) dL_law_833 ?_
  refine j_i (wf := wX cs ad) (st := t) (wr := wM cs am v) (run_V (rest := []) hC (hx_r (wf := wX cs ad) (st := t) (wr := wM cs am v) hW) (m_X5_slicks l D cs ad t P R C (xs (i + 1)) (xs (i + 2)) (xs (i + 3)) (xs (i + 4)) (xs (i + 5)) hwf.1) k_yX5_slicks ⟨rfl, rfl⟩ q_ml_RL_83 eX_0 rfl rfl hl.1 rfl (Nat.le_of_ble_eq_true rfl) ⟨(Nat.le_of_ble_eq_true rfl), (Nat.le_of_ble_eq_true rfl)⟩ dL_law_834 ⟨(Nat.le_of_ble_eq_true rfl), (Nat.le_of_ble_eq_true rfl)⟩) hW (fun r1 u H locs hp hW => ?_)
  have hW := hx_swap (wr := wM cs am v) (wc := wX cs ad u) hW
  refine lv_aload_n hx hb dL_law_837 rfl (lv_at hl 1 rfl) ?_
  refine lv_aload_n hx hb dL_law_838 rfl (lv_at hl 3 rfl) ?_
  refine lv_iload_n hx hb dL_law_839 rfl (lv_at hl 0 rfl) ?_
  refine lv_iconst (v := 1) hx hb dL_law_840 (by decide) ?_
  refine lv_iadd hx hb dL_law_841 ?_
  refine j_sld (j := i + 1) hC hX hbl hbA hW.2.2.2.1 (nI_add i 1) (by omega) (by omega) dL_law_842 ?_
  refine lv_aload_n hx hb dL_law_843 rfl (lv_at hl 3 rfl) ?_
  refine lv_iload_n hx hb dL_law_844 rfl (lv_at hl 0 rfl) ?_
  refine lv_iconst (v := 2) hx hb dL_law_845 (by decide) ?_
  refine lv_iadd hx hb dL_law_846 ?_
  refine j_sld (j := i + 2) hC hX hbl hbA hW.2.2.2.1 (nI_add i 2) (by omega) (by omega) dL_law_847 ?_
  refine lv_aload_n hx hb dL_law_848 rfl (lv_at hl 3 rfl) ?_
  refine lv_iload_n hx hb dL_law_849 rfl (lv_at hl 0 rfl) ?_
  refine lv_iconst (v := 3) hx hb dL_law_850 (by decide) ?_
  refine lv_iadd hx hb dL_law_851 ?_
  refine j_sld (j := i + 3) hC hX hbl hbA hW.2.2.2.1 (nI_add i 3) (by omega) (by omega) dL_law_852 ?_
  refine lv_aload_n hx hb dL_law_853 rfl (lv_at hl 3 rfl) ?_
  refine lv_iload_n hx hb dL_law_854 rfl (lv_at hl 0 rfl) ?_
  refine lv_iconst (v := 4) hx hb dL_law_855 (by decide) ?_
  refine lv_iadd hx hb dL_law_856 ?_
  refine j_sld (j := i + 4) hC hX hbl hbA hW.2.2.2.1 (nI_add i 4) (by omega) (by omega) dL_law_857 ?_
  refine lv_aload_n hx hb dL_law_858 rfl (lv_at hl 3 rfl) ?_
  refine lv_iload_n hx hb dL_law_859 rfl (lv_at hl 0 rfl) ?_
  refine lv_iconst (v := 5) hx hb dL_law_860 (by decide) ?_
  refine lv_iadd hx hb dL_law_861 ?_
  refine j_sld (j := i + 5) hC hX hbl hbA hW.2.2.2.1 (nI_add i 5) (by omega) (by omega) dL_law_862 ?_
  refine j_i (wf := wM cs am) (st := v) (wr := wX cs ad u) (run_V (rest := [.int r1]) hC (hx_r (wf := wM cs am) (st := v) (wr := wX cs ad u) hW) (m_X6_slicks l D cs am v t P R C (xs (i + 1)) (xs (i + 2)) (xs (i + 3)) (xs (i + 4)) (xs (i + 5)) hwf ham) k_yX6_slicks ⟨rfl, rfl⟩ q_ml_RL_86 eM_0 rfl rfl hl.1 rfl (Nat.le_of_ble_eq_true rfl) ⟨(Nat.le_of_ble_eq_true rfl), (Nat.le_of_ble_eq_true rfl)⟩ dL_law_863 ⟨(Nat.le_of_ble_eq_true rfl), (Nat.le_of_ble_eq_true rfl)⟩) hW (fun r2 v2 H locs hp2 hW => ?_)
  have hW := hx_swap (wr := wX cs ad u) (wc := wM cs am v2) hW
  have heq : r1 = r2 := hp.1.trans hp2.1.symm
  have hin : INV u v2 := inv_next (e_set hwf _ _ _ _ _ _ _ _) hp.2 hp2.2
  refine lv_icmp_eq (tgt := 1354) hx hb dL_law_866 (by decide) (fun _ => ?_) (fun h9 => absurd heq h9)
  exact kl u v2 _ _ hW hin
set_option maxRecDepth 100000 in
set_option maxHeartbeats 4000000 in
theorem law_17 {p : Program} {e : Env} {s : State} {m : MethodId} {below : List Frame} {meth : Method} {c : Code} (l : Launch) {b L i : Nat} {xs : Nat → Int32} {D : va_G} {cs : CS3} {ad am : Nat → Nat} {Q : State → Prop} {ls : Array Slot} (hC : CallFix p m c cL_law 4 s #[Value.ref b] lw_tg RL) (hX : va_X b L xs s s.heap) (hbl : b < s.heap.size) (hL : L ≤ 3584) (hi : i + 7 ≤ L) (hl : lv_has ls 4 [(3, .int (nI i)), (2, .ref (am 0)), (1, .ref (ad 0)), (0, .ref b)]) (kl : KL p l e s m b below meth c D cs ad am Q ls) {t v : St} {H : Heap} {locs : List Loc} (hW : HX wI (tyX cs) D (fun q : Nat => s.heap.size ≤ q) s.heap s (wM cs am v ++ wX cs ad t) H locs) (hI : INV t v) : W p l e room_1 s m #[Value.ref b] below meth c H locs 84 2041 Q (F0 m 871 ls []) := by
  obtain ⟨hx, hb, hml, hown, hts⟩ := id hC
  have hbA : ¬ (fun q : Nat => s.heap.size ≤ q) b := Nat.not_le.mpr hbl
  obtain ⟨P, R, C, hwf, ham⟩ := id hI
  refine lv_aload_n hx hb dL_law_871 rfl (lv_at hl 2 rfl) ?_
  refine lv_aload_n hx hb dL_law_872 rfl (lv_at hl 3 rfl) ?_
  refine lv_iload_n hx hb dL_law_873 rfl (lv_at hl 0 rfl) ?_
  refine lv_iconst (v := 1) hx hb dL_law_874 (by decide) ?_
  refine lv_iadd hx hb dL_law_875 ?_
  refine j_sld (j := i + 1) hC hX hbl hbA hW.2.2.2.1 (nI_add i 1) (by omega) (by omega) dL_law_876 ?_
  refine lv_aload_n hx hb dL_law_877 rfl (lv_at hl 3 rfl) ?_
  refine lv_iload_n hx hb dL_law_878 rfl (lv_at hl 0 rfl) ?_
  refine lv_iconst (v := 2) hx hb dL_law_879 (by decide) ?_
  refine lv_iadd hx hb dL_law_880 ?_
  refine j_sld (j := i + 2) hC hX hbl hbA hW.2.2.2.1 (nI_add i 2) (by omega) (by omega) dL_law_881 ?_
  refine lv_aload_n hx hb dL_law_882 rfl (lv_at hl 3 rfl) ?_
  refine lv_iload_n hx hb dL_law_883 rfl (lv_at hl 0 rfl) ?_
  refine lv_iconst (v := 3) hx hb dL_law_884 (by decide) ?_
  refine lv_iadd hx hb dL_law_885 ?_
  refine j_sld (j := i + 3) hC hX hbl hbA hW.2.2.2.1 (nI_add i 3) (by omega) (by omega) dL_law_886 ?_
  refine lv_aload_n hx hb dL_law_887 rfl (lv_at hl 3 rfl) ?_
  refine lv_iload_n hx hb dL_law_888 rfl (lv_at hl 0 rfl) ?_
  refine lv_iconst (v := 4) hx hb dL_law_889 (by decide) ?_
  refine lv_iadd hx hb dL_law_890 ?_
  refine j_sld (j := i + 4) hC hX hbl hbA hW.2.2.2.1 (nI_add i 4) (by omega) (by omega) dL_law_891 ?_
  refine lv_aload_n hx hb dL_law_892 rfl (lv_at hl 3 rfl) ?_
  refine lv_iload_n hx hb dL_law_893 rfl (lv_at hl 0 rfl) ?_
  refine lv_iconst (v := 5) hx hb dL_law_894 (by decide) ?_
  refine lv_iadd hx hb dL_law_895 ?_
  refine j_sld (j := i + 5) hC hX hbl hbA hW.2.2.2.1 (nI_add i 5) (by omega) (by omega) dL_law_896 ?_
  refine j_i (wf := wX cs ad) (st := t) (wr := wM cs am v) (run_V (rest := []) hC (hx_r (wf := wX cs ad) (st := t) (wr := wM cs am v) hW) (m_X5_kinds l D cs ad t P R C (xs (i + 1)) (xs (i + 2)) (xs (i + 3)) (xs (i + 4)) (xs (i + 5)) hwf.1) k_yX5_kinds ⟨rfl, rfl⟩ q_ml_RL_87 eX_0 rfl rfl hl.1 rfl (Nat.le_of_ble_eq_true rfl) ⟨(Nat.le_of_ble_eq_true rfl), (Nat.le_of_ble_eq_true rfl)⟩ dL_law_897 ⟨(Nat.le_of_ble_eq_true rfl), (Nat.le_of_ble_eq_true rfl)⟩) hW (fun r1 u H locs hp hW => ?_)
  have hW := hx_swap (wr := wM cs am v) (wc := wX cs ad u) hW
  refine lv_aload_n hx hb dL_law_900 rfl (lv_at hl 1 rfl) ?_
  refine lv_aload_n hx hb dL_law_901 rfl (lv_at hl 3 rfl) ?_
  refine lv_iload_n hx hb dL_law_902 rfl (lv_at hl 0 rfl) ?_
  refine lv_iconst (v := 1) hx hb dL_law_903 (by decide) ?_
  refine lv_iadd hx hb dL_law_904 ?_
  refine j_sld (j := i + 1) hC hX hbl hbA hW.2.2.2.1 (nI_add i 1) (by omega) (by omega) dL_law_905 ?_
  refine lv_aload_n hx hb dL_law_906 rfl (lv_at hl 3 rfl) ?_
  refine lv_iload_n hx hb dL_law_907 rfl (lv_at hl 0 rfl) ?_
  refine lv_iconst (v := 2) hx hb dL_law_908 (by decide) ?_
  refine lv_iadd hx hb dL_law_909 ?_
  refine j_sld (j := i + 2) hC hX hbl hbA hW.2.2.2.1 (nI_add i 2) (by omega) (by omega) dL_law_910 ?_
  refine lv_aload_n hx hb dL_law_911 rfl (lv_at hl 3 rfl) ?_
  refine lv_iload_n hx hb dL_law_912 rfl (lv_at hl 0 rfl) ?_
  refine lv_iconst (v := 3) hx hb dL_law_913 (by decide) ?_
  refine lv_iadd hx hb dL_law_914 ?_
  refine j_sld (j := i + 3) hC hX hbl hbA hW.2.2.2.1 (nI_add i 3) (by omega) (by omega) dL_law_915 ?_
  refine lv_aload_n hx hb dL_law_916 rfl (lv_at hl 3 rfl) ?_
  refine lv_iload_n hx hb dL_law_917 rfl (lv_at hl 0 rfl) ?_
  refine lv_iconst (v := 4) hx hb dL_law_918 (by decide) ?_
  refine lv_iadd hx hb dL_law_919 ?_
  refine j_sld (j := i + 4) hC hX hbl hbA hW.2.2.2.1 (nI_add i 4) (by omega) (by omega) dL_law_920 ?_
  refine lv_aload_n hx hb dL_law_921 rfl (lv_at hl 3 rfl) ?_
  refine lv_iload_n hx hb dL_law_922 rfl (lv_at hl 0 rfl) ?_
  refine lv_iconst (v := 5) hx hb dL_law_923 (by decide) ?_
  refine lv_iadd hx hb dL_law_924 ?_
  refine j_sld (j := i + 5) hC hX hbl hbA hW.2.2.2.1 (nI_add i 5) (by omega) (by omega) dL_law_925 ?_
  refine j_i (wf := wM cs am) (st := v) (wr := wX cs ad u) (run_V (rest := [.int r1]) hC (hx_r (wf := wM cs am) (st := v) (wr := wX cs ad u) hW) (m_X6_kinds l D cs am v t P R C (xs (i + 1)) (xs (i + 2)) (xs (i + 3)) (xs (i + 4)) (xs (i + 5)) hwf ham) k_yX6_kinds ⟨rfl, rfl⟩ q_ml_RL_90 eM_0 rfl rfl hl.1 rfl (Nat.le_of_ble_eq_true rfl) ⟨(Nat.le_of_ble_eq_true rfl), (Nat.le_of_ble_eq_true rfl)⟩ dL_law_926 ⟨(Nat.le_of_ble_eq_true rfl), (Nat.le_of_ble_eq_true rfl)⟩) hW (fun r2 v2 H locs hp2 hW => ?_)
  have hW := hx_swap (wr := wX cs ad u) (wc := wM cs am v2) hW
  have heq : r1 = r2 := hp.1.trans hp2.1.symm
  have hin : INV u v2 := inv_next (e_set hwf _ _ _ _ _ _ _ _) hp.2 hp2.2
  refine lv_icmp_eq (tgt := 1354) hx hb dL_law_929 (by decide) (fun _ => ?_) (fun h9 => absurd heq h9)
  exact kl u v2 _ _ hW hin
set_option maxRecDepth 100000 in
set_option maxHeartbeats 4000000 in
theorem law_18 {p : Program} {e : Env} {s : State} {m : MethodId} {below : List Frame} {meth : Method} {c : Code} (l : Launch) {b L i : Nat} {xs : Nat → Int32} {D : va_G} {cs : CS3} {ad am : Nat → Nat} {Q : State → Prop} {ls : Array Slot} (hC : CallFix p m c cL_law 4 s #[Value.ref b] lw_tg RL) (hX : va_X b L xs s s.heap) (hbl : b < s.heap.size) (hL : L ≤ 3584) (hi : i + 7 ≤ L) (hl : lv_has ls 4 [(3, .int (nI i)), (2, .ref (am 0)), (1, .ref (ad 0)), (0, .ref b)]) (kl : KL p l e s m b below meth c D cs ad am Q ls) {t v : St} {H : Heap} {locs : List Loc} (hW : HX wI (tyX cs) D (fun q : Nat => s.heap.size ≤ q) s.heap s (wM cs am v ++ wX cs ad t) H locs) (hI : INV t v) : W p l e room_1 s m #[Value.ref b] below meth c H locs 84 2041 Q (F0 m 934 ls []) := by
  obtain ⟨hx, hb, hml, hown, hts⟩ := id hC
  have hbA : ¬ (fun q : Nat => s.heap.size ≤ q) b := Nat.not_le.mpr hbl
  obtain ⟨P, R, C, hwf, ham⟩ := id hI
  refine lv_aload_n hx hb dL_law_934 rfl (lv_at hl 2 rfl) ?_
  refine lv_aload_n hx hb dL_law_935 rfl (lv_at hl 3 rfl) ?_
  refine lv_iload_n hx hb dL_law_936 rfl (lv_at hl 0 rfl) ?_
  refine lv_iconst (v := 1) hx hb dL_law_937 (by decide) ?_
  refine lv_iadd hx hb dL_law_938 ?_
  refine j_sld (j := i + 1) hC hX hbl hbA hW.2.2.2.1 (nI_add i 1) (by omega) (by omega) dL_law_939 ?_
  refine lv_aload_n hx hb dL_law_940 rfl (lv_at hl 3 rfl) ?_
  refine lv_iload_n hx hb dL_law_941 rfl (lv_at hl 0 rfl) ?_
  refine lv_iconst (v := 2) hx hb dL_law_942 (by decide) ?_
  refine lv_iadd hx hb dL_law_943 ?_
  refine j_sld (j := i + 2) hC hX hbl hbA hW.2.2.2.1 (nI_add i 2) (by omega) (by omega) dL_law_944 ?_
  refine lv_aload_n hx hb dL_law_945 rfl (lv_at hl 3 rfl) ?_
  refine lv_iload_n hx hb dL_law_946 rfl (lv_at hl 0 rfl) ?_
  refine lv_iconst (v := 3) hx hb dL_law_947 (by decide) ?_
  refine lv_iadd hx hb dL_law_948 ?_
  refine j_sld (j := i + 3) hC hX hbl hbA hW.2.2.2.1 (nI_add i 3) (by omega) (by omega) dL_law_949 ?_
  refine lv_aload_n hx hb dL_law_950 rfl (lv_at hl 3 rfl) ?_
  refine lv_iload_n hx hb dL_law_951 rfl (lv_at hl 0 rfl) ?_
  refine lv_iconst (v := 4) hx hb dL_law_952 (by decide) ?_
  refine lv_iadd hx hb dL_law_953 ?_
  refine j_sld (j := i + 4) hC hX hbl hbA hW.2.2.2.1 (nI_add i 4) (by omega) (by omega) dL_law_954 ?_
  refine lv_aload_n hx hb dL_law_955 rfl (lv_at hl 3 rfl) ?_
  refine lv_iload_n hx hb dL_law_956 rfl (lv_at hl 0 rfl) ?_
  refine lv_iconst (v := 5) hx hb dL_law_957 (by decide) ?_
  refine lv_iadd hx hb dL_law_958 ?_
  refine j_sld (j := i + 5) hC hX hbl hbA hW.2.2.2.1 (nI_add i 5) (by omega) (by omega) dL_law_959 ?_
  refine lv_aload_n hx hb dL_law_960 rfl (lv_at hl 3 rfl) ?_
  refine lv_iload_n hx hb dL_law_961 rfl (lv_at hl 0 rfl) ?_
  refine lv_bipush (v := 6) hx hb dL_law_962 (by decide) ?_
  refine lv_iadd hx hb dL_law_964 ?_
  refine j_sld (j := i + 6) hC hX hbl hbA hW.2.2.2.1 (nI_add i 6) (by omega) (by omega) dL_law_965 ?_
  refine j_l (wf := wX cs ad) (st := t) (wr := wM cs am v) (run_V (rest := []) hC (hx_r (wf := wX cs ad) (st := t) (wr := wM cs am v) hW) (m_X5_odds l D cs ad t P R C (xs (i + 1)) (xs (i + 2)) (xs (i + 3)) (xs (i + 4)) (xs (i + 5)) (xs (i + 6)) hwf.1) k_yX5_odds ⟨rfl, rfl⟩ q_ml_RL_91 eX_0 rfl rfl hl.1 rfl (Nat.le_of_ble_eq_true rfl) ⟨(Nat.le_of_ble_eq_true rfl), (Nat.le_of_ble_eq_true rfl)⟩ dL_law_966 ⟨(Nat.le_of_ble_eq_true rfl), (Nat.le_of_ble_eq_true rfl)⟩) hW (fun r1 u H locs hp hW => ?_)
  have hW := hx_swap (wr := wM cs am v) (wc := wX cs ad u) hW
  refine lv_aload_n hx hb dL_law_969 rfl (lv_at hl 1 rfl) ?_
  refine lv_aload_n hx hb dL_law_970 rfl (lv_at hl 3 rfl) ?_
  refine lv_iload_n hx hb dL_law_971 rfl (lv_at hl 0 rfl) ?_
  refine lv_iconst (v := 1) hx hb dL_law_972 (by decide) ?_
  refine lv_iadd hx hb dL_law_973 ?_
  refine j_sld (j := i + 1) hC hX hbl hbA hW.2.2.2.1 (nI_add i 1) (by omega) (by omega) dL_law_974 ?_
  refine lv_aload_n hx hb dL_law_975 rfl (lv_at hl 3 rfl) ?_
  refine lv_iload_n hx hb dL_law_976 rfl (lv_at hl 0 rfl) ?_
  refine lv_iconst (v := 2) hx hb dL_law_977 (by decide) ?_
  refine lv_iadd hx hb dL_law_978 ?_
  refine j_sld (j := i + 2) hC hX hbl hbA hW.2.2.2.1 (nI_add i 2) (by omega) (by omega) dL_law_979 ?_
  refine lv_aload_n hx hb dL_law_980 rfl (lv_at hl 3 rfl) ?_
  refine lv_iload_n hx hb dL_law_981 rfl (lv_at hl 0 rfl) ?_
  refine lv_iconst (v := 3) hx hb dL_law_982 (by decide) ?_
  refine lv_iadd hx hb dL_law_983 ?_
  refine j_sld (j := i + 3) hC hX hbl hbA hW.2.2.2.1 (nI_add i 3) (by omega) (by omega) dL_law_984 ?_
  refine lv_aload_n hx hb dL_law_985 rfl (lv_at hl 3 rfl) ?_
  refine lv_iload_n hx hb dL_law_986 rfl (lv_at hl 0 rfl) ?_
  refine lv_iconst (v := 4) hx hb dL_law_987 (by decide) ?_
  refine lv_iadd hx hb dL_law_988 ?_
  refine j_sld (j := i + 4) hC hX hbl hbA hW.2.2.2.1 (nI_add i 4) (by omega) (by omega) dL_law_989 ?_
  refine lv_aload_n hx hb dL_law_990 rfl (lv_at hl 3 rfl) ?_
  refine lv_iload_n hx hb dL_law_991 rfl (lv_at hl 0 rfl) ?_
  refine lv_iconst (v := 5) hx hb dL_law_992 (by decide) ?_
  refine lv_iadd hx hb dL_law_993 ?_
  refine j_sld (j := i + 5) hC hX hbl hbA hW.2.2.2.1 (nI_add i 5) (by omega) (by omega) dL_law_994 ?_
  refine lv_aload_n hx hb dL_law_995 rfl (lv_at hl 3 rfl) ?_
  refine lv_iload_n hx hb dL_law_996 rfl (lv_at hl 0 rfl) ?_
  refine lv_bipush (v := 6) hx hb dL_law_997 (by decide) ?_
  refine lv_iadd hx hb dL_law_999 ?_
  refine j_sld (j := i + 6) hC hX hbl hbA hW.2.2.2.1 (nI_add i 6) (by omega) (by omega) dL_law_1000 ?_
  refine j_l (wf := wM cs am) (st := v) (wr := wX cs ad u) (run_V (rest := [.long r1]) hC (hx_r (wf := wM cs am) (st := v) (wr := wX cs ad u) hW) (m_X6_odds l D cs am v t P R C (xs (i + 1)) (xs (i + 2)) (xs (i + 3)) (xs (i + 4)) (xs (i + 5)) (xs (i + 6)) hwf ham) k_yX6_odds ⟨rfl, rfl⟩ q_ml_RL_95 eM_0 rfl rfl hl.1 rfl (Nat.le_of_ble_eq_true rfl) ⟨(Nat.le_of_ble_eq_true rfl), (Nat.le_of_ble_eq_true rfl)⟩ dL_law_1001 ⟨(Nat.le_of_ble_eq_true rfl), (Nat.le_of_ble_eq_true rfl)⟩) hW (fun r2 v2 H locs hp2 hW => ?_)
  have hW := hx_swap (wr := wX cs ad u) (wc := wM cs am v2) hW
  have heq : r1 = r2 := hp.1.trans hp2.1.symm
  have hin : INV u v2 := inv_next (e_odds hwf (xs (i + 1)) (xs (i + 2)) (xs (i + 3)) (xs (i + 4)) (xs (i + 5)) (xs (i + 6))) hp.2 hp2.2
  refine lv_lcmp (v := 0) hx hb (lcmp_eq heq) dL_law_1004 ?_
  refine lv_if_eq (tgt := 1354) hx hb dL_law_1005 (by decide) (fun _ => ?_) (fun h9 => absurd rfl h9)
  exact kl u v2 _ _ hW hin
set_option maxRecDepth 100000 in
set_option maxHeartbeats 4000000 in
theorem law_19 {p : Program} {e : Env} {s : State} {m : MethodId} {below : List Frame} {meth : Method} {c : Code} (l : Launch) {b L i : Nat} {xs : Nat → Int32} {D : va_G} {cs : CS3} {ad am : Nat → Nat} {Q : State → Prop} {ls : Array Slot} (hC : CallFix p m c cL_law 4 s #[Value.ref b] lw_tg RL) (hX : va_X b L xs s s.heap) (hbl : b < s.heap.size) (hL : L ≤ 3584) (hi : i + 7 ≤ L) (hl : lv_has ls 4 [(3, .int (nI i)), (2, .ref (am 0)), (1, .ref (ad 0)), (0, .ref b)]) (kl : KL p l e s m b below meth c D cs ad am Q ls) {t v : St} {H : Heap} {locs : List Loc} (hW : HX wI (tyX cs) D (fun q : Nat => s.heap.size ≤ q) s.heap s (wM cs am v ++ wX cs ad t) H locs) (hI : INV t v) : W p l e room_1 s m #[Value.ref b] below meth c H locs 84 2041 Q (F0 m 1010 ls []) := by
  obtain ⟨hx, hb, hml, hown, hts⟩ := id hC
  have hbA : ¬ (fun q : Nat => s.heap.size ≤ q) b := Nat.not_le.mpr hbl
  obtain ⟨P, R, C, hwf, ham⟩ := id hI
  refine lv_aload_n hx hb dL_law_1010 rfl (lv_at hl 2 rfl) ?_
  refine lv_aload_n hx hb dL_law_1011 rfl (lv_at hl 3 rfl) ?_
  refine lv_iload_n hx hb dL_law_1012 rfl (lv_at hl 0 rfl) ?_
  refine lv_iconst (v := 1) hx hb dL_law_1013 (by decide) ?_
  refine lv_iadd hx hb dL_law_1014 ?_
  refine j_sld (j := i + 1) hC hX hbl hbA hW.2.2.2.1 (nI_add i 1) (by omega) (by omega) dL_law_1015 ?_
  refine lv_aload_n hx hb dL_law_1016 rfl (lv_at hl 3 rfl) ?_
  refine lv_iload_n hx hb dL_law_1017 rfl (lv_at hl 0 rfl) ?_
  refine lv_iconst (v := 2) hx hb dL_law_1018 (by decide) ?_
  refine lv_iadd hx hb dL_law_1019 ?_
  refine j_sld (j := i + 2) hC hX hbl hbA hW.2.2.2.1 (nI_add i 2) (by omega) (by omega) dL_law_1020 ?_
  refine lv_aload_n hx hb dL_law_1021 rfl (lv_at hl 3 rfl) ?_
  refine lv_iload_n hx hb dL_law_1022 rfl (lv_at hl 0 rfl) ?_
  refine lv_iconst (v := 3) hx hb dL_law_1023 (by decide) ?_
  refine lv_iadd hx hb dL_law_1024 ?_
  refine j_sld (j := i + 3) hC hX hbl hbA hW.2.2.2.1 (nI_add i 3) (by omega) (by omega) dL_law_1025 ?_
  refine j_i (wf := wX cs ad) (st := t) (wr := wM cs am v) (run_V (rest := []) hC (hx_r (wf := wX cs ad) (st := t) (wr := wM cs am v) hW) (m_X5_sheet l D cs ad t P R C (xs (i + 1)) (xs (i + 2)) (xs (i + 3)) hwf.1) k_yX5_sheet ⟨rfl, rfl⟩ q_ml_RL_96 eX_0 rfl rfl hl.1 rfl (Nat.le_of_ble_eq_true rfl) ⟨(Nat.le_of_ble_eq_true rfl), (Nat.le_of_ble_eq_true rfl)⟩ dL_law_1026 ⟨(Nat.le_of_ble_eq_true rfl), (Nat.le_of_ble_eq_true rfl)⟩) hW (fun r1 u H locs hp hW => ?_)
  have hW := hx_swap (wr := wM cs am v) (wc := wX cs ad u) hW
  refine lv_aload_n hx hb dL_law_1029 rfl (lv_at hl 1 rfl) ?_
  refine lv_aload_n hx hb dL_law_1030 rfl (lv_at hl 3 rfl) ?_
  refine lv_iload_n hx hb dL_law_1031 rfl (lv_at hl 0 rfl) ?_
  refine lv_iconst (v := 1) hx hb dL_law_1032 (by decide) ?_
  refine lv_iadd hx hb dL_law_1033 ?_
  refine j_sld (j := i + 1) hC hX hbl hbA hW.2.2.2.1 (nI_add i 1) (by omega) (by omega) dL_law_1034 ?_
  refine lv_aload_n hx hb dL_law_1035 rfl (lv_at hl 3 rfl) ?_
  refine lv_iload_n hx hb dL_law_1036 rfl (lv_at hl 0 rfl) ?_
  refine lv_iconst (v := 2) hx hb dL_law_1037 (by decide) ?_
  refine lv_iadd hx hb dL_law_1038 ?_
  refine j_sld (j := i + 2) hC hX hbl hbA hW.2.2.2.1 (nI_add i 2) (by omega) (by omega) dL_law_1039 ?_
  refine lv_aload_n hx hb dL_law_1040 rfl (lv_at hl 3 rfl) ?_
  refine lv_iload_n hx hb dL_law_1041 rfl (lv_at hl 0 rfl) ?_
  refine lv_iconst (v := 3) hx hb dL_law_1042 (by decide) ?_
  refine lv_iadd hx hb dL_law_1043 ?_
  refine j_sld (j := i + 3) hC hX hbl hbA hW.2.2.2.1 (nI_add i 3) (by omega) (by omega) dL_law_1044 ?_
  refine j_i (wf := wM cs am) (st := v) (wr := wX cs ad u) (run_V (rest := [.int r1]) hC (hx_r (wf := wM cs am) (st := v) (wr := wX cs ad u) hW) (m_X6_sheet l D cs am v t P R C (xs (i + 1)) (xs (i + 2)) (xs (i + 3)) hwf ham) k_yX6_sheet ⟨rfl, rfl⟩ q_ml_RL_99 eM_0 rfl rfl hl.1 rfl (Nat.le_of_ble_eq_true rfl) ⟨(Nat.le_of_ble_eq_true rfl), (Nat.le_of_ble_eq_true rfl)⟩ dL_law_1045 ⟨(Nat.le_of_ble_eq_true rfl), (Nat.le_of_ble_eq_true rfl)⟩) hW (fun r2 v2 H locs hp2 hW => ?_)
  have hW := hx_swap (wr := wX cs ad u) (wc := wM cs am v2) hW
  have heq : r1 = r2 := hp.1.trans hp2.1.symm
  have hin : INV u v2 := inv_next (e_sheet hwf (xs (i + 1)) (xs (i + 2)) (xs (i + 3))) hp.2 hp2.2
  refine lv_icmp_eq (tgt := 1354) hx hb dL_law_1048 (by decide) (fun _ => ?_) (fun h9 => absurd heq h9)
  exact kl u v2 _ _ hW hin
