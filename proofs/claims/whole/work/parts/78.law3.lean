set_option maxRecDepth 100000 in
set_option maxHeartbeats 4000000 in
theorem law_20 {p : Program} {e : Env} {s : State} {m : MethodId} {below : List Frame} {meth : Method} {c : Code} (l : Launch) {b L i : Nat} {xs : Nat → Int32} {D : va_G} {cs : CS3} {ad am : Nat → Nat} {Q : State → Prop} {ls : Array Slot} (hC : CallFix p m c cL_law 4 s #[Value.ref b] lw_tg RL) (hX : va_X b L xs s s.heap) (hbl : b < s.heap.size) (hL : L ≤ 3584) (hi : i + 7 ≤ L) (hl : lv_has ls 4 [(3, .int (nI i)), (2, .ref (am 0)), (1, .ref (ad 0)), (0, .ref b)]) (kl : KL p l e s m b below meth c D cs ad am Q ls) {t v : St} {H : Heap} {locs : List Loc} (hW : HX wI (tyX cs) D (fun q : Nat => s.heap.size ≤ q) s.heap s (wM cs am v ++ wX cs ad t) H locs) (hI : INV t v) : W p l e room_1 s m #[Value.ref b] below meth c H locs 84 2041 Q (F0 m 1053 ls []) := by
  obtain ⟨hx, hb, hml, hown, hts⟩ := id hC
  have hbA : ¬ (fun q : Nat => s.heap.size ≤ q) b := Nat.not_le.mpr hbl
  obtain ⟨P, R, C, hwf, ham⟩ := id hI
  refine lv_aload_n hx hb dL_law_1053 rfl (lv_at hl 2 rfl) ?_
  refine lv_aload_n hx hb dL_law_1054 rfl (lv_at hl 3 rfl) ?_
  refine lv_iload_n hx hb dL_law_1055 rfl (lv_at hl 0 rfl) ?_
  refine lv_iconst (v := 1) hx hb dL_law_1056 (by decide) ?_
  refine lv_iadd hx hb dL_law_1057 ?_
  refine j_sld (j := i + 1) hC hX hbl hbA hW.2.2.2.1 (nI_add i 1) (by omega) (by omega) dL_law_1058 ?_
  refine j_i (wf := wX cs ad) (st := t) (wr := wM cs am v) (run_V (rest := []) hC (hx_r (wf := wX cs ad) (st := t) (wr := wM cs am v) hW) (m_X5_lose l D cs ad t P R C (xs (i + 1)) hwf.1) k_yX5_lose ⟨rfl, rfl⟩ q_ml_RL_100 eX_0 rfl rfl hl.1 rfl (Nat.le_of_ble_eq_true rfl) ⟨(Nat.le_of_ble_eq_true rfl), (Nat.le_of_ble_eq_true rfl)⟩ dL_law_1059 ⟨(Nat.le_of_ble_eq_true rfl), (Nat.le_of_ble_eq_true rfl)⟩) hW (fun r1 u H locs hp hW => ?_)
  have hW := hx_swap (wr := wM cs am v) (wc := wX cs ad u) hW
  refine lv_aload_n hx hb dL_law_1062 rfl (lv_at hl 1 rfl) ?_
  refine lv_aload_n hx hb dL_law_1063 rfl (lv_at hl 3 rfl) ?_
  refine lv_iload_n hx hb dL_law_1064 rfl (lv_at hl 0 rfl) ?_
  refine lv_iconst (v := 1) hx hb dL_law_1065 (by decide) ?_
  refine lv_iadd hx hb dL_law_1066 ?_
  refine j_sld (j := i + 1) hC hX hbl hbA hW.2.2.2.1 (nI_add i 1) (by omega) (by omega) dL_law_1067 ?_
  refine j_i (wf := wM cs am) (st := v) (wr := wX cs ad u) (run_V (rest := [.int r1]) hC (hx_r (wf := wM cs am) (st := v) (wr := wX cs ad u) hW) (m_X6_lose l D cs am v t P R C (xs (i + 1)) hwf ham) k_yX6_lose ⟨rfl, rfl⟩ q_ml_RL_103 eM_0 rfl rfl hl.1 rfl (Nat.le_of_ble_eq_true rfl) ⟨(Nat.le_of_ble_eq_true rfl), (Nat.le_of_ble_eq_true rfl)⟩ dL_law_1068 ⟨(Nat.le_of_ble_eq_true rfl), (Nat.le_of_ble_eq_true rfl)⟩) hW (fun r2 v2 H locs hp2 hW => ?_)
  have hW := hx_swap (wr := wX cs ad u) (wc := wM cs am v2) hW
  have heq : r1 = r2 := hp.1.trans hp2.1.symm
  have hin : INV u v2 := inv_next (e_lose hwf (xs (i + 1))) hp.2 hp2.2
  refine lv_icmp_eq (tgt := 1354) hx hb dL_law_1071 (by decide) (fun _ => ?_) (fun h9 => absurd heq h9)
  exact kl u v2 _ _ hW hin
set_option maxRecDepth 100000 in
set_option maxHeartbeats 4000000 in
theorem law_21 {p : Program} {e : Env} {s : State} {m : MethodId} {below : List Frame} {meth : Method} {c : Code} (l : Launch) {b L i : Nat} {xs : Nat → Int32} {D : va_G} {cs : CS3} {ad am : Nat → Nat} {Q : State → Prop} {ls : Array Slot} (hC : CallFix p m c cL_law 4 s #[Value.ref b] lw_tg RL) (hX : va_X b L xs s s.heap) (hbl : b < s.heap.size) (hL : L ≤ 3584) (hi : i + 7 ≤ L) (hl : lv_has ls 4 [(3, .int (nI i)), (2, .ref (am 0)), (1, .ref (ad 0)), (0, .ref b)]) (kl : KL p l e s m b below meth c D cs ad am Q ls) {t v : St} {H : Heap} {locs : List Loc} (hW : HX wI (tyX cs) D (fun q : Nat => s.heap.size ≤ q) s.heap s (wM cs am v ++ wX cs ad t) H locs) (hI : INV t v) : W p l e room_1 s m #[Value.ref b] below meth c H locs 84 2041 Q (F0 m 1076 ls []) := by
  obtain ⟨hx, hb, hml, hown, hts⟩ := id hC
  have hbA : ¬ (fun q : Nat => s.heap.size ≤ q) b := Nat.not_le.mpr hbl
  obtain ⟨P, R, C, hwf, ham⟩ := id hI
  refine lv_aload_n hx hb dL_law_1076 rfl (lv_at hl 2 rfl) ?_
  refine lv_aload_n hx hb dL_law_1077 rfl (lv_at hl 3 rfl) ?_
  refine lv_iload_n hx hb dL_law_1078 rfl (lv_at hl 0 rfl) ?_
  refine lv_iconst (v := 1) hx hb dL_law_1079 (by decide) ?_
  refine lv_iadd hx hb dL_law_1080 ?_
  refine j_sld (j := i + 1) hC hX hbl hbA hW.2.2.2.1 (nI_add i 1) (by omega) (by omega) dL_law_1081 ?_
  refine lv_aload_n hx hb dL_law_1082 rfl (lv_at hl 3 rfl) ?_
  refine lv_iload_n hx hb dL_law_1083 rfl (lv_at hl 0 rfl) ?_
  refine lv_iconst (v := 2) hx hb dL_law_1084 (by decide) ?_
  refine lv_iadd hx hb dL_law_1085 ?_
  refine j_sld (j := i + 2) hC hX hbl hbA hW.2.2.2.1 (nI_add i 2) (by omega) (by omega) dL_law_1086 ?_
  refine lv_aload_n hx hb dL_law_1087 rfl (lv_at hl 3 rfl) ?_
  refine lv_iload_n hx hb dL_law_1088 rfl (lv_at hl 0 rfl) ?_
  refine lv_iconst (v := 3) hx hb dL_law_1089 (by decide) ?_
  refine lv_iadd hx hb dL_law_1090 ?_
  refine j_sld (j := i + 3) hC hX hbl hbA hW.2.2.2.1 (nI_add i 3) (by omega) (by omega) dL_law_1091 ?_
  refine j_i (wf := wX cs ad) (st := t) (wr := wM cs am v) (run_V (rest := []) hC (hx_r (wf := wX cs ad) (st := t) (wr := wM cs am v) hW) (m_X5_put l D cs ad t P R C (xs (i + 1)) (xs (i + 2)) (xs (i + 3)) hwf.1) k_yX5_put ⟨rfl, rfl⟩ q_ml_RL_104 eX_0 rfl rfl hl.1 rfl (Nat.le_of_ble_eq_true rfl) ⟨(Nat.le_of_ble_eq_true rfl), (Nat.le_of_ble_eq_true rfl)⟩ dL_law_1092 ⟨(Nat.le_of_ble_eq_true rfl), (Nat.le_of_ble_eq_true rfl)⟩) hW (fun r1 u H locs hp hW => ?_)
  have hW := hx_swap (wr := wM cs am v) (wc := wX cs ad u) hW
  refine lv_aload_n hx hb dL_law_1095 rfl (lv_at hl 1 rfl) ?_
  refine lv_aload_n hx hb dL_law_1096 rfl (lv_at hl 3 rfl) ?_
  refine lv_iload_n hx hb dL_law_1097 rfl (lv_at hl 0 rfl) ?_
  refine lv_iconst (v := 1) hx hb dL_law_1098 (by decide) ?_
  refine lv_iadd hx hb dL_law_1099 ?_
  refine j_sld (j := i + 1) hC hX hbl hbA hW.2.2.2.1 (nI_add i 1) (by omega) (by omega) dL_law_1100 ?_
  refine lv_aload_n hx hb dL_law_1101 rfl (lv_at hl 3 rfl) ?_
  refine lv_iload_n hx hb dL_law_1102 rfl (lv_at hl 0 rfl) ?_
  refine lv_iconst (v := 2) hx hb dL_law_1103 (by decide) ?_
  refine lv_iadd hx hb dL_law_1104 ?_
  refine j_sld (j := i + 2) hC hX hbl hbA hW.2.2.2.1 (nI_add i 2) (by omega) (by omega) dL_law_1105 ?_
  refine lv_aload_n hx hb dL_law_1106 rfl (lv_at hl 3 rfl) ?_
  refine lv_iload_n hx hb dL_law_1107 rfl (lv_at hl 0 rfl) ?_
  refine lv_iconst (v := 3) hx hb dL_law_1108 (by decide) ?_
  refine lv_iadd hx hb dL_law_1109 ?_
  refine j_sld (j := i + 3) hC hX hbl hbA hW.2.2.2.1 (nI_add i 3) (by omega) (by omega) dL_law_1110 ?_
  refine j_i (wf := wM cs am) (st := v) (wr := wX cs ad u) (run_V (rest := [.int r1]) hC (hx_r (wf := wM cs am) (st := v) (wr := wX cs ad u) hW) (m_X6_put l D cs am v t P R C (xs (i + 1)) (xs (i + 2)) (xs (i + 3)) hwf ham) k_yX6_put ⟨rfl, rfl⟩ q_ml_RL_107 eM_0 rfl rfl hl.1 rfl (Nat.le_of_ble_eq_true rfl) ⟨(Nat.le_of_ble_eq_true rfl), (Nat.le_of_ble_eq_true rfl)⟩ dL_law_1111 ⟨(Nat.le_of_ble_eq_true rfl), (Nat.le_of_ble_eq_true rfl)⟩) hW (fun r2 v2 H locs hp2 hW => ?_)
  have hW := hx_swap (wr := wX cs ad u) (wc := wM cs am v2) hW
  have heq : r1 = r2 := hp.1.trans hp2.1.symm
  have hin : INV u v2 := inv_next (e_put hwf (xs (i + 1)) (xs (i + 2)) (xs (i + 3))) hp.2 hp2.2
  refine lv_icmp_eq (tgt := 1354) hx hb dL_law_1114 (by decide) (fun _ => ?_) (fun h9 => absurd heq h9)
  exact kl u v2 _ _ hW hin
set_option maxRecDepth 100000 in
set_option maxHeartbeats 4000000 in
theorem law_22 {p : Program} {e : Env} {s : State} {m : MethodId} {below : List Frame} {meth : Method} {c : Code} (l : Launch) {b L i : Nat} {xs : Nat → Int32} {D : va_G} {cs : CS3} {ad am : Nat → Nat} {Q : State → Prop} {ls : Array Slot} (hC : CallFix p m c cL_law 4 s #[Value.ref b] lw_tg RL) (hX : va_X b L xs s s.heap) (hbl : b < s.heap.size) (hL : L ≤ 3584) (hi : i + 7 ≤ L) (hl : lv_has ls 4 [(3, .int (nI i)), (2, .ref (am 0)), (1, .ref (ad 0)), (0, .ref b)]) (kl : KL p l e s m b below meth c D cs ad am Q ls) {t v : St} {H : Heap} {locs : List Loc} (hW : HX wI (tyX cs) D (fun q : Nat => s.heap.size ≤ q) s.heap s (wM cs am v ++ wX cs ad t) H locs) (hI : INV t v) : W p l e room_1 s m #[Value.ref b] below meth c H locs 84 2041 Q (F0 m 1119 ls []) := by
  obtain ⟨hx, hb, hml, hown, hts⟩ := id hC
  have hbA : ¬ (fun q : Nat => s.heap.size ≤ q) b := Nat.not_le.mpr hbl
  obtain ⟨P, R, C, hwf, ham⟩ := id hI
  refine lv_aload_n hx hb dL_law_1119 rfl (lv_at hl 2 rfl) ?_
  refine lv_aload_n hx hb dL_law_1120 rfl (lv_at hl 3 rfl) ?_
  refine lv_iload_n hx hb dL_law_1121 rfl (lv_at hl 0 rfl) ?_
  refine lv_iconst (v := 1) hx hb dL_law_1122 (by decide) ?_
  refine lv_iadd hx hb dL_law_1123 ?_
  refine j_sld (j := i + 1) hC hX hbl hbA hW.2.2.2.1 (nI_add i 1) (by omega) (by omega) dL_law_1124 ?_
  refine lv_aload_n hx hb dL_law_1125 rfl (lv_at hl 3 rfl) ?_
  refine lv_iload_n hx hb dL_law_1126 rfl (lv_at hl 0 rfl) ?_
  refine lv_iconst (v := 2) hx hb dL_law_1127 (by decide) ?_
  refine lv_iadd hx hb dL_law_1128 ?_
  refine j_sld (j := i + 2) hC hX hbl hbA hW.2.2.2.1 (nI_add i 2) (by omega) (by omega) dL_law_1129 ?_
  refine lv_aload_n hx hb dL_law_1130 rfl (lv_at hl 3 rfl) ?_
  refine lv_iload_n hx hb dL_law_1131 rfl (lv_at hl 0 rfl) ?_
  refine lv_iconst (v := 3) hx hb dL_law_1132 (by decide) ?_
  refine lv_iadd hx hb dL_law_1133 ?_
  refine j_sld (j := i + 3) hC hX hbl hbA hW.2.2.2.1 (nI_add i 3) (by omega) (by omega) dL_law_1134 ?_
  refine j_l (wf := wX cs ad) (st := t) (wr := wM cs am v) (run_V (rest := []) hC (hx_r (wf := wX cs ad) (st := t) (wr := wM cs am v) hW) (m_X5_cell l D cs ad t P R C (xs (i + 1)) (xs (i + 2)) (xs (i + 3)) hwf.1) k_yX5_cell ⟨rfl, rfl⟩ q_ml_RL_108 eX_0 rfl rfl hl.1 rfl (Nat.le_of_ble_eq_true rfl) ⟨(Nat.le_of_ble_eq_true rfl), (Nat.le_of_ble_eq_true rfl)⟩ dL_law_1135 ⟨(Nat.le_of_ble_eq_true rfl), (Nat.le_of_ble_eq_true rfl)⟩) hW (fun r1 u H locs hp hW => ?_)
  have hW := hx_swap (wr := wM cs am v) (wc := wX cs ad u) hW
  refine lv_aload_n hx hb dL_law_1138 rfl (lv_at hl 1 rfl) ?_
  refine lv_aload_n hx hb dL_law_1139 rfl (lv_at hl 3 rfl) ?_
  refine lv_iload_n hx hb dL_law_1140 rfl (lv_at hl 0 rfl) ?_
  refine lv_iconst (v := 1) hx hb dL_law_1141 (by decide) ?_
  refine lv_iadd hx hb dL_law_1142 ?_
  refine j_sld (j := i + 1) hC hX hbl hbA hW.2.2.2.1 (nI_add i 1) (by omega) (by omega) dL_law_1143 ?_
  refine lv_aload_n hx hb dL_law_1144 rfl (lv_at hl 3 rfl) ?_
  refine lv_iload_n hx hb dL_law_1145 rfl (lv_at hl 0 rfl) ?_
  refine lv_iconst (v := 2) hx hb dL_law_1146 (by decide) ?_
  refine lv_iadd hx hb dL_law_1147 ?_
  refine j_sld (j := i + 2) hC hX hbl hbA hW.2.2.2.1 (nI_add i 2) (by omega) (by omega) dL_law_1148 ?_
  refine lv_aload_n hx hb dL_law_1149 rfl (lv_at hl 3 rfl) ?_
  refine lv_iload_n hx hb dL_law_1150 rfl (lv_at hl 0 rfl) ?_
  refine lv_iconst (v := 3) hx hb dL_law_1151 (by decide) ?_
  refine lv_iadd hx hb dL_law_1152 ?_
  refine j_sld (j := i + 3) hC hX hbl hbA hW.2.2.2.1 (nI_add i 3) (by omega) (by omega) dL_law_1153 ?_
  refine j_l (wf := wM cs am) (st := v) (wr := wX cs ad u) (run_V (rest := [.long r1]) hC (hx_r (wf := wM cs am) (st := v) (wr := wX cs ad u) hW) (m_X6_cell l D cs am v t P R C (xs (i + 1)) (xs (i + 2)) (xs (i + 3)) hwf ham) k_yX6_cell ⟨rfl, rfl⟩ q_ml_RL_112 eM_0 rfl rfl hl.1 rfl (Nat.le_of_ble_eq_true rfl) ⟨(Nat.le_of_ble_eq_true rfl), (Nat.le_of_ble_eq_true rfl)⟩ dL_law_1154 ⟨(Nat.le_of_ble_eq_true rfl), (Nat.le_of_ble_eq_true rfl)⟩) hW (fun r2 v2 H locs hp2 hW => ?_)
  have hW := hx_swap (wr := wX cs ad u) (wc := wM cs am v2) hW
  have heq : r1 = r2 := hp.1.trans hp2.1.symm
  have hin : INV u v2 := inv_next (e_cell hwf (xs (i + 1)) (xs (i + 2)) (xs (i + 3))) hp.2 hp2.2
  refine lv_lcmp (v := 0) hx hb (lcmp_eq heq) dL_law_1157 ?_
  refine lv_if_eq (tgt := 1354) hx hb dL_law_1158 (by decide) (fun _ => ?_) (fun h9 => absurd rfl h9)
  exact kl u v2 _ _ hW hin
set_option maxRecDepth 100000 in
set_option maxHeartbeats 4000000 in
theorem law_23 {p : Program} {e : Env} {s : State} {m : MethodId} {below : List Frame} {meth : Method} {c : Code} (l : Launch) {b L i : Nat} {xs : Nat → Int32} {D : va_G} {cs : CS3} {ad am : Nat → Nat} {Q : State → Prop} {ls : Array Slot} (hC : CallFix p m c cL_law 4 s #[Value.ref b] lw_tg RL) (hX : va_X b L xs s s.heap) (hbl : b < s.heap.size) (hL : L ≤ 3584) (hi : i + 7 ≤ L) (hl : lv_has ls 4 [(3, .int (nI i)), (2, .ref (am 0)), (1, .ref (ad 0)), (0, .ref b)]) (kl : KL p l e s m b below meth c D cs ad am Q ls) {t v : St} {H : Heap} {locs : List Loc} (hW : HX wI (tyX cs) D (fun q : Nat => s.heap.size ≤ q) s.heap s (wM cs am v ++ wX cs ad t) H locs) (hI : INV t v) : W p l e room_1 s m #[Value.ref b] below meth c H locs 84 2041 Q (F0 m 1163 ls []) := by
  obtain ⟨hx, hb, hml, hown, hts⟩ := id hC
  have hbA : ¬ (fun q : Nat => s.heap.size ≤ q) b := Nat.not_le.mpr hbl
  obtain ⟨P, R, C, hwf, ham⟩ := id hI
  refine lv_aload_n hx hb dL_law_1163 rfl (lv_at hl 2 rfl) ?_
  refine lv_aload_n hx hb dL_law_1164 rfl (lv_at hl 3 rfl) ?_
  refine lv_iload_n hx hb dL_law_1165 rfl (lv_at hl 0 rfl) ?_
  refine lv_iconst (v := 1) hx hb dL_law_1166 (by decide) ?_
  refine lv_iadd hx hb dL_law_1167 ?_
  refine j_sld (j := i + 1) hC hX hbl hbA hW.2.2.2.1 (nI_add i 1) (by omega) (by omega) dL_law_1168 ?_
  refine lv_aload_n hx hb dL_law_1169 rfl (lv_at hl 3 rfl) ?_
  refine lv_iload_n hx hb dL_law_1170 rfl (lv_at hl 0 rfl) ?_
  refine lv_iconst (v := 2) hx hb dL_law_1171 (by decide) ?_
  refine lv_iadd hx hb dL_law_1172 ?_
  refine j_sld (j := i + 2) hC hX hbl hbA hW.2.2.2.1 (nI_add i 2) (by omega) (by omega) dL_law_1173 ?_
  refine lv_aload_n hx hb dL_law_1174 rfl (lv_at hl 3 rfl) ?_
  refine lv_iload_n hx hb dL_law_1175 rfl (lv_at hl 0 rfl) ?_
  refine lv_iconst (v := 3) hx hb dL_law_1176 (by decide) ?_
  refine lv_iadd hx hb dL_law_1177 ?_
  refine j_sld (j := i + 3) hC hX hbl hbA hW.2.2.2.1 (nI_add i 3) (by omega) (by omega) dL_law_1178 ?_
  refine lv_aload_n hx hb dL_law_1179 rfl (lv_at hl 3 rfl) ?_
  refine lv_iload_n hx hb dL_law_1180 rfl (lv_at hl 0 rfl) ?_
  refine lv_iconst (v := 4) hx hb dL_law_1181 (by decide) ?_
  refine lv_iadd hx hb dL_law_1182 ?_
  refine j_sld (j := i + 4) hC hX hbl hbA hW.2.2.2.1 (nI_add i 4) (by omega) (by omega) dL_law_1183 ?_
  refine lv_aload_n hx hb dL_law_1184 rfl (lv_at hl 3 rfl) ?_
  refine lv_iload_n hx hb dL_law_1185 rfl (lv_at hl 0 rfl) ?_
  refine lv_iconst (v := 5) hx hb dL_law_1186 (by decide) ?_
  refine lv_iadd hx hb dL_law_1187 ?_
  refine j_sld (j := i + 5) hC hX hbl hbA hW.2.2.2.1 (nI_add i 5) (by omega) (by omega) dL_law_1188 ?_
  refine j_i (wf := wX cs ad) (st := t) (wr := wM cs am v) (run_V (rest := []) hC (hx_r (wf := wX cs ad) (st := t) (wr := wM cs am v) hW) (m_X5_copy l D cs ad t P R C (xs (i + 1)) (xs (i + 2)) (xs (i + 3)) (xs (i + 4)) (xs (i + 5)) hwf.1) k_yX5_copy ⟨rfl, rfl⟩ q_ml_RL_113 eX_0 rfl rfl hl.1 rfl (Nat.le_of_ble_eq_true rfl) ⟨(Nat.le_of_ble_eq_true rfl), (Nat.le_of_ble_eq_true rfl)⟩ dL_law_1189 ⟨(Nat.le_of_ble_eq_true rfl), (Nat.le_of_ble_eq_true rfl)⟩) hW (fun r1 u H locs hp hW => ?_)
  have hW := hx_swap (wr := wM cs am v) (wc := wX cs ad u) hW
  refine lv_aload_n hx hb dL_law_1192 rfl (lv_at hl 1 rfl) ?_
  refine lv_aload_n hx hb dL_law_1193 rfl (lv_at hl 3 rfl) ?_
  refine lv_iload_n hx hb dL_law_1194 rfl (lv_at hl 0 rfl) ?_
  refine lv_iconst (v := 1) hx hb dL_law_1195 (by decide) ?_
  refine lv_iadd hx hb dL_law_1196 ?_
  refine j_sld (j := i + 1) hC hX hbl hbA hW.2.2.2.1 (nI_add i 1) (by omega) (by omega) dL_law_1197 ?_
  refine lv_aload_n hx hb dL_law_1198 rfl (lv_at hl 3 rfl) ?_
  refine lv_iload_n hx hb dL_law_1199 rfl (lv_at hl 0 rfl) ?_
  refine lv_iconst (v := 2) hx hb dL_law_1200 (by decide) ?_
  refine lv_iadd hx hb dL_law_1201 ?_
  refine j_sld (j := i + 2) hC hX hbl hbA hW.2.2.2.1 (nI_add i 2) (by omega) (by omega) dL_law_1202 ?_
  refine lv_aload_n hx hb dL_law_1203 rfl (lv_at hl 3 rfl) ?_
  refine lv_iload_n hx hb dL_law_1204 rfl (lv_at hl 0 rfl) ?_
  refine lv_iconst (v := 3) hx hb dL_law_1205 (by decide) ?_
  refine lv_iadd hx hb dL_law_1206 ?_
  refine j_sld (j := i + 3) hC hX hbl hbA hW.2.2.2.1 (nI_add i 3) (by omega) (by omega) dL_law_1207 ?_
  refine lv_aload_n hx hb dL_law_1208 rfl (lv_at hl 3 rfl) ?_
  refine lv_iload_n hx hb dL_law_1209 rfl (lv_at hl 0 rfl) ?_
  refine lv_iconst (v := 4) hx hb dL_law_1210 (by decide) ?_
  refine lv_iadd hx hb dL_law_1211 ?_
  refine j_sld (j := i + 4) hC hX hbl hbA hW.2.2.2.1 (nI_add i 4) (by omega) (by omega) dL_law_1212 ?_
  refine lv_aload_n hx hb dL_law_1213 rfl (lv_at hl 3 rfl) ?_
  refine lv_iload_n hx hb dL_law_1214 rfl (lv_at hl 0 rfl) ?_
  refine lv_iconst (v := 5) hx hb dL_law_1215 (by decide) ?_
  refine lv_iadd hx hb dL_law_1216 ?_
  refine j_sld (j := i + 5) hC hX hbl hbA hW.2.2.2.1 (nI_add i 5) (by omega) (by omega) dL_law_1217 ?_
  refine j_i (wf := wM cs am) (st := v) (wr := wX cs ad u) (run_V (rest := [.int r1]) hC (hx_r (wf := wM cs am) (st := v) (wr := wX cs ad u) hW) (m_X6_copy l D cs am v t P R C (xs (i + 1)) (xs (i + 2)) (xs (i + 3)) (xs (i + 4)) (xs (i + 5)) hwf ham) k_yX6_copy ⟨rfl, rfl⟩ q_ml_RL_116 eM_0 rfl rfl hl.1 rfl (Nat.le_of_ble_eq_true rfl) ⟨(Nat.le_of_ble_eq_true rfl), (Nat.le_of_ble_eq_true rfl)⟩ dL_law_1218 ⟨(Nat.le_of_ble_eq_true rfl), (Nat.le_of_ble_eq_true rfl)⟩) hW (fun r2 v2 H locs hp2 hW => ?_)
  have hW := hx_swap (wr := wX cs ad u) (wc := wM cs am v2) hW
  have heq : r1 = r2 := hp.1.trans hp2.1.symm
  have hin : INV u v2 := inv_next (e_copy hwf (xs (i + 1)) (xs (i + 2)) (xs (i + 3)) (xs (i + 4)) (xs (i + 5))) hp.2 hp2.2
  refine lv_icmp_eq (tgt := 1354) hx hb dL_law_1221 (by decide) (fun _ => ?_) (fun h9 => absurd heq h9)
  exact kl u v2 _ _ hW hin
set_option maxRecDepth 100000 in
set_option maxHeartbeats 4000000 in
theorem law_24 {p : Program} {e : Env} {s : State} {m : MethodId} {below : List Frame} {meth : Method} {c : Code} (l : Launch) {b L i : Nat} {xs : Nat → Int32} {D : va_G} {cs : CS3} {ad am : Nat → Nat} {Q : State → Prop} {ls : Array Slot} (hC : CallFix p m c cL_law 4 s #[Value.ref b] lw_tg RL) (hX : va_X b L xs s s.heap) (hbl : b < s.heap.size) (hL : L ≤ 3584) (hi : i + 7 ≤ L) (hl : lv_has ls 4 [(3, .int (nI i)), (2, .ref (am 0)), (1, .ref (ad 0)), (0, .ref b)]) (kl : KL p l e s m b below meth c D cs ad am Q ls) {t v : St} {H : Heap} {locs : List Loc} (hW : HX wI (tyX cs) D (fun q : Nat => s.heap.size ≤ q) s.heap s (wM cs am v ++ wX cs ad t) H locs) (hI : INV t v) : W p l e room_1 s m #[Value.ref b] below meth c H locs 84 2041 Q (F0 m 1226 ls []) := by
  obtain ⟨hx, hb, hml, hown, hts⟩ := id hC
  have hbA : ¬ (fun q : Nat => s.heap.size ≤ q) b := Nat.not_le.mpr hbl
  obtain ⟨P, R, C, hwf, ham⟩ := id hI
  refine lv_aload_n hx hb dL_law_1226 rfl (lv_at hl 2 rfl) ?_
  refine lv_aload_n hx hb dL_law_1227 rfl (lv_at hl 3 rfl) ?_
  refine lv_iload_n hx hb dL_law_1228 rfl (lv_at hl 0 rfl) ?_
  refine lv_iconst (v := 1) hx hb dL_law_1229 (by decide) ?_
  refine lv_iadd hx hb dL_law_1230 ?_
  refine j_sld (j := i + 1) hC hX hbl hbA hW.2.2.2.1 (nI_add i 1) (by omega) (by omega) dL_law_1231 ?_
  refine j_i (wf := wX cs ad) (st := t) (wr := wM cs am v) (run_V (rest := []) hC (hx_r (wf := wX cs ad) (st := t) (wr := wM cs am v) hW) (m_X5_tell l D cs ad t P R C (xs (i + 1)) hwf.1) k_yX5_tell ⟨rfl, rfl⟩ q_ml_RL_117 eX_0 rfl rfl hl.1 rfl (Nat.le_of_ble_eq_true rfl) ⟨(Nat.le_of_ble_eq_true rfl), (Nat.le_of_ble_eq_true rfl)⟩ dL_law_1232 ⟨(Nat.le_of_ble_eq_true rfl), (Nat.le_of_ble_eq_true rfl)⟩) hW (fun r1 u H locs hp hW => ?_)
  have hW := hx_swap (wr := wM cs am v) (wc := wX cs ad u) hW
  refine lv_aload_n hx hb dL_law_1235 rfl (lv_at hl 1 rfl) ?_
  refine lv_aload_n hx hb dL_law_1236 rfl (lv_at hl 3 rfl) ?_
  refine lv_iload_n hx hb dL_law_1237 rfl (lv_at hl 0 rfl) ?_
  refine lv_iconst (v := 1) hx hb dL_law_1238 (by decide) ?_
  refine lv_iadd hx hb dL_law_1239 ?_
  refine j_sld (j := i + 1) hC hX hbl hbA hW.2.2.2.1 (nI_add i 1) (by omega) (by omega) dL_law_1240 ?_
  refine j_i (wf := wM cs am) (st := v) (wr := wX cs ad u) (run_V (rest := [.int r1]) hC (hx_r (wf := wM cs am) (st := v) (wr := wX cs ad u) hW) (m_X6_tell l D cs am v t P R C (xs (i + 1)) hwf ham) k_yX6_tell ⟨rfl, rfl⟩ q_ml_RL_120 eM_0 rfl rfl hl.1 rfl (Nat.le_of_ble_eq_true rfl) ⟨(Nat.le_of_ble_eq_true rfl), (Nat.le_of_ble_eq_true rfl)⟩ dL_law_1241 ⟨(Nat.le_of_ble_eq_true rfl), (Nat.le_of_ble_eq_true rfl)⟩) hW (fun r2 v2 H locs hp2 hW => ?_)
  have hW := hx_swap (wr := wX cs ad u) (wc := wM cs am v2) hW
  have heq : r1 = r2 := hp.1.trans hp2.1.symm
  have hin : INV u v2 := inv_next (e_tell hwf (xs (i + 1))) hp.2 hp2.2
  refine lv_icmp_eq (tgt := 1354) hx hb dL_law_1244 (by decide) (fun _ => ?_) (fun h9 => absurd heq h9)
  exact kl u v2 _ _ hW hin
set_option maxRecDepth 100000 in
set_option maxHeartbeats 4000000 in
theorem law_25 {p : Program} {e : Env} {s : State} {m : MethodId} {below : List Frame} {meth : Method} {c : Code} (l : Launch) {b L i : Nat} {xs : Nat → Int32} {D : va_G} {cs : CS3} {ad am : Nat → Nat} {Q : State → Prop} {ls : Array Slot} (hC : CallFix p m c cL_law 4 s #[Value.ref b] lw_tg RL) (hX : va_X b L xs s s.heap) (hbl : b < s.heap.size) (hL : L ≤ 3584) (hi : i + 7 ≤ L) (hl : lv_has ls 4 [(3, .int (nI i)), (2, .ref (am 0)), (1, .ref (ad 0)), (0, .ref b)]) (kl : KL p l e s m b below meth c D cs ad am Q ls) {t v : St} {H : Heap} {locs : List Loc} (hW : HX wI (tyX cs) D (fun q : Nat => s.heap.size ≤ q) s.heap s (wM cs am v ++ wX cs ad t) H locs) (hI : INV t v) : W p l e room_1 s m #[Value.ref b] below meth c H locs 84 2041 Q (F0 m 1249 ls []) := by
  obtain ⟨hx, hb, hml, hown, hts⟩ := id hC
  have hbA : ¬ (fun q : Nat => s.heap.size ≤ q) b := Nat.not_le.mpr hbl
  obtain ⟨P, R, C, hwf, ham⟩ := id hI
  refine lv_aload_n hx hb dL_law_1249 rfl (lv_at hl 2 rfl) ?_
  refine lv_aload_n hx hb dL_law_1250 rfl (lv_at hl 3 rfl) ?_
  refine lv_iload_n hx hb dL_law_1251 rfl (lv_at hl 0 rfl) ?_
  refine lv_iconst (v := 1) hx hb dL_law_1252 (by decide) ?_
  refine lv_iadd hx hb dL_law_1253 ?_
  refine j_sld (j := i + 1) hC hX hbl hbA hW.2.2.2.1 (nI_add i 1) (by omega) (by omega) dL_law_1254 ?_
  refine j_i (wf := wX cs ad) (st := t) (wr := wM cs am v) (run_V (rest := []) hC (hx_r (wf := wX cs ad) (st := t) (wr := wM cs am v) hW) (m_X5_cheer l D cs ad t P R C (xs (i + 1)) hwf.1) k_yX5_cheer ⟨rfl, rfl⟩ q_ml_RL_121 eX_0 rfl rfl hl.1 rfl (Nat.le_of_ble_eq_true rfl) ⟨(Nat.le_of_ble_eq_true rfl), (Nat.le_of_ble_eq_true rfl)⟩ dL_law_1255 ⟨(Nat.le_of_ble_eq_true rfl), (Nat.le_of_ble_eq_true rfl)⟩) hW (fun r1 u H locs hp hW => ?_)
  have hW := hx_swap (wr := wM cs am v) (wc := wX cs ad u) hW
  refine lv_aload_n hx hb dL_law_1258 rfl (lv_at hl 1 rfl) ?_
  refine lv_aload_n hx hb dL_law_1259 rfl (lv_at hl 3 rfl) ?_
  refine lv_iload_n hx hb dL_law_1260 rfl (lv_at hl 0 rfl) ?_
  refine lv_iconst (v := 1) hx hb dL_law_1261 (by decide) ?_
  refine lv_iadd hx hb dL_law_1262 ?_
  refine j_sld (j := i + 1) hC hX hbl hbA hW.2.2.2.1 (nI_add i 1) (by omega) (by omega) dL_law_1263 ?_
  refine j_i (wf := wM cs am) (st := v) (wr := wX cs ad u) (run_V (rest := [.int r1]) hC (hx_r (wf := wM cs am) (st := v) (wr := wX cs ad u) hW) (m_X6_cheer l D cs am v t P R C (xs (i + 1)) hwf ham) k_yX6_cheer ⟨rfl, rfl⟩ q_ml_RL_124 eM_0 rfl rfl hl.1 rfl (Nat.le_of_ble_eq_true rfl) ⟨(Nat.le_of_ble_eq_true rfl), (Nat.le_of_ble_eq_true rfl)⟩ dL_law_1264 ⟨(Nat.le_of_ble_eq_true rfl), (Nat.le_of_ble_eq_true rfl)⟩) hW (fun r2 v2 H locs hp2 hW => ?_)
  have hW := hx_swap (wr := wX cs ad u) (wc := wM cs am v2) hW
  have heq : r1 = r2 := hp.1.trans hp2.1.symm
  have hin : INV u v2 := inv_next (e_cheer hwf (xs (i + 1))) hp.2 hp2.2
  refine lv_icmp_eq (tgt := 1354) hx hb dL_law_1267 (by decide) (fun _ => ?_) (fun h9 => absurd heq h9)
  exact kl u v2 _ _ hW hin
set_option maxRecDepth 100000 in
set_option maxHeartbeats 4000000 in
theorem law_26 {p : Program} {e : Env} {s : State} {m : MethodId} {below : List Frame} {meth : Method} {c : Code} (l : Launch) {b L i : Nat} {xs : Nat → Int32} {D : va_G} {cs : CS3} {ad am : Nat → Nat} {Q : State → Prop} {ls : Array Slot} (hC : CallFix p m c cL_law 4 s #[Value.ref b] lw_tg RL) (hX : va_X b L xs s s.heap) (hbl : b < s.heap.size) (hL : L ≤ 3584) (hi : i + 7 ≤ L) (hl : lv_has ls 4 [(3, .int (nI i)), (2, .ref (am 0)), (1, .ref (ad 0)), (0, .ref b)]) (kl : KL p l e s m b below meth c D cs ad am Q ls) {t v : St} {H : Heap} {locs : List Loc} (hW : HX wI (tyX cs) D (fun q : Nat => s.heap.size ≤ q) s.heap s (wM cs am v ++ wX cs ad t) H locs) (hI : INV t v) : W p l e room_1 s m #[Value.ref b] below meth c H locs 84 2041 Q (F0 m 1272 ls []) := by
  obtain ⟨hx, hb, hml, hown, hts⟩ := id hC
  have hbA : ¬ (fun q : Nat => s.heap.size ≤ q) b := Nat.not_le.mpr hbl
  obtain ⟨P, R, C, hwf, ham⟩ := id hI
  refine lv_aload_n hx hb dL_law_1272 rfl (lv_at hl 2 rfl) ?_
  refine lv_aload_n hx hb dL_law_1273 rfl (lv_at hl 3 rfl) ?_
  refine lv_iload_n hx hb dL_law_1274 rfl (lv_at hl 0 rfl) ?_
  refine lv_iconst (v := 1) hx hb dL_law_1275 (by decide) ?_
  refine lv_iadd hx hb dL_law_1276 ?_
  refine j_sld (j := i + 1) hC hX hbl hbA hW.2.2.2.1 (nI_add i 1) (by omega) (by omega) dL_law_1277 ?_
  refine lv_aload_n hx hb dL_law_1278 rfl (lv_at hl 3 rfl) ?_
  refine lv_iload_n hx hb dL_law_1279 rfl (lv_at hl 0 rfl) ?_
  refine lv_iconst (v := 2) hx hb dL_law_1280 (by decide) ?_
  refine lv_iadd hx hb dL_law_1281 ?_
  refine j_sld (j := i + 2) hC hX hbl hbA hW.2.2.2.1 (nI_add i 2) (by omega) (by omega) dL_law_1282 ?_
  refine j_i (wf := wX cs ad) (st := t) (wr := wM cs am v) (run_V (rest := []) hC (hx_r (wf := wX cs ad) (st := t) (wr := wM cs am v) hW) (m_X5_as l D cs ad t P R C (xs (i + 1)) (xs (i + 2)) hwf.1) k_yX5_as ⟨rfl, rfl⟩ q_ml_RL_125 eX_0 rfl rfl hl.1 rfl (Nat.le_of_ble_eq_true rfl) ⟨(Nat.le_of_ble_eq_true rfl), (Nat.le_of_ble_eq_true rfl)⟩ dL_law_1283 ⟨(Nat.le_of_ble_eq_true rfl), (Nat.le_of_ble_eq_true rfl)⟩) hW (fun r1 u H locs hp hW => ?_)
  have hW := hx_swap (wr := wM cs am v) (wc := wX cs ad u) hW
  refine lv_aload_n hx hb dL_law_1286 rfl (lv_at hl 1 rfl) ?_
  refine lv_aload_n hx hb dL_law_1287 rfl (lv_at hl 3 rfl) ?_
  refine lv_iload_n hx hb dL_law_1288 rfl (lv_at hl 0 rfl) ?_
  refine lv_iconst (v := 1) hx hb dL_law_1289 (by decide) ?_
  refine lv_iadd hx hb dL_law_1290 ?_
  refine j_sld (j := i + 1) hC hX hbl hbA hW.2.2.2.1 (nI_add i 1) (by omega) (by omega) dL_law_1291 ?_
  refine lv_aload_n hx hb dL_law_1292 rfl (lv_at hl 3 rfl) ?_
  refine lv_iload_n hx hb dL_law_1293 rfl (lv_at hl 0 rfl) ?_
  refine lv_iconst (v := 2) hx hb dL_law_1294 (by decide) ?_
  refine lv_iadd hx hb dL_law_1295 ?_
  refine j_sld (j := i + 2) hC hX hbl hbA hW.2.2.2.1 (nI_add i 2) (by omega) (by omega) dL_law_1296 ?_
  refine j_i (wf := wM cs am) (st := v) (wr := wX cs ad u) (run_V (rest := [.int r1]) hC (hx_r (wf := wM cs am) (st := v) (wr := wX cs ad u) hW) (m_X6_as l D cs am v t P R C (xs (i + 1)) (xs (i + 2)) hwf ham) k_yX6_as ⟨rfl, rfl⟩ q_ml_RL_128 eM_0 rfl rfl hl.1 rfl (Nat.le_of_ble_eq_true rfl) ⟨(Nat.le_of_ble_eq_true rfl), (Nat.le_of_ble_eq_true rfl)⟩ dL_law_1297 ⟨(Nat.le_of_ble_eq_true rfl), (Nat.le_of_ble_eq_true rfl)⟩) hW (fun r2 v2 H locs hp2 hW => ?_)
  have hW := hx_swap (wr := wX cs ad u) (wc := wM cs am v2) hW
  have heq : r1 = r2 := hp.1.trans hp2.1.symm
  have hin : INV u v2 := inv_next (e_as hwf (xs (i + 1)) (xs (i + 2))) hp.2 hp2.2
  refine lv_icmp_eq (tgt := 1354) hx hb dL_law_1300 (by decide) (fun _ => ?_) (fun h9 => absurd heq h9)
  exact kl u v2 _ _ hW hin
set_option maxRecDepth 100000 in
set_option maxHeartbeats 4000000 in
theorem law_27 {p : Program} {e : Env} {s : State} {m : MethodId} {below : List Frame} {meth : Method} {c : Code} (l : Launch) {b L i : Nat} {xs : Nat → Int32} {D : va_G} {cs : CS3} {ad am : Nat → Nat} {Q : State → Prop} {ls : Array Slot} (hC : CallFix p m c cL_law 4 s #[Value.ref b] lw_tg RL) (hX : va_X b L xs s s.heap) (hbl : b < s.heap.size) (hL : L ≤ 3584) (hi : i + 7 ≤ L) (hl : lv_has ls 4 [(3, .int (nI i)), (2, .ref (am 0)), (1, .ref (ad 0)), (0, .ref b)]) (kl : KL p l e s m b below meth c D cs ad am Q ls) {t v : St} {H : Heap} {locs : List Loc} (hW : HX wI (tyX cs) D (fun q : Nat => s.heap.size ≤ q) s.heap s (wM cs am v ++ wX cs ad t) H locs) (hI : INV t v) : W p l e room_1 s m #[Value.ref b] below meth c H locs 84 2041 Q (F0 m 1305 ls []) := by
  obtain ⟨hx, hb, hml, hown, hts⟩ := id hC
  have hbA : ¬ (fun q : Nat => s.heap.size ≤ q) b := Nat.not_le.mpr hbl
  obtain ⟨P, R, C, hwf, ham⟩ := id hI
  refine lv_aload_n hx hb dL_law_1305 rfl (lv_at hl 2 rfl) ?_
  refine j_i (wf := wX cs ad) (st := t) (wr := wM cs am v) (run_V (rest := []) hC (hx_r (wf := wX cs ad) (st := t) (wr := wM cs am v) hW) (m_X5_trace l D cs ad t) k_yX5_trace ⟨rfl, rfl⟩ q_ml_RL_129 eX_0 rfl rfl hl.1 rfl (Nat.le_of_ble_eq_true rfl) ⟨(Nat.le_of_ble_eq_true rfl), (Nat.le_of_ble_eq_true rfl)⟩ dL_law_1306 ⟨(Nat.le_of_ble_eq_true rfl), (Nat.le_of_ble_eq_true rfl)⟩) hW (fun r1 u H locs hp hW => ?_)
  have hW := hx_swap (wr := wM cs am v) (wc := wX cs ad u) hW
  refine lv_aload_n hx hb dL_law_1309 rfl (lv_at hl 1 rfl) ?_
  refine j_i (wf := wM cs am) (st := v) (wr := wX cs ad u) (run_V (rest := [.int r1]) hC (hx_r (wf := wM cs am) (st := v) (wr := wX cs ad u) hW) (m_X6_trace l D cs am v) k_yX6_trace ⟨rfl, rfl⟩ q_ml_RL_133 eM_0 rfl rfl hl.1 rfl (Nat.le_of_ble_eq_true rfl) ⟨(Nat.le_of_ble_eq_true rfl), (Nat.le_of_ble_eq_true rfl)⟩ dL_law_1310 ⟨(Nat.le_of_ble_eq_true rfl), (Nat.le_of_ble_eq_true rfl)⟩) hW (fun r2 v2 H locs hp2 hW => ?_)
  have hW := hx_swap (wr := wX cs ad u) (wc := wM cs am v2) hW
  have heq : r1 = r2 := hp.1.trans (ham.1.2.1.symm.trans hp2.1.symm)
  have hin : INV u v2 := by rw [hp.2, hp2.2]; exact hI
  refine lv_icmp_eq (tgt := 1354) hx hb dL_law_1313 (by decide) (fun _ => ?_) (fun h9 => absurd heq h9)
  exact kl u v2 _ _ hW hin
set_option maxRecDepth 100000 in
set_option maxHeartbeats 4000000 in
theorem law_28 {p : Program} {e : Env} {s : State} {m : MethodId} {below : List Frame} {meth : Method} {c : Code} (l : Launch) {b L i : Nat} {xs : Nat → Int32} {D : va_G} {cs : CS3} {ad am : Nat → Nat} {Q : State → Prop} {ls : Array Slot} (hC : CallFix p m c cL_law 4 s #[Value.ref b] lw_tg RL) (hX : va_X b L xs s s.heap) (hbl : b < s.heap.size) (hL : L ≤ 3584) (hi : i + 7 ≤ L) (hl : lv_has ls 4 [(3, .int (nI i)), (2, .ref (am 0)), (1, .ref (ad 0)), (0, .ref b)]) (kl : KL p l e s m b below meth c D cs ad am Q ls) {t v : St} {H : Heap} {locs : List Loc} (hW : HX wI (tyX cs) D (fun q : Nat => s.heap.size ≤ q) s.heap s (wM cs am v ++ wX cs ad t) H locs) (hI : INV t v) : W p l e room_1 s m #[Value.ref b] below meth c H locs 84 2041 Q (F0 m 1318 ls []) := by
  obtain ⟨hx, hb, hml, hown, hts⟩ := id hC
  have hbA : ¬ (fun q : Nat => s.heap.size ≤ q) b := Nat.not_le.mpr hbl
  obtain ⟨P, R, C, hwf, ham⟩ := id hI
  refine lv_aload_n hx hb dL_law_1318 rfl (lv_at hl 2 rfl) ?_
  refine j_i (wf := wX cs ad) (st := t) (wr := wM cs am v) (run_V (rest := []) hC (hx_r (wf := wX cs ad) (st := t) (wr := wM cs am v) hW) (m_X5_fault l D cs ad t) k_yX5_fault ⟨rfl, rfl⟩ q_ml_RL_134 eX_0 rfl rfl hl.1 rfl (Nat.le_of_ble_eq_true rfl) ⟨(Nat.le_of_ble_eq_true rfl), (Nat.le_of_ble_eq_true rfl)⟩ dL_law_1319 ⟨(Nat.le_of_ble_eq_true rfl), (Nat.le_of_ble_eq_true rfl)⟩) hW (fun r1 u H locs hp hW => ?_)
  have hW := hx_swap (wr := wM cs am v) (wc := wX cs ad u) hW
  refine lv_aload_n hx hb dL_law_1322 rfl (lv_at hl 1 rfl) ?_
  refine j_i (wf := wM cs am) (st := v) (wr := wX cs ad u) (run_V (rest := [.int r1]) hC (hx_r (wf := wM cs am) (st := v) (wr := wX cs ad u) hW) (m_X6_fault l D cs am v) k_yX6_fault ⟨rfl, rfl⟩ q_ml_RL_137 eM_0 rfl rfl hl.1 rfl (Nat.le_of_ble_eq_true rfl) ⟨(Nat.le_of_ble_eq_true rfl), (Nat.le_of_ble_eq_true rfl)⟩ dL_law_1323 ⟨(Nat.le_of_ble_eq_true rfl), (Nat.le_of_ble_eq_true rfl)⟩) hW (fun r2 v2 H locs hp2 hW => ?_)
  have hW := hx_swap (wr := wX cs ad u) (wc := wM cs am v2) hW
  have heq : r1 = r2 := hp.1.trans (ham.1.1.symm.trans hp2.1.symm)
  have hin : INV u v2 := by rw [hp.2, hp2.2]; exact hI
  refine lv_icmp_eq (tgt := 1354) hx hb dL_law_1326 (by decide) (fun _ => ?_) (fun h9 => absurd heq h9)
  exact kl u v2 _ _ hW hin
set_option maxRecDepth 100000 in
set_option maxHeartbeats 4000000 in
theorem law_29 {p : Program} {e : Env} {s : State} {m : MethodId} {below : List Frame} {meth : Method} {c : Code} (l : Launch) {b L i : Nat} {xs : Nat → Int32} {D : va_G} {cs : CS3} {ad am : Nat → Nat} {Q : State → Prop} {ls : Array Slot} (hC : CallFix p m c cL_law 4 s #[Value.ref b] lw_tg RL) (hX : va_X b L xs s s.heap) (hbl : b < s.heap.size) (hL : L ≤ 3584) (hi : i + 7 ≤ L) (hl : lv_has ls 4 [(3, .int (nI i)), (2, .ref (am 0)), (1, .ref (ad 0)), (0, .ref b)]) (kl : KL p l e s m b below meth c D cs ad am Q ls) {t v : St} {H : Heap} {locs : List Loc} (hW : HX wI (tyX cs) D (fun q : Nat => s.heap.size ≤ q) s.heap s (wM cs am v ++ wX cs ad t) H locs) (hI : INV t v) : W p l e room_1 s m #[Value.ref b] below meth c H locs 84 2041 Q (F0 m 1331 ls []) := by
  obtain ⟨hx, hb, hml, hown, hts⟩ := id hC
  have hbA : ¬ (fun q : Nat => s.heap.size ≤ q) b := Nat.not_le.mpr hbl
  obtain ⟨P, R, C, hwf, ham⟩ := id hI
  refine lv_aload_n hx hb dL_law_1331 rfl (lv_at hl 2 rfl) ?_
  refine lv_aload_n hx hb dL_law_1332 rfl (lv_at hl 3 rfl) ?_
  refine lv_iload_n hx hb dL_law_1333 rfl (lv_at hl 0 rfl) ?_
  refine lv_iconst (v := 1) hx hb dL_law_1334 (by decide) ?_
  refine lv_iadd hx hb dL_law_1335 ?_
  refine j_sld (j := i + 1) hC hX hbl hbA hW.2.2.2.1 (nI_add i 1) (by omega) (by omega) dL_law_1336 ?_
  refine j_i (wf := wX cs ad) (st := t) (wr := wM cs am v) (run_V (rest := []) hC (hx_r (wf := wX cs ad) (st := t) (wr := wM cs am v) hW) (m_X5_many l D cs ad t P R C (xs (i + 1)) hwf.1) k_yX5_many ⟨rfl, rfl⟩ q_ml_RL_138 eX_0 rfl rfl hl.1 rfl (Nat.le_of_ble_eq_true rfl) ⟨(Nat.le_of_ble_eq_true rfl), (Nat.le_of_ble_eq_true rfl)⟩ dL_law_1337 ⟨(Nat.le_of_ble_eq_true rfl), (Nat.le_of_ble_eq_true rfl)⟩) hW (fun r1 u H locs hp hW => ?_)
  have hW := hx_swap (wr := wM cs am v) (wc := wX cs ad u) hW
  refine lv_aload_n hx hb dL_law_1340 rfl (lv_at hl 1 rfl) ?_
  refine lv_aload_n hx hb dL_law_1341 rfl (lv_at hl 3 rfl) ?_
  refine lv_iload_n hx hb dL_law_1342 rfl (lv_at hl 0 rfl) ?_
  refine lv_iconst (v := 1) hx hb dL_law_1343 (by decide) ?_
  refine lv_iadd hx hb dL_law_1344 ?_
  refine j_sld (j := i + 1) hC hX hbl hbA hW.2.2.2.1 (nI_add i 1) (by omega) (by omega) dL_law_1345 ?_
  refine j_i (wf := wM cs am) (st := v) (wr := wX cs ad u) (run_V (rest := [.int r1]) hC (hx_r (wf := wM cs am) (st := v) (wr := wX cs ad u) hW) (m_X6_many l D cs am v t P R C (xs (i + 1)) hwf ham) k_yX6_many ⟨rfl, rfl⟩ q_ml_RL_141 eM_0 rfl rfl hl.1 rfl (Nat.le_of_ble_eq_true rfl) ⟨(Nat.le_of_ble_eq_true rfl), (Nat.le_of_ble_eq_true rfl)⟩ dL_law_1346 ⟨(Nat.le_of_ble_eq_true rfl), (Nat.le_of_ble_eq_true rfl)⟩) hW (fun r2 v2 H locs hp2 hW => ?_)
  have hW := hx_swap (wr := wX cs ad u) (wc := wM cs am v2) hW
  have heq : r1 = r2 := hp.1.trans hp2.1.symm
  have hin : INV u v2 := inv_next (e_as0 hwf 0 (xs (i + 1))) hp.2 hp2.2
  refine lv_icmp_eq (tgt := 1354) hx hb dL_law_1349 (by decide) (fun _ => ?_) (fun h9 => absurd heq h9)
  exact kl u v2 _ _ hW hin
