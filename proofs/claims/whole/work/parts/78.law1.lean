set_option maxRecDepth 100000 in
set_option maxHeartbeats 4000000 in
theorem law_0 {p : Program} {e : Env} {s : State} {m : MethodId} {below : List Frame} {meth : Method} {c : Code} (l : Launch) {b L i : Nat} {xs : Nat → Int32} {D : va_G} {cs : CS3} {ad am : Nat → Nat} {Q : State → Prop} {ls : Array Slot} (hC : CallFix p m c cL_law 4 s #[Value.ref b] lw_tg RL) (hX : va_X b L xs s s.heap) (hbl : b < s.heap.size) (hL : L ≤ 3584) (hi : i + 7 ≤ L) (hl : lv_has ls 4 [(3, .int (nI i)), (2, .ref (am 0)), (1, .ref (ad 0)), (0, .ref b)]) (kl : KL p l e s m b below meth c D cs ad am Q ls) {t v : St} {H : Heap} {locs : List Loc} (hW : HX wI (tyX cs) D (fun q : Nat => s.heap.size ≤ q) s.heap s (wM cs am v ++ wX cs ad t) H locs) (hI : INV t v) : W p l e room_1 s m #[Value.ref b] below meth c H locs 84 2041 Q (F0 m 168 ls []) := by
  obtain ⟨hx, hb, hml, hown, hts⟩ := id hC
  have hbA : ¬ (fun q : Nat => s.heap.size ≤ q) b := Nat.not_le.mpr hbl
  obtain ⟨P, R, C, hwf, ham⟩ := id hI
  refine lv_aload_n hx hb dL_law_168 rfl (lv_at hl 2 rfl) ?_
  refine lv_aload_n hx hb dL_law_169 rfl (lv_at hl 3 rfl) ?_
  refine lv_iload_n hx hb dL_law_170 rfl (lv_at hl 0 rfl) ?_
  refine lv_iconst (v := 1) hx hb dL_law_171 (by decide) ?_
  refine lv_iadd hx hb dL_law_172 ?_
  refine j_sld (j := i + 1) hC hX hbl hbA hW.2.2.2.1 (nI_add i 1) (by omega) (by omega) dL_law_173 ?_
  refine lv_aload_n hx hb dL_law_174 rfl (lv_at hl 3 rfl) ?_
  refine lv_iload_n hx hb dL_law_175 rfl (lv_at hl 0 rfl) ?_
  refine lv_iconst (v := 2) hx hb dL_law_176 (by decide) ?_
  refine lv_iadd hx hb dL_law_177 ?_
  refine j_sld (j := i + 2) hC hX hbl hbA hW.2.2.2.1 (nI_add i 2) (by omega) (by omega) dL_law_178 ?_
  refine lv_aload_n hx hb dL_law_179 rfl (lv_at hl 3 rfl) ?_
  refine lv_iload_n hx hb dL_law_180 rfl (lv_at hl 0 rfl) ?_
  refine lv_iconst (v := 3) hx hb dL_law_181 (by decide) ?_
  refine lv_iadd hx hb dL_law_182 ?_
  refine j_sld (j := i + 3) hC hX hbl hbA hW.2.2.2.1 (nI_add i 3) (by omega) (by omega) dL_law_183 ?_
  refine lv_aload_n hx hb dL_law_184 rfl (lv_at hl 3 rfl) ?_
  refine lv_iload_n hx hb dL_law_185 rfl (lv_at hl 0 rfl) ?_
  refine lv_iconst (v := 4) hx hb dL_law_186 (by decide) ?_
  refine lv_iadd hx hb dL_law_187 ?_
  refine j_sld (j := i + 4) hC hX hbl hbA hW.2.2.2.1 (nI_add i 4) (by omega) (by omega) dL_law_188 ?_
  refine j_i (wf := wX cs ad) (st := t) (wr := wM cs am v) (run_V (rest := []) hC (hx_r (wf := wX cs ad) (st := t) (wr := wM cs am v) hW) (m_X5_hill l D cs ad t P R C (xs (i + 1)) (xs (i + 2)) (xs (i + 3)) (xs (i + 4)) hwf.1) k_yX5_hill ⟨rfl, rfl⟩ q_ml_RL_13 eX_0 rfl rfl hl.1 rfl (Nat.le_of_ble_eq_true rfl) ⟨(Nat.le_of_ble_eq_true rfl), (Nat.le_of_ble_eq_true rfl)⟩ dL_law_189 ⟨(Nat.le_of_ble_eq_true rfl), (Nat.le_of_ble_eq_true rfl)⟩) hW (fun r1 u H locs hp hW => ?_)
  have hW := hx_swap (wr := wM cs am v) (wc := wX cs ad u) hW
  refine lv_aload_n hx hb dL_law_192 rfl (lv_at hl 1 rfl) ?_
  refine lv_aload_n hx hb dL_law_193 rfl (lv_at hl 3 rfl) ?_
  refine lv_iload_n hx hb dL_law_194 rfl (lv_at hl 0 rfl) ?_
  refine lv_iconst (v := 1) hx hb dL_law_195 (by decide) ?_
  refine lv_iadd hx hb dL_law_196 ?_
  refine j_sld (j := i + 1) hC hX hbl hbA hW.2.2.2.1 (nI_add i 1) (by omega) (by omega) dL_law_197 ?_
  refine lv_aload_n hx hb dL_law_198 rfl (lv_at hl 3 rfl) ?_
  refine lv_iload_n hx hb dL_law_199 rfl (lv_at hl 0 rfl) ?_
  refine lv_iconst (v := 2) hx hb dL_law_200 (by decide) ?_
  refine lv_iadd hx hb dL_law_201 ?_
  refine j_sld (j := i + 2) hC hX hbl hbA hW.2.2.2.1 (nI_add i 2) (by omega) (by omega) dL_law_202 ?_
  refine lv_aload_n hx hb dL_law_203 rfl (lv_at hl 3 rfl) ?_
  refine lv_iload_n hx hb dL_law_204 rfl (lv_at hl 0 rfl) ?_
  refine lv_iconst (v := 3) hx hb dL_law_205 (by decide) ?_
  refine lv_iadd hx hb dL_law_206 ?_
  refine j_sld (j := i + 3) hC hX hbl hbA hW.2.2.2.1 (nI_add i 3) (by omega) (by omega) dL_law_207 ?_
  refine lv_aload_n hx hb dL_law_208 rfl (lv_at hl 3 rfl) ?_
  refine lv_iload_n hx hb dL_law_209 rfl (lv_at hl 0 rfl) ?_
  refine lv_iconst (v := 4) hx hb dL_law_210 (by decide) ?_
  refine lv_iadd hx hb dL_law_211 ?_
  refine j_sld (j := i + 4) hC hX hbl hbA hW.2.2.2.1 (nI_add i 4) (by omega) (by omega) dL_law_212 ?_
  refine j_i (wf := wM cs am) (st := v) (wr := wX cs ad u) (run_V (rest := [.int r1]) hC (hx_r (wf := wM cs am) (st := v) (wr := wX cs ad u) hW) (m_X6_hill l D cs am v t P R C (xs (i + 1)) (xs (i + 2)) (xs (i + 3)) (xs (i + 4)) hwf ham) k_yX6_hill ⟨rfl, rfl⟩ q_ml_RL_17 eM_0 rfl rfl hl.1 rfl (Nat.le_of_ble_eq_true rfl) ⟨(Nat.le_of_ble_eq_true rfl), (Nat.le_of_ble_eq_true rfl)⟩ dL_law_213 ⟨(Nat.le_of_ble_eq_true rfl), (Nat.le_of_ble_eq_true rfl)⟩) hW (fun r2 v2 H locs hp2 hW => ?_)
  have hW := hx_swap (wr := wX cs ad u) (wc := wM cs am v2) hW
  have heq : r1 = r2 := hp.1.trans hp2.1.symm
  have hin : INV u v2 := inv_next (e_hill hwf (xs (i + 1)) (xs (i + 2)) (xs (i + 3)) (xs (i + 4))) hp.2 hp2.2
  refine lv_icmp_eq (tgt := 1354) hx hb dL_law_216 (by decide) (fun _ => ?_) (fun h9 => absurd heq h9)
  exact kl u v2 _ _ hW hin
set_option maxRecDepth 100000 in
set_option maxHeartbeats 4000000 in
theorem law_1 {p : Program} {e : Env} {s : State} {m : MethodId} {below : List Frame} {meth : Method} {c : Code} (l : Launch) {b L i : Nat} {xs : Nat → Int32} {D : va_G} {cs : CS3} {ad am : Nat → Nat} {Q : State → Prop} {ls : Array Slot} (hC : CallFix p m c cL_law 4 s #[Value.ref b] lw_tg RL) (hX : va_X b L xs s s.heap) (hbl : b < s.heap.size) (hL : L ≤ 3584) (hi : i + 7 ≤ L) (hl : lv_has ls 4 [(3, .int (nI i)), (2, .ref (am 0)), (1, .ref (ad 0)), (0, .ref b)]) (kl : KL p l e s m b below meth c D cs ad am Q ls) {t v : St} {H : Heap} {locs : List Loc} (hW : HX wI (tyX cs) D (fun q : Nat => s.heap.size ≤ q) s.heap s (wM cs am v ++ wX cs ad t) H locs) (hI : INV t v) : W p l e room_1 s m #[Value.ref b] below meth c H locs 84 2041 Q (F0 m 221 ls []) := by
  obtain ⟨hx, hb, hml, hown, hts⟩ := id hC
  have hbA : ¬ (fun q : Nat => s.heap.size ≤ q) b := Nat.not_le.mpr hbl
  obtain ⟨P, R, C, hwf, ham⟩ := id hI
  refine lv_aload_n hx hb dL_law_221 rfl (lv_at hl 2 rfl) ?_
  refine lv_aload_n hx hb dL_law_222 rfl (lv_at hl 3 rfl) ?_
  refine lv_iload_n hx hb dL_law_223 rfl (lv_at hl 0 rfl) ?_
  refine lv_iconst (v := 1) hx hb dL_law_224 (by decide) ?_
  refine lv_iadd hx hb dL_law_225 ?_
  refine j_sld (j := i + 1) hC hX hbl hbA hW.2.2.2.1 (nI_add i 1) (by omega) (by omega) dL_law_226 ?_
  refine lv_aload_n hx hb dL_law_227 rfl (lv_at hl 3 rfl) ?_
  refine lv_iload_n hx hb dL_law_228 rfl (lv_at hl 0 rfl) ?_
  refine lv_iconst (v := 2) hx hb dL_law_229 (by decide) ?_
  refine lv_iadd hx hb dL_law_230 ?_
  refine j_sld (j := i + 2) hC hX hbl hbA hW.2.2.2.1 (nI_add i 2) (by omega) (by omega) dL_law_231 ?_
  refine j_i (wf := wX cs ad) (st := t) (wr := wM cs am v) (run_V (rest := []) hC (hx_r (wf := wX cs ad) (st := t) (wr := wM cs am v) hW) (m_X5_ofPace l D cs ad t P R C (xs (i + 1)) (xs (i + 2)) hwf.1) k_yX5_ofPace ⟨rfl, rfl⟩ q_ml_RL_18 eX_0 rfl rfl hl.1 rfl (Nat.le_of_ble_eq_true rfl) ⟨(Nat.le_of_ble_eq_true rfl), (Nat.le_of_ble_eq_true rfl)⟩ dL_law_232 ⟨(Nat.le_of_ble_eq_true rfl), (Nat.le_of_ble_eq_true rfl)⟩) hW (fun r1 u H locs hp hW => ?_)
  have hW := hx_swap (wr := wM cs am v) (wc := wX cs ad u) hW
  refine lv_aload_n hx hb dL_law_235 rfl (lv_at hl 1 rfl) ?_
  refine lv_aload_n hx hb dL_law_236 rfl (lv_at hl 3 rfl) ?_
  refine lv_iload_n hx hb dL_law_237 rfl (lv_at hl 0 rfl) ?_
  refine lv_iconst (v := 1) hx hb dL_law_238 (by decide) ?_
  refine lv_iadd hx hb dL_law_239 ?_
  refine j_sld (j := i + 1) hC hX hbl hbA hW.2.2.2.1 (nI_add i 1) (by omega) (by omega) dL_law_240 ?_
  refine lv_aload_n hx hb dL_law_241 rfl (lv_at hl 3 rfl) ?_
  refine lv_iload_n hx hb dL_law_242 rfl (lv_at hl 0 rfl) ?_
  refine lv_iconst (v := 2) hx hb dL_law_243 (by decide) ?_
  refine lv_iadd hx hb dL_law_244 ?_
  refine j_sld (j := i + 2) hC hX hbl hbA hW.2.2.2.1 (nI_add i 2) (by omega) (by omega) dL_law_245 ?_
  refine j_i (wf := wM cs am) (st := v) (wr := wX cs ad u) (run_V (rest := [.int r1]) hC (hx_r (wf := wM cs am) (st := v) (wr := wX cs ad u) hW) (m_X6_ofPace l D cs am v t P R C (xs (i + 1)) (xs (i + 2)) hwf ham) k_yX6_ofPace ⟨rfl, rfl⟩ q_ml_RL_22 eM_0 rfl rfl hl.1 rfl (Nat.le_of_ble_eq_true rfl) ⟨(Nat.le_of_ble_eq_true rfl), (Nat.le_of_ble_eq_true rfl)⟩ dL_law_246 ⟨(Nat.le_of_ble_eq_true rfl), (Nat.le_of_ble_eq_true rfl)⟩) hW (fun r2 v2 H locs hp2 hW => ?_)
  have hW := hx_swap (wr := wX cs ad u) (wc := wM cs am v2) hW
  have heq : r1 = r2 := hp.1.trans hp2.1.symm
  have hin : INV u v2 := inv_next (e_ofPace hwf (xs (i + 1)) (xs (i + 2))) hp.2 hp2.2
  refine lv_icmp_eq (tgt := 1354) hx hb dL_law_249 (by decide) (fun _ => ?_) (fun h9 => absurd heq h9)
  exact kl u v2 _ _ hW hin
set_option maxRecDepth 100000 in
set_option maxHeartbeats 4000000 in
theorem law_2 {p : Program} {e : Env} {s : State} {m : MethodId} {below : List Frame} {meth : Method} {c : Code} (l : Launch) {b L i : Nat} {xs : Nat → Int32} {D : va_G} {cs : CS3} {ad am : Nat → Nat} {Q : State → Prop} {ls : Array Slot} (hC : CallFix p m c cL_law 4 s #[Value.ref b] lw_tg RL) (hX : va_X b L xs s s.heap) (hbl : b < s.heap.size) (hL : L ≤ 3584) (hi : i + 7 ≤ L) (hl : lv_has ls 4 [(3, .int (nI i)), (2, .ref (am 0)), (1, .ref (ad 0)), (0, .ref b)]) (kl : KL p l e s m b below meth c D cs ad am Q ls) {t v : St} {H : Heap} {locs : List Loc} (hW : HX wI (tyX cs) D (fun q : Nat => s.heap.size ≤ q) s.heap s (wM cs am v ++ wX cs ad t) H locs) (hI : INV t v) : W p l e room_1 s m #[Value.ref b] below meth c H locs 84 2041 Q (F0 m 254 ls []) := by
  obtain ⟨hx, hb, hml, hown, hts⟩ := id hC
  have hbA : ¬ (fun q : Nat => s.heap.size ≤ q) b := Nat.not_le.mpr hbl
  obtain ⟨P, R, C, hwf, ham⟩ := id hI
  refine lv_aload_n hx hb dL_law_254 rfl (lv_at hl 2 rfl) ?_
  refine lv_aload_n hx hb dL_law_255 rfl (lv_at hl 3 rfl) ?_
  refine lv_iload_n hx hb dL_law_256 rfl (lv_at hl 0 rfl) ?_
  refine lv_iconst (v := 1) hx hb dL_law_257 (by decide) ?_
  refine lv_iadd hx hb dL_law_258 ?_
  refine j_sld (j := i + 1) hC hX hbl hbA hW.2.2.2.1 (nI_add i 1) (by omega) (by omega) dL_law_259 ?_
  refine lv_aload_n hx hb dL_law_260 rfl (lv_at hl 3 rfl) ?_
  refine lv_iload_n hx hb dL_law_261 rfl (lv_at hl 0 rfl) ?_
  refine lv_iconst (v := 2) hx hb dL_law_262 (by decide) ?_
  refine lv_iadd hx hb dL_law_263 ?_
  refine j_sld (j := i + 2) hC hX hbl hbA hW.2.2.2.1 (nI_add i 2) (by omega) (by omega) dL_law_264 ?_
  refine j_i (wf := wX cs ad) (st := t) (wr := wM cs am v) (run_V (rest := []) hC (hx_r (wf := wX cs ad) (st := t) (wr := wM cs am v) hW) (m_X5_ofRider l D cs ad t P R C (xs (i + 1)) (xs (i + 2)) hwf.1) k_yX5_ofRider ⟨rfl, rfl⟩ q_ml_RL_23 eX_0 rfl rfl hl.1 rfl (Nat.le_of_ble_eq_true rfl) ⟨(Nat.le_of_ble_eq_true rfl), (Nat.le_of_ble_eq_true rfl)⟩ dL_law_265 ⟨(Nat.le_of_ble_eq_true rfl), (Nat.le_of_ble_eq_true rfl)⟩) hW (fun r1 u H locs hp hW => ?_)
  have hW := hx_swap (wr := wM cs am v) (wc := wX cs ad u) hW
  refine lv_aload_n hx hb dL_law_268 rfl (lv_at hl 1 rfl) ?_
  refine lv_aload_n hx hb dL_law_269 rfl (lv_at hl 3 rfl) ?_
  refine lv_iload_n hx hb dL_law_270 rfl (lv_at hl 0 rfl) ?_
  refine lv_iconst (v := 1) hx hb dL_law_271 (by decide) ?_
  refine lv_iadd hx hb dL_law_272 ?_
  refine j_sld (j := i + 1) hC hX hbl hbA hW.2.2.2.1 (nI_add i 1) (by omega) (by omega) dL_law_273 ?_
  refine lv_aload_n hx hb dL_law_274 rfl (lv_at hl 3 rfl) ?_
  refine lv_iload_n hx hb dL_law_275 rfl (lv_at hl 0 rfl) ?_
  refine lv_iconst (v := 2) hx hb dL_law_276 (by decide) ?_
  refine lv_iadd hx hb dL_law_277 ?_
  refine j_sld (j := i + 2) hC hX hbl hbA hW.2.2.2.1 (nI_add i 2) (by omega) (by omega) dL_law_278 ?_
  refine j_i (wf := wM cs am) (st := v) (wr := wX cs ad u) (run_V (rest := [.int r1]) hC (hx_r (wf := wM cs am) (st := v) (wr := wX cs ad u) hW) (m_X6_ofRider l D cs am v t P R C (xs (i + 1)) (xs (i + 2)) hwf ham) k_yX6_ofRider ⟨rfl, rfl⟩ q_ml_RL_26 eM_0 rfl rfl hl.1 rfl (Nat.le_of_ble_eq_true rfl) ⟨(Nat.le_of_ble_eq_true rfl), (Nat.le_of_ble_eq_true rfl)⟩ dL_law_279 ⟨(Nat.le_of_ble_eq_true rfl), (Nat.le_of_ble_eq_true rfl)⟩) hW (fun r2 v2 H locs hp2 hW => ?_)
  have hW := hx_swap (wr := wX cs ad u) (wc := wM cs am v2) hW
  have heq : r1 = r2 := hp.1.trans hp2.1.symm
  have hin : INV u v2 := inv_next (e_ofRider hwf (xs (i + 1)) (xs (i + 2))) hp.2 hp2.2
  refine lv_icmp_eq (tgt := 1354) hx hb dL_law_282 (by decide) (fun _ => ?_) (fun h9 => absurd heq h9)
  exact kl u v2 _ _ hW hin
set_option maxRecDepth 100000 in
set_option maxHeartbeats 4000000 in
theorem law_3 {p : Program} {e : Env} {s : State} {m : MethodId} {below : List Frame} {meth : Method} {c : Code} (l : Launch) {b L i : Nat} {xs : Nat → Int32} {D : va_G} {cs : CS3} {ad am : Nat → Nat} {Q : State → Prop} {ls : Array Slot} (hC : CallFix p m c cL_law 4 s #[Value.ref b] lw_tg RL) (hX : va_X b L xs s s.heap) (hbl : b < s.heap.size) (hL : L ≤ 3584) (hi : i + 7 ≤ L) (hl : lv_has ls 4 [(3, .int (nI i)), (2, .ref (am 0)), (1, .ref (ad 0)), (0, .ref b)]) (kl : KL p l e s m b below meth c D cs ad am Q ls) {t v : St} {H : Heap} {locs : List Loc} (hW : HX wI (tyX cs) D (fun q : Nat => s.heap.size ≤ q) s.heap s (wM cs am v ++ wX cs ad t) H locs) (hI : INV t v) : W p l e room_1 s m #[Value.ref b] below meth c H locs 84 2041 Q (F0 m 287 ls []) := by
  obtain ⟨hx, hb, hml, hown, hts⟩ := id hC
  have hbA : ¬ (fun q : Nat => s.heap.size ≤ q) b := Nat.not_le.mpr hbl
  obtain ⟨P, R, C, hwf, ham⟩ := id hI
  refine lv_aload_n hx hb dL_law_287 rfl (lv_at hl 2 rfl) ?_
  refine lv_aload_n hx hb dL_law_288 rfl (lv_at hl 3 rfl) ?_
  refine lv_iload_n hx hb dL_law_289 rfl (lv_at hl 0 rfl) ?_
  refine lv_iconst (v := 1) hx hb dL_law_290 (by decide) ?_
  refine lv_iadd hx hb dL_law_291 ?_
  refine j_sld (j := i + 1) hC hX hbl hbA hW.2.2.2.1 (nI_add i 1) (by omega) (by omega) dL_law_292 ?_
  refine lv_aload_n hx hb dL_law_293 rfl (lv_at hl 3 rfl) ?_
  refine lv_iload_n hx hb dL_law_294 rfl (lv_at hl 0 rfl) ?_
  refine lv_iconst (v := 2) hx hb dL_law_295 (by decide) ?_
  refine lv_iadd hx hb dL_law_296 ?_
  refine j_sld (j := i + 2) hC hX hbl hbA hW.2.2.2.1 (nI_add i 2) (by omega) (by omega) dL_law_297 ?_
  refine j_i (wf := wX cs ad) (st := t) (wr := wM cs am v) (run_V (rest := []) hC (hx_r (wf := wX cs ad) (st := t) (wr := wM cs am v) hW) (m_X5_scratch l D cs ad t P R C (xs (i + 1)) (xs (i + 2)) hwf.1) k_yX5_scratch ⟨rfl, rfl⟩ q_ml_RL_27 eX_0 rfl rfl hl.1 rfl (Nat.le_of_ble_eq_true rfl) ⟨(Nat.le_of_ble_eq_true rfl), (Nat.le_of_ble_eq_true rfl)⟩ dL_law_298 ⟨(Nat.le_of_ble_eq_true rfl), (Nat.le_of_ble_eq_true rfl)⟩) hW (fun r1 u H locs hp hW => ?_)
  have hW := hx_swap (wr := wM cs am v) (wc := wX cs ad u) hW
  refine lv_aload_n hx hb dL_law_301 rfl (lv_at hl 1 rfl) ?_
  refine lv_aload_n hx hb dL_law_302 rfl (lv_at hl 3 rfl) ?_
  refine lv_iload_n hx hb dL_law_303 rfl (lv_at hl 0 rfl) ?_
  refine lv_iconst (v := 1) hx hb dL_law_304 (by decide) ?_
  refine lv_iadd hx hb dL_law_305 ?_
  refine j_sld (j := i + 1) hC hX hbl hbA hW.2.2.2.1 (nI_add i 1) (by omega) (by omega) dL_law_306 ?_
  refine lv_aload_n hx hb dL_law_307 rfl (lv_at hl 3 rfl) ?_
  refine lv_iload_n hx hb dL_law_308 rfl (lv_at hl 0 rfl) ?_
  refine lv_iconst (v := 2) hx hb dL_law_309 (by decide) ?_
  refine lv_iadd hx hb dL_law_310 ?_
  refine j_sld (j := i + 2) hC hX hbl hbA hW.2.2.2.1 (nI_add i 2) (by omega) (by omega) dL_law_311 ?_
  refine j_i (wf := wM cs am) (st := v) (wr := wX cs ad u) (run_V (rest := [.int r1]) hC (hx_r (wf := wM cs am) (st := v) (wr := wX cs ad u) hW) (m_X6_scratch l D cs am v t P R C (xs (i + 1)) (xs (i + 2)) hwf ham) k_yX6_scratch ⟨rfl, rfl⟩ q_ml_RL_30 eM_0 rfl rfl hl.1 rfl (Nat.le_of_ble_eq_true rfl) ⟨(Nat.le_of_ble_eq_true rfl), (Nat.le_of_ble_eq_true rfl)⟩ dL_law_312 ⟨(Nat.le_of_ble_eq_true rfl), (Nat.le_of_ble_eq_true rfl)⟩) hW (fun r2 v2 H locs hp2 hW => ?_)
  have hW := hx_swap (wr := wX cs ad u) (wc := wM cs am v2) hW
  have heq : r1 = r2 := hp.1.trans hp2.1.symm
  have hin : INV u v2 := inv_next (e_scratch hwf (xs (i + 1)) (xs (i + 2))) hp.2 hp2.2
  refine lv_icmp_eq (tgt := 1354) hx hb dL_law_315 (by decide) (fun _ => ?_) (fun h9 => absurd heq h9)
  exact kl u v2 _ _ hW hin
set_option maxRecDepth 100000 in
set_option maxHeartbeats 4000000 in
theorem law_4 {p : Program} {e : Env} {s : State} {m : MethodId} {below : List Frame} {meth : Method} {c : Code} (l : Launch) {b L i : Nat} {xs : Nat → Int32} {D : va_G} {cs : CS3} {ad am : Nat → Nat} {Q : State → Prop} {ls : Array Slot} (hC : CallFix p m c cL_law 4 s #[Value.ref b] lw_tg RL) (hX : va_X b L xs s s.heap) (hbl : b < s.heap.size) (hL : L ≤ 3584) (hi : i + 7 ≤ L) (hl : lv_has ls 4 [(3, .int (nI i)), (2, .ref (am 0)), (1, .ref (ad 0)), (0, .ref b)]) (kl : KL p l e s m b below meth c D cs ad am Q ls) {t v : St} {H : Heap} {locs : List Loc} (hW : HX wI (tyX cs) D (fun q : Nat => s.heap.size ≤ q) s.heap s (wM cs am v ++ wX cs ad t) H locs) (hI : INV t v) : W p l e room_1 s m #[Value.ref b] below meth c H locs 84 2041 Q (F0 m 320 ls []) := by
  obtain ⟨hx, hb, hml, hown, hts⟩ := id hC
  have hbA : ¬ (fun q : Nat => s.heap.size ≤ q) b := Nat.not_le.mpr hbl
  obtain ⟨P, R, C, hwf, ham⟩ := id hI
  refine lv_aload_n hx hb dL_law_320 rfl (lv_at hl 2 rfl) ?_
  refine lv_aload_n hx hb dL_law_321 rfl (lv_at hl 3 rfl) ?_
  refine lv_iload_n hx hb dL_law_322 rfl (lv_at hl 0 rfl) ?_
  refine lv_iconst (v := 1) hx hb dL_law_323 (by decide) ?_
  refine lv_iadd hx hb dL_law_324 ?_
  refine j_sld (j := i + 1) hC hX hbl hbA hW.2.2.2.1 (nI_add i 1) (by omega) (by omega) dL_law_325 ?_
  refine lv_aload_n hx hb dL_law_326 rfl (lv_at hl 3 rfl) ?_
  refine lv_iload_n hx hb dL_law_327 rfl (lv_at hl 0 rfl) ?_
  refine lv_iconst (v := 2) hx hb dL_law_328 (by decide) ?_
  refine lv_iadd hx hb dL_law_329 ?_
  refine j_sld (j := i + 2) hC hX hbl hbA hW.2.2.2.1 (nI_add i 2) (by omega) (by omega) dL_law_330 ?_
  refine j_i (wf := wX cs ad) (st := t) (wr := wM cs am v) (run_V (rest := []) hC (hx_r (wf := wX cs ad) (st := t) (wr := wM cs am v) hW) (m_X5_speed l D cs ad t P R C (xs (i + 1)) (xs (i + 2)) hwf.1) k_yX5_speed ⟨rfl, rfl⟩ q_ml_RL_31 eX_0 rfl rfl hl.1 rfl (Nat.le_of_ble_eq_true rfl) ⟨(Nat.le_of_ble_eq_true rfl), (Nat.le_of_ble_eq_true rfl)⟩ dL_law_331 ⟨(Nat.le_of_ble_eq_true rfl), (Nat.le_of_ble_eq_true rfl)⟩) hW (fun r1 u H locs hp hW => ?_)
  have hW := hx_swap (wr := wM cs am v) (wc := wX cs ad u) hW
  refine lv_aload_n hx hb dL_law_334 rfl (lv_at hl 1 rfl) ?_
  refine lv_aload_n hx hb dL_law_335 rfl (lv_at hl 3 rfl) ?_
  refine lv_iload_n hx hb dL_law_336 rfl (lv_at hl 0 rfl) ?_
  refine lv_iconst (v := 1) hx hb dL_law_337 (by decide) ?_
  refine lv_iadd hx hb dL_law_338 ?_
  refine j_sld (j := i + 1) hC hX hbl hbA hW.2.2.2.1 (nI_add i 1) (by omega) (by omega) dL_law_339 ?_
  refine lv_aload_n hx hb dL_law_340 rfl (lv_at hl 3 rfl) ?_
  refine lv_iload_n hx hb dL_law_341 rfl (lv_at hl 0 rfl) ?_
  refine lv_iconst (v := 2) hx hb dL_law_342 (by decide) ?_
  refine lv_iadd hx hb dL_law_343 ?_
  refine j_sld (j := i + 2) hC hX hbl hbA hW.2.2.2.1 (nI_add i 2) (by omega) (by omega) dL_law_344 ?_
  refine j_i (wf := wM cs am) (st := v) (wr := wX cs ad u) (run_V (rest := [.int r1]) hC (hx_r (wf := wM cs am) (st := v) (wr := wX cs ad u) hW) (m_X6_speed l D cs am v t P R C (xs (i + 1)) (xs (i + 2)) hwf ham) k_yX6_speed ⟨rfl, rfl⟩ q_ml_RL_34 eM_0 rfl rfl hl.1 rfl (Nat.le_of_ble_eq_true rfl) ⟨(Nat.le_of_ble_eq_true rfl), (Nat.le_of_ble_eq_true rfl)⟩ dL_law_345 ⟨(Nat.le_of_ble_eq_true rfl), (Nat.le_of_ble_eq_true rfl)⟩) hW (fun r2 v2 H locs hp2 hW => ?_)
  have hW := hx_swap (wr := wX cs ad u) (wc := wM cs am v2) hW
  have heq : r1 = r2 := hp.1.trans hp2.1.symm
  have hin : INV u v2 := inv_next (e_speed hwf (xs (i + 1)) (xs (i + 2))) hp.2 hp2.2
  refine lv_icmp_eq (tgt := 1354) hx hb dL_law_348 (by decide) (fun _ => ?_) (fun h9 => absurd heq h9)
  exact kl u v2 _ _ hW hin
set_option maxRecDepth 100000 in
set_option maxHeartbeats 4000000 in
theorem law_5 {p : Program} {e : Env} {s : State} {m : MethodId} {below : List Frame} {meth : Method} {c : Code} (l : Launch) {b L i : Nat} {xs : Nat → Int32} {D : va_G} {cs : CS3} {ad am : Nat → Nat} {Q : State → Prop} {ls : Array Slot} (hC : CallFix p m c cL_law 4 s #[Value.ref b] lw_tg RL) (hX : va_X b L xs s s.heap) (hbl : b < s.heap.size) (hL : L ≤ 3584) (hi : i + 7 ≤ L) (hl : lv_has ls 4 [(3, .int (nI i)), (2, .ref (am 0)), (1, .ref (ad 0)), (0, .ref b)]) (kl : KL p l e s m b below meth c D cs ad am Q ls) {t v : St} {H : Heap} {locs : List Loc} (hW : HX wI (tyX cs) D (fun q : Nat => s.heap.size ≤ q) s.heap s (wM cs am v ++ wX cs ad t) H locs) (hI : INV t v) : W p l e room_1 s m #[Value.ref b] below meth c H locs 84 2041 Q (F0 m 353 ls []) := by
  obtain ⟨hx, hb, hml, hown, hts⟩ := id hC
  have hbA : ¬ (fun q : Nat => s.heap.size ≤ q) b := Nat.not_le.mpr hbl
  obtain ⟨P, R, C, hwf, ham⟩ := id hI
  refine lv_aload_n hx hb dL_law_353 rfl (lv_at hl 2 rfl) ?_
  refine lv_aload_n hx hb dL_law_354 rfl (lv_at hl 3 rfl) ?_
  refine lv_iload_n hx hb dL_law_355 rfl (lv_at hl 0 rfl) ?_
  refine lv_iconst (v := 1) hx hb dL_law_356 (by decide) ?_
  refine lv_iadd hx hb dL_law_357 ?_
  refine j_sld (j := i + 1) hC hX hbl hbA hW.2.2.2.1 (nI_add i 1) (by omega) (by omega) dL_law_358 ?_
  refine lv_aload_n hx hb dL_law_359 rfl (lv_at hl 3 rfl) ?_
  refine lv_iload_n hx hb dL_law_360 rfl (lv_at hl 0 rfl) ?_
  refine lv_iconst (v := 2) hx hb dL_law_361 (by decide) ?_
  refine lv_iadd hx hb dL_law_362 ?_
  refine j_sld (j := i + 2) hC hX hbl hbA hW.2.2.2.1 (nI_add i 2) (by omega) (by omega) dL_law_363 ?_
  refine j_i (wf := wX cs ad) (st := t) (wr := wM cs am v) (run_V (rest := []) hC (hx_r (wf := wX cs ad) (st := t) (wr := wM cs am v) hW) (m_X5_shoe l D cs ad t P R C (xs (i + 1)) (xs (i + 2)) hwf.1) k_yX5_shoe ⟨rfl, rfl⟩ q_ml_RL_35 eX_0 rfl rfl hl.1 rfl (Nat.le_of_ble_eq_true rfl) ⟨(Nat.le_of_ble_eq_true rfl), (Nat.le_of_ble_eq_true rfl)⟩ dL_law_364 ⟨(Nat.le_of_ble_eq_true rfl), (Nat.le_of_ble_eq_true rfl)⟩) hW (fun r1 u H locs hp hW => ?_)
  have hW := hx_swap (wr := wM cs am v) (wc := wX cs ad u) hW
  refine lv_aload_n hx hb dL_law_367 rfl (lv_at hl 1 rfl) ?_
  refine lv_aload_n hx hb dL_law_368 rfl (lv_at hl 3 rfl) ?_
  refine lv_iload_n hx hb dL_law_369 rfl (lv_at hl 0 rfl) ?_
  refine lv_iconst (v := 1) hx hb dL_law_370 (by decide) ?_
  refine lv_iadd hx hb dL_law_371 ?_
  refine j_sld (j := i + 1) hC hX hbl hbA hW.2.2.2.1 (nI_add i 1) (by omega) (by omega) dL_law_372 ?_
  refine lv_aload_n hx hb dL_law_373 rfl (lv_at hl 3 rfl) ?_
  refine lv_iload_n hx hb dL_law_374 rfl (lv_at hl 0 rfl) ?_
  refine lv_iconst (v := 2) hx hb dL_law_375 (by decide) ?_
  refine lv_iadd hx hb dL_law_376 ?_
  refine j_sld (j := i + 2) hC hX hbl hbA hW.2.2.2.1 (nI_add i 2) (by omega) (by omega) dL_law_377 ?_
  refine j_i (wf := wM cs am) (st := v) (wr := wX cs ad u) (run_V (rest := [.int r1]) hC (hx_r (wf := wM cs am) (st := v) (wr := wX cs ad u) hW) (m_X6_shoe l D cs am v t P R C (xs (i + 1)) (xs (i + 2)) hwf ham) k_yX6_shoe ⟨rfl, rfl⟩ q_ml_RL_38 eM_0 rfl rfl hl.1 rfl (Nat.le_of_ble_eq_true rfl) ⟨(Nat.le_of_ble_eq_true rfl), (Nat.le_of_ble_eq_true rfl)⟩ dL_law_378 ⟨(Nat.le_of_ble_eq_true rfl), (Nat.le_of_ble_eq_true rfl)⟩) hW (fun r2 v2 H locs hp2 hW => ?_)
  have hW := hx_swap (wr := wX cs ad u) (wc := wM cs am v2) hW
  have heq : r1 = r2 := hp.1.trans hp2.1.symm
  have hin : INV u v2 := inv_next (e_shoe hwf (xs (i + 1)) (xs (i + 2))) hp.2 hp2.2
  refine lv_icmp_eq (tgt := 1354) hx hb dL_law_381 (by decide) (fun _ => ?_) (fun h9 => absurd heq h9)
  exact kl u v2 _ _ hW hin
set_option maxRecDepth 100000 in
set_option maxHeartbeats 4000000 in
theorem law_6 {p : Program} {e : Env} {s : State} {m : MethodId} {below : List Frame} {meth : Method} {c : Code} (l : Launch) {b L i : Nat} {xs : Nat → Int32} {D : va_G} {cs : CS3} {ad am : Nat → Nat} {Q : State → Prop} {ls : Array Slot} (hC : CallFix p m c cL_law 4 s #[Value.ref b] lw_tg RL) (hX : va_X b L xs s s.heap) (hbl : b < s.heap.size) (hL : L ≤ 3584) (hi : i + 7 ≤ L) (hl : lv_has ls 4 [(3, .int (nI i)), (2, .ref (am 0)), (1, .ref (ad 0)), (0, .ref b)]) (kl : KL p l e s m b below meth c D cs ad am Q ls) {t v : St} {H : Heap} {locs : List Loc} (hW : HX wI (tyX cs) D (fun q : Nat => s.heap.size ≤ q) s.heap s (wM cs am v ++ wX cs ad t) H locs) (hI : INV t v) : W p l e room_1 s m #[Value.ref b] below meth c H locs 84 2041 Q (F0 m 386 ls []) := by
  obtain ⟨hx, hb, hml, hown, hts⟩ := id hC
  have hbA : ¬ (fun q : Nat => s.heap.size ≤ q) b := Nat.not_le.mpr hbl
  obtain ⟨P, R, C, hwf, ham⟩ := id hI
  refine lv_aload_n hx hb dL_law_386 rfl (lv_at hl 2 rfl) ?_
  refine lv_aload_n hx hb dL_law_387 rfl (lv_at hl 3 rfl) ?_
  refine lv_iload_n hx hb dL_law_388 rfl (lv_at hl 0 rfl) ?_
  refine lv_iconst (v := 1) hx hb dL_law_389 (by decide) ?_
  refine lv_iadd hx hb dL_law_390 ?_
  refine j_sld (j := i + 1) hC hX hbl hbA hW.2.2.2.1 (nI_add i 1) (by omega) (by omega) dL_law_391 ?_
  refine lv_aload_n hx hb dL_law_392 rfl (lv_at hl 3 rfl) ?_
  refine lv_iload_n hx hb dL_law_393 rfl (lv_at hl 0 rfl) ?_
  refine lv_iconst (v := 2) hx hb dL_law_394 (by decide) ?_
  refine lv_iadd hx hb dL_law_395 ?_
  refine j_sld (j := i + 2) hC hX hbl hbA hW.2.2.2.1 (nI_add i 2) (by omega) (by omega) dL_law_396 ?_
  refine lv_aload_n hx hb dL_law_397 rfl (lv_at hl 3 rfl) ?_
  refine lv_iload_n hx hb dL_law_398 rfl (lv_at hl 0 rfl) ?_
  refine lv_iconst (v := 3) hx hb dL_law_399 (by decide) ?_
  refine lv_iadd hx hb dL_law_400 ?_
  refine j_sld (j := i + 3) hC hX hbl hbA hW.2.2.2.1 (nI_add i 3) (by omega) (by omega) dL_law_401 ?_
  refine j_i (wf := wX cs ad) (st := t) (wr := wM cs am v) (run_V (rest := []) hC (hx_r (wf := wX cs ad) (st := t) (wr := wM cs am v) hW) (m_X5_takes l D cs ad t P R C (xs (i + 1)) (xs (i + 2)) (xs (i + 3)) hwf.1) k_yX5_takes ⟨rfl, rfl⟩ q_ml_RL_39 eX_0 rfl rfl hl.1 rfl (Nat.le_of_ble_eq_true rfl) ⟨(Nat.le_of_ble_eq_true rfl), (Nat.le_of_ble_eq_true rfl)⟩ dL_law_402 ⟨(Nat.le_of_ble_eq_true rfl), (Nat.le_of_ble_eq_true rfl)⟩) hW (fun r1 u H locs hp hW => ?_)
  have hW := hx_swap (wr := wM cs am v) (wc := wX cs ad u) hW
  refine lv_aload_n hx hb dL_law_405 rfl (lv_at hl 1 rfl) ?_
  refine lv_aload_n hx hb dL_law_406 rfl (lv_at hl 3 rfl) ?_
  refine lv_iload_n hx hb dL_law_407 rfl (lv_at hl 0 rfl) ?_
  refine lv_iconst (v := 1) hx hb dL_law_408 (by decide) ?_
  refine lv_iadd hx hb dL_law_409 ?_
  refine j_sld (j := i + 1) hC hX hbl hbA hW.2.2.2.1 (nI_add i 1) (by omega) (by omega) dL_law_410 ?_
  refine lv_aload_n hx hb dL_law_411 rfl (lv_at hl 3 rfl) ?_
  refine lv_iload_n hx hb dL_law_412 rfl (lv_at hl 0 rfl) ?_
  refine lv_iconst (v := 2) hx hb dL_law_413 (by decide) ?_
  refine lv_iadd hx hb dL_law_414 ?_
  refine j_sld (j := i + 2) hC hX hbl hbA hW.2.2.2.1 (nI_add i 2) (by omega) (by omega) dL_law_415 ?_
  refine lv_aload_n hx hb dL_law_416 rfl (lv_at hl 3 rfl) ?_
  refine lv_iload_n hx hb dL_law_417 rfl (lv_at hl 0 rfl) ?_
  refine lv_iconst (v := 3) hx hb dL_law_418 (by decide) ?_
  refine lv_iadd hx hb dL_law_419 ?_
  refine j_sld (j := i + 3) hC hX hbl hbA hW.2.2.2.1 (nI_add i 3) (by omega) (by omega) dL_law_420 ?_
  refine j_i (wf := wM cs am) (st := v) (wr := wX cs ad u) (run_V (rest := [.int r1]) hC (hx_r (wf := wM cs am) (st := v) (wr := wX cs ad u) hW) (m_X6_takes l D cs am v t P R C (xs (i + 1)) (xs (i + 2)) (xs (i + 3)) hwf ham) k_yX6_takes ⟨rfl, rfl⟩ q_ml_RL_43 eM_0 rfl rfl hl.1 rfl (Nat.le_of_ble_eq_true rfl) ⟨(Nat.le_of_ble_eq_true rfl), (Nat.le_of_ble_eq_true rfl)⟩ dL_law_421 ⟨(Nat.le_of_ble_eq_true rfl), (Nat.le_of_ble_eq_true rfl)⟩) hW (fun r2 v2 H locs hp2 hW => ?_)
  have hW := hx_swap (wr := wX cs ad u) (wc := wM cs am v2) hW
  have heq : r1 = r2 := hp.1.trans hp2.1.symm
  have hin : INV u v2 := inv_next (e_takes hwf (xs (i + 1)) (xs (i + 2)) (xs (i + 3))) hp.2 hp2.2
  refine lv_icmp_eq (tgt := 1354) hx hb dL_law_424 (by decide) (fun _ => ?_) (fun h9 => absurd heq h9)
  exact kl u v2 _ _ hW hin
set_option maxRecDepth 100000 in
set_option maxHeartbeats 4000000 in
theorem law_7 {p : Program} {e : Env} {s : State} {m : MethodId} {below : List Frame} {meth : Method} {c : Code} (l : Launch) {b L i : Nat} {xs : Nat → Int32} {D : va_G} {cs : CS3} {ad am : Nat → Nat} {Q : State → Prop} {ls : Array Slot} (hC : CallFix p m c cL_law 4 s #[Value.ref b] lw_tg RL) (hX : va_X b L xs s s.heap) (hbl : b < s.heap.size) (hL : L ≤ 3584) (hi : i + 7 ≤ L) (hl : lv_has ls 4 [(3, .int (nI i)), (2, .ref (am 0)), (1, .ref (ad 0)), (0, .ref b)]) (kl : KL p l e s m b below meth c D cs ad am Q ls) {t v : St} {H : Heap} {locs : List Loc} (hW : HX wI (tyX cs) D (fun q : Nat => s.heap.size ≤ q) s.heap s (wM cs am v ++ wX cs ad t) H locs) (hI : INV t v) : W p l e room_1 s m #[Value.ref b] below meth c H locs 84 2041 Q (F0 m 429 ls []) := by
  obtain ⟨hx, hb, hml, hown, hts⟩ := id hC
  have hbA : ¬ (fun q : Nat => s.heap.size ≤ q) b := Nat.not_le.mpr hbl
  obtain ⟨P, R, C, hwf, ham⟩ := id hI
  refine lv_aload_n hx hb dL_law_429 rfl (lv_at hl 2 rfl) ?_
  refine lv_aload_n hx hb dL_law_430 rfl (lv_at hl 3 rfl) ?_
  refine lv_iload_n hx hb dL_law_431 rfl (lv_at hl 0 rfl) ?_
  refine lv_iconst (v := 1) hx hb dL_law_432 (by decide) ?_
  refine lv_iadd hx hb dL_law_433 ?_
  refine j_sld (j := i + 1) hC hX hbl hbA hW.2.2.2.1 (nI_add i 1) (by omega) (by omega) dL_law_434 ?_
  refine lv_aload_n hx hb dL_law_435 rfl (lv_at hl 3 rfl) ?_
  refine lv_iload_n hx hb dL_law_436 rfl (lv_at hl 0 rfl) ?_
  refine lv_iconst (v := 2) hx hb dL_law_437 (by decide) ?_
  refine lv_iadd hx hb dL_law_438 ?_
  refine j_sld (j := i + 2) hC hX hbl hbA hW.2.2.2.1 (nI_add i 2) (by omega) (by omega) dL_law_439 ?_
  refine lv_aload_n hx hb dL_law_440 rfl (lv_at hl 3 rfl) ?_
  refine lv_iload_n hx hb dL_law_441 rfl (lv_at hl 0 rfl) ?_
  refine lv_iconst (v := 3) hx hb dL_law_442 (by decide) ?_
  refine lv_iadd hx hb dL_law_443 ?_
  refine j_sld (j := i + 3) hC hX hbl hbA hW.2.2.2.1 (nI_add i 3) (by omega) (by omega) dL_law_444 ?_
  refine lv_aload_n hx hb dL_law_445 rfl (lv_at hl 3 rfl) ?_
  refine lv_iload_n hx hb dL_law_446 rfl (lv_at hl 0 rfl) ?_
  refine lv_iconst (v := 4) hx hb dL_law_447 (by decide) ?_
  refine lv_iadd hx hb dL_law_448 ?_
  refine j_sld (j := i + 4) hC hX hbl hbA hW.2.2.2.1 (nI_add i 4) (by omega) (by omega) dL_law_449 ?_
  refine lv_aload_n hx hb dL_law_450 rfl (lv_at hl 3 rfl) ?_
  refine lv_iload_n hx hb dL_law_451 rfl (lv_at hl 0 rfl) ?_
  refine lv_iconst (v := 5) hx hb dL_law_452 (by decide) ?_
  refine lv_iadd hx hb dL_law_453 ?_
  refine j_sld (j := i + 5) hC hX hbl hbA hW.2.2.2.1 (nI_add i 5) (by omega) (by omega) dL_law_454 ?_
  refine j_i (wf := wX cs ad) (st := t) (wr := wM cs am v) (run_V (rest := []) hC (hx_r (wf := wX cs ad) (st := t) (wr := wM cs am v) hW) (m_X5_days l D cs ad t P R C (xs (i + 1)) (xs (i + 2)) (xs (i + 3)) (xs (i + 4)) (xs (i + 5)) hwf.1) k_yX5_days ⟨rfl, rfl⟩ q_ml_RL_44 eX_0 rfl rfl hl.1 rfl (Nat.le_of_ble_eq_true rfl) ⟨(Nat.le_of_ble_eq_true rfl), (Nat.le_of_ble_eq_true rfl)⟩ dL_law_455 ⟨(Nat.le_of_ble_eq_true rfl), (Nat.le_of_ble_eq_true rfl)⟩) hW (fun r1 u H locs hp hW => ?_)
  have hW := hx_swap (wr := wM cs am v) (wc := wX cs ad u) hW
  refine lv_aload_n hx hb dL_law_458 rfl (lv_at hl 1 rfl) ?_
  refine lv_aload_n hx hb dL_law_459 rfl (lv_at hl 3 rfl) ?_
  refine lv_iload_n hx hb dL_law_460 rfl (lv_at hl 0 rfl) ?_
  refine lv_iconst (v := 1) hx hb dL_law_461 (by decide) ?_
  refine lv_iadd hx hb dL_law_462 ?_
  refine j_sld (j := i + 1) hC hX hbl hbA hW.2.2.2.1 (nI_add i 1) (by omega) (by omega) dL_law_463 ?_
  refine lv_aload_n hx hb dL_law_464 rfl (lv_at hl 3 rfl) ?_
  refine lv_iload_n hx hb dL_law_465 rfl (lv_at hl 0 rfl) ?_
  refine lv_iconst (v := 2) hx hb dL_law_466 (by decide) ?_
  refine lv_iadd hx hb dL_law_467 ?_
  refine j_sld (j := i + 2) hC hX hbl hbA hW.2.2.2.1 (nI_add i 2) (by omega) (by omega) dL_law_468 ?_
  refine lv_aload_n hx hb dL_law_469 rfl (lv_at hl 3 rfl) ?_
  refine lv_iload_n hx hb dL_law_470 rfl (lv_at hl 0 rfl) ?_
  refine lv_iconst (v := 3) hx hb dL_law_471 (by decide) ?_
  refine lv_iadd hx hb dL_law_472 ?_
  refine j_sld (j := i + 3) hC hX hbl hbA hW.2.2.2.1 (nI_add i 3) (by omega) (by omega) dL_law_473 ?_
  refine lv_aload_n hx hb dL_law_474 rfl (lv_at hl 3 rfl) ?_
  refine lv_iload_n hx hb dL_law_475 rfl (lv_at hl 0 rfl) ?_
  refine lv_iconst (v := 4) hx hb dL_law_476 (by decide) ?_
  refine lv_iadd hx hb dL_law_477 ?_
  refine j_sld (j := i + 4) hC hX hbl hbA hW.2.2.2.1 (nI_add i 4) (by omega) (by omega) dL_law_478 ?_
  refine lv_aload_n hx hb dL_law_479 rfl (lv_at hl 3 rfl) ?_
  refine lv_iload_n hx hb dL_law_480 rfl (lv_at hl 0 rfl) ?_
  refine lv_iconst (v := 5) hx hb dL_law_481 (by decide) ?_
  refine lv_iadd hx hb dL_law_482 ?_
  refine j_sld (j := i + 5) hC hX hbl hbA hW.2.2.2.1 (nI_add i 5) (by omega) (by omega) dL_law_483 ?_
  refine j_i (wf := wM cs am) (st := v) (wr := wX cs ad u) (run_V (rest := [.int r1]) hC (hx_r (wf := wM cs am) (st := v) (wr := wX cs ad u) hW) (m_X6_days l D cs am v t P R C (xs (i + 1)) (xs (i + 2)) (xs (i + 3)) (xs (i + 4)) (xs (i + 5)) hwf ham) k_yX6_days ⟨rfl, rfl⟩ q_ml_RL_48 eM_0 rfl rfl hl.1 rfl (Nat.le_of_ble_eq_true rfl) ⟨(Nat.le_of_ble_eq_true rfl), (Nat.le_of_ble_eq_true rfl)⟩ dL_law_484 ⟨(Nat.le_of_ble_eq_true rfl), (Nat.le_of_ble_eq_true rfl)⟩) hW (fun r2 v2 H locs hp2 hW => ?_)
  have hW := hx_swap (wr := wX cs ad u) (wc := wM cs am v2) hW
  have heq : r1 = r2 := hp.1.trans hp2.1.symm
  have hin : INV u v2 := inv_next (e_days hwf (xs (i + 1)) (xs (i + 2)) (xs (i + 3)) (xs (i + 4)) (xs (i + 5))) hp.2 hp2.2
  refine lv_icmp_eq (tgt := 1354) hx hb dL_law_487 (by decide) (fun _ => ?_) (fun h9 => absurd heq h9)
  exact kl u v2 _ _ hW hin
set_option maxRecDepth 100000 in
set_option maxHeartbeats 4000000 in
theorem law_8 {p : Program} {e : Env} {s : State} {m : MethodId} {below : List Frame} {meth : Method} {c : Code} (l : Launch) {b L i : Nat} {xs : Nat → Int32} {D : va_G} {cs : CS3} {ad am : Nat → Nat} {Q : State → Prop} {ls : Array Slot} (hC : CallFix p m c cL_law 4 s #[Value.ref b] lw_tg RL) (hX : va_X b L xs s s.heap) (hbl : b < s.heap.size) (hL : L ≤ 3584) (hi : i + 7 ≤ L) (hl : lv_has ls 4 [(3, .int (nI i)), (2, .ref (am 0)), (1, .ref (ad 0)), (0, .ref b)]) (kl : KL p l e s m b below meth c D cs ad am Q ls) {t v : St} {H : Heap} {locs : List Loc} (hW : HX wI (tyX cs) D (fun q : Nat => s.heap.size ≤ q) s.heap s (wM cs am v ++ wX cs ad t) H locs) (hI : INV t v) : W p l e room_1 s m #[Value.ref b] below meth c H locs 84 2041 Q (F0 m 492 ls []) := by
  obtain ⟨hx, hb, hml, hown, hts⟩ := id hC
  have hbA : ¬ (fun q : Nat => s.heap.size ≤ q) b := Nat.not_le.mpr hbl
  obtain ⟨P, R, C, hwf, ham⟩ := id hI
  refine lv_aload_n hx hb dL_law_492 rfl (lv_at hl 2 rfl) ?_
  refine lv_aload_n hx hb dL_law_493 rfl (lv_at hl 3 rfl) ?_
  refine lv_iload_n hx hb dL_law_494 rfl (lv_at hl 0 rfl) ?_
  refine lv_iconst (v := 1) hx hb dL_law_495 (by decide) ?_
  refine lv_iadd hx hb dL_law_496 ?_
  refine j_sld (j := i + 1) hC hX hbl hbA hW.2.2.2.1 (nI_add i 1) (by omega) (by omega) dL_law_497 ?_
  refine lv_aload_n hx hb dL_law_498 rfl (lv_at hl 3 rfl) ?_
  refine lv_iload_n hx hb dL_law_499 rfl (lv_at hl 0 rfl) ?_
  refine lv_iconst (v := 2) hx hb dL_law_500 (by decide) ?_
  refine lv_iadd hx hb dL_law_501 ?_
  refine j_sld (j := i + 2) hC hX hbl hbA hW.2.2.2.1 (nI_add i 2) (by omega) (by omega) dL_law_502 ?_
  refine j_i (wf := wX cs ad) (st := t) (wr := wM cs am v) (run_V (rest := []) hC (hx_r (wf := wX cs ad) (st := t) (wr := wM cs am v) hW) (m_X5_fewest l D cs ad t P R C (xs (i + 1)) (xs (i + 2)) hwf.1) k_yX5_fewest ⟨rfl, rfl⟩ q_ml_RL_49 eX_0 rfl rfl hl.1 rfl (Nat.le_of_ble_eq_true rfl) ⟨(Nat.le_of_ble_eq_true rfl), (Nat.le_of_ble_eq_true rfl)⟩ dL_law_503 ⟨(Nat.le_of_ble_eq_true rfl), (Nat.le_of_ble_eq_true rfl)⟩) hW (fun r1 u H locs hp hW => ?_)
  have hW := hx_swap (wr := wM cs am v) (wc := wX cs ad u) hW
  refine lv_aload_n hx hb dL_law_506 rfl (lv_at hl 1 rfl) ?_
  refine lv_aload_n hx hb dL_law_507 rfl (lv_at hl 3 rfl) ?_
  refine lv_iload_n hx hb dL_law_508 rfl (lv_at hl 0 rfl) ?_
  refine lv_iconst (v := 1) hx hb dL_law_509 (by decide) ?_
  refine lv_iadd hx hb dL_law_510 ?_
  refine j_sld (j := i + 1) hC hX hbl hbA hW.2.2.2.1 (nI_add i 1) (by omega) (by omega) dL_law_511 ?_
  refine lv_aload_n hx hb dL_law_512 rfl (lv_at hl 3 rfl) ?_
  refine lv_iload_n hx hb dL_law_513 rfl (lv_at hl 0 rfl) ?_
  refine lv_iconst (v := 2) hx hb dL_law_514 (by decide) ?_
  refine lv_iadd hx hb dL_law_515 ?_
  refine j_sld (j := i + 2) hC hX hbl hbA hW.2.2.2.1 (nI_add i 2) (by omega) (by omega) dL_law_516 ?_
  refine j_i (wf := wM cs am) (st := v) (wr := wX cs ad u) (run_V (rest := [.int r1]) hC (hx_r (wf := wM cs am) (st := v) (wr := wX cs ad u) hW) (m_X6_fewest l D cs am v t P R C (xs (i + 1)) (xs (i + 2)) hwf ham) k_yX6_fewest ⟨rfl, rfl⟩ q_ml_RL_52 eM_0 rfl rfl hl.1 rfl (Nat.le_of_ble_eq_true rfl) ⟨(Nat.le_of_ble_eq_true rfl), (Nat.le_of_ble_eq_true rfl)⟩ dL_law_517 ⟨(Nat.le_of_ble_eq_true rfl), (Nat.le_of_ble_eq_true rfl)⟩) hW (fun r2 v2 H locs hp2 hW => ?_)
  have hW := hx_swap (wr := wX cs ad u) (wc := wM cs am v2) hW
  have heq : r1 = r2 := hp.1.trans (few_eq hwf hp2.1).symm
  have hin : INV u v2 := inv_next (e_fewest hwf (xs (i + 1)) (xs (i + 2))) hp.2 (by rw [few_2]; exact hp2.2)
  refine lv_icmp_eq (tgt := 1354) hx hb dL_law_520 (by decide) (fun _ => ?_) (fun h9 => absurd heq h9)
  exact kl u v2 _ _ hW hin
set_option maxRecDepth 100000 in
set_option maxHeartbeats 4000000 in
theorem law_9 {p : Program} {e : Env} {s : State} {m : MethodId} {below : List Frame} {meth : Method} {c : Code} (l : Launch) {b L i : Nat} {xs : Nat → Int32} {D : va_G} {cs : CS3} {ad am : Nat → Nat} {Q : State → Prop} {ls : Array Slot} (hC : CallFix p m c cL_law 4 s #[Value.ref b] lw_tg RL) (hX : va_X b L xs s s.heap) (hbl : b < s.heap.size) (hL : L ≤ 3584) (hi : i + 7 ≤ L) (hl : lv_has ls 4 [(3, .int (nI i)), (2, .ref (am 0)), (1, .ref (ad 0)), (0, .ref b)]) (kl : KL p l e s m b below meth c D cs ad am Q ls) {t v : St} {H : Heap} {locs : List Loc} (hW : HX wI (tyX cs) D (fun q : Nat => s.heap.size ≤ q) s.heap s (wM cs am v ++ wX cs ad t) H locs) (hI : INV t v) : W p l e room_1 s m #[Value.ref b] below meth c H locs 84 2041 Q (F0 m 525 ls []) := by
  obtain ⟨hx, hb, hml, hown, hts⟩ := id hC
  have hbA : ¬ (fun q : Nat => s.heap.size ≤ q) b := Nat.not_le.mpr hbl
  obtain ⟨P, R, C, hwf, ham⟩ := id hI
  refine lv_aload_n hx hb dL_law_525 rfl (lv_at hl 2 rfl) ?_
  refine lv_aload_n hx hb dL_law_526 rfl (lv_at hl 3 rfl) ?_
  refine lv_iload_n hx hb dL_law_527 rfl (lv_at hl 0 rfl) ?_
  refine lv_iconst (v := 1) hx hb dL_law_528 (by decide) ?_
  refine lv_iadd hx hb dL_law_529 ?_
  refine j_sld (j := i + 1) hC hX hbl hbA hW.2.2.2.1 (nI_add i 1) (by omega) (by omega) dL_law_530 ?_
  refine j_i (wf := wX cs ad) (st := t) (wr := wM cs am v) (run_V (rest := []) hC (hx_r (wf := wX cs ad) (st := t) (wr := wM cs am v) hW) (m_X5_sand l D cs ad t P R C (xs (i + 1)) hwf.1) k_yX5_sand ⟨rfl, rfl⟩ q_ml_RL_53 eX_0 rfl rfl hl.1 rfl (Nat.le_of_ble_eq_true rfl) ⟨(Nat.le_of_ble_eq_true rfl), (Nat.le_of_ble_eq_true rfl)⟩ dL_law_531 ⟨(Nat.le_of_ble_eq_true rfl), (Nat.le_of_ble_eq_true rfl)⟩) hW (fun r1 u H locs hp hW => ?_)
  have hW := hx_swap (wr := wM cs am v) (wc := wX cs ad u) hW
  refine lv_aload_n hx hb dL_law_534 rfl (lv_at hl 1 rfl) ?_
  refine lv_aload_n hx hb dL_law_535 rfl (lv_at hl 3 rfl) ?_
  refine lv_iload_n hx hb dL_law_536 rfl (lv_at hl 0 rfl) ?_
  refine lv_iconst (v := 1) hx hb dL_law_537 (by decide) ?_
  refine lv_iadd hx hb dL_law_538 ?_
  refine j_sld (j := i + 1) hC hX hbl hbA hW.2.2.2.1 (nI_add i 1) (by omega) (by omega) dL_law_539 ?_
  refine j_i (wf := wM cs am) (st := v) (wr := wX cs ad u) (run_V (rest := [.int r1]) hC (hx_r (wf := wM cs am) (st := v) (wr := wX cs ad u) hW) (m_X6_sand l D cs am v t P R C (xs (i + 1)) hwf ham) k_yX6_sand ⟨rfl, rfl⟩ q_ml_RL_57 eM_0 rfl rfl hl.1 rfl (Nat.le_of_ble_eq_true rfl) ⟨(Nat.le_of_ble_eq_true rfl), (Nat.le_of_ble_eq_true rfl)⟩ dL_law_540 ⟨(Nat.le_of_ble_eq_true rfl), (Nat.le_of_ble_eq_true rfl)⟩) hW (fun r2 v2 H locs hp2 hW => ?_)
  have hW := hx_swap (wr := wX cs ad u) (wc := wM cs am v2) hW
  rw [← F_G_sand hwf] at hp2
  have heq : r1 = r2 := hp.1.trans hp2.1.symm
  have hin : INV u v2 := inv_next (e_sand hwf (xs (i + 1))) hp.2 hp2.2
  refine lv_icmp_eq (tgt := 1354) hx hb dL_law_543 (by decide) (fun _ => ?_) (fun h9 => absurd heq h9)
  exact kl u v2 _ _ hW hin
