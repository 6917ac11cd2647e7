set_option maxRecDepth 100000 in
set_option maxHeartbeats 4000000 in
theorem law_loop {p : Program} {e : Env} {s : State} {m : MethodId} {below : List Frame} {meth : Method} {c : Code} (l : Launch) {b L : Nat} {xs : Nat → Int32} {D : va_G} {cs : CS3} {ad am : Nat → Nat} (hL : L ≤ 3584) (C0 : lw_At p s m meth c b L xs) (hC : CallFix p m c cL_law 4 s #[Value.ref b] lw_tg RL) : ∀ (n i : Nat), i ≤ L → L - i < n → ∀ (t v : St) (H : Heap) (locs : List Loc), HX wI (tyX cs) D (fun q : Nat => s.heap.size ≤ q) s.heap s (wM cs am v ++ wX cs ad t) H locs → INV t v → ∀ ls : Array Slot, lv_has ls 4 [(3, .int (nI i)), (2, .ref (am 0)), (1, .ref (ad 0)), (0, .ref b)] → W p l e room_1 s m #[Value.ref b] below meth c H locs 84 2041 (lw_Z below #[Value.ref b] s) (F0 m 18 ls []) := by
  obtain ⟨hx, hb, hr, hml, hown, hts, hX, hbl, hlocks, hgv⟩ := id C0
  have hbA : ¬ (fun q : Nat => s.heap.size ≤ q) b := Nat.not_le.mpr hbl
  intro n
  induction n with
  | zero => intro i hi hn; exact absurd hn (Nat.not_lt_zero _)
  | succ n ih =>
    intro i hi hn t v H locs hW hI ls hl
    refine lv_iload_n hx hb dL_law_18 rfl (lv_at hl 0 rfl) ?_
    refine lv_aload_n hx hb dL_law_19 rfl (lv_at hl 3 rfl) ?_
    refine va_slen hx hb hX hbl hbA hW.2.2.2.1 dL_law_20 ?_
    refine lv_bipush (v := 7) hx hb dL_law_21 (by decide) ?_
    refine lv_isub hx hb dL_law_23 ?_
    refine lv_icmp_gt (tgt := 1360) hx hb dL_law_24 (by decide) (fun c1 => ?_) (fun c1 => ?_)
    · refine lv_iconst (v := 1) hx hb dL_law_1360 (by decide) ?_
      refine va_forget (fun q hq => hW.2.2.2.1.2.2 q hq) ?_
      refine W.widen (k := 600000) (n := 7302250) (Nat.le_of_ble_eq_true rfl) (Nat.le_of_ble_eq_true rfl) ?_
      exact lw_ret hx hb hr hlocks dL_law_1361
    · have hi7 : i + 7 ≤ L := le7 hL (by omega) c1
      have hKL : KL p l e s m b below meth c D cs ad am (lw_Z below #[Value.ref b] s) ls := by
        intro t v H locs hW hI
        refine lv_iinc (v := nI (i + 7)) (lv' := [(3, .int (nI (i + 7))), (2, .ref (am 0)), (1, .ref (ad 0)), (0, .ref b)]) hx hb dL_law_1354 hl (k := 0) rfl (nI_add _ 7) (by decide) rfl (fun ls hl => ?_)
        refine lv_goto (tgt := 18) hx hb dL_law_1357 (by decide) ?_
        exact ih (i + 7) hi7 (by omega) t v H locs hW hI ls hl
      refine lv_aload_n hx hb dL_law_27 rfl (lv_at hl 3 rfl) ?_
      refine lv_iload_n hx hb dL_law_28 rfl (lv_at hl 0 rfl) ?_
      refine j_sld (j := i) hC hX hbl hbA hW.2.2.2.1 rfl (by omega) (by omega) dL_law_29 ?_
      refine lv_bipush (v := 31) hx hb dL_law_30 (by decide) ?_
      refine lv_iand hx hb dL_law_32 ?_
      obtain ⟨k, hk, ek⟩ := and31 (xs i)
      refine r_top ek ?_
      rcases (show k = 0 ∨ k = 1 ∨ k = 2 ∨ k = 3 ∨ k = 4 ∨ k = 5 ∨ k = 6 ∨ k = 7 ∨ k = 8 ∨ k = 9 ∨ k = 10 ∨ k = 11 ∨ k = 12 ∨ k = 13 ∨ k = 14 ∨ k = 15 ∨ k = 16 ∨ k = 17 ∨ k = 18 ∨ k = 19 ∨ k = 20 ∨ k = 21 ∨ k = 22 ∨ k = 23 ∨ k = 24 ∨ k = 25 ∨ k = 26 ∨ k = 27 ∨ k = 28 ∨ k = 29 ∨ k = 30 ∨ k = 31 by omega) with rfl | rfl | rfl | rfl | rfl | rfl | rfl | rfl | rfl | rfl | rfl | rfl | rfl | rfl | rfl | rfl | rfl | rfl | rfl | rfl | rfl | rfl | rfl | rfl | rfl | rfl | rfl | rfl | rfl | rfl | rfl | rfl
      · exact lv_tableIn (tgt := 168) hx hb dL_law_33 (by decide) (by decide) rfl (by decide) (law_0 l hC hX hbl hL hi7 hl hKL hW hI)
      · exact lv_tableIn (tgt := 221) hx hb dL_law_33 (by decide) (by decide) rfl (by decide) (law_1 l hC hX hbl hL hi7 hl hKL hW hI)
      · exact lv_tableIn (tgt := 254) hx hb dL_law_33 (by decide) (by decide) rfl (by decide) (law_2 l hC hX hbl hL hi7 hl hKL hW hI)
      · exact lv_tableIn (tgt := 287) hx hb dL_law_33 (by decide) (by decide) rfl (by decide) (law_3 l hC hX hbl hL hi7 hl hKL hW hI)
      · exact lv_tableIn (tgt := 320) hx hb dL_law_33 (by decide) (by decide) rfl (by decide) (law_4 l hC hX hbl hL hi7 hl hKL hW hI)
      · exact lv_tableIn (tgt := 353) hx hb dL_law_33 (by decide) (by decide) rfl (by decide) (law_5 l hC hX hbl hL hi7 hl hKL hW hI)
      · exact lv_tableIn (tgt := 386) hx hb dL_law_33 (by decide) (by decide) rfl (by decide) (law_6 l hC hX hbl hL hi7 hl hKL hW hI)
      · exact lv_tableIn (tgt := 429) hx hb dL_law_33 (by decide) (by decide) rfl (by decide) (law_7 l hC hX hbl hL hi7 hl hKL hW hI)
      · exact lv_tableIn (tgt := 492) hx hb dL_law_33 (by decide) (by decide) rfl (by decide) (law_8 l hC hX hbl hL hi7 hl hKL hW hI)
      · exact lv_tableIn (tgt := 525) hx hb dL_law_33 (by decide) (by decide) rfl (by decide) (law_9 l hC hX hbl hL hi7 hl hKL hW hI)
      · exact lv_tableIn (tgt := 548) hx hb dL_law_33 (by decide) (by decide) rfl (by decide) (law_10 l hC hX hbl hL hi7 hl hKL hW hI)
      · exact lv_tableIn (tgt := 591) hx hb dL_law_33 (by decide) (by decide) rfl (by decide) (law_11 l hC hX hbl hL hi7 hl hKL hW hI)
      · exact lv_tableIn (tgt := 614) hx hb dL_law_33 (by decide) (by decide) rfl (by decide) (law_12 l hC hX hbl hL hi7 hl hKL hW hI)
      · exact lv_tableIn (tgt := 647) hx hb dL_law_33 (by decide) (by decide) rfl (by decide) (law_13 l hC hX hbl hL hi7 hl hKL hW hI)
      · exact lv_tableIn (tgt := 670) hx hb dL_law_33 (by decide) (by decide) rfl (by decide) (law_14 l hC hX hbl hL hi7 hl hKL hW hI)
      · exact lv_tableIn (tgt := 745) hx hb dL_law_33 (by decide) (by decide) rfl (by decide) (law_15 l hC hX hbl hL hi7 hl hKL hW hI)
      · exact lv_tableIn (tgt := 808) hx hb dL_law_33 (by decide) (by decide) rfl (by decide) (law_16 l hC hX hbl hL hi7 hl hKL hW hI)
      · exact lv_tableIn (tgt := 871) hx hb dL_law_33 (by decide) (by decide) rfl (by decide) (law_17 l hC hX hbl hL hi7 hl hKL hW hI)
      · exact lv_tableIn (tgt := 934) hx hb dL_law_33 (by decide) (by decide) rfl (by decide) (law_18 l hC hX hbl hL hi7 hl hKL hW hI)
      · exact lv_tableIn (tgt := 1010) hx hb dL_law_33 (by decide) (by decide) rfl (by decide) (law_19 l hC hX hbl hL hi7 hl hKL hW hI)
      · exact lv_tableIn (tgt := 1053) hx hb dL_law_33 (by decide) (by decide) rfl (by decide) (law_20 l hC hX hbl hL hi7 hl hKL hW hI)
      · exact lv_tableIn (tgt := 1076) hx hb dL_law_33 (by decide) (by decide) rfl (by decide) (law_21 l hC hX hbl hL hi7 hl hKL hW hI)
      · exact lv_tableIn (tgt := 1119) hx hb dL_law_33 (by decide) (by decide) rfl (by decide) (law_22 l hC hX hbl hL hi7 hl hKL hW hI)
      · exact lv_tableIn (tgt := 1163) hx hb dL_law_33 (by decide) (by decide) rfl (by decide) (law_23 l hC hX hbl hL hi7 hl hKL hW hI)
      · exact lv_tableIn (tgt := 1226) hx hb dL_law_33 (by decide) (by decide) rfl (by decide) (law_24 l hC hX hbl hL hi7 hl hKL hW hI)
      · exact lv_tableIn (tgt := 1249) hx hb dL_law_33 (by decide) (by decide) rfl (by decide) (law_25 l hC hX hbl hL hi7 hl hKL hW hI)
      · exact lv_tableIn (tgt := 1272) hx hb dL_law_33 (by decide) (by decide) rfl (by decide) (law_26 l hC hX hbl hL hi7 hl hKL hW hI)
      · exact lv_tableIn (tgt := 1305) hx hb dL_law_33 (by decide) (by decide) rfl (by decide) (law_27 l hC hX hbl hL hi7 hl hKL hW hI)
      · exact lv_tableIn (tgt := 1318) hx hb dL_law_33 (by decide) (by decide) rfl (by decide) (law_28 l hC hX hbl hL hi7 hl hKL hW hI)
      · exact lv_tableIn (tgt := 1331) hx hb dL_law_33 (by decide) (by decide) rfl (by decide) (law_29 l hC hX hbl hL hi7 hl hKL hW hI)
      · exact lv_tableOut (tgt := 1354) hx hb dL_law_33 (by decide) (by decide) (hKL t v H locs hW hI)
      · exact lv_tableOut (tgt := 1354) hx hb dL_law_33 (by decide) (by decide) (hKL t v H locs hW hI)
theorem lw_classes {s : State} {b : Nat} (hts : ∀ w ∈ lw_tg, w.before #[Value.ref b] s = true) : ∃ D : va_G, ∀ (k : Nat) (q : vw_C), vwCl[k]? = some q → u_Kn s q.1 q.2.1 q.2.2 (D.1 k) (D.2 k) := by
  obtain ⟨c0, iS0, hKn0⟩ := u_known (C := RX0) (T := TX0) (N := 5) (n := 5) hts i_X0 (hts _ q_is_RX0)
  obtain ⟨c1, iS1, hKn1⟩ := u_known (C := RX1) (T := TX1) (N := 3) (n := 3) hts i_X1 (hts _ q_is_RX1)
  obtain ⟨c2, iS2, hKn2⟩ := u_known (C := RX2) (T := TX2) (N := 3) (n := 3) hts i_X2 (hts _ q_is_RX2)
  obtain ⟨c3, iS3, hKn3⟩ := u_known (C := RX3) (T := TX3) (N := 7) (n := 7) hts i_X3 (hts _ q_is_RX3)
  obtain ⟨c4, iS4, hKn4⟩ := u_known (C := RX5) (T := TX5) (N := 8) (n := 8) hts i_X5 (hts _ q_is_RX5)
  obtain ⟨c5, iS5, hKn5⟩ := u_known (C := RX6) (T := TX6) (N := 30) (n := 30) hts i_X6 (hts _ q_is_RX6)
  refine ⟨(fun k => if k = 0 then c0 else if k = 1 then c1 else if k = 2 then c2 else if k = 3 then c3 else if k = 4 then c4 else c5, fun k => if k = 0 then iS0 else if k = 1 then iS1 else if k = 2 then iS2 else if k = 3 then iS3 else if k = 4 then iS4 else iS5), ?_⟩
  intro k q hq
  match k, hq with
  | 0, hq => cases hq; exact hKn0
  | 1, hq => cases hq; exact hKn1
  | 2, hq => cases hq; exact hKn2
  | 3, hq => cases hq; exact hKn3
  | 4, hq => cases hq; exact hKn4
  | 5, hq => cases hq; exact hKn5
  | k + 6, hq => simp [vwCl] at hq
theorem lw_tys {s : State} {b : Nat} (hts : ∀ w ∈ lw_tbl, w.before #[Value.ref b] s = true) : ∃ cs : CS3, ∀ (k : Nat) (q : ClassId × FieldType), (tyX cs)[k]? = some q → ArrOfT s q.1 q.2 ∧ va_RA s q.1 q.2 := by
  obtain ⟨c0, k0, p0, f0, g0, h0⟩ := Cond.arrayClass_spec (hts _ (lw_tg_in q_ac))
  obtain ⟨p1, c1, k1, e1, -, g1, h1, f1⟩ := Cond.arrayOver_spec (hts _ q_ao_84)
  obtain ⟨p2, c2, k2, e2, -, g2, h2, f2⟩ := Cond.arrayOver_spec (hts _ q_ao_104)
  refine ⟨(c0, c1, c2), ?_⟩
  intro k q hq
  match k, hq with
  | 0, hq => cases hq; exact ⟨fun n z => ⟨fun k h => (by cases h), k0, g0, p0, h0⟩, f0⟩
  | 1, hq => cases hq; exact ⟨fun n z => ⟨fun k h => (by cases h), k1, g1, p1, h1⟩, k1, p1, g1, h1, e1, f1⟩
  | 2, hq => cases hq; exact ⟨fun n z => ⟨fun k h => (by cases h), k2, g2, p2, h2⟩, k2, p2, g2, h2, e2, f2⟩
  | k + 3, hq => simp [tyX] at hq
theorem lw_nw {s : State} {b : Nat} (hts : ∀ w ∈ lw_tbl, w.before #[Value.ref b] s = true) : nw_ok s :=
  ⟨va_tabs rfl rfl (hts _ q_mn_RX5_11), va_tabs rfl rfl (hts _ q_mn_RX5_20), va_tabs rfl rfl (hts _ q_mn_RX5_31), va_tabs rfl rfl (hts _ q_mn_RX0_84), va_tabs rfl rfl (hts _ q_mn_RX4_21)⟩
theorem inv_0 : INV t0X t0M := by
  refine ⟨0, 0, 0, ⟨⟨rfl, by omega, rfl, by omega, rfl, by omega, fun k hk => ?_⟩, fun k hk => ?_, Iff.rfl, ⟨fun p hp => absurd hp (by omega), fun p hp => absurd hp (by omega), fun p hp => absurd hp (by omega), fun p hp => absurd hp (by omega)⟩, fun k hk => absurd hk (by omega)⟩, ⟨rfl, rfl, rfl, rfl, rfl⟩, ⟨rfl, rfl, rfl, rfl, rfl, rfl, rfl⟩, fun k hk => ?_⟩
  · rcases (show k = 0 ∨ k = 1 ∨ k = 2 ∨ k = 3 by omega) with rfl | rfl | rfl | rfl <;> exact ⟨0, by omega, rfl⟩
  · rcases (show k = 0 ∨ k = 1 ∨ k = 2 ∨ k = 3 by omega) with rfl | rfl | rfl | rfl <;> exact Or.inl rfl
  · rcases (show k = 0 ∨ k = 1 ∨ k = 2 ∨ k = 3 by omega) with rfl | rfl | rfl | rfl <;> exact ⟨rfl, fun h9 => absurd rfl h9⟩
set_option maxRecDepth 100000 in
set_option maxHeartbeats 4000000 in
/-- YOUR PART: from the entry, for every script of at most 3584 ints, the law comes to its end with true -/
theorem whole_start {p : Program} {e : Env} {s : State} {m : MethodId} {below : List Frame} {meth : Method} {c : Code} (l : Launch) (hflags : l.flags = flags0) {b L : Nat} {xs : Nat → Int32} (hL : L ≤ 3584) (C0 : lw_At p s m meth c b L xs) : W p l e room_1 s m #[Value.ref b] below meth c s.heap [] 0 0 (lw_Z below #[Value.ref b] s) (entryFrame m ([Value.ref b] : List Value).toArray 4) := by
  obtain ⟨hx, hb, hr, hml, hown, hts, hX, hbl, hlocks, hgv⟩ := id C0
  have htg : ∀ w ∈ lw_tg, w.before #[Value.ref b] s = true := fun w h => hts w (lw_tg_in h)
  obtain ⟨D, hKc⟩ := lw_classes htg
  obtain ⟨cs, hty⟩ := lw_tys hts
  have hE : aoR s := ⟨va_AO.of (hts _ q_ao_84), va_AO.of (hts _ q_ao_104)⟩
  have hC : CallFix p m c cL_law 4 s #[Value.ref b] lw_tg RL := ⟨hx, hb, hml, hown, htg⟩
  have hW : HX wI (tyX cs) D (fun q : Nat => s.heap.size ≤ q) s.heap s [] s.heap [] := ⟨⟨hKc, hty⟩, fun k q h => by simp at h, ⟨fun i j p q h => by simp at h, fun k q h => by simp at h⟩, va_S.rf, fun _ h => h, lw_nw hts⟩
  have hl := lv_entry ([.ref b]) (n := 4) (Nat.le_of_ble_eq_true rfl)
  rw [lg_entry_eq]
  generalize (lg_sl ([.ref b]) ++ List.replicate (4 - (lg_sl ([.ref b])).length) Slot.unset).toArray = ls at hl ⊢
  have hl : lv_has ls 4 [(0, .ref b)] := hl
  refine i_new (ci := 4) (fs := [.null, .null, .null, .null, .null, .null, .int 0, .int 0]) hC hW i_X5 tyX5 tyX5_ok q_cl_RL_7 q_is_RX5 q_in_RX5 rfl (fun j hj => by rcases (show j = 0 ∨ j = 1 ∨ j = 2 ∨ j = 3 ∨ j = 4 ∨ j = 5 ∨ j = 6 ∨ j = 7 by omega) with rfl | rfl | rfl | rfl | rfl | rfl | rfl | rfl <;> rfl) (Nat.le_of_ble_eq_true rfl) (Nat.le_of_ble_eq_true rfl) dL_law_0 (fun qx H hW => ?_)
  refine lv_dup hx hb dL_law_3 rfl ?_
  refine j_v (wr := []) (wc := [(qx, .inr (4, [.null, .null, .null, .null, .null, .null, .int 0, .int 0]))]) (i_runD (wr := []) (rest := [.ref qx]) (Ex := aoR) hC hW (m_X5_init l D cs qx) (fun a U g mk q => ⟨va_AO.moved (u := U) (U := U.calling g mk a) (Vm.Alike.refl U.vm) q.1, va_AO.moved (u := U) (U := U.calling g mk a) (Vm.Alike.refl U.vm) q.2⟩) (fun U hw => ⟨hE.1.moved hw.alike, hE.2.moved hw.alike⟩) k_yX5_init q_ml_RL_9 rfl hl.1 rfl (Nat.le_of_ble_eq_true rfl) ⟨(Nat.le_of_ble_eq_true rfl), (Nat.le_of_ble_eq_true rfl)⟩ dL_law_4 ⟨(Nat.le_of_ble_eq_true rfl), (Nat.le_of_ble_eq_true rfl)⟩) hW (fun w1 H locs hq1 hW => ?_)
  obtain ⟨ad, rfl, rfl⟩ := hq1
  refine lv_astore_n (lv' := [(1, .ref (ad 0)), (0, .ref b)]) hx hb dL_law_7 rfl hl (by decide) rfl (fun ls hl => ?_)
  refine i_new (ci := 5) (fs := [.int 0, .int 0, .null, .null, .null, .int 0, .int 0, .null, .null, .null, .null, .null, .int 0, .int 0, .int 0, .null, .null, .null, .null, .null, .int 0, .int 0, .null, .int 0, .int 0, .int 0, .null, .int 0, .null, .null]) hC hW i_X6 tyX6 tyX6_ok q_cl_RL_10 q_is_RX6 q_in_RX6 rfl (fun j hj => by rcases (show j = 0 ∨ j = 1 ∨ j = 2 ∨ j = 3 ∨ j = 4 ∨ j = 5 ∨ j = 6 ∨ j = 7 ∨ j = 8 ∨ j = 9 ∨ j = 10 ∨ j = 11 ∨ j = 12 ∨ j = 13 ∨ j = 14 ∨ j = 15 ∨ j = 16 ∨ j = 17 ∨ j = 18 ∨ j = 19 ∨ j = 20 ∨ j = 21 ∨ j = 22 ∨ j = 23 ∨ j = 24 ∨ j = 25 ∨ j = 26 ∨ j = 27 ∨ j = 28 ∨ j = 29 by omega) with rfl | rfl | rfl | rfl | rfl | rfl | rfl | rfl | rfl | rfl | rfl | rfl | rfl | rfl | rfl | rfl | rfl | rfl | rfl | rfl | rfl | rfl | rfl | rfl | rfl | rfl | rfl | rfl | rfl | rfl <;> rfl) (Nat.le_of_ble_eq_true rfl) (Nat.le_of_ble_eq_true rfl) dL_law_8 (fun qm H hW => ?_)
  refine lv_dup hx hb dL_law_11 rfl ?_
  refine j_v (wr := wX cs ad t0X) (wc := [(qm, .inr (5, [.int 0, .int 0, .null, .null, .null, .int 0, .int 0, .null, .null, .null, .null, .null, .int 0, .int 0, .int 0, .null, .null, .null, .null, .null, .int 0, .int 0, .null, .int 0, .int 0, .int 0, .null, .int 0, .null, .null]))]) (i_runD (wr := wX cs ad t0X) (rest := [.ref qm]) (Ex := fun _ => True) hC hW (m_X6_init l D cs qm) (fun _ _ _ _ _ => trivial) (fun _ _ => trivial) k_yX6_init q_ml_RL_12 rfl hl.1 rfl (Nat.le_of_ble_eq_true rfl) ⟨(Nat.le_of_ble_eq_true rfl), (Nat.le_of_ble_eq_true rfl)⟩ dL_law_12 ⟨(Nat.le_of_ble_eq_true rfl), (Nat.le_of_ble_eq_true rfl)⟩) hW (fun w1 H locs hq1 hW => ?_)
  obtain ⟨am, rfl, rfl⟩ := hq1
  refine lv_astore_n (lv' := [(2, .ref (am 0)), (1, .ref (ad 0)), (0, .ref b)]) hx hb dL_law_15 rfl hl (by decide) rfl (fun ls hl => ?_)
  refine lv_iconst (v := 0) hx hb dL_law_16 (by decide) ?_
  refine lv_istore_n (lv' := [(3, .int 0), (2, .ref (am 0)), (1, .ref (ad 0)), (0, .ref b)]) hx hb dL_law_17 rfl hl (by decide) rfl (fun ls hl => ?_)
  exact law_loop l hL C0 hC (L + 1) 0 (Nat.zero_le _) (by omega) t0X t0M _ _ (hx_swap (wr := wX cs ad t0X) (wc := wM cs am t0M) hW) inv_0 ls hl
