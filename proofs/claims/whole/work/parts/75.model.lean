/-! what the calls keep -/
abbrev WFe (a : St) : Prop := ∃ P R C, WF a P R C
theorem wf_c {a u : St} {P R C : Nat} (h : WF a P R C) (h1 : ∀ k, 2 ≤ k → k < 13 → u.1 k = a.1 k) (h2 : u.2 2 = a.2 2) (h3 : u.2 3 = a.2 3) (h5 : u.2 5 = a.2 5) (h6 : u.2 6 = a.2 6) (h8 : u.2 8 = a.2 8) : WF u P R C := by
  obtain ⟨⟨b1, b2, b3, b4, b5, b6, b7⟩, l4, hPR, ⟨r1, r2, r3, r4⟩, hr⟩ := h
  refine ⟨⟨(h1 2 (by omega) (by omega)).trans b1, b2, (h1 3 (by omega) (by omega)).trans b3, b4, (h1 4 (by omega) (by omega)).trans b5, b6, fun k hk => ?_⟩, fun k hk => ?_, hPR, ⟨?_, ?_, ?_, ?_⟩, ?_⟩
  · rw [h1 (6 + 2 * k) (by omega) (by omega)]; exact b7 k hk
  · rw [h1 (5 + 2 * k) (by omega) (by omega)]; exact l4 k hk
  · rw [h2]; exact r1
  · rw [h3]; exact r2
  · rw [h5]; exact r3
  · rw [h6]; exact r4
  · rw [h8]; exact hr
theorem wf_la {a u : St} {P R C : Nat} (h : WF a P R C) (hl : LA a u) : WF u P R C :=
  wf_c h (fun k _ hk => hl.1 k hk) (hl.2 2 (by omega) (by omega) (by omega)) (hl.2 3 (by omega) (by omega) (by omega)) (hl.2 5 (by omega) (by omega) (by omega)) (hl.2 6 (by omega) (by omega) (by omega)) (hl.2 8 (by omega) (by omega) (by omega))
theorem am_la {a u v : St} (h : AM a v) (hl : LA a u) : AM u v := by
  obtain ⟨⟨a0, a1, a2, a3, a4⟩, ⟨w4, w5, w6, w7, w8, w16, w17⟩, hsh⟩ := h
  refine ⟨⟨a0.trans (hl.1 1 (by omega)).symm, a1.trans (hl.1 0 (by omega)).symm, a2.trans (hl.1 2 (by omega)).symm, a3.trans (hl.1 3 (by omega)).symm, a4.trans (hl.1 4 (by omega)).symm⟩, ⟨w4.trans (hl.2 2 (by omega) (by omega) (by omega)).symm, w5.trans (hl.2 3 (by omega) (by omega) (by omega)).symm, w6.trans (hl.2 4 (by omega) (by omega) (by omega)).symm, w7.trans (hl.2 5 (by omega) (by omega) (by omega)).symm, w8.trans (hl.2 6 (by omega) (by omega) (by omega)).symm, w16.trans (hl.2 8 (by omega) (by omega) (by omega)).symm, w17.trans (hl.2 9 (by omega) (by omega) (by omega)).symm⟩, fun k hk => ?_⟩
  have h9 := hsh k hk
  unfold shM at *
  rw [hl.1 (5 + 2 * k) (by omega), hl.1 (6 + 2 * k) (by omega), hl.2 (15 + 2 * k) (by omega) (by omega) (by omega)]
  exact h9
def INV (t v : St) : Prop := ∃ P R C, WF t P R C ∧ AM t v
theorem inv_next {a u v : St} (h : WFe a) (hl : LA a u) (hm : AM a v) : INV u v := by
  obtain ⟨P, R, C, h⟩ := h
  exact ⟨P, R, C, wf_la h hl, am_la hm hl⟩
section STEPS
variable {t : St} {P R C : Nat}
theorem wf_flt (h : WF t P R C) (v : Int32) : WF (flt t v) P R C :=
  wf_c h (fun k h1 _ => va_up_ne _ _ (by omega)) rfl rfl rfl rfl rfl
theorem e_t (h : WF t P R C) : WFe t := ⟨P, R, C, h⟩
theorem e_f (h : WF t P R C) (v : Int32) : WFe (flt t v) := ⟨P, R, C, wf_flt h v⟩
theorem e_lv (h : WF t P R C) (v : Int32) : WF (lv1 t v) P R C :=
  wf_c h (fun k h1 _ => va_up_ne _ _ (by omega)) rfl rfl rfl rfl rfl
theorem dig9 {v : Int32} {M : Nat} {n : Int32} (hM : M < 2 ^ 31) (hn : n = nI M) (h : 0 ≤ v ∧ v ≤ n) : ∃ j, j ≤ M ∧ v = nI j := by
  obtain ⟨j, hj, rfl⟩ := nI_of (x := v) (Int32.not_lt.mpr h.1)
  rw [hn] at h
  exact ⟨j, (nI_leI (by omega) (by omega)).mp h.2, rfl⟩
theorem e_ofPace (h : WF t P R C) (p w : Int32) : WFe (F_ofPace t P p w).2 := by
  unfold F_ofPace; repeat' split
  all_goals exact e_t h
theorem e_ofRider (h : WF t P R C) (p w : Int32) : WFe (F_ofRider t R p w).2 := by
  unfold F_ofRider; repeat' split
  all_goals exact e_t h
theorem rng_up {f : Nat → Int32} {N M q : Nat} {v : Int32} (h : ∀ p, p < N → ∃ j, j ≤ M ∧ f p = nI j) (hv : ∃ j, j ≤ M ∧ v = nI j) : ∀ p, p < N → ∃ j, j ≤ M ∧ upd f q v p = nI j := by
  intro p hp
  by_cases e : p = q
  · rw [e, pk_us]; exact hv
  · rw [pk_un e]; exact h p hp
theorem e_scratch (h : WF t P R C) (p v : Int32) : WFe (F_scratch t P p v).2 := by
  unfold F_scratch; repeat' split
  · rename_i h1 h2
    obtain ⟨hb, l4, hPR, ⟨r1, r2, r3, r4⟩, hr⟩ := h
    exact ⟨P, R, C, hb, l4, hPR, ⟨r1, rng_up r2 (dig9 (M := 9) (by decide) rfl h2), r3, r4⟩, hr⟩
  all_goals exact e_t h
theorem e_speed (h : WF t P R C) (r v : Int32) : WFe (F_speed t R r v).2 := by
  unfold F_speed; repeat' split
  · rename_i h1 h2
    obtain ⟨hb, l4, hPR, ⟨r1, r2, r3, r4⟩, hr⟩ := h
    exact ⟨P, R, C, hb, l4, hPR, ⟨r1, r2, rng_up r3 (dig9 (M := 99) (by decide) rfl h2), r4⟩, hr⟩
  all_goals exact e_t h
theorem e_shoe (h : WF t P R C) (r v : Int32) : WFe (F_shoe t R r v).2 := by
  unfold F_shoe; repeat' split
  · rename_i h1 h2
    obtain ⟨hb, l4, hPR, ⟨r1, r2, r3, r4⟩, hr⟩ := h
    exact ⟨P, R, C, hb, l4, hPR, ⟨r1, r2, r3, rng_up r4 (dig9 (M := 9) (by decide) rfl h2)⟩, hr⟩
  all_goals exact e_t h
theorem e_takes (h : WF t P R C) (r p s : Int32) : WFe (F_takes t P R r p s).2 := by
  unfold F_takes; repeat' split
  all_goals exact e_t h
theorem e_days (h : WF t P R C) (x a i n w : Int32) : WFe (F_days t P R x a i n w).2 := by
  unfold F_days; split
  all_goals exact e_f h _
theorem e_fewest (h : WF t P R C) (r k : Int32) : WFe (F_fewest t P R r k).2 := by
  unfold F_fewest; repeat' split
  all_goals exact e_t h
theorem e_sand (h : WF t P R C) (r : Int32) : WFe (F_sand t P R r).2 := by
  unfold F_sand; repeat' split
  all_goals exact e_t h
theorem e_game (h : WF t P R C) (r o n : Int32) : WFe (F_game t P R r o n).2 := by
  unfold F_game; repeat' split
  all_goals exact e_t h
theorem e_worth (h : WF t P R C) (r : Int32) : WFe (F_worth t P R r).2 := by
  unfold F_worth; repeat' split
  all_goals exact e_t h
theorem e_reading (h : WF t P R C) (r y : Int32) : WFe (F_reading t R C r y).2 := by
  unfold F_reading; repeat' split
  · exact e_t h
  · rename_i h1 h2 h3
    obtain ⟨⟨b1, b2, b3, b4, b5, b6, b7⟩, l4, hPR, ⟨r1, r2, r3, r4⟩, hr⟩ := h
    obtain ⟨q, hq, rfl⟩ := inN_ex h1 (by omega)
    have hC : C < 8 := by
      rcases Nat.lt_or_ge C 8 with h4 | h4
      · exact h4
      · exact absurd (by rw [b5]; exact nI_le (a := 8) (b := C) h4 (by omega)) h3
    refine ⟨P, R, C + 1, ⟨b1, b2, b3, b4, rfl, by omega, fun k hk => ?_⟩, fun k hk => ?_, hPR, ⟨r1, r2, r3, r4⟩, fun k hk => ?_⟩
    · show ∃ z, z ≤ 60 ∧ va_up t.1 4 _ (6 + 2 * k) = nI z
      rw [va_up_ne _ _ (by omega)]; exact b7 k hk
    · show va_up t.1 4 _ (5 + 2 * k) = -1 ∨ va_up t.1 4 _ (5 + 2 * k) = 0 ∨ va_up t.1 4 _ (5 + 2 * k) = 1 ∨ va_up t.1 4 _ (5 + 2 * k) = 2
      rw [va_up_ne _ _ (by omega)]; exact l4 k hk
    · show ∃ q, q < R ∧ upd (t.2 8) C _ k = nI q
      by_cases e : k = C
      · rw [e, pk_us]; exact ⟨q, hq, rfl⟩
      · rw [pk_un e]; exact hr k (by omega)
  all_goals exact e_t h
theorem e_back (h : WF t P R C) (k : Int32) : WFe (F_back t k).2 := by
  unfold F_back; split
  · rename_i h1
    obtain ⟨⟨b1, b2, b3, b4, b5, b6, b7⟩, l4, hPR, ⟨r1, r2, r3, r4⟩, hr⟩ := h
    rw [b5] at h1
    obtain ⟨j, hj, rfl⟩ := dig9 (M := C) (by omega) rfl h1
    refine ⟨P, R, C - j, ⟨b1, b2, b3, b4, by show t.1 4 - nI j = nI (C - j); rw [b5, pk_sub hj], by omega, fun k hk => ?_⟩, fun k hk => ?_, hPR, ⟨r1, r2, r3, r4⟩, fun k hk => hr k (by omega)⟩
    · show ∃ z, z ≤ 60 ∧ va_up t.1 4 _ (6 + 2 * k) = nI z
      rw [va_up_ne _ _ (by omega)]; exact b7 k hk
    · show va_up t.1 4 _ (5 + 2 * k) = -1 ∨ va_up t.1 4 _ (5 + 2 * k) = 0 ∨ va_up t.1 4 _ (5 + 2 * k) = 1 ∨ va_up t.1 4 _ (5 + 2 * k) = 2
      rw [va_up_ne _ _ (by omega)]; exact l4 k hk
  · exact e_t h
theorem e_speeds (h : WF t P R C) (r x a i n w : Int32) : WFe (F_speeds t P R C r x a i n w).2 := by
  unfold F_speeds; repeat' split
  all_goals exact e_f h _
theorem e_set (h : WF t P R C) (cell mo : Nat) (ok : Prop) [Decidable ok] (q : Nat) (x a i n : Int32) : WFe (F_set t P R C cell mo ok q x a i n).2 := by
  unfold F_set; repeat' split
  all_goals exact e_f h _
theorem e_odds (h : WF t P R C) (r x a i n w : Int32) : WFe (F_odds t P R r x a i n w).2 := by
  unfold F_odds; repeat' split
  all_goals exact e_f h _
theorem wf_new (h : WF t P R C) {k : Nat} (hk : k < 4) {a n : Int32} (ha : a = -1 ∨ a = 0 ∨ a = 1 ∨ a = 2) (hn : ∃ z, z ≤ 60 ∧ n = nI z) : WF (newS t k a n) P R C := by
  obtain ⟨⟨b1, b2, b3, b4, b5, b6, b7⟩, l4, hPR, ⟨r1, r2, r3, r4⟩, hr⟩ := h
  unfold newS
  refine ⟨⟨?_, b2, ?_, b4, ?_, b6, fun j hj => ?_⟩, fun j hj => ?_, hPR, ⟨?_, ?_, ?_, ?_⟩, ?_⟩
  · simp (disch := omega) only [va_up_ne]; exact b1
  · simp (disch := omega) only [va_up_ne]; exact b3
  · simp (disch := omega) only [va_up_ne]; exact b5
  · show ∃ z, z ≤ 60 ∧ va_up (va_up t.1 (5 + 2 * k) a) (6 + 2 * k) n (6 + 2 * j) = nI z
    by_cases e : j = k
    · rw [e, va_up_self]; exact hn
    · rw [va_up_ne _ _ (by omega), va_up_ne _ _ (by omega)]; exact b7 j hj
  · show va_up (va_up t.1 (5 + 2 * k) a) (6 + 2 * k) n (5 + 2 * j) = -1 ∨ va_up (va_up t.1 (5 + 2 * k) a) (6 + 2 * k) n (5 + 2 * j) = 0 ∨ va_up (va_up t.1 (5 + 2 * k) a) (6 + 2 * k) n (5 + 2 * j) = 1 ∨ va_up (va_up t.1 (5 + 2 * k) a) (6 + 2 * k) n (5 + 2 * j) = 2
    by_cases e : j = k
    · rw [e, va_up_ne _ _ (by omega), va_up_self]; exact ha
    · rw [va_up_ne _ _ (by omega), va_up_ne _ _ (by omega)]; exact l4 j hj
  · simp (disch := omega) only [va_up_ne]; exact r1
  · simp (disch := omega) only [va_up_ne]; exact r2
  · simp (disch := omega) only [va_up_ne]; exact r3
  · simp (disch := omega) only [va_up_ne]; exact r4
  · simp (disch := omega) only [va_up_ne]; exact hr
theorem sh_ex {x : Int32} (h : 0 ≤ x ∧ x ≤ 3) : ∃ k, k < 4 ∧ x = nI k := by
  obtain ⟨k, hk, e⟩ := dig9 (M := 3) (by decide) rfl h
  exact ⟨k, by omega, e⟩
theorem e_sheet (h : WF t P R C) (x a n : Int32) : WFe (F_sheet t x a n).2 := by
  unfold F_sheet; repeat' split
  · exact e_f h _
  · rename_i h1 h2 h3 h4
    obtain ⟨k, hk, rfl⟩ := sh_ex h1
    obtain ⟨j, hj, rfl⟩ := dig9 (M := 2) (by decide) rfl h2
    obtain ⟨z, hz, rfl⟩ := dig9 (M := 60) (by decide) rfl ⟨Int32.not_lt.mp h4, h3⟩
    refine ⟨P, R, C, wf_new (wf_flt h 0) (by rw [nI_clamp (by omega)]; exact hk) ?_ ⟨z, hz, rfl⟩⟩
    rcases (show j = 0 ∨ j = 1 ∨ j = 2 by omega) with rfl | rfl | rfl
    · exact Or.inr (Or.inl rfl)
    · exact Or.inr (Or.inr (Or.inl rfl))
    · exact Or.inr (Or.inr (Or.inr rfl))
  all_goals exact e_f h _
theorem e_lose (h : WF t P R C) (x : Int32) : WFe (F_lose t x).2 := by
  unfold F_lose; split
  · rename_i h1
    obtain ⟨k, hk, rfl⟩ := sh_ex h1
    have hw := wf_new (k := (nI k).toNatClampNeg) (a := -1) (n := 0) h (by rw [nI_clamp (by omega)]; exact hk) (Or.inl rfl) ⟨0, by omega, rfl⟩
    split
    · exact ⟨P, R, C, hw⟩
    · exact ⟨P, R, C, hw⟩
  · exact e_t h
theorem wf_cel (h : WF t P R C) (k : Nat) (f : Nat → Int32) : WF (t.1, va_up t.2 (15 + 2 * k) f) P R C :=
  wf_c h (fun _ _ _ => rfl) (va_up_ne _ _ (by omega)) (va_up_ne _ _ (by omega)) (va_up_ne _ _ (by omega)) (va_up_ne _ _ (by omega)) (va_up_ne _ _ (by omega))
theorem e_put (h : WF t P R C) (x i v : Int32) : WFe (F_put t x i v).2 := by
  unfold F_put; repeat' split
  · exact ⟨P, R, C, wf_cel (wf_flt h 0) _ _⟩
  all_goals exact e_f h _
theorem e_cell (h : WF t P R C) (x i a : Int32) : WFe (F_cell t x i a).2 := by
  unfold F_cell; repeat' split
  all_goals exact e_f h _
theorem e_copy (h : WF t P R C) (x i y j n : Int32) : WFe (F_copy t x i y j n).2 := by
  unfold F_copy; repeat' split
  all_goals first | exact e_f h _ | exact ⟨P, R, C, wf_cel (wf_flt h 0) _ _⟩
theorem e_tell (h : WF t P R C) (r : Int32) : WFe (F_tell t R r).2 := by
  unfold F_tell; repeat' split
  · exact ⟨P, R, C, e_lv (e_lv (e_lv (e_lv h _) _) _) _⟩
  · exact ⟨P, R, C, e_lv (e_lv h _) _⟩
  · exact ⟨P, R, C, e_lv h _⟩
  · exact e_t h
theorem e_cheer (h : WF t P R C) (r : Int32) : WFe (F_cheer t R r).2 := by
  unfold F_cheer; repeat' split
  · exact ⟨P, R, C, e_lv h _⟩
  · exact ⟨P, R, C, e_lv h _⟩
  · exact e_t h
theorem e_as (h : WF t P R C) (r k : Int32) : WFe (F_as t R r k).2 := by
  unfold F_as; repeat' split
  all_goals exact e_f h _
theorem e_as0 (h : WF t P R C) (r k : Int32) : WFe (F_many t k).2 := by
  unfold F_many; repeat' split
  all_goals exact e_t h
theorem dg_ex {y : Int32} (h1 : 48 ≤ y) (h2 : y ≤ 57) : ∃ j, j ≤ 9 ∧ y - 48 = nI j := by
  obtain ⟨j, hj, rfl⟩ := nI_of (x := y) (Int32.not_lt.mpr (Int32.le_trans (by decide) h1))
  have h3 := (nI_leI (a := 48) (b := j) (by omega) (by omega)).mp h1
  have h4 := (nI_leI (a := j) (b := 57) (by omega) (by omega)).mp h2
  exact ⟨j - 48, by omega, pk_sub (a := j) (b := 48) h3⟩
theorem e_hill (h : WF t P R C) (x a i n : Int32) : WFe (F_hill t x a i n).2 := by
  unfold F_hill; repeat' split
  · rename_i h1 h2 h3 h4
    obtain ⟨k, hk, rfl⟩ := sh_ex h1
    obtain ⟨z0, hz0, ez0⟩ := h.1.2.2.2.2.2.2 k hk
    unfold focT at h3
    rw [nI_clamp (by omega), ez0] at h3
    obtain ⟨i0, n0, rfl, rfl, hi1, hi2, hi3⟩ := foc_ex hz0 h3
    rw [nI_clamp (show k < 2 ^ 31 by omega), nI_clamp (show i0 < 2 ^ 31 by omega), nI_clamp (show n0 < 2 ^ 31 by omega)] at *
    generalize t.2 (15 + 2 * k) = f at *
    obtain ⟨P1, R1, eP, hP2, hP8, en, hR1, hR5, etx, etr, hg⟩ := ff_ok (by omega) h4
    rw [etx, etr]
    have hgo : ∀ q, 2 ≤ q → q < n0 → goP q (f (i0 + q)) P1 := fun q h5 h6 => by
      have h7 := hg q h6
      rw [PP_P eP hP8 h5] at h7
      exact h7
    obtain ⟨⟨b1, b2, b3, b4, b5, b6, b7⟩, l4, hPR, ⟨r1, r2, r3, r4⟩, hr⟩ := h
    refine ⟨P1, R1, 0, ⟨rfl, hP8, rfl, hR5, rfl, by omega, fun k hk => ?_⟩, fun k hk => ?_, by omega, ⟨fun p hp => ?_, fun p hp => ?_, fun r hr => ?_, fun r hr => ?_⟩, fun k hk => absurd hk (by omega)⟩
    · show ∃ z, z ≤ 60 ∧ va_up (va_up (va_up (va_up t.1 1 0) 2 _) 3 _) 4 _ (6 + 2 * k) = nI z
      rw [va_up_ne _ _ (by omega), va_up_ne _ _ (by omega), va_up_ne _ _ (by omega), va_up_ne _ _ (by omega)]; exact b7 k hk
    · show va_up (va_up (va_up (va_up t.1 1 0) 2 _) 3 _) 4 _ (5 + 2 * k) = -1 ∨ va_up (va_up (va_up (va_up t.1 1 0) 2 _) 3 _) 4 _ (5 + 2 * k) = 0 ∨ va_up (va_up (va_up (va_up t.1 1 0) 2 _) 3 _) 4 _ (5 + 2 * k) = 1 ∨ va_up (va_up (va_up (va_up t.1 1 0) 2 _) 3 _) 4 _ (5 + 2 * k) = 2
      rw [va_up_ne _ _ (by omega), va_up_ne _ _ (by omega), va_up_ne _ _ (by omega), va_up_ne _ _ (by omega)]; exact l4 k hk
    · show ∃ j, j ≤ 9 ∧ selF (fun p => f (i0 + 2 + p) - 48) (t.2 2) P1 p = nI j
      unfold selF; rw [if_pos hp]
      have h5 := hgo (2 + p) (by omega) (by omega)
      rw [go_D hp, show i0 + (2 + p) = i0 + 2 + p by omega] at h5
      exact dg_ex h5.1 h5.2
    · show ∃ j, j ≤ 9 ∧ selF (fun _ => 0) (t.2 3) P1 p = nI j
      unfold selF; rw [if_pos hp]
      exact ⟨0, by omega, rfl⟩
    · show ∃ j, j ≤ 99 ∧ selF (fun r => 10 * (f (i0 + 2 + P1 + r * 5 + 2) - 48) + (f (i0 + 2 + P1 + r * 5 + 3) - 48)) (t.2 5) R1 r = nI j
      unfold selF; rw [if_pos hr]
      have h5 := hgo (2 + P1 + 5 * r + 1 + 1) (by omega) (by omega)
      have h6 := hgo (2 + P1 + 5 * r + 1 + 2) (by omega) (by omega)
      rw [go_N (by omega) (by omega) (by omega), show i0 + (2 + P1 + 5 * r + 1 + 1) = i0 + 2 + P1 + r * 5 + 2 by omega] at h5
      rw [go_N (by omega) (by omega) (by omega), show i0 + (2 + P1 + 5 * r + 1 + 2) = i0 + 2 + P1 + r * 5 + 3 by omega] at h6
      obtain ⟨j1, hj1, e1⟩ := dg_ex h5.1 h5.2
      obtain ⟨j2, hj2, e2⟩ := dg_ex h6.1 h6.2
      refine ⟨10 * j1 + j2, by omega, ?_⟩
      show 10 * (f (i0 + 2 + P1 + r * 5 + 2) - 48) + (f (i0 + 2 + P1 + r * 5 + 3) - 48) = _
      rw [e1, e2, show (10 : Int32) = nI 10 from rfl, pk_mul, nI_add]
    · show ∃ j, j ≤ 9 ∧ selF (fun r => f (i0 + 2 + P1 + r * 5 + 4) - 48) (t.2 6) R1 r = nI j
      unfold selF; rw [if_pos hr]
      have h5 := hgo (2 + P1 + 5 * r + 1 + 3) (by omega) (by omega)
      rw [go_N (by omega) (by omega) (by omega), show i0 + (2 + P1 + 5 * r + 1 + 3) = i0 + 2 + P1 + r * 5 + 4 by omega] at h5
      exact dg_ex h5.1 h5.2
  all_goals exact e_f h _
end STEPS
