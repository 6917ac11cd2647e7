/-! both states changed alike -/
theorem am_flt {b t : St} (h : AM b t) (v : Int32) : AM (flt b v) (va_up t.1 0 v, t.2) := by
  obtain ⟨⟨h0, h1, h2, h3, h4⟩, hv, hs⟩ := h
  refine ⟨⟨rfl, h1, h2, h3, h4⟩, hv, fun k hk => ?_⟩
  have := hs k hk
  unfold shM flt at *
  simp (disch := omega) only [va_up_ne] at this ⊢
  exact this
theorem am_lv {b t : St} (h : AM b t) (n : Int32) : AM (lv1 b n) (va_up t.1 1 (31 * t.1 1 + n), t.2) := by
  obtain ⟨⟨h0, h1, h2, h3, h4⟩, hv, hs⟩ := h
  refine ⟨⟨h0, ?_, h2, h3, h4⟩, hv, fun k hk => ?_⟩
  · show 31 * t.1 1 + n = 31 * b.1 0 + n
    rw [h1]
  · have := hs k hk
    unfold shM lv1 at *
    simp (disch := omega) only [va_up_ne] at this ⊢
    exact this
theorem am_cnt {b t : St} (h : AM b t) (v : Int32) : AM (va_up b.1 4 v, b.2) (va_up t.1 12 v, t.2) := by
  obtain ⟨⟨h0, h1, h2, h3, h4⟩, hv, hs⟩ := h
  refine ⟨⟨h0, h1, h2, h3, rfl⟩, hv, fun k hk => ?_⟩
  have := hs k hk
  unfold shM at *
  simp (disch := omega) only [va_up_ne] at this ⊢
  exact this
theorem am_arr {b t : St} (h : AM b t) (kb kt : Nat) (f : Nat → Int32) (hk : (kb = 2 ∧ kt = 4) ∨ (kb = 3 ∧ kt = 5) ∨ (kb = 4 ∧ kt = 6) ∨ (kb = 5 ∧ kt = 7) ∨ (kb = 6 ∧ kt = 8) ∨ (kb = 8 ∧ kt = 16) ∨ (kb = 9 ∧ kt = 17)) : AM (b.1, va_up b.2 kb f) (t.1, va_up t.2 kt f) := by
  obtain ⟨ha, ⟨h4, h5, h6, h7, h8, h16, h17⟩, hs⟩ := h
  have hsh : ∀ k, k < 4 → shM (b.1, va_up b.2 kb f) (t.1, va_up t.2 kt f) k := by
    intro k hk2
    have := hs k hk2
    unfold shM at *
    simp (disch := omega) only [va_up_ne] at this ⊢
    exact this
  rcases hk with ⟨rfl, rfl⟩ | ⟨rfl, rfl⟩ | ⟨rfl, rfl⟩ | ⟨rfl, rfl⟩ | ⟨rfl, rfl⟩ | ⟨rfl, rfl⟩ | ⟨rfl, rfl⟩
  · exact ⟨ha, ⟨rfl, h5, h6, h7, h8, h16, h17⟩, hsh⟩
  · exact ⟨ha, ⟨h4, rfl, h6, h7, h8, h16, h17⟩, hsh⟩
  · exact ⟨ha, ⟨h4, h5, rfl, h7, h8, h16, h17⟩, hsh⟩
  · exact ⟨ha, ⟨h4, h5, h6, rfl, h8, h16, h17⟩, hsh⟩
  · exact ⟨ha, ⟨h4, h5, h6, h7, rfl, h16, h17⟩, hsh⟩
  · exact ⟨ha, ⟨h4, h5, h6, h7, h8, rfl, h17⟩, hsh⟩
  · exact ⟨ha, ⟨h4, h5, h6, h7, h8, h16, rfl⟩, hsh⟩
theorem rng2 {w : Int32} (h : 0 ≤ w ∧ w ≤ 1) : w = 0 ∨ w = 1 := by
  obtain ⟨j, hj, rfl⟩ := rng_ex (M := 1) (n := 1) (by decide) h
  rcases (show j = 0 ∨ j = 1 by omega) with rfl | rfl
  · exact Or.inl rfl
  · exact Or.inr rfl
theorem rng3 {w : Int32} (h : 0 ≤ w ∧ w ≤ 2) : w = 0 ∨ w = 1 ∨ w = 2 := by
  obtain ⟨j, hj, rfl⟩ := rng_ex (M := 2) (n := 2) (by decide) h
  rcases (show j = 0 ∨ j = 1 ∨ j = 2 by omega) with rfl | rfl | rfl
  · exact Or.inl rfl
  · exact Or.inr (Or.inl rfl)
  · exact Or.inr (Or.inr rfl)
