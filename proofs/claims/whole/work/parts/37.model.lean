/-! both states changed alike -/
theorem am_flt {b t : St} (h : AM b t) (v : Int32) : AM (flt b v) (va_up t.1 0 v, t.2) := by
  obtain ⟨⟨h0, h1, h2, h3, h4⟩, hv, hs⟩ := h
  refine ⟨⟨rfl, h1, h2, h3, h4⟩, hv, fun k hk => ?_⟩
  have := hs k hk
  unfold shM flt at *
  simp (disch := omega) only [va_up_ne] at this ⊢
  exact this
theorem am_lv {b t : St} (h : AM b t) (n : Int32) : AM (lv1 b n) (va_up t.1 1 (31 * t.1 1 + n), t.2) := by
  obtain ⟨⟨h0, h1, h2, h3, h4⟩, hv, hs⟩ := h
  refine ⟨⟨h0, ?_, h2, h3, h4⟩, hv, fun k hk => ?_⟩
  · show 31 * t.1 1 + n = 31 * b.1 0 + n
    rw [h1]
  · have := hs k hk
    unfold shM lv1 at *
    simp (disch := omega) only [va_up_ne] at this ⊢
    exact this
theorem am_cnt {b t : St} (h : AM b t) (v : Int32) : AM (va_up b.1 4 v, b.2) (va_up t.1 12 v, t.2) := by
  obtain ⟨⟨h0, h1, h2, h3, h4⟩, hv, hs⟩ := h
  refine ⟨⟨h0, h1, h2, h3, rfl⟩, hv, fun k hk => ?_⟩
  have := hs k hk
  unfold shM at *
  simp (disch := omega) only [va_up_ne] at this ⊢
  exact this
theorem am_arr {b t : St} (h : AM b t) (kb kt : Nat) (f : Nat → Int32) (hk : (kb = 2 ∧ kt = 4) ∨ (kb = 3 ∧ kt = 5) ∨ (kb = 4 ∧ kt = 6) ∨ (kb = 5 ∧ kt = 7) ∨ (kb = 6 ∧ kt = 8) ∨ (kb = 8 ∧ kt = 16) ∨ (kb = 9 ∧ kt = 17)) : AM (b.1, va_up b.2 kb f) (t.1, va_up t.2 kt f) := by
  obtain ⟨ha, ⟨h4, h5, h6, h7, h8, h16, h17⟩, hs⟩ := h
  have hsh : ∀ k, k < 4 → shM (b.1, va_up b.2 kb f) (t.1, va_up t.2 kt f) k := by
    intro k hk2
    have := hs k hk2
    unfold shM at *
    simp (disch := omega) only [va_up_ne] at this ⊢
    exact this
  rcases hk with ⟨rfl, rfl⟩ | ⟨rfl, rfl⟩ | ⟨rfl, rfl⟩ | ⟨rfl, rfl⟩ | ⟨rfl, rfl⟩ | ⟨rfl, rfl⟩ | ⟨rfl, rfl⟩
  · exact ⟨ha, ⟨rfl, h5, h6, h7, h8, h16, h17⟩, hsh⟩
  · exact ⟨ha, ⟨h4, rfl, h6, h7, h8, h16, h17⟩, hsh⟩
  · exact ⟨ha, ⟨h4, h5, rfl, h7, h8, h16, h17⟩, hsh⟩
  · exact ⟨ha, ⟨h4, h5, h6, rfl, h8, h16, h17⟩, hsh⟩
  · exact ⟨ha, ⟨h4, h5, h6, h7, rfl, h16, h17⟩, hsh⟩
  · exact ⟨ha, ⟨h4, h5, h6, h7, h8, rfl, h17⟩, hsh⟩
  · exact ⟨ha, ⟨h4, h5, h6, h7, h8, h16, rfl⟩, hsh⟩
theorem rng2 {w : Int32} (h : 0 ≤ w ∧ w ≤ 1) : w = 0 ∨ w = 1 := by
  obtain ⟨j, hj, rfl⟩ := rng_ex (M := 1) (n := 1) (by decide) h
  rcases (show j = 0 ∨ j = 1 by omega) with rfl | rfl
  · exact Or.inl rfl
  · exact Or.inr rfl
theorem rng3 {w : Int32} (h : 0 ≤ w ∧ w ≤ 2) : w = 0 ∨ w = 1 ∨ w = 2 := by
  obtain ⟨j, hj, rfl⟩ := rng_ex (M := 2) (n := 2) (by decide) h
  rcases (show j = 0 ∨ j = 1 ∨ j = 2 by omega) with rfl | rfl | rfl
  · exact Or.inl rfl
  · exact Or.inr (Or.inl rfl)
  · exact Or.inr (Or.inr rfl)
theorem am_new {b t : St} {k : Nat} {a n : Int32} (h : AM b t) (hk : k < 4) (ha : a = 0 ∨ a = 1 ∨ a = 2) : AM (newS (flt b 0) k a n) (va_up t.1 0 0, va_up (va_up (va_up t.2 1 (upd (t.2 1) k a)) 2 (upd (t.2 2) k n)) 3 (fun j => if 60 * k ≤ j ∧ j < 60 * k + 60 then 0 else t.2 3 j)) := by
  obtain ⟨⟨h0, h1, h2, h3, h4⟩, ⟨h5, h6, h7, h8, h9, h16, h17⟩, hs⟩ := h
  have hna : ¬ a = -1 := by rcases ha with rfl | rfl | rfl <;> decide
  refine ⟨⟨?_, ?_, ?_, ?_, ?_⟩, ⟨?_, ?_, ?_, ?_, ?_, ?_, ?_⟩, fun i hi => ?_⟩
  · unfold newS flt; simp (disch := omega) only [va_up_ne, va_up_self]
  · unfold newS flt; simp (disch := omega) only [va_up_ne, va_up_self]; exact h1
  · unfold newS flt; simp (disch := omega) only [va_up_ne, va_up_self]; exact h2
  · unfold newS flt; simp (disch := omega) only [va_up_ne, va_up_self]; exact h3
  · unfold newS flt; simp (disch := omega) only [va_up_ne, va_up_self]; exact h4
  · unfold newS flt; simp (disch := omega) only [va_up_ne, va_up_self]; exact h5
  · unfold newS flt; simp (disch := omega) only [va_up_ne, va_up_self]; exact h6
  · unfold newS flt; simp (disch := omega) only [va_up_ne, va_up_self]; exact h7
  · unfold newS flt; simp (disch := omega) only [va_up_ne, va_up_self]; exact h8
  · unfold newS flt; simp (disch := omega) only [va_up_ne, va_up_self]; exact h9
  · unfold newS flt; simp (disch := omega) only [va_up_ne, va_up_self]; exact h16
  · unfold newS flt; simp (disch := omega) only [va_up_ne, va_up_self]; exact h17
  · by_cases hik : i = k
    · subst hik
      unfold shM newS flt
      simp (disch := omega) only [va_up_ne, va_up_self, pk_us]
      refine ⟨(if_neg hna).symm, fun _ => ⟨trivial, fun j hj => if_pos (by omega)⟩⟩
    · have h10 := hs i hi
      unfold shM newS flt at *
      simp (disch := omega) only [va_up_ne, va_up_self, pk_un] at h10 ⊢
      refine ⟨h10.1, fun h11 => ⟨(h10.2 h11).1, fun j hj => ?_⟩⟩
      rw [if_neg (by omega)]
      exact (h10.2 h11).2 j hj
theorem am_lose {b t : St} {k : Nat} (h : AM b t) (hk : k < 4) : AM (newS b k (-1) 0) (t.1, va_up t.2 1 (upd (t.2 1) k (-9))) := by
  obtain ⟨⟨h0, h1, h2, h3, h4⟩, ⟨h5, h6, h7, h8, h9, h16, h17⟩, hs⟩ := h
  refine ⟨⟨?_, ?_, ?_, ?_, ?_⟩, ⟨?_, ?_, ?_, ?_, ?_, ?_, ?_⟩, fun i hi => ?_⟩
  · unfold newS; simp (disch := omega) only [va_up_ne, va_up_self]; exact h0
  · unfold newS; simp (disch := omega) only [va_up_ne, va_up_self]; exact h1
  · unfold newS; simp (disch := omega) only [va_up_ne, va_up_self]; exact h2
  · unfold newS; simp (disch := omega) only [va_up_ne, va_up_self]; exact h3
  · unfold newS; simp (disch := omega) only [va_up_ne, va_up_self]; exact h4
  · unfold newS; simp (disch := omega) only [va_up_ne, va_up_self]; exact h5
  · unfold newS; simp (disch := omega) only [va_up_ne, va_up_self]; exact h6
  · unfold newS; simp (disch := omega) only [va_up_ne, va_up_self]; exact h7
  · unfold newS; simp (disch := omega) only [va_up_ne, va_up_self]; exact h8
  · unfold newS; simp (disch := omega) only [va_up_ne, va_up_self]; exact h9
  · unfold newS; simp (disch := omega) only [va_up_ne, va_up_self]; exact h16
  · unfold newS; simp (disch := omega) only [va_up_ne, va_up_self]; exact h17
  · by_cases hik : i = k
    · subst hik
      unfold shM newS
      simp (disch := omega) only [va_up_ne, va_up_self, pk_us]
      exact ⟨(if_pos trivial).symm, fun h11 => absurd trivial h11⟩
    · have h10 := hs i hi
      unfold shM newS at *
      simp (disch := omega) only [va_up_ne, va_up_self, pk_un] at h10 ⊢
      exact h10
theorem ls_out {x : Int32} (h1 : ¬ x = 1) (h2 : ¬ x = 2) : Op.lookupswitch.offset (#[(1, 25), (2, 40)] : Array (Int × Int)).toList 67 x.toInt = 67 := by
  have e1 : ¬ x.toInt = 1 := fun h => h1 (Int32.toInt_inj.mp (by rw [h]; rfl))
  have e2 : ¬ x.toInt = 2 := fun h => h2 (Int32.toInt_inj.mp (by rw [h]; rfl))
  simp [Op.lookupswitch.offset, e1, e2, Ne.symm e1, Ne.symm e2]
theorem two_mul9 (x : Int32) : 2 * x + 100 = x + 100 + x := by
  have e : (2 : Int32) * x = x + x := by
    rw [show (2 : Int32) = 1 + 1 from rfl, Int32.add_mul, Int32.one_mul]
  rw [e, Int32.add_assoc, Int32.add_comm x 100, ← Int32.add_assoc, Int32.add_comm x 100]
def rowZ (f : Nat → Int32) (k z : Nat) : Nat → Int32 := fun j => if 60 * k ≤ j ∧ j < 60 * k + z then 0 else f j
theorem rowZ_0 (f : Nat → Int32) (k : Nat) : rowZ f k 0 = f := by
  funext j; unfold rowZ; rw [if_neg (by omega)]
theorem rowZ_s (f : Nat → Int32) (k z : Nat) : upd (rowZ f k z) (60 * k + z) 0 = rowZ f k (z + 1) := by
  funext j
  simp only [rowZ, upd]
  by_cases h9 : j = 60 * k + z
  · rw [if_pos h9, if_pos (by omega)]
  · rw [if_neg h9]
    by_cases h8 : 60 * k ≤ j ∧ j < 60 * k + z
    · rw [if_pos h8, if_pos (by omega)]
    · rw [if_neg h8, if_neg (by omega)]
