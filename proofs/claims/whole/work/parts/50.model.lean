/-! one rider of a hill's text, as the reference reads it -/
def okC (a : Nat → Int32) (z0 x j : Nat) : Prop := x + j < z0 ∧ (if j = 0 then (a x = 114 ∨ a x = 110 ∨ a x = 108) else (48 ≤ a (x + j) ∧ a (x + j) ≤ 57))
def frR (k : Nat) (t u : St) : Prop := (∀ j, j ≠ 4 → j ≠ 6 → u.1 j = t.1 j) ∧ (∀ j, j ≠ 10 → u.2 j = t.2 j) ∧ ∀ j, j < 3 * k → u.2 10 j = t.2 10 j
def RR (z0 x0 k : Nat) (t u : St) (r : Int32) : Prop := frR k t u ∧ ((r = 1 ∧ (∀ j, j < 4 → okC (t.2 3) z0 x0 j) ∧ u.1 4 = nI (x0 + 4) ∧ u.1 6 = nI (k + 1) ∧ u.2 10 (3 * k) = kindF (t.2 3 x0) ∧ u.2 10 (3 * k + 1) = 10 * (t.2 3 (x0 + 1) - 48) + (t.2 3 (x0 + 2) - 48) ∧ u.2 10 (3 * k + 2) = t.2 3 (x0 + 3) - 48) ∨ (r = 0 ∧ ∃ j, j < 4 ∧ (∀ i, i < j → okC (t.2 3) z0 x0 i) ∧ ¬ okC (t.2 3) z0 x0 j ∧ u.1 4 = nI (x0 + j)))
theorem dg_ne {y : Int32} (h1 : 48 ≤ y) (h2 : y ≤ 57) : ¬ y - 48 = -9 := by
  intro h
  have e : y = 39 := by
    have h3 := congrArg (fun q => q + 48) h
    simp only [Int32.sub_add_cancel] at h3
    rw [h3]; rfl
  rw [e] at h1
  exact absurd h1 (by decide)
theorem dg_case {x0 z0 : Nat} {t u : St} {r : Int32} (h : if x0 < z0 ∧ (48 + 0 ≤ t.2 3 x0 ∧ t.2 3 x0 ≤ 48 + 9) then r = t.2 3 x0 - 48 ∧ u = (va_up t.1 4 (nI (x0 + 1)), t.2) else r = -9 ∧ u = t) : (r = -9 ∧ ¬ (x0 < z0 ∧ 48 ≤ t.2 3 x0 ∧ t.2 3 x0 ≤ 57) ∧ u = t) ∨ (¬ r = -9 ∧ (x0 < z0 ∧ 48 ≤ t.2 3 x0 ∧ t.2 3 x0 ≤ 57) ∧ r = t.2 3 x0 - 48 ∧ u = (va_up t.1 4 (nI (x0 + 1)), t.2)) := by
  have e1 : (48 : Int32) + 0 = 48 := rfl
  have e2 : (48 : Int32) + 9 = 57 := rfl
  rw [e1, e2] at h
  by_cases hc : x0 < z0 ∧ 48 ≤ t.2 3 x0 ∧ t.2 3 x0 ≤ 57
  · rw [if_pos hc] at h
    exact Or.inr ⟨by rw [h.1]; exact dg_ne hc.2.1 hc.2.2, hc, h⟩
  · rw [if_neg hc] at h
    exact Or.inl ⟨h.1, hc, h.2⟩
