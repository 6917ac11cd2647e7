/-! the hill as built, in the reference's own state -/
theorem am_bld {b t u : St} {a : Nat → Int32} {i P R : Nat} (hA : AM b t) (h0 : u.1 0 = 0) (h1 : u.1 1 = t.1 1) (h2 : u.1 2 = nI P) (h3 : u.1 3 = nI R) (h12 : u.1 12 = 0) (ha : ∀ k, k < 4 → u.2 k = t.2 k) (h16 : u.2 16 = t.2 16) (h17 : u.2 17 = t.2 17)
    (v4 : u.2 4 = selF (fun p => a (i + 2 + p) - 48) (t.2 4) P) (v5 : u.2 5 = selF (fun _ => 0) (t.2 5) P) (v6 : u.2 6 = selF (fun r => kindF (a (i + 2 + P + r * 5 + 1))) (t.2 6) R) (v7 : u.2 7 = selF (fun r => 10 * (a (i + 2 + P + r * 5 + 2) - 48) + (a (i + 2 + P + r * 5 + 3) - 48)) (t.2 7) R) (v8 : u.2 8 = selF (fun r => a (i + 2 + P + r * 5 + 4) - 48) (t.2 8) R) : AM (bldS (flt b 0) a i P R) u := by
  obtain ⟨⟨a0, a1, a2, a3, a4⟩, ⟨w4, w5, w6, w7, w8, w16, w17⟩, hsh⟩ := hA
  refine ⟨⟨h0, h1.trans a1, h2, h3, h12⟩, ⟨?_, ?_, ?_, ?_, ?_, h16.trans w16, h17.trans w17⟩, fun k hk => ?_⟩
  · rw [v4, w4]; rfl
  · rw [v5, w5]; rfl
  · rw [v6, w6]; rfl
  · rw [v7, w7]; rfl
  · rw [v8, w8]; rfl
  · have h9 := hsh k hk
    unfold shM at *
    unfold bldS bldA flt
    simp (disch := omega) only [va_up_ne]
    rw [ha 1 (by omega), ha 2 (by omega), ha 3 (by omega)]
    exact h9
