/-! cells: one put, many copied -/
theorem idx1 {i : Int32} {z : Nat} (hz : z ≤ 60) : (0 ≤ i ∧ i ≤ nI z - 1) ↔ (0 ≤ i ∧ i ≤ nI z ∧ (0 : Int32) ≤ 1 ∧ 1 ≤ nI z - i) := by
  constructor
  · intro ⟨h1, h2⟩
    obtain ⟨j, hj, rfl⟩ := nI_of (x := i) (Int32.not_lt.mpr h1)
    have h3 := (nI_ltI (by omega) (by omega)).mp ((le_pred (by omega)).mp h2)
    refine ⟨h1, nI_le (by omega) (by omega), by decide, ?_⟩
    rw [pk_sub (by omega)]
    exact nI_le (a := 1) (by omega) (by omega)
  · intro ⟨h1, h2, _, h4⟩
    obtain ⟨j, hj, rfl⟩ := nI_of (x := i) (Int32.not_lt.mpr h1)
    have h3 := (nI_leI (by omega) (by omega)).mp h2
    rw [pk_sub h3] at h4
    have h5 := (nI_leI (a := 1) (by omega) (by omega)).mp h4
    exact ⟨h1, (le_pred (by omega)).mpr (nI_lt (by omega) (by omega))⟩
theorem foc1 {lane la i : Int32} {z : Nat} (hz : z ≤ 60) (h1 : ¬ lane = -1) (h2 : lane = la) : focF lane (nI z) la i 1 = if 0 ≤ i ∧ i ≤ nI z - 1 then 0 else 3 := by
  unfold focF
  rw [if_neg h1, if_neg (not_not_intro h2), if_neg (by decide)]
  by_cases h : 0 ≤ i ∧ i ≤ nI z - 1
  · rw [if_pos h, if_pos ((idx1 hz).mp h)]
  · rw [if_neg h, if_neg (fun h9 => h ((idx1 hz).mpr h9))]
theorem am_put {b t : St} {k i : Nat} {x : Int32} (h : AM b t) (hk : k < 4) (hi : i < 60) (hl : ¬ b.1 (5 + 2 * k) = -1) : AM (setS (flt b 0) (15 + 2 * k) i x) (va_up t.1 0 0, va_up t.2 3 (upd (t.2 3) (60 * k + i) x)) := by
  obtain ⟨⟨h0, h1, h2, h3, h4⟩, ⟨h5, h6, h7, h8, h9, h16, h17⟩, hs⟩ := h
  refine ⟨⟨rfl, h1, h2, h3, h4⟩, ⟨?_, ?_, ?_, ?_, ?_, ?_, ?_⟩, fun j hj => ?_⟩
  · unfold setS flt; simp (disch := omega) only [va_up_ne]; exact h5
  · unfold setS flt; simp (disch := omega) only [va_up_ne]; exact h6
  · unfold setS flt; simp (disch := omega) only [va_up_ne]; exact h7
  · unfold setS flt; simp (disch := omega) only [va_up_ne]; exact h8
  · unfold setS flt; simp (disch := omega) only [va_up_ne]; exact h9
  · unfold setS flt; simp (disch := omega) only [va_up_ne]; exact h16
  · unfold setS flt; simp (disch := omega) only [va_up_ne]; exact h17
  · have h10 := hs j hj
    by_cases hjk : j = k
    · subst hjk
      unfold shM setS flt at *
      simp (disch := omega) only [va_up_ne, va_up_self] at h10 ⊢
      refine ⟨h10.1, fun h11 => ⟨(h10.2 h11).1, fun z hz => ?_⟩⟩
      by_cases hzi : z = i
      · subst hzi; rw [pk_us, pk_us]
      · rw [pk_un (by omega), pk_un hzi]; exact (h10.2 h11).2 z hz
    · unfold shM setS flt at *
      simp (disch := omega) only [va_up_ne, va_up_self] at h10 ⊢
      refine ⟨h10.1, fun h11 => ⟨(h10.2 h11).1, fun z hz => ?_⟩⟩
      rw [pk_un (by omega)]; exact (h10.2 h11).2 z hz
def cpM (f : Nat → Int32) (s d lo hi : Nat) : Nat → Int32 := fun p => if d + lo ≤ p ∧ p < d + hi then f (s + (p - d)) else f p
theorem cpM_0 (f : Nat → Int32) (s d lo : Nat) : cpM f s d lo lo = f := by
  funext p; unfold cpM; rw [if_neg (by omega)]
theorem cpM_u (f : Nat → Int32) (s d hi : Nat) : upd (cpM f s d 0 hi) (d + hi) (f (s + hi)) = cpM f s d 0 (hi + 1) := by
  funext p
  simp only [upd, cpM]
  by_cases h : p = d + hi
  · rw [if_pos h, if_pos (by omega), show p - d = hi by omega]
  · rw [if_neg h]
    by_cases h2 : d + 0 ≤ p ∧ p < d + hi
    · rw [if_pos h2, if_pos (by omega)]
    · rw [if_neg h2, if_neg (by omega)]
theorem cpM_d (f : Nat → Int32) (s d lo n : Nat) (hl : lo < n) : upd (cpM f s d (lo + 1) n) (d + lo) (f (s + lo)) = cpM f s d lo n := by
  funext p
  simp only [upd, cpM]
  by_cases h : p = d + lo
  · rw [if_pos h, if_pos (by omega), show p - d = lo by omega]
  · rw [if_neg h]
    by_cases h2 : d + (lo + 1) ≤ p ∧ p < d + n
    · rw [if_pos h2, if_pos (by omega)]
    · rw [if_neg h2, if_neg (by omega)]
theorem am_copy {b t : St} {k k2 i j n : Nat} (h : AM b t) (hk : k < 4) (hk2 : k2 < 4) (hi : i + n ≤ 60) (hj : j + n ≤ 60) (hl : ¬ b.1 (5 + 2 * k) = -1) (hl2 : ¬ b.1 (5 + 2 * k2) = -1) :
    AM ((flt b 0).1, va_up b.2 (15 + 2 * k2) (va_cpy (b.2 (15 + 2 * k)) (b.2 (15 + 2 * k2)) i j n)) (va_up t.1 0 0, va_up t.2 3 (cpM (t.2 3) (60 * k + i) (60 * k2 + j) 0 n)) := by
  obtain ⟨⟨h0, h1, h2, h3, h4⟩, ⟨h5, h6, h7, h8, h9, h16, h17⟩, hs⟩ := h
  refine ⟨⟨rfl, h1, h2, h3, h4⟩, ⟨?_, ?_, ?_, ?_, ?_, ?_, ?_⟩, fun m hm => ?_⟩
  · simp (disch := omega) only [va_up_ne]; exact h5
  · simp (disch := omega) only [va_up_ne]; exact h6
  · simp (disch := omega) only [va_up_ne]; exact h7
  · simp (disch := omega) only [va_up_ne]; exact h8
  · simp (disch := omega) only [va_up_ne]; exact h9
  · simp (disch := omega) only [va_up_ne]; exact h16
  · simp (disch := omega) only [va_up_ne]; exact h17
  · have h10 := hs m hm
    have hsk := (hs k hk).2 hl
    by_cases hmk : m = k2
    · subst hmk
      unfold shM flt at *
      simp (disch := omega) only [va_up_ne, va_up_self] at h10 ⊢
      refine ⟨h10.1, fun h11 => ⟨(h10.2 h11).1, fun z hz => ?_⟩⟩
      by_cases hz2 : j ≤ z ∧ z < j + n
      · rw [pk_cpy_in hz2.1 hz2.2]
        unfold cpM
        rw [if_pos (by omega)]
        have e9 : 60 * k + i + (60 * m + z - (60 * m + j)) = 60 * k + (i + (z - j)) := by omega
        rw [e9]
        exact hsk.2 (i + (z - j)) (by omega)
      · rw [pk_cpy_out (by omega)]
        unfold cpM
        rw [if_neg (by omega)]
        exact (h10.2 h11).2 z hz
    · unfold shM flt at *
      simp (disch := omega) only [va_up_ne, va_up_self] at h10 ⊢
      refine ⟨h10.1, fun h11 => ⟨(h10.2 h11).1, fun z hz => ?_⟩⟩
      unfold cpM
      rw [if_neg (by omega)]
      exact (h10.2 h11).2 z hz
