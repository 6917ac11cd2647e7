/-! sizes of sets -/
theorem pcN_full : ∀ P f, P ≤ f → pcN f (2 ^ P - 1) = P := by
  intro P
  induction P with
  | zero => intro f _; exact pcN_0 f
  | succ P ih =>
    intro f hf
    obtain ⟨f2, rfl⟩ : ∃ f2, f = f2 + 1 := ⟨f - 1, by omega⟩
    have h1 : 1 ≤ 2 ^ P := Nat.one_le_two_pow
    have e : 2 ^ (P + 1) = 2 ^ P * 2 := Nat.pow_succ 2 P
    rw [pcN_s (by omega), show (2 ^ (P + 1) - 1) / 2 = 2 ^ P - 1 by omega, ih f2 (by omega)]
    omega
theorem pcN_lt : ∀ P f s, P ≤ f → s < 2 ^ P - 1 → pcN f s < P := by
  intro P
  induction P with
  | zero => intro f s _ h; omega
  | succ P ih =>
    intro f s hf hs
    obtain ⟨f2, rfl⟩ : ∃ f2, f = f2 + 1 := ⟨f - 1, by omega⟩
    have h1 : 1 ≤ 2 ^ P := Nat.one_le_two_pow
    have e : 2 ^ (P + 1) = 2 ^ P * 2 := Nat.pow_succ 2 P
    by_cases h0 : s = 0
    · rw [h0, pcN_0]; omega
    · rw [pcN_s (by omega)]
      by_cases h2 : s / 2 < 2 ^ P - 1
      · have := ih f2 (s / 2) (by omega) h2; omega
      · have h3 : s / 2 = 2 ^ P - 1 := by omega
        rw [h3, pcN_full P f2 (by omega)]
        omega
theorem bc16 : ∀ a : Fin 16, ∀ b : Fin 16, bcF (nI (16 * a.val + b.val)) = nI (pcN 9 (16 * a.val + b.val)) := by decide +kernel
theorem bc_pc {s : Nat} (h : s < 256) : bcF (nI s) = nI (pcN 9 s) := by
  have h1 := bc16 ⟨s / 16, by omega⟩ ⟨s % 16, by omega⟩
  simp only at h1
  rw [show 16 * (s / 16) + s % 16 = s by omega] at h1
  exact h1
theorem bc_le {s b : Nat} (hs : s < 256) (hb : b < 256) : bcF (nI s) ≤ bcF (nI b) ↔ pcN 9 s ≤ pcN 9 b := by
  rw [bc_pc hs, bc_pc hb]
  have h1 := pcN_le 9 s
  have h2 := pcN_le 9 b
  exact nI_leI (by omega) (by omega)
theorem sandU_up (h : HL) (ld : Nat → Int32) (q : Nat) (sp : Int32) : ∀ n s b, sandU h ld q sp n s b = upG (pcN 9) (fun s => ssum h ld q (nI s) h.1 0 0 ≤ sp) n s b := by
  intro n
  induction n with
  | zero => intro s b; rfl
  | succ n ih => intro s b; rw [sandU, upG, ih]
theorem sandD_dn {h : HL} {ld : Nat → Int32} {q : Nat} {sp : Int32} (hg : ∀ s, s < 256 → (0 ≤ sleft h ld q (nI s) h.1 0 sp ↔ ssum h ld q (nI s) h.1 0 0 ≤ sp)) : ∀ s b, s ≤ 256 → b < 256 → sandD h ld q sp s b = dnG (pcN 9) (fun s => ssum h ld q (nI s) h.1 0 0 ≤ sp) s b := by
  intro s
  induction s with
  | zero => intro b _ _; rfl
  | succ s ih =>
    intro b hs hb
    rw [sandD, dnG]
    by_cases hc : pcN 9 s ≤ pcN 9 b ∧ ssum h ld q (nI s) h.1 0 0 ≤ sp
    · rw [if_pos hc, if_pos ⟨(bc_le (by omega) hb).mpr hc.1, (hg s (by omega)).mpr hc.2⟩]
      exact ih s (by omega) (by omega)
    · rw [if_neg hc, if_neg (fun h9 => hc ⟨(bc_le (by omega) hb).mp h9.1, (hg s (by omega)).mp h9.2⟩)]
      exact ih b (by omega) hb
theorem sand_eq {h : HL} {ld : Nat → Int32} {q P : Nat} {sp : Int32} (hP : P ≤ 8) (hg : ∀ s, s < 256 → (0 ≤ sleft h ld q (nI s) h.1 0 sp ↔ ssum h ld q (nI s) h.1 0 0 ≤ sp)) : sandU h ld q sp (2 ^ P) 0 (2 ^ P - 1) = sandD h ld q sp (2 ^ P - 1) (2 ^ P - 1) := by
  have h8 := pow8 hP
  rw [sandU_up, sandD_dn hg _ _ (by omega) (by omega)]
  have h1 := ud_eq (pcN 9) (fun s => ssum h ld q (nI s) h.1 0 0 ≤ sp) (2 ^ P - 1) (fun s hs => by rw [pcN_full P 9 (by omega)]; exact pcN_lt P 9 s (by omega) hs)
  rw [show 2 ^ P - 1 + 1 = 2 ^ P by omega] at h1
  exact h1
