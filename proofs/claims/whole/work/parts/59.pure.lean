/-! the game's ends folded back -/
theorem two_even {i k : Nat} (h : i < k) : ∃ z, 2 ^ k = 2 ^ i * (2 * z) := by
  refine ⟨2 ^ (k - i - 1), ?_⟩
  rw [← Nat.mul_assoc, ← Nat.pow_succ, ← Nat.pow_add]
  congr 1; omega
theorem bit_add {row k i : Nat} (hk : k < 10) (hr : row < 2 ^ k) (hi : i < k) : bitP (row + 2 ^ k) i ↔ bitP row i := by
  have h1 : 2 ^ k ≤ 2 ^ 10 := Nat.pow_le_pow_right (by decide) (by omega)
  rw [bitP_e (by omega) (by omega), bitP_e (by omega) (by omega)]
  obtain ⟨z, hz⟩ := two_even hi
  rw [hz, Nat.add_mul_div_left _ _ (Nat.pow_pos (by decide))]
  omega
theorem bit_top {row k : Nat} (hk : k < 10) (hr : row < 2 ^ k) : ¬ bitP row k ∧ bitP (row + 2 ^ k) k := by
  have h1 : 2 ^ k ≤ 2 ^ 10 := Nat.pow_le_pow_right (by decide) (by omega)
  rw [bitP_e (by omega) (by omega), bitP_e (by omega) (by omega), Nat.div_eq_of_lt hr, Nat.add_div_right _ (Nat.pow_pos (by decide)), Nat.div_eq_of_lt hr]
  exact ⟨by decide, by decide⟩
theorem gmD_v (h : HL) (r o n : Nat) (c : Cl) (hn : n ≤ 10) : ∀ k E, k ≤ n → (∀ row, row < 2 ^ k → E row = evF h r o row (n - k) k 0 c) → gmD k E 0 = valB h r o n 0 c := by
  intro k
  induction k with
  | zero => intro E _ hE; exact hE 0 (by decide)
  | succ k ih =>
    intro E hk hE
    rw [gmD]
    refine ih _ (by omega) (fun row hr => ?_)
    have e : 2 ^ (k + 1) = 2 ^ k * 2 := Nat.pow_succ 2 k
    have bt := bit_top (k := k) (by omega) hr
    have hs := ev_split h r o row row (row + 2 ^ k) (n - (k + 1)) k 0 c (fun i hi => ⟨Iff.rfl, by rw [Nat.zero_add]; exact bit_add (by omega) hr hi⟩) (by rw [Nat.zero_add]; exact bt.1) (by rw [Nat.zero_add]; exact bt.2)
    rw [show n - k = n - (k + 1) + 1 by omega, hs]
    unfold levF
    rw [if_pos hr, hE row (by omega), hE (row + 2 ^ k) (by omega), Nat.zero_add]
theorem game_v (h : HL) (r o n : Nat) (c : Cl) (hn : n ≤ 10) : gmD n (fun row => eoF h r o row n 0 c) 0 = valB h r o n 0 c :=
  gmD_v h r o n c hn n _ (Nat.le_refl n) (fun row _ => by rw [Nat.sub_self, ev_0])
