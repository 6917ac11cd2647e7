/-! least terms against shifting -/
theorem gcd_f : ∀ n : Fin 11, ∀ a : Fin 33, ∀ b : Fin 32, 32 * a.val + b.val ≤ 2 ^ n.val → (nI (32 * a.val + b.val) >>> (oddS n.val (32 * a.val + b.val) &&& 31) = nI ((32 * a.val + b.val) / Nat.gcd (32 * a.val + b.val) (2 ^ n.val)) ∧ (1 <<< (nI n.val &&& 31)) >>> (oddS n.val (32 * a.val + b.val) &&& 31) = nI (2 ^ n.val / Nat.gcd (32 * a.val + b.val) (2 ^ n.val))) := by decide +kernel
theorem gcd_e {n z : Nat} (hn : n ≤ 10) (hz : z ≤ 2 ^ n) : nI z >>> (oddS n z &&& 31) = nI (z / Nat.gcd z (2 ^ n)) ∧ (1 <<< (nI n &&& 31)) >>> (oddS n z &&& 31) = nI (2 ^ n / Nat.gcd z (2 ^ n)) := by
  have h1 : 2 ^ n ≤ 2 ^ 10 := Nat.pow_le_pow_right (by decide) hn
  have h2 := gcd_f ⟨n, by omega⟩ ⟨z / 32, by omega⟩ ⟨z % 32, by omega⟩
  simp only at h2
  rw [show 32 * (z / 32) + z % 32 = z by omega] at h2
  exact h2 hz
