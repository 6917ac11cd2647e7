/-! helpers: booleans, ranges, states -/
def bI (P : Prop) [Decidable P] : Int32 := if P then 1 else 0
theorem bI_t {P : Prop} [Decidable P] (h : P) : 1 = bI P := by simp [bI, h]
theorem bI_f {P : Prop} [Decidable P] (h : ¬ P) : 0 = bI P := by simp [bI, h]
theorem bI_z {P : Prop} [Decidable P] : bI P = 0 ↔ ¬ P := by
  by_cases h : P <;> simp [bI, h]
theorem bI_nz {P : Prop} [Decidable P] (h : ¬ bI P = 0) : P := by
  by_cases h2 : P
  · exact h2
  · exact absurd (bI_z.mpr h2) h
theorem bI_c {P P' : Prop} [Decidable P] [Decidable P'] (h : P ↔ P') : bI P = bI P' := by
  by_cases h2 : P
  · rw [← bI_t h2, ← bI_t (h.mp h2)]
  · rw [← bI_f h2, ← bI_f (fun q => h2 (h.mpr q))]
theorem bI_nar (P : Prop) [Decidable P] : narrow .boolean (.int (bI P)) = .int (bI P) := by
  by_cases h2 : P
  · rw [← bI_t h2]; rfl
  · rw [← bI_f h2]; rfl
abbrev inN (x : Int32) (n : Nat) : Prop := 0 ≤ x ∧ x < nI n
theorem inN_ex {x : Int32} {n : Nat} (h : inN x n) (hn : n < 2 ^ 31) : ∃ j, j < n ∧ x = nI j := by
  obtain ⟨j, hj, rfl⟩ := nI_of (x := x) (Int32.not_lt.mpr h.1)
  exact ⟨j, (nI_ltI hj hn).mp h.2, rfl⟩
theorem inN_of {j n : Nat} (h : j < n) (hn : n < 2 ^ 31) : inN (nI j) n := ⟨nI_pos' (by omega), nI_lt h hn⟩
theorem inN_nI {j n : Nat} (hj : j < 2 ^ 31) (hn : n < 2 ^ 31) : inN (nI j) n ↔ j < n := ⟨fun h => (nI_ltI hj hn).mp h.2, fun h => inN_of h hn⟩
theorem le_pred {x : Int32} {n : Nat} (hn : n < 2 ^ 30) : x ≤ nI n - 1 ↔ x < nI n := by
  have h1 : (nI n - 1 : Int32).toInt = (n : Int) - 1 := pk_sub_toInt (a := n) (b := 1) hn (by decide)
  rw [Int32.le_iff_toInt_le, Int32.lt_iff_toInt_lt, h1, nI_toInt (by omega)]
  omega
theorem va_upup {α : Type} (f : Nat → α) (k : Nat) (a b : α) : va_up (va_up f k a) k b = va_up f k b := by
  funext j; simp only [va_up]; split <;> rfl
theorem va_upid {α : Type} (f : Nat → α) (k : Nat) : va_up f k (f k) = f := by
  funext j; simp only [va_up]; split
  · rename_i h; rw [h]
  · rfl
theorem va_upcomm {α : Type} (f : Nat → α) {k j : Nat} (h : k ≠ j) (a b : α) : va_up (va_up f k a) j b = va_up (va_up f j b) k a := by
  funext i; simp only [va_up]
  by_cases h1 : i = k <;> by_cases h2 : i = j <;> simp_all
section H6
variable {σ : Type} {wf : σ → va_W} {tys : List (ClassId × FieldType)} {D : va_G} {A : Nat → Prop} {st u : σ} {H H0 : Heap} {s : State} {locs : List Loc}
theorem hx_congr (h : HX wf tys D A H0 s st H locs) (e : st = u) : HX wf tys D A H0 s u H locs := e ▸ h
end H6
