/-! the game, from the rows' ends back to its value -/
abbrev mvF (r o k : Nat) : Nat := if k % 2 = 0 then r else o
abbrev wnF (k : Nat) : Int32 := if k % 2 = 0 then 1 else 2
def valB (h : HL) (r o : Nat) : Nat → Nat → Cl → Int32
  | 0, _, _ => 0
  | m + 1, k, c => bet (if isup c.2.2.2 (mvF r o k) then wnF k else valB h r o m (k + 1) c) (if isup (att h (mvF r o k) c).2.2.2 (mvF r o k) then wnF k else valB h r o m (k + 1) (att h (mvF r o k) c)) (wnF k)
def evF (h : HL) (r o row m : Nat) : Nat → Nat → Cl → Int32
  | 0, k, c => valB h r o m k c
  | j + 1, k, c => if isup (if bitP row k then att h (mvF r o k) c else c).2.2.2 (mvF r o k) then wnF k else evF h r o row m j (k + 1) (if bitP row k then att h (mvF r o k) c else c)
theorem bet_same (x w : Int32) : bet x x w = x := by
  unfold bet
  split
  · rename_i h; exact h.symm
  · split
    · rename_i h2; exact h2.symm
    · rfl
theorem ev_0 (h : HL) (r o row : Nat) : ∀ j k c, evF h r o row 0 j k c = eoF h r o row j k c := by
  intro j
  induction j with
  | zero => intro k c; rfl
  | succ j ih => intro k c; rw [evF, eoF, ih]
theorem ev_split (h : HL) (r o row row0 row1 m : Nat) : ∀ j k c, (∀ i, i < j → (bitP row0 (k + i) ↔ bitP row (k + i)) ∧ (bitP row1 (k + i) ↔ bitP row (k + i))) → ¬ bitP row0 (k + j) → bitP row1 (k + j) → evF h r o row (m + 1) j k c = bet (evF h r o row0 m (j + 1) k c) (evF h r o row1 m (j + 1) k c) (wnF (k + j)) := by
  intro j
  induction j with
  | zero =>
    intro k c _ h0 h1
    have h0 : ¬ bitP row0 k := h0
    have h1 : bitP row1 k := h1
    rw [evF, valB, evF, evF, if_neg h0, evF, if_pos h1, evF]
    rfl
  | succ j ih =>
    intro k c hb h0 h1
    have b0 := hb 0 (by omega)
    have b1 : (bitP row0 k ↔ bitP row k) ∧ (bitP row1 k ↔ bitP row k) := b0
    have e0 : (if bitP row0 k then att h (mvF r o k) c else c) = (if bitP row k then att h (mvF r o k) c else c) := by
      by_cases hx : bitP row k
      · rw [if_pos hx, if_pos (b1.1.mpr hx)]
      · rw [if_neg hx, if_neg (fun h9 => hx (b1.1.mp h9))]
    have e1 : (if bitP row1 k then att h (mvF r o k) c else c) = (if bitP row k then att h (mvF r o k) c else c) := by
      by_cases hx : bitP row k
      · rw [if_pos hx, if_pos (b1.2.mpr hx)]
      · rw [if_neg hx, if_neg (fun h9 => hx (b1.2.mp h9))]
    have i1 := ih (k + 1) (if bitP row k then att h (mvF r o k) c else c) (fun i hi => by rw [show k + 1 + i = k + (i + 1) by omega]; exact hb (i + 1) (by omega)) (by rw [show k + 1 + j = k + (j + 1) by omega]; exact h0) (by rw [show k + 1 + j = k + (j + 1) by omega]; exact h1)
    have s0 : evF h r o row (m + 1) (j + 1) k c = if isup (if bitP row k then att h (mvF r o k) c else c).2.2.2 (mvF r o k) then wnF k else evF h r o row (m + 1) j (k + 1) (if bitP row k then att h (mvF r o k) c else c) := rfl
    have s1 : evF h r o row0 m (j + 1 + 1) k c = if isup (if bitP row0 k then att h (mvF r o k) c else c).2.2.2 (mvF r o k) then wnF k else evF h r o row0 m (j + 1) (k + 1) (if bitP row0 k then att h (mvF r o k) c else c) := rfl
    have s2 : evF h r o row1 m (j + 1 + 1) k c = if isup (if bitP row1 k then att h (mvF r o k) c else c).2.2.2 (mvF r o k) then wnF k else evF h r o row1 m (j + 1) (k + 1) (if bitP row1 k then att h (mvF r o k) c else c) := rfl
    rw [s0, s1, s2, e0, e1]
    by_cases hu : isup (if bitP row k then att h (mvF r o k) c else c).2.2.2 (mvF r o k)
    · rw [if_pos hu, if_pos hu, if_pos hu, bet_same]
    · rw [if_neg hu, if_neg hu, if_neg hu, i1, show k + 1 + j = k + (j + 1) by omega]
