/-! the reference's searches, as it makes them -/
def ssum (h : HL) (ld : Nat → Int32) (q : Nat) (set : Int32) : Nat → Nat → Int32 → Int32
  | 0, _, x => x
  | n + 1, p, x => if (set >>> (nI p &&& 31)) &&& 1 = 1 then ssum h ld q set n (p + 1) (x + 0) else ssum h ld q set n (p + 1) (x + toll h q p (ld p))
def pcN : Nat → Nat → Nat
  | 0, _ => 0
  | f + 1, s => if s = 0 then 0 else s % 2 + pcN f (s / 2)
def sandU (h : HL) (ld : Nat → Int32) (q : Nat) (sp : Int32) : Nat → Nat → Nat → Nat
  | 0, _, b => b
  | n + 1, s, b => sandU h ld q sp n (s + 1) (if pcN 9 s < pcN 9 b ∧ ssum h ld q (nI s) h.1 0 0 ≤ sp then s else b)
abbrev bitP (row k : Nat) : Prop := (nI row >>> (nI k &&& 31)) &&& 1 = 1
def eoF (h : HL) (r o row : Nat) : Nat → Nat → Cl → Int32
  | 0, _, _ => 0
  | m + 1, k, c => if isup (if bitP row k then att h (if k % 2 = 0 then r else o) c else c).2.2.2 (if k % 2 = 0 then r else o) then (if k % 2 = 0 then 1 else 2) else eoF h r o row m (k + 1) (if bitP row k then att h (if k % 2 = 0 then r else o) c else c)
def bet (a b w : Int32) : Int32 := if a = w then w else if b = w then w else if a = 0 then 0 else if b = 0 then 0 else a
def levF (E : Nat → Int32) (k : Nat) (z : Nat) : Nat → Int32 := fun row => if row < z then bet (E row) (E (row + 2 ^ k)) (if k % 2 = 0 then 1 else 2) else E row
def gmD : Nat → (Nat → Int32) → Nat → Int32
  | 0, E => E
  | k + 1, E => gmD k (levF E k (2 ^ k))
def digR (R L m z : Nat) : Nat := m / R ^ (L - 1 - z) % R
abbrev goodR (h : HL) (R q L m : Nat) (c : Cl) : Prop := (fw h (digR R L m) L 0 c).1 = -9 ∧ isup (fw h (digR R L m) L 0 c).2.2.2.2 q
def ubF (h : HL) (stp : Nat → Nat) (set : Nat) : Nat → Nat → Cl → Cl
  | 0, _, c => c
  | n + 1, k, c => ubF h stp set n (k + 1) (goOn h (stp k) (if bitP set k then rain h.1 c else c))
def cntF (f : Nat → Int32) : Nat → Nat
  | 0 => 0
  | s + 1 => if f s = 0 then cntF f s else cntF f s + 1
def spdU (f : Nat → Int32) : Nat → Nat → Int32 → Int32 → Int32 × Int32
  | 0, _, c, l => (c, l)
  | n + 1, v, c, l => if f v = 0 then spdU f n (v + 1) c l else spdU f n (v + 1) (c + 1) (if c = 0 then nI v else l)
theorem and1 (x : Int32) : x &&& 1 = 0 ∨ x &&& 1 = 1 := by
  obtain ⟨j, hj, e⟩ := pk_andE x (m := 1) 1 (by decide)
  rcases (show j = 0 ∨ j = 1 by omega) with rfl | rfl
  · exact Or.inl e
  · exact Or.inr e
theorem pcN_s {f s : Nat} (h : 0 < s) : pcN (f + 1) s = s % 2 + pcN f (s / 2) := by
  rw [pcN, if_neg (by omega)]
theorem pcN_0 (f : Nat) : pcN f 0 = 0 := by
  cases f with
  | zero => rfl
  | succ f => rw [pcN, if_pos rfl]
