/-! what the searches are, as functions of the hill and of a climb -/
def fw (h : HL) (stp : Nat → Nat) : Nat → Nat → Cl → Int32 × Cl
  | 0, _, c => (-9, c)
  | n + 1, s, c => if stp s = 5 then fw h stp n (s + 1) (rain h.1 c) else if isup c.2.2.2 (stp s) then (nI s, c) else fw h stp n (s + 1) (att h (stp s) c)
def fu (h : HL) (stp : Nat → Nat) : Nat → Nat → Cl → Int32
  | 0, _, _ => -9
  | n + 1, s, c => if (goOn h (stp s) c).2.2.2 = 0 then fu h stp n (s + 1) (goOn h (stp s) c) else nI s
abbrev soP (R C : Nat) (rr rh he : Nat → Int32) : Prop := ∀ k, k < C → (if inN (rr k) R then he (rr k).toNatClampNeg else -9) = rh k
def cutF (lane v : Int32) : Int32 := if lane = 0 then v.toInt8.toInt32 else if lane = 1 then v.toInt16.toInt32 else v
def kindF (x : Int32) : Int32 := if x = 108 then 2 else if x = 110 then 1 else 0
abbrev digP (x : Int32) : Prop := 48 ≤ x ∧ x ≤ 57
abbrev goP (p : Nat) (x : Int32) (P : Nat) : Prop :=
  if p = 0 then x = 97 else if p = 1 then 50 ≤ x ∧ x ≤ 56 else if p < 2 + P then digP x else if 27 + P ≤ p then False else if (p - 2 - P) % 5 = 0 then x = 44 else if (p - 2 - P) % 5 = 1 then (x = 114 ∨ x = 110 ∨ x = 108) else digP x
def ffP (a : Nat → Int32) (i p P : Nat) : Nat := if p = 1 then (a (i + 1) - 48).toNatClampNeg else P
def ff (a : Nat → Int32) (i n : Nat) : Nat → Nat → Nat → Int32
  | 0, _, P => if 2 + P < n ∧ (n - 2 - P) % 5 = 0 then -9 else nI n
  | z + 1, p, P => if goP p (a (i + p)) P then ff a i n z (p + 1) (ffP a i p P) else nI p
def focF (lane len la i n : Int32) : Int32 := if lane = -1 then 1 else if ¬ lane = la then 2 else if n < 0 then 4 else if 0 ≤ i ∧ i ≤ len ∧ 0 ≤ n ∧ n ≤ len - i then 0 else 3
def firstR (f : Nat → Option (List Nat)) : Nat → Nat → Option (List Nat)
  | 0, _ => none
  | n + 1, k => match f k with
    | some l => some l
    | none => firstR f n (k + 1)
def frow (h : HL) (R q : Nat) : Nat → Cl → Option (List Nat)
  | 0, _ => none
  | m + 1, c => if m = 0 then (if isup c.2.2.2 q then none else if isup (att h q c).2.2.2 q then some [q] else none)
    else firstR (fun w => if isup c.2.2.2 w then none else (frow h R q m (att h w c)).map (fun l => w :: l)) R 0
def play (h : HL) (r o : Nat) : Nat → Bool → Cl → Int32
  | 0, _, _ => 0
  | m + 1, b, c =>
    let mv := if b then r else o
    let win : Int32 := if b then 1 else -1
    let x := if isup (att h mv c).2.2.2 mv then win else play h r o m (!b) (att h mv c)
    if x = win then win else if b then (if x < play h r o m (!b) c then play h r o m (!b) c else x) else (if play h r o m (!b) c < x then play h r o m (!b) c else x)
def wup (h : HL) (stp : Nat → Nat) (q : Nat) : Nat → Nat → Cl → Nat
  | 0, _, c => if isup c.2.2.2 q then 1 else 0
  | m + 1, d, c => if isup c.2.2.2 q then 2 ^ (m + 1) else wup h stp q m (d + 1) (goOn h (stp d) c) + wup h stp q m (d + 1) (goOn h (stp d) (rain h.1 c))
def hoF (h : HL) (R q : Nat) (b : Bool) : Nat → Nat → Cl → Int32 → Int32
  | 0, _, _, x => x
  | n + 1, k, c, x => if k = q then (if b then hoF h R q b n (k + 1) (att h k c) x else hoF h R q b n (k + 1) c x) else hoF h R q b n (k + 1) (att h k c) (x + (att h k c).2.2.1 k)
def agrS (t u : St) : Prop := (∀ k, k < 13 → u.1 k = t.1 k) ∧ (∀ k, k < 22 → k ≠ 13 → u.2 k = t.2 k)
theorem agrS.rf (t : St) : agrS t t := ⟨fun _ _ => rfl, fun _ _ _ => rfl⟩
theorem agrS.tr {t u w : St} (h1 : agrS t u) (h2 : agrS u w) : agrS t w := ⟨fun k h => (h2.1 k h).trans (h1.1 k h), fun k a b => (h2.2 k a b).trans (h1.2 k a b)⟩
theorem agrS.eh {P : Nat} {t u : St} (h : agrS t u) : hX P u = hX P t := by
  simp only [hX, h.2 2 (by omega) (by omega), h.2 4 (by omega) (by omega), h.2 5 (by omega) (by omega), h.2 6 (by omega) (by omega)]
theorem agrS.eb {t u : St} (h : agrS t u) : beg u = beg t := by
  simp only [beg, h.2 3 (by omega) (by omega)]
theorem agrC.s {d : Nat} {t u : St} (h : agrC d t u) : agrS t u := ⟨fun k hk => h.1 k (by omega), fun k h1 h2 => h.2 k (by omega) (by omega) (by omega)⟩
theorem agrC.ec {d e : Nat} {t u : St} (h : agrC d t u) (hde : e ≠ d) : cv u e = cv t e := by
  simp only [cv, h.1 (13 + e) (by omega), h.2 (23 + 4 * e) (by omega) (by omega) (by omega), h.2 (24 + 4 * e) (by omega) (by omega) (by omega), h.2 (25 + 4 * e) (by omega) (by omega) (by omega)]
theorem code_ex {x : Int32} (h1 : 50 ≤ x) (h2 : x ≤ 56) : ∃ q : Nat, 2 ≤ q ∧ q ≤ 8 ∧ x - 48 = nI q := by
  obtain ⟨j, hj, rfl⟩ := nI_of2 (x := x) (M := 56) (n := 56) (by decide) (fun h => by
    have := Int32.lt_iff_toInt_lt.mp h
    have h3 := Int32.le_iff_toInt_le.mp h1
    have e1 : (50 : Int32).toInt = 50 := by decide
    rw [Int32.toInt_zero] at this
    omega) h2
  have h3 : 50 ≤ j := (nI_leI (a := 50) (b := j) (by omega) (by omega)).mp h1
  refine ⟨j - 48, by omega, by omega, ?_⟩
  rw [show (48 : Int32) = nI 48 from rfl, pk_sub (by omega)]
theorem codes_le {n P : Nat} (hn : n < 1000) (hP : P < 1000) (h : nI n - 2 - nI P ≤ 0) : ¬ 2 + P < n := by
  intro h2
  have e : nI n - 2 - nI P = nI (n - 2 - P) := by rw [show (2 : Int32) = nI 2 from rfl, pk_sub (by omega), pk_sub (by omega)]
  rw [e] at h
  exact nI_nle (by omega) (by omega) h
theorem codes_gt {n P : Nat} (hn : n < 1000) (hP : P < 1000) (h : ¬ nI n - 2 - nI P ≤ 0) : 2 + P < n := by
  rcases Nat.lt_or_ge (2 + P) n with h2 | h2
  · exact h2
  · refine absurd ?_ h
    rw [Int32.le_iff_toInt_le]
    have e1 : (nI n - 2 : Int32).toInt = (n : Int) - 2 := pk_sub_toInt (a := n) (b := 2) (by omega) (by decide)
    rw [Int32.toInt_sub, e1, nI_toInt (by omega)]
    have : ((n : Int) - 2 - P).bmod (2 ^ 32) = (n : Int) - 2 - P := Int.bmod_eq_of_le (by omega) (by omega)
    rw [this, Int32.toInt_zero]
    omega
theorem rng_ex {x M : Int32} {n : Nat} (hM : M.toInt = n) (h : 0 ≤ x ∧ x ≤ M) : ∃ j : Nat, j ≤ n ∧ x = nI j := nI_of2 hM (Int32.not_lt.mpr h.1) h.2
abbrev stOk (R : Nat) (a : Nat → Int32) (i n : Nat) : Prop := ∀ s, s < n → a (i + s) = 5 ∨ inN (a (i + s)) R
def rsF (t : St) (P R : Nat) (sheet la i n b : Int32) : Int32 × Int32 :=
  if ¬ (0 ≤ sheet ∧ sheet ≤ 3) then (-1, 0) else if ¬ (0 ≤ la ∧ la ≤ 2) then (-2, 0) else if b = 0 then (-2, 0)
  else if ¬ focF (t.1 (5 + 2 * sheet.toNatClampNeg)) (t.1 (6 + 2 * sheet.toNatClampNeg)) la i n = 0 then ((-10) - focF (t.1 (5 + 2 * sheet.toNatClampNeg)) (t.1 (6 + 2 * sheet.toNatClampNeg)) la i n, focF (t.1 (5 + 2 * sheet.toNatClampNeg)) (t.1 (6 + 2 * sheet.toNatClampNeg)) la i n)
  else if P = 0 then (-3, 0) else if stOk R (t.2 (15 + 2 * sheet.toNatClampNeg)) i.toNatClampNeg n.toNatClampNeg then (0, 0) else (-1, 0)
def lenOk (t : St) : Prop := ∀ k, k < 4 → ∃ z, z ≤ 60 ∧ t.1 (6 + 2 * k) = nI z
theorem foc_ex {lane la i n : Int32} {z : Nat} (hz : z ≤ 60) (h : focF lane (nI z) la i n = 0) : ∃ i0 n0, i = nI i0 ∧ n = nI n0 ∧ i0 + n0 ≤ z ∧ lane = la ∧ ¬ lane = -1 := by
  unfold focF at h
  split at h
  · exact absurd h (by decide)
  · rename_i h1
    split at h
    · exact absurd h (by decide)
    · rename_i h2
      split at h
      · exact absurd h (by decide)
      · split at h
        · rename_i h4
          obtain ⟨i0, hi, rfl⟩ := nI_of (x := i) (Int32.not_lt.mpr h4.1)
          have h5 := (nI_leI (by omega) (by omega)).mp h4.2.1
          rw [pk_sub h5] at h4
          obtain ⟨n0, hn, rfl⟩ := nI_of (x := n) (Int32.not_lt.mpr h4.2.2.1)
          have h6 := (nI_leI (by omega) (by omega)).mp h4.2.2.2
          exact ⟨i0, n0, rfl, rfl, by omega, Classical.not_not.mp h2, h1⟩
        · exact absurd h (by decide)
theorem foc_r (lane len la i n : Int32) : focF lane len la i n = 0 ∨ focF lane len la i n = 1 ∨ focF lane len la i n = 2 ∨ focF lane len la i n = 3 ∨ focF lane len la i n = 4 := by
  unfold focF
  split
  · exact Or.inr (Or.inl rfl)
  · split
    · exact Or.inr (Or.inr (Or.inl rfl))
    · split
      · exact Or.inr (Or.inr (Or.inr (Or.inr rfl)))
      · split
        · exact Or.inl rfl
        · exact Or.inr (Or.inr (Or.inr (Or.inl rfl)))
theorem rs0 {t : St} {P R : Nat} {sheet la i n b : Int32} (hl : lenOk t) (h : (rsF t P R sheet la i n b).1 = 0) : ∃ k i0 n0, k < 4 ∧ sheet = nI k ∧ i = nI i0 ∧ n = nI n0 ∧ i0 + n0 ≤ 60 ∧ ¬ b = 0 ∧ ¬ P = 0 ∧ stOk R (t.2 (15 + 2 * k)) i0 n0 ∧ (rsF t P R sheet la i n b).2 = 0 := by
  unfold rsF at h ⊢
  split at h
  · exact absurd h (by decide)
  · rename_i h1
    have h1 := Classical.not_not.mp h1
    obtain ⟨k, hk, rfl⟩ := rng_ex (M := 3) (n := 3) (by decide) h1
    rw [if_neg (not_not_intro h1)]
    split at h
    · exact absurd h (by decide)
    · rename_i h2
      rw [if_neg h2]
      split at h
      · exact absurd h (by decide)
      · rename_i h3
        rw [if_neg h3]
        obtain ⟨z, hz, ez⟩ := hl k (by omega)
        rw [nI_clamp (by omega)] at h ⊢
        split at h
        · rename_i h4
          exfalso
          rcases foc_r (t.1 (5 + 2 * k)) (t.1 (6 + 2 * k)) la i n with e | e | e | e | e <;> rw [e] at h
          · exact h4 e
          all_goals exact absurd h (by decide)
        · rename_i h4
          rw [if_neg h4]
          have h5 := Classical.not_not.mp h4
          rw [ez] at h5
          obtain ⟨i0, n0, rfl, rfl, h6, h7, h8⟩ := foc_ex hz h5
          split at h
          · exact absurd h (by decide)
          · rename_i h9
            rw [if_neg h9]
            split at h
            · rename_i h10
              rw [nI_clamp (by omega), nI_clamp (by omega)] at h10
              rw [if_pos (by rw [nI_clamp (by omega), nI_clamp (by omega)]; exact h10)]
              exact ⟨k, i0, n0, by omega, rfl, rfl, rfl, by omega, h3, h9, h10, rfl⟩
            · exact absurd h (by decide)
