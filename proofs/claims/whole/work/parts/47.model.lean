/-! the least row that leads up, as the reference seeks it -/
def befP (R L m L' m' : Nat) : Prop := 1 ≤ L' ∧ m' < R ^ L' ∧ (L' < L ∨ (L' = L ∧ m' < m))
def FN (h : HL) (R q : Nat) (c : Cl) (L m : Nat) (fl fn : Int32) : Prop := (fl = -9 ∧ ∀ L' m', befP R L m L' m' → ¬ goodR h R q L' m' c) ∨ ∃ L0 m0, 1 ≤ L0 ∧ L0 ≤ 6 ∧ m0 < R ^ L0 ∧ fl = nI L0 ∧ fn = nI m0 ∧ goodR h R q L0 m0 c ∧ ∀ L' m', befP R L0 m0 L' m' → ¬ goodR h R q L' m' c
theorem FN_0 (h : HL) (R q : Nat) (c : Cl) (fn : Int32) : FN h R q c 1 0 (-9) fn := Or.inl ⟨rfl, fun L' m' hb => by obtain ⟨h1, _, h3⟩ := hb; omega⟩
theorem FN_found {h : HL} {R q : Nat} {c : Cl} {L m L2 m2 : Nat} {fl fn : Int32} (hn : ¬ fl = -9) (hf : FN h R q c L m fl fn) : FN h R q c L2 m2 fl fn := by
  rcases hf with ⟨h1, _⟩ | hf
  · exact absurd h1 hn
  · exact Or.inr hf
theorem FN_next {h : HL} {R q : Nat} {c : Cl} {L m : Nat} {fl fn : Int32} (hm : R ^ L ≤ m) (hf : FN h R q c L m fl fn) : FN h R q c (L + 1) 0 fl fn := by
  rcases hf with ⟨h1, h2⟩ | hf
  · refine Or.inl ⟨h1, fun L' m' hb => h2 L' m' ?_⟩
    obtain ⟨b1, b2, b3⟩ := hb
    refine ⟨b1, b2, ?_⟩
    rcases Nat.lt_or_ge L' L with h9 | h9
    · exact Or.inl h9
    · have e : L' = L := by omega
      subst e
      exact Or.inr ⟨rfl, by omega⟩
  · exact Or.inr hf
theorem FN_bad {h : HL} {R q : Nat} {c : Cl} {L m : Nat} {fl fn : Int32} (hb9 : fl = -9) (hg : ¬ goodR h R q L m c) (hf : FN h R q c L m fl fn) : FN h R q c L (m + 1) fl fn := by
  rcases hf with ⟨h1, h2⟩ | hf
  · refine Or.inl ⟨h1, fun L' m' hb => ?_⟩
    obtain ⟨b1, b2, b3⟩ := hb
    by_cases e : L' = L ∧ m' = m
    · rw [e.1, e.2]; exact hg
    · exact h2 L' m' ⟨b1, b2, by omega⟩
  · exact Or.inr hf
theorem FN_good {h : HL} {R q : Nat} {c : Cl} {L m : Nat} {fl fn : Int32} (h1 : 1 ≤ L) (h6 : L ≤ 6) (hm : m < R ^ L) (hb9 : fl = -9) (hg : goodR h R q L m c) (hf : FN h R q c L m fl fn) : FN h R q c L (m + 1) (nI L) (nI m) := by
  rcases hf with ⟨_, h2⟩ | ⟨L0, m0, a1, a2, a3, a4, _⟩
  · exact Or.inr ⟨L, m, h1, h6, hm, rfl, rfl, hg, h2⟩
  · exact absurd (a4.symm.trans hb9) (nI_m9 (by omega))
theorem pow56 {R L : Nat} (hR : R ≤ 5) (hL : L ≤ 6) : R ^ L ≤ 15625 := by
  have h1 : R ^ L ≤ 5 ^ L := Nat.pow_le_pow_left hR L
  have h2 : 5 ^ L ≤ 5 ^ 6 := Nat.pow_le_pow_right (by decide) hL
  exact Nat.le_trans h1 (Nat.le_trans h2 (by decide))
theorem digR_lt {R L m z : Nat} (h : 0 < R) : digR R L m z < R := Nat.mod_lt _ h
theorem mulP {R L : Nat} (hR : R ≤ 5) (h1 : 1 ≤ L) (h6 : L ≤ 6) : nI (R ^ (L - 1)) * nI R = nI (R ^ L) := by
  have e : R ^ L = R ^ (L - 1) * R := by rw [← Nat.pow_succ]; congr 1; omega
  rw [e]
  apply Int32.toBitVec_inj.mp
  rw [Int32.toBitVec_mul]
  apply BitVec.eq_of_toNat_eq
  simp [nI, Int32.toBitVec_ofNat, BitVec.toNat_mul]
def fwV (R : Nat) (fl fn k : Int32) : Int32 := if fl = -9 then -9 else if k < fl then if k = -1 then fl else nI (digR R fl.toNatClampNeg fn.toNatClampNeg k.toNatClampNeg) else -9
def G_few (b : St) (P R : Nat) (r k z : Int32) : Prop := if inN r R then if -1 ≤ k then ∃ fl fn, FN (hX P b) R r.toNatClampNeg (beg b) 7 0 fl fn ∧ z = fwV R fl fn k else z = -1 else z = -1
theorem kfew_ex {k : Int32} {L : Nat} (h1 : -1 ≤ k) (h2 : ¬ k = -1) (h3 : k < nI L) (hL : L ≤ 6) : ∃ k0, k = nI k0 ∧ k0 < L := by
  have h0 : 0 ≤ k := by
    rw [Int32.le_iff_toInt_le] at h1 ⊢
    have h4 : ¬ k.toInt = (-1 : Int32).toInt := fun e => h2 (Int32.toInt_inj.mp e)
    have e1 : (-1 : Int32).toInt = -1 := by decide
    have e2 : (0 : Int32).toInt = 0 := by decide
    omega
  obtain ⟨j, hj, rfl⟩ := nI_of (x := k) (Int32.not_lt.mpr h0)
  refine ⟨j, rfl, ?_⟩
  have := (nI_ltI (a := j) (b := L) (by omega) (by omega)).mp h3
  exact this
theorem FN_ex {h : HL} {R q : Nat} {c : Cl} {fl fn : Int32} (hR : R ≤ 5) (hn : ¬ fl = -9) (hf : FN h R q c 7 0 fl fn) : ∃ L0 m0, 1 ≤ L0 ∧ L0 ≤ 6 ∧ m0 < 15625 ∧ fl = nI L0 ∧ fn = nI m0 := by
  rcases hf with ⟨h1, _⟩ | ⟨L0, m0, a1, a2, a3, a4, a5, _⟩
  · exact absurd h1 hn
  · have := pow56 (R := R) (L := L0) hR a2
    exact ⟨L0, m0, a1, a2, by omega, a4, a5⟩
