/-! how the reference's state stands to the system's -/
def laneOk (a : St) : Prop := ∀ k, k < 4 → a.1 (5 + 2 * k) = -1 ∨ a.1 (5 + 2 * k) = 0 ∨ a.1 (5 + 2 * k) = 1 ∨ a.1 (5 + 2 * k) = 2
def shM (a t : St) (k : Nat) : Prop := t.2 1 k = (if a.1 (5 + 2 * k) = -1 then -9 else a.1 (5 + 2 * k)) ∧ (¬ a.1 (5 + 2 * k) = -1 → t.2 2 k = a.1 (6 + 2 * k) ∧ ∀ j, j < 60 → t.2 3 (60 * k + j) = a.2 (15 + 2 * k) j)
def AM (a t : St) : Prop := (t.1 0 = a.1 1 ∧ t.1 1 = a.1 0 ∧ t.1 2 = a.1 2 ∧ t.1 3 = a.1 3 ∧ t.1 12 = a.1 4) ∧ (t.2 4 = a.2 2 ∧ t.2 5 = a.2 3 ∧ t.2 6 = a.2 4 ∧ t.2 7 = a.2 5 ∧ t.2 8 = a.2 6 ∧ t.2 16 = a.2 8 ∧ t.2 17 = a.2 9) ∧ ∀ k, k < 4 → shM a t k
def RNG (a : St) (P R : Nat) : Prop := (∀ p, p < P → ∃ j, j ≤ 9 ∧ a.2 2 p = nI j) ∧ (∀ p, p < P → ∃ j, j ≤ 9 ∧ a.2 3 p = nI j) ∧ (∀ r, r < R → ∃ j, j ≤ 99 ∧ a.2 5 r = nI j) ∧ (∀ r, r < R → ∃ j, j ≤ 9 ∧ a.2 6 r = nI j)
def WF (a : St) (P R C : Nat) : Prop := BW a P R C ∧ laneOk a ∧ (P = 0 ↔ R = 0) ∧ RNG a P R ∧ ∀ k, k < C → ∃ q, q < R ∧ a.2 8 k = nI q
def LM (t u : St) : Prop := (∀ k, k < 4 → u.1 k = t.1 k) ∧ u.1 12 = t.1 12 ∧ (∀ k, k < 9 → u.2 k = t.2 k) ∧ u.2 16 = t.2 16 ∧ u.2 17 = t.2 17
theorem LM.rf (t : St) : LM t t := ⟨fun _ _ => rfl, rfl, fun _ _ => rfl, rfl, rfl⟩
theorem LM.tr {t u w : St} (h1 : LM t u) (h2 : LM u w) : LM t w := ⟨fun k h => (h2.1 k h).trans (h1.1 k h), h2.2.1.trans h1.2.1, fun k h => (h2.2.2.1 k h).trans (h1.2.2.1 k h), h2.2.2.2.1.trans h1.2.2.2.1, h2.2.2.2.2.trans h1.2.2.2.2⟩
theorem agrG.lm {t u : St} (h : agrG t u) : LM t u := ⟨fun k hk => h.1 k (by omega) (by omega), h.1 12 (by omega) (by omega), fun k hk => h.2 k (by omega) (by omega) (by omega), h.2 16 (by omega) (by omega) (by omega), h.2 17 (by omega) (by omega) (by omega)⟩
theorem agrM.lm {t u : St} (h : agrM t u) : LM t u := h.g.lm
theorem AM.lm {a t u : St} (h : AM a t) (hl : LM t u) : AM a u := by
  obtain ⟨⟨h0, h1, h2, h3, h4⟩, ⟨h5, h6, h7, h8, h9, h10, h11⟩, h12⟩ := h
  obtain ⟨l1, l2, l3, l4, l5⟩ := hl
  refine ⟨⟨(l1 0 (by omega)).trans h0, (l1 1 (by omega)).trans h1, (l1 2 (by omega)).trans h2, (l1 3 (by omega)).trans h3, l2.trans h4⟩, ⟨(l3 4 (by omega)).trans h5, (l3 5 (by omega)).trans h6, (l3 6 (by omega)).trans h7, (l3 7 (by omega)).trans h8, (l3 8 (by omega)).trans h9, l4.trans h10, l5.trans h11⟩, fun k hk => ?_⟩
  unfold shM
  rw [l3 1 (by omega), l3 2 (by omega), l3 3 (by omega)]
  exact h12 k hk
theorem AM.eh {a t : St} (h : AM a t) (P : Nat) : hM P t = hX P a := by
  obtain ⟨-, ⟨h5, -, h7, h8, h9, -, -⟩, -⟩ := h
  unfold hM hX
  rw [h5, h7, h8, h9]
theorem AM.eb {a t : St} (h : AM a t) : bgM t = beg a := by
  unfold bgM beg
  rw [h.2.1.2.1]
theorem srt {a t : St} {k : Nat} (hk : k < 4) (hl : laneOk a) (h : shM a t k) : (t.2 1 k = -9 ↔ a.1 (5 + 2 * k) = -1) ∧ (¬ a.1 (5 + 2 * k) = -1 → t.2 1 k = a.1 (5 + 2 * k)) := by
  rw [h.1]
  rcases hl k hk with e | e | e | e <;> rw [e] <;> decide
def lyF (a : St) (R k : Nat) (la i n : Int32) : Int32 × Int32 := if ¬ focF (a.1 (5 + 2 * k)) (a.1 (6 + 2 * k)) la i n = 0 then ((-10) - focF (a.1 (5 + 2 * k)) (a.1 (6 + 2 * k)) la i n, focF (a.1 (5 + 2 * k)) (a.1 (6 + 2 * k)) la i n) else if R = 0 then (-3, 0) else if stOk R (a.2 (15 + 2 * k)) i.toNatClampNeg n.toNatClampNeg then (0, 0) else (-1, 0)
theorem rs_ly {a : St} {P R k : Nat} {la i n b : Int32} (hk : k ≤ 3) (ha : 0 ≤ la ∧ la ≤ 2) (hb : ¬ b = 0) (hPR : P = 0 ↔ R = 0) : rsF a P R (nI k) la i n b = lyF a R k la i n := by
  unfold rsF lyF
  rw [if_neg (not_not_intro ⟨nI_pos' (by omega), nI_le (a := k) (b := 3) hk (by decide)⟩), if_neg (not_not_intro ha), if_neg hb, nI_clamp (by omega)]
  by_cases h0 : P = 0
  · rw [if_pos h0, if_pos (hPR.mp h0)]
  · rw [if_neg h0, if_neg (fun h => h0 (hPR.mpr h))]
