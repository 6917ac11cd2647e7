/-! what the reference's larger calls answer, as it makes them -/
theorem pcN_le : ∀ f s, pcN f s ≤ f := by
  intro f
  induction f with
  | zero => intro s; exact Nat.le_refl 0
  | succ f ih =>
    intro s
    rw [pcN]
    split
    · omega
    · have := ih (s / 2); omega
theorem LM.eh {P : Nat} {t u : St} (h : LM t u) : hM P u = hM P t := by
  simp only [hM, h.2.2.1 4 (by omega), h.2.2.1 6 (by omega), h.2.2.1 7 (by omega), h.2.2.1 8 (by omega)]
theorem LM.eb {t u : St} (h : LM t u) : bgM u = bgM t := by
  simp only [bgM, h.2.2.1 5 (by omega)]
def G_worth (t : St) (P R : Nat) (r : Int32) : Int32 × St := if inN r R then (hoF (hX P t) R r.toNatClampNeg true R 0 (beg t) 0 - hoF (hX P t) R r.toNatClampNeg false R 0 (beg t) 0 + 100, t) else (-1, t)
def G_sand (t : St) (P R : Nat) (r : Int32) : Int32 × St := if inN r R then (nI (sandU (hX P t) (t.2 3) r.toNatClampNeg (t.2 5 r.toNatClampNeg) (2 ^ P) 0 (2 ^ P - 1)), t) else (-1, t)
def G_game (t : St) (P R : Nat) (r o n : Int32) : Int32 × St := if inN r R then if inN o R then if r = o then (-2, t) else if 0 ≤ n ∧ n ≤ 10 then (gmD n.toNatClampNeg (fun row => eoF (hX P t) r.toNatClampNeg o.toNatClampNeg row n.toNatClampNeg 0 (beg t)) 0, t) else (-2, t) else (-1, t) else (-1, t)
theorem nI_or (a b : Nat) : nI a ||| nI b = nI (a ||| b) := by
  apply Int32.toBitVec_inj.mp
  rw [Int32.toBitVec_or]
  apply BitVec.eq_of_getLsbD_eq
  intro i hi
  simp [nI, Int32.toBitVec_ofNat, BitVec.getLsbD_or, BitVec.getLsbD_ofNat, hi]
theorem nI_orp {z k : Nat} (h : z < 2 ^ k) : nI z ||| nI (2 ^ k) = nI (z + 2 ^ k) := by
  rw [nI_or, Nat.or_comm]
  have := Nat.two_pow_add_eq_or_of_lt h 1
  rw [Nat.mul_one] at this
  rw [← this, Nat.add_comm]
theorem levF_0 (E : Nat → Int32) (k : Nat) : levF E k 0 = E := by
  funext j; unfold levF; rw [if_neg (by omega)]
theorem levF_s (E : Nat → Int32) (k z : Nat) : upd (levF E k z) z (bet (E z) (E (z + 2 ^ k)) (if k % 2 = 0 then 1 else 2)) = levF E k (z + 1) := by
  funext j
  simp only [levF, upd]
  generalize (if k % 2 = 0 then (1 : Int32) else 2) = w9
  by_cases h9 : j = z
  · subst h9; rw [if_pos rfl, if_pos (by omega)]
  · rw [if_neg h9]
    by_cases h8 : j < z
    · rw [if_pos h8, if_pos (by omega)]
    · rw [if_neg h8, if_neg (by omega)]
theorem LM.arr {t u : St} (h : LM t u) {k : Nat} (f : Nat → Int32) (h9 : 9 ≤ k) (h16 : k ≠ 16) (h17 : k ≠ 17) : LM t (u.1, va_up u.2 k f) := by
  obtain ⟨l1, l2, l3, l4, l5⟩ := h
  refine ⟨l1, l2, fun j hj => ?_, ?_, ?_⟩
  · show va_up u.2 k f j = _
    rw [va_up_ne _ _ (by omega)]; exact l3 j hj
  · show va_up u.2 k f 16 = _
    rw [va_up_ne _ _ (by omega)]; exact l4
  · show va_up u.2 k f 17 = _
    rw [va_up_ne _ _ (by omega)]; exact l5
theorem LM.sc {t u : St} (h : LM t u) {k : Nat} (v : Int32) (h4 : 4 ≤ k) (h12 : k ≠ 12) : LM t (va_up u.1 k v, u.2) := by
  obtain ⟨l1, l2, l3, l4, l5⟩ := h
  refine ⟨fun j hj => ?_, ?_, l3, l4, l5⟩
  · show va_up u.1 k v j = _
    rw [va_up_ne _ _ (by omega)]; exact l1 j hj
  · show va_up u.1 k v 12 = _
    rw [va_up_ne _ _ (by omega)]; exact l2
