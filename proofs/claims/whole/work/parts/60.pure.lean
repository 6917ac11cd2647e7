/-! one rider's bit, the other's kept -/
theorem bit_o : ∀ a : Fin 5, ∀ b : Fin 5, a.val ≠ b.val → ((1 : Int32) <<< (nI a.val &&& 31)) >>> (nI b.val &&& 31) &&& 1 = 0 := by decide +kernel
theorem and_or0 (x y : Int32) (h : y &&& 1 = 0) : (x ||| y) &&& 1 = x &&& 1 := by
  have e : (x ||| y) &&& 1 = (x &&& 1) ||| (y &&& 1) := by
    apply Int32.toBitVec_inj.mp
    rw [Int32.toBitVec_and, Int32.toBitVec_or, Int32.toBitVec_or, Int32.toBitVec_and, Int32.toBitVec_and]
    apply BitVec.eq_of_getLsbD_eq
    intro i hi
    simp only [BitVec.getLsbD_and, BitVec.getLsbD_or]
    cases x.toBitVec.getLsbD i <;> cases y.toBitVec.getLsbD i <;> cases (Int32.toBitVec 1).getLsbD i <;> rfl
  rw [e, h, or0]
theorem att_oth {h : HL} {q v : Nat} {c : Cl} (hq : q < 5) (hv : v < 5) (hne : q ≠ v) : isup (att h q c).2.2.2 v ↔ isup c.2.2.2 v := by
  show isup (if high h q c = h.1 then c.2.2.2 ||| (1 <<< (nI q &&& 31)) else c.2.2.2) v ↔ _
  split
  · unfold isup
    rw [sr_or, and_or0 _ _ (bit_o ⟨q, hq⟩ ⟨v, hv⟩ hne)]
  · exact Iff.rfl
