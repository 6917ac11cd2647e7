/-! who is up stays up -/
theorem sr_or (x y k : Int32) : (x ||| y) >>> k = (x >>> k) ||| (y >>> k) := by
  apply Int32.toBitVec_inj.mp
  rw [Int32.toBitVec_shiftRight, Int32.toBitVec_or, Int32.toBitVec_or, Int32.toBitVec_shiftRight, Int32.toBitVec_shiftRight]
  exact BitVec.sshiftRight_or_distrib _ _ _
theorem and_or1 (x y : Int32) (h : x &&& 1 = 1) : (x ||| y) &&& 1 = 1 := by
  have e : (x ||| y) &&& 1 = (x &&& 1) ||| (y &&& 1) := by
    apply Int32.toBitVec_inj.mp
    rw [Int32.toBitVec_and, Int32.toBitVec_or, Int32.toBitVec_or, Int32.toBitVec_and, Int32.toBitVec_and]
    apply BitVec.eq_of_getLsbD_eq
    intro i hi
    simp only [BitVec.getLsbD_and, BitVec.getLsbD_or]
    cases x.toBitVec.getLsbD i <;> cases y.toBitVec.getLsbD i <;> cases (Int32.toBitVec 1).getLsbD i <;> rfl
  rw [e, h]
  rcases and1 y with h2 | h2 <;> rw [h2] <;> rfl
theorem isup_or {x : Int32} (y : Int32) {q : Nat} (h : isup x q) : isup (x ||| y) q := by
  unfold isup at *
  rw [sr_or]
  exact and_or1 _ _ h
theorem up_K (h : HL) (q : Nat) : upK h q := by
  intro v c hc
  unfold goOn
  split
  · exact hc
  · split
    · exact hc
    · show isup (if high h v c = h.1 then c.2.2.2 ||| (1 <<< (nI v &&& 31)) else c.2.2.2) q
      split
      · exact isup_or _ hc
      · exact hc
