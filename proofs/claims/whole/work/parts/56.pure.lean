/-! the sums of sand -/
theorem mx0_9 : ∀ a b c : Fin 10, (∃ j : Fin 10, mx0 (nI a.val - nI b.val - nI c.val) = nI j.val) ∧ ∃ j : Fin 10, mx0 (nI a.val - nI b.val - nI c.val - 1) = nI j.val := by decide +kernel
theorem toll_9 {h : HL} {q k : Nat} {x : Int32} (ha : ∃ j, j ≤ 9 ∧ h.2.1 k = nI j) (hb : ∃ j, j ≤ 9 ∧ x = nI j) (hc : ∃ j, j ≤ 9 ∧ h.2.2.2.2 q = nI j) : ∃ j, j ≤ 9 ∧ toll h q k x = nI j := by
  obtain ⟨a, ha, ea⟩ := ha
  obtain ⟨b, hb, rfl⟩ := hb
  obtain ⟨c, hc, ec⟩ := hc
  obtain ⟨⟨j1, e1⟩, ⟨j2, e2⟩⟩ := mx0_9 ⟨a, by omega⟩ ⟨b, by omega⟩ ⟨c, by omega⟩
  unfold toll
  rw [ea, ec]
  split
  · exact ⟨j2.val, by omega, e2⟩
  · exact ⟨j1.val, by omega, e1⟩
theorem nI_a (a b : Nat) : nI (a + b) = nI a + nI b := by
  induction b with
  | zero => exact (Int32.add_zero _).symm
  | succ b ih => rw [← Nat.add_assoc, nI_s, ih, nI_s, Int32.add_assoc]
theorem sum_both {h : HL} {ld : Nat → Int32} {q P : Nat} {set : Int32} {v : Nat} (ht : ∀ p, p < P → ∃ j, j ≤ 9 ∧ toll h q p (ld p) = nI j) : ∀ n p S, p + n ≤ P → ∃ S', S' ≤ S + 9 * n ∧ ssum h ld q set n p (nI S) = nI S' ∧ sleft h ld q set n p (nI v - nI S) = nI v - nI S' := by
  intro n
  induction n with
  | zero => intro p S _; exact ⟨S, by omega, rfl, rfl⟩
  | succ n ih =>
    intro p S hp
    obtain ⟨j, hj, e⟩ := ht p (by omega)
    rw [ssum, sleft]
    rcases and1 (set >>> (nI p &&& 31)) with h0 | h1
    · obtain ⟨S', a1, a2, a3⟩ := ih (p + 1) (S + j) (by omega)
      refine ⟨S', by omega, ?_, ?_⟩
      · rw [h0, if_neg (by decide), e, ← nI_a]; exact a2
      · rw [h0, if_pos rfl, e, ← a3]
        congr 1
        rw [nI_a, Int32.sub_eq_add_neg, Int32.sub_eq_add_neg, Int32.sub_eq_add_neg, Int32.neg_add, Int32.sub_eq_add_neg, Int32.add_assoc]
    · obtain ⟨S', a1, a2, a3⟩ := ih (p + 1) S (by omega)
      refine ⟨S', by omega, ?_, ?_⟩
      · rw [h1, if_pos rfl, Int32.add_zero]; exact a2
      · rw [h1, if_neg (by decide)]; exact a3
theorem le_sub {S v : Nat} (hS : S ≤ 200) (hv : v ≤ 200) : 0 ≤ nI v - nI S ↔ nI S ≤ nI v := by
  have e : (nI v - nI S : Int32).toInt = (v : Int) - S := pk_sub_toInt (a := v) (b := S) (by omega) (by omega)
  rw [Int32.le_iff_toInt_le, e, nI_leI (by omega) (by omega), Int32.toInt_zero]
  omega
theorem F_G_sand {t : St} {P R C : Nat} (hB : WF t P R C) (r : Int32) : F_sand t P R r = G_sand t P R r := by
  obtain ⟨⟨bP, hP8, bR, hR5, bC, hC8, hlen⟩, hl4, hPR, ⟨h1, h2, h3, h4⟩, hrd⟩ := hB
  unfold F_sand G_sand
  by_cases hr : inN r R
  · obtain ⟨q, hq, rfl⟩ := inN_ex hr (by omega)
    rw [if_pos hr, if_pos hr, nI_clamp (by omega)]
    obtain ⟨v, hv, ev⟩ := h3 q hq
    rw [sand_eq hP8 (fun s _ => ?_)]
    obtain ⟨S', a1, a2, a3⟩ := sum_both (h := hX P t) (ld := t.2 3) (q := q) (P := P) (set := nI s) (v := v) (fun p hp => toll_9 (h1 p hp) (h2 p hp) (h4 q hq)) P 0 0 (by omega)
    have e0 : nI v - nI 0 = nI v := Int32.sub_zero _
    rw [e0] at a3
    rw [ev]
    show 0 ≤ sleft (hX P t) (t.2 3) q (nI s) P 0 (nI v) ↔ ssum (hX P t) (t.2 3) q (nI s) P 0 (nI 0) ≤ nI v
    rw [a2, a3]
    exact le_sub (by omega) (by omega)
  · rw [if_neg hr, if_neg hr]
