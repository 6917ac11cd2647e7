/-! the reference's side: climbs that agree up to the paces and riders there are -/
def CE (P R : Nat) (c c' : Cl) : Prop := (∀ p, p < P → c.1 p = c'.1 p) ∧ (∀ r, r < R → c.2.1 r = c'.2.1 r) ∧ (∀ r, r < R → c.2.2.1 r = c'.2.2.1 r) ∧ c.2.2.2 = c'.2.2.2
def CW (P : Nat) (c : Cl) : Prop := ∀ p, p < P → ∃ j, j ≤ 9 ∧ c.1 p = nI j
theorem CE.rf (P R : Nat) (c : Cl) : CE P R c c := ⟨fun _ _ => rfl, fun _ _ => rfl, fun _ _ => rfl, rfl⟩
theorem CE.cw {P R : Nat} {c c' : Cl} (h : CE P R c c') (hw : CW P c') : CW P c := fun p hp => by rw [h.1 p hp]; exact hw p hp
theorem hgt_ce {h : HL} {q : Nat} {f g : Nat → Int32} {P : Nat} (hfg : ∀ p, p < P → f p = g p) : ∀ n p l, p + n ≤ P → hgt h q f n p l = hgt h q g n p l := by
  intro n
  induction n with
  | zero => intro p l _; rfl
  | succ n ih =>
    intro p l hp
    rw [hgt, hgt, hfg p (by omega), ih (p + 1) _ (by omega)]
theorem hgt_le (h : HL) (q : Nat) (f : Nat → Int32) : ∀ n p l, hgt h q f n p l ≤ p + n := by
  intro n
  induction n with
  | zero => intro p l; exact Nat.le_refl p
  | succ n ih =>
    intro p l
    rw [hgt]
    split
    · have := ih (p + 1) (l - toll h q p (f p)); omega
    · omega
theorem high_ce {h : HL} {q P R : Nat} {c c' : Cl} (hP : h.1 = P) (hq : q < R) (hc : CE P R c c') : high h q c = high h q c' := by
  unfold high left0
  rw [hc.2.1 q hq, hP]
  exact hgt_ce hc.1 P 0 _ (by omega)
theorem att_ce {h : HL} {q P R : Nat} {c c' : Cl} (hP : h.1 = P) (hq : q < R) (hc : CE P R c c') : CE P R (att h q c) (att h q c') := by
  have e := high_ce hP hq hc
  unfold att
  rw [e]
  refine ⟨fun p hp => ?_, fun r hr => ?_, fun r hr => ?_, ?_⟩
  · show (if high h q c' = h.1 then c.1 else slideF c.1 (high h q c') (marks h q)) p = (if high h q c' = h.1 then c'.1 else slideF c'.1 (high h q c') (marks h q)) p
    split
    · exact hc.1 p hp
    · show slideF c.1 _ _ p = slideF c'.1 _ _ p
      unfold slideF
      rw [hc.1 p hp]
  · show upd c.2.1 q (c.2.1 q + 1) r = upd c'.2.1 q (c'.2.1 q + 1) r
    unfold upd
    rw [hc.2.1 q hq, hc.2.1 r hr]
  · show upd c.2.2.1 q _ r = upd c'.2.2.1 q _ r
    unfold upd
    rw [hc.2.2.1 r hr]
  · show (if _ then _ else _) = (if _ then _ else _)
    rw [hc.2.2.2]
theorem rain_ce {P R : Nat} {c c' : Cl} (hc : CE P R c c') : CE P R (rain P c) (rain P c') := by
  refine ⟨fun p hp => ?_, hc.2⟩
  show rainF c.1 P p = rainF c'.1 P p
  unfold rainF
  rw [hc.1 p hp]
theorem goOn_ce {h : HL} {v P R : Nat} {c c' : Cl} (hP : h.1 = P) (hv : v = 5 ∨ v < R) (hc : CE P R c c') : CE P R (goOn h v c) (goOn h v c') := by
  unfold goOn
  rw [hc.2.2.2, hP]
  split
  · exact rain_ce hc
  · split
    · exact hc
    · exact att_ce hP (by omega) hc
theorem mx0_p : ∀ j, j ≤ 9 → mx0 (nI j - 1) = nI (j - 1) := by
  intro j hj
  rcases (show j = 0 ∨ j = 1 ∨ j = 2 ∨ j = 3 ∨ j = 4 ∨ j = 5 ∨ j = 6 ∨ j = 7 ∨ j = 8 ∨ j = 9 by omega) with rfl | rfl | rfl | rfl | rfl | rfl | rfl | rfl | rfl | rfl <;> decide
theorem rn_p : ∀ j, j ≤ 9 → nI j - (if 0 < nI j then 1 else 0) = mx0 (nI j - 1) := by
  intro j hj
  rcases (show j = 0 ∨ j = 1 ∨ j = 2 ∨ j = 3 ∨ j = 4 ∨ j = 5 ∨ j = 6 ∨ j = 7 ∨ j = 8 ∨ j = 9 by omega) with rfl | rfl | rfl | rfl | rfl | rfl | rfl | rfl | rfl | rfl <;> decide
theorem mn9_p : ∀ j, j ≤ 9 → (∃ i, i ≤ 9 ∧ mn9 (nI j + 1) = nI i) ∧ ∃ i, i ≤ 9 ∧ mn9 (nI j + 2) = nI i := by
  intro j hj
  rcases (show j = 0 ∨ j = 1 ∨ j = 2 ∨ j = 3 ∨ j = 4 ∨ j = 5 ∨ j = 6 ∨ j = 7 ∨ j = 8 ∨ j = 9 by omega) with rfl | rfl | rfl | rfl | rfl | rfl | rfl | rfl | rfl | rfl
  · exact ⟨⟨1, by decide, by decide⟩, 2, by decide, by decide⟩
  · exact ⟨⟨2, by decide, by decide⟩, 3, by decide, by decide⟩
  · exact ⟨⟨3, by decide, by decide⟩, 4, by decide, by decide⟩
  · exact ⟨⟨4, by decide, by decide⟩, 5, by decide, by decide⟩
  · exact ⟨⟨5, by decide, by decide⟩, 6, by decide, by decide⟩
  · exact ⟨⟨6, by decide, by decide⟩, 7, by decide, by decide⟩
  · exact ⟨⟨7, by decide, by decide⟩, 8, by decide, by decide⟩
  · exact ⟨⟨8, by decide, by decide⟩, 9, by decide, by decide⟩
  · exact ⟨⟨9, by decide, by decide⟩, 9, by decide, by decide⟩
  · exact ⟨⟨9, by decide, by decide⟩, 9, by decide, by decide⟩
theorem CW.rain {P : Nat} {c : Cl} (h : CW P c) : CW P (rain P c) := by
  intro p hp
  obtain ⟨j, hj, e⟩ := h p hp
  refine ⟨j - 1, by omega, ?_⟩
  show rainF c.1 P p = _
  unfold rainF
  rw [if_pos hp, e, mx0_p j hj]
theorem CW.att {P q : Nat} {h : HL} {c : Cl} (hw : CW P c) : CW P (att h q c) := by
  intro p hp
  obtain ⟨j, hj, e⟩ := hw p hp
  have key : ∃ i, i ≤ 9 ∧ slideF c.1 (high h q c) (marks h q) p = nI i := by
    unfold slideF
    split
    · rw [e]
      unfold marks
      split
      · exact (mn9_p j hj).2
      · exact (mn9_p j hj).1
    · exact ⟨j, hj, e⟩
  show ∃ j, j ≤ 9 ∧ (if high h q c = h.1 then c.1 else slideF c.1 (high h q c) (marks h q)) p = nI j
  split
  · exact ⟨j, hj, e⟩
  · exact key
theorem mx0_lt {y : Int32} (h : y < 0) : mx0 y = 0 := if_neg (Int32.not_lt.mpr (Int32.le_of_lt h))
theorem mx0_ge {y : Int32} (h : 0 ≤ y) : mx0 y = y := by
  unfold mx0
  split
  · rfl
  · rename_i h2
    exact Int32.le_antisymm h (Int32.not_lt.mp h2)
theorem mn9_le {y : Int32} (h : y ≤ 9) : mn9 y = y := by
  unfold mn9
  split
  · rfl
  · rename_i h2
    exact Int32.le_antisymm (Int32.not_lt.mp h2) h
theorem mn9_gt {y : Int32} (h : ¬ y ≤ 9) : mn9 y = 9 := if_neg (fun h2 => h (Int32.le_of_lt h2))
theorem sub0 (x : Int32) : x - 0 = x := Int32.sub_zero x
def agrM (t u : St) : Prop := (∀ k, k ≠ 7 → u.1 k = t.1 k) ∧ (∀ k, k ≠ 11 → k ≠ 12 → k ≠ 13 → u.2 k = t.2 k)
theorem agrM.rf (t : St) : agrM t t := ⟨fun _ _ => rfl, fun _ _ _ _ => rfl⟩
theorem agrM.tr {t u w : St} (h1 : agrM t u) (h2 : agrM u w) : agrM t w := ⟨fun k h => (h2.1 k h).trans (h1.1 k h), fun k a b c => (h2.2 k a b c).trans (h1.2 k a b c)⟩
def bgM (t : St) : Cl := (t.2 5, fun _ => 0, fun _ => -9, 0)
def agrG (t u : St) : Prop := (∀ k, k ≠ 7 → k ≠ 9 → u.1 k = t.1 k) ∧ (∀ k, k ≠ 11 → k ≠ 12 → k ≠ 13 → u.2 k = t.2 k)
theorem agrG.rf (t : St) : agrG t t := ⟨fun _ _ _ => rfl, fun _ _ _ _ => rfl⟩
theorem agrG.tr {t u w : St} (h1 : agrG t u) (h2 : agrG u w) : agrG t w := ⟨fun k h h' => (h2.1 k h h').trans (h1.1 k h h'), fun k a b c => (h2.2 k a b c).trans (h1.2 k a b c)⟩
theorem agrM.g {t u : St} (h : agrM t u) : agrG t u := ⟨fun k h1 _ => h.1 k h1, h.2⟩
theorem agrG.eh {P : Nat} {t u : St} (h : agrG t u) : hM P u = hM P t := by
  simp only [hM, h.2 4 (by omega) (by omega) (by omega), h.2 6 (by omega) (by omega) (by omega), h.2 7 (by omega) (by omega) (by omega), h.2 8 (by omega) (by omega) (by omega)]
theorem agrG.eb {t u : St} (h : agrG t u) : bgM u = bgM t := by
  simp only [bgM, h.2 5 (by omega) (by omega) (by omega)]
theorem or_nz {x y : Int32} (h : ¬ x = 0) : ¬ x ||| y = 0 := by
  intro h2
  apply h
  have h3 : (x ||| y).toBitVec = 0 := by rw [h2]; rfl
  rw [Int32.toBitVec_or] at h3
  have h4 : x.toBitVec = 0 := by
    apply BitVec.eq_of_getLsbD_eq
    intro i hi
    have h5 := congrArg (fun b => BitVec.getLsbD b i) h3
    simp only [BitVec.getLsbD_or] at h5
    simp at h5 ⊢
    exact h5.1
  exact Int32.toBitVec_inj.mp h4
def FUi (h : HL) (stp : Nat → Nat) (n k : Nat) (c : Cl) (x T0 : Int32) : Prop := (x = -9 ∧ c.2.2.2 = 0 ∧ fu h stp (n - k) k c = T0) ∨ (¬ c.2.2.2 = 0 ∧ x = T0 ∧ ¬ x = -9)
theorem FU_rain {h : HL} {stp : Nat → Nat} {n k : Nat} {c : Cl} {x T0 : Int32} (hk : k < n) (h5 : stp k = 5) (hf : FUi h stp n k c x T0) : FUi h stp n (k + 1) (rain h.1 c) x T0 := by
  rcases hf with ⟨h1, h2, h3⟩ | hf
  · refine Or.inl ⟨h1, h2, ?_⟩
    rw [← h3, show n - k = (n - (k + 1)) + 1 by omega, fu]
    have e : goOn h (stp k) c = rain h.1 c := by unfold goOn; rw [if_pos h5]
    rw [e, if_pos (show (rain h.1 c).2.2.2 = 0 from h2)]
  · exact Or.inr hf
theorem FU_a1 {h : HL} {stp : Nat → Nat} {n k : Nat} {c : Cl} {x T0 : Int32} (hk : k < n) (hn : n ≤ 60) (h5 : ¬ stp k = 5) (hu : ¬ isup c.2.2.2 (stp k)) (hf : FUi h stp n k c x T0) (hx : x = -9) (hup : ¬ (att h (stp k) c).2.2.2 = 0) : FUi h stp n (k + 1) (att h (stp k) c) (nI k) T0 := by
  rcases hf with ⟨h1, h2, h3⟩ | hf
  · refine Or.inr ⟨hup, ?_, nI_m9 (by omega)⟩
    rw [← h3, show n - k = (n - (k + 1)) + 1 by omega, fu]
    have e : goOn h (stp k) c = att h (stp k) c := by unfold goOn; rw [if_neg h5, if_neg hu]
    rw [e, if_neg hup]
  · exact absurd hx hf.2.2
theorem att_up {h : HL} {q : Nat} {c : Cl} (hu : ¬ c.2.2.2 = 0) : ¬ (att h q c).2.2.2 = 0 := by
  show ¬ (if high h q c = h.1 then c.2.2.2 ||| (1 <<< (nI q &&& 31)) else c.2.2.2) = 0
  split
  · exact or_nz hu
  · exact hu
theorem FU_a2 {h : HL} {stp : Nat → Nat} {n k : Nat} {c : Cl} {x T0 : Int32} (hk : k < n) (h5 : ¬ stp k = 5) (hu : ¬ isup c.2.2.2 (stp k)) (hf : FUi h stp n k c x T0) (hx : ¬ x = -9 ∨ (att h (stp k) c).2.2.2 = 0) : FUi h stp n (k + 1) (att h (stp k) c) x T0 := by
  rcases hf with ⟨h1, h2, h3⟩ | ⟨h1, h2, h3⟩
  · rcases hx with hx | hx
    · exact absurd h1 hx
    · refine Or.inl ⟨h1, hx, ?_⟩
      rw [← h3, show n - k = (n - (k + 1)) + 1 by omega, fu]
      have e : goOn h (stp k) c = att h (stp k) c := by unfold goOn; rw [if_neg h5, if_neg hu]
      rw [e, if_pos hx]
  · exact Or.inr ⟨att_up h1, h2, h3⟩
