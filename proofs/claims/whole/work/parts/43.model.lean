/-! laid rows and exchanged values on the reference's side -/
theorem sh_flt {b t : St} {v : Int32} (h : AM (flt b v) t) : ∀ k, k < 4 → shM b t k := by
  intro k hk
  have h9 := h.2.2 k hk
  unfold shM flt at *
  simp (disch := omega) only [va_up_ne] at h9 ⊢
  exact h9
theorem am_ly {b t u : St} {w v : Int32} (h : AM (flt b w) t) (hf : u.1 0 = v) (hg : ∀ k, k ≠ 0 → k ≠ 8 → u.1 k = t.1 k) (ha : ∀ k, k ≠ 14 → u.2 k = t.2 k) : AM (flt b v) u := by
  have hs := sh_flt h
  obtain ⟨⟨h0, h1, h2, h3, h4⟩, ⟨h5, h6, h7, h8, h9, h10, h11⟩, -⟩ := h
  refine ⟨⟨hf, (hg 1 (by omega) (by omega)).trans h1, (hg 2 (by omega) (by omega)).trans h2, (hg 3 (by omega) (by omega)).trans h3, (hg 12 (by omega) (by omega)).trans h4⟩, ⟨(ha 4 (by omega)).trans h5, (ha 5 (by omega)).trans h6, (ha 6 (by omega)).trans h7, (ha 7 (by omega)).trans h8, (ha 8 (by omega)).trans h9, (ha 16 (by omega)).trans h10, (ha 17 (by omega)).trans h11⟩, fun k hk => ?_⟩
  have h12 := hs k hk
  unfold shM flt at *
  simp (disch := omega) only [va_up_ne] at h12 ⊢
  rw [ha 1 (by omega), ha 2 (by omega), ha 3 (by omega)]
  exact h12
theorem rn_ly {a : St} {P R k : Nat} {la i n kn : Int32} (hkn : ¬ kn = 0) (hk : k ≤ 3) (ha : (0 ≤ la ∧ la ≤ 2) ∧ 0 ≤ n ∧ n ≤ 30) (hPR : P = 0 ↔ R = 0) : rnF a P R kn (nI k) la i n 1 = lyF a R k la i n := by
  unfold rnF
  rw [if_neg hkn]
  exact rs_ly hk ha.1 (by rw [← bI_t ⟨by decide, ha.2⟩]; decide) hPR
theorem rs_out {a : St} {P R : Nat} {x la i n : Int32} {ok : Prop} [Decidable ok] (hx : 0 ≤ x ∧ x ≤ 3) (h : ¬ ((0 ≤ la ∧ la ≤ 2) ∧ ok)) : rsF a P R x la i n (bI ok) = (-2, 0) := by
  unfold rsF
  rw [if_neg (not_not_intro hx)]
  by_cases hl : 0 ≤ la ∧ la ≤ 2
  · rw [if_neg (not_not_intro hl), if_pos (bI_f (fun h2 => h ⟨hl, h2⟩)).symm]
  · rw [if_pos hl]
theorem rn_out {a : St} {P R : Nat} {x la i n kn : Int32} (hkn : ¬ kn = 0) (hx : 0 ≤ x ∧ x ≤ 3) (h : ¬ ((0 ≤ la ∧ la ≤ 2) ∧ 0 ≤ n ∧ n ≤ 30)) : rnF a P R kn x la i n 1 = (-2, 0) := by
  unfold rnF
  rw [if_neg hkn]
  exact rs_out hx (fun h2 => h ⟨h2.1, h2.2.2⟩)
theorem rn_sh {a : St} {P R : Nat} {x la i n kn m : Int32} (hx : ¬ (0 ≤ x ∧ x ≤ 3)) : rnF a P R kn x la i n m = (-1, 0) := by
  unfold rnF rsF
  by_cases h9 : kn = 0
  · rw [if_pos h9]
  · rw [if_neg h9, if_pos hx]
theorem am_ex {b u : St} {kb kt q : Nat} {x : Int32} (y : Int32) (h : AM (exS b kb q x) u) (hk : (kb = 2 ∧ kt = 4) ∨ (kb = 3 ∧ kt = 5) ∨ (kb = 4 ∧ kt = 6) ∨ (kb = 5 ∧ kt = 7) ∨ (kb = 6 ∧ kt = 8)) : AM (exS b kb q y) (u.1, va_up u.2 kt (upd (u.2 kt) q y)) := by
  have e : u.2 kt = upd (b.2 kb) q x := by
    have e9 : u.2 kt = (exS b kb q x).2 kb := by
      rcases hk with ⟨rfl, rfl⟩ | ⟨rfl, rfl⟩ | ⟨rfl, rfl⟩ | ⟨rfl, rfl⟩ | ⟨rfl, rfl⟩
      · exact h.2.1.1
      · exact h.2.1.2.1
      · exact h.2.1.2.2.1
      · exact h.2.1.2.2.2.1
      · exact h.2.1.2.2.2.2.1
    rw [e9]; exact va_up_self _ _ _
  have h2 := am_arr h kb kt (upd (u.2 kt) q y) (by omega)
  have e3 : ((exS b kb q x).1, va_up (exS b kb q x).2 kb (upd (u.2 kt) q y)) = exS b kb q y := by
    unfold exS
    refine Prod.ext rfl ?_
    funext j
    rw [e, upd_upd]
    show va_up (va_up b.2 kb _) kb _ j = va_up b.2 kb _ j
    by_cases hj : j = kb
    · subst hj; rw [va_up_self, va_up_self]
    · rw [va_up_ne _ _ hj, va_up_ne _ _ hj, va_up_ne _ _ hj]
  rw [e3] at h2
  exact h2
theorem am_f {b u : St} {P R C c q : Nat} {x w : Int32} (hB : WF b P R C) (h : AM (exS (flt b w) c q x) u) (h3 : c ≠ 3) (h8 : c ≠ 8) : u.1 2 = nI P ∧ u.1 3 = nI R ∧ u.1 12 = nI C ∧ (∀ k, k < C → ∃ q, q < R ∧ u.2 16 k = nI q) ∧ CW P (bgM u) := by
  obtain ⟨⟨bP, hP8, bR, hR5, bC, hC8, hlen⟩, hl4, hPR, hrg, hrd⟩ := hB
  obtain ⟨⟨a0, a1, a2, a3, a4⟩, ⟨v4, v5, v6, v7, v8, v16, v17⟩, hsh⟩ := h
  refine ⟨a2.trans bP, a3.trans bR, a4.trans bC, fun k hk => ?_, fun p hp => ?_⟩
  · obtain ⟨q9, hq9, e9⟩ := hrd k hk
    refine ⟨q9, hq9, ?_⟩
    rw [v16, ← e9]
    exact congrFun (va_up_ne _ _ (Ne.symm h8)) k
  · obtain ⟨j, hj, e9⟩ := hrg.2.1 p hp
    refine ⟨j, hj, ?_⟩
    rw [← e9]
    show u.2 5 p = _
    rw [v5]
    exact congrFun (va_up_ne _ _ (Ne.symm h3)) p
theorem am_seen {b u : St} {P R C c q n : Nat} {x w : Int32} {stp : Nat → Nat} (h : AM (exS (flt b w) c q x) u) : ((fw (hM P u) stp n 0 (bgM u)).1 = -9 ∧ soP R C (u.2 16) (u.2 17) (fw (hM P u) stp n 0 (bgM u)).2.2.2.1) ↔ seenP P R C (exS b c q x) stp n := by
  rw [h.eh P, h.eb, h.2.1.2.2.2.2.2.1, h.2.1.2.2.2.2.2.2]
  exact Iff.rfl
theorem AM.id0 {b u : St} {w : Int32} (h : AM (flt b w) u) (c q : Nat) : AM (exS (flt b w) c q (b.2 c q)) u := by
  have e : exS (flt b w) c q (b.2 c q) = flt b w := exS_id (flt b w) c q
  rw [e]; exact h
theorem or0 (x : Int32) : x ||| 0 = x := by
  apply Int32.toBitVec_inj.mp
  rw [Int32.toBitVec_or]
  exact BitVec.or_zero
