/-! rows for the searches' calls -/
def feP (o : Option (Nat × List Nat)) (z : Int32) (u : St) : Prop := match o with
  | none => z = -9
  | some (L, l) => z = nI L ∧ 1 ≤ L ∧ L ≤ 6 ∧ l.length = L ∧ ∀ j, j < L → u.2 13 j = nI (l.getD j 0)
theorem fewL_n {h : HL} {R q : Nat} {c : Cl} {n L : Nat} (hn : frow h R q L c = none) : fewL h R q c (n + 1) L = fewL h R q c n (L + 1) := by
  rw [fewL, hn]
theorem fewL_s {h : HL} {R q : Nat} {c : Cl} {n L : Nat} {l : List Nat} (hs : frow h R q L c = some l) : fewL h R q c (n + 1) L = some (L, l) := by
  rw [fewL, hs]
theorem k_ex {k : Int32} {L : Nat} (hL : L ≤ 60) (h1 : (-1) ≤ k) (h2 : ¬ k = -1) (h3 : ¬ nI L ≤ k) : ∃ j, j < L ∧ k = nI j := by
  have h0 : ¬ k < 0 := by
    intro h
    rw [Int32.lt_iff_toInt_lt, Int32.toInt_zero] at h
    rw [Int32.le_iff_toInt_le] at h1
    have e1 : (-1 : Int32).toInt = -1 := by decide
    rw [e1] at h1
    exact h2 (Int32.toInt_inj.mp (by rw [e1]; omega))
  obtain ⟨j, hj, rfl⟩ := nI_of h0
  refine ⟨j, ?_, rfl⟩
  rcases Nat.lt_or_ge j L with h | h
  · exact h
  · exact absurd (nI_le h hj) h3
theorem k_m9 {k : Int32} (h1 : (-1) ≤ k) : (-9) ≤ k := by
  rw [Int32.le_iff_toInt_le] at h1 ⊢
  have e1 : (-1 : Int32).toInt = -1 := by decide
  have e2 : (-9 : Int32).toInt = -9 := by decide
  omega
theorem pred_neg {s : Nat} (hs : s < 2 ^ 30) : nI s - 1 < 0 ↔ s = 0 := by
  have e : (nI s - 1 : Int32).toInt = (s : Int) - 1 := pk_sub_toInt (a := s) (b := 1) hs (by decide)
  rw [Int32.lt_iff_toInt_lt, e, Int32.toInt_zero]
  omega
theorem pow8 {P : Nat} (h : P ≤ 8) : 1 ≤ 2 ^ P ∧ 2 ^ P ≤ 256 := ⟨Nat.one_le_two_pow, by have := Nat.pow_le_pow_right (n := 2) (by decide) h; exact this⟩
theorem stp_ok {t : St} {k i0 n0 R : Nat} (hk : k < 4) (hi : i0 ≤ 60) (hR : R ≤ 5) (h : stOk R (t.2 (15 + 2 * k)) i0 n0) : ∀ z, z < n0 → t.2 (15 + 2 * k) (i0 + z) = nI (stpF t (nI k) (nI i0) z) ∧ (stpF t (nI k) (nI i0) z = 5 ∨ stpF t (nI k) (nI i0) z < R) := by
  intro z hz
  unfold stpF
  rw [nI_clamp (by omega), nI_clamp (by omega)]
  rcases h z hz with h1 | h1
  · rw [h1]; exact ⟨rfl, Or.inl rfl⟩
  · obtain ⟨j, hj, e⟩ := inN_ex h1 (by omega)
    rw [e, nI_clamp (by omega)]
    exact ⟨rfl, Or.inr hj⟩
theorem rn0 {t : St} {P R : Nat} {kn x a i n b : Int32} (h : (rnF t P R kn x a i n b).1 = 0) : ¬ kn = 0 ∧ (rsF t P R x a i n (bI (¬ b = 0 ∧ 0 ≤ n ∧ n ≤ 30))).1 = 0 ∧ rnF t P R kn x a i n b = rsF t P R x a i n (bI (¬ b = 0 ∧ 0 ≤ n ∧ n ≤ 30)) := by
  unfold rnF at h ⊢
  by_cases hk : kn = 0
  · rw [if_pos hk] at h; exact absurd h (by decide)
  · rw [if_neg hk] at h ⊢; exact ⟨hk, h, rfl⟩
theorem exS_la {t u : St} {c q : Nat} {v : Int32} (h : LA t u) : LA (exS t c q v) (exS u c q v) := by
  refine ⟨h.1, fun k h1 h2 h3 => ?_⟩
  by_cases hk : k = c
  · subst hk
    show va_up u.2 k (upd (u.2 k) q v) k = va_up t.2 k (upd (t.2 k) q v) k
    rw [va_up_self, va_up_self, h.2 k h1 h2 h3]
  · show va_up u.2 c (upd (u.2 c) q v) k = va_up t.2 c (upd (t.2 c) q v) k
    rw [va_up_ne _ _ hk, va_up_ne _ _ hk, h.2 k h1 h2 h3]
theorem seenP_la {P R C n : Nat} {T U : St} {stp : Nat → Nat} (h : LA T U) : seenP P R C U stp n ↔ seenP P R C T stp n := by
  unfold seenP
  rw [h.eh, h.eb, h.2 8 (by omega) (by omega) (by omega), h.2 9 (by omega) (by omega) (by omega)]
theorem bits_la {P R C n m c q : Nat} {T U : St} {stp : Nat → Nat} (h : LA T U) : bitsF (fun v => bI (seenP P R C (exS U c q (nI v)) stp n)) m = bitsF (fun v => bI (seenP P R C (exS T c q (nI v)) stp n)) m := by
  have e : (fun v => bI (seenP P R C (exS U c q (nI v)) stp n)) = (fun v => bI (seenP P R C (exS T c q (nI v)) stp n)) := funext fun v => bI_c (seenP_la (exS_la h))
  rw [e]
theorem la_rs {t u : St} {v : Int32} (h1 : u.1 = va_up t.1 1 v) (h2 : ∀ k, k ≠ 12 → u.2 k = t.2 k) : LA (flt t v) u := ⟨fun k _ => congrFun h1 k, fun k _ h3 _ => h2 k h3⟩
theorem seen_flt {P R C n c q : Nat} {t u : St} {w x : Int32} {stp : Nat → Nat} (h : LA (flt t w) u) : seenP P R C (exS u c q x) stp n ↔ seenP P R C (exS t c q x) stp n := by
  have h1 := seenP_la (P := P) (R := R) (C := C) (n := n) (stp := stp) (exS_la (c := c) (q := q) (v := x) h)
  exact h1
