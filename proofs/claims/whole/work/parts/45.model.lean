/-! the widths of what the reference lays, speeds -/
theorem rn_w {a : St} {P R : Nat} {x la i n kn : Int32} {ok : Prop} [Decidable ok] (h : kn = 0 ∨ ¬ (0 ≤ x ∧ x ≤ 3) ∨ ok) : rnF a P R kn x la i n (bI ok) = rnF a P R kn x la i n 1 := by
  rcases h with h | h | h
  · unfold rnF; rw [if_pos h, if_pos h]
  · rw [rn_sh h, rn_sh h]
  · rw [← bI_t h]
theorem rn_no {a : St} {P R : Nat} {x la i n kn : Int32} {ok : Prop} [Decidable ok] (hkn : ¬ kn = 0) (hx : 0 ≤ x ∧ x ≤ 3) (h : ¬ ok) : rnF a P R kn x la i n (bI ok) = (-2, 0) := by
  unfold rnF
  rw [if_neg hkn]
  exact rs_out hx (fun h2 => h (bI_nz h2.2.1))
def G_speeds (t : St) (P R C : Nat) (r x a i n w : Int32) : Int32 × St :=
  if ¬ (rnF t P R (bI (inN r R)) x a i n (bI (0 ≤ w ∧ w ≤ 1))).1 = 0 then ((rnF t P R (bI (inN r R)) x a i n (bI (0 ≤ w ∧ w ≤ 1))).1, flt t (rnF t P R (bI (inN r R)) x a i n (bI (0 ≤ w ∧ w ≤ 1))).2)
  else if w = 0 then ((spdU (fun v => bI (seenP P R C (exS t 5 r.toNatClampNeg (nI v)) (stpF t x i) n.toNatClampNeg)) 100 0 0 (-9)).1, flt t 0) else ((spdU (fun v => bI (seenP P R C (exS t 5 r.toNatClampNeg (nI v)) (stpF t x i) n.toNatClampNeg)) 100 0 0 (-9)).2, flt t 0)
def tdF (t : St) (P R : Nat) (w : Int32) : Int32 := if w < 10 then (if w = 0 then t.1 7 else t.1 9) else if w < 20 then (if inN (w - 10) P then t.2 11 (w - 10).toNatClampNeg else -9) else (if inN (w - 20) R then t.2 13 (w - 20).toNatClampNeg else -9)
theorem i32_no {w a c : Int32} (h1 : a ≤ w) (h2 : w < c) (h : c ≤ a) : False := by
  rw [Int32.le_iff_toInt_le] at h1 h
  rw [Int32.lt_iff_toInt_lt] at h2
  omega
theorem td_dayV {b u : St} {P R : Nat} {stp : Nat → Nat} {n : Nat} {w m : Int32} (hR5 : R ≤ 5) (hP8 : P ≤ 8) (hd : dayP m w) (h1 : ¬ w = 1) (h9 : (fw (hX P b) stp n 0 (beg b)).1 = -9) (hup : u.1 7 = (fw (hX P b) stp n 0 (beg b)).2.2.2.2) (hf : u.1 9 = fu (hX P b) stp n 0 (beg b)) (hsc : ∀ p, p < P → u.2 11 p = (fw (hX P b) stp n 0 (beg b)).2.1 p) (hhe : ∀ r, r < R → u.2 13 r = (fw (hX P b) stp n 0 (beg b)).2.2.2.1 r) : tdF u P R w = dayV b P R stp n w := by
  unfold tdF dayV
  rw [if_neg h1, if_neg (not_not_intro h9)]
  rcases hd.2 with h | h | h
  · rcases rng3 h with rfl | rfl | rfl
    · rw [if_pos (by decide), if_pos rfl, if_pos rfl]; exact hup
    · exact absurd rfl h1
    · rw [if_pos (by decide), if_neg (by decide), if_neg (by decide), if_pos rfl]; exact hf
  · have a1 : ¬ w < 10 := Int32.not_lt.mpr h.1
    have a2 : w < 20 := by
      have h3 := h.2
      rw [Int32.le_iff_toInt_le] at h3
      rw [Int32.lt_iff_toInt_lt]
      have e1 : (17 : Int32).toInt = 17 := by decide
      have e2 : (20 : Int32).toInt = 20 := by decide
      omega
    have a3 : ¬ w = 0 := fun e => by rw [e] at h; exact absurd h.1 (by decide)
    have a4 : ¬ w = 2 := fun e => by rw [e] at h; exact absurd h.1 (by decide)
    rw [if_neg a1, if_pos a2, if_neg a3, if_neg a4, if_pos a2]
    by_cases hi : inN (w - 10) P
    · obtain ⟨q, hq, e⟩ := inN_ex hi (by omega)
      rw [if_pos hi, if_pos hi, e, nI_clamp (by omega)]
      exact hsc q hq
    · rw [if_neg hi, if_neg hi]
  · have a1 : ¬ w < 20 := Int32.not_lt.mpr h.1
    have a2 : ¬ w < 10 := fun h3 => i32_no h.1 h3 (by decide)
    have a3 : ¬ w = 0 := fun e => by rw [e] at h; exact absurd h.1 (by decide)
    have a4 : ¬ w = 2 := fun e => by rw [e] at h; exact absurd h.1 (by decide)
    rw [if_neg a2, if_neg a1, if_neg a3, if_neg a4, if_neg a1]
    by_cases hi : inN (w - 20) R
    · obtain ⟨q, hq, e⟩ := inN_ex hi (by omega)
      rw [if_pos hi, if_pos hi, e, nI_clamp (by omega)]
      exact hhe q hq
    · rw [if_neg hi, if_neg hi]
