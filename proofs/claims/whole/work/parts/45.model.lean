/-! the widths of what the reference lays, speeds -/
theorem rn_w {a : St} {P R : Nat} {x la i n kn : Int32} {ok : Prop} [Decidable ok] (h : kn = 0 ∨ ¬ (0 ≤ x ∧ x ≤ 3) ∨ ok) : rnF a P R kn x la i n (bI ok) = rnF a P R kn x la i n 1 := by
  rcases h with h | h | h
  · unfold rnF; rw [if_pos h, if_pos h]
  · rw [rn_sh h, rn_sh h]
  · rw [← bI_t h]
theorem rn_no {a : St} {P R : Nat} {x la i n kn : Int32} {ok : Prop} [Decidable ok] (hkn : ¬ kn = 0) (hx : 0 ≤ x ∧ x ≤ 3) (h : ¬ ok) : rnF a P R kn x la i n (bI ok) = (-2, 0) := by
  unfold rnF
  rw [if_neg hkn]
  exact rs_out hx (fun h2 => h (bI_nz h2.2.1))
def G_speeds (t : St) (P R C : Nat) (r x a i n w : Int32) : Int32 × St :=
  if ¬ (rnF t P R (bI (inN r R)) x a i n (bI (0 ≤ w ∧ w ≤ 1))).1 = 0 then ((rnF t P R (bI (inN r R)) x a i n (bI (0 ≤ w ∧ w ≤ 1))).1, flt t (rnF t P R (bI (inN r R)) x a i n (bI (0 ≤ w ∧ w ≤ 1))).2)
  else if w = 0 then ((spdU (fun v => bI (seenP P R C (exS t 5 r.toNatClampNeg (nI v)) (stpF t x i) n.toNatClampNeg)) 100 0 0 (-9)).1, flt t 0) else ((spdU (fun v => bI (seenP P R C (exS t 5 r.toNatClampNeg (nI v)) (stpF t x i) n.toNatClampNeg)) 100 0 0 (-9)).2, flt t 0)
def tdF (t : St) (P R : Nat) (w : Int32) : Int32 := if w < 10 then (if w = 0 then t.1 7 else t.1 9) else if w < 20 then (if inN (w - 10) P then t.2 11 (w - 10).toNatClampNeg else -9) else (if inN (w - 20) R then t.2 13 (w - 20).toNatClampNeg else -9)
