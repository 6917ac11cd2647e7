/-! the weathers, counted one by one and by halves -/
theorem cnt_dbl (g : Nat → Int32) : ∀ N, cntF g (2 * N) = cntF (fun s => g (2 * s)) N + cntF (fun s => g (2 * s + 1)) N := by
  intro N
  induction N with
  | zero => rfl
  | succ N ih =>
    rw [show 2 * (N + 1) = 2 * N + 1 + 1 by omega, cntF, cntF, ih, cntF, cntF]
    split <;> split <;> omega
theorem cnt_all (g : Nat → Int32) : ∀ N, (∀ s, s < N → ¬ g s = 0) → cntF g N = N := by
  intro N
  induction N with
  | zero => intro _; rfl
  | succ N ih =>
    intro h
    rw [cntF, if_neg (h N (by omega)), ih (fun s hs => h s (by omega))]
theorem cnt_c {f g : Nat → Int32} : ∀ N, (∀ s, s < N → f s = g s) → cntF f N = cntF g N := by
  intro N
  induction N with
  | zero => intro _; rfl
  | succ N ih =>
    intro h
    rw [cntF, cntF, h N (by omega), ih (fun s hs => h s (by omega))]
def ubN (h : HL) (stp : Nat → Nat) : Nat → Nat → Nat → Cl → Cl
  | _, 0, _, c => c
  | s, n + 1, k, c => ubN h stp (s / 2) n (k + 1) (goOn h (stp k) (if s % 2 = 1 then rain h.1 c else c))
def upK (h : HL) (q : Nat) : Prop := ∀ (v : Nat) (c : Cl), isup c.2.2.2 q → isup (goOn h v c).2.2.2 q
theorem ubN_up {h : HL} {q : Nat} (hk : upK h q) (stp : Nat → Nat) : ∀ n s k c, isup c.2.2.2 q → isup (ubN h stp s n k c).2.2.2 q := by
  intro n
  induction n with
  | zero => intro s k c hc; exact hc
  | succ n ih =>
    intro s k c hc
    rw [ubN]
    refine ih _ _ _ (hk _ _ ?_)
    split
    · exact hc
    · exact hc
theorem cnt_wup {h : HL} {q : Nat} (hk : upK h q) (stp : Nat → Nat) : ∀ n k c, cntF (fun s => bI (isup (ubN h stp s n k c).2.2.2 q)) (2 ^ n) = wup h stp q n k c := by
  intro n
  induction n with
  | zero =>
    intro k c
    show (if bI (isup c.2.2.2 q) = 0 then 0 else 0 + 1) = if isup c.2.2.2 q then 1 else 0
    by_cases hu : isup c.2.2.2 q
    · rw [if_pos hu, if_neg (fun h9 => bI_z.mp h9 hu)]
    · rw [if_neg hu, if_pos (bI_z.mpr hu)]
  | succ n ih =>
    intro k c
    rw [wup]
    by_cases hu : isup c.2.2.2 q
    · rw [if_pos hu]
      exact cnt_all _ _ (fun s _ h9 => bI_z.mp h9 (ubN_up hk stp (n + 1) s k c hu))
    · rw [if_neg hu, ← ih, ← ih, Nat.pow_succ, Nat.mul_comm, cnt_dbl]
      congr 1
      · refine cnt_c _ (fun s _ => ?_)
        show bI (isup (ubN h stp (2 * s / 2) n (k + 1) (goOn h (stp k) (if 2 * s % 2 = 1 then rain h.1 c else c))).2.2.2 q) = _
        rw [show 2 * s / 2 = s by omega, if_neg (by omega)]
      · refine cnt_c _ (fun s _ => ?_)
        show bI (isup (ubN h stp ((2 * s + 1) / 2) n (k + 1) (goOn h (stp k) (if (2 * s + 1) % 2 = 1 then rain h.1 c else c))).2.2.2 q) = _
        rw [show (2 * s + 1) / 2 = s by omega, if_pos (by omega)]
theorem bitP_e {S k : Nat} (hS : S < 2 ^ 30) (hk : k < 10) : bitP S k ↔ S / 2 ^ k % 2 = 1 := by
  have h1 : nI S >>> (nI k &&& 31) = nI (S / 2 ^ k) := pk_shrN (n := S) (by omega) (nI k &&& 31) k (by
    rcases (show k = 0 ∨ k = 1 ∨ k = 2 ∨ k = 3 ∨ k = 4 ∨ k = 5 ∨ k = 6 ∨ k = 7 ∨ k = 8 ∨ k = 9 by omega) with rfl | rfl | rfl | rfl | rfl | rfl | rfl | rfl | rfl | rfl <;> decide)
  have h2 : nI (S / 2 ^ k) &&& 1 = nI (S / 2 ^ k % 2) := pk_andN (n := S / 2 ^ k) (m := 1) (Nat.lt_of_le_of_lt (Nat.div_le_self _ _) (by omega)) 1 (by decide)
  unfold bitP
  rw [h1, h2]
  constructor
  · intro h
    exact (nI_eq (a := S / 2 ^ k % 2) (b := 1) (by omega) (by omega)).mp h
  · intro h
    rw [h]; rfl
theorem ubF_N (h : HL) (stp : Nat → Nat) (S : Nat) (hS : S < 2 ^ 30) : ∀ n k c, k + n ≤ 10 → ubF h stp S n k c = ubN h stp (S / 2 ^ k) n k c := by
  intro n
  induction n with
  | zero => intro k c _; rfl
  | succ n ih =>
    intro k c hk
    rw [ubF, ubN, ih (k + 1) _ (by omega), Nat.div_div_eq_div_mul, ← Nat.pow_succ]
    by_cases hb : bitP S k
    · rw [if_pos hb, if_pos ((bitP_e hS (by omega)).mp hb)]
    · rw [if_neg hb, if_neg (fun h9 => hb ((bitP_e hS (by omega)).mpr h9))]
theorem cnt_eq {h : HL} {q : Nat} (hk : upK h q) (stp : Nat → Nat) (n : Nat) (c : Cl) (hn : n ≤ 10) : cntF (fun s => bI (isup (ubF h stp s n 0 c).2.2.2 q)) (2 ^ n) = wup h stp q n 0 c := by
  rw [← cnt_wup hk]
  refine cnt_c _ (fun s hs => ?_)
  have h1 : 2 ^ n ≤ 2 ^ 10 := Nat.pow_le_pow_right (by decide) hn
  show bI (isup (ubF h stp s n 0 c).2.2.2 q) = bI (isup (ubN h stp s n 0 c).2.2.2 q)
  rw [ubF_N h stp s (by omega) n 0 c (by omega), Nat.pow_zero, Nat.div_one]
