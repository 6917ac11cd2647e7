/-! the reference's answers against the system's: worth, speeds -/
theorem nI_s (k : Nat) : nI (k + 1) = nI k + 1 := by rw [← nI_pred k, Int32.sub_add_cancel]
theorem worth_eq (t : St) (P R : Nat) (r : Int32) : F_worth t P R r = G_worth t P R r := by
  unfold F_worth G_worth
  have e : ∀ x y : Int32, 100 + x - y = x - y + 100 := fun x y => by
    rw [Int32.sub_eq_add_neg, Int32.sub_eq_add_neg, Int32.add_assoc, Int32.add_comm 100]
  rw [e]
def lstF (f : Nat → Int32) : Nat → Nat → Option Nat
  | 0, _ => none
  | n + 1, v => if f v = 0 then lstF f n (v + 1) else some v
def cU (f : Nat → Int32) : Nat → Nat → Nat
  | 0, _ => 0
  | n + 1, v => if f v = 0 then cU f n (v + 1) else cU f n (v + 1) + 1
def oI (o : Option Nat) (l : Int32) : Int32 := match o with | none => l | some x => nI x
theorem lst_s (f : Nat → Int32) : ∀ n v, lstF f (n + 1) v = match lstF f n v with | some x => some x | none => if f (v + n) = 0 then none else some (v + n) := by
  intro n
  induction n with
  | zero => intro v; simp [lstF]
  | succ n ih =>
    intro v
    rw [lstF]
    by_cases h : f v = 0
    · rw [if_pos h, ih (v + 1)]
      have e : lstF f (n + 1) v = lstF f n (v + 1) := by rw [lstF, if_pos h]
      rw [e, show v + 1 + n = v + (n + 1) by omega]
    · rw [if_neg h]
      have e : lstF f (n + 1) v = some v := by rw [lstF, if_neg h]
      rw [e]
theorem cU_s (f : Nat → Int32) : ∀ n v, cU f (n + 1) v = if f (v + n) = 0 then cU f n v else cU f n v + 1 := by
  intro n
  induction n with
  | zero => intro v; simp [cU]
  | succ n ih =>
    intro v
    rw [cU, ih (v + 1), show v + 1 + n = v + (n + 1) by omega, cU]
    split <;> split <;> rfl
theorem spdU_e (f : Nat → Int32) : ∀ n v c0 l, c0 + n < 2 ^ 30 → spdU f n v (nI c0) l = (nI (c0 + cU f n v), if c0 = 0 then oI (lstF f n v) l else l) := by
  intro n
  induction n with
  | zero => intro v c0 l _; simp [spdU, cU, lstF, oI]
  | succ n ih =>
    intro v c0 l h
    rw [spdU, cU, lstF]
    by_cases hf : f v = 0
    · rw [if_pos hf, if_pos hf, if_pos hf, ih (v + 1) c0 l (by omega)]
    · rw [if_neg hf, if_neg hf, if_neg hf, ← nI_s, ih (v + 1) (c0 + 1) _ (by omega), if_neg (by omega), show c0 + 1 + cU f n (v + 1) = c0 + (cU f n (v + 1) + 1) by omega]
      by_cases hc : c0 = 0
      · subst hc; rfl
      · rw [if_neg hc, if_neg (show ¬ nI c0 = 0 from fun h9 => hc ((nI_eq (a := c0) (b := 0) (by omega) (by omega)).mp h9))]
theorem spdD_e (f : Nat → Int32) : ∀ n c l, spdD f n c l = (c + nI (cU f n 0), oI (lstF f n 0) l) := by
  intro n
  induction n with
  | zero => intro c l; simp [spdD, cU, lstF, oI]; rfl
  | succ n ih =>
    intro c l
    rw [spdD, cU_s, lst_s, Nat.zero_add]
    by_cases hf : f n = 0
    · rw [if_pos hf, if_pos hf, if_pos hf, ih]
      cases lstF f n 0 <;> rfl
    · rw [if_neg hf, if_neg hf, if_neg hf, ih, nI_s, Int32.add_assoc, Int32.add_comm 1]
      cases lstF f n 0 <;> rfl
theorem spd_eq (f : Nat → Int32) : spdU f 100 0 0 (-9) = spdD f 100 0 (-9) := by
  have h := spdU_e f 100 0 0 (-9) (by decide)
  rw [spdD_e, Int32.zero_add, ← Nat.zero_add (cU f 100 0)]
  exact h
theorem speeds_eq (t : St) (P R C : Nat) (r x a i n w : Int32) : F_speeds t P R C r x a i n w = G_speeds t P R C r x a i n w := by
  unfold F_speeds G_speeds
  rw [spd_eq]
