/-! the value of the game, both ways -/
def phiV (x : Int32) : Int32 := if x = -1 then 2 else x
abbrev tri (x : Int32) : Prop := x = -1 ∨ x = 0 ∨ x = 1
theorem bet_t {x y : Int32} (hx : tri x) (hy : tri y) : bet (phiV y) (phiV x) 1 = phiV (if x = 1 then 1 else if x < y then y else x) ∧ tri (if x = 1 then 1 else if x < y then y else x) := by
  rcases hx with rfl | rfl | rfl <;> rcases hy with rfl | rfl | rfl <;> decide
theorem bet_f {x y : Int32} (hx : tri x) (hy : tri y) : bet (phiV y) (phiV x) 2 = phiV (if x = -1 then -1 else if y < x then y else x) ∧ tri (if x = -1 then -1 else if y < x then y else x) := by
  rcases hx with rfl | rfl | rfl <;> rcases hy with rfl | rfl | rfl <;> decide
theorem play_v {h : HL} {r o : Nat} (hr : r < 5) (ho : o < 5) (hne : r ≠ o) : ∀ m k c, ¬ isup c.2.2.2 r → ¬ isup c.2.2.2 o → tri (play h r o m (decide (k % 2 = 0)) c) ∧ valB h r o m k c = phiV (play h r o m (decide (k % 2 = 0)) c) := by
  intro m
  induction m with
  | zero => intro k c _ _; exact ⟨Or.inr (Or.inl rfl), rfl⟩
  | succ m ih =>
    intro k c h1 h2
    have nb : decide ((k + 1) % 2 = 0) = !decide (k % 2 = 0) := by
      by_cases hk : k % 2 = 0
      · rw [decide_eq_true hk, decide_eq_false (by omega)]; rfl
      · rw [decide_eq_false hk, decide_eq_true (by omega)]; rfl
    have iy := ih (k + 1) c h1 h2
    rw [nb] at iy
    by_cases hk : k % 2 = 0
    · rw [decide_eq_true hk] at iy ⊢
      have ix : tri (if isup (att h r c).2.2.2 r then 1 else play h r o m false (att h r c)) ∧ (if isup (att h r c).2.2.2 r then 1 else valB h r o m (k + 1) (att h r c)) = phiV (if isup (att h r c).2.2.2 r then 1 else play h r o m false (att h r c)) := by
        by_cases hu : isup (att h r c).2.2.2 r
        · rw [if_pos hu, if_pos hu]; exact ⟨Or.inr (Or.inr rfl), by decide⟩
        · rw [if_neg hu, if_neg hu]
          have i9 := ih (k + 1) (att h r c) hu (fun h9 => h2 ((att_oth hr ho hne).mp h9))
          rw [nb, decide_eq_true hk] at i9
          exact i9
      have hb := bet_t ix.1 iy.1
      rw [play_t h r o m c _ rfl]
      refine ⟨hb.2, ?_⟩
      rw [valB, show mvF r o k = r from if_pos hk, show wnF k = 1 from if_pos hk, if_neg h1, iy.2, ix.2]
      exact hb.1
    · rw [decide_eq_false hk] at iy ⊢
      have ix : tri (if isup (att h o c).2.2.2 o then -1 else play h r o m true (att h o c)) ∧ (if isup (att h o c).2.2.2 o then 2 else valB h r o m (k + 1) (att h o c)) = phiV (if isup (att h o c).2.2.2 o then -1 else play h r o m true (att h o c)) := by
        by_cases hu : isup (att h o c).2.2.2 o
        · rw [if_pos hu, if_pos hu]; exact ⟨Or.inl rfl, by decide⟩
        · rw [if_neg hu, if_neg hu]
          have i9 := ih (k + 1) (att h o c) (fun h9 => h1 ((att_oth ho hr (Ne.symm hne)).mp h9)) hu
          rw [nb, decide_eq_false hk] at i9
          exact i9
      have hb := bet_f ix.1 iy.1
      rw [play_f h r o m c _ rfl]
      refine ⟨hb.2, ?_⟩
      rw [valB, show mvF r o k = o from if_neg hk, show wnF k = 2 from if_neg hk, if_neg h2, iy.2, ix.2]
      exact hb.1
