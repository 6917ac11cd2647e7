theorem few_eq {t : St} {P R C : Nat} {r k z : Int32} (h : WF t P R C) (hz : G_few t P R r k z) : z = (F_fewest t P R r k).1 := by
  sorry
theorem few_2 (t : St) (P R : Nat) (r k : Int32) : (F_fewest t P R r k).2 = t := by
  unfold F_fewest; repeat' split
  all_goals rfl
theorem lcmp_eq {x y : Int64} (h : x = y) : (if x > y then (1 : Int32) else if x == y then 0 else -1) = 0 := by
  subst h
  rw [if_neg (show ¬ x > x from Int64.lt_irrefl), if_pos (show (x == x) = true from by simp)]
