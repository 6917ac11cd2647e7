/-! what stays while a rider is read -/
theorem frR.rf (k : Nat) (t : St) : frR k t t := ⟨fun _ _ _ => rfl, fun _ _ => rfl, fun _ _ => rfl⟩
theorem frR.tr {k : Nat} {t u w : St} (h1 : frR k t u) (h2 : frR k u w) : frR k t w := ⟨fun j a b => (h2.1 j a b).trans (h1.1 j a b), fun j a => (h2.2.1 j a).trans (h1.2.1 j a), fun j a => (h2.2.2 j a).trans (h1.2.2 j a)⟩
theorem frR.s4 (k : Nat) (t : St) (x : Int32) : frR k t (va_up t.1 4 x, t.2) := ⟨fun j h4 _ => va_up_ne _ _ h4, fun _ _ => rfl, fun _ _ => rfl⟩
theorem frR.s6 (k : Nat) (t : St) (x : Int32) : frR k t (va_up t.1 6 x, t.2) := ⟨fun j _ h6 => va_up_ne _ _ h6, fun _ _ => rfl, fun _ _ => rfl⟩
theorem frR.a10 {k q : Nat} (t : St) (x : Int32) (h : 3 * k ≤ q) : frR k t (t.1, va_up t.2 10 (upd (t.2 10) q x)) := ⟨fun _ _ _ => rfl, fun j h1 => va_up_ne _ _ h1, fun j hj => by
  show va_up t.2 10 (upd (t.2 10) q x) 10 j = _
  rw [va_up_self]; exact pk_un (by omega)⟩
theorem okC_d {a : Nat → Int32} {z0 x j : Nat} (hj : 0 < j) : okC a z0 x j ↔ (x + j < z0 ∧ 48 ≤ a (x + j) ∧ a (x + j) ≤ 57) := by
  unfold okC; rw [if_neg (by omega)]
theorem okC_0 {a : Nat → Int32} {z0 x : Nat} : okC a z0 x 0 ↔ (x < z0 ∧ (a x = 114 ∨ a x = 110 ∨ a x = 108)) := by
  unfold okC; rw [if_pos rfl, Nat.add_zero]
