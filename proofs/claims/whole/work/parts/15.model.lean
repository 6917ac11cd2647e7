/-! the searches that go deeper: what stays, what is found -/
theorem rmk_f (f w : Nat) : (rmk f w).frames = f := rfl
theorem rmk_w (f w : Nat) : (rmk f w).locals = w := rfl
def agrD (d : Nat) (t u : St) : Prop := (∀ k, k < 14 + d → u.1 k = t.1 k) ∧ (∀ k, k < 26 + 4 * d → k ≠ 13 → u.2 k = t.2 k) ∧ ∀ j, j < d → u.2 13 j = t.2 13 j
theorem agrD.rf (d : Nat) (t : St) : agrD d t t := ⟨fun _ _ => rfl, fun _ _ _ => rfl, fun _ _ => rfl⟩
theorem agrD.tr {d : Nat} {t u w : St} (h1 : agrD d t u) (h2 : agrD d u w) : agrD d t w := ⟨fun k h => (h2.1 k h).trans (h1.1 k h), fun k a b => (h2.2.1 k a b).trans (h1.2.1 k a b), fun j h => (h2.2.2 j h).trans (h1.2.2 j h)⟩
theorem agrC.d {d : Nat} {t u : St} (h : agrC (d + 1) t u) : agrD d t u := ⟨fun k hk => h.1 k (by omega), fun k h1 h2 => h.2 k (by omega) (by omega) (by omega), fun j _ => congrFun (h.2 13 (by omega) (by omega) (by omega)) j⟩
theorem agrD.up {d : Nat} {t u : St} (h : agrD (d + 1) t u) : agrD d t u := ⟨fun k hk => h.1 k (by omega), fun k h1 h2 => h.2.1 k (by omega) h2, fun j hj => h.2.2 j (by omega)⟩
theorem agrD.put (d : Nat) (t : St) (x : Int32) : agrD d t (t.1, va_up t.2 13 (upd (t.2 13) d x)) := ⟨fun _ _ => rfl, fun k _ h2 => va_up_ne _ _ h2, fun j hj => by show va_up t.2 13 (upd (t.2 13) d x) 13 j = _; rw [va_up_self]; exact pk_un (by omega)⟩
theorem agrD.ec {d e : Nat} {t u : St} (h : agrD d t u) (he : e ≤ d) : cv u e = cv t e := by
  simp only [cv, h.1 (13 + e) (by omega), h.2.1 (23 + 4 * e) (by omega) (by omega), h.2.1 (24 + 4 * e) (by omega) (by omega), h.2.1 (25 + 4 * e) (by omega) (by omega)]
theorem agrD.eh {d P : Nat} {t u : St} (h : agrD d t u) : hX P u = hX P t := by
  simp only [hX, h.2.1 2 (by omega) (by omega), h.2.1 4 (by omega) (by omega), h.2.1 5 (by omega) (by omega), h.2.1 6 (by omega) (by omega)]
theorem agrD.s {d : Nat} {t u : St} (h : agrD d t u) : agrS t u := ⟨fun k hk => h.1 k (by omega), fun k h1 h2 => h.2.1 k (by omega) h2⟩
def frP (o : Option (List Nat)) (m d : Nat) (r : Int32) (u : St) : Prop := match o with
  | none => r = 0
  | some L => r = 1 ∧ L.length = m ∧ ∀ j, j < m → u.2 13 (d + j) = nI (L.getD j 0)
theorem frP_0 {o : Option (List Nat)} {m d : Nat} {u : St} {r : Int32} (h : frP o m d r u) (h0 : r = 0) : o = none := by
  cases o with
  | none => rfl
  | some L => exact absurd (h0.symm.trans h.1) (by decide)
theorem frP_1 {o : Option (List Nat)} {m d : Nat} {u : St} {r : Int32} (h : frP o m d r u) (h0 : ¬ r = 0) : ∃ L, o = some L ∧ r = 1 ∧ L.length = m ∧ ∀ j, j < m → u.2 13 (d + j) = nI (L.getD j 0) := by
  cases o with
  | none => exact absurd h h0
  | some L => exact ⟨L, rfl, h⟩
def frG (h : HL) (R q m : Nat) (c : Cl) : Nat → Option (List Nat) := fun w => if isup c.2.2.2 w then none else (frow h R q m (att h w c)).map (fun l => w :: l)
theorem frow1 (h : HL) (R q : Nat) (c : Cl) : frow h R q 1 c = if isup c.2.2.2 q then none else if isup (att h q c).2.2.2 q then some [q] else none := by
  simp [frow]
theorem frowS (h : HL) (R q m : Nat) (c : Cl) : frow h R q (m + 2) c = firstR (frG h R q (m + 1) c) R 0 := by
  rw [frow, if_neg (by omega)]
  rfl
theorem firstR_n {f : Nat → Option (List Nat)} {n k : Nat} (h : f k = none) : firstR f (n + 1) k = firstR f n (k + 1) := by
  rw [firstR, h]
theorem firstR_s {f : Nat → Option (List Nat)} {n k : Nat} {L : List Nat} (h : f k = some L) : firstR f (n + 1) k = some L := by
  rw [firstR, h]
theorem shl_1 {k : Nat} (h : k ≤ 10) : (1 : Int32) <<< (nI k &&& 31) = nI (2 ^ k) := by
  rcases (show k = 0 ∨ k = 1 ∨ k = 2 ∨ k = 3 ∨ k = 4 ∨ k = 5 ∨ k = 6 ∨ k = 7 ∨ k = 8 ∨ k = 9 ∨ k = 10 by omega) with rfl | rfl | rfl | rfl | rfl | rfl | rfl | rfl | rfl | rfl | rfl <;> decide
theorem play_t (h : HL) (r o m : Nat) (c : Cl) (x : Int32) (hx : (if isup (att h r c).2.2.2 r then 1 else play h r o m false (att h r c)) = x) : play h r o (m + 1) true c = if x = 1 then 1 else if x < play h r o m false c then play h r o m false c else x := by
  rw [← hx]; rfl
theorem play_f (h : HL) (r o m : Nat) (c : Cl) (x : Int32) (hx : (if isup (att h o c).2.2.2 o then -1 else play h r o m true (att h o c)) = x) : play h r o (m + 1) false c = if x = -1 then -1 else if play h r o m true c < x then play h r o m true c else x := by
  rw [← hx]; rfl
