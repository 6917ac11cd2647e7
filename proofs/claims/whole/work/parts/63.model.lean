/-! longs compared; the greatest common divisor as the reference finds it; how many weathers -/
section LONGS
variable {p : Program} {l : Launch} {e : Env} {R : Room} {s : State} {m : MethodId} {args : Array Value} {below : List Frame} {meth : Method} {c : Code} {H : Heap} {locs : List Loc} {cells slots : Nat} {Q : State → Prop}
variable {cc : ByteArray} {pc : Nat} {ls : Array Slot} {rest : List Value}
theorem lv_lcmp (hexec : p.tables.exec = Jvm.exec) (hb : c.code = cc) {x y : Int64} {v : Int32} (hv : (if x > y then (1 : Int32) else if x == y then 0 else -1) = v) (hdg : decode cc pc = .ok (.lcmp, 1))
    (k : W p l e R s m args below meth c H locs cells slots Q (F0 m (pc + 1) ls (.int v :: rest))) : W p l e R s m args below meth c H locs cells slots Q (F0 m pc ls (.long y :: .long x :: rest)) := by
  intro T hT X
  obtain ⟨t, a, b⟩ := k T hT X
  refine ⟨t, ?_, b⟩
  rw [← hv] at a
  jvm_step X.here [X.here.top, hexec, hb, hdg]
  by_cases h1 : y < x
  · rw [if_pos h1]; rw [if_pos (show x > y from h1)] at a; exact a
  · rw [if_neg h1]; rw [if_neg (show ¬ x > y from h1)] at a
    by_cases h2 : x = y
    · rw [if_pos h2]; rw [if_pos (show (x == y) = true from by simp [h2])] at a; exact a
    · rw [if_neg h2]; rw [if_neg (show ¬ (x == y) = true from by simp [h2])] at a; exact a
end LONGS
theorem lcmp0 {y : Nat} (h : y < 2 ^ 31) : (if lN y > 0 then (1 : Int32) else if lN y == 0 then 0 else -1) = bI (0 < y) := by
  have e0 : (0 : Int64) = lN 0 := rfl
  by_cases hy : 0 < y
  · rw [if_pos (show lN y > 0 from by rw [e0]; exact (pk_lLT (by omega) (by omega)).mpr hy), bI_t hy]
  · obtain rfl : y = 0 := by omega
    rw [bI_f hy]; rfl
theorem ln_ne {y : Nat} (h : 0 < y) (hy : y < 2 ^ 31) : ¬ lN y = 0 := by
  have e0 : (0 : Int64) = lN 0 := rfl
  rw [e0, pk_lEQ (by omega) (by omega)]; omega
theorem gcd_s {a b z d : Nat} (h : Nat.gcd a b = Nat.gcd z d) : Nat.gcd b (a % b) = Nat.gcd z d := by
  rw [Nat.gcd_comm b (a % b), ← Nat.gcd_rec b a, Nat.gcd_comm b a]; exact h
theorem lshl_1 : ∀ k : Fin 11, (1 : Int64) <<< ((nI k.val).toInt64 &&& 63) = lN (2 ^ k.val) := by decide
theorem cnt_le (g : Nat → Int32) : ∀ N, cntF g N ≤ N
  | 0 => Nat.le_refl _
  | N + 1 => by
    have h := cnt_le g N
    unfold cntF
    split <;> omega
