/-! exchanged values, sand, bits -/
def exS (t : St) (k q : Nat) (v : Int32) : St := (t.1, va_up t.2 k (upd (t.2 k) q v))
abbrev seenP (P R C : Nat) (T : St) (stp : Nat → Nat) (n : Nat) : Prop := (fw (hX P T) stp n 0 (beg T)).1 = -9 ∧ soP R C (T.2 8) (T.2 9) (fw (hX P T) stp n 0 (beg T)).2.2.2.1
theorem seenP_agr {P R C n d : Nat} {T U : St} {stp : Nat → Nat} (h : agrC d T U) : seenP P R C U stp n ↔ seenP P R C T stp n := by
  unfold seenP
  rw [h.eh, h.eb, h.2 8 (by omega) (by omega) (by omega), h.2 9 (by omega) (by omega) (by omega)]
theorem upd_upd (f : Nat → Int32) (q : Nat) (a b : Int32) : upd (upd f q a) q b = upd f q b := by
  funext j; simp only [upd]; split <;> rfl
theorem upd_id (f : Nat → Int32) (q : Nat) : upd f q (f q) = f := by
  funext j; simp only [upd]; split
  · rename_i h; rw [h]
  · rfl
theorem exS_agr {t u : St} {k q d : Nat} {x : Int32} (hk : k < 22) (h : agrC d (exS t k q x) u) (v : Int32) : agrC d (exS t k q v) (exS u k q v) := by
  refine ⟨fun j hj => h.1 j hj, fun j h1 h2 h3 => ?_⟩
  by_cases hjk : j = k
  · subst hjk
    show va_up u.2 j (upd (u.2 j) q v) j = va_up t.2 j (upd (t.2 j) q v) j
    rw [va_up_self, va_up_self, h.2 j h1 h2 h3]
    show upd (va_up t.2 j (upd (t.2 j) q x) j) q v = _
    rw [va_up_self, upd_upd]
  · show va_up u.2 k (upd (u.2 k) q v) j = va_up t.2 k (upd (t.2 k) q v) j
    rw [va_up_ne _ _ hjk, va_up_ne _ _ hjk, h.2 j h1 h2 h3]
    exact va_up_ne _ _ hjk
theorem exS_id (t : St) (k q : Nat) : exS t k q (t.2 k q) = t := by
  unfold exS
  rw [upd_id, va_upid]
def bitsF (f : Nat → Int32) : Nat → Int32
  | 0 => 0
  | k + 1 => if f k = 0 then bitsF f k else bitsF f k ||| (1 <<< (nI k &&& 31))
def rnF (t : St) (P R : Nat) (kn x a i n b : Int32) : Int32 × Int32 := if kn = 0 then (-1, 0) else rsF t P R x a i n (bI (¬ b = 0 ∧ 0 ≤ n ∧ n ≤ 30))
def sleft (h : HL) (ld : Nat → Int32) (q : Nat) (set : Int32) : Nat → Nat → Int32 → Int32
  | 0, _, x => x
  | n + 1, p, x => if (set >>> (nI p &&& 31)) &&& 1 = 0 then sleft h ld q set n (p + 1) (x - toll h q p (ld p)) else sleft h ld q set n (p + 1) x
def us (x : Int32) (k : Int32) : Int32 := (x.toUInt32 >>> (k.toUInt32 &&& Int32.toUInt32 31)).toInt32
def bcF (x : Int32) : Int32 :=
  let a := x - (us x 1 &&& 1431655765)
  let b := (a &&& 858993459) + (us a 2 &&& 858993459)
  let c := (b + us b 4) &&& 252645135
  let d := c + us c 8
  let e := d + us d 16
  e &&& 63
def ntA (p : Int32 × Int32) : Int32 × Int32 := if p.1 ≤ 65536 then p else (us p.1 16, p.2 + 16)
def ntB (p : Int32 × Int32) : Int32 × Int32 := if p.1 ≤ 256 then p else (us p.1 8, p.2 + 8)
def ntC (p : Int32 × Int32) : Int32 × Int32 := if p.1 ≤ 16 then p else (us p.1 4, p.2 + 4)
def ntD (p : Int32 × Int32) : Int32 × Int32 := if p.1 ≤ 4 then p else (us p.1 2, p.2 + 2)
def ntF (x : Int32) : Int32 :=
  let i := (x ^^^ (-1)) &&& (x - 1)
  if 0 < i then (ntD (ntC (ntB (ntA (i, 1))))).2 + us (ntD (ntC (ntB (ntA (i, 1))))).1 1 else i &&& 32
