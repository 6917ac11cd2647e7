/-! what each call answers and what lasts behind it, by the state t (the numbering of the system's own world) -/
def LA (a u : St) : Prop := (∀ k, k < 13 → u.1 k = a.1 k) ∧ (∀ k, k < 22 → k ≠ 12 → k ≠ 13 → u.2 k = a.2 k)
theorem LA.rf (t : St) : LA t t := ⟨fun _ _ => rfl, fun _ _ _ _ => rfl⟩
theorem LA.tr {t u w : St} (h1 : LA t u) (h2 : LA u w) : LA t w := ⟨fun k h => (h2.1 k h).trans (h1.1 k h), fun k a b c => (h2.2 k a b c).trans (h1.2 k a b c)⟩
theorem agrS.la {t u : St} (h : agrS t u) : LA t u := ⟨h.1, fun k h1 _ h3 => h.2 k h1 h3⟩
theorem LA.eh {P : Nat} {t u : St} (h : LA t u) : hX P u = hX P t := by
  simp only [hX, h.2 2 (by omega) (by omega) (by omega), h.2 4 (by omega) (by omega) (by omega), h.2 5 (by omega) (by omega) (by omega), h.2 6 (by omega) (by omega) (by omega)]
theorem LA.eb {t u : St} (h : LA t u) : beg u = beg t := by
  simp only [beg, h.2 3 (by omega) (by omega) (by omega)]
def BW (t : St) (P R C : Nat) : Prop := t.1 2 = nI P ∧ P ≤ 8 ∧ t.1 3 = nI R ∧ R ≤ 5 ∧ t.1 4 = nI C ∧ C ≤ 8 ∧ lenOk t
def flt (t : St) (v : Int32) : St := (va_up t.1 1 v, t.2)
def F_ofPace (t : St) (P : Nat) (p w : Int32) : Int32 × St := if inN p P then if 0 ≤ w ∧ w ≤ 1 then if w = 0 then (t.2 2 p.toNatClampNeg, t) else (t.2 3 p.toNatClampNeg, t) else (-2, t) else (-1, t)
def F_ofRider (t : St) (R : Nat) (r w : Int32) : Int32 × St := if inN r R then if 0 ≤ w ∧ w ≤ 2 then if w = 0 then (t.2 4 r.toNatClampNeg, t) else if w = 1 then (t.2 5 r.toNatClampNeg, t) else (t.2 6 r.toNatClampNeg, t) else (-2, t) else (-1, t)
def setS (t : St) (k q : Nat) (v : Int32) : St := (t.1, va_up t.2 k (upd (t.2 k) q v))
def F_scratch (t : St) (P : Nat) (p v : Int32) : Int32 × St := if inN p P then if 0 ≤ v ∧ v ≤ 9 then (t.2 3 p.toNatClampNeg, setS t 3 p.toNatClampNeg v) else (-2, t) else (-1, t)
def F_speed (t : St) (R : Nat) (r v : Int32) : Int32 × St := if inN r R then if 0 ≤ v ∧ v ≤ 99 then (t.2 5 r.toNatClampNeg, setS t 5 r.toNatClampNeg v) else (-2, t) else (-1, t)
def F_shoe (t : St) (R : Nat) (r v : Int32) : Int32 × St := if inN r R then if 0 ≤ v ∧ v ≤ 9 then (t.2 6 r.toNatClampNeg, setS t 6 r.toNatClampNeg v) else (-2, t) else (-1, t)
def F_takes (t : St) (P R : Nat) (r p s : Int32) : Int32 × St := if inN r R then if inN p P then if 0 ≤ s ∧ s ≤ 9 then (toll (hX P t) r.toNatClampNeg p.toNatClampNeg s, t) else (-2, t) else (-1, t) else (-1, t)
def stpF (t : St) (x i : Int32) : Nat → Nat := fun z => (t.2 (15 + 2 * x.toNatClampNeg) (i.toNatClampNeg + z)).toNatClampNeg
abbrev dayP (n w : Int32) : Prop := (0 ≤ n ∧ n ≤ 30) ∧ ((0 ≤ w ∧ w ≤ 2) ∨ (10 ≤ w ∧ w ≤ 17) ∨ (20 ≤ w ∧ w ≤ 24))
def dayV (t : St) (P R : Nat) (stp : Nat → Nat) (n : Nat) (w : Int32) : Int32 :=
  if w = 1 then (fw (hX P t) stp n 0 (beg t)).1 else if ¬ (fw (hX P t) stp n 0 (beg t)).1 = -9 then (-100) - (fw (hX P t) stp n 0 (beg t)).1 else if w = 0 then (fw (hX P t) stp n 0 (beg t)).2.2.2.2 else if w = 2 then fu (hX P t) stp n 0 (beg t) else if w < 20 then (if inN (w - 10) P then (fw (hX P t) stp n 0 (beg t)).2.1 (w - 10).toNatClampNeg else -9) else (if inN (w - 20) R then (fw (hX P t) stp n 0 (beg t)).2.2.2.1 (w - 20).toNatClampNeg else -9)
def F_days (t : St) (P R : Nat) (x a i n w : Int32) : Int32 × St :=
  if ¬ (rsF t P R x a i n (bI (dayP n w))).1 = 0 then ((rsF t P R x a i n (bI (dayP n w))).1, flt t (rsF t P R x a i n (bI (dayP n w))).2) else (dayV t P R (stpF t x i) n.toNatClampNeg w, flt t 0)
def fewL (h : HL) (R q : Nat) (c : Cl) : Nat → Nat → Option (Nat × List Nat)
  | 0, _ => none
  | n + 1, L => match frow h R q L c with
    | some l => some (L, l)
    | none => fewL h R q c n (L + 1)
def fewV (o : Option (Nat × List Nat)) (k : Int32) : Int32 := match o with
  | none => -9
  | some (L, l) => if k = -1 then nI L else if k < nI L then nI (l.getD k.toNatClampNeg 0) else -9
def F_fewest (t : St) (P R : Nat) (r k : Int32) : Int32 × St := if inN r R then if -1 ≤ k then (fewV (fewL (hX P t) R r.toNatClampNeg (beg t) 6 1) k, t) else (-1, t) else (-1, t)
def sandD (h : HL) (ld : Nat → Int32) (q : Nat) (sp : Int32) : Nat → Nat → Nat
  | 0, b => b
  | s + 1, b => sandD h ld q sp s (if bcF (nI s) ≤ bcF (nI b) ∧ 0 ≤ sleft h ld q (nI s) h.1 0 sp then s else b)
def F_sand (t : St) (P R : Nat) (r : Int32) : Int32 × St := if inN r R then (nI (sandD (hX P t) (t.2 3) r.toNatClampNeg (t.2 5 r.toNatClampNeg) (2 ^ P - 1) (2 ^ P - 1)), t) else (-1, t)
def F_game (t : St) (P R : Nat) (r o n : Int32) : Int32 × St := if inN r R then if inN o R then if r = o then (-2, t) else if 0 ≤ n ∧ n ≤ 10 then if play (hX P t) r.toNatClampNeg o.toNatClampNeg n.toNatClampNeg true (beg t) = -1 then (2, t) else (play (hX P t) r.toNatClampNeg o.toNatClampNeg n.toNatClampNeg true (beg t), t) else (-2, t) else (-1, t) else (-1, t)
def F_worth (t : St) (P R : Nat) (r : Int32) : Int32 × St := if inN r R then (100 + hoF (hX P t) R r.toNatClampNeg true R 0 (beg t) 0 - hoF (hX P t) R r.toNatClampNeg false R 0 (beg t) 0, t) else (-1, t)
def F_reading (t : St) (R C : Nat) (r y : Int32) : Int32 × St := if inN r R then if 0 ≤ y ∧ y ≤ 8 then if 8 ≤ t.1 4 then (-4, t) else (nI C, (va_up t.1 4 (nI (C + 1)), va_up (va_up t.2 8 (upd (t.2 8) C r)) 9 (upd (t.2 9) C y))) else (-2, t) else (-1, t)
def F_back (t : St) (k : Int32) : Int32 × St := if 0 ≤ k ∧ k ≤ t.1 4 then (t.1 4 - k, (va_up t.1 4 (t.1 4 - k), t.2)) else (-2, t)
def F_set (t : St) (P R C cell mo : Nat) (ok : Prop) [Decidable ok] (q : Nat) (x a i n : Int32) : Int32 × St :=
  if ¬ (rnF t P R (bI ok) x a i n 1).1 = 0 then ((rnF t P R (bI ok) x a i n 1).1, flt t (rnF t P R (bI ok) x a i n 1).2) else (bitsF (fun v => bI (seenP P R C (exS t cell q (nI v)) (stpF t x i) n.toNatClampNeg)) (mo + 1), flt t 0)
def spdD (f : Nat → Int32) : Nat → Int32 → Int32 → Int32 × Int32
  | 0, c, l => (c, l)
  | v + 1, c, l => if f v = 0 then spdD f v c l else spdD f v (c + 1) (nI v)
def F_speeds (t : St) (P R C : Nat) (r x a i n w : Int32) : Int32 × St :=
  if ¬ (rnF t P R (bI (inN r R)) x a i n (bI (0 ≤ w ∧ w ≤ 1))).1 = 0 then ((rnF t P R (bI (inN r R)) x a i n (bI (0 ≤ w ∧ w ≤ 1))).1, flt t (rnF t P R (bI (inN r R)) x a i n (bI (0 ≤ w ∧ w ≤ 1))).2)
  else if w = 0 then ((spdD (fun v => bI (seenP P R C (exS t 5 r.toNatClampNeg (nI v)) (stpF t x i) n.toNatClampNeg)) 100 0 (-9)).1, flt t 0) else ((spdD (fun v => bI (seenP P R C (exS t 5 r.toNatClampNeg (nI v)) (stpF t x i) n.toNatClampNeg)) 100 0 (-9)).2, flt t 0)
def LOSTv : Int64 := -9223372036854775808
abbrev odP (n w : Int32) : Prop := (0 ≤ n ∧ n ≤ 10) ∧ (0 ≤ w ∧ w ≤ 1)
def oddS (n : Nat) (z : Nat) : Int32 := if ntF (nI z) < nI n then ntF (nI z) else nI n
def F_odds (t : St) (P R : Nat) (r x a i n w : Int32) : Int64 × St :=
  if inN r R then if ¬ (rsF t P R x a i n (bI (odP n w))).1 = 0 then (LOSTv, flt t (rsF t P R x a i n (bI (odP n w))).2)
    else if w = 0 then ((nI (wup (hX P t) (stpF t x i) r.toNatClampNeg n.toNatClampNeg 0 (beg t)) >>> (oddS n.toNatClampNeg (wup (hX P t) (stpF t x i) r.toNatClampNeg n.toNatClampNeg 0 (beg t)) &&& 31)).toInt64, flt t 0)
    else (((1 <<< (n &&& 31)) >>> (oddS n.toNatClampNeg (wup (hX P t) (stpF t x i) r.toNatClampNeg n.toNatClampNeg 0 (beg t)) &&& 31)).toInt64, flt t 0)
  else (LOSTv, flt t 0)
def newS (t : St) (k : Nat) (a n : Int32) : St := (va_up (va_up t.1 (5 + 2 * k) a) (6 + 2 * k) n, va_up t.2 (15 + 2 * k) (fun _ => 0))
def F_sheet (t : St) (x a n : Int32) : Int32 × St := if 0 ≤ x ∧ x ≤ 3 then if 0 ≤ a ∧ a ≤ 2 then if n ≤ 60 then if n < 0 then ((-10) - 4, flt t 4) else (1, newS (flt t 0) x.toNatClampNeg a n) else (-2, flt t 0) else (-2, flt t 0) else (-1, flt t 0)
def F_lose (t : St) (x : Int32) : Int32 × St := if 0 ≤ x ∧ x ≤ 3 then if t.1 (5 + 2 * x.toNatClampNeg) = -1 then (0, newS t x.toNatClampNeg (-1) 0) else (1, newS t x.toNatClampNeg (-1) 0) else (-1, t)
def focT (t : St) (k : Nat) (a i n : Int32) : Int32 := focF (t.1 (5 + 2 * k)) (t.1 (6 + 2 * k)) a i n
def F_put (t : St) (x i v : Int32) : Int32 × St := if 0 ≤ x ∧ x ≤ 3 then if focT t x.toNatClampNeg (t.1 (5 + 2 * x.toNatClampNeg)) i 1 = 0 then (1, setS (flt t 0) (15 + 2 * x.toNatClampNeg) i.toNatClampNeg (cutF (t.1 (5 + 2 * x.toNatClampNeg)) v)) else ((-10) - focT t x.toNatClampNeg (t.1 (5 + 2 * x.toNatClampNeg)) i 1, flt t (focT t x.toNatClampNeg (t.1 (5 + 2 * x.toNatClampNeg)) i 1)) else (-1, flt t 0)
def F_cell (t : St) (x i a : Int32) : Int64 × St := if 0 ≤ x ∧ x ≤ 3 then if 0 ≤ a ∧ a ≤ 2 then if focT t x.toNatClampNeg a i 1 = 0 then ((t.2 (15 + 2 * x.toNatClampNeg) i.toNatClampNeg).toInt64, flt t 0) else (LOSTv, flt t (focT t x.toNatClampNeg a i 1)) else (LOSTv, flt t 0) else (LOSTv, flt t 0)
abbrev holdP (t : St) (k : Nat) (i n : Int32) : Prop := 0 ≤ i ∧ i ≤ t.1 (6 + 2 * k) ∧ 0 ≤ n ∧ n ≤ t.1 (6 + 2 * k) - i
def F_copy (t : St) (x i y j n : Int32) : Int32 × St :=
  if 0 ≤ x ∧ x ≤ 3 then if 0 ≤ y ∧ y ≤ 3 then
    if t.1 (5 + 2 * x.toNatClampNeg) = -1 then ((-10) - 1, flt t 1) else if t.1 (5 + 2 * y.toNatClampNeg) = -1 then ((-10) - 1, flt t 1)
    else if t.1 (5 + 2 * x.toNatClampNeg) = t.1 (5 + 2 * y.toNatClampNeg) then
      if holdP t x.toNatClampNeg i n then if holdP t y.toNatClampNeg j n then (n, ((flt t 0).1, va_up t.2 (15 + 2 * y.toNatClampNeg) (va_cpy (t.2 (15 + 2 * x.toNatClampNeg)) (t.2 (15 + 2 * y.toNatClampNeg)) i.toNatClampNeg j.toNatClampNeg n.toNatClampNeg))) else ((-10) - 3, flt t 3) else ((-10) - 3, flt t 3)
    else ((-10) - 2, flt t 2)
  else (-1, flt t 0) else (-1, flt t 0)
def lv1 (t : St) (n : Int32) : St := (va_up t.1 0 (31 * t.1 0 + n), t.2)
def F_tell (t : St) (R : Nat) (r : Int32) : Int32 × St := if inN r R then if t.2 4 r.toNatClampNeg = 2 then (t.2 6 r.toNatClampNeg + 100 + t.2 6 r.toNatClampNeg, lv1 (lv1 (lv1 (lv1 t 3) 2) 1) 1) else if t.2 4 r.toNatClampNeg = 1 then (t.2 6 r.toNatClampNeg + 100, lv1 (lv1 t 2) 1) else (t.2 6 r.toNatClampNeg, lv1 t 1) else (-1, t)
def F_cheer (t : St) (R : Nat) (r : Int32) : Int32 × St := if inN r R then if t.2 4 r.toNatClampNeg = 2 then (80, lv1 t 5) else (r, lv1 t 4) else (-1, t)
def F_as (t : St) (R : Nat) (r k : Int32) : Int32 × St := if inN r R then if 0 ≤ k ∧ k ≤ 2 then if k ≤ t.2 4 r.toNatClampNeg then (1, flt t 0) else ((-10) - 2, flt t 2) else (-2, flt t 0) else (-1, flt t 0)
def F_many (t : St) (w : Int32) : Int32 × St := if 0 ≤ w ∧ w ≤ 2 then if w = 0 then (t.1 3, t) else if w = 1 then (t.1 2, t) else (t.1 4, t) else (-2, t)
def selF (f g : Nat → Int32) (z : Nat) : Nat → Int32 := fun p => if p < z then f p else g p
def bldA (t : St) (a : Nat → Int32) (i P R : Nat) : Nat → Nat → Int32 :=
  va_up (va_up (va_up (va_up (va_up t.2 2 (selF (fun p => a (i + 2 + p) - 48) (t.2 2) P)) 3 (selF (fun _ => 0) (t.2 3) P)) 4 (selF (fun r => kindF (a (i + 2 + P + r * 5 + 1))) (t.2 4) R)) 5 (selF (fun r => 10 * (a (i + 2 + P + r * 5 + 2) - 48) + (a (i + 2 + P + r * 5 + 3) - 48)) (t.2 5) R)) 6 (selF (fun r => a (i + 2 + P + r * 5 + 4) - 48) (t.2 6) R)
def bldS (t : St) (a : Nat → Int32) (i P R : Nat) : St := (va_up (va_up (va_up t.1 2 (nI P)) 3 (nI R)) 4 0, bldA t a i P R)
theorem selF_0 (f g : Nat → Int32) : selF f g 0 = g := by
  funext p; simp [selF]
theorem selF_s (f g : Nat → Int32) (z : Nat) (x : Int32) (hx : x = f z) : upd (selF f g z) z x = selF f g (z + 1) := by
  funext p
  simp only [upd, selF]
  by_cases h : p = z
  · subst h; simp [hx]
  · have h2 : p < z + 1 ↔ p < z := by omega
    simp [h, h2]
def txP (a : Nat → Int32) (i : Nat) : Nat := (a (i + 1) - 48).toNatClampNeg
def txR (a : Nat → Int32) (i n : Nat) : Nat := (n - 2 - txP a i) / 5
def F_hill (t : St) (x a i n : Int32) : Int32 × St :=
  if 0 ≤ x ∧ x ≤ 3 then if 0 ≤ a ∧ a ≤ 2 then
    if focT t x.toNatClampNeg a i n = 0 then
      if ff (t.2 (15 + 2 * x.toNatClampNeg)) i.toNatClampNeg n.toNatClampNeg n.toNatClampNeg 0 0 = -9 then (nI (txR (t.2 (15 + 2 * x.toNatClampNeg)) i.toNatClampNeg n.toNatClampNeg), bldS (flt t 0) (t.2 (15 + 2 * x.toNatClampNeg)) i.toNatClampNeg (txP (t.2 (15 + 2 * x.toNatClampNeg)) i.toNatClampNeg) (txR (t.2 (15 + 2 * x.toNatClampNeg)) i.toNatClampNeg n.toNatClampNeg))
      else ((-100) - ff (t.2 (15 + 2 * x.toNatClampNeg)) i.toNatClampNeg n.toNatClampNeg n.toNatClampNeg 0 0, flt t 0)
    else ((-10) - focT t x.toNatClampNeg a i n, flt t (focT t x.toNatClampNeg a i n))
  else (-2, flt t 0) else (-1, flt t 0)
theorem hold_ex {i n : Int32} {z : Nat} (hz : z ≤ 60) (h : 0 ≤ i ∧ i ≤ nI z ∧ 0 ≤ n ∧ n ≤ nI z - i) : ∃ i0 n0, i = nI i0 ∧ n = nI n0 ∧ i0 + n0 ≤ z := by
  obtain ⟨i0, hi, rfl⟩ := nI_of (x := i) (Int32.not_lt.mpr h.1)
  have h5 := (nI_leI (by omega) (by omega)).mp h.2.1
  rw [pk_sub h5] at h
  obtain ⟨n0, hn, rfl⟩ := nI_of (x := n) (Int32.not_lt.mpr h.2.2.1)
  have h6 := (nI_leI (by omega) (by omega)).mp h.2.2.2
  exact ⟨i0, n0, rfl, rfl, by omega⟩
theorem hold_ex2 {i : Int32} {n0 z : Nat} (hz : z ≤ 60) (hn : n0 ≤ 60) (h : 0 ≤ i ∧ i ≤ nI z ∧ 0 ≤ nI n0 ∧ nI n0 ≤ nI z - i) : ∃ i0, i = nI i0 ∧ i0 + n0 ≤ z := by
  obtain ⟨i0, n1, h1, h2, h3⟩ := hold_ex hz h
  have := (nI_eq (a := n0) (b := n1) (by omega) (by omega)).mp h2
  exact ⟨i0, h1, by omega⟩
theorem foc_ex1 {lane la i : Int32} {z : Nat} (hz : z ≤ 60) (h : focF lane (nI z) la i 1 = 0) : ∃ i0, i = nI i0 ∧ i0 < z := by
  obtain ⟨i0, n0, h1, h2, h3, -, -⟩ := foc_ex hz h
  have := (nI_eq (a := 1) (b := n0) (by omega) (by omega)).mp h2
  exact ⟨i0, h1, by omega⟩
def PPq (a : Nat → Int32) (i q : Nat) : Nat := if q ≤ 1 then 0 else txP a i
theorem PPq_s (a : Nat → Int32) (i p : Nat) : ffP a i p (PPq a i p) = PPq a i (p + 1) := by
  unfold ffP PPq txP
  by_cases h : p = 1
  · rw [if_pos h, if_neg (by omega)]
  · rw [if_neg h]
    by_cases h2 : p ≤ 1
    · rw [if_pos h2, if_pos (by omega)]
    · rw [if_neg h2, if_neg (by omega)]
abbrev txOk (a : Nat → Int32) (i n : Nat) : Prop := 2 + PPq a i n < n ∧ (n - 2 - PPq a i n) % 5 = 0
theorem ff_sp (a : Nat → Int32) (i n : Nat) : ∀ (z p : Nat), p + z = n → ((∀ q, p ≤ q → q < n → goP q (a (i + q)) (PPq a i q)) ∧ ff a i n z p (PPq a i p) = if txOk a i n then -9 else nI n) ∨ ∃ q, p ≤ q ∧ q < n ∧ (∀ j, p ≤ j → j < q → goP j (a (i + j)) (PPq a i j)) ∧ ¬ goP q (a (i + q)) (PPq a i q) ∧ ff a i n z p (PPq a i p) = nI q := by
  intro z
  induction z with
  | zero =>
    intro p hp
    refine Or.inl ⟨fun q h1 h2 => absurd h2 (by omega), ?_⟩
    have : p = n := by omega
    subst this
    rfl
  | succ z ih =>
    intro p hp
    by_cases hg : goP p (a (i + p)) (PPq a i p)
    · have e : ff a i n (z + 1) p (PPq a i p) = ff a i n z (p + 1) (PPq a i (p + 1)) := by
        rw [ff, if_pos hg, PPq_s]
      rw [e]
      rcases ih (p + 1) (by omega) with ⟨h1, h2⟩ | ⟨q, h1, h2, h3, h4, h5⟩
      · refine Or.inl ⟨fun q h3 h4 => ?_, h2⟩
        by_cases hq : q = p
        · rw [hq]; exact hg
        · exact h1 q (by omega) h4
      · refine Or.inr ⟨q, by omega, h2, fun j h6 h7 => ?_, h4, h5⟩
        by_cases hj : j = p
        · rw [hj]; exact hg
        · exact h3 j (by omega) h7
    · refine Or.inr ⟨p, Nat.le_refl p, by omega, fun j h1 h2 => absurd h1 (by omega), hg, ?_⟩
      rw [ff, if_neg hg]
theorem nI_m9 {z : Nat} (hz : z ≤ 60) : ¬ nI z = -9 := by
  intro h
  have h1 := congrArg Int32.toInt h
  rw [nI_toInt (by omega)] at h1
  have h2 : (-9 : Int32).toInt = -9 := by decide
  rw [h2] at h1
  omega
theorem ff_ok {a : Nat → Int32} {i n : Nat} (hn : n ≤ 60) (h : ff a i n n 0 0 = -9) : ∃ P R, a (i + 1) - 48 = nI P ∧ 2 ≤ P ∧ P ≤ 8 ∧ n = 2 + P + 5 * R ∧ 1 ≤ R ∧ R ≤ 5 ∧ txP a i = P ∧ txR a i n = R ∧ (∀ q, q < n → goP q (a (i + q)) (PPq a i q)) := by
  have e0 : PPq a i 0 = 0 := rfl
  rcases ff_sp a i n n 0 (by omega) with ⟨h1, h2⟩ | ⟨q, h1, h2, h3, h4, h5⟩
  · rw [e0, h] at h2
    have hok : txOk a i n := by
      by_cases hok : txOk a i n
      · exact hok
      · rw [if_neg hok] at h2; exact absurd h2.symm (nI_m9 hn)
    have h3 := h1 1 (by omega) (by omega)
    have h4 : 50 ≤ a (i + 1) ∧ a (i + 1) ≤ 56 := by
      unfold goP at h3; rw [if_neg (by omega), if_pos rfl] at h3; exact h3
    obtain ⟨P, hP1, hP2, eP⟩ := code_ex h4.1 h4.2
    have ep : txP a i = P := by unfold txP; rw [eP, nI_clamp (by omega)]
    have eq : PPq a i n = P := by unfold PPq; rw [if_neg (by omega), ep]
    unfold txOk at hok
    rw [eq] at hok
    have h5 : n ≤ 27 + P := by
      rcases Nat.lt_or_ge (27 + P) n with h6 | h6
      · have h7 := h1 (27 + P) (by omega) h6
        have eq2 : PPq a i (27 + P) = P := by unfold PPq; rw [if_neg (by omega), ep]
        unfold goP at h7
        rw [eq2, if_neg (by omega), if_neg (by omega), if_neg (by omega), if_pos (by omega)] at h7
        exact h7.elim
      · exact h6
    refine ⟨P, (n - 2 - P) / 5, eP, hP1, hP2, by omega, by omega, by omega, ep, by unfold txR; rw [ep], fun q hq => h1 q (by omega) hq⟩
  · rw [e0, h] at h5
    exact absurd h5.symm (nI_m9 (by omega))
theorem ntA_t {a b : Int32} (h : a ≤ 65536) : ntA (a, b) = (a, b) := if_pos h
theorem ntA_f {a b : Int32} (h : ¬ a ≤ 65536) : ntA (a, b) = (us a 16, b + 16) := if_neg h
theorem ntB_t {a b : Int32} (h : a ≤ 256) : ntB (a, b) = (a, b) := if_pos h
theorem ntB_f {a b : Int32} (h : ¬ a ≤ 256) : ntB (a, b) = (us a 8, b + 8) := if_neg h
theorem ntC_t {a b : Int32} (h : a ≤ 16) : ntC (a, b) = (a, b) := if_pos h
theorem ntC_f {a b : Int32} (h : ¬ a ≤ 16) : ntC (a, b) = (us a 4, b + 4) := if_neg h
theorem ntD_t {a b : Int32} (h : a ≤ 4) : ntD (a, b) = (a, b) := if_pos h
theorem ntD_f {a b : Int32} (h : ¬ a ≤ 4) : ntD (a, b) = (us a 2, b + 2) := if_neg h
