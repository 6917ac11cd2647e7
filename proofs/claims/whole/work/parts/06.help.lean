/-! helpers: booleans, ranges, states -/
def bI (P : Prop) [Decidable P] : Int32 := if P then 1 else 0
theorem bI_t {P : Prop} [Decidable P] (h : P) : 1 = bI P := by simp [bI, h]
theorem bI_f {P : Prop} [Decidable P] (h : ¬ P) : 0 = bI P := by simp [bI, h]
theorem bI_z {P : Prop} [Decidable P] : bI P = 0 ↔ ¬ P := by
  by_cases h : P <;> simp [bI, h]
theorem bI_nz {P : Prop} [Decidable P] (h : ¬ bI P = 0) : P := by
  by_cases h2 : P
  · exact h2
  · exact absurd (bI_z.mpr h2) h
theorem bI_c {P P' : Prop} [Decidable P] [Decidable P'] (h : P ↔ P') : bI P = bI P' := by
  by_cases h2 : P
  · rw [← bI_t h2, ← bI_t (h.mp h2)]
  · rw [← bI_f h2, ← bI_f (fun q => h2 (h.mpr q))]
theorem bI_nar (P : Prop) [Decidable P] : narrow .boolean (.int (bI P)) = .int (bI P) := by
  by_cases h2 : P
  · rw [← bI_t h2]; rfl
  · rw [← bI_f h2]; rfl
abbrev inN (x : Int32) (n : Nat) : Prop := 0 ≤ x ∧ x < nI n
theorem inN_ex {x : Int32} {n : Nat} (h : inN x n) (hn : n < 2 ^ 31) : ∃ j, j < n ∧ x = nI j := by
  obtain ⟨j, hj, rfl⟩ := nI_of (x := x) (Int32.not_lt.mpr h.1)
  exact ⟨j, (nI_ltI hj hn).mp h.2, rfl⟩
theorem inN_of {j n : Nat} (h : j < n) (hn : n < 2 ^ 31) : inN (nI j) n := ⟨nI_pos' (by omega), nI_lt h hn⟩
theorem inN_nI {j n : Nat} (hj : j < 2 ^ 31) (hn : n < 2 ^ 31) : inN (nI j) n ↔ j < n := ⟨fun h => (nI_ltI hj hn).mp h.2, fun h => inN_of h hn⟩
theorem le_pred {x : Int32} {n : Nat} (hn : n < 2 ^ 30) : x ≤ nI n - 1 ↔ x < nI n := by
  have h1 : (nI n - 1 : Int32).toInt = (n : Int) - 1 := pk_sub_toInt (a := n) (b := 1) hn (by decide)
  rw [Int32.le_iff_toInt_le, Int32.lt_iff_toInt_lt, h1, nI_toInt (by omega)]
  omega
theorem va_upup {α : Type} (f : Nat → α) (k : Nat) (a b : α) : va_up (va_up f k a) k b = va_up f k b := by
  funext j; simp only [va_up]; split <;> rfl
theorem va_upid {α : Type} (f : Nat → α) (k : Nat) : va_up f k (f k) = f := by
  funext j; simp only [va_up]; split
  · rename_i h; rw [h]
  · rfl
theorem va_upcomm {α : Type} (f : Nat → α) {k j : Nat} (h : k ≠ j) (a b : α) : va_up (va_up f k a) j b = va_up (va_up f j b) k a := by
  funext i; simp only [va_up]
  by_cases h1 : i = k <;> by_cases h2 : i = j <;> simp_all
section H6
variable {σ : Type} {wf : σ → va_W} {tys : List (ClassId × FieldType)} {D : va_G} {A : Nat → Prop} {st u : σ} {H H0 : Heap} {s : State} {locs : List Loc}
theorem hx_congr (h : HX wf tys D A H0 s st H locs) (e : st = u) : HX wf tys D A H0 s u H locs := e ▸ h
end H6
/-! the hill and a climb on it -/
abbrev HL : Type := Nat × (Nat → Int32) × (Nat → Int32) × (Nat → Int32) × (Nat → Int32)
abbrev Cl : Type := (Nat → Int32) × (Nat → Int32) × (Nat → Int32) × Int32
def hX (P : Nat) (t : St) : HL := (P, t.2 2, t.2 4, t.2 5, t.2 6)
def hM (P : Nat) (t : St) : HL := (P, t.2 4, t.2 6, t.2 7, t.2 8)
def cv (t : St) (d : Nat) : Cl := (t.2 (23 + 4 * d), t.2 (24 + 4 * d), t.2 (25 + 4 * d), t.1 (13 + d))
def cm (t : St) : Cl := (t.2 11, t.2 12, t.2 13, t.1 7)
def mx0 (x : Int32) : Int32 := if 0 < x then x else 0
def mn9 (x : Int32) : Int32 := if x < 9 then x else 9
def toll (h : HL) (q k : Nat) (x : Int32) : Int32 := mx0 (if h.2.2.1 q = 1 then h.2.1 k - x - h.2.2.2.2 q - 1 else h.2.1 k - x - h.2.2.2.2 q)
def marks (h : HL) (q : Nat) : Int32 := if h.2.2.1 q = 2 then 2 else 1
def hgt (h : HL) (q : Nat) (sc : Nat → Int32) : Nat → Nat → Int32 → Nat
  | 0, p, _ => p
  | n + 1, p, l => if toll h q p (sc p) ≤ l then hgt h q sc n (p + 1) (l - toll h q p (sc p)) else p
def slideF (sc : Nat → Int32) (n : Nat) (m : Int32) : Nat → Int32 := fun p => if p < n then mn9 (sc p + m) else sc p
def rainF (sc : Nat → Int32) (n : Nat) : Nat → Int32 := fun p => if p < n then mx0 (sc p - 1) else sc p
def left0 (h : HL) (q : Nat) (c : Cl) : Int32 := mx0 (h.2.2.2.1 q - c.2.1 q)
def high (h : HL) (q : Nat) (c : Cl) : Nat := hgt h q c.1 h.1 0 (left0 h q c)
def att (h : HL) (q : Nat) (c : Cl) : Cl :=
  (if high h q c = h.1 then c.1 else slideF c.1 (high h q c) (marks h q), upd c.2.1 q (c.2.1 q + 1), upd c.2.2.1 q (nI (high h q c)), if high h q c = h.1 then c.2.2.2 ||| (1 <<< (nI q &&& 31)) else c.2.2.2)
def rain (P : Nat) (c : Cl) : Cl := (rainF c.1 P, c.2)
abbrev isup (up : Int32) (q : Nat) : Prop := (up >>> (nI q &&& 31)) &&& 1 = 1
def goOn (h : HL) (v : Nat) (c : Cl) : Cl := if v = 5 then rain h.1 c else if isup c.2.2.2 v then c else att h v c
def beg (t : St) : Cl := (t.2 3, fun _ => 0, fun _ => -9, 0)
def agrC (d : Nat) (t u : St) : Prop := (∀ k, k ≠ 13 + d → u.1 k = t.1 k) ∧ (∀ k, k ≠ 23 + 4 * d → k ≠ 24 + 4 * d → k ≠ 25 + 4 * d → u.2 k = t.2 k)
theorem agrC.rf (d : Nat) (t : St) : agrC d t t := ⟨fun _ _ => rfl, fun _ _ _ _ => rfl⟩
theorem agrC.tr {d : Nat} {t u w : St} (h1 : agrC d t u) (h2 : agrC d u w) : agrC d t w := ⟨fun k h => (h2.1 k h).trans (h1.1 k h), fun k a b c => (h2.2 k a b c).trans (h1.2 k a b c)⟩
theorem agrC.eh {d P : Nat} {t u : St} (h : agrC d t u) : hX P u = hX P t := by
  simp only [hX, h.2 2 (by omega) (by omega) (by omega), h.2 4 (by omega) (by omega) (by omega), h.2 5 (by omega) (by omega) (by omega), h.2 6 (by omega) (by omega) (by omega)]
theorem agrC.eb {d : Nat} {t u : St} (h : agrC d t u) : beg u = beg t := by
  simp only [beg, h.2 3 (by omega) (by omega) (by omega)]
section H7
variable {σ : Type} {wf : σ → va_W} {tys : List (ClassId × FieldType)} {D : va_G} {A : Nat → Prop} {st u : σ} {H H0 : Heap} {s : State} {locs : List Loc}
variable {p : Program} {l : Launch} {e : Env} {R : Room} {m : MethodId} {args : Array Value} {below : List Frame} {meth : Method} {c : Code} {cells slots : Nat} {Q : State → Prop}
variable {cc : ByteArray} {nL pc : Nat} {ls : Array Slot} {rest : List Value} {own : String}
theorem arrV_congr (cI : ClassId) (n : Nat) {f g : Nat → Int32} (h : ∀ j, j < n → f j = g j) : vp_cell cI (n, .inl f) = vp_cell cI (n, .inl g) := by
  rw [vp_cell_i, vp_cell_i]
  unfold arrV
  congr 1
  exact congrArg Array.ofFn (funext fun j => congrArg Value.int (h j.val j.isLt))
theorem va_P_setc {cl : List vw_C} {ws : va_W} {q0 a n : Nat} {cA : ClassId} {f g : Nat → Int32} (h : va_P D cl (ws.set q0 (a, .inl (cA, n, .inl f))) H) (hl : q0 < ws.length) (hfg : ∀ j, j < n → f j = g j) : va_P D cl (ws.set q0 (a, .inl (cA, n, .inl g))) H := by
  intro k q hk
  by_cases hkq : k = q0
  · subst hkq
    rw [List.getElem?_set_self hl] at hk
    cases hk
    have h1 := h k _ (List.getElem?_set_self hl)
    show H[a]? = some (vp_cell cA (n, .inl g))
    rw [← arrV_congr cA n hfg]
    exact h1
  · rw [List.getElem?_set_ne (Ne.symm hkq)] at hk
    exact h k q (by rw [List.getElem?_set_ne (Ne.symm hkq)]; exact hk)
theorem va_D_setc {ws : va_W} {q0 a : Nat} {e1 e2 : va_E} (h : va_D A (ws.set q0 (a, e1))) (hl : q0 < ws.length) : va_D A (ws.set q0 (a, e2)) := by
  have h2 := h.set (p := q0) (a := a) (e0 := e1) (e := e2) (List.getElem?_set_self hl)
  rw [List.set_set] at h2
  exact h2
theorem m_J7_fill (l : Launch) (D : va_G) (cA : ClassId) (a n : Nat) (f : Nat → Int32) (v : Int32) (hn : n < 2 ^ 31) : CT (σ := Nat → Int32) l yJ7_fill_53178 cJ7_fill_53178 4 none (rmk 0 0) (fun g => [(a, .inl (cA, n, .inl g))]) [(cA, .int)] D [.ref a, .int v] f (va_Qv (fun u => ∀ j, j < n → u j = v)) := by
  refine CT.of (own := RJ7) (by decide) rfl (Nat.le_of_ble_eq_true rfl) ?_
  intro p e s m args below meth c A Q hC hr hlk hW hQ ls hl
  obtain ⟨hx, hb, hml, hown, hts⟩ := id hC
  have hl : lv_has ls 4 [(0, .ref a), (1, .int v)] := hl
  refine lv_iconst (v := 0) hx hb dJ7_fill_53178_0 (by decide) ?_
  refine lv_istore_n (lv' := [(2, .int 0), (0, .ref a), (1, .int v)]) hx hb dJ7_fill_53178_1 rfl hl (by decide) rfl (fun ls hl => ?_)
  refine lv_aload_n hx hb dJ7_fill_53178_2 rfl (lv_at hl 1 rfl) ?_
  refine r_alen (q0 := 0) (t0 := 0) (v := nI n) hC hW rfl rfl rfl dJ7_fill_53178_3 ?_
  refine lv_istore_n (lv' := [(3, .int (nI n)), (2, .int 0), (0, .ref a), (1, .int v)]) hx hb dJ7_fill_53178_4 rfl hl (by decide) rfl (fun ls hl => ?_)
  have key : ∀ (z k : Nat) (g : Nat → Int32), k ≤ n → (∀ j, j < k → g j = v) → n - k < z → ∀ (H : Heap) (locs : List Loc), HX (fun g : Nat → Int32 => [(a, .inl (cA, n, .inl g))]) [(cA, .int)] D A s.heap s g H locs → ∀ ls : Array Slot, lv_has ls 4 [(2, .int (nI k)), (3, .int (nI n)), (0, .ref a), (1, .int v)] → W p l e (rmk 0 0) s m args below meth c H locs 0 0 Q (F0 m 5 ls []) := by
    intro z
    induction z with
    | zero => intro k g hk hg hm; exact absurd hm (Nat.not_lt_zero _)
    | succ z ih =>
      intro k g hk hg hm H locs hW ls hl
      refine lv_iload_n hx hb dJ7_fill_53178_5 rfl (lv_at hl 0 rfl) ?_
      refine lv_iload_n hx hb dJ7_fill_53178_6 rfl (lv_at hl 1 rfl) ?_
      refine lv_icmp_ge (tgt := 20) hx hb dJ7_fill_53178_7 (by decide) (fun h => ?_) (fun h => ?_)
      · have h := (nI_leI (by omega) (by omega)).mp h
        exact r_vret hC hr hlk hW hQ (fun j hj => hg j (by omega)) dJ7_fill_53178_20
      · have h : ¬ n ≤ k := fun h2 => h ((nI_leI (by omega) (by omega)).mpr h2)
        refine lv_aload_n hx hb dJ7_fill_53178_10 rfl (lv_at hl 2 rfl) ?_
        refine lv_iload_n hx hb dJ7_fill_53178_11 rfl (lv_at hl 0 rfl) ?_
        refine lv_iload_n hx hb dJ7_fill_53178_12 rfl (lv_at hl 3 rfl) ?_
        refine r_istN (q0 := 0) (t0 := 0) (j := k) (st' := upd g k v) hC hW rfl rfl rfl (by omega) hn rfl dJ7_fill_53178_13 (fun H locs hW => ?_)
        refine lv_iinc (v := nI (k + 1)) (lv' := [(2, .int (nI (k + 1))), (3, .int (nI n)), (0, .ref a), (1, .int v)]) hx hb dJ7_fill_53178_14 hl (k := 0) rfl (nI_1 _) (by decide) rfl (fun ls hl => ?_)
        refine lv_goto (tgt := 5) hx hb dJ7_fill_53178_17 (by decide) ?_
        refine ih (k + 1) (upd g k v) (by omega) (fun j hj => ?_) (by omega) _ _ hW ls hl
        by_cases hjk : j = k
        · rw [hjk]; exact pk_us
        · rw [pk_un hjk]; exact hg j (by omega)
  exact key _ 0 f (by omega) (fun j hj => absurd hj (by omega)) (Nat.lt_succ_self _) _ _ hW ls (lv_sub hl [1, 0, 2, 3] rfl)
theorem r_fill {q0 t0 n a index : Nat} {cA : ClassId} {f : Nat → Int32} {v : Int32} {st' : σ} (hC : CallFix p m c cc nL s args lw_tg own) (hW : HX wf tys D A H0 s st H locs) (he : (wf st)[q0]? = some (a, .inl (cA, n, .inl f))) (ht : tys[t0]? = some (cA, .int)) (hset : (wf st).set q0 (a, .inl (cA, n, .inl (fun _ => v))) = wf st') (hn : n < 2 ^ 31) (hlink : Cond.methodLink own index yJ7_fill_53178 ∈ lw_tg) (hsz : ls.size = nL) (hcat : (rest.map fun v => v.category).sum ≤ 8) (hR : 0 + 1 ≤ R.frames ∧ 8 + (4 + 11) + 0 ≤ R.locals) (hdg : decode cc pc = .ok (.invokestatic index, 3)) (hf : cells + 0 ≤ R.cells ∧ slots + 0 ≤ R.slots)
    (kk : ∀ (H1 : Heap) (locs1 : List Loc), HX wf tys D A H0 s st' H1 locs1 → W p l e R s m args below meth c H1 locs1 cells slots Q (F0 m (pc + 3) ls rest)) : W p l e R s m args below meth c H locs cells slots Q (F0 m pc ls (.int v :: .ref a :: rest)) := by
  have hl0 := (List.getElem?_eq_some_iff.mp he).1
  have hW1 : HX (fun g : Nat → Int32 => [(a, .inl (cA, n, .inl g))]) [(cA, .int)] D A H0 s f H locs := by
    refine ⟨⟨hW.1.1, fun k q h => ?_⟩, fun k q h => ?_, ⟨fun i j x y h1 h2 _ => ?_, fun k q h => ?_⟩, hW.2.2.2.1, hW.2.2.2.2⟩
    · cases k with
      | zero => cases h; exact hW.1.2 t0 _ ht
      | succ k => cases h
    · cases k with
      | zero => cases h; exact hW.2.1 q0 _ he
      | succ k => cases h
    · cases i with
      | zero => cases j with
        | zero => rfl
        | succ j => cases h2
      | succ i => cases h1
    · cases k with
      | zero => cases h; exact hW.2.2.1.2 q0 _ he
      | succ k => cases h
  refine va_callv (va_runS (ws := uw yJ7_fill_53178 cJ7_fill_53178 4 none) (As := [.ref a, .int v]) (rest := rest) hC (m_J7_fill l D cA a n f v hn H.size)
    ⟨callB_of 2 hC.2.2.2.2 (uw_good k_yJ7_fill_53178.2.2.1) rfl rfl rfl (hC.2.2.2.2 _ k_yJ7_fill_53178.2.1) (hC.2.2.2.2 _ hlink) k_yJ7_fill_53178.2.2.2 hR, hC.2.2.2.2 _ k_yJ7_fill_53178.1⟩
    ⟨bx_blind, fun U hU hw => ⟨rfl, bx_of hW1 U hU hw⟩⟩ rfl rfl hsz rfl (lv_room hcat) hdg hf) hW.2.2.2.1 (fun q _ h => hx_free hW1 q h) (hx_free hW1) (fun u t H1 locs1 ht1 hvm hp hB hz hk hS => ?_)
  refine kk H1 locs1 ⟨hW.1, ?_, ?_, hS, hW.2.2.2.2⟩
  · rw [← hset]
    intro k q hkq
    by_cases hk0 : k = q0
    · subst hk0
      rw [List.getElem?_set_self hl0] at hkq
      cases hkq
      have h1 := hB.1 0 (a, .inl (cA, n, .inl u)) rfl
      rw [ht1] at h1
      show H1[a]? = some (vp_cell cA (n, .inl (fun _ => v)))
      rw [← arrV_congr cA n hp]
      exact h1
    · rw [List.getElem?_set_ne (Ne.symm hk0)] at hkq
      have h1 := hW.2.1 k q hkq
      refine h1.kept (hk q.1 h1.lt ?_)
      intro hA
      rcases hA with ⟨j, e1, hj⟩ | hA
      · cases j with
        | zero => cases hj; exact hk0 (hW.2.2.1.1 k q0 q _ hkq he rfl)
        | succ j => cases hj
      · exact absurd h1.lt (Nat.not_lt.mpr hA)
  · rw [← hset]
    exact hW.2.2.1.set he
theorem r_copyX {q0 q1 t0 a a0 n0 n1 index : Nat} {cA : ClassId} {f g g' : Nat → Int32} {st' : σ} {sp dp n : Int32} (hC : CallFix p m c cc nL s args lw_tg own) (hW : HX wf tys D A H0 s st H locs) (hsz : ls.size = nL) (hlink : Cond.methodLink own index arraycopyName ∈ lw_tg)
    (ha0 : (wf st)[q0]? = some (a0, .inl (cA, n0, .inl f))) (ha1 : (wf st)[q1]? = some (a, .inl (cA, n1, .inl g))) (ht : tys[t0]? = some (cA, .int)) (h1 : ¬ sp < 0) (h2 : ¬ dp < 0) (h3 : ¬ n < 0) (h4 : sp.toNatClampNeg + n.toNatClampNeg ≤ n0) (h5 : dp.toNatClampNeg + n.toNatClampNeg ≤ n1)
    (hg : ∀ j, j < n1 → va_cpy f g sp.toNatClampNeg dp.toNatClampNeg n.toNatClampNeg j = g' j) (hset : (wf st).set q1 (a, .inl (cA, n1, .inl g')) = wf st') (hR : 1 ≤ R.frames ∧ (rest.map fun v => v.category).sum + (nativeFrameWords "java/lang/System" "arraycopy" 5 + 11) ≤ R.locals) (hdg : decode cc pc = .ok (.invokestatic index, 3))
    (kk : ∀ (H1 : Heap) (locs1 : List Loc), HX wf tys D A H0 s st' H1 locs1 → W p l e R s m args below meth c H1 locs1 cells slots Q (F0 m (pc + 3) ls rest)) : W p l e R s m args below meth c H locs cells slots Q (F0 m pc ls (.int n :: .int dp :: .ref a :: .int sp :: .ref a0 :: rest)) := by
  have hl0 := (List.getElem?_eq_some_iff.mp ha1).1
  refine va_copyi hC.1 hC.2.1 (hC.2.2.1.trans hsz.symm) hC.2.2.2.1 (hC.2.2.2.2 _ hlink) (hC.2.2.2.2 _ q_na_arraycopy) (hC.2.2.2.2 _ q_st_arraycopy) (hC.2.2.2.2 _ q_in_RJ10) hW.1 hW.2.1 hW.2.2.1 hW.2.2.2.1 q0 q1 t0 t0 ha0 ha1 ht ht rfl h1 h2 h3 h4 h5 (fun i _ => rfl) hR.1 hR.2 hdg ?_
  exact fun H1 locs1 h1 h2 h3 => kk H1 locs1 ⟨hW.1, by rw [← hset]; exact va_P_setc h1 hl0 hg, by rw [← hset]; exact va_D_setc h2 hl0, h3, hW.2.2.2.2⟩
end H7
theorem rainF_s (f : Nat → Int32) (k : Nat) : upd (rainF f k) k (mx0 (rainF f k k - 1)) = rainF f (k + 1) := by
  funext p
  simp only [upd, rainF]
  by_cases h : p = k
  · subst h; simp
  · have h2 : p < k + 1 ↔ p < k := by omega
    simp [h, h2]
theorem slideF_s (f : Nat → Int32) (k : Nat) (g : Int32) : upd (slideF f k g) k (mn9 (slideF f k g k + g)) = slideF f (k + 1) g := by
  funext p
  simp only [upd, slideF]
  by_cases h : p = k
  · subst h; simp
  · have h2 : p < k + 1 ↔ p < k := by omega
    simp [h, h2]
